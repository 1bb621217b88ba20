theorem VAL.so {E : Nat → Nat} {F : Nat → va_E} {a : Nat} {v : VOp} (h : VAL E F (some a) v) : ∃ u, v = some u := by
  cases v with
  | none => exact absurd (show some a = none from h) (by intro e; cases e)
  | some u => exact ⟨u, rfl⟩
theorem VAL.no {E : Nat → Nat} {F : Nat → va_E} {v : VOp} (h : VAL E F none v) : v = none := by
  cases v with
  | none => rfl
  | some u =>
    obtain ⟨b, e, -⟩ := h
    cases e
set_option maxHeartbeats 4000000 in
set_option maxRecDepth 100000 in
theorem p_VO (l : Launch) (hl9 : l.stackTraces = false) (K : Nat → Nat × Nat) (dC : Nat → ClassId) (dI : Nat → Nat → Nat) (cI cV : ClassId) (E lv : Nat → Nat) (L : List Nat) (f : Nat → va_E) (hO : PO cI cV E lv L f) (hN1 : ∀ a, E a ≠ 1) (PL : List NT) (AL : List Nat) (wk wl rt : Nat) (hrt : isF E rt) (rtn : NT) (hrn : NCr PL AL rt rtn) (n : Nat) (HN : 0 < n → NDF l K dC dI cI cV E lv L f PL AL wk wl rt rtn (n - 1)) (HV : 0 < n → VOF l K dC dI cI cV E lv L f PL AL wk wl rt rtn (n - 1)) : VOF l K dC dI cI cV E lv L f PL AL wk wl rt rtn n := by
  intro sz S tp sp g ν hW9 hDq9 op cu m9 cun hop hlo hOD hcn
  refine vx_ofW (cc := b_Walk_valueOf) (maxL := 4) (ret := (some (.object "QueryBench$Value"))) (by decide) rfl ?_
  intro p e s m args below meth c s₁ B hml hex hv
  obtain ⟨rfl, ⟨hsz, hP, hK, hD0⟩, hN, hZ, hC, hV⟩ := hv
  have hx := B.exec
  have hb := B.bytes
  have hr := B.returns
  have hts0 := atoms_spec (ws := k_Walk_valueOf :: gtbl) B.pre
  have hts := fun w h => hts0 w (List.mem_cons_of_mem _ h)
  have hown : s.vm.findClass R_Walk = some m.cls := findClass_of_methodNamed B.named
  have hlocks := B.notSynchronized
  subst hsz
  have hD := hD0.self (sz := s.heap.size)
  generalize hAe : va_A ([(wk, .inr (10, [.ref wl, .int (nI tp), .int (nI sp), .ref rt])), (wl, .inl (cV, 10000, .inr (.inr (.inr (.inr g)))))] ++ va_pl L (pf f ν)) s.heap.size = A at hD hZ hC ⊢
  have hA : ∀ q : Nat, s.heap.size ≤ q → A q := fun q h => by rw [← hAe]; exact Or.inr h
  have hS : va_S A s.heap s.heap [] := va_S.rf
  have hP : va_P (dC, dI) classes ([(wk, .inr (10, [.ref wl, .int (nI tp), .int (nI sp), .ref rt])), (wl, .inl (cV, 10000, .inr (.inr (.inr (.inr g)))))] ++ va_pl L (pf f ν)) s.heap := hP
  have hl := lv_entry ([.ref wk, .ref op, .ref cu]) (n := 4) (Nat.le_of_ble_eq_true rfl)
  rw [lg_entry_eq]
  generalize (lg_sl ([.ref wk, .ref op, .ref cu]) ++ List.replicate (4 - (lg_sl ([.ref wk, .ref op, .ref cu])).length) Slot.unset).toArray = ls at hl ⊢
  have hl : lv_has ls 4 [(0, .ref wk), (1, .ref op), (2, .ref cu)] := hl
  have hW0 := hW9
  have hW1 := hW9.1
  have hW2 := hW9.2.1
  have hDν := hDq9 ν NUg.rf
  obtain ⟨hcu, -⟩ := hcn.ax hDν
  obtain ⟨kd21, va21, qu21, inn21, ef21, hv21⟩ := hO.opd hop
  refine lv_aload_n hx hb d_Walk_valueOf_0 rfl (lv_at hl 1 rfl) ?_
  refine vq_get (D := (dC, dI)) (ci := 2) (v := .int kd21) (C := R_Operand) (T := F_Operand) (N := 4) hx hb hts in_Operand hown hK hP (hO.inL (a := op) (by rw [hop]; decide)) (pf_O ef21) rfl 0 (by decide) (hts _ z_727) (fun _ h9 => h9) rfl d_Walk_valueOf_1 ?_
  by_cases hs4_0 : kd21 = 1
  · refine lv_tableIn (tgt := 32) (off := 28) hx hb d_Walk_valueOf_4 (by rw [hs4_0]; decide) (by rw [hs4_0]; decide) (by rw [hs4_0]; rfl) (by decide) ?_
    refine lv_aload_n hx hb d_Walk_valueOf_32 rfl (lv_at hl 0 rfl) ?_
    refine lv_aload_n hx hb d_Walk_valueOf_33 rfl (lv_at hl 1 rfl) ?_
    rcases qu21 with _ | b22
    · exact absurd rfl (hv21.2.2.2.1 hs4_0)
    · refine vq_get (D := (dC, dI)) (ci := 2) (v := .ref b22) (C := R_Operand) (T := F_Operand) (N := 4) hx hb hts in_Operand hown hK hP (hO.inL (a := op) (by rw [hop]; decide)) (pf_O ef21) rfl 2 (by decide) (hts _ z_731) (fun _ h9 => h9) rfl d_Walk_valueOf_34 ?_
      refine lv_aload_n hx hb d_Walk_valueOf_37 rfl (lv_at hl 2 rfl) ?_
      have hlt := (hv21.2.1 b22 rfl).2
      obtain ⟨q8, s8, e8, -, hQ8, hm8⟩ := (hOD.ax (pf_O ef21)).1 hs4_0
      obtain rfl := Option.some.inj e8
      subst hm8
      have hPc := hP.part (cx := [(wk, .inr (10, [.ref wl, .int (nI tp), .int (nI sp), .ref rt])), (wl, .inl (cV, 10000, .inr (.inr (.inr (.inr g)))))]) [0, 1] rfl
      have hDc := hD.part (cx := [(wk, .inr (10, [.ref wl, .int (nI tp), .int (nI sp), .ref rt])), (wl, .inl (cV, 10000, .inr (.inr (.inr (.inr g)))))]) [0, 1] (by decide) rfl
      have hFc := va_freeP (cx := [(wk, .inr (10, [.ref wl, .int (nI tp), .int (nI sp), .ref rt])), (wl, .inl (cV, 10000, .inr (.inr (.inr (.inr g)))))]) hD hS hA [0, 1] rfl
      have hKc := hK.sub (tys' := [(cI, .int), (cV, .object "QueryBench$Value")]) [0, 1] rfl
      refine w_same (fun hq0 => ?_)
      refine vx_callq (vx_runV (As := [.ref b22, .ref cu]) (rest := []) ⟨hx, hb, hml, hown, hts⟩ (p_Walk_onlyNode l hl9 K dC dI s.heap cI cV E lv L f hO hN1 PL AL S wk wl rt hrt rtn hrn tp sp g ν hW9 hDq9 cu cun hcn n (by omega) (HN (by omega)) b22 (hv21.2.1 b22 rfl).1 (by omega) s8 hQ8) (cwV 2 hts (gt_V (own := R_Walk) (C := R_Walk) (i := 201) (y := y_Walk_onlyNode) i_Walk_onlyNode z_919 z_921 (gt_sel (y := y_Walk_onlyNode) (n := 4) (by decide +kernel)) w_5) rfl rfl rfl (by decide +kernel) ⟨by show 59 + 5 * n + 1 ≤ 60 + 5 * n; omega, by show 8 + (6 + 11) + (2460 + 200 * n) ≤ 2500 + 200 * n; omega⟩) ⟨ml_blind, va_recv hK hP (ci := 10) (q0 := 0) rfl rfl, fun U hU hW => ⟨rfl, ⟨hU, by rw [hU]; exact hPc, va_K.moved hW.alike hKc, hDc.weaken (fun _ _ _ _ => trivial)⟩, hN.warm hW, by rw [hU]; exact ZX.moved' hW.alike (ZX.narrow' (ZX.kept' hZ hS.2.1) hFc), by rw [hU]; exact CE.call hC hS.2.1 hFc hW, va_AO.moved hW.alike hV⟩⟩ rfl rfl hl.1 rfl (lv_room (Nat.le_of_ble_eq_true rfl)) d_Walk_valueOf_38 ⟨Nat.le_of_ble_eq_true rfl, Nat.le_of_ble_eq_true rfl⟩) hS (fun q _ h => hFc q h) hFc (fun q _ h => hFc q h) (fun En ce q9 ⟨tx, sx, gx, nx⟩ t9 H1 locs ht hvm hw hB hz1 hk1 hS hce hcv hcl => ?_) (fun r23 ⟨s23, g23, n23⟩ t9 H1 locs ht hvm hw hB hz1 hk1 hS => ?_)
      · obtain ⟨hEn, hP1, hK1, hD1⟩ := hB
        rw [ht] at hP1
        obtain ⟨hP, hD⟩ := va_joinP (wr := []) (rx := [(wk, .inr (10, [.ref wl, .int tx, .int sx, .ref rt])), (wl, .inl (cV, 10000, .inr (.inr (.inr (.inr gx)))))]) (pl1 := va_pl L (pf f nx)) hP hD [0, 1] [] rfl rfl (by decide) (by decide) hk1 hFc hP1 hD1
        generalize H1 = H at hP hS hce ⊢
        have hP : va_P (dC, dI) classes ([(wk, .inr (10, [.ref wl, .int tx, .int sx, .ref rt])), (wl, .inl (cV, 10000, .inr (.inr (.inr (.inr gx)))))] ++ va_pl L (pf f nx)) H := hP
        have hD : va_D A ([(wk, .inr (10, [.ref wl, .int tx, .int sx, .ref rt])), (wl, .inl (cV, 10000, .inr (.inr (.inr (.inr gx)))))] ++ va_pl L (pf f nx)) := hD
        have hno : 10000 < sp + (onlO s8 rtn cun).2 := by have hw : 10000 < sp + (s8 rtn cun).2 := hw.1; exact hw
        exact vx_out (fun x hx => (hex x hx).elim) hlocks hce hcv hcl (fun t9 ht2 ha => ⟨(tx, sx, gx, nx), ⟨hno, hw.2⟩, ⟨hEn, by rw [ht2]; exact hP, va_K.moved ha hK, hD⟩, hS.F ht2⟩) hS.2.2 (Nat.le_of_ble_eq_true rfl) (Nat.le_of_ble_eq_true rfl)
      · obtain ⟨⟨hP1, hK1, hD1⟩, hz9⟩ := hB
        rw [ht] at hP1
        rw [ht] at hz9
        refine w_tight (hq0.trans hz9) ?_
        have hq0 := hq0.trans hz9
        obtain ⟨hP, hD⟩ := va_joinP (wr := []) (rx := [(wk, .inr (10, [.ref wl, .int (nI tp), .int (nI s23), .ref rt])), (wl, .inl (cV, 10000, .inr (.inr (.inr (.inr g23)))))]) (pl1 := va_pl L (pf f n23)) hP hD [0, 1] [] rfl rfl (by decide) (by decide) hk1 hFc hP1 hD1
        generalize H1 = H at hP hS hq0 ⊢
        have hP : va_P (dC, dI) classes ([(wk, .inr (10, [.ref wl, .int (nI tp), .int (nI s23), .ref rt])), (wl, .inl (cV, 10000, .inr (.inr (.inr (.inr g23)))))] ++ va_pl L (pf f n23)) H := hP
        have hD : va_D A ([(wk, .inr (10, [.ref wl, .int (nI tp), .int (nI s23), .ref rt])), (wl, .inl (cV, 10000, .inr (.inr (.inr (.inr g23)))))] ++ va_pl L (pf f n23)) := hD
        obtain ⟨hr23, hA23⟩ := hw
        have hA23 : ASK E S (s8 rtn cun).2 tp sp g ν s23 g23 n23 := hA23
        have hJ := hA23.2.1
        have hJ1 := hJ.1
        have hJ2 := hJ.2.1
        refine w_same (fun hq => ?_)
        refine W.widen (k := 1) (n := 6) (Nat.le_of_ble_eq_true rfl) (Nat.le_of_ble_eq_true rfl) ?_
        refine vx_ret ?_
        exact W.aret (v := va_rf r23) hx hb hr (Or.inl ⟨_, rfl⟩) (va_rf_or _) (fun t9 ht hW => ⟨⟨r23, (s23, g23, n23), rfl, ⟨hr23, hA23⟩, ⟨by rw [ht]; exact hP, va_K.moved hW.alike hK, hD⟩, by rw [ht]; exact hq⟩, hS.F ht⟩) hS.2.2 d_Walk_valueOf_41
  · by_cases hs4_1 : kd21 = 2
    · refine lv_tableIn (tgt := 42) (off := 38) hx hb d_Walk_valueOf_4 (by rw [hs4_1]; decide) (by rw [hs4_1]; decide) (by rw [hs4_1]; rfl) (by decide) ?_
      refine lv_aload_n hx hb d_Walk_valueOf_42 rfl (lv_at hl 1 rfl) ?_
      rcases va21 with _ | b24
      · exact absurd rfl (hv21.2.2.2.2.1 hs4_1).2
      · refine vq_get (D := (dC, dI)) (ci := 2) (v := .ref b24) (C := R_Operand) (T := F_Operand) (N := 4) hx hb hts in_Operand hown hK hP (hO.inL (a := op) (by rw [hop]; decide)) (pf_O ef21) rfl 1 (by decide) (hts _ z_729) (fun _ h9 => h9) rfl d_Walk_valueOf_43 ?_
        refine lv_aload_n hx hb d_Walk_valueOf_46 rfl (lv_at hl 0 rfl) ?_
        refine lv_aload_n hx hb d_Walk_valueOf_47 rfl (lv_at hl 1 rfl) ?_
        rcases qu21 with _ | b25
        · exact absurd rfl (hv21.2.2.2.2.1 hs4_1).1
        · refine vq_get (D := (dC, dI)) (ci := 2) (v := .ref b25) (C := R_Operand) (T := F_Operand) (N := 4) hx hb hts in_Operand hown hK hP (hO.inL (a := op) (by rw [hop]; decide)) (pf_O ef21) rfl 2 (by decide) (hts _ z_731) (fun _ h9 => h9) rfl d_Walk_valueOf_48 ?_
          refine lv_aload_n hx hb d_Walk_valueOf_51 rfl (lv_at hl 2 rfl) ?_
          have hlt := (hv21.2.1 b25 rfl).2
          obtain ⟨b8, q8, s8, e7, hS8, hNV, e8, -, hQ8, hm8⟩ := (hOD.ax (pf_O ef21)).2.1 hs4_1
          obtain rfl := Option.some.inj e8
          obtain rfl := Option.some.inj e7
          subst hm8
          have hPc := hP.part (cx := [(wk, .inr (10, [.ref wl, .int (nI tp), .int (nI sp), .ref rt])), (wl, .inl (cV, 10000, .inr (.inr (.inr (.inr g)))))]) [0, 1] rfl
          have hDc := hD.part (cx := [(wk, .inr (10, [.ref wl, .int (nI tp), .int (nI sp), .ref rt])), (wl, .inl (cV, 10000, .inr (.inr (.inr (.inr g)))))]) [0, 1] (by decide) rfl
          have hFc := va_freeP (cx := [(wk, .inr (10, [.ref wl, .int (nI tp), .int (nI sp), .ref rt])), (wl, .inl (cV, 10000, .inr (.inr (.inr (.inr g)))))]) hD hS hA [0, 1] rfl
          have hKc := hK.sub (tys' := [(cI, .int), (cV, .object "QueryBench$Value")]) [0, 1] rfl
          refine w_same (fun hq0 => ?_)
          refine vx_calli (vx_runV (As := [.ref b25, .ref cu]) (rest := [.ref b24]) ⟨hx, hb, hml, hown, hts⟩ (p_Walk_nodeCount l hl9 K dC dI s.heap cI cV E lv L f hO hN1 PL AL S wk wl rt hrt rtn hrn tp sp g ν hW9 hDq9 cu cun hcn n (by omega) (HN (by omega)) b25 (hv21.2.1 b25 rfl).1 (by omega) s8 hQ8) (cwV 2 hts (gt_V (own := R_Walk) (C := R_Walk) (i := 171) (y := y_Walk_nodeCount) i_Walk_nodeCount z_907 z_909 (gt_sel (y := y_Walk_nodeCount) (n := 4) (by decide +kernel)) w_5) rfl rfl rfl (by decide +kernel) ⟨by show 59 + 5 * n + 1 ≤ 60 + 5 * n; omega, by show 8 + (6 + 11) + (2460 + 200 * n) ≤ 2500 + 200 * n; omega⟩) ⟨ml_blind, va_recv hK hP (ci := 10) (q0 := 0) rfl rfl, fun U hU hW => ⟨rfl, ⟨hU, by rw [hU]; exact hPc, va_K.moved hW.alike hKc, hDc.weaken (fun _ _ _ _ => trivial)⟩, hN.warm hW, by rw [hU]; exact ZX.moved' hW.alike (ZX.narrow' (ZX.kept' hZ hS.2.1) hFc), by rw [hU]; exact CE.call hC hS.2.1 hFc hW, va_AO.moved hW.alike hV⟩⟩ rfl rfl hl.1 rfl (lv_room (Nat.le_of_ble_eq_true rfl)) d_Walk_valueOf_52 ⟨Nat.le_of_ble_eq_true rfl, Nat.le_of_ble_eq_true rfl⟩) hS (fun q _ h => hFc q h) hFc (fun q _ h => hFc q h) (fun En ce q9 ⟨tx, sx, gx, nx⟩ t9 H1 locs ht hvm hw hB hz1 hk1 hS hce hcv hcl => ?_) (fun r26 ⟨s26, g26, n26⟩ t9 H1 locs ht hvm hw hB hz1 hk1 hS => ?_)
          · obtain ⟨hEn, hP1, hK1, hD1⟩ := hB
            rw [ht] at hP1
            obtain ⟨hP, hD⟩ := va_joinP (wr := []) (rx := [(wk, .inr (10, [.ref wl, .int tx, .int sx, .ref rt])), (wl, .inl (cV, 10000, .inr (.inr (.inr (.inr gx)))))]) (pl1 := va_pl L (pf f nx)) hP hD [0, 1] [] rfl rfl (by decide) (by decide) hk1 hFc hP1 hD1
            generalize H1 = H at hP hS hce ⊢
            have hP : va_P (dC, dI) classes ([(wk, .inr (10, [.ref wl, .int tx, .int sx, .ref rt])), (wl, .inl (cV, 10000, .inr (.inr (.inr (.inr gx)))))] ++ va_pl L (pf f nx)) H := hP
            have hD : va_D A ([(wk, .inr (10, [.ref wl, .int tx, .int sx, .ref rt])), (wl, .inl (cV, 10000, .inr (.inr (.inr (.inr gx)))))] ++ va_pl L (pf f nx)) := hD
            have hno : 10000 < sp + (cntO s8 rtn cun).2 := by have hw : 10000 < sp + (s8 rtn cun).2 := hw.1; exact hw
            exact vx_out (fun x hx => (hex x hx).elim) hlocks hce hcv hcl (fun t9 ht2 ha => ⟨(tx, sx, gx, nx), ⟨hno, hw.2⟩, ⟨hEn, by rw [ht2]; exact hP, va_K.moved ha hK, hD⟩, hS.F ht2⟩) hS.2.2 (Nat.le_of_ble_eq_true rfl) (Nat.le_of_ble_eq_true rfl)
          · obtain ⟨⟨hP1, hK1, hD1⟩, hz9⟩ := hB
            rw [ht] at hP1
            rw [ht] at hz9
            refine w_tight (hq0.trans hz9) ?_
            have hq0 := hq0.trans hz9
            obtain ⟨hP, hD⟩ := va_joinP (wr := []) (rx := [(wk, .inr (10, [.ref wl, .int (nI tp), .int (nI s26), .ref rt])), (wl, .inl (cV, 10000, .inr (.inr (.inr (.inr g26)))))]) (pl1 := va_pl L (pf f n26)) hP hD [0, 1] [] rfl rfl (by decide) (by decide) hk1 hFc hP1 hD1
            generalize H1 = H at hP hS hq0 ⊢
            have hP : va_P (dC, dI) classes ([(wk, .inr (10, [.ref wl, .int (nI tp), .int (nI s26), .ref rt])), (wl, .inl (cV, 10000, .inr (.inr (.inr (.inr g26)))))] ++ va_pl L (pf f n26)) H := hP
            have hD : va_D A ([(wk, .inr (10, [.ref wl, .int (nI tp), .int (nI s26), .ref rt])), (wl, .inl (cV, 10000, .inr (.inr (.inr (.inr g26)))))] ++ va_pl L (pf f n26)) := hD
            obtain ⟨hr26, hA26⟩ := hw
            have hA26 : ASK E S (s8 rtn cun).2 tp sp g ν s26 g26 n26 := hA26
            have hJ := hA26.2.1
            have hJ1 := hJ.1
            have hJ2 := hJ.2.1
            obtain ⟨hr9, hln⟩ := hr26
            have hr9 : r26 = nI (s8 rtn cun).1.length := hr9
            refine lv_i2l (v := r26.toInt64) hx hb d_Walk_valueOf_55 rfl ?_
            obtain ⟨kd27, nu27, tx27, me27, pa27, na27, ix27, nm27, no27, sp27, ef27, hv27⟩ := hO.val ((isF.v (hv21.1 b24 rfl)))
            refine vq_put (D := (dC, dI)) (ci := 9) (v := .long (r26.toInt64)) (ty := .long) (C := R_Value) (T := F_Value) (N := 10) hx hb hts in_Value t_Value t_Value_ok n_Value hown hK hP hD hS (hO.inV (isF.v (hv21.1 b24 rfl))) (pf_V ef27) rfl 1 (by decide) (hts _ z_319) (fun _ h9 => h9) rfl (by decide +kernel) rfl rfl (Nat.le_of_ble_eq_true rfl) d_Walk_valueOf_56 (fun H locs hP hD hS => ?_)
            have hP : va_P (dC, dI) classes ([(wk, .inr (10, [.ref wl, .int (nI tp), .int (nI s26), .ref rt])), (wl, .inl (cV, 10000, .inr (.inr (.inr (.inr g26)))))] ++ va_pl L (pf f (va_up n26 b24 (r26.toInt64)))) H := by rw [← pf_put ef27]; exact hP
            have hD : va_D A ([(wk, .inr (10, [.ref wl, .int (nI tp), .int (nI s26), .ref rt])), (wl, .inl (cV, 10000, .inr (.inr (.inr (.inr g26)))))] ++ va_pl L (pf f (va_up n26 b24 (r26.toInt64)))) := by rw [← pf_put ef27]; exact hD
            have hB9 : S b24 = 1 := hS8
            have hA7 := hA26.put (x := (r26.toInt64)) hB9
            refine lv_aload_n hx hb d_Walk_valueOf_59 rfl (lv_at hl 1 rfl) ?_
            refine vq_get (D := (dC, dI)) (ci := 2) (v := .ref b24) (C := R_Operand) (T := F_Operand) (N := 4) hx hb hts in_Operand hown hK hP (hO.inL (a := op) (by rw [hop]; decide)) (pf_O ef21) rfl 1 (by decide) (hts _ z_729) (fun _ h9 => h9) rfl d_Walk_valueOf_60 ?_
            refine w_same (fun hq => ?_)
            refine W.widen (k := 1) (n := 6) (Nat.le_of_ble_eq_true rfl) (Nat.le_of_ble_eq_true rfl) ?_
            refine vx_ret ?_
            exact W.aret (v := va_rf ((some b24))) hx hb hr (Or.inl ⟨_, rfl⟩) (va_rf_or _) (fun t9 ht hW => ⟨⟨(some b24), (s26, g26, (va_up n26 b24 (r26.toInt64))), rfl, ⟨(VRp.num (k := (s8 rtn cun).1.length) (hv21.1 b24 rfl) hB9 hNV hA26.2.2.2 (by rw [hr9, nI_l (by omega)]; rfl)), hA7⟩, ⟨by rw [ht]; exact hP, va_K.moved hW.alike hK, hD⟩, by rw [ht]; exact hq⟩, hS.F ht⟩) hS.2.2 d_Walk_valueOf_63
    · by_cases hs4_2 : kd21 = 3
      · refine lv_tableIn (tgt := 64) (off := 60) hx hb d_Walk_valueOf_4 (by rw [hs4_2]; decide) (by rw [hs4_2]; decide) (by rw [hs4_2]; rfl) (by decide) ?_
        refine lv_aload_n hx hb d_Walk_valueOf_64 rfl (lv_at hl 0 rfl) ?_
        refine lv_aload_n hx hb d_Walk_valueOf_65 rfl (lv_at hl 1 rfl) ?_
        rcases inn21 with _ | b28
        · exact absurd rfl (hv21.2.2.2.2.2 hs4_2).1
        · refine vq_get (D := (dC, dI)) (ci := 2) (v := .ref b28) (C := R_Operand) (T := F_Operand) (N := 4) hx hb hts in_Operand hown hK hP (hO.inL (a := op) (by rw [hop]; decide)) (pf_O ef21) rfl 3 (by decide) (hts _ z_732) (fun _ h9 => h9) rfl d_Walk_valueOf_66 ?_
          refine lv_aload_n hx hb d_Walk_valueOf_69 rfl (lv_at hl 2 rfl) ?_
          have hlt := (hv21.2.2.1 b28 rfl).2
          obtain ⟨b8, q8, x8, e7, hS8, hNV, e8, -, hO8, hm8⟩ := (hOD.ax (pf_O ef21)).2.2.1 hs4_2
          obtain rfl := Option.some.inj e8
          subst hm8
          have hPc := hP.part (cx := [(wk, .inr (10, [.ref wl, .int (nI tp), .int (nI sp), .ref rt])), (wl, .inl (cV, 10000, .inr (.inr (.inr (.inr g)))))]) [0, 1] rfl
          have hDc := hD.part (cx := [(wk, .inr (10, [.ref wl, .int (nI tp), .int (nI sp), .ref rt])), (wl, .inl (cV, 10000, .inr (.inr (.inr (.inr g)))))]) [0, 1] (by decide) rfl
          have hFc := va_freeP (cx := [(wk, .inr (10, [.ref wl, .int (nI tp), .int (nI sp), .ref rt])), (wl, .inl (cV, 10000, .inr (.inr (.inr (.inr g)))))]) hD hS hA [0, 1] rfl
          have hKc := hK.sub (tys' := [(cI, .int), (cV, .object "QueryBench$Value")]) [0, 1] rfl
          refine w_same (fun hq0 => ?_)
          refine vx_callq (vx_runV (As := [.ref b28, .ref cu]) (rest := []) ⟨hx, hb, hml, hown, hts⟩ ((HV (by omega)) s.heap S tp sp g ν hW9 hDq9 b28 cu x8 cun (hv21.2.2.1 b28 rfl).1 (by omega) hO8 hcn) (cwV 2 hts (gt_V (own := R_Walk) (C := R_Walk) (i := 183) (y := y_Walk_valueOf) i_Walk_valueOf z_915 z_917 (gt_sel (y := y_Walk_valueOf) (n := 4) (by decide +kernel)) w_5) rfl rfl rfl (by decide +kernel) ⟨by show 60 + 5 * (n - 1) + 1 ≤ 60 + 5 * n; omega, by show 8 + (4 + 11) + (2500 + 200 * (n - 1)) ≤ 2500 + 200 * n; omega⟩) ⟨ml_blind, va_recv hK hP (ci := 10) (q0 := 0) rfl rfl, fun U hU hW => ⟨rfl, ⟨hU, by rw [hU]; exact hPc, va_K.moved hW.alike hKc, hDc.weaken (fun _ _ _ _ => trivial)⟩, hN.warm hW, by rw [hU]; exact ZX.moved' hW.alike (ZX.narrow' (ZX.kept' hZ hS.2.1) hFc), by rw [hU]; exact CE.call hC hS.2.1 hFc hW, va_AO.moved hW.alike hV⟩⟩ rfl rfl hl.1 rfl (lv_room (Nat.le_of_ble_eq_true rfl)) d_Walk_valueOf_70 ⟨Nat.le_of_ble_eq_true rfl, Nat.le_of_ble_eq_true rfl⟩) hS (fun q _ h => hFc q h) hFc (fun q _ h => hFc q h) (fun En ce q9 ⟨tx, sx, gx, nx⟩ t9 H1 locs ht hvm hw hB hz1 hk1 hS hce hcv hcl => ?_) (fun r29 ⟨s29, g29, n29⟩ t9 H1 locs ht hvm hw hB hz1 hk1 hS => ?_)
          · obtain ⟨hEn, hP1, hK1, hD1⟩ := hB
            rw [ht] at hP1
            obtain ⟨hP, hD⟩ := va_joinP (wr := []) (rx := [(wk, .inr (10, [.ref wl, .int tx, .int sx, .ref rt])), (wl, .inl (cV, 10000, .inr (.inr (.inr (.inr gx)))))]) (pl1 := va_pl L (pf f nx)) hP hD [0, 1] [] rfl rfl (by decide) (by decide) hk1 hFc hP1 hD1
            generalize H1 = H at hP hS hce ⊢
            have hP : va_P (dC, dI) classes ([(wk, .inr (10, [.ref wl, .int tx, .int sx, .ref rt])), (wl, .inl (cV, 10000, .inr (.inr (.inr (.inr gx)))))] ++ va_pl L (pf f nx)) H := hP
            have hD : va_D A ([(wk, .inr (10, [.ref wl, .int tx, .int sx, .ref rt])), (wl, .inl (cV, 10000, .inr (.inr (.inr (.inr gx)))))] ++ va_pl L (pf f nx)) := hD
            have hno : 10000 < sp + (lenO x8 rtn cun).2 := by have hw : 10000 < sp + (x8 rtn cun).2 := hw.1; exact hw
            exact vx_out (fun x hx => (hex x hx).elim) hlocks hce hcv hcl (fun t9 ht2 ha => ⟨(tx, sx, gx, nx), ⟨hno, hw.2⟩, ⟨hEn, by rw [ht2]; exact hP, va_K.moved ha hK, hD⟩, hS.F ht2⟩) hS.2.2 (Nat.le_of_ble_eq_true rfl) (Nat.le_of_ble_eq_true rfl)
          · obtain ⟨⟨hP1, hK1, hD1⟩, hz9⟩ := hB
            rw [ht] at hP1
            rw [ht] at hz9
            refine w_tight (hq0.trans hz9) ?_
            have hq0 := hq0.trans hz9
            obtain ⟨hP, hD⟩ := va_joinP (wr := []) (rx := [(wk, .inr (10, [.ref wl, .int (nI tp), .int (nI s29), .ref rt])), (wl, .inl (cV, 10000, .inr (.inr (.inr (.inr g29)))))]) (pl1 := va_pl L (pf f n29)) hP hD [0, 1] [] rfl rfl (by decide) (by decide) hk1 hFc hP1 hD1
            generalize H1 = H at hP hS hq0 ⊢
            have hP : va_P (dC, dI) classes ([(wk, .inr (10, [.ref wl, .int (nI tp), .int (nI s29), .ref rt])), (wl, .inl (cV, 10000, .inr (.inr (.inr (.inr g29)))))] ++ va_pl L (pf f n29)) H := hP
            have hD : va_D A ([(wk, .inr (10, [.ref wl, .int (nI tp), .int (nI s29), .ref rt])), (wl, .inl (cV, 10000, .inr (.inr (.inr (.inr g29)))))] ++ va_pl L (pf f n29)) := hD
            obtain ⟨hr29, hA29⟩ := hw
            have hA29 : ASK E S (x8 rtn cun).2 tp sp g ν s29 g29 n29 := hA29
            have hJ := hA29.2.1
            have hJ1 := hJ.1
            have hJ2 := hJ.2.1
            have hVi : VRp E f PL AL S n29 r29 (x8 rtn cun).1 := hr29
            have h_r29 := hVi.oR
            have hXi := hVi.val (hDq9 n29 hA29.2.2.2)
            rcases r29 with _ | b30
            · refine lv_astore_nN (lv' := [(3, .null), (0, .ref wk), (1, .ref op), (2, .ref cu)]) hx hb d_Walk_valueOf_73 rfl hl (by decide) rfl (fun ls hl => ?_)
              refine lv_aload_n hx hb d_Walk_valueOf_74 rfl (lv_at hl 2 rfl) ?_
              rcases va21 with _ | b31
              · exact absurd rfl (hv21.2.2.2.2.2 hs4_2).2
              · refine vq_get (D := (dC, dI)) (ci := 2) (v := .ref b31) (C := R_Operand) (T := F_Operand) (N := 4) hx hb hts in_Operand hown hK hP (hO.inL (a := op) (by rw [hop]; decide)) (pf_O ef21) rfl 1 (by decide) (hts _ z_729) (fun _ h9 => h9) rfl d_Walk_valueOf_75 ?_
                refine lv_aload_nN hx hb d_Walk_valueOf_78 rfl (lv_at hl 0 rfl) ?_
                refine lv_ifnonnullN hx hb d_Walk_valueOf_79 ?_
                refine lv_ldc2 (v := (-1)) hx hb hown (hts _ z_890) d_Walk_valueOf_82 ?_
                refine lv_goto (tgt := 93) hx hb d_Walk_valueOf_85 (by decide) ?_
                obtain ⟨kd32, nu32, tx32, me32, pa32, na32, ix32, nm32, no32, sp32, ef32, hv32⟩ := hO.val ((isF.v (hv21.1 b31 rfl)))
                refine vq_put (D := (dC, dI)) (ci := 9) (v := .long (-1)) (ty := .long) (C := R_Value) (T := F_Value) (N := 10) hx hb hts in_Value t_Value t_Value_ok n_Value hown hK hP hD hS (hO.inV (isF.v (hv21.1 b31 rfl))) (pf_V ef32) rfl 1 (by decide) (hts _ z_319) (fun _ h9 => h9) rfl (by decide +kernel) rfl rfl (Nat.le_of_ble_eq_true rfl) d_Walk_valueOf_93 (fun H locs hP hD hS => ?_)
                have hP : va_P (dC, dI) classes ([(wk, .inr (10, [.ref wl, .int (nI tp), .int (nI s29), .ref rt])), (wl, .inl (cV, 10000, .inr (.inr (.inr (.inr g29)))))] ++ va_pl L (pf f (va_up n29 b31 (-1)))) H := by rw [← pf_put ef32]; exact hP
                have hD : va_D A ([(wk, .inr (10, [.ref wl, .int (nI tp), .int (nI s29), .ref rt])), (wl, .inl (cV, 10000, .inr (.inr (.inr (.inr g29)))))] ++ va_pl L (pf f (va_up n29 b31 (-1)))) := by rw [← pf_put ef32]; exact hD
                have hB9 : S b31 = 1 := by obtain rfl := Option.some.inj e7; exact hS8
                have hA7 := hA29.put (x := (-1)) hB9
                refine lv_aload_n hx hb d_Walk_valueOf_96 rfl (lv_at hl 2 rfl) ?_
                refine vq_get (D := (dC, dI)) (ci := 2) (v := .ref b31) (C := R_Operand) (T := F_Operand) (N := 4) hx hb hts in_Operand hown hK hP (hO.inL (a := op) (by rw [hop]; decide)) (pf_O ef21) rfl 1 (by decide) (hts _ z_729) (fun _ h9 => h9) rfl d_Walk_valueOf_97 ?_
                refine vq_get (D := (dC, dI)) (ci := 9) (v := .long ((va_up n29 b31 (-1)) b31)) (C := R_Value) (T := F_Value) (N := 10) hx hb hts in_Value hown hK hP (hO.inV (isF.v (hv21.1 b31 rfl))) (pf_V ef32) rfl 1 (by decide) (hts _ z_319) (fun _ h9 => h9) rfl d_Walk_valueOf_100 ?_
                refine lv_lconst (v := 0) hx hb d_Walk_valueOf_103 (by decide) ?_
                refine W.lcmp hx hb d_Walk_valueOf_104 ?_
                refine lv_if_ge (tgt := 112) hx hb d_Walk_valueOf_105 (by decide) (fun c105 => ?_) (fun c105 => ?_)
                · refine lv_aload_n hx hb d_Walk_valueOf_112 rfl (lv_at hl 2 rfl) ?_
                  refine vq_get (D := (dC, dI)) (ci := 2) (v := .ref b31) (C := R_Operand) (T := F_Operand) (N := 4) hx hb hts in_Operand hown hK hP (hO.inL (a := op) (by rw [hop]; decide)) (pf_O ef21) rfl 1 (by decide) (hts _ z_729) (fun _ h9 => h9) rfl d_Walk_valueOf_113 ?_
                  have hx0 : (x8 rtn cun).1 = none := VAL.no hXi
                  have hm0 : (lenO x8 rtn cun).1 = none := by show (x8 rtn cun).1.bind lenU = none; rw [hx0]; rfl
                  exact absurd c105 (by rw [va_up_self]; decide)
                · refine lv_null hx hb d_Walk_valueOf_108 ?_
                  refine lv_goto (tgt := 116) hx hb d_Walk_valueOf_109 (by decide) ?_
                  have hx0 : (x8 rtn cun).1 = none := VAL.no hXi
                  have hm0 : (lenO x8 rtn cun).1 = none := by show (x8 rtn cun).1.bind lenU = none; rw [hx0]; rfl
                  refine w_same (fun hq => ?_)
                  refine W.widen (k := 1) (n := 6) (Nat.le_of_ble_eq_true rfl) (Nat.le_of_ble_eq_true rfl) ?_
                  refine vx_ret ?_
                  exact W.aret (v := va_rf none) hx hb hr (Or.inl ⟨_, rfl⟩) (va_rf_or _) (fun t9 ht hW => ⟨⟨none, (s29, g29, (va_up n29 b31 (-1))), rfl, ⟨(by rw [hm0]; rfl), hA7⟩, ⟨by rw [ht]; exact hP, va_K.moved hW.alike hK, hD⟩, by rw [ht]; exact hq⟩, hS.F ht⟩) hS.2.2 d_Walk_valueOf_116
            · refine lv_astore_n (lv' := [(3, .ref b30), (0, .ref wk), (1, .ref op), (2, .ref cu)]) hx hb d_Walk_valueOf_73 rfl hl (by decide) rfl (fun ls hl => ?_)
              refine lv_aload_n hx hb d_Walk_valueOf_74 rfl (lv_at hl 2 rfl) ?_
              rcases va21 with _ | b33
              · exact absurd rfl (hv21.2.2.2.2.2 hs4_2).2
              · refine vq_get (D := (dC, dI)) (ci := 2) (v := .ref b33) (C := R_Operand) (T := F_Operand) (N := 4) hx hb hts in_Operand hown hK hP (hO.inL (a := op) (by rw [hop]; decide)) (pf_O ef21) rfl 1 (by decide) (hts _ z_729) (fun _ h9 => h9) rfl d_Walk_valueOf_75 ?_
                refine lv_aload_n hx hb d_Walk_valueOf_78 rfl (lv_at hl 0 rfl) ?_
                refine lv_ifnonnull (tgt := 88) hx hb d_Walk_valueOf_79 (by decide) ?_
                refine lv_aload_n hx hb d_Walk_valueOf_88 rfl (lv_at hl 0 rfl) ?_
                obtain ⟨u9, hu9⟩ := VAL.so hXi
                obtain ⟨c8, hc8, -, hcu8⟩ : VAL E (pf f n29) (some b30) (some u9) := by rw [← hu9]; exact hXi
                obtain rfl := Option.some.inj hc8
                obtain ⟨kd34, nu34, tx34, me34, pa34, na34, ix34, nm34, no34, sp34, ef34, hv34⟩ := hO.val ((isF.v (h_r29 b30 rfl)))
                refine vp_callSi (va_Run.run (va_runV (As := []) (rest := [.ref b33]) ⟨hx, hb, hml, hown, hts⟩ (g_Value_measure l dC dI H cI cV E lv L (pf f n29) (hO.num n29) b30 (h_r29 b30 rfl) u9 hcu8) (cwV 0 hts (gt_V (own := R_Walk) (C := R_Value) (i := 214) (y := y_Value_measure) i_Value_measure z_923 z_924 z_925 z_14) rfl rfl rfl (by decide +kernel) ⟨by show 1 + 1 ≤ 60 + 5 * n; omega, by show 8 + (3 + 11) + (60) ≤ 2500 + 200 * n; omega⟩) ⟨mq_blind, vq_recv hK hP rfl (hO.inV (isF.v (h_r29 b30 rfl))) (pf_V ef34), fun U hU hW => ⟨rfl, hU, by rw [hU]; exact hP.part (cx := []) [] rfl, va_K.moved hW.alike hK, hN.warm hW⟩⟩ rfl rfl hl.1 rfl (lv_room (Nat.le_of_ble_eq_true rfl)) d_Walk_valueOf_89 ⟨Nat.le_of_ble_eq_true rfl, Nat.le_of_ble_eq_true rfl⟩)) (fun r35 h_r35 => ?_)
                refine lv_i2l (v := r35.toInt64) hx hb d_Walk_valueOf_92 rfl ?_
                obtain ⟨kd36, nu36, tx36, me36, pa36, na36, ix36, nm36, no36, sp36, ef36, hv36⟩ := hO.val ((isF.v (hv21.1 b33 rfl)))
                refine vq_put (D := (dC, dI)) (ci := 9) (v := .long (r35.toInt64)) (ty := .long) (C := R_Value) (T := F_Value) (N := 10) hx hb hts in_Value t_Value t_Value_ok n_Value hown hK hP hD hS (hO.inV (isF.v (hv21.1 b33 rfl))) (pf_V ef36) rfl 1 (by decide) (hts _ z_319) (fun _ h9 => h9) rfl (by decide +kernel) rfl rfl (Nat.le_of_ble_eq_true rfl) d_Walk_valueOf_93 (fun H locs hP hD hS => ?_)
                have hP : va_P (dC, dI) classes ([(wk, .inr (10, [.ref wl, .int (nI tp), .int (nI s29), .ref rt])), (wl, .inl (cV, 10000, .inr (.inr (.inr (.inr g29)))))] ++ va_pl L (pf f (va_up n29 b33 (r35.toInt64)))) H := by rw [← pf_put ef36]; exact hP
                have hD : va_D A ([(wk, .inr (10, [.ref wl, .int (nI tp), .int (nI s29), .ref rt])), (wl, .inl (cV, 10000, .inr (.inr (.inr (.inr g29)))))] ++ va_pl L (pf f (va_up n29 b33 (r35.toInt64)))) := by rw [← pf_put ef36]; exact hD
                have hB9 : S b33 = 1 := by obtain rfl := Option.some.inj e7; exact hS8
                have hA7 := hA29.put (x := (r35.toInt64)) hB9
                refine lv_aload_n hx hb d_Walk_valueOf_96 rfl (lv_at hl 2 rfl) ?_
                refine vq_get (D := (dC, dI)) (ci := 2) (v := .ref b33) (C := R_Operand) (T := F_Operand) (N := 4) hx hb hts in_Operand hown hK hP (hO.inL (a := op) (by rw [hop]; decide)) (pf_O ef21) rfl 1 (by decide) (hts _ z_729) (fun _ h9 => h9) rfl d_Walk_valueOf_97 ?_
                refine vq_get (D := (dC, dI)) (ci := 9) (v := .long ((va_up n29 b33 (r35.toInt64)) b33)) (C := R_Value) (T := F_Value) (N := 10) hx hb hts in_Value hown hK hP (hO.inV (isF.v (hv21.1 b33 rfl))) (pf_V ef36) rfl 1 (by decide) (hts _ z_319) (fun _ h9 => h9) rfl d_Walk_valueOf_100 ?_
                refine lv_lconst (v := 0) hx hb d_Walk_valueOf_103 (by decide) ?_
                refine W.lcmp hx hb d_Walk_valueOf_104 ?_
                refine lv_if_ge (tgt := 112) hx hb d_Walk_valueOf_105 (by decide) (fun c105 => ?_) (fun c105 => ?_)
                · refine lv_aload_n hx hb d_Walk_valueOf_112 rfl (lv_at hl 2 rfl) ?_
                  refine vq_get (D := (dC, dI)) (ci := 2) (v := .ref b33) (C := R_Operand) (T := F_Operand) (N := 4) hx hb hts in_Operand hown hK hP (hO.inL (a := op) (by rw [hop]; decide)) (pf_O ef21) rfl 1 (by decide) (hts _ z_729) (fun _ h9 => h9) rfl d_Walk_valueOf_113 ?_
                  have hm0 : (lenO x8 rtn cun).1 = lenU u9 := by show (x8 rtn cun).1.bind lenU = _; rw [hu9]; rfl
                  rw [va_up_self, h_r35] at c105
                  obtain ⟨w8, hz⟩ : ∃ w, lenU u9 = some w := by cases hq : lenU u9 with | none => (rw [lnI_n hq] at c105; exact absurd c105 (by decide)) | some w => exact ⟨w, rfl⟩
                  obtain ⟨k, k1, k2, k3⟩ := lnI_s hz
                  subst k2
                  refine w_same (fun hq => ?_)
                  refine W.widen (k := 1) (n := 6) (Nat.le_of_ble_eq_true rfl) (Nat.le_of_ble_eq_true rfl) ?_
                  refine vx_ret ?_
                  exact W.aret (v := va_rf ((some b33))) hx hb hr (Or.inl ⟨_, rfl⟩) (va_rf_or _) (fun t9 ht hW => ⟨⟨(some b33), (s29, g29, (va_up n29 b33 (r35.toInt64))), rfl, ⟨(by rw [hm0, hz]; exact VRp.num (hv21.1 b33 rfl) hB9 (by obtain rfl := Option.some.inj e7; exact hNV) hA29.2.2.2 (by rw [h_r35, k1, nI_l (by have := lnB (hO.num _) hcu8 (h_r29 b30 rfl) k3; omega)]; rfl)), hA7⟩, ⟨by rw [ht]; exact hP, va_K.moved hW.alike hK, hD⟩, by rw [ht]; exact hq⟩, hS.F ht⟩) hS.2.2 d_Walk_valueOf_116
                · refine lv_null hx hb d_Walk_valueOf_108 ?_
                  refine lv_goto (tgt := 116) hx hb d_Walk_valueOf_109 (by decide) ?_
                  have hm0 : (lenO x8 rtn cun).1 = lenU u9 := by show (x8 rtn cun).1.bind lenU = _; rw [hu9]; rfl
                  rw [va_up_self, h_r35] at c105
                  have hz : lenU u9 = none := by cases hq : lenU u9 with | none => rfl | some w => (obtain ⟨k, k1, -, k3⟩ := lnI_s hq; rw [k1] at c105; exact absurd (lg_nI (lnB (hO.num _) hcu8 (h_r29 b30 rfl) k3)) c105)
                  refine w_same (fun hq => ?_)
                  refine W.widen (k := 1) (n := 6) (Nat.le_of_ble_eq_true rfl) (Nat.le_of_ble_eq_true rfl) ?_
                  refine vx_ret ?_
                  exact W.aret (v := va_rf none) hx hb hr (Or.inl ⟨_, rfl⟩) (va_rf_or _) (fun t9 ht hW => ⟨⟨none, (s29, g29, (va_up n29 b33 (r35.toInt64))), rfl, ⟨(by rw [hm0, hz]; rfl), hA7⟩, ⟨by rw [ht]; exact hP, va_K.moved hW.alike hK, hD⟩, by rw [ht]; exact hq⟩, hS.F ht⟩) hS.2.2 d_Walk_valueOf_116
      · have hk4_0 := i_neN 1 rfl hs4_0
        have hk4_1 := i_neN 2 rfl hs4_1
        have hk4_2 := i_neN 3 rfl hs4_2
        refine lv_tableOut (tgt := 117) hx hb d_Walk_valueOf_4 (by omega) (by decide) ?_
        refine lv_aload_n hx hb d_Walk_valueOf_117 rfl (lv_at hl 1 rfl) ?_
        rcases va21 with _ | b37
        · refine vq_get (D := (dC, dI)) (ci := 2) (v := .null) (C := R_Operand) (T := F_Operand) (N := 4) hx hb hts in_Operand hown hK hP (hO.inL (a := op) (by rw [hop]; decide)) (pf_O ef21) rfl 1 (by decide) (hts _ z_729) (fun _ h9 => h9) rfl d_Walk_valueOf_118 ?_
          obtain ⟨b8, z8, e8, -⟩ := (hOD.ax (pf_O ef21)).2.2.2 hs4_0 hs4_1 hs4_2
          cases e8
        · refine vq_get (D := (dC, dI)) (ci := 2) (v := .ref b37) (C := R_Operand) (T := F_Operand) (N := 4) hx hb hts in_Operand hown hK hP (hO.inL (a := op) (by rw [hop]; decide)) (pf_O ef21) rfl 1 (by decide) (hts _ z_729) (fun _ h9 => h9) rfl d_Walk_valueOf_118 ?_
          obtain ⟨b8, z8, e8, h82, h83, h84, h85, h86, hm8⟩ := (hOD.ax (pf_O ef21)).2.2.2 hs4_0 hs4_1 hs4_2
          obtain rfl := Option.some.inj e8
          subst hm8
          refine w_same (fun hq => ?_)
          refine W.widen (k := 1) (n := 6) (Nat.le_of_ble_eq_true rfl) (Nat.le_of_ble_eq_true rfl) ?_
          refine vx_ret ?_
          exact W.aret (v := va_rf ((some b37))) hx hb hr (Or.inl ⟨_, rfl⟩) (va_rf_or _) (fun t9 ht hW => ⟨⟨(some b37), (sp, g, ν), rfl, ⟨(VRp.lit (cI := cI) (cV := cV) (lv := lv) (L := L) (hv21.1 b37 rfl) h82 h83 h84 h85 h86), (ASK.rf hW9)⟩, ⟨by rw [ht]; exact hP, va_K.moved hW.alike hK, hD⟩, by rw [ht]; exact hq⟩, hS.F ht⟩) hS.2.2 d_Walk_valueOf_121
set_option maxHeartbeats 4000000 in
set_option maxRecDepth 100000 in
theorem p_HD (l : Launch) (hl9 : l.stackTraces = false) (K : Nat → Nat × Nat) (dC : Nat → ClassId) (dI : Nat → Nat → Nat) (cI cV : ClassId) (E lv : Nat → Nat) (L : List Nat) (f : Nat → va_E) (hO : PO cI cV E lv L f) (hN1 : ∀ a, E a ≠ 1) (PL : List NT) (AL : List Nat) (wk wl rt : Nat) (hrt : isF E rt) (rtn : NT) (hrn : NCr PL AL rt rtn) (n : Nat) (HI : 0 < n → HDF l K dC dI cI cV E lv L f PL AL wk wl rt rtn (n - 1)) (HN : 0 < n → NDF l K dC dI cI cV E lv L f PL AL wk wl rt rtn (n - 1)) (HV : 0 < n → VOF l K dC dI cI cV E lv L f PL AL wk wl rt rtn (n - 1)) : HDF l K dC dI cI cV E lv L f PL AL wk wl rt rtn n := by
  intro sz S tp sp g ν hW9 hDq9 co cu m9 cun hco hlo hKD hcn
  refine vx_ofW (cc := b_Walk_holds) (maxL := 3) (ret := (some .boolean)) (by decide) rfl ?_
  intro p e s m args below meth c s₁ B hml hex hv
  obtain ⟨rfl, ⟨hsz, hP, hK, hD0⟩, hN, hZ, hC, hV⟩ := hv
  have hx := B.exec
  have hb := B.bytes
  have hr := B.returns
  have hts0 := atoms_spec (ws := k_Walk_holds :: gtbl) B.pre
  have hts := fun w h => hts0 w (List.mem_cons_of_mem _ h)
  have hown : s.vm.findClass R_Walk = some m.cls := findClass_of_methodNamed B.named
  have hlocks := B.notSynchronized
  subst hsz
  have hD := hD0.self (sz := s.heap.size)
  generalize hAe : va_A ([(wk, .inr (10, [.ref wl, .int (nI tp), .int (nI sp), .ref rt])), (wl, .inl (cV, 10000, .inr (.inr (.inr (.inr g)))))] ++ va_pl L (pf f ν)) s.heap.size = A at hD hZ hC ⊢
  have hA : ∀ q : Nat, s.heap.size ≤ q → A q := fun q h => by rw [← hAe]; exact Or.inr h
  have hS : va_S A s.heap s.heap [] := va_S.rf
  have hP : va_P (dC, dI) classes ([(wk, .inr (10, [.ref wl, .int (nI tp), .int (nI sp), .ref rt])), (wl, .inl (cV, 10000, .inr (.inr (.inr (.inr g)))))] ++ va_pl L (pf f ν)) s.heap := hP
  have hl := lv_entry ([.ref wk, .ref co, .ref cu]) (n := 3) (Nat.le_of_ble_eq_true rfl)
  rw [lg_entry_eq]
  generalize (lg_sl ([.ref wk, .ref co, .ref cu]) ++ List.replicate (3 - (lg_sl ([.ref wk, .ref co, .ref cu])).length) Slot.unset).toArray = ls at hl ⊢
  have hl : lv_has ls 3 [(0, .ref wk), (1, .ref co), (2, .ref cu)] := hl
  have hW0 := hW9
  have hW1 := hW9.1
  have hW2 := hW9.2.1
  have hDν := hDq9 ν NUg.rf
  obtain ⟨hcu, -⟩ := hcn.ax hDν
  obtain ⟨kd21, fi21, nx21, qu21, le21, ri21, ef21, hv21⟩ := hO.con hco
  refine lv_aload_n hx hb d_Walk_holds_0 rfl (lv_at hl 1 rfl) ?_
  refine vq_get (D := (dC, dI)) (ci := 0) (v := .int kd21) (C := R_Condition) (T := F_Condition) (N := 6) hx hb hts in_Condition hown hK hP (hO.inL (a := co) (by rw [hco]; decide)) (pf_K ef21) rfl 0 (by decide) (hts _ z_677) (fun _ h9 => h9) rfl d_Walk_holds_1 ?_
  by_cases hs4_0 : kd21 = 0
  · refine lv_tableIn (tgt := 36) (off := 32) hx hb d_Walk_holds_4 (by rw [hs4_0]; decide) (by rw [hs4_0]; decide) (by rw [hs4_0]; rfl) (by decide) ?_
    refine lv_aload_n hx hb d_Walk_holds_36 rfl (lv_at hl 0 rfl) ?_
    refine lv_aload_n hx hb d_Walk_holds_37 rfl (lv_at hl 1 rfl) ?_
    rcases fi21 with _ | b22
    · refine vq_get (D := (dC, dI)) (ci := 0) (v := .null) (C := R_Condition) (T := F_Condition) (N := 6) hx hb hts in_Condition hown hK hP (hO.inL (a := co) (by rw [hco]; decide)) (pf_K ef21) rfl 1 (by decide) (hts _ z_679) (fun _ h9 => h9) rfl d_Walk_holds_38 ?_
      refine lv_aload_n hx hb d_Walk_holds_41 rfl (lv_at hl 2 rfl) ?_
      obtain ⟨l8, hC8, hm8⟩ := (hKD.ax (pf_K ef21)).1 hs4_0
      subst hm8
      obtain rfl := hC8.no
      have hPc := hP.part (cx := [(wk, .inr (10, [.ref wl, .int (nI tp), .int (nI sp), .ref rt])), (wl, .inl (cV, 10000, .inr (.inr (.inr (.inr g)))))]) [0, 1] rfl
      have hDc := hD.part (cx := [(wk, .inr (10, [.ref wl, .int (nI tp), .int (nI sp), .ref rt])), (wl, .inl (cV, 10000, .inr (.inr (.inr (.inr g)))))]) [0, 1] (by decide) rfl
      have hFc := va_freeP (cx := [(wk, .inr (10, [.ref wl, .int (nI tp), .int (nI sp), .ref rt])), (wl, .inl (cV, 10000, .inr (.inr (.inr (.inr g)))))]) hD hS hA [0, 1] rfl
      have hKc := hK.sub (tys' := [(cI, .int), (cV, .object "QueryBench$Value")]) [0, 1] rfl
      refine w_same (fun hq0 => ?_)
      refine vx_calli (vx_runV (As := [.null, .ref cu]) (rest := []) ⟨hx, hb, hml, hown, hts⟩ (p_Walk_anyHolds0 l hl9 K dC dI s.heap cI cV E lv L f hO hN1 PL AL S wk wl rt hrt rtn hrn tp sp g ν hW9 hDq9 cu cun hcn n) (cwV 2 hts (gt_V (own := R_Walk) (C := R_Walk) (i := 161) (y := y_Walk_anyHolds) i_Walk_anyHolds z_899 z_901 (gt_sel (y := y_Walk_anyHolds) (n := 4) (by decide +kernel)) w_5) rfl rfl rfl (by decide +kernel) ⟨by show 59 + 5 * n + 1 ≤ 60 + 5 * n; omega, by show 8 + (4 + 11) + (2460 + 200 * n) ≤ 2500 + 200 * n; omega⟩) ⟨ml_blind, va_recv hK hP (ci := 10) (q0 := 0) rfl rfl, fun U hU hW => ⟨rfl, ⟨hU, by rw [hU]; exact hPc, va_K.moved hW.alike hKc, hDc.weaken (fun _ _ _ _ => trivial)⟩, hN.warm hW, by rw [hU]; exact ZX.moved' hW.alike (ZX.narrow' (ZX.kept' hZ hS.2.1) hFc), by rw [hU]; exact CE.call hC hS.2.1 hFc hW, va_AO.moved hW.alike hV⟩⟩ rfl rfl hl.1 rfl (lv_room (Nat.le_of_ble_eq_true rfl)) d_Walk_holds_42 ⟨Nat.le_of_ble_eq_true rfl, Nat.le_of_ble_eq_true rfl⟩) hS (fun q _ h => hFc q h) hFc (fun q _ h => hFc q h) (fun En ce q9 ⟨tx, sx, gx, nx⟩ t9 H1 locs ht hvm hw hB hz1 hk1 hS hce hcv hcl => ?_) (fun r23 ⟨s23, g23, n23⟩ t9 H1 locs ht hvm hw hB hz1 hk1 hS => ?_)
      · obtain ⟨hEn, hP1, hK1, hD1⟩ := hB
        rw [ht] at hP1
        obtain ⟨hP, hD⟩ := va_joinP (wr := []) (rx := [(wk, .inr (10, [.ref wl, .int tx, .int sx, .ref rt])), (wl, .inl (cV, 10000, .inr (.inr (.inr (.inr gx)))))]) (pl1 := va_pl L (pf f nx)) hP hD [0, 1] [] rfl rfl (by decide) (by decide) hk1 hFc hP1 hD1
        generalize H1 = H at hP hS hce ⊢
        have hP : va_P (dC, dI) classes ([(wk, .inr (10, [.ref wl, .int tx, .int sx, .ref rt])), (wl, .inl (cV, 10000, .inr (.inr (.inr (.inr gx)))))] ++ va_pl L (pf f nx)) H := hP
        have hD : va_D A ([(wk, .inr (10, [.ref wl, .int tx, .int sx, .ref rt])), (wl, .inl (cV, 10000, .inr (.inr (.inr (.inr gx)))))] ++ va_pl L (pf f nx)) := hD
        have hno : 10000 < sp + 0 := by have hw : 10000 < sp + 0 := hw.1; exact hw
        exact vx_out (fun x hx => (hex x hx).elim) hlocks hce hcv hcl (fun t9 ht2 ha => ⟨(tx, sx, gx, nx), ⟨hno, hw.2⟩, ⟨hEn, by rw [ht2]; exact hP, va_K.moved ha hK, hD⟩, hS.F ht2⟩) hS.2.2 (Nat.le_of_ble_eq_true rfl) (Nat.le_of_ble_eq_true rfl)
      · obtain ⟨⟨hP1, hK1, hD1⟩, hz9⟩ := hB
        rw [ht] at hP1
        rw [ht] at hz9
        refine w_tight (hq0.trans hz9) ?_
        have hq0 := hq0.trans hz9
        obtain ⟨hP, hD⟩ := va_joinP (wr := []) (rx := [(wk, .inr (10, [.ref wl, .int (nI tp), .int (nI s23), .ref rt])), (wl, .inl (cV, 10000, .inr (.inr (.inr (.inr g23)))))]) (pl1 := va_pl L (pf f n23)) hP hD [0, 1] [] rfl rfl (by decide) (by decide) hk1 hFc hP1 hD1
        generalize H1 = H at hP hS hq0 ⊢
        have hP : va_P (dC, dI) classes ([(wk, .inr (10, [.ref wl, .int (nI tp), .int (nI s23), .ref rt])), (wl, .inl (cV, 10000, .inr (.inr (.inr (.inr g23)))))] ++ va_pl L (pf f n23)) H := hP
        have hD : va_D A ([(wk, .inr (10, [.ref wl, .int (nI tp), .int (nI s23), .ref rt])), (wl, .inl (cV, 10000, .inr (.inr (.inr (.inr g23)))))] ++ va_pl L (pf f n23)) := hD
        obtain ⟨hr23, hA23⟩ := hw
        have hA23 : ASK E S 0 tp sp g ν s23 g23 n23 := hA23
        have hJ := hA23.2.1
        have hJ1 := hJ.1
        have hJ2 := hJ.2.1
        refine w_same (fun hq => ?_)
        refine W.widen (k := 1) (n := 6) (Nat.le_of_ble_eq_true rfl) (Nat.le_of_ble_eq_true rfl) ?_
        refine vx_ret ?_
        exact W.zret (v := r23) hx hb hr (Bo.nar (bI_Bo hr23)) (fun t9 ht hW => ⟨⟨r23, (s23, g23, n23), rfl, ⟨hr23, hA23⟩, ⟨by rw [ht]; exact hP, va_K.moved hW.alike hK, hD⟩, by rw [ht]; exact hq⟩, hS.F ht⟩) hS.2.2 d_Walk_holds_45
    · refine vq_get (D := (dC, dI)) (ci := 0) (v := .ref b22) (C := R_Condition) (T := F_Condition) (N := 6) hx hb hts in_Condition hown hK hP (hO.inL (a := co) (by rw [hco]; decide)) (pf_K ef21) rfl 1 (by decide) (hts _ z_679) (fun _ h9 => h9) rfl d_Walk_holds_38 ?_
      refine lv_aload_n hx hb d_Walk_holds_41 rfl (lv_at hl 2 rfl) ?_
      obtain ⟨l8, hC8, hm8⟩ := (hKD.ax (pf_K ef21)).1 hs4_0
      subst hm8
      have hlt := (hv21.1 b22 rfl).2
      have hPc := hP.part (cx := [(wk, .inr (10, [.ref wl, .int (nI tp), .int (nI sp), .ref rt])), (wl, .inl (cV, 10000, .inr (.inr (.inr (.inr g)))))]) [0, 1] rfl
      have hDc := hD.part (cx := [(wk, .inr (10, [.ref wl, .int (nI tp), .int (nI sp), .ref rt])), (wl, .inl (cV, 10000, .inr (.inr (.inr (.inr g)))))]) [0, 1] (by decide) rfl
      have hFc := va_freeP (cx := [(wk, .inr (10, [.ref wl, .int (nI tp), .int (nI sp), .ref rt])), (wl, .inl (cV, 10000, .inr (.inr (.inr (.inr g)))))]) hD hS hA [0, 1] rfl
      have hKc := hK.sub (tys' := [(cI, .int), (cV, .object "QueryBench$Value")]) [0, 1] rfl
      refine w_same (fun hq0 => ?_)
      refine vx_calli (vx_runV (As := [.ref b22, .ref cu]) (rest := []) ⟨hx, hb, hml, hown, hts⟩ (p_Walk_anyHolds l hl9 K dC dI s.heap cI cV E lv L f hO hN1 PL AL S wk wl rt hrt rtn hrn tp sp g ν hW9 hDq9 cu cun hcn n (by omega) (HI (by omega)) (some b22) (fun b h => by cases h; exact ⟨(hv21.1 b22 rfl).1, by omega⟩) l8 hC8) (cwV 2 hts (gt_V (own := R_Walk) (C := R_Walk) (i := 161) (y := y_Walk_anyHolds) i_Walk_anyHolds z_899 z_901 (gt_sel (y := y_Walk_anyHolds) (n := 4) (by decide +kernel)) w_5) rfl rfl rfl (by decide +kernel) ⟨by show 59 + 5 * n + 1 ≤ 60 + 5 * n; omega, by show 8 + (4 + 11) + (2460 + 200 * n) ≤ 2500 + 200 * n; omega⟩) ⟨ml_blind, va_recv hK hP (ci := 10) (q0 := 0) rfl rfl, fun U hU hW => ⟨rfl, ⟨hU, by rw [hU]; exact hPc, va_K.moved hW.alike hKc, hDc.weaken (fun _ _ _ _ => trivial)⟩, hN.warm hW, by rw [hU]; exact ZX.moved' hW.alike (ZX.narrow' (ZX.kept' hZ hS.2.1) hFc), by rw [hU]; exact CE.call hC hS.2.1 hFc hW, va_AO.moved hW.alike hV⟩⟩ rfl rfl hl.1 rfl (lv_room (Nat.le_of_ble_eq_true rfl)) d_Walk_holds_42 ⟨Nat.le_of_ble_eq_true rfl, Nat.le_of_ble_eq_true rfl⟩) hS (fun q _ h => hFc q h) hFc (fun q _ h => hFc q h) (fun En ce q9 ⟨tx, sx, gx, nx⟩ t9 H1 locs ht hvm hw hB hz1 hk1 hS hce hcv hcl => ?_) (fun r24 ⟨s24, g24, n24⟩ t9 H1 locs ht hvm hw hB hz1 hk1 hS => ?_)
      · obtain ⟨hEn, hP1, hK1, hD1⟩ := hB
        rw [ht] at hP1
        obtain ⟨hP, hD⟩ := va_joinP (wr := []) (rx := [(wk, .inr (10, [.ref wl, .int tx, .int sx, .ref rt])), (wl, .inl (cV, 10000, .inr (.inr (.inr (.inr gx)))))]) (pl1 := va_pl L (pf f nx)) hP hD [0, 1] [] rfl rfl (by decide) (by decide) hk1 hFc hP1 hD1
        generalize H1 = H at hP hS hce ⊢
        have hP : va_P (dC, dI) classes ([(wk, .inr (10, [.ref wl, .int tx, .int sx, .ref rt])), (wl, .inl (cV, 10000, .inr (.inr (.inr (.inr gx)))))] ++ va_pl L (pf f nx)) H := hP
        have hD : va_D A ([(wk, .inr (10, [.ref wl, .int tx, .int sx, .ref rt])), (wl, .inl (cV, 10000, .inr (.inr (.inr (.inr gx)))))] ++ va_pl L (pf f nx)) := hD
        have hno : 10000 < sp + (anyC_ l8 rtn cun).2 := by have hw : 10000 < sp + (anyC_ l8 rtn cun).2 := hw.1; exact hw
        exact vx_out (fun x hx => (hex x hx).elim) hlocks hce hcv hcl (fun t9 ht2 ha => ⟨(tx, sx, gx, nx), ⟨hno, hw.2⟩, ⟨hEn, by rw [ht2]; exact hP, va_K.moved ha hK, hD⟩, hS.F ht2⟩) hS.2.2 (Nat.le_of_ble_eq_true rfl) (Nat.le_of_ble_eq_true rfl)
      · obtain ⟨⟨hP1, hK1, hD1⟩, hz9⟩ := hB
        rw [ht] at hP1
        rw [ht] at hz9
        refine w_tight (hq0.trans hz9) ?_
        have hq0 := hq0.trans hz9
        obtain ⟨hP, hD⟩ := va_joinP (wr := []) (rx := [(wk, .inr (10, [.ref wl, .int (nI tp), .int (nI s24), .ref rt])), (wl, .inl (cV, 10000, .inr (.inr (.inr (.inr g24)))))]) (pl1 := va_pl L (pf f n24)) hP hD [0, 1] [] rfl rfl (by decide) (by decide) hk1 hFc hP1 hD1
        generalize H1 = H at hP hS hq0 ⊢
        have hP : va_P (dC, dI) classes ([(wk, .inr (10, [.ref wl, .int (nI tp), .int (nI s24), .ref rt])), (wl, .inl (cV, 10000, .inr (.inr (.inr (.inr g24)))))] ++ va_pl L (pf f n24)) H := hP
        have hD : va_D A ([(wk, .inr (10, [.ref wl, .int (nI tp), .int (nI s24), .ref rt])), (wl, .inl (cV, 10000, .inr (.inr (.inr (.inr g24)))))] ++ va_pl L (pf f n24)) := hD
        obtain ⟨hr24, hA24⟩ := hw
        have hA24 : ASK E S (anyC_ l8 rtn cun).2 tp sp g ν s24 g24 n24 := hA24
        have hJ := hA24.2.1
        have hJ1 := hJ.1
        have hJ2 := hJ.2.1
        refine w_same (fun hq => ?_)
        refine W.widen (k := 1) (n := 6) (Nat.le_of_ble_eq_true rfl) (Nat.le_of_ble_eq_true rfl) ?_
        refine vx_ret ?_
        exact W.zret (v := r24) hx hb hr (Bo.nar (bI_Bo hr24)) (fun t9 ht hW => ⟨⟨r24, (s24, g24, n24), rfl, ⟨hr24, hA24⟩, ⟨by rw [ht]; exact hP, va_K.moved hW.alike hK, hD⟩, by rw [ht]; exact hq⟩, hS.F ht⟩) hS.2.2 d_Walk_holds_45
  · by_cases hs4_1 : kd21 = 1
    · refine lv_tableIn (tgt := 46) (off := 42) hx hb d_Walk_holds_4 (by rw [hs4_1]; decide) (by rw [hs4_1]; decide) (by rw [hs4_1]; rfl) (by decide) ?_
      refine lv_aload_n hx hb d_Walk_holds_46 rfl (lv_at hl 0 rfl) ?_
      refine lv_aload_n hx hb d_Walk_holds_47 rfl (lv_at hl 1 rfl) ?_
      rcases fi21 with _ | b25
      · refine vq_get (D := (dC, dI)) (ci := 0) (v := .null) (C := R_Condition) (T := F_Condition) (N := 6) hx hb hts in_Condition hown hK hP (hO.inL (a := co) (by rw [hco]; decide)) (pf_K ef21) rfl 1 (by decide) (hts _ z_679) (fun _ h9 => h9) rfl d_Walk_holds_48 ?_
        refine lv_aload_n hx hb d_Walk_holds_51 rfl (lv_at hl 2 rfl) ?_
        obtain ⟨l8, hC8, hm8⟩ := (hKD.ax (pf_K ef21)).2.1 hs4_1
        subst hm8
        obtain rfl := hC8.no
        have hPc := hP.part (cx := [(wk, .inr (10, [.ref wl, .int (nI tp), .int (nI sp), .ref rt])), (wl, .inl (cV, 10000, .inr (.inr (.inr (.inr g)))))]) [0, 1] rfl
        have hDc := hD.part (cx := [(wk, .inr (10, [.ref wl, .int (nI tp), .int (nI sp), .ref rt])), (wl, .inl (cV, 10000, .inr (.inr (.inr (.inr g)))))]) [0, 1] (by decide) rfl
        have hFc := va_freeP (cx := [(wk, .inr (10, [.ref wl, .int (nI tp), .int (nI sp), .ref rt])), (wl, .inl (cV, 10000, .inr (.inr (.inr (.inr g)))))]) hD hS hA [0, 1] rfl
        have hKc := hK.sub (tys' := [(cI, .int), (cV, .object "QueryBench$Value")]) [0, 1] rfl
        refine w_same (fun hq0 => ?_)
        refine vx_calli (vx_runV (As := [.null, .ref cu]) (rest := []) ⟨hx, hb, hml, hown, hts⟩ (p_Walk_allHold0 l hl9 K dC dI s.heap cI cV E lv L f hO hN1 PL AL S wk wl rt hrt rtn hrn tp sp g ν hW9 hDq9 cu cun hcn n) (cwV 2 hts (gt_V (own := R_Walk) (C := R_Walk) (i := 164) (y := y_Walk_allHold) i_Walk_allHold z_903 z_905 (gt_sel (y := y_Walk_allHold) (n := 4) (by decide +kernel)) w_5) rfl rfl rfl (by decide +kernel) ⟨by show 59 + 5 * n + 1 ≤ 60 + 5 * n; omega, by show 8 + (4 + 11) + (2460 + 200 * n) ≤ 2500 + 200 * n; omega⟩) ⟨ml_blind, va_recv hK hP (ci := 10) (q0 := 0) rfl rfl, fun U hU hW => ⟨rfl, ⟨hU, by rw [hU]; exact hPc, va_K.moved hW.alike hKc, hDc.weaken (fun _ _ _ _ => trivial)⟩, hN.warm hW, by rw [hU]; exact ZX.moved' hW.alike (ZX.narrow' (ZX.kept' hZ hS.2.1) hFc), by rw [hU]; exact CE.call hC hS.2.1 hFc hW, va_AO.moved hW.alike hV⟩⟩ rfl rfl hl.1 rfl (lv_room (Nat.le_of_ble_eq_true rfl)) d_Walk_holds_52 ⟨Nat.le_of_ble_eq_true rfl, Nat.le_of_ble_eq_true rfl⟩) hS (fun q _ h => hFc q h) hFc (fun q _ h => hFc q h) (fun En ce q9 ⟨tx, sx, gx, nx⟩ t9 H1 locs ht hvm hw hB hz1 hk1 hS hce hcv hcl => ?_) (fun r26 ⟨s26, g26, n26⟩ t9 H1 locs ht hvm hw hB hz1 hk1 hS => ?_)
        · obtain ⟨hEn, hP1, hK1, hD1⟩ := hB
          rw [ht] at hP1
          obtain ⟨hP, hD⟩ := va_joinP (wr := []) (rx := [(wk, .inr (10, [.ref wl, .int tx, .int sx, .ref rt])), (wl, .inl (cV, 10000, .inr (.inr (.inr (.inr gx)))))]) (pl1 := va_pl L (pf f nx)) hP hD [0, 1] [] rfl rfl (by decide) (by decide) hk1 hFc hP1 hD1
          generalize H1 = H at hP hS hce ⊢
          have hP : va_P (dC, dI) classes ([(wk, .inr (10, [.ref wl, .int tx, .int sx, .ref rt])), (wl, .inl (cV, 10000, .inr (.inr (.inr (.inr gx)))))] ++ va_pl L (pf f nx)) H := hP
          have hD : va_D A ([(wk, .inr (10, [.ref wl, .int tx, .int sx, .ref rt])), (wl, .inl (cV, 10000, .inr (.inr (.inr (.inr gx)))))] ++ va_pl L (pf f nx)) := hD
          have hno : 10000 < sp + 0 := by have hw : 10000 < sp + 0 := hw.1; exact hw
          exact vx_out (fun x hx => (hex x hx).elim) hlocks hce hcv hcl (fun t9 ht2 ha => ⟨(tx, sx, gx, nx), ⟨hno, hw.2⟩, ⟨hEn, by rw [ht2]; exact hP, va_K.moved ha hK, hD⟩, hS.F ht2⟩) hS.2.2 (Nat.le_of_ble_eq_true rfl) (Nat.le_of_ble_eq_true rfl)
        · obtain ⟨⟨hP1, hK1, hD1⟩, hz9⟩ := hB
          rw [ht] at hP1
          rw [ht] at hz9
          refine w_tight (hq0.trans hz9) ?_
          have hq0 := hq0.trans hz9
          obtain ⟨hP, hD⟩ := va_joinP (wr := []) (rx := [(wk, .inr (10, [.ref wl, .int (nI tp), .int (nI s26), .ref rt])), (wl, .inl (cV, 10000, .inr (.inr (.inr (.inr g26)))))]) (pl1 := va_pl L (pf f n26)) hP hD [0, 1] [] rfl rfl (by decide) (by decide) hk1 hFc hP1 hD1
          generalize H1 = H at hP hS hq0 ⊢
          have hP : va_P (dC, dI) classes ([(wk, .inr (10, [.ref wl, .int (nI tp), .int (nI s26), .ref rt])), (wl, .inl (cV, 10000, .inr (.inr (.inr (.inr g26)))))] ++ va_pl L (pf f n26)) H := hP
          have hD : va_D A ([(wk, .inr (10, [.ref wl, .int (nI tp), .int (nI s26), .ref rt])), (wl, .inl (cV, 10000, .inr (.inr (.inr (.inr g26)))))] ++ va_pl L (pf f n26)) := hD
          obtain ⟨hr26, hA26⟩ := hw
          have hA26 : ASK E S 0 tp sp g ν s26 g26 n26 := hA26
          have hJ := hA26.2.1
          have hJ1 := hJ.1
          have hJ2 := hJ.2.1
          refine w_same (fun hq => ?_)
          refine W.widen (k := 1) (n := 6) (Nat.le_of_ble_eq_true rfl) (Nat.le_of_ble_eq_true rfl) ?_
          refine vx_ret ?_
          exact W.zret (v := r26) hx hb hr (Bo.nar (bI_Bo hr26)) (fun t9 ht hW => ⟨⟨r26, (s26, g26, n26), rfl, ⟨hr26, hA26⟩, ⟨by rw [ht]; exact hP, va_K.moved hW.alike hK, hD⟩, by rw [ht]; exact hq⟩, hS.F ht⟩) hS.2.2 d_Walk_holds_55
      · refine vq_get (D := (dC, dI)) (ci := 0) (v := .ref b25) (C := R_Condition) (T := F_Condition) (N := 6) hx hb hts in_Condition hown hK hP (hO.inL (a := co) (by rw [hco]; decide)) (pf_K ef21) rfl 1 (by decide) (hts _ z_679) (fun _ h9 => h9) rfl d_Walk_holds_48 ?_
        refine lv_aload_n hx hb d_Walk_holds_51 rfl (lv_at hl 2 rfl) ?_
        obtain ⟨l8, hC8, hm8⟩ := (hKD.ax (pf_K ef21)).2.1 hs4_1
        subst hm8
        have hlt := (hv21.1 b25 rfl).2
        have hPc := hP.part (cx := [(wk, .inr (10, [.ref wl, .int (nI tp), .int (nI sp), .ref rt])), (wl, .inl (cV, 10000, .inr (.inr (.inr (.inr g)))))]) [0, 1] rfl
        have hDc := hD.part (cx := [(wk, .inr (10, [.ref wl, .int (nI tp), .int (nI sp), .ref rt])), (wl, .inl (cV, 10000, .inr (.inr (.inr (.inr g)))))]) [0, 1] (by decide) rfl
        have hFc := va_freeP (cx := [(wk, .inr (10, [.ref wl, .int (nI tp), .int (nI sp), .ref rt])), (wl, .inl (cV, 10000, .inr (.inr (.inr (.inr g)))))]) hD hS hA [0, 1] rfl
        have hKc := hK.sub (tys' := [(cI, .int), (cV, .object "QueryBench$Value")]) [0, 1] rfl
        refine w_same (fun hq0 => ?_)
        refine vx_calli (vx_runV (As := [.ref b25, .ref cu]) (rest := []) ⟨hx, hb, hml, hown, hts⟩ (p_Walk_allHold l hl9 K dC dI s.heap cI cV E lv L f hO hN1 PL AL S wk wl rt hrt rtn hrn tp sp g ν hW9 hDq9 cu cun hcn n (by omega) (HI (by omega)) (some b25) (fun b h => by cases h; exact ⟨(hv21.1 b25 rfl).1, by omega⟩) l8 hC8) (cwV 2 hts (gt_V (own := R_Walk) (C := R_Walk) (i := 164) (y := y_Walk_allHold) i_Walk_allHold z_903 z_905 (gt_sel (y := y_Walk_allHold) (n := 4) (by decide +kernel)) w_5) rfl rfl rfl (by decide +kernel) ⟨by show 59 + 5 * n + 1 ≤ 60 + 5 * n; omega, by show 8 + (4 + 11) + (2460 + 200 * n) ≤ 2500 + 200 * n; omega⟩) ⟨ml_blind, va_recv hK hP (ci := 10) (q0 := 0) rfl rfl, fun U hU hW => ⟨rfl, ⟨hU, by rw [hU]; exact hPc, va_K.moved hW.alike hKc, hDc.weaken (fun _ _ _ _ => trivial)⟩, hN.warm hW, by rw [hU]; exact ZX.moved' hW.alike (ZX.narrow' (ZX.kept' hZ hS.2.1) hFc), by rw [hU]; exact CE.call hC hS.2.1 hFc hW, va_AO.moved hW.alike hV⟩⟩ rfl rfl hl.1 rfl (lv_room (Nat.le_of_ble_eq_true rfl)) d_Walk_holds_52 ⟨Nat.le_of_ble_eq_true rfl, Nat.le_of_ble_eq_true rfl⟩) hS (fun q _ h => hFc q h) hFc (fun q _ h => hFc q h) (fun En ce q9 ⟨tx, sx, gx, nx⟩ t9 H1 locs ht hvm hw hB hz1 hk1 hS hce hcv hcl => ?_) (fun r27 ⟨s27, g27, n27⟩ t9 H1 locs ht hvm hw hB hz1 hk1 hS => ?_)
        · obtain ⟨hEn, hP1, hK1, hD1⟩ := hB
          rw [ht] at hP1
          obtain ⟨hP, hD⟩ := va_joinP (wr := []) (rx := [(wk, .inr (10, [.ref wl, .int tx, .int sx, .ref rt])), (wl, .inl (cV, 10000, .inr (.inr (.inr (.inr gx)))))]) (pl1 := va_pl L (pf f nx)) hP hD [0, 1] [] rfl rfl (by decide) (by decide) hk1 hFc hP1 hD1
          generalize H1 = H at hP hS hce ⊢
          have hP : va_P (dC, dI) classes ([(wk, .inr (10, [.ref wl, .int tx, .int sx, .ref rt])), (wl, .inl (cV, 10000, .inr (.inr (.inr (.inr gx)))))] ++ va_pl L (pf f nx)) H := hP
          have hD : va_D A ([(wk, .inr (10, [.ref wl, .int tx, .int sx, .ref rt])), (wl, .inl (cV, 10000, .inr (.inr (.inr (.inr gx)))))] ++ va_pl L (pf f nx)) := hD
          have hno : 10000 < sp + (allC l8 rtn cun).2 := by have hw : 10000 < sp + (allC l8 rtn cun).2 := hw.1; exact hw
          exact vx_out (fun x hx => (hex x hx).elim) hlocks hce hcv hcl (fun t9 ht2 ha => ⟨(tx, sx, gx, nx), ⟨hno, hw.2⟩, ⟨hEn, by rw [ht2]; exact hP, va_K.moved ha hK, hD⟩, hS.F ht2⟩) hS.2.2 (Nat.le_of_ble_eq_true rfl) (Nat.le_of_ble_eq_true rfl)
        · obtain ⟨⟨hP1, hK1, hD1⟩, hz9⟩ := hB
          rw [ht] at hP1
          rw [ht] at hz9
          refine w_tight (hq0.trans hz9) ?_
          have hq0 := hq0.trans hz9
          obtain ⟨hP, hD⟩ := va_joinP (wr := []) (rx := [(wk, .inr (10, [.ref wl, .int (nI tp), .int (nI s27), .ref rt])), (wl, .inl (cV, 10000, .inr (.inr (.inr (.inr g27)))))]) (pl1 := va_pl L (pf f n27)) hP hD [0, 1] [] rfl rfl (by decide) (by decide) hk1 hFc hP1 hD1
          generalize H1 = H at hP hS hq0 ⊢
          have hP : va_P (dC, dI) classes ([(wk, .inr (10, [.ref wl, .int (nI tp), .int (nI s27), .ref rt])), (wl, .inl (cV, 10000, .inr (.inr (.inr (.inr g27)))))] ++ va_pl L (pf f n27)) H := hP
          have hD : va_D A ([(wk, .inr (10, [.ref wl, .int (nI tp), .int (nI s27), .ref rt])), (wl, .inl (cV, 10000, .inr (.inr (.inr (.inr g27)))))] ++ va_pl L (pf f n27)) := hD
          obtain ⟨hr27, hA27⟩ := hw
          have hA27 : ASK E S (allC l8 rtn cun).2 tp sp g ν s27 g27 n27 := hA27
          have hJ := hA27.2.1
          have hJ1 := hJ.1
          have hJ2 := hJ.2.1
          refine w_same (fun hq => ?_)
          refine W.widen (k := 1) (n := 6) (Nat.le_of_ble_eq_true rfl) (Nat.le_of_ble_eq_true rfl) ?_
          refine vx_ret ?_
          exact W.zret (v := r27) hx hb hr (Bo.nar (bI_Bo hr27)) (fun t9 ht hW => ⟨⟨r27, (s27, g27, n27), rfl, ⟨hr27, hA27⟩, ⟨by rw [ht]; exact hP, va_K.moved hW.alike hK, hD⟩, by rw [ht]; exact hq⟩, hS.F ht⟩) hS.2.2 d_Walk_holds_55
    · by_cases hs4_2 : kd21 = 2
      · refine lv_tableIn (tgt := 56) (off := 52) hx hb d_Walk_holds_4 (by rw [hs4_2]; decide) (by rw [hs4_2]; decide) (by rw [hs4_2]; rfl) (by decide) ?_
        refine lv_aload_n hx hb d_Walk_holds_56 rfl (lv_at hl 0 rfl) ?_
        refine lv_aload_n hx hb d_Walk_holds_57 rfl (lv_at hl 1 rfl) ?_
        rcases fi21 with _ | b28
        · exact absurd rfl (hv21.2.2.2.2.2.1 hs4_2)
        · refine vq_get (D := (dC, dI)) (ci := 0) (v := .ref b28) (C := R_Condition) (T := F_Condition) (N := 6) hx hb hts in_Condition hown hK hP (hO.inL (a := co) (by rw [hco]; decide)) (pf_K ef21) rfl 1 (by decide) (hts _ z_679) (fun _ h9 => h9) rfl d_Walk_holds_58 ?_
          refine lv_aload_n hx hb d_Walk_holds_61 rfl (lv_at hl 2 rfl) ?_
          have hlt := (hv21.1 b28 rfl).2
          obtain ⟨b8, g8, e8, -, hK8, hm8⟩ := (hKD.ax (pf_K ef21)).2.2.1 hs4_2
          obtain rfl := Option.some.inj e8
          subst hm8
          have hPc := hP.part (cx := [(wk, .inr (10, [.ref wl, .int (nI tp), .int (nI sp), .ref rt])), (wl, .inl (cV, 10000, .inr (.inr (.inr (.inr g)))))]) [0, 1] rfl
          have hDc := hD.part (cx := [(wk, .inr (10, [.ref wl, .int (nI tp), .int (nI sp), .ref rt])), (wl, .inl (cV, 10000, .inr (.inr (.inr (.inr g)))))]) [0, 1] (by decide) rfl
          have hFc := va_freeP (cx := [(wk, .inr (10, [.ref wl, .int (nI tp), .int (nI sp), .ref rt])), (wl, .inl (cV, 10000, .inr (.inr (.inr (.inr g)))))]) hD hS hA [0, 1] rfl
          have hKc := hK.sub (tys' := [(cI, .int), (cV, .object "QueryBench$Value")]) [0, 1] rfl
          refine w_same (fun hq0 => ?_)
          refine vx_calli (vx_runV (As := [.ref b28, .ref cu]) (rest := []) ⟨hx, hb, hml, hown, hts⟩ ((HI (by omega)) s.heap S tp sp g ν hW9 hDq9 b28 cu g8 cun (hv21.1 b28 rfl).1 (by omega) hK8 hcn) (cwV 2 hts (gt_V (own := R_Walk) (C := R_Walk) (i := 152) (y := y_Walk_holds) i_Walk_holds z_895 z_897 (gt_sel (y := y_Walk_holds) (n := 4) (by decide +kernel)) w_5) rfl rfl rfl (by decide +kernel) ⟨by show 60 + 5 * (n - 1) + 1 ≤ 60 + 5 * n; omega, by show 8 + (3 + 11) + (2500 + 200 * (n - 1)) ≤ 2500 + 200 * n; omega⟩) ⟨ml_blind, va_recv hK hP (ci := 10) (q0 := 0) rfl rfl, fun U hU hW => ⟨rfl, ⟨hU, by rw [hU]; exact hPc, va_K.moved hW.alike hKc, hDc.weaken (fun _ _ _ _ => trivial)⟩, hN.warm hW, by rw [hU]; exact ZX.moved' hW.alike (ZX.narrow' (ZX.kept' hZ hS.2.1) hFc), by rw [hU]; exact CE.call hC hS.2.1 hFc hW, va_AO.moved hW.alike hV⟩⟩ rfl rfl hl.1 rfl (lv_room (Nat.le_of_ble_eq_true rfl)) d_Walk_holds_62 ⟨Nat.le_of_ble_eq_true rfl, Nat.le_of_ble_eq_true rfl⟩) hS (fun q _ h => hFc q h) hFc (fun q _ h => hFc q h) (fun En ce q9 ⟨tx, sx, gx, nx⟩ t9 H1 locs ht hvm hw hB hz1 hk1 hS hce hcv hcl => ?_) (fun r29 ⟨s29, g29, n29⟩ t9 H1 locs ht hvm hw hB hz1 hk1 hS => ?_)
          · obtain ⟨hEn, hP1, hK1, hD1⟩ := hB
            rw [ht] at hP1
            obtain ⟨hP, hD⟩ := va_joinP (wr := []) (rx := [(wk, .inr (10, [.ref wl, .int tx, .int sx, .ref rt])), (wl, .inl (cV, 10000, .inr (.inr (.inr (.inr gx)))))]) (pl1 := va_pl L (pf f nx)) hP hD [0, 1] [] rfl rfl (by decide) (by decide) hk1 hFc hP1 hD1
            generalize H1 = H at hP hS hce ⊢
            have hP : va_P (dC, dI) classes ([(wk, .inr (10, [.ref wl, .int tx, .int sx, .ref rt])), (wl, .inl (cV, 10000, .inr (.inr (.inr (.inr gx)))))] ++ va_pl L (pf f nx)) H := hP
            have hD : va_D A ([(wk, .inr (10, [.ref wl, .int tx, .int sx, .ref rt])), (wl, .inl (cV, 10000, .inr (.inr (.inr (.inr gx)))))] ++ va_pl L (pf f nx)) := hD
            have hno : 10000 < sp + (notC g8 rtn cun).2 := by have hw : 10000 < sp + (g8 rtn cun).2 := hw.1; exact hw
            exact vx_out (fun x hx => (hex x hx).elim) hlocks hce hcv hcl (fun t9 ht2 ha => ⟨(tx, sx, gx, nx), ⟨hno, hw.2⟩, ⟨hEn, by rw [ht2]; exact hP, va_K.moved ha hK, hD⟩, hS.F ht2⟩) hS.2.2 (Nat.le_of_ble_eq_true rfl) (Nat.le_of_ble_eq_true rfl)
          · obtain ⟨⟨hP1, hK1, hD1⟩, hz9⟩ := hB
            rw [ht] at hP1
            rw [ht] at hz9
            refine w_tight (hq0.trans hz9) ?_
            have hq0 := hq0.trans hz9
            obtain ⟨hP, hD⟩ := va_joinP (wr := []) (rx := [(wk, .inr (10, [.ref wl, .int (nI tp), .int (nI s29), .ref rt])), (wl, .inl (cV, 10000, .inr (.inr (.inr (.inr g29)))))]) (pl1 := va_pl L (pf f n29)) hP hD [0, 1] [] rfl rfl (by decide) (by decide) hk1 hFc hP1 hD1
            generalize H1 = H at hP hS hq0 ⊢
            have hP : va_P (dC, dI) classes ([(wk, .inr (10, [.ref wl, .int (nI tp), .int (nI s29), .ref rt])), (wl, .inl (cV, 10000, .inr (.inr (.inr (.inr g29)))))] ++ va_pl L (pf f n29)) H := hP
            have hD : va_D A ([(wk, .inr (10, [.ref wl, .int (nI tp), .int (nI s29), .ref rt])), (wl, .inl (cV, 10000, .inr (.inr (.inr (.inr g29)))))] ++ va_pl L (pf f n29)) := hD
            obtain ⟨hr29, hA29⟩ := hw
            have hA29 : ASK E S (g8 rtn cun).2 tp sp g ν s29 g29 n29 := hA29
            have hJ := hA29.2.1
            have hJ1 := hJ.1
            have hJ2 := hJ.2.1
            have hr8 : r29 = bI (g8 rtn cun).1 := hr29
            refine lv_if_ne (tgt := 72) hx hb d_Walk_holds_65 (by decide) (fun c65 => ?_) (fun c65 => ?_)
            · refine lv_iconst (v := 0) hx hb d_Walk_holds_72 (by decide) ?_
              refine w_same (fun hq => ?_)
              refine W.widen (k := 1) (n := 6) (Nat.le_of_ble_eq_true rfl) (Nat.le_of_ble_eq_true rfl) ?_
              refine vx_ret ?_
              exact W.zret (v := 0) hx hb hr rfl (fun t9 ht hW => ⟨⟨0, (s29, g29, n29), rfl, ⟨(by show _ = bI (!(g8 rtn cun).1); rw [(bI_01 hr8).1 c65]; rfl), hA29⟩, ⟨by rw [ht]; exact hP, va_K.moved hW.alike hK, hD⟩, by rw [ht]; exact hq⟩, hS.F ht⟩) hS.2.2 d_Walk_holds_73
            · refine lv_iconst (v := 1) hx hb d_Walk_holds_68 (by decide) ?_
              refine lv_goto (tgt := 73) hx hb d_Walk_holds_69 (by decide) ?_
              refine w_same (fun hq => ?_)
              refine W.widen (k := 1) (n := 6) (Nat.le_of_ble_eq_true rfl) (Nat.le_of_ble_eq_true rfl) ?_
              refine vx_ret ?_
              exact W.zret (v := 1) hx hb hr rfl (fun t9 ht hW => ⟨⟨1, (s29, g29, n29), rfl, ⟨(by show _ = bI (!(g8 rtn cun).1); rw [(bI_01 hr8).2 c65]; rfl), hA29⟩, ⟨by rw [ht]; exact hP, va_K.moved hW.alike hK, hD⟩, by rw [ht]; exact hq⟩, hS.F ht⟩) hS.2.2 d_Walk_holds_73
      · by_cases hs4_3 : kd21 = 3
        · refine lv_tableIn (tgt := 74) (off := 70) hx hb d_Walk_holds_4 (by rw [hs4_3]; decide) (by rw [hs4_3]; decide) (by rw [hs4_3]; rfl) (by decide) ?_
          refine lv_aload_n hx hb d_Walk_holds_74 rfl (lv_at hl 0 rfl) ?_
          refine lv_aload_n hx hb d_Walk_holds_75 rfl (lv_at hl 1 rfl) ?_
          rcases qu21 with _ | b30
          · exact absurd rfl (hv21.2.2.2.2.2.2.1 hs4_3)
          · refine vq_get (D := (dC, dI)) (ci := 0) (v := .ref b30) (C := R_Condition) (T := F_Condition) (N := 6) hx hb hts in_Condition hown hK hP (hO.inL (a := co) (by rw [hco]; decide)) (pf_K ef21) rfl 3 (by decide) (hts _ z_683) (fun _ h9 => h9) rfl d_Walk_holds_76 ?_
            refine lv_aload_n hx hb d_Walk_holds_79 rfl (lv_at hl 2 rfl) ?_
            have hlt := (hv21.2.2.1 b30 rfl).2
            obtain ⟨q8, s8, e8, -, hQ8, hm8⟩ := (hKD.ax (pf_K ef21)).2.2.2.1 hs4_3
            obtain rfl := Option.some.inj e8
            subst hm8
            have hPc := hP.part (cx := [(wk, .inr (10, [.ref wl, .int (nI tp), .int (nI sp), .ref rt])), (wl, .inl (cV, 10000, .inr (.inr (.inr (.inr g)))))]) [0, 1] rfl
            have hDc := hD.part (cx := [(wk, .inr (10, [.ref wl, .int (nI tp), .int (nI sp), .ref rt])), (wl, .inl (cV, 10000, .inr (.inr (.inr (.inr g)))))]) [0, 1] (by decide) rfl
            have hFc := va_freeP (cx := [(wk, .inr (10, [.ref wl, .int (nI tp), .int (nI sp), .ref rt])), (wl, .inl (cV, 10000, .inr (.inr (.inr (.inr g)))))]) hD hS hA [0, 1] rfl
            have hKc := hK.sub (tys' := [(cI, .int), (cV, .object "QueryBench$Value")]) [0, 1] rfl
            refine w_same (fun hq0 => ?_)
            refine vx_calli (vx_runV (As := [.ref b30, .ref cu]) (rest := []) ⟨hx, hb, hml, hown, hts⟩ (p_Walk_nodeCount l hl9 K dC dI s.heap cI cV E lv L f hO hN1 PL AL S wk wl rt hrt rtn hrn tp sp g ν hW9 hDq9 cu cun hcn n (by omega) (HN (by omega)) b30 (hv21.2.2.1 b30 rfl).1 (by omega) s8 hQ8) (cwV 2 hts (gt_V (own := R_Walk) (C := R_Walk) (i := 171) (y := y_Walk_nodeCount) i_Walk_nodeCount z_907 z_909 (gt_sel (y := y_Walk_nodeCount) (n := 4) (by decide +kernel)) w_5) rfl rfl rfl (by decide +kernel) ⟨by show 59 + 5 * n + 1 ≤ 60 + 5 * n; omega, by show 8 + (6 + 11) + (2460 + 200 * n) ≤ 2500 + 200 * n; omega⟩) ⟨ml_blind, va_recv hK hP (ci := 10) (q0 := 0) rfl rfl, fun U hU hW => ⟨rfl, ⟨hU, by rw [hU]; exact hPc, va_K.moved hW.alike hKc, hDc.weaken (fun _ _ _ _ => trivial)⟩, hN.warm hW, by rw [hU]; exact ZX.moved' hW.alike (ZX.narrow' (ZX.kept' hZ hS.2.1) hFc), by rw [hU]; exact CE.call hC hS.2.1 hFc hW, va_AO.moved hW.alike hV⟩⟩ rfl rfl hl.1 rfl (lv_room (Nat.le_of_ble_eq_true rfl)) d_Walk_holds_80 ⟨Nat.le_of_ble_eq_true rfl, Nat.le_of_ble_eq_true rfl⟩) hS (fun q _ h => hFc q h) hFc (fun q _ h => hFc q h) (fun En ce q9 ⟨tx, sx, gx, nx⟩ t9 H1 locs ht hvm hw hB hz1 hk1 hS hce hcv hcl => ?_) (fun r31 ⟨s31, g31, n31⟩ t9 H1 locs ht hvm hw hB hz1 hk1 hS => ?_)
            · obtain ⟨hEn, hP1, hK1, hD1⟩ := hB
              rw [ht] at hP1
              obtain ⟨hP, hD⟩ := va_joinP (wr := []) (rx := [(wk, .inr (10, [.ref wl, .int tx, .int sx, .ref rt])), (wl, .inl (cV, 10000, .inr (.inr (.inr (.inr gx)))))]) (pl1 := va_pl L (pf f nx)) hP hD [0, 1] [] rfl rfl (by decide) (by decide) hk1 hFc hP1 hD1
              generalize H1 = H at hP hS hce ⊢
              have hP : va_P (dC, dI) classes ([(wk, .inr (10, [.ref wl, .int tx, .int sx, .ref rt])), (wl, .inl (cV, 10000, .inr (.inr (.inr (.inr gx)))))] ++ va_pl L (pf f nx)) H := hP
              have hD : va_D A ([(wk, .inr (10, [.ref wl, .int tx, .int sx, .ref rt])), (wl, .inl (cV, 10000, .inr (.inr (.inr (.inr gx)))))] ++ va_pl L (pf f nx)) := hD
              have hno : 10000 < sp + (tstC s8 rtn cun).2 := by have hw : 10000 < sp + (s8 rtn cun).2 := hw.1; exact hw
              exact vx_out (fun x hx => (hex x hx).elim) hlocks hce hcv hcl (fun t9 ht2 ha => ⟨(tx, sx, gx, nx), ⟨hno, hw.2⟩, ⟨hEn, by rw [ht2]; exact hP, va_K.moved ha hK, hD⟩, hS.F ht2⟩) hS.2.2 (Nat.le_of_ble_eq_true rfl) (Nat.le_of_ble_eq_true rfl)
            · obtain ⟨⟨hP1, hK1, hD1⟩, hz9⟩ := hB
              rw [ht] at hP1
              rw [ht] at hz9
              refine w_tight (hq0.trans hz9) ?_
              have hq0 := hq0.trans hz9
              obtain ⟨hP, hD⟩ := va_joinP (wr := []) (rx := [(wk, .inr (10, [.ref wl, .int (nI tp), .int (nI s31), .ref rt])), (wl, .inl (cV, 10000, .inr (.inr (.inr (.inr g31)))))]) (pl1 := va_pl L (pf f n31)) hP hD [0, 1] [] rfl rfl (by decide) (by decide) hk1 hFc hP1 hD1
              generalize H1 = H at hP hS hq0 ⊢
              have hP : va_P (dC, dI) classes ([(wk, .inr (10, [.ref wl, .int (nI tp), .int (nI s31), .ref rt])), (wl, .inl (cV, 10000, .inr (.inr (.inr (.inr g31)))))] ++ va_pl L (pf f n31)) H := hP
              have hD : va_D A ([(wk, .inr (10, [.ref wl, .int (nI tp), .int (nI s31), .ref rt])), (wl, .inl (cV, 10000, .inr (.inr (.inr (.inr g31)))))] ++ va_pl L (pf f n31)) := hD
              obtain ⟨hr31, hA31⟩ := hw
              have hA31 : ASK E S (s8 rtn cun).2 tp sp g ν s31 g31 n31 := hA31
              have hJ := hA31.2.1
              have hJ1 := hJ.1
              have hJ2 := hJ.2.1
              obtain ⟨hr8, hln⟩ := hr31
              have hr8 : r31 = nI (s8 rtn cun).1.length := hr8
              refine lv_if_le (tgt := 90) hx hb d_Walk_holds_83 (by decide) (fun c83 => ?_) (fun c83 => ?_)
              · refine lv_iconst (v := 0) hx hb d_Walk_holds_90 (by decide) ?_
                refine w_same (fun hq => ?_)
                refine W.widen (k := 1) (n := 6) (Nat.le_of_ble_eq_true rfl) (Nat.le_of_ble_eq_true rfl) ?_
                refine vx_ret ?_
                exact W.zret (v := 0) hx hb hr rfl (fun t9 ht hW => ⟨⟨0, (s31, g31, n31), rfl, ⟨(by show _ = bI (!(s8 rtn cun).1.isEmpty); rw [emp_0 hr8 hln c83]; rfl), hA31⟩, ⟨by rw [ht]; exact hP, va_K.moved hW.alike hK, hD⟩, by rw [ht]; exact hq⟩, hS.F ht⟩) hS.2.2 d_Walk_holds_91
              · refine lv_iconst (v := 1) hx hb d_Walk_holds_86 (by decide) ?_
                refine lv_goto (tgt := 91) hx hb d_Walk_holds_87 (by decide) ?_
                refine w_same (fun hq => ?_)
                refine W.widen (k := 1) (n := 6) (Nat.le_of_ble_eq_true rfl) (Nat.le_of_ble_eq_true rfl) ?_
                refine vx_ret ?_
                exact W.zret (v := 1) hx hb hr rfl (fun t9 ht hW => ⟨⟨1, (s31, g31, n31), rfl, ⟨(by show _ = bI (!(s8 rtn cun).1.isEmpty); rw [emp_1 hr8 hln c83]; rfl), hA31⟩, ⟨by rw [ht]; exact hP, va_K.moved hW.alike hK, hD⟩, by rw [ht]; exact hq⟩, hS.F ht⟩) hS.2.2 d_Walk_holds_91
        · have hk4_0 := i_neN 0 rfl hs4_0
          have hk4_1 := i_neN 1 rfl hs4_1
          have hk4_2 := i_neN 2 rfl hs4_2
          have hk4_3 := i_neN 3 rfl hs4_3
          refine lv_tableOut (tgt := 92) hx hb d_Walk_holds_4 (by omega) (by decide) ?_
          refine lv_aload_n hx hb d_Walk_holds_92 rfl (lv_at hl 0 rfl) ?_
          refine lv_aload_n hx hb d_Walk_holds_93 rfl (lv_at hl 1 rfl) ?_
          refine lv_aload_n hx hb d_Walk_holds_94 rfl (lv_at hl 2 rfl) ?_
          obtain ⟨op, x9, y9, le, ri, Sl, Sr, h81, h82, h83, h84, h85, h86, h87, h88, h89, h8a, h8b, hm8⟩ := (hKD.ax (pf_K ef21)).2.2.2.2 hs4_0 hs4_1 hs4_2 hs4_3
          subst hm8
          have hl1 := hv21.2.2.2.1 le h83
          have hl2 := hv21.2.2.2.2.1 ri h84
          have hl3 := hl1.2
          have hl4 := hl2.2
          have hPc := hP.part (cx := [(wk, .inr (10, [.ref wl, .int (nI tp), .int (nI sp), .ref rt])), (wl, .inl (cV, 10000, .inr (.inr (.inr (.inr g)))))]) [0, 1] rfl
          have hDc := hD.part (cx := [(wk, .inr (10, [.ref wl, .int (nI tp), .int (nI sp), .ref rt])), (wl, .inl (cV, 10000, .inr (.inr (.inr (.inr g)))))]) [0, 1] (by decide) rfl
          have hFc := va_freeP (cx := [(wk, .inr (10, [.ref wl, .int (nI tp), .int (nI sp), .ref rt])), (wl, .inl (cV, 10000, .inr (.inr (.inr (.inr g)))))]) hD hS hA [0, 1] rfl
          have hKc := hK.sub (tys' := [(cI, .int), (cV, .object "QueryBench$Value")]) [0, 1] rfl
          refine w_same (fun hq0 => ?_)
          refine vx_calli (vx_runV (As := [.ref co, .ref cu]) (rest := []) ⟨hx, hb, hml, hown, hts⟩ (p_Walk_compares l hl9 K dC dI s.heap cI cV E lv L f hO hN1 PL AL S wk wl rt hrt rtn hrn tp sp g ν hW9 hDq9 cu cun hcn n (by omega) (HV (by omega)) co hco le ri hl1.1 (by omega) hl2.1 (by omega) op h81 ⟨_, _, _, by rw [← h82, ← h83, ← h84]; exact ef21⟩ x9 y9 Sl Sr h87 h88 h89 h8a h8b) (cwV 2 hts (gt_V (own := R_Walk) (C := R_Walk) (i := 174) (y := y_Walk_compares) i_Walk_compares z_911 z_913 (gt_sel (y := y_Walk_compares) (n := 4) (by decide +kernel)) w_5) rfl rfl rfl (by decide +kernel) ⟨by show 59 + 5 * n + 1 ≤ 60 + 5 * n; omega, by show 8 + (5 + 11) + (2460 + 200 * n) ≤ 2500 + 200 * n; omega⟩) ⟨ml_blind, va_recv hK hP (ci := 10) (q0 := 0) rfl rfl, fun U hU hW => ⟨rfl, ⟨hU, by rw [hU]; exact hPc, va_K.moved hW.alike hKc, hDc.weaken (fun _ _ _ _ => trivial)⟩, hN.warm hW, by rw [hU]; exact ZX.moved' hW.alike (ZX.narrow' (ZX.kept' hZ hS.2.1) hFc), by rw [hU]; exact CE.call hC hS.2.1 hFc hW, va_AO.moved hW.alike hV⟩⟩ rfl rfl hl.1 rfl (lv_room (Nat.le_of_ble_eq_true rfl)) d_Walk_holds_95 ⟨Nat.le_of_ble_eq_true rfl, Nat.le_of_ble_eq_true rfl⟩) hS (fun q _ h => hFc q h) hFc (fun q _ h => hFc q h) (fun En ce q9 ⟨tx, sx, gx, nx⟩ t9 H1 locs ht hvm hw hB hz1 hk1 hS hce hcv hcl => ?_) (fun r32 ⟨s32, g32, n32⟩ t9 H1 locs ht hvm hw hB hz1 hk1 hS => ?_)
          · obtain ⟨hEn, hP1, hK1, hD1⟩ := hB
            rw [ht] at hP1
            obtain ⟨hP, hD⟩ := va_joinP (wr := []) (rx := [(wk, .inr (10, [.ref wl, .int tx, .int sx, .ref rt])), (wl, .inl (cV, 10000, .inr (.inr (.inr (.inr gx)))))]) (pl1 := va_pl L (pf f nx)) hP hD [0, 1] [] rfl rfl (by decide) (by decide) hk1 hFc hP1 hD1
            generalize H1 = H at hP hS hce ⊢
            have hP : va_P (dC, dI) classes ([(wk, .inr (10, [.ref wl, .int tx, .int sx, .ref rt])), (wl, .inl (cV, 10000, .inr (.inr (.inr (.inr gx)))))] ++ va_pl L (pf f nx)) H := hP
            have hD : va_D A ([(wk, .inr (10, [.ref wl, .int tx, .int sx, .ref rt])), (wl, .inl (cV, 10000, .inr (.inr (.inr (.inr gx)))))] ++ va_pl L (pf f nx)) := hD
            have hno : 10000 < sp + (cmpC op x9 y9 rtn cun).2 := by have hw : 10000 < sp + (cmpC op x9 y9 rtn cun).2 := hw.1; exact hw
            exact vx_out (fun x hx => (hex x hx).elim) hlocks hce hcv hcl (fun t9 ht2 ha => ⟨(tx, sx, gx, nx), ⟨hno, hw.2⟩, ⟨hEn, by rw [ht2]; exact hP, va_K.moved ha hK, hD⟩, hS.F ht2⟩) hS.2.2 (Nat.le_of_ble_eq_true rfl) (Nat.le_of_ble_eq_true rfl)
          · obtain ⟨⟨hP1, hK1, hD1⟩, hz9⟩ := hB
            rw [ht] at hP1
            rw [ht] at hz9
            refine w_tight (hq0.trans hz9) ?_
            have hq0 := hq0.trans hz9
            obtain ⟨hP, hD⟩ := va_joinP (wr := []) (rx := [(wk, .inr (10, [.ref wl, .int (nI tp), .int (nI s32), .ref rt])), (wl, .inl (cV, 10000, .inr (.inr (.inr (.inr g32)))))]) (pl1 := va_pl L (pf f n32)) hP hD [0, 1] [] rfl rfl (by decide) (by decide) hk1 hFc hP1 hD1
            generalize H1 = H at hP hS hq0 ⊢
            have hP : va_P (dC, dI) classes ([(wk, .inr (10, [.ref wl, .int (nI tp), .int (nI s32), .ref rt])), (wl, .inl (cV, 10000, .inr (.inr (.inr (.inr g32)))))] ++ va_pl L (pf f n32)) H := hP
            have hD : va_D A ([(wk, .inr (10, [.ref wl, .int (nI tp), .int (nI s32), .ref rt])), (wl, .inl (cV, 10000, .inr (.inr (.inr (.inr g32)))))] ++ va_pl L (pf f n32)) := hD
            obtain ⟨hr32, hA32⟩ := hw
            have hA32 : ASK E S (cmpC op x9 y9 rtn cun).2 tp sp g ν s32 g32 n32 := hA32
            have hJ := hA32.2.1
            have hJ1 := hJ.1
            have hJ2 := hJ.2.1
            refine w_same (fun hq => ?_)
            refine W.widen (k := 1) (n := 6) (Nat.le_of_ble_eq_true rfl) (Nat.le_of_ble_eq_true rfl) ?_
            refine vx_ret ?_
            exact W.zret (v := r32) hx hb hr (Bo.nar (bI_Bo hr32)) (fun t9 ht hW => ⟨⟨r32, (s32, g32, n32), rfl, ⟨hr32, hA32⟩, ⟨by rw [ht]; exact hP, va_K.moved hW.alike hK, hD⟩, by rw [ht]; exact hq⟩, hS.F ht⟩) hS.2.2 d_Walk_holds_98
/-- the walk at all levels: what it says -/
theorem p_WL (l : Launch) (hl9 : l.stackTraces = false) (K : Nat → Nat × Nat) (dC : Nat → ClassId) (dI : Nat → Nat → Nat) (cI cV : ClassId) (E lv : Nat → Nat) (L : List Nat) (f : Nat → va_E) (hO : PO cI cV E lv L f) (hN1 : ∀ a, E a ≠ 1) (PL : List NT) (AL : List Nat) (wk wl rt : Nat) (hrt : isF E rt) (rtn : NT) (hrn : NCr PL AL rt rtn) : ∀ n, NDF l K dC dI cI cV E lv L f PL AL wk wl rt rtn n ∧ HDF l K dC dI cI cV E lv L f PL AL wk wl rt rtn n ∧ VOF l K dC dI cI cV E lv L f PL AL wk wl rt rtn n := by
  intro n
  induction n with
  | zero => exact ⟨p_ND l hl9 K dC dI cI cV E lv L f hO hN1 PL AL wk wl rt hrt rtn hrn 0 (fun h => absurd h (by omega)), p_HD l hl9 K dC dI cI cV E lv L f hO hN1 PL AL wk wl rt hrt rtn hrn 0 (fun h => absurd h (by omega)) (fun h => absurd h (by omega)) (fun h => absurd h (by omega)), p_VO l hl9 K dC dI cI cV E lv L f hO hN1 PL AL wk wl rt hrt rtn hrn 0 (fun h => absurd h (by omega)) (fun h => absurd h (by omega))⟩
  | succ n ih => exact ⟨p_ND l hl9 K dC dI cI cV E lv L f hO hN1 PL AL wk wl rt hrt rtn hrn (n + 1) (fun _ => ih.2.1), p_HD l hl9 K dC dI cI cV E lv L f hO hN1 PL AL wk wl rt hrt rtn hrn (n + 1) (fun _ => ih.2.1) (fun _ => ih.1) (fun _ => ih.2.2), p_VO l hl9 K dC dI cI cV E lv L f hO hN1 PL AL wk wl rt hrt rtn hrn (n + 1) (fun _ => ih.1) (fun _ => ih.2.2)⟩
