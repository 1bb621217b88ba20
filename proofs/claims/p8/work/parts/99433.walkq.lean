set_option maxHeartbeats 4000000 in
set_option maxRecDepth 100000 in
/-- Walk.push: what it pushes -/
theorem p_Walk_push (l : Launch) (hl9 : l.stackTraces = false) (K : Nat → Nat × Nat) (dC : Nat → ClassId) (dI : Nat → Nat → Nat) (sz : Heap) (cI cV : ClassId) (E lv : Nat → Nat) (L : List Nat) (f : Nat → va_E) (hO : PO cI cV E lv L f) (hN1 : ∀ a, E a ≠ 1) (PL : List NT) (AL : List Nat) (S : Nat → Nat) (wk wl rt : Nat) (hrt : isF E rt) (rtn : NT) (hrn : NCr PL AL rt rtn) (tp sp : Nat) (g : Nat → Option Nat) (ν : Nat → Int64) (hW9 : WI E tp sp g) (hDq9 : ∀ ν2, NUg S ν ν2 → DOC E (pf f ν2) PL AL) (nd : Nat) (ndn : NT) (hnn : NCr PL AL nd ndn)  : vx_Met l y_Walk_push (k_Walk_push :: gtbl) ({ frames := 9, cells := 1, slots := 6, locals := 150 }) (va_Pc [.ref wk, .ref nd] (ml K dC dI ([(wk, .inr (10, [.ref wl, .int (nI tp), .int (nI sp), .ref rt])), (wl, .inl (cV, 10000, .inr (.inr (.inr (.inr g)))))] ++ va_pl L (pf f ν)) [(cI, .int), (cV, .object "QueryBench$Value")] sz)) (va_Qv (fun (u : Nat × Nat × (Nat → Option Nat) × (Nat → Int64)) => PU E PL AL S (([ndn], 1)) tp sp g ν u.1 u.2.1 u.2.2.1 u.2.2.2) (fun u t9 => mz dC dI ([(wk, .inr (10, [.ref wl, .int (nI u.1), .int (nI u.2.1), .ref rt])), (wl, .inl (cV, 10000, .inr (.inr (.inr (.inr u.2.2.1)))))] ++ va_pl L (pf f u.2.2.2)) [(cI, .int), (cV, .object "QueryBench$Value")] (va_A ([(wk, .inr (10, [.ref wl, .int (nI tp), .int (nI sp), .ref rt])), (wl, .inl (cV, 10000, .inr (.inr (.inr (.inr g)))))] ++ va_pl L (pf f ν)) sz.size) t9 ∧ szk sz t9.heap (0) (0)) (va_A ([(wk, .inr (10, [.ref wl, .int (nI tp), .int (nI sp), .ref rt])), (wl, .inl (cV, 10000, .inr (.inr (.inr (.inr g)))))] ++ va_pl L (pf f ν)) sz.size)) (vx_X (fun (u : Int32 × Int32 × (Nat → Option Nat) × (Nat → Int64)) => 10000 < sp + 1 ∧ NUg S ν u.2.2.2) (fun En u t9 => En = IOB ∧ mz dC dI ([(wk, .inr (10, [.ref wl, .int u.1, .int u.2.1, .ref rt])), (wl, .inl (cV, 10000, .inr (.inr (.inr (.inr u.2.2.1)))))] ++ va_pl L (pf f u.2.2.2)) [(cI, .int), (cV, .object "QueryBench$Value")] (va_A ([(wk, .inr (10, [.ref wl, .int (nI tp), .int (nI sp), .ref rt])), (wl, .inl (cV, 10000, .inr (.inr (.inr (.inr g)))))] ++ va_pl L (pf f ν)) sz.size) t9) (va_A ([(wk, .inr (10, [.ref wl, .int (nI tp), .int (nI sp), .ref rt])), (wl, .inl (cV, 10000, .inr (.inr (.inr (.inr g)))))] ++ va_pl L (pf f ν)) sz.size)) (1) (6) (va_A ([(wk, .inr (10, [.ref wl, .int (nI tp), .int (nI sp), .ref rt])), (wl, .inl (cV, 10000, .inr (.inr (.inr (.inr g)))))] ++ va_pl L (pf f ν)) sz.size) := by
  refine vx_ofW (cc := b_Walk_push) (maxL := 2) (ret := none) (by decide) rfl ?_
  intro p e s m args below meth c s₁ B hml hex hv
  obtain ⟨rfl, ⟨hsz, hP, hK, hD0⟩, hN, hZ, hC, hV⟩ := hv
  have hx := B.exec
  have hb := B.bytes
  have hr := B.returns
  have hts0 := atoms_spec (ws := k_Walk_push :: gtbl) B.pre
  have hts := fun w h => hts0 w (List.mem_cons_of_mem _ h)
  have hown : s.vm.findClass R_Walk = some m.cls := findClass_of_methodNamed B.named
  have hlocks := B.notSynchronized
  subst hsz
  have hD := hD0.self (sz := s.heap.size)
  generalize hAe : va_A ([(wk, .inr (10, [.ref wl, .int (nI tp), .int (nI sp), .ref rt])), (wl, .inl (cV, 10000, .inr (.inr (.inr (.inr g)))))] ++ va_pl L (pf f ν)) s.heap.size = A at hD hZ hC ⊢
  have hA : ∀ q : Nat, s.heap.size ≤ q → A q := fun q h => by rw [← hAe]; exact Or.inr h
  have hS : va_S A s.heap s.heap [] := va_S.rf
  have hP : va_P (dC, dI) classes ([(wk, .inr (10, [.ref wl, .int (nI tp), .int (nI sp), .ref rt])), (wl, .inl (cV, 10000, .inr (.inr (.inr (.inr g)))))] ++ va_pl L (pf f ν)) s.heap := hP
  have hl := lv_entry ([.ref wk, .ref nd]) (n := 2) (Nat.le_of_ble_eq_true rfl)
  rw [lg_entry_eq]
  generalize (lg_sl ([.ref wk, .ref nd]) ++ List.replicate (2 - (lg_sl ([.ref wk, .ref nd])).length) Slot.unset).toArray = ls at hl ⊢
  have hl : lv_has ls 2 [(0, .ref wk), (1, .ref nd)] := hl
  have hW0 := hW9
  have hW1 := hW9.1
  have hW2 := hW9.2.1
  have hPU : PU E PL AL S (([], 0)) tp sp g ν tp sp g ν := PU.rf hW9
  have hDν := hDq9 ν NUg.rf
  obtain ⟨hnd, hCu⟩ := hnn.ax hDν
  refine lv_aload_n hx hb d_Walk_push_0 rfl (lv_at hl 0 rfl) ?_
  have hPc := hP.sub (ws' := [(wk, .inr (10, [.ref wl, .int (nI tp), .int (nI sp), .ref rt]))]) [0] rfl
  have hDc := hD.sub (ws' := [(wk, .inr (10, [.ref wl, .int (nI tp), .int (nI sp), .ref rt]))]) [0] (by decide) rfl
  have hFc := va_free (wc := [(wk, .inr (10, [.ref wl, .int (nI tp), .int (nI sp), .ref rt]))]) hD hS hA [0] rfl
  have hKc := hK.sub (tys' := []) [] rfl
  refine w_same (fun hq0 => ?_)
  refine vx_callv (vx_runV (As := []) (rest := []) ⟨hx, hb, hml, hown, hts⟩ (c_Walk_spend l hl9 dC dI wk s.heap (.ref wl) (.ref rt) (nI tp) sp (by omega)) (cwV 0 hts (gt_V (own := R_Walk) (C := R_Walk) (i := 58) (y := y_Walk_spend) i_Walk_spend z_843 z_845 (gt_sel (y := y_Walk_spend) (n := 4) (by decide +kernel)) w_5) rfl rfl rfl (by decide +kernel) ⟨Nat.le_of_ble_eq_true rfl, Nat.le_of_ble_eq_true rfl⟩) ⟨mx_blind, va_recv hK hP (ci := 10) (q0 := 0) rfl rfl, fun U hU hW => ⟨rfl, ⟨hU, by rw [hU]; exact hPc, va_K.moved hW.alike hKc, hDc.weaken (fun _ _ _ _ => trivial)⟩, hN.warm hW, by rw [hU]; exact ZX.moved' hW.alike (ZX.narrow' (ZX.kept' hZ hS.2.1) hFc)⟩⟩ rfl rfl hl.1 rfl (lv_room (Nat.le_of_ble_eq_true rfl)) d_Walk_push_1 ⟨Nat.le_of_ble_eq_true rfl, Nat.le_of_ble_eq_true rfl⟩) hS (fun q _ h => hFc q h) hFc (fun q _ h => hFc q h) (fun En ce q9 _u t9 H1 locs ht hvm hw hB hz1 hk1 hS hce hcv hcl => ?_) (fun _u t9 H1 locs ht hvm hw hB hz1 hk1 hS => ?_)
  · obtain ⟨hEn, hP1, hK1, hD1⟩ := hB
    rw [ht] at hP1
    obtain ⟨hP, hD⟩ := va_joinQ (wr := [(wl, .inl (cV, 10000, .inr (.inr (.inr (.inr g)))))]) (w1 := [(wk, .inr (10, [.ref wl, .int (nI tp), .int (nI sp), .ref rt]))]) hP hD [0] [1] rfl rfl (by decide) (by decide) hk1 hFc hP1 hD1
    generalize H1 = H at hP hS hce ⊢
    have hP : va_P (dC, dI) classes ([(wl, .inl (cV, 10000, .inr (.inr (.inr (.inr g))))), (wk, .inr (10, [.ref wl, .int (nI tp), .int (nI sp), .ref rt]))] ++ va_pl L (pf f ν)) H := hP
    have hD : va_D A ([(wl, .inl (cV, 10000, .inr (.inr (.inr (.inr g))))), (wk, .inr (10, [.ref wl, .int (nI tp), .int (nI sp), .ref rt]))] ++ va_pl L (pf f ν)) := hD
    have hP := hP.part (cx := [(wk, .inr (10, [.ref wl, .int (nI tp), .int (nI sp), .ref rt])), (wl, .inl (cV, 10000, .inr (.inr (.inr (.inr g)))))]) [1, 0] rfl
    have hD := hD.part (cx := [(wk, .inr (10, [.ref wl, .int (nI tp), .int (nI sp), .ref rt])), (wl, .inl (cV, 10000, .inr (.inr (.inr (.inr g)))))]) [1, 0] (by decide) rfl
    have hno : 10000 < sp + 1 := by have hw : ¬ sp < 10000 := hw; omega
    exact vx_out (fun x hx => (hex x hx).elim) hlocks hce hcv hcl (fun t9 ht2 ha => ⟨(nI tp, nI sp, g, ν), ⟨hno, NUg.rf⟩, ⟨hEn, by rw [ht2]; exact hP, va_K.moved ha hK, hD⟩, hS.F ht2⟩) hS.2.2 (Nat.le_of_ble_eq_true rfl) (Nat.le_of_ble_eq_true rfl)
  · obtain ⟨⟨hP1, hK1, hD1⟩, hz9⟩ := hB
    rw [ht] at hP1
    rw [ht] at hz9
    refine w_tight (hq0.trans hz9) ?_
    have hq0 := hq0.trans hz9
    obtain ⟨hP, hD⟩ := va_joinQ (wr := [(wl, .inl (cV, 10000, .inr (.inr (.inr (.inr g)))))]) (w1 := [(wk, .inr (10, [.ref wl, .int (nI tp), .int (nI (sp + 1)), .ref rt]))]) hP hD [0] [1] rfl rfl (by decide) (by decide) hk1 hFc hP1 hD1
    generalize H1 = H at hP hS hq0 ⊢
    have hP : va_P (dC, dI) classes ([(wl, .inl (cV, 10000, .inr (.inr (.inr (.inr g))))), (wk, .inr (10, [.ref wl, .int (nI tp), .int (nI (sp + 1)), .ref rt]))] ++ va_pl L (pf f ν)) H := hP
    have hD : va_D A ([(wl, .inl (cV, 10000, .inr (.inr (.inr (.inr g))))), (wk, .inr (10, [.ref wl, .int (nI tp), .int (nI (sp + 1)), .ref rt]))] ++ va_pl L (pf f ν)) := hD
    have hP := hP.part (cx := [(wk, .inr (10, [.ref wl, .int (nI tp), .int (nI (sp + 1)), .ref rt])), (wl, .inl (cV, 10000, .inr (.inr (.inr (.inr g)))))]) [1, 0] rfl
    have hD := hD.part (cx := [(wk, .inr (10, [.ref wl, .int (nI tp), .int (nI (sp + 1)), .ref rt])), (wl, .inl (cV, 10000, .inr (.inr (.inr (.inr g)))))]) [1, 0] (by decide) rfl
    have hsp : sp < 10000 := hw
    refine lv_aload_n hx hb d_Walk_push_4 rfl (lv_at hl 0 rfl) ?_
    refine va_get (D := (dC, dI)) (ci := 10) (v := .ref wl) (C := R_Walk) (T := F_Walk) (N := 4) hx hb hts in_Walk hown hK hP 0 rfl rfl 0 (by decide) (hts _ w_115) (fun _ h9 => h9) rfl d_Walk_push_5 ?_
    refine lv_aload_n hx hb d_Walk_push_8 rfl (lv_at hl 0 rfl) ?_
    refine va_get (D := (dC, dI)) (ci := 10) (v := .int (nI tp)) (C := R_Walk) (T := F_Walk) (N := 4) hx hb hts in_Walk hown hK hP 0 rfl rfl 1 (by decide) (hts _ z_117) (fun _ h9 => h9) rfl d_Walk_push_9 ?_
    refine lv_aload_n hx hb d_Walk_push_12 rfl (lv_at hl 1 rfl) ?_
    obtain ⟨kd21, nu21, tx21, me21, pa21, na21, ix21, nm21, no21, sp21, ef21, hv21⟩ := hO.val ((isF.v hnd))
    refine vq_ast hx hb hK hP hD hS 1 1 9 rfl rfl (hO.inV (isF.v hnd)) (pf_V ef21) rfl (show tp < 10000 by omega) (by decide) d_Walk_push_13 (fun H locs hP hD hS => ?_)
    have hP : va_P (dC, dI) classes ([(wk, .inr (10, [.ref wl, .int (nI tp), .int (nI (sp + 1)), .ref rt])), (wl, .inl (cV, 10000, .inr (.inr (.inr (.inr ((va_up g tp (some nd))))))))] ++ va_pl L (pf f ν)) H := hP
    have hD : va_D A ([(wk, .inr (10, [.ref wl, .int (nI tp), .int (nI (sp + 1)), .ref rt])), (wl, .inl (cV, 10000, .inr (.inr (.inr (.inr ((va_up g tp (some nd))))))))] ++ va_pl L (pf f ν)) := hD
    refine lv_aload_n hx hb d_Walk_push_14 rfl (lv_at hl 0 rfl) ?_
    refine lv_dup hx hb d_Walk_push_15 rfl ?_
    refine va_get (D := (dC, dI)) (ci := 10) (v := .int (nI tp)) (C := R_Walk) (T := F_Walk) (N := 4) hx hb hts in_Walk hown hK hP 0 rfl rfl 1 (by decide) (hts _ z_117) (fun _ h9 => h9) rfl d_Walk_push_16 ?_
    refine lv_iconst (v := 1) hx hb d_Walk_push_19 (by decide) ?_
    refine lv_iadd hx hb d_Walk_push_20 ?_
    refine W.eq (g2 := F0 m 21 ls [.int (nI (tp + 1)), .ref wk]) (by rw [show ((nI tp) + 1) = (nI (tp + 1)) from nI_1 _]) ?_
    refine va_put (D := (dC, dI)) (ci := 10) (v := .int (nI (tp + 1))) (ty := .int) (C := R_Walk) (T := F_Walk) (N := 4) hx hb hts in_Walk t_Walk t_Walk_ok n_Walk hown hK hP hD hS 0 rfl rfl 1 (by decide) (hts _ z_117) (fun _ h9 => h9) rfl (by decide +kernel) rfl rfl (Nat.le_of_ble_eq_true rfl) d_Walk_push_21 (fun H locs hP hD hS => ?_)
    have hP : va_P (dC, dI) classes ([(wk, .inr (10, [.ref wl, .int (nI (tp + 1)), .int (nI (sp + 1)), .ref rt])), (wl, .inl (cV, 10000, .inr (.inr (.inr (.inr ((va_up g tp (some nd))))))))] ++ va_pl L (pf f ν)) H := hP
    have hD : va_D A ([(wk, .inr (10, [.ref wl, .int (nI (tp + 1)), .int (nI (sp + 1)), .ref rt])), (wl, .inl (cV, 10000, .inr (.inr (.inr (.inr ((va_up g tp (some nd))))))))] ++ va_pl L (pf f ν)) := hD
    refine w_same (fun hq => ?_)
    refine W.widen (k := 1) (n := 6) (Nat.le_of_ble_eq_true rfl) (Nat.le_of_ble_eq_true rfl) ?_
    refine vx_ret ?_
    exact W.vret hx hb hr (fun t9 ht hW => ⟨⟨(tp + 1, sp + 1, (va_up g tp (some nd)), ν), rfl, (PU.push hW9 hsp hnd hnn), ⟨by rw [ht]; exact hP, va_K.moved hW.alike hK, hD⟩, by rw [ht]; exact hq⟩, hS.F ht⟩) hS.2.2 d_Walk_push_24
set_option maxHeartbeats 4000000 in
set_option maxRecDepth 100000 in
/-- Walk.pushNamed: what it pushes -/
theorem p_Walk_pushNamed (l : Launch) (hl9 : l.stackTraces = false) (K : Nat → Nat × Nat) (dC : Nat → ClassId) (dI : Nat → Nat → Nat) (sz : Heap) (cI cV : ClassId) (E lv : Nat → Nat) (L : List Nat) (f : Nat → va_E) (hO : PO cI cV E lv L f) (hN1 : ∀ a, E a ≠ 1) (PL : List NT) (AL : List Nat) (S : Nat → Nat) (wk wl rt : Nat) (hrt : isF E rt) (rtn : NT) (hrn : NCr PL AL rt rtn) (tp sp : Nat) (g : Nat → Option Nat) (ν : Nat → Int64) (hW9 : WI E tp sp g) (hDq9 : ∀ ν2, NUg S ν ν2 → DOC E (pf f ν2) PL AL) (nd : Nat) (ndn : NT) (hnn : NCr PL AL nd ndn) (nm9 : Nat) (hnm9 : E nm9 = 4) (tn9 : List Int32) (htn : txL (pf f ν) nm9 = tn9) : vx_Met l y_Walk_pushNamed (k_Walk_pushNamed :: gtbl) ({ frames := 10, cells := 1, slots := 6, locals := 200 }) (va_Pc [.ref wk, .ref nd, .ref nm9] (ml K dC dI ([(wk, .inr (10, [.ref wl, .int (nI tp), .int (nI sp), .ref rt])), (wl, .inl (cV, 10000, .inr (.inr (.inr (.inr g)))))] ++ va_pl L (pf f ν)) [(cI, .int), (cV, .object "QueryBench$Value")] sz)) (va_Qv (fun (u : Nat × Nat × (Nat → Option Nat) × (Nat → Int64)) => PU E PL AL S ((namS tn9 rtn ndn)) tp sp g ν u.1 u.2.1 u.2.2.1 u.2.2.2) (fun u t9 => mz dC dI ([(wk, .inr (10, [.ref wl, .int (nI u.1), .int (nI u.2.1), .ref rt])), (wl, .inl (cV, 10000, .inr (.inr (.inr (.inr u.2.2.1)))))] ++ va_pl L (pf f u.2.2.2)) [(cI, .int), (cV, .object "QueryBench$Value")] (va_A ([(wk, .inr (10, [.ref wl, .int (nI tp), .int (nI sp), .ref rt])), (wl, .inl (cV, 10000, .inr (.inr (.inr (.inr g)))))] ++ va_pl L (pf f ν)) sz.size) t9 ∧ szk sz t9.heap (0) (0)) (va_A ([(wk, .inr (10, [.ref wl, .int (nI tp), .int (nI sp), .ref rt])), (wl, .inl (cV, 10000, .inr (.inr (.inr (.inr g)))))] ++ va_pl L (pf f ν)) sz.size)) (vx_X (fun (u : Int32 × Int32 × (Nat → Option Nat) × (Nat → Int64)) => 10000 < sp + ((namS tn9 rtn ndn)).2 ∧ NUg S ν u.2.2.2) (fun En u t9 => En = IOB ∧ mz dC dI ([(wk, .inr (10, [.ref wl, .int u.1, .int u.2.1, .ref rt])), (wl, .inl (cV, 10000, .inr (.inr (.inr (.inr u.2.2.1)))))] ++ va_pl L (pf f u.2.2.2)) [(cI, .int), (cV, .object "QueryBench$Value")] (va_A ([(wk, .inr (10, [.ref wl, .int (nI tp), .int (nI sp), .ref rt])), (wl, .inl (cV, 10000, .inr (.inr (.inr (.inr g)))))] ++ va_pl L (pf f ν)) sz.size) t9) (va_A ([(wk, .inr (10, [.ref wl, .int (nI tp), .int (nI sp), .ref rt])), (wl, .inl (cV, 10000, .inr (.inr (.inr (.inr g)))))] ++ va_pl L (pf f ν)) sz.size)) (1) (6) (va_A ([(wk, .inr (10, [.ref wl, .int (nI tp), .int (nI sp), .ref rt])), (wl, .inl (cV, 10000, .inr (.inr (.inr (.inr g)))))] ++ va_pl L (pf f ν)) sz.size) := by
  refine vx_ofW (cc := b_Walk_pushNamed) (maxL := 4) (ret := none) (by decide) rfl ?_
  intro p e s m args below meth c s₁ B hml hex hv
  obtain ⟨rfl, ⟨hsz, hP, hK, hD0⟩, hN, hZ, hC, hV⟩ := hv
  have hx := B.exec
  have hb := B.bytes
  have hr := B.returns
  have hts0 := atoms_spec (ws := k_Walk_pushNamed :: gtbl) B.pre
  have hts := fun w h => hts0 w (List.mem_cons_of_mem _ h)
  have hown : s.vm.findClass R_Walk = some m.cls := findClass_of_methodNamed B.named
  have hlocks := B.notSynchronized
  subst hsz
  have hD := hD0.self (sz := s.heap.size)
  generalize hAe : va_A ([(wk, .inr (10, [.ref wl, .int (nI tp), .int (nI sp), .ref rt])), (wl, .inl (cV, 10000, .inr (.inr (.inr (.inr g)))))] ++ va_pl L (pf f ν)) s.heap.size = A at hD hZ hC ⊢
  have hA : ∀ q : Nat, s.heap.size ≤ q → A q := fun q h => by rw [← hAe]; exact Or.inr h
  have hS : va_S A s.heap s.heap [] := va_S.rf
  have hP : va_P (dC, dI) classes ([(wk, .inr (10, [.ref wl, .int (nI tp), .int (nI sp), .ref rt])), (wl, .inl (cV, 10000, .inr (.inr (.inr (.inr g)))))] ++ va_pl L (pf f ν)) s.heap := hP
  have hl := lv_entry ([.ref wk, .ref nd, .ref nm9]) (n := 4) (Nat.le_of_ble_eq_true rfl)
  rw [lg_entry_eq]
  generalize (lg_sl ([.ref wk, .ref nd, .ref nm9]) ++ List.replicate (4 - (lg_sl ([.ref wk, .ref nd, .ref nm9])).length) Slot.unset).toArray = ls at hl ⊢
  have hl : lv_has ls 4 [(0, .ref wk), (1, .ref nd), (2, .ref nm9)] := hl
  have hW0 := hW9
  have hW1 := hW9.1
  have hW2 := hW9.2.1
  have hPU : PU E PL AL S (([], 0)) tp sp g ν tp sp g ν := PU.rf hW9
  have hDν := hDq9 ν NUg.rf
  obtain ⟨hnd, hCu⟩ := hnn.ax hDν
  refine lv_aload_n hx hb d_Walk_pushNamed_0 rfl (lv_at hl 1 rfl) ?_
  refine lv_aload_n hx hb d_Walk_pushNamed_1 rfl (lv_at hl 2 rfl) ?_
  obtain ⟨kd21, nu21, tx21, me21, pa21, na21, ix21, nm21, no21, sp21, ef21, hv21⟩ := hO.val ((isF.v hnd))
  refine va_csq (va_Run.run (va_runV (As := [.ref nm9]) (rest := []) ⟨hx, hb, hml, hown, hts⟩ (g_Value_member l dC dI s.heap cI cV E lv L (pf f ν) (hO.num ν) nd hnd ndn.2 hCu nm9 hnm9) (cwV 1 hts (gt_V (own := R_Walk) (C := R_Value) (i := 114) (y := y_Value_member) i_Value_member z_861 z_862 z_863 z_14) rfl rfl rfl (by decide +kernel) ⟨Nat.le_of_ble_eq_true rfl, Nat.le_of_ble_eq_true rfl⟩) ⟨mq_blind, vq_recv hK hP rfl (hO.inV (isF.v hnd)) (pf_V ef21), fun U hU hW => ⟨rfl, hU, by rw [hU]; exact hP.part (cx := []) [] rfl, va_K.moved hW.alike hK, hN.warm hW⟩⟩ rfl rfl hl.1 rfl (lv_room (Nat.le_of_ble_eq_true rfl)) d_Walk_pushNamed_2 ⟨Nat.le_of_ble_eq_true rfl, Nat.le_of_ble_eq_true rfl⟩)) (fun r22 h_r22 => ?_)
  obtain ⟨hmo, hmb⟩ := h_r22
  rcases r22 with _ | b23
  · refine lv_astore_nN (lv' := [(3, .null), (0, .ref wk), (1, .ref nd), (2, .ref nm9)]) hx hb d_Walk_pushNamed_5 rfl hl (by decide) rfl (fun ls hl => ?_)
    refine lv_aload_nN hx hb d_Walk_pushNamed_6 rfl (lv_at hl 0 rfl) ?_
    refine lv_ifnullN (tgt := 15) hx hb d_Walk_pushNamed_7 (by decide) ?_
    have hRn : namS tn9 rtn ndn = ([], 0) := namS_0 (by rcases hmb with ⟨-, _, _, _, _, _, _, h, _, _⟩ | h; (· cases h); (· rw [htn] at h; exact h.2))
    have hfin : PU E PL AL S ((namS tn9 rtn ndn)) tp sp g ν tp sp g ν := by rw [← show ([], 0) = (namS tn9 rtn ndn) from hRn.symm]; exact hPU
    refine w_same (fun hq => ?_)
    refine W.widen (k := 1) (n := 6) (Nat.le_of_ble_eq_true rfl) (Nat.le_of_ble_eq_true rfl) ?_
    refine vx_ret ?_
    exact W.vret hx hb hr (fun t9 ht hW => ⟨⟨(tp, sp, g, ν), rfl, hfin, ⟨by rw [ht]; exact hP, va_K.moved hW.alike hK, hD⟩, by rw [ht]; exact hq⟩, hS.F ht⟩) hS.2.2 d_Walk_pushNamed_15
  · refine lv_astore_n (lv' := [(3, .ref b23), (0, .ref wk), (1, .ref nd), (2, .ref nm9)]) hx hb d_Walk_pushNamed_5 rfl hl (by decide) rfl (fun ls hl => ?_)
    refine lv_aload_n hx hb d_Walk_pushNamed_6 rfl (lv_at hl 0 rfl) ?_
    refine lv_ifnull hx hb d_Walk_pushNamed_7 ?_
    refine lv_aload_n hx hb d_Walk_pushNamed_10 rfl (lv_at hl 1 rfl) ?_
    refine lv_aload_n hx hb d_Walk_pushNamed_11 rfl (lv_at hl 0 rfl) ?_
    obtain ⟨hk6, i9, c9, b9, q1, q2, q3, q4, q5, q6⟩ : (lfU ndn.2).1 = 6 ∧ ∃ i c b, (ksU ndn.2)[i]? = some c ∧ c.1 = tn9 ∧ (∀ j d, j < i → (ksU ndn.2)[j]? = some d → ¬ d.1 = tn9) ∧ some b23 = some b ∧ memF (pf f ν) nd i = some b ∧ CU (pf f ν) b c.2 := by rcases hmb with h | h; (· rw [htn] at h; exact h); (· exact absurd h.1 (by intro e; cases e))
    obtain rfl := Option.some.inj q4
    have hRn : namS tn9 rtn ndn = ([(ndn.1 ++ [i9], c9.2)], 1) := namS_1 hk6 q1 q2 q3
    have hPc := hP.part (cx := [(wk, .inr (10, [.ref wl, .int (nI tp), .int (nI sp), .ref rt])), (wl, .inl (cV, 10000, .inr (.inr (.inr (.inr g)))))]) [0, 1] rfl
    have hDc := hD.part (cx := [(wk, .inr (10, [.ref wl, .int (nI tp), .int (nI sp), .ref rt])), (wl, .inl (cV, 10000, .inr (.inr (.inr (.inr g)))))]) [0, 1] (by decide) rfl
    have hFc := va_freeP (cx := [(wk, .inr (10, [.ref wl, .int (nI tp), .int (nI sp), .ref rt])), (wl, .inl (cV, 10000, .inr (.inr (.inr (.inr g)))))]) hD hS hA [0, 1] rfl
    have hKc := hK.sub (tys' := [(cI, .int), (cV, .object "QueryBench$Value")]) [0, 1] rfl
    refine w_same (fun hq0 => ?_)
    refine vx_callv (vx_runV (As := [.ref b23]) (rest := []) ⟨hx, hb, hml, hown, hts⟩ (p_Walk_push l hl9 K dC dI s.heap cI cV E lv L f hO hN1 PL AL S wk wl rt hrt rtn hrn tp sp g ν hW9 (fun ν2 h2 => hDq9 ν2 (hPU.nu.tr h2)) b23 (ndn.1 ++ [i9], c9.2) (hnn.kid hDν (kdsN_get q1) q5)) (cwV 1 hts (gt_V (own := R_Walk) (C := R_Walk) (i := 38) (y := y_Walk_push) i_Walk_push z_839 z_841 (gt_sel (y := y_Walk_push) (n := 4) (by decide +kernel)) w_5) rfl rfl rfl (by decide +kernel) ⟨Nat.le_of_ble_eq_true rfl, Nat.le_of_ble_eq_true rfl⟩) ⟨ml_blind, va_recv hK hP (ci := 10) (q0 := 0) rfl rfl, fun U hU hW => ⟨rfl, ⟨hU, by rw [hU]; exact hPc, va_K.moved hW.alike hKc, hDc.weaken (fun _ _ _ _ => trivial)⟩, hN.warm hW, by rw [hU]; exact ZX.moved' hW.alike (ZX.narrow' (ZX.kept' hZ hS.2.1) hFc), by rw [hU]; exact CE.call hC hS.2.1 hFc hW, va_AO.moved hW.alike hV⟩⟩ rfl rfl hl.1 rfl (lv_room (Nat.le_of_ble_eq_true rfl)) d_Walk_pushNamed_12 ⟨Nat.le_of_ble_eq_true rfl, Nat.le_of_ble_eq_true rfl⟩) hS (fun q _ h => hFc q h) hFc (fun q _ h => hFc q h) (fun En ce q9 ⟨tx, sx, gx, nx⟩ t9 H1 locs ht hvm hw hB hz1 hk1 hS hce hcv hcl => ?_) (fun ⟨t24, s24, g24, n24⟩ t9 H1 locs ht hvm hw hB hz1 hk1 hS => ?_)
    · obtain ⟨hEn, hP1, hK1, hD1⟩ := hB
      rw [ht] at hP1
      obtain ⟨hP, hD⟩ := va_joinP (wr := []) (rx := [(wk, .inr (10, [.ref wl, .int tx, .int sx, .ref rt])), (wl, .inl (cV, 10000, .inr (.inr (.inr (.inr gx)))))]) (pl1 := va_pl L (pf f nx)) hP hD [0, 1] [] rfl rfl (by decide) (by decide) hk1 hFc hP1 hD1
      generalize H1 = H at hP hS hce ⊢
      have hP : va_P (dC, dI) classes ([(wk, .inr (10, [.ref wl, .int tx, .int sx, .ref rt])), (wl, .inl (cV, 10000, .inr (.inr (.inr (.inr gx)))))] ++ va_pl L (pf f nx)) H := hP
      have hD : va_D A ([(wk, .inr (10, [.ref wl, .int tx, .int sx, .ref rt])), (wl, .inl (cV, 10000, .inr (.inr (.inr (.inr gx)))))] ++ va_pl L (pf f nx)) := hD
      have hno : 10000 < sp + ((namS tn9 rtn ndn)).2 := by have hw : 10000 < sp + (([(ndn.1 ++ [i9], c9.2)], 1)).2 := hw.1; rw [hRn]; exact hw
      exact vx_out (fun x hx => (hex x hx).elim) hlocks hce hcv hcl (fun t9 ht2 ha => ⟨(tx, sx, gx, nx), ⟨hno, hPU.nu.tr hw.2⟩, ⟨hEn, by rw [ht2]; exact hP, va_K.moved ha hK, hD⟩, hS.F ht2⟩) hS.2.2 (Nat.le_of_ble_eq_true rfl) (Nat.le_of_ble_eq_true rfl)
    · obtain ⟨⟨hP1, hK1, hD1⟩, hz9⟩ := hB
      rw [ht] at hP1
      rw [ht] at hz9
      refine w_tight (hq0.trans hz9) ?_
      have hq0 := hq0.trans hz9
      obtain ⟨hP, hD⟩ := va_joinP (wr := []) (rx := [(wk, .inr (10, [.ref wl, .int (nI t24), .int (nI s24), .ref rt])), (wl, .inl (cV, 10000, .inr (.inr (.inr (.inr g24)))))]) (pl1 := va_pl L (pf f n24)) hP hD [0, 1] [] rfl rfl (by decide) (by decide) hk1 hFc hP1 hD1
      generalize H1 = H at hP hS hq0 ⊢
      have hP : va_P (dC, dI) classes ([(wk, .inr (10, [.ref wl, .int (nI t24), .int (nI s24), .ref rt])), (wl, .inl (cV, 10000, .inr (.inr (.inr (.inr g24)))))] ++ va_pl L (pf f n24)) H := hP
      have hD : va_D A ([(wk, .inr (10, [.ref wl, .int (nI t24), .int (nI s24), .ref rt])), (wl, .inl (cV, 10000, .inr (.inr (.inr (.inr g24)))))] ++ va_pl L (pf f n24)) := hD
      have hP24 : PU E PL AL S (catR (([], 0)) (([(ndn.1 ++ [i9], c9.2)], 1))) tp sp g ν t24 s24 g24 n24 := hPU.tr hw
      have hW_hP24 := hP24.wi
      have hA_hP24 := hW_hP24.1
      have hB_hP24 := hW_hP24.2.1
      have hC_hP24 := hP24.spt
      have hfin : PU E PL AL S ((namS tn9 rtn ndn)) tp sp g ν t24 s24 g24 n24 := by rw [← show catR (([], 0)) (([(ndn.1 ++ [i9], c9.2)], 1)) = (namS tn9 rtn ndn) from hRn.symm]; exact hP24
      refine w_same (fun hq => ?_)
      refine W.widen (k := 1) (n := 6) (Nat.le_of_ble_eq_true rfl) (Nat.le_of_ble_eq_true rfl) ?_
      refine vx_ret ?_
      exact W.vret hx hb hr (fun t9 ht hW => ⟨⟨(t24, s24, g24, n24), rfl, hfin, ⟨by rw [ht]; exact hP, va_K.moved hW.alike hK, hD⟩, by rw [ht]; exact hq⟩, hS.F ht⟩) hS.2.2 d_Walk_pushNamed_15
set_option maxHeartbeats 4000000 in
set_option maxRecDepth 100000 in
/-- Walk.pushAll: what it pushes -/
theorem p_Walk_pushAll (l : Launch) (hl9 : l.stackTraces = false) (K : Nat → Nat × Nat) (dC : Nat → ClassId) (dI : Nat → Nat → Nat) (sz : Heap) (cI cV : ClassId) (E lv : Nat → Nat) (L : List Nat) (f : Nat → va_E) (hO : PO cI cV E lv L f) (hN1 : ∀ a, E a ≠ 1) (PL : List NT) (AL : List Nat) (S : Nat → Nat) (wk wl rt : Nat) (hrt : isF E rt) (rtn : NT) (hrn : NCr PL AL rt rtn) (tp sp : Nat) (g : Nat → Option Nat) (ν : Nat → Int64) (hW9 : WI E tp sp g) (hDq9 : ∀ ν2, NUg S ν ν2 → DOC E (pf f ν2) PL AL) (nd : Nat) (ndn : NT) (hnn : NCr PL AL nd ndn)  : vx_Met l y_Walk_pushAll (k_Walk_pushAll :: gtbl) ({ frames := 10, cells := 1, slots := 6, locals := 200 }) (va_Pc [.ref wk, .ref nd] (ml K dC dI ([(wk, .inr (10, [.ref wl, .int (nI tp), .int (nI sp), .ref rt])), (wl, .inl (cV, 10000, .inr (.inr (.inr (.inr g)))))] ++ va_pl L (pf f ν)) [(cI, .int), (cV, .object "QueryBench$Value")] sz)) (va_Qv (fun (u : Nat × Nat × (Nat → Option Nat) × (Nat → Int64)) => PU E PL AL S ((eachS rtn ndn)) tp sp g ν u.1 u.2.1 u.2.2.1 u.2.2.2) (fun u t9 => mz dC dI ([(wk, .inr (10, [.ref wl, .int (nI u.1), .int (nI u.2.1), .ref rt])), (wl, .inl (cV, 10000, .inr (.inr (.inr (.inr u.2.2.1)))))] ++ va_pl L (pf f u.2.2.2)) [(cI, .int), (cV, .object "QueryBench$Value")] (va_A ([(wk, .inr (10, [.ref wl, .int (nI tp), .int (nI sp), .ref rt])), (wl, .inl (cV, 10000, .inr (.inr (.inr (.inr g)))))] ++ va_pl L (pf f ν)) sz.size) t9 ∧ szk sz t9.heap (0) (0)) (va_A ([(wk, .inr (10, [.ref wl, .int (nI tp), .int (nI sp), .ref rt])), (wl, .inl (cV, 10000, .inr (.inr (.inr (.inr g)))))] ++ va_pl L (pf f ν)) sz.size)) (vx_X (fun (u : Int32 × Int32 × (Nat → Option Nat) × (Nat → Int64)) => 10000 < sp + ((eachS rtn ndn)).2 ∧ NUg S ν u.2.2.2) (fun En u t9 => En = IOB ∧ mz dC dI ([(wk, .inr (10, [.ref wl, .int u.1, .int u.2.1, .ref rt])), (wl, .inl (cV, 10000, .inr (.inr (.inr (.inr u.2.2.1)))))] ++ va_pl L (pf f u.2.2.2)) [(cI, .int), (cV, .object "QueryBench$Value")] (va_A ([(wk, .inr (10, [.ref wl, .int (nI tp), .int (nI sp), .ref rt])), (wl, .inl (cV, 10000, .inr (.inr (.inr (.inr g)))))] ++ va_pl L (pf f ν)) sz.size) t9) (va_A ([(wk, .inr (10, [.ref wl, .int (nI tp), .int (nI sp), .ref rt])), (wl, .inl (cV, 10000, .inr (.inr (.inr (.inr g)))))] ++ va_pl L (pf f ν)) sz.size)) (1) (6) (va_A ([(wk, .inr (10, [.ref wl, .int (nI tp), .int (nI sp), .ref rt])), (wl, .inl (cV, 10000, .inr (.inr (.inr (.inr g)))))] ++ va_pl L (pf f ν)) sz.size) := by
  refine vx_ofW (cc := b_Walk_pushAll) (maxL := 3) (ret := none) (by decide) rfl ?_
  intro p e s m args below meth c s₁ B hml hex hv
  obtain ⟨rfl, ⟨hsz, hP, hK, hD0⟩, hN, hZ, hC, hV⟩ := hv
  have hx := B.exec
  have hb := B.bytes
  have hr := B.returns
  have hts0 := atoms_spec (ws := k_Walk_pushAll :: gtbl) B.pre
  have hts := fun w h => hts0 w (List.mem_cons_of_mem _ h)
  have hown : s.vm.findClass R_Walk = some m.cls := findClass_of_methodNamed B.named
  have hlocks := B.notSynchronized
  subst hsz
  have hD := hD0.self (sz := s.heap.size)
  generalize hAe : va_A ([(wk, .inr (10, [.ref wl, .int (nI tp), .int (nI sp), .ref rt])), (wl, .inl (cV, 10000, .inr (.inr (.inr (.inr g)))))] ++ va_pl L (pf f ν)) s.heap.size = A at hD hZ hC ⊢
  have hA : ∀ q : Nat, s.heap.size ≤ q → A q := fun q h => by rw [← hAe]; exact Or.inr h
  have hS : va_S A s.heap s.heap [] := va_S.rf
  have hP : va_P (dC, dI) classes ([(wk, .inr (10, [.ref wl, .int (nI tp), .int (nI sp), .ref rt])), (wl, .inl (cV, 10000, .inr (.inr (.inr (.inr g)))))] ++ va_pl L (pf f ν)) s.heap := hP
  have hl := lv_entry ([.ref wk, .ref nd]) (n := 3) (Nat.le_of_ble_eq_true rfl)
  rw [lg_entry_eq]
  generalize (lg_sl ([.ref wk, .ref nd]) ++ List.replicate (3 - (lg_sl ([.ref wk, .ref nd])).length) Slot.unset).toArray = ls at hl ⊢
  have hl : lv_has ls 3 [(0, .ref wk), (1, .ref nd)] := hl
  have hW0 := hW9
  have hW1 := hW9.1
  have hW2 := hW9.2.1
  have hPU : PU E PL AL S (([], 0)) tp sp g ν tp sp g ν := PU.rf hW9
  have hDν := hDq9 ν NUg.rf
  obtain ⟨hnd, hCu⟩ := hnn.ax hDν
  have hR0 : catR ([], 0) (((kdsN ndn).drop 0).map (·.2), (kdsN ndn).length - 0) = (eachS rtn ndn) := Prod.ext rfl (show 0 + ((kdsN ndn).length - 0) = (kdsN ndn).length by omega)
  refine lv_iconst (v := 0) hx hb d_Walk_pushAll_0 (by decide) ?_
  refine lv_istore_n (lv' := [(2, .int 0), (0, .ref wk), (1, .ref nd)]) hx hb d_Walk_pushAll_1 rfl hl (by decide) rfl (fun ls hl => ?_)
  obtain ⟨kd21, nu21, tx21, me21, pa21, na21, ix21, nm21, no21, sp21, ef21, hv21⟩ := hO.val ((isF.v hnd))
  have hs := hO.szle ef21 hv21
  have hsk : szF f nd = (kdsN ndn).length := by rw [← hO.szpf (ν := ν) hnd, hCu.get.2.1, kdsN_len]
  refine w_loop (D := (dC, dI)) (cl := classes) (A := A) (H0 := s.heap) (nL := 3) 2 (σ := Nat × (List NT × Nat) × Nat × Nat × (Nat → Option Nat) × (Nat → Int64)) (fun ⟨i, D, t, s9, g1, ν3⟩ => i ≤ 4096 ∧ PU E PL AL S D tp sp g ν t s9 g1 ν3 ∧ catR D ((((kdsN ndn).drop i).map (·.2), (kdsN ndn).length - i)) = (eachS rtn ndn)) (fun ⟨i, D, t, s9, g1, ν3⟩ => 4096 - i) (fun ⟨i, D, t, s9, g1, ν3⟩ => [(wk, .inr (10, [.ref wl, .int (nI t), .int (nI s9), .ref rt])), (wl, .inl (cV, 10000, .inr (.inr (.inr (.inr g1)))))] ++ va_pl L (pf f ν3)) (fun ⟨i, D, t, s9, g1, ν3⟩ => [(0, .ref wk), (1, .ref nd), (2, .int (nI i))]) ?_ (0, ([], 0), tp, sp, g, ν) ⟨Nat.zero_le _, hPU, hR0⟩ hP hD hS (lv_sub hl [1, 2, 0] rfl)
  rintro ⟨i, D, t, s9, g1, ν3⟩ H locs ls hI ih hP hD hS hl
  have hP : va_P (dC, dI) classes ([(wk, .inr (10, [.ref wl, .int (nI t), .int (nI s9), .ref rt])), (wl, .inl (cV, 10000, .inr (.inr (.inr (.inr g1)))))] ++ va_pl L (pf f ν3)) H := hP
  have hD : va_D A ([(wk, .inr (10, [.ref wl, .int (nI t), .int (nI s9), .ref rt])), (wl, .inl (cV, 10000, .inr (.inr (.inr (.inr g1)))))] ++ va_pl L (pf f ν3)) := hD
  have hl : lv_has ls 3 [(0, .ref wk), (1, .ref nd), (2, .int (nI i))] := hl
  obtain ⟨hI, hPI, hRI⟩ := hI
  have hI : i ≤ 4096 := hI
  have hPI : PU E PL AL S D tp sp g ν t s9 g1 ν3 := hPI
  have hRI : catR D ((((kdsN ndn).drop i).map (·.2), (kdsN ndn).length - i)) = (eachS rtn ndn) := hRI
  have hW_hPI := hPI.wi
  have hA_hPI := hW_hPI.1
  have hB_hPI := hW_hPI.2.1
  have hC_hPI := hPI.spt
  have hDν := hDq9 ν3 hPI.nu
  have hCu := (hnn.ax hDν).2
  refine lv_iload_n hx hb d_Walk_pushAll_2 rfl (lv_at hl 2 rfl) ?_
  refine lv_aload_n hx hb d_Walk_pushAll_3 rfl (lv_at hl 1 rfl) ?_
  refine vp_callSi (va_Run.run (va_runV (As := []) (rest := [.int (nI i)]) ⟨hx, hb, hml, hown, hts⟩ (c_Value_size l dC dI H cI cV E lv L (pf f ν3) (hO.num ν3) nd hnd) (cwV 0 hts (gt_V (own := R_Walk) (C := R_Value) (i := 118) (y := y_Value_size) i_Value_size z_874 z_866 z_867 z_14) rfl rfl rfl (by decide +kernel) ⟨Nat.le_of_ble_eq_true rfl, Nat.le_of_ble_eq_true rfl⟩) ⟨mq_blind, vq_recv hK hP rfl (hO.inV (isF.v hnd)) (pf_V ef21), fun U hU hW => ⟨rfl, hU, by rw [hU]; exact hP.part (cx := []) [] rfl, va_K.moved hW.alike hK, hN.warm hW⟩⟩ rfl rfl hl.1 rfl (lv_room (Nat.le_of_ble_eq_true rfl)) d_Walk_pushAll_4 ⟨Nat.le_of_ble_eq_true rfl, Nat.le_of_ble_eq_true rfl⟩)) (fun r22 h_r22 => ?_)
  rw [hO.szpf hnd] at h_r22
  subst h_r22
  refine lv_icmp_ge (tgt := 26) hx hb d_Walk_pushAll_7 (by decide) (fun c7 => ?_) (fun c7 => ?_)
  · have hie : (kdsN ndn).length ≤ i := by rw [nI_leI (by omega) (by omega)] at c7; omega
    have hfin : PU E PL AL S ((eachS rtn ndn)) tp sp g ν t s9 g1 ν3 := by rw [← show D = (eachS rtn ndn) from by rw [← hRI, show (((kdsN ndn).drop i).map (·.2), (kdsN ndn).length - i) = ([], 0) by rw [List.drop_eq_nil_of_le hie, Nat.sub_eq_zero_of_le hie]; rfl]; exact (catR_0 _).symm]; exact hPI
    refine w_same (fun hq => ?_)
    refine W.widen (k := 1) (n := 6) (Nat.le_of_ble_eq_true rfl) (Nat.le_of_ble_eq_true rfl) ?_
    refine vx_ret ?_
    exact W.vret hx hb hr (fun t9 ht hW => ⟨⟨(t, s9, g1, ν3), rfl, hfin, ⟨by rw [ht]; exact hP, va_K.moved hW.alike hK, hD⟩, by rw [ht]; exact hq⟩, hS.F ht⟩) hS.2.2 d_Walk_pushAll_26
  · have hi : i < szF f nd := by rw [nI_leI (by omega) (by omega)] at c7; omega
    obtain ⟨c9, hc9⟩ : ∃ c, (kdsN ndn)[i]? = some c := ⟨_, List.getElem?_eq_getElem (by omega)⟩
    refine lv_aload_n hx hb d_Walk_pushAll_10 rfl (lv_at hl 0 rfl) ?_
    refine lv_aload_n hx hb d_Walk_pushAll_11 rfl (lv_at hl 1 rfl) ?_
    rcases me21 with _ | b23
    · exact absurd (PO.mem0 ef21) (by omega)
    · refine vq_get (D := (dC, dI)) (ci := 9) (v := .ref b23) (C := R_Value) (T := F_Value) (N := 10) hx hb hts in_Value hown hK hP (hO.inV (isF.v hnd)) (pf_V ef21) rfl 3 (by decide) (hts _ z_328) (fun _ h9 => h9) rfl d_Walk_pushAll_12 ?_
      refine lv_iload_n hx hb d_Walk_pushAll_15 rfl (lv_at hl 2 rfl) ?_
      obtain ⟨g24, hi24, ef24, hg24⟩ := hO.mem1 ef21 hv21 (isF.n1 hnd)
      have hn24 := hO.szle ef21 hv21
      obtain ⟨me25, hm25, hf25, hnm25⟩ := hg24 i hi
      refine vq_aald hx hb hK hP 1 hi24 (pf_A ef24) rfl (j := i) hi hn24 hm25 d_Walk_pushAll_16 ?_
      have hRd := eachS_drop hc9
      have hRI1 : catR D (catR ([c9.2], 1) (((kdsN ndn).drop (i + 1)).map (·.2), (kdsN ndn).length - (i + 1))) = (eachS rtn ndn) := by rw [← hRd]; exact hRI
      have hPc := hP.part (cx := [(wk, .inr (10, [.ref wl, .int (nI t), .int (nI s9), .ref rt])), (wl, .inl (cV, 10000, .inr (.inr (.inr (.inr g1)))))]) [0, 1] rfl
      have hDc := hD.part (cx := [(wk, .inr (10, [.ref wl, .int (nI t), .int (nI s9), .ref rt])), (wl, .inl (cV, 10000, .inr (.inr (.inr (.inr g1)))))]) [0, 1] (by decide) rfl
      have hFc := va_freeP (cx := [(wk, .inr (10, [.ref wl, .int (nI t), .int (nI s9), .ref rt])), (wl, .inl (cV, 10000, .inr (.inr (.inr (.inr g1)))))]) hD hS hA [0, 1] rfl
      have hKc := hK.sub (tys' := [(cI, .int), (cV, .object "QueryBench$Value")]) [0, 1] rfl
      refine w_same (fun hq0 => ?_)
      refine vx_callv (vx_runV (As := [.ref me25]) (rest := []) ⟨hx, hb, hml, hown, hts⟩ (p_Walk_push l hl9 K dC dI H cI cV E lv L f hO hN1 PL AL S wk wl rt hrt rtn hrn t s9 g1 ν3 hW_hPI (fun ν2 h2 => hDq9 ν2 (hPI.nu.tr h2)) me25 c9.2 (hnn.kid (hDq9 ν3 hPI.nu) hc9 ((memF_a (pf_V ef21) (pf_A ef24)).trans hm25))) (cwV 1 hts (gt_V (own := R_Walk) (C := R_Walk) (i := 38) (y := y_Walk_push) i_Walk_push z_839 z_841 (gt_sel (y := y_Walk_push) (n := 4) (by decide +kernel)) w_5) rfl rfl rfl (by decide +kernel) ⟨Nat.le_of_ble_eq_true rfl, Nat.le_of_ble_eq_true rfl⟩) ⟨ml_blind, va_recv hK hP (ci := 10) (q0 := 0) rfl rfl, fun U hU hW => ⟨rfl, ⟨hU, by rw [hU]; exact hPc, va_K.moved hW.alike hKc, hDc.weaken (fun _ _ _ _ => trivial)⟩, hN.warm hW, by rw [hU]; exact ZX.moved' hW.alike (ZX.narrow' (ZX.kept' hZ hS.2.1) hFc), by rw [hU]; exact CE.call hC hS.2.1 hFc hW, va_AO.moved hW.alike hV⟩⟩ rfl rfl hl.1 rfl (lv_room (Nat.le_of_ble_eq_true rfl)) d_Walk_pushAll_17 ⟨Nat.le_of_ble_eq_true rfl, Nat.le_of_ble_eq_true rfl⟩) hS (fun q _ h => hFc q h) hFc (fun q _ h => hFc q h) (fun En ce q9 ⟨tx, sx, gx, nx⟩ t9 H1 locs ht hvm hw hB hz1 hk1 hS hce hcv hcl => ?_) (fun ⟨t26, s26, g26, n26⟩ t9 H1 locs ht hvm hw hB hz1 hk1 hS => ?_)
      · obtain ⟨hEn, hP1, hK1, hD1⟩ := hB
        rw [ht] at hP1
        obtain ⟨hP, hD⟩ := va_joinP (wr := []) (rx := [(wk, .inr (10, [.ref wl, .int tx, .int sx, .ref rt])), (wl, .inl (cV, 10000, .inr (.inr (.inr (.inr gx)))))]) (pl1 := va_pl L (pf f nx)) hP hD [0, 1] [] rfl rfl (by decide) (by decide) hk1 hFc hP1 hD1
        generalize H1 = H at hP hS hce ⊢
        have hP : va_P (dC, dI) classes ([(wk, .inr (10, [.ref wl, .int tx, .int sx, .ref rt])), (wl, .inl (cV, 10000, .inr (.inr (.inr (.inr gx)))))] ++ va_pl L (pf f nx)) H := hP
        have hD : va_D A ([(wk, .inr (10, [.ref wl, .int tx, .int sx, .ref rt])), (wl, .inl (cV, 10000, .inr (.inr (.inr (.inr gx)))))] ++ va_pl L (pf f nx)) := hD
        have hno : 10000 < sp + ((eachS rtn ndn)).2 := by have hw : 10000 < s9 + (([c9.2], 1)).2 := hw.1; rw [← hRI1]; show 10000 < sp + (D.2 + (1 + _)); omega
        exact vx_out (fun x hx => (hex x hx).elim) hlocks hce hcv hcl (fun t9 ht2 ha => ⟨(tx, sx, gx, nx), ⟨hno, hPI.nu.tr hw.2⟩, ⟨hEn, by rw [ht2]; exact hP, va_K.moved ha hK, hD⟩, hS.F ht2⟩) hS.2.2 (Nat.le_of_ble_eq_true rfl) (Nat.le_of_ble_eq_true rfl)
      · obtain ⟨⟨hP1, hK1, hD1⟩, hz9⟩ := hB
        rw [ht] at hP1
        rw [ht] at hz9
        refine w_tight (hq0.trans hz9) ?_
        have hq0 := hq0.trans hz9
        obtain ⟨hP, hD⟩ := va_joinP (wr := []) (rx := [(wk, .inr (10, [.ref wl, .int (nI t26), .int (nI s26), .ref rt])), (wl, .inl (cV, 10000, .inr (.inr (.inr (.inr g26)))))]) (pl1 := va_pl L (pf f n26)) hP hD [0, 1] [] rfl rfl (by decide) (by decide) hk1 hFc hP1 hD1
        generalize H1 = H at hP hS hq0 ⊢
        have hP : va_P (dC, dI) classes ([(wk, .inr (10, [.ref wl, .int (nI t26), .int (nI s26), .ref rt])), (wl, .inl (cV, 10000, .inr (.inr (.inr (.inr g26)))))] ++ va_pl L (pf f n26)) H := hP
        have hD : va_D A ([(wk, .inr (10, [.ref wl, .int (nI t26), .int (nI s26), .ref rt])), (wl, .inl (cV, 10000, .inr (.inr (.inr (.inr g26)))))] ++ va_pl L (pf f n26)) := hD
        have hP26 : PU E PL AL S (catR D (([c9.2], 1))) tp sp g ν t26 s26 g26 n26 := hPI.tr hw
        have hW_hP26 := hP26.wi
        have hA_hP26 := hW_hP26.1
        have hB_hP26 := hW_hP26.2.1
        have hC_hP26 := hP26.spt
        have hRI2 : catR (catR D (([c9.2], 1))) (((kdsN ndn).drop (i + 1)).map (·.2), (kdsN ndn).length - (i + 1)) = (eachS rtn ndn) := by rw [catR_a]; exact hRI1
        refine lv_iinc (v := nI (i + 1)) (lv' := [(2, .int (nI (i + 1))), (0, .ref wk), (1, .ref nd)]) hx hb d_Walk_pushAll_20 hl (k := 2) rfl (nI_1 _) (by decide) rfl (fun ls hl => ?_)
        refine lv_goto (tgt := 2) hx hb d_Walk_pushAll_23 (by decide) ?_
        exact ih (i + 1, catR D (([c9.2], 1)), t26, s26, g26, n26) _ _ _ ⟨show i + 1 ≤ 4096 by omega, hP26, hRI2⟩ (by show 4096 - (i + 1) < 4096 - i; omega) hP hD hS (lv_sub hl [1, 2, 0] rfl)
set_option maxHeartbeats 4000000 in
set_option maxRecDepth 100000 in
/-- Walk.pushAt: what it pushes -/
theorem p_Walk_pushAt (l : Launch) (hl9 : l.stackTraces = false) (K : Nat → Nat × Nat) (dC : Nat → ClassId) (dI : Nat → Nat → Nat) (sz : Heap) (cI cV : ClassId) (E lv : Nat → Nat) (L : List Nat) (f : Nat → va_E) (hO : PO cI cV E lv L f) (hN1 : ∀ a, E a ≠ 1) (PL : List NT) (AL : List Nat) (S : Nat → Nat) (wk wl rt : Nat) (hrt : isF E rt) (rtn : NT) (hrn : NCr PL AL rt rtn) (tp sp : Nat) (g : Nat → Option Nat) (ν : Nat → Int64) (hW9 : WI E tp sp g) (hDq9 : ∀ ν2, NUg S ν ν2 → DOC E (pf f ν2) PL AL) (nd : Nat) (ndn : NT) (hnn : NCr PL AL nd ndn) (ix9 : Int64) : vx_Met l y_Walk_pushAt (k_Walk_pushAt :: gtbl) ({ frames := 10, cells := 1, slots := 6, locals := 200 }) (va_Pc [.ref wk, .ref nd, .long ix9] (ml K dC dI ([(wk, .inr (10, [.ref wl, .int (nI tp), .int (nI sp), .ref rt])), (wl, .inl (cV, 10000, .inr (.inr (.inr (.inr g)))))] ++ va_pl L (pf f ν)) [(cI, .int), (cV, .object "QueryBench$Value")] sz)) (va_Qv (fun (u : Nat × Nat × (Nat → Option Nat) × (Nat → Int64)) => PU E PL AL S ((idxS ix9 rtn ndn)) tp sp g ν u.1 u.2.1 u.2.2.1 u.2.2.2) (fun u t9 => mz dC dI ([(wk, .inr (10, [.ref wl, .int (nI u.1), .int (nI u.2.1), .ref rt])), (wl, .inl (cV, 10000, .inr (.inr (.inr (.inr u.2.2.1)))))] ++ va_pl L (pf f u.2.2.2)) [(cI, .int), (cV, .object "QueryBench$Value")] (va_A ([(wk, .inr (10, [.ref wl, .int (nI tp), .int (nI sp), .ref rt])), (wl, .inl (cV, 10000, .inr (.inr (.inr (.inr g)))))] ++ va_pl L (pf f ν)) sz.size) t9 ∧ szk sz t9.heap (0) (0)) (va_A ([(wk, .inr (10, [.ref wl, .int (nI tp), .int (nI sp), .ref rt])), (wl, .inl (cV, 10000, .inr (.inr (.inr (.inr g)))))] ++ va_pl L (pf f ν)) sz.size)) (vx_X (fun (u : Int32 × Int32 × (Nat → Option Nat) × (Nat → Int64)) => 10000 < sp + ((idxS ix9 rtn ndn)).2 ∧ NUg S ν u.2.2.2) (fun En u t9 => En = IOB ∧ mz dC dI ([(wk, .inr (10, [.ref wl, .int u.1, .int u.2.1, .ref rt])), (wl, .inl (cV, 10000, .inr (.inr (.inr (.inr u.2.2.1)))))] ++ va_pl L (pf f u.2.2.2)) [(cI, .int), (cV, .object "QueryBench$Value")] (va_A ([(wk, .inr (10, [.ref wl, .int (nI tp), .int (nI sp), .ref rt])), (wl, .inl (cV, 10000, .inr (.inr (.inr (.inr g)))))] ++ va_pl L (pf f ν)) sz.size) t9) (va_A ([(wk, .inr (10, [.ref wl, .int (nI tp), .int (nI sp), .ref rt])), (wl, .inl (cV, 10000, .inr (.inr (.inr (.inr g)))))] ++ va_pl L (pf f ν)) sz.size)) (1) (6) (va_A ([(wk, .inr (10, [.ref wl, .int (nI tp), .int (nI sp), .ref rt])), (wl, .inl (cV, 10000, .inr (.inr (.inr (.inr g)))))] ++ va_pl L (pf f ν)) sz.size) := by
  refine vx_ofW (cc := b_Walk_pushAt) (maxL := 6) (ret := none) (by decide) rfl ?_
  intro p e s m args below meth c s₁ B hml hex hv
  obtain ⟨rfl, ⟨hsz, hP, hK, hD0⟩, hN, hZ, hC, hV⟩ := hv
  have hx := B.exec
  have hb := B.bytes
  have hr := B.returns
  have hts0 := atoms_spec (ws := k_Walk_pushAt :: gtbl) B.pre
  have hts := fun w h => hts0 w (List.mem_cons_of_mem _ h)
  have hown : s.vm.findClass R_Walk = some m.cls := findClass_of_methodNamed B.named
  have hlocks := B.notSynchronized
  subst hsz
  have hD := hD0.self (sz := s.heap.size)
  generalize hAe : va_A ([(wk, .inr (10, [.ref wl, .int (nI tp), .int (nI sp), .ref rt])), (wl, .inl (cV, 10000, .inr (.inr (.inr (.inr g)))))] ++ va_pl L (pf f ν)) s.heap.size = A at hD hZ hC ⊢
  have hA : ∀ q : Nat, s.heap.size ≤ q → A q := fun q h => by rw [← hAe]; exact Or.inr h
  have hS : va_S A s.heap s.heap [] := va_S.rf
  have hP : va_P (dC, dI) classes ([(wk, .inr (10, [.ref wl, .int (nI tp), .int (nI sp), .ref rt])), (wl, .inl (cV, 10000, .inr (.inr (.inr (.inr g)))))] ++ va_pl L (pf f ν)) s.heap := hP
  have hl := lv_entry ([.ref wk, .ref nd, .long ix9]) (n := 6) (Nat.le_of_ble_eq_true rfl)
  rw [lg_entry_eq]
  generalize (lg_sl ([.ref wk, .ref nd, .long ix9]) ++ List.replicate (6 - (lg_sl ([.ref wk, .ref nd, .long ix9])).length) Slot.unset).toArray = ls at hl ⊢
  have hl : lv_has ls 6 [(0, .ref wk), (1, .ref nd), (2, .long ix9)] := hl
  have hW0 := hW9
  have hW1 := hW9.1
  have hW2 := hW9.2.1
  have hPU : PU E PL AL S (([], 0)) tp sp g ν tp sp g ν := PU.rf hW9
  have hDν := hDq9 ν NUg.rf
  obtain ⟨hnd, hCu⟩ := hnn.ax hDν
  refine lv_lload_n hx hb d_Walk_pushAt_0 rfl (lv_at hl 2 rfl) ?_
  refine lv_lconst (v := 0) hx hb d_Walk_pushAt_1 (by decide) ?_
  refine W.lcmp hx hb d_Walk_pushAt_2 ?_
  refine lv_if_ge (tgt := 16) hx hb d_Walk_pushAt_3 (by decide) (fun c3 => ?_) (fun c3 => ?_)
  · refine lv_lload_n hx hb d_Walk_pushAt_16 rfl (lv_at hl 2 rfl) ?_
    refine lv_lstore (lv' := [(4, .long ix9), (0, .ref wk), (1, .ref nd), (2, .long ix9)]) hx hb d_Walk_pushAt_17 hl (by decide) rfl (fun ls hl => ?_)
    obtain ⟨kd21, nu21, tx21, me21, pa21, na21, ix21, nm21, no21, sp21, ef21, hv21⟩ := hO.val ((isF.v hnd))
    have hs := hO.szle ef21 hv21
    have hsk : szF f nd = (kdsN ndn).length := by rw [← hO.szpf (ν := ν) hnd, hCu.get.2.1, kdsN_len]
    have hCl := hCu.get.1.of (pf_V ef21)
    have hfr : frontI (kdsN ndn).length ix9 = (ix9 : Int64).toInt := fr_p c3
    refine lv_aload_n hx hb d_Walk_pushAt_19 rfl (lv_at hl 2 rfl) ?_
    refine vq_get (D := (dC, dI)) (ci := 9) (v := .int kd21) (C := R_Value) (T := F_Value) (N := 10) hx hb hts in_Value hown hK hP (hO.inV (isF.v hnd)) (pf_V ef21) rfl 0 (by decide) (hts _ z_315) (fun _ h9 => h9) rfl d_Walk_pushAt_20 ?_
    refine lv_iconst (v := 5) hx hb d_Walk_pushAt_23 (by decide) ?_
    refine lv_icmp_ne (tgt := 57) hx hb d_Walk_pushAt_24 (by decide) (fun c24 => ?_) (fun c24 => ?_)
    · have hRn : idxS ix9 rtn ndn = ([], 0) := idxS_0 (Or.inl (fun q => c24 (hCl.1.trans ((ckd_n hCl.2.1 (Or.inr ⟨by decide, by decide⟩)).mpr q))))
      have hfin : PU E PL AL S ((idxS ix9 rtn ndn)) tp sp g ν tp sp g ν := by rw [← show ([], 0) = (idxS ix9 rtn ndn) from hRn.symm]; exact hPU
      refine w_same (fun hq => ?_)
      refine W.widen (k := 1) (n := 6) (Nat.le_of_ble_eq_true rfl) (Nat.le_of_ble_eq_true rfl) ?_
      refine vx_ret ?_
      exact W.vret hx hb hr (fun t9 ht hW => ⟨⟨(tp, sp, g, ν), rfl, hfin, ⟨by rw [ht]; exact hP, va_K.moved hW.alike hK, hD⟩, by rw [ht]; exact hq⟩, hS.F ht⟩) hS.2.2 d_Walk_pushAt_57
    · refine lv_lload hx hb d_Walk_pushAt_27 (lv_at hl 0 rfl) ?_
      refine lv_lconst (v := 0) hx hb d_Walk_pushAt_29 (by decide) ?_
      refine W.lcmp hx hb d_Walk_pushAt_30 ?_
      refine lv_if_lt (tgt := 57) hx hb d_Walk_pushAt_31 (by decide) (fun c31 => ?_) (fun c31 => ?_)
      · have hRn : idxS ix9 rtn ndn = ([], 0) := idxS_0 (Or.inr (Or.inl (by rw [hfr]; exact Int64.lt_iff_toInt_lt.mp ((lg_cmp_lt _ _).mp c31))))
        have hfin : PU E PL AL S ((idxS ix9 rtn ndn)) tp sp g ν tp sp g ν := by rw [← show ([], 0) = (idxS ix9 rtn ndn) from hRn.symm]; exact hPU
        refine w_same (fun hq => ?_)
        refine W.widen (k := 1) (n := 6) (Nat.le_of_ble_eq_true rfl) (Nat.le_of_ble_eq_true rfl) ?_
        refine vx_ret ?_
        exact W.vret hx hb hr (fun t9 ht hW => ⟨⟨(tp, sp, g, ν), rfl, hfin, ⟨by rw [ht]; exact hP, va_K.moved hW.alike hK, hD⟩, by rw [ht]; exact hq⟩, hS.F ht⟩) hS.2.2 d_Walk_pushAt_57
      · refine lv_lload hx hb d_Walk_pushAt_34 (lv_at hl 0 rfl) ?_
        refine lv_aload_n hx hb d_Walk_pushAt_36 rfl (lv_at hl 2 rfl) ?_
        refine vp_callSi (va_Run.run (va_runV (As := []) (rest := [.long ix9]) ⟨hx, hb, hml, hown, hts⟩ (c_Value_size l dC dI s.heap cI cV E lv L (pf f ν) (hO.num ν) nd hnd) (cwV 0 hts (gt_V (own := R_Walk) (C := R_Value) (i := 118) (y := y_Value_size) i_Value_size z_874 z_866 z_867 z_14) rfl rfl rfl (by decide +kernel) ⟨Nat.le_of_ble_eq_true rfl, Nat.le_of_ble_eq_true rfl⟩) ⟨mq_blind, vq_recv hK hP rfl (hO.inV (isF.v hnd)) (pf_V ef21), fun U hU hW => ⟨rfl, hU, by rw [hU]; exact hP.part (cx := []) [] rfl, va_K.moved hW.alike hK, hN.warm hW⟩⟩ rfl rfl hl.1 rfl (lv_room (Nat.le_of_ble_eq_true rfl)) d_Walk_pushAt_37 ⟨Nat.le_of_ble_eq_true rfl, Nat.le_of_ble_eq_true rfl⟩)) (fun r22 h_r22 => ?_)
        rw [hO.szpf hnd] at h_r22
        subst h_r22
        refine lv_i2l (v := ((nI (szF f nd))).toInt64) hx hb d_Walk_pushAt_40 rfl ?_
        refine W.lcmp hx hb d_Walk_pushAt_41 ?_
        refine lv_if_ge (tgt := 57) hx hb d_Walk_pushAt_42 (by decide) (fun c42 => ?_) (fun c42 => ?_)
        · have hRn : idxS ix9 rtn ndn = ([], 0) := idxS_0 (Or.inr (Or.inr (by rw [hfr, ← hsk]; have h9 := Int64.le_iff_toInt_le.mp ((lg_cmp_ge _ _).mp c42); rw [i64_nI hs] at h9; exact h9)))
          have hfin : PU E PL AL S ((idxS ix9 rtn ndn)) tp sp g ν tp sp g ν := by rw [← show ([], 0) = (idxS ix9 rtn ndn) from hRn.symm]; exact hPU
          refine w_same (fun hq => ?_)
          refine W.widen (k := 1) (n := 6) (Nat.le_of_ble_eq_true rfl) (Nat.le_of_ble_eq_true rfl) ?_
          refine vx_ret ?_
          exact W.vret hx hb hr (fun t9 ht hW => ⟨⟨(tp, sp, g, ν), rfl, hfin, ⟨by rw [ht]; exact hP, va_K.moved hW.alike hK, hD⟩, by rw [ht]; exact hq⟩, hS.F ht⟩) hS.2.2 d_Walk_pushAt_57
        · have hk5 : kdN ndn = 5 := (ckd_n hCl.2.1 (Or.inr ⟨by decide, by decide⟩)).mp (hCl.1.symm.trans c24)
          obtain ⟨j, hj, ej⟩ := l_at (x := ix9) hs c31 c42
          have hjk : j < (kdsN ndn).length := by rw [← hsk]; exact hj
          obtain ⟨c9, hc9⟩ : ∃ c, (kdsN ndn)[j]? = some c := ⟨_, List.getElem?_eq_getElem hjk⟩
          have hRn : idxS ix9 rtn ndn = ([c9.2], 1) := idxS_1 hk5 (by rw [hfr, ej, pk_lT (by omega)]) hc9
          refine lv_aload_n hx hb d_Walk_pushAt_45 rfl (lv_at hl 1 rfl) ?_
          refine lv_aload_n hx hb d_Walk_pushAt_46 rfl (lv_at hl 2 rfl) ?_
          rcases me21 with _ | b23
          · exact absurd (PO.mem0 ef21) (by omega)
          · refine vq_get (D := (dC, dI)) (ci := 9) (v := .ref b23) (C := R_Value) (T := F_Value) (N := 10) hx hb hts in_Value hown hK hP (hO.inV (isF.v hnd)) (pf_V ef21) rfl 3 (by decide) (hts _ z_328) (fun _ h9 => h9) rfl d_Walk_pushAt_47 ?_
            refine lv_lload hx hb d_Walk_pushAt_50 (lv_at hl 0 rfl) ?_
            refine lv_l2i (v := ix9.toInt32) hx hb d_Walk_pushAt_52 rfl ?_
            refine W.eq (g2 := F0 m 53 ls [.int (nI j), .ref b23, .ref wk]) (by rw [show (ix9.toInt32) = (nI j) from (by rw [ej]; exact lN_i j)]) ?_
            obtain ⟨g24, hi24, ef24, hg24⟩ := hO.mem1 ef21 hv21 (isF.n1 hnd)
            have hn24 := hO.szle ef21 hv21
            obtain ⟨me25, hm25, hf25, hnm25⟩ := hg24 j hj
            refine vq_aald hx hb hK hP 1 hi24 (pf_A ef24) rfl (j := j) hj hn24 hm25 d_Walk_pushAt_53 ?_
            have hPc := hP.part (cx := [(wk, .inr (10, [.ref wl, .int (nI tp), .int (nI sp), .ref rt])), (wl, .inl (cV, 10000, .inr (.inr (.inr (.inr g)))))]) [0, 1] rfl
            have hDc := hD.part (cx := [(wk, .inr (10, [.ref wl, .int (nI tp), .int (nI sp), .ref rt])), (wl, .inl (cV, 10000, .inr (.inr (.inr (.inr g)))))]) [0, 1] (by decide) rfl
            have hFc := va_freeP (cx := [(wk, .inr (10, [.ref wl, .int (nI tp), .int (nI sp), .ref rt])), (wl, .inl (cV, 10000, .inr (.inr (.inr (.inr g)))))]) hD hS hA [0, 1] rfl
            have hKc := hK.sub (tys' := [(cI, .int), (cV, .object "QueryBench$Value")]) [0, 1] rfl
            refine w_same (fun hq0 => ?_)
            refine vx_callv (vx_runV (As := [.ref me25]) (rest := []) ⟨hx, hb, hml, hown, hts⟩ (p_Walk_push l hl9 K dC dI s.heap cI cV E lv L f hO hN1 PL AL S wk wl rt hrt rtn hrn tp sp g ν hW9 (fun ν2 h2 => hDq9 ν2 (hPU.nu.tr h2)) me25 c9.2 (hnn.kid (hDq9 ν hPU.nu) hc9 ((memF_a (pf_V ef21) (pf_A ef24)).trans hm25))) (cwV 1 hts (gt_V (own := R_Walk) (C := R_Walk) (i := 38) (y := y_Walk_push) i_Walk_push z_839 z_841 (gt_sel (y := y_Walk_push) (n := 4) (by decide +kernel)) w_5) rfl rfl rfl (by decide +kernel) ⟨Nat.le_of_ble_eq_true rfl, Nat.le_of_ble_eq_true rfl⟩) ⟨ml_blind, va_recv hK hP (ci := 10) (q0 := 0) rfl rfl, fun U hU hW => ⟨rfl, ⟨hU, by rw [hU]; exact hPc, va_K.moved hW.alike hKc, hDc.weaken (fun _ _ _ _ => trivial)⟩, hN.warm hW, by rw [hU]; exact ZX.moved' hW.alike (ZX.narrow' (ZX.kept' hZ hS.2.1) hFc), by rw [hU]; exact CE.call hC hS.2.1 hFc hW, va_AO.moved hW.alike hV⟩⟩ rfl rfl hl.1 rfl (lv_room (Nat.le_of_ble_eq_true rfl)) d_Walk_pushAt_54 ⟨Nat.le_of_ble_eq_true rfl, Nat.le_of_ble_eq_true rfl⟩) hS (fun q _ h => hFc q h) hFc (fun q _ h => hFc q h) (fun En ce q9 ⟨tx, sx, gx, nx⟩ t9 H1 locs ht hvm hw hB hz1 hk1 hS hce hcv hcl => ?_) (fun ⟨t26, s26, g26, n26⟩ t9 H1 locs ht hvm hw hB hz1 hk1 hS => ?_)
            · obtain ⟨hEn, hP1, hK1, hD1⟩ := hB
              rw [ht] at hP1
              obtain ⟨hP, hD⟩ := va_joinP (wr := []) (rx := [(wk, .inr (10, [.ref wl, .int tx, .int sx, .ref rt])), (wl, .inl (cV, 10000, .inr (.inr (.inr (.inr gx)))))]) (pl1 := va_pl L (pf f nx)) hP hD [0, 1] [] rfl rfl (by decide) (by decide) hk1 hFc hP1 hD1
              generalize H1 = H at hP hS hce ⊢
              have hP : va_P (dC, dI) classes ([(wk, .inr (10, [.ref wl, .int tx, .int sx, .ref rt])), (wl, .inl (cV, 10000, .inr (.inr (.inr (.inr gx)))))] ++ va_pl L (pf f nx)) H := hP
              have hD : va_D A ([(wk, .inr (10, [.ref wl, .int tx, .int sx, .ref rt])), (wl, .inl (cV, 10000, .inr (.inr (.inr (.inr gx)))))] ++ va_pl L (pf f nx)) := hD
              have hno : 10000 < sp + ((idxS ix9 rtn ndn)).2 := by have hw : 10000 < sp + (([c9.2], 1)).2 := hw.1; rw [hRn]; exact hw
              exact vx_out (fun x hx => (hex x hx).elim) hlocks hce hcv hcl (fun t9 ht2 ha => ⟨(tx, sx, gx, nx), ⟨hno, hPU.nu.tr hw.2⟩, ⟨hEn, by rw [ht2]; exact hP, va_K.moved ha hK, hD⟩, hS.F ht2⟩) hS.2.2 (Nat.le_of_ble_eq_true rfl) (Nat.le_of_ble_eq_true rfl)
            · obtain ⟨⟨hP1, hK1, hD1⟩, hz9⟩ := hB
              rw [ht] at hP1
              rw [ht] at hz9
              refine w_tight (hq0.trans hz9) ?_
              have hq0 := hq0.trans hz9
              obtain ⟨hP, hD⟩ := va_joinP (wr := []) (rx := [(wk, .inr (10, [.ref wl, .int (nI t26), .int (nI s26), .ref rt])), (wl, .inl (cV, 10000, .inr (.inr (.inr (.inr g26)))))]) (pl1 := va_pl L (pf f n26)) hP hD [0, 1] [] rfl rfl (by decide) (by decide) hk1 hFc hP1 hD1
              generalize H1 = H at hP hS hq0 ⊢
              have hP : va_P (dC, dI) classes ([(wk, .inr (10, [.ref wl, .int (nI t26), .int (nI s26), .ref rt])), (wl, .inl (cV, 10000, .inr (.inr (.inr (.inr g26)))))] ++ va_pl L (pf f n26)) H := hP
              have hD : va_D A ([(wk, .inr (10, [.ref wl, .int (nI t26), .int (nI s26), .ref rt])), (wl, .inl (cV, 10000, .inr (.inr (.inr (.inr g26)))))] ++ va_pl L (pf f n26)) := hD
              have hP26 : PU E PL AL S (catR (([], 0)) (([c9.2], 1))) tp sp g ν t26 s26 g26 n26 := hPU.tr hw
              have hW_hP26 := hP26.wi
              have hA_hP26 := hW_hP26.1
              have hB_hP26 := hW_hP26.2.1
              have hC_hP26 := hP26.spt
              have hfin : PU E PL AL S ((idxS ix9 rtn ndn)) tp sp g ν t26 s26 g26 n26 := by rw [← show catR (([], 0)) (([c9.2], 1)) = (idxS ix9 rtn ndn) from hRn.symm]; exact hP26
              refine w_same (fun hq => ?_)
              refine W.widen (k := 1) (n := 6) (Nat.le_of_ble_eq_true rfl) (Nat.le_of_ble_eq_true rfl) ?_
              refine vx_ret ?_
              exact W.vret hx hb hr (fun t9 ht hW => ⟨⟨(t26, s26, g26, n26), rfl, hfin, ⟨by rw [ht]; exact hP, va_K.moved hW.alike hK, hD⟩, by rw [ht]; exact hq⟩, hS.F ht⟩) hS.2.2 d_Walk_pushAt_57
  · obtain ⟨kd27, nu27, tx27, me27, pa27, na27, ix27, nm27, no27, sp27, ef27, hv27⟩ := hO.val ((isF.v hnd))
    have hs := hO.szle ef27 hv27
    have hsk : szF f nd = (kdsN ndn).length := by rw [← hO.szpf (ν := ν) hnd, hCu.get.2.1, kdsN_len]
    have hCl := hCu.get.1.of (pf_V ef27)
    refine lv_lload_n hx hb d_Walk_pushAt_6 rfl (lv_at hl 2 rfl) ?_
    refine lv_aload_n hx hb d_Walk_pushAt_7 rfl (lv_at hl 1 rfl) ?_
    refine vp_callSi (va_Run.run (va_runV (As := []) (rest := [.long ix9]) ⟨hx, hb, hml, hown, hts⟩ (c_Value_size l dC dI s.heap cI cV E lv L (pf f ν) (hO.num ν) nd hnd) (cwV 0 hts (gt_V (own := R_Walk) (C := R_Value) (i := 118) (y := y_Value_size) i_Value_size z_874 z_866 z_867 z_14) rfl rfl rfl (by decide +kernel) ⟨Nat.le_of_ble_eq_true rfl, Nat.le_of_ble_eq_true rfl⟩) ⟨mq_blind, vq_recv hK hP rfl (hO.inV (isF.v hnd)) (pf_V ef27), fun U hU hW => ⟨rfl, hU, by rw [hU]; exact hP.part (cx := []) [] rfl, va_K.moved hW.alike hK, hN.warm hW⟩⟩ rfl rfl hl.1 rfl (lv_room (Nat.le_of_ble_eq_true rfl)) d_Walk_pushAt_8 ⟨Nat.le_of_ble_eq_true rfl, Nat.le_of_ble_eq_true rfl⟩)) (fun r28 h_r28 => ?_)
    rw [hO.szpf hnd] at h_r28
    subst h_r28
    refine lv_i2l (v := ((nI (szF f nd))).toInt64) hx hb d_Walk_pushAt_11 rfl ?_
    refine lv_ladd hx hb d_Walk_pushAt_12 ?_
    refine lv_goto (tgt := 17) hx hb d_Walk_pushAt_13 (by decide) ?_
    refine lv_lstore (lv' := [(4, .long (ix9 + (((nI (szF f nd))).toInt64))), (0, .ref wk), (1, .ref nd), (2, .long ix9)]) hx hb d_Walk_pushAt_17 hl (by decide) rfl (fun ls hl => ?_)
    have hfr : frontI (kdsN ndn).length ix9 = ((ix9 + (((nI (szF f nd))).toInt64)) : Int64).toInt := by rw [← hsk]; exact fr_m hs c3
    refine lv_aload_n hx hb d_Walk_pushAt_19 rfl (lv_at hl 2 rfl) ?_
    refine vq_get (D := (dC, dI)) (ci := 9) (v := .int kd27) (C := R_Value) (T := F_Value) (N := 10) hx hb hts in_Value hown hK hP (hO.inV (isF.v hnd)) (pf_V ef27) rfl 0 (by decide) (hts _ z_315) (fun _ h9 => h9) rfl d_Walk_pushAt_20 ?_
    refine lv_iconst (v := 5) hx hb d_Walk_pushAt_23 (by decide) ?_
    refine lv_icmp_ne (tgt := 57) hx hb d_Walk_pushAt_24 (by decide) (fun c24 => ?_) (fun c24 => ?_)
    · have hRn : idxS ix9 rtn ndn = ([], 0) := idxS_0 (Or.inl (fun q => c24 (hCl.1.trans ((ckd_n hCl.2.1 (Or.inr ⟨by decide, by decide⟩)).mpr q))))
      have hfin : PU E PL AL S ((idxS ix9 rtn ndn)) tp sp g ν tp sp g ν := by rw [← show ([], 0) = (idxS ix9 rtn ndn) from hRn.symm]; exact hPU
      refine w_same (fun hq => ?_)
      refine W.widen (k := 1) (n := 6) (Nat.le_of_ble_eq_true rfl) (Nat.le_of_ble_eq_true rfl) ?_
      refine vx_ret ?_
      exact W.vret hx hb hr (fun t9 ht hW => ⟨⟨(tp, sp, g, ν), rfl, hfin, ⟨by rw [ht]; exact hP, va_K.moved hW.alike hK, hD⟩, by rw [ht]; exact hq⟩, hS.F ht⟩) hS.2.2 d_Walk_pushAt_57
    · refine lv_lload hx hb d_Walk_pushAt_27 (lv_at hl 0 rfl) ?_
      refine lv_lconst (v := 0) hx hb d_Walk_pushAt_29 (by decide) ?_
      refine W.lcmp hx hb d_Walk_pushAt_30 ?_
      refine lv_if_lt (tgt := 57) hx hb d_Walk_pushAt_31 (by decide) (fun c31 => ?_) (fun c31 => ?_)
      · have hRn : idxS ix9 rtn ndn = ([], 0) := idxS_0 (Or.inr (Or.inl (by rw [hfr]; exact Int64.lt_iff_toInt_lt.mp ((lg_cmp_lt _ _).mp c31))))
        have hfin : PU E PL AL S ((idxS ix9 rtn ndn)) tp sp g ν tp sp g ν := by rw [← show ([], 0) = (idxS ix9 rtn ndn) from hRn.symm]; exact hPU
        refine w_same (fun hq => ?_)
        refine W.widen (k := 1) (n := 6) (Nat.le_of_ble_eq_true rfl) (Nat.le_of_ble_eq_true rfl) ?_
        refine vx_ret ?_
        exact W.vret hx hb hr (fun t9 ht hW => ⟨⟨(tp, sp, g, ν), rfl, hfin, ⟨by rw [ht]; exact hP, va_K.moved hW.alike hK, hD⟩, by rw [ht]; exact hq⟩, hS.F ht⟩) hS.2.2 d_Walk_pushAt_57
      · refine lv_lload hx hb d_Walk_pushAt_34 (lv_at hl 0 rfl) ?_
        refine lv_aload_n hx hb d_Walk_pushAt_36 rfl (lv_at hl 2 rfl) ?_
        refine vp_callSi (va_Run.run (va_runV (As := []) (rest := [.long (ix9 + (((nI (szF f nd))).toInt64))]) ⟨hx, hb, hml, hown, hts⟩ (c_Value_size l dC dI s.heap cI cV E lv L (pf f ν) (hO.num ν) nd hnd) (cwV 0 hts (gt_V (own := R_Walk) (C := R_Value) (i := 118) (y := y_Value_size) i_Value_size z_874 z_866 z_867 z_14) rfl rfl rfl (by decide +kernel) ⟨Nat.le_of_ble_eq_true rfl, Nat.le_of_ble_eq_true rfl⟩) ⟨mq_blind, vq_recv hK hP rfl (hO.inV (isF.v hnd)) (pf_V ef27), fun U hU hW => ⟨rfl, hU, by rw [hU]; exact hP.part (cx := []) [] rfl, va_K.moved hW.alike hK, hN.warm hW⟩⟩ rfl rfl hl.1 rfl (lv_room (Nat.le_of_ble_eq_true rfl)) d_Walk_pushAt_37 ⟨Nat.le_of_ble_eq_true rfl, Nat.le_of_ble_eq_true rfl⟩)) (fun r29 h_r29 => ?_)
        rw [hO.szpf hnd] at h_r29
        subst h_r29
        refine lv_i2l (v := ((nI (szF f nd))).toInt64) hx hb d_Walk_pushAt_40 rfl ?_
        refine W.lcmp hx hb d_Walk_pushAt_41 ?_
        refine lv_if_ge (tgt := 57) hx hb d_Walk_pushAt_42 (by decide) (fun c42 => ?_) (fun c42 => ?_)
        · have hRn : idxS ix9 rtn ndn = ([], 0) := idxS_0 (Or.inr (Or.inr (by rw [hfr, ← hsk]; have h9 := Int64.le_iff_toInt_le.mp ((lg_cmp_ge _ _).mp c42); rw [i64_nI hs] at h9; exact h9)))
          have hfin : PU E PL AL S ((idxS ix9 rtn ndn)) tp sp g ν tp sp g ν := by rw [← show ([], 0) = (idxS ix9 rtn ndn) from hRn.symm]; exact hPU
          refine w_same (fun hq => ?_)
          refine W.widen (k := 1) (n := 6) (Nat.le_of_ble_eq_true rfl) (Nat.le_of_ble_eq_true rfl) ?_
          refine vx_ret ?_
          exact W.vret hx hb hr (fun t9 ht hW => ⟨⟨(tp, sp, g, ν), rfl, hfin, ⟨by rw [ht]; exact hP, va_K.moved hW.alike hK, hD⟩, by rw [ht]; exact hq⟩, hS.F ht⟩) hS.2.2 d_Walk_pushAt_57
        · have hk5 : kdN ndn = 5 := (ckd_n hCl.2.1 (Or.inr ⟨by decide, by decide⟩)).mp (hCl.1.symm.trans c24)
          obtain ⟨j, hj, ej⟩ := l_at (x := (ix9 + (((nI (szF f nd))).toInt64))) hs c31 c42
          have hjk : j < (kdsN ndn).length := by rw [← hsk]; exact hj
          obtain ⟨c9, hc9⟩ : ∃ c, (kdsN ndn)[j]? = some c := ⟨_, List.getElem?_eq_getElem hjk⟩
          have hRn : idxS ix9 rtn ndn = ([c9.2], 1) := idxS_1 hk5 (by rw [hfr, ej, pk_lT (by omega)]) hc9
          refine lv_aload_n hx hb d_Walk_pushAt_45 rfl (lv_at hl 1 rfl) ?_
          refine lv_aload_n hx hb d_Walk_pushAt_46 rfl (lv_at hl 2 rfl) ?_
          rcases me27 with _ | b30
          · exact absurd (PO.mem0 ef27) (by omega)
          · refine vq_get (D := (dC, dI)) (ci := 9) (v := .ref b30) (C := R_Value) (T := F_Value) (N := 10) hx hb hts in_Value hown hK hP (hO.inV (isF.v hnd)) (pf_V ef27) rfl 3 (by decide) (hts _ z_328) (fun _ h9 => h9) rfl d_Walk_pushAt_47 ?_
            refine lv_lload hx hb d_Walk_pushAt_50 (lv_at hl 0 rfl) ?_
            refine lv_l2i (v := ((ix9 + (((nI (szF f nd))).toInt64))).toInt32) hx hb d_Walk_pushAt_52 rfl ?_
            refine W.eq (g2 := F0 m 53 ls [.int (nI j), .ref b30, .ref wk]) (by rw [show (((ix9 + (((nI (szF f nd))).toInt64))).toInt32) = (nI j) from (by rw [ej]; exact lN_i j)]) ?_
            obtain ⟨g31, hi31, ef31, hg31⟩ := hO.mem1 ef27 hv27 (isF.n1 hnd)
            have hn31 := hO.szle ef27 hv27
            obtain ⟨me32, hm32, hf32, hnm32⟩ := hg31 j hj
            refine vq_aald hx hb hK hP 1 hi31 (pf_A ef31) rfl (j := j) hj hn31 hm32 d_Walk_pushAt_53 ?_
            have hPc := hP.part (cx := [(wk, .inr (10, [.ref wl, .int (nI tp), .int (nI sp), .ref rt])), (wl, .inl (cV, 10000, .inr (.inr (.inr (.inr g)))))]) [0, 1] rfl
            have hDc := hD.part (cx := [(wk, .inr (10, [.ref wl, .int (nI tp), .int (nI sp), .ref rt])), (wl, .inl (cV, 10000, .inr (.inr (.inr (.inr g)))))]) [0, 1] (by decide) rfl
            have hFc := va_freeP (cx := [(wk, .inr (10, [.ref wl, .int (nI tp), .int (nI sp), .ref rt])), (wl, .inl (cV, 10000, .inr (.inr (.inr (.inr g)))))]) hD hS hA [0, 1] rfl
            have hKc := hK.sub (tys' := [(cI, .int), (cV, .object "QueryBench$Value")]) [0, 1] rfl
            refine w_same (fun hq0 => ?_)
            refine vx_callv (vx_runV (As := [.ref me32]) (rest := []) ⟨hx, hb, hml, hown, hts⟩ (p_Walk_push l hl9 K dC dI s.heap cI cV E lv L f hO hN1 PL AL S wk wl rt hrt rtn hrn tp sp g ν hW9 (fun ν2 h2 => hDq9 ν2 (hPU.nu.tr h2)) me32 c9.2 (hnn.kid (hDq9 ν hPU.nu) hc9 ((memF_a (pf_V ef27) (pf_A ef31)).trans hm32))) (cwV 1 hts (gt_V (own := R_Walk) (C := R_Walk) (i := 38) (y := y_Walk_push) i_Walk_push z_839 z_841 (gt_sel (y := y_Walk_push) (n := 4) (by decide +kernel)) w_5) rfl rfl rfl (by decide +kernel) ⟨Nat.le_of_ble_eq_true rfl, Nat.le_of_ble_eq_true rfl⟩) ⟨ml_blind, va_recv hK hP (ci := 10) (q0 := 0) rfl rfl, fun U hU hW => ⟨rfl, ⟨hU, by rw [hU]; exact hPc, va_K.moved hW.alike hKc, hDc.weaken (fun _ _ _ _ => trivial)⟩, hN.warm hW, by rw [hU]; exact ZX.moved' hW.alike (ZX.narrow' (ZX.kept' hZ hS.2.1) hFc), by rw [hU]; exact CE.call hC hS.2.1 hFc hW, va_AO.moved hW.alike hV⟩⟩ rfl rfl hl.1 rfl (lv_room (Nat.le_of_ble_eq_true rfl)) d_Walk_pushAt_54 ⟨Nat.le_of_ble_eq_true rfl, Nat.le_of_ble_eq_true rfl⟩) hS (fun q _ h => hFc q h) hFc (fun q _ h => hFc q h) (fun En ce q9 ⟨tx, sx, gx, nx⟩ t9 H1 locs ht hvm hw hB hz1 hk1 hS hce hcv hcl => ?_) (fun ⟨t33, s33, g33, n33⟩ t9 H1 locs ht hvm hw hB hz1 hk1 hS => ?_)
            · obtain ⟨hEn, hP1, hK1, hD1⟩ := hB
              rw [ht] at hP1
              obtain ⟨hP, hD⟩ := va_joinP (wr := []) (rx := [(wk, .inr (10, [.ref wl, .int tx, .int sx, .ref rt])), (wl, .inl (cV, 10000, .inr (.inr (.inr (.inr gx)))))]) (pl1 := va_pl L (pf f nx)) hP hD [0, 1] [] rfl rfl (by decide) (by decide) hk1 hFc hP1 hD1
              generalize H1 = H at hP hS hce ⊢
              have hP : va_P (dC, dI) classes ([(wk, .inr (10, [.ref wl, .int tx, .int sx, .ref rt])), (wl, .inl (cV, 10000, .inr (.inr (.inr (.inr gx)))))] ++ va_pl L (pf f nx)) H := hP
              have hD : va_D A ([(wk, .inr (10, [.ref wl, .int tx, .int sx, .ref rt])), (wl, .inl (cV, 10000, .inr (.inr (.inr (.inr gx)))))] ++ va_pl L (pf f nx)) := hD
              have hno : 10000 < sp + ((idxS ix9 rtn ndn)).2 := by have hw : 10000 < sp + (([c9.2], 1)).2 := hw.1; rw [hRn]; exact hw
              exact vx_out (fun x hx => (hex x hx).elim) hlocks hce hcv hcl (fun t9 ht2 ha => ⟨(tx, sx, gx, nx), ⟨hno, hPU.nu.tr hw.2⟩, ⟨hEn, by rw [ht2]; exact hP, va_K.moved ha hK, hD⟩, hS.F ht2⟩) hS.2.2 (Nat.le_of_ble_eq_true rfl) (Nat.le_of_ble_eq_true rfl)
            · obtain ⟨⟨hP1, hK1, hD1⟩, hz9⟩ := hB
              rw [ht] at hP1
              rw [ht] at hz9
              refine w_tight (hq0.trans hz9) ?_
              have hq0 := hq0.trans hz9
              obtain ⟨hP, hD⟩ := va_joinP (wr := []) (rx := [(wk, .inr (10, [.ref wl, .int (nI t33), .int (nI s33), .ref rt])), (wl, .inl (cV, 10000, .inr (.inr (.inr (.inr g33)))))]) (pl1 := va_pl L (pf f n33)) hP hD [0, 1] [] rfl rfl (by decide) (by decide) hk1 hFc hP1 hD1
              generalize H1 = H at hP hS hq0 ⊢
              have hP : va_P (dC, dI) classes ([(wk, .inr (10, [.ref wl, .int (nI t33), .int (nI s33), .ref rt])), (wl, .inl (cV, 10000, .inr (.inr (.inr (.inr g33)))))] ++ va_pl L (pf f n33)) H := hP
              have hD : va_D A ([(wk, .inr (10, [.ref wl, .int (nI t33), .int (nI s33), .ref rt])), (wl, .inl (cV, 10000, .inr (.inr (.inr (.inr g33)))))] ++ va_pl L (pf f n33)) := hD
              have hP33 : PU E PL AL S (catR (([], 0)) (([c9.2], 1))) tp sp g ν t33 s33 g33 n33 := hPU.tr hw
              have hW_hP33 := hP33.wi
              have hA_hP33 := hW_hP33.1
              have hB_hP33 := hW_hP33.2.1
              have hC_hP33 := hP33.spt
              have hfin : PU E PL AL S ((idxS ix9 rtn ndn)) tp sp g ν t33 s33 g33 n33 := by rw [← show catR (([], 0)) (([c9.2], 1)) = (idxS ix9 rtn ndn) from hRn.symm]; exact hP33
              refine w_same (fun hq => ?_)
              refine W.widen (k := 1) (n := 6) (Nat.le_of_ble_eq_true rfl) (Nat.le_of_ble_eq_true rfl) ?_
              refine vx_ret ?_
              exact W.vret hx hb hr (fun t9 ht hW => ⟨⟨(t33, s33, g33, n33), rfl, hfin, ⟨by rw [ht]; exact hP, va_K.moved hW.alike hK, hD⟩, by rw [ht]; exact hq⟩, hS.F ht⟩) hS.2.2 d_Walk_pushAt_57
set_option maxHeartbeats 4000000 in
set_option maxRecDepth 100000 in
/-- Walk.cut: what it says -/
theorem g_Walk_cut (l : Launch) (dC : Nat → ClassId) (dI : Nat → Nat → Nat) (sz : Heap) (x : Int64) (n : Nat) (hn : n ≤ 4096) (le mo : Int32) : Met l y_Walk_cut (k_Walk_cut :: gtbl) ({ frames := 1, cells := 0, slots := 0, locals := 30 }) (va_Pc [.long x, .int (nI n), .int le, .int mo] mT) (vp_Sl (fun (r : Int64) => r.toInt = clI le.toInt mo.toInt (frontI n x))) 0 0 (fun _ => False) := by
  refine Met.ofW (cc := b_Walk_cut) (maxL := 7) (ret := (some .long)) (by decide) rfl ?_
  intro p e s m args below meth c s₁ B hml hv
  obtain ⟨rfl, hN⟩ := hv
  have hx := B.exec
  have hb := B.bytes
  have hr := B.returns
  have hts0 := atoms_spec (ws := k_Walk_cut :: gtbl) B.pre
  have hts := fun w h => hts0 w (List.mem_cons_of_mem _ h)
  have hown : s.vm.findClass R_Walk = some m.cls := findClass_of_methodNamed B.named
  have hlocks := B.notSynchronized
  have hl := lv_entry ([.long x, .int (nI n), .int le, .int mo]) (n := 7) (Nat.le_of_ble_eq_true rfl)
  rw [lg_entry_eq]
  generalize (lg_sl ([.long x, .int (nI n), .int le, .int mo]) ++ List.replicate (7 - (lg_sl ([.long x, .int (nI n), .int le, .int mo])).length) Slot.unset).toArray = ls at hl ⊢
  have hl : lv_has ls 7 [(0, .long x), (2, .int (nI n)), (3, .int le), (4, .int mo)] := hl
  refine lv_lload_n hx hb d_Walk_cut_0 rfl (lv_at hl 0 rfl) ?_
  refine lv_lconst (v := 0) hx hb d_Walk_cut_1 (by decide) ?_
  refine W.lcmp hx hb d_Walk_cut_2 ?_
  refine lv_if_ge (tgt := 13) hx hb d_Walk_cut_3 (by decide) (fun c3 => ?_) (fun c3 => ?_)
  · refine lv_lload_n hx hb d_Walk_cut_13 rfl (lv_at hl 0 rfl) ?_
    refine lv_lstore (lv' := [(5, .long x), (0, .long x), (2, .int (nI n)), (3, .int le), (4, .int mo)]) hx hb d_Walk_cut_14 hl (by decide) rfl (fun ls hl => ?_)
    have hfr : frontI n x = (x : Int64).toInt := fr_p c3
    refine lv_iload_n hx hb d_Walk_cut_16 rfl (lv_at hl 3 rfl) ?_
    refine lv_i2l (v := le.toInt64) hx hb d_Walk_cut_17 rfl ?_
    refine lv_iload hx hb d_Walk_cut_18 (lv_at hl 4 rfl) ?_
    refine lv_i2l (v := mo.toInt64) hx hb d_Walk_cut_20 rfl ?_
    refine lv_lload hx hb d_Walk_cut_21 (lv_at hl 0 rfl) ?_
    refine va_mmin_long hx hb (hml.trans hl.1.symm) hown (hts _ z_886) (hts _ w_520) (hts _ w_16) (hts _ w_minl) (Nat.le_of_ble_eq_true rfl) (Nat.le_of_ble_eq_true rfl) (Nat.zero_le _) (Nat.zero_le _) d_Walk_cut_23 ?_
    refine lv_topl (fun x1 e1 => ?_)
    refine va_mmax_long hx hb (hml.trans hl.1.symm) hown (hts _ z_887) (hts _ z_888) (hts _ w_16) (hts _ wm_maxl) (Nat.le_of_ble_eq_true rfl) (Nat.le_of_ble_eq_true rfl) (Nat.zero_le _) (Nat.zero_le _) d_Walk_cut_26 ?_
    refine lv_topl (fun x2 e2 => ?_)
    exact W.lret (v := x2) hx hb hr (fun t ht hW => ⟨x2, rfl, (by rw [hfr, ← Int32.toInt_toInt64 le, ← Int32.toInt_toInt64 mo]; exact cut_eq e1 e2), ht⟩) (fun _ h => nomatch h) d_Walk_cut_29
  · refine lv_lload_n hx hb d_Walk_cut_6 rfl (lv_at hl 0 rfl) ?_
    refine lv_iload_n hx hb d_Walk_cut_7 rfl (lv_at hl 1 rfl) ?_
    refine lv_i2l (v := ((nI n)).toInt64) hx hb d_Walk_cut_8 rfl ?_
    refine lv_ladd hx hb d_Walk_cut_9 ?_
    refine lv_goto (tgt := 14) hx hb d_Walk_cut_10 (by decide) ?_
    refine lv_lstore (lv' := [(5, .long (x + (((nI n)).toInt64))), (0, .long x), (2, .int (nI n)), (3, .int le), (4, .int mo)]) hx hb d_Walk_cut_14 hl (by decide) rfl (fun ls hl => ?_)
    have hfr : frontI n x = ((x + (((nI n)).toInt64)) : Int64).toInt := fr_m hn c3
    refine lv_iload_n hx hb d_Walk_cut_16 rfl (lv_at hl 3 rfl) ?_
    refine lv_i2l (v := le.toInt64) hx hb d_Walk_cut_17 rfl ?_
    refine lv_iload hx hb d_Walk_cut_18 (lv_at hl 4 rfl) ?_
    refine lv_i2l (v := mo.toInt64) hx hb d_Walk_cut_20 rfl ?_
    refine lv_lload hx hb d_Walk_cut_21 (lv_at hl 0 rfl) ?_
    refine va_mmin_long hx hb (hml.trans hl.1.symm) hown (hts _ z_886) (hts _ w_520) (hts _ w_16) (hts _ w_minl) (Nat.le_of_ble_eq_true rfl) (Nat.le_of_ble_eq_true rfl) (Nat.zero_le _) (Nat.zero_le _) d_Walk_cut_23 ?_
    refine lv_topl (fun x1 e1 => ?_)
    refine va_mmax_long hx hb (hml.trans hl.1.symm) hown (hts _ z_887) (hts _ z_888) (hts _ w_16) (hts _ wm_maxl) (Nat.le_of_ble_eq_true rfl) (Nat.le_of_ble_eq_true rfl) (Nat.zero_le _) (Nat.zero_le _) d_Walk_cut_26 ?_
    refine lv_topl (fun x2 e2 => ?_)
    exact W.lret (v := x2) hx hb hr (fun t ht hW => ⟨x2, rfl, (by rw [hfr, ← Int32.toInt_toInt64 le, ← Int32.toInt_toInt64 mo]; exact cut_eq e1 e2), ht⟩) (fun _ h => nomatch h) d_Walk_cut_29
set_option maxHeartbeats 4000000 in
set_option maxRecDepth 100000 in
/-- Walk.pushSlice: what it pushes -/
theorem p_Walk_pushSlice (l : Launch) (hl9 : l.stackTraces = false) (K : Nat → Nat × Nat) (dC : Nat → ClassId) (dI : Nat → Nat → Nat) (sz : Heap) (cI cV : ClassId) (E lv : Nat → Nat) (L : List Nat) (f : Nat → va_E) (hO : PO cI cV E lv L f) (hN1 : ∀ a, E a ≠ 1) (PL : List NT) (AL : List Nat) (S : Nat → Nat) (wk wl rt : Nat) (hrt : isF E rt) (rtn : NT) (hrn : NCr PL AL rt rtn) (tp sp : Nat) (g : Nat → Option Nat) (ν : Nat → Int64) (hW9 : WI E tp sp g) (hDq9 : ∀ ν2, NUg S ν ν2 → DOC E (pf f ν2) PL AL) (nd : Nat) (ndn : NT) (hnn : NCr PL AL nd ndn) (sl : Nat) (hsl : E sl = 9) (hs9 ht9 : Int32) (st9 sp9 se9 : Int64) (hsf : ∃ kd nm fl nx, f sl = lE kd nm hs9 ht9 st9 sp9 se9 fl nx) : vx_Met l y_Walk_pushSlice (k_Walk_pushSlice :: gtbl) ({ frames := 10, cells := 1, slots := 6, locals := 200 }) (va_Pc [.ref wk, .ref nd, .ref sl] (ml K dC dI ([(wk, .inr (10, [.ref wl, .int (nI tp), .int (nI sp), .ref rt])), (wl, .inl (cV, 10000, .inr (.inr (.inr (.inr g)))))] ++ va_pl L (pf f ν)) [(cI, .int), (cV, .object "QueryBench$Value")] sz)) (va_Qv (fun (u : Nat × Nat × (Nat → Option Nat) × (Nat → Int64)) => PU E PL AL S ((slcS (if hs9 = 0 then none else some st9) (if ht9 = 0 then none else some sp9) se9 rtn ndn)) tp sp g ν u.1 u.2.1 u.2.2.1 u.2.2.2) (fun u t9 => mz dC dI ([(wk, .inr (10, [.ref wl, .int (nI u.1), .int (nI u.2.1), .ref rt])), (wl, .inl (cV, 10000, .inr (.inr (.inr (.inr u.2.2.1)))))] ++ va_pl L (pf f u.2.2.2)) [(cI, .int), (cV, .object "QueryBench$Value")] (va_A ([(wk, .inr (10, [.ref wl, .int (nI tp), .int (nI sp), .ref rt])), (wl, .inl (cV, 10000, .inr (.inr (.inr (.inr g)))))] ++ va_pl L (pf f ν)) sz.size) t9 ∧ szk sz t9.heap (0) (0)) (va_A ([(wk, .inr (10, [.ref wl, .int (nI tp), .int (nI sp), .ref rt])), (wl, .inl (cV, 10000, .inr (.inr (.inr (.inr g)))))] ++ va_pl L (pf f ν)) sz.size)) (vx_X (fun (u : Int32 × Int32 × (Nat → Option Nat) × (Nat → Int64)) => 10000 < sp + ((slcS (if hs9 = 0 then none else some st9) (if ht9 = 0 then none else some sp9) se9 rtn ndn)).2 ∧ NUg S ν u.2.2.2) (fun En u t9 => En = IOB ∧ mz dC dI ([(wk, .inr (10, [.ref wl, .int u.1, .int u.2.1, .ref rt])), (wl, .inl (cV, 10000, .inr (.inr (.inr (.inr u.2.2.1)))))] ++ va_pl L (pf f u.2.2.2)) [(cI, .int), (cV, .object "QueryBench$Value")] (va_A ([(wk, .inr (10, [.ref wl, .int (nI tp), .int (nI sp), .ref rt])), (wl, .inl (cV, 10000, .inr (.inr (.inr (.inr g)))))] ++ va_pl L (pf f ν)) sz.size) t9) (va_A ([(wk, .inr (10, [.ref wl, .int (nI tp), .int (nI sp), .ref rt])), (wl, .inl (cV, 10000, .inr (.inr (.inr (.inr g)))))] ++ va_pl L (pf f ν)) sz.size)) (1) (6) (va_A ([(wk, .inr (10, [.ref wl, .int (nI tp), .int (nI sp), .ref rt])), (wl, .inl (cV, 10000, .inr (.inr (.inr (.inr g)))))] ++ va_pl L (pf f ν)) sz.size) := by
  refine vx_ofW (cc := b_Walk_pushSlice) (maxL := 8) (ret := none) (by decide) rfl ?_
  intro p e s m args below meth c s₁ B hml hex hv
  obtain ⟨rfl, ⟨hsz, hP, hK, hD0⟩, hN, hZ, hC, hV⟩ := hv
  have hx := B.exec
  have hb := B.bytes
  have hr := B.returns
  have hts0 := atoms_spec (ws := k_Walk_pushSlice :: gtbl) B.pre
  have hts := fun w h => hts0 w (List.mem_cons_of_mem _ h)
  have hown : s.vm.findClass R_Walk = some m.cls := findClass_of_methodNamed B.named
  have hlocks := B.notSynchronized
  subst hsz
  have hD := hD0.self (sz := s.heap.size)
  generalize hAe : va_A ([(wk, .inr (10, [.ref wl, .int (nI tp), .int (nI sp), .ref rt])), (wl, .inl (cV, 10000, .inr (.inr (.inr (.inr g)))))] ++ va_pl L (pf f ν)) s.heap.size = A at hD hZ hC ⊢
  have hA : ∀ q : Nat, s.heap.size ≤ q → A q := fun q h => by rw [← hAe]; exact Or.inr h
  have hS : va_S A s.heap s.heap [] := va_S.rf
  have hP : va_P (dC, dI) classes ([(wk, .inr (10, [.ref wl, .int (nI tp), .int (nI sp), .ref rt])), (wl, .inl (cV, 10000, .inr (.inr (.inr (.inr g)))))] ++ va_pl L (pf f ν)) s.heap := hP
  have hl := lv_entry ([.ref wk, .ref nd, .ref sl]) (n := 8) (Nat.le_of_ble_eq_true rfl)
  rw [lg_entry_eq]
  generalize (lg_sl ([.ref wk, .ref nd, .ref sl]) ++ List.replicate (8 - (lg_sl ([.ref wk, .ref nd, .ref sl])).length) Slot.unset).toArray = ls at hl ⊢
  have hl : lv_has ls 8 [(0, .ref wk), (1, .ref nd), (2, .ref sl)] := hl
  have hW0 := hW9
  have hW1 := hW9.1
  have hW2 := hW9.2.1
  have hPU : PU E PL AL S (([], 0)) tp sp g ν tp sp g ν := PU.rf hW9
  have hDν := hDq9 ν NUg.rf
  obtain ⟨hnd, hCu⟩ := hnn.ax hDν
  obtain ⟨kd21, nu21, tx21, me21, pa21, na21, ix21, nm21, no21, sp21, ef21, hv21⟩ := hO.val ((isF.v hnd))
  have hs := hO.szle ef21 hv21
  have hsk : szF f nd = (kdsN ndn).length := by rw [← hO.szpf (ν := ν) hnd, hCu.get.2.1, kdsN_len]
  have hCl := hCu.get.1.of (pf_V ef21)
  obtain ⟨kd7, nm7, fl7, nx7, ef7⟩ := hsf
  obtain ⟨kd22, nm22, hs22, ht22, st22, sp22, se22, fl22, nx22, ef22, hv22⟩ := hO.sel hsl
  obtain ⟨z1, z2, z3, z4, z5, z6, z7, z8, z9⟩ := lE_ij (ef22.symm.trans ef7)
  have hsb : -9007199254740992 ≤ se22.toInt ∧ se22.toInt ≤ 9007199254740992 := ⟨hv22.2.2.2.2.2.1, hv22.2.2.2.2.2.2⟩
  obtain rfl := z3.symm
  obtain rfl := z4.symm
  obtain rfl := z5.symm
  obtain rfl := z6.symm
  obtain rfl := z7.symm
  refine lv_aload_n hx hb d_Walk_pushSlice_0 rfl (lv_at hl 1 rfl) ?_
  refine vq_get (D := (dC, dI)) (ci := 9) (v := .int kd21) (C := R_Value) (T := F_Value) (N := 10) hx hb hts in_Value hown hK hP (hO.inV (isF.v hnd)) (pf_V ef21) rfl 0 (by decide) (hts _ z_315) (fun _ h9 => h9) rfl d_Walk_pushSlice_1 ?_
  refine lv_iconst (v := 5) hx hb d_Walk_pushSlice_4 (by decide) ?_
  refine lv_icmp_ne (tgt := 17) hx hb d_Walk_pushSlice_5 (by decide) (fun c5 => ?_) (fun c5 => ?_)
  · have hRn : (slcS (if hs9 = 0 then none else some st9) (if ht9 = 0 then none else some sp9) se9 rtn ndn) = ([], 0) := slcS_no (Or.inl (fun q => c5 (hCl.1.trans ((ckd_n hCl.2.1 (Or.inr ⟨by decide, by decide⟩)).mpr q))))
    have hfin : PU E PL AL S ((slcS (if hs9 = 0 then none else some st9) (if ht9 = 0 then none else some sp9) se9 rtn ndn)) tp sp g ν tp sp g ν := by rw [← show ([], 0) = (slcS (if hs9 = 0 then none else some st9) (if ht9 = 0 then none else some sp9) se9 rtn ndn) from hRn.symm]; exact hPU
    refine w_same (fun hq => ?_)
    refine W.widen (k := 1) (n := 6) (Nat.le_of_ble_eq_true rfl) (Nat.le_of_ble_eq_true rfl) ?_
    refine vx_ret ?_
    exact W.vret hx hb hr (fun t9 ht hW => ⟨⟨(tp, sp, g, ν), rfl, hfin, ⟨by rw [ht]; exact hP, va_K.moved hW.alike hK, hD⟩, by rw [ht]; exact hq⟩, hS.F ht⟩) hS.2.2 d_Walk_pushSlice_17
  · refine lv_aload_n hx hb d_Walk_pushSlice_8 rfl (lv_at hl 2 rfl) ?_
    refine vq_get (D := (dC, dI)) (ci := 7) (v := .long se9) (C := R_Selector) (T := F_Selector) (N := 9) hx hb hts in_Selector hown hK hP (hO.inL (a := sl) (by rw [hsl]; decide)) (pf_L ef22) rfl 6 (by decide) (hts _ z_625) (fun _ h9 => h9) rfl d_Walk_pushSlice_9 ?_
    refine lv_lconst (v := 0) hx hb d_Walk_pushSlice_12 (by decide) ?_
    refine W.lcmp hx hb d_Walk_pushSlice_13 ?_
    refine lv_if_ne (tgt := 18) hx hb d_Walk_pushSlice_14 (by decide) (fun c14 => ?_) (fun c14 => ?_)
    · refine lv_aload_n hx hb d_Walk_pushSlice_18 rfl (lv_at hl 1 rfl) ?_
      refine vp_callSi (va_Run.run (va_runV (As := []) (rest := []) ⟨hx, hb, hml, hown, hts⟩ (c_Value_size l dC dI s.heap cI cV E lv L (pf f ν) (hO.num ν) nd hnd) (cwV 0 hts (gt_V (own := R_Walk) (C := R_Value) (i := 118) (y := y_Value_size) i_Value_size z_874 z_866 z_867 z_14) rfl rfl rfl (by decide +kernel) ⟨Nat.le_of_ble_eq_true rfl, Nat.le_of_ble_eq_true rfl⟩) ⟨mq_blind, vq_recv hK hP rfl (hO.inV (isF.v hnd)) (pf_V ef21), fun U hU hW => ⟨rfl, hU, by rw [hU]; exact hP.part (cx := []) [] rfl, va_K.moved hW.alike hK, hN.warm hW⟩⟩ rfl rfl hl.1 rfl (lv_room (Nat.le_of_ble_eq_true rfl)) d_Walk_pushSlice_19 ⟨Nat.le_of_ble_eq_true rfl, Nat.le_of_ble_eq_true rfl⟩)) (fun r23 h_r23 => ?_)
      rw [hO.szpf hnd] at h_r23
      subst h_r23
      refine lv_istore_n (lv' := [(3, .int (nI (szF f nd))), (0, .ref wk), (1, .ref nd), (2, .ref sl)]) hx hb d_Walk_pushSlice_22 rfl hl (by decide) rfl (fun ls hl => ?_)
      refine lv_aload_n hx hb d_Walk_pushSlice_23 rfl (lv_at hl 3 rfl) ?_
      refine vq_get (D := (dC, dI)) (ci := 7) (v := .long se9) (C := R_Selector) (T := F_Selector) (N := 9) hx hb hts in_Selector hown hK hP (hO.inL (a := sl) (by rw [hsl]; decide)) (pf_L ef22) rfl 6 (by decide) (hts _ z_625) (fun _ h9 => h9) rfl d_Walk_pushSlice_24 ?_
      refine lv_lconst (v := 0) hx hb d_Walk_pushSlice_27 (by decide) ?_
      refine W.lcmp hx hb d_Walk_pushSlice_28 ?_
      refine lv_if_le (tgt := 114) hx hb d_Walk_pushSlice_29 (by decide) (fun c29 => ?_) (fun c29 => ?_)
      · refine lv_aload_n hx hb d_Walk_pushSlice_114 rfl (lv_at hl 3 rfl) ?_
        refine vq_get (D := (dC, dI)) (ci := 7) (v := .int ht9) (C := R_Selector) (T := F_Selector) (N := 9) hx hb hts in_Selector hown hK hP (hO.inL (a := sl) (by rw [hsl]; decide)) (pf_L ef22) rfl 3 (by decide) (hts _ z_618) (fun _ h9 => h9) rfl d_Walk_pushSlice_115 ?_
        refine lv_if_eq (tgt := 136) hx hb d_Walk_pushSlice_118 (by decide) (fun c118 => ?_) (fun c118 => ?_)
        · refine lv_ldc2 (v := (-1)) hx hb hown (hts _ z_890) d_Walk_pushSlice_136 ?_
          refine lv_lstore (lv' := [(4, .long (-1)), (3, .int (nI (szF f nd))), (0, .ref wk), (1, .ref nd), (2, .ref sl)]) hx hb d_Walk_pushSlice_139 hl (by decide) rfl (fun ls hl => ?_)
          refine lv_aload_n hx hb d_Walk_pushSlice_141 rfl (lv_at hl 4 rfl) ?_
          refine vq_get (D := (dC, dI)) (ci := 7) (v := .int hs9) (C := R_Selector) (T := F_Selector) (N := 9) hx hb hts in_Selector hown hK hP (hO.inL (a := sl) (by rw [hsl]; decide)) (pf_L ef22) rfl 2 (by decide) (hts _ z_616) (fun _ h9 => h9) rfl d_Walk_pushSlice_142 ?_
          refine lv_if_eq (tgt := 163) hx hb d_Walk_pushSlice_145 (by decide) (fun c145 => ?_) (fun c145 => ?_)
          · refine lv_iload_n hx hb d_Walk_pushSlice_163 rfl (lv_at hl 1 rfl) ?_
            refine lv_iconst (v := 1) hx hb d_Walk_pushSlice_164 (by decide) ?_
            refine lv_isub hx hb d_Walk_pushSlice_165 ?_
            refine lv_i2l (v := (((nI (szF f nd)) - 1)).toInt64) hx hb d_Walk_pushSlice_166 rfl ?_
            refine lv_lstore (lv' := [(6, .long ((((nI (szF f nd)) - 1)).toInt64)), (4, .long (-1)), (3, .int (nI (szF f nd))), (0, .ref wk), (1, .ref nd), (2, .ref sl)]) hx hb d_Walk_pushSlice_167 hl (by decide) rfl (fun ls hl => ?_)
            have hse := Int64.le_iff_toInt_le.mp ((lg_cmp_le _ _).mp c29)
            rw [show (0 : Int64).toInt = 0 from rfl] at hse
            have hse : se9.toInt < 0 := by have h0 : ¬ se9.toInt = 0 := (fun q => c14 (lg_cmp_0 q)); omega
            have hk5 : kdN ndn = 5 := (ckd_n hCl.2.1 (Or.inr ⟨by decide, by decide⟩)).mp (hCl.1.symm.trans c5)
            obtain ⟨T9, hT9⟩ : ∃ z : Int, z = ((-1) : Int64).toInt := ⟨_, rfl⟩
            have hRs : (slcS (if hs9 = 0 then none else some st9) (if ht9 = 0 then none else some sp9) se9 rtn ndn) = atsR ndn (dnL ((kdsN ndn).length + 1) (((((nI (szF f nd)) - 1)).toInt64) : Int64).toInt T9 se9.toInt) := by rw [hT9]; exact slcS_dn hk5 hse (Or.inl ⟨c145, by rw [Int32.toInt_toInt64, nI_m1 hs, hsk]⟩) (Or.inl ⟨c118, rfl⟩)
            have hst : (-1 : Int) ≤ T9 := by rw [hT9]; exact Int.le_refl _
            have hi0 : (((((nI (szF f nd)) - 1)).toInt64) : Int64).toInt ≤ ((kdsN ndn).length : Int) - 1 := by rw [Int32.toInt_toInt64, nI_m1 hs, hsk]; exact Int.le_refl _
            refine w_loop (D := (dC, dI)) (cl := classes) (A := A) (H0 := s.heap) (nL := 8) 169 (σ := Int64 × Nat × (List NT × Nat) × Nat × Nat × (Nat → Option Nat) × (Nat → Int64)) (fun ⟨i, k, D, t, s9, g1, ν3⟩ => (i.toInt ≤ ((kdsN ndn).length : Int) - 1 ∧ i.toInt < (k : Int) + T9) ∧ PU E PL AL S D tp sp g ν t s9 g1 ν3 ∧ catR D (atsR ndn (dnL k i.toInt T9 se9.toInt)) = (slcS (if hs9 = 0 then none else some st9) (if ht9 = 0 then none else some sp9) se9 rtn ndn)) (fun ⟨i, k, D, t, s9, g1, ν3⟩ => k) (fun ⟨i, k, D, t, s9, g1, ν3⟩ => [(wk, .inr (10, [.ref wl, .int (nI t), .int (nI s9), .ref rt])), (wl, .inl (cV, 10000, .inr (.inr (.inr (.inr g1)))))] ++ va_pl L (pf f ν3)) (fun ⟨i, k, D, t, s9, g1, ν3⟩ => [(0, .ref wk), (1, .ref nd), (2, .ref sl), (3, .int (nI (szF f nd))), (4, .long (-1)), (6, .long i)]) ?_ (((((nI (szF f nd)) - 1)).toInt64), (kdsN ndn).length + 1, ([], 0), tp, sp, g, ν) ⟨⟨hi0, by show _ < _; omega⟩, hPU, (catR_l _).trans hRs.symm⟩ hP hD hS (lv_sub hl [3, 4, 5, 2, 1, 0] rfl)
            rintro ⟨i, k, D, t, s9, g1, ν3⟩ H locs ls hI ih hP hD hS hl
            have hP : va_P (dC, dI) classes ([(wk, .inr (10, [.ref wl, .int (nI t), .int (nI s9), .ref rt])), (wl, .inl (cV, 10000, .inr (.inr (.inr (.inr g1)))))] ++ va_pl L (pf f ν3)) H := hP
            have hD : va_D A ([(wk, .inr (10, [.ref wl, .int (nI t), .int (nI s9), .ref rt])), (wl, .inl (cV, 10000, .inr (.inr (.inr (.inr g1)))))] ++ va_pl L (pf f ν3)) := hD
            have hl : lv_has ls 8 [(0, .ref wk), (1, .ref nd), (2, .ref sl), (3, .int (nI (szF f nd))), (4, .long (-1)), (6, .long i)] := hl
            obtain ⟨⟨hI, hIk⟩, hPI, hRI⟩ := hI
            have hI : i.toInt ≤ ((kdsN ndn).length : Int) - 1 := hI
            have hIk : i.toInt < (k : Int) + T9 := hIk
            have hPI : PU E PL AL S D tp sp g ν t s9 g1 ν3 := hPI
            have hRI : catR D (atsR ndn (dnL k i.toInt T9 se9.toInt)) = (slcS (if hs9 = 0 then none else some st9) (if ht9 = 0 then none else some sp9) se9 rtn ndn) := hRI
            have hW_hPI := hPI.wi
            have hA_hPI := hW_hPI.1
            have hB_hPI := hW_hPI.2.1
            have hC_hPI := hPI.spt
            refine lv_lload hx hb d_Walk_pushSlice_169 (lv_at hl 5 rfl) ?_
            refine lv_lload hx hb d_Walk_pushSlice_171 (lv_at hl 4 rfl) ?_
            refine W.lcmp hx hb d_Walk_pushSlice_173 ?_
            refine lv_if_le (tgt := 201) hx hb d_Walk_pushSlice_174 (by decide) (fun c174 => ?_) (fun c174 => ?_)
            · have hend := Int64.le_iff_toInt_le.mp ((lg_cmp_le _ _).mp c174)
              have hR0 : atsR ndn (dnL k i.toInt T9 se9.toInt) = ([], 0) := by rw [dnL_nil (by omega)]; rfl
              have hfin : PU E PL AL S ((slcS (if hs9 = 0 then none else some st9) (if ht9 = 0 then none else some sp9) se9 rtn ndn)) tp sp g ν t s9 g1 ν3 := by rw [← show D = (slcS (if hs9 = 0 then none else some st9) (if ht9 = 0 then none else some sp9) se9 rtn ndn) from by rw [← hRI, hR0]; exact (catR_0 _).symm]; exact hPI
              refine w_same (fun hq => ?_)
              refine W.widen (k := 1) (n := 6) (Nat.le_of_ble_eq_true rfl) (Nat.le_of_ble_eq_true rfl) ?_
              refine vx_ret ?_
              exact W.vret hx hb hr (fun t9 ht hW => ⟨⟨(t, s9, g1, ν3), rfl, hfin, ⟨by rw [ht]; exact hP, va_K.moved hW.alike hK, hD⟩, by rw [ht]; exact hq⟩, hS.F ht⟩) hS.2.2 d_Walk_pushSlice_201
            · have hlt := Int64.lt_iff_toInt_lt.mp (Int64.not_le.mp (fun h => c174 ((lg_cmp_le _ _).mpr h)))
              have hlt : T9 < i.toInt := by rw [hT9]; exact hlt
              obtain ⟨j, hj, ej⟩ := l_idx (x := i) (n := szF f nd) (by omega) (by omega) hs
              have hij : i.toInt.toNat = j := by rw [ej, pk_lT (by omega)]; omega
              obtain ⟨c9, hc9⟩ : ∃ c, (kdsN ndn)[j]? = some c := ⟨_, List.getElem?_eq_getElem (by omega)⟩
              obtain ⟨k9, hk9, hRd⟩ := dn_step (st := se9.toInt) hlt hIk (by rw [hij]; exact hc9)
              have hRI1 : catR D (catR ([c9.2], 1) (atsR ndn (dnL k9 (i.toInt + se9.toInt) T9 se9.toInt))) = (slcS (if hs9 = 0 then none else some st9) (if ht9 = 0 then none else some sp9) se9 rtn ndn) := by rw [← hRd]; exact hRI
              refine lv_aload_n hx hb d_Walk_pushSlice_177 rfl (lv_at hl 0 rfl) ?_
              refine lv_aload_n hx hb d_Walk_pushSlice_178 rfl (lv_at hl 1 rfl) ?_
              rcases me21 with _ | b24
              · exact absurd (PO.mem0 ef21) (by omega)
              · refine vq_get (D := (dC, dI)) (ci := 9) (v := .ref b24) (C := R_Value) (T := F_Value) (N := 10) hx hb hts in_Value hown hK hP (hO.inV (isF.v hnd)) (pf_V ef21) rfl 3 (by decide) (hts _ z_328) (fun _ h9 => h9) rfl d_Walk_pushSlice_179 ?_
                refine lv_lload hx hb d_Walk_pushSlice_182 (lv_at hl 5 rfl) ?_
                refine lv_l2i (v := i.toInt32) hx hb d_Walk_pushSlice_184 rfl ?_
                refine W.eq (g2 := F0 m 185 ls [.int (nI j), .ref b24, .ref wk]) (by rw [show (i.toInt32) = (nI j) from (by rw [ej]; exact lN_i j)]) ?_
                obtain ⟨g25, hi25, ef25, hg25⟩ := hO.mem1 ef21 hv21 (isF.n1 hnd)
                have hn25 := hO.szle ef21 hv21
                obtain ⟨me26, hm26, hf26, hnm26⟩ := hg25 j hj
                refine vq_aald hx hb hK hP 1 hi25 (pf_A ef25) rfl (j := j) hj hn25 hm26 d_Walk_pushSlice_185 ?_
                have hPc := hP.part (cx := [(wk, .inr (10, [.ref wl, .int (nI t), .int (nI s9), .ref rt])), (wl, .inl (cV, 10000, .inr (.inr (.inr (.inr g1)))))]) [0, 1] rfl
                have hDc := hD.part (cx := [(wk, .inr (10, [.ref wl, .int (nI t), .int (nI s9), .ref rt])), (wl, .inl (cV, 10000, .inr (.inr (.inr (.inr g1)))))]) [0, 1] (by decide) rfl
                have hFc := va_freeP (cx := [(wk, .inr (10, [.ref wl, .int (nI t), .int (nI s9), .ref rt])), (wl, .inl (cV, 10000, .inr (.inr (.inr (.inr g1)))))]) hD hS hA [0, 1] rfl
                have hKc := hK.sub (tys' := [(cI, .int), (cV, .object "QueryBench$Value")]) [0, 1] rfl
                refine w_same (fun hq0 => ?_)
                refine vx_callv (vx_runV (As := [.ref me26]) (rest := []) ⟨hx, hb, hml, hown, hts⟩ (p_Walk_push l hl9 K dC dI H cI cV E lv L f hO hN1 PL AL S wk wl rt hrt rtn hrn t s9 g1 ν3 hW_hPI (fun ν2 h2 => hDq9 ν2 (hPI.nu.tr h2)) me26 c9.2 (hnn.kid (hDq9 ν3 hPI.nu) hc9 ((memF_a (pf_V ef21) (pf_A ef25)).trans hm26))) (cwV 1 hts (gt_V (own := R_Walk) (C := R_Walk) (i := 38) (y := y_Walk_push) i_Walk_push z_839 z_841 (gt_sel (y := y_Walk_push) (n := 4) (by decide +kernel)) w_5) rfl rfl rfl (by decide +kernel) ⟨Nat.le_of_ble_eq_true rfl, Nat.le_of_ble_eq_true rfl⟩) ⟨ml_blind, va_recv hK hP (ci := 10) (q0 := 0) rfl rfl, fun U hU hW => ⟨rfl, ⟨hU, by rw [hU]; exact hPc, va_K.moved hW.alike hKc, hDc.weaken (fun _ _ _ _ => trivial)⟩, hN.warm hW, by rw [hU]; exact ZX.moved' hW.alike (ZX.narrow' (ZX.kept' hZ hS.2.1) hFc), by rw [hU]; exact CE.call hC hS.2.1 hFc hW, va_AO.moved hW.alike hV⟩⟩ rfl rfl hl.1 rfl (lv_room (Nat.le_of_ble_eq_true rfl)) d_Walk_pushSlice_186 ⟨Nat.le_of_ble_eq_true rfl, Nat.le_of_ble_eq_true rfl⟩) hS (fun q _ h => hFc q h) hFc (fun q _ h => hFc q h) (fun En ce q9 ⟨tx, sx, gx, nx⟩ t9 H1 locs ht hvm hw hB hz1 hk1 hS hce hcv hcl => ?_) (fun ⟨t27, s27, g27, n27⟩ t9 H1 locs ht hvm hw hB hz1 hk1 hS => ?_)
                · obtain ⟨hEn, hP1, hK1, hD1⟩ := hB
                  rw [ht] at hP1
                  obtain ⟨hP, hD⟩ := va_joinP (wr := []) (rx := [(wk, .inr (10, [.ref wl, .int tx, .int sx, .ref rt])), (wl, .inl (cV, 10000, .inr (.inr (.inr (.inr gx)))))]) (pl1 := va_pl L (pf f nx)) hP hD [0, 1] [] rfl rfl (by decide) (by decide) hk1 hFc hP1 hD1
                  generalize H1 = H at hP hS hce ⊢
                  have hP : va_P (dC, dI) classes ([(wk, .inr (10, [.ref wl, .int tx, .int sx, .ref rt])), (wl, .inl (cV, 10000, .inr (.inr (.inr (.inr gx)))))] ++ va_pl L (pf f nx)) H := hP
                  have hD : va_D A ([(wk, .inr (10, [.ref wl, .int tx, .int sx, .ref rt])), (wl, .inl (cV, 10000, .inr (.inr (.inr (.inr gx)))))] ++ va_pl L (pf f nx)) := hD
                  have hno : 10000 < sp + ((slcS (if hs9 = 0 then none else some st9) (if ht9 = 0 then none else some sp9) se9 rtn ndn)).2 := by have hw : 10000 < s9 + (([c9.2], 1)).2 := hw.1; rw [← hRI1]; show 10000 < sp + (D.2 + (1 + _)); omega
                  exact vx_out (fun x hx => (hex x hx).elim) hlocks hce hcv hcl (fun t9 ht2 ha => ⟨(tx, sx, gx, nx), ⟨hno, hPI.nu.tr hw.2⟩, ⟨hEn, by rw [ht2]; exact hP, va_K.moved ha hK, hD⟩, hS.F ht2⟩) hS.2.2 (Nat.le_of_ble_eq_true rfl) (Nat.le_of_ble_eq_true rfl)
                · obtain ⟨⟨hP1, hK1, hD1⟩, hz9⟩ := hB
                  rw [ht] at hP1
                  rw [ht] at hz9
                  refine w_tight (hq0.trans hz9) ?_
                  have hq0 := hq0.trans hz9
                  obtain ⟨hP, hD⟩ := va_joinP (wr := []) (rx := [(wk, .inr (10, [.ref wl, .int (nI t27), .int (nI s27), .ref rt])), (wl, .inl (cV, 10000, .inr (.inr (.inr (.inr g27)))))]) (pl1 := va_pl L (pf f n27)) hP hD [0, 1] [] rfl rfl (by decide) (by decide) hk1 hFc hP1 hD1
                  generalize H1 = H at hP hS hq0 ⊢
                  have hP : va_P (dC, dI) classes ([(wk, .inr (10, [.ref wl, .int (nI t27), .int (nI s27), .ref rt])), (wl, .inl (cV, 10000, .inr (.inr (.inr (.inr g27)))))] ++ va_pl L (pf f n27)) H := hP
                  have hD : va_D A ([(wk, .inr (10, [.ref wl, .int (nI t27), .int (nI s27), .ref rt])), (wl, .inl (cV, 10000, .inr (.inr (.inr (.inr g27)))))] ++ va_pl L (pf f n27)) := hD
                  have hP27 : PU E PL AL S (catR D (([c9.2], 1))) tp sp g ν t27 s27 g27 n27 := hPI.tr hw
                  have hW_hP27 := hP27.wi
                  have hA_hP27 := hW_hP27.1
                  have hB_hP27 := hW_hP27.2.1
                  have hC_hP27 := hP27.spt
                  have hRI2 : catR (catR D (([c9.2], 1))) (atsR ndn (dnL k9 (i.toInt + se9.toInt) T9 se9.toInt)) = (slcS (if hs9 = 0 then none else some st9) (if ht9 = 0 then none else some sp9) se9 rtn ndn) := by rw [catR_a]; exact hRI1
                  refine lv_lload hx hb d_Walk_pushSlice_189 (lv_at hl 5 rfl) ?_
                  refine lv_aload_n hx hb d_Walk_pushSlice_191 rfl (lv_at hl 2 rfl) ?_
                  refine vq_get (D := (dC, dI)) (ci := 7) (v := .long se9) (C := R_Selector) (T := F_Selector) (N := 9) hx hb hts in_Selector hown hK hP (hO.inL (a := sl) (by rw [hsl]; decide)) (pf_L ef22) rfl 6 (by decide) (hts _ z_625) (fun _ h9 => h9) rfl d_Walk_pushSlice_192 ?_
                  refine lv_ladd hx hb d_Walk_pushSlice_195 ?_
                  refine lv_lstore (lv' := [(6, .long (i + se9)), (0, .ref wk), (1, .ref nd), (2, .ref sl), (3, .int (nI (szF f nd))), (4, .long (-1))]) hx hb d_Walk_pushSlice_196 hl (by decide) rfl (fun ls hl => ?_)
                  refine lv_goto (tgt := 169) hx hb d_Walk_pushSlice_198 (by decide) ?_
                  have hia : (i + se9).toInt = i.toInt + se9.toInt := l_add (by omega) (by omega) hsb.1 hsb.2
                  exact ih (i + se9, k9, catR D (([c9.2], 1)), t27, s27, g27, n27) _ _ _ ⟨⟨show (i + se9).toInt ≤ ((kdsN ndn).length : Int) - 1 by omega, by show _ < _; rw [hia]; omega⟩, hP27, by show catR _ (atsR ndn (dnL k9 (i + se9).toInt T9 se9.toInt)) = _; rw [hia]; exact hRI2⟩ (show k9 < k by omega) hP hD hS (lv_sub hl [1, 2, 3, 4, 5, 0] rfl)
          · refine lv_aload_n hx hb d_Walk_pushSlice_148 rfl (lv_at hl 4 rfl) ?_
            refine vq_get (D := (dC, dI)) (ci := 7) (v := .long st9) (C := R_Selector) (T := F_Selector) (N := 9) hx hb hts in_Selector hown hK hP (hO.inL (a := sl) (by rw [hsl]; decide)) (pf_L ef22) rfl 4 (by decide) (hts _ z_619) (fun _ h9 => h9) rfl d_Walk_pushSlice_149 ?_
            refine lv_iload_n hx hb d_Walk_pushSlice_152 rfl (lv_at hl 1 rfl) ?_
            refine lv_iconst (v := (-1)) hx hb d_Walk_pushSlice_153 (by decide) ?_
            refine lv_iload_n hx hb d_Walk_pushSlice_154 rfl (lv_at hl 1 rfl) ?_
            refine lv_iconst (v := 1) hx hb d_Walk_pushSlice_155 (by decide) ?_
            refine lv_isub hx hb d_Walk_pushSlice_156 ?_
            refine vp_callSl (va_Run.run (va_runS (As := [.long st9, .int (nI (szF f nd)), .int (-1), .int ((nI (szF f nd)) - 1)]) (rest := []) ⟨hx, hb, hml, hown, hts⟩ (g_Walk_cut l dC dI s.heap st9 (szF f nd) hs (-1) (nI (szF f nd) - 1)) (va_cwS 4 hts (gt_S (own := R_Walk) (i := 134) (y := y_Walk_cut) i_Walk_cut z_883 z_884 w_5) rfl rfl rfl (by decide +kernel) ⟨Nat.le_of_ble_eq_true rfl, Nat.le_of_ble_eq_true rfl⟩) ⟨mT_blind, fun U hU hW => ⟨rfl, hN.warm hW⟩⟩ rfl rfl hl.1 rfl (lv_room (Nat.le_of_ble_eq_true rfl)) d_Walk_pushSlice_157 ⟨Nat.le_of_ble_eq_true rfl, Nat.le_of_ble_eq_true rfl⟩)) (fun r28 h_r28 => ?_)
            have h_r28 : (r28 : Int64).toInt = clI (-1) ((kdsN ndn).length - 1) (frontI (kdsN ndn).length st9) := by rw [h_r28, nI_m1 hs, hsk]; rfl
            refine lv_goto (tgt := 167) hx hb d_Walk_pushSlice_160 (by decide) ?_
            refine lv_lstore (lv' := [(6, .long r28), (4, .long (-1)), (3, .int (nI (szF f nd))), (0, .ref wk), (1, .ref nd), (2, .ref sl)]) hx hb d_Walk_pushSlice_167 hl (by decide) rfl (fun ls hl => ?_)
            have hse := Int64.le_iff_toInt_le.mp ((lg_cmp_le _ _).mp c29)
            rw [show (0 : Int64).toInt = 0 from rfl] at hse
            have hse : se9.toInt < 0 := by have h0 : ¬ se9.toInt = 0 := (fun q => c14 (lg_cmp_0 q)); omega
            have hk5 : kdN ndn = 5 := (ckd_n hCl.2.1 (Or.inr ⟨by decide, by decide⟩)).mp (hCl.1.symm.trans c5)
            obtain ⟨T9, hT9⟩ : ∃ z : Int, z = ((-1) : Int64).toInt := ⟨_, rfl⟩
            have hRs : (slcS (if hs9 = 0 then none else some st9) (if ht9 = 0 then none else some sp9) se9 rtn ndn) = atsR ndn (dnL ((kdsN ndn).length + 1) (r28 : Int64).toInt T9 se9.toInt) := by rw [hT9]; exact slcS_dn hk5 hse (Or.inr ⟨c145, h_r28⟩) (Or.inl ⟨c118, rfl⟩)
            have hst : (-1 : Int) ≤ T9 := by rw [hT9]; exact Int.le_refl _
            have hi0 : (r28 : Int64).toInt ≤ ((kdsN ndn).length : Int) - 1 := by rw [h_r28]; exact clI_hi (by omega)
            refine w_loop (D := (dC, dI)) (cl := classes) (A := A) (H0 := s.heap) (nL := 8) 169 (σ := Int64 × Nat × (List NT × Nat) × Nat × Nat × (Nat → Option Nat) × (Nat → Int64)) (fun ⟨i, k, D, t, s9, g1, ν3⟩ => (i.toInt ≤ ((kdsN ndn).length : Int) - 1 ∧ i.toInt < (k : Int) + T9) ∧ PU E PL AL S D tp sp g ν t s9 g1 ν3 ∧ catR D (atsR ndn (dnL k i.toInt T9 se9.toInt)) = (slcS (if hs9 = 0 then none else some st9) (if ht9 = 0 then none else some sp9) se9 rtn ndn)) (fun ⟨i, k, D, t, s9, g1, ν3⟩ => k) (fun ⟨i, k, D, t, s9, g1, ν3⟩ => [(wk, .inr (10, [.ref wl, .int (nI t), .int (nI s9), .ref rt])), (wl, .inl (cV, 10000, .inr (.inr (.inr (.inr g1)))))] ++ va_pl L (pf f ν3)) (fun ⟨i, k, D, t, s9, g1, ν3⟩ => [(0, .ref wk), (1, .ref nd), (2, .ref sl), (3, .int (nI (szF f nd))), (4, .long (-1)), (6, .long i)]) ?_ (r28, (kdsN ndn).length + 1, ([], 0), tp, sp, g, ν) ⟨⟨hi0, by show _ < _; omega⟩, hPU, (catR_l _).trans hRs.symm⟩ hP hD hS (lv_sub hl [3, 4, 5, 2, 1, 0] rfl)
            rintro ⟨i, k, D, t, s9, g1, ν3⟩ H locs ls hI ih hP hD hS hl
            have hP : va_P (dC, dI) classes ([(wk, .inr (10, [.ref wl, .int (nI t), .int (nI s9), .ref rt])), (wl, .inl (cV, 10000, .inr (.inr (.inr (.inr g1)))))] ++ va_pl L (pf f ν3)) H := hP
            have hD : va_D A ([(wk, .inr (10, [.ref wl, .int (nI t), .int (nI s9), .ref rt])), (wl, .inl (cV, 10000, .inr (.inr (.inr (.inr g1)))))] ++ va_pl L (pf f ν3)) := hD
            have hl : lv_has ls 8 [(0, .ref wk), (1, .ref nd), (2, .ref sl), (3, .int (nI (szF f nd))), (4, .long (-1)), (6, .long i)] := hl
            obtain ⟨⟨hI, hIk⟩, hPI, hRI⟩ := hI
            have hI : i.toInt ≤ ((kdsN ndn).length : Int) - 1 := hI
            have hIk : i.toInt < (k : Int) + T9 := hIk
            have hPI : PU E PL AL S D tp sp g ν t s9 g1 ν3 := hPI
            have hRI : catR D (atsR ndn (dnL k i.toInt T9 se9.toInt)) = (slcS (if hs9 = 0 then none else some st9) (if ht9 = 0 then none else some sp9) se9 rtn ndn) := hRI
            have hW_hPI := hPI.wi
            have hA_hPI := hW_hPI.1
            have hB_hPI := hW_hPI.2.1
            have hC_hPI := hPI.spt
            refine lv_lload hx hb d_Walk_pushSlice_169 (lv_at hl 5 rfl) ?_
            refine lv_lload hx hb d_Walk_pushSlice_171 (lv_at hl 4 rfl) ?_
            refine W.lcmp hx hb d_Walk_pushSlice_173 ?_
            refine lv_if_le (tgt := 201) hx hb d_Walk_pushSlice_174 (by decide) (fun c174 => ?_) (fun c174 => ?_)
            · have hend := Int64.le_iff_toInt_le.mp ((lg_cmp_le _ _).mp c174)
              have hR0 : atsR ndn (dnL k i.toInt T9 se9.toInt) = ([], 0) := by rw [dnL_nil (by omega)]; rfl
              have hfin : PU E PL AL S ((slcS (if hs9 = 0 then none else some st9) (if ht9 = 0 then none else some sp9) se9 rtn ndn)) tp sp g ν t s9 g1 ν3 := by rw [← show D = (slcS (if hs9 = 0 then none else some st9) (if ht9 = 0 then none else some sp9) se9 rtn ndn) from by rw [← hRI, hR0]; exact (catR_0 _).symm]; exact hPI
              refine w_same (fun hq => ?_)
              refine W.widen (k := 1) (n := 6) (Nat.le_of_ble_eq_true rfl) (Nat.le_of_ble_eq_true rfl) ?_
              refine vx_ret ?_
              exact W.vret hx hb hr (fun t9 ht hW => ⟨⟨(t, s9, g1, ν3), rfl, hfin, ⟨by rw [ht]; exact hP, va_K.moved hW.alike hK, hD⟩, by rw [ht]; exact hq⟩, hS.F ht⟩) hS.2.2 d_Walk_pushSlice_201
            · have hlt := Int64.lt_iff_toInt_lt.mp (Int64.not_le.mp (fun h => c174 ((lg_cmp_le _ _).mpr h)))
              have hlt : T9 < i.toInt := by rw [hT9]; exact hlt
              obtain ⟨j, hj, ej⟩ := l_idx (x := i) (n := szF f nd) (by omega) (by omega) hs
              have hij : i.toInt.toNat = j := by rw [ej, pk_lT (by omega)]; omega
              obtain ⟨c9, hc9⟩ : ∃ c, (kdsN ndn)[j]? = some c := ⟨_, List.getElem?_eq_getElem (by omega)⟩
              obtain ⟨k9, hk9, hRd⟩ := dn_step (st := se9.toInt) hlt hIk (by rw [hij]; exact hc9)
              have hRI1 : catR D (catR ([c9.2], 1) (atsR ndn (dnL k9 (i.toInt + se9.toInt) T9 se9.toInt))) = (slcS (if hs9 = 0 then none else some st9) (if ht9 = 0 then none else some sp9) se9 rtn ndn) := by rw [← hRd]; exact hRI
              refine lv_aload_n hx hb d_Walk_pushSlice_177 rfl (lv_at hl 0 rfl) ?_
              refine lv_aload_n hx hb d_Walk_pushSlice_178 rfl (lv_at hl 1 rfl) ?_
              rcases me21 with _ | b29
              · exact absurd (PO.mem0 ef21) (by omega)
              · refine vq_get (D := (dC, dI)) (ci := 9) (v := .ref b29) (C := R_Value) (T := F_Value) (N := 10) hx hb hts in_Value hown hK hP (hO.inV (isF.v hnd)) (pf_V ef21) rfl 3 (by decide) (hts _ z_328) (fun _ h9 => h9) rfl d_Walk_pushSlice_179 ?_
                refine lv_lload hx hb d_Walk_pushSlice_182 (lv_at hl 5 rfl) ?_
                refine lv_l2i (v := i.toInt32) hx hb d_Walk_pushSlice_184 rfl ?_
                refine W.eq (g2 := F0 m 185 ls [.int (nI j), .ref b29, .ref wk]) (by rw [show (i.toInt32) = (nI j) from (by rw [ej]; exact lN_i j)]) ?_
                obtain ⟨g30, hi30, ef30, hg30⟩ := hO.mem1 ef21 hv21 (isF.n1 hnd)
                have hn30 := hO.szle ef21 hv21
                obtain ⟨me31, hm31, hf31, hnm31⟩ := hg30 j hj
                refine vq_aald hx hb hK hP 1 hi30 (pf_A ef30) rfl (j := j) hj hn30 hm31 d_Walk_pushSlice_185 ?_
                have hPc := hP.part (cx := [(wk, .inr (10, [.ref wl, .int (nI t), .int (nI s9), .ref rt])), (wl, .inl (cV, 10000, .inr (.inr (.inr (.inr g1)))))]) [0, 1] rfl
                have hDc := hD.part (cx := [(wk, .inr (10, [.ref wl, .int (nI t), .int (nI s9), .ref rt])), (wl, .inl (cV, 10000, .inr (.inr (.inr (.inr g1)))))]) [0, 1] (by decide) rfl
                have hFc := va_freeP (cx := [(wk, .inr (10, [.ref wl, .int (nI t), .int (nI s9), .ref rt])), (wl, .inl (cV, 10000, .inr (.inr (.inr (.inr g1)))))]) hD hS hA [0, 1] rfl
                have hKc := hK.sub (tys' := [(cI, .int), (cV, .object "QueryBench$Value")]) [0, 1] rfl
                refine w_same (fun hq0 => ?_)
                refine vx_callv (vx_runV (As := [.ref me31]) (rest := []) ⟨hx, hb, hml, hown, hts⟩ (p_Walk_push l hl9 K dC dI H cI cV E lv L f hO hN1 PL AL S wk wl rt hrt rtn hrn t s9 g1 ν3 hW_hPI (fun ν2 h2 => hDq9 ν2 (hPI.nu.tr h2)) me31 c9.2 (hnn.kid (hDq9 ν3 hPI.nu) hc9 ((memF_a (pf_V ef21) (pf_A ef30)).trans hm31))) (cwV 1 hts (gt_V (own := R_Walk) (C := R_Walk) (i := 38) (y := y_Walk_push) i_Walk_push z_839 z_841 (gt_sel (y := y_Walk_push) (n := 4) (by decide +kernel)) w_5) rfl rfl rfl (by decide +kernel) ⟨Nat.le_of_ble_eq_true rfl, Nat.le_of_ble_eq_true rfl⟩) ⟨ml_blind, va_recv hK hP (ci := 10) (q0 := 0) rfl rfl, fun U hU hW => ⟨rfl, ⟨hU, by rw [hU]; exact hPc, va_K.moved hW.alike hKc, hDc.weaken (fun _ _ _ _ => trivial)⟩, hN.warm hW, by rw [hU]; exact ZX.moved' hW.alike (ZX.narrow' (ZX.kept' hZ hS.2.1) hFc), by rw [hU]; exact CE.call hC hS.2.1 hFc hW, va_AO.moved hW.alike hV⟩⟩ rfl rfl hl.1 rfl (lv_room (Nat.le_of_ble_eq_true rfl)) d_Walk_pushSlice_186 ⟨Nat.le_of_ble_eq_true rfl, Nat.le_of_ble_eq_true rfl⟩) hS (fun q _ h => hFc q h) hFc (fun q _ h => hFc q h) (fun En ce q9 ⟨tx, sx, gx, nx⟩ t9 H1 locs ht hvm hw hB hz1 hk1 hS hce hcv hcl => ?_) (fun ⟨t32, s32, g32, n32⟩ t9 H1 locs ht hvm hw hB hz1 hk1 hS => ?_)
                · obtain ⟨hEn, hP1, hK1, hD1⟩ := hB
                  rw [ht] at hP1
                  obtain ⟨hP, hD⟩ := va_joinP (wr := []) (rx := [(wk, .inr (10, [.ref wl, .int tx, .int sx, .ref rt])), (wl, .inl (cV, 10000, .inr (.inr (.inr (.inr gx)))))]) (pl1 := va_pl L (pf f nx)) hP hD [0, 1] [] rfl rfl (by decide) (by decide) hk1 hFc hP1 hD1
                  generalize H1 = H at hP hS hce ⊢
                  have hP : va_P (dC, dI) classes ([(wk, .inr (10, [.ref wl, .int tx, .int sx, .ref rt])), (wl, .inl (cV, 10000, .inr (.inr (.inr (.inr gx)))))] ++ va_pl L (pf f nx)) H := hP
                  have hD : va_D A ([(wk, .inr (10, [.ref wl, .int tx, .int sx, .ref rt])), (wl, .inl (cV, 10000, .inr (.inr (.inr (.inr gx)))))] ++ va_pl L (pf f nx)) := hD
                  have hno : 10000 < sp + ((slcS (if hs9 = 0 then none else some st9) (if ht9 = 0 then none else some sp9) se9 rtn ndn)).2 := by have hw : 10000 < s9 + (([c9.2], 1)).2 := hw.1; rw [← hRI1]; show 10000 < sp + (D.2 + (1 + _)); omega
                  exact vx_out (fun x hx => (hex x hx).elim) hlocks hce hcv hcl (fun t9 ht2 ha => ⟨(tx, sx, gx, nx), ⟨hno, hPI.nu.tr hw.2⟩, ⟨hEn, by rw [ht2]; exact hP, va_K.moved ha hK, hD⟩, hS.F ht2⟩) hS.2.2 (Nat.le_of_ble_eq_true rfl) (Nat.le_of_ble_eq_true rfl)
                · obtain ⟨⟨hP1, hK1, hD1⟩, hz9⟩ := hB
                  rw [ht] at hP1
                  rw [ht] at hz9
                  refine w_tight (hq0.trans hz9) ?_
                  have hq0 := hq0.trans hz9
                  obtain ⟨hP, hD⟩ := va_joinP (wr := []) (rx := [(wk, .inr (10, [.ref wl, .int (nI t32), .int (nI s32), .ref rt])), (wl, .inl (cV, 10000, .inr (.inr (.inr (.inr g32)))))]) (pl1 := va_pl L (pf f n32)) hP hD [0, 1] [] rfl rfl (by decide) (by decide) hk1 hFc hP1 hD1
                  generalize H1 = H at hP hS hq0 ⊢
                  have hP : va_P (dC, dI) classes ([(wk, .inr (10, [.ref wl, .int (nI t32), .int (nI s32), .ref rt])), (wl, .inl (cV, 10000, .inr (.inr (.inr (.inr g32)))))] ++ va_pl L (pf f n32)) H := hP
                  have hD : va_D A ([(wk, .inr (10, [.ref wl, .int (nI t32), .int (nI s32), .ref rt])), (wl, .inl (cV, 10000, .inr (.inr (.inr (.inr g32)))))] ++ va_pl L (pf f n32)) := hD
                  have hP32 : PU E PL AL S (catR D (([c9.2], 1))) tp sp g ν t32 s32 g32 n32 := hPI.tr hw
                  have hW_hP32 := hP32.wi
                  have hA_hP32 := hW_hP32.1
                  have hB_hP32 := hW_hP32.2.1
                  have hC_hP32 := hP32.spt
                  have hRI2 : catR (catR D (([c9.2], 1))) (atsR ndn (dnL k9 (i.toInt + se9.toInt) T9 se9.toInt)) = (slcS (if hs9 = 0 then none else some st9) (if ht9 = 0 then none else some sp9) se9 rtn ndn) := by rw [catR_a]; exact hRI1
                  refine lv_lload hx hb d_Walk_pushSlice_189 (lv_at hl 5 rfl) ?_
                  refine lv_aload_n hx hb d_Walk_pushSlice_191 rfl (lv_at hl 2 rfl) ?_
                  refine vq_get (D := (dC, dI)) (ci := 7) (v := .long se9) (C := R_Selector) (T := F_Selector) (N := 9) hx hb hts in_Selector hown hK hP (hO.inL (a := sl) (by rw [hsl]; decide)) (pf_L ef22) rfl 6 (by decide) (hts _ z_625) (fun _ h9 => h9) rfl d_Walk_pushSlice_192 ?_
                  refine lv_ladd hx hb d_Walk_pushSlice_195 ?_
                  refine lv_lstore (lv' := [(6, .long (i + se9)), (0, .ref wk), (1, .ref nd), (2, .ref sl), (3, .int (nI (szF f nd))), (4, .long (-1))]) hx hb d_Walk_pushSlice_196 hl (by decide) rfl (fun ls hl => ?_)
                  refine lv_goto (tgt := 169) hx hb d_Walk_pushSlice_198 (by decide) ?_
                  have hia : (i + se9).toInt = i.toInt + se9.toInt := l_add (by omega) (by omega) hsb.1 hsb.2
                  exact ih (i + se9, k9, catR D (([c9.2], 1)), t32, s32, g32, n32) _ _ _ ⟨⟨show (i + se9).toInt ≤ ((kdsN ndn).length : Int) - 1 by omega, by show _ < _; rw [hia]; omega⟩, hP32, by show catR _ (atsR ndn (dnL k9 (i + se9).toInt T9 se9.toInt)) = _; rw [hia]; exact hRI2⟩ (show k9 < k by omega) hP hD hS (lv_sub hl [1, 2, 3, 4, 5, 0] rfl)
        · refine lv_aload_n hx hb d_Walk_pushSlice_121 rfl (lv_at hl 3 rfl) ?_
          refine vq_get (D := (dC, dI)) (ci := 7) (v := .long sp9) (C := R_Selector) (T := F_Selector) (N := 9) hx hb hts in_Selector hown hK hP (hO.inL (a := sl) (by rw [hsl]; decide)) (pf_L ef22) rfl 5 (by decide) (hts _ z_622) (fun _ h9 => h9) rfl d_Walk_pushSlice_122 ?_
          refine lv_iload_n hx hb d_Walk_pushSlice_125 rfl (lv_at hl 0 rfl) ?_
          refine lv_iconst (v := (-1)) hx hb d_Walk_pushSlice_126 (by decide) ?_
          refine lv_iload_n hx hb d_Walk_pushSlice_127 rfl (lv_at hl 0 rfl) ?_
          refine lv_iconst (v := 1) hx hb d_Walk_pushSlice_128 (by decide) ?_
          refine lv_isub hx hb d_Walk_pushSlice_129 ?_
          refine vp_callSl (va_Run.run (va_runS (As := [.long sp9, .int (nI (szF f nd)), .int (-1), .int ((nI (szF f nd)) - 1)]) (rest := []) ⟨hx, hb, hml, hown, hts⟩ (g_Walk_cut l dC dI s.heap sp9 (szF f nd) hs (-1) (nI (szF f nd) - 1)) (va_cwS 4 hts (gt_S (own := R_Walk) (i := 134) (y := y_Walk_cut) i_Walk_cut z_883 z_884 w_5) rfl rfl rfl (by decide +kernel) ⟨Nat.le_of_ble_eq_true rfl, Nat.le_of_ble_eq_true rfl⟩) ⟨mT_blind, fun U hU hW => ⟨rfl, hN.warm hW⟩⟩ rfl rfl hl.1 rfl (lv_room (Nat.le_of_ble_eq_true rfl)) d_Walk_pushSlice_130 ⟨Nat.le_of_ble_eq_true rfl, Nat.le_of_ble_eq_true rfl⟩)) (fun r33 h_r33 => ?_)
          have h_r33 : (r33 : Int64).toInt = clI (-1) ((kdsN ndn).length - 1) (frontI (kdsN ndn).length sp9) := by rw [h_r33, nI_m1 hs, hsk]; rfl
          refine lv_goto (tgt := 139) hx hb d_Walk_pushSlice_133 (by decide) ?_
          refine lv_lstore (lv' := [(4, .long r33), (3, .int (nI (szF f nd))), (0, .ref wk), (1, .ref nd), (2, .ref sl)]) hx hb d_Walk_pushSlice_139 hl (by decide) rfl (fun ls hl => ?_)
          refine lv_aload_n hx hb d_Walk_pushSlice_141 rfl (lv_at hl 4 rfl) ?_
          refine vq_get (D := (dC, dI)) (ci := 7) (v := .int hs9) (C := R_Selector) (T := F_Selector) (N := 9) hx hb hts in_Selector hown hK hP (hO.inL (a := sl) (by rw [hsl]; decide)) (pf_L ef22) rfl 2 (by decide) (hts _ z_616) (fun _ h9 => h9) rfl d_Walk_pushSlice_142 ?_
          refine lv_if_eq (tgt := 163) hx hb d_Walk_pushSlice_145 (by decide) (fun c145 => ?_) (fun c145 => ?_)
          · refine lv_iload_n hx hb d_Walk_pushSlice_163 rfl (lv_at hl 1 rfl) ?_
            refine lv_iconst (v := 1) hx hb d_Walk_pushSlice_164 (by decide) ?_
            refine lv_isub hx hb d_Walk_pushSlice_165 ?_
            refine lv_i2l (v := (((nI (szF f nd)) - 1)).toInt64) hx hb d_Walk_pushSlice_166 rfl ?_
            refine lv_lstore (lv' := [(6, .long ((((nI (szF f nd)) - 1)).toInt64)), (4, .long r33), (3, .int (nI (szF f nd))), (0, .ref wk), (1, .ref nd), (2, .ref sl)]) hx hb d_Walk_pushSlice_167 hl (by decide) rfl (fun ls hl => ?_)
            have hse := Int64.le_iff_toInt_le.mp ((lg_cmp_le _ _).mp c29)
            rw [show (0 : Int64).toInt = 0 from rfl] at hse
            have hse : se9.toInt < 0 := by have h0 : ¬ se9.toInt = 0 := (fun q => c14 (lg_cmp_0 q)); omega
            have hk5 : kdN ndn = 5 := (ckd_n hCl.2.1 (Or.inr ⟨by decide, by decide⟩)).mp (hCl.1.symm.trans c5)
            obtain ⟨T9, hT9⟩ : ∃ z : Int, z = (r33 : Int64).toInt := ⟨_, rfl⟩
            have hRs : (slcS (if hs9 = 0 then none else some st9) (if ht9 = 0 then none else some sp9) se9 rtn ndn) = atsR ndn (dnL ((kdsN ndn).length + 1) (((((nI (szF f nd)) - 1)).toInt64) : Int64).toInt T9 se9.toInt) := by rw [hT9]; exact slcS_dn hk5 hse (Or.inl ⟨c145, by rw [Int32.toInt_toInt64, nI_m1 hs, hsk]⟩) (Or.inr ⟨c118, h_r33⟩)
            have hst : (-1 : Int) ≤ T9 := by rw [hT9]; rw [h_r33]; exact clI_lo
            have hi0 : (((((nI (szF f nd)) - 1)).toInt64) : Int64).toInt ≤ ((kdsN ndn).length : Int) - 1 := by rw [Int32.toInt_toInt64, nI_m1 hs, hsk]; exact Int.le_refl _
            refine w_loop (D := (dC, dI)) (cl := classes) (A := A) (H0 := s.heap) (nL := 8) 169 (σ := Int64 × Nat × (List NT × Nat) × Nat × Nat × (Nat → Option Nat) × (Nat → Int64)) (fun ⟨i, k, D, t, s9, g1, ν3⟩ => (i.toInt ≤ ((kdsN ndn).length : Int) - 1 ∧ i.toInt < (k : Int) + T9) ∧ PU E PL AL S D tp sp g ν t s9 g1 ν3 ∧ catR D (atsR ndn (dnL k i.toInt T9 se9.toInt)) = (slcS (if hs9 = 0 then none else some st9) (if ht9 = 0 then none else some sp9) se9 rtn ndn)) (fun ⟨i, k, D, t, s9, g1, ν3⟩ => k) (fun ⟨i, k, D, t, s9, g1, ν3⟩ => [(wk, .inr (10, [.ref wl, .int (nI t), .int (nI s9), .ref rt])), (wl, .inl (cV, 10000, .inr (.inr (.inr (.inr g1)))))] ++ va_pl L (pf f ν3)) (fun ⟨i, k, D, t, s9, g1, ν3⟩ => [(0, .ref wk), (1, .ref nd), (2, .ref sl), (3, .int (nI (szF f nd))), (4, .long r33), (6, .long i)]) ?_ (((((nI (szF f nd)) - 1)).toInt64), (kdsN ndn).length + 1, ([], 0), tp, sp, g, ν) ⟨⟨hi0, by show _ < _; omega⟩, hPU, (catR_l _).trans hRs.symm⟩ hP hD hS (lv_sub hl [3, 4, 5, 2, 1, 0] rfl)
            rintro ⟨i, k, D, t, s9, g1, ν3⟩ H locs ls hI ih hP hD hS hl
            have hP : va_P (dC, dI) classes ([(wk, .inr (10, [.ref wl, .int (nI t), .int (nI s9), .ref rt])), (wl, .inl (cV, 10000, .inr (.inr (.inr (.inr g1)))))] ++ va_pl L (pf f ν3)) H := hP
            have hD : va_D A ([(wk, .inr (10, [.ref wl, .int (nI t), .int (nI s9), .ref rt])), (wl, .inl (cV, 10000, .inr (.inr (.inr (.inr g1)))))] ++ va_pl L (pf f ν3)) := hD
            have hl : lv_has ls 8 [(0, .ref wk), (1, .ref nd), (2, .ref sl), (3, .int (nI (szF f nd))), (4, .long r33), (6, .long i)] := hl
            obtain ⟨⟨hI, hIk⟩, hPI, hRI⟩ := hI
            have hI : i.toInt ≤ ((kdsN ndn).length : Int) - 1 := hI
            have hIk : i.toInt < (k : Int) + T9 := hIk
            have hPI : PU E PL AL S D tp sp g ν t s9 g1 ν3 := hPI
            have hRI : catR D (atsR ndn (dnL k i.toInt T9 se9.toInt)) = (slcS (if hs9 = 0 then none else some st9) (if ht9 = 0 then none else some sp9) se9 rtn ndn) := hRI
            have hW_hPI := hPI.wi
            have hA_hPI := hW_hPI.1
            have hB_hPI := hW_hPI.2.1
            have hC_hPI := hPI.spt
            refine lv_lload hx hb d_Walk_pushSlice_169 (lv_at hl 5 rfl) ?_
            refine lv_lload hx hb d_Walk_pushSlice_171 (lv_at hl 4 rfl) ?_
            refine W.lcmp hx hb d_Walk_pushSlice_173 ?_
            refine lv_if_le (tgt := 201) hx hb d_Walk_pushSlice_174 (by decide) (fun c174 => ?_) (fun c174 => ?_)
            · have hend := Int64.le_iff_toInt_le.mp ((lg_cmp_le _ _).mp c174)
              have hR0 : atsR ndn (dnL k i.toInt T9 se9.toInt) = ([], 0) := by rw [dnL_nil (by omega)]; rfl
              have hfin : PU E PL AL S ((slcS (if hs9 = 0 then none else some st9) (if ht9 = 0 then none else some sp9) se9 rtn ndn)) tp sp g ν t s9 g1 ν3 := by rw [← show D = (slcS (if hs9 = 0 then none else some st9) (if ht9 = 0 then none else some sp9) se9 rtn ndn) from by rw [← hRI, hR0]; exact (catR_0 _).symm]; exact hPI
              refine w_same (fun hq => ?_)
              refine W.widen (k := 1) (n := 6) (Nat.le_of_ble_eq_true rfl) (Nat.le_of_ble_eq_true rfl) ?_
              refine vx_ret ?_
              exact W.vret hx hb hr (fun t9 ht hW => ⟨⟨(t, s9, g1, ν3), rfl, hfin, ⟨by rw [ht]; exact hP, va_K.moved hW.alike hK, hD⟩, by rw [ht]; exact hq⟩, hS.F ht⟩) hS.2.2 d_Walk_pushSlice_201
            · have hlt := Int64.lt_iff_toInt_lt.mp (Int64.not_le.mp (fun h => c174 ((lg_cmp_le _ _).mpr h)))
              have hlt : T9 < i.toInt := by rw [hT9]; exact hlt
              obtain ⟨j, hj, ej⟩ := l_idx (x := i) (n := szF f nd) (by omega) (by omega) hs
              have hij : i.toInt.toNat = j := by rw [ej, pk_lT (by omega)]; omega
              obtain ⟨c9, hc9⟩ : ∃ c, (kdsN ndn)[j]? = some c := ⟨_, List.getElem?_eq_getElem (by omega)⟩
              obtain ⟨k9, hk9, hRd⟩ := dn_step (st := se9.toInt) hlt hIk (by rw [hij]; exact hc9)
              have hRI1 : catR D (catR ([c9.2], 1) (atsR ndn (dnL k9 (i.toInt + se9.toInt) T9 se9.toInt))) = (slcS (if hs9 = 0 then none else some st9) (if ht9 = 0 then none else some sp9) se9 rtn ndn) := by rw [← hRd]; exact hRI
              refine lv_aload_n hx hb d_Walk_pushSlice_177 rfl (lv_at hl 0 rfl) ?_
              refine lv_aload_n hx hb d_Walk_pushSlice_178 rfl (lv_at hl 1 rfl) ?_
              rcases me21 with _ | b34
              · exact absurd (PO.mem0 ef21) (by omega)
              · refine vq_get (D := (dC, dI)) (ci := 9) (v := .ref b34) (C := R_Value) (T := F_Value) (N := 10) hx hb hts in_Value hown hK hP (hO.inV (isF.v hnd)) (pf_V ef21) rfl 3 (by decide) (hts _ z_328) (fun _ h9 => h9) rfl d_Walk_pushSlice_179 ?_
                refine lv_lload hx hb d_Walk_pushSlice_182 (lv_at hl 5 rfl) ?_
                refine lv_l2i (v := i.toInt32) hx hb d_Walk_pushSlice_184 rfl ?_
                refine W.eq (g2 := F0 m 185 ls [.int (nI j), .ref b34, .ref wk]) (by rw [show (i.toInt32) = (nI j) from (by rw [ej]; exact lN_i j)]) ?_
                obtain ⟨g35, hi35, ef35, hg35⟩ := hO.mem1 ef21 hv21 (isF.n1 hnd)
                have hn35 := hO.szle ef21 hv21
                obtain ⟨me36, hm36, hf36, hnm36⟩ := hg35 j hj
                refine vq_aald hx hb hK hP 1 hi35 (pf_A ef35) rfl (j := j) hj hn35 hm36 d_Walk_pushSlice_185 ?_
                have hPc := hP.part (cx := [(wk, .inr (10, [.ref wl, .int (nI t), .int (nI s9), .ref rt])), (wl, .inl (cV, 10000, .inr (.inr (.inr (.inr g1)))))]) [0, 1] rfl
                have hDc := hD.part (cx := [(wk, .inr (10, [.ref wl, .int (nI t), .int (nI s9), .ref rt])), (wl, .inl (cV, 10000, .inr (.inr (.inr (.inr g1)))))]) [0, 1] (by decide) rfl
                have hFc := va_freeP (cx := [(wk, .inr (10, [.ref wl, .int (nI t), .int (nI s9), .ref rt])), (wl, .inl (cV, 10000, .inr (.inr (.inr (.inr g1)))))]) hD hS hA [0, 1] rfl
                have hKc := hK.sub (tys' := [(cI, .int), (cV, .object "QueryBench$Value")]) [0, 1] rfl
                refine w_same (fun hq0 => ?_)
                refine vx_callv (vx_runV (As := [.ref me36]) (rest := []) ⟨hx, hb, hml, hown, hts⟩ (p_Walk_push l hl9 K dC dI H cI cV E lv L f hO hN1 PL AL S wk wl rt hrt rtn hrn t s9 g1 ν3 hW_hPI (fun ν2 h2 => hDq9 ν2 (hPI.nu.tr h2)) me36 c9.2 (hnn.kid (hDq9 ν3 hPI.nu) hc9 ((memF_a (pf_V ef21) (pf_A ef35)).trans hm36))) (cwV 1 hts (gt_V (own := R_Walk) (C := R_Walk) (i := 38) (y := y_Walk_push) i_Walk_push z_839 z_841 (gt_sel (y := y_Walk_push) (n := 4) (by decide +kernel)) w_5) rfl rfl rfl (by decide +kernel) ⟨Nat.le_of_ble_eq_true rfl, Nat.le_of_ble_eq_true rfl⟩) ⟨ml_blind, va_recv hK hP (ci := 10) (q0 := 0) rfl rfl, fun U hU hW => ⟨rfl, ⟨hU, by rw [hU]; exact hPc, va_K.moved hW.alike hKc, hDc.weaken (fun _ _ _ _ => trivial)⟩, hN.warm hW, by rw [hU]; exact ZX.moved' hW.alike (ZX.narrow' (ZX.kept' hZ hS.2.1) hFc), by rw [hU]; exact CE.call hC hS.2.1 hFc hW, va_AO.moved hW.alike hV⟩⟩ rfl rfl hl.1 rfl (lv_room (Nat.le_of_ble_eq_true rfl)) d_Walk_pushSlice_186 ⟨Nat.le_of_ble_eq_true rfl, Nat.le_of_ble_eq_true rfl⟩) hS (fun q _ h => hFc q h) hFc (fun q _ h => hFc q h) (fun En ce q9 ⟨tx, sx, gx, nx⟩ t9 H1 locs ht hvm hw hB hz1 hk1 hS hce hcv hcl => ?_) (fun ⟨t37, s37, g37, n37⟩ t9 H1 locs ht hvm hw hB hz1 hk1 hS => ?_)
                · obtain ⟨hEn, hP1, hK1, hD1⟩ := hB
                  rw [ht] at hP1
                  obtain ⟨hP, hD⟩ := va_joinP (wr := []) (rx := [(wk, .inr (10, [.ref wl, .int tx, .int sx, .ref rt])), (wl, .inl (cV, 10000, .inr (.inr (.inr (.inr gx)))))]) (pl1 := va_pl L (pf f nx)) hP hD [0, 1] [] rfl rfl (by decide) (by decide) hk1 hFc hP1 hD1
                  generalize H1 = H at hP hS hce ⊢
                  have hP : va_P (dC, dI) classes ([(wk, .inr (10, [.ref wl, .int tx, .int sx, .ref rt])), (wl, .inl (cV, 10000, .inr (.inr (.inr (.inr gx)))))] ++ va_pl L (pf f nx)) H := hP
                  have hD : va_D A ([(wk, .inr (10, [.ref wl, .int tx, .int sx, .ref rt])), (wl, .inl (cV, 10000, .inr (.inr (.inr (.inr gx)))))] ++ va_pl L (pf f nx)) := hD
                  have hno : 10000 < sp + ((slcS (if hs9 = 0 then none else some st9) (if ht9 = 0 then none else some sp9) se9 rtn ndn)).2 := by have hw : 10000 < s9 + (([c9.2], 1)).2 := hw.1; rw [← hRI1]; show 10000 < sp + (D.2 + (1 + _)); omega
                  exact vx_out (fun x hx => (hex x hx).elim) hlocks hce hcv hcl (fun t9 ht2 ha => ⟨(tx, sx, gx, nx), ⟨hno, hPI.nu.tr hw.2⟩, ⟨hEn, by rw [ht2]; exact hP, va_K.moved ha hK, hD⟩, hS.F ht2⟩) hS.2.2 (Nat.le_of_ble_eq_true rfl) (Nat.le_of_ble_eq_true rfl)
                · obtain ⟨⟨hP1, hK1, hD1⟩, hz9⟩ := hB
                  rw [ht] at hP1
                  rw [ht] at hz9
                  refine w_tight (hq0.trans hz9) ?_
                  have hq0 := hq0.trans hz9
                  obtain ⟨hP, hD⟩ := va_joinP (wr := []) (rx := [(wk, .inr (10, [.ref wl, .int (nI t37), .int (nI s37), .ref rt])), (wl, .inl (cV, 10000, .inr (.inr (.inr (.inr g37)))))]) (pl1 := va_pl L (pf f n37)) hP hD [0, 1] [] rfl rfl (by decide) (by decide) hk1 hFc hP1 hD1
                  generalize H1 = H at hP hS hq0 ⊢
                  have hP : va_P (dC, dI) classes ([(wk, .inr (10, [.ref wl, .int (nI t37), .int (nI s37), .ref rt])), (wl, .inl (cV, 10000, .inr (.inr (.inr (.inr g37)))))] ++ va_pl L (pf f n37)) H := hP
                  have hD : va_D A ([(wk, .inr (10, [.ref wl, .int (nI t37), .int (nI s37), .ref rt])), (wl, .inl (cV, 10000, .inr (.inr (.inr (.inr g37)))))] ++ va_pl L (pf f n37)) := hD
                  have hP37 : PU E PL AL S (catR D (([c9.2], 1))) tp sp g ν t37 s37 g37 n37 := hPI.tr hw
                  have hW_hP37 := hP37.wi
                  have hA_hP37 := hW_hP37.1
                  have hB_hP37 := hW_hP37.2.1
                  have hC_hP37 := hP37.spt
                  have hRI2 : catR (catR D (([c9.2], 1))) (atsR ndn (dnL k9 (i.toInt + se9.toInt) T9 se9.toInt)) = (slcS (if hs9 = 0 then none else some st9) (if ht9 = 0 then none else some sp9) se9 rtn ndn) := by rw [catR_a]; exact hRI1
                  refine lv_lload hx hb d_Walk_pushSlice_189 (lv_at hl 5 rfl) ?_
                  refine lv_aload_n hx hb d_Walk_pushSlice_191 rfl (lv_at hl 2 rfl) ?_
                  refine vq_get (D := (dC, dI)) (ci := 7) (v := .long se9) (C := R_Selector) (T := F_Selector) (N := 9) hx hb hts in_Selector hown hK hP (hO.inL (a := sl) (by rw [hsl]; decide)) (pf_L ef22) rfl 6 (by decide) (hts _ z_625) (fun _ h9 => h9) rfl d_Walk_pushSlice_192 ?_
                  refine lv_ladd hx hb d_Walk_pushSlice_195 ?_
                  refine lv_lstore (lv' := [(6, .long (i + se9)), (0, .ref wk), (1, .ref nd), (2, .ref sl), (3, .int (nI (szF f nd))), (4, .long r33)]) hx hb d_Walk_pushSlice_196 hl (by decide) rfl (fun ls hl => ?_)
                  refine lv_goto (tgt := 169) hx hb d_Walk_pushSlice_198 (by decide) ?_
                  have hia : (i + se9).toInt = i.toInt + se9.toInt := l_add (by omega) (by omega) hsb.1 hsb.2
                  exact ih (i + se9, k9, catR D (([c9.2], 1)), t37, s37, g37, n37) _ _ _ ⟨⟨show (i + se9).toInt ≤ ((kdsN ndn).length : Int) - 1 by omega, by show _ < _; rw [hia]; omega⟩, hP37, by show catR _ (atsR ndn (dnL k9 (i + se9).toInt T9 se9.toInt)) = _; rw [hia]; exact hRI2⟩ (show k9 < k by omega) hP hD hS (lv_sub hl [1, 2, 3, 4, 5, 0] rfl)
          · refine lv_aload_n hx hb d_Walk_pushSlice_148 rfl (lv_at hl 4 rfl) ?_
            refine vq_get (D := (dC, dI)) (ci := 7) (v := .long st9) (C := R_Selector) (T := F_Selector) (N := 9) hx hb hts in_Selector hown hK hP (hO.inL (a := sl) (by rw [hsl]; decide)) (pf_L ef22) rfl 4 (by decide) (hts _ z_619) (fun _ h9 => h9) rfl d_Walk_pushSlice_149 ?_
            refine lv_iload_n hx hb d_Walk_pushSlice_152 rfl (lv_at hl 1 rfl) ?_
            refine lv_iconst (v := (-1)) hx hb d_Walk_pushSlice_153 (by decide) ?_
            refine lv_iload_n hx hb d_Walk_pushSlice_154 rfl (lv_at hl 1 rfl) ?_
            refine lv_iconst (v := 1) hx hb d_Walk_pushSlice_155 (by decide) ?_
            refine lv_isub hx hb d_Walk_pushSlice_156 ?_
            refine vp_callSl (va_Run.run (va_runS (As := [.long st9, .int (nI (szF f nd)), .int (-1), .int ((nI (szF f nd)) - 1)]) (rest := []) ⟨hx, hb, hml, hown, hts⟩ (g_Walk_cut l dC dI s.heap st9 (szF f nd) hs (-1) (nI (szF f nd) - 1)) (va_cwS 4 hts (gt_S (own := R_Walk) (i := 134) (y := y_Walk_cut) i_Walk_cut z_883 z_884 w_5) rfl rfl rfl (by decide +kernel) ⟨Nat.le_of_ble_eq_true rfl, Nat.le_of_ble_eq_true rfl⟩) ⟨mT_blind, fun U hU hW => ⟨rfl, hN.warm hW⟩⟩ rfl rfl hl.1 rfl (lv_room (Nat.le_of_ble_eq_true rfl)) d_Walk_pushSlice_157 ⟨Nat.le_of_ble_eq_true rfl, Nat.le_of_ble_eq_true rfl⟩)) (fun r38 h_r38 => ?_)
            have h_r38 : (r38 : Int64).toInt = clI (-1) ((kdsN ndn).length - 1) (frontI (kdsN ndn).length st9) := by rw [h_r38, nI_m1 hs, hsk]; rfl
            refine lv_goto (tgt := 167) hx hb d_Walk_pushSlice_160 (by decide) ?_
            refine lv_lstore (lv' := [(6, .long r38), (4, .long r33), (3, .int (nI (szF f nd))), (0, .ref wk), (1, .ref nd), (2, .ref sl)]) hx hb d_Walk_pushSlice_167 hl (by decide) rfl (fun ls hl => ?_)
            have hse := Int64.le_iff_toInt_le.mp ((lg_cmp_le _ _).mp c29)
            rw [show (0 : Int64).toInt = 0 from rfl] at hse
            have hse : se9.toInt < 0 := by have h0 : ¬ se9.toInt = 0 := (fun q => c14 (lg_cmp_0 q)); omega
            have hk5 : kdN ndn = 5 := (ckd_n hCl.2.1 (Or.inr ⟨by decide, by decide⟩)).mp (hCl.1.symm.trans c5)
            obtain ⟨T9, hT9⟩ : ∃ z : Int, z = (r33 : Int64).toInt := ⟨_, rfl⟩
            have hRs : (slcS (if hs9 = 0 then none else some st9) (if ht9 = 0 then none else some sp9) se9 rtn ndn) = atsR ndn (dnL ((kdsN ndn).length + 1) (r38 : Int64).toInt T9 se9.toInt) := by rw [hT9]; exact slcS_dn hk5 hse (Or.inr ⟨c145, h_r38⟩) (Or.inr ⟨c118, h_r33⟩)
            have hst : (-1 : Int) ≤ T9 := by rw [hT9]; rw [h_r33]; exact clI_lo
            have hi0 : (r38 : Int64).toInt ≤ ((kdsN ndn).length : Int) - 1 := by rw [h_r38]; exact clI_hi (by omega)
            refine w_loop (D := (dC, dI)) (cl := classes) (A := A) (H0 := s.heap) (nL := 8) 169 (σ := Int64 × Nat × (List NT × Nat) × Nat × Nat × (Nat → Option Nat) × (Nat → Int64)) (fun ⟨i, k, D, t, s9, g1, ν3⟩ => (i.toInt ≤ ((kdsN ndn).length : Int) - 1 ∧ i.toInt < (k : Int) + T9) ∧ PU E PL AL S D tp sp g ν t s9 g1 ν3 ∧ catR D (atsR ndn (dnL k i.toInt T9 se9.toInt)) = (slcS (if hs9 = 0 then none else some st9) (if ht9 = 0 then none else some sp9) se9 rtn ndn)) (fun ⟨i, k, D, t, s9, g1, ν3⟩ => k) (fun ⟨i, k, D, t, s9, g1, ν3⟩ => [(wk, .inr (10, [.ref wl, .int (nI t), .int (nI s9), .ref rt])), (wl, .inl (cV, 10000, .inr (.inr (.inr (.inr g1)))))] ++ va_pl L (pf f ν3)) (fun ⟨i, k, D, t, s9, g1, ν3⟩ => [(0, .ref wk), (1, .ref nd), (2, .ref sl), (3, .int (nI (szF f nd))), (4, .long r33), (6, .long i)]) ?_ (r38, (kdsN ndn).length + 1, ([], 0), tp, sp, g, ν) ⟨⟨hi0, by show _ < _; omega⟩, hPU, (catR_l _).trans hRs.symm⟩ hP hD hS (lv_sub hl [3, 4, 5, 2, 1, 0] rfl)
            rintro ⟨i, k, D, t, s9, g1, ν3⟩ H locs ls hI ih hP hD hS hl
            have hP : va_P (dC, dI) classes ([(wk, .inr (10, [.ref wl, .int (nI t), .int (nI s9), .ref rt])), (wl, .inl (cV, 10000, .inr (.inr (.inr (.inr g1)))))] ++ va_pl L (pf f ν3)) H := hP
            have hD : va_D A ([(wk, .inr (10, [.ref wl, .int (nI t), .int (nI s9), .ref rt])), (wl, .inl (cV, 10000, .inr (.inr (.inr (.inr g1)))))] ++ va_pl L (pf f ν3)) := hD
            have hl : lv_has ls 8 [(0, .ref wk), (1, .ref nd), (2, .ref sl), (3, .int (nI (szF f nd))), (4, .long r33), (6, .long i)] := hl
            obtain ⟨⟨hI, hIk⟩, hPI, hRI⟩ := hI
            have hI : i.toInt ≤ ((kdsN ndn).length : Int) - 1 := hI
            have hIk : i.toInt < (k : Int) + T9 := hIk
            have hPI : PU E PL AL S D tp sp g ν t s9 g1 ν3 := hPI
            have hRI : catR D (atsR ndn (dnL k i.toInt T9 se9.toInt)) = (slcS (if hs9 = 0 then none else some st9) (if ht9 = 0 then none else some sp9) se9 rtn ndn) := hRI
            have hW_hPI := hPI.wi
            have hA_hPI := hW_hPI.1
            have hB_hPI := hW_hPI.2.1
            have hC_hPI := hPI.spt
            refine lv_lload hx hb d_Walk_pushSlice_169 (lv_at hl 5 rfl) ?_
            refine lv_lload hx hb d_Walk_pushSlice_171 (lv_at hl 4 rfl) ?_
            refine W.lcmp hx hb d_Walk_pushSlice_173 ?_
            refine lv_if_le (tgt := 201) hx hb d_Walk_pushSlice_174 (by decide) (fun c174 => ?_) (fun c174 => ?_)
            · have hend := Int64.le_iff_toInt_le.mp ((lg_cmp_le _ _).mp c174)
              have hR0 : atsR ndn (dnL k i.toInt T9 se9.toInt) = ([], 0) := by rw [dnL_nil (by omega)]; rfl
              have hfin : PU E PL AL S ((slcS (if hs9 = 0 then none else some st9) (if ht9 = 0 then none else some sp9) se9 rtn ndn)) tp sp g ν t s9 g1 ν3 := by rw [← show D = (slcS (if hs9 = 0 then none else some st9) (if ht9 = 0 then none else some sp9) se9 rtn ndn) from by rw [← hRI, hR0]; exact (catR_0 _).symm]; exact hPI
              refine w_same (fun hq => ?_)
              refine W.widen (k := 1) (n := 6) (Nat.le_of_ble_eq_true rfl) (Nat.le_of_ble_eq_true rfl) ?_
              refine vx_ret ?_
              exact W.vret hx hb hr (fun t9 ht hW => ⟨⟨(t, s9, g1, ν3), rfl, hfin, ⟨by rw [ht]; exact hP, va_K.moved hW.alike hK, hD⟩, by rw [ht]; exact hq⟩, hS.F ht⟩) hS.2.2 d_Walk_pushSlice_201
            · have hlt := Int64.lt_iff_toInt_lt.mp (Int64.not_le.mp (fun h => c174 ((lg_cmp_le _ _).mpr h)))
              have hlt : T9 < i.toInt := by rw [hT9]; exact hlt
              obtain ⟨j, hj, ej⟩ := l_idx (x := i) (n := szF f nd) (by omega) (by omega) hs
              have hij : i.toInt.toNat = j := by rw [ej, pk_lT (by omega)]; omega
              obtain ⟨c9, hc9⟩ : ∃ c, (kdsN ndn)[j]? = some c := ⟨_, List.getElem?_eq_getElem (by omega)⟩
              obtain ⟨k9, hk9, hRd⟩ := dn_step (st := se9.toInt) hlt hIk (by rw [hij]; exact hc9)
              have hRI1 : catR D (catR ([c9.2], 1) (atsR ndn (dnL k9 (i.toInt + se9.toInt) T9 se9.toInt))) = (slcS (if hs9 = 0 then none else some st9) (if ht9 = 0 then none else some sp9) se9 rtn ndn) := by rw [← hRd]; exact hRI
              refine lv_aload_n hx hb d_Walk_pushSlice_177 rfl (lv_at hl 0 rfl) ?_
              refine lv_aload_n hx hb d_Walk_pushSlice_178 rfl (lv_at hl 1 rfl) ?_
              rcases me21 with _ | b39
              · exact absurd (PO.mem0 ef21) (by omega)
              · refine vq_get (D := (dC, dI)) (ci := 9) (v := .ref b39) (C := R_Value) (T := F_Value) (N := 10) hx hb hts in_Value hown hK hP (hO.inV (isF.v hnd)) (pf_V ef21) rfl 3 (by decide) (hts _ z_328) (fun _ h9 => h9) rfl d_Walk_pushSlice_179 ?_
                refine lv_lload hx hb d_Walk_pushSlice_182 (lv_at hl 5 rfl) ?_
                refine lv_l2i (v := i.toInt32) hx hb d_Walk_pushSlice_184 rfl ?_
                refine W.eq (g2 := F0 m 185 ls [.int (nI j), .ref b39, .ref wk]) (by rw [show (i.toInt32) = (nI j) from (by rw [ej]; exact lN_i j)]) ?_
                obtain ⟨g40, hi40, ef40, hg40⟩ := hO.mem1 ef21 hv21 (isF.n1 hnd)
                have hn40 := hO.szle ef21 hv21
                obtain ⟨me41, hm41, hf41, hnm41⟩ := hg40 j hj
                refine vq_aald hx hb hK hP 1 hi40 (pf_A ef40) rfl (j := j) hj hn40 hm41 d_Walk_pushSlice_185 ?_
                have hPc := hP.part (cx := [(wk, .inr (10, [.ref wl, .int (nI t), .int (nI s9), .ref rt])), (wl, .inl (cV, 10000, .inr (.inr (.inr (.inr g1)))))]) [0, 1] rfl
                have hDc := hD.part (cx := [(wk, .inr (10, [.ref wl, .int (nI t), .int (nI s9), .ref rt])), (wl, .inl (cV, 10000, .inr (.inr (.inr (.inr g1)))))]) [0, 1] (by decide) rfl
                have hFc := va_freeP (cx := [(wk, .inr (10, [.ref wl, .int (nI t), .int (nI s9), .ref rt])), (wl, .inl (cV, 10000, .inr (.inr (.inr (.inr g1)))))]) hD hS hA [0, 1] rfl
                have hKc := hK.sub (tys' := [(cI, .int), (cV, .object "QueryBench$Value")]) [0, 1] rfl
                refine w_same (fun hq0 => ?_)
                refine vx_callv (vx_runV (As := [.ref me41]) (rest := []) ⟨hx, hb, hml, hown, hts⟩ (p_Walk_push l hl9 K dC dI H cI cV E lv L f hO hN1 PL AL S wk wl rt hrt rtn hrn t s9 g1 ν3 hW_hPI (fun ν2 h2 => hDq9 ν2 (hPI.nu.tr h2)) me41 c9.2 (hnn.kid (hDq9 ν3 hPI.nu) hc9 ((memF_a (pf_V ef21) (pf_A ef40)).trans hm41))) (cwV 1 hts (gt_V (own := R_Walk) (C := R_Walk) (i := 38) (y := y_Walk_push) i_Walk_push z_839 z_841 (gt_sel (y := y_Walk_push) (n := 4) (by decide +kernel)) w_5) rfl rfl rfl (by decide +kernel) ⟨Nat.le_of_ble_eq_true rfl, Nat.le_of_ble_eq_true rfl⟩) ⟨ml_blind, va_recv hK hP (ci := 10) (q0 := 0) rfl rfl, fun U hU hW => ⟨rfl, ⟨hU, by rw [hU]; exact hPc, va_K.moved hW.alike hKc, hDc.weaken (fun _ _ _ _ => trivial)⟩, hN.warm hW, by rw [hU]; exact ZX.moved' hW.alike (ZX.narrow' (ZX.kept' hZ hS.2.1) hFc), by rw [hU]; exact CE.call hC hS.2.1 hFc hW, va_AO.moved hW.alike hV⟩⟩ rfl rfl hl.1 rfl (lv_room (Nat.le_of_ble_eq_true rfl)) d_Walk_pushSlice_186 ⟨Nat.le_of_ble_eq_true rfl, Nat.le_of_ble_eq_true rfl⟩) hS (fun q _ h => hFc q h) hFc (fun q _ h => hFc q h) (fun En ce q9 ⟨tx, sx, gx, nx⟩ t9 H1 locs ht hvm hw hB hz1 hk1 hS hce hcv hcl => ?_) (fun ⟨t42, s42, g42, n42⟩ t9 H1 locs ht hvm hw hB hz1 hk1 hS => ?_)
                · obtain ⟨hEn, hP1, hK1, hD1⟩ := hB
                  rw [ht] at hP1
                  obtain ⟨hP, hD⟩ := va_joinP (wr := []) (rx := [(wk, .inr (10, [.ref wl, .int tx, .int sx, .ref rt])), (wl, .inl (cV, 10000, .inr (.inr (.inr (.inr gx)))))]) (pl1 := va_pl L (pf f nx)) hP hD [0, 1] [] rfl rfl (by decide) (by decide) hk1 hFc hP1 hD1
                  generalize H1 = H at hP hS hce ⊢
                  have hP : va_P (dC, dI) classes ([(wk, .inr (10, [.ref wl, .int tx, .int sx, .ref rt])), (wl, .inl (cV, 10000, .inr (.inr (.inr (.inr gx)))))] ++ va_pl L (pf f nx)) H := hP
                  have hD : va_D A ([(wk, .inr (10, [.ref wl, .int tx, .int sx, .ref rt])), (wl, .inl (cV, 10000, .inr (.inr (.inr (.inr gx)))))] ++ va_pl L (pf f nx)) := hD
                  have hno : 10000 < sp + ((slcS (if hs9 = 0 then none else some st9) (if ht9 = 0 then none else some sp9) se9 rtn ndn)).2 := by have hw : 10000 < s9 + (([c9.2], 1)).2 := hw.1; rw [← hRI1]; show 10000 < sp + (D.2 + (1 + _)); omega
                  exact vx_out (fun x hx => (hex x hx).elim) hlocks hce hcv hcl (fun t9 ht2 ha => ⟨(tx, sx, gx, nx), ⟨hno, hPI.nu.tr hw.2⟩, ⟨hEn, by rw [ht2]; exact hP, va_K.moved ha hK, hD⟩, hS.F ht2⟩) hS.2.2 (Nat.le_of_ble_eq_true rfl) (Nat.le_of_ble_eq_true rfl)
                · obtain ⟨⟨hP1, hK1, hD1⟩, hz9⟩ := hB
                  rw [ht] at hP1
                  rw [ht] at hz9
                  refine w_tight (hq0.trans hz9) ?_
                  have hq0 := hq0.trans hz9
                  obtain ⟨hP, hD⟩ := va_joinP (wr := []) (rx := [(wk, .inr (10, [.ref wl, .int (nI t42), .int (nI s42), .ref rt])), (wl, .inl (cV, 10000, .inr (.inr (.inr (.inr g42)))))]) (pl1 := va_pl L (pf f n42)) hP hD [0, 1] [] rfl rfl (by decide) (by decide) hk1 hFc hP1 hD1
                  generalize H1 = H at hP hS hq0 ⊢
                  have hP : va_P (dC, dI) classes ([(wk, .inr (10, [.ref wl, .int (nI t42), .int (nI s42), .ref rt])), (wl, .inl (cV, 10000, .inr (.inr (.inr (.inr g42)))))] ++ va_pl L (pf f n42)) H := hP
                  have hD : va_D A ([(wk, .inr (10, [.ref wl, .int (nI t42), .int (nI s42), .ref rt])), (wl, .inl (cV, 10000, .inr (.inr (.inr (.inr g42)))))] ++ va_pl L (pf f n42)) := hD
                  have hP42 : PU E PL AL S (catR D (([c9.2], 1))) tp sp g ν t42 s42 g42 n42 := hPI.tr hw
                  have hW_hP42 := hP42.wi
                  have hA_hP42 := hW_hP42.1
                  have hB_hP42 := hW_hP42.2.1
                  have hC_hP42 := hP42.spt
                  have hRI2 : catR (catR D (([c9.2], 1))) (atsR ndn (dnL k9 (i.toInt + se9.toInt) T9 se9.toInt)) = (slcS (if hs9 = 0 then none else some st9) (if ht9 = 0 then none else some sp9) se9 rtn ndn) := by rw [catR_a]; exact hRI1
                  refine lv_lload hx hb d_Walk_pushSlice_189 (lv_at hl 5 rfl) ?_
                  refine lv_aload_n hx hb d_Walk_pushSlice_191 rfl (lv_at hl 2 rfl) ?_
                  refine vq_get (D := (dC, dI)) (ci := 7) (v := .long se9) (C := R_Selector) (T := F_Selector) (N := 9) hx hb hts in_Selector hown hK hP (hO.inL (a := sl) (by rw [hsl]; decide)) (pf_L ef22) rfl 6 (by decide) (hts _ z_625) (fun _ h9 => h9) rfl d_Walk_pushSlice_192 ?_
                  refine lv_ladd hx hb d_Walk_pushSlice_195 ?_
                  refine lv_lstore (lv' := [(6, .long (i + se9)), (0, .ref wk), (1, .ref nd), (2, .ref sl), (3, .int (nI (szF f nd))), (4, .long r33)]) hx hb d_Walk_pushSlice_196 hl (by decide) rfl (fun ls hl => ?_)
                  refine lv_goto (tgt := 169) hx hb d_Walk_pushSlice_198 (by decide) ?_
                  have hia : (i + se9).toInt = i.toInt + se9.toInt := l_add (by omega) (by omega) hsb.1 hsb.2
                  exact ih (i + se9, k9, catR D (([c9.2], 1)), t42, s42, g42, n42) _ _ _ ⟨⟨show (i + se9).toInt ≤ ((kdsN ndn).length : Int) - 1 by omega, by show _ < _; rw [hia]; omega⟩, hP42, by show catR _ (atsR ndn (dnL k9 (i + se9).toInt T9 se9.toInt)) = _; rw [hia]; exact hRI2⟩ (show k9 < k by omega) hP hD hS (lv_sub hl [1, 2, 3, 4, 5, 0] rfl)
      · refine lv_aload_n hx hb d_Walk_pushSlice_32 rfl (lv_at hl 3 rfl) ?_
        refine vq_get (D := (dC, dI)) (ci := 7) (v := .int ht9) (C := R_Selector) (T := F_Selector) (N := 9) hx hb hts in_Selector hown hK hP (hO.inL (a := sl) (by rw [hsl]; decide)) (pf_L ef22) rfl 3 (by decide) (hts _ z_618) (fun _ h9 => h9) rfl d_Walk_pushSlice_33 ?_
        refine lv_if_eq (tgt := 52) hx hb d_Walk_pushSlice_36 (by decide) (fun c36 => ?_) (fun c36 => ?_)
        · refine lv_iload_n hx hb d_Walk_pushSlice_52 rfl (lv_at hl 0 rfl) ?_
          refine lv_i2l (v := ((nI (szF f nd))).toInt64) hx hb d_Walk_pushSlice_53 rfl ?_
          refine lv_lstore (lv' := [(4, .long (((nI (szF f nd))).toInt64)), (3, .int (nI (szF f nd))), (0, .ref wk), (1, .ref nd), (2, .ref sl)]) hx hb d_Walk_pushSlice_54 hl (by decide) rfl (fun ls hl => ?_)
          refine lv_aload_n hx hb d_Walk_pushSlice_56 rfl (lv_at hl 4 rfl) ?_
          refine vq_get (D := (dC, dI)) (ci := 7) (v := .int hs9) (C := R_Selector) (T := F_Selector) (N := 9) hx hb hts in_Selector hown hK hP (hO.inL (a := sl) (by rw [hsl]; decide)) (pf_L ef22) rfl 2 (by decide) (hts _ z_616) (fun _ h9 => h9) rfl d_Walk_pushSlice_57 ?_
          refine lv_if_eq (tgt := 76) hx hb d_Walk_pushSlice_60 (by decide) (fun c60 => ?_) (fun c60 => ?_)
          · refine lv_lconst (v := 0) hx hb d_Walk_pushSlice_76 (by decide) ?_
            refine lv_lstore (lv' := [(6, .long 0), (4, .long (((nI (szF f nd))).toInt64)), (3, .int (nI (szF f nd))), (0, .ref wk), (1, .ref nd), (2, .ref sl)]) hx hb d_Walk_pushSlice_77 hl (by decide) rfl (fun ls hl => ?_)
            have hse := Int64.lt_iff_toInt_lt.mp (Int64.not_le.mp (fun h => c29 ((lg_cmp_le _ _).mpr h)))
            rw [show (0 : Int64).toInt = 0 from rfl] at hse
            have hk5 : kdN ndn = 5 := (ckd_n hCl.2.1 (Or.inr ⟨by decide, by decide⟩)).mp (hCl.1.symm.trans c5)
            obtain ⟨T9, hT9⟩ : ∃ z : Int, z = ((((nI (szF f nd))).toInt64) : Int64).toInt := ⟨_, rfl⟩
            have hRs : (slcS (if hs9 = 0 then none else some st9) (if ht9 = 0 then none else some sp9) se9 rtn ndn) = atsR ndn (upLs ((kdsN ndn).length + 1) (0 : Int64).toInt T9 se9.toInt) := by rw [hT9]; exact slcS_up hk5 hse (Or.inl ⟨c60, rfl⟩) (Or.inl ⟨c36, by rw [i64_nI hs, hsk]⟩)
            have hst : T9 ≤ ((kdsN ndn).length : Int) := by rw [hT9]; rw [i64_nI hs, hsk]; exact Int.le_refl _
            have hi0 : (0 : Int) ≤ (0 : Int64).toInt := by decide
            refine w_loop (D := (dC, dI)) (cl := classes) (A := A) (H0 := s.heap) (nL := 8) 79 (σ := Int64 × Nat × (List NT × Nat) × Nat × Nat × (Nat → Option Nat) × (Nat → Int64)) (fun ⟨i, k, D, t, s9, g1, ν3⟩ => (0 ≤ i.toInt ∧ T9 < (k : Int) + i.toInt) ∧ PU E PL AL S D tp sp g ν t s9 g1 ν3 ∧ catR D (atsR ndn (upLs k i.toInt T9 se9.toInt)) = (slcS (if hs9 = 0 then none else some st9) (if ht9 = 0 then none else some sp9) se9 rtn ndn)) (fun ⟨i, k, D, t, s9, g1, ν3⟩ => k) (fun ⟨i, k, D, t, s9, g1, ν3⟩ => [(wk, .inr (10, [.ref wl, .int (nI t), .int (nI s9), .ref rt])), (wl, .inl (cV, 10000, .inr (.inr (.inr (.inr g1)))))] ++ va_pl L (pf f ν3)) (fun ⟨i, k, D, t, s9, g1, ν3⟩ => [(0, .ref wk), (1, .ref nd), (2, .ref sl), (3, .int (nI (szF f nd))), (4, .long (((nI (szF f nd))).toInt64)), (6, .long i)]) ?_ (0, (kdsN ndn).length + 1, ([], 0), tp, sp, g, ν) ⟨⟨hi0, by show _ < _; omega⟩, hPU, (catR_l _).trans hRs.symm⟩ hP hD hS (lv_sub hl [3, 4, 5, 2, 1, 0] rfl)
            rintro ⟨i, k, D, t, s9, g1, ν3⟩ H locs ls hI ih hP hD hS hl
            have hP : va_P (dC, dI) classes ([(wk, .inr (10, [.ref wl, .int (nI t), .int (nI s9), .ref rt])), (wl, .inl (cV, 10000, .inr (.inr (.inr (.inr g1)))))] ++ va_pl L (pf f ν3)) H := hP
            have hD : va_D A ([(wk, .inr (10, [.ref wl, .int (nI t), .int (nI s9), .ref rt])), (wl, .inl (cV, 10000, .inr (.inr (.inr (.inr g1)))))] ++ va_pl L (pf f ν3)) := hD
            have hl : lv_has ls 8 [(0, .ref wk), (1, .ref nd), (2, .ref sl), (3, .int (nI (szF f nd))), (4, .long (((nI (szF f nd))).toInt64)), (6, .long i)] := hl
            obtain ⟨⟨hI, hIk⟩, hPI, hRI⟩ := hI
            have hI : 0 ≤ i.toInt := hI
            have hIk : T9 < (k : Int) + i.toInt := hIk
            have hPI : PU E PL AL S D tp sp g ν t s9 g1 ν3 := hPI
            have hRI : catR D (atsR ndn (upLs k i.toInt T9 se9.toInt)) = (slcS (if hs9 = 0 then none else some st9) (if ht9 = 0 then none else some sp9) se9 rtn ndn) := hRI
            have hW_hPI := hPI.wi
            have hA_hPI := hW_hPI.1
            have hB_hPI := hW_hPI.2.1
            have hC_hPI := hPI.spt
            refine lv_lload hx hb d_Walk_pushSlice_79 (lv_at hl 5 rfl) ?_
            refine lv_lload hx hb d_Walk_pushSlice_81 (lv_at hl 4 rfl) ?_
            refine W.lcmp hx hb d_Walk_pushSlice_83 ?_
            refine lv_if_ge (tgt := 111) hx hb d_Walk_pushSlice_84 (by decide) (fun c84 => ?_) (fun c84 => ?_)
            · have hend := Int64.le_iff_toInt_le.mp ((lg_cmp_ge _ _).mp c84)
              have hR0 : atsR ndn (upLs k i.toInt T9 se9.toInt) = ([], 0) := by rw [upL_nil (by omega)]; rfl
              refine lv_goto (tgt := 201) hx hb d_Walk_pushSlice_111 (by decide) ?_
              have hfin : PU E PL AL S ((slcS (if hs9 = 0 then none else some st9) (if ht9 = 0 then none else some sp9) se9 rtn ndn)) tp sp g ν t s9 g1 ν3 := by rw [← show D = (slcS (if hs9 = 0 then none else some st9) (if ht9 = 0 then none else some sp9) se9 rtn ndn) from by rw [← hRI, hR0]; exact (catR_0 _).symm]; exact hPI
              refine w_same (fun hq => ?_)
              refine W.widen (k := 1) (n := 6) (Nat.le_of_ble_eq_true rfl) (Nat.le_of_ble_eq_true rfl) ?_
              refine vx_ret ?_
              exact W.vret hx hb hr (fun t9 ht hW => ⟨⟨(t, s9, g1, ν3), rfl, hfin, ⟨by rw [ht]; exact hP, va_K.moved hW.alike hK, hD⟩, by rw [ht]; exact hq⟩, hS.F ht⟩) hS.2.2 d_Walk_pushSlice_201
            · have hlt := Int64.lt_iff_toInt_lt.mp (Int64.not_le.mp (fun h => c84 ((lg_cmp_ge _ _).mpr h)))
              have hlt : i.toInt < T9 := by rw [hT9]; exact hlt
              obtain ⟨j, hj, ej⟩ := l_idx (x := i) (n := szF f nd) (by omega) (by omega) hs
              have hij : i.toInt.toNat = j := by rw [ej, pk_lT (by omega)]; omega
              obtain ⟨c9, hc9⟩ : ∃ c, (kdsN ndn)[j]? = some c := ⟨_, List.getElem?_eq_getElem (by omega)⟩
              obtain ⟨k9, hk9, hRd⟩ := up_step (st := se9.toInt) hlt hIk (by rw [hij]; exact hc9)
              have hRI1 : catR D (catR ([c9.2], 1) (atsR ndn (upLs k9 (i.toInt + se9.toInt) T9 se9.toInt))) = (slcS (if hs9 = 0 then none else some st9) (if ht9 = 0 then none else some sp9) se9 rtn ndn) := by rw [← hRd]; exact hRI
              refine lv_aload_n hx hb d_Walk_pushSlice_87 rfl (lv_at hl 0 rfl) ?_
              refine lv_aload_n hx hb d_Walk_pushSlice_88 rfl (lv_at hl 1 rfl) ?_
              rcases me21 with _ | b43
              · exact absurd (PO.mem0 ef21) (by omega)
              · refine vq_get (D := (dC, dI)) (ci := 9) (v := .ref b43) (C := R_Value) (T := F_Value) (N := 10) hx hb hts in_Value hown hK hP (hO.inV (isF.v hnd)) (pf_V ef21) rfl 3 (by decide) (hts _ z_328) (fun _ h9 => h9) rfl d_Walk_pushSlice_89 ?_
                refine lv_lload hx hb d_Walk_pushSlice_92 (lv_at hl 5 rfl) ?_
                refine lv_l2i (v := i.toInt32) hx hb d_Walk_pushSlice_94 rfl ?_
                refine W.eq (g2 := F0 m 95 ls [.int (nI j), .ref b43, .ref wk]) (by rw [show (i.toInt32) = (nI j) from (by rw [ej]; exact lN_i j)]) ?_
                obtain ⟨g44, hi44, ef44, hg44⟩ := hO.mem1 ef21 hv21 (isF.n1 hnd)
                have hn44 := hO.szle ef21 hv21
                obtain ⟨me45, hm45, hf45, hnm45⟩ := hg44 j hj
                refine vq_aald hx hb hK hP 1 hi44 (pf_A ef44) rfl (j := j) hj hn44 hm45 d_Walk_pushSlice_95 ?_
                have hPc := hP.part (cx := [(wk, .inr (10, [.ref wl, .int (nI t), .int (nI s9), .ref rt])), (wl, .inl (cV, 10000, .inr (.inr (.inr (.inr g1)))))]) [0, 1] rfl
                have hDc := hD.part (cx := [(wk, .inr (10, [.ref wl, .int (nI t), .int (nI s9), .ref rt])), (wl, .inl (cV, 10000, .inr (.inr (.inr (.inr g1)))))]) [0, 1] (by decide) rfl
                have hFc := va_freeP (cx := [(wk, .inr (10, [.ref wl, .int (nI t), .int (nI s9), .ref rt])), (wl, .inl (cV, 10000, .inr (.inr (.inr (.inr g1)))))]) hD hS hA [0, 1] rfl
                have hKc := hK.sub (tys' := [(cI, .int), (cV, .object "QueryBench$Value")]) [0, 1] rfl
                refine w_same (fun hq0 => ?_)
                refine vx_callv (vx_runV (As := [.ref me45]) (rest := []) ⟨hx, hb, hml, hown, hts⟩ (p_Walk_push l hl9 K dC dI H cI cV E lv L f hO hN1 PL AL S wk wl rt hrt rtn hrn t s9 g1 ν3 hW_hPI (fun ν2 h2 => hDq9 ν2 (hPI.nu.tr h2)) me45 c9.2 (hnn.kid (hDq9 ν3 hPI.nu) hc9 ((memF_a (pf_V ef21) (pf_A ef44)).trans hm45))) (cwV 1 hts (gt_V (own := R_Walk) (C := R_Walk) (i := 38) (y := y_Walk_push) i_Walk_push z_839 z_841 (gt_sel (y := y_Walk_push) (n := 4) (by decide +kernel)) w_5) rfl rfl rfl (by decide +kernel) ⟨Nat.le_of_ble_eq_true rfl, Nat.le_of_ble_eq_true rfl⟩) ⟨ml_blind, va_recv hK hP (ci := 10) (q0 := 0) rfl rfl, fun U hU hW => ⟨rfl, ⟨hU, by rw [hU]; exact hPc, va_K.moved hW.alike hKc, hDc.weaken (fun _ _ _ _ => trivial)⟩, hN.warm hW, by rw [hU]; exact ZX.moved' hW.alike (ZX.narrow' (ZX.kept' hZ hS.2.1) hFc), by rw [hU]; exact CE.call hC hS.2.1 hFc hW, va_AO.moved hW.alike hV⟩⟩ rfl rfl hl.1 rfl (lv_room (Nat.le_of_ble_eq_true rfl)) d_Walk_pushSlice_96 ⟨Nat.le_of_ble_eq_true rfl, Nat.le_of_ble_eq_true rfl⟩) hS (fun q _ h => hFc q h) hFc (fun q _ h => hFc q h) (fun En ce q9 ⟨tx, sx, gx, nx⟩ t9 H1 locs ht hvm hw hB hz1 hk1 hS hce hcv hcl => ?_) (fun ⟨t46, s46, g46, n46⟩ t9 H1 locs ht hvm hw hB hz1 hk1 hS => ?_)
                · obtain ⟨hEn, hP1, hK1, hD1⟩ := hB
                  rw [ht] at hP1
                  obtain ⟨hP, hD⟩ := va_joinP (wr := []) (rx := [(wk, .inr (10, [.ref wl, .int tx, .int sx, .ref rt])), (wl, .inl (cV, 10000, .inr (.inr (.inr (.inr gx)))))]) (pl1 := va_pl L (pf f nx)) hP hD [0, 1] [] rfl rfl (by decide) (by decide) hk1 hFc hP1 hD1
                  generalize H1 = H at hP hS hce ⊢
                  have hP : va_P (dC, dI) classes ([(wk, .inr (10, [.ref wl, .int tx, .int sx, .ref rt])), (wl, .inl (cV, 10000, .inr (.inr (.inr (.inr gx)))))] ++ va_pl L (pf f nx)) H := hP
                  have hD : va_D A ([(wk, .inr (10, [.ref wl, .int tx, .int sx, .ref rt])), (wl, .inl (cV, 10000, .inr (.inr (.inr (.inr gx)))))] ++ va_pl L (pf f nx)) := hD
                  have hno : 10000 < sp + ((slcS (if hs9 = 0 then none else some st9) (if ht9 = 0 then none else some sp9) se9 rtn ndn)).2 := by have hw : 10000 < s9 + (([c9.2], 1)).2 := hw.1; rw [← hRI1]; show 10000 < sp + (D.2 + (1 + _)); omega
                  exact vx_out (fun x hx => (hex x hx).elim) hlocks hce hcv hcl (fun t9 ht2 ha => ⟨(tx, sx, gx, nx), ⟨hno, hPI.nu.tr hw.2⟩, ⟨hEn, by rw [ht2]; exact hP, va_K.moved ha hK, hD⟩, hS.F ht2⟩) hS.2.2 (Nat.le_of_ble_eq_true rfl) (Nat.le_of_ble_eq_true rfl)
                · obtain ⟨⟨hP1, hK1, hD1⟩, hz9⟩ := hB
                  rw [ht] at hP1
                  rw [ht] at hz9
                  refine w_tight (hq0.trans hz9) ?_
                  have hq0 := hq0.trans hz9
                  obtain ⟨hP, hD⟩ := va_joinP (wr := []) (rx := [(wk, .inr (10, [.ref wl, .int (nI t46), .int (nI s46), .ref rt])), (wl, .inl (cV, 10000, .inr (.inr (.inr (.inr g46)))))]) (pl1 := va_pl L (pf f n46)) hP hD [0, 1] [] rfl rfl (by decide) (by decide) hk1 hFc hP1 hD1
                  generalize H1 = H at hP hS hq0 ⊢
                  have hP : va_P (dC, dI) classes ([(wk, .inr (10, [.ref wl, .int (nI t46), .int (nI s46), .ref rt])), (wl, .inl (cV, 10000, .inr (.inr (.inr (.inr g46)))))] ++ va_pl L (pf f n46)) H := hP
                  have hD : va_D A ([(wk, .inr (10, [.ref wl, .int (nI t46), .int (nI s46), .ref rt])), (wl, .inl (cV, 10000, .inr (.inr (.inr (.inr g46)))))] ++ va_pl L (pf f n46)) := hD
                  have hP46 : PU E PL AL S (catR D (([c9.2], 1))) tp sp g ν t46 s46 g46 n46 := hPI.tr hw
                  have hW_hP46 := hP46.wi
                  have hA_hP46 := hW_hP46.1
                  have hB_hP46 := hW_hP46.2.1
                  have hC_hP46 := hP46.spt
                  have hRI2 : catR (catR D (([c9.2], 1))) (atsR ndn (upLs k9 (i.toInt + se9.toInt) T9 se9.toInt)) = (slcS (if hs9 = 0 then none else some st9) (if ht9 = 0 then none else some sp9) se9 rtn ndn) := by rw [catR_a]; exact hRI1
                  refine lv_lload hx hb d_Walk_pushSlice_99 (lv_at hl 5 rfl) ?_
                  refine lv_aload_n hx hb d_Walk_pushSlice_101 rfl (lv_at hl 2 rfl) ?_
                  refine vq_get (D := (dC, dI)) (ci := 7) (v := .long se9) (C := R_Selector) (T := F_Selector) (N := 9) hx hb hts in_Selector hown hK hP (hO.inL (a := sl) (by rw [hsl]; decide)) (pf_L ef22) rfl 6 (by decide) (hts _ z_625) (fun _ h9 => h9) rfl d_Walk_pushSlice_102 ?_
                  refine lv_ladd hx hb d_Walk_pushSlice_105 ?_
                  refine lv_lstore (lv' := [(6, .long (i + se9)), (0, .ref wk), (1, .ref nd), (2, .ref sl), (3, .int (nI (szF f nd))), (4, .long (((nI (szF f nd))).toInt64))]) hx hb d_Walk_pushSlice_106 hl (by decide) rfl (fun ls hl => ?_)
                  refine lv_goto (tgt := 79) hx hb d_Walk_pushSlice_108 (by decide) ?_
                  have hia : (i + se9).toInt = i.toInt + se9.toInt := l_add (by omega) (by omega) hsb.1 hsb.2
                  exact ih (i + se9, k9, catR D (([c9.2], 1)), t46, s46, g46, n46) _ _ _ ⟨⟨show 0 ≤ (i + se9).toInt by omega, by show _ < _; rw [hia]; omega⟩, hP46, by show catR _ (atsR ndn (upLs k9 (i + se9).toInt T9 se9.toInt)) = _; rw [hia]; exact hRI2⟩ (show k9 < k by omega) hP hD hS (lv_sub hl [1, 2, 3, 4, 5, 0] rfl)
          · refine lv_aload_n hx hb d_Walk_pushSlice_63 rfl (lv_at hl 4 rfl) ?_
            refine vq_get (D := (dC, dI)) (ci := 7) (v := .long st9) (C := R_Selector) (T := F_Selector) (N := 9) hx hb hts in_Selector hown hK hP (hO.inL (a := sl) (by rw [hsl]; decide)) (pf_L ef22) rfl 4 (by decide) (hts _ z_619) (fun _ h9 => h9) rfl d_Walk_pushSlice_64 ?_
            refine lv_iload_n hx hb d_Walk_pushSlice_67 rfl (lv_at hl 1 rfl) ?_
            refine lv_iconst (v := 0) hx hb d_Walk_pushSlice_68 (by decide) ?_
            refine lv_iload_n hx hb d_Walk_pushSlice_69 rfl (lv_at hl 1 rfl) ?_
            refine vp_callSl (va_Run.run (va_runS (As := [.long st9, .int (nI (szF f nd)), .int 0, .int (nI (szF f nd))]) (rest := []) ⟨hx, hb, hml, hown, hts⟩ (g_Walk_cut l dC dI s.heap st9 (szF f nd) hs 0 (nI (szF f nd))) (va_cwS 4 hts (gt_S (own := R_Walk) (i := 134) (y := y_Walk_cut) i_Walk_cut z_883 z_884 w_5) rfl rfl rfl (by decide +kernel) ⟨Nat.le_of_ble_eq_true rfl, Nat.le_of_ble_eq_true rfl⟩) ⟨mT_blind, fun U hU hW => ⟨rfl, hN.warm hW⟩⟩ rfl rfl hl.1 rfl (lv_room (Nat.le_of_ble_eq_true rfl)) d_Walk_pushSlice_70 ⟨Nat.le_of_ble_eq_true rfl, Nat.le_of_ble_eq_true rfl⟩)) (fun r47 h_r47 => ?_)
            have h_r47 : (r47 : Int64).toInt = clI 0 (kdsN ndn).length (frontI (kdsN ndn).length st9) := by rw [h_r47, nI_toInt (by omega), hsk]; rfl
            refine lv_goto (tgt := 77) hx hb d_Walk_pushSlice_73 (by decide) ?_
            refine lv_lstore (lv' := [(6, .long r47), (4, .long (((nI (szF f nd))).toInt64)), (3, .int (nI (szF f nd))), (0, .ref wk), (1, .ref nd), (2, .ref sl)]) hx hb d_Walk_pushSlice_77 hl (by decide) rfl (fun ls hl => ?_)
            have hse := Int64.lt_iff_toInt_lt.mp (Int64.not_le.mp (fun h => c29 ((lg_cmp_le _ _).mpr h)))
            rw [show (0 : Int64).toInt = 0 from rfl] at hse
            have hk5 : kdN ndn = 5 := (ckd_n hCl.2.1 (Or.inr ⟨by decide, by decide⟩)).mp (hCl.1.symm.trans c5)
            obtain ⟨T9, hT9⟩ : ∃ z : Int, z = ((((nI (szF f nd))).toInt64) : Int64).toInt := ⟨_, rfl⟩
            have hRs : (slcS (if hs9 = 0 then none else some st9) (if ht9 = 0 then none else some sp9) se9 rtn ndn) = atsR ndn (upLs ((kdsN ndn).length + 1) (r47 : Int64).toInt T9 se9.toInt) := by rw [hT9]; exact slcS_up hk5 hse (Or.inr ⟨c60, h_r47⟩) (Or.inl ⟨c36, by rw [i64_nI hs, hsk]⟩)
            have hst : T9 ≤ ((kdsN ndn).length : Int) := by rw [hT9]; rw [i64_nI hs, hsk]; exact Int.le_refl _
            have hi0 : (0 : Int) ≤ (r47 : Int64).toInt := by rw [h_r47]; exact clI_lo
            refine w_loop (D := (dC, dI)) (cl := classes) (A := A) (H0 := s.heap) (nL := 8) 79 (σ := Int64 × Nat × (List NT × Nat) × Nat × Nat × (Nat → Option Nat) × (Nat → Int64)) (fun ⟨i, k, D, t, s9, g1, ν3⟩ => (0 ≤ i.toInt ∧ T9 < (k : Int) + i.toInt) ∧ PU E PL AL S D tp sp g ν t s9 g1 ν3 ∧ catR D (atsR ndn (upLs k i.toInt T9 se9.toInt)) = (slcS (if hs9 = 0 then none else some st9) (if ht9 = 0 then none else some sp9) se9 rtn ndn)) (fun ⟨i, k, D, t, s9, g1, ν3⟩ => k) (fun ⟨i, k, D, t, s9, g1, ν3⟩ => [(wk, .inr (10, [.ref wl, .int (nI t), .int (nI s9), .ref rt])), (wl, .inl (cV, 10000, .inr (.inr (.inr (.inr g1)))))] ++ va_pl L (pf f ν3)) (fun ⟨i, k, D, t, s9, g1, ν3⟩ => [(0, .ref wk), (1, .ref nd), (2, .ref sl), (3, .int (nI (szF f nd))), (4, .long (((nI (szF f nd))).toInt64)), (6, .long i)]) ?_ (r47, (kdsN ndn).length + 1, ([], 0), tp, sp, g, ν) ⟨⟨hi0, by show _ < _; omega⟩, hPU, (catR_l _).trans hRs.symm⟩ hP hD hS (lv_sub hl [3, 4, 5, 2, 1, 0] rfl)
            rintro ⟨i, k, D, t, s9, g1, ν3⟩ H locs ls hI ih hP hD hS hl
            have hP : va_P (dC, dI) classes ([(wk, .inr (10, [.ref wl, .int (nI t), .int (nI s9), .ref rt])), (wl, .inl (cV, 10000, .inr (.inr (.inr (.inr g1)))))] ++ va_pl L (pf f ν3)) H := hP
            have hD : va_D A ([(wk, .inr (10, [.ref wl, .int (nI t), .int (nI s9), .ref rt])), (wl, .inl (cV, 10000, .inr (.inr (.inr (.inr g1)))))] ++ va_pl L (pf f ν3)) := hD
            have hl : lv_has ls 8 [(0, .ref wk), (1, .ref nd), (2, .ref sl), (3, .int (nI (szF f nd))), (4, .long (((nI (szF f nd))).toInt64)), (6, .long i)] := hl
            obtain ⟨⟨hI, hIk⟩, hPI, hRI⟩ := hI
            have hI : 0 ≤ i.toInt := hI
            have hIk : T9 < (k : Int) + i.toInt := hIk
            have hPI : PU E PL AL S D tp sp g ν t s9 g1 ν3 := hPI
            have hRI : catR D (atsR ndn (upLs k i.toInt T9 se9.toInt)) = (slcS (if hs9 = 0 then none else some st9) (if ht9 = 0 then none else some sp9) se9 rtn ndn) := hRI
            have hW_hPI := hPI.wi
            have hA_hPI := hW_hPI.1
            have hB_hPI := hW_hPI.2.1
            have hC_hPI := hPI.spt
            refine lv_lload hx hb d_Walk_pushSlice_79 (lv_at hl 5 rfl) ?_
            refine lv_lload hx hb d_Walk_pushSlice_81 (lv_at hl 4 rfl) ?_
            refine W.lcmp hx hb d_Walk_pushSlice_83 ?_
            refine lv_if_ge (tgt := 111) hx hb d_Walk_pushSlice_84 (by decide) (fun c84 => ?_) (fun c84 => ?_)
            · have hend := Int64.le_iff_toInt_le.mp ((lg_cmp_ge _ _).mp c84)
              have hR0 : atsR ndn (upLs k i.toInt T9 se9.toInt) = ([], 0) := by rw [upL_nil (by omega)]; rfl
              refine lv_goto (tgt := 201) hx hb d_Walk_pushSlice_111 (by decide) ?_
              have hfin : PU E PL AL S ((slcS (if hs9 = 0 then none else some st9) (if ht9 = 0 then none else some sp9) se9 rtn ndn)) tp sp g ν t s9 g1 ν3 := by rw [← show D = (slcS (if hs9 = 0 then none else some st9) (if ht9 = 0 then none else some sp9) se9 rtn ndn) from by rw [← hRI, hR0]; exact (catR_0 _).symm]; exact hPI
              refine w_same (fun hq => ?_)
              refine W.widen (k := 1) (n := 6) (Nat.le_of_ble_eq_true rfl) (Nat.le_of_ble_eq_true rfl) ?_
              refine vx_ret ?_
              exact W.vret hx hb hr (fun t9 ht hW => ⟨⟨(t, s9, g1, ν3), rfl, hfin, ⟨by rw [ht]; exact hP, va_K.moved hW.alike hK, hD⟩, by rw [ht]; exact hq⟩, hS.F ht⟩) hS.2.2 d_Walk_pushSlice_201
            · have hlt := Int64.lt_iff_toInt_lt.mp (Int64.not_le.mp (fun h => c84 ((lg_cmp_ge _ _).mpr h)))
              have hlt : i.toInt < T9 := by rw [hT9]; exact hlt
              obtain ⟨j, hj, ej⟩ := l_idx (x := i) (n := szF f nd) (by omega) (by omega) hs
              have hij : i.toInt.toNat = j := by rw [ej, pk_lT (by omega)]; omega
              obtain ⟨c9, hc9⟩ : ∃ c, (kdsN ndn)[j]? = some c := ⟨_, List.getElem?_eq_getElem (by omega)⟩
              obtain ⟨k9, hk9, hRd⟩ := up_step (st := se9.toInt) hlt hIk (by rw [hij]; exact hc9)
              have hRI1 : catR D (catR ([c9.2], 1) (atsR ndn (upLs k9 (i.toInt + se9.toInt) T9 se9.toInt))) = (slcS (if hs9 = 0 then none else some st9) (if ht9 = 0 then none else some sp9) se9 rtn ndn) := by rw [← hRd]; exact hRI
              refine lv_aload_n hx hb d_Walk_pushSlice_87 rfl (lv_at hl 0 rfl) ?_
              refine lv_aload_n hx hb d_Walk_pushSlice_88 rfl (lv_at hl 1 rfl) ?_
              rcases me21 with _ | b48
              · exact absurd (PO.mem0 ef21) (by omega)
              · refine vq_get (D := (dC, dI)) (ci := 9) (v := .ref b48) (C := R_Value) (T := F_Value) (N := 10) hx hb hts in_Value hown hK hP (hO.inV (isF.v hnd)) (pf_V ef21) rfl 3 (by decide) (hts _ z_328) (fun _ h9 => h9) rfl d_Walk_pushSlice_89 ?_
                refine lv_lload hx hb d_Walk_pushSlice_92 (lv_at hl 5 rfl) ?_
                refine lv_l2i (v := i.toInt32) hx hb d_Walk_pushSlice_94 rfl ?_
                refine W.eq (g2 := F0 m 95 ls [.int (nI j), .ref b48, .ref wk]) (by rw [show (i.toInt32) = (nI j) from (by rw [ej]; exact lN_i j)]) ?_
                obtain ⟨g49, hi49, ef49, hg49⟩ := hO.mem1 ef21 hv21 (isF.n1 hnd)
                have hn49 := hO.szle ef21 hv21
                obtain ⟨me50, hm50, hf50, hnm50⟩ := hg49 j hj
                refine vq_aald hx hb hK hP 1 hi49 (pf_A ef49) rfl (j := j) hj hn49 hm50 d_Walk_pushSlice_95 ?_
                have hPc := hP.part (cx := [(wk, .inr (10, [.ref wl, .int (nI t), .int (nI s9), .ref rt])), (wl, .inl (cV, 10000, .inr (.inr (.inr (.inr g1)))))]) [0, 1] rfl
                have hDc := hD.part (cx := [(wk, .inr (10, [.ref wl, .int (nI t), .int (nI s9), .ref rt])), (wl, .inl (cV, 10000, .inr (.inr (.inr (.inr g1)))))]) [0, 1] (by decide) rfl
                have hFc := va_freeP (cx := [(wk, .inr (10, [.ref wl, .int (nI t), .int (nI s9), .ref rt])), (wl, .inl (cV, 10000, .inr (.inr (.inr (.inr g1)))))]) hD hS hA [0, 1] rfl
                have hKc := hK.sub (tys' := [(cI, .int), (cV, .object "QueryBench$Value")]) [0, 1] rfl
                refine w_same (fun hq0 => ?_)
                refine vx_callv (vx_runV (As := [.ref me50]) (rest := []) ⟨hx, hb, hml, hown, hts⟩ (p_Walk_push l hl9 K dC dI H cI cV E lv L f hO hN1 PL AL S wk wl rt hrt rtn hrn t s9 g1 ν3 hW_hPI (fun ν2 h2 => hDq9 ν2 (hPI.nu.tr h2)) me50 c9.2 (hnn.kid (hDq9 ν3 hPI.nu) hc9 ((memF_a (pf_V ef21) (pf_A ef49)).trans hm50))) (cwV 1 hts (gt_V (own := R_Walk) (C := R_Walk) (i := 38) (y := y_Walk_push) i_Walk_push z_839 z_841 (gt_sel (y := y_Walk_push) (n := 4) (by decide +kernel)) w_5) rfl rfl rfl (by decide +kernel) ⟨Nat.le_of_ble_eq_true rfl, Nat.le_of_ble_eq_true rfl⟩) ⟨ml_blind, va_recv hK hP (ci := 10) (q0 := 0) rfl rfl, fun U hU hW => ⟨rfl, ⟨hU, by rw [hU]; exact hPc, va_K.moved hW.alike hKc, hDc.weaken (fun _ _ _ _ => trivial)⟩, hN.warm hW, by rw [hU]; exact ZX.moved' hW.alike (ZX.narrow' (ZX.kept' hZ hS.2.1) hFc), by rw [hU]; exact CE.call hC hS.2.1 hFc hW, va_AO.moved hW.alike hV⟩⟩ rfl rfl hl.1 rfl (lv_room (Nat.le_of_ble_eq_true rfl)) d_Walk_pushSlice_96 ⟨Nat.le_of_ble_eq_true rfl, Nat.le_of_ble_eq_true rfl⟩) hS (fun q _ h => hFc q h) hFc (fun q _ h => hFc q h) (fun En ce q9 ⟨tx, sx, gx, nx⟩ t9 H1 locs ht hvm hw hB hz1 hk1 hS hce hcv hcl => ?_) (fun ⟨t51, s51, g51, n51⟩ t9 H1 locs ht hvm hw hB hz1 hk1 hS => ?_)
                · obtain ⟨hEn, hP1, hK1, hD1⟩ := hB
                  rw [ht] at hP1
                  obtain ⟨hP, hD⟩ := va_joinP (wr := []) (rx := [(wk, .inr (10, [.ref wl, .int tx, .int sx, .ref rt])), (wl, .inl (cV, 10000, .inr (.inr (.inr (.inr gx)))))]) (pl1 := va_pl L (pf f nx)) hP hD [0, 1] [] rfl rfl (by decide) (by decide) hk1 hFc hP1 hD1
                  generalize H1 = H at hP hS hce ⊢
                  have hP : va_P (dC, dI) classes ([(wk, .inr (10, [.ref wl, .int tx, .int sx, .ref rt])), (wl, .inl (cV, 10000, .inr (.inr (.inr (.inr gx)))))] ++ va_pl L (pf f nx)) H := hP
                  have hD : va_D A ([(wk, .inr (10, [.ref wl, .int tx, .int sx, .ref rt])), (wl, .inl (cV, 10000, .inr (.inr (.inr (.inr gx)))))] ++ va_pl L (pf f nx)) := hD
                  have hno : 10000 < sp + ((slcS (if hs9 = 0 then none else some st9) (if ht9 = 0 then none else some sp9) se9 rtn ndn)).2 := by have hw : 10000 < s9 + (([c9.2], 1)).2 := hw.1; rw [← hRI1]; show 10000 < sp + (D.2 + (1 + _)); omega
                  exact vx_out (fun x hx => (hex x hx).elim) hlocks hce hcv hcl (fun t9 ht2 ha => ⟨(tx, sx, gx, nx), ⟨hno, hPI.nu.tr hw.2⟩, ⟨hEn, by rw [ht2]; exact hP, va_K.moved ha hK, hD⟩, hS.F ht2⟩) hS.2.2 (Nat.le_of_ble_eq_true rfl) (Nat.le_of_ble_eq_true rfl)
                · obtain ⟨⟨hP1, hK1, hD1⟩, hz9⟩ := hB
                  rw [ht] at hP1
                  rw [ht] at hz9
                  refine w_tight (hq0.trans hz9) ?_
                  have hq0 := hq0.trans hz9
                  obtain ⟨hP, hD⟩ := va_joinP (wr := []) (rx := [(wk, .inr (10, [.ref wl, .int (nI t51), .int (nI s51), .ref rt])), (wl, .inl (cV, 10000, .inr (.inr (.inr (.inr g51)))))]) (pl1 := va_pl L (pf f n51)) hP hD [0, 1] [] rfl rfl (by decide) (by decide) hk1 hFc hP1 hD1
                  generalize H1 = H at hP hS hq0 ⊢
                  have hP : va_P (dC, dI) classes ([(wk, .inr (10, [.ref wl, .int (nI t51), .int (nI s51), .ref rt])), (wl, .inl (cV, 10000, .inr (.inr (.inr (.inr g51)))))] ++ va_pl L (pf f n51)) H := hP
                  have hD : va_D A ([(wk, .inr (10, [.ref wl, .int (nI t51), .int (nI s51), .ref rt])), (wl, .inl (cV, 10000, .inr (.inr (.inr (.inr g51)))))] ++ va_pl L (pf f n51)) := hD
                  have hP51 : PU E PL AL S (catR D (([c9.2], 1))) tp sp g ν t51 s51 g51 n51 := hPI.tr hw
                  have hW_hP51 := hP51.wi
                  have hA_hP51 := hW_hP51.1
                  have hB_hP51 := hW_hP51.2.1
                  have hC_hP51 := hP51.spt
                  have hRI2 : catR (catR D (([c9.2], 1))) (atsR ndn (upLs k9 (i.toInt + se9.toInt) T9 se9.toInt)) = (slcS (if hs9 = 0 then none else some st9) (if ht9 = 0 then none else some sp9) se9 rtn ndn) := by rw [catR_a]; exact hRI1
                  refine lv_lload hx hb d_Walk_pushSlice_99 (lv_at hl 5 rfl) ?_
                  refine lv_aload_n hx hb d_Walk_pushSlice_101 rfl (lv_at hl 2 rfl) ?_
                  refine vq_get (D := (dC, dI)) (ci := 7) (v := .long se9) (C := R_Selector) (T := F_Selector) (N := 9) hx hb hts in_Selector hown hK hP (hO.inL (a := sl) (by rw [hsl]; decide)) (pf_L ef22) rfl 6 (by decide) (hts _ z_625) (fun _ h9 => h9) rfl d_Walk_pushSlice_102 ?_
                  refine lv_ladd hx hb d_Walk_pushSlice_105 ?_
                  refine lv_lstore (lv' := [(6, .long (i + se9)), (0, .ref wk), (1, .ref nd), (2, .ref sl), (3, .int (nI (szF f nd))), (4, .long (((nI (szF f nd))).toInt64))]) hx hb d_Walk_pushSlice_106 hl (by decide) rfl (fun ls hl => ?_)
                  refine lv_goto (tgt := 79) hx hb d_Walk_pushSlice_108 (by decide) ?_
                  have hia : (i + se9).toInt = i.toInt + se9.toInt := l_add (by omega) (by omega) hsb.1 hsb.2
                  exact ih (i + se9, k9, catR D (([c9.2], 1)), t51, s51, g51, n51) _ _ _ ⟨⟨show 0 ≤ (i + se9).toInt by omega, by show _ < _; rw [hia]; omega⟩, hP51, by show catR _ (atsR ndn (upLs k9 (i + se9).toInt T9 se9.toInt)) = _; rw [hia]; exact hRI2⟩ (show k9 < k by omega) hP hD hS (lv_sub hl [1, 2, 3, 4, 5, 0] rfl)
        · refine lv_aload_n hx hb d_Walk_pushSlice_39 rfl (lv_at hl 3 rfl) ?_
          refine vq_get (D := (dC, dI)) (ci := 7) (v := .long sp9) (C := R_Selector) (T := F_Selector) (N := 9) hx hb hts in_Selector hown hK hP (hO.inL (a := sl) (by rw [hsl]; decide)) (pf_L ef22) rfl 5 (by decide) (hts _ z_622) (fun _ h9 => h9) rfl d_Walk_pushSlice_40 ?_
          refine lv_iload_n hx hb d_Walk_pushSlice_43 rfl (lv_at hl 0 rfl) ?_
          refine lv_iconst (v := 0) hx hb d_Walk_pushSlice_44 (by decide) ?_
          refine lv_iload_n hx hb d_Walk_pushSlice_45 rfl (lv_at hl 0 rfl) ?_
          refine vp_callSl (va_Run.run (va_runS (As := [.long sp9, .int (nI (szF f nd)), .int 0, .int (nI (szF f nd))]) (rest := []) ⟨hx, hb, hml, hown, hts⟩ (g_Walk_cut l dC dI s.heap sp9 (szF f nd) hs 0 (nI (szF f nd))) (va_cwS 4 hts (gt_S (own := R_Walk) (i := 134) (y := y_Walk_cut) i_Walk_cut z_883 z_884 w_5) rfl rfl rfl (by decide +kernel) ⟨Nat.le_of_ble_eq_true rfl, Nat.le_of_ble_eq_true rfl⟩) ⟨mT_blind, fun U hU hW => ⟨rfl, hN.warm hW⟩⟩ rfl rfl hl.1 rfl (lv_room (Nat.le_of_ble_eq_true rfl)) d_Walk_pushSlice_46 ⟨Nat.le_of_ble_eq_true rfl, Nat.le_of_ble_eq_true rfl⟩)) (fun r52 h_r52 => ?_)
          have h_r52 : (r52 : Int64).toInt = clI 0 (kdsN ndn).length (frontI (kdsN ndn).length sp9) := by rw [h_r52, nI_toInt (by omega), hsk]; rfl
          refine lv_goto (tgt := 54) hx hb d_Walk_pushSlice_49 (by decide) ?_
          refine lv_lstore (lv' := [(4, .long r52), (3, .int (nI (szF f nd))), (0, .ref wk), (1, .ref nd), (2, .ref sl)]) hx hb d_Walk_pushSlice_54 hl (by decide) rfl (fun ls hl => ?_)
          refine lv_aload_n hx hb d_Walk_pushSlice_56 rfl (lv_at hl 4 rfl) ?_
          refine vq_get (D := (dC, dI)) (ci := 7) (v := .int hs9) (C := R_Selector) (T := F_Selector) (N := 9) hx hb hts in_Selector hown hK hP (hO.inL (a := sl) (by rw [hsl]; decide)) (pf_L ef22) rfl 2 (by decide) (hts _ z_616) (fun _ h9 => h9) rfl d_Walk_pushSlice_57 ?_
          refine lv_if_eq (tgt := 76) hx hb d_Walk_pushSlice_60 (by decide) (fun c60 => ?_) (fun c60 => ?_)
          · refine lv_lconst (v := 0) hx hb d_Walk_pushSlice_76 (by decide) ?_
            refine lv_lstore (lv' := [(6, .long 0), (4, .long r52), (3, .int (nI (szF f nd))), (0, .ref wk), (1, .ref nd), (2, .ref sl)]) hx hb d_Walk_pushSlice_77 hl (by decide) rfl (fun ls hl => ?_)
            have hse := Int64.lt_iff_toInt_lt.mp (Int64.not_le.mp (fun h => c29 ((lg_cmp_le _ _).mpr h)))
            rw [show (0 : Int64).toInt = 0 from rfl] at hse
            have hk5 : kdN ndn = 5 := (ckd_n hCl.2.1 (Or.inr ⟨by decide, by decide⟩)).mp (hCl.1.symm.trans c5)
            obtain ⟨T9, hT9⟩ : ∃ z : Int, z = (r52 : Int64).toInt := ⟨_, rfl⟩
            have hRs : (slcS (if hs9 = 0 then none else some st9) (if ht9 = 0 then none else some sp9) se9 rtn ndn) = atsR ndn (upLs ((kdsN ndn).length + 1) (0 : Int64).toInt T9 se9.toInt) := by rw [hT9]; exact slcS_up hk5 hse (Or.inl ⟨c60, rfl⟩) (Or.inr ⟨c36, h_r52⟩)
            have hst : T9 ≤ ((kdsN ndn).length : Int) := by rw [hT9]; rw [h_r52]; exact clI_hi (Int.natCast_nonneg _)
            have hi0 : (0 : Int) ≤ (0 : Int64).toInt := by decide
            refine w_loop (D := (dC, dI)) (cl := classes) (A := A) (H0 := s.heap) (nL := 8) 79 (σ := Int64 × Nat × (List NT × Nat) × Nat × Nat × (Nat → Option Nat) × (Nat → Int64)) (fun ⟨i, k, D, t, s9, g1, ν3⟩ => (0 ≤ i.toInt ∧ T9 < (k : Int) + i.toInt) ∧ PU E PL AL S D tp sp g ν t s9 g1 ν3 ∧ catR D (atsR ndn (upLs k i.toInt T9 se9.toInt)) = (slcS (if hs9 = 0 then none else some st9) (if ht9 = 0 then none else some sp9) se9 rtn ndn)) (fun ⟨i, k, D, t, s9, g1, ν3⟩ => k) (fun ⟨i, k, D, t, s9, g1, ν3⟩ => [(wk, .inr (10, [.ref wl, .int (nI t), .int (nI s9), .ref rt])), (wl, .inl (cV, 10000, .inr (.inr (.inr (.inr g1)))))] ++ va_pl L (pf f ν3)) (fun ⟨i, k, D, t, s9, g1, ν3⟩ => [(0, .ref wk), (1, .ref nd), (2, .ref sl), (3, .int (nI (szF f nd))), (4, .long r52), (6, .long i)]) ?_ (0, (kdsN ndn).length + 1, ([], 0), tp, sp, g, ν) ⟨⟨hi0, by show _ < _; omega⟩, hPU, (catR_l _).trans hRs.symm⟩ hP hD hS (lv_sub hl [3, 4, 5, 2, 1, 0] rfl)
            rintro ⟨i, k, D, t, s9, g1, ν3⟩ H locs ls hI ih hP hD hS hl
            have hP : va_P (dC, dI) classes ([(wk, .inr (10, [.ref wl, .int (nI t), .int (nI s9), .ref rt])), (wl, .inl (cV, 10000, .inr (.inr (.inr (.inr g1)))))] ++ va_pl L (pf f ν3)) H := hP
            have hD : va_D A ([(wk, .inr (10, [.ref wl, .int (nI t), .int (nI s9), .ref rt])), (wl, .inl (cV, 10000, .inr (.inr (.inr (.inr g1)))))] ++ va_pl L (pf f ν3)) := hD
            have hl : lv_has ls 8 [(0, .ref wk), (1, .ref nd), (2, .ref sl), (3, .int (nI (szF f nd))), (4, .long r52), (6, .long i)] := hl
            obtain ⟨⟨hI, hIk⟩, hPI, hRI⟩ := hI
            have hI : 0 ≤ i.toInt := hI
            have hIk : T9 < (k : Int) + i.toInt := hIk
            have hPI : PU E PL AL S D tp sp g ν t s9 g1 ν3 := hPI
            have hRI : catR D (atsR ndn (upLs k i.toInt T9 se9.toInt)) = (slcS (if hs9 = 0 then none else some st9) (if ht9 = 0 then none else some sp9) se9 rtn ndn) := hRI
            have hW_hPI := hPI.wi
            have hA_hPI := hW_hPI.1
            have hB_hPI := hW_hPI.2.1
            have hC_hPI := hPI.spt
            refine lv_lload hx hb d_Walk_pushSlice_79 (lv_at hl 5 rfl) ?_
            refine lv_lload hx hb d_Walk_pushSlice_81 (lv_at hl 4 rfl) ?_
            refine W.lcmp hx hb d_Walk_pushSlice_83 ?_
            refine lv_if_ge (tgt := 111) hx hb d_Walk_pushSlice_84 (by decide) (fun c84 => ?_) (fun c84 => ?_)
            · have hend := Int64.le_iff_toInt_le.mp ((lg_cmp_ge _ _).mp c84)
              have hR0 : atsR ndn (upLs k i.toInt T9 se9.toInt) = ([], 0) := by rw [upL_nil (by omega)]; rfl
              refine lv_goto (tgt := 201) hx hb d_Walk_pushSlice_111 (by decide) ?_
              have hfin : PU E PL AL S ((slcS (if hs9 = 0 then none else some st9) (if ht9 = 0 then none else some sp9) se9 rtn ndn)) tp sp g ν t s9 g1 ν3 := by rw [← show D = (slcS (if hs9 = 0 then none else some st9) (if ht9 = 0 then none else some sp9) se9 rtn ndn) from by rw [← hRI, hR0]; exact (catR_0 _).symm]; exact hPI
              refine w_same (fun hq => ?_)
              refine W.widen (k := 1) (n := 6) (Nat.le_of_ble_eq_true rfl) (Nat.le_of_ble_eq_true rfl) ?_
              refine vx_ret ?_
              exact W.vret hx hb hr (fun t9 ht hW => ⟨⟨(t, s9, g1, ν3), rfl, hfin, ⟨by rw [ht]; exact hP, va_K.moved hW.alike hK, hD⟩, by rw [ht]; exact hq⟩, hS.F ht⟩) hS.2.2 d_Walk_pushSlice_201
            · have hlt := Int64.lt_iff_toInt_lt.mp (Int64.not_le.mp (fun h => c84 ((lg_cmp_ge _ _).mpr h)))
              have hlt : i.toInt < T9 := by rw [hT9]; exact hlt
              obtain ⟨j, hj, ej⟩ := l_idx (x := i) (n := szF f nd) (by omega) (by omega) hs
              have hij : i.toInt.toNat = j := by rw [ej, pk_lT (by omega)]; omega
              obtain ⟨c9, hc9⟩ : ∃ c, (kdsN ndn)[j]? = some c := ⟨_, List.getElem?_eq_getElem (by omega)⟩
              obtain ⟨k9, hk9, hRd⟩ := up_step (st := se9.toInt) hlt hIk (by rw [hij]; exact hc9)
              have hRI1 : catR D (catR ([c9.2], 1) (atsR ndn (upLs k9 (i.toInt + se9.toInt) T9 se9.toInt))) = (slcS (if hs9 = 0 then none else some st9) (if ht9 = 0 then none else some sp9) se9 rtn ndn) := by rw [← hRd]; exact hRI
              refine lv_aload_n hx hb d_Walk_pushSlice_87 rfl (lv_at hl 0 rfl) ?_
              refine lv_aload_n hx hb d_Walk_pushSlice_88 rfl (lv_at hl 1 rfl) ?_
              rcases me21 with _ | b53
              · exact absurd (PO.mem0 ef21) (by omega)
              · refine vq_get (D := (dC, dI)) (ci := 9) (v := .ref b53) (C := R_Value) (T := F_Value) (N := 10) hx hb hts in_Value hown hK hP (hO.inV (isF.v hnd)) (pf_V ef21) rfl 3 (by decide) (hts _ z_328) (fun _ h9 => h9) rfl d_Walk_pushSlice_89 ?_
                refine lv_lload hx hb d_Walk_pushSlice_92 (lv_at hl 5 rfl) ?_
                refine lv_l2i (v := i.toInt32) hx hb d_Walk_pushSlice_94 rfl ?_
                refine W.eq (g2 := F0 m 95 ls [.int (nI j), .ref b53, .ref wk]) (by rw [show (i.toInt32) = (nI j) from (by rw [ej]; exact lN_i j)]) ?_
                obtain ⟨g54, hi54, ef54, hg54⟩ := hO.mem1 ef21 hv21 (isF.n1 hnd)
                have hn54 := hO.szle ef21 hv21
                obtain ⟨me55, hm55, hf55, hnm55⟩ := hg54 j hj
                refine vq_aald hx hb hK hP 1 hi54 (pf_A ef54) rfl (j := j) hj hn54 hm55 d_Walk_pushSlice_95 ?_
                have hPc := hP.part (cx := [(wk, .inr (10, [.ref wl, .int (nI t), .int (nI s9), .ref rt])), (wl, .inl (cV, 10000, .inr (.inr (.inr (.inr g1)))))]) [0, 1] rfl
                have hDc := hD.part (cx := [(wk, .inr (10, [.ref wl, .int (nI t), .int (nI s9), .ref rt])), (wl, .inl (cV, 10000, .inr (.inr (.inr (.inr g1)))))]) [0, 1] (by decide) rfl
                have hFc := va_freeP (cx := [(wk, .inr (10, [.ref wl, .int (nI t), .int (nI s9), .ref rt])), (wl, .inl (cV, 10000, .inr (.inr (.inr (.inr g1)))))]) hD hS hA [0, 1] rfl
                have hKc := hK.sub (tys' := [(cI, .int), (cV, .object "QueryBench$Value")]) [0, 1] rfl
                refine w_same (fun hq0 => ?_)
                refine vx_callv (vx_runV (As := [.ref me55]) (rest := []) ⟨hx, hb, hml, hown, hts⟩ (p_Walk_push l hl9 K dC dI H cI cV E lv L f hO hN1 PL AL S wk wl rt hrt rtn hrn t s9 g1 ν3 hW_hPI (fun ν2 h2 => hDq9 ν2 (hPI.nu.tr h2)) me55 c9.2 (hnn.kid (hDq9 ν3 hPI.nu) hc9 ((memF_a (pf_V ef21) (pf_A ef54)).trans hm55))) (cwV 1 hts (gt_V (own := R_Walk) (C := R_Walk) (i := 38) (y := y_Walk_push) i_Walk_push z_839 z_841 (gt_sel (y := y_Walk_push) (n := 4) (by decide +kernel)) w_5) rfl rfl rfl (by decide +kernel) ⟨Nat.le_of_ble_eq_true rfl, Nat.le_of_ble_eq_true rfl⟩) ⟨ml_blind, va_recv hK hP (ci := 10) (q0 := 0) rfl rfl, fun U hU hW => ⟨rfl, ⟨hU, by rw [hU]; exact hPc, va_K.moved hW.alike hKc, hDc.weaken (fun _ _ _ _ => trivial)⟩, hN.warm hW, by rw [hU]; exact ZX.moved' hW.alike (ZX.narrow' (ZX.kept' hZ hS.2.1) hFc), by rw [hU]; exact CE.call hC hS.2.1 hFc hW, va_AO.moved hW.alike hV⟩⟩ rfl rfl hl.1 rfl (lv_room (Nat.le_of_ble_eq_true rfl)) d_Walk_pushSlice_96 ⟨Nat.le_of_ble_eq_true rfl, Nat.le_of_ble_eq_true rfl⟩) hS (fun q _ h => hFc q h) hFc (fun q _ h => hFc q h) (fun En ce q9 ⟨tx, sx, gx, nx⟩ t9 H1 locs ht hvm hw hB hz1 hk1 hS hce hcv hcl => ?_) (fun ⟨t56, s56, g56, n56⟩ t9 H1 locs ht hvm hw hB hz1 hk1 hS => ?_)
                · obtain ⟨hEn, hP1, hK1, hD1⟩ := hB
                  rw [ht] at hP1
                  obtain ⟨hP, hD⟩ := va_joinP (wr := []) (rx := [(wk, .inr (10, [.ref wl, .int tx, .int sx, .ref rt])), (wl, .inl (cV, 10000, .inr (.inr (.inr (.inr gx)))))]) (pl1 := va_pl L (pf f nx)) hP hD [0, 1] [] rfl rfl (by decide) (by decide) hk1 hFc hP1 hD1
                  generalize H1 = H at hP hS hce ⊢
                  have hP : va_P (dC, dI) classes ([(wk, .inr (10, [.ref wl, .int tx, .int sx, .ref rt])), (wl, .inl (cV, 10000, .inr (.inr (.inr (.inr gx)))))] ++ va_pl L (pf f nx)) H := hP
                  have hD : va_D A ([(wk, .inr (10, [.ref wl, .int tx, .int sx, .ref rt])), (wl, .inl (cV, 10000, .inr (.inr (.inr (.inr gx)))))] ++ va_pl L (pf f nx)) := hD
                  have hno : 10000 < sp + ((slcS (if hs9 = 0 then none else some st9) (if ht9 = 0 then none else some sp9) se9 rtn ndn)).2 := by have hw : 10000 < s9 + (([c9.2], 1)).2 := hw.1; rw [← hRI1]; show 10000 < sp + (D.2 + (1 + _)); omega
                  exact vx_out (fun x hx => (hex x hx).elim) hlocks hce hcv hcl (fun t9 ht2 ha => ⟨(tx, sx, gx, nx), ⟨hno, hPI.nu.tr hw.2⟩, ⟨hEn, by rw [ht2]; exact hP, va_K.moved ha hK, hD⟩, hS.F ht2⟩) hS.2.2 (Nat.le_of_ble_eq_true rfl) (Nat.le_of_ble_eq_true rfl)
                · obtain ⟨⟨hP1, hK1, hD1⟩, hz9⟩ := hB
                  rw [ht] at hP1
                  rw [ht] at hz9
                  refine w_tight (hq0.trans hz9) ?_
                  have hq0 := hq0.trans hz9
                  obtain ⟨hP, hD⟩ := va_joinP (wr := []) (rx := [(wk, .inr (10, [.ref wl, .int (nI t56), .int (nI s56), .ref rt])), (wl, .inl (cV, 10000, .inr (.inr (.inr (.inr g56)))))]) (pl1 := va_pl L (pf f n56)) hP hD [0, 1] [] rfl rfl (by decide) (by decide) hk1 hFc hP1 hD1
                  generalize H1 = H at hP hS hq0 ⊢
                  have hP : va_P (dC, dI) classes ([(wk, .inr (10, [.ref wl, .int (nI t56), .int (nI s56), .ref rt])), (wl, .inl (cV, 10000, .inr (.inr (.inr (.inr g56)))))] ++ va_pl L (pf f n56)) H := hP
                  have hD : va_D A ([(wk, .inr (10, [.ref wl, .int (nI t56), .int (nI s56), .ref rt])), (wl, .inl (cV, 10000, .inr (.inr (.inr (.inr g56)))))] ++ va_pl L (pf f n56)) := hD
                  have hP56 : PU E PL AL S (catR D (([c9.2], 1))) tp sp g ν t56 s56 g56 n56 := hPI.tr hw
                  have hW_hP56 := hP56.wi
                  have hA_hP56 := hW_hP56.1
                  have hB_hP56 := hW_hP56.2.1
                  have hC_hP56 := hP56.spt
                  have hRI2 : catR (catR D (([c9.2], 1))) (atsR ndn (upLs k9 (i.toInt + se9.toInt) T9 se9.toInt)) = (slcS (if hs9 = 0 then none else some st9) (if ht9 = 0 then none else some sp9) se9 rtn ndn) := by rw [catR_a]; exact hRI1
                  refine lv_lload hx hb d_Walk_pushSlice_99 (lv_at hl 5 rfl) ?_
                  refine lv_aload_n hx hb d_Walk_pushSlice_101 rfl (lv_at hl 2 rfl) ?_
                  refine vq_get (D := (dC, dI)) (ci := 7) (v := .long se9) (C := R_Selector) (T := F_Selector) (N := 9) hx hb hts in_Selector hown hK hP (hO.inL (a := sl) (by rw [hsl]; decide)) (pf_L ef22) rfl 6 (by decide) (hts _ z_625) (fun _ h9 => h9) rfl d_Walk_pushSlice_102 ?_
                  refine lv_ladd hx hb d_Walk_pushSlice_105 ?_
                  refine lv_lstore (lv' := [(6, .long (i + se9)), (0, .ref wk), (1, .ref nd), (2, .ref sl), (3, .int (nI (szF f nd))), (4, .long r52)]) hx hb d_Walk_pushSlice_106 hl (by decide) rfl (fun ls hl => ?_)
                  refine lv_goto (tgt := 79) hx hb d_Walk_pushSlice_108 (by decide) ?_
                  have hia : (i + se9).toInt = i.toInt + se9.toInt := l_add (by omega) (by omega) hsb.1 hsb.2
                  exact ih (i + se9, k9, catR D (([c9.2], 1)), t56, s56, g56, n56) _ _ _ ⟨⟨show 0 ≤ (i + se9).toInt by omega, by show _ < _; rw [hia]; omega⟩, hP56, by show catR _ (atsR ndn (upLs k9 (i + se9).toInt T9 se9.toInt)) = _; rw [hia]; exact hRI2⟩ (show k9 < k by omega) hP hD hS (lv_sub hl [1, 2, 3, 4, 5, 0] rfl)
          · refine lv_aload_n hx hb d_Walk_pushSlice_63 rfl (lv_at hl 4 rfl) ?_
            refine vq_get (D := (dC, dI)) (ci := 7) (v := .long st9) (C := R_Selector) (T := F_Selector) (N := 9) hx hb hts in_Selector hown hK hP (hO.inL (a := sl) (by rw [hsl]; decide)) (pf_L ef22) rfl 4 (by decide) (hts _ z_619) (fun _ h9 => h9) rfl d_Walk_pushSlice_64 ?_
            refine lv_iload_n hx hb d_Walk_pushSlice_67 rfl (lv_at hl 1 rfl) ?_
            refine lv_iconst (v := 0) hx hb d_Walk_pushSlice_68 (by decide) ?_
            refine lv_iload_n hx hb d_Walk_pushSlice_69 rfl (lv_at hl 1 rfl) ?_
            refine vp_callSl (va_Run.run (va_runS (As := [.long st9, .int (nI (szF f nd)), .int 0, .int (nI (szF f nd))]) (rest := []) ⟨hx, hb, hml, hown, hts⟩ (g_Walk_cut l dC dI s.heap st9 (szF f nd) hs 0 (nI (szF f nd))) (va_cwS 4 hts (gt_S (own := R_Walk) (i := 134) (y := y_Walk_cut) i_Walk_cut z_883 z_884 w_5) rfl rfl rfl (by decide +kernel) ⟨Nat.le_of_ble_eq_true rfl, Nat.le_of_ble_eq_true rfl⟩) ⟨mT_blind, fun U hU hW => ⟨rfl, hN.warm hW⟩⟩ rfl rfl hl.1 rfl (lv_room (Nat.le_of_ble_eq_true rfl)) d_Walk_pushSlice_70 ⟨Nat.le_of_ble_eq_true rfl, Nat.le_of_ble_eq_true rfl⟩)) (fun r57 h_r57 => ?_)
            have h_r57 : (r57 : Int64).toInt = clI 0 (kdsN ndn).length (frontI (kdsN ndn).length st9) := by rw [h_r57, nI_toInt (by omega), hsk]; rfl
            refine lv_goto (tgt := 77) hx hb d_Walk_pushSlice_73 (by decide) ?_
            refine lv_lstore (lv' := [(6, .long r57), (4, .long r52), (3, .int (nI (szF f nd))), (0, .ref wk), (1, .ref nd), (2, .ref sl)]) hx hb d_Walk_pushSlice_77 hl (by decide) rfl (fun ls hl => ?_)
            have hse := Int64.lt_iff_toInt_lt.mp (Int64.not_le.mp (fun h => c29 ((lg_cmp_le _ _).mpr h)))
            rw [show (0 : Int64).toInt = 0 from rfl] at hse
            have hk5 : kdN ndn = 5 := (ckd_n hCl.2.1 (Or.inr ⟨by decide, by decide⟩)).mp (hCl.1.symm.trans c5)
            obtain ⟨T9, hT9⟩ : ∃ z : Int, z = (r52 : Int64).toInt := ⟨_, rfl⟩
            have hRs : (slcS (if hs9 = 0 then none else some st9) (if ht9 = 0 then none else some sp9) se9 rtn ndn) = atsR ndn (upLs ((kdsN ndn).length + 1) (r57 : Int64).toInt T9 se9.toInt) := by rw [hT9]; exact slcS_up hk5 hse (Or.inr ⟨c60, h_r57⟩) (Or.inr ⟨c36, h_r52⟩)
            have hst : T9 ≤ ((kdsN ndn).length : Int) := by rw [hT9]; rw [h_r52]; exact clI_hi (Int.natCast_nonneg _)
            have hi0 : (0 : Int) ≤ (r57 : Int64).toInt := by rw [h_r57]; exact clI_lo
            refine w_loop (D := (dC, dI)) (cl := classes) (A := A) (H0 := s.heap) (nL := 8) 79 (σ := Int64 × Nat × (List NT × Nat) × Nat × Nat × (Nat → Option Nat) × (Nat → Int64)) (fun ⟨i, k, D, t, s9, g1, ν3⟩ => (0 ≤ i.toInt ∧ T9 < (k : Int) + i.toInt) ∧ PU E PL AL S D tp sp g ν t s9 g1 ν3 ∧ catR D (atsR ndn (upLs k i.toInt T9 se9.toInt)) = (slcS (if hs9 = 0 then none else some st9) (if ht9 = 0 then none else some sp9) se9 rtn ndn)) (fun ⟨i, k, D, t, s9, g1, ν3⟩ => k) (fun ⟨i, k, D, t, s9, g1, ν3⟩ => [(wk, .inr (10, [.ref wl, .int (nI t), .int (nI s9), .ref rt])), (wl, .inl (cV, 10000, .inr (.inr (.inr (.inr g1)))))] ++ va_pl L (pf f ν3)) (fun ⟨i, k, D, t, s9, g1, ν3⟩ => [(0, .ref wk), (1, .ref nd), (2, .ref sl), (3, .int (nI (szF f nd))), (4, .long r52), (6, .long i)]) ?_ (r57, (kdsN ndn).length + 1, ([], 0), tp, sp, g, ν) ⟨⟨hi0, by show _ < _; omega⟩, hPU, (catR_l _).trans hRs.symm⟩ hP hD hS (lv_sub hl [3, 4, 5, 2, 1, 0] rfl)
            rintro ⟨i, k, D, t, s9, g1, ν3⟩ H locs ls hI ih hP hD hS hl
            have hP : va_P (dC, dI) classes ([(wk, .inr (10, [.ref wl, .int (nI t), .int (nI s9), .ref rt])), (wl, .inl (cV, 10000, .inr (.inr (.inr (.inr g1)))))] ++ va_pl L (pf f ν3)) H := hP
            have hD : va_D A ([(wk, .inr (10, [.ref wl, .int (nI t), .int (nI s9), .ref rt])), (wl, .inl (cV, 10000, .inr (.inr (.inr (.inr g1)))))] ++ va_pl L (pf f ν3)) := hD
            have hl : lv_has ls 8 [(0, .ref wk), (1, .ref nd), (2, .ref sl), (3, .int (nI (szF f nd))), (4, .long r52), (6, .long i)] := hl
            obtain ⟨⟨hI, hIk⟩, hPI, hRI⟩ := hI
            have hI : 0 ≤ i.toInt := hI
            have hIk : T9 < (k : Int) + i.toInt := hIk
            have hPI : PU E PL AL S D tp sp g ν t s9 g1 ν3 := hPI
            have hRI : catR D (atsR ndn (upLs k i.toInt T9 se9.toInt)) = (slcS (if hs9 = 0 then none else some st9) (if ht9 = 0 then none else some sp9) se9 rtn ndn) := hRI
            have hW_hPI := hPI.wi
            have hA_hPI := hW_hPI.1
            have hB_hPI := hW_hPI.2.1
            have hC_hPI := hPI.spt
            refine lv_lload hx hb d_Walk_pushSlice_79 (lv_at hl 5 rfl) ?_
            refine lv_lload hx hb d_Walk_pushSlice_81 (lv_at hl 4 rfl) ?_
            refine W.lcmp hx hb d_Walk_pushSlice_83 ?_
            refine lv_if_ge (tgt := 111) hx hb d_Walk_pushSlice_84 (by decide) (fun c84 => ?_) (fun c84 => ?_)
            · have hend := Int64.le_iff_toInt_le.mp ((lg_cmp_ge _ _).mp c84)
              have hR0 : atsR ndn (upLs k i.toInt T9 se9.toInt) = ([], 0) := by rw [upL_nil (by omega)]; rfl
              refine lv_goto (tgt := 201) hx hb d_Walk_pushSlice_111 (by decide) ?_
              have hfin : PU E PL AL S ((slcS (if hs9 = 0 then none else some st9) (if ht9 = 0 then none else some sp9) se9 rtn ndn)) tp sp g ν t s9 g1 ν3 := by rw [← show D = (slcS (if hs9 = 0 then none else some st9) (if ht9 = 0 then none else some sp9) se9 rtn ndn) from by rw [← hRI, hR0]; exact (catR_0 _).symm]; exact hPI
              refine w_same (fun hq => ?_)
              refine W.widen (k := 1) (n := 6) (Nat.le_of_ble_eq_true rfl) (Nat.le_of_ble_eq_true rfl) ?_
              refine vx_ret ?_
              exact W.vret hx hb hr (fun t9 ht hW => ⟨⟨(t, s9, g1, ν3), rfl, hfin, ⟨by rw [ht]; exact hP, va_K.moved hW.alike hK, hD⟩, by rw [ht]; exact hq⟩, hS.F ht⟩) hS.2.2 d_Walk_pushSlice_201
            · have hlt := Int64.lt_iff_toInt_lt.mp (Int64.not_le.mp (fun h => c84 ((lg_cmp_ge _ _).mpr h)))
              have hlt : i.toInt < T9 := by rw [hT9]; exact hlt
              obtain ⟨j, hj, ej⟩ := l_idx (x := i) (n := szF f nd) (by omega) (by omega) hs
              have hij : i.toInt.toNat = j := by rw [ej, pk_lT (by omega)]; omega
              obtain ⟨c9, hc9⟩ : ∃ c, (kdsN ndn)[j]? = some c := ⟨_, List.getElem?_eq_getElem (by omega)⟩
              obtain ⟨k9, hk9, hRd⟩ := up_step (st := se9.toInt) hlt hIk (by rw [hij]; exact hc9)
              have hRI1 : catR D (catR ([c9.2], 1) (atsR ndn (upLs k9 (i.toInt + se9.toInt) T9 se9.toInt))) = (slcS (if hs9 = 0 then none else some st9) (if ht9 = 0 then none else some sp9) se9 rtn ndn) := by rw [← hRd]; exact hRI
              refine lv_aload_n hx hb d_Walk_pushSlice_87 rfl (lv_at hl 0 rfl) ?_
              refine lv_aload_n hx hb d_Walk_pushSlice_88 rfl (lv_at hl 1 rfl) ?_
              rcases me21 with _ | b58
              · exact absurd (PO.mem0 ef21) (by omega)
              · refine vq_get (D := (dC, dI)) (ci := 9) (v := .ref b58) (C := R_Value) (T := F_Value) (N := 10) hx hb hts in_Value hown hK hP (hO.inV (isF.v hnd)) (pf_V ef21) rfl 3 (by decide) (hts _ z_328) (fun _ h9 => h9) rfl d_Walk_pushSlice_89 ?_
                refine lv_lload hx hb d_Walk_pushSlice_92 (lv_at hl 5 rfl) ?_
                refine lv_l2i (v := i.toInt32) hx hb d_Walk_pushSlice_94 rfl ?_
                refine W.eq (g2 := F0 m 95 ls [.int (nI j), .ref b58, .ref wk]) (by rw [show (i.toInt32) = (nI j) from (by rw [ej]; exact lN_i j)]) ?_
                obtain ⟨g59, hi59, ef59, hg59⟩ := hO.mem1 ef21 hv21 (isF.n1 hnd)
                have hn59 := hO.szle ef21 hv21
                obtain ⟨me60, hm60, hf60, hnm60⟩ := hg59 j hj
                refine vq_aald hx hb hK hP 1 hi59 (pf_A ef59) rfl (j := j) hj hn59 hm60 d_Walk_pushSlice_95 ?_
                have hPc := hP.part (cx := [(wk, .inr (10, [.ref wl, .int (nI t), .int (nI s9), .ref rt])), (wl, .inl (cV, 10000, .inr (.inr (.inr (.inr g1)))))]) [0, 1] rfl
                have hDc := hD.part (cx := [(wk, .inr (10, [.ref wl, .int (nI t), .int (nI s9), .ref rt])), (wl, .inl (cV, 10000, .inr (.inr (.inr (.inr g1)))))]) [0, 1] (by decide) rfl
                have hFc := va_freeP (cx := [(wk, .inr (10, [.ref wl, .int (nI t), .int (nI s9), .ref rt])), (wl, .inl (cV, 10000, .inr (.inr (.inr (.inr g1)))))]) hD hS hA [0, 1] rfl
                have hKc := hK.sub (tys' := [(cI, .int), (cV, .object "QueryBench$Value")]) [0, 1] rfl
                refine w_same (fun hq0 => ?_)
                refine vx_callv (vx_runV (As := [.ref me60]) (rest := []) ⟨hx, hb, hml, hown, hts⟩ (p_Walk_push l hl9 K dC dI H cI cV E lv L f hO hN1 PL AL S wk wl rt hrt rtn hrn t s9 g1 ν3 hW_hPI (fun ν2 h2 => hDq9 ν2 (hPI.nu.tr h2)) me60 c9.2 (hnn.kid (hDq9 ν3 hPI.nu) hc9 ((memF_a (pf_V ef21) (pf_A ef59)).trans hm60))) (cwV 1 hts (gt_V (own := R_Walk) (C := R_Walk) (i := 38) (y := y_Walk_push) i_Walk_push z_839 z_841 (gt_sel (y := y_Walk_push) (n := 4) (by decide +kernel)) w_5) rfl rfl rfl (by decide +kernel) ⟨Nat.le_of_ble_eq_true rfl, Nat.le_of_ble_eq_true rfl⟩) ⟨ml_blind, va_recv hK hP (ci := 10) (q0 := 0) rfl rfl, fun U hU hW => ⟨rfl, ⟨hU, by rw [hU]; exact hPc, va_K.moved hW.alike hKc, hDc.weaken (fun _ _ _ _ => trivial)⟩, hN.warm hW, by rw [hU]; exact ZX.moved' hW.alike (ZX.narrow' (ZX.kept' hZ hS.2.1) hFc), by rw [hU]; exact CE.call hC hS.2.1 hFc hW, va_AO.moved hW.alike hV⟩⟩ rfl rfl hl.1 rfl (lv_room (Nat.le_of_ble_eq_true rfl)) d_Walk_pushSlice_96 ⟨Nat.le_of_ble_eq_true rfl, Nat.le_of_ble_eq_true rfl⟩) hS (fun q _ h => hFc q h) hFc (fun q _ h => hFc q h) (fun En ce q9 ⟨tx, sx, gx, nx⟩ t9 H1 locs ht hvm hw hB hz1 hk1 hS hce hcv hcl => ?_) (fun ⟨t61, s61, g61, n61⟩ t9 H1 locs ht hvm hw hB hz1 hk1 hS => ?_)
                · obtain ⟨hEn, hP1, hK1, hD1⟩ := hB
                  rw [ht] at hP1
                  obtain ⟨hP, hD⟩ := va_joinP (wr := []) (rx := [(wk, .inr (10, [.ref wl, .int tx, .int sx, .ref rt])), (wl, .inl (cV, 10000, .inr (.inr (.inr (.inr gx)))))]) (pl1 := va_pl L (pf f nx)) hP hD [0, 1] [] rfl rfl (by decide) (by decide) hk1 hFc hP1 hD1
                  generalize H1 = H at hP hS hce ⊢
                  have hP : va_P (dC, dI) classes ([(wk, .inr (10, [.ref wl, .int tx, .int sx, .ref rt])), (wl, .inl (cV, 10000, .inr (.inr (.inr (.inr gx)))))] ++ va_pl L (pf f nx)) H := hP
                  have hD : va_D A ([(wk, .inr (10, [.ref wl, .int tx, .int sx, .ref rt])), (wl, .inl (cV, 10000, .inr (.inr (.inr (.inr gx)))))] ++ va_pl L (pf f nx)) := hD
                  have hno : 10000 < sp + ((slcS (if hs9 = 0 then none else some st9) (if ht9 = 0 then none else some sp9) se9 rtn ndn)).2 := by have hw : 10000 < s9 + (([c9.2], 1)).2 := hw.1; rw [← hRI1]; show 10000 < sp + (D.2 + (1 + _)); omega
                  exact vx_out (fun x hx => (hex x hx).elim) hlocks hce hcv hcl (fun t9 ht2 ha => ⟨(tx, sx, gx, nx), ⟨hno, hPI.nu.tr hw.2⟩, ⟨hEn, by rw [ht2]; exact hP, va_K.moved ha hK, hD⟩, hS.F ht2⟩) hS.2.2 (Nat.le_of_ble_eq_true rfl) (Nat.le_of_ble_eq_true rfl)
                · obtain ⟨⟨hP1, hK1, hD1⟩, hz9⟩ := hB
                  rw [ht] at hP1
                  rw [ht] at hz9
                  refine w_tight (hq0.trans hz9) ?_
                  have hq0 := hq0.trans hz9
                  obtain ⟨hP, hD⟩ := va_joinP (wr := []) (rx := [(wk, .inr (10, [.ref wl, .int (nI t61), .int (nI s61), .ref rt])), (wl, .inl (cV, 10000, .inr (.inr (.inr (.inr g61)))))]) (pl1 := va_pl L (pf f n61)) hP hD [0, 1] [] rfl rfl (by decide) (by decide) hk1 hFc hP1 hD1
                  generalize H1 = H at hP hS hq0 ⊢
                  have hP : va_P (dC, dI) classes ([(wk, .inr (10, [.ref wl, .int (nI t61), .int (nI s61), .ref rt])), (wl, .inl (cV, 10000, .inr (.inr (.inr (.inr g61)))))] ++ va_pl L (pf f n61)) H := hP
                  have hD : va_D A ([(wk, .inr (10, [.ref wl, .int (nI t61), .int (nI s61), .ref rt])), (wl, .inl (cV, 10000, .inr (.inr (.inr (.inr g61)))))] ++ va_pl L (pf f n61)) := hD
                  have hP61 : PU E PL AL S (catR D (([c9.2], 1))) tp sp g ν t61 s61 g61 n61 := hPI.tr hw
                  have hW_hP61 := hP61.wi
                  have hA_hP61 := hW_hP61.1
                  have hB_hP61 := hW_hP61.2.1
                  have hC_hP61 := hP61.spt
                  have hRI2 : catR (catR D (([c9.2], 1))) (atsR ndn (upLs k9 (i.toInt + se9.toInt) T9 se9.toInt)) = (slcS (if hs9 = 0 then none else some st9) (if ht9 = 0 then none else some sp9) se9 rtn ndn) := by rw [catR_a]; exact hRI1
                  refine lv_lload hx hb d_Walk_pushSlice_99 (lv_at hl 5 rfl) ?_
                  refine lv_aload_n hx hb d_Walk_pushSlice_101 rfl (lv_at hl 2 rfl) ?_
                  refine vq_get (D := (dC, dI)) (ci := 7) (v := .long se9) (C := R_Selector) (T := F_Selector) (N := 9) hx hb hts in_Selector hown hK hP (hO.inL (a := sl) (by rw [hsl]; decide)) (pf_L ef22) rfl 6 (by decide) (hts _ z_625) (fun _ h9 => h9) rfl d_Walk_pushSlice_102 ?_
                  refine lv_ladd hx hb d_Walk_pushSlice_105 ?_
                  refine lv_lstore (lv' := [(6, .long (i + se9)), (0, .ref wk), (1, .ref nd), (2, .ref sl), (3, .int (nI (szF f nd))), (4, .long r52)]) hx hb d_Walk_pushSlice_106 hl (by decide) rfl (fun ls hl => ?_)
                  refine lv_goto (tgt := 79) hx hb d_Walk_pushSlice_108 (by decide) ?_
                  have hia : (i + se9).toInt = i.toInt + se9.toInt := l_add (by omega) (by omega) hsb.1 hsb.2
                  exact ih (i + se9, k9, catR D (([c9.2], 1)), t61, s61, g61, n61) _ _ _ ⟨⟨show 0 ≤ (i + se9).toInt by omega, by show _ < _; rw [hia]; omega⟩, hP61, by show catR _ (atsR ndn (upLs k9 (i + se9).toInt T9 se9.toInt)) = _; rw [hia]; exact hRI2⟩ (show k9 < k by omega) hP hD hS (lv_sub hl [1, 2, 3, 4, 5, 0] rfl)
    · have hRn : (slcS (if hs9 = 0 then none else some st9) (if ht9 = 0 then none else some sp9) se9 rtn ndn) = ([], 0) := slcS_no (Or.inr (lg_cmp_z (fun q => q c14)))
      have hfin : PU E PL AL S ((slcS (if hs9 = 0 then none else some st9) (if ht9 = 0 then none else some sp9) se9 rtn ndn)) tp sp g ν tp sp g ν := by rw [← show ([], 0) = (slcS (if hs9 = 0 then none else some st9) (if ht9 = 0 then none else some sp9) se9 rtn ndn) from hRn.symm]; exact hPU
      refine w_same (fun hq => ?_)
      refine W.widen (k := 1) (n := 6) (Nat.le_of_ble_eq_true rfl) (Nat.le_of_ble_eq_true rfl) ?_
      refine vx_ret ?_
      exact W.vret hx hb hr (fun t9 ht hW => ⟨⟨(tp, sp, g, ν), rfl, hfin, ⟨by rw [ht]; exact hP, va_K.moved hW.alike hK, hD⟩, by rw [ht]; exact hq⟩, hS.F ht⟩) hS.2.2 d_Walk_pushSlice_17
