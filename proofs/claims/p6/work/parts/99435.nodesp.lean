set_option maxHeartbeats 4000000 in
set_option maxRecDepth 100000 in
/-- Walk.step: what it pushes -/
theorem p_Walk_step (l : Launch) (hl9 : l.stackTraces = false) (K : Nat → Nat × Nat) (dC : Nat → ClassId) (dI : Nat → Nat → Nat) (sz : Heap) (cI cV : ClassId) (E lv : Nat → Nat) (L : List Nat) (f : Nat → va_E) (hO : PO cI cV E lv L f) (hN1 : ∀ a, E a ≠ 1) (PL : List NT) (AL : List Nat) (S : Nat → Nat) (wk wl rt : Nat) (hrt : isF E rt) (rtn : NT) (hrn : NCr PL AL rt rtn) (tp sp : Nat) (g : Nat → Option Nat) (ν : Nat → Int64) (hW9 : WI E tp sp g) (hDq9 : ∀ ν2, NUg S ν ν2 → DOC E (pf f ν2) PL AL) (nd : Nat) (ndn : NT) (hnn : NCr PL AL nd ndn) (n : Nat) (HI : 0 < n → HDF l K dC dI cI cV E lv L f PL AL wk wl rt rtn (n - 1)) (sg : Nat) (hsg : E sg = 8) (hls : lv sg ≤ n) (m8 : QT) (hG : GD (pf f ν) S sg m8) : vx_Met l y_Walk_step (k_Walk_step :: gtbl) ({ frames := 59 + 5 * n, cells := 1, slots := 6, locals := 2460 + 200 * n }) (va_Pc [.ref wk, .ref sg, .ref nd] (ml K dC dI ([(wk, .inr (10, [.ref wl, .int (nI tp), .int (nI sp), .ref rt])), (wl, .inl (cV, 10000, .inr (.inr (.inr (.inr g)))))] ++ va_pl L (pf f ν)) [(cI, .int), (cV, .object "QueryBench$Value")] sz)) (va_Qv (fun (u : Nat × Nat × (Nat → Option Nat) × (Nat → Int64)) => PU E PL AL S ((m8 rtn ndn)) tp sp g ν u.1 u.2.1 u.2.2.1 u.2.2.2) (fun u t9 => mz dC dI ([(wk, .inr (10, [.ref wl, .int (nI u.1), .int (nI u.2.1), .ref rt])), (wl, .inl (cV, 10000, .inr (.inr (.inr (.inr u.2.2.1)))))] ++ va_pl L (pf f u.2.2.2)) [(cI, .int), (cV, .object "QueryBench$Value")] (va_A ([(wk, .inr (10, [.ref wl, .int (nI tp), .int (nI sp), .ref rt])), (wl, .inl (cV, 10000, .inr (.inr (.inr (.inr g)))))] ++ va_pl L (pf f ν)) sz.size) t9 ∧ szk sz t9.heap (0) (0)) (va_A ([(wk, .inr (10, [.ref wl, .int (nI tp), .int (nI sp), .ref rt])), (wl, .inl (cV, 10000, .inr (.inr (.inr (.inr g)))))] ++ va_pl L (pf f ν)) sz.size)) (vx_X (fun (u : Int32 × Int32 × (Nat → Option Nat) × (Nat → Int64)) => 10000 < sp + ((m8 rtn ndn)).2 ∧ NUg S ν u.2.2.2) (fun En u t9 => En = IOB ∧ mz dC dI ([(wk, .inr (10, [.ref wl, .int u.1, .int u.2.1, .ref rt])), (wl, .inl (cV, 10000, .inr (.inr (.inr (.inr u.2.2.1)))))] ++ va_pl L (pf f u.2.2.2)) [(cI, .int), (cV, .object "QueryBench$Value")] (va_A ([(wk, .inr (10, [.ref wl, .int (nI tp), .int (nI sp), .ref rt])), (wl, .inl (cV, 10000, .inr (.inr (.inr (.inr g)))))] ++ va_pl L (pf f ν)) sz.size) t9) (va_A ([(wk, .inr (10, [.ref wl, .int (nI tp), .int (nI sp), .ref rt])), (wl, .inl (cV, 10000, .inr (.inr (.inr (.inr g)))))] ++ va_pl L (pf f ν)) sz.size)) (1) (6) (va_A ([(wk, .inr (10, [.ref wl, .int (nI tp), .int (nI sp), .ref rt])), (wl, .inl (cV, 10000, .inr (.inr (.inr (.inr g)))))] ++ va_pl L (pf f ν)) sz.size) := by
  refine vx_ofW (cc := b_Walk_step) (maxL := 5) (ret := none) (by decide) rfl ?_
  intro p e s m args below meth c s₁ B hml hex hv
  obtain ⟨rfl, ⟨hsz, hP, hK, hD0⟩, hN, hZ, hC, hV⟩ := hv
  have hx := B.exec
  have hb := B.bytes
  have hr := B.returns
  have hts0 := atoms_spec (ws := k_Walk_step :: gtbl) B.pre
  have hts := fun w h => hts0 w (List.mem_cons_of_mem _ h)
  have hown : s.vm.findClass R_Walk = some m.cls := findClass_of_methodNamed B.named
  have hlocks := B.notSynchronized
  subst hsz
  have hD := hD0.self (sz := s.heap.size)
  generalize hAe : va_A ([(wk, .inr (10, [.ref wl, .int (nI tp), .int (nI sp), .ref rt])), (wl, .inl (cV, 10000, .inr (.inr (.inr (.inr g)))))] ++ va_pl L (pf f ν)) s.heap.size = A at hD hZ hC ⊢
  have hA : ∀ q : Nat, s.heap.size ≤ q → A q := fun q h => by rw [← hAe]; exact Or.inr h
  have hS : va_S A s.heap s.heap [] := va_S.rf
  have hP : va_P (dC, dI) classes ([(wk, .inr (10, [.ref wl, .int (nI tp), .int (nI sp), .ref rt])), (wl, .inl (cV, 10000, .inr (.inr (.inr (.inr g)))))] ++ va_pl L (pf f ν)) s.heap := hP
  have hl := lv_entry ([.ref wk, .ref sg, .ref nd]) (n := 5) (Nat.le_of_ble_eq_true rfl)
  rw [lg_entry_eq]
  generalize (lg_sl ([.ref wk, .ref sg, .ref nd]) ++ List.replicate (5 - (lg_sl ([.ref wk, .ref sg, .ref nd])).length) Slot.unset).toArray = ls at hl ⊢
  have hl : lv_has ls 5 [(0, .ref wk), (1, .ref sg), (2, .ref nd)] := hl
  have hW0 := hW9
  have hW1 := hW9.1
  have hW2 := hW9.2.1
  have hPU : PU E PL AL S (([], 0)) tp sp g ν tp sp g ν := PU.rf hW9
  have hDν := hDq9 ν NUg.rf
  obtain ⟨hnd, hCu⟩ := hnn.ax hDν
  obtain ⟨ds21, fi21, nx21, ef21, hv21⟩ := hO.seg hsg
  obtain ⟨l9, hCh, hm8⟩ := hG.ax (pf_G ef21)
  refine lv_aload_n hx hb d_Walk_step_0 rfl (lv_at hl 1 rfl) ?_
  refine vq_get (D := (dC, dI)) (ci := 6) (v := .int ds21) (C := R_Segment) (T := F_Segment) (N := 3) hx hb hts in_Segment hown hK hP (hO.inL (a := sg) (by rw [hsg]; decide)) (pf_G ef21) rfl 0 (by decide) (hts _ z_576) (fun _ h9 => h9) rfl d_Walk_step_1 ?_
  refine lv_if_ne (tgt := 14) hx hb d_Walk_step_4 (by decide) (fun c4 => ?_) (fun c4 => ?_)
  · refine lv_aload_n hx hb d_Walk_step_14 rfl (lv_at hl 2 rfl) ?_
    refine lv_astore_n (lv' := [(3, .ref nd), (0, .ref wk), (1, .ref sg), (2, .ref nd)]) hx hb d_Walk_step_15 rfl hl (by decide) rfl (fun ls hl => ?_)
    refine lv_iconst (v := 0) hx hb d_Walk_step_16 (by decide) ?_
    refine lv_istore (lv' := [(4, .int 0), (3, .ref nd), (0, .ref wk), (1, .ref sg), (2, .ref nd)]) hx hb d_Walk_step_17 hl (by decide) rfl (fun ls hl => ?_)
    obtain ⟨kd22, nu22, tx22, me22, pa22, na22, ix22, nm22, no22, sp22, ef22, hv22⟩ := hO.val ((isF.v hnd))
    obtain ⟨k9, hk1, hk2⟩ := hnn
    have hnn : NCr PL AL nd ndn := ⟨k9, hk1, hk2⟩
    have hpl := preN_len hDν hk1 hk2
    have hspn : sp22 = nI (preN ndn).length := by have h := pre_sp hDν hk1 hk2; rw [pf_V ef22] at h; exact Value.int.inj (show Value.int sp22 = _ from h)
    have hR1 : (m8 rtn ndn) = seqW (fun e => ((chsS l9 rtn e).1, 1 + (chsS l9 rtn e).2)) (preN ndn) := by rw [hm8, decide_eq_true c4]; rfl
    refine w_loop (D := (dC, dI)) (cl := classes) (A := A) (H0 := s.heap) (nL := 5) 19 (σ := Option Nat × Nat × (List NT × Nat) × Nat × Nat × (Nat → Option Nat) × (Nat → Int64)) (fun ⟨o, i, D, t, s9, g1, ν3⟩ => i ≤ (preN ndn).length ∧ o = AL[k9 + i]? ∧ PU E PL AL S D tp sp g ν t s9 g1 ν3 ∧ catR D (seqW (fun e => ((chsS l9 rtn e).1, 1 + (chsS l9 rtn e).2)) ((preN ndn).drop i)) = (m8 rtn ndn)) (fun ⟨o, i, D, t, s9, g1, ν3⟩ => (preN ndn).length - i) (fun ⟨o, i, D, t, s9, g1, ν3⟩ => [(wk, .inr (10, [.ref wl, .int (nI t), .int (nI s9), .ref rt])), (wl, .inl (cV, 10000, .inr (.inr (.inr (.inr g1)))))] ++ va_pl L (pf f ν3)) (fun ⟨o, i, D, t, s9, g1, ν3⟩ => [(0, .ref wk), (1, .ref sg), (2, .ref nd), (3, va_rf o), (4, .int (nI i))]) ?_ (some nd, 0, ([], 0), tp, sp, g, ν) ⟨Nat.zero_le _, hk2.symm, hPU, by show catR ([], 0) (seqW (fun e => ((chsS l9 rtn e).1, 1 + (chsS l9 rtn e).2)) (preN ndn)) = _; rw [catR_l]; exact hR1.symm⟩ hP hD hS (lv_sub hl [2, 3, 4, 1, 0] rfl)
    rintro ⟨o, i, D, t, s9, g1, ν3⟩ H locs ls hI ih hP hD hS hl
    have hP : va_P (dC, dI) classes ([(wk, .inr (10, [.ref wl, .int (nI t), .int (nI s9), .ref rt])), (wl, .inl (cV, 10000, .inr (.inr (.inr (.inr g1)))))] ++ va_pl L (pf f ν3)) H := hP
    have hD : va_D A ([(wk, .inr (10, [.ref wl, .int (nI t), .int (nI s9), .ref rt])), (wl, .inl (cV, 10000, .inr (.inr (.inr (.inr g1)))))] ++ va_pl L (pf f ν3)) := hD
    have hl : lv_has ls 5 [(0, .ref wk), (1, .ref sg), (2, .ref nd), (3, va_rf o), (4, .int (nI i))] := hl
    obtain ⟨hI, hIo, hPI, hRI⟩ := hI
    have hI : i ≤ (preN ndn).length := hI
    have hIo : o = AL[k9 + i]? := hIo
    have hPI : PU E PL AL S D tp sp g ν t s9 g1 ν3 := hPI
    have hRI : catR D (seqW (fun e => ((chsS l9 rtn e).1, 1 + (chsS l9 rtn e).2)) ((preN ndn).drop i)) = (m8 rtn ndn) := hRI
    have hW_hPI := hPI.wi
    have hA_hPI := hW_hPI.1
    have hB_hPI := hW_hPI.2.1
    have hC_hPI := hPI.spt
    have hDν := hDq9 ν3 hPI.nu
    rcases o with _ | ob
    · have hl : lv_has ls 5 [(0, .ref wk), (1, .ref sg), (2, .ref nd), (3, .null), (4, .int (nI i))] := hl
      refine lv_iload hx hb d_Walk_step_19 (lv_at hl 4 rfl) ?_
      refine lv_aload_n hx hb d_Walk_step_21 rfl (lv_at hl 2 rfl) ?_
      refine vq_get (D := (dC, dI)) (ci := 9) (v := .int sp22) (C := R_Value) (T := F_Value) (N := 10) hx hb hts in_Value hown hK hP (hO.inV (isF.v hnd)) (pf_V ef22) rfl 9 (by decide) (hts _ z_340) (fun _ h9 => h9) rfl d_Walk_step_22 ?_
      refine lv_icmp_ge (tgt := 53) hx hb d_Walk_step_25 (by decide) (fun c25 => ?_) (fun c25 => ?_)
      · have hie : (preN ndn).length ≤ i := by rw [hspn, nI_leI (by omega) (by omega)] at c25; omega
        have hfin : PU E PL AL S ((m8 rtn ndn)) tp sp g ν t s9 g1 ν3 := by rw [← show D = (m8 rtn ndn) from by rw [← hRI, seqV_end hie]; exact (catR_0 _).symm]; exact hPI
        refine w_same (fun hq => ?_)
        refine W.widen (k := 1) (n := 6) (Nat.le_of_ble_eq_true rfl) (Nat.le_of_ble_eq_true rfl) ?_
        refine vx_ret ?_
        exact W.vret hx hb hr (fun t9 ht hW => ⟨⟨(t, s9, g1, ν3), rfl, hfin, ⟨by rw [ht]; exact hP, va_K.moved hW.alike hK, hD⟩, by rw [ht]; exact hq⟩, hS.F ht⟩) hS.2.2 d_Walk_step_53
      · have hi : i < (preN ndn).length := by rw [hspn, nI_leI (by omega) (by omega)] at c25; omega
        obtain ⟨e9, b9, he9, hPl, hAl, -⟩ := pre_at hDν hk1 hk2 hi
        exact absurd (hIo.trans hAl) (by intro q; cases q)
    · have hl : lv_has ls 5 [(0, .ref wk), (1, .ref sg), (2, .ref nd), (3, .ref ob), (4, .int (nI i))] := hl
      have hob : isF E ob := by obtain ⟨hlt, -⟩ := List.getElem?_eq_some_iff.mp hIo.symm; exact (hDν.2 (k9 + i) _ ob (List.getElem?_eq_getElem (by have := hDν.1.1; omega)) hIo.symm).1
      refine lv_iload hx hb d_Walk_step_19 (lv_at hl 4 rfl) ?_
      refine lv_aload_n hx hb d_Walk_step_21 rfl (lv_at hl 2 rfl) ?_
      refine vq_get (D := (dC, dI)) (ci := 9) (v := .int sp22) (C := R_Value) (T := F_Value) (N := 10) hx hb hts in_Value hown hK hP (hO.inV (isF.v hnd)) (pf_V ef22) rfl 9 (by decide) (hts _ z_340) (fun _ h9 => h9) rfl d_Walk_step_22 ?_
      refine lv_icmp_ge (tgt := 53) hx hb d_Walk_step_25 (by decide) (fun c25 => ?_) (fun c25 => ?_)
      · have hie : (preN ndn).length ≤ i := by rw [hspn, nI_leI (by omega) (by omega)] at c25; omega
        have hfin : PU E PL AL S ((m8 rtn ndn)) tp sp g ν t s9 g1 ν3 := by rw [← show D = (m8 rtn ndn) from by rw [← hRI, seqV_end hie]; exact (catR_0 _).symm]; exact hPI
        refine w_same (fun hq => ?_)
        refine W.widen (k := 1) (n := 6) (Nat.le_of_ble_eq_true rfl) (Nat.le_of_ble_eq_true rfl) ?_
        refine vx_ret ?_
        exact W.vret hx hb hr (fun t9 ht hW => ⟨⟨(t, s9, g1, ν3), rfl, hfin, ⟨by rw [ht]; exact hP, va_K.moved hW.alike hK, hD⟩, by rw [ht]; exact hq⟩, hS.F ht⟩) hS.2.2 d_Walk_step_53
      · have hi : i < (preN ndn).length := by rw [hspn, nI_leI (by omega) (by omega)] at c25; omega
        obtain ⟨e9, b9, he9, hPl, hAl, -⟩ := pre_at hDν hk1 hk2 hi
        have hRd : seqW (fun e => ((chsS l9 rtn e).1, 1 + (chsS l9 rtn e).2)) ((preN ndn).drop i) = catR ([], 1) (catR (chsS l9 rtn e9) (seqW (fun e => ((chsS l9 rtn e).1, 1 + (chsS l9 rtn e).2)) ((preN ndn).drop (i + 1)))) := by rw [seqV_drop he9]; refine Prod.ext rfl ?_; show 1 + (chsS l9 rtn e9).2 + _ = 1 + ((chsS l9 rtn e9).2 + _); omega
        have hRI1 : catR D (catR ([], 1) (catR (chsS l9 rtn e9) (seqW (fun e => ((chsS l9 rtn e).1, 1 + (chsS l9 rtn e).2)) ((preN ndn).drop (i + 1))))) = (m8 rtn ndn) := by rw [← hRd]; exact hRI
        refine lv_aload_n hx hb d_Walk_step_28 rfl (lv_at hl 3 rfl) ?_
        refine lv_ifnull hx hb d_Walk_step_29 ?_
        refine lv_aload_n hx hb d_Walk_step_32 rfl (lv_at hl 0 rfl) ?_
        have hPc := hP.sub (ws' := [(wk, .inr (10, [.ref wl, .int (nI t), .int (nI s9), .ref rt]))]) [0] rfl
        have hDc := hD.sub (ws' := [(wk, .inr (10, [.ref wl, .int (nI t), .int (nI s9), .ref rt]))]) [0] (by decide) rfl
        have hFc := va_free (wc := [(wk, .inr (10, [.ref wl, .int (nI t), .int (nI s9), .ref rt]))]) hD hS hA [0] rfl
        have hKc := hK.sub (tys' := []) [] rfl
        refine w_same (fun hq0 => ?_)
        refine vx_callv (vx_runV (As := []) (rest := []) ⟨hx, hb, hml, hown, hts⟩ (c_Walk_spend l hl9 dC dI wk H (.ref wl) (.ref rt) (nI t) s9 (by omega)) (cwV 0 hts (gt_V (own := R_Walk) (C := R_Walk) (i := 58) (y := y_Walk_spend) i_Walk_spend z_843 z_845 (gt_sel (y := y_Walk_spend) (n := 4) (by decide +kernel)) w_5) rfl rfl rfl (by decide +kernel) ⟨by show 8 + 1 ≤ 59 + 5 * n; omega, by show 8 + (1 + 11) + (110) ≤ 2460 + 200 * n; omega⟩) ⟨mx_blind, va_recv hK hP (ci := 10) (q0 := 0) rfl rfl, fun U hU hW => ⟨rfl, ⟨hU, by rw [hU]; exact hPc, va_K.moved hW.alike hKc, hDc.weaken (fun _ _ _ _ => trivial)⟩, hN.warm hW, by rw [hU]; exact ZX.moved' hW.alike (ZX.narrow' (ZX.kept' hZ hS.2.1) hFc)⟩⟩ rfl rfl hl.1 rfl (lv_room (Nat.le_of_ble_eq_true rfl)) d_Walk_step_33 ⟨Nat.le_of_ble_eq_true rfl, Nat.le_of_ble_eq_true rfl⟩) hS (fun q _ h => hFc q h) hFc (fun q _ h => hFc q h) (fun En ce q9 _u t9 H1 locs ht hvm hw hB hz1 hk1 hS hce hcv hcl => ?_) (fun _u t9 H1 locs ht hvm hw hB hz1 hk1 hS => ?_)
        · obtain ⟨hEn, hP1, hK1, hD1⟩ := hB
          rw [ht] at hP1
          obtain ⟨hP, hD⟩ := va_joinQ (wr := [(wl, .inl (cV, 10000, .inr (.inr (.inr (.inr g1)))))]) (w1 := [(wk, .inr (10, [.ref wl, .int (nI t), .int (nI s9), .ref rt]))]) hP hD [0] [1] rfl rfl (by decide) (by decide) hk1 hFc hP1 hD1
          generalize H1 = H at hP hS hce ⊢
          have hP : va_P (dC, dI) classes ([(wl, .inl (cV, 10000, .inr (.inr (.inr (.inr g1))))), (wk, .inr (10, [.ref wl, .int (nI t), .int (nI s9), .ref rt]))] ++ va_pl L (pf f ν3)) H := hP
          have hD : va_D A ([(wl, .inl (cV, 10000, .inr (.inr (.inr (.inr g1))))), (wk, .inr (10, [.ref wl, .int (nI t), .int (nI s9), .ref rt]))] ++ va_pl L (pf f ν3)) := hD
          have hP := hP.part (cx := [(wk, .inr (10, [.ref wl, .int (nI t), .int (nI s9), .ref rt])), (wl, .inl (cV, 10000, .inr (.inr (.inr (.inr g1)))))]) [1, 0] rfl
          have hD := hD.part (cx := [(wk, .inr (10, [.ref wl, .int (nI t), .int (nI s9), .ref rt])), (wl, .inl (cV, 10000, .inr (.inr (.inr (.inr g1)))))]) [1, 0] (by decide) rfl
          have hno : 10000 < sp + ((m8 rtn ndn)).2 := by have hw : ¬ s9 < 10000 := hw; rw [← hRI1]; show 10000 < sp + (D.2 + (1 + ((chsS l9 rtn e9).2 + _))); omega
          exact vx_out (fun x hx => (hex x hx).elim) hlocks hce hcv hcl (fun t9 ht2 ha => ⟨(nI t, nI s9, g1, ν3), ⟨hno, hPI.nu⟩, ⟨hEn, by rw [ht2]; exact hP, va_K.moved ha hK, hD⟩, hS.F ht2⟩) hS.2.2 (Nat.le_of_ble_eq_true rfl) (Nat.le_of_ble_eq_true rfl)
        · obtain ⟨⟨hP1, hK1, hD1⟩, hz9⟩ := hB
          rw [ht] at hP1
          rw [ht] at hz9
          refine w_tight (hq0.trans hz9) ?_
          have hq0 := hq0.trans hz9
          obtain ⟨hP, hD⟩ := va_joinQ (wr := [(wl, .inl (cV, 10000, .inr (.inr (.inr (.inr g1)))))]) (w1 := [(wk, .inr (10, [.ref wl, .int (nI t), .int (nI (s9 + 1)), .ref rt]))]) hP hD [0] [1] rfl rfl (by decide) (by decide) hk1 hFc hP1 hD1
          generalize H1 = H at hP hS hq0 ⊢
          have hP : va_P (dC, dI) classes ([(wl, .inl (cV, 10000, .inr (.inr (.inr (.inr g1))))), (wk, .inr (10, [.ref wl, .int (nI t), .int (nI (s9 + 1)), .ref rt]))] ++ va_pl L (pf f ν3)) H := hP
          have hD : va_D A ([(wl, .inl (cV, 10000, .inr (.inr (.inr (.inr g1))))), (wk, .inr (10, [.ref wl, .int (nI t), .int (nI (s9 + 1)), .ref rt]))] ++ va_pl L (pf f ν3)) := hD
          have hP := hP.part (cx := [(wk, .inr (10, [.ref wl, .int (nI t), .int (nI (s9 + 1)), .ref rt])), (wl, .inl (cV, 10000, .inr (.inr (.inr (.inr g1)))))]) [1, 0] rfl
          have hD := hD.part (cx := [(wk, .inr (10, [.ref wl, .int (nI t), .int (nI (s9 + 1)), .ref rt])), (wl, .inl (cV, 10000, .inr (.inr (.inr (.inr g1)))))]) [1, 0] (by decide) rfl
          have hsp23 : s9 < 10000 := hw
          have hP23 := hPI.work hsp23
          have hW_hP23 := hP23.wi
          have hA_hP23 := hW_hP23.1
          have hB_hP23 := hW_hP23.2.1
          have hC_hP23 := hP23.spt
          refine lv_aload_n hx hb d_Walk_step_36 rfl (lv_at hl 0 rfl) ?_
          refine lv_aload_n hx hb d_Walk_step_37 rfl (lv_at hl 1 rfl) ?_
          refine lv_aload_n hx hb d_Walk_step_38 rfl (lv_at hl 3 rfl) ?_
          have hPc := hP.part (cx := [(wk, .inr (10, [.ref wl, .int (nI t), .int (nI (s9 + 1)), .ref rt])), (wl, .inl (cV, 10000, .inr (.inr (.inr (.inr g1)))))]) [0, 1] rfl
          have hDc := hD.part (cx := [(wk, .inr (10, [.ref wl, .int (nI t), .int (nI (s9 + 1)), .ref rt])), (wl, .inl (cV, 10000, .inr (.inr (.inr (.inr g1)))))]) [0, 1] (by decide) rfl
          have hFc := va_freeP (cx := [(wk, .inr (10, [.ref wl, .int (nI t), .int (nI (s9 + 1)), .ref rt])), (wl, .inl (cV, 10000, .inr (.inr (.inr (.inr g1)))))]) hD hS hA [0, 1] rfl
          have hKc := hK.sub (tys' := [(cI, .int), (cV, .object "QueryBench$Value")]) [0, 1] rfl
          refine w_same (fun hq0 => ?_)
          refine vx_callv (vx_runV (As := [.ref sg, .ref ob]) (rest := []) ⟨hx, hb, hml, hown, hts⟩ (p_Walk_choose l hl9 K dC dI H cI cV E lv L f hO hN1 PL AL S wk wl rt hrt rtn hrn t (s9 + 1) g1 ν3 hW_hP23 (fun ν2 h2 => hDq9 ν2 (hP23.nu.tr h2)) ob e9 ⟨k9 + i, hPl, hIo.symm⟩ n HI sg hsg hls l9 (by rw [show refE 1 (pf f ν3 sg) = fi21 by rw [pf_G ef21]; exact refE_rf rfl]; exact CHL.nu hCh hP23.nu)) (cwV 2 hts (gt_V (own := R_Walk) (C := R_Walk) (i := 64) (y := y_Walk_choose) i_Walk_choose z_853 z_855 (gt_sel (y := y_Walk_choose) (n := 4) (by decide +kernel)) w_5) rfl rfl rfl (by decide +kernel) ⟨by show 58 + 5 * n + 1 ≤ 59 + 5 * n; omega, by show 8 + (4 + 11) + (2420 + 200 * n) ≤ 2460 + 200 * n; omega⟩) ⟨ml_blind, va_recv hK hP (ci := 10) (q0 := 0) rfl rfl, fun U hU hW => ⟨rfl, ⟨hU, by rw [hU]; exact hPc, va_K.moved hW.alike hKc, hDc.weaken (fun _ _ _ _ => trivial)⟩, hN.warm hW, by rw [hU]; exact ZX.moved' hW.alike (ZX.narrow' (ZX.kept' hZ hS.2.1) hFc), by rw [hU]; exact CE.call hC hS.2.1 hFc hW, va_AO.moved hW.alike hV⟩⟩ rfl rfl hl.1 rfl (lv_room (Nat.le_of_ble_eq_true rfl)) d_Walk_step_39 ⟨Nat.le_of_ble_eq_true rfl, Nat.le_of_ble_eq_true rfl⟩) hS (fun q _ h => hFc q h) hFc (fun q _ h => hFc q h) (fun En ce q9 ⟨tx, sx, gx, nx⟩ t9 H1 locs ht hvm hw hB hz1 hk1 hS hce hcv hcl => ?_) (fun ⟨t24, s24, g24, n24⟩ t9 H1 locs ht hvm hw hB hz1 hk1 hS => ?_)
          · obtain ⟨hEn, hP1, hK1, hD1⟩ := hB
            rw [ht] at hP1
            obtain ⟨hP, hD⟩ := va_joinP (wr := []) (rx := [(wk, .inr (10, [.ref wl, .int tx, .int sx, .ref rt])), (wl, .inl (cV, 10000, .inr (.inr (.inr (.inr gx)))))]) (pl1 := va_pl L (pf f nx)) hP hD [0, 1] [] rfl rfl (by decide) (by decide) hk1 hFc hP1 hD1
            generalize H1 = H at hP hS hce ⊢
            have hP : va_P (dC, dI) classes ([(wk, .inr (10, [.ref wl, .int tx, .int sx, .ref rt])), (wl, .inl (cV, 10000, .inr (.inr (.inr (.inr gx)))))] ++ va_pl L (pf f nx)) H := hP
            have hD : va_D A ([(wk, .inr (10, [.ref wl, .int tx, .int sx, .ref rt])), (wl, .inl (cV, 10000, .inr (.inr (.inr (.inr gx)))))] ++ va_pl L (pf f nx)) := hD
            have hno : 10000 < sp + ((m8 rtn ndn)).2 := by have hw : 10000 < (s9 + 1) + (chsS l9 rtn e9).2 := hw.1; rw [← hRI1]; show 10000 < sp + (D.2 + (1 + ((chsS l9 rtn e9).2 + _))); omega
            exact vx_out (fun x hx => (hex x hx).elim) hlocks hce hcv hcl (fun t9 ht2 ha => ⟨(tx, sx, gx, nx), ⟨hno, hP23.nu.tr hw.2⟩, ⟨hEn, by rw [ht2]; exact hP, va_K.moved ha hK, hD⟩, hS.F ht2⟩) hS.2.2 (Nat.le_of_ble_eq_true rfl) (Nat.le_of_ble_eq_true rfl)
          · obtain ⟨⟨hP1, hK1, hD1⟩, hz9⟩ := hB
            rw [ht] at hP1
            rw [ht] at hz9
            refine w_tight (hq0.trans hz9) ?_
            have hq0 := hq0.trans hz9
            obtain ⟨hP, hD⟩ := va_joinP (wr := []) (rx := [(wk, .inr (10, [.ref wl, .int (nI t24), .int (nI s24), .ref rt])), (wl, .inl (cV, 10000, .inr (.inr (.inr (.inr g24)))))]) (pl1 := va_pl L (pf f n24)) hP hD [0, 1] [] rfl rfl (by decide) (by decide) hk1 hFc hP1 hD1
            generalize H1 = H at hP hS hq0 ⊢
            have hP : va_P (dC, dI) classes ([(wk, .inr (10, [.ref wl, .int (nI t24), .int (nI s24), .ref rt])), (wl, .inl (cV, 10000, .inr (.inr (.inr (.inr g24)))))] ++ va_pl L (pf f n24)) H := hP
            have hD : va_D A ([(wk, .inr (10, [.ref wl, .int (nI t24), .int (nI s24), .ref rt])), (wl, .inl (cV, 10000, .inr (.inr (.inr (.inr g24)))))] ++ va_pl L (pf f n24)) := hD
            have hq24 : PU E PL AL S (chsS l9 rtn e9) t (s9 + 1) g1 ν3 t24 s24 g24 n24 := hw
            have h024 := hq24.nu
            have hP24 : PU E PL AL S (catR (catR D ([], 1)) (chsS l9 rtn e9)) tp sp g ν t24 s24 g24 n24 := hP23.tr hq24
            have hW_hP24 := hP24.wi
            have hA_hP24 := hW_hP24.1
            have hB_hP24 := hW_hP24.2.1
            have hC_hP24 := hP24.spt
            have hRI2 : catR (catR (catR D ([], 1)) (chsS l9 rtn e9)) (seqW (fun e => ((chsS l9 rtn e).1, 1 + (chsS l9 rtn e).2)) ((preN ndn).drop (i + 1))) = (m8 rtn ndn) := by rw [← hRI1]; simp only [catR_a]
            refine lv_aload_n hx hb d_Walk_step_42 rfl (lv_at hl 3 rfl) ?_
            obtain ⟨kd25, nu25, tx25, me25, pa25, na25, ix25, nm25, no25, sp25, ef25, hv25⟩ := hO.val ((isF.v hob))
            rcases no25 with _ | b26
            · refine vq_get (D := (dC, dI)) (ci := 9) (v := .null) (C := R_Value) (T := F_Value) (N := 10) hx hb hts in_Value hown hK hP (hO.inV (isF.v hob)) (pf_V ef25) rfl 8 (by decide) (hts _ z_338) (fun _ h9 => h9) rfl d_Walk_step_43 ?_
              refine lv_astore_nN (lv' := [(3, .null), (0, .ref wk), (1, .ref sg), (2, .ref nd), (4, .int (nI i))]) hx hb d_Walk_step_46 rfl hl (by decide) rfl (fun ls hl => ?_)
              refine lv_iinc (v := nI (i + 1)) (lv' := [(4, .int (nI (i + 1))), (3, .null), (0, .ref wk), (1, .ref sg), (2, .ref nd)]) hx hb d_Walk_step_47 hl (k := 4) rfl (nI_1 _) (by decide) rfl (fun ls hl => ?_)
              refine lv_goto (tgt := 19) hx hb d_Walk_step_50 (by decide) ?_
              exact ih (none, i + 1, catR (catR D ([], 1)) (chsS l9 rtn e9), t24, s24, g24, n24) _ _ _ ⟨show i + 1 ≤ (preN ndn).length by omega, by show none = AL[k9 + (i + 1)]?; rw [← Nat.add_assoc, ← pre_nx hDν hPl hIo.symm, pf_V ef25]; rfl, hP24, hRI2⟩ (by show (preN ndn).length - (i + 1) < (preN ndn).length - i; omega) hP hD hS (lv_sub hl [2, 3, 4, 1, 0] rfl)
            · refine vq_get (D := (dC, dI)) (ci := 9) (v := .ref b26) (C := R_Value) (T := F_Value) (N := 10) hx hb hts in_Value hown hK hP (hO.inV (isF.v hob)) (pf_V ef25) rfl 8 (by decide) (hts _ z_338) (fun _ h9 => h9) rfl d_Walk_step_43 ?_
              refine lv_astore_n (lv' := [(3, .ref b26), (0, .ref wk), (1, .ref sg), (2, .ref nd), (4, .int (nI i))]) hx hb d_Walk_step_46 rfl hl (by decide) rfl (fun ls hl => ?_)
              refine lv_iinc (v := nI (i + 1)) (lv' := [(4, .int (nI (i + 1))), (3, .ref b26), (0, .ref wk), (1, .ref sg), (2, .ref nd)]) hx hb d_Walk_step_47 hl (k := 4) rfl (nI_1 _) (by decide) rfl (fun ls hl => ?_)
              refine lv_goto (tgt := 19) hx hb d_Walk_step_50 (by decide) ?_
              exact ih ((some b26), i + 1, catR (catR D ([], 1)) (chsS l9 rtn e9), t24, s24, g24, n24) _ _ _ ⟨show i + 1 ≤ (preN ndn).length by omega, by show (some b26) = AL[k9 + (i + 1)]?; rw [← Nat.add_assoc, ← pre_nx hDν hPl hIo.symm, pf_V ef25]; rfl, hP24, hRI2⟩ (by show (preN ndn).length - (i + 1) < (preN ndn).length - i; omega) hP hD hS (lv_sub hl [2, 3, 4, 1, 0] rfl)
  · refine lv_aload_n hx hb d_Walk_step_7 rfl (lv_at hl 0 rfl) ?_
    refine lv_aload_n hx hb d_Walk_step_8 rfl (lv_at hl 1 rfl) ?_
    refine lv_aload_n hx hb d_Walk_step_9 rfl (lv_at hl 2 rfl) ?_
    have hRn : (m8 rtn ndn) = chsS l9 rtn ndn := by rw [hm8, decide_eq_false (fun q => q c4)]; rfl
    have hPc := hP.part (cx := [(wk, .inr (10, [.ref wl, .int (nI tp), .int (nI sp), .ref rt])), (wl, .inl (cV, 10000, .inr (.inr (.inr (.inr g)))))]) [0, 1] rfl
    have hDc := hD.part (cx := [(wk, .inr (10, [.ref wl, .int (nI tp), .int (nI sp), .ref rt])), (wl, .inl (cV, 10000, .inr (.inr (.inr (.inr g)))))]) [0, 1] (by decide) rfl
    have hFc := va_freeP (cx := [(wk, .inr (10, [.ref wl, .int (nI tp), .int (nI sp), .ref rt])), (wl, .inl (cV, 10000, .inr (.inr (.inr (.inr g)))))]) hD hS hA [0, 1] rfl
    have hKc := hK.sub (tys' := [(cI, .int), (cV, .object "QueryBench$Value")]) [0, 1] rfl
    refine w_same (fun hq0 => ?_)
    refine vx_callv (vx_runV (As := [.ref sg, .ref nd]) (rest := []) ⟨hx, hb, hml, hown, hts⟩ (p_Walk_choose l hl9 K dC dI s.heap cI cV E lv L f hO hN1 PL AL S wk wl rt hrt rtn hrn tp sp g ν hW9 (fun ν2 h2 => hDq9 ν2 (hPU.nu.tr h2)) nd ndn hnn n HI sg hsg hls l9 (by rw [show refE 1 (pf f ν sg) = fi21 by rw [pf_G ef21]; exact refE_rf rfl]; exact CHL.nu hCh hPU.nu)) (cwV 2 hts (gt_V (own := R_Walk) (C := R_Walk) (i := 64) (y := y_Walk_choose) i_Walk_choose z_853 z_855 (gt_sel (y := y_Walk_choose) (n := 4) (by decide +kernel)) w_5) rfl rfl rfl (by decide +kernel) ⟨by show 58 + 5 * n + 1 ≤ 59 + 5 * n; omega, by show 8 + (4 + 11) + (2420 + 200 * n) ≤ 2460 + 200 * n; omega⟩) ⟨ml_blind, va_recv hK hP (ci := 10) (q0 := 0) rfl rfl, fun U hU hW => ⟨rfl, ⟨hU, by rw [hU]; exact hPc, va_K.moved hW.alike hKc, hDc.weaken (fun _ _ _ _ => trivial)⟩, hN.warm hW, by rw [hU]; exact ZX.moved' hW.alike (ZX.narrow' (ZX.kept' hZ hS.2.1) hFc), by rw [hU]; exact CE.call hC hS.2.1 hFc hW, va_AO.moved hW.alike hV⟩⟩ rfl rfl hl.1 rfl (lv_room (Nat.le_of_ble_eq_true rfl)) d_Walk_step_10 ⟨Nat.le_of_ble_eq_true rfl, Nat.le_of_ble_eq_true rfl⟩) hS (fun q _ h => hFc q h) hFc (fun q _ h => hFc q h) (fun En ce q9 ⟨tx, sx, gx, nx⟩ t9 H1 locs ht hvm hw hB hz1 hk1 hS hce hcv hcl => ?_) (fun ⟨t27, s27, g27, n27⟩ t9 H1 locs ht hvm hw hB hz1 hk1 hS => ?_)
    · obtain ⟨hEn, hP1, hK1, hD1⟩ := hB
      rw [ht] at hP1
      obtain ⟨hP, hD⟩ := va_joinP (wr := []) (rx := [(wk, .inr (10, [.ref wl, .int tx, .int sx, .ref rt])), (wl, .inl (cV, 10000, .inr (.inr (.inr (.inr gx)))))]) (pl1 := va_pl L (pf f nx)) hP hD [0, 1] [] rfl rfl (by decide) (by decide) hk1 hFc hP1 hD1
      generalize H1 = H at hP hS hce ⊢
      have hP : va_P (dC, dI) classes ([(wk, .inr (10, [.ref wl, .int tx, .int sx, .ref rt])), (wl, .inl (cV, 10000, .inr (.inr (.inr (.inr gx)))))] ++ va_pl L (pf f nx)) H := hP
      have hD : va_D A ([(wk, .inr (10, [.ref wl, .int tx, .int sx, .ref rt])), (wl, .inl (cV, 10000, .inr (.inr (.inr (.inr gx)))))] ++ va_pl L (pf f nx)) := hD
      have hno : 10000 < sp + ((m8 rtn ndn)).2 := by have hw : 10000 < sp + (chsS l9 rtn ndn).2 := hw.1; rw [hRn]; exact hw
      exact vx_out (fun x hx => (hex x hx).elim) hlocks hce hcv hcl (fun t9 ht2 ha => ⟨(tx, sx, gx, nx), ⟨hno, hPU.nu.tr hw.2⟩, ⟨hEn, by rw [ht2]; exact hP, va_K.moved ha hK, hD⟩, hS.F ht2⟩) hS.2.2 (Nat.le_of_ble_eq_true rfl) (Nat.le_of_ble_eq_true rfl)
    · obtain ⟨⟨hP1, hK1, hD1⟩, hz9⟩ := hB
      rw [ht] at hP1
      rw [ht] at hz9
      refine w_tight (hq0.trans hz9) ?_
      have hq0 := hq0.trans hz9
      obtain ⟨hP, hD⟩ := va_joinP (wr := []) (rx := [(wk, .inr (10, [.ref wl, .int (nI t27), .int (nI s27), .ref rt])), (wl, .inl (cV, 10000, .inr (.inr (.inr (.inr g27)))))]) (pl1 := va_pl L (pf f n27)) hP hD [0, 1] [] rfl rfl (by decide) (by decide) hk1 hFc hP1 hD1
      generalize H1 = H at hP hS hq0 ⊢
      have hP : va_P (dC, dI) classes ([(wk, .inr (10, [.ref wl, .int (nI t27), .int (nI s27), .ref rt])), (wl, .inl (cV, 10000, .inr (.inr (.inr (.inr g27)))))] ++ va_pl L (pf f n27)) H := hP
      have hD : va_D A ([(wk, .inr (10, [.ref wl, .int (nI t27), .int (nI s27), .ref rt])), (wl, .inl (cV, 10000, .inr (.inr (.inr (.inr g27)))))] ++ va_pl L (pf f n27)) := hD
      have hq27 : PU E PL AL S (chsS l9 rtn ndn) tp sp g ν t27 s27 g27 n27 := hw
      have h027 := hq27.nu
      have hP27 : PU E PL AL S (catR (([], 0)) (chsS l9 rtn ndn)) tp sp g ν t27 s27 g27 n27 := hPU.tr hq27
      have hW_hP27 := hP27.wi
      have hA_hP27 := hW_hP27.1
      have hB_hP27 := hW_hP27.2.1
      have hC_hP27 := hP27.spt
      have hfin : PU E PL AL S ((m8 rtn ndn)) tp sp g ν t27 s27 g27 n27 := by rw [← show catR (([], 0)) (chsS l9 rtn ndn) = (m8 rtn ndn) from by rw [catR_l]; exact hRn.symm]; exact hP27
      refine w_same (fun hq => ?_)
      refine W.widen (k := 1) (n := 6) (Nat.le_of_ble_eq_true rfl) (Nat.le_of_ble_eq_true rfl) ?_
      refine vx_ret ?_
      exact W.vret hx hb hr (fun t9 ht hW => ⟨⟨(t27, s27, g27, n27), rfl, hfin, ⟨by rw [ht]; exact hP, va_K.moved hW.alike hK, hD⟩, by rw [ht]; exact hq⟩, hS.F ht⟩) hS.2.2 d_Walk_step_13
set_option maxHeartbeats 4000000 in
set_option maxRecDepth 100000 in
theorem p_ND (l : Launch) (hl9 : l.stackTraces = false) (K : Nat → Nat × Nat) (dC : Nat → ClassId) (dI : Nat → Nat → Nat) (cI cV : ClassId) (E lv : Nat → Nat) (L : List Nat) (f : Nat → va_E) (hO : PO cI cV E lv L f) (hN1 : ∀ a, E a ≠ 1) (PL : List NT) (AL : List Nat) (wk wl rt : Nat) (hrt : isF E rt) (rtn : NT) (hrn : NCr PL AL rt rtn) (n : Nat) (HI : 0 < n → HDF l K dC dI cI cV E lv L f PL AL wk wl rt rtn (n - 1)) : NDF l K dC dI cI cV E lv L f PL AL wk wl rt rtn n := by
  intro sz S tp sp g ν hW9 hDq9 qu cu m9 cun hqu hlq hQ hcn
  refine vx_ofW (cc := b_Walk_nodes) (maxL := 7) (ret := (some .int)) (by decide) rfl ?_
  intro p e s m args below meth c s₁ B hml hex hv
  obtain ⟨rfl, ⟨hsz, hP, hK, hD0⟩, hN, hZ, hC, hV⟩ := hv
  have hx := B.exec
  have hb := B.bytes
  have hr := B.returns
  have hts0 := atoms_spec (ws := k_Walk_nodes :: gtbl) B.pre
  have hts := fun w h => hts0 w (List.mem_cons_of_mem _ h)
  have hown : s.vm.findClass R_Walk = some m.cls := findClass_of_methodNamed B.named
  have hlocks := B.notSynchronized
  subst hsz
  have hD := hD0.self (sz := s.heap.size)
  generalize hAe : va_A ([(wk, .inr (10, [.ref wl, .int (nI tp), .int (nI sp), .ref rt])), (wl, .inl (cV, 10000, .inr (.inr (.inr (.inr g)))))] ++ va_pl L (pf f ν)) s.heap.size = A at hD hZ hC ⊢
  have hA : ∀ q : Nat, s.heap.size ≤ q → A q := fun q h => by rw [← hAe]; exact Or.inr h
  have hS : va_S A s.heap s.heap [] := va_S.rf
  have hP : va_P (dC, dI) classes ([(wk, .inr (10, [.ref wl, .int (nI tp), .int (nI sp), .ref rt])), (wl, .inl (cV, 10000, .inr (.inr (.inr (.inr g)))))] ++ va_pl L (pf f ν)) s.heap := hP
  have hl := lv_entry ([.ref wk, .ref qu, .ref cu]) (n := 7) (Nat.le_of_ble_eq_true rfl)
  rw [lg_entry_eq]
  generalize (lg_sl ([.ref wk, .ref qu, .ref cu]) ++ List.replicate (7 - (lg_sl ([.ref wk, .ref qu, .ref cu])).length) Slot.unset).toArray = ls at hl ⊢
  have hl : lv_has ls 7 [(0, .ref wk), (1, .ref qu), (2, .ref cu)] := hl
  have hW0 := hW9
  have hW1 := hW9.1
  have hW2 := hW9.2.1
  have hDν := hDq9 ν NUg.rf
  obtain ⟨hcu, -⟩ := hcn.ax hDν
  obtain ⟨fr21, sg21, fi21, la21, ef21, hv21⟩ := hO.qry hqu
  obtain ⟨l9, hCh, hm9⟩ := hQ.ax (pf_Q ef21)
  refine lv_aload_n hx hb d_Walk_nodes_0 rfl (lv_at hl 0 rfl) ?_
  refine va_get (D := (dC, dI)) (ci := 10) (v := .int (nI tp)) (C := R_Walk) (T := F_Walk) (N := 4) hx hb hts in_Walk hown hK hP 0 rfl rfl 1 (by decide) (hts _ z_117) (fun _ h9 => h9) rfl d_Walk_nodes_1 ?_
  refine lv_istore_n (lv' := [(3, .int (nI tp)), (0, .ref wk), (1, .ref qu), (2, .ref cu)]) hx hb d_Walk_nodes_4 rfl hl (by decide) rfl (fun ls hl => ?_)
  refine lv_aload_n hx hb d_Walk_nodes_5 rfl (lv_at hl 1 rfl) ?_
  refine lv_aload_n hx hb d_Walk_nodes_6 rfl (lv_at hl 2 rfl) ?_
  refine vq_get (D := (dC, dI)) (ci := 4) (v := .int fr21) (C := R_Query) (T := F_Query) (N := 4) hx hb hts in_Query hown hK hP (hO.inL (a := qu) (by rw [hqu]; decide)) (pf_Q ef21) rfl 0 (by decide) (hts _ z_547) (fun _ h9 => h9) rfl d_Walk_nodes_7 ?_
  refine lv_if_eq (tgt := 20) hx hb d_Walk_nodes_10 (by decide) (fun c10 => ?_) (fun c10 => ?_)
  · refine lv_aload_n hx hb d_Walk_nodes_20 rfl (lv_at hl 3 rfl) ?_
    have hRn : (m9 rtn cun) = ((qryL rtn l9 [cun]).1, 1 + (qryL rtn l9 [cun]).2) := by rw [hm9, decide_eq_false (fun q => q c10)]; rfl
    have hPc := hP.part (cx := [(wk, .inr (10, [.ref wl, .int (nI tp), .int (nI sp), .ref rt])), (wl, .inl (cV, 10000, .inr (.inr (.inr (.inr g)))))]) [0, 1] rfl
    have hDc := hD.part (cx := [(wk, .inr (10, [.ref wl, .int (nI tp), .int (nI sp), .ref rt])), (wl, .inl (cV, 10000, .inr (.inr (.inr (.inr g)))))]) [0, 1] (by decide) rfl
    have hFc := va_freeP (cx := [(wk, .inr (10, [.ref wl, .int (nI tp), .int (nI sp), .ref rt])), (wl, .inl (cV, 10000, .inr (.inr (.inr (.inr g)))))]) hD hS hA [0, 1] rfl
    have hKc := hK.sub (tys' := [(cI, .int), (cV, .object "QueryBench$Value")]) [0, 1] rfl
    refine w_same (fun hq0 => ?_)
    refine vx_callv (vx_runV (As := [.ref cu]) (rest := []) ⟨hx, hb, hml, hown, hts⟩ (p_Walk_push l hl9 K dC dI s.heap cI cV E lv L f hO hN1 PL AL S wk wl rt hrt rtn hrn tp sp g ν hW9 hDq9 cu cun hcn) (cwV 1 hts (gt_V (own := R_Walk) (C := R_Walk) (i := 38) (y := y_Walk_push) i_Walk_push z_839 z_841 (gt_sel (y := y_Walk_push) (n := 4) (by decide +kernel)) w_5) rfl rfl rfl (by decide +kernel) ⟨by show 9 + 1 ≤ 60 + 5 * n; omega, by show 8 + (2 + 11) + (150) ≤ 2500 + 200 * n; omega⟩) ⟨ml_blind, va_recv hK hP (ci := 10) (q0 := 0) rfl rfl, fun U hU hW => ⟨rfl, ⟨hU, by rw [hU]; exact hPc, va_K.moved hW.alike hKc, hDc.weaken (fun _ _ _ _ => trivial)⟩, hN.warm hW, by rw [hU]; exact ZX.moved' hW.alike (ZX.narrow' (ZX.kept' hZ hS.2.1) hFc), by rw [hU]; exact CE.call hC hS.2.1 hFc hW, va_AO.moved hW.alike hV⟩⟩ rfl rfl hl.1 rfl (lv_room (Nat.le_of_ble_eq_true rfl)) d_Walk_nodes_21 ⟨Nat.le_of_ble_eq_true rfl, Nat.le_of_ble_eq_true rfl⟩) hS (fun q _ h => hFc q h) hFc (fun q _ h => hFc q h) (fun En ce q9 ⟨tx, sx, gx, nx⟩ t9 H1 locs ht hvm hw hB hz1 hk1 hS hce hcv hcl => ?_) (fun ⟨t22, s22, g22, n22⟩ t9 H1 locs ht hvm hw hB hz1 hk1 hS => ?_)
    · obtain ⟨hEn, hP1, hK1, hD1⟩ := hB
      rw [ht] at hP1
      obtain ⟨hP, hD⟩ := va_joinP (wr := []) (rx := [(wk, .inr (10, [.ref wl, .int tx, .int sx, .ref rt])), (wl, .inl (cV, 10000, .inr (.inr (.inr (.inr gx)))))]) (pl1 := va_pl L (pf f nx)) hP hD [0, 1] [] rfl rfl (by decide) (by decide) hk1 hFc hP1 hD1
      generalize H1 = H at hP hS hce ⊢
      have hP : va_P (dC, dI) classes ([(wk, .inr (10, [.ref wl, .int tx, .int sx, .ref rt])), (wl, .inl (cV, 10000, .inr (.inr (.inr (.inr gx)))))] ++ va_pl L (pf f nx)) H := hP
      have hD : va_D A ([(wk, .inr (10, [.ref wl, .int tx, .int sx, .ref rt])), (wl, .inl (cV, 10000, .inr (.inr (.inr (.inr gx)))))] ++ va_pl L (pf f nx)) := hD
      have hno : 10000 < sp + (m9 rtn cun).2 := by have hw : 10000 < sp + 1 := hw.1; rw [hRn]; show 10000 < sp + (1 + _); omega
      exact vx_out (fun x hx => (hex x hx).elim) hlocks hce hcv hcl (fun t9 ht2 ha => ⟨(tx, sx, gx, nx), ⟨hno, hw.2⟩, ⟨hEn, by rw [ht2]; exact hP, va_K.moved ha hK, hD⟩, hS.F ht2⟩) hS.2.2 (Nat.le_of_ble_eq_true rfl) (Nat.le_of_ble_eq_true rfl)
    · obtain ⟨⟨hP1, hK1, hD1⟩, hz9⟩ := hB
      rw [ht] at hP1
      rw [ht] at hz9
      refine w_tight (hq0.trans hz9) ?_
      have hq0 := hq0.trans hz9
      obtain ⟨hP, hD⟩ := va_joinP (wr := []) (rx := [(wk, .inr (10, [.ref wl, .int (nI t22), .int (nI s22), .ref rt])), (wl, .inl (cV, 10000, .inr (.inr (.inr (.inr g22)))))]) (pl1 := va_pl L (pf f n22)) hP hD [0, 1] [] rfl rfl (by decide) (by decide) hk1 hFc hP1 hD1
      generalize H1 = H at hP hS hq0 ⊢
      have hP : va_P (dC, dI) classes ([(wk, .inr (10, [.ref wl, .int (nI t22), .int (nI s22), .ref rt])), (wl, .inl (cV, 10000, .inr (.inr (.inr (.inr g22)))))] ++ va_pl L (pf f n22)) H := hP
      have hD : va_D A ([(wk, .inr (10, [.ref wl, .int (nI t22), .int (nI s22), .ref rt])), (wl, .inl (cV, 10000, .inr (.inr (.inr (.inr g22)))))] ++ va_pl L (pf f n22)) := hD
      have hNL : NLp E PL AL S (m9 rtn cun) rtn tp sp g ν l9 [cun] tp t22 s22 g22 n22 := NLp.one hw hRn
      refine lv_aload_n hx hb d_Walk_nodes_24 rfl (lv_at hl 2 rfl) ?_
      rcases fi21 with _ | b23
      · refine vq_get (D := (dC, dI)) (ci := 4) (v := .null) (C := R_Query) (T := F_Query) (N := 4) hx hb hts in_Query hown hK hP (hO.inL (a := qu) (by rw [hqu]; decide)) (pf_Q ef21) rfl 2 (by decide) (hts _ z_552) (fun _ h9 => h9) rfl d_Walk_nodes_25 ?_
        refine lv_astoreN (lv' := [(4, .null), (3, .int (nI tp)), (0, .ref wk), (1, .ref qu), (2, .ref cu)]) hx hb d_Walk_nodes_28 hl (by decide) rfl (fun ls hl => ?_)
        refine w_loop (D := (dC, dI)) (cl := classes) (A := A) (H0 := s.heap) (nL := 7) 30 (σ := Option Nat × List QT × List NT × Nat × Nat × Nat × (Nat → Option Nat) × (Nat → Int64)) (fun ⟨o, q9, l8, fr, t, s9, g1, ν3⟩ => oR (fun b => E b = 8 ∧ lv b ≤ n) o ∧ CHD GD 2 (pf f ν3) S o q9 ∧ NLp E PL AL S (m9 rtn cun) rtn tp sp g ν q9 l8 fr t s9 g1 ν3) (fun ⟨o, q9, l8, fr, t, s9, g1, ν3⟩ => chL L o) (fun ⟨o, q9, l8, fr, t, s9, g1, ν3⟩ => [(wk, .inr (10, [.ref wl, .int (nI t), .int (nI s9), .ref rt])), (wl, .inl (cV, 10000, .inr (.inr (.inr (.inr g1)))))] ++ va_pl L (pf f ν3)) (fun ⟨o, q9, l8, fr, t, s9, g1, ν3⟩ => [(0, .ref wk), (1, .ref qu), (2, .ref cu), (3, .int (nI fr)), (4, va_rf o)]) ?_ (none, l9, [cun], tp, t22, s22, g22, n22) ⟨(fun b h => nomatch h), CHG.nu hCh hNL.2.2.2.2.2.1, hNL⟩ hP hD hS (lv_sub hl [2, 3, 4, 1, 0] rfl)
        rintro ⟨o, q9, l8, fr, t, s9, g1, ν3⟩ H locs ls hI ih hP hD hS hl
        have hP : va_P (dC, dI) classes ([(wk, .inr (10, [.ref wl, .int (nI t), .int (nI s9), .ref rt])), (wl, .inl (cV, 10000, .inr (.inr (.inr (.inr g1)))))] ++ va_pl L (pf f ν3)) H := hP
        have hD : va_D A ([(wk, .inr (10, [.ref wl, .int (nI t), .int (nI s9), .ref rt])), (wl, .inl (cV, 10000, .inr (.inr (.inr (.inr g1)))))] ++ va_pl L (pf f ν3)) := hD
        have hl : lv_has ls 7 [(0, .ref wk), (1, .ref qu), (2, .ref cu), (3, .int (nI fr)), (4, va_rf o)] := hl
        obtain ⟨hI, hCI, hNL⟩ := hI
        have hI : oR (fun b => E b = 8 ∧ lv b ≤ n) o := hI
        have hCI : CHD GD 2 (pf f ν3) S o q9 := hCI
        have hNL : NLp E PL AL S (m9 rtn cun) rtn tp sp g ν q9 l8 fr t s9 g1 ν3 := hNL
        have hI0 : t = fr + l8.length := hNL.2.1
        have hI1 : tp ≤ fr := hNL.1
        have hI3 := hNL.2.2.1
        have hI4 := hI3.1
        have hI5 := hI3.2.1
        have ihO := ih
        rcases o with _ | ob
        · have hl : lv_has ls 7 [(0, .ref wk), (1, .ref qu), (2, .ref cu), (3, .int (nI fr)), (4, .null)] := hl
          obtain rfl := hCI.no
          refine lv_aloadN hx hb d_Walk_nodes_30 (lv_at hl 4 rfl) ?_
          refine lv_ifnullN (tgt := 83) hx hb d_Walk_nodes_32 (by decide) ?_
          refine lv_iload_n hx hb d_Walk_nodes_83 rfl (lv_at hl 3 rfl) ?_
          refine w_same (fun hq => ?_)
          refine W.widen (k := 1) (n := 6) (Nat.le_of_ble_eq_true rfl) (Nat.le_of_ble_eq_true rfl) ?_
          refine vx_ret ?_
          exact W.iret (v := (nI fr)) hx hb hr (fun t9 ht hW => ⟨⟨(nI fr), (t, s9, g1, ν3), rfl, ⟨fr, rfl, hNL.fin⟩, ⟨by rw [ht]; exact hP, va_K.moved hW.alike hK, hD⟩, by rw [ht]; exact hq⟩, hS.F ht⟩) hS.2.2 d_Walk_nodes_84
        · have hl : lv_has ls 7 [(0, .ref wk), (1, .ref qu), (2, .ref cu), (3, .int (nI fr)), (4, .ref ob)] := hl
          obtain ⟨hob1, hob2⟩ := hI ob rfl
          obtain ⟨m8, q8, rfl, hS3, hGD, hCn⟩ := hCI.so
          refine lv_aload hx hb d_Walk_nodes_30 (lv_at hl 4 rfl) ?_
          refine lv_ifnull hx hb d_Walk_nodes_32 ?_
          refine lv_aload_n hx hb d_Walk_nodes_35 rfl (lv_at hl 0 rfl) ?_
          refine va_get (D := (dC, dI)) (ci := 10) (v := .int (nI t)) (C := R_Walk) (T := F_Walk) (N := 4) hx hb hts in_Walk hown hK hP 0 rfl rfl 1 (by decide) (hts _ z_117) (fun _ h9 => h9) rfl d_Walk_nodes_36 ?_
          refine lv_istore (lv' := [(5, .int (nI t)), (0, .ref wk), (1, .ref qu), (2, .ref cu), (3, .int (nI fr)), (4, .ref ob)]) hx hb d_Walk_nodes_39 hl (by decide) rfl (fun ls hl => ?_)
          refine lv_iload_n hx hb d_Walk_nodes_41 rfl (lv_at hl 4 rfl) ?_
          refine lv_istore (lv' := [(6, .int (nI fr)), (5, .int (nI t)), (0, .ref wk), (1, .ref qu), (2, .ref cu), (3, .int (nI fr)), (4, .ref ob)]) hx hb d_Walk_nodes_42 hl (by decide) rfl (fun ls hl => ?_)
          obtain ⟨ds24, fi24, nx24, ef24, hv24⟩ := hO.seg hob1
          refine w_loop (D := (dC, dI)) (cl := classes) (A := A) (H0 := s.heap) (nL := 7) 44 (σ := Nat × (List NT × Nat) × Nat × Nat × (Nat → Option Nat) × (Nat → Int64)) (fun ⟨i, D, t2, s2, g2, ν4⟩ => fr ≤ i ∧ i ≤ t ∧ PU E PL AL S D t s9 g1 ν3 t2 s2 g2 ν4 ∧ catR D (seqW (m8 rtn) (l8.drop (i - fr))) = seqW (m8 rtn) l8) (fun ⟨i, D, t2, s2, g2, ν4⟩ => t - i) (fun ⟨i, D, t2, s2, g2, ν4⟩ => [(wk, .inr (10, [.ref wl, .int (nI t2), .int (nI s2), .ref rt])), (wl, .inl (cV, 10000, .inr (.inr (.inr (.inr g2)))))] ++ va_pl L (pf f ν4)) (fun ⟨i, D, t2, s2, g2, ν4⟩ => [(0, .ref wk), (1, .ref qu), (2, .ref cu), (4, .ref ob), (5, .int (nI t)), (6, .int (nI i))]) ?_ (fr, ([], 0), t, s9, g1, ν3) ⟨Nat.le_refl _, by show fr ≤ t; omega, PU.rf hI3, by show catR ([], 0) (seqW (m8 rtn) (l8.drop (fr - fr))) = _; rw [Nat.sub_self, catR_l]; rfl⟩ hP hD hS (lv_sub hl [2, 3, 4, 6, 1, 0] rfl)
          rintro ⟨i, D, t2, s2, g2, ν4⟩ H locs ls hI ih hP hD hS hl
          have hP : va_P (dC, dI) classes ([(wk, .inr (10, [.ref wl, .int (nI t2), .int (nI s2), .ref rt])), (wl, .inl (cV, 10000, .inr (.inr (.inr (.inr g2)))))] ++ va_pl L (pf f ν4)) H := hP
          have hD : va_D A ([(wk, .inr (10, [.ref wl, .int (nI t2), .int (nI s2), .ref rt])), (wl, .inl (cV, 10000, .inr (.inr (.inr (.inr g2)))))] ++ va_pl L (pf f ν4)) := hD
          have hl : lv_has ls 7 [(0, .ref wk), (1, .ref qu), (2, .ref cu), (4, .ref ob), (5, .int (nI t)), (6, .int (nI i))] := hl
          obtain ⟨hJ, hJ1, hPI, hRI⟩ := hI
          have hJ : fr ≤ i := hJ
          have hJ1 : i ≤ t := hJ1
          have hPI : PU E PL AL S D t s9 g1 ν3 t2 s2 g2 ν4 := hPI
          have hRI : catR D (seqW (m8 rtn) (l8.drop (i - fr))) = seqW (m8 rtn) l8 := hRI
          have hJ3 := hPI.wi
          have hJ4 := hJ3.1
          have hJ5 := hJ3.2.1
          have hJ6 := hPI.spt
          have hJ7 := hPI.le
          refine lv_iload hx hb d_Walk_nodes_44 (lv_at hl 5 rfl) ?_
          refine lv_iload hx hb d_Walk_nodes_46 (lv_at hl 4 rfl) ?_
          refine lv_icmp_ge (tgt := 70) hx hb d_Walk_nodes_48 (by decide) (fun c48 => ?_) (fun c48 => ?_)
          · have hie : t ≤ i := by rw [nI_leI (by omega) (by omega)] at c48; omega
            refine lv_iload hx hb d_Walk_nodes_70 (lv_at hl 4 rfl) ?_
            refine lv_istore_n (lv' := [(3, .int (nI t)), (0, .ref wk), (1, .ref qu), (2, .ref cu), (4, .ref ob), (5, .int (nI t)), (6, .int (nI i))]) hx hb d_Walk_nodes_72 rfl hl (by decide) rfl (fun ls hl => ?_)
            refine lv_aload hx hb d_Walk_nodes_73 (lv_at hl 4 rfl) ?_
            rcases nx24 with _ | b25
            · refine vq_get (D := (dC, dI)) (ci := 6) (v := .null) (C := R_Segment) (T := F_Segment) (N := 3) hx hb hts in_Segment hown hK hP (hO.inL (a := ob) (by rw [hob1]; decide)) (pf_G ef24) rfl 2 (by decide) (hts _ z_581) (fun _ h9 => h9) rfl d_Walk_nodes_75 ?_
              refine lv_astoreN (lv' := [(4, .null), (3, .int (nI t)), (0, .ref wk), (1, .ref qu), (2, .ref cu), (5, .int (nI t)), (6, .int (nI i))]) hx hb d_Walk_nodes_78 hl (by decide) rfl (fun ls hl => ?_)
              refine lv_goto (tgt := 30) hx hb d_Walk_nodes_80 (by decide) ?_
              have hDl : D = seqW (m8 rtn) l8 := by rw [← hRI, seqV_end (by omega)]; exact (catR_0 _).symm
              have hCn1 : CHD GD 2 (pf f ν3) S none q8 := by rw [← show refE 2 (pf f ν3 ob) = none by rw [pf_G ef24]; rfl]; exact hCn
              have hCn2 : CHD GD 2 (pf f ν4) S none q8 := CHG.nu hCn1 hPI.nu
              exact ihO (none, q8, (seqW (m8 rtn) l8).1, t, t2, s2, g2, ν4) _ _ _ ⟨(fun b h => nomatch h), hCn2, hNL.next (by rw [← hDl]; exact hPI)⟩ (chL_lt (hO.inL (a := ob) (by rw [hob1]; decide)) (fun b h => nomatch h)) hP hD hS (lv_sub hl [2, 3, 4, 1, 0] rfl)
            · refine vq_get (D := (dC, dI)) (ci := 6) (v := .ref b25) (C := R_Segment) (T := F_Segment) (N := 3) hx hb hts in_Segment hown hK hP (hO.inL (a := ob) (by rw [hob1]; decide)) (pf_G ef24) rfl 2 (by decide) (hts _ z_581) (fun _ h9 => h9) rfl d_Walk_nodes_75 ?_
              refine lv_astore (lv' := [(4, .ref b25), (3, .int (nI t)), (0, .ref wk), (1, .ref qu), (2, .ref cu), (5, .int (nI t)), (6, .int (nI i))]) hx hb d_Walk_nodes_78 hl (by decide) rfl (fun ls hl => ?_)
              refine lv_goto (tgt := 30) hx hb d_Walk_nodes_80 (by decide) ?_
              have hDl : D = seqW (m8 rtn) l8 := by rw [← hRI, seqV_end (by omega)]; exact (catR_0 _).symm
              have hCn1 : CHD GD 2 (pf f ν3) S (some b25) q8 := by rw [← show refE 2 (pf f ν3 ob) = (some b25) by rw [pf_G ef24]; rfl]; exact hCn
              have hCn2 : CHD GD 2 (pf f ν4) S (some b25) q8 := CHG.nu hCn1 hPI.nu
              exact ihO ((some b25), q8, (seqW (m8 rtn) l8).1, t, t2, s2, g2, ν4) _ _ _ ⟨(fun b h => by cases h; exact ⟨(hv24.2 b25 rfl).1, Nat.le_trans (hv24.2 b25 rfl).2.1 hob2⟩), hCn2, hNL.next (by rw [← hDl]; exact hPI)⟩ (chL_lt (hO.inL (a := ob) (by rw [hob1]; decide)) (fun b h => by cases h; exact (hv24.2 b25 rfl).2.2)) hP hD hS (lv_sub hl [2, 3, 4, 1, 0] rfl)
          · have hi : i < t := by rw [nI_leI (by omega) (by omega)] at c48; omega
            obtain ⟨nd7, hl7⟩ : ∃ e, l8[i - fr]? = some e := ⟨_, List.getElem?_eq_getElem (by omega)⟩
            obtain ⟨nd9, hg7, hn7⟩ := hNL.2.2.2.2.1 (i - fr) nd7 hl7
            have hnd1 : g2 i = some nd9 := (hPI.2.2.2.1 i hi).trans (by rw [show i = fr + (i - fr) by omega]; exact hg7)
            have hnd2 := (hn7.ax (hDq9 ν3 hNL.2.2.2.2.2.1)).1
            refine lv_aload_n hx hb d_Walk_nodes_51 rfl (lv_at hl 0 rfl) ?_
            refine lv_aload hx hb d_Walk_nodes_52 (lv_at hl 3 rfl) ?_
            refine lv_aload_n hx hb d_Walk_nodes_54 rfl (lv_at hl 0 rfl) ?_
            refine va_get (D := (dC, dI)) (ci := 10) (v := .ref wl) (C := R_Walk) (T := F_Walk) (N := 4) hx hb hts in_Walk hown hK hP 0 rfl rfl 0 (by decide) (hts _ w_115) (fun _ h9 => h9) rfl d_Walk_nodes_55 ?_
            refine lv_iload hx hb d_Walk_nodes_58 (lv_at hl 5 rfl) ?_
            refine vq_ald0 hx hb hK hP 1 1 rfl rfl (show i < 10000 by omega) (by decide) hnd1 d_Walk_nodes_60 ?_
            have hRd : catR D (catR (m8 rtn nd7) (seqW (m8 rtn) (l8.drop (i + 1 - fr)))) = seqW (m8 rtn) l8 := by rw [← hRI, seqV_drop hl7, show i + 1 - fr = i - fr + 1 by omega]; rfl
            have hmo := hNL.more
            have hd2 : (seqW (m8 rtn) l8).2 = D.2 + ((m8 rtn nd7).2 + (seqW (m8 rtn) (l8.drop (i + 1 - fr))).2) := by rw [← hRd]; rfl
            have hPc := hP.part (cx := [(wk, .inr (10, [.ref wl, .int (nI t2), .int (nI s2), .ref rt])), (wl, .inl (cV, 10000, .inr (.inr (.inr (.inr g2)))))]) [0, 1] rfl
            have hDc := hD.part (cx := [(wk, .inr (10, [.ref wl, .int (nI t2), .int (nI s2), .ref rt])), (wl, .inl (cV, 10000, .inr (.inr (.inr (.inr g2)))))]) [0, 1] (by decide) rfl
            have hFc := va_freeP (cx := [(wk, .inr (10, [.ref wl, .int (nI t2), .int (nI s2), .ref rt])), (wl, .inl (cV, 10000, .inr (.inr (.inr (.inr g2)))))]) hD hS hA [0, 1] rfl
            have hKc := hK.sub (tys' := [(cI, .int), (cV, .object "QueryBench$Value")]) [0, 1] rfl
            refine w_same (fun hq0 => ?_)
            refine vx_callv (vx_runV (As := [.ref ob, .ref nd9]) (rest := []) ⟨hx, hb, hml, hown, hts⟩ (p_Walk_step l hl9 K dC dI H cI cV E lv L f hO hN1 PL AL S wk wl rt hrt rtn hrn t2 s2 g2 ν4 hJ3 (fun ν2 h2 => hDq9 ν2 ((hNL.2.2.2.2.2.1.tr hPI.nu).tr h2)) nd9 nd7 hn7 n HI ob hob1 hob2 m8 (hGD.nu hO hob1 hPI.nu SUB.rf)) (cwV 2 hts (gt_V (own := R_Walk) (C := R_Walk) (i := 46) (y := y_Walk_step) i_Walk_step z_849 z_851 (gt_sel (y := y_Walk_step) (n := 4) (by decide +kernel)) w_5) rfl rfl rfl (by decide +kernel) ⟨by show 59 + 5 * n + 1 ≤ 60 + 5 * n; omega, by show 8 + (5 + 11) + (2460 + 200 * n) ≤ 2500 + 200 * n; omega⟩) ⟨ml_blind, va_recv hK hP (ci := 10) (q0 := 0) rfl rfl, fun U hU hW => ⟨rfl, ⟨hU, by rw [hU]; exact hPc, va_K.moved hW.alike hKc, hDc.weaken (fun _ _ _ _ => trivial)⟩, hN.warm hW, by rw [hU]; exact ZX.moved' hW.alike (ZX.narrow' (ZX.kept' hZ hS.2.1) hFc), by rw [hU]; exact CE.call hC hS.2.1 hFc hW, va_AO.moved hW.alike hV⟩⟩ rfl rfl hl.1 rfl (lv_room (Nat.le_of_ble_eq_true rfl)) d_Walk_nodes_61 ⟨Nat.le_of_ble_eq_true rfl, Nat.le_of_ble_eq_true rfl⟩) hS (fun q _ h => hFc q h) hFc (fun q _ h => hFc q h) (fun En ce q9 ⟨tx, sx, gx, nx⟩ t9 H1 locs ht hvm hw hB hz1 hk1 hS hce hcv hcl => ?_) (fun ⟨t26, s26, g26, n26⟩ t9 H1 locs ht hvm hw hB hz1 hk1 hS => ?_)
            · obtain ⟨hEn, hP1, hK1, hD1⟩ := hB
              rw [ht] at hP1
              obtain ⟨hP, hD⟩ := va_joinP (wr := []) (rx := [(wk, .inr (10, [.ref wl, .int tx, .int sx, .ref rt])), (wl, .inl (cV, 10000, .inr (.inr (.inr (.inr gx)))))]) (pl1 := va_pl L (pf f nx)) hP hD [0, 1] [] rfl rfl (by decide) (by decide) hk1 hFc hP1 hD1
              generalize H1 = H at hP hS hce ⊢
              have hP : va_P (dC, dI) classes ([(wk, .inr (10, [.ref wl, .int tx, .int sx, .ref rt])), (wl, .inl (cV, 10000, .inr (.inr (.inr (.inr gx)))))] ++ va_pl L (pf f nx)) H := hP
              have hD : va_D A ([(wk, .inr (10, [.ref wl, .int tx, .int sx, .ref rt])), (wl, .inl (cV, 10000, .inr (.inr (.inr (.inr gx)))))] ++ va_pl L (pf f nx)) := hD
              have hno : 10000 < sp + (m9 rtn cun).2 := by have hw : 10000 < s2 + (m8 rtn nd7).2 := hw.1; omega
              exact vx_out (fun x hx => (hex x hx).elim) hlocks hce hcv hcl (fun t9 ht2 ha => ⟨(tx, sx, gx, nx), ⟨hno, (hNL.2.2.2.2.2.1.tr hPI.nu).tr hw.2⟩, ⟨hEn, by rw [ht2]; exact hP, va_K.moved ha hK, hD⟩, hS.F ht2⟩) hS.2.2 (Nat.le_of_ble_eq_true rfl) (Nat.le_of_ble_eq_true rfl)
            · obtain ⟨⟨hP1, hK1, hD1⟩, hz9⟩ := hB
              rw [ht] at hP1
              rw [ht] at hz9
              refine w_tight (hq0.trans hz9) ?_
              have hq0 := hq0.trans hz9
              obtain ⟨hP, hD⟩ := va_joinP (wr := []) (rx := [(wk, .inr (10, [.ref wl, .int (nI t26), .int (nI s26), .ref rt])), (wl, .inl (cV, 10000, .inr (.inr (.inr (.inr g26)))))]) (pl1 := va_pl L (pf f n26)) hP hD [0, 1] [] rfl rfl (by decide) (by decide) hk1 hFc hP1 hD1
              generalize H1 = H at hP hS hq0 ⊢
              have hP : va_P (dC, dI) classes ([(wk, .inr (10, [.ref wl, .int (nI t26), .int (nI s26), .ref rt])), (wl, .inl (cV, 10000, .inr (.inr (.inr (.inr g26)))))] ++ va_pl L (pf f n26)) H := hP
              have hD : va_D A ([(wk, .inr (10, [.ref wl, .int (nI t26), .int (nI s26), .ref rt])), (wl, .inl (cV, 10000, .inr (.inr (.inr (.inr g26)))))] ++ va_pl L (pf f n26)) := hD
              have hPI2 : PU E PL AL S (catR D (m8 rtn nd7)) t s9 g1 ν3 t26 s26 g26 n26 := hPI.tr hw
              have hRI2 : catR (catR D (m8 rtn nd7)) (seqW (m8 rtn) (l8.drop (i + 1 - fr))) = seqW (m8 rtn) l8 := by rw [catR_a]; exact hRd
              refine lv_iinc (v := nI (i + 1)) (lv' := [(6, .int (nI (i + 1))), (0, .ref wk), (1, .ref qu), (2, .ref cu), (4, .ref ob), (5, .int (nI t))]) hx hb d_Walk_nodes_64 hl (k := 5) rfl (nI_1 _) (by decide) rfl (fun ls hl => ?_)
              refine lv_goto (tgt := 44) hx hb d_Walk_nodes_67 (by decide) ?_
              exact ih (i + 1, (catR D (m8 rtn nd7)), t26, s26, g26, n26) _ _ _ ⟨by show fr ≤ i + 1; omega, by show i + 1 ≤ t; omega, hPI2, hRI2⟩ (by show t - (i + 1) < t - i; omega) hP hD hS (lv_sub hl [1, 2, 3, 4, 5, 0] rfl)
      · refine vq_get (D := (dC, dI)) (ci := 4) (v := .ref b23) (C := R_Query) (T := F_Query) (N := 4) hx hb hts in_Query hown hK hP (hO.inL (a := qu) (by rw [hqu]; decide)) (pf_Q ef21) rfl 2 (by decide) (hts _ z_552) (fun _ h9 => h9) rfl d_Walk_nodes_25 ?_
        refine lv_astore (lv' := [(4, .ref b23), (3, .int (nI tp)), (0, .ref wk), (1, .ref qu), (2, .ref cu)]) hx hb d_Walk_nodes_28 hl (by decide) rfl (fun ls hl => ?_)
        refine w_loop (D := (dC, dI)) (cl := classes) (A := A) (H0 := s.heap) (nL := 7) 30 (σ := Option Nat × List QT × List NT × Nat × Nat × Nat × (Nat → Option Nat) × (Nat → Int64)) (fun ⟨o, q9, l8, fr, t, s9, g1, ν3⟩ => oR (fun b => E b = 8 ∧ lv b ≤ n) o ∧ CHD GD 2 (pf f ν3) S o q9 ∧ NLp E PL AL S (m9 rtn cun) rtn tp sp g ν q9 l8 fr t s9 g1 ν3) (fun ⟨o, q9, l8, fr, t, s9, g1, ν3⟩ => chL L o) (fun ⟨o, q9, l8, fr, t, s9, g1, ν3⟩ => [(wk, .inr (10, [.ref wl, .int (nI t), .int (nI s9), .ref rt])), (wl, .inl (cV, 10000, .inr (.inr (.inr (.inr g1)))))] ++ va_pl L (pf f ν3)) (fun ⟨o, q9, l8, fr, t, s9, g1, ν3⟩ => [(0, .ref wk), (1, .ref qu), (2, .ref cu), (3, .int (nI fr)), (4, va_rf o)]) ?_ ((some b23), l9, [cun], tp, t22, s22, g22, n22) ⟨(fun b h => by cases h; exact ⟨(hv21.1 b23 rfl).1, Nat.le_trans (hv21.1 b23 rfl).2 hlq⟩), CHG.nu hCh hNL.2.2.2.2.2.1, hNL⟩ hP hD hS (lv_sub hl [2, 3, 4, 1, 0] rfl)
        rintro ⟨o, q9, l8, fr, t, s9, g1, ν3⟩ H locs ls hI ih hP hD hS hl
        have hP : va_P (dC, dI) classes ([(wk, .inr (10, [.ref wl, .int (nI t), .int (nI s9), .ref rt])), (wl, .inl (cV, 10000, .inr (.inr (.inr (.inr g1)))))] ++ va_pl L (pf f ν3)) H := hP
        have hD : va_D A ([(wk, .inr (10, [.ref wl, .int (nI t), .int (nI s9), .ref rt])), (wl, .inl (cV, 10000, .inr (.inr (.inr (.inr g1)))))] ++ va_pl L (pf f ν3)) := hD
        have hl : lv_has ls 7 [(0, .ref wk), (1, .ref qu), (2, .ref cu), (3, .int (nI fr)), (4, va_rf o)] := hl
        obtain ⟨hI, hCI, hNL⟩ := hI
        have hI : oR (fun b => E b = 8 ∧ lv b ≤ n) o := hI
        have hCI : CHD GD 2 (pf f ν3) S o q9 := hCI
        have hNL : NLp E PL AL S (m9 rtn cun) rtn tp sp g ν q9 l8 fr t s9 g1 ν3 := hNL
        have hI0 : t = fr + l8.length := hNL.2.1
        have hI1 : tp ≤ fr := hNL.1
        have hI3 := hNL.2.2.1
        have hI4 := hI3.1
        have hI5 := hI3.2.1
        have ihO := ih
        rcases o with _ | ob
        · have hl : lv_has ls 7 [(0, .ref wk), (1, .ref qu), (2, .ref cu), (3, .int (nI fr)), (4, .null)] := hl
          obtain rfl := hCI.no
          refine lv_aloadN hx hb d_Walk_nodes_30 (lv_at hl 4 rfl) ?_
          refine lv_ifnullN (tgt := 83) hx hb d_Walk_nodes_32 (by decide) ?_
          refine lv_iload_n hx hb d_Walk_nodes_83 rfl (lv_at hl 3 rfl) ?_
          refine w_same (fun hq => ?_)
          refine W.widen (k := 1) (n := 6) (Nat.le_of_ble_eq_true rfl) (Nat.le_of_ble_eq_true rfl) ?_
          refine vx_ret ?_
          exact W.iret (v := (nI fr)) hx hb hr (fun t9 ht hW => ⟨⟨(nI fr), (t, s9, g1, ν3), rfl, ⟨fr, rfl, hNL.fin⟩, ⟨by rw [ht]; exact hP, va_K.moved hW.alike hK, hD⟩, by rw [ht]; exact hq⟩, hS.F ht⟩) hS.2.2 d_Walk_nodes_84
        · have hl : lv_has ls 7 [(0, .ref wk), (1, .ref qu), (2, .ref cu), (3, .int (nI fr)), (4, .ref ob)] := hl
          obtain ⟨hob1, hob2⟩ := hI ob rfl
          obtain ⟨m8, q8, rfl, hS3, hGD, hCn⟩ := hCI.so
          refine lv_aload hx hb d_Walk_nodes_30 (lv_at hl 4 rfl) ?_
          refine lv_ifnull hx hb d_Walk_nodes_32 ?_
          refine lv_aload_n hx hb d_Walk_nodes_35 rfl (lv_at hl 0 rfl) ?_
          refine va_get (D := (dC, dI)) (ci := 10) (v := .int (nI t)) (C := R_Walk) (T := F_Walk) (N := 4) hx hb hts in_Walk hown hK hP 0 rfl rfl 1 (by decide) (hts _ z_117) (fun _ h9 => h9) rfl d_Walk_nodes_36 ?_
          refine lv_istore (lv' := [(5, .int (nI t)), (0, .ref wk), (1, .ref qu), (2, .ref cu), (3, .int (nI fr)), (4, .ref ob)]) hx hb d_Walk_nodes_39 hl (by decide) rfl (fun ls hl => ?_)
          refine lv_iload_n hx hb d_Walk_nodes_41 rfl (lv_at hl 4 rfl) ?_
          refine lv_istore (lv' := [(6, .int (nI fr)), (5, .int (nI t)), (0, .ref wk), (1, .ref qu), (2, .ref cu), (3, .int (nI fr)), (4, .ref ob)]) hx hb d_Walk_nodes_42 hl (by decide) rfl (fun ls hl => ?_)
          obtain ⟨ds27, fi27, nx27, ef27, hv27⟩ := hO.seg hob1
          refine w_loop (D := (dC, dI)) (cl := classes) (A := A) (H0 := s.heap) (nL := 7) 44 (σ := Nat × (List NT × Nat) × Nat × Nat × (Nat → Option Nat) × (Nat → Int64)) (fun ⟨i, D, t2, s2, g2, ν4⟩ => fr ≤ i ∧ i ≤ t ∧ PU E PL AL S D t s9 g1 ν3 t2 s2 g2 ν4 ∧ catR D (seqW (m8 rtn) (l8.drop (i - fr))) = seqW (m8 rtn) l8) (fun ⟨i, D, t2, s2, g2, ν4⟩ => t - i) (fun ⟨i, D, t2, s2, g2, ν4⟩ => [(wk, .inr (10, [.ref wl, .int (nI t2), .int (nI s2), .ref rt])), (wl, .inl (cV, 10000, .inr (.inr (.inr (.inr g2)))))] ++ va_pl L (pf f ν4)) (fun ⟨i, D, t2, s2, g2, ν4⟩ => [(0, .ref wk), (1, .ref qu), (2, .ref cu), (4, .ref ob), (5, .int (nI t)), (6, .int (nI i))]) ?_ (fr, ([], 0), t, s9, g1, ν3) ⟨Nat.le_refl _, by show fr ≤ t; omega, PU.rf hI3, by show catR ([], 0) (seqW (m8 rtn) (l8.drop (fr - fr))) = _; rw [Nat.sub_self, catR_l]; rfl⟩ hP hD hS (lv_sub hl [2, 3, 4, 6, 1, 0] rfl)
          rintro ⟨i, D, t2, s2, g2, ν4⟩ H locs ls hI ih hP hD hS hl
          have hP : va_P (dC, dI) classes ([(wk, .inr (10, [.ref wl, .int (nI t2), .int (nI s2), .ref rt])), (wl, .inl (cV, 10000, .inr (.inr (.inr (.inr g2)))))] ++ va_pl L (pf f ν4)) H := hP
          have hD : va_D A ([(wk, .inr (10, [.ref wl, .int (nI t2), .int (nI s2), .ref rt])), (wl, .inl (cV, 10000, .inr (.inr (.inr (.inr g2)))))] ++ va_pl L (pf f ν4)) := hD
          have hl : lv_has ls 7 [(0, .ref wk), (1, .ref qu), (2, .ref cu), (4, .ref ob), (5, .int (nI t)), (6, .int (nI i))] := hl
          obtain ⟨hJ, hJ1, hPI, hRI⟩ := hI
          have hJ : fr ≤ i := hJ
          have hJ1 : i ≤ t := hJ1
          have hPI : PU E PL AL S D t s9 g1 ν3 t2 s2 g2 ν4 := hPI
          have hRI : catR D (seqW (m8 rtn) (l8.drop (i - fr))) = seqW (m8 rtn) l8 := hRI
          have hJ3 := hPI.wi
          have hJ4 := hJ3.1
          have hJ5 := hJ3.2.1
          have hJ6 := hPI.spt
          have hJ7 := hPI.le
          refine lv_iload hx hb d_Walk_nodes_44 (lv_at hl 5 rfl) ?_
          refine lv_iload hx hb d_Walk_nodes_46 (lv_at hl 4 rfl) ?_
          refine lv_icmp_ge (tgt := 70) hx hb d_Walk_nodes_48 (by decide) (fun c48 => ?_) (fun c48 => ?_)
          · have hie : t ≤ i := by rw [nI_leI (by omega) (by omega)] at c48; omega
            refine lv_iload hx hb d_Walk_nodes_70 (lv_at hl 4 rfl) ?_
            refine lv_istore_n (lv' := [(3, .int (nI t)), (0, .ref wk), (1, .ref qu), (2, .ref cu), (4, .ref ob), (5, .int (nI t)), (6, .int (nI i))]) hx hb d_Walk_nodes_72 rfl hl (by decide) rfl (fun ls hl => ?_)
            refine lv_aload hx hb d_Walk_nodes_73 (lv_at hl 4 rfl) ?_
            rcases nx27 with _ | b28
            · refine vq_get (D := (dC, dI)) (ci := 6) (v := .null) (C := R_Segment) (T := F_Segment) (N := 3) hx hb hts in_Segment hown hK hP (hO.inL (a := ob) (by rw [hob1]; decide)) (pf_G ef27) rfl 2 (by decide) (hts _ z_581) (fun _ h9 => h9) rfl d_Walk_nodes_75 ?_
              refine lv_astoreN (lv' := [(4, .null), (3, .int (nI t)), (0, .ref wk), (1, .ref qu), (2, .ref cu), (5, .int (nI t)), (6, .int (nI i))]) hx hb d_Walk_nodes_78 hl (by decide) rfl (fun ls hl => ?_)
              refine lv_goto (tgt := 30) hx hb d_Walk_nodes_80 (by decide) ?_
              have hDl : D = seqW (m8 rtn) l8 := by rw [← hRI, seqV_end (by omega)]; exact (catR_0 _).symm
              have hCn1 : CHD GD 2 (pf f ν3) S none q8 := by rw [← show refE 2 (pf f ν3 ob) = none by rw [pf_G ef27]; rfl]; exact hCn
              have hCn2 : CHD GD 2 (pf f ν4) S none q8 := CHG.nu hCn1 hPI.nu
              exact ihO (none, q8, (seqW (m8 rtn) l8).1, t, t2, s2, g2, ν4) _ _ _ ⟨(fun b h => nomatch h), hCn2, hNL.next (by rw [← hDl]; exact hPI)⟩ (chL_lt (hO.inL (a := ob) (by rw [hob1]; decide)) (fun b h => nomatch h)) hP hD hS (lv_sub hl [2, 3, 4, 1, 0] rfl)
            · refine vq_get (D := (dC, dI)) (ci := 6) (v := .ref b28) (C := R_Segment) (T := F_Segment) (N := 3) hx hb hts in_Segment hown hK hP (hO.inL (a := ob) (by rw [hob1]; decide)) (pf_G ef27) rfl 2 (by decide) (hts _ z_581) (fun _ h9 => h9) rfl d_Walk_nodes_75 ?_
              refine lv_astore (lv' := [(4, .ref b28), (3, .int (nI t)), (0, .ref wk), (1, .ref qu), (2, .ref cu), (5, .int (nI t)), (6, .int (nI i))]) hx hb d_Walk_nodes_78 hl (by decide) rfl (fun ls hl => ?_)
              refine lv_goto (tgt := 30) hx hb d_Walk_nodes_80 (by decide) ?_
              have hDl : D = seqW (m8 rtn) l8 := by rw [← hRI, seqV_end (by omega)]; exact (catR_0 _).symm
              have hCn1 : CHD GD 2 (pf f ν3) S (some b28) q8 := by rw [← show refE 2 (pf f ν3 ob) = (some b28) by rw [pf_G ef27]; rfl]; exact hCn
              have hCn2 : CHD GD 2 (pf f ν4) S (some b28) q8 := CHG.nu hCn1 hPI.nu
              exact ihO ((some b28), q8, (seqW (m8 rtn) l8).1, t, t2, s2, g2, ν4) _ _ _ ⟨(fun b h => by cases h; exact ⟨(hv27.2 b28 rfl).1, Nat.le_trans (hv27.2 b28 rfl).2.1 hob2⟩), hCn2, hNL.next (by rw [← hDl]; exact hPI)⟩ (chL_lt (hO.inL (a := ob) (by rw [hob1]; decide)) (fun b h => by cases h; exact (hv27.2 b28 rfl).2.2)) hP hD hS (lv_sub hl [2, 3, 4, 1, 0] rfl)
          · have hi : i < t := by rw [nI_leI (by omega) (by omega)] at c48; omega
            obtain ⟨nd7, hl7⟩ : ∃ e, l8[i - fr]? = some e := ⟨_, List.getElem?_eq_getElem (by omega)⟩
            obtain ⟨nd9, hg7, hn7⟩ := hNL.2.2.2.2.1 (i - fr) nd7 hl7
            have hnd1 : g2 i = some nd9 := (hPI.2.2.2.1 i hi).trans (by rw [show i = fr + (i - fr) by omega]; exact hg7)
            have hnd2 := (hn7.ax (hDq9 ν3 hNL.2.2.2.2.2.1)).1
            refine lv_aload_n hx hb d_Walk_nodes_51 rfl (lv_at hl 0 rfl) ?_
            refine lv_aload hx hb d_Walk_nodes_52 (lv_at hl 3 rfl) ?_
            refine lv_aload_n hx hb d_Walk_nodes_54 rfl (lv_at hl 0 rfl) ?_
            refine va_get (D := (dC, dI)) (ci := 10) (v := .ref wl) (C := R_Walk) (T := F_Walk) (N := 4) hx hb hts in_Walk hown hK hP 0 rfl rfl 0 (by decide) (hts _ w_115) (fun _ h9 => h9) rfl d_Walk_nodes_55 ?_
            refine lv_iload hx hb d_Walk_nodes_58 (lv_at hl 5 rfl) ?_
            refine vq_ald0 hx hb hK hP 1 1 rfl rfl (show i < 10000 by omega) (by decide) hnd1 d_Walk_nodes_60 ?_
            have hRd : catR D (catR (m8 rtn nd7) (seqW (m8 rtn) (l8.drop (i + 1 - fr)))) = seqW (m8 rtn) l8 := by rw [← hRI, seqV_drop hl7, show i + 1 - fr = i - fr + 1 by omega]; rfl
            have hmo := hNL.more
            have hd2 : (seqW (m8 rtn) l8).2 = D.2 + ((m8 rtn nd7).2 + (seqW (m8 rtn) (l8.drop (i + 1 - fr))).2) := by rw [← hRd]; rfl
            have hPc := hP.part (cx := [(wk, .inr (10, [.ref wl, .int (nI t2), .int (nI s2), .ref rt])), (wl, .inl (cV, 10000, .inr (.inr (.inr (.inr g2)))))]) [0, 1] rfl
            have hDc := hD.part (cx := [(wk, .inr (10, [.ref wl, .int (nI t2), .int (nI s2), .ref rt])), (wl, .inl (cV, 10000, .inr (.inr (.inr (.inr g2)))))]) [0, 1] (by decide) rfl
            have hFc := va_freeP (cx := [(wk, .inr (10, [.ref wl, .int (nI t2), .int (nI s2), .ref rt])), (wl, .inl (cV, 10000, .inr (.inr (.inr (.inr g2)))))]) hD hS hA [0, 1] rfl
            have hKc := hK.sub (tys' := [(cI, .int), (cV, .object "QueryBench$Value")]) [0, 1] rfl
            refine w_same (fun hq0 => ?_)
            refine vx_callv (vx_runV (As := [.ref ob, .ref nd9]) (rest := []) ⟨hx, hb, hml, hown, hts⟩ (p_Walk_step l hl9 K dC dI H cI cV E lv L f hO hN1 PL AL S wk wl rt hrt rtn hrn t2 s2 g2 ν4 hJ3 (fun ν2 h2 => hDq9 ν2 ((hNL.2.2.2.2.2.1.tr hPI.nu).tr h2)) nd9 nd7 hn7 n HI ob hob1 hob2 m8 (hGD.nu hO hob1 hPI.nu SUB.rf)) (cwV 2 hts (gt_V (own := R_Walk) (C := R_Walk) (i := 46) (y := y_Walk_step) i_Walk_step z_849 z_851 (gt_sel (y := y_Walk_step) (n := 4) (by decide +kernel)) w_5) rfl rfl rfl (by decide +kernel) ⟨by show 59 + 5 * n + 1 ≤ 60 + 5 * n; omega, by show 8 + (5 + 11) + (2460 + 200 * n) ≤ 2500 + 200 * n; omega⟩) ⟨ml_blind, va_recv hK hP (ci := 10) (q0 := 0) rfl rfl, fun U hU hW => ⟨rfl, ⟨hU, by rw [hU]; exact hPc, va_K.moved hW.alike hKc, hDc.weaken (fun _ _ _ _ => trivial)⟩, hN.warm hW, by rw [hU]; exact ZX.moved' hW.alike (ZX.narrow' (ZX.kept' hZ hS.2.1) hFc), by rw [hU]; exact CE.call hC hS.2.1 hFc hW, va_AO.moved hW.alike hV⟩⟩ rfl rfl hl.1 rfl (lv_room (Nat.le_of_ble_eq_true rfl)) d_Walk_nodes_61 ⟨Nat.le_of_ble_eq_true rfl, Nat.le_of_ble_eq_true rfl⟩) hS (fun q _ h => hFc q h) hFc (fun q _ h => hFc q h) (fun En ce q9 ⟨tx, sx, gx, nx⟩ t9 H1 locs ht hvm hw hB hz1 hk1 hS hce hcv hcl => ?_) (fun ⟨t29, s29, g29, n29⟩ t9 H1 locs ht hvm hw hB hz1 hk1 hS => ?_)
            · obtain ⟨hEn, hP1, hK1, hD1⟩ := hB
              rw [ht] at hP1
              obtain ⟨hP, hD⟩ := va_joinP (wr := []) (rx := [(wk, .inr (10, [.ref wl, .int tx, .int sx, .ref rt])), (wl, .inl (cV, 10000, .inr (.inr (.inr (.inr gx)))))]) (pl1 := va_pl L (pf f nx)) hP hD [0, 1] [] rfl rfl (by decide) (by decide) hk1 hFc hP1 hD1
              generalize H1 = H at hP hS hce ⊢
              have hP : va_P (dC, dI) classes ([(wk, .inr (10, [.ref wl, .int tx, .int sx, .ref rt])), (wl, .inl (cV, 10000, .inr (.inr (.inr (.inr gx)))))] ++ va_pl L (pf f nx)) H := hP
              have hD : va_D A ([(wk, .inr (10, [.ref wl, .int tx, .int sx, .ref rt])), (wl, .inl (cV, 10000, .inr (.inr (.inr (.inr gx)))))] ++ va_pl L (pf f nx)) := hD
              have hno : 10000 < sp + (m9 rtn cun).2 := by have hw : 10000 < s2 + (m8 rtn nd7).2 := hw.1; omega
              exact vx_out (fun x hx => (hex x hx).elim) hlocks hce hcv hcl (fun t9 ht2 ha => ⟨(tx, sx, gx, nx), ⟨hno, (hNL.2.2.2.2.2.1.tr hPI.nu).tr hw.2⟩, ⟨hEn, by rw [ht2]; exact hP, va_K.moved ha hK, hD⟩, hS.F ht2⟩) hS.2.2 (Nat.le_of_ble_eq_true rfl) (Nat.le_of_ble_eq_true rfl)
            · obtain ⟨⟨hP1, hK1, hD1⟩, hz9⟩ := hB
              rw [ht] at hP1
              rw [ht] at hz9
              refine w_tight (hq0.trans hz9) ?_
              have hq0 := hq0.trans hz9
              obtain ⟨hP, hD⟩ := va_joinP (wr := []) (rx := [(wk, .inr (10, [.ref wl, .int (nI t29), .int (nI s29), .ref rt])), (wl, .inl (cV, 10000, .inr (.inr (.inr (.inr g29)))))]) (pl1 := va_pl L (pf f n29)) hP hD [0, 1] [] rfl rfl (by decide) (by decide) hk1 hFc hP1 hD1
              generalize H1 = H at hP hS hq0 ⊢
              have hP : va_P (dC, dI) classes ([(wk, .inr (10, [.ref wl, .int (nI t29), .int (nI s29), .ref rt])), (wl, .inl (cV, 10000, .inr (.inr (.inr (.inr g29)))))] ++ va_pl L (pf f n29)) H := hP
              have hD : va_D A ([(wk, .inr (10, [.ref wl, .int (nI t29), .int (nI s29), .ref rt])), (wl, .inl (cV, 10000, .inr (.inr (.inr (.inr g29)))))] ++ va_pl L (pf f n29)) := hD
              have hPI2 : PU E PL AL S (catR D (m8 rtn nd7)) t s9 g1 ν3 t29 s29 g29 n29 := hPI.tr hw
              have hRI2 : catR (catR D (m8 rtn nd7)) (seqW (m8 rtn) (l8.drop (i + 1 - fr))) = seqW (m8 rtn) l8 := by rw [catR_a]; exact hRd
              refine lv_iinc (v := nI (i + 1)) (lv' := [(6, .int (nI (i + 1))), (0, .ref wk), (1, .ref qu), (2, .ref cu), (4, .ref ob), (5, .int (nI t))]) hx hb d_Walk_nodes_64 hl (k := 5) rfl (nI_1 _) (by decide) rfl (fun ls hl => ?_)
              refine lv_goto (tgt := 44) hx hb d_Walk_nodes_67 (by decide) ?_
              exact ih (i + 1, (catR D (m8 rtn nd7)), t29, s29, g29, n29) _ _ _ ⟨by show fr ≤ i + 1; omega, by show i + 1 ≤ t; omega, hPI2, hRI2⟩ (by show t - (i + 1) < t - i; omega) hP hD hS (lv_sub hl [1, 2, 3, 4, 5, 0] rfl)
  · refine lv_aload_n hx hb d_Walk_nodes_13 rfl (lv_at hl 1 rfl) ?_
    refine va_get (D := (dC, dI)) (ci := 10) (v := .ref rt) (C := R_Walk) (T := F_Walk) (N := 4) hx hb hts in_Walk hown hK hP 0 rfl rfl 3 (by decide) (hts _ z_121) (fun _ h9 => h9) rfl d_Walk_nodes_14 ?_
    refine lv_goto (tgt := 21) hx hb d_Walk_nodes_17 (by decide) ?_
    have hRn : (m9 rtn cun) = ((qryL rtn l9 [rtn]).1, 1 + (qryL rtn l9 [rtn]).2) := by rw [hm9, decide_eq_true c10]; rfl
    have hPc := hP.part (cx := [(wk, .inr (10, [.ref wl, .int (nI tp), .int (nI sp), .ref rt])), (wl, .inl (cV, 10000, .inr (.inr (.inr (.inr g)))))]) [0, 1] rfl
    have hDc := hD.part (cx := [(wk, .inr (10, [.ref wl, .int (nI tp), .int (nI sp), .ref rt])), (wl, .inl (cV, 10000, .inr (.inr (.inr (.inr g)))))]) [0, 1] (by decide) rfl
    have hFc := va_freeP (cx := [(wk, .inr (10, [.ref wl, .int (nI tp), .int (nI sp), .ref rt])), (wl, .inl (cV, 10000, .inr (.inr (.inr (.inr g)))))]) hD hS hA [0, 1] rfl
    have hKc := hK.sub (tys' := [(cI, .int), (cV, .object "QueryBench$Value")]) [0, 1] rfl
    refine w_same (fun hq0 => ?_)
    refine vx_callv (vx_runV (As := [.ref rt]) (rest := []) ⟨hx, hb, hml, hown, hts⟩ (p_Walk_push l hl9 K dC dI s.heap cI cV E lv L f hO hN1 PL AL S wk wl rt hrt rtn hrn tp sp g ν hW9 hDq9 rt rtn hrn) (cwV 1 hts (gt_V (own := R_Walk) (C := R_Walk) (i := 38) (y := y_Walk_push) i_Walk_push z_839 z_841 (gt_sel (y := y_Walk_push) (n := 4) (by decide +kernel)) w_5) rfl rfl rfl (by decide +kernel) ⟨by show 9 + 1 ≤ 60 + 5 * n; omega, by show 8 + (2 + 11) + (150) ≤ 2500 + 200 * n; omega⟩) ⟨ml_blind, va_recv hK hP (ci := 10) (q0 := 0) rfl rfl, fun U hU hW => ⟨rfl, ⟨hU, by rw [hU]; exact hPc, va_K.moved hW.alike hKc, hDc.weaken (fun _ _ _ _ => trivial)⟩, hN.warm hW, by rw [hU]; exact ZX.moved' hW.alike (ZX.narrow' (ZX.kept' hZ hS.2.1) hFc), by rw [hU]; exact CE.call hC hS.2.1 hFc hW, va_AO.moved hW.alike hV⟩⟩ rfl rfl hl.1 rfl (lv_room (Nat.le_of_ble_eq_true rfl)) d_Walk_nodes_21 ⟨Nat.le_of_ble_eq_true rfl, Nat.le_of_ble_eq_true rfl⟩) hS (fun q _ h => hFc q h) hFc (fun q _ h => hFc q h) (fun En ce q9 ⟨tx, sx, gx, nx⟩ t9 H1 locs ht hvm hw hB hz1 hk1 hS hce hcv hcl => ?_) (fun ⟨t30, s30, g30, n30⟩ t9 H1 locs ht hvm hw hB hz1 hk1 hS => ?_)
    · obtain ⟨hEn, hP1, hK1, hD1⟩ := hB
      rw [ht] at hP1
      obtain ⟨hP, hD⟩ := va_joinP (wr := []) (rx := [(wk, .inr (10, [.ref wl, .int tx, .int sx, .ref rt])), (wl, .inl (cV, 10000, .inr (.inr (.inr (.inr gx)))))]) (pl1 := va_pl L (pf f nx)) hP hD [0, 1] [] rfl rfl (by decide) (by decide) hk1 hFc hP1 hD1
      generalize H1 = H at hP hS hce ⊢
      have hP : va_P (dC, dI) classes ([(wk, .inr (10, [.ref wl, .int tx, .int sx, .ref rt])), (wl, .inl (cV, 10000, .inr (.inr (.inr (.inr gx)))))] ++ va_pl L (pf f nx)) H := hP
      have hD : va_D A ([(wk, .inr (10, [.ref wl, .int tx, .int sx, .ref rt])), (wl, .inl (cV, 10000, .inr (.inr (.inr (.inr gx)))))] ++ va_pl L (pf f nx)) := hD
      have hno : 10000 < sp + (m9 rtn cun).2 := by have hw : 10000 < sp + 1 := hw.1; rw [hRn]; show 10000 < sp + (1 + _); omega
      exact vx_out (fun x hx => (hex x hx).elim) hlocks hce hcv hcl (fun t9 ht2 ha => ⟨(tx, sx, gx, nx), ⟨hno, hw.2⟩, ⟨hEn, by rw [ht2]; exact hP, va_K.moved ha hK, hD⟩, hS.F ht2⟩) hS.2.2 (Nat.le_of_ble_eq_true rfl) (Nat.le_of_ble_eq_true rfl)
    · obtain ⟨⟨hP1, hK1, hD1⟩, hz9⟩ := hB
      rw [ht] at hP1
      rw [ht] at hz9
      refine w_tight (hq0.trans hz9) ?_
      have hq0 := hq0.trans hz9
      obtain ⟨hP, hD⟩ := va_joinP (wr := []) (rx := [(wk, .inr (10, [.ref wl, .int (nI t30), .int (nI s30), .ref rt])), (wl, .inl (cV, 10000, .inr (.inr (.inr (.inr g30)))))]) (pl1 := va_pl L (pf f n30)) hP hD [0, 1] [] rfl rfl (by decide) (by decide) hk1 hFc hP1 hD1
      generalize H1 = H at hP hS hq0 ⊢
      have hP : va_P (dC, dI) classes ([(wk, .inr (10, [.ref wl, .int (nI t30), .int (nI s30), .ref rt])), (wl, .inl (cV, 10000, .inr (.inr (.inr (.inr g30)))))] ++ va_pl L (pf f n30)) H := hP
      have hD : va_D A ([(wk, .inr (10, [.ref wl, .int (nI t30), .int (nI s30), .ref rt])), (wl, .inl (cV, 10000, .inr (.inr (.inr (.inr g30)))))] ++ va_pl L (pf f n30)) := hD
      have hNL : NLp E PL AL S (m9 rtn cun) rtn tp sp g ν l9 [rtn] tp t30 s30 g30 n30 := NLp.one hw hRn
      refine lv_aload_n hx hb d_Walk_nodes_24 rfl (lv_at hl 2 rfl) ?_
      rcases fi21 with _ | b31
      · refine vq_get (D := (dC, dI)) (ci := 4) (v := .null) (C := R_Query) (T := F_Query) (N := 4) hx hb hts in_Query hown hK hP (hO.inL (a := qu) (by rw [hqu]; decide)) (pf_Q ef21) rfl 2 (by decide) (hts _ z_552) (fun _ h9 => h9) rfl d_Walk_nodes_25 ?_
        refine lv_astoreN (lv' := [(4, .null), (3, .int (nI tp)), (0, .ref wk), (1, .ref qu), (2, .ref cu)]) hx hb d_Walk_nodes_28 hl (by decide) rfl (fun ls hl => ?_)
        refine w_loop (D := (dC, dI)) (cl := classes) (A := A) (H0 := s.heap) (nL := 7) 30 (σ := Option Nat × List QT × List NT × Nat × Nat × Nat × (Nat → Option Nat) × (Nat → Int64)) (fun ⟨o, q9, l8, fr, t, s9, g1, ν3⟩ => oR (fun b => E b = 8 ∧ lv b ≤ n) o ∧ CHD GD 2 (pf f ν3) S o q9 ∧ NLp E PL AL S (m9 rtn cun) rtn tp sp g ν q9 l8 fr t s9 g1 ν3) (fun ⟨o, q9, l8, fr, t, s9, g1, ν3⟩ => chL L o) (fun ⟨o, q9, l8, fr, t, s9, g1, ν3⟩ => [(wk, .inr (10, [.ref wl, .int (nI t), .int (nI s9), .ref rt])), (wl, .inl (cV, 10000, .inr (.inr (.inr (.inr g1)))))] ++ va_pl L (pf f ν3)) (fun ⟨o, q9, l8, fr, t, s9, g1, ν3⟩ => [(0, .ref wk), (1, .ref qu), (2, .ref cu), (3, .int (nI fr)), (4, va_rf o)]) ?_ (none, l9, [rtn], tp, t30, s30, g30, n30) ⟨(fun b h => nomatch h), CHG.nu hCh hNL.2.2.2.2.2.1, hNL⟩ hP hD hS (lv_sub hl [2, 3, 4, 1, 0] rfl)
        rintro ⟨o, q9, l8, fr, t, s9, g1, ν3⟩ H locs ls hI ih hP hD hS hl
        have hP : va_P (dC, dI) classes ([(wk, .inr (10, [.ref wl, .int (nI t), .int (nI s9), .ref rt])), (wl, .inl (cV, 10000, .inr (.inr (.inr (.inr g1)))))] ++ va_pl L (pf f ν3)) H := hP
        have hD : va_D A ([(wk, .inr (10, [.ref wl, .int (nI t), .int (nI s9), .ref rt])), (wl, .inl (cV, 10000, .inr (.inr (.inr (.inr g1)))))] ++ va_pl L (pf f ν3)) := hD
        have hl : lv_has ls 7 [(0, .ref wk), (1, .ref qu), (2, .ref cu), (3, .int (nI fr)), (4, va_rf o)] := hl
        obtain ⟨hI, hCI, hNL⟩ := hI
        have hI : oR (fun b => E b = 8 ∧ lv b ≤ n) o := hI
        have hCI : CHD GD 2 (pf f ν3) S o q9 := hCI
        have hNL : NLp E PL AL S (m9 rtn cun) rtn tp sp g ν q9 l8 fr t s9 g1 ν3 := hNL
        have hI0 : t = fr + l8.length := hNL.2.1
        have hI1 : tp ≤ fr := hNL.1
        have hI3 := hNL.2.2.1
        have hI4 := hI3.1
        have hI5 := hI3.2.1
        have ihO := ih
        rcases o with _ | ob
        · have hl : lv_has ls 7 [(0, .ref wk), (1, .ref qu), (2, .ref cu), (3, .int (nI fr)), (4, .null)] := hl
          obtain rfl := hCI.no
          refine lv_aloadN hx hb d_Walk_nodes_30 (lv_at hl 4 rfl) ?_
          refine lv_ifnullN (tgt := 83) hx hb d_Walk_nodes_32 (by decide) ?_
          refine lv_iload_n hx hb d_Walk_nodes_83 rfl (lv_at hl 3 rfl) ?_
          refine w_same (fun hq => ?_)
          refine W.widen (k := 1) (n := 6) (Nat.le_of_ble_eq_true rfl) (Nat.le_of_ble_eq_true rfl) ?_
          refine vx_ret ?_
          exact W.iret (v := (nI fr)) hx hb hr (fun t9 ht hW => ⟨⟨(nI fr), (t, s9, g1, ν3), rfl, ⟨fr, rfl, hNL.fin⟩, ⟨by rw [ht]; exact hP, va_K.moved hW.alike hK, hD⟩, by rw [ht]; exact hq⟩, hS.F ht⟩) hS.2.2 d_Walk_nodes_84
        · have hl : lv_has ls 7 [(0, .ref wk), (1, .ref qu), (2, .ref cu), (3, .int (nI fr)), (4, .ref ob)] := hl
          obtain ⟨hob1, hob2⟩ := hI ob rfl
          obtain ⟨m8, q8, rfl, hS3, hGD, hCn⟩ := hCI.so
          refine lv_aload hx hb d_Walk_nodes_30 (lv_at hl 4 rfl) ?_
          refine lv_ifnull hx hb d_Walk_nodes_32 ?_
          refine lv_aload_n hx hb d_Walk_nodes_35 rfl (lv_at hl 0 rfl) ?_
          refine va_get (D := (dC, dI)) (ci := 10) (v := .int (nI t)) (C := R_Walk) (T := F_Walk) (N := 4) hx hb hts in_Walk hown hK hP 0 rfl rfl 1 (by decide) (hts _ z_117) (fun _ h9 => h9) rfl d_Walk_nodes_36 ?_
          refine lv_istore (lv' := [(5, .int (nI t)), (0, .ref wk), (1, .ref qu), (2, .ref cu), (3, .int (nI fr)), (4, .ref ob)]) hx hb d_Walk_nodes_39 hl (by decide) rfl (fun ls hl => ?_)
          refine lv_iload_n hx hb d_Walk_nodes_41 rfl (lv_at hl 4 rfl) ?_
          refine lv_istore (lv' := [(6, .int (nI fr)), (5, .int (nI t)), (0, .ref wk), (1, .ref qu), (2, .ref cu), (3, .int (nI fr)), (4, .ref ob)]) hx hb d_Walk_nodes_42 hl (by decide) rfl (fun ls hl => ?_)
          obtain ⟨ds32, fi32, nx32, ef32, hv32⟩ := hO.seg hob1
          refine w_loop (D := (dC, dI)) (cl := classes) (A := A) (H0 := s.heap) (nL := 7) 44 (σ := Nat × (List NT × Nat) × Nat × Nat × (Nat → Option Nat) × (Nat → Int64)) (fun ⟨i, D, t2, s2, g2, ν4⟩ => fr ≤ i ∧ i ≤ t ∧ PU E PL AL S D t s9 g1 ν3 t2 s2 g2 ν4 ∧ catR D (seqW (m8 rtn) (l8.drop (i - fr))) = seqW (m8 rtn) l8) (fun ⟨i, D, t2, s2, g2, ν4⟩ => t - i) (fun ⟨i, D, t2, s2, g2, ν4⟩ => [(wk, .inr (10, [.ref wl, .int (nI t2), .int (nI s2), .ref rt])), (wl, .inl (cV, 10000, .inr (.inr (.inr (.inr g2)))))] ++ va_pl L (pf f ν4)) (fun ⟨i, D, t2, s2, g2, ν4⟩ => [(0, .ref wk), (1, .ref qu), (2, .ref cu), (4, .ref ob), (5, .int (nI t)), (6, .int (nI i))]) ?_ (fr, ([], 0), t, s9, g1, ν3) ⟨Nat.le_refl _, by show fr ≤ t; omega, PU.rf hI3, by show catR ([], 0) (seqW (m8 rtn) (l8.drop (fr - fr))) = _; rw [Nat.sub_self, catR_l]; rfl⟩ hP hD hS (lv_sub hl [2, 3, 4, 6, 1, 0] rfl)
          rintro ⟨i, D, t2, s2, g2, ν4⟩ H locs ls hI ih hP hD hS hl
          have hP : va_P (dC, dI) classes ([(wk, .inr (10, [.ref wl, .int (nI t2), .int (nI s2), .ref rt])), (wl, .inl (cV, 10000, .inr (.inr (.inr (.inr g2)))))] ++ va_pl L (pf f ν4)) H := hP
          have hD : va_D A ([(wk, .inr (10, [.ref wl, .int (nI t2), .int (nI s2), .ref rt])), (wl, .inl (cV, 10000, .inr (.inr (.inr (.inr g2)))))] ++ va_pl L (pf f ν4)) := hD
          have hl : lv_has ls 7 [(0, .ref wk), (1, .ref qu), (2, .ref cu), (4, .ref ob), (5, .int (nI t)), (6, .int (nI i))] := hl
          obtain ⟨hJ, hJ1, hPI, hRI⟩ := hI
          have hJ : fr ≤ i := hJ
          have hJ1 : i ≤ t := hJ1
          have hPI : PU E PL AL S D t s9 g1 ν3 t2 s2 g2 ν4 := hPI
          have hRI : catR D (seqW (m8 rtn) (l8.drop (i - fr))) = seqW (m8 rtn) l8 := hRI
          have hJ3 := hPI.wi
          have hJ4 := hJ3.1
          have hJ5 := hJ3.2.1
          have hJ6 := hPI.spt
          have hJ7 := hPI.le
          refine lv_iload hx hb d_Walk_nodes_44 (lv_at hl 5 rfl) ?_
          refine lv_iload hx hb d_Walk_nodes_46 (lv_at hl 4 rfl) ?_
          refine lv_icmp_ge (tgt := 70) hx hb d_Walk_nodes_48 (by decide) (fun c48 => ?_) (fun c48 => ?_)
          · have hie : t ≤ i := by rw [nI_leI (by omega) (by omega)] at c48; omega
            refine lv_iload hx hb d_Walk_nodes_70 (lv_at hl 4 rfl) ?_
            refine lv_istore_n (lv' := [(3, .int (nI t)), (0, .ref wk), (1, .ref qu), (2, .ref cu), (4, .ref ob), (5, .int (nI t)), (6, .int (nI i))]) hx hb d_Walk_nodes_72 rfl hl (by decide) rfl (fun ls hl => ?_)
            refine lv_aload hx hb d_Walk_nodes_73 (lv_at hl 4 rfl) ?_
            rcases nx32 with _ | b33
            · refine vq_get (D := (dC, dI)) (ci := 6) (v := .null) (C := R_Segment) (T := F_Segment) (N := 3) hx hb hts in_Segment hown hK hP (hO.inL (a := ob) (by rw [hob1]; decide)) (pf_G ef32) rfl 2 (by decide) (hts _ z_581) (fun _ h9 => h9) rfl d_Walk_nodes_75 ?_
              refine lv_astoreN (lv' := [(4, .null), (3, .int (nI t)), (0, .ref wk), (1, .ref qu), (2, .ref cu), (5, .int (nI t)), (6, .int (nI i))]) hx hb d_Walk_nodes_78 hl (by decide) rfl (fun ls hl => ?_)
              refine lv_goto (tgt := 30) hx hb d_Walk_nodes_80 (by decide) ?_
              have hDl : D = seqW (m8 rtn) l8 := by rw [← hRI, seqV_end (by omega)]; exact (catR_0 _).symm
              have hCn1 : CHD GD 2 (pf f ν3) S none q8 := by rw [← show refE 2 (pf f ν3 ob) = none by rw [pf_G ef32]; rfl]; exact hCn
              have hCn2 : CHD GD 2 (pf f ν4) S none q8 := CHG.nu hCn1 hPI.nu
              exact ihO (none, q8, (seqW (m8 rtn) l8).1, t, t2, s2, g2, ν4) _ _ _ ⟨(fun b h => nomatch h), hCn2, hNL.next (by rw [← hDl]; exact hPI)⟩ (chL_lt (hO.inL (a := ob) (by rw [hob1]; decide)) (fun b h => nomatch h)) hP hD hS (lv_sub hl [2, 3, 4, 1, 0] rfl)
            · refine vq_get (D := (dC, dI)) (ci := 6) (v := .ref b33) (C := R_Segment) (T := F_Segment) (N := 3) hx hb hts in_Segment hown hK hP (hO.inL (a := ob) (by rw [hob1]; decide)) (pf_G ef32) rfl 2 (by decide) (hts _ z_581) (fun _ h9 => h9) rfl d_Walk_nodes_75 ?_
              refine lv_astore (lv' := [(4, .ref b33), (3, .int (nI t)), (0, .ref wk), (1, .ref qu), (2, .ref cu), (5, .int (nI t)), (6, .int (nI i))]) hx hb d_Walk_nodes_78 hl (by decide) rfl (fun ls hl => ?_)
              refine lv_goto (tgt := 30) hx hb d_Walk_nodes_80 (by decide) ?_
              have hDl : D = seqW (m8 rtn) l8 := by rw [← hRI, seqV_end (by omega)]; exact (catR_0 _).symm
              have hCn1 : CHD GD 2 (pf f ν3) S (some b33) q8 := by rw [← show refE 2 (pf f ν3 ob) = (some b33) by rw [pf_G ef32]; rfl]; exact hCn
              have hCn2 : CHD GD 2 (pf f ν4) S (some b33) q8 := CHG.nu hCn1 hPI.nu
              exact ihO ((some b33), q8, (seqW (m8 rtn) l8).1, t, t2, s2, g2, ν4) _ _ _ ⟨(fun b h => by cases h; exact ⟨(hv32.2 b33 rfl).1, Nat.le_trans (hv32.2 b33 rfl).2.1 hob2⟩), hCn2, hNL.next (by rw [← hDl]; exact hPI)⟩ (chL_lt (hO.inL (a := ob) (by rw [hob1]; decide)) (fun b h => by cases h; exact (hv32.2 b33 rfl).2.2)) hP hD hS (lv_sub hl [2, 3, 4, 1, 0] rfl)
          · have hi : i < t := by rw [nI_leI (by omega) (by omega)] at c48; omega
            obtain ⟨nd7, hl7⟩ : ∃ e, l8[i - fr]? = some e := ⟨_, List.getElem?_eq_getElem (by omega)⟩
            obtain ⟨nd9, hg7, hn7⟩ := hNL.2.2.2.2.1 (i - fr) nd7 hl7
            have hnd1 : g2 i = some nd9 := (hPI.2.2.2.1 i hi).trans (by rw [show i = fr + (i - fr) by omega]; exact hg7)
            have hnd2 := (hn7.ax (hDq9 ν3 hNL.2.2.2.2.2.1)).1
            refine lv_aload_n hx hb d_Walk_nodes_51 rfl (lv_at hl 0 rfl) ?_
            refine lv_aload hx hb d_Walk_nodes_52 (lv_at hl 3 rfl) ?_
            refine lv_aload_n hx hb d_Walk_nodes_54 rfl (lv_at hl 0 rfl) ?_
            refine va_get (D := (dC, dI)) (ci := 10) (v := .ref wl) (C := R_Walk) (T := F_Walk) (N := 4) hx hb hts in_Walk hown hK hP 0 rfl rfl 0 (by decide) (hts _ w_115) (fun _ h9 => h9) rfl d_Walk_nodes_55 ?_
            refine lv_iload hx hb d_Walk_nodes_58 (lv_at hl 5 rfl) ?_
            refine vq_ald0 hx hb hK hP 1 1 rfl rfl (show i < 10000 by omega) (by decide) hnd1 d_Walk_nodes_60 ?_
            have hRd : catR D (catR (m8 rtn nd7) (seqW (m8 rtn) (l8.drop (i + 1 - fr)))) = seqW (m8 rtn) l8 := by rw [← hRI, seqV_drop hl7, show i + 1 - fr = i - fr + 1 by omega]; rfl
            have hmo := hNL.more
            have hd2 : (seqW (m8 rtn) l8).2 = D.2 + ((m8 rtn nd7).2 + (seqW (m8 rtn) (l8.drop (i + 1 - fr))).2) := by rw [← hRd]; rfl
            have hPc := hP.part (cx := [(wk, .inr (10, [.ref wl, .int (nI t2), .int (nI s2), .ref rt])), (wl, .inl (cV, 10000, .inr (.inr (.inr (.inr g2)))))]) [0, 1] rfl
            have hDc := hD.part (cx := [(wk, .inr (10, [.ref wl, .int (nI t2), .int (nI s2), .ref rt])), (wl, .inl (cV, 10000, .inr (.inr (.inr (.inr g2)))))]) [0, 1] (by decide) rfl
            have hFc := va_freeP (cx := [(wk, .inr (10, [.ref wl, .int (nI t2), .int (nI s2), .ref rt])), (wl, .inl (cV, 10000, .inr (.inr (.inr (.inr g2)))))]) hD hS hA [0, 1] rfl
            have hKc := hK.sub (tys' := [(cI, .int), (cV, .object "QueryBench$Value")]) [0, 1] rfl
            refine w_same (fun hq0 => ?_)
            refine vx_callv (vx_runV (As := [.ref ob, .ref nd9]) (rest := []) ⟨hx, hb, hml, hown, hts⟩ (p_Walk_step l hl9 K dC dI H cI cV E lv L f hO hN1 PL AL S wk wl rt hrt rtn hrn t2 s2 g2 ν4 hJ3 (fun ν2 h2 => hDq9 ν2 ((hNL.2.2.2.2.2.1.tr hPI.nu).tr h2)) nd9 nd7 hn7 n HI ob hob1 hob2 m8 (hGD.nu hO hob1 hPI.nu SUB.rf)) (cwV 2 hts (gt_V (own := R_Walk) (C := R_Walk) (i := 46) (y := y_Walk_step) i_Walk_step z_849 z_851 (gt_sel (y := y_Walk_step) (n := 4) (by decide +kernel)) w_5) rfl rfl rfl (by decide +kernel) ⟨by show 59 + 5 * n + 1 ≤ 60 + 5 * n; omega, by show 8 + (5 + 11) + (2460 + 200 * n) ≤ 2500 + 200 * n; omega⟩) ⟨ml_blind, va_recv hK hP (ci := 10) (q0 := 0) rfl rfl, fun U hU hW => ⟨rfl, ⟨hU, by rw [hU]; exact hPc, va_K.moved hW.alike hKc, hDc.weaken (fun _ _ _ _ => trivial)⟩, hN.warm hW, by rw [hU]; exact ZX.moved' hW.alike (ZX.narrow' (ZX.kept' hZ hS.2.1) hFc), by rw [hU]; exact CE.call hC hS.2.1 hFc hW, va_AO.moved hW.alike hV⟩⟩ rfl rfl hl.1 rfl (lv_room (Nat.le_of_ble_eq_true rfl)) d_Walk_nodes_61 ⟨Nat.le_of_ble_eq_true rfl, Nat.le_of_ble_eq_true rfl⟩) hS (fun q _ h => hFc q h) hFc (fun q _ h => hFc q h) (fun En ce q9 ⟨tx, sx, gx, nx⟩ t9 H1 locs ht hvm hw hB hz1 hk1 hS hce hcv hcl => ?_) (fun ⟨t34, s34, g34, n34⟩ t9 H1 locs ht hvm hw hB hz1 hk1 hS => ?_)
            · obtain ⟨hEn, hP1, hK1, hD1⟩ := hB
              rw [ht] at hP1
              obtain ⟨hP, hD⟩ := va_joinP (wr := []) (rx := [(wk, .inr (10, [.ref wl, .int tx, .int sx, .ref rt])), (wl, .inl (cV, 10000, .inr (.inr (.inr (.inr gx)))))]) (pl1 := va_pl L (pf f nx)) hP hD [0, 1] [] rfl rfl (by decide) (by decide) hk1 hFc hP1 hD1
              generalize H1 = H at hP hS hce ⊢
              have hP : va_P (dC, dI) classes ([(wk, .inr (10, [.ref wl, .int tx, .int sx, .ref rt])), (wl, .inl (cV, 10000, .inr (.inr (.inr (.inr gx)))))] ++ va_pl L (pf f nx)) H := hP
              have hD : va_D A ([(wk, .inr (10, [.ref wl, .int tx, .int sx, .ref rt])), (wl, .inl (cV, 10000, .inr (.inr (.inr (.inr gx)))))] ++ va_pl L (pf f nx)) := hD
              have hno : 10000 < sp + (m9 rtn cun).2 := by have hw : 10000 < s2 + (m8 rtn nd7).2 := hw.1; omega
              exact vx_out (fun x hx => (hex x hx).elim) hlocks hce hcv hcl (fun t9 ht2 ha => ⟨(tx, sx, gx, nx), ⟨hno, (hNL.2.2.2.2.2.1.tr hPI.nu).tr hw.2⟩, ⟨hEn, by rw [ht2]; exact hP, va_K.moved ha hK, hD⟩, hS.F ht2⟩) hS.2.2 (Nat.le_of_ble_eq_true rfl) (Nat.le_of_ble_eq_true rfl)
            · obtain ⟨⟨hP1, hK1, hD1⟩, hz9⟩ := hB
              rw [ht] at hP1
              rw [ht] at hz9
              refine w_tight (hq0.trans hz9) ?_
              have hq0 := hq0.trans hz9
              obtain ⟨hP, hD⟩ := va_joinP (wr := []) (rx := [(wk, .inr (10, [.ref wl, .int (nI t34), .int (nI s34), .ref rt])), (wl, .inl (cV, 10000, .inr (.inr (.inr (.inr g34)))))]) (pl1 := va_pl L (pf f n34)) hP hD [0, 1] [] rfl rfl (by decide) (by decide) hk1 hFc hP1 hD1
              generalize H1 = H at hP hS hq0 ⊢
              have hP : va_P (dC, dI) classes ([(wk, .inr (10, [.ref wl, .int (nI t34), .int (nI s34), .ref rt])), (wl, .inl (cV, 10000, .inr (.inr (.inr (.inr g34)))))] ++ va_pl L (pf f n34)) H := hP
              have hD : va_D A ([(wk, .inr (10, [.ref wl, .int (nI t34), .int (nI s34), .ref rt])), (wl, .inl (cV, 10000, .inr (.inr (.inr (.inr g34)))))] ++ va_pl L (pf f n34)) := hD
              have hPI2 : PU E PL AL S (catR D (m8 rtn nd7)) t s9 g1 ν3 t34 s34 g34 n34 := hPI.tr hw
              have hRI2 : catR (catR D (m8 rtn nd7)) (seqW (m8 rtn) (l8.drop (i + 1 - fr))) = seqW (m8 rtn) l8 := by rw [catR_a]; exact hRd
              refine lv_iinc (v := nI (i + 1)) (lv' := [(6, .int (nI (i + 1))), (0, .ref wk), (1, .ref qu), (2, .ref cu), (4, .ref ob), (5, .int (nI t))]) hx hb d_Walk_nodes_64 hl (k := 5) rfl (nI_1 _) (by decide) rfl (fun ls hl => ?_)
              refine lv_goto (tgt := 44) hx hb d_Walk_nodes_67 (by decide) ?_
              exact ih (i + 1, (catR D (m8 rtn nd7)), t34, s34, g34, n34) _ _ _ ⟨by show fr ≤ i + 1; omega, by show i + 1 ≤ t; omega, hPI2, hRI2⟩ (by show t - (i + 1) < t - i; omega) hP hD hS (lv_sub hl [1, 2, 3, 4, 5, 0] rfl)
      · refine vq_get (D := (dC, dI)) (ci := 4) (v := .ref b31) (C := R_Query) (T := F_Query) (N := 4) hx hb hts in_Query hown hK hP (hO.inL (a := qu) (by rw [hqu]; decide)) (pf_Q ef21) rfl 2 (by decide) (hts _ z_552) (fun _ h9 => h9) rfl d_Walk_nodes_25 ?_
        refine lv_astore (lv' := [(4, .ref b31), (3, .int (nI tp)), (0, .ref wk), (1, .ref qu), (2, .ref cu)]) hx hb d_Walk_nodes_28 hl (by decide) rfl (fun ls hl => ?_)
        refine w_loop (D := (dC, dI)) (cl := classes) (A := A) (H0 := s.heap) (nL := 7) 30 (σ := Option Nat × List QT × List NT × Nat × Nat × Nat × (Nat → Option Nat) × (Nat → Int64)) (fun ⟨o, q9, l8, fr, t, s9, g1, ν3⟩ => oR (fun b => E b = 8 ∧ lv b ≤ n) o ∧ CHD GD 2 (pf f ν3) S o q9 ∧ NLp E PL AL S (m9 rtn cun) rtn tp sp g ν q9 l8 fr t s9 g1 ν3) (fun ⟨o, q9, l8, fr, t, s9, g1, ν3⟩ => chL L o) (fun ⟨o, q9, l8, fr, t, s9, g1, ν3⟩ => [(wk, .inr (10, [.ref wl, .int (nI t), .int (nI s9), .ref rt])), (wl, .inl (cV, 10000, .inr (.inr (.inr (.inr g1)))))] ++ va_pl L (pf f ν3)) (fun ⟨o, q9, l8, fr, t, s9, g1, ν3⟩ => [(0, .ref wk), (1, .ref qu), (2, .ref cu), (3, .int (nI fr)), (4, va_rf o)]) ?_ ((some b31), l9, [rtn], tp, t30, s30, g30, n30) ⟨(fun b h => by cases h; exact ⟨(hv21.1 b31 rfl).1, Nat.le_trans (hv21.1 b31 rfl).2 hlq⟩), CHG.nu hCh hNL.2.2.2.2.2.1, hNL⟩ hP hD hS (lv_sub hl [2, 3, 4, 1, 0] rfl)
        rintro ⟨o, q9, l8, fr, t, s9, g1, ν3⟩ H locs ls hI ih hP hD hS hl
        have hP : va_P (dC, dI) classes ([(wk, .inr (10, [.ref wl, .int (nI t), .int (nI s9), .ref rt])), (wl, .inl (cV, 10000, .inr (.inr (.inr (.inr g1)))))] ++ va_pl L (pf f ν3)) H := hP
        have hD : va_D A ([(wk, .inr (10, [.ref wl, .int (nI t), .int (nI s9), .ref rt])), (wl, .inl (cV, 10000, .inr (.inr (.inr (.inr g1)))))] ++ va_pl L (pf f ν3)) := hD
        have hl : lv_has ls 7 [(0, .ref wk), (1, .ref qu), (2, .ref cu), (3, .int (nI fr)), (4, va_rf o)] := hl
        obtain ⟨hI, hCI, hNL⟩ := hI
        have hI : oR (fun b => E b = 8 ∧ lv b ≤ n) o := hI
        have hCI : CHD GD 2 (pf f ν3) S o q9 := hCI
        have hNL : NLp E PL AL S (m9 rtn cun) rtn tp sp g ν q9 l8 fr t s9 g1 ν3 := hNL
        have hI0 : t = fr + l8.length := hNL.2.1
        have hI1 : tp ≤ fr := hNL.1
        have hI3 := hNL.2.2.1
        have hI4 := hI3.1
        have hI5 := hI3.2.1
        have ihO := ih
        rcases o with _ | ob
        · have hl : lv_has ls 7 [(0, .ref wk), (1, .ref qu), (2, .ref cu), (3, .int (nI fr)), (4, .null)] := hl
          obtain rfl := hCI.no
          refine lv_aloadN hx hb d_Walk_nodes_30 (lv_at hl 4 rfl) ?_
          refine lv_ifnullN (tgt := 83) hx hb d_Walk_nodes_32 (by decide) ?_
          refine lv_iload_n hx hb d_Walk_nodes_83 rfl (lv_at hl 3 rfl) ?_
          refine w_same (fun hq => ?_)
          refine W.widen (k := 1) (n := 6) (Nat.le_of_ble_eq_true rfl) (Nat.le_of_ble_eq_true rfl) ?_
          refine vx_ret ?_
          exact W.iret (v := (nI fr)) hx hb hr (fun t9 ht hW => ⟨⟨(nI fr), (t, s9, g1, ν3), rfl, ⟨fr, rfl, hNL.fin⟩, ⟨by rw [ht]; exact hP, va_K.moved hW.alike hK, hD⟩, by rw [ht]; exact hq⟩, hS.F ht⟩) hS.2.2 d_Walk_nodes_84
        · have hl : lv_has ls 7 [(0, .ref wk), (1, .ref qu), (2, .ref cu), (3, .int (nI fr)), (4, .ref ob)] := hl
          obtain ⟨hob1, hob2⟩ := hI ob rfl
          obtain ⟨m8, q8, rfl, hS3, hGD, hCn⟩ := hCI.so
          refine lv_aload hx hb d_Walk_nodes_30 (lv_at hl 4 rfl) ?_
          refine lv_ifnull hx hb d_Walk_nodes_32 ?_
          refine lv_aload_n hx hb d_Walk_nodes_35 rfl (lv_at hl 0 rfl) ?_
          refine va_get (D := (dC, dI)) (ci := 10) (v := .int (nI t)) (C := R_Walk) (T := F_Walk) (N := 4) hx hb hts in_Walk hown hK hP 0 rfl rfl 1 (by decide) (hts _ z_117) (fun _ h9 => h9) rfl d_Walk_nodes_36 ?_
          refine lv_istore (lv' := [(5, .int (nI t)), (0, .ref wk), (1, .ref qu), (2, .ref cu), (3, .int (nI fr)), (4, .ref ob)]) hx hb d_Walk_nodes_39 hl (by decide) rfl (fun ls hl => ?_)
          refine lv_iload_n hx hb d_Walk_nodes_41 rfl (lv_at hl 4 rfl) ?_
          refine lv_istore (lv' := [(6, .int (nI fr)), (5, .int (nI t)), (0, .ref wk), (1, .ref qu), (2, .ref cu), (3, .int (nI fr)), (4, .ref ob)]) hx hb d_Walk_nodes_42 hl (by decide) rfl (fun ls hl => ?_)
          obtain ⟨ds35, fi35, nx35, ef35, hv35⟩ := hO.seg hob1
          refine w_loop (D := (dC, dI)) (cl := classes) (A := A) (H0 := s.heap) (nL := 7) 44 (σ := Nat × (List NT × Nat) × Nat × Nat × (Nat → Option Nat) × (Nat → Int64)) (fun ⟨i, D, t2, s2, g2, ν4⟩ => fr ≤ i ∧ i ≤ t ∧ PU E PL AL S D t s9 g1 ν3 t2 s2 g2 ν4 ∧ catR D (seqW (m8 rtn) (l8.drop (i - fr))) = seqW (m8 rtn) l8) (fun ⟨i, D, t2, s2, g2, ν4⟩ => t - i) (fun ⟨i, D, t2, s2, g2, ν4⟩ => [(wk, .inr (10, [.ref wl, .int (nI t2), .int (nI s2), .ref rt])), (wl, .inl (cV, 10000, .inr (.inr (.inr (.inr g2)))))] ++ va_pl L (pf f ν4)) (fun ⟨i, D, t2, s2, g2, ν4⟩ => [(0, .ref wk), (1, .ref qu), (2, .ref cu), (4, .ref ob), (5, .int (nI t)), (6, .int (nI i))]) ?_ (fr, ([], 0), t, s9, g1, ν3) ⟨Nat.le_refl _, by show fr ≤ t; omega, PU.rf hI3, by show catR ([], 0) (seqW (m8 rtn) (l8.drop (fr - fr))) = _; rw [Nat.sub_self, catR_l]; rfl⟩ hP hD hS (lv_sub hl [2, 3, 4, 6, 1, 0] rfl)
          rintro ⟨i, D, t2, s2, g2, ν4⟩ H locs ls hI ih hP hD hS hl
          have hP : va_P (dC, dI) classes ([(wk, .inr (10, [.ref wl, .int (nI t2), .int (nI s2), .ref rt])), (wl, .inl (cV, 10000, .inr (.inr (.inr (.inr g2)))))] ++ va_pl L (pf f ν4)) H := hP
          have hD : va_D A ([(wk, .inr (10, [.ref wl, .int (nI t2), .int (nI s2), .ref rt])), (wl, .inl (cV, 10000, .inr (.inr (.inr (.inr g2)))))] ++ va_pl L (pf f ν4)) := hD
          have hl : lv_has ls 7 [(0, .ref wk), (1, .ref qu), (2, .ref cu), (4, .ref ob), (5, .int (nI t)), (6, .int (nI i))] := hl
          obtain ⟨hJ, hJ1, hPI, hRI⟩ := hI
          have hJ : fr ≤ i := hJ
          have hJ1 : i ≤ t := hJ1
          have hPI : PU E PL AL S D t s9 g1 ν3 t2 s2 g2 ν4 := hPI
          have hRI : catR D (seqW (m8 rtn) (l8.drop (i - fr))) = seqW (m8 rtn) l8 := hRI
          have hJ3 := hPI.wi
          have hJ4 := hJ3.1
          have hJ5 := hJ3.2.1
          have hJ6 := hPI.spt
          have hJ7 := hPI.le
          refine lv_iload hx hb d_Walk_nodes_44 (lv_at hl 5 rfl) ?_
          refine lv_iload hx hb d_Walk_nodes_46 (lv_at hl 4 rfl) ?_
          refine lv_icmp_ge (tgt := 70) hx hb d_Walk_nodes_48 (by decide) (fun c48 => ?_) (fun c48 => ?_)
          · have hie : t ≤ i := by rw [nI_leI (by omega) (by omega)] at c48; omega
            refine lv_iload hx hb d_Walk_nodes_70 (lv_at hl 4 rfl) ?_
            refine lv_istore_n (lv' := [(3, .int (nI t)), (0, .ref wk), (1, .ref qu), (2, .ref cu), (4, .ref ob), (5, .int (nI t)), (6, .int (nI i))]) hx hb d_Walk_nodes_72 rfl hl (by decide) rfl (fun ls hl => ?_)
            refine lv_aload hx hb d_Walk_nodes_73 (lv_at hl 4 rfl) ?_
            rcases nx35 with _ | b36
            · refine vq_get (D := (dC, dI)) (ci := 6) (v := .null) (C := R_Segment) (T := F_Segment) (N := 3) hx hb hts in_Segment hown hK hP (hO.inL (a := ob) (by rw [hob1]; decide)) (pf_G ef35) rfl 2 (by decide) (hts _ z_581) (fun _ h9 => h9) rfl d_Walk_nodes_75 ?_
              refine lv_astoreN (lv' := [(4, .null), (3, .int (nI t)), (0, .ref wk), (1, .ref qu), (2, .ref cu), (5, .int (nI t)), (6, .int (nI i))]) hx hb d_Walk_nodes_78 hl (by decide) rfl (fun ls hl => ?_)
              refine lv_goto (tgt := 30) hx hb d_Walk_nodes_80 (by decide) ?_
              have hDl : D = seqW (m8 rtn) l8 := by rw [← hRI, seqV_end (by omega)]; exact (catR_0 _).symm
              have hCn1 : CHD GD 2 (pf f ν3) S none q8 := by rw [← show refE 2 (pf f ν3 ob) = none by rw [pf_G ef35]; rfl]; exact hCn
              have hCn2 : CHD GD 2 (pf f ν4) S none q8 := CHG.nu hCn1 hPI.nu
              exact ihO (none, q8, (seqW (m8 rtn) l8).1, t, t2, s2, g2, ν4) _ _ _ ⟨(fun b h => nomatch h), hCn2, hNL.next (by rw [← hDl]; exact hPI)⟩ (chL_lt (hO.inL (a := ob) (by rw [hob1]; decide)) (fun b h => nomatch h)) hP hD hS (lv_sub hl [2, 3, 4, 1, 0] rfl)
            · refine vq_get (D := (dC, dI)) (ci := 6) (v := .ref b36) (C := R_Segment) (T := F_Segment) (N := 3) hx hb hts in_Segment hown hK hP (hO.inL (a := ob) (by rw [hob1]; decide)) (pf_G ef35) rfl 2 (by decide) (hts _ z_581) (fun _ h9 => h9) rfl d_Walk_nodes_75 ?_
              refine lv_astore (lv' := [(4, .ref b36), (3, .int (nI t)), (0, .ref wk), (1, .ref qu), (2, .ref cu), (5, .int (nI t)), (6, .int (nI i))]) hx hb d_Walk_nodes_78 hl (by decide) rfl (fun ls hl => ?_)
              refine lv_goto (tgt := 30) hx hb d_Walk_nodes_80 (by decide) ?_
              have hDl : D = seqW (m8 rtn) l8 := by rw [← hRI, seqV_end (by omega)]; exact (catR_0 _).symm
              have hCn1 : CHD GD 2 (pf f ν3) S (some b36) q8 := by rw [← show refE 2 (pf f ν3 ob) = (some b36) by rw [pf_G ef35]; rfl]; exact hCn
              have hCn2 : CHD GD 2 (pf f ν4) S (some b36) q8 := CHG.nu hCn1 hPI.nu
              exact ihO ((some b36), q8, (seqW (m8 rtn) l8).1, t, t2, s2, g2, ν4) _ _ _ ⟨(fun b h => by cases h; exact ⟨(hv35.2 b36 rfl).1, Nat.le_trans (hv35.2 b36 rfl).2.1 hob2⟩), hCn2, hNL.next (by rw [← hDl]; exact hPI)⟩ (chL_lt (hO.inL (a := ob) (by rw [hob1]; decide)) (fun b h => by cases h; exact (hv35.2 b36 rfl).2.2)) hP hD hS (lv_sub hl [2, 3, 4, 1, 0] rfl)
          · have hi : i < t := by rw [nI_leI (by omega) (by omega)] at c48; omega
            obtain ⟨nd7, hl7⟩ : ∃ e, l8[i - fr]? = some e := ⟨_, List.getElem?_eq_getElem (by omega)⟩
            obtain ⟨nd9, hg7, hn7⟩ := hNL.2.2.2.2.1 (i - fr) nd7 hl7
            have hnd1 : g2 i = some nd9 := (hPI.2.2.2.1 i hi).trans (by rw [show i = fr + (i - fr) by omega]; exact hg7)
            have hnd2 := (hn7.ax (hDq9 ν3 hNL.2.2.2.2.2.1)).1
            refine lv_aload_n hx hb d_Walk_nodes_51 rfl (lv_at hl 0 rfl) ?_
            refine lv_aload hx hb d_Walk_nodes_52 (lv_at hl 3 rfl) ?_
            refine lv_aload_n hx hb d_Walk_nodes_54 rfl (lv_at hl 0 rfl) ?_
            refine va_get (D := (dC, dI)) (ci := 10) (v := .ref wl) (C := R_Walk) (T := F_Walk) (N := 4) hx hb hts in_Walk hown hK hP 0 rfl rfl 0 (by decide) (hts _ w_115) (fun _ h9 => h9) rfl d_Walk_nodes_55 ?_
            refine lv_iload hx hb d_Walk_nodes_58 (lv_at hl 5 rfl) ?_
            refine vq_ald0 hx hb hK hP 1 1 rfl rfl (show i < 10000 by omega) (by decide) hnd1 d_Walk_nodes_60 ?_
            have hRd : catR D (catR (m8 rtn nd7) (seqW (m8 rtn) (l8.drop (i + 1 - fr)))) = seqW (m8 rtn) l8 := by rw [← hRI, seqV_drop hl7, show i + 1 - fr = i - fr + 1 by omega]; rfl
            have hmo := hNL.more
            have hd2 : (seqW (m8 rtn) l8).2 = D.2 + ((m8 rtn nd7).2 + (seqW (m8 rtn) (l8.drop (i + 1 - fr))).2) := by rw [← hRd]; rfl
            have hPc := hP.part (cx := [(wk, .inr (10, [.ref wl, .int (nI t2), .int (nI s2), .ref rt])), (wl, .inl (cV, 10000, .inr (.inr (.inr (.inr g2)))))]) [0, 1] rfl
            have hDc := hD.part (cx := [(wk, .inr (10, [.ref wl, .int (nI t2), .int (nI s2), .ref rt])), (wl, .inl (cV, 10000, .inr (.inr (.inr (.inr g2)))))]) [0, 1] (by decide) rfl
            have hFc := va_freeP (cx := [(wk, .inr (10, [.ref wl, .int (nI t2), .int (nI s2), .ref rt])), (wl, .inl (cV, 10000, .inr (.inr (.inr (.inr g2)))))]) hD hS hA [0, 1] rfl
            have hKc := hK.sub (tys' := [(cI, .int), (cV, .object "QueryBench$Value")]) [0, 1] rfl
            refine w_same (fun hq0 => ?_)
            refine vx_callv (vx_runV (As := [.ref ob, .ref nd9]) (rest := []) ⟨hx, hb, hml, hown, hts⟩ (p_Walk_step l hl9 K dC dI H cI cV E lv L f hO hN1 PL AL S wk wl rt hrt rtn hrn t2 s2 g2 ν4 hJ3 (fun ν2 h2 => hDq9 ν2 ((hNL.2.2.2.2.2.1.tr hPI.nu).tr h2)) nd9 nd7 hn7 n HI ob hob1 hob2 m8 (hGD.nu hO hob1 hPI.nu SUB.rf)) (cwV 2 hts (gt_V (own := R_Walk) (C := R_Walk) (i := 46) (y := y_Walk_step) i_Walk_step z_849 z_851 (gt_sel (y := y_Walk_step) (n := 4) (by decide +kernel)) w_5) rfl rfl rfl (by decide +kernel) ⟨by show 59 + 5 * n + 1 ≤ 60 + 5 * n; omega, by show 8 + (5 + 11) + (2460 + 200 * n) ≤ 2500 + 200 * n; omega⟩) ⟨ml_blind, va_recv hK hP (ci := 10) (q0 := 0) rfl rfl, fun U hU hW => ⟨rfl, ⟨hU, by rw [hU]; exact hPc, va_K.moved hW.alike hKc, hDc.weaken (fun _ _ _ _ => trivial)⟩, hN.warm hW, by rw [hU]; exact ZX.moved' hW.alike (ZX.narrow' (ZX.kept' hZ hS.2.1) hFc), by rw [hU]; exact CE.call hC hS.2.1 hFc hW, va_AO.moved hW.alike hV⟩⟩ rfl rfl hl.1 rfl (lv_room (Nat.le_of_ble_eq_true rfl)) d_Walk_nodes_61 ⟨Nat.le_of_ble_eq_true rfl, Nat.le_of_ble_eq_true rfl⟩) hS (fun q _ h => hFc q h) hFc (fun q _ h => hFc q h) (fun En ce q9 ⟨tx, sx, gx, nx⟩ t9 H1 locs ht hvm hw hB hz1 hk1 hS hce hcv hcl => ?_) (fun ⟨t37, s37, g37, n37⟩ t9 H1 locs ht hvm hw hB hz1 hk1 hS => ?_)
            · obtain ⟨hEn, hP1, hK1, hD1⟩ := hB
              rw [ht] at hP1
              obtain ⟨hP, hD⟩ := va_joinP (wr := []) (rx := [(wk, .inr (10, [.ref wl, .int tx, .int sx, .ref rt])), (wl, .inl (cV, 10000, .inr (.inr (.inr (.inr gx)))))]) (pl1 := va_pl L (pf f nx)) hP hD [0, 1] [] rfl rfl (by decide) (by decide) hk1 hFc hP1 hD1
              generalize H1 = H at hP hS hce ⊢
              have hP : va_P (dC, dI) classes ([(wk, .inr (10, [.ref wl, .int tx, .int sx, .ref rt])), (wl, .inl (cV, 10000, .inr (.inr (.inr (.inr gx)))))] ++ va_pl L (pf f nx)) H := hP
              have hD : va_D A ([(wk, .inr (10, [.ref wl, .int tx, .int sx, .ref rt])), (wl, .inl (cV, 10000, .inr (.inr (.inr (.inr gx)))))] ++ va_pl L (pf f nx)) := hD
              have hno : 10000 < sp + (m9 rtn cun).2 := by have hw : 10000 < s2 + (m8 rtn nd7).2 := hw.1; omega
              exact vx_out (fun x hx => (hex x hx).elim) hlocks hce hcv hcl (fun t9 ht2 ha => ⟨(tx, sx, gx, nx), ⟨hno, (hNL.2.2.2.2.2.1.tr hPI.nu).tr hw.2⟩, ⟨hEn, by rw [ht2]; exact hP, va_K.moved ha hK, hD⟩, hS.F ht2⟩) hS.2.2 (Nat.le_of_ble_eq_true rfl) (Nat.le_of_ble_eq_true rfl)
            · obtain ⟨⟨hP1, hK1, hD1⟩, hz9⟩ := hB
              rw [ht] at hP1
              rw [ht] at hz9
              refine w_tight (hq0.trans hz9) ?_
              have hq0 := hq0.trans hz9
              obtain ⟨hP, hD⟩ := va_joinP (wr := []) (rx := [(wk, .inr (10, [.ref wl, .int (nI t37), .int (nI s37), .ref rt])), (wl, .inl (cV, 10000, .inr (.inr (.inr (.inr g37)))))]) (pl1 := va_pl L (pf f n37)) hP hD [0, 1] [] rfl rfl (by decide) (by decide) hk1 hFc hP1 hD1
              generalize H1 = H at hP hS hq0 ⊢
              have hP : va_P (dC, dI) classes ([(wk, .inr (10, [.ref wl, .int (nI t37), .int (nI s37), .ref rt])), (wl, .inl (cV, 10000, .inr (.inr (.inr (.inr g37)))))] ++ va_pl L (pf f n37)) H := hP
              have hD : va_D A ([(wk, .inr (10, [.ref wl, .int (nI t37), .int (nI s37), .ref rt])), (wl, .inl (cV, 10000, .inr (.inr (.inr (.inr g37)))))] ++ va_pl L (pf f n37)) := hD
              have hPI2 : PU E PL AL S (catR D (m8 rtn nd7)) t s9 g1 ν3 t37 s37 g37 n37 := hPI.tr hw
              have hRI2 : catR (catR D (m8 rtn nd7)) (seqW (m8 rtn) (l8.drop (i + 1 - fr))) = seqW (m8 rtn) l8 := by rw [catR_a]; exact hRd
              refine lv_iinc (v := nI (i + 1)) (lv' := [(6, .int (nI (i + 1))), (0, .ref wk), (1, .ref qu), (2, .ref cu), (4, .ref ob), (5, .int (nI t))]) hx hb d_Walk_nodes_64 hl (k := 5) rfl (nI_1 _) (by decide) rfl (fun ls hl => ?_)
              refine lv_goto (tgt := 44) hx hb d_Walk_nodes_67 (by decide) ?_
              exact ih (i + 1, (catR D (m8 rtn nd7)), t37, s37, g37, n37) _ _ _ ⟨by show fr ≤ i + 1; omega, by show i + 1 ≤ t; omega, hPI2, hRI2⟩ (by show t - (i + 1) < t - i; omega) hP hD hS (lv_sub hl [1, 2, 3, 4, 5, 0] rfl)
