set_option maxHeartbeats 4000000 in
set_option maxRecDepth 100000 in
/-- QueryBench.run: what it answers and writes -/
theorem t_QB_run (l : Launch) (hl9 : l.stackTraces = false) (K : Nat → Nat × Nat) (dC : Nat → ClassId) (dI : Nat → Nat → Nat) (sz : Heap) (cI cV : ClassId) (E lv : Nat → Nat) (L : List Nat) (f : Nat → va_E) (hO : PO cI cV E lv L f) (hN1 : ∀ a, E a ≠ 1) (cB : ClassId) (q0 ds wk wl : Nat) (r0 r1 r2 : Value) (p1 p2 b2 s2 : Nat) (wa wb : Int32) (wr : Option Nat) (g : Nat → Option Nat) (ν : Nat → Int64) (n : Nat) (qo : Option Nat) (hqo : oR (fun q => E q = 7 ∧ lv q ≤ n) qo) (dg : Nat → Option Nat) (hdg : ∀ j, j < 4 → oR (isF E) (dg j)) (d : Int32) (dk : Int32) (dgp : Nat → Int32) (dh : Nat → Option Nat) (S : Nat → Nat) (X : Nat → Option (JVt 32)) (Y : Option QT) (hDQ : DQx E f ν S dg X qo Y) : vx_Met l y_QB_run (k_QB_run :: gtbl) ({ frames := 90 + 5 * n, cells := 1, slots := 6, locals := 2700 + 200 * n }) (va_Pc [.ref q0, .int d] (ml K dC dI ([(q0, .inr (11, [r0, r1, r2, .ref wk, .ref ds, va_rf qo, .ref p1, .ref p2])), (ds, .inl (cV, 4, .inr (.inr (.inr (.inr dg))))), (wk, .inr (10, [.ref wl, .int wa, .int wb, va_rf wr])), (wl, .inl (cV, 10000, .inr (.inr (.inr (.inr g))))), (p2, .inr (3, [.ref b2, .int dk, .ref s2])), (b2, .inl (cB, 16384, .inl dgp)), (s2, .inl (cV, 32, .inr (.inr (.inr (.inr dh)))))] ++ va_pl L (pf f ν)) [(cI, .int), (cV, .object "QueryBench$Value"), (cB, .byte)] sz)) (va_Qi (fun (r : Int32) (u : Int32 × Int32 × (Nat → Option Nat) × Option Nat × (Nat → Int64) × Nat × (Nat → Int32) × (Nat → Option Nat)) => (∃ T, RNc X Y d r T ∧ WOK 0 dgp T u.2.2.2.2.2.1 u.2.2.2.2.2.2.1) ∧ NUg S ν u.2.2.2.2.1) (fun u t9 => mz dC dI ([(q0, .inr (11, [r0, r1, r2, .ref wk, .ref ds, va_rf qo, .ref p2, .ref p1])), (ds, .inl (cV, 4, .inr (.inr (.inr (.inr dg))))), (wk, .inr (10, [.ref wl, .int u.1, .int u.2.1, va_rf u.2.2.2.1])), (wl, .inl (cV, 10000, .inr (.inr (.inr (.inr u.2.2.1))))), (p2, .inr (3, [.ref b2, .int (nI u.2.2.2.2.2.1), .ref s2])), (b2, .inl (cB, 16384, .inl u.2.2.2.2.2.2.1)), (s2, .inl (cV, 32, .inr (.inr (.inr (.inr u.2.2.2.2.2.2.2)))))] ++ va_pl L (pf f u.2.2.2.2.1)) [(cI, .int), (cV, .object "QueryBench$Value"), (cB, .byte)] (va_A ([(q0, .inr (11, [r0, r1, r2, .ref wk, .ref ds, va_rf qo, .ref p1, .ref p2])), (ds, .inl (cV, 4, .inr (.inr (.inr (.inr dg))))), (wk, .inr (10, [.ref wl, .int wa, .int wb, va_rf wr])), (wl, .inl (cV, 10000, .inr (.inr (.inr (.inr g))))), (p2, .inr (3, [.ref b2, .int dk, .ref s2])), (b2, .inl (cB, 16384, .inl dgp)), (s2, .inl (cV, 32, .inr (.inr (.inr (.inr dh)))))] ++ va_pl L (pf f ν)) sz.size) t9 ∧ szk sz t9.heap (0) (0)) (va_A ([(q0, .inr (11, [r0, r1, r2, .ref wk, .ref ds, va_rf qo, .ref p1, .ref p2])), (ds, .inl (cV, 4, .inr (.inr (.inr (.inr dg))))), (wk, .inr (10, [.ref wl, .int wa, .int wb, va_rf wr])), (wl, .inl (cV, 10000, .inr (.inr (.inr (.inr g))))), (p2, .inr (3, [.ref b2, .int dk, .ref s2])), (b2, .inl (cB, 16384, .inl dgp)), (s2, .inl (cV, 32, .inr (.inr (.inr (.inr dh)))))] ++ va_pl L (pf f ν)) sz.size)) (vx_X (fun (u : Int32 × Int32 × (Nat → Option Nat) × Option Nat × (Nat → Int64) × Int32 × (Nat → Int32) × (Nat → Option Nat)) => NUg S ν u.2.2.2.2.1) (fun En u t9 => (RNt X Y d En) ∧ mz dC dI ([(q0, .inr (11, [r0, r1, r2, .ref wk, .ref ds, va_rf qo, .ref p1, .ref p2])), (ds, .inl (cV, 4, .inr (.inr (.inr (.inr dg))))), (wk, .inr (10, [.ref wl, .int u.1, .int u.2.1, va_rf u.2.2.2.1])), (wl, .inl (cV, 10000, .inr (.inr (.inr (.inr u.2.2.1))))), (p2, .inr (3, [.ref b2, .int u.2.2.2.2.2.1, .ref s2])), (b2, .inl (cB, 16384, .inl u.2.2.2.2.2.2.1)), (s2, .inl (cV, 32, .inr (.inr (.inr (.inr u.2.2.2.2.2.2.2)))))] ++ va_pl L (pf f u.2.2.2.2.1)) [(cI, .int), (cV, .object "QueryBench$Value"), (cB, .byte)] (va_A ([(q0, .inr (11, [r0, r1, r2, .ref wk, .ref ds, va_rf qo, .ref p1, .ref p2])), (ds, .inl (cV, 4, .inr (.inr (.inr (.inr dg))))), (wk, .inr (10, [.ref wl, .int wa, .int wb, va_rf wr])), (wl, .inl (cV, 10000, .inr (.inr (.inr (.inr g))))), (p2, .inr (3, [.ref b2, .int dk, .ref s2])), (b2, .inl (cB, 16384, .inl dgp)), (s2, .inl (cV, 32, .inr (.inr (.inr (.inr dh)))))] ++ va_pl L (pf f ν)) sz.size) t9) (va_A ([(q0, .inr (11, [r0, r1, r2, .ref wk, .ref ds, va_rf qo, .ref p1, .ref p2])), (ds, .inl (cV, 4, .inr (.inr (.inr (.inr dg))))), (wk, .inr (10, [.ref wl, .int wa, .int wb, va_rf wr])), (wl, .inl (cV, 10000, .inr (.inr (.inr (.inr g))))), (p2, .inr (3, [.ref b2, .int dk, .ref s2])), (b2, .inl (cB, 16384, .inl dgp)), (s2, .inl (cV, 32, .inr (.inr (.inr (.inr dh)))))] ++ va_pl L (pf f ν)) sz.size)) (1) (6) (va_A ([(q0, .inr (11, [r0, r1, r2, .ref wk, .ref ds, va_rf qo, .ref p1, .ref p2])), (ds, .inl (cV, 4, .inr (.inr (.inr (.inr dg))))), (wk, .inr (10, [.ref wl, .int wa, .int wb, va_rf wr])), (wl, .inl (cV, 10000, .inr (.inr (.inr (.inr g))))), (p2, .inr (3, [.ref b2, .int dk, .ref s2])), (b2, .inl (cB, 16384, .inl dgp)), (s2, .inl (cV, 32, .inr (.inr (.inr (.inr dh)))))] ++ va_pl L (pf f ν)) sz.size) := by
  refine vx_ofW (cc := b_QB_run) (maxL := 4) (ret := (some .int)) (by decide) rfl ?_
  intro p e s m args below meth c s₁ B hml hex hv
  obtain ⟨rfl, ⟨hsz, hP, hK, hD0⟩, hN, hZ, hC, hV⟩ := hv
  have hx := B.exec
  have hb := B.bytes
  have hr := B.returns
  have hts0 := atoms_spec (ws := k_QB_run :: gtbl) B.pre
  have hts := fun w h => hts0 w (List.mem_cons_of_mem _ h)
  have hown : s.vm.findClass R_QB = some m.cls := findClass_of_methodNamed B.named
  have hlocks := B.notSynchronized
  subst hsz
  have hD := hD0.self (sz := s.heap.size)
  generalize hAe : va_A ([(q0, .inr (11, [r0, r1, r2, .ref wk, .ref ds, va_rf qo, .ref p1, .ref p2])), (ds, .inl (cV, 4, .inr (.inr (.inr (.inr dg))))), (wk, .inr (10, [.ref wl, .int wa, .int wb, va_rf wr])), (wl, .inl (cV, 10000, .inr (.inr (.inr (.inr g))))), (p2, .inr (3, [.ref b2, .int dk, .ref s2])), (b2, .inl (cB, 16384, .inl dgp)), (s2, .inl (cV, 32, .inr (.inr (.inr (.inr dh)))))] ++ va_pl L (pf f ν)) s.heap.size = A at hD hZ hC ⊢
  have hA : ∀ q : Nat, s.heap.size ≤ q → A q := fun q h => by rw [← hAe]; exact Or.inr h
  have hS : va_S A s.heap s.heap [] := va_S.rf
  have hP : va_P (dC, dI) classes ([(q0, .inr (11, [r0, r1, r2, .ref wk, .ref ds, va_rf qo, .ref p1, .ref p2])), (ds, .inl (cV, 4, .inr (.inr (.inr (.inr dg))))), (wk, .inr (10, [.ref wl, .int wa, .int wb, va_rf wr])), (wl, .inl (cV, 10000, .inr (.inr (.inr (.inr g))))), (p2, .inr (3, [.ref b2, .int dk, .ref s2])), (b2, .inl (cB, 16384, .inl dgp)), (s2, .inl (cV, 32, .inr (.inr (.inr (.inr dh)))))] ++ va_pl L (pf f ν)) s.heap := hP
  have hl := lv_entry ([.ref q0, .int d]) (n := 4) (Nat.le_of_ble_eq_true rfl)
  rw [lg_entry_eq]
  generalize (lg_sl ([.ref q0, .int d]) ++ List.replicate (4 - (lg_sl ([.ref q0, .int d])).length) Slot.unset).toArray = ls at hl ⊢
  have hl : lv_has ls 4 [(0, .ref q0), (1, .int d)] := hl
  refine lv_iload_n hx hb d_QB_run_0 rfl (lv_at hl 1 rfl) ?_
  have hPc := hP.sub (ws' := []) [] rfl
  have hDc := hD.sub (ws' := []) [] (by decide) rfl
  have hFc := va_free (wc := []) hD hS hA [] rfl
  have hKc := hK.sub (tys' := []) [] rfl
  refine w_same (fun hq0 => ?_)
  refine vx_callv (vx_runS (As := [.int d]) (rest := []) ⟨hx, hb, hml, hown, hts⟩ (c_QB_checkNumber l hl9 dC dI s.heap d) (va_cwS 1 hts (gt_S (own := R_QB) (i := 69) (y := y_QB_checkNumber) i_QB_checkNumber z_283 z_284 w_1) rfl rfl rfl (by decide +kernel) ⟨by show 8 + 1 ≤ 90 + 5 * n; omega, by show 8 + (1 + 11) + (110) ≤ 2700 + 200 * n; omega⟩) ⟨mx_blind, fun U hU hW => ⟨rfl, ⟨hU, by rw [hU]; exact hPc, va_K.moved hW.alike hKc, hDc.weaken (fun _ _ _ _ => trivial)⟩, hN.warm hW, by rw [hU]; exact ZX.moved' hW.alike (ZX.narrow' (ZX.kept' hZ hS.2.1) hFc)⟩⟩ rfl rfl hl.1 rfl (lv_room (Nat.le_of_ble_eq_true rfl)) d_QB_run_1 ⟨Nat.le_of_ble_eq_true rfl, Nat.le_of_ble_eq_true rfl⟩) hS (fun q _ h => hFc q h) hFc (fun q _ h => hFc q h) (fun En ce q9 _u t9 H1 locs ht hvm hw hB hz1 hk1 hS hce hcv hcl => ?_) (fun _u t9 H1 locs ht hvm hw hB hz1 hk1 hS => ?_)
  · obtain ⟨hEn, hP1, hK1, hD1⟩ := hB
    rw [ht] at hP1
    obtain ⟨hP, hD⟩ := va_joinQ (wr := [(q0, .inr (11, [r0, r1, r2, .ref wk, .ref ds, va_rf qo, .ref p1, .ref p2])), (ds, .inl (cV, 4, .inr (.inr (.inr (.inr dg))))), (wk, .inr (10, [.ref wl, .int wa, .int wb, va_rf wr])), (wl, .inl (cV, 10000, .inr (.inr (.inr (.inr g))))), (p2, .inr (3, [.ref b2, .int dk, .ref s2])), (b2, .inl (cB, 16384, .inl dgp)), (s2, .inl (cV, 32, .inr (.inr (.inr (.inr dh)))))]) (w1 := []) hP hD [] [0, 1, 2, 3, 4, 5, 6] rfl rfl (by decide) (by decide) hk1 hFc hP1 hD1
    generalize H1 = H at hP hS hce ⊢
    have hP : va_P (dC, dI) classes ([(q0, .inr (11, [r0, r1, r2, .ref wk, .ref ds, va_rf qo, .ref p1, .ref p2])), (ds, .inl (cV, 4, .inr (.inr (.inr (.inr dg))))), (wk, .inr (10, [.ref wl, .int wa, .int wb, va_rf wr])), (wl, .inl (cV, 10000, .inr (.inr (.inr (.inr g))))), (p2, .inr (3, [.ref b2, .int dk, .ref s2])), (b2, .inl (cB, 16384, .inl dgp)), (s2, .inl (cV, 32, .inr (.inr (.inr (.inr dh)))))] ++ va_pl L (pf f ν)) H := hP
    have hD : va_D A ([(q0, .inr (11, [r0, r1, r2, .ref wk, .ref ds, va_rf qo, .ref p1, .ref p2])), (ds, .inl (cV, 4, .inr (.inr (.inr (.inr dg))))), (wk, .inr (10, [.ref wl, .int wa, .int wb, va_rf wr])), (wl, .inl (cV, 10000, .inr (.inr (.inr (.inr g))))), (p2, .inr (3, [.ref b2, .int dk, .ref s2])), (b2, .inl (cB, 16384, .inl dgp)), (s2, .inl (cV, 32, .inr (.inr (.inr (.inr dh)))))] ++ va_pl L (pf f ν)) := hD
    exact vx_out (fun x hx => (hex x hx).elim) hlocks hce hcv hcl (fun t9 ht2 ha => ⟨(wa, wb, g, wr, ν, dk, dgp, dh), NUg.rf, ⟨Or.inl (Or.inl ⟨hEn, hw⟩), by rw [ht2]; exact hP, va_K.moved ha hK, hD⟩, hS.F ht2⟩) hS.2.2 (Nat.le_of_ble_eq_true rfl) (Nat.le_of_ble_eq_true rfl)
  · obtain ⟨⟨hP1, hK1, hD1⟩, hz9⟩ := hB
    rw [ht] at hP1
    rw [ht] at hz9
    refine w_tight (hq0.trans hz9) ?_
    have hq0 := hq0.trans hz9
    obtain ⟨hP, hD⟩ := va_joinQ (wr := [(q0, .inr (11, [r0, r1, r2, .ref wk, .ref ds, va_rf qo, .ref p1, .ref p2])), (ds, .inl (cV, 4, .inr (.inr (.inr (.inr dg))))), (wk, .inr (10, [.ref wl, .int wa, .int wb, va_rf wr])), (wl, .inl (cV, 10000, .inr (.inr (.inr (.inr g))))), (p2, .inr (3, [.ref b2, .int dk, .ref s2])), (b2, .inl (cB, 16384, .inl dgp)), (s2, .inl (cV, 32, .inr (.inr (.inr (.inr dh)))))]) (w1 := []) hP hD [] [0, 1, 2, 3, 4, 5, 6] rfl rfl (by decide) (by decide) hk1 hFc hP1 hD1
    generalize H1 = H at hP hS hq0 ⊢
    have hP : va_P (dC, dI) classes ([(q0, .inr (11, [r0, r1, r2, .ref wk, .ref ds, va_rf qo, .ref p1, .ref p2])), (ds, .inl (cV, 4, .inr (.inr (.inr (.inr dg))))), (wk, .inr (10, [.ref wl, .int wa, .int wb, va_rf wr])), (wl, .inl (cV, 10000, .inr (.inr (.inr (.inr g))))), (p2, .inr (3, [.ref b2, .int dk, .ref s2])), (b2, .inl (cB, 16384, .inl dgp)), (s2, .inl (cV, 32, .inr (.inr (.inr (.inr dh)))))] ++ va_pl L (pf f ν)) H := hP
    have hD : va_D A ([(q0, .inr (11, [r0, r1, r2, .ref wk, .ref ds, va_rf qo, .ref p1, .ref p2])), (ds, .inl (cV, 4, .inr (.inr (.inr (.inr dg))))), (wk, .inr (10, [.ref wl, .int wa, .int wb, va_rf wr])), (wl, .inl (cV, 10000, .inr (.inr (.inr (.inr g))))), (p2, .inr (3, [.ref b2, .int dk, .ref s2])), (b2, .inl (cB, 16384, .inl dgp)), (s2, .inl (cV, 32, .inr (.inr (.inr (.inr dh)))))] ++ va_pl L (pf f ν)) := hD
    have hw : ¬ d < 0 ∧ d < 4 := hw
    obtain ⟨j, hj, ej⟩ : ∃ j, j < 4 ∧ d = nI j := by
      rcases pk_ix d (n := 4) (by decide) with h9 | h9 | h9
      · exact absurd h9 hw.1
      · exact absurd hw.2 (Int32.not_lt.mpr h9)
      · exact h9
    subst ej
    have hl : lv_has ls 4 [(0, .ref q0), (1, .int (nI j))] := hl
    refine lv_aload_n hx hb d_QB_run_4 rfl (lv_at hl 0 rfl) ?_
    refine lv_iload_n hx hb d_QB_run_5 rfl (lv_at hl 1 rfl) ?_
    have hPc := hP.sub (ws' := [(q0, .inr (11, [r0, r1, r2, .ref wk, .ref ds, va_rf qo, .ref p1, .ref p2])), (ds, .inl (cV, 4, .inr (.inr (.inr (.inr dg)))))]) [0, 1] rfl
    have hDc := hD.sub (ws' := [(q0, .inr (11, [r0, r1, r2, .ref wk, .ref ds, va_rf qo, .ref p1, .ref p2])), (ds, .inl (cV, 4, .inr (.inr (.inr (.inr dg)))))]) [0, 1] (by decide) rfl
    have hFc := va_free (wc := [(q0, .inr (11, [r0, r1, r2, .ref wk, .ref ds, va_rf qo, .ref p1, .ref p2])), (ds, .inl (cV, 4, .inr (.inr (.inr (.inr dg)))))]) hD hS hA [0, 1] rfl
    have hKc := hK.sub (tys' := [(cV, .object "QueryBench$Value")]) [1] rfl
    refine w_same (fun hq0 => ?_)
    refine vx_callv (vx_runV (As := [.int (nI j)]) (rest := []) ⟨hx, hb, hml, hown, hts⟩ (p_QB_checkReady l hl9 dC dI H cV q0 ds r0 r1 r2 (.ref wk) p1 p2 qo dg j hj) (cwV 1 hts (gt_V (own := R_QB) (C := R_QB) (i := 96) (y := y_QB_checkReady) i_QB_checkReady z_812 z_814 (gt_sel (y := y_QB_checkReady) (n := 8) (by decide +kernel)) w_1) rfl rfl rfl (by decide +kernel) ⟨by show 8 + 1 ≤ 90 + 5 * n; omega, by show 8 + (2 + 11) + (110) ≤ 2700 + 200 * n; omega⟩) ⟨mx_blind, va_recv hK hP (ci := 11) (q0 := 0) rfl rfl, fun U hU hW => ⟨rfl, ⟨hU, by rw [hU]; exact hPc, va_K.moved hW.alike hKc, hDc.weaken (fun _ _ _ _ => trivial)⟩, hN.warm hW, by rw [hU]; exact ZX.moved' hW.alike (ZX.narrow' (ZX.kept' hZ hS.2.1) hFc)⟩⟩ rfl rfl hl.1 rfl (lv_room (Nat.le_of_ble_eq_true rfl)) d_QB_run_6 ⟨Nat.le_of_ble_eq_true rfl, Nat.le_of_ble_eq_true rfl⟩) hS (fun q _ h => hFc q h) hFc (fun q _ h => hFc q h) (fun En ce q9 _u t9 H1 locs ht hvm hw hB hz1 hk1 hS hce hcv hcl => ?_) (fun _u t9 H1 locs ht hvm hw hB hz1 hk1 hS => ?_)
    · obtain ⟨hEn, hP1, hK1, hD1⟩ := hB
      rw [ht] at hP1
      obtain ⟨hP, hD⟩ := va_joinQ (wr := [(wk, .inr (10, [.ref wl, .int wa, .int wb, va_rf wr])), (wl, .inl (cV, 10000, .inr (.inr (.inr (.inr g))))), (p2, .inr (3, [.ref b2, .int dk, .ref s2])), (b2, .inl (cB, 16384, .inl dgp)), (s2, .inl (cV, 32, .inr (.inr (.inr (.inr dh)))))]) (w1 := [(q0, .inr (11, [r0, r1, r2, .ref wk, .ref ds, va_rf qo, .ref p1, .ref p2])), (ds, .inl (cV, 4, .inr (.inr (.inr (.inr dg)))))]) hP hD [0, 1] [2, 3, 4, 5, 6] rfl rfl (by decide) (by decide) hk1 hFc hP1 hD1
      generalize H1 = H at hP hS hce ⊢
      have hP : va_P (dC, dI) classes ([(wk, .inr (10, [.ref wl, .int wa, .int wb, va_rf wr])), (wl, .inl (cV, 10000, .inr (.inr (.inr (.inr g))))), (p2, .inr (3, [.ref b2, .int dk, .ref s2])), (b2, .inl (cB, 16384, .inl dgp)), (s2, .inl (cV, 32, .inr (.inr (.inr (.inr dh))))), (q0, .inr (11, [r0, r1, r2, .ref wk, .ref ds, va_rf qo, .ref p1, .ref p2])), (ds, .inl (cV, 4, .inr (.inr (.inr (.inr dg)))))] ++ va_pl L (pf f ν)) H := hP
      have hD : va_D A ([(wk, .inr (10, [.ref wl, .int wa, .int wb, va_rf wr])), (wl, .inl (cV, 10000, .inr (.inr (.inr (.inr g))))), (p2, .inr (3, [.ref b2, .int dk, .ref s2])), (b2, .inl (cB, 16384, .inl dgp)), (s2, .inl (cV, 32, .inr (.inr (.inr (.inr dh))))), (q0, .inr (11, [r0, r1, r2, .ref wk, .ref ds, va_rf qo, .ref p1, .ref p2])), (ds, .inl (cV, 4, .inr (.inr (.inr (.inr dg)))))] ++ va_pl L (pf f ν)) := hD
      have hP := hP.part (cx := [(q0, .inr (11, [r0, r1, r2, .ref wk, .ref ds, va_rf qo, .ref p1, .ref p2])), (ds, .inl (cV, 4, .inr (.inr (.inr (.inr dg))))), (wk, .inr (10, [.ref wl, .int wa, .int wb, va_rf wr])), (wl, .inl (cV, 10000, .inr (.inr (.inr (.inr g))))), (p2, .inr (3, [.ref b2, .int dk, .ref s2])), (b2, .inl (cB, 16384, .inl dgp)), (s2, .inl (cV, 32, .inr (.inr (.inr (.inr dh)))))]) [5, 6, 0, 1, 2, 3, 4] rfl
      have hD := hD.part (cx := [(q0, .inr (11, [r0, r1, r2, .ref wk, .ref ds, va_rf qo, .ref p1, .ref p2])), (ds, .inl (cV, 4, .inr (.inr (.inr (.inr dg))))), (wk, .inr (10, [.ref wl, .int wa, .int wb, va_rf wr])), (wl, .inl (cV, 10000, .inr (.inr (.inr (.inr g))))), (p2, .inr (3, [.ref b2, .int dk, .ref s2])), (b2, .inl (cB, 16384, .inl dgp)), (s2, .inl (cV, 32, .inr (.inr (.inr (.inr dh)))))]) [5, 6, 0, 1, 2, 3, 4] (by decide) rfl
      have hno9 : X j = none ∨ Y = none := by
        rcases hw with h9 | h9
        · rcases hDQ.1 j hj with q | ⟨dv, x, AL, q1, -⟩
          · exact Or.inl q.2
          · rw [h9] at q1; cases q1
        · rcases hDQ.2 with q | ⟨qu, m, q1, -⟩
          · exact Or.inr q.2
          · rw [h9] at q1; cases q1
      exact vx_out (fun x hx => (hex x hx).elim) hlocks hce hcv hcl (fun t9 ht2 ha => ⟨(wa, wb, g, wr, ν, dk, dgp, dh), NUg.rf, ⟨Or.inl (Or.inr (Or.inl ⟨hEn, j, hj, rfl, hno9⟩)), by rw [ht2]; exact hP, va_K.moved ha hK, hD⟩, hS.F ht2⟩) hS.2.2 (Nat.le_of_ble_eq_true rfl) (Nat.le_of_ble_eq_true rfl)
    · obtain ⟨⟨hP1, hK1, hD1⟩, hz9⟩ := hB
      rw [ht] at hP1
      rw [ht] at hz9
      refine w_tight (hq0.trans hz9) ?_
      have hq0 := hq0.trans hz9
      obtain ⟨hP, hD⟩ := va_joinQ (wr := [(wk, .inr (10, [.ref wl, .int wa, .int wb, va_rf wr])), (wl, .inl (cV, 10000, .inr (.inr (.inr (.inr g))))), (p2, .inr (3, [.ref b2, .int dk, .ref s2])), (b2, .inl (cB, 16384, .inl dgp)), (s2, .inl (cV, 32, .inr (.inr (.inr (.inr dh)))))]) (w1 := [(q0, .inr (11, [r0, r1, r2, .ref wk, .ref ds, va_rf qo, .ref p1, .ref p2])), (ds, .inl (cV, 4, .inr (.inr (.inr (.inr dg)))))]) hP hD [0, 1] [2, 3, 4, 5, 6] rfl rfl (by decide) (by decide) hk1 hFc hP1 hD1
      generalize H1 = H at hP hS hq0 ⊢
      have hP : va_P (dC, dI) classes ([(wk, .inr (10, [.ref wl, .int wa, .int wb, va_rf wr])), (wl, .inl (cV, 10000, .inr (.inr (.inr (.inr g))))), (p2, .inr (3, [.ref b2, .int dk, .ref s2])), (b2, .inl (cB, 16384, .inl dgp)), (s2, .inl (cV, 32, .inr (.inr (.inr (.inr dh))))), (q0, .inr (11, [r0, r1, r2, .ref wk, .ref ds, va_rf qo, .ref p1, .ref p2])), (ds, .inl (cV, 4, .inr (.inr (.inr (.inr dg)))))] ++ va_pl L (pf f ν)) H := hP
      have hD : va_D A ([(wk, .inr (10, [.ref wl, .int wa, .int wb, va_rf wr])), (wl, .inl (cV, 10000, .inr (.inr (.inr (.inr g))))), (p2, .inr (3, [.ref b2, .int dk, .ref s2])), (b2, .inl (cB, 16384, .inl dgp)), (s2, .inl (cV, 32, .inr (.inr (.inr (.inr dh))))), (q0, .inr (11, [r0, r1, r2, .ref wk, .ref ds, va_rf qo, .ref p1, .ref p2])), (ds, .inl (cV, 4, .inr (.inr (.inr (.inr dg)))))] ++ va_pl L (pf f ν)) := hD
      have hP := hP.part (cx := [(q0, .inr (11, [r0, r1, r2, .ref wk, .ref ds, va_rf qo, .ref p1, .ref p2])), (ds, .inl (cV, 4, .inr (.inr (.inr (.inr dg))))), (wk, .inr (10, [.ref wl, .int wa, .int wb, va_rf wr])), (wl, .inl (cV, 10000, .inr (.inr (.inr (.inr g))))), (p2, .inr (3, [.ref b2, .int dk, .ref s2])), (b2, .inl (cB, 16384, .inl dgp)), (s2, .inl (cV, 32, .inr (.inr (.inr (.inr dh)))))]) [5, 6, 0, 1, 2, 3, 4] rfl
      have hD := hD.part (cx := [(q0, .inr (11, [r0, r1, r2, .ref wk, .ref ds, va_rf qo, .ref p1, .ref p2])), (ds, .inl (cV, 4, .inr (.inr (.inr (.inr dg))))), (wk, .inr (10, [.ref wl, .int wa, .int wb, va_rf wr])), (wl, .inl (cV, 10000, .inr (.inr (.inr (.inr g))))), (p2, .inr (3, [.ref b2, .int dk, .ref s2])), (b2, .inl (cB, 16384, .inl dgp)), (s2, .inl (cV, 32, .inr (.inr (.inr (.inr dh)))))]) [5, 6, 0, 1, 2, 3, 4] (by decide) rfl
      obtain ⟨⟨dv, hdv0⟩, ⟨qu, hqu0⟩⟩ := hw
      subst hqu0
      have hdv := hdg j hj dv hdv0
      obtain ⟨hqu, hlq⟩ := hqo qu rfl
      obtain ⟨xd, AL, hX, hhd, hDq9, hDx⟩ : ∃ (x : JVt 32) (AL : List Nat), X j = some x ∧ AL.head? = some dv ∧ (∀ ν2, NUg S ν ν2 → DOC E (pf f ν2) (preN (rtN x)) AL) ∧ ∀ ν2, DUX (pf f ν2) x AL := by
        rcases hDQ.1 j hj with q | ⟨dv2, x, AL, q1, q2, q3, q4, q5⟩
        · cases (q.1.symm.trans hdv0)
        · obtain rfl := Option.some.inj (q1.symm.trans hdv0); exact ⟨x, AL, q2, q3, q4, q5⟩
      obtain ⟨m9, hY, hQ⟩ : ∃ m : QT, Y = some m ∧ QD (pf f ν) S qu m := by
        rcases hDQ.2 with q | ⟨qu2, m, q1, q2, q3⟩
        · cases q.1
        · obtain rfl := Option.some.inj q1; exact ⟨m, q2, q3⟩
      have hP : va_P (dC, dI) classes ([(q0, .inr (11, [r0, r1, r2, .ref wk, .ref ds, .ref qu, .ref p1, .ref p2])), (ds, .inl (cV, 4, .inr (.inr (.inr (.inr dg))))), (wk, .inr (10, [.ref wl, .int wa, .int wb, va_rf wr])), (wl, .inl (cV, 10000, .inr (.inr (.inr (.inr g))))), (p2, .inr (3, [.ref b2, .int dk, .ref s2])), (b2, .inl (cB, 16384, .inl dgp)), (s2, .inl (cV, 32, .inr (.inr (.inr (.inr dh)))))] ++ va_pl L (pf f ν)) H := hP
      have hD : va_D A ([(q0, .inr (11, [r0, r1, r2, .ref wk, .ref ds, .ref qu, .ref p1, .ref p2])), (ds, .inl (cV, 4, .inr (.inr (.inr (.inr dg))))), (wk, .inr (10, [.ref wl, .int wa, .int wb, va_rf wr])), (wl, .inl (cV, 10000, .inr (.inr (.inr (.inr g))))), (p2, .inr (3, [.ref b2, .int dk, .ref s2])), (b2, .inl (cB, 16384, .inl dgp)), (s2, .inl (cV, 32, .inr (.inr (.inr (.inr dh)))))] ++ va_pl L (pf f ν)) := hD
      refine lv_aload_n hx hb d_QB_run_9 rfl (lv_at hl 0 rfl) ?_
      refine va_get (D := (dC, dI)) (ci := 11) (v := .ref wk) (C := R_QB) (T := F_QB) (N := 8) hx hb hts in_QB hown hK hP 0 rfl rfl 3 (by decide) (hts _ w_154) (fun _ h9 => h9) rfl d_QB_run_10 ?_
      refine lv_aload_n hx hb d_QB_run_13 rfl (lv_at hl 0 rfl) ?_
      refine va_get (D := (dC, dI)) (ci := 11) (v := .ref qu) (C := R_QB) (T := F_QB) (N := 8) hx hb hts in_QB hown hK hP 0 rfl rfl 5 (by decide) (hts _ z_156) (fun _ h9 => h9) rfl d_QB_run_14 ?_
      refine lv_aload_n hx hb d_QB_run_17 rfl (lv_at hl 0 rfl) ?_
      refine va_get (D := (dC, dI)) (ci := 11) (v := .ref ds) (C := R_QB) (T := F_QB) (N := 8) hx hb hts in_QB hown hK hP 0 rfl rfl 4 (by decide) (hts _ w_155) (fun _ h9 => h9) rfl d_QB_run_18 ?_
      refine lv_iload_n hx hb d_QB_run_21 rfl (lv_at hl 1 rfl) ?_
      refine vq_ald0 hx hb hK hP 1 1 rfl rfl hj (by decide) hdv0 d_QB_run_22 ?_
      have hPc := hP.part (cx := [(wk, .inr (10, [.ref wl, .int wa, .int wb, va_rf wr])), (wl, .inl (cV, 10000, .inr (.inr (.inr (.inr g)))))]) [2, 3] rfl
      have hDc := hD.part (cx := [(wk, .inr (10, [.ref wl, .int wa, .int wb, va_rf wr])), (wl, .inl (cV, 10000, .inr (.inr (.inr (.inr g)))))]) [2, 3] (by decide) rfl
      have hFc := va_freeP (cx := [(wk, .inr (10, [.ref wl, .int wa, .int wb, va_rf wr])), (wl, .inl (cV, 10000, .inr (.inr (.inr (.inr g)))))]) hD hS hA [2, 3] rfl
      have hKc := hK.sub (tys' := [(cI, .int), (cV, .object "QueryBench$Value")]) [0, 1] rfl
      refine w_same (fun hq0 => ?_)
      refine vx_calli (vx_runV (As := [.ref qu, .ref dv]) (rest := []) ⟨hx, hb, hml, hown, hts⟩ (p_Walk_begin l hl9 K dC dI H cI cV E lv L f hO hN1 (preN (rtN xd)) AL S wk wl wa wb wr g ν n qu dv hqu hlq hdv (rtN xd) (hd_ncr hhd) hDq9 m9 hQ) (cwV 2 hts (gt_V (own := R_QB) (C := R_Walk) (i := 99) (y := y_Walk_begin) i_Walk_begin z_831 z_832 z_833 w_5) rfl rfl rfl (by decide +kernel) ⟨by show 61 + 5 * n + 1 ≤ 90 + 5 * n; omega, by show 8 + (3 + 11) + (2540 + 200 * n) ≤ 2700 + 200 * n; omega⟩) ⟨ml_blind, va_recv hK hP (ci := 10) (q0 := 2) rfl rfl, fun U hU hW => ⟨rfl, ⟨hU, by rw [hU]; exact hPc, va_K.moved hW.alike hKc, hDc.weaken (fun _ _ _ _ => trivial)⟩, hN.warm hW, by rw [hU]; exact ZX.moved' hW.alike (ZX.narrow' (ZX.kept' hZ hS.2.1) hFc), by rw [hU]; exact CE.call hC hS.2.1 hFc hW, va_AO.moved hW.alike hV⟩⟩ rfl rfl hl.1 rfl (lv_room (Nat.le_of_ble_eq_true rfl)) d_QB_run_23 ⟨Nat.le_of_ble_eq_true rfl, Nat.le_of_ble_eq_true rfl⟩) hS (fun q _ h => hFc q h) hFc (fun q _ h => hFc q h) (fun En ce q9 ⟨tx, sx, gx, rx, nx⟩ t9 H1 locs ht hvm hw hB hz1 hk1 hS hce hcv hcl => ?_) (fun r21 ⟨t21, s21, g21, n21⟩ t9 H1 locs ht hvm hw hB hz1 hk1 hS => ?_)
      · obtain ⟨hEn, hP1, hK1, hD1⟩ := hB
        rw [ht] at hP1
        obtain ⟨hP, hD⟩ := va_joinP (wr := [(q0, .inr (11, [r0, r1, r2, .ref wk, .ref ds, .ref qu, .ref p1, .ref p2])), (ds, .inl (cV, 4, .inr (.inr (.inr (.inr dg))))), (p2, .inr (3, [.ref b2, .int dk, .ref s2])), (b2, .inl (cB, 16384, .inl dgp)), (s2, .inl (cV, 32, .inr (.inr (.inr (.inr dh)))))]) (rx := [(wk, .inr (10, [.ref wl, .int tx, .int sx, va_rf rx])), (wl, .inl (cV, 10000, .inr (.inr (.inr (.inr gx)))))]) (pl1 := va_pl L (pf f nx)) hP hD [2, 3] [0, 1, 4, 5, 6] rfl rfl (by decide) (by decide) hk1 hFc hP1 hD1
        generalize H1 = H at hP hS hce ⊢
        have hP : va_P (dC, dI) classes ([(q0, .inr (11, [r0, r1, r2, .ref wk, .ref ds, .ref qu, .ref p1, .ref p2])), (ds, .inl (cV, 4, .inr (.inr (.inr (.inr dg))))), (p2, .inr (3, [.ref b2, .int dk, .ref s2])), (b2, .inl (cB, 16384, .inl dgp)), (s2, .inl (cV, 32, .inr (.inr (.inr (.inr dh))))), (wk, .inr (10, [.ref wl, .int tx, .int sx, va_rf rx])), (wl, .inl (cV, 10000, .inr (.inr (.inr (.inr gx)))))] ++ va_pl L (pf f nx)) H := hP
        have hD : va_D A ([(q0, .inr (11, [r0, r1, r2, .ref wk, .ref ds, .ref qu, .ref p1, .ref p2])), (ds, .inl (cV, 4, .inr (.inr (.inr (.inr dg))))), (p2, .inr (3, [.ref b2, .int dk, .ref s2])), (b2, .inl (cB, 16384, .inl dgp)), (s2, .inl (cV, 32, .inr (.inr (.inr (.inr dh))))), (wk, .inr (10, [.ref wl, .int tx, .int sx, va_rf rx])), (wl, .inl (cV, 10000, .inr (.inr (.inr (.inr gx)))))] ++ va_pl L (pf f nx)) := hD
        have hP := hP.part (cx := [(q0, .inr (11, [r0, r1, r2, .ref wk, .ref ds, .ref qu, .ref p1, .ref p2])), (ds, .inl (cV, 4, .inr (.inr (.inr (.inr dg))))), (wk, .inr (10, [.ref wl, .int tx, .int sx, va_rf rx])), (wl, .inl (cV, 10000, .inr (.inr (.inr (.inr gx))))), (p2, .inr (3, [.ref b2, .int dk, .ref s2])), (b2, .inl (cB, 16384, .inl dgp)), (s2, .inl (cV, 32, .inr (.inr (.inr (.inr dh)))))]) [0, 1, 5, 6, 2, 3, 4] rfl
        have hD := hD.part (cx := [(q0, .inr (11, [r0, r1, r2, .ref wk, .ref ds, .ref qu, .ref p1, .ref p2])), (ds, .inl (cV, 4, .inr (.inr (.inr (.inr dg))))), (wk, .inr (10, [.ref wl, .int tx, .int sx, va_rf rx])), (wl, .inl (cV, 10000, .inr (.inr (.inr (.inr gx))))), (p2, .inr (3, [.ref b2, .int dk, .ref s2])), (b2, .inl (cB, 16384, .inl dgp)), (s2, .inl (cV, 32, .inr (.inr (.inr (.inr dh)))))]) [0, 1, 5, 6, 2, 3, 4] (by decide) rfl
        exact vx_out (fun x hx => (hex x hx).elim) hlocks hce hcv hcl (fun t9 ht2 ha => ⟨(tx, sx, gx, rx, nx, dk, dgp, dh), hw.2, ⟨Or.inl (Or.inr (Or.inr ⟨hEn, j, xd, m9, hj, rfl, hX, hY, hw.1⟩)), by rw [ht2]; exact hP, va_K.moved ha hK, hD⟩, hS.F ht2⟩) hS.2.2 (Nat.le_of_ble_eq_true rfl) (Nat.le_of_ble_eq_true rfl)
      · obtain ⟨⟨hP1, hK1, hD1⟩, hz9⟩ := hB
        rw [ht] at hP1
        rw [ht] at hz9
        refine w_tight (hq0.trans hz9) ?_
        have hq0 := hq0.trans hz9
        obtain ⟨hP, hD⟩ := va_joinP (wr := [(q0, .inr (11, [r0, r1, r2, .ref wk, .ref ds, .ref qu, .ref p1, .ref p2])), (ds, .inl (cV, 4, .inr (.inr (.inr (.inr dg))))), (p2, .inr (3, [.ref b2, .int dk, .ref s2])), (b2, .inl (cB, 16384, .inl dgp)), (s2, .inl (cV, 32, .inr (.inr (.inr (.inr dh)))))]) (rx := [(wk, .inr (10, [.ref wl, .int (nI t21), .int (nI s21), .ref dv])), (wl, .inl (cV, 10000, .inr (.inr (.inr (.inr g21)))))]) (pl1 := va_pl L (pf f n21)) hP hD [2, 3] [0, 1, 4, 5, 6] rfl rfl (by decide) (by decide) hk1 hFc hP1 hD1
        generalize H1 = H at hP hS hq0 ⊢
        have hP : va_P (dC, dI) classes ([(q0, .inr (11, [r0, r1, r2, .ref wk, .ref ds, .ref qu, .ref p1, .ref p2])), (ds, .inl (cV, 4, .inr (.inr (.inr (.inr dg))))), (p2, .inr (3, [.ref b2, .int dk, .ref s2])), (b2, .inl (cB, 16384, .inl dgp)), (s2, .inl (cV, 32, .inr (.inr (.inr (.inr dh))))), (wk, .inr (10, [.ref wl, .int (nI t21), .int (nI s21), .ref dv])), (wl, .inl (cV, 10000, .inr (.inr (.inr (.inr g21)))))] ++ va_pl L (pf f n21)) H := hP
        have hD : va_D A ([(q0, .inr (11, [r0, r1, r2, .ref wk, .ref ds, .ref qu, .ref p1, .ref p2])), (ds, .inl (cV, 4, .inr (.inr (.inr (.inr dg))))), (p2, .inr (3, [.ref b2, .int dk, .ref s2])), (b2, .inl (cB, 16384, .inl dgp)), (s2, .inl (cV, 32, .inr (.inr (.inr (.inr dh))))), (wk, .inr (10, [.ref wl, .int (nI t21), .int (nI s21), .ref dv])), (wl, .inl (cV, 10000, .inr (.inr (.inr (.inr g21)))))] ++ va_pl L (pf f n21)) := hD
        have hP := hP.part (cx := [(q0, .inr (11, [r0, r1, r2, .ref wk, .ref ds, .ref qu, .ref p1, .ref p2])), (ds, .inl (cV, 4, .inr (.inr (.inr (.inr dg))))), (wk, .inr (10, [.ref wl, .int (nI t21), .int (nI s21), .ref dv])), (wl, .inl (cV, 10000, .inr (.inr (.inr (.inr g21))))), (p2, .inr (3, [.ref b2, .int dk, .ref s2])), (b2, .inl (cB, 16384, .inl dgp)), (s2, .inl (cV, 32, .inr (.inr (.inr (.inr dh)))))]) [0, 1, 5, 6, 2, 3, 4] rfl
        have hD := hD.part (cx := [(q0, .inr (11, [r0, r1, r2, .ref wk, .ref ds, .ref qu, .ref p1, .ref p2])), (ds, .inl (cV, 4, .inr (.inr (.inr (.inr dg))))), (wk, .inr (10, [.ref wl, .int (nI t21), .int (nI s21), .ref dv])), (wl, .inl (cV, 10000, .inr (.inr (.inr (.inr g21))))), (p2, .inr (3, [.ref b2, .int dk, .ref s2])), (b2, .inl (cB, 16384, .inl dgp)), (s2, .inl (cV, 32, .inr (.inr (.inr (.inr dh)))))]) [0, 1, 5, 6, 2, 3, 4] (by decide) rfl
        obtain ⟨fr, hfr1, hNK⟩ := hw
        have hNK : NDK E (preN (rtN xd)) AL S (m9 (rtN xd) (rtN xd)) 0 0 g ν fr t21 s21 g21 n21 := hNK
        have hfr1 : r21 = nI fr := hfr1
        subst hfr1
        have ht9 : t21 = fr + (m9 (rtN xd) (rtN xd)).1.length := hNK.2.1
        have hfr2 : fr ≤ t21 := by omega
        have hWn : WI E t21 s21 g21 := hNK.2.2.2.1
        have hWn1 := hWn.1
        have hWn2 := hWn.2.1
        have hle9 : (m9 (rtN xd) (rtN xd)).2 ≤ 10000 := by have h9 : s21 = 0 + (m9 (rtN xd) (rtN xd)).2 := hNK.2.2.1; omega
        have hLC : LCn (preN (rtN xd)) AL g21 fr (m9 (rtN xd) (rtN xd)).1 := hNK.2.2.2.2.2.1
        have hnu9 : NUg S ν n21 := hNK.2.2.2.2.2.2
        refine lv_istore_n (lv' := [(2, .int (nI fr)), (0, .ref q0), (1, .int (nI j))]) hx hb d_QB_run_26 rfl hl (by decide) rfl (fun ls hl => ?_)
        refine lv_aload_n hx hb d_QB_run_27 rfl (lv_at hl 1 rfl) ?_
        refine va_get (D := (dC, dI)) (ci := 11) (v := .ref p2) (C := R_QB) (T := F_QB) (N := 8) hx hb hts in_QB hown hK hP 0 rfl rfl 7 (by decide) (hts _ w_158) (fun _ h9 => h9) rfl d_QB_run_28 ?_
        refine lv_iconst (v := 0) hx hb d_QB_run_31 (by decide) ?_
        refine va_put (D := (dC, dI)) (ci := 3) (v := .int 0) (ty := .int) (C := R_Printer) (T := F_Printer) (N := 3) hx hb hts in_Printer t_Printer t_Printer_ok n_Printer hown hK hP hD hS 4 rfl rfl 1 (by decide) (hts _ w_142) (fun _ h9 => h9) rfl (by decide +kernel) rfl rfl (Nat.le_of_ble_eq_true rfl) d_QB_run_32 (fun H locs hP hD hS => ?_)
        have hP : va_P (dC, dI) classes ([(q0, .inr (11, [r0, r1, r2, .ref wk, .ref ds, .ref qu, .ref p1, .ref p2])), (ds, .inl (cV, 4, .inr (.inr (.inr (.inr dg))))), (wk, .inr (10, [.ref wl, .int (nI t21), .int (nI s21), .ref dv])), (wl, .inl (cV, 10000, .inr (.inr (.inr (.inr g21))))), (p2, .inr (3, [.ref b2, .int 0, .ref s2])), (b2, .inl (cB, 16384, .inl dgp)), (s2, .inl (cV, 32, .inr (.inr (.inr (.inr dh)))))] ++ va_pl L (pf f n21)) H := hP
        have hD : va_D A ([(q0, .inr (11, [r0, r1, r2, .ref wk, .ref ds, .ref qu, .ref p1, .ref p2])), (ds, .inl (cV, 4, .inr (.inr (.inr (.inr dg))))), (wk, .inr (10, [.ref wl, .int (nI t21), .int (nI s21), .ref dv])), (wl, .inl (cV, 10000, .inr (.inr (.inr (.inr g21))))), (p2, .inr (3, [.ref b2, .int 0, .ref s2])), (b2, .inl (cB, 16384, .inl dgp)), (s2, .inl (cV, 32, .inr (.inr (.inr (.inr dh)))))] ++ va_pl L (pf f n21)) := hD
        have hP : va_P (dC, dI) classes ([(q0, .inr (11, [r0, r1, r2, .ref wk, .ref ds, .ref qu, .ref p1, .ref p2])), (ds, .inl (cV, 4, .inr (.inr (.inr (.inr dg))))), (wk, .inr (10, [.ref wl, .int (nI t21), .int (nI s21), .ref dv])), (wl, .inl (cV, 10000, .inr (.inr (.inr (.inr g21))))), (p2, .inr (3, [.ref b2, .int (nI 0), .ref s2])), (b2, .inl (cB, 16384, .inl dgp)), (s2, .inl (cV, 32, .inr (.inr (.inr (.inr dh)))))] ++ va_pl L (pf f n21)) H := hP
        have hD : va_D A ([(q0, .inr (11, [r0, r1, r2, .ref wk, .ref ds, .ref qu, .ref p1, .ref p2])), (ds, .inl (cV, 4, .inr (.inr (.inr (.inr dg))))), (wk, .inr (10, [.ref wl, .int (nI t21), .int (nI s21), .ref dv])), (wl, .inl (cV, 10000, .inr (.inr (.inr (.inr g21))))), (p2, .inr (3, [.ref b2, .int (nI 0), .ref s2])), (b2, .inl (cB, 16384, .inl dgp)), (s2, .inl (cV, 32, .inr (.inr (.inr (.inr dh)))))] ++ va_pl L (pf f n21)) := hD
        refine lv_iload_n hx hb d_QB_run_35 rfl (lv_at hl 0 rfl) ?_
        refine lv_istore_n (lv' := [(3, .int (nI fr)), (2, .int (nI fr)), (0, .ref q0), (1, .int (nI j))]) hx hb d_QB_run_36 rfl hl (by decide) rfl (fun ls hl => ?_)
        refine w_loop (D := (dC, dI)) (cl := classes) (A := A) (H0 := s.heap) (nL := 4) 37 (σ := Nat × Nat × (Nat → Int32) × (Nat → Option Nat)) (fun ⟨i, k1, g1, h⟩ => i ≤ t21 ∧ fr ≤ i ∧ k1 ≤ 16384 ∧ penL (0, 0, dgp) (outB xd (m9 (rtN xd) (rtN xd)).1) = penL (k1, 0, g1) (outB xd ((m9 (rtN xd) (rtN xd)).1.drop (i - fr)))) (fun ⟨i, k1, g1, h⟩ => t21 - i) (fun ⟨i, k1, g1, h⟩ => [(q0, .inr (11, [r0, r1, r2, .ref wk, .ref ds, .ref qu, .ref p1, .ref p2])), (ds, .inl (cV, 4, .inr (.inr (.inr (.inr dg))))), (wk, .inr (10, [.ref wl, .int (nI t21), .int (nI s21), .ref dv])), (wl, .inl (cV, 10000, .inr (.inr (.inr (.inr g21))))), (p2, .inr (3, [.ref b2, .int (nI k1), .ref s2])), (b2, .inl (cB, 16384, .inl g1)), (s2, .inl (cV, 32, .inr (.inr (.inr (.inr h)))))] ++ va_pl L (pf f n21)) (fun ⟨i, k1, g1, h⟩ => [(0, .ref q0), (1, .int (nI j)), (2, .int (nI fr)), (3, .int (nI i))]) ?_ (fr, 0, dgp, dh) ⟨hfr2, Nat.le_refl _, Nat.zero_le _, show penL (0, 0, dgp) (outB xd (m9 (rtN xd) (rtN xd)).1) = penL (0, 0, dgp) (outB xd ((m9 (rtN xd) (rtN xd)).1.drop (fr - fr))) from by rw [Nat.sub_self, List.drop_zero]⟩ hP hD hS (lv_sub hl [2, 3, 1, 0] rfl)
        rintro ⟨i, k1, g1, h⟩ H locs ls hI ih hP hD hS hl
        have hP : va_P (dC, dI) classes ([(q0, .inr (11, [r0, r1, r2, .ref wk, .ref ds, .ref qu, .ref p1, .ref p2])), (ds, .inl (cV, 4, .inr (.inr (.inr (.inr dg))))), (wk, .inr (10, [.ref wl, .int (nI t21), .int (nI s21), .ref dv])), (wl, .inl (cV, 10000, .inr (.inr (.inr (.inr g21))))), (p2, .inr (3, [.ref b2, .int (nI k1), .ref s2])), (b2, .inl (cB, 16384, .inl g1)), (s2, .inl (cV, 32, .inr (.inr (.inr (.inr h)))))] ++ va_pl L (pf f n21)) H := hP
        have hD : va_D A ([(q0, .inr (11, [r0, r1, r2, .ref wk, .ref ds, .ref qu, .ref p1, .ref p2])), (ds, .inl (cV, 4, .inr (.inr (.inr (.inr dg))))), (wk, .inr (10, [.ref wl, .int (nI t21), .int (nI s21), .ref dv])), (wl, .inl (cV, 10000, .inr (.inr (.inr (.inr g21))))), (p2, .inr (3, [.ref b2, .int (nI k1), .ref s2])), (b2, .inl (cB, 16384, .inl g1)), (s2, .inl (cV, 32, .inr (.inr (.inr (.inr h)))))] ++ va_pl L (pf f n21)) := hD
        have hl : lv_has ls 4 [(0, .ref q0), (1, .int (nI j)), (2, .int (nI fr)), (3, .int (nI i))] := hl
        obtain ⟨hI, hI2, hkA, hR1⟩ := hI
        have hI : i ≤ t21 := hI
        have hI2 : fr ≤ i := hI2
        have hkA : k1 ≤ 16384 := hkA
        have hR1 : penL (0, 0, dgp) (outB xd (m9 (rtN xd) (rtN xd)).1) = penL (k1, 0, g1) (outB xd ((m9 (rtN xd) (rtN xd)).1.drop (i - fr))) := hR1
        refine lv_iload_n hx hb d_QB_run_37 rfl (lv_at hl 3 rfl) ?_
        refine lv_aload_n hx hb d_QB_run_38 rfl (lv_at hl 0 rfl) ?_
        refine va_get (D := (dC, dI)) (ci := 11) (v := .ref wk) (C := R_QB) (T := F_QB) (N := 8) hx hb hts in_QB hown hK hP 0 rfl rfl 3 (by decide) (hts _ w_154) (fun _ h9 => h9) rfl d_QB_run_39 ?_
        refine va_get (D := (dC, dI)) (ci := 10) (v := .int (nI t21)) (C := R_Walk) (T := F_Walk) (N := 4) hx hb hts in_Walk hown hK hP 2 rfl rfl 1 (by decide) (hts _ z_118) (fun _ h9 => h9) rfl d_QB_run_42 ?_
        refine lv_icmp_ge (tgt := 70) hx hb d_QB_run_45 (by decide) (fun c45 => ?_) (fun c45 => ?_)
        · have hR9 : penL (0, 0, dgp) (outB xd (m9 (rtN xd) (rtN xd)).1) = penL (k1, 0, g1) [] := by
            rw [nI_leI (by omega) (by omega)] at c45
            rw [hR1, outB_e (by omega)]
          refine lv_aload_n hx hb d_QB_run_70 rfl (lv_at hl 0 rfl) ?_
          refine va_get (D := (dC, dI)) (ci := 11) (v := .ref p1) (C := R_QB) (T := F_QB) (N := 8) hx hb hts in_QB hown hK hP 0 rfl rfl 6 (by decide) (hts _ w_157) (fun _ h9 => h9) rfl d_QB_run_71 ?_
          refine lv_astore_n (lv' := [(3, .ref p1), (0, .ref q0), (1, .int (nI j)), (2, .int (nI fr))]) hx hb d_QB_run_74 rfl hl (by decide) rfl (fun ls hl => ?_)
          refine lv_aload_n hx hb d_QB_run_75 rfl (lv_at hl 1 rfl) ?_
          refine lv_aload_n hx hb d_QB_run_76 rfl (lv_at hl 1 rfl) ?_
          refine va_get (D := (dC, dI)) (ci := 11) (v := .ref p2) (C := R_QB) (T := F_QB) (N := 8) hx hb hts in_QB hown hK hP 0 rfl rfl 7 (by decide) (hts _ w_158) (fun _ h9 => h9) rfl d_QB_run_77 ?_
          refine va_put (D := (dC, dI)) (ci := 11) (v := .ref p2) (ty := .object "QueryBench$Printer") (C := R_QB) (T := F_QB) (N := 8) hx hb hts in_QB t_QB t_QB_ok n_QB hown hK hP hD hS 0 rfl rfl 6 (by decide) (hts _ w_157) (fun _ h9 => h9) rfl (by decide +kernel) rfl rfl (Nat.le_of_ble_eq_true rfl) d_QB_run_80 (fun H locs hP hD hS => ?_)
          have hP : va_P (dC, dI) classes ([(q0, .inr (11, [r0, r1, r2, .ref wk, .ref ds, .ref qu, .ref p2, .ref p2])), (ds, .inl (cV, 4, .inr (.inr (.inr (.inr dg))))), (wk, .inr (10, [.ref wl, .int (nI t21), .int (nI s21), .ref dv])), (wl, .inl (cV, 10000, .inr (.inr (.inr (.inr g21))))), (p2, .inr (3, [.ref b2, .int (nI k1), .ref s2])), (b2, .inl (cB, 16384, .inl g1)), (s2, .inl (cV, 32, .inr (.inr (.inr (.inr h)))))] ++ va_pl L (pf f n21)) H := hP
          have hD : va_D A ([(q0, .inr (11, [r0, r1, r2, .ref wk, .ref ds, .ref qu, .ref p2, .ref p2])), (ds, .inl (cV, 4, .inr (.inr (.inr (.inr dg))))), (wk, .inr (10, [.ref wl, .int (nI t21), .int (nI s21), .ref dv])), (wl, .inl (cV, 10000, .inr (.inr (.inr (.inr g21))))), (p2, .inr (3, [.ref b2, .int (nI k1), .ref s2])), (b2, .inl (cB, 16384, .inl g1)), (s2, .inl (cV, 32, .inr (.inr (.inr (.inr h)))))] ++ va_pl L (pf f n21)) := hD
          refine lv_aload_n hx hb d_QB_run_83 rfl (lv_at hl 1 rfl) ?_
          refine lv_aload_n hx hb d_QB_run_84 rfl (lv_at hl 0 rfl) ?_
          refine va_put (D := (dC, dI)) (ci := 11) (v := .ref p1) (ty := .object "QueryBench$Printer") (C := R_QB) (T := F_QB) (N := 8) hx hb hts in_QB t_QB t_QB_ok n_QB hown hK hP hD hS 0 rfl rfl 7 (by decide) (hts _ w_158) (fun _ h9 => h9) rfl (by decide +kernel) rfl rfl (Nat.le_of_ble_eq_true rfl) d_QB_run_85 (fun H locs hP hD hS => ?_)
          have hP : va_P (dC, dI) classes ([(q0, .inr (11, [r0, r1, r2, .ref wk, .ref ds, .ref qu, .ref p2, .ref p1])), (ds, .inl (cV, 4, .inr (.inr (.inr (.inr dg))))), (wk, .inr (10, [.ref wl, .int (nI t21), .int (nI s21), .ref dv])), (wl, .inl (cV, 10000, .inr (.inr (.inr (.inr g21))))), (p2, .inr (3, [.ref b2, .int (nI k1), .ref s2])), (b2, .inl (cB, 16384, .inl g1)), (s2, .inl (cV, 32, .inr (.inr (.inr (.inr h)))))] ++ va_pl L (pf f n21)) H := hP
          have hD : va_D A ([(q0, .inr (11, [r0, r1, r2, .ref wk, .ref ds, .ref qu, .ref p2, .ref p1])), (ds, .inl (cV, 4, .inr (.inr (.inr (.inr dg))))), (wk, .inr (10, [.ref wl, .int (nI t21), .int (nI s21), .ref dv])), (wl, .inl (cV, 10000, .inr (.inr (.inr (.inr g21))))), (p2, .inr (3, [.ref b2, .int (nI k1), .ref s2])), (b2, .inl (cB, 16384, .inl g1)), (s2, .inl (cV, 32, .inr (.inr (.inr (.inr h)))))] ++ va_pl L (pf f n21)) := hD
          refine lv_aload_n hx hb d_QB_run_88 rfl (lv_at hl 1 rfl) ?_
          refine va_get (D := (dC, dI)) (ci := 11) (v := .ref wk) (C := R_QB) (T := F_QB) (N := 8) hx hb hts in_QB hown hK hP 0 rfl rfl 3 (by decide) (hts _ w_154) (fun _ h9 => h9) rfl d_QB_run_89 ?_
          refine va_get (D := (dC, dI)) (ci := 10) (v := .int (nI t21)) (C := R_Walk) (T := F_Walk) (N := 4) hx hb hts in_Walk hown hK hP 2 rfl rfl 1 (by decide) (hts _ z_118) (fun _ h9 => h9) rfl d_QB_run_92 ?_
          refine lv_iload_n hx hb d_QB_run_95 rfl (lv_at hl 3 rfl) ?_
          refine lv_isub hx hb d_QB_run_96 ?_
          have hres : ((nI t21) - (nI fr)) = nI (m9 (rtN xd) (rtN xd)).1.length := by rw [ht9]; exact nI_subA _ _
          refine w_same (fun hq => ?_)
          refine W.widen (k := 1) (n := 6) (Nat.le_of_ble_eq_true rfl) (Nat.le_of_ble_eq_true rfl) ?_
          refine vx_ret ?_
          exact W.iret (v := ((nI t21) - (nI fr))) hx hb hr (fun t9 ht hW => ⟨⟨((nI t21) - (nI fr)), (nI t21, nI s21, g21, some dv, n21, k1, g1, h), rfl, ⟨⟨_, ⟨j, xd, m9, hj, rfl, hX, hY, hle9, hres, rfl⟩, hR9⟩, hnu9⟩, ⟨by rw [ht]; exact hP, va_K.moved hW.alike hK, hD⟩, by rw [ht]; exact hq⟩, hS.F ht⟩) hS.2.2 d_QB_run_97
        · have hi : i < t21 := by rw [nI_leI (by omega) (by omega)] at c45; omega
          obtain ⟨nn9, hn9⟩ : ∃ z, (m9 (rtN xd) (rtN xd)).1[i - fr]? = some z := ⟨_, List.getElem?_eq_getElem (by omega)⟩
          obtain ⟨nd9, hnd1, hnd2⟩ := hLC (i - fr) nn9 hn9
          rw [show fr + (i - fr) = i by omega] at hnd1
          rw [outB_d hn9] at hR1
          refine lv_aload_n hx hb d_QB_run_48 rfl (lv_at hl 0 rfl) ?_
          refine va_get (D := (dC, dI)) (ci := 11) (v := .ref p2) (C := R_QB) (T := F_QB) (N := 8) hx hb hts in_QB hown hK hP 0 rfl rfl 7 (by decide) (hts _ w_158) (fun _ h9 => h9) rfl d_QB_run_49 ?_
          refine lv_aload_n hx hb d_QB_run_52 rfl (lv_at hl 0 rfl) ?_
          refine va_get (D := (dC, dI)) (ci := 11) (v := .ref wk) (C := R_QB) (T := F_QB) (N := 8) hx hb hts in_QB hown hK hP 0 rfl rfl 3 (by decide) (hts _ w_154) (fun _ h9 => h9) rfl d_QB_run_53 ?_
          refine va_get (D := (dC, dI)) (ci := 10) (v := .ref wl) (C := R_Walk) (T := F_Walk) (N := 4) hx hb hts in_Walk hown hK hP 2 rfl rfl 0 (by decide) (hts _ z_116) (fun _ h9 => h9) rfl d_QB_run_56 ?_
          refine lv_iload_n hx hb d_QB_run_59 rfl (lv_at hl 3 rfl) ?_
          refine vq_ald0 hx hb hK hP 3 1 rfl rfl (show i < 10000 by omega) (by decide) hnd1 d_QB_run_60 ?_
          have hPc := hP.part (cx := [(p2, .inr (3, [.ref b2, .int (nI k1), .ref s2])), (b2, .inl (cB, 16384, .inl g1)), (s2, .inl (cV, 32, .inr (.inr (.inr (.inr h)))))]) [4, 5, 6] rfl
          have hDc := hD.part (cx := [(p2, .inr (3, [.ref b2, .int (nI k1), .ref s2])), (b2, .inl (cB, 16384, .inl g1)), (s2, .inl (cV, 32, .inr (.inr (.inr (.inr h)))))]) [4, 5, 6] (by decide) rfl
          have hFc := va_freeP (cx := [(p2, .inr (3, [.ref b2, .int (nI k1), .ref s2])), (b2, .inl (cB, 16384, .inl g1)), (s2, .inl (cV, 32, .inr (.inr (.inr (.inr h)))))]) hD hS hA [4, 5, 6] rfl
          have hKc := hK.sub (tys' := [(cB, .byte), (cI, .int), (cV, .object "QueryBench$Value")]) [2, 0, 1] rfl
          refine w_same (fun hq0 => ?_)
          refine vx_callv (vx_runV (As := [.ref nd9]) (rest := []) ⟨hx, hb, hml, hown, hts⟩ (p_Printer_line l hl9 K dC dI H cI cV E lv L (pf f n21) (hO.num n21) cB p2 b2 s2 g1 k1 hkA h nd9 xd AL (hDq9 n21 hnu9) (hDx n21).1 (hDx n21).2 nn9 hnd2) (cwV 1 hts (gt_V (own := R_QB) (C := R_Printer) (i := 110) (y := y_Printer_line) i_Printer_line z_949 z_950 z_951 w_6) rfl rfl rfl (by decide +kernel) ⟨by show 80 + 1 ≤ 90 + 5 * n; omega, by show 8 + (2 + 11) + (2300) ≤ 2700 + 200 * n; omega⟩) ⟨ml_blind, va_recv hK hP (ci := 3) (q0 := 4) rfl rfl, fun U hU hW => ⟨rfl, ⟨hU, by rw [hU]; exact hPc, va_K.moved hW.alike hKc, hDc.weaken (fun _ _ _ _ => trivial)⟩, hN.warm hW, by rw [hU]; exact ZX.moved' hW.alike (ZX.narrow' (ZX.kept' hZ hS.2.1) hFc), by rw [hU]; exact CE.call hC hS.2.1 hFc hW, va_AO.moved hW.alike hV⟩⟩ rfl rfl hl.1 rfl (lv_room (Nat.le_of_ble_eq_true rfl)) d_QB_run_61 ⟨Nat.le_of_ble_eq_true rfl, Nat.le_of_ble_eq_true rfl⟩) hS (fun q _ h => hFc q h) hFc (fun q _ h => hFc q h) (fun En ce q9 ⟨kx, gx, hx9⟩ t9 H1 locs ht hvm hw hB hz1 hk1 hS hce hcv hcl => ?_) (fun ⟨k2, g2, h2⟩ t9 H1 locs ht hvm hw hB hz1 hk1 hS => ?_)
          · obtain ⟨hEn, hP1, hK1, hD1⟩ := hB
            rw [ht] at hP1
            obtain ⟨hP, hD⟩ := va_joinP (wr := [(q0, .inr (11, [r0, r1, r2, .ref wk, .ref ds, .ref qu, .ref p1, .ref p2])), (ds, .inl (cV, 4, .inr (.inr (.inr (.inr dg))))), (wk, .inr (10, [.ref wl, .int (nI t21), .int (nI s21), .ref dv])), (wl, .inl (cV, 10000, .inr (.inr (.inr (.inr g21)))))]) (rx := [(p2, .inr (3, [.ref b2, .int kx, .ref s2])), (b2, .inl (cB, 16384, .inl gx)), (s2, .inl (cV, 32, .inr (.inr (.inr (.inr hx9)))))]) (pl1 := va_pl L (pf f n21)) hP hD [4, 5, 6] [0, 1, 2, 3] rfl rfl (by decide) (by decide) hk1 hFc hP1 hD1
            generalize H1 = H at hP hS hce ⊢
            have hP : va_P (dC, dI) classes ([(q0, .inr (11, [r0, r1, r2, .ref wk, .ref ds, .ref qu, .ref p1, .ref p2])), (ds, .inl (cV, 4, .inr (.inr (.inr (.inr dg))))), (wk, .inr (10, [.ref wl, .int (nI t21), .int (nI s21), .ref dv])), (wl, .inl (cV, 10000, .inr (.inr (.inr (.inr g21))))), (p2, .inr (3, [.ref b2, .int kx, .ref s2])), (b2, .inl (cB, 16384, .inl gx)), (s2, .inl (cV, 32, .inr (.inr (.inr (.inr hx9)))))] ++ va_pl L (pf f n21)) H := hP
            have hD : va_D A ([(q0, .inr (11, [r0, r1, r2, .ref wk, .ref ds, .ref qu, .ref p1, .ref p2])), (ds, .inl (cV, 4, .inr (.inr (.inr (.inr dg))))), (wk, .inr (10, [.ref wl, .int (nI t21), .int (nI s21), .ref dv])), (wl, .inl (cV, 10000, .inr (.inr (.inr (.inr g21))))), (p2, .inr (3, [.ref b2, .int kx, .ref s2])), (b2, .inl (cB, 16384, .inl gx)), (s2, .inl (cV, 32, .inr (.inr (.inr (.inr hx9)))))] ++ va_pl L (pf f n21)) := hD
            have hov := ov_len (WNO.go (T := rowB xd nn9) hR1 hw)
            exact vx_out (fun x hx => (hex x hx).elim) hlocks hce hcv hcl (fun t9 ht2 ha => ⟨(nI t21, nI s21, g21, some dv, n21, kx, gx, hx9), hnu9, ⟨Or.inr ⟨hEn, j, xd, m9, hj, rfl, hX, hY, hle9, hov⟩, by rw [ht2]; exact hP, va_K.moved ha hK, hD⟩, hS.F ht2⟩) hS.2.2 (Nat.le_of_ble_eq_true rfl) (Nat.le_of_ble_eq_true rfl)
          · obtain ⟨⟨hP1, hK1, hD1⟩, hz9⟩ := hB
            rw [ht] at hP1
            rw [ht] at hz9
            refine w_tight (hq0.trans hz9) ?_
            have hq0 := hq0.trans hz9
            obtain ⟨hP, hD⟩ := va_joinP (wr := [(q0, .inr (11, [r0, r1, r2, .ref wk, .ref ds, .ref qu, .ref p1, .ref p2])), (ds, .inl (cV, 4, .inr (.inr (.inr (.inr dg))))), (wk, .inr (10, [.ref wl, .int (nI t21), .int (nI s21), .ref dv])), (wl, .inl (cV, 10000, .inr (.inr (.inr (.inr g21)))))]) (rx := [(p2, .inr (3, [.ref b2, .int (nI k2), .ref s2])), (b2, .inl (cB, 16384, .inl g2)), (s2, .inl (cV, 32, .inr (.inr (.inr (.inr h2)))))]) (pl1 := va_pl L (pf f n21)) hP hD [4, 5, 6] [0, 1, 2, 3] rfl rfl (by decide) (by decide) hk1 hFc hP1 hD1
            generalize H1 = H at hP hS hq0 ⊢
            have hP : va_P (dC, dI) classes ([(q0, .inr (11, [r0, r1, r2, .ref wk, .ref ds, .ref qu, .ref p1, .ref p2])), (ds, .inl (cV, 4, .inr (.inr (.inr (.inr dg))))), (wk, .inr (10, [.ref wl, .int (nI t21), .int (nI s21), .ref dv])), (wl, .inl (cV, 10000, .inr (.inr (.inr (.inr g21))))), (p2, .inr (3, [.ref b2, .int (nI k2), .ref s2])), (b2, .inl (cB, 16384, .inl g2)), (s2, .inl (cV, 32, .inr (.inr (.inr (.inr h2)))))] ++ va_pl L (pf f n21)) H := hP
            have hD : va_D A ([(q0, .inr (11, [r0, r1, r2, .ref wk, .ref ds, .ref qu, .ref p1, .ref p2])), (ds, .inl (cV, 4, .inr (.inr (.inr (.inr dg))))), (wk, .inr (10, [.ref wl, .int (nI t21), .int (nI s21), .ref dv])), (wl, .inl (cV, 10000, .inr (.inr (.inr (.inr g21))))), (p2, .inr (3, [.ref b2, .int (nI k2), .ref s2])), (b2, .inl (cB, 16384, .inl g2)), (s2, .inl (cV, 32, .inr (.inr (.inr (.inr h2)))))] ++ va_pl L (pf f n21)) := hD
            have hw : WOK k1 g1 (rowB xd nn9) k2 g2 := hw
            have hk2 := WOK.le hw hkA
            have hR2 := WOK.go (T := rowB xd nn9) hR1 hw
            refine lv_iinc (v := nI (i + 1)) (lv' := [(3, .int (nI (i + 1))), (0, .ref q0), (1, .int (nI j)), (2, .int (nI fr))]) hx hb d_QB_run_64 hl (k := 3) rfl (nI_1 _) (by decide) rfl (fun ls hl => ?_)
            refine lv_goto (tgt := 37) hx hb d_QB_run_67 (by decide) ?_
            exact ih (i + 1, k2, g2, h2) _ _ _ ⟨show i + 1 ≤ t21 by omega, show fr ≤ i + 1 by omega, hk2, show penL (0, 0, dgp) (outB xd (m9 (rtN xd) (rtN xd)).1) = penL (k2, 0, g2) (outB xd ((m9 (rtN xd) (rtN xd)).1.drop (i + 1 - fr))) from by rw [show i + 1 - fr = i - fr + 1 by omega]; exact hR2⟩ (by show t21 - (i + 1) < t21 - i; omega) hP hD hS (lv_sub hl [1, 2, 3, 0] rfl)
