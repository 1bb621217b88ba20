/-- what the law's run says of the class: its code, its answer, what stands in the result -/
def LRN (X : Nat → Option (JVt 32)) (Y : Option QT) (d kf : Int32) (g0 : Int64) (T : List Int32) : Prop := (kf = 0 ∧ ∃ (j : Nat) (x : JVt 32) (m : QT), j < 4 ∧ d = nI j ∧ X j = some x ∧ Y = some m ∧ (m (rtN x) (rtN x)).2 ≤ 10000 ∧ T = outB x (m (rtN x) (rtN x)).1 ∧ T.length ≤ 16384 ∧ g0 = (nI (m (rtN x) (rtN x)).1.length).toInt64) ∨ (kf = 1 ∧ ¬ (¬ d < 0 ∧ d < 4)) ∨ (kf = 2 ∧ ∃ j : Nat, j < 4 ∧ d = nI j ∧ (X j = none ∨ Y = none)) ∨ (kf = 3 ∧ ∃ (j : Nat) (x : JVt 32) (m : QT), j < 4 ∧ d = nI j ∧ X j = some x ∧ Y = some m ∧ (10000 < (m (rtN x) (rtN x)).2 ∨ 16384 < (outB x (m (rtN x) (rtN x)).1).length))
theorem WOK.zero {g g' : Nat → Int32} {T : List Int32} {k' : Nat} (h : WOK 0 g T k' g') : k' = T.length ∧ T.length ≤ 16384 ∧ ∀ i y, T[i]? = some y → g' i = y.toInt8.toInt32 := by
  rcases penL_all T 0 g (Nat.zero_le _) with ⟨h1, g9, h2, -, h3⟩ | ⟨-, h1⟩
  · have e := h.symm.trans h2
    have e1 : k' = 0 + T.length := congrArg (fun z : PS => z.1) e
    have e2 : g' = g9 := congrArg (fun z : PS => z.2.2) e
    refine ⟨by omega, by omega, fun i y hy => ?_⟩
    have h4 := h3 i y hy
    rw [Nat.zero_add, ← e2, pk_vb] at h4
    exact h4
  · have h1 : (penL (0, 0, g) T).2.1 = 1 := h1
    rw [h] at h1
    exact absurd h1 (by show ¬ (0 : Int32) = 1; decide)
/-- class and reference: the same code, the same answer, the same result -/
theorem rn_same {g : Nat → Nat → Int32} {lf tf qg : Nat → Int32} {q9 d kf res : Int32} {g0 : Int64} {cd : Value} {T : List Int32} {rl rl2 : Nat} {rg rg2 : Nat → Int32} (h : LRN (Xr g lf tf) (Yr qg q9) d kf g0 T) (hw : RNo g lf tf qg q9 d res cd rl rl2 rg rg2) : cd = .int kf ∧ (kf = 0 → g0 = res.toInt64 ∧ rl2 = T.length ∧ ∀ i y, T[i]? = some y → rg2 i = y.toInt8.toInt32) ∧ (¬ kf = 0 → rl2 = rl ∧ rg2 = rg) := by
  rcases hw with ⟨w1, w2, w3, w4⟩ | ⟨k, w1, w2, w3, w4, w5, w6⟩ | ⟨x, R, ⟨k, n, n2, z, w1, w2, w3, w4, w5, w6, w7, w8, w9, rfl⟩, w⟩
  · rcases h with ⟨h1, j, x, m, h2, h3, -⟩ | ⟨h1, h2⟩ | ⟨h1, j, h2, h3, -⟩ | ⟨h1, j, x, m, h2, h3, -⟩
    · exact absurd (by rw [h3]; exact nI_in0 h2) w1
    · exact ⟨by rw [w3, h1], fun q => absurd (h1.symm.trans q) (by decide), fun _ => w4⟩
    · exact absurd (by rw [h3]; exact nI_in0 h2) w1
    · exact absurd (by rw [h3]; exact nI_in0 h2) w1
  · have hno : Xr g lf tf k = none ∨ Yr qg q9 = none := w3.imp Xr_0 Yr_0
    rcases h with ⟨h1, j, x, m, h2, h3, h4, h5, -⟩ | ⟨h1, h2⟩ | ⟨h1, j, h2, h3, -⟩ | ⟨h1, j, x, m, h2, h3, h4, h5, -⟩
    · obtain rfl := nI_jk h2 w2 (h3.symm.trans w1)
      rcases hno with q | q
      · rw [q] at h4; cases h4
      · rw [q] at h5; cases h5
    · exact absurd (by rw [w1]; exact nI_i4 w2) h2
    · exact ⟨by rw [w5, h1], fun q => absurd (h1.symm.trans q) (by decide), fun _ => w6⟩
    · obtain rfl := nI_jk h2 w2 (h3.symm.trans w1)
      rcases hno with q | q
      · rw [q] at h4; cases h4
      · rw [q] at h5; cases h5
  · have hX : Xr g lf tf k = some x := (Xr_1 w3 w4 w5).trans w6
    have hY : Yr qg q9 = some z.2 := by rw [w7]; exact Yr_n w8 w9
    rcases h with ⟨h1, j, x2, m, h2, h3, h4, h5, h6, h7, h8, h9⟩ | ⟨h1, h2⟩ | ⟨h1, j, h2, h3, h4⟩ | ⟨h1, j, x2, m, h2, h3, h4, h5, h6⟩
    · obtain rfl := nI_jk h2 w2 (h3.symm.trans w1)
      obtain rfl := Option.some.inj (hX.symm.trans h4)
      obtain rfl := Option.some.inj (hY.symm.trans h5)
      subst h7
      rcases w with ⟨v1, v2, v3, v4, v5, v6⟩ | ⟨v1, v2, v3, v4⟩
      · exact ⟨by rw [v4, h1], fun _ => ⟨by rw [h9, v3], v5, v6⟩, fun q => absurd h1 q⟩
      · rcases v1 with v1 | v1 <;> omega
    · exact absurd (by rw [w1]; exact nI_i4 w2) h2
    · obtain rfl := nI_jk h2 w2 (h3.symm.trans w1)
      rcases h4 with q | q
      · rw [hX] at q; cases q
      · rw [hY] at q; cases q
    · obtain rfl := nI_jk h2 w2 (h3.symm.trans w1)
      obtain rfl := Option.some.inj (hX.symm.trans h4)
      obtain rfl := Option.some.inj (hY.symm.trans h5)
      rcases w with ⟨v1, v2, v3, v4, v5, v6⟩ | ⟨v1, v2, v3, v4⟩
      · rcases h6 with h6 | h6 <;> omega
      · exact ⟨by rw [v3, h1], fun q => absurd (h1.symm.trans q) (by decide), fun _ => v4⟩
/-- the results of both are the same -/
def RSQ (rl : Nat) (gp : Nat → Int32) (rm : Nat) (rg : Nat → Int32) : Prop := rm = rl ∧ ∀ i, i < rl → rg i = gp i
theorem RSQ.run {rl rm : Nat} {gp rg : Nat → Int32} {T : List Int32} (h1 : rl = T.length) (h2 : ∀ i y, T[i]? = some y → gp i = y.toInt8.toInt32) (h3 : rm = T.length) (h4 : ∀ i y, T[i]? = some y → rg i = y.toInt8.toInt32) : RSQ rl gp rm rg := ⟨h3.trans h1.symm, fun i hi => by
  have hy : T[i]? = some T[i] := List.getElem?_eq_getElem (by omega)
  rw [h4 i _ hy, h2 i _ hy]⟩
set_option maxHeartbeats 4000000 in
set_option maxRecDepth 100000 in
/-- the law: run, what it answers -/
theorem t_Law_run (l : Launch) (hl9 : l.stackTraces = false) (K : Nat → Nat × Nat) (dC : Nat → ClassId) (dI : Nat → Nat → Nat) (cI cV cB cJ : ClassId) (sz : Heap) (E lv : Nat → Nat) (L : List Nat) (f : Nat → va_E) (qo : Nat) (g : Nat → Int64) (q0 ds wk wl : Nat) (r0 r1 r2 : Value) (p1 p2 b2 s2 : Nat) (wa wb : Int32) (wr : Option Nat) (g0 : Nat → Option Nat) (dg : Nat → Option Nat) (qy : Option Nat) (hI : CIn cI cV E lv L f dg qy) (d : Int32) (dk : Int32) (dgp : Nat → Int32) (dh : Nat → Option Nat) (S : Nat → Nat) (X : Nat → Option (JVt 32)) (Y : Option QT) (hDQ : DQv E f S dg X qy Y) : Met l y_Law_run (k_Law_run :: gtbl) ({ frames := 500, cells := 1, slots := 6, locals := 18800 }) (va_Pc [.ref q0, .int d, .ref qo] (mw K dC dI ([(q0, .inr (11, [r0, r1, r2, .ref wk, .ref ds, va_rf qy, .ref p1, .ref p2])), (ds, .inl (cV, 4, .inr (.inr (.inr (.inr dg))))), (wk, .inr (10, [.ref wl, .int wa, .int wb, va_rf wr])), (wl, .inl (cV, 10000, .inr (.inr (.inr (.inr g0))))), (p2, .inr (3, [.ref b2, .int dk, .ref s2])), (b2, .inl (cB, 16384, .inl dgp)), (s2, .inl (cV, 32, .inr (.inr (.inr (.inr dh))))), (qo, .inl (cJ, 1, .inr (.inl g)))] ++ va_pl L f) [(cI, .int), (cV, .object "QueryBench$Value"), (cB, .byte), (cJ, .long)] sz)) (va_Qi (fun (r : Int32) (u : (Nat → va_E) × Int32 × Int32 × (Nat → Option Nat) × Option Nat × (Nat → Int64) × Nat × Nat × Int32 × (Nat → Int32) × (Nat → Option Nat)) => CIn cI cV E lv L u.1 dg qy ∧ DQv E u.1 S dg X qy Y ∧ ∃ T, LRN X Y d r (u.2.2.2.2.2.1 0) T ∧ ((¬ r = 0 ∧ u.2.2.2.2.2.2.1 = p1 ∧ u.2.2.2.2.2.2.2.1 = p2) ∨ (r = 0 ∧ u.2.2.2.2.2.2.1 = p2 ∧ u.2.2.2.2.2.2.2.1 = p1 ∧ u.2.2.2.2.2.2.2.2.1 = nI T.length ∧ T.length ≤ 16384 ∧ ∀ i y, T[i]? = some y → u.2.2.2.2.2.2.2.2.2.1 i = y.toInt8.toInt32))) (fun u t9 => mz dC dI ([(q0, .inr (11, [r0, r1, r2, .ref wk, .ref ds, va_rf qy, .ref u.2.2.2.2.2.2.1, .ref u.2.2.2.2.2.2.2.1])), (ds, .inl (cV, 4, .inr (.inr (.inr (.inr dg))))), (wk, .inr (10, [.ref wl, .int u.2.1, .int u.2.2.1, va_rf u.2.2.2.2.1])), (wl, .inl (cV, 10000, .inr (.inr (.inr (.inr u.2.2.2.1))))), (p2, .inr (3, [.ref b2, .int u.2.2.2.2.2.2.2.2.1, .ref s2])), (b2, .inl (cB, 16384, .inl u.2.2.2.2.2.2.2.2.2.1)), (s2, .inl (cV, 32, .inr (.inr (.inr (.inr u.2.2.2.2.2.2.2.2.2.2))))), (qo, .inl (cJ, 1, .inr (.inl u.2.2.2.2.2.1)))] ++ va_pl L u.1) [(cI, .int), (cV, .object "QueryBench$Value"), (cB, .byte), (cJ, .long)] (va_A ([(q0, .inr (11, [r0, r1, r2, .ref wk, .ref ds, va_rf qy, .ref p1, .ref p2])), (ds, .inl (cV, 4, .inr (.inr (.inr (.inr dg))))), (wk, .inr (10, [.ref wl, .int wa, .int wb, va_rf wr])), (wl, .inl (cV, 10000, .inr (.inr (.inr (.inr g0))))), (p2, .inr (3, [.ref b2, .int dk, .ref s2])), (b2, .inl (cB, 16384, .inl dgp)), (s2, .inl (cV, 32, .inr (.inr (.inr (.inr dh))))), (qo, .inl (cJ, 1, .inr (.inl g)))] ++ va_pl L f) sz.size) t9 ∧ szk sz t9.heap (1) (6)) (va_A ([(q0, .inr (11, [r0, r1, r2, .ref wk, .ref ds, va_rf qy, .ref p1, .ref p2])), (ds, .inl (cV, 4, .inr (.inr (.inr (.inr dg))))), (wk, .inr (10, [.ref wl, .int wa, .int wb, va_rf wr])), (wl, .inl (cV, 10000, .inr (.inr (.inr (.inr g0))))), (p2, .inr (3, [.ref b2, .int dk, .ref s2])), (b2, .inl (cB, 16384, .inl dgp)), (s2, .inl (cV, 32, .inr (.inr (.inr (.inr dh))))), (qo, .inl (cJ, 1, .inr (.inl g)))] ++ va_pl L f) sz.size)) (1) (6) (va_A ([(q0, .inr (11, [r0, r1, r2, .ref wk, .ref ds, va_rf qy, .ref p1, .ref p2])), (ds, .inl (cV, 4, .inr (.inr (.inr (.inr dg))))), (wk, .inr (10, [.ref wl, .int wa, .int wb, va_rf wr])), (wl, .inl (cV, 10000, .inr (.inr (.inr (.inr g0))))), (p2, .inr (3, [.ref b2, .int dk, .ref s2])), (b2, .inl (cB, 16384, .inl dgp)), (s2, .inl (cV, 32, .inr (.inr (.inr (.inr dh))))), (qo, .inl (cJ, 1, .inr (.inl g)))] ++ va_pl L f) sz.size) := by
  refine met_ofWH (cc := b_Law_run) (maxL := 4) (ret := (some .int)) (by decide) rfl ?_
  intro p e s m args below meth c s₁ B hml htab hv
  obtain ⟨rfl, ⟨⟨hsz, hP, hK, hD0⟩, hN, hZ, hC, hV⟩, hNC⟩ := hv
  have hx := B.exec
  have hb := B.bytes
  have hr := B.returns
  have hts0 := atoms_spec (ws := k_Law_run :: gtbl) B.pre
  have hts := fun w h => hts0 w (List.mem_cons_of_mem _ h)
  have hown : s.vm.findClass R_Law = some m.cls := findClass_of_methodNamed B.named
  have hlocks := B.notSynchronized
  subst hsz
  have hD := hD0.self (sz := s.heap.size)
  generalize hAe : va_A ([(q0, .inr (11, [r0, r1, r2, .ref wk, .ref ds, va_rf qy, .ref p1, .ref p2])), (ds, .inl (cV, 4, .inr (.inr (.inr (.inr dg))))), (wk, .inr (10, [.ref wl, .int wa, .int wb, va_rf wr])), (wl, .inl (cV, 10000, .inr (.inr (.inr (.inr g0))))), (p2, .inr (3, [.ref b2, .int dk, .ref s2])), (b2, .inl (cB, 16384, .inl dgp)), (s2, .inl (cV, 32, .inr (.inr (.inr (.inr dh))))), (qo, .inl (cJ, 1, .inr (.inl g)))] ++ va_pl L f) s.heap.size = A at hD hZ hC ⊢
  have hA : ∀ q : Nat, s.heap.size ≤ q → A q := fun q h => by rw [← hAe]; exact Or.inr h
  have hS : va_S A s.heap s.heap [] := va_S.rf
  have hP : va_P (dC, dI) classes ([(q0, .inr (11, [r0, r1, r2, .ref wk, .ref ds, va_rf qy, .ref p1, .ref p2])), (ds, .inl (cV, 4, .inr (.inr (.inr (.inr dg))))), (wk, .inr (10, [.ref wl, .int wa, .int wb, va_rf wr])), (wl, .inl (cV, 10000, .inr (.inr (.inr (.inr g0))))), (p2, .inr (3, [.ref b2, .int dk, .ref s2])), (b2, .inl (cB, 16384, .inl dgp)), (s2, .inl (cV, 32, .inr (.inr (.inr (.inr dh))))), (qo, .inl (cJ, 1, .inr (.inl g)))] ++ va_pl L f) s.heap := hP
  have hl := lv_entry ([.ref q0, .int d, .ref qo]) (n := 4) (Nat.le_of_ble_eq_true rfl)
  rw [lg_entry_eq]
  generalize (lg_sl ([.ref q0, .int d, .ref qo]) ++ List.replicate (4 - (lg_sl ([.ref q0, .int d, .ref qo])).length) Slot.unset).toArray = ls at hl ⊢
  have hl : lv_has ls 4 [(0, .ref q0), (1, .int d), (2, .ref qo)] := hl
  refine lv_aload_n hx hb d_Law_run_0 rfl (lv_at hl 2 rfl) ?_
  refine lv_iconst (v := 0) hx hb d_Law_run_1 (by decide) ?_
  refine lv_aload_n hx hb d_Law_run_2 rfl (lv_at hl 0 rfl) ?_
  refine lv_iload_n hx hb d_Law_run_3 rfl (lv_at hl 1 rfl) ?_
  have hP : va_P (dC, dI) classes ([(q0, .inr (11, [r0, r1, r2, .ref wk, .ref ds, va_rf qy, .ref p1, .ref p2])), (ds, .inl (cV, 4, .inr (.inr (.inr (.inr dg))))), (wk, .inr (10, [.ref wl, .int wa, .int wb, va_rf wr])), (wl, .inl (cV, 10000, .inr (.inr (.inr (.inr g0))))), (p2, .inr (3, [.ref b2, .int dk, .ref s2])), (b2, .inl (cB, 16384, .inl dgp)), (s2, .inl (cV, 32, .inr (.inr (.inr (.inr dh))))), (qo, .inl (cJ, 1, .inr (.inl g)))] ++ va_pl L (pf f (nuF f))) s.heap := by rw [pf_self]; exact hP
  have hD : va_D A ([(q0, .inr (11, [r0, r1, r2, .ref wk, .ref ds, va_rf qy, .ref p1, .ref p2])), (ds, .inl (cV, 4, .inr (.inr (.inr (.inr dg))))), (wk, .inr (10, [.ref wl, .int wa, .int wb, va_rf wr])), (wl, .inl (cV, 10000, .inr (.inr (.inr (.inr g0))))), (p2, .inr (3, [.ref b2, .int dk, .ref s2])), (b2, .inl (cB, 16384, .inl dgp)), (s2, .inl (cV, 32, .inr (.inr (.inr (.inr dh))))), (qo, .inl (cJ, 1, .inr (.inl g)))] ++ va_pl L (pf f (nuF f))) := by rw [pf_self]; exact hD
  have hPc := hP.part (cx := [(q0, .inr (11, [r0, r1, r2, .ref wk, .ref ds, va_rf qy, .ref p1, .ref p2])), (ds, .inl (cV, 4, .inr (.inr (.inr (.inr dg))))), (wk, .inr (10, [.ref wl, .int wa, .int wb, va_rf wr])), (wl, .inl (cV, 10000, .inr (.inr (.inr (.inr g0))))), (p2, .inr (3, [.ref b2, .int dk, .ref s2])), (b2, .inl (cB, 16384, .inl dgp)), (s2, .inl (cV, 32, .inr (.inr (.inr (.inr dh)))))]) [0, 1, 2, 3, 4, 5, 6] rfl
  have hDc := hD.part (cx := [(q0, .inr (11, [r0, r1, r2, .ref wk, .ref ds, va_rf qy, .ref p1, .ref p2])), (ds, .inl (cV, 4, .inr (.inr (.inr (.inr dg))))), (wk, .inr (10, [.ref wl, .int wa, .int wb, va_rf wr])), (wl, .inl (cV, 10000, .inr (.inr (.inr (.inr g0))))), (p2, .inr (3, [.ref b2, .int dk, .ref s2])), (b2, .inl (cB, 16384, .inl dgp)), (s2, .inl (cV, 32, .inr (.inr (.inr (.inr dh)))))]) [0, 1, 2, 3, 4, 5, 6] (by decide) rfl
  have hFc := va_freeP (cx := [(q0, .inr (11, [r0, r1, r2, .ref wk, .ref ds, va_rf qy, .ref p1, .ref p2])), (ds, .inl (cV, 4, .inr (.inr (.inr (.inr dg))))), (wk, .inr (10, [.ref wl, .int wa, .int wb, va_rf wr])), (wl, .inl (cV, 10000, .inr (.inr (.inr (.inr g0))))), (p2, .inr (3, [.ref b2, .int dk, .ref s2])), (b2, .inl (cB, 16384, .inl dgp)), (s2, .inl (cV, 32, .inr (.inr (.inr (.inr dh)))))]) hD hS hA [0, 1, 2, 3, 4, 5, 6] rfl
  have hKc := hK.sub (tys' := [(cI, .int), (cV, .object "QueryBench$Value"), (cB, .byte)]) [0, 1, 2] rfl
  refine w_same (fun hq0 => ?_)
  refine vx_calli (vx_runV (As := [.int d]) (rest := [.int 0, .ref qo]) ⟨hx, hb, hml, hown, hts⟩ (t_QB_run l hl9 K dC dI s.heap cI cV E lv L f hI.po hI.2.1 cB q0 ds wk wl r0 r1 r2 p1 p2 b2 s2 wa wb wr g0 (nuF f) 80 qy hI.2.2.2 dg hI.2.2.1 d dk dgp dh S X Y (hDQ.x hI.po)) (cwV 1 hts (gt_V (own := R_Law) (C := R_QB) (i := 30) (y := y_QB_run) i_QB_run z_808 z_809 z_810 w_1) rfl rfl rfl (by decide +kernel) ⟨by show 90 + 5 * 80 + 1 ≤ 500; omega, by show 8 + (4 + 11) + (2700 + 200 * 80) ≤ 18800; omega⟩) ⟨ml_blind, va_recv hK hP (ci := 11) (q0 := 0) rfl rfl, fun U hU hW => ⟨rfl, ⟨hU, by rw [hU]; exact hPc, va_K.moved hW.alike hKc, hDc.weaken (fun _ _ _ _ => trivial)⟩, hN.warm hW, by rw [hU]; exact ZX.moved' hW.alike (ZX.narrow' (ZX.kept' hZ hS.2.1) hFc), by rw [hU]; exact CE.call hC hS.2.1 hFc hW, va_AO.moved hW.alike hV⟩⟩ rfl rfl hl.1 rfl (lv_room (Nat.le_of_ble_eq_true rfl)) d_Law_run_4 ⟨Nat.le_of_ble_eq_true rfl, Nat.le_of_ble_eq_true rfl⟩) hS (fun q _ h => hFc q h) hFc (fun q _ h => hFc q h) (fun En ce q9 ⟨wax, wbx, gx, wrx, nx, kx, gpx, hx9⟩ t9 H1 locs ht hvm hw hB hz1 hk1 hS hce hcv hcl => ?_) (fun r9 ⟨wa3, wb3, g3, wr3, n3, k3, gp3, h3⟩ t9 H1 locs ht hvm hw hB hz1 hk1 hS => ?_)
  · obtain ⟨hEn, hP1, hK1, hD1⟩ := hB
    rw [ht] at hP1
    obtain ⟨hP, hD⟩ := va_joinP (wr := [(qo, .inl (cJ, 1, .inr (.inl g)))]) (rx := [(q0, .inr (11, [r0, r1, r2, .ref wk, .ref ds, va_rf qy, .ref p1, .ref p2])), (ds, .inl (cV, 4, .inr (.inr (.inr (.inr dg))))), (wk, .inr (10, [.ref wl, .int wax, .int wbx, va_rf wrx])), (wl, .inl (cV, 10000, .inr (.inr (.inr (.inr gx))))), (p2, .inr (3, [.ref b2, .int kx, .ref s2])), (b2, .inl (cB, 16384, .inl gpx)), (s2, .inl (cV, 32, .inr (.inr (.inr (.inr hx9)))))]) (pl1 := va_pl L (pf f nx)) hP hD [0, 1, 2, 3, 4, 5, 6] [7] rfl rfl (by decide) (by decide) hk1 hFc hP1 hD1
    generalize H1 = H at hP hS hce ⊢
    have hP : va_P (dC, dI) classes ([(qo, .inl (cJ, 1, .inr (.inl g))), (q0, .inr (11, [r0, r1, r2, .ref wk, .ref ds, va_rf qy, .ref p1, .ref p2])), (ds, .inl (cV, 4, .inr (.inr (.inr (.inr dg))))), (wk, .inr (10, [.ref wl, .int wax, .int wbx, va_rf wrx])), (wl, .inl (cV, 10000, .inr (.inr (.inr (.inr gx))))), (p2, .inr (3, [.ref b2, .int kx, .ref s2])), (b2, .inl (cB, 16384, .inl gpx)), (s2, .inl (cV, 32, .inr (.inr (.inr (.inr hx9)))))] ++ va_pl L (pf f nx)) H := hP
    have hD : va_D A ([(qo, .inl (cJ, 1, .inr (.inl g))), (q0, .inr (11, [r0, r1, r2, .ref wk, .ref ds, va_rf qy, .ref p1, .ref p2])), (ds, .inl (cV, 4, .inr (.inr (.inr (.inr dg))))), (wk, .inr (10, [.ref wl, .int wax, .int wbx, va_rf wrx])), (wl, .inl (cV, 10000, .inr (.inr (.inr (.inr gx))))), (p2, .inr (3, [.ref b2, .int kx, .ref s2])), (b2, .inl (cB, 16384, .inl gpx)), (s2, .inl (cV, 32, .inr (.inr (.inr (.inr hx9)))))] ++ va_pl L (pf f nx)) := hD
    have hP := hP.part (cx := [(q0, .inr (11, [r0, r1, r2, .ref wk, .ref ds, va_rf qy, .ref p1, .ref p2])), (ds, .inl (cV, 4, .inr (.inr (.inr (.inr dg))))), (wk, .inr (10, [.ref wl, .int wax, .int wbx, va_rf wrx])), (wl, .inl (cV, 10000, .inr (.inr (.inr (.inr gx))))), (p2, .inr (3, [.ref b2, .int kx, .ref s2])), (b2, .inl (cB, 16384, .inl gpx)), (s2, .inl (cV, 32, .inr (.inr (.inr (.inr hx9))))), (qo, .inl (cJ, 1, .inr (.inl g)))]) [1, 2, 3, 4, 5, 6, 7, 0] rfl
    have hD := hD.part (cx := [(q0, .inr (11, [r0, r1, r2, .ref wk, .ref ds, va_rf qy, .ref p1, .ref p2])), (ds, .inl (cV, 4, .inr (.inr (.inr (.inr dg))))), (wk, .inr (10, [.ref wl, .int wax, .int wbx, va_rf wrx])), (wl, .inl (cV, 10000, .inr (.inr (.inr (.inr gx))))), (p2, .inr (3, [.ref b2, .int kx, .ref s2])), (b2, .inl (cB, 16384, .inl gpx)), (s2, .inl (cV, 32, .inr (.inr (.inr (.inr hx9))))), (qo, .inl (cJ, 1, .inr (.inl g)))]) [1, 2, 3, 4, 5, 6, 7, 0] (by decide) rfl
    have hnu : NUg S (nuF f) nx := hw
    rcases hEn with (⟨hEn, hno⟩ | ⟨hEn, hno⟩ | ⟨hEn, hno⟩) | ⟨hEn, hno⟩
    · subst hEn
      refine vx_catch (own := R_Law) (name := "java/lang/IllegalArgumentException") hown [] ⟨0, 9, 12, 19⟩ [⟨0, 9, 15, 33⟩, ⟨0, 9, 18, 13⟩] htab (fun z hz => nomatch hz) (by decide) (by decide) (hts _ w_255) (va_Nw.use rfl (hN _ nl_262)) hce hcv hcl ?_
      refine lv_astore_n (lv' := [(3, .ref q9), (0, .ref q0), (1, .int d), (2, .ref qo)]) hx hb d_Law_run_12 rfl hl (by decide) rfl (fun ls hl => ?_)
      refine lv_iconst (v := 1) hx hb d_Law_run_13 (by decide) ?_
      refine w_same (fun hq => ?_)
      refine W.widen (k := 1) (n := 6) (by show 1 ≤ 1; omega) (by show 6 ≤ 6; omega) ?_
      exact W.iret (v := 1) hx hb hr (fun t9 ht hW => ⟨⟨1, (pf f nx, wax, wbx, gx, wrx, g, p1, p2, kx, gpx, hx9), rfl, ⟨hI.num nx, hDQ.num hI hnu, [], Or.inr (Or.inl ⟨rfl, hno⟩), Or.inl ⟨by decide, rfl, rfl⟩⟩, ⟨by rw [ht]; exact hP, va_K.moved hW.alike hK, hD⟩, by rw [ht]; exact hq.mono (by show 1 ≤ 1; omega) (by show 6 ≤ 6; omega)⟩, hS.F ht⟩) hS.2.2 d_Law_run_14
    · subst hEn
      refine vx_catch (own := R_Law) (name := "java/lang/IllegalStateException") hown [⟨0, 9, 12, 19⟩] ⟨0, 9, 15, 33⟩ [⟨0, 9, 18, 13⟩] htab (List.forall_mem_cons.mpr ⟨Or.inr ⟨by decide, "java/lang/IllegalArgumentException", hts _ w_255, hNC.2.1⟩, (fun _ h => nomatch h)⟩) (by decide) (by decide) (hts _ z_807) (va_Nw.use rfl (hN _ nz_818)) hce hcv hcl ?_
      refine lv_astore_n (lv' := [(3, .ref q9), (0, .ref q0), (1, .int d), (2, .ref qo)]) hx hb d_Law_run_15 rfl hl (by decide) rfl (fun ls hl => ?_)
      refine lv_iconst (v := 2) hx hb d_Law_run_16 (by decide) ?_
      refine w_same (fun hq => ?_)
      refine W.widen (k := 1) (n := 6) (by show 1 ≤ 1; omega) (by show 6 ≤ 6; omega) ?_
      exact W.iret (v := 2) hx hb hr (fun t9 ht hW => ⟨⟨2, (pf f nx, wax, wbx, gx, wrx, g, p1, p2, kx, gpx, hx9), rfl, ⟨hI.num nx, hDQ.num hI hnu, [], Or.inr (Or.inr (Or.inl ⟨rfl, hno⟩)), Or.inl ⟨by decide, rfl, rfl⟩⟩, ⟨by rw [ht]; exact hP, va_K.moved hW.alike hK, hD⟩, by rw [ht]; exact hq.mono (by show 1 ≤ 1; omega) (by show 6 ≤ 6; omega)⟩, hS.F ht⟩) hS.2.2 d_Law_run_17
    · subst hEn
      refine vx_catch (own := R_Law) (name := "java/lang/IndexOutOfBoundsException") hown [⟨0, 9, 12, 19⟩, ⟨0, 9, 15, 33⟩] ⟨0, 9, 18, 13⟩ [] htab (List.forall_mem_cons.mpr ⟨Or.inr ⟨by decide, "java/lang/IllegalArgumentException", hts _ w_255, hNC.2.2.1⟩, List.forall_mem_cons.mpr ⟨Or.inr ⟨by decide, "java/lang/IllegalStateException", hts _ z_807, hNC.2.2.2⟩, (fun _ h => nomatch h)⟩⟩) (by decide) (by decide) (hts _ w_179) (va_Nw.use rfl (hN _ nl_186)) hce hcv hcl ?_
      refine lv_astore_n (lv' := [(3, .ref q9), (0, .ref q0), (1, .int d), (2, .ref qo)]) hx hb d_Law_run_18 rfl hl (by decide) rfl (fun ls hl => ?_)
      refine lv_iconst (v := 3) hx hb d_Law_run_19 (by decide) ?_
      refine w_same (fun hq => ?_)
      refine W.widen (k := 1) (n := 6) (by show 1 ≤ 1; omega) (by show 6 ≤ 6; omega) ?_
      exact W.iret (v := 3) hx hb hr (fun t9 ht hW => ⟨⟨3, (pf f nx, wax, wbx, gx, wrx, g, p1, p2, kx, gpx, hx9), rfl, ⟨hI.num nx, hDQ.num hI hnu, [], (by obtain ⟨j7, x7, m7, h1, h2, h3, h4, h5⟩ := hno; exact Or.inr (Or.inr (Or.inr ⟨rfl, j7, x7, m7, h1, h2, h3, h4, Or.inl h5⟩))), Or.inl ⟨by decide, rfl, rfl⟩⟩, ⟨by rw [ht]; exact hP, va_K.moved hW.alike hK, hD⟩, by rw [ht]; exact hq.mono (by show 1 ≤ 1; omega) (by show 6 ≤ 6; omega)⟩, hS.F ht⟩) hS.2.2 d_Law_run_20
    · subst hEn
      refine vx_catch (own := R_Law) (name := "java/lang/IndexOutOfBoundsException") hown [⟨0, 9, 12, 19⟩, ⟨0, 9, 15, 33⟩] ⟨0, 9, 18, 13⟩ [] htab (List.forall_mem_cons.mpr ⟨Or.inr ⟨by decide, "java/lang/IllegalArgumentException", hts _ w_255, hNC.2.2.1⟩, List.forall_mem_cons.mpr ⟨Or.inr ⟨by decide, "java/lang/IllegalStateException", hts _ z_807, hNC.2.2.2⟩, (fun _ h => nomatch h)⟩⟩) (by decide) (by decide) (hts _ w_179) (va_Nw.use rfl (hN _ nl_186)) hce hcv hcl ?_
      refine lv_astore_n (lv' := [(3, .ref q9), (0, .ref q0), (1, .int d), (2, .ref qo)]) hx hb d_Law_run_18 rfl hl (by decide) rfl (fun ls hl => ?_)
      refine lv_iconst (v := 3) hx hb d_Law_run_19 (by decide) ?_
      refine w_same (fun hq => ?_)
      refine W.widen (k := 1) (n := 6) (by show 1 ≤ 1; omega) (by show 6 ≤ 6; omega) ?_
      exact W.iret (v := 3) hx hb hr (fun t9 ht hW => ⟨⟨3, (pf f nx, wax, wbx, gx, wrx, g, p1, p2, kx, gpx, hx9), rfl, ⟨hI.num nx, hDQ.num hI hnu, [], (by obtain ⟨j7, x7, m7, h1, h2, h3, h4, h5, h6⟩ := hno; exact Or.inr (Or.inr (Or.inr ⟨rfl, j7, x7, m7, h1, h2, h3, h4, Or.inr h6⟩))), Or.inl ⟨by decide, rfl, rfl⟩⟩, ⟨by rw [ht]; exact hP, va_K.moved hW.alike hK, hD⟩, by rw [ht]; exact hq.mono (by show 1 ≤ 1; omega) (by show 6 ≤ 6; omega)⟩, hS.F ht⟩) hS.2.2 d_Law_run_20
  · obtain ⟨⟨hP1, hK1, hD1⟩, hz9⟩ := hB
    rw [ht] at hP1
    rw [ht] at hz9
    have hq0 : szk s.heap H1 (0) (0) := (hq0.trans hz9).mono (Nat.le_refl _) (Nat.le_refl _)
    refine w_tight hq0 ?_
    obtain ⟨hP, hD⟩ := va_joinP (wr := [(qo, .inl (cJ, 1, .inr (.inl g)))]) (rx := [(q0, .inr (11, [r0, r1, r2, .ref wk, .ref ds, va_rf qy, .ref p2, .ref p1])), (ds, .inl (cV, 4, .inr (.inr (.inr (.inr dg))))), (wk, .inr (10, [.ref wl, .int wa3, .int wb3, va_rf wr3])), (wl, .inl (cV, 10000, .inr (.inr (.inr (.inr g3))))), (p2, .inr (3, [.ref b2, .int (nI k3), .ref s2])), (b2, .inl (cB, 16384, .inl gp3)), (s2, .inl (cV, 32, .inr (.inr (.inr (.inr h3)))))]) (pl1 := va_pl L (pf f n3)) hP hD [0, 1, 2, 3, 4, 5, 6] [7] rfl rfl (by decide) (by decide) hk1 hFc hP1 hD1
    generalize H1 = H at hP hS hq0 ⊢
    have hP : va_P (dC, dI) classes ([(qo, .inl (cJ, 1, .inr (.inl g))), (q0, .inr (11, [r0, r1, r2, .ref wk, .ref ds, va_rf qy, .ref p2, .ref p1])), (ds, .inl (cV, 4, .inr (.inr (.inr (.inr dg))))), (wk, .inr (10, [.ref wl, .int wa3, .int wb3, va_rf wr3])), (wl, .inl (cV, 10000, .inr (.inr (.inr (.inr g3))))), (p2, .inr (3, [.ref b2, .int (nI k3), .ref s2])), (b2, .inl (cB, 16384, .inl gp3)), (s2, .inl (cV, 32, .inr (.inr (.inr (.inr h3)))))] ++ va_pl L (pf f n3)) H := hP
    have hD : va_D A ([(qo, .inl (cJ, 1, .inr (.inl g))), (q0, .inr (11, [r0, r1, r2, .ref wk, .ref ds, va_rf qy, .ref p2, .ref p1])), (ds, .inl (cV, 4, .inr (.inr (.inr (.inr dg))))), (wk, .inr (10, [.ref wl, .int wa3, .int wb3, va_rf wr3])), (wl, .inl (cV, 10000, .inr (.inr (.inr (.inr g3))))), (p2, .inr (3, [.ref b2, .int (nI k3), .ref s2])), (b2, .inl (cB, 16384, .inl gp3)), (s2, .inl (cV, 32, .inr (.inr (.inr (.inr h3)))))] ++ va_pl L (pf f n3)) := hD
    have hP := hP.part (cx := [(q0, .inr (11, [r0, r1, r2, .ref wk, .ref ds, va_rf qy, .ref p2, .ref p1])), (ds, .inl (cV, 4, .inr (.inr (.inr (.inr dg))))), (wk, .inr (10, [.ref wl, .int wa3, .int wb3, va_rf wr3])), (wl, .inl (cV, 10000, .inr (.inr (.inr (.inr g3))))), (p2, .inr (3, [.ref b2, .int (nI k3), .ref s2])), (b2, .inl (cB, 16384, .inl gp3)), (s2, .inl (cV, 32, .inr (.inr (.inr (.inr h3))))), (qo, .inl (cJ, 1, .inr (.inl g)))]) [1, 2, 3, 4, 5, 6, 7, 0] rfl
    have hD := hD.part (cx := [(q0, .inr (11, [r0, r1, r2, .ref wk, .ref ds, va_rf qy, .ref p2, .ref p1])), (ds, .inl (cV, 4, .inr (.inr (.inr (.inr dg))))), (wk, .inr (10, [.ref wl, .int wa3, .int wb3, va_rf wr3])), (wl, .inl (cV, 10000, .inr (.inr (.inr (.inr g3))))), (p2, .inr (3, [.ref b2, .int (nI k3), .ref s2])), (b2, .inl (cB, 16384, .inl gp3)), (s2, .inl (cV, 32, .inr (.inr (.inr (.inr h3))))), (qo, .inl (cJ, 1, .inr (.inl g)))]) [1, 2, 3, 4, 5, 6, 7, 0] (by decide) rfl
    obtain ⟨⟨T7, ⟨j7, x7, m7, hj7, hd7, hX7, hY7, hle7, hr9, hT7⟩, hwk⟩, hnu⟩ := hw
    have hnu : NUg S (nuF f) n3 := hnu
    have hr9 : r9 = nI (m7 (rtN x7) (rtN x7)).1.length := hr9
    have hwk : WOK 0 dgp T7 k3 gp3 := hwk
    obtain ⟨hk7, hl7, hb7⟩ := hwk.zero
    refine lv_i2l (v := r9.toInt64) hx hb d_Law_run_7 rfl ?_
    refine va_last hx hb hK hP hD hS 7 3 rfl rfl (vp_in_nI (n := 0) (by decide) (by decide)) d_Law_run_8 (fun H locs hP hD hS => ?_)
    have hP : va_P (dC, dI) classes ([(q0, .inr (11, [r0, r1, r2, .ref wk, .ref ds, va_rf qy, .ref p2, .ref p1])), (ds, .inl (cV, 4, .inr (.inr (.inr (.inr dg))))), (wk, .inr (10, [.ref wl, .int wa3, .int wb3, va_rf wr3])), (wl, .inl (cV, 10000, .inr (.inr (.inr (.inr g3))))), (p2, .inr (3, [.ref b2, .int (nI k3), .ref s2])), (b2, .inl (cB, 16384, .inl gp3)), (s2, .inl (cV, 32, .inr (.inr (.inr (.inr h3))))), (qo, .inl (cJ, 1, .inr (.inl (vp_updL g 0 (r9.toInt64)))))] ++ va_pl L (pf f n3)) H := hP
    have hD : va_D A ([(q0, .inr (11, [r0, r1, r2, .ref wk, .ref ds, va_rf qy, .ref p2, .ref p1])), (ds, .inl (cV, 4, .inr (.inr (.inr (.inr dg))))), (wk, .inr (10, [.ref wl, .int wa3, .int wb3, va_rf wr3])), (wl, .inl (cV, 10000, .inr (.inr (.inr (.inr g3))))), (p2, .inr (3, [.ref b2, .int (nI k3), .ref s2])), (b2, .inl (cB, 16384, .inl gp3)), (s2, .inl (cV, 32, .inr (.inr (.inr (.inr h3))))), (qo, .inl (cJ, 1, .inr (.inl (vp_updL g 0 (r9.toInt64)))))] ++ va_pl L (pf f n3)) := hD
    refine lv_goto (tgt := 21) hx hb d_Law_run_9 (by decide) ?_
    refine lv_iconst (v := 0) hx hb d_Law_run_21 (by decide) ?_
    refine w_same (fun hq => ?_)
    refine W.widen (k := 1) (n := 6) (by show 0 ≤ 1; omega) (by show 0 ≤ 6; omega) ?_
    exact W.iret (v := 0) hx hb hr (fun t9 ht hW => ⟨⟨0, (pf f n3, wa3, wb3, g3, wr3, vp_updL g 0 (r9.toInt64), p2, p1, nI k3, gp3, h3), rfl, ⟨hI.num n3, hDQ.num hI hnu, T7, Or.inl ⟨rfl, j7, x7, m7, hj7, hd7, hX7, hY7, hle7, hT7, hl7, by rw [← hr9]; rfl⟩, Or.inr ⟨rfl, rfl, rfl, by rw [hk7], hl7, hb7⟩⟩, ⟨by rw [ht]; exact hP, va_K.moved hW.alike hK, hD⟩, by rw [ht]; exact hq.mono (by show 0 ≤ 1; omega) (by show 0 ≤ 6; omega)⟩, hS.F ht⟩) hS.2.2 d_Law_run_22
