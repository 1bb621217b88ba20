set_option maxHeartbeats 4000000 in
set_option maxRecDepth 100000 in
/-- Walk.begin: what it finds -/
theorem p_Walk_begin (l : Launch) (hl9 : l.stackTraces = false) (K : Nat → Nat × Nat) (dC : Nat → ClassId) (dI : Nat → Nat → Nat) (sz : Heap) (cI cV : ClassId) (E lv : Nat → Nat) (L : List Nat) (f : Nat → va_E) (hO : PO cI cV E lv L f) (hN1 : ∀ a, E a ≠ 1) (PL : List NT) (AL : List Nat) (S : Nat → Nat) (wk wl : Nat) (wa wb : Int32) (wr : Option Nat) (g : Nat → Option Nat) (ν : Nat → Int64) (n qu dv : Nat) (hqu : E qu = 7) (hlq : lv qu ≤ n) (hdv : isF E dv) (dvn : NT) (hdn : NCr PL AL dv dvn) (hDq9 : (∀ ν2, NUg S ν ν2 → DOC E (pf f ν2) PL AL)) (m9 : QT) (hQ : QD (pf f ν) S qu m9) : vx_Met l y_Walk_begin (k_Walk_begin :: gtbl) ({ frames := 61 + 5 * n, cells := 1, slots := 6, locals := 2540 + 200 * n }) (va_Pc [.ref wk, .ref qu, .ref dv] (ml K dC dI ([(wk, .inr (10, [.ref wl, .int wa, .int wb, va_rf wr])), (wl, .inl (cV, 10000, .inr (.inr (.inr (.inr g)))))] ++ va_pl L (pf f ν)) [(cI, .int), (cV, .object "QueryBench$Value")] sz)) (va_Qi (fun (r : Int32) (u : Nat × Nat × (Nat → Option Nat) × (Nat → Int64)) => ∃ fr, r = nI fr ∧ NDK E PL AL S (m9 dvn dvn) 0 0 g ν fr u.1 u.2.1 u.2.2.1 u.2.2.2) (fun u t9 => mz dC dI ([(wk, .inr (10, [.ref wl, .int (nI u.1), .int (nI u.2.1), .ref dv])), (wl, .inl (cV, 10000, .inr (.inr (.inr (.inr u.2.2.1)))))] ++ va_pl L (pf f u.2.2.2)) [(cI, .int), (cV, .object "QueryBench$Value")] (va_A ([(wk, .inr (10, [.ref wl, .int wa, .int wb, va_rf wr])), (wl, .inl (cV, 10000, .inr (.inr (.inr (.inr g)))))] ++ va_pl L (pf f ν)) sz.size) t9 ∧ szk sz t9.heap (0) (0)) (va_A ([(wk, .inr (10, [.ref wl, .int wa, .int wb, va_rf wr])), (wl, .inl (cV, 10000, .inr (.inr (.inr (.inr g)))))] ++ va_pl L (pf f ν)) sz.size)) (vx_X (fun (u : Int32 × Int32 × (Nat → Option Nat) × Option Nat × (Nat → Int64)) => 10000 < (m9 dvn dvn).2 ∧ NUg S ν u.2.2.2.2) (fun En u t9 => En = IOB ∧ mz dC dI ([(wk, .inr (10, [.ref wl, .int u.1, .int u.2.1, va_rf u.2.2.2.1])), (wl, .inl (cV, 10000, .inr (.inr (.inr (.inr u.2.2.1)))))] ++ va_pl L (pf f u.2.2.2.2)) [(cI, .int), (cV, .object "QueryBench$Value")] (va_A ([(wk, .inr (10, [.ref wl, .int wa, .int wb, va_rf wr])), (wl, .inl (cV, 10000, .inr (.inr (.inr (.inr g)))))] ++ va_pl L (pf f ν)) sz.size) t9) (va_A ([(wk, .inr (10, [.ref wl, .int wa, .int wb, va_rf wr])), (wl, .inl (cV, 10000, .inr (.inr (.inr (.inr g)))))] ++ va_pl L (pf f ν)) sz.size)) (1) (6) (va_A ([(wk, .inr (10, [.ref wl, .int wa, .int wb, va_rf wr])), (wl, .inl (cV, 10000, .inr (.inr (.inr (.inr g)))))] ++ va_pl L (pf f ν)) sz.size) := by
  refine vx_ofW (cc := b_Walk_begin) (maxL := 3) (ret := (some .int)) (by decide) rfl ?_
  intro p e s m args below meth c s₁ B hml hex hv
  obtain ⟨rfl, ⟨hsz, hP, hK, hD0⟩, hN, hZ, hC, hV⟩ := hv
  have hx := B.exec
  have hb := B.bytes
  have hr := B.returns
  have hts0 := atoms_spec (ws := k_Walk_begin :: gtbl) B.pre
  have hts := fun w h => hts0 w (List.mem_cons_of_mem _ h)
  have hown : s.vm.findClass R_Walk = some m.cls := findClass_of_methodNamed B.named
  have hlocks := B.notSynchronized
  subst hsz
  have hD := hD0.self (sz := s.heap.size)
  generalize hAe : va_A ([(wk, .inr (10, [.ref wl, .int wa, .int wb, va_rf wr])), (wl, .inl (cV, 10000, .inr (.inr (.inr (.inr g)))))] ++ va_pl L (pf f ν)) s.heap.size = A at hD hZ hC ⊢
  have hA : ∀ q : Nat, s.heap.size ≤ q → A q := fun q h => by rw [← hAe]; exact Or.inr h
  have hS : va_S A s.heap s.heap [] := va_S.rf
  have hP : va_P (dC, dI) classes ([(wk, .inr (10, [.ref wl, .int wa, .int wb, va_rf wr])), (wl, .inl (cV, 10000, .inr (.inr (.inr (.inr g)))))] ++ va_pl L (pf f ν)) s.heap := hP
  have hl := lv_entry ([.ref wk, .ref qu, .ref dv]) (n := 3) (Nat.le_of_ble_eq_true rfl)
  rw [lg_entry_eq]
  generalize (lg_sl ([.ref wk, .ref qu, .ref dv]) ++ List.replicate (3 - (lg_sl ([.ref wk, .ref qu, .ref dv])).length) Slot.unset).toArray = ls at hl ⊢
  have hl : lv_has ls 3 [(0, .ref wk), (1, .ref qu), (2, .ref dv)] := hl
  refine lv_aload_n hx hb d_Walk_begin_0 rfl (lv_at hl 0 rfl) ?_
  refine lv_aload_n hx hb d_Walk_begin_1 rfl (lv_at hl 2 rfl) ?_
  refine va_put (D := (dC, dI)) (ci := 10) (v := .ref dv) (ty := .object "QueryBench$Value") (C := R_Walk) (T := F_Walk) (N := 4) hx hb hts in_Walk t_Walk t_Walk_ok n_Walk hown hK hP hD hS 0 rfl rfl 3 (by decide) (hts _ z_121) (fun _ h9 => h9) rfl (by decide +kernel) rfl rfl (Nat.le_of_ble_eq_true rfl) d_Walk_begin_2 (fun H locs hP hD hS => ?_)
  have hP : va_P (dC, dI) classes ([(wk, .inr (10, [.ref wl, .int wa, .int wb, .ref dv])), (wl, .inl (cV, 10000, .inr (.inr (.inr (.inr g)))))] ++ va_pl L (pf f ν)) H := hP
  have hD : va_D A ([(wk, .inr (10, [.ref wl, .int wa, .int wb, .ref dv])), (wl, .inl (cV, 10000, .inr (.inr (.inr (.inr g)))))] ++ va_pl L (pf f ν)) := hD
  refine lv_aload_n hx hb d_Walk_begin_5 rfl (lv_at hl 0 rfl) ?_
  refine lv_iconst (v := 0) hx hb d_Walk_begin_6 (by decide) ?_
  refine va_put (D := (dC, dI)) (ci := 10) (v := .int 0) (ty := .int) (C := R_Walk) (T := F_Walk) (N := 4) hx hb hts in_Walk t_Walk t_Walk_ok n_Walk hown hK hP hD hS 0 rfl rfl 1 (by decide) (hts _ z_117) (fun _ h9 => h9) rfl (by decide +kernel) rfl rfl (Nat.le_of_ble_eq_true rfl) d_Walk_begin_7 (fun H locs hP hD hS => ?_)
  have hP : va_P (dC, dI) classes ([(wk, .inr (10, [.ref wl, .int 0, .int wb, .ref dv])), (wl, .inl (cV, 10000, .inr (.inr (.inr (.inr g)))))] ++ va_pl L (pf f ν)) H := hP
  have hD : va_D A ([(wk, .inr (10, [.ref wl, .int 0, .int wb, .ref dv])), (wl, .inl (cV, 10000, .inr (.inr (.inr (.inr g)))))] ++ va_pl L (pf f ν)) := hD
  refine lv_aload_n hx hb d_Walk_begin_10 rfl (lv_at hl 0 rfl) ?_
  refine lv_iconst (v := 0) hx hb d_Walk_begin_11 (by decide) ?_
  refine va_put (D := (dC, dI)) (ci := 10) (v := .int 0) (ty := .int) (C := R_Walk) (T := F_Walk) (N := 4) hx hb hts in_Walk t_Walk t_Walk_ok n_Walk hown hK hP hD hS 0 rfl rfl 2 (by decide) (hts _ w_119) (fun _ h9 => h9) rfl (by decide +kernel) rfl rfl (Nat.le_of_ble_eq_true rfl) d_Walk_begin_12 (fun H locs hP hD hS => ?_)
  have hP : va_P (dC, dI) classes ([(wk, .inr (10, [.ref wl, .int 0, .int 0, .ref dv])), (wl, .inl (cV, 10000, .inr (.inr (.inr (.inr g)))))] ++ va_pl L (pf f ν)) H := hP
  have hD : va_D A ([(wk, .inr (10, [.ref wl, .int 0, .int 0, .ref dv])), (wl, .inl (cV, 10000, .inr (.inr (.inr (.inr g)))))] ++ va_pl L (pf f ν)) := hD
  refine lv_aload_n hx hb d_Walk_begin_15 rfl (lv_at hl 0 rfl) ?_
  refine lv_aload_n hx hb d_Walk_begin_16 rfl (lv_at hl 1 rfl) ?_
  refine lv_aload_n hx hb d_Walk_begin_17 rfl (lv_at hl 2 rfl) ?_
  have hW9 : WI E 0 0 g := ⟨Nat.le_refl _, Nat.zero_le _, fun j hj => absurd hj (Nat.not_lt_zero _)⟩
  have hP : va_P (dC, dI) classes ([(wk, .inr (10, [.ref wl, .int (nI 0), .int (nI 0), .ref dv])), (wl, .inl (cV, 10000, .inr (.inr (.inr (.inr g)))))] ++ va_pl L (pf f ν)) H := hP
  have hD : va_D A ([(wk, .inr (10, [.ref wl, .int (nI 0), .int (nI 0), .ref dv])), (wl, .inl (cV, 10000, .inr (.inr (.inr (.inr g)))))] ++ va_pl L (pf f ν)) := hD
  have hPc := hP.part (cx := [(wk, .inr (10, [.ref wl, .int (nI 0), .int (nI 0), .ref dv])), (wl, .inl (cV, 10000, .inr (.inr (.inr (.inr g)))))]) [0, 1] rfl
  have hDc := hD.part (cx := [(wk, .inr (10, [.ref wl, .int (nI 0), .int (nI 0), .ref dv])), (wl, .inl (cV, 10000, .inr (.inr (.inr (.inr g)))))]) [0, 1] (by decide) rfl
  have hFc := va_freeP (cx := [(wk, .inr (10, [.ref wl, .int (nI 0), .int (nI 0), .ref dv])), (wl, .inl (cV, 10000, .inr (.inr (.inr (.inr g)))))]) hD hS hA [0, 1] rfl
  have hKc := hK.sub (tys' := [(cI, .int), (cV, .object "QueryBench$Value")]) [0, 1] rfl
  refine w_same (fun hq0 => ?_)
  refine vx_calli (vx_runV (As := [.ref qu, .ref dv]) (rest := []) ⟨hx, hb, hml, hown, hts⟩ ((p_WL l hl9 K dC dI cI cV E lv L f hO hN1 PL AL wk wl dv hdv dvn hdn n).1 H S 0 0 g ν hW9 hDq9 qu dv m9 dvn hqu hlq hQ hdn) (cwV 2 hts (gt_V (own := R_Walk) (C := R_Walk) (i := 28) (y := y_Walk_nodes) i_Walk_nodes z_835 z_837 (gt_sel (y := y_Walk_nodes) (n := 4) (by decide +kernel)) w_5) rfl rfl rfl (by decide +kernel) ⟨by show 60 + 5 * n + 1 ≤ 61 + 5 * n; omega, by show 8 + (7 + 11) + (2500 + 200 * n) ≤ 2540 + 200 * n; omega⟩) ⟨ml_blind, va_recv hK hP (ci := 10) (q0 := 0) rfl rfl, fun U hU hW => ⟨rfl, ⟨hU, by rw [hU]; exact hPc, va_K.moved hW.alike hKc, hDc.weaken (fun _ _ _ _ => trivial)⟩, hN.warm hW, by rw [hU]; exact ZX.moved' hW.alike (ZX.narrow' (ZX.kept' hZ hS.2.1) hFc), by rw [hU]; exact CE.call hC hS.2.1 hFc hW, va_AO.moved hW.alike hV⟩⟩ rfl rfl hl.1 rfl (lv_room (Nat.le_of_ble_eq_true rfl)) d_Walk_begin_18 ⟨Nat.le_of_ble_eq_true rfl, Nat.le_of_ble_eq_true rfl⟩) hS (fun q _ h => hFc q h) hFc (fun q _ h => hFc q h) (fun En ce q9 ⟨tx, sx, gx, nx⟩ t9 H1 locs ht hvm hw hB hz1 hk1 hS hce hcv hcl => ?_) (fun r21 ⟨t21, s21, g21, n21⟩ t9 H1 locs ht hvm hw hB hz1 hk1 hS => ?_)
  · obtain ⟨hEn, hP1, hK1, hD1⟩ := hB
    rw [ht] at hP1
    obtain ⟨hP, hD⟩ := va_joinP (wr := []) (rx := [(wk, .inr (10, [.ref wl, .int tx, .int sx, .ref dv])), (wl, .inl (cV, 10000, .inr (.inr (.inr (.inr gx)))))]) (pl1 := va_pl L (pf f nx)) hP hD [0, 1] [] rfl rfl (by decide) (by decide) hk1 hFc hP1 hD1
    generalize H1 = H at hP hS hce ⊢
    have hP : va_P (dC, dI) classes ([(wk, .inr (10, [.ref wl, .int tx, .int sx, .ref dv])), (wl, .inl (cV, 10000, .inr (.inr (.inr (.inr gx)))))] ++ va_pl L (pf f nx)) H := hP
    have hD : va_D A ([(wk, .inr (10, [.ref wl, .int tx, .int sx, .ref dv])), (wl, .inl (cV, 10000, .inr (.inr (.inr (.inr gx)))))] ++ va_pl L (pf f nx)) := hD
    have hno : 10000 < (m9 dvn dvn).2 := by have hw : 10000 < 0 + (m9 dvn dvn).2 := hw.1; omega
    exact vx_out (fun x hx => (hex x hx).elim) hlocks hce hcv hcl (fun t9 ht2 ha => ⟨(tx, sx, gx, some dv, nx), ⟨hno, hw.2⟩, ⟨hEn, by rw [ht2]; exact hP, va_K.moved ha hK, hD⟩, hS.F ht2⟩) hS.2.2 (Nat.le_of_ble_eq_true rfl) (Nat.le_of_ble_eq_true rfl)
  · obtain ⟨⟨hP1, hK1, hD1⟩, hz9⟩ := hB
    rw [ht] at hP1
    rw [ht] at hz9
    refine w_tight (hq0.trans hz9) ?_
    have hq0 := hq0.trans hz9
    obtain ⟨hP, hD⟩ := va_joinP (wr := []) (rx := [(wk, .inr (10, [.ref wl, .int (nI t21), .int (nI s21), .ref dv])), (wl, .inl (cV, 10000, .inr (.inr (.inr (.inr g21)))))]) (pl1 := va_pl L (pf f n21)) hP hD [0, 1] [] rfl rfl (by decide) (by decide) hk1 hFc hP1 hD1
    generalize H1 = H at hP hS hq0 ⊢
    have hP : va_P (dC, dI) classes ([(wk, .inr (10, [.ref wl, .int (nI t21), .int (nI s21), .ref dv])), (wl, .inl (cV, 10000, .inr (.inr (.inr (.inr g21)))))] ++ va_pl L (pf f n21)) H := hP
    have hD : va_D A ([(wk, .inr (10, [.ref wl, .int (nI t21), .int (nI s21), .ref dv])), (wl, .inl (cV, 10000, .inr (.inr (.inr (.inr g21)))))] ++ va_pl L (pf f n21)) := hD
    obtain ⟨fr, hfr1, hNK⟩ := hw
    have hNK : NDK E PL AL S (m9 dvn dvn) 0 0 g ν fr t21 s21 g21 n21 := hNK
    have hfr1 : r21 = nI fr := hfr1
    subst hfr1
    refine w_same (fun hq => ?_)
    refine W.widen (k := 1) (n := 6) (Nat.le_of_ble_eq_true rfl) (Nat.le_of_ble_eq_true rfl) ?_
    refine vx_ret ?_
    exact W.iret (v := (nI fr)) hx hb hr (fun t9 ht hW => ⟨⟨(nI fr), (t21, s21, g21, n21), rfl, ⟨fr, rfl, hNK⟩, ⟨by rw [ht]; exact hP, va_K.moved hW.alike hK, hD⟩, by rw [ht]; exact hq⟩, hS.F ht⟩) hS.2.2 d_Walk_begin_21
set_option maxHeartbeats 4000000 in
set_option maxRecDepth 100000 in
/-- QueryBench.checkReady: when it refuses -/
theorem p_QB_checkReady (l : Launch) (hl9 : l.stackTraces = false) (dC : Nat → ClassId) (dI : Nat → Nat → Nat) (sz : Heap) (cV : ClassId) (q0 ds : Nat) (r0 r1 r2 r3 : Value) (p1 p2 : Nat) (qo : Option Nat) (dg : Nat → Option Nat) (d : Nat) (hd : d < 4) : vx_Met l y_QB_checkReady (k_QB_checkReady :: gtbl) ({ frames := 8, cells := 1, slots := 6, locals := 110 }) (va_Pc [.ref q0, .int (nI d)] (mx dC dI ([(q0, .inr (11, [r0, r1, r2, r3, .ref ds, va_rf qo, .ref p1, .ref p2])), (ds, .inl (cV, 4, .inr (.inr (.inr (.inr dg)))))]) [(cV, .object "QueryBench$Value")] sz)) (va_Qv (fun (u : Unit) => (∃ b, dg d = some b) ∧ ∃ q, qo = some q) (fun u t9 => mz dC dI ([(q0, .inr (11, [r0, r1, r2, r3, .ref ds, va_rf qo, .ref p1, .ref p2])), (ds, .inl (cV, 4, .inr (.inr (.inr (.inr dg)))))]) [(cV, .object "QueryBench$Value")] (va_A ([(q0, .inr (11, [r0, r1, r2, r3, .ref ds, va_rf qo, .ref p1, .ref p2])), (ds, .inl (cV, 4, .inr (.inr (.inr (.inr dg)))))]) sz.size) t9 ∧ szk sz t9.heap (0) (0)) (va_A ([(q0, .inr (11, [r0, r1, r2, r3, .ref ds, va_rf qo, .ref p1, .ref p2])), (ds, .inl (cV, 4, .inr (.inr (.inr (.inr dg)))))]) sz.size)) (vx_X (fun (u : Unit) => dg d = none ∨ qo = none) (fun En u t9 => En = ISX ∧ mz dC dI ([(q0, .inr (11, [r0, r1, r2, r3, .ref ds, va_rf qo, .ref p1, .ref p2])), (ds, .inl (cV, 4, .inr (.inr (.inr (.inr dg)))))]) [(cV, .object "QueryBench$Value")] (va_A ([(q0, .inr (11, [r0, r1, r2, r3, .ref ds, va_rf qo, .ref p1, .ref p2])), (ds, .inl (cV, 4, .inr (.inr (.inr (.inr dg)))))]) sz.size) t9) (va_A ([(q0, .inr (11, [r0, r1, r2, r3, .ref ds, va_rf qo, .ref p1, .ref p2])), (ds, .inl (cV, 4, .inr (.inr (.inr (.inr dg)))))]) sz.size)) (1) (6) (va_A ([(q0, .inr (11, [r0, r1, r2, r3, .ref ds, va_rf qo, .ref p1, .ref p2])), (ds, .inl (cV, 4, .inr (.inr (.inr (.inr dg)))))]) sz.size) := by
  refine vx_ofW (cc := b_QB_checkReady) (maxL := 2) (ret := none) (by decide) rfl ?_
  intro p e s m args below meth c s₁ B hml hex hv
  obtain ⟨rfl, ⟨hsz, hP, hK, hD0⟩, hN, hZ⟩ := hv
  have hx := B.exec
  have hb := B.bytes
  have hr := B.returns
  have hts0 := atoms_spec (ws := k_QB_checkReady :: gtbl) B.pre
  have hts := fun w h => hts0 w (List.mem_cons_of_mem _ h)
  have hown : s.vm.findClass R_QB = some m.cls := findClass_of_methodNamed B.named
  have hlocks := B.notSynchronized
  subst hsz
  have hD := hD0.self (sz := s.heap.size)
  generalize hAe : va_A ([(q0, .inr (11, [r0, r1, r2, r3, .ref ds, va_rf qo, .ref p1, .ref p2])), (ds, .inl (cV, 4, .inr (.inr (.inr (.inr dg)))))]) s.heap.size = A at hD hZ ⊢
  have hA : ∀ q : Nat, s.heap.size ≤ q → A q := fun q h => by rw [← hAe]; exact Or.inr h
  have hS : va_S A s.heap s.heap [] := va_S.rf
  have hP : va_P (dC, dI) classes ([(q0, .inr (11, [r0, r1, r2, r3, .ref ds, va_rf qo, .ref p1, .ref p2])), (ds, .inl (cV, 4, .inr (.inr (.inr (.inr dg)))))]) s.heap := hP
  have hl := lv_entry ([.ref q0, .int (nI d)]) (n := 2) (Nat.le_of_ble_eq_true rfl)
  rw [lg_entry_eq]
  generalize (lg_sl ([.ref q0, .int (nI d)]) ++ List.replicate (2 - (lg_sl ([.ref q0, .int (nI d)])).length) Slot.unset).toArray = ls at hl ⊢
  have hl : lv_has ls 2 [(0, .ref q0), (1, .int (nI d))] := hl
  refine lv_aload_n hx hb d_QB_checkReady_0 rfl (lv_at hl 0 rfl) ?_
  refine va_get (D := (dC, dI)) (ci := 11) (v := .ref ds) (C := R_QB) (T := F_QB) (N := 8) hx hb hts in_QB hown hK hP 0 rfl rfl 4 (by decide) (hts _ w_155) (fun _ h9 => h9) rfl d_QB_checkReady_1 ?_
  refine lv_iload_n hx hb d_QB_checkReady_4 rfl (lv_at hl 1 rfl) ?_
  obtain ⟨o9, ho9⟩ : ∃ o, dg d = o := ⟨_, rfl⟩
  refine vq_ald0 hx hb hK hP 1 0 rfl rfl hd (by decide) ho9 d_QB_checkReady_5 ?_
  rcases o9 with _ | b21
  · refine lv_ifnullN (tgt := 16) hx hb d_QB_checkReady_6 (by decide) ?_
    exact vx_throw0 (own := R_QB) (cls := "java/lang/IllegalStateException") (names := ["java/lang/RuntimeException", "java/lang/Exception"]) hx hb hl9 hown (by decide +kernel) (by decide +kernel) (hts _ z_816) (hts _ z_28) (hat hts hN xa_QB_checkReady_16) xa_QB_checkReady_16_g hZ.1 hZ.2 hS (hl.1.trans hml.symm) d_QB_checkReady_16 d_QB_checkReady_19 d_QB_checkReady_20 d_QB_checkReady_23 (fun x hx => (hex x hx).elim) (Nat.le_of_ble_eq_true rfl) (Nat.le_of_ble_eq_true rfl) (Nat.le_of_ble_eq_true rfl) (Nat.le_of_ble_eq_true rfl) hlocks (fun t ha hsz hk => ⟨(), (Or.inl ho9), ⟨rfl, hP.kept (fun k q hq => hk q.1 (hP k q hq).lt), va_K.moved ha hK, hD⟩, Nat.le_trans hS.1 hsz, fun q h1 h2 => (hk q (Nat.lt_of_lt_of_le h1 hS.1)).trans (hS.2.1 q h1 h2)⟩) hS.2.2 (Nat.le_of_ble_eq_true rfl) (Nat.le_of_ble_eq_true rfl)
  · refine lv_ifnull hx hb d_QB_checkReady_6 ?_
    refine lv_aload_n hx hb d_QB_checkReady_9 rfl (lv_at hl 0 rfl) ?_
    rcases qo with _ | qu
    · have hP : va_P (dC, dI) classes ([(q0, .inr (11, [r0, r1, r2, r3, .ref ds, .null, .ref p1, .ref p2])), (ds, .inl (cV, 4, .inr (.inr (.inr (.inr dg)))))]) s.heap := hP
      have hD : va_D A ([(q0, .inr (11, [r0, r1, r2, r3, .ref ds, .null, .ref p1, .ref p2])), (ds, .inl (cV, 4, .inr (.inr (.inr (.inr dg)))))]) := hD
      refine va_get (D := (dC, dI)) (ci := 11) (v := .null) (C := R_QB) (T := F_QB) (N := 8) hx hb hts in_QB hown hK hP 0 rfl rfl 5 (by decide) (hts _ z_156) (fun _ h9 => h9) rfl d_QB_checkReady_10 ?_
      refine lv_ifnonnullN hx hb d_QB_checkReady_13 ?_
      exact vx_throw0 (own := R_QB) (cls := "java/lang/IllegalStateException") (names := ["java/lang/RuntimeException", "java/lang/Exception"]) hx hb hl9 hown (by decide +kernel) (by decide +kernel) (hts _ z_816) (hts _ z_28) (hat hts hN xa_QB_checkReady_16) xa_QB_checkReady_16_g hZ.1 hZ.2 hS (hl.1.trans hml.symm) d_QB_checkReady_16 d_QB_checkReady_19 d_QB_checkReady_20 d_QB_checkReady_23 (fun x hx => (hex x hx).elim) (Nat.le_of_ble_eq_true rfl) (Nat.le_of_ble_eq_true rfl) (Nat.le_of_ble_eq_true rfl) (Nat.le_of_ble_eq_true rfl) hlocks (fun t ha hsz hk => ⟨(), (Or.inr rfl), ⟨rfl, hP.kept (fun k q hq => hk q.1 (hP k q hq).lt), va_K.moved ha hK, hD⟩, Nat.le_trans hS.1 hsz, fun q h1 h2 => (hk q (Nat.lt_of_lt_of_le h1 hS.1)).trans (hS.2.1 q h1 h2)⟩) hS.2.2 (Nat.le_of_ble_eq_true rfl) (Nat.le_of_ble_eq_true rfl)
    · have hP : va_P (dC, dI) classes ([(q0, .inr (11, [r0, r1, r2, r3, .ref ds, .ref qu, .ref p1, .ref p2])), (ds, .inl (cV, 4, .inr (.inr (.inr (.inr dg)))))]) s.heap := hP
      have hD : va_D A ([(q0, .inr (11, [r0, r1, r2, r3, .ref ds, .ref qu, .ref p1, .ref p2])), (ds, .inl (cV, 4, .inr (.inr (.inr (.inr dg)))))]) := hD
      refine va_get (D := (dC, dI)) (ci := 11) (v := .ref qu) (C := R_QB) (T := F_QB) (N := 8) hx hb hts in_QB hown hK hP 0 rfl rfl 5 (by decide) (hts _ z_156) (fun _ h9 => h9) rfl d_QB_checkReady_10 ?_
      refine lv_ifnonnull (tgt := 24) hx hb d_QB_checkReady_13 (by decide) ?_
      refine w_same (fun hq => ?_)
      refine W.widen (k := 1) (n := 6) (Nat.le_of_ble_eq_true rfl) (Nat.le_of_ble_eq_true rfl) ?_
      refine vx_ret ?_
      exact W.vret hx hb hr (fun t9 ht hW => ⟨⟨(), rfl, ⟨⟨_, ho9⟩, ⟨_, rfl⟩⟩, ⟨by rw [ht]; exact hP, va_K.moved hW.alike hK, hD⟩, by rw [ht]; exact hq⟩, hS.F ht⟩) hS.2.2 d_QB_checkReady_24
/-- what the class holds: its documents and its query, and what they say -/
def DQx (E : Nat → Nat) (f : Nat → va_E) (ν : Nat → Int64) (S : Nat → Nat) (dg : Nat → Option Nat) (X : Nat → Option (JVt 32)) (qo : Option Nat) (Y : Option QT) : Prop := (∀ j, j < 4 → (dg j = none ∧ X j = none) ∨ ∃ (dv : Nat) (x : JVt 32) (AL : List Nat), dg j = some dv ∧ X j = some x ∧ AL.head? = some dv ∧ (∀ ν2, NUg S ν ν2 → DOC E (pf f ν2) (preN (rtN x)) AL) ∧ ∀ ν2, DUX (pf f ν2) x AL) ∧ ((qo = none ∧ Y = none) ∨ ∃ (qu : Nat) (m : QT), qo = some qu ∧ Y = some m ∧ QD (pf f ν) S qu m)
/-- what work answers, and when it throws -/
def WKc (dg : Nat → Option Nat) (X : Nat → Option (JVt 32)) (Y : Option QT) (d r : Int32) : Prop := ∃ (j : Nat) (x : JVt 32) (m : QT), j < 4 ∧ d = nI j ∧ X j = some x ∧ Y = some m ∧ (m (rtN x) (rtN x)).2 ≤ 10000 ∧ r = nI (m (rtN x) (rtN x)).2
def WKt (X : Nat → Option (JVt 32)) (Y : Option QT) (d : Int32) (En : String) : Prop := (En = IAX ∧ ¬ (¬ d < 0 ∧ d < 4)) ∨ (En = ISX ∧ ∃ j : Nat, j < 4 ∧ d = nI j ∧ (X j = none ∨ Y = none)) ∨ (En = IOB ∧ ∃ (j : Nat) (x : JVt 32) (m : QT), j < 4 ∧ d = nI j ∧ X j = some x ∧ Y = some m ∧ 10000 < (m (rtN x) (rtN x)).2)
theorem hd_ncr {x : JVt 32} {AL : List Nat} {dv : Nat} (h : AL.head? = some dv) : NCr (preN (rtN x)) AL dv (rtN x) := ⟨0, preN_0 _, by rw [← h]; cases AL <;> rfl⟩
set_option maxHeartbeats 4000000 in
set_option maxRecDepth 100000 in
/-- QueryBench.work: what it answers -/
theorem p_QB_work (l : Launch) (hl9 : l.stackTraces = false) (K : Nat → Nat × Nat) (dC : Nat → ClassId) (dI : Nat → Nat → Nat) (sz : Heap) (cI cV : ClassId) (E lv : Nat → Nat) (L : List Nat) (f : Nat → va_E) (hO : PO cI cV E lv L f) (hN1 : ∀ a, E a ≠ 1) (q0 ds wk wl : Nat) (r0 r1 r2 : Value) (p1 p2 : Nat) (wa wb : Int32) (wr : Option Nat) (g : Nat → Option Nat) (ν : Nat → Int64) (n : Nat) (qo : Option Nat) (hqo : oR (fun q => E q = 7 ∧ lv q ≤ n) qo) (dg : Nat → Option Nat) (hdg : ∀ j, j < 4 → oR (isF E) (dg j)) (d : Int32) (S : Nat → Nat) (X : Nat → Option (JVt 32)) (Y : Option QT) (hDQ : DQx E f ν S dg X qo Y) : vx_Met l y_QB_work (k_QB_work :: gtbl) ({ frames := 90 + 5 * n, cells := 1, slots := 6, locals := 2700 + 200 * n }) (va_Pc [.ref q0, .int d] (ml K dC dI ([(q0, .inr (11, [r0, r1, r2, .ref wk, .ref ds, va_rf qo, .ref p1, .ref p2])), (ds, .inl (cV, 4, .inr (.inr (.inr (.inr dg))))), (wk, .inr (10, [.ref wl, .int wa, .int wb, va_rf wr])), (wl, .inl (cV, 10000, .inr (.inr (.inr (.inr g)))))] ++ va_pl L (pf f ν)) [(cI, .int), (cV, .object "QueryBench$Value")] sz)) (va_Qi (fun (r : Int32) (u : Int32 × Int32 × (Nat → Option Nat) × Option Nat × (Nat → Int64)) => WKc dg X Y d r ∧ NUg S ν u.2.2.2.2) (fun u t9 => mz dC dI ([(q0, .inr (11, [r0, r1, r2, .ref wk, .ref ds, va_rf qo, .ref p1, .ref p2])), (ds, .inl (cV, 4, .inr (.inr (.inr (.inr dg))))), (wk, .inr (10, [.ref wl, .int u.1, .int u.2.1, va_rf u.2.2.2.1])), (wl, .inl (cV, 10000, .inr (.inr (.inr (.inr u.2.2.1)))))] ++ va_pl L (pf f u.2.2.2.2)) [(cI, .int), (cV, .object "QueryBench$Value")] (va_A ([(q0, .inr (11, [r0, r1, r2, .ref wk, .ref ds, va_rf qo, .ref p1, .ref p2])), (ds, .inl (cV, 4, .inr (.inr (.inr (.inr dg))))), (wk, .inr (10, [.ref wl, .int wa, .int wb, va_rf wr])), (wl, .inl (cV, 10000, .inr (.inr (.inr (.inr g)))))] ++ va_pl L (pf f ν)) sz.size) t9 ∧ szk sz t9.heap (0) (0)) (va_A ([(q0, .inr (11, [r0, r1, r2, .ref wk, .ref ds, va_rf qo, .ref p1, .ref p2])), (ds, .inl (cV, 4, .inr (.inr (.inr (.inr dg))))), (wk, .inr (10, [.ref wl, .int wa, .int wb, va_rf wr])), (wl, .inl (cV, 10000, .inr (.inr (.inr (.inr g)))))] ++ va_pl L (pf f ν)) sz.size)) (vx_X (fun (u : Int32 × Int32 × (Nat → Option Nat) × Option Nat × (Nat → Int64)) => NUg S ν u.2.2.2.2) (fun En u t9 => (WKt X Y d En) ∧ mz dC dI ([(q0, .inr (11, [r0, r1, r2, .ref wk, .ref ds, va_rf qo, .ref p1, .ref p2])), (ds, .inl (cV, 4, .inr (.inr (.inr (.inr dg))))), (wk, .inr (10, [.ref wl, .int u.1, .int u.2.1, va_rf u.2.2.2.1])), (wl, .inl (cV, 10000, .inr (.inr (.inr (.inr u.2.2.1)))))] ++ va_pl L (pf f u.2.2.2.2)) [(cI, .int), (cV, .object "QueryBench$Value")] (va_A ([(q0, .inr (11, [r0, r1, r2, .ref wk, .ref ds, va_rf qo, .ref p1, .ref p2])), (ds, .inl (cV, 4, .inr (.inr (.inr (.inr dg))))), (wk, .inr (10, [.ref wl, .int wa, .int wb, va_rf wr])), (wl, .inl (cV, 10000, .inr (.inr (.inr (.inr g)))))] ++ va_pl L (pf f ν)) sz.size) t9) (va_A ([(q0, .inr (11, [r0, r1, r2, .ref wk, .ref ds, va_rf qo, .ref p1, .ref p2])), (ds, .inl (cV, 4, .inr (.inr (.inr (.inr dg))))), (wk, .inr (10, [.ref wl, .int wa, .int wb, va_rf wr])), (wl, .inl (cV, 10000, .inr (.inr (.inr (.inr g)))))] ++ va_pl L (pf f ν)) sz.size)) (1) (6) (va_A ([(q0, .inr (11, [r0, r1, r2, .ref wk, .ref ds, va_rf qo, .ref p1, .ref p2])), (ds, .inl (cV, 4, .inr (.inr (.inr (.inr dg))))), (wk, .inr (10, [.ref wl, .int wa, .int wb, va_rf wr])), (wl, .inl (cV, 10000, .inr (.inr (.inr (.inr g)))))] ++ va_pl L (pf f ν)) sz.size) := by
  refine vx_ofW (cc := b_QB_work) (maxL := 2) (ret := (some .int)) (by decide) rfl ?_
  intro p e s m args below meth c s₁ B hml hex hv
  obtain ⟨rfl, ⟨hsz, hP, hK, hD0⟩, hN, hZ, hC, hV⟩ := hv
  have hx := B.exec
  have hb := B.bytes
  have hr := B.returns
  have hts0 := atoms_spec (ws := k_QB_work :: gtbl) B.pre
  have hts := fun w h => hts0 w (List.mem_cons_of_mem _ h)
  have hown : s.vm.findClass R_QB = some m.cls := findClass_of_methodNamed B.named
  have hlocks := B.notSynchronized
  subst hsz
  have hD := hD0.self (sz := s.heap.size)
  generalize hAe : va_A ([(q0, .inr (11, [r0, r1, r2, .ref wk, .ref ds, va_rf qo, .ref p1, .ref p2])), (ds, .inl (cV, 4, .inr (.inr (.inr (.inr dg))))), (wk, .inr (10, [.ref wl, .int wa, .int wb, va_rf wr])), (wl, .inl (cV, 10000, .inr (.inr (.inr (.inr g)))))] ++ va_pl L (pf f ν)) s.heap.size = A at hD hZ hC ⊢
  have hA : ∀ q : Nat, s.heap.size ≤ q → A q := fun q h => by rw [← hAe]; exact Or.inr h
  have hS : va_S A s.heap s.heap [] := va_S.rf
  have hP : va_P (dC, dI) classes ([(q0, .inr (11, [r0, r1, r2, .ref wk, .ref ds, va_rf qo, .ref p1, .ref p2])), (ds, .inl (cV, 4, .inr (.inr (.inr (.inr dg))))), (wk, .inr (10, [.ref wl, .int wa, .int wb, va_rf wr])), (wl, .inl (cV, 10000, .inr (.inr (.inr (.inr g)))))] ++ va_pl L (pf f ν)) s.heap := hP
  have hl := lv_entry ([.ref q0, .int d]) (n := 2) (Nat.le_of_ble_eq_true rfl)
  rw [lg_entry_eq]
  generalize (lg_sl ([.ref q0, .int d]) ++ List.replicate (2 - (lg_sl ([.ref q0, .int d])).length) Slot.unset).toArray = ls at hl ⊢
  have hl : lv_has ls 2 [(0, .ref q0), (1, .int d)] := hl
  refine lv_iload_n hx hb d_QB_work_0 rfl (lv_at hl 1 rfl) ?_
  have hPc := hP.sub (ws' := []) [] rfl
  have hDc := hD.sub (ws' := []) [] (by decide) rfl
  have hFc := va_free (wc := []) hD hS hA [] rfl
  have hKc := hK.sub (tys' := []) [] rfl
  refine w_same (fun hq0 => ?_)
  refine vx_callv (vx_runS (As := [.int d]) (rest := []) ⟨hx, hb, hml, hown, hts⟩ (c_QB_checkNumber l hl9 dC dI s.heap d) (va_cwS 1 hts (gt_S (own := R_QB) (i := 69) (y := y_QB_checkNumber) i_QB_checkNumber z_283 z_284 w_1) rfl rfl rfl (by decide +kernel) ⟨by show 8 + 1 ≤ 90 + 5 * n; omega, by show 8 + (1 + 11) + (110) ≤ 2700 + 200 * n; omega⟩) ⟨mx_blind, fun U hU hW => ⟨rfl, ⟨hU, by rw [hU]; exact hPc, va_K.moved hW.alike hKc, hDc.weaken (fun _ _ _ _ => trivial)⟩, hN.warm hW, by rw [hU]; exact ZX.moved' hW.alike (ZX.narrow' (ZX.kept' hZ hS.2.1) hFc)⟩⟩ rfl rfl hl.1 rfl (lv_room (Nat.le_of_ble_eq_true rfl)) d_QB_work_1 ⟨Nat.le_of_ble_eq_true rfl, Nat.le_of_ble_eq_true rfl⟩) hS (fun q _ h => hFc q h) hFc (fun q _ h => hFc q h) (fun En ce q9 _u t9 H1 locs ht hvm hw hB hz1 hk1 hS hce hcv hcl => ?_) (fun _u t9 H1 locs ht hvm hw hB hz1 hk1 hS => ?_)
  · obtain ⟨hEn, hP1, hK1, hD1⟩ := hB
    rw [ht] at hP1
    obtain ⟨hP, hD⟩ := va_joinQ (wr := [(q0, .inr (11, [r0, r1, r2, .ref wk, .ref ds, va_rf qo, .ref p1, .ref p2])), (ds, .inl (cV, 4, .inr (.inr (.inr (.inr dg))))), (wk, .inr (10, [.ref wl, .int wa, .int wb, va_rf wr])), (wl, .inl (cV, 10000, .inr (.inr (.inr (.inr g)))))]) (w1 := []) hP hD [] [0, 1, 2, 3] rfl rfl (by decide) (by decide) hk1 hFc hP1 hD1
    generalize H1 = H at hP hS hce ⊢
    have hP : va_P (dC, dI) classes ([(q0, .inr (11, [r0, r1, r2, .ref wk, .ref ds, va_rf qo, .ref p1, .ref p2])), (ds, .inl (cV, 4, .inr (.inr (.inr (.inr dg))))), (wk, .inr (10, [.ref wl, .int wa, .int wb, va_rf wr])), (wl, .inl (cV, 10000, .inr (.inr (.inr (.inr g)))))] ++ va_pl L (pf f ν)) H := hP
    have hD : va_D A ([(q0, .inr (11, [r0, r1, r2, .ref wk, .ref ds, va_rf qo, .ref p1, .ref p2])), (ds, .inl (cV, 4, .inr (.inr (.inr (.inr dg))))), (wk, .inr (10, [.ref wl, .int wa, .int wb, va_rf wr])), (wl, .inl (cV, 10000, .inr (.inr (.inr (.inr g)))))] ++ va_pl L (pf f ν)) := hD
    exact vx_out (fun x hx => (hex x hx).elim) hlocks hce hcv hcl (fun t9 ht2 ha => ⟨(wa, wb, g, wr, ν), NUg.rf, ⟨Or.inl ⟨hEn, hw⟩, by rw [ht2]; exact hP, va_K.moved ha hK, hD⟩, hS.F ht2⟩) hS.2.2 (Nat.le_of_ble_eq_true rfl) (Nat.le_of_ble_eq_true rfl)
  · obtain ⟨⟨hP1, hK1, hD1⟩, hz9⟩ := hB
    rw [ht] at hP1
    rw [ht] at hz9
    refine w_tight (hq0.trans hz9) ?_
    have hq0 := hq0.trans hz9
    obtain ⟨hP, hD⟩ := va_joinQ (wr := [(q0, .inr (11, [r0, r1, r2, .ref wk, .ref ds, va_rf qo, .ref p1, .ref p2])), (ds, .inl (cV, 4, .inr (.inr (.inr (.inr dg))))), (wk, .inr (10, [.ref wl, .int wa, .int wb, va_rf wr])), (wl, .inl (cV, 10000, .inr (.inr (.inr (.inr g)))))]) (w1 := []) hP hD [] [0, 1, 2, 3] rfl rfl (by decide) (by decide) hk1 hFc hP1 hD1
    generalize H1 = H at hP hS hq0 ⊢
    have hP : va_P (dC, dI) classes ([(q0, .inr (11, [r0, r1, r2, .ref wk, .ref ds, va_rf qo, .ref p1, .ref p2])), (ds, .inl (cV, 4, .inr (.inr (.inr (.inr dg))))), (wk, .inr (10, [.ref wl, .int wa, .int wb, va_rf wr])), (wl, .inl (cV, 10000, .inr (.inr (.inr (.inr g)))))] ++ va_pl L (pf f ν)) H := hP
    have hD : va_D A ([(q0, .inr (11, [r0, r1, r2, .ref wk, .ref ds, va_rf qo, .ref p1, .ref p2])), (ds, .inl (cV, 4, .inr (.inr (.inr (.inr dg))))), (wk, .inr (10, [.ref wl, .int wa, .int wb, va_rf wr])), (wl, .inl (cV, 10000, .inr (.inr (.inr (.inr g)))))] ++ va_pl L (pf f ν)) := hD
    have hw : ¬ d < 0 ∧ d < 4 := hw
    obtain ⟨j, hj, ej⟩ : ∃ j, j < 4 ∧ d = nI j := by
      rcases pk_ix d (n := 4) (by decide) with h9 | h9 | h9
      · exact absurd h9 hw.1
      · exact absurd hw.2 (Int32.not_lt.mpr h9)
      · exact h9
    subst ej
    have hl : lv_has ls 2 [(0, .ref q0), (1, .int (nI j))] := hl
    refine lv_aload_n hx hb d_QB_work_4 rfl (lv_at hl 0 rfl) ?_
    refine lv_iload_n hx hb d_QB_work_5 rfl (lv_at hl 1 rfl) ?_
    have hPc := hP.sub (ws' := [(q0, .inr (11, [r0, r1, r2, .ref wk, .ref ds, va_rf qo, .ref p1, .ref p2])), (ds, .inl (cV, 4, .inr (.inr (.inr (.inr dg)))))]) [0, 1] rfl
    have hDc := hD.sub (ws' := [(q0, .inr (11, [r0, r1, r2, .ref wk, .ref ds, va_rf qo, .ref p1, .ref p2])), (ds, .inl (cV, 4, .inr (.inr (.inr (.inr dg)))))]) [0, 1] (by decide) rfl
    have hFc := va_free (wc := [(q0, .inr (11, [r0, r1, r2, .ref wk, .ref ds, va_rf qo, .ref p1, .ref p2])), (ds, .inl (cV, 4, .inr (.inr (.inr (.inr dg)))))]) hD hS hA [0, 1] rfl
    have hKc := hK.sub (tys' := [(cV, .object "QueryBench$Value")]) [1] rfl
    refine w_same (fun hq0 => ?_)
    refine vx_callv (vx_runV (As := [.int (nI j)]) (rest := []) ⟨hx, hb, hml, hown, hts⟩ (p_QB_checkReady l hl9 dC dI H cV q0 ds r0 r1 r2 (.ref wk) p1 p2 qo dg j hj) (cwV 1 hts (gt_V (own := R_QB) (C := R_QB) (i := 96) (y := y_QB_checkReady) i_QB_checkReady z_812 z_814 (gt_sel (y := y_QB_checkReady) (n := 8) (by decide +kernel)) w_1) rfl rfl rfl (by decide +kernel) ⟨by show 8 + 1 ≤ 90 + 5 * n; omega, by show 8 + (2 + 11) + (110) ≤ 2700 + 200 * n; omega⟩) ⟨mx_blind, va_recv hK hP (ci := 11) (q0 := 0) rfl rfl, fun U hU hW => ⟨rfl, ⟨hU, by rw [hU]; exact hPc, va_K.moved hW.alike hKc, hDc.weaken (fun _ _ _ _ => trivial)⟩, hN.warm hW, by rw [hU]; exact ZX.moved' hW.alike (ZX.narrow' (ZX.kept' hZ hS.2.1) hFc)⟩⟩ rfl rfl hl.1 rfl (lv_room (Nat.le_of_ble_eq_true rfl)) d_QB_work_6 ⟨Nat.le_of_ble_eq_true rfl, Nat.le_of_ble_eq_true rfl⟩) hS (fun q _ h => hFc q h) hFc (fun q _ h => hFc q h) (fun En ce q9 _u t9 H1 locs ht hvm hw hB hz1 hk1 hS hce hcv hcl => ?_) (fun _u t9 H1 locs ht hvm hw hB hz1 hk1 hS => ?_)
    · obtain ⟨hEn, hP1, hK1, hD1⟩ := hB
      rw [ht] at hP1
      obtain ⟨hP, hD⟩ := va_joinQ (wr := [(wk, .inr (10, [.ref wl, .int wa, .int wb, va_rf wr])), (wl, .inl (cV, 10000, .inr (.inr (.inr (.inr g)))))]) (w1 := [(q0, .inr (11, [r0, r1, r2, .ref wk, .ref ds, va_rf qo, .ref p1, .ref p2])), (ds, .inl (cV, 4, .inr (.inr (.inr (.inr dg)))))]) hP hD [0, 1] [2, 3] rfl rfl (by decide) (by decide) hk1 hFc hP1 hD1
      generalize H1 = H at hP hS hce ⊢
      have hP : va_P (dC, dI) classes ([(wk, .inr (10, [.ref wl, .int wa, .int wb, va_rf wr])), (wl, .inl (cV, 10000, .inr (.inr (.inr (.inr g))))), (q0, .inr (11, [r0, r1, r2, .ref wk, .ref ds, va_rf qo, .ref p1, .ref p2])), (ds, .inl (cV, 4, .inr (.inr (.inr (.inr dg)))))] ++ va_pl L (pf f ν)) H := hP
      have hD : va_D A ([(wk, .inr (10, [.ref wl, .int wa, .int wb, va_rf wr])), (wl, .inl (cV, 10000, .inr (.inr (.inr (.inr g))))), (q0, .inr (11, [r0, r1, r2, .ref wk, .ref ds, va_rf qo, .ref p1, .ref p2])), (ds, .inl (cV, 4, .inr (.inr (.inr (.inr dg)))))] ++ va_pl L (pf f ν)) := hD
      have hP := hP.part (cx := [(q0, .inr (11, [r0, r1, r2, .ref wk, .ref ds, va_rf qo, .ref p1, .ref p2])), (ds, .inl (cV, 4, .inr (.inr (.inr (.inr dg))))), (wk, .inr (10, [.ref wl, .int wa, .int wb, va_rf wr])), (wl, .inl (cV, 10000, .inr (.inr (.inr (.inr g)))))]) [2, 3, 0, 1] rfl
      have hD := hD.part (cx := [(q0, .inr (11, [r0, r1, r2, .ref wk, .ref ds, va_rf qo, .ref p1, .ref p2])), (ds, .inl (cV, 4, .inr (.inr (.inr (.inr dg))))), (wk, .inr (10, [.ref wl, .int wa, .int wb, va_rf wr])), (wl, .inl (cV, 10000, .inr (.inr (.inr (.inr g)))))]) [2, 3, 0, 1] (by decide) rfl
      have hno9 : X j = none ∨ Y = none := by
        rcases hw with h9 | h9
        · rcases hDQ.1 j hj with q | ⟨dv, x, AL, q1, -⟩
          · exact Or.inl q.2
          · rw [h9] at q1; cases q1
        · rcases hDQ.2 with q | ⟨qu, m, q1, -⟩
          · exact Or.inr q.2
          · rw [h9] at q1; cases q1
      exact vx_out (fun x hx => (hex x hx).elim) hlocks hce hcv hcl (fun t9 ht2 ha => ⟨(wa, wb, g, wr, ν), NUg.rf, ⟨Or.inr (Or.inl ⟨hEn, j, hj, rfl, hno9⟩), by rw [ht2]; exact hP, va_K.moved ha hK, hD⟩, hS.F ht2⟩) hS.2.2 (Nat.le_of_ble_eq_true rfl) (Nat.le_of_ble_eq_true rfl)
    · obtain ⟨⟨hP1, hK1, hD1⟩, hz9⟩ := hB
      rw [ht] at hP1
      rw [ht] at hz9
      refine w_tight (hq0.trans hz9) ?_
      have hq0 := hq0.trans hz9
      obtain ⟨hP, hD⟩ := va_joinQ (wr := [(wk, .inr (10, [.ref wl, .int wa, .int wb, va_rf wr])), (wl, .inl (cV, 10000, .inr (.inr (.inr (.inr g)))))]) (w1 := [(q0, .inr (11, [r0, r1, r2, .ref wk, .ref ds, va_rf qo, .ref p1, .ref p2])), (ds, .inl (cV, 4, .inr (.inr (.inr (.inr dg)))))]) hP hD [0, 1] [2, 3] rfl rfl (by decide) (by decide) hk1 hFc hP1 hD1
      generalize H1 = H at hP hS hq0 ⊢
      have hP : va_P (dC, dI) classes ([(wk, .inr (10, [.ref wl, .int wa, .int wb, va_rf wr])), (wl, .inl (cV, 10000, .inr (.inr (.inr (.inr g))))), (q0, .inr (11, [r0, r1, r2, .ref wk, .ref ds, va_rf qo, .ref p1, .ref p2])), (ds, .inl (cV, 4, .inr (.inr (.inr (.inr dg)))))] ++ va_pl L (pf f ν)) H := hP
      have hD : va_D A ([(wk, .inr (10, [.ref wl, .int wa, .int wb, va_rf wr])), (wl, .inl (cV, 10000, .inr (.inr (.inr (.inr g))))), (q0, .inr (11, [r0, r1, r2, .ref wk, .ref ds, va_rf qo, .ref p1, .ref p2])), (ds, .inl (cV, 4, .inr (.inr (.inr (.inr dg)))))] ++ va_pl L (pf f ν)) := hD
      have hP := hP.part (cx := [(q0, .inr (11, [r0, r1, r2, .ref wk, .ref ds, va_rf qo, .ref p1, .ref p2])), (ds, .inl (cV, 4, .inr (.inr (.inr (.inr dg))))), (wk, .inr (10, [.ref wl, .int wa, .int wb, va_rf wr])), (wl, .inl (cV, 10000, .inr (.inr (.inr (.inr g)))))]) [2, 3, 0, 1] rfl
      have hD := hD.part (cx := [(q0, .inr (11, [r0, r1, r2, .ref wk, .ref ds, va_rf qo, .ref p1, .ref p2])), (ds, .inl (cV, 4, .inr (.inr (.inr (.inr dg))))), (wk, .inr (10, [.ref wl, .int wa, .int wb, va_rf wr])), (wl, .inl (cV, 10000, .inr (.inr (.inr (.inr g)))))]) [2, 3, 0, 1] (by decide) rfl
      obtain ⟨⟨dv, hdv0⟩, ⟨qu, hqu0⟩⟩ := hw
      subst hqu0
      have hdv := hdg j hj dv hdv0
      obtain ⟨hqu, hlq⟩ := hqo qu rfl
      obtain ⟨xd, AL, hX, hhd, hDq9⟩ : ∃ (x : JVt 32) (AL : List Nat), X j = some x ∧ AL.head? = some dv ∧ ∀ ν2, NUg S ν ν2 → DOC E (pf f ν2) (preN (rtN x)) AL := by
        rcases hDQ.1 j hj with q | ⟨dv2, x, AL, q1, q2, q3, q4, -⟩
        · cases (q.1.symm.trans hdv0)
        · obtain rfl := Option.some.inj (q1.symm.trans hdv0); exact ⟨x, AL, q2, q3, q4⟩
      obtain ⟨m9, hY, hQ⟩ : ∃ m : QT, Y = some m ∧ QD (pf f ν) S qu m := by
        rcases hDQ.2 with q | ⟨qu2, m, q1, q2, q3⟩
        · cases q.1
        · obtain rfl := Option.some.inj q1; exact ⟨m, q2, q3⟩
      have hP : va_P (dC, dI) classes ([(q0, .inr (11, [r0, r1, r2, .ref wk, .ref ds, .ref qu, .ref p1, .ref p2])), (ds, .inl (cV, 4, .inr (.inr (.inr (.inr dg))))), (wk, .inr (10, [.ref wl, .int wa, .int wb, va_rf wr])), (wl, .inl (cV, 10000, .inr (.inr (.inr (.inr g)))))] ++ va_pl L (pf f ν)) H := hP
      have hD : va_D A ([(q0, .inr (11, [r0, r1, r2, .ref wk, .ref ds, .ref qu, .ref p1, .ref p2])), (ds, .inl (cV, 4, .inr (.inr (.inr (.inr dg))))), (wk, .inr (10, [.ref wl, .int wa, .int wb, va_rf wr])), (wl, .inl (cV, 10000, .inr (.inr (.inr (.inr g)))))] ++ va_pl L (pf f ν)) := hD
      refine lv_aload_n hx hb d_QB_work_9 rfl (lv_at hl 0 rfl) ?_
      refine va_get (D := (dC, dI)) (ci := 11) (v := .ref wk) (C := R_QB) (T := F_QB) (N := 8) hx hb hts in_QB hown hK hP 0 rfl rfl 3 (by decide) (hts _ w_154) (fun _ h9 => h9) rfl d_QB_work_10 ?_
      refine lv_aload_n hx hb d_QB_work_13 rfl (lv_at hl 0 rfl) ?_
      refine va_get (D := (dC, dI)) (ci := 11) (v := .ref qu) (C := R_QB) (T := F_QB) (N := 8) hx hb hts in_QB hown hK hP 0 rfl rfl 5 (by decide) (hts _ z_156) (fun _ h9 => h9) rfl d_QB_work_14 ?_
      refine lv_aload_n hx hb d_QB_work_17 rfl (lv_at hl 0 rfl) ?_
      refine va_get (D := (dC, dI)) (ci := 11) (v := .ref ds) (C := R_QB) (T := F_QB) (N := 8) hx hb hts in_QB hown hK hP 0 rfl rfl 4 (by decide) (hts _ w_155) (fun _ h9 => h9) rfl d_QB_work_18 ?_
      refine lv_iload_n hx hb d_QB_work_21 rfl (lv_at hl 1 rfl) ?_
      refine vq_ald0 hx hb hK hP 1 1 rfl rfl hj (by decide) hdv0 d_QB_work_22 ?_
      have hPc := hP.part (cx := [(wk, .inr (10, [.ref wl, .int wa, .int wb, va_rf wr])), (wl, .inl (cV, 10000, .inr (.inr (.inr (.inr g)))))]) [2, 3] rfl
      have hDc := hD.part (cx := [(wk, .inr (10, [.ref wl, .int wa, .int wb, va_rf wr])), (wl, .inl (cV, 10000, .inr (.inr (.inr (.inr g)))))]) [2, 3] (by decide) rfl
      have hFc := va_freeP (cx := [(wk, .inr (10, [.ref wl, .int wa, .int wb, va_rf wr])), (wl, .inl (cV, 10000, .inr (.inr (.inr (.inr g)))))]) hD hS hA [2, 3] rfl
      have hKc := hK.sub (tys' := [(cI, .int), (cV, .object "QueryBench$Value")]) [0, 1] rfl
      refine w_same (fun hq0 => ?_)
      refine vx_calli (vx_runV (As := [.ref qu, .ref dv]) (rest := []) ⟨hx, hb, hml, hown, hts⟩ (p_Walk_begin l hl9 K dC dI H cI cV E lv L f hO hN1 (preN (rtN xd)) AL S wk wl wa wb wr g ν n qu dv hqu hlq hdv (rtN xd) (hd_ncr hhd) hDq9 m9 hQ) (cwV 2 hts (gt_V (own := R_QB) (C := R_Walk) (i := 99) (y := y_Walk_begin) i_Walk_begin z_831 z_832 z_833 w_5) rfl rfl rfl (by decide +kernel) ⟨by show 61 + 5 * n + 1 ≤ 90 + 5 * n; omega, by show 8 + (3 + 11) + (2540 + 200 * n) ≤ 2700 + 200 * n; omega⟩) ⟨ml_blind, va_recv hK hP (ci := 10) (q0 := 2) rfl rfl, fun U hU hW => ⟨rfl, ⟨hU, by rw [hU]; exact hPc, va_K.moved hW.alike hKc, hDc.weaken (fun _ _ _ _ => trivial)⟩, hN.warm hW, by rw [hU]; exact ZX.moved' hW.alike (ZX.narrow' (ZX.kept' hZ hS.2.1) hFc), by rw [hU]; exact CE.call hC hS.2.1 hFc hW, va_AO.moved hW.alike hV⟩⟩ rfl rfl hl.1 rfl (lv_room (Nat.le_of_ble_eq_true rfl)) d_QB_work_23 ⟨Nat.le_of_ble_eq_true rfl, Nat.le_of_ble_eq_true rfl⟩) hS (fun q _ h => hFc q h) hFc (fun q _ h => hFc q h) (fun En ce q9 ⟨tx, sx, gx, rx, nx⟩ t9 H1 locs ht hvm hw hB hz1 hk1 hS hce hcv hcl => ?_) (fun r21 ⟨t21, s21, g21, n21⟩ t9 H1 locs ht hvm hw hB hz1 hk1 hS => ?_)
      · obtain ⟨hEn, hP1, hK1, hD1⟩ := hB
        rw [ht] at hP1
        obtain ⟨hP, hD⟩ := va_joinP (wr := [(q0, .inr (11, [r0, r1, r2, .ref wk, .ref ds, .ref qu, .ref p1, .ref p2])), (ds, .inl (cV, 4, .inr (.inr (.inr (.inr dg)))))]) (rx := [(wk, .inr (10, [.ref wl, .int tx, .int sx, va_rf rx])), (wl, .inl (cV, 10000, .inr (.inr (.inr (.inr gx)))))]) (pl1 := va_pl L (pf f nx)) hP hD [2, 3] [0, 1] rfl rfl (by decide) (by decide) hk1 hFc hP1 hD1
        generalize H1 = H at hP hS hce ⊢
        have hP : va_P (dC, dI) classes ([(q0, .inr (11, [r0, r1, r2, .ref wk, .ref ds, .ref qu, .ref p1, .ref p2])), (ds, .inl (cV, 4, .inr (.inr (.inr (.inr dg))))), (wk, .inr (10, [.ref wl, .int tx, .int sx, va_rf rx])), (wl, .inl (cV, 10000, .inr (.inr (.inr (.inr gx)))))] ++ va_pl L (pf f nx)) H := hP
        have hD : va_D A ([(q0, .inr (11, [r0, r1, r2, .ref wk, .ref ds, .ref qu, .ref p1, .ref p2])), (ds, .inl (cV, 4, .inr (.inr (.inr (.inr dg))))), (wk, .inr (10, [.ref wl, .int tx, .int sx, va_rf rx])), (wl, .inl (cV, 10000, .inr (.inr (.inr (.inr gx)))))] ++ va_pl L (pf f nx)) := hD
        exact vx_out (fun x hx => (hex x hx).elim) hlocks hce hcv hcl (fun t9 ht2 ha => ⟨(tx, sx, gx, rx, nx), hw.2, ⟨Or.inr (Or.inr ⟨hEn, j, xd, m9, hj, rfl, hX, hY, hw.1⟩), by rw [ht2]; exact hP, va_K.moved ha hK, hD⟩, hS.F ht2⟩) hS.2.2 (Nat.le_of_ble_eq_true rfl) (Nat.le_of_ble_eq_true rfl)
      · obtain ⟨⟨hP1, hK1, hD1⟩, hz9⟩ := hB
        rw [ht] at hP1
        rw [ht] at hz9
        refine w_tight (hq0.trans hz9) ?_
        have hq0 := hq0.trans hz9
        obtain ⟨hP, hD⟩ := va_joinP (wr := [(q0, .inr (11, [r0, r1, r2, .ref wk, .ref ds, .ref qu, .ref p1, .ref p2])), (ds, .inl (cV, 4, .inr (.inr (.inr (.inr dg)))))]) (rx := [(wk, .inr (10, [.ref wl, .int (nI t21), .int (nI s21), .ref dv])), (wl, .inl (cV, 10000, .inr (.inr (.inr (.inr g21)))))]) (pl1 := va_pl L (pf f n21)) hP hD [2, 3] [0, 1] rfl rfl (by decide) (by decide) hk1 hFc hP1 hD1
        generalize H1 = H at hP hS hq0 ⊢
        have hP : va_P (dC, dI) classes ([(q0, .inr (11, [r0, r1, r2, .ref wk, .ref ds, .ref qu, .ref p1, .ref p2])), (ds, .inl (cV, 4, .inr (.inr (.inr (.inr dg))))), (wk, .inr (10, [.ref wl, .int (nI t21), .int (nI s21), .ref dv])), (wl, .inl (cV, 10000, .inr (.inr (.inr (.inr g21)))))] ++ va_pl L (pf f n21)) H := hP
        have hD : va_D A ([(q0, .inr (11, [r0, r1, r2, .ref wk, .ref ds, .ref qu, .ref p1, .ref p2])), (ds, .inl (cV, 4, .inr (.inr (.inr (.inr dg))))), (wk, .inr (10, [.ref wl, .int (nI t21), .int (nI s21), .ref dv])), (wl, .inl (cV, 10000, .inr (.inr (.inr (.inr g21)))))] ++ va_pl L (pf f n21)) := hD
        obtain ⟨fr, hfr1, hNK⟩ := hw
        have hNK : NDK E (preN (rtN xd)) AL S (m9 (rtN xd) (rtN xd)) 0 0 g ν fr t21 s21 g21 n21 := hNK
        have hfr1 : r21 = nI fr := hfr1
        subst hfr1
        have hWn : WI E t21 s21 g21 := hNK.2.2.2.1
        have hWn1 := hWn.1
        have hWn2 := hWn.2.1
        have hsp9 : s21 = 0 + (m9 (rtN xd) (rtN xd)).2 := hNK.2.2.1
        have hnu9 := hNK.2.2.2.2.2.2
        refine lv_pop hx hb d_QB_work_26 rfl ?_
        refine lv_aload_n hx hb d_QB_work_27 rfl (lv_at hl 0 rfl) ?_
        refine va_get (D := (dC, dI)) (ci := 11) (v := .ref wk) (C := R_QB) (T := F_QB) (N := 8) hx hb hts in_QB hown hK hP 0 rfl rfl 3 (by decide) (hts _ w_154) (fun _ h9 => h9) rfl d_QB_work_28 ?_
        refine va_get (D := (dC, dI)) (ci := 10) (v := .int (nI s21)) (C := R_Walk) (T := F_Walk) (N := 4) hx hb hts in_Walk hown hK hP 2 rfl rfl 2 (by decide) (hts _ z_120) (fun _ h9 => h9) rfl d_QB_work_31 ?_
        refine w_same (fun hq => ?_)
        refine W.widen (k := 1) (n := 6) (Nat.le_of_ble_eq_true rfl) (Nat.le_of_ble_eq_true rfl) ?_
        refine vx_ret ?_
        exact W.iret (v := (nI s21)) hx hb hr (fun t9 ht hW => ⟨⟨(nI s21), (nI t21, nI s21, g21, some dv, n21), rfl, ⟨⟨j, xd, m9, hj, rfl, hX, hY, by omega, by rw [hsp9, Nat.zero_add]⟩, hnu9⟩, ⟨by rw [ht]; exact hP, va_K.moved hW.alike hK, hD⟩, by rw [ht]; exact hq⟩, hS.F ht⟩) hS.2.2 d_QB_work_34
