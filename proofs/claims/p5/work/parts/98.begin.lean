theorem z_28 : (.initialized "java/lang/IllegalStateException" : Cond) ∈ gtbl := gt_in 28 (by decide +kernel) (by decide +kernel)
theorem z_156 : (.fieldLink "QueryBench" 86 "QueryBench" "query" "LQueryBench$Query;" : Cond) ∈ gtbl := gt_in 156 (by decide +kernel) (by decide +kernel)
theorem z_816 : (.classLink "QueryBench" 124 "java/lang/IllegalStateException" : Cond) ∈ gtbl := gt_in 816 (by decide +kernel) (by decide +kernel)
/-- the walk at all levels -/
theorem c_WL (l : Launch) (hl9 : l.stackTraces = false) (K : Nat → Nat × Nat) (dC : Nat → ClassId) (dI : Nat → Nat → Nat) (cI cV : ClassId) (E lv : Nat → Nat) (L : List Nat) (f : Nat → va_E) (hO : PO cI cV E lv L f) (hN1 : ∀ a, E a ≠ 1) (wk wl rt : Nat) (hrt : isF E rt) : ∀ n, NDC l K dC dI cI cV E lv L f wk wl rt n ∧ HDC l K dC dI cI cV E lv L f wk wl rt n ∧ VOC l K dC dI cI cV E lv L f wk wl rt n := by
  intro n
  induction n with
  | zero => exact ⟨c_ND l hl9 K dC dI cI cV E lv L f hO hN1 wk wl rt hrt 0 (fun h => absurd h (by omega)), c_HD l hl9 K dC dI cI cV E lv L f hO hN1 wk wl rt hrt 0 (fun h => absurd h (by omega)) (fun h => absurd h (by omega)) (fun h => absurd h (by omega)), c_VO l hl9 K dC dI cI cV E lv L f hO hN1 wk wl rt hrt 0 (fun h => absurd h (by omega)) (fun h => absurd h (by omega))⟩
  | succ n ih => exact ⟨c_ND l hl9 K dC dI cI cV E lv L f hO hN1 wk wl rt hrt (n + 1) (fun _ => ih.2.1), c_HD l hl9 K dC dI cI cV E lv L f hO hN1 wk wl rt hrt (n + 1) (fun _ => ih.2.1) (fun _ => ih.1) (fun _ => ih.2.2), c_VO l hl9 K dC dI cI cV E lv L f hO hN1 wk wl rt hrt (n + 1) (fun _ => ih.1) (fun _ => ih.2.2)⟩
abbrev IAX : String := "java/lang/IllegalArgumentException"
abbrev ISX : String := "java/lang/IllegalStateException"
abbrev UOX : String := "java/lang/UnsupportedOperationException"
abbrev b_Walk_begin : ByteArray := prog_12_method_2_code
def y_Walk_begin : MethodName := ⟨"QueryBench$Walk", "begin", "(LQueryBench$Query;LQueryBench$Value;)I"⟩
abbrev k_Walk_begin : Cond := .code y_Walk_begin b_Walk_begin 3 (some .int)
theorem i_Walk_begin : k_Walk_begin ∈ gtbl := gt_in 834 (by decide +kernel) (by decide +kernel)
theorem d_Walk_begin_0 : decode b_Walk_begin 0 = .ok (.aload_n 0, 1) := by decide +kernel
theorem d_Walk_begin_1 : decode b_Walk_begin 1 = .ok (.aload_n 2, 1) := by decide +kernel
theorem d_Walk_begin_2 : decode b_Walk_begin 2 = .ok (.putfield 17, 3) := by decide +kernel
theorem d_Walk_begin_5 : decode b_Walk_begin 5 = .ok (.aload_n 0, 1) := by decide +kernel
theorem d_Walk_begin_6 : decode b_Walk_begin 6 = .ok (.iconst 0, 1) := by decide +kernel
theorem d_Walk_begin_7 : decode b_Walk_begin 7 = .ok (.putfield 21, 3) := by decide +kernel
theorem d_Walk_begin_10 : decode b_Walk_begin 10 = .ok (.aload_n 0, 1) := by decide +kernel
theorem d_Walk_begin_11 : decode b_Walk_begin 11 = .ok (.iconst 0, 1) := by decide +kernel
theorem d_Walk_begin_12 : decode b_Walk_begin 12 = .ok (.putfield 25, 3) := by decide +kernel
theorem d_Walk_begin_15 : decode b_Walk_begin 15 = .ok (.aload_n 0, 1) := by decide +kernel
theorem d_Walk_begin_16 : decode b_Walk_begin 16 = .ok (.aload_n 1, 1) := by decide +kernel
theorem d_Walk_begin_17 : decode b_Walk_begin 17 = .ok (.aload_n 2, 1) := by decide +kernel
theorem d_Walk_begin_18 : decode b_Walk_begin 18 = .ok (.invokevirtual 28, 3) := by decide +kernel
theorem d_Walk_begin_21 : decode b_Walk_begin 21 = .ok (.ireturn, 1) := by decide +kernel
set_option maxHeartbeats 4000000 in
set_option maxRecDepth 100000 in
/-- Walk.begin -/
theorem c_Walk_begin (l : Launch) (hl9 : l.stackTraces = false) (K : Nat → Nat × Nat) (dC : Nat → ClassId) (dI : Nat → Nat → Nat) (sz : Heap) (cI cV : ClassId) (E lv : Nat → Nat) (L : List Nat) (f : Nat → va_E) (hO : PO cI cV E lv L f) (hN1 : ∀ a, E a ≠ 1) (wk wl : Nat) (wa wb : Int32) (wr : Option Nat) (g : Nat → Option Nat) (ν : Nat → Int64) (n qu dv : Nat) (hqu : E qu = 7) (hlq : lv qu ≤ n) (hdv : isF E dv) : vx_Met l y_Walk_begin (k_Walk_begin :: gtbl) ({ frames := 61 + 5 * n, cells := 1, slots := 6, locals := 2540 + 200 * n }) (va_Pc [.ref wk, .ref qu, .ref dv] (ml K dC dI ([(wk, .inr (10, [.ref wl, .int wa, .int wb, va_rf wr])), (wl, .inl (cV, 10000, .inr (.inr (.inr (.inr g)))))] ++ va_pl L (pf f ν)) [(cI, .int), (cV, .object "QueryBench$Value")] sz)) (va_Qi (fun (r : Int32) (u : Nat × Nat × (Nat → Option Nat) × (Nat → Int64)) => (∃ fr, r = nI fr ∧ fr ≤ u.1) ∧ WI E u.1 u.2.1 u.2.2.1) (fun u t9 => mz dC dI ([(wk, .inr (10, [.ref wl, .int (nI u.1), .int (nI u.2.1), .ref dv])), (wl, .inl (cV, 10000, .inr (.inr (.inr (.inr u.2.2.1)))))] ++ va_pl L (pf f u.2.2.2)) [(cI, .int), (cV, .object "QueryBench$Value")] (va_A ([(wk, .inr (10, [.ref wl, .int wa, .int wb, va_rf wr])), (wl, .inl (cV, 10000, .inr (.inr (.inr (.inr g)))))] ++ va_pl L (pf f ν)) sz.size) t9 ∧ szk sz t9.heap (0) (0)) (va_A ([(wk, .inr (10, [.ref wl, .int wa, .int wb, va_rf wr])), (wl, .inl (cV, 10000, .inr (.inr (.inr (.inr g)))))] ++ va_pl L (pf f ν)) sz.size)) (vx_X (fun (u : Int32 × Int32 × (Nat → Option Nat) × Option Nat × (Nat → Int64)) => True) (fun En u t9 => En = IOB ∧ mz dC dI ([(wk, .inr (10, [.ref wl, .int u.1, .int u.2.1, va_rf u.2.2.2.1])), (wl, .inl (cV, 10000, .inr (.inr (.inr (.inr u.2.2.1)))))] ++ va_pl L (pf f u.2.2.2.2)) [(cI, .int), (cV, .object "QueryBench$Value")] (va_A ([(wk, .inr (10, [.ref wl, .int wa, .int wb, va_rf wr])), (wl, .inl (cV, 10000, .inr (.inr (.inr (.inr g)))))] ++ va_pl L (pf f ν)) sz.size) t9) (va_A ([(wk, .inr (10, [.ref wl, .int wa, .int wb, va_rf wr])), (wl, .inl (cV, 10000, .inr (.inr (.inr (.inr g)))))] ++ va_pl L (pf f ν)) sz.size)) (1) (6) (va_A ([(wk, .inr (10, [.ref wl, .int wa, .int wb, va_rf wr])), (wl, .inl (cV, 10000, .inr (.inr (.inr (.inr g)))))] ++ va_pl L (pf f ν)) sz.size) := by
  refine vx_ofW (cc := b_Walk_begin) (maxL := 3) (ret := (some .int)) (by decide) rfl ?_
  intro p e s m args below meth c s₁ B hml hex hv
  obtain ⟨rfl, ⟨hsz, hP, hK, hD0⟩, hN, hZ, hC, hV⟩ := hv
  have hx := B.exec
  have hb := B.bytes
  have hr := B.returns
  have hts0 := atoms_spec (ws := k_Walk_begin :: gtbl) B.pre
  have hts := fun w h => hts0 w (List.mem_cons_of_mem _ h)
  have hown : s.vm.findClass R_Walk = some m.cls := findClass_of_methodNamed B.named
  have hlocks := B.notSynchronized
  subst hsz
  have hD := hD0.self (sz := s.heap.size)
  generalize hAe : va_A ([(wk, .inr (10, [.ref wl, .int wa, .int wb, va_rf wr])), (wl, .inl (cV, 10000, .inr (.inr (.inr (.inr g)))))] ++ va_pl L (pf f ν)) s.heap.size = A at hD hZ hC ⊢
  have hA : ∀ q : Nat, s.heap.size ≤ q → A q := fun q h => by rw [← hAe]; exact Or.inr h
  have hS : va_S A s.heap s.heap [] := va_S.rf
  have hP : va_P (dC, dI) classes ([(wk, .inr (10, [.ref wl, .int wa, .int wb, va_rf wr])), (wl, .inl (cV, 10000, .inr (.inr (.inr (.inr g)))))] ++ va_pl L (pf f ν)) s.heap := hP
  have hl := lv_entry ([.ref wk, .ref qu, .ref dv]) (n := 3) (Nat.le_of_ble_eq_true rfl)
  rw [lg_entry_eq]
  generalize (lg_sl ([.ref wk, .ref qu, .ref dv]) ++ List.replicate (3 - (lg_sl ([.ref wk, .ref qu, .ref dv])).length) Slot.unset).toArray = ls at hl ⊢
  have hl : lv_has ls 3 [(0, .ref wk), (1, .ref qu), (2, .ref dv)] := hl
  refine lv_aload_n hx hb d_Walk_begin_0 rfl (lv_at hl 0 rfl) ?_
  refine lv_aload_n hx hb d_Walk_begin_1 rfl (lv_at hl 2 rfl) ?_
  refine va_put (D := (dC, dI)) (ci := 10) (v := .ref dv) (ty := .object "QueryBench$Value") (C := R_Walk) (T := F_Walk) (N := 4) hx hb hts in_Walk t_Walk t_Walk_ok n_Walk hown hK hP hD hS 0 rfl rfl 3 (by decide) (hts _ z_121) (fun _ h9 => h9) rfl (by decide +kernel) rfl rfl (Nat.le_of_ble_eq_true rfl) d_Walk_begin_2 (fun H locs hP hD hS => ?_)
  have hP : va_P (dC, dI) classes ([(wk, .inr (10, [.ref wl, .int wa, .int wb, .ref dv])), (wl, .inl (cV, 10000, .inr (.inr (.inr (.inr g)))))] ++ va_pl L (pf f ν)) H := hP
  have hD : va_D A ([(wk, .inr (10, [.ref wl, .int wa, .int wb, .ref dv])), (wl, .inl (cV, 10000, .inr (.inr (.inr (.inr g)))))] ++ va_pl L (pf f ν)) := hD
  refine lv_aload_n hx hb d_Walk_begin_5 rfl (lv_at hl 0 rfl) ?_
  refine lv_iconst (v := 0) hx hb d_Walk_begin_6 (by decide) ?_
  refine va_put (D := (dC, dI)) (ci := 10) (v := .int 0) (ty := .int) (C := R_Walk) (T := F_Walk) (N := 4) hx hb hts in_Walk t_Walk t_Walk_ok n_Walk hown hK hP hD hS 0 rfl rfl 1 (by decide) (hts _ z_117) (fun _ h9 => h9) rfl (by decide +kernel) rfl rfl (Nat.le_of_ble_eq_true rfl) d_Walk_begin_7 (fun H locs hP hD hS => ?_)
  have hP : va_P (dC, dI) classes ([(wk, .inr (10, [.ref wl, .int 0, .int wb, .ref dv])), (wl, .inl (cV, 10000, .inr (.inr (.inr (.inr g)))))] ++ va_pl L (pf f ν)) H := hP
  have hD : va_D A ([(wk, .inr (10, [.ref wl, .int 0, .int wb, .ref dv])), (wl, .inl (cV, 10000, .inr (.inr (.inr (.inr g)))))] ++ va_pl L (pf f ν)) := hD
  refine lv_aload_n hx hb d_Walk_begin_10 rfl (lv_at hl 0 rfl) ?_
  refine lv_iconst (v := 0) hx hb d_Walk_begin_11 (by decide) ?_
  refine va_put (D := (dC, dI)) (ci := 10) (v := .int 0) (ty := .int) (C := R_Walk) (T := F_Walk) (N := 4) hx hb hts in_Walk t_Walk t_Walk_ok n_Walk hown hK hP hD hS 0 rfl rfl 2 (by decide) (hts _ w_119) (fun _ h9 => h9) rfl (by decide +kernel) rfl rfl (Nat.le_of_ble_eq_true rfl) d_Walk_begin_12 (fun H locs hP hD hS => ?_)
  have hP : va_P (dC, dI) classes ([(wk, .inr (10, [.ref wl, .int 0, .int 0, .ref dv])), (wl, .inl (cV, 10000, .inr (.inr (.inr (.inr g)))))] ++ va_pl L (pf f ν)) H := hP
  have hD : va_D A ([(wk, .inr (10, [.ref wl, .int 0, .int 0, .ref dv])), (wl, .inl (cV, 10000, .inr (.inr (.inr (.inr g)))))] ++ va_pl L (pf f ν)) := hD
  refine lv_aload_n hx hb d_Walk_begin_15 rfl (lv_at hl 0 rfl) ?_
  refine lv_aload_n hx hb d_Walk_begin_16 rfl (lv_at hl 1 rfl) ?_
  refine lv_aload_n hx hb d_Walk_begin_17 rfl (lv_at hl 2 rfl) ?_
  have hW9 : WI E 0 0 g := ⟨Nat.le_refl _, Nat.zero_le _, fun j hj => absurd hj (Nat.not_lt_zero _)⟩
  have hP : va_P (dC, dI) classes ([(wk, .inr (10, [.ref wl, .int (nI 0), .int (nI 0), .ref dv])), (wl, .inl (cV, 10000, .inr (.inr (.inr (.inr g)))))] ++ va_pl L (pf f ν)) H := hP
  have hD : va_D A ([(wk, .inr (10, [.ref wl, .int (nI 0), .int (nI 0), .ref dv])), (wl, .inl (cV, 10000, .inr (.inr (.inr (.inr g)))))] ++ va_pl L (pf f ν)) := hD
  have hPc := hP.part (cx := [(wk, .inr (10, [.ref wl, .int (nI 0), .int (nI 0), .ref dv])), (wl, .inl (cV, 10000, .inr (.inr (.inr (.inr g)))))]) [0, 1] rfl
  have hDc := hD.part (cx := [(wk, .inr (10, [.ref wl, .int (nI 0), .int (nI 0), .ref dv])), (wl, .inl (cV, 10000, .inr (.inr (.inr (.inr g)))))]) [0, 1] (by decide) rfl
  have hFc := va_freeP (cx := [(wk, .inr (10, [.ref wl, .int (nI 0), .int (nI 0), .ref dv])), (wl, .inl (cV, 10000, .inr (.inr (.inr (.inr g)))))]) hD hS hA [0, 1] rfl
  have hKc := hK.sub (tys' := [(cI, .int), (cV, .object "QueryBench$Value")]) [0, 1] rfl
  refine w_same (fun hq0 => ?_)
  refine vx_calli (vx_runV (As := [.ref qu, .ref dv]) (rest := []) ⟨hx, hb, hml, hown, hts⟩ ((c_WL l hl9 K dC dI cI cV E lv L f hO hN1 wk wl dv hdv n).1 H 0 0 g ν hW9 qu dv hqu hlq hdv) (cwV 2 hts (gt_V (own := R_Walk) (C := R_Walk) (i := 28) (y := y_Walk_nodes) i_Walk_nodes z_835 z_837 (gt_sel (y := y_Walk_nodes) (n := 4) (by decide +kernel)) w_5) rfl rfl rfl (by decide +kernel) ⟨by show 60 + 5 * n + 1 ≤ 61 + 5 * n; omega, by show 8 + (7 + 11) + (2500 + 200 * n) ≤ 2540 + 200 * n; omega⟩) ⟨ml_blind, va_recv hK hP (ci := 10) (q0 := 0) rfl rfl, fun U hU hW => ⟨rfl, ⟨hU, by rw [hU]; exact hPc, va_K.moved hW.alike hKc, hDc.weaken (fun _ _ _ _ => trivial)⟩, hN.warm hW, by rw [hU]; exact ZX.moved' hW.alike (ZX.narrow' (ZX.kept' hZ hS.2.1) hFc), by rw [hU]; exact CE.call hC hS.2.1 hFc hW, va_AO.moved hW.alike hV⟩⟩ rfl rfl hl.1 rfl (lv_room (Nat.le_of_ble_eq_true rfl)) d_Walk_begin_18 ⟨Nat.le_of_ble_eq_true rfl, Nat.le_of_ble_eq_true rfl⟩) hS (fun q _ h => hFc q h) hFc (fun q _ h => hFc q h) (fun En ce q9 ⟨tx, sx, gx, nx⟩ t9 H1 locs ht hvm hw hB hz1 hk1 hS hce hcv hcl => ?_) (fun r21 ⟨t21, s21, g21, n21⟩ t9 H1 locs ht hvm hw hB hz1 hk1 hS => ?_)
  · obtain ⟨hEn, hP1, hK1, hD1⟩ := hB
    rw [ht] at hP1
    obtain ⟨hP, hD⟩ := va_joinP (wr := []) (rx := [(wk, .inr (10, [.ref wl, .int tx, .int sx, .ref dv])), (wl, .inl (cV, 10000, .inr (.inr (.inr (.inr gx)))))]) (pl1 := va_pl L (pf f nx)) hP hD [0, 1] [] rfl rfl (by decide) (by decide) hk1 hFc hP1 hD1
    generalize H1 = H at hP hS hce ⊢
    have hP : va_P (dC, dI) classes ([(wk, .inr (10, [.ref wl, .int tx, .int sx, .ref dv])), (wl, .inl (cV, 10000, .inr (.inr (.inr (.inr gx)))))] ++ va_pl L (pf f nx)) H := hP
    have hD : va_D A ([(wk, .inr (10, [.ref wl, .int tx, .int sx, .ref dv])), (wl, .inl (cV, 10000, .inr (.inr (.inr (.inr gx)))))] ++ va_pl L (pf f nx)) := hD
    exact vx_out (fun x hx => (hex x hx).elim) hlocks hce hcv hcl (fun t9 ht2 ha => ⟨(tx, sx, gx, some dv, nx), trivial, ⟨hEn, by rw [ht2]; exact hP, va_K.moved ha hK, hD⟩, hS.F ht2⟩) hS.2.2 (Nat.le_of_ble_eq_true rfl) (Nat.le_of_ble_eq_true rfl)
  · obtain ⟨⟨hP1, hK1, hD1⟩, hz9⟩ := hB
    rw [ht] at hP1
    rw [ht] at hz9
    refine w_tight (hq0.trans hz9) ?_
    have hq0 := hq0.trans hz9
    obtain ⟨hP, hD⟩ := va_joinP (wr := []) (rx := [(wk, .inr (10, [.ref wl, .int (nI t21), .int (nI s21), .ref dv])), (wl, .inl (cV, 10000, .inr (.inr (.inr (.inr g21)))))]) (pl1 := va_pl L (pf f n21)) hP hD [0, 1] [] rfl rfl (by decide) (by decide) hk1 hFc hP1 hD1
    generalize H1 = H at hP hS hq0 ⊢
    have hP : va_P (dC, dI) classes ([(wk, .inr (10, [.ref wl, .int (nI t21), .int (nI s21), .ref dv])), (wl, .inl (cV, 10000, .inr (.inr (.inr (.inr g21)))))] ++ va_pl L (pf f n21)) H := hP
    have hD : va_D A ([(wk, .inr (10, [.ref wl, .int (nI t21), .int (nI s21), .ref dv])), (wl, .inl (cV, 10000, .inr (.inr (.inr (.inr g21)))))] ++ va_pl L (pf f n21)) := hD
    obtain ⟨⟨fr, hfr1, hfr2⟩, -, -, hWn⟩ := hw
    have hfr2 : fr ≤ t21 := hfr2
    subst hfr1
    have hWn : WI E t21 s21 g21 := hWn
    refine w_same (fun hq => ?_)
    refine W.widen (k := 1) (n := 6) (Nat.le_of_ble_eq_true rfl) (Nat.le_of_ble_eq_true rfl) ?_
    refine vx_ret ?_
    exact W.iret (v := (nI fr)) hx hb hr (fun t9 ht hW => ⟨⟨(nI fr), (t21, s21, g21, n21), rfl, ⟨⟨fr, rfl, hfr2⟩, hWn⟩, ⟨by rw [ht]; exact hP, va_K.moved hW.alike hK, hD⟩, by rw [ht]; exact hq⟩, hS.F ht⟩) hS.2.2 d_Walk_begin_21
abbrev b_QB_checkReady : ByteArray := prog_1_method_11_code
def y_QB_checkReady : MethodName := ⟨"QueryBench", "checkReady", "(I)V"⟩
abbrev k_QB_checkReady : Cond := .code y_QB_checkReady b_QB_checkReady 2 none
theorem i_QB_checkReady : k_QB_checkReady ∈ gtbl := gt_in 815 (by decide +kernel) (by decide +kernel)
theorem d_QB_checkReady_0 : decode b_QB_checkReady 0 = .ok (.aload_n 0, 1) := by decide +kernel
theorem d_QB_checkReady_1 : decode b_QB_checkReady 1 = .ok (.getfield 41, 3) := by decide +kernel
theorem d_QB_checkReady_4 : decode b_QB_checkReady 4 = .ok (.iload_n 1, 1) := by decide +kernel
theorem d_QB_checkReady_5 : decode b_QB_checkReady 5 = .ok (.aaload, 1) := by decide +kernel
theorem d_QB_checkReady_6 : decode b_QB_checkReady 6 = .ok (.ifnull 10, 3) := by decide +kernel
theorem d_QB_checkReady_9 : decode b_QB_checkReady 9 = .ok (.aload_n 0, 1) := by decide +kernel
theorem d_QB_checkReady_10 : decode b_QB_checkReady 10 = .ok (.getfield 86, 3) := by decide +kernel
theorem d_QB_checkReady_13 : decode b_QB_checkReady 13 = .ok (.ifnonnull 11, 3) := by decide +kernel
theorem d_QB_checkReady_16 : decode b_QB_checkReady 16 = .ok (.new 124, 3) := by decide +kernel
theorem d_QB_checkReady_19 : decode b_QB_checkReady 19 = .ok (.dup, 1) := by decide +kernel
theorem d_QB_checkReady_20 : decode b_QB_checkReady 20 = .ok (.invokespecial 126, 3) := by decide +kernel
theorem d_QB_checkReady_23 : decode b_QB_checkReady 23 = .ok (.athrow, 1) := by decide +kernel
theorem d_QB_checkReady_24 : decode b_QB_checkReady 24 = .ok (.return_, 1) := by decide +kernel
theorem xa_QB_checkReady_16 : ∀ w ∈ vx_at0 R_QB 126 "java/lang/IllegalStateException" ["java/lang/RuntimeException", "java/lang/Exception"], (goodWord w = true ∧ w ∈ lw_tbl) ∨ w ∈ nwl := by decide +kernel
theorem xa_QB_checkReady_16_g : ∀ w ∈ Cond.classLink R_QB 124 "java/lang/IllegalStateException" :: Cond.initialized "java/lang/IllegalStateException" :: vx_at0 R_QB 126 "java/lang/IllegalStateException" ["java/lang/RuntimeException", "java/lang/Exception"], vx_ot w = true := by decide +kernel
set_option maxHeartbeats 4000000 in
set_option maxRecDepth 100000 in
/-- QueryBench.checkReady -/
theorem c_QB_checkReady (l : Launch) (hl9 : l.stackTraces = false) (dC : Nat → ClassId) (dI : Nat → Nat → Nat) (sz : Heap) (cV : ClassId) (q0 ds : Nat) (r0 r1 r2 r3 : Value) (p1 p2 : Nat) (qo : Option Nat) (dg : Nat → Option Nat) (d : Nat) (hd : d < 4) : vx_Met l y_QB_checkReady (k_QB_checkReady :: gtbl) ({ frames := 8, cells := 1, slots := 6, locals := 110 }) (va_Pc [.ref q0, .int (nI d)] (mx dC dI ([(q0, .inr (11, [r0, r1, r2, r3, .ref ds, va_rf qo, .ref p1, .ref p2])), (ds, .inl (cV, 4, .inr (.inr (.inr (.inr dg)))))]) [(cV, .object "QueryBench$Value")] sz)) (va_Qv (fun (u : Unit) => (∃ b, dg d = some b) ∧ ∃ q, qo = some q) (fun u t9 => mz dC dI ([(q0, .inr (11, [r0, r1, r2, r3, .ref ds, va_rf qo, .ref p1, .ref p2])), (ds, .inl (cV, 4, .inr (.inr (.inr (.inr dg)))))]) [(cV, .object "QueryBench$Value")] (va_A ([(q0, .inr (11, [r0, r1, r2, r3, .ref ds, va_rf qo, .ref p1, .ref p2])), (ds, .inl (cV, 4, .inr (.inr (.inr (.inr dg)))))]) sz.size) t9 ∧ szk sz t9.heap (0) (0)) (va_A ([(q0, .inr (11, [r0, r1, r2, r3, .ref ds, va_rf qo, .ref p1, .ref p2])), (ds, .inl (cV, 4, .inr (.inr (.inr (.inr dg)))))]) sz.size)) (vx_X (fun (u : Unit) => True) (fun En u t9 => En = ISX ∧ mz dC dI ([(q0, .inr (11, [r0, r1, r2, r3, .ref ds, va_rf qo, .ref p1, .ref p2])), (ds, .inl (cV, 4, .inr (.inr (.inr (.inr dg)))))]) [(cV, .object "QueryBench$Value")] (va_A ([(q0, .inr (11, [r0, r1, r2, r3, .ref ds, va_rf qo, .ref p1, .ref p2])), (ds, .inl (cV, 4, .inr (.inr (.inr (.inr dg)))))]) sz.size) t9) (va_A ([(q0, .inr (11, [r0, r1, r2, r3, .ref ds, va_rf qo, .ref p1, .ref p2])), (ds, .inl (cV, 4, .inr (.inr (.inr (.inr dg)))))]) sz.size)) (1) (6) (va_A ([(q0, .inr (11, [r0, r1, r2, r3, .ref ds, va_rf qo, .ref p1, .ref p2])), (ds, .inl (cV, 4, .inr (.inr (.inr (.inr dg)))))]) sz.size) := by
  refine vx_ofW (cc := b_QB_checkReady) (maxL := 2) (ret := none) (by decide) rfl ?_
  intro p e s m args below meth c s₁ B hml hex hv
  obtain ⟨rfl, ⟨hsz, hP, hK, hD0⟩, hN, hZ⟩ := hv
  have hx := B.exec
  have hb := B.bytes
  have hr := B.returns
  have hts0 := atoms_spec (ws := k_QB_checkReady :: gtbl) B.pre
  have hts := fun w h => hts0 w (List.mem_cons_of_mem _ h)
  have hown : s.vm.findClass R_QB = some m.cls := findClass_of_methodNamed B.named
  have hlocks := B.notSynchronized
  subst hsz
  have hD := hD0.self (sz := s.heap.size)
  generalize hAe : va_A ([(q0, .inr (11, [r0, r1, r2, r3, .ref ds, va_rf qo, .ref p1, .ref p2])), (ds, .inl (cV, 4, .inr (.inr (.inr (.inr dg)))))]) s.heap.size = A at hD hZ ⊢
  have hA : ∀ q : Nat, s.heap.size ≤ q → A q := fun q h => by rw [← hAe]; exact Or.inr h
  have hS : va_S A s.heap s.heap [] := va_S.rf
  have hP : va_P (dC, dI) classes ([(q0, .inr (11, [r0, r1, r2, r3, .ref ds, va_rf qo, .ref p1, .ref p2])), (ds, .inl (cV, 4, .inr (.inr (.inr (.inr dg)))))]) s.heap := hP
  have hl := lv_entry ([.ref q0, .int (nI d)]) (n := 2) (Nat.le_of_ble_eq_true rfl)
  rw [lg_entry_eq]
  generalize (lg_sl ([.ref q0, .int (nI d)]) ++ List.replicate (2 - (lg_sl ([.ref q0, .int (nI d)])).length) Slot.unset).toArray = ls at hl ⊢
  have hl : lv_has ls 2 [(0, .ref q0), (1, .int (nI d))] := hl
  refine lv_aload_n hx hb d_QB_checkReady_0 rfl (lv_at hl 0 rfl) ?_
  refine va_get (D := (dC, dI)) (ci := 11) (v := .ref ds) (C := R_QB) (T := F_QB) (N := 8) hx hb hts in_QB hown hK hP 0 rfl rfl 4 (by decide) (hts _ w_155) (fun _ h9 => h9) rfl d_QB_checkReady_1 ?_
  refine lv_iload_n hx hb d_QB_checkReady_4 rfl (lv_at hl 1 rfl) ?_
  obtain ⟨o9, ho9⟩ : ∃ o, dg d = o := ⟨_, rfl⟩
  refine vq_ald0 hx hb hK hP 1 0 rfl rfl hd (by decide) ho9 d_QB_checkReady_5 ?_
  rcases o9 with _ | b21
  · refine lv_ifnullN (tgt := 16) hx hb d_QB_checkReady_6 (by decide) ?_
    exact vx_throw0 (own := R_QB) (cls := "java/lang/IllegalStateException") (names := ["java/lang/RuntimeException", "java/lang/Exception"]) hx hb hl9 hown (by decide +kernel) (by decide +kernel) (hts _ z_816) (hts _ z_28) (hat hts hN xa_QB_checkReady_16) xa_QB_checkReady_16_g hZ.1 hZ.2 hS (hl.1.trans hml.symm) d_QB_checkReady_16 d_QB_checkReady_19 d_QB_checkReady_20 d_QB_checkReady_23 (fun x hx => (hex x hx).elim) (Nat.le_of_ble_eq_true rfl) (Nat.le_of_ble_eq_true rfl) (Nat.le_of_ble_eq_true rfl) (Nat.le_of_ble_eq_true rfl) hlocks (fun t ha hsz hk => ⟨(), trivial, ⟨rfl, hP.kept (fun k q hq => hk q.1 (hP k q hq).lt), va_K.moved ha hK, hD⟩, Nat.le_trans hS.1 hsz, fun q h1 h2 => (hk q (Nat.lt_of_lt_of_le h1 hS.1)).trans (hS.2.1 q h1 h2)⟩) hS.2.2 (Nat.le_of_ble_eq_true rfl) (Nat.le_of_ble_eq_true rfl)
  · refine lv_ifnull hx hb d_QB_checkReady_6 ?_
    refine lv_aload_n hx hb d_QB_checkReady_9 rfl (lv_at hl 0 rfl) ?_
    rcases qo with _ | qu
    · have hP : va_P (dC, dI) classes ([(q0, .inr (11, [r0, r1, r2, r3, .ref ds, .null, .ref p1, .ref p2])), (ds, .inl (cV, 4, .inr (.inr (.inr (.inr dg)))))]) s.heap := hP
      have hD : va_D A ([(q0, .inr (11, [r0, r1, r2, r3, .ref ds, .null, .ref p1, .ref p2])), (ds, .inl (cV, 4, .inr (.inr (.inr (.inr dg)))))]) := hD
      refine va_get (D := (dC, dI)) (ci := 11) (v := .null) (C := R_QB) (T := F_QB) (N := 8) hx hb hts in_QB hown hK hP 0 rfl rfl 5 (by decide) (hts _ z_156) (fun _ h9 => h9) rfl d_QB_checkReady_10 ?_
      refine lv_ifnonnullN hx hb d_QB_checkReady_13 ?_
      exact vx_throw0 (own := R_QB) (cls := "java/lang/IllegalStateException") (names := ["java/lang/RuntimeException", "java/lang/Exception"]) hx hb hl9 hown (by decide +kernel) (by decide +kernel) (hts _ z_816) (hts _ z_28) (hat hts hN xa_QB_checkReady_16) xa_QB_checkReady_16_g hZ.1 hZ.2 hS (hl.1.trans hml.symm) d_QB_checkReady_16 d_QB_checkReady_19 d_QB_checkReady_20 d_QB_checkReady_23 (fun x hx => (hex x hx).elim) (Nat.le_of_ble_eq_true rfl) (Nat.le_of_ble_eq_true rfl) (Nat.le_of_ble_eq_true rfl) (Nat.le_of_ble_eq_true rfl) hlocks (fun t ha hsz hk => ⟨(), trivial, ⟨rfl, hP.kept (fun k q hq => hk q.1 (hP k q hq).lt), va_K.moved ha hK, hD⟩, Nat.le_trans hS.1 hsz, fun q h1 h2 => (hk q (Nat.lt_of_lt_of_le h1 hS.1)).trans (hS.2.1 q h1 h2)⟩) hS.2.2 (Nat.le_of_ble_eq_true rfl) (Nat.le_of_ble_eq_true rfl)
    · have hP : va_P (dC, dI) classes ([(q0, .inr (11, [r0, r1, r2, r3, .ref ds, .ref qu, .ref p1, .ref p2])), (ds, .inl (cV, 4, .inr (.inr (.inr (.inr dg)))))]) s.heap := hP
      have hD : va_D A ([(q0, .inr (11, [r0, r1, r2, r3, .ref ds, .ref qu, .ref p1, .ref p2])), (ds, .inl (cV, 4, .inr (.inr (.inr (.inr dg)))))]) := hD
      refine va_get (D := (dC, dI)) (ci := 11) (v := .ref qu) (C := R_QB) (T := F_QB) (N := 8) hx hb hts in_QB hown hK hP 0 rfl rfl 5 (by decide) (hts _ z_156) (fun _ h9 => h9) rfl d_QB_checkReady_10 ?_
      refine lv_ifnonnull (tgt := 24) hx hb d_QB_checkReady_13 (by decide) ?_
      refine w_same (fun hq => ?_)
      refine W.widen (k := 1) (n := 6) (Nat.le_of_ble_eq_true rfl) (Nat.le_of_ble_eq_true rfl) ?_
      refine vx_ret ?_
      exact W.vret hx hb hr (fun t9 ht hW => ⟨⟨(), rfl, ⟨⟨_, ho9⟩, ⟨_, rfl⟩⟩, ⟨by rw [ht]; exact hP, va_K.moved hW.alike hK, hD⟩, by rw [ht]; exact hq⟩, hS.F ht⟩) hS.2.2 d_QB_checkReady_24
