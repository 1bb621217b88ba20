theorem z_116 : (.fieldLink "QueryBench" 107 "QueryBench$Walk" "list" "[LQueryBench$Value;" : Cond) ∈ gtbl := gt_in 116 (by decide +kernel) (by decide +kernel)
theorem z_118 : (.fieldLink "QueryBench" 104 "QueryBench$Walk" "top" "I" : Cond) ∈ gtbl := gt_in 118 (by decide +kernel) (by decide +kernel)
theorem z_120 : (.fieldLink "QueryBench" 114 "QueryBench$Walk" "spent" "I" : Cond) ∈ gtbl := gt_in 120 (by decide +kernel) (by decide +kernel)
theorem z_283 : (.methodLink "QueryBench" 69 ⟨"QueryBench", "checkNumber", "(I)V"⟩ : Cond) ∈ gtbl := gt_in 283 (by decide +kernel) (by decide +kernel)
theorem z_284 : (.static ⟨"QueryBench", "checkNumber", "(I)V"⟩ : Cond) ∈ gtbl := gt_in 284 (by decide +kernel) (by decide +kernel)
theorem z_812 : (.methodLink "QueryBench" 96 ⟨"QueryBench", "checkReady", "(I)V"⟩ : Cond) ∈ gtbl := gt_in 812 (by decide +kernel) (by decide +kernel)
theorem z_814 : (.instanceMethod ⟨"QueryBench", "checkReady", "(I)V"⟩ : Cond) ∈ gtbl := gt_in 814 (by decide +kernel) (by decide +kernel)
theorem z_831 : (.methodLink "QueryBench" 99 ⟨"QueryBench$Walk", "begin", "(LQueryBench$Query;LQueryBench$Value;)I"⟩ : Cond) ∈ gtbl := gt_in 831 (by decide +kernel) (by decide +kernel)
theorem z_832 : (.instanceMethod ⟨"QueryBench$Walk", "begin", "(LQueryBench$Query;LQueryBench$Value;)I"⟩ : Cond) ∈ gtbl := gt_in 832 (by decide +kernel) (by decide +kernel)
theorem z_833 : (.selects "QueryBench$Walk" ⟨"QueryBench$Walk", "begin", "(LQueryBench$Query;LQueryBench$Value;)I"⟩ ⟨"QueryBench$Walk", "begin", "(LQueryBench$Query;LQueryBench$Value;)I"⟩ : Cond) ∈ gtbl := gt_in 833 (by decide +kernel) (by decide +kernel)
theorem z_949 : (.methodLink "QueryBench" 110 ⟨"QueryBench$Printer", "line", "(LQueryBench$Value;)V"⟩ : Cond) ∈ gtbl := gt_in 949 (by decide +kernel) (by decide +kernel)
theorem z_950 : (.instanceMethod ⟨"QueryBench$Printer", "line", "(LQueryBench$Value;)V"⟩ : Cond) ∈ gtbl := gt_in 950 (by decide +kernel) (by decide +kernel)
theorem z_951 : (.selects "QueryBench$Printer" ⟨"QueryBench$Printer", "line", "(LQueryBench$Value;)V"⟩ ⟨"QueryBench$Printer", "line", "(LQueryBench$Value;)V"⟩ : Cond) ∈ gtbl := gt_in 951 (by decide +kernel) (by decide +kernel)
abbrev b_QB_work : ByteArray := prog_1_method_7_code
def y_QB_work : MethodName := ⟨"QueryBench", "work", "(I)I"⟩
abbrev k_QB_work : Cond := .code y_QB_work b_QB_work 2 (some .int)
theorem i_QB_work : k_QB_work ∈ gtbl := gt_in 1005 (by decide +kernel) (by decide +kernel)
theorem d_QB_work_0 : decode b_QB_work 0 = .ok (.iload_n 1, 1) := by decide +kernel
theorem d_QB_work_1 : decode b_QB_work 1 = .ok (.invokestatic 69, 3) := by decide +kernel
theorem d_QB_work_4 : decode b_QB_work 4 = .ok (.aload_n 0, 1) := by decide +kernel
theorem d_QB_work_5 : decode b_QB_work 5 = .ok (.iload_n 1, 1) := by decide +kernel
theorem d_QB_work_6 : decode b_QB_work 6 = .ok (.invokevirtual 96, 3) := by decide +kernel
theorem d_QB_work_9 : decode b_QB_work 9 = .ok (.aload_n 0, 1) := by decide +kernel
theorem d_QB_work_10 : decode b_QB_work 10 = .ok (.getfield 35, 3) := by decide +kernel
theorem d_QB_work_13 : decode b_QB_work 13 = .ok (.aload_n 0, 1) := by decide +kernel
theorem d_QB_work_14 : decode b_QB_work 14 = .ok (.getfield 86, 3) := by decide +kernel
theorem d_QB_work_17 : decode b_QB_work 17 = .ok (.aload_n 0, 1) := by decide +kernel
theorem d_QB_work_18 : decode b_QB_work 18 = .ok (.getfield 41, 3) := by decide +kernel
theorem d_QB_work_21 : decode b_QB_work 21 = .ok (.iload_n 1, 1) := by decide +kernel
theorem d_QB_work_22 : decode b_QB_work 22 = .ok (.aaload, 1) := by decide +kernel
theorem d_QB_work_23 : decode b_QB_work 23 = .ok (.invokevirtual 99, 3) := by decide +kernel
theorem d_QB_work_26 : decode b_QB_work 26 = .ok (.pop, 1) := by decide +kernel
theorem d_QB_work_27 : decode b_QB_work 27 = .ok (.aload_n 0, 1) := by decide +kernel
theorem d_QB_work_28 : decode b_QB_work 28 = .ok (.getfield 35, 3) := by decide +kernel
theorem d_QB_work_31 : decode b_QB_work 31 = .ok (.getfield 114, 3) := by decide +kernel
theorem d_QB_work_34 : decode b_QB_work 34 = .ok (.ireturn, 1) := by decide +kernel
set_option maxHeartbeats 4000000 in
set_option maxRecDepth 100000 in
/-- QueryBench.work -/
theorem c_QB_work (l : Launch) (hl9 : l.stackTraces = false) (K : Nat → Nat × Nat) (dC : Nat → ClassId) (dI : Nat → Nat → Nat) (sz : Heap) (cI cV : ClassId) (E lv : Nat → Nat) (L : List Nat) (f : Nat → va_E) (hO : PO cI cV E lv L f) (hN1 : ∀ a, E a ≠ 1) (q0 ds wk wl : Nat) (r0 r1 r2 : Value) (p1 p2 : Nat) (wa wb : Int32) (wr : Option Nat) (g : Nat → Option Nat) (ν : Nat → Int64) (n : Nat) (qo : Option Nat) (hqo : oR (fun q => E q = 7 ∧ lv q ≤ n) qo) (dg : Nat → Option Nat) (hdg : ∀ j, j < 4 → oR (isF E) (dg j)) (d : Int32) : vx_Met l y_QB_work (k_QB_work :: gtbl) ({ frames := 90 + 5 * n, cells := 1, slots := 6, locals := 2700 + 200 * n }) (va_Pc [.ref q0, .int d] (ml K dC dI ([(q0, .inr (11, [r0, r1, r2, .ref wk, .ref ds, va_rf qo, .ref p1, .ref p2])), (ds, .inl (cV, 4, .inr (.inr (.inr (.inr dg))))), (wk, .inr (10, [.ref wl, .int wa, .int wb, va_rf wr])), (wl, .inl (cV, 10000, .inr (.inr (.inr (.inr g)))))] ++ va_pl L (pf f ν)) [(cI, .int), (cV, .object "QueryBench$Value")] sz)) (va_Qi (fun (r : Int32) (u : Int32 × Int32 × (Nat → Option Nat) × Option Nat × (Nat → Int64)) => True) (fun u t9 => mz dC dI ([(q0, .inr (11, [r0, r1, r2, .ref wk, .ref ds, va_rf qo, .ref p1, .ref p2])), (ds, .inl (cV, 4, .inr (.inr (.inr (.inr dg))))), (wk, .inr (10, [.ref wl, .int u.1, .int u.2.1, va_rf u.2.2.2.1])), (wl, .inl (cV, 10000, .inr (.inr (.inr (.inr u.2.2.1)))))] ++ va_pl L (pf f u.2.2.2.2)) [(cI, .int), (cV, .object "QueryBench$Value")] (va_A ([(q0, .inr (11, [r0, r1, r2, .ref wk, .ref ds, va_rf qo, .ref p1, .ref p2])), (ds, .inl (cV, 4, .inr (.inr (.inr (.inr dg))))), (wk, .inr (10, [.ref wl, .int wa, .int wb, va_rf wr])), (wl, .inl (cV, 10000, .inr (.inr (.inr (.inr g)))))] ++ va_pl L (pf f ν)) sz.size) t9 ∧ szk sz t9.heap (0) (0)) (va_A ([(q0, .inr (11, [r0, r1, r2, .ref wk, .ref ds, va_rf qo, .ref p1, .ref p2])), (ds, .inl (cV, 4, .inr (.inr (.inr (.inr dg))))), (wk, .inr (10, [.ref wl, .int wa, .int wb, va_rf wr])), (wl, .inl (cV, 10000, .inr (.inr (.inr (.inr g)))))] ++ va_pl L (pf f ν)) sz.size)) (vx_X (fun (u : Int32 × Int32 × (Nat → Option Nat) × Option Nat × (Nat → Int64)) => True) (fun En u t9 => (En = IAX ∨ En = ISX ∨ En = IOB) ∧ mz dC dI ([(q0, .inr (11, [r0, r1, r2, .ref wk, .ref ds, va_rf qo, .ref p1, .ref p2])), (ds, .inl (cV, 4, .inr (.inr (.inr (.inr dg))))), (wk, .inr (10, [.ref wl, .int u.1, .int u.2.1, va_rf u.2.2.2.1])), (wl, .inl (cV, 10000, .inr (.inr (.inr (.inr u.2.2.1)))))] ++ va_pl L (pf f u.2.2.2.2)) [(cI, .int), (cV, .object "QueryBench$Value")] (va_A ([(q0, .inr (11, [r0, r1, r2, .ref wk, .ref ds, va_rf qo, .ref p1, .ref p2])), (ds, .inl (cV, 4, .inr (.inr (.inr (.inr dg))))), (wk, .inr (10, [.ref wl, .int wa, .int wb, va_rf wr])), (wl, .inl (cV, 10000, .inr (.inr (.inr (.inr g)))))] ++ va_pl L (pf f ν)) sz.size) t9) (va_A ([(q0, .inr (11, [r0, r1, r2, .ref wk, .ref ds, va_rf qo, .ref p1, .ref p2])), (ds, .inl (cV, 4, .inr (.inr (.inr (.inr dg))))), (wk, .inr (10, [.ref wl, .int wa, .int wb, va_rf wr])), (wl, .inl (cV, 10000, .inr (.inr (.inr (.inr g)))))] ++ va_pl L (pf f ν)) sz.size)) (1) (6) (va_A ([(q0, .inr (11, [r0, r1, r2, .ref wk, .ref ds, va_rf qo, .ref p1, .ref p2])), (ds, .inl (cV, 4, .inr (.inr (.inr (.inr dg))))), (wk, .inr (10, [.ref wl, .int wa, .int wb, va_rf wr])), (wl, .inl (cV, 10000, .inr (.inr (.inr (.inr g)))))] ++ va_pl L (pf f ν)) sz.size) := by
  refine vx_ofW (cc := b_QB_work) (maxL := 2) (ret := (some .int)) (by decide) rfl ?_
  intro p e s m args below meth c s₁ B hml hex hv
  obtain ⟨rfl, ⟨hsz, hP, hK, hD0⟩, hN, hZ, hC, hV⟩ := hv
  have hx := B.exec
  have hb := B.bytes
  have hr := B.returns
  have hts0 := atoms_spec (ws := k_QB_work :: gtbl) B.pre
  have hts := fun w h => hts0 w (List.mem_cons_of_mem _ h)
  have hown : s.vm.findClass R_QB = some m.cls := findClass_of_methodNamed B.named
  have hlocks := B.notSynchronized
  subst hsz
  have hD := hD0.self (sz := s.heap.size)
  generalize hAe : va_A ([(q0, .inr (11, [r0, r1, r2, .ref wk, .ref ds, va_rf qo, .ref p1, .ref p2])), (ds, .inl (cV, 4, .inr (.inr (.inr (.inr dg))))), (wk, .inr (10, [.ref wl, .int wa, .int wb, va_rf wr])), (wl, .inl (cV, 10000, .inr (.inr (.inr (.inr g)))))] ++ va_pl L (pf f ν)) s.heap.size = A at hD hZ hC ⊢
  have hA : ∀ q : Nat, s.heap.size ≤ q → A q := fun q h => by rw [← hAe]; exact Or.inr h
  have hS : va_S A s.heap s.heap [] := va_S.rf
  have hP : va_P (dC, dI) classes ([(q0, .inr (11, [r0, r1, r2, .ref wk, .ref ds, va_rf qo, .ref p1, .ref p2])), (ds, .inl (cV, 4, .inr (.inr (.inr (.inr dg))))), (wk, .inr (10, [.ref wl, .int wa, .int wb, va_rf wr])), (wl, .inl (cV, 10000, .inr (.inr (.inr (.inr g)))))] ++ va_pl L (pf f ν)) s.heap := hP
  have hl := lv_entry ([.ref q0, .int d]) (n := 2) (Nat.le_of_ble_eq_true rfl)
  rw [lg_entry_eq]
  generalize (lg_sl ([.ref q0, .int d]) ++ List.replicate (2 - (lg_sl ([.ref q0, .int d])).length) Slot.unset).toArray = ls at hl ⊢
  have hl : lv_has ls 2 [(0, .ref q0), (1, .int d)] := hl
  refine lv_iload_n hx hb d_QB_work_0 rfl (lv_at hl 1 rfl) ?_
  have hPc := hP.sub (ws' := []) [] rfl
  have hDc := hD.sub (ws' := []) [] (by decide) rfl
  have hFc := va_free (wc := []) hD hS hA [] rfl
  have hKc := hK.sub (tys' := []) [] rfl
  refine w_same (fun hq0 => ?_)
  refine vx_callv (vx_runS (As := [.int d]) (rest := []) ⟨hx, hb, hml, hown, hts⟩ (c_QB_checkNumber l hl9 dC dI s.heap d) (va_cwS 1 hts (gt_S (own := R_QB) (i := 69) (y := y_QB_checkNumber) i_QB_checkNumber z_283 z_284 w_1) rfl rfl rfl (by decide +kernel) ⟨by show 8 + 1 ≤ 90 + 5 * n; omega, by show 8 + (1 + 11) + (110) ≤ 2700 + 200 * n; omega⟩) ⟨mx_blind, fun U hU hW => ⟨rfl, ⟨hU, by rw [hU]; exact hPc, va_K.moved hW.alike hKc, hDc.weaken (fun _ _ _ _ => trivial)⟩, hN.warm hW, by rw [hU]; exact ZX.moved' hW.alike (ZX.narrow' (ZX.kept' hZ hS.2.1) hFc)⟩⟩ rfl rfl hl.1 rfl (lv_room (Nat.le_of_ble_eq_true rfl)) d_QB_work_1 ⟨Nat.le_of_ble_eq_true rfl, Nat.le_of_ble_eq_true rfl⟩) hS (fun q _ h => hFc q h) hFc (fun q _ h => hFc q h) (fun En ce q9 _u t9 H1 locs ht hvm hw hB hz1 hk1 hS hce hcv hcl => ?_) (fun _u t9 H1 locs ht hvm hw hB hz1 hk1 hS => ?_)
  · obtain ⟨hEn, hP1, hK1, hD1⟩ := hB
    rw [ht] at hP1
    obtain ⟨hP, hD⟩ := va_joinQ (wr := [(q0, .inr (11, [r0, r1, r2, .ref wk, .ref ds, va_rf qo, .ref p1, .ref p2])), (ds, .inl (cV, 4, .inr (.inr (.inr (.inr dg))))), (wk, .inr (10, [.ref wl, .int wa, .int wb, va_rf wr])), (wl, .inl (cV, 10000, .inr (.inr (.inr (.inr g)))))]) (w1 := []) hP hD [] [0, 1, 2, 3] rfl rfl (by decide) (by decide) hk1 hFc hP1 hD1
    generalize H1 = H at hP hS hce ⊢
    have hP : va_P (dC, dI) classes ([(q0, .inr (11, [r0, r1, r2, .ref wk, .ref ds, va_rf qo, .ref p1, .ref p2])), (ds, .inl (cV, 4, .inr (.inr (.inr (.inr dg))))), (wk, .inr (10, [.ref wl, .int wa, .int wb, va_rf wr])), (wl, .inl (cV, 10000, .inr (.inr (.inr (.inr g)))))] ++ va_pl L (pf f ν)) H := hP
    have hD : va_D A ([(q0, .inr (11, [r0, r1, r2, .ref wk, .ref ds, va_rf qo, .ref p1, .ref p2])), (ds, .inl (cV, 4, .inr (.inr (.inr (.inr dg))))), (wk, .inr (10, [.ref wl, .int wa, .int wb, va_rf wr])), (wl, .inl (cV, 10000, .inr (.inr (.inr (.inr g)))))] ++ va_pl L (pf f ν)) := hD
    exact vx_out (fun x hx => (hex x hx).elim) hlocks hce hcv hcl (fun t9 ht2 ha => ⟨(wa, wb, g, wr, ν), trivial, ⟨Or.inl hEn, by rw [ht2]; exact hP, va_K.moved ha hK, hD⟩, hS.F ht2⟩) hS.2.2 (Nat.le_of_ble_eq_true rfl) (Nat.le_of_ble_eq_true rfl)
  · obtain ⟨⟨hP1, hK1, hD1⟩, hz9⟩ := hB
    rw [ht] at hP1
    rw [ht] at hz9
    refine w_tight (hq0.trans hz9) ?_
    have hq0 := hq0.trans hz9
    obtain ⟨hP, hD⟩ := va_joinQ (wr := [(q0, .inr (11, [r0, r1, r2, .ref wk, .ref ds, va_rf qo, .ref p1, .ref p2])), (ds, .inl (cV, 4, .inr (.inr (.inr (.inr dg))))), (wk, .inr (10, [.ref wl, .int wa, .int wb, va_rf wr])), (wl, .inl (cV, 10000, .inr (.inr (.inr (.inr g)))))]) (w1 := []) hP hD [] [0, 1, 2, 3] rfl rfl (by decide) (by decide) hk1 hFc hP1 hD1
    generalize H1 = H at hP hS hq0 ⊢
    have hP : va_P (dC, dI) classes ([(q0, .inr (11, [r0, r1, r2, .ref wk, .ref ds, va_rf qo, .ref p1, .ref p2])), (ds, .inl (cV, 4, .inr (.inr (.inr (.inr dg))))), (wk, .inr (10, [.ref wl, .int wa, .int wb, va_rf wr])), (wl, .inl (cV, 10000, .inr (.inr (.inr (.inr g)))))] ++ va_pl L (pf f ν)) H := hP
    have hD : va_D A ([(q0, .inr (11, [r0, r1, r2, .ref wk, .ref ds, va_rf qo, .ref p1, .ref p2])), (ds, .inl (cV, 4, .inr (.inr (.inr (.inr dg))))), (wk, .inr (10, [.ref wl, .int wa, .int wb, va_rf wr])), (wl, .inl (cV, 10000, .inr (.inr (.inr (.inr g)))))] ++ va_pl L (pf f ν)) := hD
    have hw : ¬ d < 0 ∧ d < 4 := hw
    obtain ⟨j, hj, ej⟩ : ∃ j, j < 4 ∧ d = nI j := by
      rcases pk_ix d (n := 4) (by decide) with h9 | h9 | h9
      · exact absurd h9 hw.1
      · exact absurd hw.2 (Int32.not_lt.mpr h9)
      · exact h9
    subst ej
    have hl : lv_has ls 2 [(0, .ref q0), (1, .int (nI j))] := hl
    refine lv_aload_n hx hb d_QB_work_4 rfl (lv_at hl 0 rfl) ?_
    refine lv_iload_n hx hb d_QB_work_5 rfl (lv_at hl 1 rfl) ?_
    have hPc := hP.sub (ws' := [(q0, .inr (11, [r0, r1, r2, .ref wk, .ref ds, va_rf qo, .ref p1, .ref p2])), (ds, .inl (cV, 4, .inr (.inr (.inr (.inr dg)))))]) [0, 1] rfl
    have hDc := hD.sub (ws' := [(q0, .inr (11, [r0, r1, r2, .ref wk, .ref ds, va_rf qo, .ref p1, .ref p2])), (ds, .inl (cV, 4, .inr (.inr (.inr (.inr dg)))))]) [0, 1] (by decide) rfl
    have hFc := va_free (wc := [(q0, .inr (11, [r0, r1, r2, .ref wk, .ref ds, va_rf qo, .ref p1, .ref p2])), (ds, .inl (cV, 4, .inr (.inr (.inr (.inr dg)))))]) hD hS hA [0, 1] rfl
    have hKc := hK.sub (tys' := [(cV, .object "QueryBench$Value")]) [1] rfl
    refine w_same (fun hq0 => ?_)
    refine vx_callv (vx_runV (As := [.int (nI j)]) (rest := []) ⟨hx, hb, hml, hown, hts⟩ (c_QB_checkReady l hl9 dC dI H cV q0 ds r0 r1 r2 (.ref wk) p1 p2 qo dg j hj) (cwV 1 hts (gt_V (own := R_QB) (C := R_QB) (i := 96) (y := y_QB_checkReady) i_QB_checkReady z_812 z_814 (gt_sel (y := y_QB_checkReady) (n := 8) (by decide +kernel)) w_1) rfl rfl rfl (by decide +kernel) ⟨by show 8 + 1 ≤ 90 + 5 * n; omega, by show 8 + (2 + 11) + (110) ≤ 2700 + 200 * n; omega⟩) ⟨mx_blind, va_recv hK hP (ci := 11) (q0 := 0) rfl rfl, fun U hU hW => ⟨rfl, ⟨hU, by rw [hU]; exact hPc, va_K.moved hW.alike hKc, hDc.weaken (fun _ _ _ _ => trivial)⟩, hN.warm hW, by rw [hU]; exact ZX.moved' hW.alike (ZX.narrow' (ZX.kept' hZ hS.2.1) hFc)⟩⟩ rfl rfl hl.1 rfl (lv_room (Nat.le_of_ble_eq_true rfl)) d_QB_work_6 ⟨Nat.le_of_ble_eq_true rfl, Nat.le_of_ble_eq_true rfl⟩) hS (fun q _ h => hFc q h) hFc (fun q _ h => hFc q h) (fun En ce q9 _u t9 H1 locs ht hvm hw hB hz1 hk1 hS hce hcv hcl => ?_) (fun _u t9 H1 locs ht hvm hw hB hz1 hk1 hS => ?_)
    · obtain ⟨hEn, hP1, hK1, hD1⟩ := hB
      rw [ht] at hP1
      obtain ⟨hP, hD⟩ := va_joinQ (wr := [(wk, .inr (10, [.ref wl, .int wa, .int wb, va_rf wr])), (wl, .inl (cV, 10000, .inr (.inr (.inr (.inr g)))))]) (w1 := [(q0, .inr (11, [r0, r1, r2, .ref wk, .ref ds, va_rf qo, .ref p1, .ref p2])), (ds, .inl (cV, 4, .inr (.inr (.inr (.inr dg)))))]) hP hD [0, 1] [2, 3] rfl rfl (by decide) (by decide) hk1 hFc hP1 hD1
      generalize H1 = H at hP hS hce ⊢
      have hP : va_P (dC, dI) classes ([(wk, .inr (10, [.ref wl, .int wa, .int wb, va_rf wr])), (wl, .inl (cV, 10000, .inr (.inr (.inr (.inr g))))), (q0, .inr (11, [r0, r1, r2, .ref wk, .ref ds, va_rf qo, .ref p1, .ref p2])), (ds, .inl (cV, 4, .inr (.inr (.inr (.inr dg)))))] ++ va_pl L (pf f ν)) H := hP
      have hD : va_D A ([(wk, .inr (10, [.ref wl, .int wa, .int wb, va_rf wr])), (wl, .inl (cV, 10000, .inr (.inr (.inr (.inr g))))), (q0, .inr (11, [r0, r1, r2, .ref wk, .ref ds, va_rf qo, .ref p1, .ref p2])), (ds, .inl (cV, 4, .inr (.inr (.inr (.inr dg)))))] ++ va_pl L (pf f ν)) := hD
      have hP := hP.part (cx := [(q0, .inr (11, [r0, r1, r2, .ref wk, .ref ds, va_rf qo, .ref p1, .ref p2])), (ds, .inl (cV, 4, .inr (.inr (.inr (.inr dg))))), (wk, .inr (10, [.ref wl, .int wa, .int wb, va_rf wr])), (wl, .inl (cV, 10000, .inr (.inr (.inr (.inr g)))))]) [2, 3, 0, 1] rfl
      have hD := hD.part (cx := [(q0, .inr (11, [r0, r1, r2, .ref wk, .ref ds, va_rf qo, .ref p1, .ref p2])), (ds, .inl (cV, 4, .inr (.inr (.inr (.inr dg))))), (wk, .inr (10, [.ref wl, .int wa, .int wb, va_rf wr])), (wl, .inl (cV, 10000, .inr (.inr (.inr (.inr g)))))]) [2, 3, 0, 1] (by decide) rfl
      exact vx_out (fun x hx => (hex x hx).elim) hlocks hce hcv hcl (fun t9 ht2 ha => ⟨(wa, wb, g, wr, ν), trivial, ⟨Or.inr (Or.inl hEn), by rw [ht2]; exact hP, va_K.moved ha hK, hD⟩, hS.F ht2⟩) hS.2.2 (Nat.le_of_ble_eq_true rfl) (Nat.le_of_ble_eq_true rfl)
    · obtain ⟨⟨hP1, hK1, hD1⟩, hz9⟩ := hB
      rw [ht] at hP1
      rw [ht] at hz9
      refine w_tight (hq0.trans hz9) ?_
      have hq0 := hq0.trans hz9
      obtain ⟨hP, hD⟩ := va_joinQ (wr := [(wk, .inr (10, [.ref wl, .int wa, .int wb, va_rf wr])), (wl, .inl (cV, 10000, .inr (.inr (.inr (.inr g)))))]) (w1 := [(q0, .inr (11, [r0, r1, r2, .ref wk, .ref ds, va_rf qo, .ref p1, .ref p2])), (ds, .inl (cV, 4, .inr (.inr (.inr (.inr dg)))))]) hP hD [0, 1] [2, 3] rfl rfl (by decide) (by decide) hk1 hFc hP1 hD1
      generalize H1 = H at hP hS hq0 ⊢
      have hP : va_P (dC, dI) classes ([(wk, .inr (10, [.ref wl, .int wa, .int wb, va_rf wr])), (wl, .inl (cV, 10000, .inr (.inr (.inr (.inr g))))), (q0, .inr (11, [r0, r1, r2, .ref wk, .ref ds, va_rf qo, .ref p1, .ref p2])), (ds, .inl (cV, 4, .inr (.inr (.inr (.inr dg)))))] ++ va_pl L (pf f ν)) H := hP
      have hD : va_D A ([(wk, .inr (10, [.ref wl, .int wa, .int wb, va_rf wr])), (wl, .inl (cV, 10000, .inr (.inr (.inr (.inr g))))), (q0, .inr (11, [r0, r1, r2, .ref wk, .ref ds, va_rf qo, .ref p1, .ref p2])), (ds, .inl (cV, 4, .inr (.inr (.inr (.inr dg)))))] ++ va_pl L (pf f ν)) := hD
      have hP := hP.part (cx := [(q0, .inr (11, [r0, r1, r2, .ref wk, .ref ds, va_rf qo, .ref p1, .ref p2])), (ds, .inl (cV, 4, .inr (.inr (.inr (.inr dg))))), (wk, .inr (10, [.ref wl, .int wa, .int wb, va_rf wr])), (wl, .inl (cV, 10000, .inr (.inr (.inr (.inr g)))))]) [2, 3, 0, 1] rfl
      have hD := hD.part (cx := [(q0, .inr (11, [r0, r1, r2, .ref wk, .ref ds, va_rf qo, .ref p1, .ref p2])), (ds, .inl (cV, 4, .inr (.inr (.inr (.inr dg))))), (wk, .inr (10, [.ref wl, .int wa, .int wb, va_rf wr])), (wl, .inl (cV, 10000, .inr (.inr (.inr (.inr g)))))]) [2, 3, 0, 1] (by decide) rfl
      obtain ⟨⟨dv, hdv0⟩, ⟨qu, hqu0⟩⟩ := hw
      subst hqu0
      have hdv := hdg j hj dv hdv0
      obtain ⟨hqu, hlq⟩ := hqo qu rfl
      have hP : va_P (dC, dI) classes ([(q0, .inr (11, [r0, r1, r2, .ref wk, .ref ds, .ref qu, .ref p1, .ref p2])), (ds, .inl (cV, 4, .inr (.inr (.inr (.inr dg))))), (wk, .inr (10, [.ref wl, .int wa, .int wb, va_rf wr])), (wl, .inl (cV, 10000, .inr (.inr (.inr (.inr g)))))] ++ va_pl L (pf f ν)) H := hP
      have hD : va_D A ([(q0, .inr (11, [r0, r1, r2, .ref wk, .ref ds, .ref qu, .ref p1, .ref p2])), (ds, .inl (cV, 4, .inr (.inr (.inr (.inr dg))))), (wk, .inr (10, [.ref wl, .int wa, .int wb, va_rf wr])), (wl, .inl (cV, 10000, .inr (.inr (.inr (.inr g)))))] ++ va_pl L (pf f ν)) := hD
      refine lv_aload_n hx hb d_QB_work_9 rfl (lv_at hl 0 rfl) ?_
      refine va_get (D := (dC, dI)) (ci := 11) (v := .ref wk) (C := R_QB) (T := F_QB) (N := 8) hx hb hts in_QB hown hK hP 0 rfl rfl 3 (by decide) (hts _ w_154) (fun _ h9 => h9) rfl d_QB_work_10 ?_
      refine lv_aload_n hx hb d_QB_work_13 rfl (lv_at hl 0 rfl) ?_
      refine va_get (D := (dC, dI)) (ci := 11) (v := .ref qu) (C := R_QB) (T := F_QB) (N := 8) hx hb hts in_QB hown hK hP 0 rfl rfl 5 (by decide) (hts _ z_156) (fun _ h9 => h9) rfl d_QB_work_14 ?_
      refine lv_aload_n hx hb d_QB_work_17 rfl (lv_at hl 0 rfl) ?_
      refine va_get (D := (dC, dI)) (ci := 11) (v := .ref ds) (C := R_QB) (T := F_QB) (N := 8) hx hb hts in_QB hown hK hP 0 rfl rfl 4 (by decide) (hts _ w_155) (fun _ h9 => h9) rfl d_QB_work_18 ?_
      refine lv_iload_n hx hb d_QB_work_21 rfl (lv_at hl 1 rfl) ?_
      refine vq_ald0 hx hb hK hP 1 1 rfl rfl hj (by decide) hdv0 d_QB_work_22 ?_
      have hPc := hP.part (cx := [(wk, .inr (10, [.ref wl, .int wa, .int wb, va_rf wr])), (wl, .inl (cV, 10000, .inr (.inr (.inr (.inr g)))))]) [2, 3] rfl
      have hDc := hD.part (cx := [(wk, .inr (10, [.ref wl, .int wa, .int wb, va_rf wr])), (wl, .inl (cV, 10000, .inr (.inr (.inr (.inr g)))))]) [2, 3] (by decide) rfl
      have hFc := va_freeP (cx := [(wk, .inr (10, [.ref wl, .int wa, .int wb, va_rf wr])), (wl, .inl (cV, 10000, .inr (.inr (.inr (.inr g)))))]) hD hS hA [2, 3] rfl
      have hKc := hK.sub (tys' := [(cI, .int), (cV, .object "QueryBench$Value")]) [0, 1] rfl
      refine w_same (fun hq0 => ?_)
      refine vx_calli (vx_runV (As := [.ref qu, .ref dv]) (rest := []) ⟨hx, hb, hml, hown, hts⟩ (c_Walk_begin l hl9 K dC dI H cI cV E lv L f hO hN1 wk wl wa wb wr g ν n qu dv hqu hlq hdv) (cwV 2 hts (gt_V (own := R_QB) (C := R_Walk) (i := 99) (y := y_Walk_begin) i_Walk_begin z_831 z_832 z_833 w_5) rfl rfl rfl (by decide +kernel) ⟨by show 61 + 5 * n + 1 ≤ 90 + 5 * n; omega, by show 8 + (3 + 11) + (2540 + 200 * n) ≤ 2700 + 200 * n; omega⟩) ⟨ml_blind, va_recv hK hP (ci := 10) (q0 := 2) rfl rfl, fun U hU hW => ⟨rfl, ⟨hU, by rw [hU]; exact hPc, va_K.moved hW.alike hKc, hDc.weaken (fun _ _ _ _ => trivial)⟩, hN.warm hW, by rw [hU]; exact ZX.moved' hW.alike (ZX.narrow' (ZX.kept' hZ hS.2.1) hFc), by rw [hU]; exact CE.call hC hS.2.1 hFc hW, va_AO.moved hW.alike hV⟩⟩ rfl rfl hl.1 rfl (lv_room (Nat.le_of_ble_eq_true rfl)) d_QB_work_23 ⟨Nat.le_of_ble_eq_true rfl, Nat.le_of_ble_eq_true rfl⟩) hS (fun q _ h => hFc q h) hFc (fun q _ h => hFc q h) (fun En ce q9 ⟨tx, sx, gx, rx, nx⟩ t9 H1 locs ht hvm hw hB hz1 hk1 hS hce hcv hcl => ?_) (fun r21 ⟨t21, s21, g21, n21⟩ t9 H1 locs ht hvm hw hB hz1 hk1 hS => ?_)
      · obtain ⟨hEn, hP1, hK1, hD1⟩ := hB
        rw [ht] at hP1
        obtain ⟨hP, hD⟩ := va_joinP (wr := [(q0, .inr (11, [r0, r1, r2, .ref wk, .ref ds, .ref qu, .ref p1, .ref p2])), (ds, .inl (cV, 4, .inr (.inr (.inr (.inr dg)))))]) (rx := [(wk, .inr (10, [.ref wl, .int tx, .int sx, va_rf rx])), (wl, .inl (cV, 10000, .inr (.inr (.inr (.inr gx)))))]) (pl1 := va_pl L (pf f nx)) hP hD [2, 3] [0, 1] rfl rfl (by decide) (by decide) hk1 hFc hP1 hD1
        generalize H1 = H at hP hS hce ⊢
        have hP : va_P (dC, dI) classes ([(q0, .inr (11, [r0, r1, r2, .ref wk, .ref ds, .ref qu, .ref p1, .ref p2])), (ds, .inl (cV, 4, .inr (.inr (.inr (.inr dg))))), (wk, .inr (10, [.ref wl, .int tx, .int sx, va_rf rx])), (wl, .inl (cV, 10000, .inr (.inr (.inr (.inr gx)))))] ++ va_pl L (pf f nx)) H := hP
        have hD : va_D A ([(q0, .inr (11, [r0, r1, r2, .ref wk, .ref ds, .ref qu, .ref p1, .ref p2])), (ds, .inl (cV, 4, .inr (.inr (.inr (.inr dg))))), (wk, .inr (10, [.ref wl, .int tx, .int sx, va_rf rx])), (wl, .inl (cV, 10000, .inr (.inr (.inr (.inr gx)))))] ++ va_pl L (pf f nx)) := hD
        exact vx_out (fun x hx => (hex x hx).elim) hlocks hce hcv hcl (fun t9 ht2 ha => ⟨(tx, sx, gx, rx, nx), trivial, ⟨Or.inr (Or.inr hEn), by rw [ht2]; exact hP, va_K.moved ha hK, hD⟩, hS.F ht2⟩) hS.2.2 (Nat.le_of_ble_eq_true rfl) (Nat.le_of_ble_eq_true rfl)
      · obtain ⟨⟨hP1, hK1, hD1⟩, hz9⟩ := hB
        rw [ht] at hP1
        rw [ht] at hz9
        refine w_tight (hq0.trans hz9) ?_
        have hq0 := hq0.trans hz9
        obtain ⟨hP, hD⟩ := va_joinP (wr := [(q0, .inr (11, [r0, r1, r2, .ref wk, .ref ds, .ref qu, .ref p1, .ref p2])), (ds, .inl (cV, 4, .inr (.inr (.inr (.inr dg)))))]) (rx := [(wk, .inr (10, [.ref wl, .int (nI t21), .int (nI s21), .ref dv])), (wl, .inl (cV, 10000, .inr (.inr (.inr (.inr g21)))))]) (pl1 := va_pl L (pf f n21)) hP hD [2, 3] [0, 1] rfl rfl (by decide) (by decide) hk1 hFc hP1 hD1
        generalize H1 = H at hP hS hq0 ⊢
        have hP : va_P (dC, dI) classes ([(q0, .inr (11, [r0, r1, r2, .ref wk, .ref ds, .ref qu, .ref p1, .ref p2])), (ds, .inl (cV, 4, .inr (.inr (.inr (.inr dg))))), (wk, .inr (10, [.ref wl, .int (nI t21), .int (nI s21), .ref dv])), (wl, .inl (cV, 10000, .inr (.inr (.inr (.inr g21)))))] ++ va_pl L (pf f n21)) H := hP
        have hD : va_D A ([(q0, .inr (11, [r0, r1, r2, .ref wk, .ref ds, .ref qu, .ref p1, .ref p2])), (ds, .inl (cV, 4, .inr (.inr (.inr (.inr dg))))), (wk, .inr (10, [.ref wl, .int (nI t21), .int (nI s21), .ref dv])), (wl, .inl (cV, 10000, .inr (.inr (.inr (.inr g21)))))] ++ va_pl L (pf f n21)) := hD
        obtain ⟨⟨fr, hfr1, hfr2⟩, hWn⟩ := hw
        have hfr2 : fr ≤ t21 := hfr2
        subst hfr1
        have hWn : WI E t21 s21 g21 := hWn
        have hWn1 := hWn.1
        have hWn2 := hWn.2.1
        refine lv_pop hx hb d_QB_work_26 rfl ?_
        refine lv_aload_n hx hb d_QB_work_27 rfl (lv_at hl 0 rfl) ?_
        refine va_get (D := (dC, dI)) (ci := 11) (v := .ref wk) (C := R_QB) (T := F_QB) (N := 8) hx hb hts in_QB hown hK hP 0 rfl rfl 3 (by decide) (hts _ w_154) (fun _ h9 => h9) rfl d_QB_work_28 ?_
        refine va_get (D := (dC, dI)) (ci := 10) (v := .int (nI s21)) (C := R_Walk) (T := F_Walk) (N := 4) hx hb hts in_Walk hown hK hP 2 rfl rfl 2 (by decide) (hts _ z_120) (fun _ h9 => h9) rfl d_QB_work_31 ?_
        refine w_same (fun hq => ?_)
        refine W.widen (k := 1) (n := 6) (Nat.le_of_ble_eq_true rfl) (Nat.le_of_ble_eq_true rfl) ?_
        refine vx_ret ?_
        exact W.iret (v := (nI s21)) hx hb hr (fun t9 ht hW => ⟨⟨(nI s21), (nI t21, nI s21, g21, some dv, n21), rfl, trivial, ⟨by rw [ht]; exact hP, va_K.moved hW.alike hK, hD⟩, by rw [ht]; exact hq⟩, hS.F ht⟩) hS.2.2 d_QB_work_34
abbrev b_QB_run : ByteArray := prog_1_method_6_code
def y_QB_run : MethodName := ⟨"QueryBench", "run", "(I)I"⟩
abbrev k_QB_run : Cond := .code y_QB_run b_QB_run 4 (some .int)
theorem i_QB_run : k_QB_run ∈ gtbl := gt_in 811 (by decide +kernel) (by decide +kernel)
theorem d_QB_run_0 : decode b_QB_run 0 = .ok (.iload_n 1, 1) := by decide +kernel
theorem d_QB_run_1 : decode b_QB_run 1 = .ok (.invokestatic 69, 3) := by decide +kernel
theorem d_QB_run_4 : decode b_QB_run 4 = .ok (.aload_n 0, 1) := by decide +kernel
theorem d_QB_run_5 : decode b_QB_run 5 = .ok (.iload_n 1, 1) := by decide +kernel
theorem d_QB_run_6 : decode b_QB_run 6 = .ok (.invokevirtual 96, 3) := by decide +kernel
theorem d_QB_run_9 : decode b_QB_run 9 = .ok (.aload_n 0, 1) := by decide +kernel
theorem d_QB_run_10 : decode b_QB_run 10 = .ok (.getfield 35, 3) := by decide +kernel
theorem d_QB_run_13 : decode b_QB_run 13 = .ok (.aload_n 0, 1) := by decide +kernel
theorem d_QB_run_14 : decode b_QB_run 14 = .ok (.getfield 86, 3) := by decide +kernel
theorem d_QB_run_17 : decode b_QB_run 17 = .ok (.aload_n 0, 1) := by decide +kernel
theorem d_QB_run_18 : decode b_QB_run 18 = .ok (.getfield 41, 3) := by decide +kernel
theorem d_QB_run_21 : decode b_QB_run 21 = .ok (.iload_n 1, 1) := by decide +kernel
theorem d_QB_run_22 : decode b_QB_run 22 = .ok (.aaload, 1) := by decide +kernel
theorem d_QB_run_23 : decode b_QB_run 23 = .ok (.invokevirtual 99, 3) := by decide +kernel
theorem d_QB_run_26 : decode b_QB_run 26 = .ok (.istore_n 2, 1) := by decide +kernel
theorem d_QB_run_27 : decode b_QB_run 27 = .ok (.aload_n 0, 1) := by decide +kernel
theorem d_QB_run_28 : decode b_QB_run 28 = .ok (.getfield 52, 3) := by decide +kernel
theorem d_QB_run_31 : decode b_QB_run 31 = .ok (.iconst 0, 1) := by decide +kernel
theorem d_QB_run_32 : decode b_QB_run 32 = .ok (.putfield 103, 3) := by decide +kernel
theorem d_QB_run_35 : decode b_QB_run 35 = .ok (.iload_n 2, 1) := by decide +kernel
theorem d_QB_run_36 : decode b_QB_run 36 = .ok (.istore_n 3, 1) := by decide +kernel
theorem d_QB_run_37 : decode b_QB_run 37 = .ok (.iload_n 3, 1) := by decide +kernel
theorem d_QB_run_38 : decode b_QB_run 38 = .ok (.aload_n 0, 1) := by decide +kernel
theorem d_QB_run_39 : decode b_QB_run 39 = .ok (.getfield 35, 3) := by decide +kernel
theorem d_QB_run_42 : decode b_QB_run 42 = .ok (.getfield 104, 3) := by decide +kernel
theorem d_QB_run_45 : decode b_QB_run 45 = .ok (.if_icmp .ge 25, 3) := by decide +kernel
theorem d_QB_run_48 : decode b_QB_run 48 = .ok (.aload_n 0, 1) := by decide +kernel
theorem d_QB_run_49 : decode b_QB_run 49 = .ok (.getfield 52, 3) := by decide +kernel
theorem d_QB_run_52 : decode b_QB_run 52 = .ok (.aload_n 0, 1) := by decide +kernel
theorem d_QB_run_53 : decode b_QB_run 53 = .ok (.getfield 35, 3) := by decide +kernel
theorem d_QB_run_56 : decode b_QB_run 56 = .ok (.getfield 107, 3) := by decide +kernel
theorem d_QB_run_59 : decode b_QB_run 59 = .ok (.iload_n 3, 1) := by decide +kernel
theorem d_QB_run_60 : decode b_QB_run 60 = .ok (.aaload, 1) := by decide +kernel
theorem d_QB_run_61 : decode b_QB_run 61 = .ok (.invokevirtual 110, 3) := by decide +kernel
theorem d_QB_run_64 : decode b_QB_run 64 = .ok (.iinc 3 1, 3) := by decide +kernel
theorem d_QB_run_67 : decode b_QB_run 67 = .ok (.goto (-30), 3) := by decide +kernel
theorem d_QB_run_70 : decode b_QB_run 70 = .ok (.aload_n 0, 1) := by decide +kernel
theorem d_QB_run_71 : decode b_QB_run 71 = .ok (.getfield 48, 3) := by decide +kernel
theorem d_QB_run_74 : decode b_QB_run 74 = .ok (.astore_n 3, 1) := by decide +kernel
theorem d_QB_run_75 : decode b_QB_run 75 = .ok (.aload_n 0, 1) := by decide +kernel
theorem d_QB_run_76 : decode b_QB_run 76 = .ok (.aload_n 0, 1) := by decide +kernel
theorem d_QB_run_77 : decode b_QB_run 77 = .ok (.getfield 52, 3) := by decide +kernel
theorem d_QB_run_80 : decode b_QB_run 80 = .ok (.putfield 48, 3) := by decide +kernel
theorem d_QB_run_83 : decode b_QB_run 83 = .ok (.aload_n 0, 1) := by decide +kernel
theorem d_QB_run_84 : decode b_QB_run 84 = .ok (.aload_n 3, 1) := by decide +kernel
theorem d_QB_run_85 : decode b_QB_run 85 = .ok (.putfield 52, 3) := by decide +kernel
theorem d_QB_run_88 : decode b_QB_run 88 = .ok (.aload_n 0, 1) := by decide +kernel
theorem d_QB_run_89 : decode b_QB_run 89 = .ok (.getfield 35, 3) := by decide +kernel
theorem d_QB_run_92 : decode b_QB_run 92 = .ok (.getfield 104, 3) := by decide +kernel
theorem d_QB_run_95 : decode b_QB_run 95 = .ok (.iload_n 2, 1) := by decide +kernel
theorem d_QB_run_96 : decode b_QB_run 96 = .ok (.isub, 1) := by decide +kernel
theorem d_QB_run_97 : decode b_QB_run 97 = .ok (.ireturn, 1) := by decide +kernel
set_option maxHeartbeats 4000000 in
set_option maxRecDepth 100000 in
/-- QueryBench.run -/
theorem c_QB_run (l : Launch) (hl9 : l.stackTraces = false) (K : Nat → Nat × Nat) (dC : Nat → ClassId) (dI : Nat → Nat → Nat) (sz : Heap) (cI cV : ClassId) (E lv : Nat → Nat) (L : List Nat) (f : Nat → va_E) (hO : PO cI cV E lv L f) (hN1 : ∀ a, E a ≠ 1) (cB : ClassId) (q0 ds wk wl : Nat) (r0 r1 r2 : Value) (p1 p2 b2 s2 : Nat) (wa wb : Int32) (wr : Option Nat) (g : Nat → Option Nat) (ν : Nat → Int64) (n : Nat) (qo : Option Nat) (hqo : oR (fun q => E q = 7 ∧ lv q ≤ n) qo) (dg : Nat → Option Nat) (hdg : ∀ j, j < 4 → oR (isF E) (dg j)) (d : Int32) (dk : Int32) (dgp : Nat → Int32) (dh : Nat → Option Nat) : vx_Met l y_QB_run (k_QB_run :: gtbl) ({ frames := 90 + 5 * n, cells := 1, slots := 6, locals := 2700 + 200 * n }) (va_Pc [.ref q0, .int d] (ml K dC dI ([(q0, .inr (11, [r0, r1, r2, .ref wk, .ref ds, va_rf qo, .ref p1, .ref p2])), (ds, .inl (cV, 4, .inr (.inr (.inr (.inr dg))))), (wk, .inr (10, [.ref wl, .int wa, .int wb, va_rf wr])), (wl, .inl (cV, 10000, .inr (.inr (.inr (.inr g))))), (p2, .inr (3, [.ref b2, .int dk, .ref s2])), (b2, .inl (cB, 16384, .inl dgp)), (s2, .inl (cV, 32, .inr (.inr (.inr (.inr dh)))))] ++ va_pl L (pf f ν)) [(cI, .int), (cV, .object "QueryBench$Value"), (cB, .byte)] sz)) (va_Qi (fun (r : Int32) (u : Int32 × Int32 × (Nat → Option Nat) × Option Nat × (Nat → Int64) × Nat × (Nat → Int32) × (Nat → Option Nat)) => u.2.2.2.2.2.1 ≤ 16384) (fun u t9 => mz dC dI ([(q0, .inr (11, [r0, r1, r2, .ref wk, .ref ds, va_rf qo, .ref p2, .ref p1])), (ds, .inl (cV, 4, .inr (.inr (.inr (.inr dg))))), (wk, .inr (10, [.ref wl, .int u.1, .int u.2.1, va_rf u.2.2.2.1])), (wl, .inl (cV, 10000, .inr (.inr (.inr (.inr u.2.2.1))))), (p2, .inr (3, [.ref b2, .int (nI u.2.2.2.2.2.1), .ref s2])), (b2, .inl (cB, 16384, .inl u.2.2.2.2.2.2.1)), (s2, .inl (cV, 32, .inr (.inr (.inr (.inr u.2.2.2.2.2.2.2)))))] ++ va_pl L (pf f u.2.2.2.2.1)) [(cI, .int), (cV, .object "QueryBench$Value"), (cB, .byte)] (va_A ([(q0, .inr (11, [r0, r1, r2, .ref wk, .ref ds, va_rf qo, .ref p1, .ref p2])), (ds, .inl (cV, 4, .inr (.inr (.inr (.inr dg))))), (wk, .inr (10, [.ref wl, .int wa, .int wb, va_rf wr])), (wl, .inl (cV, 10000, .inr (.inr (.inr (.inr g))))), (p2, .inr (3, [.ref b2, .int dk, .ref s2])), (b2, .inl (cB, 16384, .inl dgp)), (s2, .inl (cV, 32, .inr (.inr (.inr (.inr dh)))))] ++ va_pl L (pf f ν)) sz.size) t9 ∧ szk sz t9.heap (0) (0)) (va_A ([(q0, .inr (11, [r0, r1, r2, .ref wk, .ref ds, va_rf qo, .ref p1, .ref p2])), (ds, .inl (cV, 4, .inr (.inr (.inr (.inr dg))))), (wk, .inr (10, [.ref wl, .int wa, .int wb, va_rf wr])), (wl, .inl (cV, 10000, .inr (.inr (.inr (.inr g))))), (p2, .inr (3, [.ref b2, .int dk, .ref s2])), (b2, .inl (cB, 16384, .inl dgp)), (s2, .inl (cV, 32, .inr (.inr (.inr (.inr dh)))))] ++ va_pl L (pf f ν)) sz.size)) (vx_X (fun (u : Int32 × Int32 × (Nat → Option Nat) × Option Nat × (Nat → Int64) × Int32 × (Nat → Int32) × (Nat → Option Nat)) => True) (fun En u t9 => (En = IAX ∨ En = ISX ∨ En = IOB) ∧ mz dC dI ([(q0, .inr (11, [r0, r1, r2, .ref wk, .ref ds, va_rf qo, .ref p1, .ref p2])), (ds, .inl (cV, 4, .inr (.inr (.inr (.inr dg))))), (wk, .inr (10, [.ref wl, .int u.1, .int u.2.1, va_rf u.2.2.2.1])), (wl, .inl (cV, 10000, .inr (.inr (.inr (.inr u.2.2.1))))), (p2, .inr (3, [.ref b2, .int u.2.2.2.2.2.1, .ref s2])), (b2, .inl (cB, 16384, .inl u.2.2.2.2.2.2.1)), (s2, .inl (cV, 32, .inr (.inr (.inr (.inr u.2.2.2.2.2.2.2)))))] ++ va_pl L (pf f u.2.2.2.2.1)) [(cI, .int), (cV, .object "QueryBench$Value"), (cB, .byte)] (va_A ([(q0, .inr (11, [r0, r1, r2, .ref wk, .ref ds, va_rf qo, .ref p1, .ref p2])), (ds, .inl (cV, 4, .inr (.inr (.inr (.inr dg))))), (wk, .inr (10, [.ref wl, .int wa, .int wb, va_rf wr])), (wl, .inl (cV, 10000, .inr (.inr (.inr (.inr g))))), (p2, .inr (3, [.ref b2, .int dk, .ref s2])), (b2, .inl (cB, 16384, .inl dgp)), (s2, .inl (cV, 32, .inr (.inr (.inr (.inr dh)))))] ++ va_pl L (pf f ν)) sz.size) t9) (va_A ([(q0, .inr (11, [r0, r1, r2, .ref wk, .ref ds, va_rf qo, .ref p1, .ref p2])), (ds, .inl (cV, 4, .inr (.inr (.inr (.inr dg))))), (wk, .inr (10, [.ref wl, .int wa, .int wb, va_rf wr])), (wl, .inl (cV, 10000, .inr (.inr (.inr (.inr g))))), (p2, .inr (3, [.ref b2, .int dk, .ref s2])), (b2, .inl (cB, 16384, .inl dgp)), (s2, .inl (cV, 32, .inr (.inr (.inr (.inr dh)))))] ++ va_pl L (pf f ν)) sz.size)) (1) (6) (va_A ([(q0, .inr (11, [r0, r1, r2, .ref wk, .ref ds, va_rf qo, .ref p1, .ref p2])), (ds, .inl (cV, 4, .inr (.inr (.inr (.inr dg))))), (wk, .inr (10, [.ref wl, .int wa, .int wb, va_rf wr])), (wl, .inl (cV, 10000, .inr (.inr (.inr (.inr g))))), (p2, .inr (3, [.ref b2, .int dk, .ref s2])), (b2, .inl (cB, 16384, .inl dgp)), (s2, .inl (cV, 32, .inr (.inr (.inr (.inr dh)))))] ++ va_pl L (pf f ν)) sz.size) := by
  refine vx_ofW (cc := b_QB_run) (maxL := 4) (ret := (some .int)) (by decide) rfl ?_
  intro p e s m args below meth c s₁ B hml hex hv
  obtain ⟨rfl, ⟨hsz, hP, hK, hD0⟩, hN, hZ, hC, hV⟩ := hv
  have hx := B.exec
  have hb := B.bytes
  have hr := B.returns
  have hts0 := atoms_spec (ws := k_QB_run :: gtbl) B.pre
  have hts := fun w h => hts0 w (List.mem_cons_of_mem _ h)
  have hown : s.vm.findClass R_QB = some m.cls := findClass_of_methodNamed B.named
  have hlocks := B.notSynchronized
  subst hsz
  have hD := hD0.self (sz := s.heap.size)
  generalize hAe : va_A ([(q0, .inr (11, [r0, r1, r2, .ref wk, .ref ds, va_rf qo, .ref p1, .ref p2])), (ds, .inl (cV, 4, .inr (.inr (.inr (.inr dg))))), (wk, .inr (10, [.ref wl, .int wa, .int wb, va_rf wr])), (wl, .inl (cV, 10000, .inr (.inr (.inr (.inr g))))), (p2, .inr (3, [.ref b2, .int dk, .ref s2])), (b2, .inl (cB, 16384, .inl dgp)), (s2, .inl (cV, 32, .inr (.inr (.inr (.inr dh)))))] ++ va_pl L (pf f ν)) s.heap.size = A at hD hZ hC ⊢
  have hA : ∀ q : Nat, s.heap.size ≤ q → A q := fun q h => by rw [← hAe]; exact Or.inr h
  have hS : va_S A s.heap s.heap [] := va_S.rf
  have hP : va_P (dC, dI) classes ([(q0, .inr (11, [r0, r1, r2, .ref wk, .ref ds, va_rf qo, .ref p1, .ref p2])), (ds, .inl (cV, 4, .inr (.inr (.inr (.inr dg))))), (wk, .inr (10, [.ref wl, .int wa, .int wb, va_rf wr])), (wl, .inl (cV, 10000, .inr (.inr (.inr (.inr g))))), (p2, .inr (3, [.ref b2, .int dk, .ref s2])), (b2, .inl (cB, 16384, .inl dgp)), (s2, .inl (cV, 32, .inr (.inr (.inr (.inr dh)))))] ++ va_pl L (pf f ν)) s.heap := hP
  have hl := lv_entry ([.ref q0, .int d]) (n := 4) (Nat.le_of_ble_eq_true rfl)
  rw [lg_entry_eq]
  generalize (lg_sl ([.ref q0, .int d]) ++ List.replicate (4 - (lg_sl ([.ref q0, .int d])).length) Slot.unset).toArray = ls at hl ⊢
  have hl : lv_has ls 4 [(0, .ref q0), (1, .int d)] := hl
  refine lv_iload_n hx hb d_QB_run_0 rfl (lv_at hl 1 rfl) ?_
  have hPc := hP.sub (ws' := []) [] rfl
  have hDc := hD.sub (ws' := []) [] (by decide) rfl
  have hFc := va_free (wc := []) hD hS hA [] rfl
  have hKc := hK.sub (tys' := []) [] rfl
  refine w_same (fun hq0 => ?_)
  refine vx_callv (vx_runS (As := [.int d]) (rest := []) ⟨hx, hb, hml, hown, hts⟩ (c_QB_checkNumber l hl9 dC dI s.heap d) (va_cwS 1 hts (gt_S (own := R_QB) (i := 69) (y := y_QB_checkNumber) i_QB_checkNumber z_283 z_284 w_1) rfl rfl rfl (by decide +kernel) ⟨by show 8 + 1 ≤ 90 + 5 * n; omega, by show 8 + (1 + 11) + (110) ≤ 2700 + 200 * n; omega⟩) ⟨mx_blind, fun U hU hW => ⟨rfl, ⟨hU, by rw [hU]; exact hPc, va_K.moved hW.alike hKc, hDc.weaken (fun _ _ _ _ => trivial)⟩, hN.warm hW, by rw [hU]; exact ZX.moved' hW.alike (ZX.narrow' (ZX.kept' hZ hS.2.1) hFc)⟩⟩ rfl rfl hl.1 rfl (lv_room (Nat.le_of_ble_eq_true rfl)) d_QB_run_1 ⟨Nat.le_of_ble_eq_true rfl, Nat.le_of_ble_eq_true rfl⟩) hS (fun q _ h => hFc q h) hFc (fun q _ h => hFc q h) (fun En ce q9 _u t9 H1 locs ht hvm hw hB hz1 hk1 hS hce hcv hcl => ?_) (fun _u t9 H1 locs ht hvm hw hB hz1 hk1 hS => ?_)
  · obtain ⟨hEn, hP1, hK1, hD1⟩ := hB
    rw [ht] at hP1
    obtain ⟨hP, hD⟩ := va_joinQ (wr := [(q0, .inr (11, [r0, r1, r2, .ref wk, .ref ds, va_rf qo, .ref p1, .ref p2])), (ds, .inl (cV, 4, .inr (.inr (.inr (.inr dg))))), (wk, .inr (10, [.ref wl, .int wa, .int wb, va_rf wr])), (wl, .inl (cV, 10000, .inr (.inr (.inr (.inr g))))), (p2, .inr (3, [.ref b2, .int dk, .ref s2])), (b2, .inl (cB, 16384, .inl dgp)), (s2, .inl (cV, 32, .inr (.inr (.inr (.inr dh)))))]) (w1 := []) hP hD [] [0, 1, 2, 3, 4, 5, 6] rfl rfl (by decide) (by decide) hk1 hFc hP1 hD1
    generalize H1 = H at hP hS hce ⊢
    have hP : va_P (dC, dI) classes ([(q0, .inr (11, [r0, r1, r2, .ref wk, .ref ds, va_rf qo, .ref p1, .ref p2])), (ds, .inl (cV, 4, .inr (.inr (.inr (.inr dg))))), (wk, .inr (10, [.ref wl, .int wa, .int wb, va_rf wr])), (wl, .inl (cV, 10000, .inr (.inr (.inr (.inr g))))), (p2, .inr (3, [.ref b2, .int dk, .ref s2])), (b2, .inl (cB, 16384, .inl dgp)), (s2, .inl (cV, 32, .inr (.inr (.inr (.inr dh)))))] ++ va_pl L (pf f ν)) H := hP
    have hD : va_D A ([(q0, .inr (11, [r0, r1, r2, .ref wk, .ref ds, va_rf qo, .ref p1, .ref p2])), (ds, .inl (cV, 4, .inr (.inr (.inr (.inr dg))))), (wk, .inr (10, [.ref wl, .int wa, .int wb, va_rf wr])), (wl, .inl (cV, 10000, .inr (.inr (.inr (.inr g))))), (p2, .inr (3, [.ref b2, .int dk, .ref s2])), (b2, .inl (cB, 16384, .inl dgp)), (s2, .inl (cV, 32, .inr (.inr (.inr (.inr dh)))))] ++ va_pl L (pf f ν)) := hD
    exact vx_out (fun x hx => (hex x hx).elim) hlocks hce hcv hcl (fun t9 ht2 ha => ⟨(wa, wb, g, wr, ν, dk, dgp, dh), trivial, ⟨Or.inl hEn, by rw [ht2]; exact hP, va_K.moved ha hK, hD⟩, hS.F ht2⟩) hS.2.2 (Nat.le_of_ble_eq_true rfl) (Nat.le_of_ble_eq_true rfl)
  · obtain ⟨⟨hP1, hK1, hD1⟩, hz9⟩ := hB
    rw [ht] at hP1
    rw [ht] at hz9
    refine w_tight (hq0.trans hz9) ?_
    have hq0 := hq0.trans hz9
    obtain ⟨hP, hD⟩ := va_joinQ (wr := [(q0, .inr (11, [r0, r1, r2, .ref wk, .ref ds, va_rf qo, .ref p1, .ref p2])), (ds, .inl (cV, 4, .inr (.inr (.inr (.inr dg))))), (wk, .inr (10, [.ref wl, .int wa, .int wb, va_rf wr])), (wl, .inl (cV, 10000, .inr (.inr (.inr (.inr g))))), (p2, .inr (3, [.ref b2, .int dk, .ref s2])), (b2, .inl (cB, 16384, .inl dgp)), (s2, .inl (cV, 32, .inr (.inr (.inr (.inr dh)))))]) (w1 := []) hP hD [] [0, 1, 2, 3, 4, 5, 6] rfl rfl (by decide) (by decide) hk1 hFc hP1 hD1
    generalize H1 = H at hP hS hq0 ⊢
    have hP : va_P (dC, dI) classes ([(q0, .inr (11, [r0, r1, r2, .ref wk, .ref ds, va_rf qo, .ref p1, .ref p2])), (ds, .inl (cV, 4, .inr (.inr (.inr (.inr dg))))), (wk, .inr (10, [.ref wl, .int wa, .int wb, va_rf wr])), (wl, .inl (cV, 10000, .inr (.inr (.inr (.inr g))))), (p2, .inr (3, [.ref b2, .int dk, .ref s2])), (b2, .inl (cB, 16384, .inl dgp)), (s2, .inl (cV, 32, .inr (.inr (.inr (.inr dh)))))] ++ va_pl L (pf f ν)) H := hP
    have hD : va_D A ([(q0, .inr (11, [r0, r1, r2, .ref wk, .ref ds, va_rf qo, .ref p1, .ref p2])), (ds, .inl (cV, 4, .inr (.inr (.inr (.inr dg))))), (wk, .inr (10, [.ref wl, .int wa, .int wb, va_rf wr])), (wl, .inl (cV, 10000, .inr (.inr (.inr (.inr g))))), (p2, .inr (3, [.ref b2, .int dk, .ref s2])), (b2, .inl (cB, 16384, .inl dgp)), (s2, .inl (cV, 32, .inr (.inr (.inr (.inr dh)))))] ++ va_pl L (pf f ν)) := hD
    have hw : ¬ d < 0 ∧ d < 4 := hw
    obtain ⟨j, hj, ej⟩ : ∃ j, j < 4 ∧ d = nI j := by
      rcases pk_ix d (n := 4) (by decide) with h9 | h9 | h9
      · exact absurd h9 hw.1
      · exact absurd hw.2 (Int32.not_lt.mpr h9)
      · exact h9
    subst ej
    have hl : lv_has ls 4 [(0, .ref q0), (1, .int (nI j))] := hl
    refine lv_aload_n hx hb d_QB_run_4 rfl (lv_at hl 0 rfl) ?_
    refine lv_iload_n hx hb d_QB_run_5 rfl (lv_at hl 1 rfl) ?_
    have hPc := hP.sub (ws' := [(q0, .inr (11, [r0, r1, r2, .ref wk, .ref ds, va_rf qo, .ref p1, .ref p2])), (ds, .inl (cV, 4, .inr (.inr (.inr (.inr dg)))))]) [0, 1] rfl
    have hDc := hD.sub (ws' := [(q0, .inr (11, [r0, r1, r2, .ref wk, .ref ds, va_rf qo, .ref p1, .ref p2])), (ds, .inl (cV, 4, .inr (.inr (.inr (.inr dg)))))]) [0, 1] (by decide) rfl
    have hFc := va_free (wc := [(q0, .inr (11, [r0, r1, r2, .ref wk, .ref ds, va_rf qo, .ref p1, .ref p2])), (ds, .inl (cV, 4, .inr (.inr (.inr (.inr dg)))))]) hD hS hA [0, 1] rfl
    have hKc := hK.sub (tys' := [(cV, .object "QueryBench$Value")]) [1] rfl
    refine w_same (fun hq0 => ?_)
    refine vx_callv (vx_runV (As := [.int (nI j)]) (rest := []) ⟨hx, hb, hml, hown, hts⟩ (c_QB_checkReady l hl9 dC dI H cV q0 ds r0 r1 r2 (.ref wk) p1 p2 qo dg j hj) (cwV 1 hts (gt_V (own := R_QB) (C := R_QB) (i := 96) (y := y_QB_checkReady) i_QB_checkReady z_812 z_814 (gt_sel (y := y_QB_checkReady) (n := 8) (by decide +kernel)) w_1) rfl rfl rfl (by decide +kernel) ⟨by show 8 + 1 ≤ 90 + 5 * n; omega, by show 8 + (2 + 11) + (110) ≤ 2700 + 200 * n; omega⟩) ⟨mx_blind, va_recv hK hP (ci := 11) (q0 := 0) rfl rfl, fun U hU hW => ⟨rfl, ⟨hU, by rw [hU]; exact hPc, va_K.moved hW.alike hKc, hDc.weaken (fun _ _ _ _ => trivial)⟩, hN.warm hW, by rw [hU]; exact ZX.moved' hW.alike (ZX.narrow' (ZX.kept' hZ hS.2.1) hFc)⟩⟩ rfl rfl hl.1 rfl (lv_room (Nat.le_of_ble_eq_true rfl)) d_QB_run_6 ⟨Nat.le_of_ble_eq_true rfl, Nat.le_of_ble_eq_true rfl⟩) hS (fun q _ h => hFc q h) hFc (fun q _ h => hFc q h) (fun En ce q9 _u t9 H1 locs ht hvm hw hB hz1 hk1 hS hce hcv hcl => ?_) (fun _u t9 H1 locs ht hvm hw hB hz1 hk1 hS => ?_)
    · obtain ⟨hEn, hP1, hK1, hD1⟩ := hB
      rw [ht] at hP1
      obtain ⟨hP, hD⟩ := va_joinQ (wr := [(wk, .inr (10, [.ref wl, .int wa, .int wb, va_rf wr])), (wl, .inl (cV, 10000, .inr (.inr (.inr (.inr g))))), (p2, .inr (3, [.ref b2, .int dk, .ref s2])), (b2, .inl (cB, 16384, .inl dgp)), (s2, .inl (cV, 32, .inr (.inr (.inr (.inr dh)))))]) (w1 := [(q0, .inr (11, [r0, r1, r2, .ref wk, .ref ds, va_rf qo, .ref p1, .ref p2])), (ds, .inl (cV, 4, .inr (.inr (.inr (.inr dg)))))]) hP hD [0, 1] [2, 3, 4, 5, 6] rfl rfl (by decide) (by decide) hk1 hFc hP1 hD1
      generalize H1 = H at hP hS hce ⊢
      have hP : va_P (dC, dI) classes ([(wk, .inr (10, [.ref wl, .int wa, .int wb, va_rf wr])), (wl, .inl (cV, 10000, .inr (.inr (.inr (.inr g))))), (p2, .inr (3, [.ref b2, .int dk, .ref s2])), (b2, .inl (cB, 16384, .inl dgp)), (s2, .inl (cV, 32, .inr (.inr (.inr (.inr dh))))), (q0, .inr (11, [r0, r1, r2, .ref wk, .ref ds, va_rf qo, .ref p1, .ref p2])), (ds, .inl (cV, 4, .inr (.inr (.inr (.inr dg)))))] ++ va_pl L (pf f ν)) H := hP
      have hD : va_D A ([(wk, .inr (10, [.ref wl, .int wa, .int wb, va_rf wr])), (wl, .inl (cV, 10000, .inr (.inr (.inr (.inr g))))), (p2, .inr (3, [.ref b2, .int dk, .ref s2])), (b2, .inl (cB, 16384, .inl dgp)), (s2, .inl (cV, 32, .inr (.inr (.inr (.inr dh))))), (q0, .inr (11, [r0, r1, r2, .ref wk, .ref ds, va_rf qo, .ref p1, .ref p2])), (ds, .inl (cV, 4, .inr (.inr (.inr (.inr dg)))))] ++ va_pl L (pf f ν)) := hD
      have hP := hP.part (cx := [(q0, .inr (11, [r0, r1, r2, .ref wk, .ref ds, va_rf qo, .ref p1, .ref p2])), (ds, .inl (cV, 4, .inr (.inr (.inr (.inr dg))))), (wk, .inr (10, [.ref wl, .int wa, .int wb, va_rf wr])), (wl, .inl (cV, 10000, .inr (.inr (.inr (.inr g))))), (p2, .inr (3, [.ref b2, .int dk, .ref s2])), (b2, .inl (cB, 16384, .inl dgp)), (s2, .inl (cV, 32, .inr (.inr (.inr (.inr dh)))))]) [5, 6, 0, 1, 2, 3, 4] rfl
      have hD := hD.part (cx := [(q0, .inr (11, [r0, r1, r2, .ref wk, .ref ds, va_rf qo, .ref p1, .ref p2])), (ds, .inl (cV, 4, .inr (.inr (.inr (.inr dg))))), (wk, .inr (10, [.ref wl, .int wa, .int wb, va_rf wr])), (wl, .inl (cV, 10000, .inr (.inr (.inr (.inr g))))), (p2, .inr (3, [.ref b2, .int dk, .ref s2])), (b2, .inl (cB, 16384, .inl dgp)), (s2, .inl (cV, 32, .inr (.inr (.inr (.inr dh)))))]) [5, 6, 0, 1, 2, 3, 4] (by decide) rfl
      exact vx_out (fun x hx => (hex x hx).elim) hlocks hce hcv hcl (fun t9 ht2 ha => ⟨(wa, wb, g, wr, ν, dk, dgp, dh), trivial, ⟨Or.inr (Or.inl hEn), by rw [ht2]; exact hP, va_K.moved ha hK, hD⟩, hS.F ht2⟩) hS.2.2 (Nat.le_of_ble_eq_true rfl) (Nat.le_of_ble_eq_true rfl)
    · obtain ⟨⟨hP1, hK1, hD1⟩, hz9⟩ := hB
      rw [ht] at hP1
      rw [ht] at hz9
      refine w_tight (hq0.trans hz9) ?_
      have hq0 := hq0.trans hz9
      obtain ⟨hP, hD⟩ := va_joinQ (wr := [(wk, .inr (10, [.ref wl, .int wa, .int wb, va_rf wr])), (wl, .inl (cV, 10000, .inr (.inr (.inr (.inr g))))), (p2, .inr (3, [.ref b2, .int dk, .ref s2])), (b2, .inl (cB, 16384, .inl dgp)), (s2, .inl (cV, 32, .inr (.inr (.inr (.inr dh)))))]) (w1 := [(q0, .inr (11, [r0, r1, r2, .ref wk, .ref ds, va_rf qo, .ref p1, .ref p2])), (ds, .inl (cV, 4, .inr (.inr (.inr (.inr dg)))))]) hP hD [0, 1] [2, 3, 4, 5, 6] rfl rfl (by decide) (by decide) hk1 hFc hP1 hD1
      generalize H1 = H at hP hS hq0 ⊢
      have hP : va_P (dC, dI) classes ([(wk, .inr (10, [.ref wl, .int wa, .int wb, va_rf wr])), (wl, .inl (cV, 10000, .inr (.inr (.inr (.inr g))))), (p2, .inr (3, [.ref b2, .int dk, .ref s2])), (b2, .inl (cB, 16384, .inl dgp)), (s2, .inl (cV, 32, .inr (.inr (.inr (.inr dh))))), (q0, .inr (11, [r0, r1, r2, .ref wk, .ref ds, va_rf qo, .ref p1, .ref p2])), (ds, .inl (cV, 4, .inr (.inr (.inr (.inr dg)))))] ++ va_pl L (pf f ν)) H := hP
      have hD : va_D A ([(wk, .inr (10, [.ref wl, .int wa, .int wb, va_rf wr])), (wl, .inl (cV, 10000, .inr (.inr (.inr (.inr g))))), (p2, .inr (3, [.ref b2, .int dk, .ref s2])), (b2, .inl (cB, 16384, .inl dgp)), (s2, .inl (cV, 32, .inr (.inr (.inr (.inr dh))))), (q0, .inr (11, [r0, r1, r2, .ref wk, .ref ds, va_rf qo, .ref p1, .ref p2])), (ds, .inl (cV, 4, .inr (.inr (.inr (.inr dg)))))] ++ va_pl L (pf f ν)) := hD
      have hP := hP.part (cx := [(q0, .inr (11, [r0, r1, r2, .ref wk, .ref ds, va_rf qo, .ref p1, .ref p2])), (ds, .inl (cV, 4, .inr (.inr (.inr (.inr dg))))), (wk, .inr (10, [.ref wl, .int wa, .int wb, va_rf wr])), (wl, .inl (cV, 10000, .inr (.inr (.inr (.inr g))))), (p2, .inr (3, [.ref b2, .int dk, .ref s2])), (b2, .inl (cB, 16384, .inl dgp)), (s2, .inl (cV, 32, .inr (.inr (.inr (.inr dh)))))]) [5, 6, 0, 1, 2, 3, 4] rfl
      have hD := hD.part (cx := [(q0, .inr (11, [r0, r1, r2, .ref wk, .ref ds, va_rf qo, .ref p1, .ref p2])), (ds, .inl (cV, 4, .inr (.inr (.inr (.inr dg))))), (wk, .inr (10, [.ref wl, .int wa, .int wb, va_rf wr])), (wl, .inl (cV, 10000, .inr (.inr (.inr (.inr g))))), (p2, .inr (3, [.ref b2, .int dk, .ref s2])), (b2, .inl (cB, 16384, .inl dgp)), (s2, .inl (cV, 32, .inr (.inr (.inr (.inr dh)))))]) [5, 6, 0, 1, 2, 3, 4] (by decide) rfl
      obtain ⟨⟨dv, hdv0⟩, ⟨qu, hqu0⟩⟩ := hw
      subst hqu0
      have hdv := hdg j hj dv hdv0
      obtain ⟨hqu, hlq⟩ := hqo qu rfl
      have hP : va_P (dC, dI) classes ([(q0, .inr (11, [r0, r1, r2, .ref wk, .ref ds, .ref qu, .ref p1, .ref p2])), (ds, .inl (cV, 4, .inr (.inr (.inr (.inr dg))))), (wk, .inr (10, [.ref wl, .int wa, .int wb, va_rf wr])), (wl, .inl (cV, 10000, .inr (.inr (.inr (.inr g))))), (p2, .inr (3, [.ref b2, .int dk, .ref s2])), (b2, .inl (cB, 16384, .inl dgp)), (s2, .inl (cV, 32, .inr (.inr (.inr (.inr dh)))))] ++ va_pl L (pf f ν)) H := hP
      have hD : va_D A ([(q0, .inr (11, [r0, r1, r2, .ref wk, .ref ds, .ref qu, .ref p1, .ref p2])), (ds, .inl (cV, 4, .inr (.inr (.inr (.inr dg))))), (wk, .inr (10, [.ref wl, .int wa, .int wb, va_rf wr])), (wl, .inl (cV, 10000, .inr (.inr (.inr (.inr g))))), (p2, .inr (3, [.ref b2, .int dk, .ref s2])), (b2, .inl (cB, 16384, .inl dgp)), (s2, .inl (cV, 32, .inr (.inr (.inr (.inr dh)))))] ++ va_pl L (pf f ν)) := hD
      refine lv_aload_n hx hb d_QB_run_9 rfl (lv_at hl 0 rfl) ?_
      refine va_get (D := (dC, dI)) (ci := 11) (v := .ref wk) (C := R_QB) (T := F_QB) (N := 8) hx hb hts in_QB hown hK hP 0 rfl rfl 3 (by decide) (hts _ w_154) (fun _ h9 => h9) rfl d_QB_run_10 ?_
      refine lv_aload_n hx hb d_QB_run_13 rfl (lv_at hl 0 rfl) ?_
      refine va_get (D := (dC, dI)) (ci := 11) (v := .ref qu) (C := R_QB) (T := F_QB) (N := 8) hx hb hts in_QB hown hK hP 0 rfl rfl 5 (by decide) (hts _ z_156) (fun _ h9 => h9) rfl d_QB_run_14 ?_
      refine lv_aload_n hx hb d_QB_run_17 rfl (lv_at hl 0 rfl) ?_
      refine va_get (D := (dC, dI)) (ci := 11) (v := .ref ds) (C := R_QB) (T := F_QB) (N := 8) hx hb hts in_QB hown hK hP 0 rfl rfl 4 (by decide) (hts _ w_155) (fun _ h9 => h9) rfl d_QB_run_18 ?_
      refine lv_iload_n hx hb d_QB_run_21 rfl (lv_at hl 1 rfl) ?_
      refine vq_ald0 hx hb hK hP 1 1 rfl rfl hj (by decide) hdv0 d_QB_run_22 ?_
      have hPc := hP.part (cx := [(wk, .inr (10, [.ref wl, .int wa, .int wb, va_rf wr])), (wl, .inl (cV, 10000, .inr (.inr (.inr (.inr g)))))]) [2, 3] rfl
      have hDc := hD.part (cx := [(wk, .inr (10, [.ref wl, .int wa, .int wb, va_rf wr])), (wl, .inl (cV, 10000, .inr (.inr (.inr (.inr g)))))]) [2, 3] (by decide) rfl
      have hFc := va_freeP (cx := [(wk, .inr (10, [.ref wl, .int wa, .int wb, va_rf wr])), (wl, .inl (cV, 10000, .inr (.inr (.inr (.inr g)))))]) hD hS hA [2, 3] rfl
      have hKc := hK.sub (tys' := [(cI, .int), (cV, .object "QueryBench$Value")]) [0, 1] rfl
      refine w_same (fun hq0 => ?_)
      refine vx_calli (vx_runV (As := [.ref qu, .ref dv]) (rest := []) ⟨hx, hb, hml, hown, hts⟩ (c_Walk_begin l hl9 K dC dI H cI cV E lv L f hO hN1 wk wl wa wb wr g ν n qu dv hqu hlq hdv) (cwV 2 hts (gt_V (own := R_QB) (C := R_Walk) (i := 99) (y := y_Walk_begin) i_Walk_begin z_831 z_832 z_833 w_5) rfl rfl rfl (by decide +kernel) ⟨by show 61 + 5 * n + 1 ≤ 90 + 5 * n; omega, by show 8 + (3 + 11) + (2540 + 200 * n) ≤ 2700 + 200 * n; omega⟩) ⟨ml_blind, va_recv hK hP (ci := 10) (q0 := 2) rfl rfl, fun U hU hW => ⟨rfl, ⟨hU, by rw [hU]; exact hPc, va_K.moved hW.alike hKc, hDc.weaken (fun _ _ _ _ => trivial)⟩, hN.warm hW, by rw [hU]; exact ZX.moved' hW.alike (ZX.narrow' (ZX.kept' hZ hS.2.1) hFc), by rw [hU]; exact CE.call hC hS.2.1 hFc hW, va_AO.moved hW.alike hV⟩⟩ rfl rfl hl.1 rfl (lv_room (Nat.le_of_ble_eq_true rfl)) d_QB_run_23 ⟨Nat.le_of_ble_eq_true rfl, Nat.le_of_ble_eq_true rfl⟩) hS (fun q _ h => hFc q h) hFc (fun q _ h => hFc q h) (fun En ce q9 ⟨tx, sx, gx, rx, nx⟩ t9 H1 locs ht hvm hw hB hz1 hk1 hS hce hcv hcl => ?_) (fun r21 ⟨t21, s21, g21, n21⟩ t9 H1 locs ht hvm hw hB hz1 hk1 hS => ?_)
      · obtain ⟨hEn, hP1, hK1, hD1⟩ := hB
        rw [ht] at hP1
        obtain ⟨hP, hD⟩ := va_joinP (wr := [(q0, .inr (11, [r0, r1, r2, .ref wk, .ref ds, .ref qu, .ref p1, .ref p2])), (ds, .inl (cV, 4, .inr (.inr (.inr (.inr dg))))), (p2, .inr (3, [.ref b2, .int dk, .ref s2])), (b2, .inl (cB, 16384, .inl dgp)), (s2, .inl (cV, 32, .inr (.inr (.inr (.inr dh)))))]) (rx := [(wk, .inr (10, [.ref wl, .int tx, .int sx, va_rf rx])), (wl, .inl (cV, 10000, .inr (.inr (.inr (.inr gx)))))]) (pl1 := va_pl L (pf f nx)) hP hD [2, 3] [0, 1, 4, 5, 6] rfl rfl (by decide) (by decide) hk1 hFc hP1 hD1
        generalize H1 = H at hP hS hce ⊢
        have hP : va_P (dC, dI) classes ([(q0, .inr (11, [r0, r1, r2, .ref wk, .ref ds, .ref qu, .ref p1, .ref p2])), (ds, .inl (cV, 4, .inr (.inr (.inr (.inr dg))))), (p2, .inr (3, [.ref b2, .int dk, .ref s2])), (b2, .inl (cB, 16384, .inl dgp)), (s2, .inl (cV, 32, .inr (.inr (.inr (.inr dh))))), (wk, .inr (10, [.ref wl, .int tx, .int sx, va_rf rx])), (wl, .inl (cV, 10000, .inr (.inr (.inr (.inr gx)))))] ++ va_pl L (pf f nx)) H := hP
        have hD : va_D A ([(q0, .inr (11, [r0, r1, r2, .ref wk, .ref ds, .ref qu, .ref p1, .ref p2])), (ds, .inl (cV, 4, .inr (.inr (.inr (.inr dg))))), (p2, .inr (3, [.ref b2, .int dk, .ref s2])), (b2, .inl (cB, 16384, .inl dgp)), (s2, .inl (cV, 32, .inr (.inr (.inr (.inr dh))))), (wk, .inr (10, [.ref wl, .int tx, .int sx, va_rf rx])), (wl, .inl (cV, 10000, .inr (.inr (.inr (.inr gx)))))] ++ va_pl L (pf f nx)) := hD
        have hP := hP.part (cx := [(q0, .inr (11, [r0, r1, r2, .ref wk, .ref ds, .ref qu, .ref p1, .ref p2])), (ds, .inl (cV, 4, .inr (.inr (.inr (.inr dg))))), (wk, .inr (10, [.ref wl, .int tx, .int sx, va_rf rx])), (wl, .inl (cV, 10000, .inr (.inr (.inr (.inr gx))))), (p2, .inr (3, [.ref b2, .int dk, .ref s2])), (b2, .inl (cB, 16384, .inl dgp)), (s2, .inl (cV, 32, .inr (.inr (.inr (.inr dh)))))]) [0, 1, 5, 6, 2, 3, 4] rfl
        have hD := hD.part (cx := [(q0, .inr (11, [r0, r1, r2, .ref wk, .ref ds, .ref qu, .ref p1, .ref p2])), (ds, .inl (cV, 4, .inr (.inr (.inr (.inr dg))))), (wk, .inr (10, [.ref wl, .int tx, .int sx, va_rf rx])), (wl, .inl (cV, 10000, .inr (.inr (.inr (.inr gx))))), (p2, .inr (3, [.ref b2, .int dk, .ref s2])), (b2, .inl (cB, 16384, .inl dgp)), (s2, .inl (cV, 32, .inr (.inr (.inr (.inr dh)))))]) [0, 1, 5, 6, 2, 3, 4] (by decide) rfl
        exact vx_out (fun x hx => (hex x hx).elim) hlocks hce hcv hcl (fun t9 ht2 ha => ⟨(tx, sx, gx, rx, nx, dk, dgp, dh), trivial, ⟨Or.inr (Or.inr hEn), by rw [ht2]; exact hP, va_K.moved ha hK, hD⟩, hS.F ht2⟩) hS.2.2 (Nat.le_of_ble_eq_true rfl) (Nat.le_of_ble_eq_true rfl)
      · obtain ⟨⟨hP1, hK1, hD1⟩, hz9⟩ := hB
        rw [ht] at hP1
        rw [ht] at hz9
        refine w_tight (hq0.trans hz9) ?_
        have hq0 := hq0.trans hz9
        obtain ⟨hP, hD⟩ := va_joinP (wr := [(q0, .inr (11, [r0, r1, r2, .ref wk, .ref ds, .ref qu, .ref p1, .ref p2])), (ds, .inl (cV, 4, .inr (.inr (.inr (.inr dg))))), (p2, .inr (3, [.ref b2, .int dk, .ref s2])), (b2, .inl (cB, 16384, .inl dgp)), (s2, .inl (cV, 32, .inr (.inr (.inr (.inr dh)))))]) (rx := [(wk, .inr (10, [.ref wl, .int (nI t21), .int (nI s21), .ref dv])), (wl, .inl (cV, 10000, .inr (.inr (.inr (.inr g21)))))]) (pl1 := va_pl L (pf f n21)) hP hD [2, 3] [0, 1, 4, 5, 6] rfl rfl (by decide) (by decide) hk1 hFc hP1 hD1
        generalize H1 = H at hP hS hq0 ⊢
        have hP : va_P (dC, dI) classes ([(q0, .inr (11, [r0, r1, r2, .ref wk, .ref ds, .ref qu, .ref p1, .ref p2])), (ds, .inl (cV, 4, .inr (.inr (.inr (.inr dg))))), (p2, .inr (3, [.ref b2, .int dk, .ref s2])), (b2, .inl (cB, 16384, .inl dgp)), (s2, .inl (cV, 32, .inr (.inr (.inr (.inr dh))))), (wk, .inr (10, [.ref wl, .int (nI t21), .int (nI s21), .ref dv])), (wl, .inl (cV, 10000, .inr (.inr (.inr (.inr g21)))))] ++ va_pl L (pf f n21)) H := hP
        have hD : va_D A ([(q0, .inr (11, [r0, r1, r2, .ref wk, .ref ds, .ref qu, .ref p1, .ref p2])), (ds, .inl (cV, 4, .inr (.inr (.inr (.inr dg))))), (p2, .inr (3, [.ref b2, .int dk, .ref s2])), (b2, .inl (cB, 16384, .inl dgp)), (s2, .inl (cV, 32, .inr (.inr (.inr (.inr dh))))), (wk, .inr (10, [.ref wl, .int (nI t21), .int (nI s21), .ref dv])), (wl, .inl (cV, 10000, .inr (.inr (.inr (.inr g21)))))] ++ va_pl L (pf f n21)) := hD
        have hP := hP.part (cx := [(q0, .inr (11, [r0, r1, r2, .ref wk, .ref ds, .ref qu, .ref p1, .ref p2])), (ds, .inl (cV, 4, .inr (.inr (.inr (.inr dg))))), (wk, .inr (10, [.ref wl, .int (nI t21), .int (nI s21), .ref dv])), (wl, .inl (cV, 10000, .inr (.inr (.inr (.inr g21))))), (p2, .inr (3, [.ref b2, .int dk, .ref s2])), (b2, .inl (cB, 16384, .inl dgp)), (s2, .inl (cV, 32, .inr (.inr (.inr (.inr dh)))))]) [0, 1, 5, 6, 2, 3, 4] rfl
        have hD := hD.part (cx := [(q0, .inr (11, [r0, r1, r2, .ref wk, .ref ds, .ref qu, .ref p1, .ref p2])), (ds, .inl (cV, 4, .inr (.inr (.inr (.inr dg))))), (wk, .inr (10, [.ref wl, .int (nI t21), .int (nI s21), .ref dv])), (wl, .inl (cV, 10000, .inr (.inr (.inr (.inr g21))))), (p2, .inr (3, [.ref b2, .int dk, .ref s2])), (b2, .inl (cB, 16384, .inl dgp)), (s2, .inl (cV, 32, .inr (.inr (.inr (.inr dh)))))]) [0, 1, 5, 6, 2, 3, 4] (by decide) rfl
        obtain ⟨⟨fr, hfr1, hfr2⟩, hWn⟩ := hw
        have hfr2 : fr ≤ t21 := hfr2
        subst hfr1
        have hWn : WI E t21 s21 g21 := hWn
        have hWn1 := hWn.1
        have hWn2 := hWn.2.1
        refine lv_istore_n (lv' := [(2, .int (nI fr)), (0, .ref q0), (1, .int (nI j))]) hx hb d_QB_run_26 rfl hl (by decide) rfl (fun ls hl => ?_)
        refine lv_aload_n hx hb d_QB_run_27 rfl (lv_at hl 1 rfl) ?_
        refine va_get (D := (dC, dI)) (ci := 11) (v := .ref p2) (C := R_QB) (T := F_QB) (N := 8) hx hb hts in_QB hown hK hP 0 rfl rfl 7 (by decide) (hts _ w_158) (fun _ h9 => h9) rfl d_QB_run_28 ?_
        refine lv_iconst (v := 0) hx hb d_QB_run_31 (by decide) ?_
        refine va_put (D := (dC, dI)) (ci := 3) (v := .int 0) (ty := .int) (C := R_Printer) (T := F_Printer) (N := 3) hx hb hts in_Printer t_Printer t_Printer_ok n_Printer hown hK hP hD hS 4 rfl rfl 1 (by decide) (hts _ w_142) (fun _ h9 => h9) rfl (by decide +kernel) rfl rfl (Nat.le_of_ble_eq_true rfl) d_QB_run_32 (fun H locs hP hD hS => ?_)
        have hP : va_P (dC, dI) classes ([(q0, .inr (11, [r0, r1, r2, .ref wk, .ref ds, .ref qu, .ref p1, .ref p2])), (ds, .inl (cV, 4, .inr (.inr (.inr (.inr dg))))), (wk, .inr (10, [.ref wl, .int (nI t21), .int (nI s21), .ref dv])), (wl, .inl (cV, 10000, .inr (.inr (.inr (.inr g21))))), (p2, .inr (3, [.ref b2, .int 0, .ref s2])), (b2, .inl (cB, 16384, .inl dgp)), (s2, .inl (cV, 32, .inr (.inr (.inr (.inr dh)))))] ++ va_pl L (pf f n21)) H := hP
        have hD : va_D A ([(q0, .inr (11, [r0, r1, r2, .ref wk, .ref ds, .ref qu, .ref p1, .ref p2])), (ds, .inl (cV, 4, .inr (.inr (.inr (.inr dg))))), (wk, .inr (10, [.ref wl, .int (nI t21), .int (nI s21), .ref dv])), (wl, .inl (cV, 10000, .inr (.inr (.inr (.inr g21))))), (p2, .inr (3, [.ref b2, .int 0, .ref s2])), (b2, .inl (cB, 16384, .inl dgp)), (s2, .inl (cV, 32, .inr (.inr (.inr (.inr dh)))))] ++ va_pl L (pf f n21)) := hD
        have hP : va_P (dC, dI) classes ([(q0, .inr (11, [r0, r1, r2, .ref wk, .ref ds, .ref qu, .ref p1, .ref p2])), (ds, .inl (cV, 4, .inr (.inr (.inr (.inr dg))))), (wk, .inr (10, [.ref wl, .int (nI t21), .int (nI s21), .ref dv])), (wl, .inl (cV, 10000, .inr (.inr (.inr (.inr g21))))), (p2, .inr (3, [.ref b2, .int (nI 0), .ref s2])), (b2, .inl (cB, 16384, .inl dgp)), (s2, .inl (cV, 32, .inr (.inr (.inr (.inr dh)))))] ++ va_pl L (pf f n21)) H := hP
        have hD : va_D A ([(q0, .inr (11, [r0, r1, r2, .ref wk, .ref ds, .ref qu, .ref p1, .ref p2])), (ds, .inl (cV, 4, .inr (.inr (.inr (.inr dg))))), (wk, .inr (10, [.ref wl, .int (nI t21), .int (nI s21), .ref dv])), (wl, .inl (cV, 10000, .inr (.inr (.inr (.inr g21))))), (p2, .inr (3, [.ref b2, .int (nI 0), .ref s2])), (b2, .inl (cB, 16384, .inl dgp)), (s2, .inl (cV, 32, .inr (.inr (.inr (.inr dh)))))] ++ va_pl L (pf f n21)) := hD
        refine lv_iload_n hx hb d_QB_run_35 rfl (lv_at hl 0 rfl) ?_
        refine lv_istore_n (lv' := [(3, .int (nI fr)), (2, .int (nI fr)), (0, .ref q0), (1, .int (nI j))]) hx hb d_QB_run_36 rfl hl (by decide) rfl (fun ls hl => ?_)
        refine w_loop (D := (dC, dI)) (cl := classes) (A := A) (H0 := s.heap) (nL := 4) 37 (σ := Nat × Nat × (Nat → Int32) × (Nat → Option Nat)) (fun ⟨i, k, gp, h⟩ => i ≤ t21 ∧ k ≤ 16384) (fun ⟨i, k, gp, h⟩ => t21 - i) (fun ⟨i, k, gp, h⟩ => [(q0, .inr (11, [r0, r1, r2, .ref wk, .ref ds, .ref qu, .ref p1, .ref p2])), (ds, .inl (cV, 4, .inr (.inr (.inr (.inr dg))))), (wk, .inr (10, [.ref wl, .int (nI t21), .int (nI s21), .ref dv])), (wl, .inl (cV, 10000, .inr (.inr (.inr (.inr g21))))), (p2, .inr (3, [.ref b2, .int (nI k), .ref s2])), (b2, .inl (cB, 16384, .inl gp)), (s2, .inl (cV, 32, .inr (.inr (.inr (.inr h)))))] ++ va_pl L (pf f n21)) (fun ⟨i, k, gp, h⟩ => [(0, .ref q0), (1, .int (nI j)), (2, .int (nI fr)), (3, .int (nI i))]) ?_ (fr, 0, dgp, dh) ⟨hfr2, Nat.zero_le _⟩ hP hD hS (lv_sub hl [2, 3, 1, 0] rfl)
        rintro ⟨i, k, gp, h⟩ H locs ls hI ih hP hD hS hl
        have hP : va_P (dC, dI) classes ([(q0, .inr (11, [r0, r1, r2, .ref wk, .ref ds, .ref qu, .ref p1, .ref p2])), (ds, .inl (cV, 4, .inr (.inr (.inr (.inr dg))))), (wk, .inr (10, [.ref wl, .int (nI t21), .int (nI s21), .ref dv])), (wl, .inl (cV, 10000, .inr (.inr (.inr (.inr g21))))), (p2, .inr (3, [.ref b2, .int (nI k), .ref s2])), (b2, .inl (cB, 16384, .inl gp)), (s2, .inl (cV, 32, .inr (.inr (.inr (.inr h)))))] ++ va_pl L (pf f n21)) H := hP
        have hD : va_D A ([(q0, .inr (11, [r0, r1, r2, .ref wk, .ref ds, .ref qu, .ref p1, .ref p2])), (ds, .inl (cV, 4, .inr (.inr (.inr (.inr dg))))), (wk, .inr (10, [.ref wl, .int (nI t21), .int (nI s21), .ref dv])), (wl, .inl (cV, 10000, .inr (.inr (.inr (.inr g21))))), (p2, .inr (3, [.ref b2, .int (nI k), .ref s2])), (b2, .inl (cB, 16384, .inl gp)), (s2, .inl (cV, 32, .inr (.inr (.inr (.inr h)))))] ++ va_pl L (pf f n21)) := hD
        have hl : lv_has ls 4 [(0, .ref q0), (1, .int (nI j)), (2, .int (nI fr)), (3, .int (nI i))] := hl
        obtain ⟨hI, hk⟩ := hI
        have hI : i ≤ t21 := hI
        have hk : k ≤ 16384 := hk
        refine lv_iload_n hx hb d_QB_run_37 rfl (lv_at hl 3 rfl) ?_
        refine lv_aload_n hx hb d_QB_run_38 rfl (lv_at hl 0 rfl) ?_
        refine va_get (D := (dC, dI)) (ci := 11) (v := .ref wk) (C := R_QB) (T := F_QB) (N := 8) hx hb hts in_QB hown hK hP 0 rfl rfl 3 (by decide) (hts _ w_154) (fun _ h9 => h9) rfl d_QB_run_39 ?_
        refine va_get (D := (dC, dI)) (ci := 10) (v := .int (nI t21)) (C := R_Walk) (T := F_Walk) (N := 4) hx hb hts in_Walk hown hK hP 2 rfl rfl 1 (by decide) (hts _ z_118) (fun _ h9 => h9) rfl d_QB_run_42 ?_
        refine lv_icmp_ge (tgt := 70) hx hb d_QB_run_45 (by decide) (fun c45 => ?_) (fun c45 => ?_)
        · refine lv_aload_n hx hb d_QB_run_70 rfl (lv_at hl 0 rfl) ?_
          refine va_get (D := (dC, dI)) (ci := 11) (v := .ref p1) (C := R_QB) (T := F_QB) (N := 8) hx hb hts in_QB hown hK hP 0 rfl rfl 6 (by decide) (hts _ w_157) (fun _ h9 => h9) rfl d_QB_run_71 ?_
          refine lv_astore_n (lv' := [(3, .ref p1), (0, .ref q0), (1, .int (nI j)), (2, .int (nI fr))]) hx hb d_QB_run_74 rfl hl (by decide) rfl (fun ls hl => ?_)
          refine lv_aload_n hx hb d_QB_run_75 rfl (lv_at hl 1 rfl) ?_
          refine lv_aload_n hx hb d_QB_run_76 rfl (lv_at hl 1 rfl) ?_
          refine va_get (D := (dC, dI)) (ci := 11) (v := .ref p2) (C := R_QB) (T := F_QB) (N := 8) hx hb hts in_QB hown hK hP 0 rfl rfl 7 (by decide) (hts _ w_158) (fun _ h9 => h9) rfl d_QB_run_77 ?_
          refine va_put (D := (dC, dI)) (ci := 11) (v := .ref p2) (ty := .object "QueryBench$Printer") (C := R_QB) (T := F_QB) (N := 8) hx hb hts in_QB t_QB t_QB_ok n_QB hown hK hP hD hS 0 rfl rfl 6 (by decide) (hts _ w_157) (fun _ h9 => h9) rfl (by decide +kernel) rfl rfl (Nat.le_of_ble_eq_true rfl) d_QB_run_80 (fun H locs hP hD hS => ?_)
          have hP : va_P (dC, dI) classes ([(q0, .inr (11, [r0, r1, r2, .ref wk, .ref ds, .ref qu, .ref p2, .ref p2])), (ds, .inl (cV, 4, .inr (.inr (.inr (.inr dg))))), (wk, .inr (10, [.ref wl, .int (nI t21), .int (nI s21), .ref dv])), (wl, .inl (cV, 10000, .inr (.inr (.inr (.inr g21))))), (p2, .inr (3, [.ref b2, .int (nI k), .ref s2])), (b2, .inl (cB, 16384, .inl gp)), (s2, .inl (cV, 32, .inr (.inr (.inr (.inr h)))))] ++ va_pl L (pf f n21)) H := hP
          have hD : va_D A ([(q0, .inr (11, [r0, r1, r2, .ref wk, .ref ds, .ref qu, .ref p2, .ref p2])), (ds, .inl (cV, 4, .inr (.inr (.inr (.inr dg))))), (wk, .inr (10, [.ref wl, .int (nI t21), .int (nI s21), .ref dv])), (wl, .inl (cV, 10000, .inr (.inr (.inr (.inr g21))))), (p2, .inr (3, [.ref b2, .int (nI k), .ref s2])), (b2, .inl (cB, 16384, .inl gp)), (s2, .inl (cV, 32, .inr (.inr (.inr (.inr h)))))] ++ va_pl L (pf f n21)) := hD
          refine lv_aload_n hx hb d_QB_run_83 rfl (lv_at hl 1 rfl) ?_
          refine lv_aload_n hx hb d_QB_run_84 rfl (lv_at hl 0 rfl) ?_
          refine va_put (D := (dC, dI)) (ci := 11) (v := .ref p1) (ty := .object "QueryBench$Printer") (C := R_QB) (T := F_QB) (N := 8) hx hb hts in_QB t_QB t_QB_ok n_QB hown hK hP hD hS 0 rfl rfl 7 (by decide) (hts _ w_158) (fun _ h9 => h9) rfl (by decide +kernel) rfl rfl (Nat.le_of_ble_eq_true rfl) d_QB_run_85 (fun H locs hP hD hS => ?_)
          have hP : va_P (dC, dI) classes ([(q0, .inr (11, [r0, r1, r2, .ref wk, .ref ds, .ref qu, .ref p2, .ref p1])), (ds, .inl (cV, 4, .inr (.inr (.inr (.inr dg))))), (wk, .inr (10, [.ref wl, .int (nI t21), .int (nI s21), .ref dv])), (wl, .inl (cV, 10000, .inr (.inr (.inr (.inr g21))))), (p2, .inr (3, [.ref b2, .int (nI k), .ref s2])), (b2, .inl (cB, 16384, .inl gp)), (s2, .inl (cV, 32, .inr (.inr (.inr (.inr h)))))] ++ va_pl L (pf f n21)) H := hP
          have hD : va_D A ([(q0, .inr (11, [r0, r1, r2, .ref wk, .ref ds, .ref qu, .ref p2, .ref p1])), (ds, .inl (cV, 4, .inr (.inr (.inr (.inr dg))))), (wk, .inr (10, [.ref wl, .int (nI t21), .int (nI s21), .ref dv])), (wl, .inl (cV, 10000, .inr (.inr (.inr (.inr g21))))), (p2, .inr (3, [.ref b2, .int (nI k), .ref s2])), (b2, .inl (cB, 16384, .inl gp)), (s2, .inl (cV, 32, .inr (.inr (.inr (.inr h)))))] ++ va_pl L (pf f n21)) := hD
          refine lv_aload_n hx hb d_QB_run_88 rfl (lv_at hl 1 rfl) ?_
          refine va_get (D := (dC, dI)) (ci := 11) (v := .ref wk) (C := R_QB) (T := F_QB) (N := 8) hx hb hts in_QB hown hK hP 0 rfl rfl 3 (by decide) (hts _ w_154) (fun _ h9 => h9) rfl d_QB_run_89 ?_
          refine va_get (D := (dC, dI)) (ci := 10) (v := .int (nI t21)) (C := R_Walk) (T := F_Walk) (N := 4) hx hb hts in_Walk hown hK hP 2 rfl rfl 1 (by decide) (hts _ z_118) (fun _ h9 => h9) rfl d_QB_run_92 ?_
          refine lv_iload_n hx hb d_QB_run_95 rfl (lv_at hl 3 rfl) ?_
          refine lv_isub hx hb d_QB_run_96 ?_
          refine w_same (fun hq => ?_)
          refine W.widen (k := 1) (n := 6) (Nat.le_of_ble_eq_true rfl) (Nat.le_of_ble_eq_true rfl) ?_
          refine vx_ret ?_
          exact W.iret (v := ((nI t21) - (nI fr))) hx hb hr (fun t9 ht hW => ⟨⟨((nI t21) - (nI fr)), (nI t21, nI s21, g21, some dv, n21, k, gp, h), rfl, hk, ⟨by rw [ht]; exact hP, va_K.moved hW.alike hK, hD⟩, by rw [ht]; exact hq⟩, hS.F ht⟩) hS.2.2 d_QB_run_97
        · have hi : i < t21 := by rw [nI_leI (by omega) (by omega)] at c45; omega
          obtain ⟨nd9, hnd1, hnd2⟩ := hWn.2.2 i hi
          refine lv_aload_n hx hb d_QB_run_48 rfl (lv_at hl 0 rfl) ?_
          refine va_get (D := (dC, dI)) (ci := 11) (v := .ref p2) (C := R_QB) (T := F_QB) (N := 8) hx hb hts in_QB hown hK hP 0 rfl rfl 7 (by decide) (hts _ w_158) (fun _ h9 => h9) rfl d_QB_run_49 ?_
          refine lv_aload_n hx hb d_QB_run_52 rfl (lv_at hl 0 rfl) ?_
          refine va_get (D := (dC, dI)) (ci := 11) (v := .ref wk) (C := R_QB) (T := F_QB) (N := 8) hx hb hts in_QB hown hK hP 0 rfl rfl 3 (by decide) (hts _ w_154) (fun _ h9 => h9) rfl d_QB_run_53 ?_
          refine va_get (D := (dC, dI)) (ci := 10) (v := .ref wl) (C := R_Walk) (T := F_Walk) (N := 4) hx hb hts in_Walk hown hK hP 2 rfl rfl 0 (by decide) (hts _ z_116) (fun _ h9 => h9) rfl d_QB_run_56 ?_
          refine lv_iload_n hx hb d_QB_run_59 rfl (lv_at hl 3 rfl) ?_
          refine vq_ald0 hx hb hK hP 3 1 rfl rfl (show i < 10000 by omega) (by decide) hnd1 d_QB_run_60 ?_
          have hPc := hP.part (cx := [(p2, .inr (3, [.ref b2, .int (nI k), .ref s2])), (b2, .inl (cB, 16384, .inl gp)), (s2, .inl (cV, 32, .inr (.inr (.inr (.inr h)))))]) [4, 5, 6] rfl
          have hDc := hD.part (cx := [(p2, .inr (3, [.ref b2, .int (nI k), .ref s2])), (b2, .inl (cB, 16384, .inl gp)), (s2, .inl (cV, 32, .inr (.inr (.inr (.inr h)))))]) [4, 5, 6] (by decide) rfl
          have hFc := va_freeP (cx := [(p2, .inr (3, [.ref b2, .int (nI k), .ref s2])), (b2, .inl (cB, 16384, .inl gp)), (s2, .inl (cV, 32, .inr (.inr (.inr (.inr h)))))]) hD hS hA [4, 5, 6] rfl
          have hKc := hK.sub (tys' := [(cB, .byte), (cI, .int), (cV, .object "QueryBench$Value")]) [2, 0, 1] rfl
          refine w_same (fun hq0 => ?_)
          refine vx_callv (vx_runV (As := [.ref nd9]) (rest := []) ⟨hx, hb, hml, hown, hts⟩ (c_Printer_line l hl9 K dC dI H cI cV E lv L (pf f n21) (hO.num n21) cB p2 b2 s2 gp k hk h nd9 hnd2) (cwV 1 hts (gt_V (own := R_QB) (C := R_Printer) (i := 110) (y := y_Printer_line) i_Printer_line z_949 z_950 z_951 w_6) rfl rfl rfl (by decide +kernel) ⟨by show 80 + 1 ≤ 90 + 5 * n; omega, by show 8 + (2 + 11) + (2300) ≤ 2700 + 200 * n; omega⟩) ⟨ml_blind, va_recv hK hP (ci := 3) (q0 := 4) rfl rfl, fun U hU hW => ⟨rfl, ⟨hU, by rw [hU]; exact hPc, va_K.moved hW.alike hKc, hDc.weaken (fun _ _ _ _ => trivial)⟩, hN.warm hW, by rw [hU]; exact ZX.moved' hW.alike (ZX.narrow' (ZX.kept' hZ hS.2.1) hFc), by rw [hU]; exact CE.call hC hS.2.1 hFc hW, va_AO.moved hW.alike hV⟩⟩ rfl rfl hl.1 rfl (lv_room (Nat.le_of_ble_eq_true rfl)) d_QB_run_61 ⟨Nat.le_of_ble_eq_true rfl, Nat.le_of_ble_eq_true rfl⟩) hS (fun q _ h => hFc q h) hFc (fun q _ h => hFc q h) (fun En ce q9 ⟨kx, gx, hx9⟩ t9 H1 locs ht hvm hw hB hz1 hk1 hS hce hcv hcl => ?_) (fun ⟨k2, g2, h2⟩ t9 H1 locs ht hvm hw hB hz1 hk1 hS => ?_)
          · obtain ⟨hEn, hP1, hK1, hD1⟩ := hB
            rw [ht] at hP1
            obtain ⟨hP, hD⟩ := va_joinP (wr := [(q0, .inr (11, [r0, r1, r2, .ref wk, .ref ds, .ref qu, .ref p1, .ref p2])), (ds, .inl (cV, 4, .inr (.inr (.inr (.inr dg))))), (wk, .inr (10, [.ref wl, .int (nI t21), .int (nI s21), .ref dv])), (wl, .inl (cV, 10000, .inr (.inr (.inr (.inr g21)))))]) (rx := [(p2, .inr (3, [.ref b2, .int kx, .ref s2])), (b2, .inl (cB, 16384, .inl gx)), (s2, .inl (cV, 32, .inr (.inr (.inr (.inr hx9)))))]) (pl1 := va_pl L (pf f n21)) hP hD [4, 5, 6] [0, 1, 2, 3] rfl rfl (by decide) (by decide) hk1 hFc hP1 hD1
            generalize H1 = H at hP hS hce ⊢
            have hP : va_P (dC, dI) classes ([(q0, .inr (11, [r0, r1, r2, .ref wk, .ref ds, .ref qu, .ref p1, .ref p2])), (ds, .inl (cV, 4, .inr (.inr (.inr (.inr dg))))), (wk, .inr (10, [.ref wl, .int (nI t21), .int (nI s21), .ref dv])), (wl, .inl (cV, 10000, .inr (.inr (.inr (.inr g21))))), (p2, .inr (3, [.ref b2, .int kx, .ref s2])), (b2, .inl (cB, 16384, .inl gx)), (s2, .inl (cV, 32, .inr (.inr (.inr (.inr hx9)))))] ++ va_pl L (pf f n21)) H := hP
            have hD : va_D A ([(q0, .inr (11, [r0, r1, r2, .ref wk, .ref ds, .ref qu, .ref p1, .ref p2])), (ds, .inl (cV, 4, .inr (.inr (.inr (.inr dg))))), (wk, .inr (10, [.ref wl, .int (nI t21), .int (nI s21), .ref dv])), (wl, .inl (cV, 10000, .inr (.inr (.inr (.inr g21))))), (p2, .inr (3, [.ref b2, .int kx, .ref s2])), (b2, .inl (cB, 16384, .inl gx)), (s2, .inl (cV, 32, .inr (.inr (.inr (.inr hx9)))))] ++ va_pl L (pf f n21)) := hD
            exact vx_out (fun x hx => (hex x hx).elim) hlocks hce hcv hcl (fun t9 ht2 ha => ⟨(nI t21, nI s21, g21, some dv, n21, kx, gx, hx9), trivial, ⟨Or.inr (Or.inr hEn), by rw [ht2]; exact hP, va_K.moved ha hK, hD⟩, hS.F ht2⟩) hS.2.2 (Nat.le_of_ble_eq_true rfl) (Nat.le_of_ble_eq_true rfl)
          · obtain ⟨⟨hP1, hK1, hD1⟩, hz9⟩ := hB
            rw [ht] at hP1
            rw [ht] at hz9
            refine w_tight (hq0.trans hz9) ?_
            have hq0 := hq0.trans hz9
            obtain ⟨hP, hD⟩ := va_joinP (wr := [(q0, .inr (11, [r0, r1, r2, .ref wk, .ref ds, .ref qu, .ref p1, .ref p2])), (ds, .inl (cV, 4, .inr (.inr (.inr (.inr dg))))), (wk, .inr (10, [.ref wl, .int (nI t21), .int (nI s21), .ref dv])), (wl, .inl (cV, 10000, .inr (.inr (.inr (.inr g21)))))]) (rx := [(p2, .inr (3, [.ref b2, .int (nI k2), .ref s2])), (b2, .inl (cB, 16384, .inl g2)), (s2, .inl (cV, 32, .inr (.inr (.inr (.inr h2)))))]) (pl1 := va_pl L (pf f n21)) hP hD [4, 5, 6] [0, 1, 2, 3] rfl rfl (by decide) (by decide) hk1 hFc hP1 hD1
            generalize H1 = H at hP hS hq0 ⊢
            have hP : va_P (dC, dI) classes ([(q0, .inr (11, [r0, r1, r2, .ref wk, .ref ds, .ref qu, .ref p1, .ref p2])), (ds, .inl (cV, 4, .inr (.inr (.inr (.inr dg))))), (wk, .inr (10, [.ref wl, .int (nI t21), .int (nI s21), .ref dv])), (wl, .inl (cV, 10000, .inr (.inr (.inr (.inr g21))))), (p2, .inr (3, [.ref b2, .int (nI k2), .ref s2])), (b2, .inl (cB, 16384, .inl g2)), (s2, .inl (cV, 32, .inr (.inr (.inr (.inr h2)))))] ++ va_pl L (pf f n21)) H := hP
            have hD : va_D A ([(q0, .inr (11, [r0, r1, r2, .ref wk, .ref ds, .ref qu, .ref p1, .ref p2])), (ds, .inl (cV, 4, .inr (.inr (.inr (.inr dg))))), (wk, .inr (10, [.ref wl, .int (nI t21), .int (nI s21), .ref dv])), (wl, .inl (cV, 10000, .inr (.inr (.inr (.inr g21))))), (p2, .inr (3, [.ref b2, .int (nI k2), .ref s2])), (b2, .inl (cB, 16384, .inl g2)), (s2, .inl (cV, 32, .inr (.inr (.inr (.inr h2)))))] ++ va_pl L (pf f n21)) := hD
            have hk2 : k2 ≤ 16384 := hw
            refine lv_iinc (v := nI (i + 1)) (lv' := [(3, .int (nI (i + 1))), (0, .ref q0), (1, .int (nI j)), (2, .int (nI fr))]) hx hb d_QB_run_64 hl (k := 3) rfl (nI_1 _) (by decide) rfl (fun ls hl => ?_)
            refine lv_goto (tgt := 37) hx hb d_QB_run_67 (by decide) ?_
            exact ih (i + 1, k2, g2, h2) _ _ _ ⟨show i + 1 ≤ t21 by omega, hk2⟩ (by show t21 - (i + 1) < t21 - i; omega) hP hD hS (lv_sub hl [1, 2, 3, 0] rfl)
