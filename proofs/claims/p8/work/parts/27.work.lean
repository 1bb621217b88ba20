theorem w_119 : (.fieldLink "QueryBench$Walk" 25 "QueryBench$Walk" "spent" "I" : Cond) ∈ gtbl := gt_in 119 (by decide +kernel) (by decide +kernel)
theorem w_847 : (.classLink "QueryBench$Walk" 55 "java/lang/IndexOutOfBoundsException" : Cond) ∈ gtbl := gt_in 847 (by decide +kernel) (by decide +kernel)
theorem w_1115 : (.fieldLink "QueryBenchModel" 342 "QueryBenchModel" "done" "I" : Cond) ∈ gtbl := gt_in 1115 (by decide +kernel) (by decide +kernel)
theorem w_1116 : (.fieldLink "QueryBenchModel" 345 "QueryBenchModel" "tooMuch" "Z" : Cond) ∈ gtbl := gt_in 1116 (by decide +kernel) (by decide +kernel)
abbrev b_Walk_spend : ByteArray := prog_12_method_4_code
def y_Walk_spend : MethodName := ⟨"QueryBench$Walk", "spend", "()V"⟩
abbrev k_Walk_spend : Cond := .code y_Walk_spend b_Walk_spend 1 none
theorem i_Walk_spend : k_Walk_spend ∈ gtbl := gt_in 846 (by decide +kernel) (by decide +kernel)
theorem d_Walk_spend_0 : decode b_Walk_spend 0 = .ok (.aload_n 0, 1) := by decide +kernel
theorem d_Walk_spend_1 : decode b_Walk_spend 1 = .ok (.getfield 25, 3) := by decide +kernel
theorem d_Walk_spend_4 : decode b_Walk_spend 4 = .ok (.sipush 10000, 3) := by decide +kernel
theorem d_Walk_spend_7 : decode b_Walk_spend 7 = .ok (.if_icmp .lt 11, 3) := by decide +kernel
theorem d_Walk_spend_10 : decode b_Walk_spend 10 = .ok (.new 55, 3) := by decide +kernel
theorem d_Walk_spend_13 : decode b_Walk_spend 13 = .ok (.dup, 1) := by decide +kernel
theorem d_Walk_spend_14 : decode b_Walk_spend 14 = .ok (.invokespecial 57, 3) := by decide +kernel
theorem d_Walk_spend_17 : decode b_Walk_spend 17 = .ok (.athrow, 1) := by decide +kernel
theorem d_Walk_spend_18 : decode b_Walk_spend 18 = .ok (.aload_n 0, 1) := by decide +kernel
theorem d_Walk_spend_19 : decode b_Walk_spend 19 = .ok (.dup, 1) := by decide +kernel
theorem d_Walk_spend_20 : decode b_Walk_spend 20 = .ok (.getfield 25, 3) := by decide +kernel
theorem d_Walk_spend_23 : decode b_Walk_spend 23 = .ok (.iconst 1, 1) := by decide +kernel
theorem d_Walk_spend_24 : decode b_Walk_spend 24 = .ok (.iadd, 1) := by decide +kernel
theorem d_Walk_spend_25 : decode b_Walk_spend 25 = .ok (.putfield 25, 3) := by decide +kernel
theorem d_Walk_spend_28 : decode b_Walk_spend 28 = .ok (.return_, 1) := by decide +kernel
theorem xa_Walk_spend_10 : ∀ w ∈ vx_at0 R_Walk 57 "java/lang/IndexOutOfBoundsException" ["java/lang/RuntimeException", "java/lang/Exception"], (goodWord w = true ∧ w ∈ lw_tbl) ∨ w ∈ nwl := by decide +kernel
theorem xa_Walk_spend_10_g : ∀ w ∈ Cond.classLink R_Walk 55 "java/lang/IndexOutOfBoundsException" :: Cond.initialized "java/lang/IndexOutOfBoundsException" :: vx_at0 R_Walk 57 "java/lang/IndexOutOfBoundsException" ["java/lang/RuntimeException", "java/lang/Exception"], vx_ot w = true := by decide +kernel
set_option maxHeartbeats 4000000 in
set_option maxRecDepth 100000 in
/-- Walk.spend -/
theorem c_Walk_spend (l : Launch) (hl9 : l.stackTraces = false) (dC : Nat → ClassId) (dI : Nat → Nat → Nat) (wk : Nat) (sz : Heap) (rl rr : Value) (tp : Int32) (k : Nat) (hk0 : k ≤ 10000) : vx_Met l y_Walk_spend (k_Walk_spend :: gtbl) ({ frames := 8, cells := 1, slots := 6, locals := 110 }) (va_Pc [.ref wk] (mx dC dI [(wk, .inr (10, [rl, .int tp, .int (nI k), rr]))] [] sz)) (va_Qv (fun (_ : Unit) => k < 10000) (fun _ t => mz dC dI [(wk, .inr (10, [rl, .int tp, .int (nI (k + 1)), rr]))] [] (va_A [(wk, .inr (10, [rl, .int tp, .int (nI k), rr]))] sz.size) t ∧ szk sz t.heap 0 0) (va_A [(wk, .inr (10, [rl, .int tp, .int (nI k), rr]))] sz.size)) (vx_X (fun _ : Unit => ¬ k < 10000) (fun E _ t => E = "java/lang/IndexOutOfBoundsException" ∧ mz dC dI [(wk, .inr (10, [rl, .int tp, .int (nI k), rr]))] [] (va_A [(wk, .inr (10, [rl, .int tp, .int (nI k), rr]))] sz.size) t) (va_A [(wk, .inr (10, [rl, .int tp, .int (nI k), rr]))] sz.size)) 1 6 (va_A [(wk, .inr (10, [rl, .int tp, .int (nI k), rr]))] sz.size) := by
  refine vx_ofW (cc := b_Walk_spend) (maxL := 1) (ret := none) (by decide) rfl ?_
  intro p e s m args below meth c s₁ B hml hex hv
  obtain ⟨rfl, ⟨hsz, hP, hK, hD0⟩, hN, hZ⟩ := hv
  have hx := B.exec
  have hb := B.bytes
  have hr := B.returns
  have hts0 := atoms_spec (ws := k_Walk_spend :: gtbl) B.pre
  have hts := fun w h => hts0 w (List.mem_cons_of_mem _ h)
  have hown : s.vm.findClass R_Walk = some m.cls := findClass_of_methodNamed B.named
  have hlocks := B.notSynchronized
  subst hsz
  have hD := hD0.self (sz := s.heap.size)
  generalize hAe : va_A [(wk, .inr (10, [rl, .int tp, .int (nI k), rr]))] s.heap.size = A at hD hZ ⊢
  have hA : ∀ q : Nat, s.heap.size ≤ q → A q := fun q h => by rw [← hAe]; exact Or.inr h
  have hS : va_S A s.heap s.heap [] := va_S.rf
  have hP : va_P (dC, dI) classes [(wk, .inr (10, [rl, .int tp, .int (nI k), rr]))] s.heap := hP
  have hl := lv_entry ([.ref wk]) (n := 1) (Nat.le_of_ble_eq_true rfl)
  rw [lg_entry_eq]
  generalize (lg_sl ([.ref wk]) ++ List.replicate (1 - (lg_sl ([.ref wk])).length) Slot.unset).toArray = ls at hl ⊢
  have hl : lv_has ls 1 [(0, .ref wk)] := hl
  refine lv_aload_n hx hb d_Walk_spend_0 rfl (lv_at hl 0 rfl) ?_
  refine va_get (D := (dC, dI)) (ci := 10) (v := .int (nI k)) (C := R_Walk) (T := F_Walk) (N := 4) hx hb hts in_Walk hown hK hP 0 rfl rfl 2 (by decide) (hts _ w_119) (fun _ h9 => h9) rfl d_Walk_spend_1 ?_
  refine lv_sipush (v := 10000) hx hb d_Walk_spend_4 (by decide) ?_
  refine lv_icmp_lt (tgt := 18) hx hb d_Walk_spend_7 (by decide) (fun c7 => ?_) (fun c7 => ?_)
  · refine lv_aload_n hx hb d_Walk_spend_18 rfl (lv_at hl 0 rfl) ?_
    refine lv_dup hx hb d_Walk_spend_19 rfl ?_
    refine va_get (D := (dC, dI)) (ci := 10) (v := .int (nI k)) (C := R_Walk) (T := F_Walk) (N := 4) hx hb hts in_Walk hown hK hP 0 rfl rfl 2 (by decide) (hts _ w_119) (fun _ h9 => h9) rfl d_Walk_spend_20 ?_
    refine lv_iconst (v := 1) hx hb d_Walk_spend_23 (by decide) ?_
    refine lv_iadd hx hb d_Walk_spend_24 ?_
    refine W.eq (g2 := F0 m 25 ls [.int (nI (k + 1)), .ref wk]) (by rw [show ((nI k) + 1) = (nI (k + 1)) from nI_1 _]) ?_
    refine va_put (D := (dC, dI)) (ci := 10) (v := .int (nI (k + 1))) (ty := .int) (C := R_Walk) (T := F_Walk) (N := 4) hx hb hts in_Walk t_Walk t_Walk_ok n_Walk hown hK hP hD hS 0 rfl rfl 2 (by decide) (hts _ w_119) (fun _ h9 => h9) rfl (by decide +kernel) rfl rfl (Nat.le_of_ble_eq_true rfl) d_Walk_spend_25 (fun H locs hP hD hS => ?_)
    have hP : va_P (dC, dI) classes [(wk, .inr (10, [rl, .int tp, .int (nI (k + 1)), rr]))] H := hP
    have hD : va_D A [(wk, .inr (10, [rl, .int tp, .int (nI (k + 1)), rr]))] := hD
    refine w_same (fun hq => ?_)
    refine W.widen (k := 1) (n := 6) (Nat.le_of_ble_eq_true rfl) (Nat.le_of_ble_eq_true rfl) ?_
    refine vx_ret ?_
    exact W.vret hx hb hr (fun t ht hW => ⟨⟨(), rfl, (by rw [show (10000 : Int32) = nI 10000 from rfl, nI_ltI (by omega) (by omega)] at c7; exact c7), ⟨by rw [ht]; exact hP, va_K.moved hW.alike hK, hD⟩, by rw [ht]; exact hq⟩, hS.F ht⟩) hS.2.2 d_Walk_spend_28
  · exact vx_throw0 (own := R_Walk) (cls := "java/lang/IndexOutOfBoundsException") (names := ["java/lang/RuntimeException", "java/lang/Exception"]) hx hb hl9 hown (by decide +kernel) (by decide +kernel) (hts _ w_847) (hts _ w_12) (hat hts hN xa_Walk_spend_10) xa_Walk_spend_10_g hZ.1 hZ.2 hS (hl.1.trans hml.symm) d_Walk_spend_10 d_Walk_spend_13 d_Walk_spend_14 d_Walk_spend_17 (fun x hx => (hex x hx).elim) (Nat.le_of_ble_eq_true rfl) (Nat.le_of_ble_eq_true rfl) (Nat.le_of_ble_eq_true rfl) (Nat.le_of_ble_eq_true rfl) hlocks (fun t ha hsz hk => ⟨(), (fun h => c7 (by rw [show (10000 : Int32) = nI 10000 from rfl, nI_ltI (by omega) (by omega)]; exact h)), ⟨rfl, hP.kept (fun k q hq => hk q.1 (hP k q hq).lt), va_K.moved ha hK, hD⟩, Nat.le_trans hS.1 hsz, fun q h1 h2 => (hk q (Nat.lt_of_lt_of_le h1 hS.1)).trans (hS.2.1 q h1 h2)⟩) hS.2.2 (Nat.le_of_ble_eq_true rfl) (Nat.le_of_ble_eq_true rfl)
abbrev b_Mo_worked : ByteArray := prog_14_method_52_code
def y_Mo_worked : MethodName := ⟨"QueryBenchModel", "worked", "()Z"⟩
abbrev k_Mo_worked : Cond := .code y_Mo_worked b_Mo_worked 1 (some .boolean)
theorem i_Mo_worked : k_Mo_worked ∈ gtbl := gt_in 1500 (by decide +kernel) (by decide +kernel)
theorem d_Mo_worked_0 : decode b_Mo_worked 0 = .ok (.aload_n 0, 1) := by decide +kernel
theorem d_Mo_worked_1 : decode b_Mo_worked 1 = .ok (.dup, 1) := by decide +kernel
theorem d_Mo_worked_2 : decode b_Mo_worked 2 = .ok (.getfield 342, 3) := by decide +kernel
theorem d_Mo_worked_5 : decode b_Mo_worked 5 = .ok (.iconst 1, 1) := by decide +kernel
theorem d_Mo_worked_6 : decode b_Mo_worked 6 = .ok (.iadd, 1) := by decide +kernel
theorem d_Mo_worked_7 : decode b_Mo_worked 7 = .ok (.putfield 342, 3) := by decide +kernel
theorem d_Mo_worked_10 : decode b_Mo_worked 10 = .ok (.aload_n 0, 1) := by decide +kernel
theorem d_Mo_worked_11 : decode b_Mo_worked 11 = .ok (.getfield 342, 3) := by decide +kernel
theorem d_Mo_worked_14 : decode b_Mo_worked 14 = .ok (.sipush 10000, 3) := by decide +kernel
theorem d_Mo_worked_17 : decode b_Mo_worked 17 = .ok (.if_icmp .le 8, 3) := by decide +kernel
theorem d_Mo_worked_20 : decode b_Mo_worked 20 = .ok (.aload_n 0, 1) := by decide +kernel
theorem d_Mo_worked_21 : decode b_Mo_worked 21 = .ok (.iconst 1, 1) := by decide +kernel
theorem d_Mo_worked_22 : decode b_Mo_worked 22 = .ok (.putfield 345, 3) := by decide +kernel
theorem d_Mo_worked_25 : decode b_Mo_worked 25 = .ok (.aload_n 0, 1) := by decide +kernel
theorem d_Mo_worked_26 : decode b_Mo_worked 26 = .ok (.getfield 345, 3) := by decide +kernel
theorem d_Mo_worked_29 : decode b_Mo_worked 29 = .ok (.ifCond .ne 7, 3) := by decide +kernel
theorem d_Mo_worked_32 : decode b_Mo_worked 32 = .ok (.iconst 1, 1) := by decide +kernel
theorem d_Mo_worked_33 : decode b_Mo_worked 33 = .ok (.goto 4, 3) := by decide +kernel
theorem d_Mo_worked_36 : decode b_Mo_worked 36 = .ok (.iconst 0, 1) := by decide +kernel
theorem d_Mo_worked_37 : decode b_Mo_worked 37 = .ok (.ireturn, 1) := by decide +kernel
set_option maxHeartbeats 4000000 in
set_option maxRecDepth 100000 in
/-- the reference: worked -/
theorem c_Mo_worked (l : Launch) (dC : Nat → ClassId) (dI : Nat → Nat → Nat) (mo : Nat) (sz : Heap) (v : Nat → Value) (d : Nat) (tm : Int32) (hd0 : d ≤ 1000000) (h26 : v 26 = .int (nI d)) (h27 : v 27 = .int tm) : Met l y_Mo_worked (k_Mo_worked :: gtbl) ({ frames := 0, cells := 0, slots := 0, locals := 0 }) (va_Pc [.ref mo] (mp dC dI [(mo, .inr (13, MF 30 v))] [] sz)) (va_Qi (fun (r : Int32) (u : Nat → Value) => (¬ d + 1 ≤ 10000 ∧ r = 0 ∧ u = va_up (va_up v 26 (.int (nI (d + 1)))) 27 (.int 1)) ∨ (d + 1 ≤ 10000 ∧ ¬ tm = 0 ∧ r = 0 ∧ u = va_up v 26 (.int (nI (d + 1)))) ∨ (d + 1 ≤ 10000 ∧ tm = 0 ∧ r = 1 ∧ u = va_up v 26 (.int (nI (d + 1))))) (fun u => mz dC dI [(mo, .inr (13, MF 30 u))] [] (va_A [(mo, .inr (13, MF 30 v))] sz.size)) (va_A [(mo, .inr (13, MF 30 v))] sz.size)) 0 0 (va_A [(mo, .inr (13, MF 30 v))] sz.size) := by
  refine Met.ofW (cc := b_Mo_worked) (maxL := 1) (ret := (some .boolean)) (by decide) rfl ?_
  intro p e s m args below meth c s₁ B hml hv
  obtain ⟨rfl, hsz, hP, hK, hD0⟩ := hv
  have hx := B.exec
  have hb := B.bytes
  have hr := B.returns
  have hts0 := atoms_spec (ws := k_Mo_worked :: gtbl) B.pre
  have hts := fun w h => hts0 w (List.mem_cons_of_mem _ h)
  have hown : s.vm.findClass R_Mo = some m.cls := findClass_of_methodNamed B.named
  have hlocks := B.notSynchronized
  subst hsz
  have hD := hD0.self (sz := s.heap.size)
  generalize hAe : va_A [(mo, .inr (13, MF 30 v))] s.heap.size = A at hD ⊢
  have hA : ∀ q : Nat, s.heap.size ≤ q → A q := fun q h => by rw [← hAe]; exact Or.inr h
  have hS : va_S A s.heap s.heap [] := va_S.rf
  have hP : va_P (dC, dI) classes [(mo, .inr (13, MF 30 v))] s.heap := hP
  have hl := lv_entry ([.ref mo]) (n := 1) (Nat.le_of_ble_eq_true rfl)
  rw [lg_entry_eq]
  generalize (lg_sl ([.ref mo]) ++ List.replicate (1 - (lg_sl ([.ref mo])).length) Slot.unset).toArray = ls at hl ⊢
  have hl : lv_has ls 1 [(0, .ref mo)] := hl
  refine lv_aload_n hx hb d_Mo_worked_0 rfl (lv_at hl 0 rfl) ?_
  refine lv_dup hx hb d_Mo_worked_1 rfl ?_
  refine va_get (D := (dC, dI)) (ci := 13) (v := .int (nI d)) (C := R_Mo) (T := F_Mo) (N := 30) hx hb hts in_Mo hown hK hP 0 rfl rfl 26 (by decide) (hts _ w_1115) (fun _ h9 => h9) (MFg (by decide) h26) d_Mo_worked_2 ?_
  refine lv_iconst (v := 1) hx hb d_Mo_worked_5 (by decide) ?_
  refine lv_iadd hx hb d_Mo_worked_6 ?_
  refine W.eq (g2 := F0 m 7 ls [.int (nI (d + 1)), .ref mo]) (by rw [show ((nI d) + 1) = (nI (d + 1)) from nI_1 _]) ?_
  refine va_put (D := (dC, dI)) (ci := 13) (v := .int (nI (d + 1))) (ty := .int) (C := R_Mo) (T := F_Mo) (N := 30) hx hb hts in_Mo t_Mo t_Mo_ok n_Mo hown hK hP hD hS 0 rfl rfl 26 (by decide) (hts _ w_1115) (fun _ h9 => h9) rfl (by decide +kernel) rfl rfl (by rw [MFl]; decide) d_Mo_worked_7 (fun H locs hP hD hS => ?_)
  rw [MFs (n := 30) (k := 26) (by decide)] at hP hD
  have hP : va_P (dC, dI) classes [(mo, .inr (13, MF 30 (va_up v 26 (.int (nI (d + 1))))))] H := hP
  have hD : va_D A [(mo, .inr (13, MF 30 (va_up v 26 (.int (nI (d + 1))))))] := hD
  refine lv_aload_n hx hb d_Mo_worked_10 rfl (lv_at hl 0 rfl) ?_
  refine va_get (D := (dC, dI)) (ci := 13) (v := .int (nI (d + 1))) (C := R_Mo) (T := F_Mo) (N := 30) hx hb hts in_Mo hown hK hP 0 rfl rfl 26 (by decide) (hts _ w_1115) (fun _ h9 => h9) (MFg (by decide) (va_up_self _ _ _)) d_Mo_worked_11 ?_
  refine lv_sipush (v := 10000) hx hb d_Mo_worked_14 (by decide) ?_
  refine lv_icmp_le (tgt := 25) hx hb d_Mo_worked_17 (by decide) (fun c17 => ?_) (fun c17 => ?_)
  · refine lv_aload_n hx hb d_Mo_worked_25 rfl (lv_at hl 0 rfl) ?_
    refine va_get (D := (dC, dI)) (ci := 13) (v := .int tm) (C := R_Mo) (T := F_Mo) (N := 30) hx hb hts in_Mo hown hK hP 0 rfl rfl 27 (by decide) (hts _ w_1116) (fun _ h9 => h9) (MFg (by decide) ((va_up_ne _ _ (by decide)).trans (h27))) d_Mo_worked_26 ?_
    refine lv_if_ne (tgt := 36) hx hb d_Mo_worked_29 (by decide) (fun c29 => ?_) (fun c29 => ?_)
    · refine lv_iconst (v := 0) hx hb d_Mo_worked_36 (by decide) ?_
      exact W.zret (v := 0) hx hb hr rfl (fun t ht hW => ⟨⟨0, va_up v 26 (.int (nI (d + 1))), rfl, Or.inr (Or.inl ⟨(by rw [show (10000 : Int32) = nI 10000 from rfl, nI_leI (by omega) (by omega)] at c17; exact c17), c29, rfl, rfl⟩), by rw [ht]; exact hP, va_K.moved hW.alike hK, hD⟩, hS.F ht⟩) hS.2.2 d_Mo_worked_37
    · refine lv_iconst (v := 1) hx hb d_Mo_worked_32 (by decide) ?_
      refine lv_goto (tgt := 37) hx hb d_Mo_worked_33 (by decide) ?_
      exact W.zret (v := 1) hx hb hr rfl (fun t ht hW => ⟨⟨1, va_up v 26 (.int (nI (d + 1))), rfl, Or.inr (Or.inr ⟨(by rw [show (10000 : Int32) = nI 10000 from rfl, nI_leI (by omega) (by omega)] at c17; exact c17), c29, rfl, rfl⟩), by rw [ht]; exact hP, va_K.moved hW.alike hK, hD⟩, hS.F ht⟩) hS.2.2 d_Mo_worked_37
  · refine lv_aload_n hx hb d_Mo_worked_20 rfl (lv_at hl 0 rfl) ?_
    refine lv_iconst (v := 1) hx hb d_Mo_worked_21 (by decide) ?_
    refine va_put (D := (dC, dI)) (ci := 13) (v := .int 1) (ty := .boolean) (C := R_Mo) (T := F_Mo) (N := 30) hx hb hts in_Mo t_Mo t_Mo_ok n_Mo hown hK hP hD hS 0 rfl rfl 27 (by decide) (hts _ w_1116) (fun _ h9 => h9) rfl (by decide +kernel) rfl rfl (by rw [MFl]; decide) d_Mo_worked_22 (fun H locs hP hD hS => ?_)
    rw [MFs (n := 30) (k := 27) (by decide)] at hP hD
    have hP : va_P (dC, dI) classes [(mo, .inr (13, MF 30 (va_up (va_up v 26 (.int (nI (d + 1)))) 27 (.int 1))))] H := hP
    have hD : va_D A [(mo, .inr (13, MF 30 (va_up (va_up v 26 (.int (nI (d + 1)))) 27 (.int 1))))] := hD
    refine lv_aload_n hx hb d_Mo_worked_25 rfl (lv_at hl 0 rfl) ?_
    refine va_get (D := (dC, dI)) (ci := 13) (v := .int 1) (C := R_Mo) (T := F_Mo) (N := 30) hx hb hts in_Mo hown hK hP 0 rfl rfl 27 (by decide) (hts _ w_1116) (fun _ h9 => h9) (MFg (by decide) (va_up_self _ _ _)) d_Mo_worked_26 ?_
    refine lv_if_ne (tgt := 36) hx hb d_Mo_worked_29 (by decide) (fun _ => ?_) (fun h => absurd h (by decide))
    refine lv_iconst (v := 0) hx hb d_Mo_worked_36 (by decide) ?_
    exact W.zret (v := 0) hx hb hr rfl (fun t ht hW => ⟨⟨0, va_up (va_up v 26 (.int (nI (d + 1)))) 27 (.int 1), rfl, Or.inl ⟨(fun h => c17 (by rw [show (10000 : Int32) = nI 10000 from rfl, nI_leI (by omega) (by omega)]; exact h)), rfl, rfl⟩, by rw [ht]; exact hP, va_K.moved hW.alike hK, hD⟩, hS.F ht⟩) hS.2.2 d_Mo_worked_37
