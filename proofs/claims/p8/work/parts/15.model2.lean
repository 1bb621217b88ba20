theorem w_1092 : (.fieldLink "QueryBenchModel" 130 "QueryBenchModel" "length" "I" : Cond) ∈ gtbl := gt_in 1092 (by decide +kernel) (by decide +kernel)
theorem w_1094 : (.fieldLink "QueryBenchModel" 16 "QueryBenchModel" "place" "I" : Cond) ∈ gtbl := gt_in 1094 (by decide +kernel) (by decide +kernel)
theorem w_1095 : (.fieldLink "QueryBenchModel" 141 "QueryBenchModel" "text" "[B" : Cond) ∈ gtbl := gt_in 1095 (by decide +kernel) (by decide +kernel)
theorem w_1096 : (.fieldLink "QueryBenchModel" 135 "QueryBenchModel" "at" "I" : Cond) ∈ gtbl := gt_in 1096 (by decide +kernel) (by decide +kernel)
theorem w_1097 : (.fieldLink "QueryBenchModel" 138 "QueryBenchModel" "stop" "I" : Cond) ∈ gtbl := gt_in 1097 (by decide +kernel) (by decide +kernel)
theorem w_1098 : (.fieldLink "QueryBenchModel" 144 "QueryBenchModel" "broken" "I" : Cond) ∈ gtbl := gt_in 1098 (by decide +kernel) (by decide +kernel)
abbrev b_Mo_used : ByteArray := prog_14_method_11_code
def y_Mo_used : MethodName := ⟨"QueryBenchModel", "used", "()I"⟩
abbrev k_Mo_used : Cond := .code y_Mo_used b_Mo_used 2 (some .int)
theorem i_Mo_used : k_Mo_used ∈ gtbl := gt_in 1216 (by decide +kernel) (by decide +kernel)
theorem d_Mo_used_0 : decode b_Mo_used 0 = .ok (.aload_n 0, 1) := by decide +kernel
theorem d_Mo_used_1 : decode b_Mo_used 1 = .ok (.getfield 119, 3) := by decide +kernel
theorem d_Mo_used_4 : decode b_Mo_used 4 = .ok (.istore_n 1, 1) := by decide +kernel
theorem d_Mo_used_5 : decode b_Mo_used 5 = .ok (.aload_n 0, 1) := by decide +kernel
theorem d_Mo_used_6 : decode b_Mo_used 6 = .ok (.iconst 0, 1) := by decide +kernel
theorem d_Mo_used_7 : decode b_Mo_used 7 = .ok (.putfield 119, 3) := by decide +kernel
theorem d_Mo_used_10 : decode b_Mo_used 10 = .ok (.iload_n 1, 1) := by decide +kernel
theorem d_Mo_used_11 : decode b_Mo_used 11 = .ok (.ireturn, 1) := by decide +kernel
set_option maxHeartbeats 4000000 in
set_option maxRecDepth 100000 in
/-- used() -/
theorem c_Mo_used (l : Launch) (dC : Nat → ClassId) (dI : Nat → Nat → Nat) (mo : Nat) (sz : Heap) (v : Nat → Value) (tv : Int32) (h1 : v 1 = .int tv) : Met l y_Mo_used (k_Mo_used :: gtbl) ({ frames := 0, cells := 0, slots := 0, locals := 0 }) (va_Pc [.ref mo] (mp dC dI [(mo, .inr (13, MF 30 v))] [] sz)) (va_Qi (fun (r : Int32) (u : Nat → Value) => r = tv ∧ u = va_up v 1 (.int 0)) (fun u => mz dC dI [(mo, .inr (13, MF 30 u))] [] (va_A [(mo, .inr (13, MF 30 v))] sz.size)) (va_A [(mo, .inr (13, MF 30 v))] sz.size)) 0 0 (va_A [(mo, .inr (13, MF 30 v))] sz.size) := by
  refine Met.ofW (cc := b_Mo_used) (maxL := 2) (ret := (some .int)) (by decide) rfl ?_
  intro p e s m args below meth c s₁ B hml hv
  obtain ⟨rfl, hsz, hP, hK, hD0⟩ := hv
  have hx := B.exec
  have hb := B.bytes
  have hr := B.returns
  have hts0 := atoms_spec (ws := k_Mo_used :: gtbl) B.pre
  have hts := fun w h => hts0 w (List.mem_cons_of_mem _ h)
  have hown : s.vm.findClass R_Mo = some m.cls := findClass_of_methodNamed B.named
  have hlocks := B.notSynchronized
  subst hsz
  have hD := hD0.self (sz := s.heap.size)
  generalize hAe : va_A [(mo, .inr (13, MF 30 v))] s.heap.size = A at hD ⊢
  have hA : ∀ q : Nat, s.heap.size ≤ q → A q := fun q h => by rw [← hAe]; exact Or.inr h
  have hS : va_S A s.heap s.heap [] := va_S.rf
  have hP : va_P (dC, dI) classes [(mo, .inr (13, MF 30 v))] s.heap := hP
  have hl := lv_entry ([.ref mo]) (n := 2) (Nat.le_of_ble_eq_true rfl)
  rw [lg_entry_eq]
  generalize (lg_sl ([.ref mo]) ++ List.replicate (2 - (lg_sl ([.ref mo])).length) Slot.unset).toArray = ls at hl ⊢
  have hl : lv_has ls 2 [(0, .ref mo)] := hl
  refine lv_aload_n hx hb d_Mo_used_0 rfl (lv_at hl 0 rfl) ?_
  refine va_get (D := (dC, dI)) (ci := 13) (v := .int tv) (C := R_Mo) (T := F_Mo) (N := 30) hx hb hts in_Mo hown hK hP 0 rfl rfl 1 (by decide) (hts _ w_1090) (fun _ h9 => h9) (MFg (by decide) h1) d_Mo_used_1 ?_
  refine lv_istore_n (lv' := [(1, .int tv), (0, .ref mo)]) hx hb d_Mo_used_4 rfl hl (by decide) rfl (fun ls hl => ?_)
  refine lv_aload_n hx hb d_Mo_used_5 rfl (lv_at hl 1 rfl) ?_
  refine lv_iconst (v := 0) hx hb d_Mo_used_6 (by decide) ?_
  refine va_put (D := (dC, dI)) (ci := 13) (v := .int 0) (ty := .int) (C := R_Mo) (T := F_Mo) (N := 30) hx hb hts in_Mo t_Mo t_Mo_ok n_Mo hown hK hP hD hS 0 rfl rfl 1 (by decide) (hts _ w_1090) (fun _ h9 => h9) rfl (by decide +kernel) rfl rfl (by rw [MFl]; decide) d_Mo_used_7 (fun H locs hP hD hS => ?_)
  rw [MFs (n := 30) (k := 1) (by decide)] at hP hD
  have hP : va_P (dC, dI) classes [(mo, .inr (13, MF 30 (va_up v 1 (.int 0))))] H := hP
  have hD : va_D A [(mo, .inr (13, MF 30 (va_up v 1 (.int 0))))] := hD
  refine lv_iload_n hx hb d_Mo_used_10 rfl (lv_at hl 0 rfl) ?_
  exact W.iret (v := tv) hx hb hr (fun t ht hW => ⟨⟨tv, va_up v 1 (.int 0), rfl, ⟨rfl, rfl⟩, by rw [ht]; exact hP, va_K.moved hW.alike hK, hD⟩, hS.F ht⟩) hS.2.2 d_Mo_used_11
abbrev b_Mo_end : ByteArray := prog_14_method_9_code
def y_Mo_end : MethodName := ⟨"QueryBenchModel", "end", "(I)I"⟩
abbrev k_Mo_end : Cond := .code y_Mo_end b_Mo_end 2 (some .int)
theorem i_Mo_end : k_Mo_end ∈ gtbl := gt_in 1199 (by decide +kernel) (by decide +kernel)
theorem d_Mo_end_0 : decode b_Mo_end 0 = .ok (.aload_n 0, 1) := by decide +kernel
theorem d_Mo_end_1 : decode b_Mo_end 1 = .ok (.iload_n 1, 1) := by decide +kernel
theorem d_Mo_end_2 : decode b_Mo_end 2 = .ok (.ifCond .lt 15, 3) := by decide +kernel
theorem d_Mo_end_5 : decode b_Mo_end 5 = .ok (.iload_n 1, 1) := by decide +kernel
theorem d_Mo_end_6 : decode b_Mo_end 6 = .ok (.aload_n 0, 1) := by decide +kernel
theorem d_Mo_end_7 : decode b_Mo_end 7 = .ok (.getfield 119, 3) := by decide +kernel
theorem d_Mo_end_10 : decode b_Mo_end 10 = .ok (.if_icmp .gt 7, 3) := by decide +kernel
theorem d_Mo_end_13 : decode b_Mo_end 13 = .ok (.iconst 1, 1) := by decide +kernel
theorem d_Mo_end_14 : decode b_Mo_end 14 = .ok (.goto 4, 3) := by decide +kernel
theorem d_Mo_end_17 : decode b_Mo_end 17 = .ok (.iconst 0, 1) := by decide +kernel
theorem d_Mo_end_18 : decode b_Mo_end 18 = .ok (.iconst 1, 1) := by decide +kernel
theorem d_Mo_end_19 : decode b_Mo_end 19 = .ok (.invokevirtual 122, 3) := by decide +kernel
theorem d_Mo_end_22 : decode b_Mo_end 22 = .ok (.ifCond .ne 5, 3) := by decide +kernel
theorem d_Mo_end_25 : decode b_Mo_end 25 = .ok (.iconst 0, 1) := by decide +kernel
theorem d_Mo_end_26 : decode b_Mo_end 26 = .ok (.ireturn, 1) := by decide +kernel
theorem d_Mo_end_27 : decode b_Mo_end 27 = .ok (.aload_n 0, 1) := by decide +kernel
theorem d_Mo_end_28 : decode b_Mo_end 28 = .ok (.iload_n 1, 1) := by decide +kernel
theorem d_Mo_end_29 : decode b_Mo_end 29 = .ok (.putfield 119, 3) := by decide +kernel
theorem d_Mo_end_32 : decode b_Mo_end 32 = .ok (.iload_n 1, 1) := by decide +kernel
theorem d_Mo_end_33 : decode b_Mo_end 33 = .ok (.ireturn, 1) := by decide +kernel
set_option maxHeartbeats 4000000 in
set_option maxRecDepth 100000 in
/-- the reference: end -/
theorem c_Mo_end (l : Launch) (dC : Nat → ClassId) (dI : Nat → Nat → Nat) (mo : Nat) (sz : Heap) (v : Nat → Value) (tv nn : Int32) (h1 : v 1 = .int tv) : Met l y_Mo_end (k_Mo_end :: gtbl) ({ frames := 1, cells := 0, slots := 0, locals := 24 }) (va_Pc [.ref mo, .int nn] (mp dC dI [(mo, .inr (13, MF 30 v))] [] sz)) (va_Qi (fun (r : Int32) (u : Nat → Value) => ((¬ nn < 0 ∧ nn ≤ tv) ∧ r = nn ∧ u = va_up (va_up v 4 (.int 0)) 1 (.int nn)) ∨ (¬ (¬ nn < 0 ∧ nn ≤ tv) ∧ r = 0 ∧ u = va_up v 4 (.int 1))) (fun u => mz dC dI [(mo, .inr (13, MF 30 u))] [] (va_A [(mo, .inr (13, MF 30 v))] sz.size)) (va_A [(mo, .inr (13, MF 30 v))] sz.size)) 0 0 (va_A [(mo, .inr (13, MF 30 v))] sz.size) := by
  refine Met.ofW (cc := b_Mo_end) (maxL := 2) (ret := (some .int)) (by decide) rfl ?_
  intro p e s m args below meth c s₁ B hml hv
  obtain ⟨rfl, hsz, hP, hK, hD0⟩ := hv
  have hx := B.exec
  have hb := B.bytes
  have hr := B.returns
  have hts0 := atoms_spec (ws := k_Mo_end :: gtbl) B.pre
  have hts := fun w h => hts0 w (List.mem_cons_of_mem _ h)
  have hown : s.vm.findClass R_Mo = some m.cls := findClass_of_methodNamed B.named
  have hlocks := B.notSynchronized
  subst hsz
  have hD := hD0.self (sz := s.heap.size)
  generalize hAe : va_A [(mo, .inr (13, MF 30 v))] s.heap.size = A at hD ⊢
  have hA : ∀ q : Nat, s.heap.size ≤ q → A q := fun q h => by rw [← hAe]; exact Or.inr h
  have hS : va_S A s.heap s.heap [] := va_S.rf
  have hP : va_P (dC, dI) classes [(mo, .inr (13, MF 30 v))] s.heap := hP
  have hl := lv_entry ([.ref mo, .int nn]) (n := 2) (Nat.le_of_ble_eq_true rfl)
  rw [lg_entry_eq]
  generalize (lg_sl ([.ref mo, .int nn]) ++ List.replicate (2 - (lg_sl ([.ref mo, .int nn])).length) Slot.unset).toArray = ls at hl ⊢
  have hl : lv_has ls 2 [(0, .ref mo), (1, .int nn)] := hl
  refine lv_aload_n hx hb d_Mo_end_0 rfl (lv_at hl 0 rfl) ?_
  refine lv_iload_n hx hb d_Mo_end_1 rfl (lv_at hl 1 rfl) ?_
  refine lv_if_lt (tgt := 17) hx hb d_Mo_end_2 (by decide) (fun c2 => ?_) (fun c2 => ?_)
  · refine lv_iconst (v := 0) hx hb d_Mo_end_17 (by decide) ?_
    refine lv_iconst (v := 1) hx hb d_Mo_end_18 (by decide) ?_
    have hPc := hP.sub (ws' := [(mo, .inr (13, MF 30 v))]) [0] rfl
    have hDc := hD.sub (ws' := [(mo, .inr (13, MF 30 v))]) [0] (by decide) rfl
    have hKc := hK.sub (tys' := []) [] rfl
    have hFc := va_free (wc := [(mo, .inr (13, MF 30 v))]) hD hS hA [0] rfl
    refine va_calli (va_runV (As := [.int 0, .int 1]) (rest := []) ⟨hx, hb, hml, hown, hts⟩ (c_Mo_good0 l dC dI mo s.heap v 1) (cwV 2 hts (gt_V (own := R_Mo) (C := R_Mo) (i := 122) (y := y_Mo_good) i_Mo_good w_1188 w_1190 (gt_sel (y := y_Mo_good) (n := 30) (by decide +kernel)) w_7) rfl rfl rfl (by decide +kernel) ⟨Nat.le_of_ble_eq_true rfl, Nat.le_of_ble_eq_true rfl⟩) ⟨mp_blind, va_recv hKc hPc (ci := 13) (q0 := 0) rfl rfl, fun U hU hW => ⟨rfl, hU, by rw [hU]; exact hPc, va_K.moved hW.alike hKc, hDc.weaken (fun _ _ _ _ => trivial)⟩⟩ rfl rfl hl.1 rfl (lv_room (Nat.le_of_ble_eq_true rfl)) d_Mo_end_19 ⟨Nat.le_of_ble_eq_true rfl, Nat.le_of_ble_eq_true rfl⟩) hS (fun q _ h => hFc q h) hFc (fun r u t H1 locs ht hvm hw hB hz1 hk1 hS => ?_)
    obtain ⟨hP1, hK1, hD1⟩ := hB
    rw [ht] at hP1
    obtain ⟨hP, hD⟩ := va_join (wr := []) (w1 := [(mo, .inr (13, MF 30 (va_up v 4 (.int 1))))]) hP hD [0] [] rfl rfl (by decide) (by decide) hk1 hFc hP1 hD1
    generalize H1 = H at hP hS ⊢
    have hP : va_P (dC, dI) classes [(mo, .inr (13, MF 30 (va_up v 4 (.int 1))))] H := hP
    have hD : va_D A [(mo, .inr (13, MF 30 (va_up v 4 (.int 1))))] := hD
    have hw : r = 0 := hw
    subst hw
    refine lv_if_ne (tgt := 27) hx hb d_Mo_end_22 (by decide) (fun h => absurd h (by decide)) (fun _ => ?_)
    refine lv_iconst (v := 0) hx hb d_Mo_end_25 (by decide) ?_
    exact W.iret (v := 0) hx hb hr (fun t ht hW => ⟨⟨0, va_up v 4 (.int 1), rfl, Or.inr ⟨(fun h => h.1 c2), rfl, rfl⟩, by rw [ht]; exact hP, va_K.moved hW.alike hK, hD⟩, hS.F ht⟩) hS.2.2 d_Mo_end_26
  · refine lv_iload_n hx hb d_Mo_end_5 rfl (lv_at hl 1 rfl) ?_
    refine lv_aload_n hx hb d_Mo_end_6 rfl (lv_at hl 0 rfl) ?_
    refine va_get (D := (dC, dI)) (ci := 13) (v := .int tv) (C := R_Mo) (T := F_Mo) (N := 30) hx hb hts in_Mo hown hK hP 0 rfl rfl 1 (by decide) (hts _ w_1090) (fun _ h9 => h9) (MFg (by decide) h1) d_Mo_end_7 ?_
    refine lv_icmp_gt (tgt := 17) hx hb d_Mo_end_10 (by decide) (fun c10 => ?_) (fun c10 => ?_)
    · refine lv_iconst (v := 0) hx hb d_Mo_end_17 (by decide) ?_
      refine lv_iconst (v := 1) hx hb d_Mo_end_18 (by decide) ?_
      have hPc := hP.sub (ws' := [(mo, .inr (13, MF 30 v))]) [0] rfl
      have hDc := hD.sub (ws' := [(mo, .inr (13, MF 30 v))]) [0] (by decide) rfl
      have hKc := hK.sub (tys' := []) [] rfl
      have hFc := va_free (wc := [(mo, .inr (13, MF 30 v))]) hD hS hA [0] rfl
      refine va_calli (va_runV (As := [.int 0, .int 1]) (rest := []) ⟨hx, hb, hml, hown, hts⟩ (c_Mo_good0 l dC dI mo s.heap v 1) (cwV 2 hts (gt_V (own := R_Mo) (C := R_Mo) (i := 122) (y := y_Mo_good) i_Mo_good w_1188 w_1190 (gt_sel (y := y_Mo_good) (n := 30) (by decide +kernel)) w_7) rfl rfl rfl (by decide +kernel) ⟨Nat.le_of_ble_eq_true rfl, Nat.le_of_ble_eq_true rfl⟩) ⟨mp_blind, va_recv hKc hPc (ci := 13) (q0 := 0) rfl rfl, fun U hU hW => ⟨rfl, hU, by rw [hU]; exact hPc, va_K.moved hW.alike hKc, hDc.weaken (fun _ _ _ _ => trivial)⟩⟩ rfl rfl hl.1 rfl (lv_room (Nat.le_of_ble_eq_true rfl)) d_Mo_end_19 ⟨Nat.le_of_ble_eq_true rfl, Nat.le_of_ble_eq_true rfl⟩) hS (fun q _ h => hFc q h) hFc (fun r u t H1 locs ht hvm hw hB hz1 hk1 hS => ?_)
      obtain ⟨hP1, hK1, hD1⟩ := hB
      rw [ht] at hP1
      obtain ⟨hP, hD⟩ := va_join (wr := []) (w1 := [(mo, .inr (13, MF 30 (va_up v 4 (.int 1))))]) hP hD [0] [] rfl rfl (by decide) (by decide) hk1 hFc hP1 hD1
      generalize H1 = H at hP hS ⊢
      have hP : va_P (dC, dI) classes [(mo, .inr (13, MF 30 (va_up v 4 (.int 1))))] H := hP
      have hD : va_D A [(mo, .inr (13, MF 30 (va_up v 4 (.int 1))))] := hD
      have hw : r = 0 := hw
      subst hw
      refine lv_if_ne (tgt := 27) hx hb d_Mo_end_22 (by decide) (fun h => absurd h (by decide)) (fun _ => ?_)
      refine lv_iconst (v := 0) hx hb d_Mo_end_25 (by decide) ?_
      exact W.iret (v := 0) hx hb hr (fun t ht hW => ⟨⟨0, va_up v 4 (.int 1), rfl, Or.inr ⟨(fun h => absurd c10 (Int32.not_lt.mpr h.2)), rfl, rfl⟩, by rw [ht]; exact hP, va_K.moved hW.alike hK, hD⟩, hS.F ht⟩) hS.2.2 d_Mo_end_26
    · refine lv_iconst (v := 1) hx hb d_Mo_end_13 (by decide) ?_
      refine lv_goto (tgt := 18) hx hb d_Mo_end_14 (by decide) ?_
      refine lv_iconst (v := 1) hx hb d_Mo_end_18 (by decide) ?_
      have hPc := hP.sub (ws' := [(mo, .inr (13, MF 30 v))]) [0] rfl
      have hDc := hD.sub (ws' := [(mo, .inr (13, MF 30 v))]) [0] (by decide) rfl
      have hKc := hK.sub (tys' := []) [] rfl
      have hFc := va_free (wc := [(mo, .inr (13, MF 30 v))]) hD hS hA [0] rfl
      refine va_calli (va_runV (As := [.int 1, .int 1]) (rest := []) ⟨hx, hb, hml, hown, hts⟩ (c_Mo_good1 l dC dI mo s.heap v 1) (cwV 2 hts (gt_V (own := R_Mo) (C := R_Mo) (i := 122) (y := y_Mo_good) i_Mo_good w_1188 w_1190 (gt_sel (y := y_Mo_good) (n := 30) (by decide +kernel)) w_7) rfl rfl rfl (by decide +kernel) ⟨Nat.le_of_ble_eq_true rfl, Nat.le_of_ble_eq_true rfl⟩) ⟨mp_blind, va_recv hKc hPc (ci := 13) (q0 := 0) rfl rfl, fun U hU hW => ⟨rfl, hU, by rw [hU]; exact hPc, va_K.moved hW.alike hKc, hDc.weaken (fun _ _ _ _ => trivial)⟩⟩ rfl rfl hl.1 rfl (lv_room (Nat.le_of_ble_eq_true rfl)) d_Mo_end_19 ⟨Nat.le_of_ble_eq_true rfl, Nat.le_of_ble_eq_true rfl⟩) hS (fun q _ h => hFc q h) hFc (fun r u t H1 locs ht hvm hw hB hz1 hk1 hS => ?_)
      obtain ⟨hP1, hK1, hD1⟩ := hB
      rw [ht] at hP1
      obtain ⟨hP, hD⟩ := va_join (wr := []) (w1 := [(mo, .inr (13, MF 30 (va_up v 4 (.int 0))))]) hP hD [0] [] rfl rfl (by decide) (by decide) hk1 hFc hP1 hD1
      generalize H1 = H at hP hS ⊢
      have hP : va_P (dC, dI) classes [(mo, .inr (13, MF 30 (va_up v 4 (.int 0))))] H := hP
      have hD : va_D A [(mo, .inr (13, MF 30 (va_up v 4 (.int 0))))] := hD
      have hw : r = 1 := hw
      subst hw
      refine lv_if_ne (tgt := 27) hx hb d_Mo_end_22 (by decide) (fun _ => ?_) (fun h => absurd h (by decide))
      refine lv_aload_n hx hb d_Mo_end_27 rfl (lv_at hl 0 rfl) ?_
      refine lv_iload_n hx hb d_Mo_end_28 rfl (lv_at hl 1 rfl) ?_
      refine va_put (D := (dC, dI)) (ci := 13) (v := .int nn) (ty := .int) (C := R_Mo) (T := F_Mo) (N := 30) hx hb hts in_Mo t_Mo t_Mo_ok n_Mo hown hK hP hD hS 0 rfl rfl 1 (by decide) (hts _ w_1090) (fun _ h9 => h9) rfl (by decide +kernel) rfl rfl (by rw [MFl]; decide) d_Mo_end_29 (fun H locs hP hD hS => ?_)
      rw [MFs (n := 30) (k := 1) (by decide)] at hP hD
      have hP : va_P (dC, dI) classes [(mo, .inr (13, MF 30 (va_up (va_up v 4 (.int 0)) 1 (.int nn))))] H := hP
      have hD : va_D A [(mo, .inr (13, MF 30 (va_up (va_up v 4 (.int 0)) 1 (.int nn))))] := hD
      refine lv_iload_n hx hb d_Mo_end_32 rfl (lv_at hl 1 rfl) ?_
      exact W.iret (v := nn) hx hb hr (fun t ht hW => ⟨⟨nn, va_up (va_up v 4 (.int 0)) 1 (.int nn), rfl, Or.inl ⟨⟨c2, Int32.not_lt.mp c10⟩, rfl, rfl⟩, by rw [ht]; exact hP, va_K.moved hW.alike hK, hD⟩, hS.F ht⟩) hS.2.2 d_Mo_end_33
abbrev b_Mo_count : ByteArray := prog_14_method_12_code
def y_Mo_count : MethodName := ⟨"QueryBenchModel", "count", "(I)I"⟩
abbrev k_Mo_count : Cond := .code y_Mo_count b_Mo_count 2 (some .int)
theorem i_Mo_count : k_Mo_count ∈ gtbl := gt_in 1208 (by decide +kernel) (by decide +kernel)
theorem d_Mo_count_0 : decode b_Mo_count 0 = .ok (.aload_n 0, 1) := by decide +kernel
theorem d_Mo_count_1 : decode b_Mo_count 1 = .ok (.iload_n 1, 1) := by decide +kernel
theorem d_Mo_count_2 : decode b_Mo_count 2 = .ok (.ifCond .lt 12, 3) := by decide +kernel
theorem d_Mo_count_5 : decode b_Mo_count 5 = .ok (.iload_n 1, 1) := by decide +kernel
theorem d_Mo_count_6 : decode b_Mo_count 6 = .ok (.iconst 2, 1) := by decide +kernel
theorem d_Mo_count_7 : decode b_Mo_count 7 = .ok (.if_icmp .gt 7, 3) := by decide +kernel
theorem d_Mo_count_10 : decode b_Mo_count 10 = .ok (.iconst 1, 1) := by decide +kernel
theorem d_Mo_count_11 : decode b_Mo_count 11 = .ok (.goto 4, 3) := by decide +kernel
theorem d_Mo_count_14 : decode b_Mo_count 14 = .ok (.iconst 0, 1) := by decide +kernel
theorem d_Mo_count_15 : decode b_Mo_count 15 = .ok (.iconst 1, 1) := by decide +kernel
theorem d_Mo_count_16 : decode b_Mo_count 16 = .ok (.invokevirtual 122, 3) := by decide +kernel
theorem d_Mo_count_19 : decode b_Mo_count 19 = .ok (.ifCond .ne 5, 3) := by decide +kernel
theorem d_Mo_count_22 : decode b_Mo_count 22 = .ok (.iconst 0, 1) := by decide +kernel
theorem d_Mo_count_23 : decode b_Mo_count 23 = .ok (.ireturn, 1) := by decide +kernel
theorem d_Mo_count_24 : decode b_Mo_count 24 = .ok (.iload_n 1, 1) := by decide +kernel
theorem d_Mo_count_25 : decode b_Mo_count 25 = .ok (.ifCond .ne 10, 3) := by decide +kernel
theorem d_Mo_count_28 : decode b_Mo_count 28 = .ok (.aload_n 0, 1) := by decide +kernel
theorem d_Mo_count_29 : decode b_Mo_count 29 = .ok (.getfield 119, 3) := by decide +kernel
theorem d_Mo_count_32 : decode b_Mo_count 32 = .ok (.goto 19, 3) := by decide +kernel
theorem d_Mo_count_35 : decode b_Mo_count 35 = .ok (.iload_n 1, 1) := by decide +kernel
theorem d_Mo_count_36 : decode b_Mo_count 36 = .ok (.iconst 1, 1) := by decide +kernel
theorem d_Mo_count_37 : decode b_Mo_count 37 = .ok (.if_icmp .ne 10, 3) := by decide +kernel
theorem d_Mo_count_40 : decode b_Mo_count 40 = .ok (.aload_n 0, 1) := by decide +kernel
theorem d_Mo_count_41 : decode b_Mo_count 41 = .ok (.getfield 130, 3) := by decide +kernel
theorem d_Mo_count_44 : decode b_Mo_count 44 = .ok (.goto 7, 3) := by decide +kernel
theorem d_Mo_count_47 : decode b_Mo_count 47 = .ok (.aload_n 0, 1) := by decide +kernel
theorem d_Mo_count_48 : decode b_Mo_count 48 = .ok (.getfield 16, 3) := by decide +kernel
theorem d_Mo_count_51 : decode b_Mo_count 51 = .ok (.ireturn, 1) := by decide +kernel
set_option maxHeartbeats 4000000 in
set_option maxRecDepth 100000 in
/-- the reference: count -/
theorem c_Mo_count (l : Launch) (dC : Nat → ClassId) (dI : Nat → Nat → Nat) (mo : Nat) (sz : Heap) (v : Nat → Value) (tv lv_ pv nn : Int32) (h1 : v 1 = .int tv) (h3 : v 3 = .int lv_) (h5 : v 5 = .int pv) : Met l y_Mo_count (k_Mo_count :: gtbl) ({ frames := 1, cells := 0, slots := 0, locals := 24 }) (va_Pc [.ref mo, .int nn] (mp dC dI [(mo, .inr (13, MF 30 v))] [] sz)) (va_Qi (fun (r : Int32) (u : Nat → Value) => ((¬ nn < 0 ∧ nn ≤ 2) ∧ r = (if nn = 0 then tv else if nn = 1 then lv_ else pv) ∧ u = va_up v 4 (.int 0)) ∨ (¬ (¬ nn < 0 ∧ nn ≤ 2) ∧ r = 0 ∧ u = va_up v 4 (.int 1))) (fun u => mz dC dI [(mo, .inr (13, MF 30 u))] [] (va_A [(mo, .inr (13, MF 30 v))] sz.size)) (va_A [(mo, .inr (13, MF 30 v))] sz.size)) 0 0 (va_A [(mo, .inr (13, MF 30 v))] sz.size) := by
  refine Met.ofW (cc := b_Mo_count) (maxL := 2) (ret := (some .int)) (by decide) rfl ?_
  intro p e s m args below meth c s₁ B hml hv
  obtain ⟨rfl, hsz, hP, hK, hD0⟩ := hv
  have hx := B.exec
  have hb := B.bytes
  have hr := B.returns
  have hts0 := atoms_spec (ws := k_Mo_count :: gtbl) B.pre
  have hts := fun w h => hts0 w (List.mem_cons_of_mem _ h)
  have hown : s.vm.findClass R_Mo = some m.cls := findClass_of_methodNamed B.named
  have hlocks := B.notSynchronized
  subst hsz
  have hD := hD0.self (sz := s.heap.size)
  generalize hAe : va_A [(mo, .inr (13, MF 30 v))] s.heap.size = A at hD ⊢
  have hA : ∀ q : Nat, s.heap.size ≤ q → A q := fun q h => by rw [← hAe]; exact Or.inr h
  have hS : va_S A s.heap s.heap [] := va_S.rf
  have hP : va_P (dC, dI) classes [(mo, .inr (13, MF 30 v))] s.heap := hP
  have hl := lv_entry ([.ref mo, .int nn]) (n := 2) (Nat.le_of_ble_eq_true rfl)
  rw [lg_entry_eq]
  generalize (lg_sl ([.ref mo, .int nn]) ++ List.replicate (2 - (lg_sl ([.ref mo, .int nn])).length) Slot.unset).toArray = ls at hl ⊢
  have hl : lv_has ls 2 [(0, .ref mo), (1, .int nn)] := hl
  refine lv_aload_n hx hb d_Mo_count_0 rfl (lv_at hl 0 rfl) ?_
  refine lv_iload_n hx hb d_Mo_count_1 rfl (lv_at hl 1 rfl) ?_
  refine lv_if_lt (tgt := 14) hx hb d_Mo_count_2 (by decide) (fun c2 => ?_) (fun c2 => ?_)
  · refine lv_iconst (v := 0) hx hb d_Mo_count_14 (by decide) ?_
    refine lv_iconst (v := 1) hx hb d_Mo_count_15 (by decide) ?_
    have hPc := hP.sub (ws' := [(mo, .inr (13, MF 30 v))]) [0] rfl
    have hDc := hD.sub (ws' := [(mo, .inr (13, MF 30 v))]) [0] (by decide) rfl
    have hKc := hK.sub (tys' := []) [] rfl
    have hFc := va_free (wc := [(mo, .inr (13, MF 30 v))]) hD hS hA [0] rfl
    refine va_calli (va_runV (As := [.int 0, .int 1]) (rest := []) ⟨hx, hb, hml, hown, hts⟩ (c_Mo_good0 l dC dI mo s.heap v 1) (cwV 2 hts (gt_V (own := R_Mo) (C := R_Mo) (i := 122) (y := y_Mo_good) i_Mo_good w_1188 w_1190 (gt_sel (y := y_Mo_good) (n := 30) (by decide +kernel)) w_7) rfl rfl rfl (by decide +kernel) ⟨Nat.le_of_ble_eq_true rfl, Nat.le_of_ble_eq_true rfl⟩) ⟨mp_blind, va_recv hKc hPc (ci := 13) (q0 := 0) rfl rfl, fun U hU hW => ⟨rfl, hU, by rw [hU]; exact hPc, va_K.moved hW.alike hKc, hDc.weaken (fun _ _ _ _ => trivial)⟩⟩ rfl rfl hl.1 rfl (lv_room (Nat.le_of_ble_eq_true rfl)) d_Mo_count_16 ⟨Nat.le_of_ble_eq_true rfl, Nat.le_of_ble_eq_true rfl⟩) hS (fun q _ h => hFc q h) hFc (fun r u t H1 locs ht hvm hw hB hz1 hk1 hS => ?_)
    obtain ⟨hP1, hK1, hD1⟩ := hB
    rw [ht] at hP1
    obtain ⟨hP, hD⟩ := va_join (wr := []) (w1 := [(mo, .inr (13, MF 30 (va_up v 4 (.int 1))))]) hP hD [0] [] rfl rfl (by decide) (by decide) hk1 hFc hP1 hD1
    generalize H1 = H at hP hS ⊢
    have hP : va_P (dC, dI) classes [(mo, .inr (13, MF 30 (va_up v 4 (.int 1))))] H := hP
    have hD : va_D A [(mo, .inr (13, MF 30 (va_up v 4 (.int 1))))] := hD
    have hw : r = 0 := hw
    subst hw
    refine lv_if_ne (tgt := 24) hx hb d_Mo_count_19 (by decide) (fun h => absurd h (by decide)) (fun _ => ?_)
    refine lv_iconst (v := 0) hx hb d_Mo_count_22 (by decide) ?_
    exact W.iret (v := 0) hx hb hr (fun t ht hW => ⟨⟨0, va_up v 4 (.int 1), rfl, Or.inr ⟨(fun h => h.1 c2), rfl, rfl⟩, by rw [ht]; exact hP, va_K.moved hW.alike hK, hD⟩, hS.F ht⟩) hS.2.2 d_Mo_count_23
  · refine lv_iload_n hx hb d_Mo_count_5 rfl (lv_at hl 1 rfl) ?_
    refine lv_iconst (v := 2) hx hb d_Mo_count_6 (by decide) ?_
    refine lv_icmp_gt (tgt := 14) hx hb d_Mo_count_7 (by decide) (fun c7 => ?_) (fun c7 => ?_)
    · refine lv_iconst (v := 0) hx hb d_Mo_count_14 (by decide) ?_
      refine lv_iconst (v := 1) hx hb d_Mo_count_15 (by decide) ?_
      have hPc := hP.sub (ws' := [(mo, .inr (13, MF 30 v))]) [0] rfl
      have hDc := hD.sub (ws' := [(mo, .inr (13, MF 30 v))]) [0] (by decide) rfl
      have hKc := hK.sub (tys' := []) [] rfl
      have hFc := va_free (wc := [(mo, .inr (13, MF 30 v))]) hD hS hA [0] rfl
      refine va_calli (va_runV (As := [.int 0, .int 1]) (rest := []) ⟨hx, hb, hml, hown, hts⟩ (c_Mo_good0 l dC dI mo s.heap v 1) (cwV 2 hts (gt_V (own := R_Mo) (C := R_Mo) (i := 122) (y := y_Mo_good) i_Mo_good w_1188 w_1190 (gt_sel (y := y_Mo_good) (n := 30) (by decide +kernel)) w_7) rfl rfl rfl (by decide +kernel) ⟨Nat.le_of_ble_eq_true rfl, Nat.le_of_ble_eq_true rfl⟩) ⟨mp_blind, va_recv hKc hPc (ci := 13) (q0 := 0) rfl rfl, fun U hU hW => ⟨rfl, hU, by rw [hU]; exact hPc, va_K.moved hW.alike hKc, hDc.weaken (fun _ _ _ _ => trivial)⟩⟩ rfl rfl hl.1 rfl (lv_room (Nat.le_of_ble_eq_true rfl)) d_Mo_count_16 ⟨Nat.le_of_ble_eq_true rfl, Nat.le_of_ble_eq_true rfl⟩) hS (fun q _ h => hFc q h) hFc (fun r u t H1 locs ht hvm hw hB hz1 hk1 hS => ?_)
      obtain ⟨hP1, hK1, hD1⟩ := hB
      rw [ht] at hP1
      obtain ⟨hP, hD⟩ := va_join (wr := []) (w1 := [(mo, .inr (13, MF 30 (va_up v 4 (.int 1))))]) hP hD [0] [] rfl rfl (by decide) (by decide) hk1 hFc hP1 hD1
      generalize H1 = H at hP hS ⊢
      have hP : va_P (dC, dI) classes [(mo, .inr (13, MF 30 (va_up v 4 (.int 1))))] H := hP
      have hD : va_D A [(mo, .inr (13, MF 30 (va_up v 4 (.int 1))))] := hD
      have hw : r = 0 := hw
      subst hw
      refine lv_if_ne (tgt := 24) hx hb d_Mo_count_19 (by decide) (fun h => absurd h (by decide)) (fun _ => ?_)
      refine lv_iconst (v := 0) hx hb d_Mo_count_22 (by decide) ?_
      exact W.iret (v := 0) hx hb hr (fun t ht hW => ⟨⟨0, va_up v 4 (.int 1), rfl, Or.inr ⟨(fun h => absurd c7 (Int32.not_lt.mpr h.2)), rfl, rfl⟩, by rw [ht]; exact hP, va_K.moved hW.alike hK, hD⟩, hS.F ht⟩) hS.2.2 d_Mo_count_23
    · refine lv_iconst (v := 1) hx hb d_Mo_count_10 (by decide) ?_
      refine lv_goto (tgt := 15) hx hb d_Mo_count_11 (by decide) ?_
      refine lv_iconst (v := 1) hx hb d_Mo_count_15 (by decide) ?_
      have hPc := hP.sub (ws' := [(mo, .inr (13, MF 30 v))]) [0] rfl
      have hDc := hD.sub (ws' := [(mo, .inr (13, MF 30 v))]) [0] (by decide) rfl
      have hKc := hK.sub (tys' := []) [] rfl
      have hFc := va_free (wc := [(mo, .inr (13, MF 30 v))]) hD hS hA [0] rfl
      refine va_calli (va_runV (As := [.int 1, .int 1]) (rest := []) ⟨hx, hb, hml, hown, hts⟩ (c_Mo_good1 l dC dI mo s.heap v 1) (cwV 2 hts (gt_V (own := R_Mo) (C := R_Mo) (i := 122) (y := y_Mo_good) i_Mo_good w_1188 w_1190 (gt_sel (y := y_Mo_good) (n := 30) (by decide +kernel)) w_7) rfl rfl rfl (by decide +kernel) ⟨Nat.le_of_ble_eq_true rfl, Nat.le_of_ble_eq_true rfl⟩) ⟨mp_blind, va_recv hKc hPc (ci := 13) (q0 := 0) rfl rfl, fun U hU hW => ⟨rfl, hU, by rw [hU]; exact hPc, va_K.moved hW.alike hKc, hDc.weaken (fun _ _ _ _ => trivial)⟩⟩ rfl rfl hl.1 rfl (lv_room (Nat.le_of_ble_eq_true rfl)) d_Mo_count_16 ⟨Nat.le_of_ble_eq_true rfl, Nat.le_of_ble_eq_true rfl⟩) hS (fun q _ h => hFc q h) hFc (fun r u t H1 locs ht hvm hw hB hz1 hk1 hS => ?_)
      obtain ⟨hP1, hK1, hD1⟩ := hB
      rw [ht] at hP1
      obtain ⟨hP, hD⟩ := va_join (wr := []) (w1 := [(mo, .inr (13, MF 30 (va_up v 4 (.int 0))))]) hP hD [0] [] rfl rfl (by decide) (by decide) hk1 hFc hP1 hD1
      generalize H1 = H at hP hS ⊢
      have hP : va_P (dC, dI) classes [(mo, .inr (13, MF 30 (va_up v 4 (.int 0))))] H := hP
      have hD : va_D A [(mo, .inr (13, MF 30 (va_up v 4 (.int 0))))] := hD
      have hw : r = 1 := hw
      subst hw
      refine lv_if_ne (tgt := 24) hx hb d_Mo_count_19 (by decide) (fun _ => ?_) (fun h => absurd h (by decide))
      refine lv_iload_n hx hb d_Mo_count_24 rfl (lv_at hl 1 rfl) ?_
      refine lv_if_ne (tgt := 35) hx hb d_Mo_count_25 (by decide) (fun c25 => ?_) (fun c25 => ?_)
      · refine lv_iload_n hx hb d_Mo_count_35 rfl (lv_at hl 1 rfl) ?_
        refine lv_iconst (v := 1) hx hb d_Mo_count_36 (by decide) ?_
        refine lv_icmp_ne (tgt := 47) hx hb d_Mo_count_37 (by decide) (fun c37 => ?_) (fun c37 => ?_)
        · refine lv_aload_n hx hb d_Mo_count_47 rfl (lv_at hl 0 rfl) ?_
          refine va_get (D := (dC, dI)) (ci := 13) (v := .int pv) (C := R_Mo) (T := F_Mo) (N := 30) hx hb hts in_Mo hown hK hP 0 rfl rfl 5 (by decide) (hts _ w_1094) (fun _ h9 => h9) (MFg (by decide) ((va_up_ne _ _ (by decide)).trans (h5))) d_Mo_count_48 ?_
          exact W.iret (v := pv) hx hb hr (fun t ht hW => ⟨⟨pv, va_up v 4 (.int 0), rfl, Or.inl ⟨⟨c2, Int32.not_lt.mp c7⟩, by rw [if_neg c25, if_neg c37], rfl⟩, by rw [ht]; exact hP, va_K.moved hW.alike hK, hD⟩, hS.F ht⟩) hS.2.2 d_Mo_count_51
        · refine lv_aload_n hx hb d_Mo_count_40 rfl (lv_at hl 0 rfl) ?_
          refine va_get (D := (dC, dI)) (ci := 13) (v := .int lv_) (C := R_Mo) (T := F_Mo) (N := 30) hx hb hts in_Mo hown hK hP 0 rfl rfl 3 (by decide) (hts _ w_1092) (fun _ h9 => h9) (MFg (by decide) ((va_up_ne _ _ (by decide)).trans (h3))) d_Mo_count_41 ?_
          refine lv_goto (tgt := 51) hx hb d_Mo_count_44 (by decide) ?_
          exact W.iret (v := lv_) hx hb hr (fun t ht hW => ⟨⟨lv_, va_up v 4 (.int 0), rfl, Or.inl ⟨⟨c2, Int32.not_lt.mp c7⟩, by rw [if_neg c25, if_pos c37], rfl⟩, by rw [ht]; exact hP, va_K.moved hW.alike hK, hD⟩, hS.F ht⟩) hS.2.2 d_Mo_count_51
      · refine lv_aload_n hx hb d_Mo_count_28 rfl (lv_at hl 0 rfl) ?_
        refine va_get (D := (dC, dI)) (ci := 13) (v := .int tv) (C := R_Mo) (T := F_Mo) (N := 30) hx hb hts in_Mo hown hK hP 0 rfl rfl 1 (by decide) (hts _ w_1090) (fun _ h9 => h9) (MFg (by decide) ((va_up_ne _ _ (by decide)).trans (h1))) d_Mo_count_29 ?_
        refine lv_goto (tgt := 51) hx hb d_Mo_count_32 (by decide) ?_
        exact W.iret (v := tv) hx hb hr (fun t ht hW => ⟨⟨tv, va_up v 4 (.int 0), rfl, Or.inl ⟨⟨c2, Int32.not_lt.mp c7⟩, by rw [if_pos c25], rfl⟩, by rw [ht]; exact hP, va_K.moved hW.alike hK, hD⟩, hS.F ht⟩) hS.2.2 d_Mo_count_51
abbrev b_Mo_c : ByteArray := prog_14_method_13_code
def y_Mo_c : MethodName := ⟨"QueryBenchModel", "c", "()I"⟩
abbrev k_Mo_c : Cond := .code y_Mo_c b_Mo_c 1 (some .int)
theorem i_Mo_c : k_Mo_c ∈ gtbl := gt_in 1236 (by decide +kernel) (by decide +kernel)
theorem d_Mo_c_0 : decode b_Mo_c 0 = .ok (.aload_n 0, 1) := by decide +kernel
theorem d_Mo_c_1 : decode b_Mo_c 1 = .ok (.getfield 135, 3) := by decide +kernel
theorem d_Mo_c_4 : decode b_Mo_c 4 = .ok (.aload_n 0, 1) := by decide +kernel
theorem d_Mo_c_5 : decode b_Mo_c 5 = .ok (.getfield 138, 3) := by decide +kernel
theorem d_Mo_c_8 : decode b_Mo_c 8 = .ok (.if_icmp .ge 19, 3) := by decide +kernel
theorem d_Mo_c_11 : decode b_Mo_c 11 = .ok (.aload_n 0, 1) := by decide +kernel
theorem d_Mo_c_12 : decode b_Mo_c 12 = .ok (.getfield 141, 3) := by decide +kernel
theorem d_Mo_c_15 : decode b_Mo_c 15 = .ok (.aload_n 0, 1) := by decide +kernel
theorem d_Mo_c_16 : decode b_Mo_c 16 = .ok (.getfield 135, 3) := by decide +kernel
theorem d_Mo_c_19 : decode b_Mo_c 19 = .ok (.baload, 1) := by decide +kernel
theorem d_Mo_c_20 : decode b_Mo_c 20 = .ok (.sipush 255, 3) := by decide +kernel
theorem d_Mo_c_23 : decode b_Mo_c 23 = .ok (.iand, 1) := by decide +kernel
theorem d_Mo_c_24 : decode b_Mo_c 24 = .ok (.goto 4, 3) := by decide +kernel
theorem d_Mo_c_27 : decode b_Mo_c 27 = .ok (.iconst (-1), 1) := by decide +kernel
theorem d_Mo_c_28 : decode b_Mo_c 28 = .ok (.ireturn, 1) := by decide +kernel
set_option maxHeartbeats 4000000 in
set_option maxRecDepth 100000 in
/-- the reference: c() -/
theorem c_Mo_c (l : Launch) (dC : Nat → ClassId) (dI : Nat → Nat → Nat) (mo : Nat) (sz : Heap) (v : Nat → Value) (cB : ClassId) (qx NN : Nat) (f : Nat → Int32) (n i : Nat) (hnN : n ≤ NN) (hNN : NN ≤ 1000000) (hi0 : i ≤ 1000000) (h6 : v 6 = .ref qx) (h7 : v 7 = .int (nI i)) (h8 : v 8 = .int (nI n)) : Met l y_Mo_c (k_Mo_c :: gtbl) ({ frames := 0, cells := 0, slots := 0, locals := 0 }) (va_Pc [.ref mo] (mp dC dI [(mo, .inr (13, MF 30 v)), (qx, .inl (cB, NN, .inl f))] [(cB, .byte)] sz)) (va_Qi (fun (r : Int32) (_ : Unit) => r = hereV f n i) (fun _ => mz dC dI [(mo, .inr (13, MF 30 v)), (qx, .inl (cB, NN, .inl f))] [(cB, .byte)] (va_A [(mo, .inr (13, MF 30 v)), (qx, .inl (cB, NN, .inl f))] sz.size)) (va_A [(mo, .inr (13, MF 30 v)), (qx, .inl (cB, NN, .inl f))] sz.size)) 0 0 (va_A [(mo, .inr (13, MF 30 v)), (qx, .inl (cB, NN, .inl f))] sz.size) := by
  refine Met.ofW (cc := b_Mo_c) (maxL := 1) (ret := (some .int)) (by decide) rfl ?_
  intro p e s m args below meth c s₁ B hml hv
  obtain ⟨rfl, hsz, hP, hK, hD0⟩ := hv
  have hx := B.exec
  have hb := B.bytes
  have hr := B.returns
  have hts0 := atoms_spec (ws := k_Mo_c :: gtbl) B.pre
  have hts := fun w h => hts0 w (List.mem_cons_of_mem _ h)
  have hown : s.vm.findClass R_Mo = some m.cls := findClass_of_methodNamed B.named
  have hlocks := B.notSynchronized
  subst hsz
  have hD := hD0.self (sz := s.heap.size)
  generalize hAe : va_A [(mo, .inr (13, MF 30 v)), (qx, .inl (cB, NN, .inl f))] s.heap.size = A at hD ⊢
  have hA : ∀ q : Nat, s.heap.size ≤ q → A q := fun q h => by rw [← hAe]; exact Or.inr h
  have hS : va_S A s.heap s.heap [] := va_S.rf
  have hP : va_P (dC, dI) classes [(mo, .inr (13, MF 30 v)), (qx, .inl (cB, NN, .inl f))] s.heap := hP
  have hl := lv_entry ([.ref mo]) (n := 1) (Nat.le_of_ble_eq_true rfl)
  rw [lg_entry_eq]
  generalize (lg_sl ([.ref mo]) ++ List.replicate (1 - (lg_sl ([.ref mo])).length) Slot.unset).toArray = ls at hl ⊢
  have hl : lv_has ls 1 [(0, .ref mo)] := hl
  refine lv_aload_n hx hb d_Mo_c_0 rfl (lv_at hl 0 rfl) ?_
  refine va_get (D := (dC, dI)) (ci := 13) (v := .int (nI i)) (C := R_Mo) (T := F_Mo) (N := 30) hx hb hts in_Mo hown hK hP 0 rfl rfl 7 (by decide) (hts _ w_1096) (fun _ h9 => h9) (MFg (by decide) h7) d_Mo_c_1 ?_
  refine lv_aload_n hx hb d_Mo_c_4 rfl (lv_at hl 0 rfl) ?_
  refine va_get (D := (dC, dI)) (ci := 13) (v := .int (nI n)) (C := R_Mo) (T := F_Mo) (N := 30) hx hb hts in_Mo hown hK hP 0 rfl rfl 8 (by decide) (hts _ w_1097) (fun _ h9 => h9) (MFg (by decide) h8) d_Mo_c_5 ?_
  refine lv_icmp_ge (tgt := 27) hx hb d_Mo_c_8 (by decide) (fun c8 => ?_) (fun c8 => ?_)
  · refine lv_iconst (v := (-1)) hx hb d_Mo_c_27 (by decide) ?_
    exact W.iret (v := (-1)) hx hb hr (fun t ht hW => ⟨⟨(-1), (), rfl, by unfold hereV; rw [if_neg (fun h => absurd c8 (by rw [nI_leI (by omega) (by omega)]; omega))], by rw [ht]; exact hP, va_K.moved hW.alike hK, hD⟩, hS.F ht⟩) hS.2.2 d_Mo_c_28
  · refine lv_aload_n hx hb d_Mo_c_11 rfl (lv_at hl 0 rfl) ?_
    refine va_get (D := (dC, dI)) (ci := 13) (v := .ref qx) (C := R_Mo) (T := F_Mo) (N := 30) hx hb hts in_Mo hown hK hP 0 rfl rfl 6 (by decide) (hts _ w_1095) (fun _ h9 => h9) (MFg (by decide) h6) d_Mo_c_12 ?_
    refine lv_aload_n hx hb d_Mo_c_15 rfl (lv_at hl 0 rfl) ?_
    refine va_get (D := (dC, dI)) (ci := 13) (v := .int (nI i)) (C := R_Mo) (T := F_Mo) (N := 30) hx hb hts in_Mo hown hK hP 0 rfl rfl 7 (by decide) (hts _ w_1096) (fun _ h9 => h9) (MFg (by decide) h7) d_Mo_c_16 ?_
    have hi : i < n := by rw [nI_leI (by omega) (by omega)] at c8; omega
    refine va_bald hx hb hK hP 1 0 rfl rfl (vp_in_nI (show i < NN by omega) (by omega)) d_Mo_c_19 ?_
    rw [show (nI i).toNatClampNeg = i from nI_clamp (by omega)]
    refine lv_sipush (v := 255) hx hb d_Mo_c_20 (by decide) ?_
    refine lv_iand hx hb d_Mo_c_23 ?_
    refine lv_goto (tgt := 28) hx hb d_Mo_c_24 (by decide) ?_
    exact W.iret (v := ((f i) &&& 255)) hx hb hr (fun t ht hW => ⟨⟨((f i) &&& 255), (), rfl, by unfold hereV; rw [if_pos hi], by rw [ht]; exact hP, va_K.moved hW.alike hK, hD⟩, hS.F ht⟩) hS.2.2 d_Mo_c_28
abbrev b_Mo_fail : ByteArray := prog_14_method_14_code
def y_Mo_fail : MethodName := ⟨"QueryBenchModel", "fail", "(I)Z"⟩
abbrev k_Mo_fail : Cond := .code y_Mo_fail b_Mo_fail 2 (some .boolean)
theorem i_Mo_fail : k_Mo_fail ∈ gtbl := gt_in 1253 (by decide +kernel) (by decide +kernel)
theorem d_Mo_fail_0 : decode b_Mo_fail 0 = .ok (.aload_n 0, 1) := by decide +kernel
theorem d_Mo_fail_1 : decode b_Mo_fail 1 = .ok (.getfield 144, 3) := by decide +kernel
theorem d_Mo_fail_4 : decode b_Mo_fail 4 = .ok (.ifCond .ge 8, 3) := by decide +kernel
theorem d_Mo_fail_7 : decode b_Mo_fail 7 = .ok (.aload_n 0, 1) := by decide +kernel
theorem d_Mo_fail_8 : decode b_Mo_fail 8 = .ok (.iload_n 1, 1) := by decide +kernel
theorem d_Mo_fail_9 : decode b_Mo_fail 9 = .ok (.putfield 144, 3) := by decide +kernel
theorem d_Mo_fail_12 : decode b_Mo_fail 12 = .ok (.iconst 0, 1) := by decide +kernel
theorem d_Mo_fail_13 : decode b_Mo_fail 13 = .ok (.ireturn, 1) := by decide +kernel
def mfail (v : Nat → Value) (br wh : Int32) : Nat → Value := if br < 0 then va_up v 9 (.int wh) else v
set_option maxHeartbeats 4000000 in
set_option maxRecDepth 100000 in
/-- the reference: fail -/
theorem c_Mo_fail (l : Launch) (dC : Nat → ClassId) (dI : Nat → Nat → Nat) (mo : Nat) (sz : Heap) (v : Nat → Value) (br wh : Int32) (h9 : v 9 = .int br) : Met l y_Mo_fail (k_Mo_fail :: gtbl) ({ frames := 0, cells := 0, slots := 0, locals := 0 }) (va_Pc [.ref mo, .int wh] (mp dC dI [(mo, .inr (13, MF 30 v))] [] sz)) (va_Qi (fun (r : Int32) (u : Nat → Value) => r = 0 ∧ u = mfail v br wh) (fun u => mz dC dI [(mo, .inr (13, MF 30 u))] [] (va_A [(mo, .inr (13, MF 30 v))] sz.size)) (va_A [(mo, .inr (13, MF 30 v))] sz.size)) 0 0 (va_A [(mo, .inr (13, MF 30 v))] sz.size) := by
  refine Met.ofW (cc := b_Mo_fail) (maxL := 2) (ret := (some .boolean)) (by decide) rfl ?_
  intro p e s m args below meth c s₁ B hml hv
  obtain ⟨rfl, hsz, hP, hK, hD0⟩ := hv
  have hx := B.exec
  have hb := B.bytes
  have hr := B.returns
  have hts0 := atoms_spec (ws := k_Mo_fail :: gtbl) B.pre
  have hts := fun w h => hts0 w (List.mem_cons_of_mem _ h)
  have hown : s.vm.findClass R_Mo = some m.cls := findClass_of_methodNamed B.named
  have hlocks := B.notSynchronized
  subst hsz
  have hD := hD0.self (sz := s.heap.size)
  generalize hAe : va_A [(mo, .inr (13, MF 30 v))] s.heap.size = A at hD ⊢
  have hA : ∀ q : Nat, s.heap.size ≤ q → A q := fun q h => by rw [← hAe]; exact Or.inr h
  have hS : va_S A s.heap s.heap [] := va_S.rf
  have hP : va_P (dC, dI) classes [(mo, .inr (13, MF 30 v))] s.heap := hP
  have hl := lv_entry ([.ref mo, .int wh]) (n := 2) (Nat.le_of_ble_eq_true rfl)
  rw [lg_entry_eq]
  generalize (lg_sl ([.ref mo, .int wh]) ++ List.replicate (2 - (lg_sl ([.ref mo, .int wh])).length) Slot.unset).toArray = ls at hl ⊢
  have hl : lv_has ls 2 [(0, .ref mo), (1, .int wh)] := hl
  refine lv_aload_n hx hb d_Mo_fail_0 rfl (lv_at hl 0 rfl) ?_
  refine va_get (D := (dC, dI)) (ci := 13) (v := .int br) (C := R_Mo) (T := F_Mo) (N := 30) hx hb hts in_Mo hown hK hP 0 rfl rfl 9 (by decide) (hts _ w_1098) (fun _ h9 => h9) (MFg (by decide) h9) d_Mo_fail_1 ?_
  refine lv_if_ge (tgt := 12) hx hb d_Mo_fail_4 (by decide) (fun c4 => ?_) (fun c4 => ?_)
  · refine lv_iconst (v := 0) hx hb d_Mo_fail_12 (by decide) ?_
    exact W.zret (v := 0) hx hb hr rfl (fun t ht hW => ⟨⟨0, v, rfl, ⟨rfl, by unfold mfail; rw [if_neg (Int32.not_lt.mpr c4)]⟩, by rw [ht]; exact hP, va_K.moved hW.alike hK, hD⟩, hS.F ht⟩) hS.2.2 d_Mo_fail_13
  · refine lv_aload_n hx hb d_Mo_fail_7 rfl (lv_at hl 0 rfl) ?_
    refine lv_iload_n hx hb d_Mo_fail_8 rfl (lv_at hl 1 rfl) ?_
    refine va_put (D := (dC, dI)) (ci := 13) (v := .int wh) (ty := .int) (C := R_Mo) (T := F_Mo) (N := 30) hx hb hts in_Mo t_Mo t_Mo_ok n_Mo hown hK hP hD hS 0 rfl rfl 9 (by decide) (hts _ w_1098) (fun _ h9 => h9) rfl (by decide +kernel) rfl rfl (by rw [MFl]; decide) d_Mo_fail_9 (fun H locs hP hD hS => ?_)
    rw [MFs (n := 30) (k := 9) (by decide)] at hP hD
    have hP : va_P (dC, dI) classes [(mo, .inr (13, MF 30 (va_up v 9 (.int wh))))] H := hP
    have hD : va_D A [(mo, .inr (13, MF 30 (va_up v 9 (.int wh))))] := hD
    refine lv_iconst (v := 0) hx hb d_Mo_fail_12 (by decide) ?_
    exact W.zret (v := 0) hx hb hr rfl (fun t ht hW => ⟨⟨0, va_up v 9 (.int wh), rfl, ⟨rfl, by unfold mfail; rw [if_pos (Int32.not_le.mp c4)]⟩, by rw [ht]; exact hP, va_K.moved hW.alike hK, hD⟩, hS.F ht⟩) hS.2.2 d_Mo_fail_13
abbrev b_Mo_digit : ByteArray := prog_14_method_16_code
def y_Mo_digit : MethodName := ⟨"QueryBenchModel", "digit", "(I)Z"⟩
abbrev k_Mo_digit : Cond := .code y_Mo_digit b_Mo_digit 1 (some .boolean)
theorem i_Mo_digit : k_Mo_digit ∈ gtbl := gt_in 1334 (by decide +kernel) (by decide +kernel)
theorem d_Mo_digit_0 : decode b_Mo_digit 0 = .ok (.iload_n 0, 1) := by decide +kernel
theorem d_Mo_digit_1 : decode b_Mo_digit 1 = .ok (.bipush 48, 2) := by decide +kernel
theorem d_Mo_digit_3 : decode b_Mo_digit 3 = .ok (.if_icmp .lt 13, 3) := by decide +kernel
theorem d_Mo_digit_6 : decode b_Mo_digit 6 = .ok (.iload_n 0, 1) := by decide +kernel
theorem d_Mo_digit_7 : decode b_Mo_digit 7 = .ok (.bipush 57, 2) := by decide +kernel
theorem d_Mo_digit_9 : decode b_Mo_digit 9 = .ok (.if_icmp .gt 7, 3) := by decide +kernel
theorem d_Mo_digit_12 : decode b_Mo_digit 12 = .ok (.iconst 1, 1) := by decide +kernel
theorem d_Mo_digit_13 : decode b_Mo_digit 13 = .ok (.goto 4, 3) := by decide +kernel
theorem d_Mo_digit_16 : decode b_Mo_digit 16 = .ok (.iconst 0, 1) := by decide +kernel
theorem d_Mo_digit_17 : decode b_Mo_digit 17 = .ok (.ireturn, 1) := by decide +kernel
set_option maxHeartbeats 4000000 in
set_option maxRecDepth 100000 in
/-- the reference: digit -/
theorem c_Mo_digit (l : Launch) (dC : Nat → ClassId) (dI : Nat → Nat → Nat) (sz : Heap) (x : Int32) : Met l y_Mo_digit (k_Mo_digit :: gtbl) ({ frames := 0, cells := 0, slots := 0, locals := 0 }) (va_Pc [.int x] (mp dC dI [] [] sz)) (va_Qi (fun (r : Int32) (_ : Unit) => r = if 48 ≤ x ∧ x ≤ 57 then 1 else 0) (fun _ => mz dC dI [] [] (va_A [] sz.size)) (va_A [] sz.size)) 0 0 (va_A [] sz.size) := by
  refine Met.ofW (cc := b_Mo_digit) (maxL := 1) (ret := (some .boolean)) (by decide) rfl ?_
  intro p e s m args below meth c s₁ B hml hv
  obtain ⟨rfl, hsz, hP, hK, hD0⟩ := hv
  have hx := B.exec
  have hb := B.bytes
  have hr := B.returns
  have hts0 := atoms_spec (ws := k_Mo_digit :: gtbl) B.pre
  have hts := fun w h => hts0 w (List.mem_cons_of_mem _ h)
  have hown : s.vm.findClass R_Mo = some m.cls := findClass_of_methodNamed B.named
  have hlocks := B.notSynchronized
  subst hsz
  have hD := hD0.self (sz := s.heap.size)
  generalize hAe : va_A [] s.heap.size = A at hD ⊢
  have hA : ∀ q : Nat, s.heap.size ≤ q → A q := fun q h => by rw [← hAe]; exact Or.inr h
  have hS : va_S A s.heap s.heap [] := va_S.rf
  have hP : va_P (dC, dI) classes [] s.heap := hP
  have hl := lv_entry ([.int x]) (n := 1) (Nat.le_of_ble_eq_true rfl)
  rw [lg_entry_eq]
  generalize (lg_sl ([.int x]) ++ List.replicate (1 - (lg_sl ([.int x])).length) Slot.unset).toArray = ls at hl ⊢
  have hl : lv_has ls 1 [(0, .int x)] := hl
  refine lv_iload_n hx hb d_Mo_digit_0 rfl (lv_at hl 0 rfl) ?_
  refine lv_bipush (v := 48) hx hb d_Mo_digit_1 (by decide) ?_
  refine lv_icmp_lt (tgt := 16) hx hb d_Mo_digit_3 (by decide) (fun c3 => ?_) (fun c3 => ?_)
  · refine lv_iconst (v := 0) hx hb d_Mo_digit_16 (by decide) ?_
    exact W.zret (v := 0) hx hb hr rfl (fun t ht hW => ⟨⟨0, (), rfl, by rw [if_neg (fun h => absurd c3 (Int32.not_lt.mpr h.1))], by rw [ht]; exact hP, va_K.moved hW.alike hK, hD⟩, hS.F ht⟩) hS.2.2 d_Mo_digit_17
  · refine lv_iload_n hx hb d_Mo_digit_6 rfl (lv_at hl 0 rfl) ?_
    refine lv_bipush (v := 57) hx hb d_Mo_digit_7 (by decide) ?_
    refine lv_icmp_gt (tgt := 16) hx hb d_Mo_digit_9 (by decide) (fun c9 => ?_) (fun c9 => ?_)
    · refine lv_iconst (v := 0) hx hb d_Mo_digit_16 (by decide) ?_
      exact W.zret (v := 0) hx hb hr rfl (fun t ht hW => ⟨⟨0, (), rfl, by rw [if_neg (fun h => absurd c9 (Int32.not_lt.mpr h.2))], by rw [ht]; exact hP, va_K.moved hW.alike hK, hD⟩, hS.F ht⟩) hS.2.2 d_Mo_digit_17
    · refine lv_iconst (v := 1) hx hb d_Mo_digit_12 (by decide) ?_
      refine lv_goto (tgt := 17) hx hb d_Mo_digit_13 (by decide) ?_
      exact W.zret (v := 1) hx hb hr rfl (fun t ht hW => ⟨⟨1, (), rfl, by rw [if_pos ⟨Int32.not_lt.mp c3, Int32.not_lt.mp c9⟩], by rw [ht]; exact hP, va_K.moved hW.alike hK, hD⟩, hS.F ht⟩) hS.2.2 d_Mo_digit_17
