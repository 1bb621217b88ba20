theorem w_7 : (.initialized "QueryBenchModel" : Cond) ∈ gtbl := gt_in 7 (by decide +kernel) (by decide +kernel)
theorem w_1089 : (.fieldLink "QueryBenchModel" 7 "QueryBenchModel" "tape" "[B" : Cond) ∈ gtbl := gt_in 1089 (by decide +kernel) (by decide +kernel)
theorem w_1090 : (.fieldLink "QueryBenchModel" 119 "QueryBenchModel" "taped" "I" : Cond) ∈ gtbl := gt_in 1090 (by decide +kernel) (by decide +kernel)
theorem w_1093 : (.fieldLink "QueryBenchModel" 116 "QueryBenchModel" "code" "I" : Cond) ∈ gtbl := gt_in 1093 (by decide +kernel) (by decide +kernel)
theorem w_1188 : (.methodLink "QueryBenchModel" 122 ⟨"QueryBenchModel", "good", "(ZI)Z"⟩ : Cond) ∈ gtbl := gt_in 1188 (by decide +kernel) (by decide +kernel)
theorem w_1190 : (.instanceMethod ⟨"QueryBenchModel", "good", "(ZI)Z"⟩ : Cond) ∈ gtbl := gt_in 1190 (by decide +kernel) (by decide +kernel)
theorem w_1192 : (.methodLink "QueryBenchModel" 126 ⟨"QueryBenchModel", "four", "(I)V"⟩ : Cond) ∈ gtbl := gt_in 1192 (by decide +kernel) (by decide +kernel)
theorem w_1194 : (.instanceMethod ⟨"QueryBenchModel", "four", "(I)V"⟩ : Cond) ∈ gtbl := gt_in 1194 (by decide +kernel) (by decide +kernel)
abbrev b_Mo_thrown : ByteArray := prog_14_method_5_code
def y_Mo_thrown : MethodName := ⟨"QueryBenchModel", "thrown", "()I"⟩
abbrev k_Mo_thrown : Cond := .code y_Mo_thrown b_Mo_thrown 1 (some .int)
theorem i_Mo_thrown : k_Mo_thrown ∈ gtbl := gt_in 1183 (by decide +kernel) (by decide +kernel)
theorem d_Mo_thrown_0 : decode b_Mo_thrown 0 = .ok (.aload_n 0, 1) := by decide +kernel
theorem d_Mo_thrown_1 : decode b_Mo_thrown 1 = .ok (.getfield 116, 3) := by decide +kernel
theorem d_Mo_thrown_4 : decode b_Mo_thrown 4 = .ok (.ireturn, 1) := by decide +kernel
set_option maxHeartbeats 4000000 in
set_option maxRecDepth 100000 in
/-- thrown() -/
theorem c_Mo_thrown (l : Launch) (dC : Nat → ClassId) (dI : Nat → Nat → Nat) (mo : Nat) (sz : Heap) (v : Nat → Value) (cd : Int32) (h4 : v 4 = .int cd) : Met l y_Mo_thrown (k_Mo_thrown :: gtbl) ({ frames := 0, cells := 0, slots := 0, locals := 0 }) (va_Pc [.ref mo] (mp dC dI [(mo, .inr (13, MF 30 v))] [] sz)) (va_Qi (fun (r : Int32) (_ : Unit) => r = cd) (fun _ => mz dC dI [(mo, .inr (13, MF 30 v))] [] (va_A [(mo, .inr (13, MF 30 v))] sz.size)) (va_A [(mo, .inr (13, MF 30 v))] sz.size)) 0 0 (va_A [(mo, .inr (13, MF 30 v))] sz.size) := by
  refine Met.ofW (cc := b_Mo_thrown) (maxL := 1) (ret := (some .int)) (by decide) rfl ?_
  intro p e s m args below meth c s₁ B hml hv
  obtain ⟨rfl, hsz, hP, hK, hD0⟩ := hv
  have hx := B.exec
  have hb := B.bytes
  have hr := B.returns
  have hts0 := atoms_spec (ws := k_Mo_thrown :: gtbl) B.pre
  have hts := fun w h => hts0 w (List.mem_cons_of_mem _ h)
  have hown : s.vm.findClass R_Mo = some m.cls := findClass_of_methodNamed B.named
  have hlocks := B.notSynchronized
  subst hsz
  have hD := hD0.self (sz := s.heap.size)
  generalize hAe : va_A [(mo, .inr (13, MF 30 v))] s.heap.size = A at hD ⊢
  have hA : ∀ q : Nat, s.heap.size ≤ q → A q := fun q h => by rw [← hAe]; exact Or.inr h
  have hS : va_S A s.heap s.heap [] := va_S.rf
  have hP : va_P (dC, dI) classes [(mo, .inr (13, MF 30 v))] s.heap := hP
  have hl := lv_entry ([.ref mo]) (n := 1) (Nat.le_of_ble_eq_true rfl)
  rw [lg_entry_eq]
  generalize (lg_sl ([.ref mo]) ++ List.replicate (1 - (lg_sl ([.ref mo])).length) Slot.unset).toArray = ls at hl ⊢
  have hl : lv_has ls 1 [(0, .ref mo)] := hl
  refine lv_aload_n hx hb d_Mo_thrown_0 rfl (lv_at hl 0 rfl) ?_
  refine va_get (D := (dC, dI)) (ci := 13) (v := .int cd) (C := R_Mo) (T := F_Mo) (N := 30) hx hb hts in_Mo hown hK hP 0 rfl rfl 4 (by decide) (hts _ w_1093) (fun _ h9 => h9) (MFg (by decide) h4) d_Mo_thrown_1 ?_
  exact W.iret (v := cd) hx hb hr (fun t ht hW => ⟨⟨cd, (), rfl, rfl, by rw [ht]; exact hP, va_K.moved hW.alike hK, hD⟩, hS.F ht⟩) hS.2.2 d_Mo_thrown_4
abbrev b_Mo_good : ByteArray := prog_14_method_6_code
def y_Mo_good : MethodName := ⟨"QueryBenchModel", "good", "(ZI)Z"⟩
abbrev k_Mo_good : Cond := .code y_Mo_good b_Mo_good 3 (some .boolean)
theorem i_Mo_good : k_Mo_good ∈ gtbl := gt_in 1191 (by decide +kernel) (by decide +kernel)
theorem d_Mo_good_0 : decode b_Mo_good 0 = .ok (.aload_n 0, 1) := by decide +kernel
theorem d_Mo_good_1 : decode b_Mo_good 1 = .ok (.iload_n 1, 1) := by decide +kernel
theorem d_Mo_good_2 : decode b_Mo_good 2 = .ok (.ifCond .eq 7, 3) := by decide +kernel
theorem d_Mo_good_5 : decode b_Mo_good 5 = .ok (.iconst 0, 1) := by decide +kernel
theorem d_Mo_good_6 : decode b_Mo_good 6 = .ok (.goto 4, 3) := by decide +kernel
theorem d_Mo_good_9 : decode b_Mo_good 9 = .ok (.iload_n 2, 1) := by decide +kernel
theorem d_Mo_good_10 : decode b_Mo_good 10 = .ok (.putfield 116, 3) := by decide +kernel
theorem d_Mo_good_13 : decode b_Mo_good 13 = .ok (.iload_n 1, 1) := by decide +kernel
theorem d_Mo_good_14 : decode b_Mo_good 14 = .ok (.ireturn, 1) := by decide +kernel
set_option maxHeartbeats 4000000 in
set_option maxRecDepth 100000 in
/-- good -/
theorem c_Mo_good1 (l : Launch) (dC : Nat → ClassId) (dI : Nat → Nat → Nat) (mo : Nat) (sz : Heap) (v : Nat → Value) (cd : Int32) : Met l y_Mo_good (k_Mo_good :: gtbl) ({ frames := 0, cells := 0, slots := 0, locals := 0 }) (va_Pc [.ref mo, .int 1, .int cd] (mp dC dI [(mo, .inr (13, MF 30 v))] [] sz)) (va_Qi (fun (r : Int32) (_ : Unit) => r = 1) (fun _ => mz dC dI [(mo, .inr (13, MF 30 (va_up v 4 (.int 0))))] [] (va_A [(mo, .inr (13, MF 30 v))] sz.size)) (va_A [(mo, .inr (13, MF 30 v))] sz.size)) 0 0 (va_A [(mo, .inr (13, MF 30 v))] sz.size) := by
  refine Met.ofW (cc := b_Mo_good) (maxL := 3) (ret := (some .boolean)) (by decide) rfl ?_
  intro p e s m args below meth c s₁ B hml hv
  obtain ⟨rfl, hsz, hP, hK, hD0⟩ := hv
  have hx := B.exec
  have hb := B.bytes
  have hr := B.returns
  have hts0 := atoms_spec (ws := k_Mo_good :: gtbl) B.pre
  have hts := fun w h => hts0 w (List.mem_cons_of_mem _ h)
  have hown : s.vm.findClass R_Mo = some m.cls := findClass_of_methodNamed B.named
  have hlocks := B.notSynchronized
  subst hsz
  have hD := hD0.self (sz := s.heap.size)
  generalize hAe : va_A [(mo, .inr (13, MF 30 v))] s.heap.size = A at hD ⊢
  have hA : ∀ q : Nat, s.heap.size ≤ q → A q := fun q h => by rw [← hAe]; exact Or.inr h
  have hS : va_S A s.heap s.heap [] := va_S.rf
  have hP : va_P (dC, dI) classes [(mo, .inr (13, MF 30 v))] s.heap := hP
  have hl := lv_entry ([.ref mo, .int 1, .int cd]) (n := 3) (Nat.le_of_ble_eq_true rfl)
  rw [lg_entry_eq]
  generalize (lg_sl ([.ref mo, .int 1, .int cd]) ++ List.replicate (3 - (lg_sl ([.ref mo, .int 1, .int cd])).length) Slot.unset).toArray = ls at hl ⊢
  have hl : lv_has ls 3 [(0, .ref mo), (1, .int 1), (2, .int cd)] := hl
  refine lv_aload_n hx hb d_Mo_good_0 rfl (lv_at hl 0 rfl) ?_
  refine lv_iload_n hx hb d_Mo_good_1 rfl (lv_at hl 1 rfl) ?_
  refine lv_if_eq (tgt := 9) hx hb d_Mo_good_2 (by decide) (fun h => absurd h (by decide)) (fun _ => ?_)
  refine lv_iconst (v := 0) hx hb d_Mo_good_5 (by decide) ?_
  refine lv_goto (tgt := 10) hx hb d_Mo_good_6 (by decide) ?_
  refine va_put (D := (dC, dI)) (ci := 13) (v := .int 0) (ty := .int) (C := R_Mo) (T := F_Mo) (N := 30) hx hb hts in_Mo t_Mo t_Mo_ok n_Mo hown hK hP hD hS 0 rfl rfl 4 (by decide) (hts _ w_1093) (fun _ h9 => h9) rfl (by decide +kernel) rfl rfl (by rw [MFl]; decide) d_Mo_good_10 (fun H locs hP hD hS => ?_)
  rw [MFs (n := 30) (k := 4) (by decide)] at hP hD
  have hP : va_P (dC, dI) classes [(mo, .inr (13, MF 30 (va_up v 4 (.int 0))))] H := hP
  have hD : va_D A [(mo, .inr (13, MF 30 (va_up v 4 (.int 0))))] := hD
  refine lv_iload_n hx hb d_Mo_good_13 rfl (lv_at hl 1 rfl) ?_
  exact W.zret (v := 1) hx hb hr rfl (fun t ht hW => ⟨⟨1, (), rfl, rfl, by rw [ht]; exact hP, va_K.moved hW.alike hK, hD⟩, hS.F ht⟩) hS.2.2 d_Mo_good_14
set_option maxHeartbeats 4000000 in
set_option maxRecDepth 100000 in
/-- good -/
theorem c_Mo_good0 (l : Launch) (dC : Nat → ClassId) (dI : Nat → Nat → Nat) (mo : Nat) (sz : Heap) (v : Nat → Value) (cd : Int32) : Met l y_Mo_good (k_Mo_good :: gtbl) ({ frames := 0, cells := 0, slots := 0, locals := 0 }) (va_Pc [.ref mo, .int 0, .int cd] (mp dC dI [(mo, .inr (13, MF 30 v))] [] sz)) (va_Qi (fun (r : Int32) (_ : Unit) => r = 0) (fun _ => mz dC dI [(mo, .inr (13, MF 30 (va_up v 4 (.int cd))))] [] (va_A [(mo, .inr (13, MF 30 v))] sz.size)) (va_A [(mo, .inr (13, MF 30 v))] sz.size)) 0 0 (va_A [(mo, .inr (13, MF 30 v))] sz.size) := by
  refine Met.ofW (cc := b_Mo_good) (maxL := 3) (ret := (some .boolean)) (by decide) rfl ?_
  intro p e s m args below meth c s₁ B hml hv
  obtain ⟨rfl, hsz, hP, hK, hD0⟩ := hv
  have hx := B.exec
  have hb := B.bytes
  have hr := B.returns
  have hts0 := atoms_spec (ws := k_Mo_good :: gtbl) B.pre
  have hts := fun w h => hts0 w (List.mem_cons_of_mem _ h)
  have hown : s.vm.findClass R_Mo = some m.cls := findClass_of_methodNamed B.named
  have hlocks := B.notSynchronized
  subst hsz
  have hD := hD0.self (sz := s.heap.size)
  generalize hAe : va_A [(mo, .inr (13, MF 30 v))] s.heap.size = A at hD ⊢
  have hA : ∀ q : Nat, s.heap.size ≤ q → A q := fun q h => by rw [← hAe]; exact Or.inr h
  have hS : va_S A s.heap s.heap [] := va_S.rf
  have hP : va_P (dC, dI) classes [(mo, .inr (13, MF 30 v))] s.heap := hP
  have hl := lv_entry ([.ref mo, .int 0, .int cd]) (n := 3) (Nat.le_of_ble_eq_true rfl)
  rw [lg_entry_eq]
  generalize (lg_sl ([.ref mo, .int 0, .int cd]) ++ List.replicate (3 - (lg_sl ([.ref mo, .int 0, .int cd])).length) Slot.unset).toArray = ls at hl ⊢
  have hl : lv_has ls 3 [(0, .ref mo), (1, .int 0), (2, .int cd)] := hl
  refine lv_aload_n hx hb d_Mo_good_0 rfl (lv_at hl 0 rfl) ?_
  refine lv_iload_n hx hb d_Mo_good_1 rfl (lv_at hl 1 rfl) ?_
  refine lv_if_eq (tgt := 9) hx hb d_Mo_good_2 (by decide) (fun _ => ?_) (fun h => absurd (by decide) h)
  refine lv_iload_n hx hb d_Mo_good_9 rfl (lv_at hl 2 rfl) ?_
  refine va_put (D := (dC, dI)) (ci := 13) (v := .int cd) (ty := .int) (C := R_Mo) (T := F_Mo) (N := 30) hx hb hts in_Mo t_Mo t_Mo_ok n_Mo hown hK hP hD hS 0 rfl rfl 4 (by decide) (hts _ w_1093) (fun _ h9 => h9) rfl (by decide +kernel) rfl rfl (by rw [MFl]; decide) d_Mo_good_10 (fun H locs hP hD hS => ?_)
  rw [MFs (n := 30) (k := 4) (by decide)] at hP hD
  have hP : va_P (dC, dI) classes [(mo, .inr (13, MF 30 (va_up v 4 (.int cd))))] H := hP
  have hD : va_D A [(mo, .inr (13, MF 30 (va_up v 4 (.int cd))))] := hD
  refine lv_iload_n hx hb d_Mo_good_13 rfl (lv_at hl 1 rfl) ?_
  exact W.zret (v := 0) hx hb hr rfl (fun t ht hW => ⟨⟨0, (), rfl, rfl, by rw [ht]; exact hP, va_K.moved hW.alike hK, hD⟩, hS.F ht⟩) hS.2.2 d_Mo_good_14
abbrev b_Mo_four : ByteArray := prog_14_method_8_code
def y_Mo_four : MethodName := ⟨"QueryBenchModel", "four", "(I)V"⟩
abbrev k_Mo_four : Cond := .code y_Mo_four b_Mo_four 3 none
theorem i_Mo_four : k_Mo_four ∈ gtbl := gt_in 1195 (by decide +kernel) (by decide +kernel)
theorem d_Mo_four_0 : decode b_Mo_four 0 = .ok (.bipush 24, 2) := by decide +kernel
theorem d_Mo_four_2 : decode b_Mo_four 2 = .ok (.istore_n 2, 1) := by decide +kernel
theorem d_Mo_four_3 : decode b_Mo_four 3 = .ok (.iload_n 2, 1) := by decide +kernel
theorem d_Mo_four_4 : decode b_Mo_four 4 = .ok (.ifCond .lt 32, 3) := by decide +kernel
theorem d_Mo_four_7 : decode b_Mo_four 7 = .ok (.aload_n 0, 1) := by decide +kernel
theorem d_Mo_four_8 : decode b_Mo_four 8 = .ok (.getfield 7, 3) := by decide +kernel
theorem d_Mo_four_11 : decode b_Mo_four 11 = .ok (.aload_n 0, 1) := by decide +kernel
theorem d_Mo_four_12 : decode b_Mo_four 12 = .ok (.getfield 119, 3) := by decide +kernel
theorem d_Mo_four_15 : decode b_Mo_four 15 = .ok (.iload_n 1, 1) := by decide +kernel
theorem d_Mo_four_16 : decode b_Mo_four 16 = .ok (.iload_n 2, 1) := by decide +kernel
theorem d_Mo_four_17 : decode b_Mo_four 17 = .ok (.ishr, 1) := by decide +kernel
theorem d_Mo_four_18 : decode b_Mo_four 18 = .ok (.i2b, 1) := by decide +kernel
theorem d_Mo_four_19 : decode b_Mo_four 19 = .ok (.bastore, 1) := by decide +kernel
theorem d_Mo_four_20 : decode b_Mo_four 20 = .ok (.aload_n 0, 1) := by decide +kernel
theorem d_Mo_four_21 : decode b_Mo_four 21 = .ok (.dup, 1) := by decide +kernel
theorem d_Mo_four_22 : decode b_Mo_four 22 = .ok (.getfield 119, 3) := by decide +kernel
theorem d_Mo_four_25 : decode b_Mo_four 25 = .ok (.iconst 1, 1) := by decide +kernel
theorem d_Mo_four_26 : decode b_Mo_four 26 = .ok (.iadd, 1) := by decide +kernel
theorem d_Mo_four_27 : decode b_Mo_four 27 = .ok (.putfield 119, 3) := by decide +kernel
theorem d_Mo_four_30 : decode b_Mo_four 30 = .ok (.iinc 2 (-8), 3) := by decide +kernel
theorem d_Mo_four_33 : decode b_Mo_four 33 = .ok (.goto (-30), 3) := by decide +kernel
theorem d_Mo_four_36 : decode b_Mo_four 36 = .ok (.return_, 1) := by decide +kernel
set_option maxHeartbeats 4000000 in
set_option maxRecDepth 100000 in
/-- four(x) -/
theorem c_Mo_four (l : Launch) (dC : Nat → ClassId) (dI : Nat → Nat → Nat) (mo : Nat) (sz : Heap) (v : Nat → Value) (cB : ClassId) (qt : Nat) (f : Nat → Int32) (n : Nat) (x : Int32) (hn0 : n + 4 ≤ 4096) (h0 : v 0 = .ref qt) (h1 : v 1 = .int (nI n)) : Met l y_Mo_four (k_Mo_four :: gtbl) ({ frames := 0, cells := 0, slots := 0, locals := 0 }) (va_Pc [.ref mo, .int x] (mp dC dI [(mo, .inr (13, MF 30 v)), (qt, .inl (cB, 4096, .inl f))] [(cB, .byte)] sz)) (va_Qv (fun (_ : Unit) => True) (fun _ => mz dC dI [(mo, .inr (13, MF 30 (va_up v 1 (.int (nI (n + 1 + 1 + 1 + 1)))))), (qt, .inl (cB, 4096, .inl (put4 f n x)))] [(cB, .byte)] (va_A [(mo, .inr (13, MF 30 v)), (qt, .inl (cB, 4096, .inl f))] sz.size)) (va_A [(mo, .inr (13, MF 30 v)), (qt, .inl (cB, 4096, .inl f))] sz.size)) 0 0 (va_A [(mo, .inr (13, MF 30 v)), (qt, .inl (cB, 4096, .inl f))] sz.size) := by
  refine Met.ofW (cc := b_Mo_four) (maxL := 3) (ret := none) (by decide) rfl ?_
  intro p e s m args below meth c s₁ B hml hv
  obtain ⟨rfl, hsz, hP, hK, hD0⟩ := hv
  have hx := B.exec
  have hb := B.bytes
  have hr := B.returns
  have hts0 := atoms_spec (ws := k_Mo_four :: gtbl) B.pre
  have hts := fun w h => hts0 w (List.mem_cons_of_mem _ h)
  have hown : s.vm.findClass R_Mo = some m.cls := findClass_of_methodNamed B.named
  have hlocks := B.notSynchronized
  subst hsz
  have hD := hD0.self (sz := s.heap.size)
  generalize hAe : va_A [(mo, .inr (13, MF 30 v)), (qt, .inl (cB, 4096, .inl f))] s.heap.size = A at hD ⊢
  have hA : ∀ q : Nat, s.heap.size ≤ q → A q := fun q h => by rw [← hAe]; exact Or.inr h
  have hS : va_S A s.heap s.heap [] := va_S.rf
  have hP : va_P (dC, dI) classes [(mo, .inr (13, MF 30 v)), (qt, .inl (cB, 4096, .inl f))] s.heap := hP
  have hl := lv_entry ([.ref mo, .int x]) (n := 3) (Nat.le_of_ble_eq_true rfl)
  rw [lg_entry_eq]
  generalize (lg_sl ([.ref mo, .int x]) ++ List.replicate (3 - (lg_sl ([.ref mo, .int x])).length) Slot.unset).toArray = ls at hl ⊢
  have hl : lv_has ls 3 [(0, .ref mo), (1, .int x)] := hl
  refine lv_bipush (v := 24) hx hb d_Mo_four_0 (by decide) ?_
  refine lv_istore_n (lv' := [(2, .int 24), (0, .ref mo), (1, .int x)]) hx hb d_Mo_four_2 rfl hl (by decide) rfl (fun ls hl => ?_)
  refine lv_iload_n hx hb d_Mo_four_3 rfl (lv_at hl 0 rfl) ?_
  refine lv_if_lt (tgt := 36) hx hb d_Mo_four_4 (by decide) (fun h => absurd h (by decide)) (fun _ => ?_)
  refine lv_aload_n hx hb d_Mo_four_7 rfl (lv_at hl 1 rfl) ?_
  refine va_get (D := (dC, dI)) (ci := 13) (v := .ref qt) (C := R_Mo) (T := F_Mo) (N := 30) hx hb hts in_Mo hown hK hP 0 rfl rfl 0 (by decide) (hts _ w_1089) (fun _ h9 => h9) (MFg (by decide) h0) d_Mo_four_8 ?_
  refine lv_aload_n hx hb d_Mo_four_11 rfl (lv_at hl 1 rfl) ?_
  refine va_get (D := (dC, dI)) (ci := 13) (v := .int (nI n)) (C := R_Mo) (T := F_Mo) (N := 30) hx hb hts in_Mo hown hK hP 0 rfl rfl 1 (by decide) (hts _ w_1090) (fun _ h9 => h9) (MFg (by decide) h1) d_Mo_four_12 ?_
  refine lv_iload_n hx hb d_Mo_four_15 rfl (lv_at hl 2 rfl) ?_
  refine lv_iload_n hx hb d_Mo_four_16 rfl (lv_at hl 0 rfl) ?_
  refine lv_ishr hx hb d_Mo_four_17 ?_
  refine lv_i2b (v := (x >>> (24 &&& 31)).toInt8.toInt32) hx hb d_Mo_four_18 rfl ?_
  refine va_bast hx hb hK hP hD hS 1 0 rfl rfl (vp_in_nI (show n < 4096 by omega) (by decide)) d_Mo_four_19 (fun H locs hP hD hS => ?_)
  rw [show ((nI n)).toNatClampNeg = n from nI_clamp (by omega)] at hP hD
  have hP : va_P (dC, dI) classes [(mo, .inr (13, MF 30 v)), (qt, .inl (cB, 4096, .inl (upd f n (vp_nar .byte (((x >>> (24 &&& 31)).toInt8.toInt32))))))] H := hP
  have hD : va_D A [(mo, .inr (13, MF 30 v)), (qt, .inl (cB, 4096, .inl (upd f n (vp_nar .byte (((x >>> (24 &&& 31)).toInt8.toInt32))))))] := hD
  refine lv_aload_n hx hb d_Mo_four_20 rfl (lv_at hl 1 rfl) ?_
  refine lv_dup hx hb d_Mo_four_21 rfl ?_
  refine va_get (D := (dC, dI)) (ci := 13) (v := .int (nI n)) (C := R_Mo) (T := F_Mo) (N := 30) hx hb hts in_Mo hown hK hP 0 rfl rfl 1 (by decide) (hts _ w_1090) (fun _ h9 => h9) (MFg (by decide) h1) d_Mo_four_22 ?_
  refine lv_iconst (v := 1) hx hb d_Mo_four_25 (by decide) ?_
  refine lv_iadd hx hb d_Mo_four_26 ?_
  refine W.eq (g2 := F0 m 27 ls [.int (nI (n + 1)), .ref mo]) (by rw [show ((nI n) + 1) = (nI (n + 1)) from nI_1 _]) ?_
  refine va_put (D := (dC, dI)) (ci := 13) (v := .int (nI (n + 1))) (ty := .int) (C := R_Mo) (T := F_Mo) (N := 30) hx hb hts in_Mo t_Mo t_Mo_ok n_Mo hown hK hP hD hS 0 rfl rfl 1 (by decide) (hts _ w_1090) (fun _ h9 => h9) rfl (by decide +kernel) rfl rfl (by rw [MFl]; decide) d_Mo_four_27 (fun H locs hP hD hS => ?_)
  rw [MFs (n := 30) (k := 1) (by decide)] at hP hD
  have hP : va_P (dC, dI) classes [(mo, .inr (13, MF 30 (va_up v 1 (.int (nI (n + 1)))))), (qt, .inl (cB, 4096, .inl (upd f n (vp_nar .byte (((x >>> (24 &&& 31)).toInt8.toInt32))))))] H := hP
  have hD : va_D A [(mo, .inr (13, MF 30 (va_up v 1 (.int (nI (n + 1)))))), (qt, .inl (cB, 4096, .inl (upd f n (vp_nar .byte (((x >>> (24 &&& 31)).toInt8.toInt32))))))] := hD
  refine lv_iinc (v := 16) (lv' := [(2, .int 16), (0, .ref mo), (1, .int x)]) hx hb d_Mo_four_30 hl (k := 0) rfl (by decide) (by decide) rfl (fun ls hl => ?_)
  refine lv_goto (tgt := 3) hx hb d_Mo_four_33 (by decide) ?_
  refine lv_iload_n hx hb d_Mo_four_3 rfl (lv_at hl 0 rfl) ?_
  refine lv_if_lt (tgt := 36) hx hb d_Mo_four_4 (by decide) (fun h => absurd h (by decide)) (fun _ => ?_)
  refine lv_aload_n hx hb d_Mo_four_7 rfl (lv_at hl 1 rfl) ?_
  refine va_get (D := (dC, dI)) (ci := 13) (v := .ref qt) (C := R_Mo) (T := F_Mo) (N := 30) hx hb hts in_Mo hown hK hP 0 rfl rfl 0 (by decide) (hts _ w_1089) (fun _ h9 => h9) (MFg (by decide) ((va_up_ne _ _ (by decide)).trans (h0))) d_Mo_four_8 ?_
  refine lv_aload_n hx hb d_Mo_four_11 rfl (lv_at hl 1 rfl) ?_
  refine va_get (D := (dC, dI)) (ci := 13) (v := .int (nI (n + 1))) (C := R_Mo) (T := F_Mo) (N := 30) hx hb hts in_Mo hown hK hP 0 rfl rfl 1 (by decide) (hts _ w_1090) (fun _ h9 => h9) (MFg (by decide) (va_up_self _ _ _)) d_Mo_four_12 ?_
  refine lv_iload_n hx hb d_Mo_four_15 rfl (lv_at hl 2 rfl) ?_
  refine lv_iload_n hx hb d_Mo_four_16 rfl (lv_at hl 0 rfl) ?_
  refine lv_ishr hx hb d_Mo_four_17 ?_
  refine lv_i2b (v := (x >>> (16 &&& 31)).toInt8.toInt32) hx hb d_Mo_four_18 rfl ?_
  refine va_bast hx hb hK hP hD hS 1 0 rfl rfl (vp_in_nI (show n + 1 < 4096 by omega) (by decide)) d_Mo_four_19 (fun H locs hP hD hS => ?_)
  rw [show ((nI (n + 1))).toNatClampNeg = (n + 1) from nI_clamp (by omega)] at hP hD
  have hP : va_P (dC, dI) classes [(mo, .inr (13, MF 30 (va_up v 1 (.int (nI (n + 1)))))), (qt, .inl (cB, 4096, .inl (upd ((upd f n (vp_nar .byte (((x >>> (24 &&& 31)).toInt8.toInt32))))) (n + 1) (vp_nar .byte (((x >>> (16 &&& 31)).toInt8.toInt32))))))] H := hP
  have hD : va_D A [(mo, .inr (13, MF 30 (va_up v 1 (.int (nI (n + 1)))))), (qt, .inl (cB, 4096, .inl (upd ((upd f n (vp_nar .byte (((x >>> (24 &&& 31)).toInt8.toInt32))))) (n + 1) (vp_nar .byte (((x >>> (16 &&& 31)).toInt8.toInt32))))))] := hD
  refine lv_aload_n hx hb d_Mo_four_20 rfl (lv_at hl 1 rfl) ?_
  refine lv_dup hx hb d_Mo_four_21 rfl ?_
  refine va_get (D := (dC, dI)) (ci := 13) (v := .int (nI (n + 1))) (C := R_Mo) (T := F_Mo) (N := 30) hx hb hts in_Mo hown hK hP 0 rfl rfl 1 (by decide) (hts _ w_1090) (fun _ h9 => h9) (MFg (by decide) (va_up_self _ _ _)) d_Mo_four_22 ?_
  refine lv_iconst (v := 1) hx hb d_Mo_four_25 (by decide) ?_
  refine lv_iadd hx hb d_Mo_four_26 ?_
  refine W.eq (g2 := F0 m 27 ls [.int (nI (n + 1 + 1)), .ref mo]) (by rw [show ((nI (n + 1)) + 1) = (nI (n + 1 + 1)) from nI_1 _]) ?_
  refine va_put (D := (dC, dI)) (ci := 13) (v := .int (nI (n + 1 + 1))) (ty := .int) (C := R_Mo) (T := F_Mo) (N := 30) hx hb hts in_Mo t_Mo t_Mo_ok n_Mo hown hK hP hD hS 0 rfl rfl 1 (by decide) (hts _ w_1090) (fun _ h9 => h9) rfl (by decide +kernel) rfl rfl (by rw [MFl]; decide) d_Mo_four_27 (fun H locs hP hD hS => ?_)
  rw [MFs (n := 30) (k := 1) (by decide)] at hP hD
  rw [bx_uu] at hP hD
  have hP : va_P (dC, dI) classes [(mo, .inr (13, MF 30 (va_up v 1 (.int (nI (n + 1 + 1)))))), (qt, .inl (cB, 4096, .inl (upd ((upd f n (vp_nar .byte (((x >>> (24 &&& 31)).toInt8.toInt32))))) (n + 1) (vp_nar .byte (((x >>> (16 &&& 31)).toInt8.toInt32))))))] H := hP
  have hD : va_D A [(mo, .inr (13, MF 30 (va_up v 1 (.int (nI (n + 1 + 1)))))), (qt, .inl (cB, 4096, .inl (upd ((upd f n (vp_nar .byte (((x >>> (24 &&& 31)).toInt8.toInt32))))) (n + 1) (vp_nar .byte (((x >>> (16 &&& 31)).toInt8.toInt32))))))] := hD
  refine lv_iinc (v := 8) (lv' := [(2, .int 8), (0, .ref mo), (1, .int x)]) hx hb d_Mo_four_30 hl (k := 0) rfl (by decide) (by decide) rfl (fun ls hl => ?_)
  refine lv_goto (tgt := 3) hx hb d_Mo_four_33 (by decide) ?_
  refine lv_iload_n hx hb d_Mo_four_3 rfl (lv_at hl 0 rfl) ?_
  refine lv_if_lt (tgt := 36) hx hb d_Mo_four_4 (by decide) (fun h => absurd h (by decide)) (fun _ => ?_)
  refine lv_aload_n hx hb d_Mo_four_7 rfl (lv_at hl 1 rfl) ?_
  refine va_get (D := (dC, dI)) (ci := 13) (v := .ref qt) (C := R_Mo) (T := F_Mo) (N := 30) hx hb hts in_Mo hown hK hP 0 rfl rfl 0 (by decide) (hts _ w_1089) (fun _ h9 => h9) (MFg (by decide) ((va_up_ne _ _ (by decide)).trans (h0))) d_Mo_four_8 ?_
  refine lv_aload_n hx hb d_Mo_four_11 rfl (lv_at hl 1 rfl) ?_
  refine va_get (D := (dC, dI)) (ci := 13) (v := .int (nI (n + 1 + 1))) (C := R_Mo) (T := F_Mo) (N := 30) hx hb hts in_Mo hown hK hP 0 rfl rfl 1 (by decide) (hts _ w_1090) (fun _ h9 => h9) (MFg (by decide) (va_up_self _ _ _)) d_Mo_four_12 ?_
  refine lv_iload_n hx hb d_Mo_four_15 rfl (lv_at hl 2 rfl) ?_
  refine lv_iload_n hx hb d_Mo_four_16 rfl (lv_at hl 0 rfl) ?_
  refine lv_ishr hx hb d_Mo_four_17 ?_
  refine lv_i2b (v := (x >>> (8 &&& 31)).toInt8.toInt32) hx hb d_Mo_four_18 rfl ?_
  refine va_bast hx hb hK hP hD hS 1 0 rfl rfl (vp_in_nI (show n + 1 + 1 < 4096 by omega) (by decide)) d_Mo_four_19 (fun H locs hP hD hS => ?_)
  rw [show ((nI (n + 1 + 1))).toNatClampNeg = (n + 1 + 1) from nI_clamp (by omega)] at hP hD
  have hP : va_P (dC, dI) classes [(mo, .inr (13, MF 30 (va_up v 1 (.int (nI (n + 1 + 1)))))), (qt, .inl (cB, 4096, .inl (upd ((upd ((upd f n (vp_nar .byte (((x >>> (24 &&& 31)).toInt8.toInt32))))) (n + 1) (vp_nar .byte (((x >>> (16 &&& 31)).toInt8.toInt32))))) (n + 1 + 1) (vp_nar .byte (((x >>> (8 &&& 31)).toInt8.toInt32))))))] H := hP
  have hD : va_D A [(mo, .inr (13, MF 30 (va_up v 1 (.int (nI (n + 1 + 1)))))), (qt, .inl (cB, 4096, .inl (upd ((upd ((upd f n (vp_nar .byte (((x >>> (24 &&& 31)).toInt8.toInt32))))) (n + 1) (vp_nar .byte (((x >>> (16 &&& 31)).toInt8.toInt32))))) (n + 1 + 1) (vp_nar .byte (((x >>> (8 &&& 31)).toInt8.toInt32))))))] := hD
  refine lv_aload_n hx hb d_Mo_four_20 rfl (lv_at hl 1 rfl) ?_
  refine lv_dup hx hb d_Mo_four_21 rfl ?_
  refine va_get (D := (dC, dI)) (ci := 13) (v := .int (nI (n + 1 + 1))) (C := R_Mo) (T := F_Mo) (N := 30) hx hb hts in_Mo hown hK hP 0 rfl rfl 1 (by decide) (hts _ w_1090) (fun _ h9 => h9) (MFg (by decide) (va_up_self _ _ _)) d_Mo_four_22 ?_
  refine lv_iconst (v := 1) hx hb d_Mo_four_25 (by decide) ?_
  refine lv_iadd hx hb d_Mo_four_26 ?_
  refine W.eq (g2 := F0 m 27 ls [.int (nI (n + 1 + 1 + 1)), .ref mo]) (by rw [show ((nI (n + 1 + 1)) + 1) = (nI (n + 1 + 1 + 1)) from nI_1 _]) ?_
  refine va_put (D := (dC, dI)) (ci := 13) (v := .int (nI (n + 1 + 1 + 1))) (ty := .int) (C := R_Mo) (T := F_Mo) (N := 30) hx hb hts in_Mo t_Mo t_Mo_ok n_Mo hown hK hP hD hS 0 rfl rfl 1 (by decide) (hts _ w_1090) (fun _ h9 => h9) rfl (by decide +kernel) rfl rfl (by rw [MFl]; decide) d_Mo_four_27 (fun H locs hP hD hS => ?_)
  rw [MFs (n := 30) (k := 1) (by decide)] at hP hD
  rw [bx_uu] at hP hD
  have hP : va_P (dC, dI) classes [(mo, .inr (13, MF 30 (va_up v 1 (.int (nI (n + 1 + 1 + 1)))))), (qt, .inl (cB, 4096, .inl (upd ((upd ((upd f n (vp_nar .byte (((x >>> (24 &&& 31)).toInt8.toInt32))))) (n + 1) (vp_nar .byte (((x >>> (16 &&& 31)).toInt8.toInt32))))) (n + 1 + 1) (vp_nar .byte (((x >>> (8 &&& 31)).toInt8.toInt32))))))] H := hP
  have hD : va_D A [(mo, .inr (13, MF 30 (va_up v 1 (.int (nI (n + 1 + 1 + 1)))))), (qt, .inl (cB, 4096, .inl (upd ((upd ((upd f n (vp_nar .byte (((x >>> (24 &&& 31)).toInt8.toInt32))))) (n + 1) (vp_nar .byte (((x >>> (16 &&& 31)).toInt8.toInt32))))) (n + 1 + 1) (vp_nar .byte (((x >>> (8 &&& 31)).toInt8.toInt32))))))] := hD
  refine lv_iinc (v := 0) (lv' := [(2, .int 0), (0, .ref mo), (1, .int x)]) hx hb d_Mo_four_30 hl (k := 0) rfl (by decide) (by decide) rfl (fun ls hl => ?_)
  refine lv_goto (tgt := 3) hx hb d_Mo_four_33 (by decide) ?_
  refine lv_iload_n hx hb d_Mo_four_3 rfl (lv_at hl 0 rfl) ?_
  refine lv_if_lt (tgt := 36) hx hb d_Mo_four_4 (by decide) (fun h => absurd h (by decide)) (fun _ => ?_)
  refine lv_aload_n hx hb d_Mo_four_7 rfl (lv_at hl 1 rfl) ?_
  refine va_get (D := (dC, dI)) (ci := 13) (v := .ref qt) (C := R_Mo) (T := F_Mo) (N := 30) hx hb hts in_Mo hown hK hP 0 rfl rfl 0 (by decide) (hts _ w_1089) (fun _ h9 => h9) (MFg (by decide) ((va_up_ne _ _ (by decide)).trans (h0))) d_Mo_four_8 ?_
  refine lv_aload_n hx hb d_Mo_four_11 rfl (lv_at hl 1 rfl) ?_
  refine va_get (D := (dC, dI)) (ci := 13) (v := .int (nI (n + 1 + 1 + 1))) (C := R_Mo) (T := F_Mo) (N := 30) hx hb hts in_Mo hown hK hP 0 rfl rfl 1 (by decide) (hts _ w_1090) (fun _ h9 => h9) (MFg (by decide) (va_up_self _ _ _)) d_Mo_four_12 ?_
  refine lv_iload_n hx hb d_Mo_four_15 rfl (lv_at hl 2 rfl) ?_
  refine lv_iload_n hx hb d_Mo_four_16 rfl (lv_at hl 0 rfl) ?_
  refine lv_ishr hx hb d_Mo_four_17 ?_
  refine lv_i2b (v := (x >>> (0 &&& 31)).toInt8.toInt32) hx hb d_Mo_four_18 rfl ?_
  refine va_bast hx hb hK hP hD hS 1 0 rfl rfl (vp_in_nI (show n + 1 + 1 + 1 < 4096 by omega) (by decide)) d_Mo_four_19 (fun H locs hP hD hS => ?_)
  rw [show ((nI (n + 1 + 1 + 1))).toNatClampNeg = (n + 1 + 1 + 1) from nI_clamp (by omega)] at hP hD
  have hP : va_P (dC, dI) classes [(mo, .inr (13, MF 30 (va_up v 1 (.int (nI (n + 1 + 1 + 1)))))), (qt, .inl (cB, 4096, .inl (upd ((upd ((upd ((upd f n (vp_nar .byte (((x >>> (24 &&& 31)).toInt8.toInt32))))) (n + 1) (vp_nar .byte (((x >>> (16 &&& 31)).toInt8.toInt32))))) (n + 1 + 1) (vp_nar .byte (((x >>> (8 &&& 31)).toInt8.toInt32))))) (n + 1 + 1 + 1) (vp_nar .byte (((x >>> (0 &&& 31)).toInt8.toInt32))))))] H := hP
  have hD : va_D A [(mo, .inr (13, MF 30 (va_up v 1 (.int (nI (n + 1 + 1 + 1)))))), (qt, .inl (cB, 4096, .inl (upd ((upd ((upd ((upd f n (vp_nar .byte (((x >>> (24 &&& 31)).toInt8.toInt32))))) (n + 1) (vp_nar .byte (((x >>> (16 &&& 31)).toInt8.toInt32))))) (n + 1 + 1) (vp_nar .byte (((x >>> (8 &&& 31)).toInt8.toInt32))))) (n + 1 + 1 + 1) (vp_nar .byte (((x >>> (0 &&& 31)).toInt8.toInt32))))))] := hD
  refine lv_aload_n hx hb d_Mo_four_20 rfl (lv_at hl 1 rfl) ?_
  refine lv_dup hx hb d_Mo_four_21 rfl ?_
  refine va_get (D := (dC, dI)) (ci := 13) (v := .int (nI (n + 1 + 1 + 1))) (C := R_Mo) (T := F_Mo) (N := 30) hx hb hts in_Mo hown hK hP 0 rfl rfl 1 (by decide) (hts _ w_1090) (fun _ h9 => h9) (MFg (by decide) (va_up_self _ _ _)) d_Mo_four_22 ?_
  refine lv_iconst (v := 1) hx hb d_Mo_four_25 (by decide) ?_
  refine lv_iadd hx hb d_Mo_four_26 ?_
  refine W.eq (g2 := F0 m 27 ls [.int (nI (n + 1 + 1 + 1 + 1)), .ref mo]) (by rw [show ((nI (n + 1 + 1 + 1)) + 1) = (nI (n + 1 + 1 + 1 + 1)) from nI_1 _]) ?_
  refine va_put (D := (dC, dI)) (ci := 13) (v := .int (nI (n + 1 + 1 + 1 + 1))) (ty := .int) (C := R_Mo) (T := F_Mo) (N := 30) hx hb hts in_Mo t_Mo t_Mo_ok n_Mo hown hK hP hD hS 0 rfl rfl 1 (by decide) (hts _ w_1090) (fun _ h9 => h9) rfl (by decide +kernel) rfl rfl (by rw [MFl]; decide) d_Mo_four_27 (fun H locs hP hD hS => ?_)
  rw [MFs (n := 30) (k := 1) (by decide)] at hP hD
  rw [bx_uu] at hP hD
  have hP : va_P (dC, dI) classes [(mo, .inr (13, MF 30 (va_up v 1 (.int (nI (n + 1 + 1 + 1 + 1)))))), (qt, .inl (cB, 4096, .inl (upd ((upd ((upd ((upd f n (vp_nar .byte (((x >>> (24 &&& 31)).toInt8.toInt32))))) (n + 1) (vp_nar .byte (((x >>> (16 &&& 31)).toInt8.toInt32))))) (n + 1 + 1) (vp_nar .byte (((x >>> (8 &&& 31)).toInt8.toInt32))))) (n + 1 + 1 + 1) (vp_nar .byte (((x >>> (0 &&& 31)).toInt8.toInt32))))))] H := hP
  have hD : va_D A [(mo, .inr (13, MF 30 (va_up v 1 (.int (nI (n + 1 + 1 + 1 + 1)))))), (qt, .inl (cB, 4096, .inl (upd ((upd ((upd ((upd f n (vp_nar .byte (((x >>> (24 &&& 31)).toInt8.toInt32))))) (n + 1) (vp_nar .byte (((x >>> (16 &&& 31)).toInt8.toInt32))))) (n + 1 + 1) (vp_nar .byte (((x >>> (8 &&& 31)).toInt8.toInt32))))) (n + 1 + 1 + 1) (vp_nar .byte (((x >>> (0 &&& 31)).toInt8.toInt32))))))] := hD
  refine lv_iinc (v := (-8)) (lv' := [(2, .int (-8)), (0, .ref mo), (1, .int x)]) hx hb d_Mo_four_30 hl (k := 0) rfl (by decide) (by decide) rfl (fun ls hl => ?_)
  refine lv_goto (tgt := 3) hx hb d_Mo_four_33 (by decide) ?_
  refine lv_iload_n hx hb d_Mo_four_3 rfl (lv_at hl 0 rfl) ?_
  refine lv_if_lt (tgt := 36) hx hb d_Mo_four_4 (by decide) (fun _ => ?_) (fun h => absurd (by decide) h)
  exact W.vret hx hb hr (fun t ht hW => ⟨⟨(), rfl, trivial, by rw [ht]; exact hP, va_K.moved hW.alike hK, hD⟩, hS.F ht⟩) hS.2.2 d_Mo_four_36
abbrev b_Mo_feed : ByteArray := prog_14_method_7_code
def y_Mo_feed : MethodName := ⟨"QueryBenchModel", "feed", "(IIIII)I"⟩
abbrev k_Mo_feed : Cond := .code y_Mo_feed b_Mo_feed 6 (some .int)
theorem i_Mo_feed : k_Mo_feed ∈ gtbl := gt_in 1187 (by decide +kernel) (by decide +kernel)
theorem d_Mo_feed_0 : decode b_Mo_feed 0 = .ok (.aload_n 0, 1) := by decide +kernel
theorem d_Mo_feed_1 : decode b_Mo_feed 1 = .ok (.aload_n 0, 1) := by decide +kernel
theorem d_Mo_feed_2 : decode b_Mo_feed 2 = .ok (.getfield 119, 3) := by decide +kernel
theorem d_Mo_feed_5 : decode b_Mo_feed 5 = .ok (.bipush 20, 2) := by decide +kernel
theorem d_Mo_feed_7 : decode b_Mo_feed 7 = .ok (.iadd, 1) := by decide +kernel
theorem d_Mo_feed_8 : decode b_Mo_feed 8 = .ok (.sipush 4096, 3) := by decide +kernel
theorem d_Mo_feed_11 : decode b_Mo_feed 11 = .ok (.if_icmp .gt 7, 3) := by decide +kernel
theorem d_Mo_feed_14 : decode b_Mo_feed 14 = .ok (.iconst 1, 1) := by decide +kernel
theorem d_Mo_feed_15 : decode b_Mo_feed 15 = .ok (.goto 4, 3) := by decide +kernel
theorem d_Mo_feed_18 : decode b_Mo_feed 18 = .ok (.iconst 0, 1) := by decide +kernel
theorem d_Mo_feed_19 : decode b_Mo_feed 19 = .ok (.iconst 1, 1) := by decide +kernel
theorem d_Mo_feed_20 : decode b_Mo_feed 20 = .ok (.invokevirtual 122, 3) := by decide +kernel
theorem d_Mo_feed_23 : decode b_Mo_feed 23 = .ok (.ifCond .ne 5, 3) := by decide +kernel
theorem d_Mo_feed_26 : decode b_Mo_feed 26 = .ok (.iconst 0, 1) := by decide +kernel
theorem d_Mo_feed_27 : decode b_Mo_feed 27 = .ok (.ireturn, 1) := by decide +kernel
theorem d_Mo_feed_28 : decode b_Mo_feed 28 = .ok (.aload_n 0, 1) := by decide +kernel
theorem d_Mo_feed_29 : decode b_Mo_feed 29 = .ok (.iload_n 1, 1) := by decide +kernel
theorem d_Mo_feed_30 : decode b_Mo_feed 30 = .ok (.invokevirtual 126, 3) := by decide +kernel
theorem d_Mo_feed_33 : decode b_Mo_feed 33 = .ok (.aload_n 0, 1) := by decide +kernel
theorem d_Mo_feed_34 : decode b_Mo_feed 34 = .ok (.iload_n 2, 1) := by decide +kernel
theorem d_Mo_feed_35 : decode b_Mo_feed 35 = .ok (.invokevirtual 126, 3) := by decide +kernel
theorem d_Mo_feed_38 : decode b_Mo_feed 38 = .ok (.aload_n 0, 1) := by decide +kernel
theorem d_Mo_feed_39 : decode b_Mo_feed 39 = .ok (.iload_n 3, 1) := by decide +kernel
theorem d_Mo_feed_40 : decode b_Mo_feed 40 = .ok (.invokevirtual 126, 3) := by decide +kernel
theorem d_Mo_feed_43 : decode b_Mo_feed 43 = .ok (.aload_n 0, 1) := by decide +kernel
theorem d_Mo_feed_44 : decode b_Mo_feed 44 = .ok (.iload 4, 2) := by decide +kernel
theorem d_Mo_feed_46 : decode b_Mo_feed 46 = .ok (.invokevirtual 126, 3) := by decide +kernel
theorem d_Mo_feed_49 : decode b_Mo_feed 49 = .ok (.aload_n 0, 1) := by decide +kernel
theorem d_Mo_feed_50 : decode b_Mo_feed 50 = .ok (.iload 5, 2) := by decide +kernel
theorem d_Mo_feed_52 : decode b_Mo_feed 52 = .ok (.invokevirtual 126, 3) := by decide +kernel
theorem d_Mo_feed_55 : decode b_Mo_feed 55 = .ok (.aload_n 0, 1) := by decide +kernel
theorem d_Mo_feed_56 : decode b_Mo_feed 56 = .ok (.getfield 119, 3) := by decide +kernel
theorem d_Mo_feed_59 : decode b_Mo_feed 59 = .ok (.ireturn, 1) := by decide +kernel
set_option maxHeartbeats 4000000 in
set_option maxRecDepth 100000 in
/-- the reference: feed -/
theorem c_Mo_feed (l : Launch) (dC : Nat → ClassId) (dI : Nat → Nat → Nat) (mo : Nat) (sz : Heap) (v : Nat → Value) (cB : ClassId) (qt : Nat) (f : Nat → Int32) (n : Nat) (a b c_ d e_ : Int32) (hn0 : n ≤ 4096) (h0 : v 0 = .ref qt) (h1 : v 1 = .int (nI n)) : Met l y_Mo_feed (k_Mo_feed :: gtbl) ({ frames := 1, cells := 0, slots := 0, locals := 24 }) (va_Pc [.ref mo, .int a, .int b, .int c_, .int d, .int e_] (mp dC dI [(mo, .inr (13, MF 30 v)), (qt, .inl (cB, 4096, .inl f))] [(cB, .byte)] sz)) (va_Qi (fun (r : Int32) (u : (Nat → Value) × (Nat → Int32)) => (n + 20 ≤ 4096 ∧ r = nI (n + 20) ∧ u = (va_up (va_up v 4 (.int 0)) 1 (.int (nI (n + 20))), feed5 f n a b c_ d e_)) ∨ (¬ n + 20 ≤ 4096 ∧ u = (va_up v 4 (.int 1), f))) (fun u => mz dC dI [(mo, .inr (13, MF 30 u.1)), (qt, .inl (cB, 4096, .inl u.2))] [(cB, .byte)] (va_A [(mo, .inr (13, MF 30 v)), (qt, .inl (cB, 4096, .inl f))] sz.size)) (va_A [(mo, .inr (13, MF 30 v)), (qt, .inl (cB, 4096, .inl f))] sz.size)) 0 0 (va_A [(mo, .inr (13, MF 30 v)), (qt, .inl (cB, 4096, .inl f))] sz.size) := by
  refine Met.ofW (cc := b_Mo_feed) (maxL := 6) (ret := (some .int)) (by decide) rfl ?_
  intro p e s m args below meth c s₁ B hml hv
  obtain ⟨rfl, hsz, hP, hK, hD0⟩ := hv
  have hx := B.exec
  have hb := B.bytes
  have hr := B.returns
  have hts0 := atoms_spec (ws := k_Mo_feed :: gtbl) B.pre
  have hts := fun w h => hts0 w (List.mem_cons_of_mem _ h)
  have hown : s.vm.findClass R_Mo = some m.cls := findClass_of_methodNamed B.named
  have hlocks := B.notSynchronized
  subst hsz
  have hD := hD0.self (sz := s.heap.size)
  generalize hAe : va_A [(mo, .inr (13, MF 30 v)), (qt, .inl (cB, 4096, .inl f))] s.heap.size = A at hD ⊢
  have hA : ∀ q : Nat, s.heap.size ≤ q → A q := fun q h => by rw [← hAe]; exact Or.inr h
  have hS : va_S A s.heap s.heap [] := va_S.rf
  have hP : va_P (dC, dI) classes [(mo, .inr (13, MF 30 v)), (qt, .inl (cB, 4096, .inl f))] s.heap := hP
  have hl := lv_entry ([.ref mo, .int a, .int b, .int c_, .int d, .int e_]) (n := 6) (Nat.le_of_ble_eq_true rfl)
  rw [lg_entry_eq]
  generalize (lg_sl ([.ref mo, .int a, .int b, .int c_, .int d, .int e_]) ++ List.replicate (6 - (lg_sl ([.ref mo, .int a, .int b, .int c_, .int d, .int e_])).length) Slot.unset).toArray = ls at hl ⊢
  have hl : lv_has ls 6 [(0, .ref mo), (1, .int a), (2, .int b), (3, .int c_), (4, .int d), (5, .int e_)] := hl
  refine lv_aload_n hx hb d_Mo_feed_0 rfl (lv_at hl 0 rfl) ?_
  refine lv_aload_n hx hb d_Mo_feed_1 rfl (lv_at hl 0 rfl) ?_
  refine va_get (D := (dC, dI)) (ci := 13) (v := .int (nI n)) (C := R_Mo) (T := F_Mo) (N := 30) hx hb hts in_Mo hown hK hP 0 rfl rfl 1 (by decide) (hts _ w_1090) (fun _ h9 => h9) (MFg (by decide) h1) d_Mo_feed_2 ?_
  refine lv_bipush (v := 20) hx hb d_Mo_feed_5 (by decide) ?_
  refine lv_iadd hx hb d_Mo_feed_7 ?_
  refine lv_sipush (v := 4096) hx hb d_Mo_feed_8 (by decide) ?_
  refine lv_icmp_gt (tgt := 18) hx hb d_Mo_feed_11 (by decide) (fun c1 => ?_) (fun c1 => ?_)
  · have hg : ¬ n + 20 ≤ 4096 := fun h => absurd c1 (by rw [show nI n + 20 = nI (n + 20) from nI_add n 20, show (4096 : Int32) = nI 4096 from rfl, nI_ltI (by omega) (by omega)]; omega)
    refine lv_iconst (v := 0) hx hb d_Mo_feed_18 (by decide) ?_
    refine lv_iconst (v := 1) hx hb d_Mo_feed_19 (by decide) ?_
    have hPc := hP.sub (ws' := [(mo, .inr (13, MF 30 v))]) [0] rfl
    have hDc := hD.sub (ws' := [(mo, .inr (13, MF 30 v))]) [0] (by decide) rfl
    have hKc := hK.sub (tys' := []) [] rfl
    have hFc := va_free (wc := [(mo, .inr (13, MF 30 v))]) hD hS hA [0] rfl
    refine va_calli (va_runV (As := [.int 0, .int 1]) (rest := []) ⟨hx, hb, hml, hown, hts⟩ (c_Mo_good0 l dC dI mo s.heap v 1) (cwV 2 hts (gt_V (own := R_Mo) (C := R_Mo) (i := 122) (y := y_Mo_good) i_Mo_good w_1188 w_1190 (gt_sel (y := y_Mo_good) (n := 30) (by decide +kernel)) w_7) rfl rfl rfl (by decide +kernel) ⟨Nat.le_of_ble_eq_true rfl, Nat.le_of_ble_eq_true rfl⟩) ⟨mp_blind, va_recv hKc hPc (ci := 13) (q0 := 0) rfl rfl, fun U hU hW => ⟨rfl, hU, by rw [hU]; exact hPc, va_K.moved hW.alike hKc, hDc.weaken (fun _ _ _ _ => trivial)⟩⟩ rfl rfl hl.1 rfl (lv_room (Nat.le_of_ble_eq_true rfl)) d_Mo_feed_20 ⟨Nat.le_of_ble_eq_true rfl, Nat.le_of_ble_eq_true rfl⟩) hS (fun q _ h => hFc q h) hFc (fun r u t H1 locs ht hvm hw hB hz1 hk1 hS => ?_)
    obtain ⟨hP1, hK1, hD1⟩ := hB
    rw [ht] at hP1
    obtain ⟨hP, hD⟩ := va_join (wr := [(qt, .inl (cB, 4096, .inl f))]) (w1 := [(mo, .inr (13, MF 30 (va_up v 4 (.int 1))))]) hP hD [0] [1] rfl rfl (by decide) (by decide) hk1 hFc hP1 hD1
    generalize H1 = H at hP hS ⊢
    have hP : va_P (dC, dI) classes [(qt, .inl (cB, 4096, .inl f)), (mo, .inr (13, MF 30 (va_up v 4 (.int 1))))] H := hP
    have hD : va_D A [(qt, .inl (cB, 4096, .inl f)), (mo, .inr (13, MF 30 (va_up v 4 (.int 1))))] := hD
    have hw : r = 0 := hw
    subst hw
    refine lv_if_ne (tgt := 28) hx hb d_Mo_feed_23 (by decide) (fun h => absurd h (by decide)) (fun _ => ?_)
    refine lv_iconst (v := 0) hx hb d_Mo_feed_26 (by decide) ?_
    exact W.iret (v := 0) hx hb hr (fun t ht hW => ⟨⟨0, (va_up v 4 (.int 1), f), rfl, Or.inr ⟨hg, rfl⟩, by rw [ht]; exact hP.sub [1, 0] rfl, va_K.moved hW.alike hK, hD.sub [1, 0] (by decide) rfl⟩, hS.F ht⟩) hS.2.2 d_Mo_feed_27
  · have hg : n + 20 ≤ 4096 := by rw [show nI n + 20 = nI (n + 20) from nI_add n 20, show (4096 : Int32) = nI 4096 from rfl, nI_ltI (by omega) (by omega)] at c1; omega
    refine lv_iconst (v := 1) hx hb d_Mo_feed_14 (by decide) ?_
    refine lv_goto (tgt := 19) hx hb d_Mo_feed_15 (by decide) ?_
    refine lv_iconst (v := 1) hx hb d_Mo_feed_19 (by decide) ?_
    have hPc := hP.sub (ws' := [(mo, .inr (13, MF 30 v))]) [0] rfl
    have hDc := hD.sub (ws' := [(mo, .inr (13, MF 30 v))]) [0] (by decide) rfl
    have hKc := hK.sub (tys' := []) [] rfl
    have hFc := va_free (wc := [(mo, .inr (13, MF 30 v))]) hD hS hA [0] rfl
    refine va_calli (va_runV (As := [.int 1, .int 1]) (rest := []) ⟨hx, hb, hml, hown, hts⟩ (c_Mo_good1 l dC dI mo s.heap v 1) (cwV 2 hts (gt_V (own := R_Mo) (C := R_Mo) (i := 122) (y := y_Mo_good) i_Mo_good w_1188 w_1190 (gt_sel (y := y_Mo_good) (n := 30) (by decide +kernel)) w_7) rfl rfl rfl (by decide +kernel) ⟨Nat.le_of_ble_eq_true rfl, Nat.le_of_ble_eq_true rfl⟩) ⟨mp_blind, va_recv hKc hPc (ci := 13) (q0 := 0) rfl rfl, fun U hU hW => ⟨rfl, hU, by rw [hU]; exact hPc, va_K.moved hW.alike hKc, hDc.weaken (fun _ _ _ _ => trivial)⟩⟩ rfl rfl hl.1 rfl (lv_room (Nat.le_of_ble_eq_true rfl)) d_Mo_feed_20 ⟨Nat.le_of_ble_eq_true rfl, Nat.le_of_ble_eq_true rfl⟩) hS (fun q _ h => hFc q h) hFc (fun r u t H1 locs ht hvm hw hB hz1 hk1 hS => ?_)
    obtain ⟨hP1, hK1, hD1⟩ := hB
    rw [ht] at hP1
    obtain ⟨hP, hD⟩ := va_join (wr := [(qt, .inl (cB, 4096, .inl f))]) (w1 := [(mo, .inr (13, MF 30 (va_up v 4 (.int 0))))]) hP hD [0] [1] rfl rfl (by decide) (by decide) hk1 hFc hP1 hD1
    generalize H1 = H at hP hS ⊢
    have hP : va_P (dC, dI) classes [(qt, .inl (cB, 4096, .inl f)), (mo, .inr (13, MF 30 (va_up v 4 (.int 0))))] H := hP
    have hD : va_D A [(qt, .inl (cB, 4096, .inl f)), (mo, .inr (13, MF 30 (va_up v 4 (.int 0))))] := hD
    have hw : r = 1 := hw
    subst hw
    refine lv_if_ne (tgt := 28) hx hb d_Mo_feed_23 (by decide) (fun _ => ?_) (fun h => absurd h (by decide))
    refine lv_aload_n hx hb d_Mo_feed_28 rfl (lv_at hl 0 rfl) ?_
    refine lv_iload_n hx hb d_Mo_feed_29 rfl (lv_at hl 1 rfl) ?_
    have hPc := hP.sub (ws' := [(mo, .inr (13, MF 30 (va_up v 4 (.int 0)))), (qt, .inl (cB, 4096, .inl f))]) [1, 0] rfl
    have hDc := hD.sub (ws' := [(mo, .inr (13, MF 30 (va_up v 4 (.int 0)))), (qt, .inl (cB, 4096, .inl f))]) [1, 0] (by decide) rfl
    have hKc := hK.sub (tys' := [(cB, .byte)]) [0] rfl
    have hFc := va_free (wc := [(mo, .inr (13, MF 30 (va_up v 4 (.int 0)))), (qt, .inl (cB, 4096, .inl f))]) hD hS hA [1, 0] rfl
    refine va_callv (va_runV (As := [.int a]) (rest := []) ⟨hx, hb, hml, hown, hts⟩ (c_Mo_four l dC dI mo H (va_up v 4 (.int 0)) cB qt f n a (by omega) ((va_up_ne _ _ (by decide)).trans (h0)) ((va_up_ne _ _ (by decide)).trans (h1))) (cwV 1 hts (gt_V (own := R_Mo) (C := R_Mo) (i := 126) (y := y_Mo_four) i_Mo_four w_1192 w_1194 (gt_sel (y := y_Mo_four) (n := 30) (by decide +kernel)) w_7) rfl rfl rfl (by decide +kernel) ⟨Nat.le_of_ble_eq_true rfl, Nat.le_of_ble_eq_true rfl⟩) ⟨mp_blind, va_recv hKc hPc (ci := 13) (q0 := 0) rfl rfl, fun U hU hW => ⟨rfl, hU, by rw [hU]; exact hPc, va_K.moved hW.alike hKc, hDc.weaken (fun _ _ _ _ => trivial)⟩⟩ rfl rfl hl.1 rfl (lv_room (Nat.le_of_ble_eq_true rfl)) d_Mo_feed_30 ⟨Nat.le_of_ble_eq_true rfl, Nat.le_of_ble_eq_true rfl⟩) hS (fun q _ h => hFc q h) hFc (fun u t H1 locs ht hvm hw hB hz1 hk1 hS => ?_)
    obtain ⟨hP1, hK1, hD1⟩ := hB
    rw [ht] at hP1
    obtain ⟨hP, hD⟩ := va_join (wr := []) (w1 := [(mo, .inr (13, MF 30 (va_up (va_up v 4 (.int 0)) 1 (.int (nI (n + 4)))))), (qt, .inl (cB, 4096, .inl (put4 f n a)))]) hP hD [1, 0] [] rfl rfl (by decide) (by decide) hk1 hFc hP1 hD1
    generalize H1 = H at hP hS ⊢
    have hP : va_P (dC, dI) classes [(mo, .inr (13, MF 30 (va_up (va_up v 4 (.int 0)) 1 (.int (nI (n + 4)))))), (qt, .inl (cB, 4096, .inl (put4 f n a)))] H := hP
    have hD : va_D A [(mo, .inr (13, MF 30 (va_up (va_up v 4 (.int 0)) 1 (.int (nI (n + 4)))))), (qt, .inl (cB, 4096, .inl (put4 f n a)))] := hD
    refine lv_aload_n hx hb d_Mo_feed_33 rfl (lv_at hl 0 rfl) ?_
    refine lv_iload_n hx hb d_Mo_feed_34 rfl (lv_at hl 2 rfl) ?_
    have hPc := hP.sub (ws' := [(mo, .inr (13, MF 30 (va_up (va_up v 4 (.int 0)) 1 (.int (nI (n + 4)))))), (qt, .inl (cB, 4096, .inl (put4 f n a)))]) [0, 1] rfl
    have hDc := hD.sub (ws' := [(mo, .inr (13, MF 30 (va_up (va_up v 4 (.int 0)) 1 (.int (nI (n + 4)))))), (qt, .inl (cB, 4096, .inl (put4 f n a)))]) [0, 1] (by decide) rfl
    have hKc := hK.sub (tys' := [(cB, .byte)]) [0] rfl
    have hFc := va_free (wc := [(mo, .inr (13, MF 30 (va_up (va_up v 4 (.int 0)) 1 (.int (nI (n + 4)))))), (qt, .inl (cB, 4096, .inl (put4 f n a)))]) hD hS hA [0, 1] rfl
    refine va_callv (va_runV (As := [.int b]) (rest := []) ⟨hx, hb, hml, hown, hts⟩ (c_Mo_four l dC dI mo H (va_up (va_up v 4 (.int 0)) 1 (.int (nI (n + 4)))) cB qt (put4 f n a) (n + 4) b (by omega) ((va_up_ne _ _ (by decide)).trans ((va_up_ne _ _ (by decide)).trans (h0))) (va_up_self _ _ _)) (cwV 1 hts (gt_V (own := R_Mo) (C := R_Mo) (i := 126) (y := y_Mo_four) i_Mo_four w_1192 w_1194 (gt_sel (y := y_Mo_four) (n := 30) (by decide +kernel)) w_7) rfl rfl rfl (by decide +kernel) ⟨Nat.le_of_ble_eq_true rfl, Nat.le_of_ble_eq_true rfl⟩) ⟨mp_blind, va_recv hKc hPc (ci := 13) (q0 := 0) rfl rfl, fun U hU hW => ⟨rfl, hU, by rw [hU]; exact hPc, va_K.moved hW.alike hKc, hDc.weaken (fun _ _ _ _ => trivial)⟩⟩ rfl rfl hl.1 rfl (lv_room (Nat.le_of_ble_eq_true rfl)) d_Mo_feed_35 ⟨Nat.le_of_ble_eq_true rfl, Nat.le_of_ble_eq_true rfl⟩) hS (fun q _ h => hFc q h) hFc (fun u t H1 locs ht hvm hw hB hz1 hk1 hS => ?_)
    obtain ⟨hP1, hK1, hD1⟩ := hB
    rw [ht] at hP1
    obtain ⟨hP, hD⟩ := va_join (wr := []) (w1 := [(mo, .inr (13, MF 30 (va_up (va_up (va_up v 4 (.int 0)) 1 (.int (nI (n + 4)))) 1 (.int (nI (n + 8)))))), (qt, .inl (cB, 4096, .inl (put4 (put4 f n a) (n + 4) b)))]) hP hD [0, 1] [] rfl rfl (by decide) (by decide) hk1 hFc hP1 hD1
    generalize H1 = H at hP hS ⊢
    have hP : va_P (dC, dI) classes [(mo, .inr (13, MF 30 (va_up (va_up (va_up v 4 (.int 0)) 1 (.int (nI (n + 4)))) 1 (.int (nI (n + 8)))))), (qt, .inl (cB, 4096, .inl (put4 (put4 f n a) (n + 4) b)))] H := hP
    have hD : va_D A [(mo, .inr (13, MF 30 (va_up (va_up (va_up v 4 (.int 0)) 1 (.int (nI (n + 4)))) 1 (.int (nI (n + 8)))))), (qt, .inl (cB, 4096, .inl (put4 (put4 f n a) (n + 4) b)))] := hD
    rw [bx_uu] at hP hD
    have hP : va_P (dC, dI) classes [(mo, .inr (13, MF 30 (va_up (va_up v 4 (.int 0)) 1 (.int (nI (n + 8)))))), (qt, .inl (cB, 4096, .inl (put4 (put4 f n a) (n + 4) b)))] H := hP
    have hD : va_D A [(mo, .inr (13, MF 30 (va_up (va_up v 4 (.int 0)) 1 (.int (nI (n + 8)))))), (qt, .inl (cB, 4096, .inl (put4 (put4 f n a) (n + 4) b)))] := hD
    refine lv_aload_n hx hb d_Mo_feed_38 rfl (lv_at hl 0 rfl) ?_
    refine lv_iload_n hx hb d_Mo_feed_39 rfl (lv_at hl 3 rfl) ?_
    have hPc := hP.sub (ws' := [(mo, .inr (13, MF 30 (va_up (va_up v 4 (.int 0)) 1 (.int (nI (n + 8)))))), (qt, .inl (cB, 4096, .inl (put4 (put4 f n a) (n + 4) b)))]) [0, 1] rfl
    have hDc := hD.sub (ws' := [(mo, .inr (13, MF 30 (va_up (va_up v 4 (.int 0)) 1 (.int (nI (n + 8)))))), (qt, .inl (cB, 4096, .inl (put4 (put4 f n a) (n + 4) b)))]) [0, 1] (by decide) rfl
    have hKc := hK.sub (tys' := [(cB, .byte)]) [0] rfl
    have hFc := va_free (wc := [(mo, .inr (13, MF 30 (va_up (va_up v 4 (.int 0)) 1 (.int (nI (n + 8)))))), (qt, .inl (cB, 4096, .inl (put4 (put4 f n a) (n + 4) b)))]) hD hS hA [0, 1] rfl
    refine va_callv (va_runV (As := [.int c_]) (rest := []) ⟨hx, hb, hml, hown, hts⟩ (c_Mo_four l dC dI mo H (va_up (va_up v 4 (.int 0)) 1 (.int (nI (n + 8)))) cB qt (put4 (put4 f n a) (n + 4) b) (n + 8) c_ (by omega) ((va_up_ne _ _ (by decide)).trans ((va_up_ne _ _ (by decide)).trans (h0))) (va_up_self _ _ _)) (cwV 1 hts (gt_V (own := R_Mo) (C := R_Mo) (i := 126) (y := y_Mo_four) i_Mo_four w_1192 w_1194 (gt_sel (y := y_Mo_four) (n := 30) (by decide +kernel)) w_7) rfl rfl rfl (by decide +kernel) ⟨Nat.le_of_ble_eq_true rfl, Nat.le_of_ble_eq_true rfl⟩) ⟨mp_blind, va_recv hKc hPc (ci := 13) (q0 := 0) rfl rfl, fun U hU hW => ⟨rfl, hU, by rw [hU]; exact hPc, va_K.moved hW.alike hKc, hDc.weaken (fun _ _ _ _ => trivial)⟩⟩ rfl rfl hl.1 rfl (lv_room (Nat.le_of_ble_eq_true rfl)) d_Mo_feed_40 ⟨Nat.le_of_ble_eq_true rfl, Nat.le_of_ble_eq_true rfl⟩) hS (fun q _ h => hFc q h) hFc (fun u t H1 locs ht hvm hw hB hz1 hk1 hS => ?_)
    obtain ⟨hP1, hK1, hD1⟩ := hB
    rw [ht] at hP1
    obtain ⟨hP, hD⟩ := va_join (wr := []) (w1 := [(mo, .inr (13, MF 30 (va_up (va_up (va_up v 4 (.int 0)) 1 (.int (nI (n + 8)))) 1 (.int (nI (n + 12)))))), (qt, .inl (cB, 4096, .inl (put4 (put4 (put4 f n a) (n + 4) b) (n + 8) c_)))]) hP hD [0, 1] [] rfl rfl (by decide) (by decide) hk1 hFc hP1 hD1
    generalize H1 = H at hP hS ⊢
    have hP : va_P (dC, dI) classes [(mo, .inr (13, MF 30 (va_up (va_up (va_up v 4 (.int 0)) 1 (.int (nI (n + 8)))) 1 (.int (nI (n + 12)))))), (qt, .inl (cB, 4096, .inl (put4 (put4 (put4 f n a) (n + 4) b) (n + 8) c_)))] H := hP
    have hD : va_D A [(mo, .inr (13, MF 30 (va_up (va_up (va_up v 4 (.int 0)) 1 (.int (nI (n + 8)))) 1 (.int (nI (n + 12)))))), (qt, .inl (cB, 4096, .inl (put4 (put4 (put4 f n a) (n + 4) b) (n + 8) c_)))] := hD
    rw [bx_uu] at hP hD
    have hP : va_P (dC, dI) classes [(mo, .inr (13, MF 30 (va_up (va_up v 4 (.int 0)) 1 (.int (nI (n + 12)))))), (qt, .inl (cB, 4096, .inl (put4 (put4 (put4 f n a) (n + 4) b) (n + 8) c_)))] H := hP
    have hD : va_D A [(mo, .inr (13, MF 30 (va_up (va_up v 4 (.int 0)) 1 (.int (nI (n + 12)))))), (qt, .inl (cB, 4096, .inl (put4 (put4 (put4 f n a) (n + 4) b) (n + 8) c_)))] := hD
    refine lv_aload_n hx hb d_Mo_feed_43 rfl (lv_at hl 0 rfl) ?_
    refine lv_iload hx hb d_Mo_feed_44 (lv_at hl 4 rfl) ?_
    have hPc := hP.sub (ws' := [(mo, .inr (13, MF 30 (va_up (va_up v 4 (.int 0)) 1 (.int (nI (n + 12)))))), (qt, .inl (cB, 4096, .inl (put4 (put4 (put4 f n a) (n + 4) b) (n + 8) c_)))]) [0, 1] rfl
    have hDc := hD.sub (ws' := [(mo, .inr (13, MF 30 (va_up (va_up v 4 (.int 0)) 1 (.int (nI (n + 12)))))), (qt, .inl (cB, 4096, .inl (put4 (put4 (put4 f n a) (n + 4) b) (n + 8) c_)))]) [0, 1] (by decide) rfl
    have hKc := hK.sub (tys' := [(cB, .byte)]) [0] rfl
    have hFc := va_free (wc := [(mo, .inr (13, MF 30 (va_up (va_up v 4 (.int 0)) 1 (.int (nI (n + 12)))))), (qt, .inl (cB, 4096, .inl (put4 (put4 (put4 f n a) (n + 4) b) (n + 8) c_)))]) hD hS hA [0, 1] rfl
    refine va_callv (va_runV (As := [.int d]) (rest := []) ⟨hx, hb, hml, hown, hts⟩ (c_Mo_four l dC dI mo H (va_up (va_up v 4 (.int 0)) 1 (.int (nI (n + 12)))) cB qt (put4 (put4 (put4 f n a) (n + 4) b) (n + 8) c_) (n + 12) d (by omega) ((va_up_ne _ _ (by decide)).trans ((va_up_ne _ _ (by decide)).trans (h0))) (va_up_self _ _ _)) (cwV 1 hts (gt_V (own := R_Mo) (C := R_Mo) (i := 126) (y := y_Mo_four) i_Mo_four w_1192 w_1194 (gt_sel (y := y_Mo_four) (n := 30) (by decide +kernel)) w_7) rfl rfl rfl (by decide +kernel) ⟨Nat.le_of_ble_eq_true rfl, Nat.le_of_ble_eq_true rfl⟩) ⟨mp_blind, va_recv hKc hPc (ci := 13) (q0 := 0) rfl rfl, fun U hU hW => ⟨rfl, hU, by rw [hU]; exact hPc, va_K.moved hW.alike hKc, hDc.weaken (fun _ _ _ _ => trivial)⟩⟩ rfl rfl hl.1 rfl (lv_room (Nat.le_of_ble_eq_true rfl)) d_Mo_feed_46 ⟨Nat.le_of_ble_eq_true rfl, Nat.le_of_ble_eq_true rfl⟩) hS (fun q _ h => hFc q h) hFc (fun u t H1 locs ht hvm hw hB hz1 hk1 hS => ?_)
    obtain ⟨hP1, hK1, hD1⟩ := hB
    rw [ht] at hP1
    obtain ⟨hP, hD⟩ := va_join (wr := []) (w1 := [(mo, .inr (13, MF 30 (va_up (va_up (va_up v 4 (.int 0)) 1 (.int (nI (n + 12)))) 1 (.int (nI (n + 16)))))), (qt, .inl (cB, 4096, .inl (put4 (put4 (put4 (put4 f n a) (n + 4) b) (n + 8) c_) (n + 12) d)))]) hP hD [0, 1] [] rfl rfl (by decide) (by decide) hk1 hFc hP1 hD1
    generalize H1 = H at hP hS ⊢
    have hP : va_P (dC, dI) classes [(mo, .inr (13, MF 30 (va_up (va_up (va_up v 4 (.int 0)) 1 (.int (nI (n + 12)))) 1 (.int (nI (n + 16)))))), (qt, .inl (cB, 4096, .inl (put4 (put4 (put4 (put4 f n a) (n + 4) b) (n + 8) c_) (n + 12) d)))] H := hP
    have hD : va_D A [(mo, .inr (13, MF 30 (va_up (va_up (va_up v 4 (.int 0)) 1 (.int (nI (n + 12)))) 1 (.int (nI (n + 16)))))), (qt, .inl (cB, 4096, .inl (put4 (put4 (put4 (put4 f n a) (n + 4) b) (n + 8) c_) (n + 12) d)))] := hD
    rw [bx_uu] at hP hD
    have hP : va_P (dC, dI) classes [(mo, .inr (13, MF 30 (va_up (va_up v 4 (.int 0)) 1 (.int (nI (n + 16)))))), (qt, .inl (cB, 4096, .inl (put4 (put4 (put4 (put4 f n a) (n + 4) b) (n + 8) c_) (n + 12) d)))] H := hP
    have hD : va_D A [(mo, .inr (13, MF 30 (va_up (va_up v 4 (.int 0)) 1 (.int (nI (n + 16)))))), (qt, .inl (cB, 4096, .inl (put4 (put4 (put4 (put4 f n a) (n + 4) b) (n + 8) c_) (n + 12) d)))] := hD
    refine lv_aload_n hx hb d_Mo_feed_49 rfl (lv_at hl 0 rfl) ?_
    refine lv_iload hx hb d_Mo_feed_50 (lv_at hl 5 rfl) ?_
    have hPc := hP.sub (ws' := [(mo, .inr (13, MF 30 (va_up (va_up v 4 (.int 0)) 1 (.int (nI (n + 16)))))), (qt, .inl (cB, 4096, .inl (put4 (put4 (put4 (put4 f n a) (n + 4) b) (n + 8) c_) (n + 12) d)))]) [0, 1] rfl
    have hDc := hD.sub (ws' := [(mo, .inr (13, MF 30 (va_up (va_up v 4 (.int 0)) 1 (.int (nI (n + 16)))))), (qt, .inl (cB, 4096, .inl (put4 (put4 (put4 (put4 f n a) (n + 4) b) (n + 8) c_) (n + 12) d)))]) [0, 1] (by decide) rfl
    have hKc := hK.sub (tys' := [(cB, .byte)]) [0] rfl
    have hFc := va_free (wc := [(mo, .inr (13, MF 30 (va_up (va_up v 4 (.int 0)) 1 (.int (nI (n + 16)))))), (qt, .inl (cB, 4096, .inl (put4 (put4 (put4 (put4 f n a) (n + 4) b) (n + 8) c_) (n + 12) d)))]) hD hS hA [0, 1] rfl
    refine va_callv (va_runV (As := [.int e_]) (rest := []) ⟨hx, hb, hml, hown, hts⟩ (c_Mo_four l dC dI mo H (va_up (va_up v 4 (.int 0)) 1 (.int (nI (n + 16)))) cB qt (put4 (put4 (put4 (put4 f n a) (n + 4) b) (n + 8) c_) (n + 12) d) (n + 16) e_ (by omega) ((va_up_ne _ _ (by decide)).trans ((va_up_ne _ _ (by decide)).trans (h0))) (va_up_self _ _ _)) (cwV 1 hts (gt_V (own := R_Mo) (C := R_Mo) (i := 126) (y := y_Mo_four) i_Mo_four w_1192 w_1194 (gt_sel (y := y_Mo_four) (n := 30) (by decide +kernel)) w_7) rfl rfl rfl (by decide +kernel) ⟨Nat.le_of_ble_eq_true rfl, Nat.le_of_ble_eq_true rfl⟩) ⟨mp_blind, va_recv hKc hPc (ci := 13) (q0 := 0) rfl rfl, fun U hU hW => ⟨rfl, hU, by rw [hU]; exact hPc, va_K.moved hW.alike hKc, hDc.weaken (fun _ _ _ _ => trivial)⟩⟩ rfl rfl hl.1 rfl (lv_room (Nat.le_of_ble_eq_true rfl)) d_Mo_feed_52 ⟨Nat.le_of_ble_eq_true rfl, Nat.le_of_ble_eq_true rfl⟩) hS (fun q _ h => hFc q h) hFc (fun u t H1 locs ht hvm hw hB hz1 hk1 hS => ?_)
    obtain ⟨hP1, hK1, hD1⟩ := hB
    rw [ht] at hP1
    obtain ⟨hP, hD⟩ := va_join (wr := []) (w1 := [(mo, .inr (13, MF 30 (va_up (va_up (va_up v 4 (.int 0)) 1 (.int (nI (n + 16)))) 1 (.int (nI (n + 20)))))), (qt, .inl (cB, 4096, .inl (put4 (put4 (put4 (put4 (put4 f n a) (n + 4) b) (n + 8) c_) (n + 12) d) (n + 16) e_)))]) hP hD [0, 1] [] rfl rfl (by decide) (by decide) hk1 hFc hP1 hD1
    generalize H1 = H at hP hS ⊢
    have hP : va_P (dC, dI) classes [(mo, .inr (13, MF 30 (va_up (va_up (va_up v 4 (.int 0)) 1 (.int (nI (n + 16)))) 1 (.int (nI (n + 20)))))), (qt, .inl (cB, 4096, .inl (put4 (put4 (put4 (put4 (put4 f n a) (n + 4) b) (n + 8) c_) (n + 12) d) (n + 16) e_)))] H := hP
    have hD : va_D A [(mo, .inr (13, MF 30 (va_up (va_up (va_up v 4 (.int 0)) 1 (.int (nI (n + 16)))) 1 (.int (nI (n + 20)))))), (qt, .inl (cB, 4096, .inl (put4 (put4 (put4 (put4 (put4 f n a) (n + 4) b) (n + 8) c_) (n + 12) d) (n + 16) e_)))] := hD
    rw [bx_uu] at hP hD
    have hP : va_P (dC, dI) classes [(mo, .inr (13, MF 30 (va_up (va_up v 4 (.int 0)) 1 (.int (nI (n + 20)))))), (qt, .inl (cB, 4096, .inl (put4 (put4 (put4 (put4 (put4 f n a) (n + 4) b) (n + 8) c_) (n + 12) d) (n + 16) e_)))] H := hP
    have hD : va_D A [(mo, .inr (13, MF 30 (va_up (va_up v 4 (.int 0)) 1 (.int (nI (n + 20)))))), (qt, .inl (cB, 4096, .inl (put4 (put4 (put4 (put4 (put4 f n a) (n + 4) b) (n + 8) c_) (n + 12) d) (n + 16) e_)))] := hD
    refine lv_aload_n hx hb d_Mo_feed_55 rfl (lv_at hl 0 rfl) ?_
    refine va_get (D := (dC, dI)) (ci := 13) (v := .int (nI (n + 20))) (C := R_Mo) (T := F_Mo) (N := 30) hx hb hts in_Mo hown hK hP 0 rfl rfl 1 (by decide) (hts _ w_1090) (fun _ h9 => h9) (MFg (by decide) (va_up_self _ _ _)) d_Mo_feed_56 ?_
    exact W.iret (v := nI (n + 20)) hx hb hr (fun t ht hW => ⟨⟨nI (n + 20), (va_up (va_up v 4 (.int 0)) 1 (.int (nI (n + 20))), feed5 f n a b c_ d e_), rfl, Or.inl ⟨hg, rfl, rfl⟩, by rw [ht]; exact hP, va_K.moved hW.alike hK, hD⟩, hS.F ht⟩) hS.2.2 d_Mo_feed_59
