theorem w_13 : (.initialized "java/lang/IllegalArgumentException" : Cond) ∈ gtbl := gt_in 13 (by decide +kernel) (by decide +kernel)
theorem w_260 : (.classLink "QueryBench" 66 "java/lang/IllegalArgumentException" : Cond) ∈ gtbl := gt_in 260 (by decide +kernel) (by decide +kernel)
theorem w_429 : (.constant "QueryBench" 129 56320 : Cond) ∈ gtbl := gt_in 429 (by decide +kernel) (by decide +kernel)
theorem w_430 : (.constant "QueryBench" 130 57343 : Cond) ∈ gtbl := gt_in 430 (by decide +kernel) (by decide +kernel)
theorem w_434 : (.constant "QueryBench" 127 55296 : Cond) ∈ gtbl := gt_in 434 (by decide +kernel) (by decide +kernel)
theorem w_435 : (.constant "QueryBench" 128 56319 : Cond) ∈ gtbl := gt_in 435 (by decide +kernel) (by decide +kernel)
/-- an object's fields out of a function of their places -/
def MF (n : Nat) (v : Nat → Value) : List Value := (List.range n).map v
theorem MFl {n : Nat} {v : Nat → Value} : (MF n v).length = n := by simp [MF]
theorem MFg {n k : Nat} {v : Nat → Value} {x : Value} (hk : k < n) (h : v k = x) : (MF n v)[k]? = some x := by simp [MF, hk, h]
theorem MFs {n k : Nat} {v : Nat → Value} {x : Value} (hk : k < n) : (MF n v).set k x = MF n (va_up v k x) := by
  apply List.ext_getElem?
  intro i
  rw [List.getElem?_set]
  by_cases h : k = i
  · subst h
    simp [MF, va_up, hk]
  · by_cases hi : i < n
    · simp [MF, va_up, h, hi, Ne.symm h]
    · simp [MF, h, hi]
abbrev b_QB_end : ByteArray := prog_1_method_3_code
def y_QB_end : MethodName := ⟨"QueryBench", "end", "(I)I"⟩
abbrev k_QB_end : Cond := .code y_QB_end b_QB_end 2 (some .int)
theorem i_QB_end : k_QB_end ∈ gtbl := gt_in 259 (by decide +kernel) (by decide +kernel)
theorem d_QB_end_0 : decode b_QB_end 0 = .ok (.iload_n 1, 1) := by decide +kernel
theorem d_QB_end_1 : decode b_QB_end 1 = .ok (.ifCond .lt 14, 3) := by decide +kernel
theorem d_QB_end_4 : decode b_QB_end 4 = .ok (.iload_n 1, 1) := by decide +kernel
theorem d_QB_end_5 : decode b_QB_end 5 = .ok (.aload_n 0, 1) := by decide +kernel
theorem d_QB_end_6 : decode b_QB_end 6 = .ok (.getfield 10, 3) := by decide +kernel
theorem d_QB_end_9 : decode b_QB_end 9 = .ok (.getfield 55, 3) := by decide +kernel
theorem d_QB_end_12 : decode b_QB_end 12 = .ok (.if_icmp .le 11, 3) := by decide +kernel
theorem d_QB_end_15 : decode b_QB_end 15 = .ok (.new 66, 3) := by decide +kernel
theorem d_QB_end_18 : decode b_QB_end 18 = .ok (.dup, 1) := by decide +kernel
theorem d_QB_end_19 : decode b_QB_end 19 = .ok (.invokespecial 68, 3) := by decide +kernel
theorem d_QB_end_22 : decode b_QB_end 22 = .ok (.athrow, 1) := by decide +kernel
theorem d_QB_end_23 : decode b_QB_end 23 = .ok (.aload_n 0, 1) := by decide +kernel
theorem d_QB_end_24 : decode b_QB_end 24 = .ok (.getfield 10, 3) := by decide +kernel
theorem d_QB_end_27 : decode b_QB_end 27 = .ok (.iload_n 1, 1) := by decide +kernel
theorem d_QB_end_28 : decode b_QB_end 28 = .ok (.putfield 55, 3) := by decide +kernel
theorem d_QB_end_31 : decode b_QB_end 31 = .ok (.iload_n 1, 1) := by decide +kernel
theorem d_QB_end_32 : decode b_QB_end 32 = .ok (.ireturn, 1) := by decide +kernel
theorem xa_QB_end_15 : ∀ w ∈ vx_at0 R_QB 68 "java/lang/IllegalArgumentException" ["java/lang/RuntimeException", "java/lang/Exception"], (goodWord w = true ∧ w ∈ lw_tbl) ∨ w ∈ nwl := by decide +kernel
theorem xa_QB_end_15_g : ∀ w ∈ Cond.classLink R_QB 66 "java/lang/IllegalArgumentException" :: Cond.initialized "java/lang/IllegalArgumentException" :: vx_at0 R_QB 68 "java/lang/IllegalArgumentException" ["java/lang/RuntimeException", "java/lang/Exception"], vx_ot w = true := by decide +kernel
set_option maxHeartbeats 4000000 in
set_option maxRecDepth 100000 in
/-- QueryBench.end -/
theorem c_QB_end (l : Launch) (hl9 : l.stackTraces = false) (dC : Nat → ClassId) (dI : Nat → Nat → Nat) (cB : ClassId) (q0 h0 qb : Nat) (sz : Heap) (ru r1 r2 r3 r4 r5 r6 r7 : Value) (uc ln en at_ pl : Int32) (f : Nat → Int32) (nn : Int32) : vx_Met l y_QB_end (k_QB_end :: gtbl) ({ frames := 8, cells := 1, slots := 6, locals := 110 }) (va_Pc [.ref q0, .int nn] (mx dC dI [(q0, .inr (11, [.ref h0, r1, r2, r3, r4, r5, r6, r7])), (h0, .inr (8, [.ref qb, ru, .int uc, .int ln, .int en, .int at_, .int pl])), (qb, .inl (cB, 4096, .inl f))] [(cB, .byte)] sz)) (va_Qi (fun (r : Int32) (_ : Unit) => (¬ nn < 0 ∧ nn ≤ ln) ∧ r = nn) (fun _ t => mz dC dI [(q0, .inr (11, [.ref h0, r1, r2, r3, r4, r5, r6, r7])), (h0, .inr (8, [.ref qb, ru, .int uc, .int nn, .int en, .int at_, .int pl])), (qb, .inl (cB, 4096, .inl f))] [(cB, .byte)] (va_A [(q0, .inr (11, [.ref h0, r1, r2, r3, r4, r5, r6, r7])), (h0, .inr (8, [.ref qb, ru, .int uc, .int ln, .int en, .int at_, .int pl])), (qb, .inl (cB, 4096, .inl f))] sz.size) t ∧ szk sz t.heap 0 0) (va_A [(q0, .inr (11, [.ref h0, r1, r2, r3, r4, r5, r6, r7])), (h0, .inr (8, [.ref qb, ru, .int uc, .int ln, .int en, .int at_, .int pl])), (qb, .inl (cB, 4096, .inl f))] sz.size)) (vx_X (fun _ : Unit => ¬ (¬ nn < 0 ∧ nn ≤ ln)) (fun E _ t => E = "java/lang/IllegalArgumentException" ∧ mz dC dI [(q0, .inr (11, [.ref h0, r1, r2, r3, r4, r5, r6, r7])), (h0, .inr (8, [.ref qb, ru, .int uc, .int ln, .int en, .int at_, .int pl])), (qb, .inl (cB, 4096, .inl f))] [(cB, .byte)] (va_A [(q0, .inr (11, [.ref h0, r1, r2, r3, r4, r5, r6, r7])), (h0, .inr (8, [.ref qb, ru, .int uc, .int ln, .int en, .int at_, .int pl])), (qb, .inl (cB, 4096, .inl f))] sz.size) t) (va_A [(q0, .inr (11, [.ref h0, r1, r2, r3, r4, r5, r6, r7])), (h0, .inr (8, [.ref qb, ru, .int uc, .int ln, .int en, .int at_, .int pl])), (qb, .inl (cB, 4096, .inl f))] sz.size)) 1 6 (va_A [(q0, .inr (11, [.ref h0, r1, r2, r3, r4, r5, r6, r7])), (h0, .inr (8, [.ref qb, ru, .int uc, .int ln, .int en, .int at_, .int pl])), (qb, .inl (cB, 4096, .inl f))] sz.size) := by
  refine vx_ofW (cc := b_QB_end) (maxL := 2) (ret := (some .int)) (by decide) rfl ?_
  intro p e s m args below meth c s₁ B hml hex hv
  obtain ⟨rfl, ⟨hsz, hP, hK, hD0⟩, hN, hZ⟩ := hv
  have hx := B.exec
  have hb := B.bytes
  have hr := B.returns
  have hts0 := atoms_spec (ws := k_QB_end :: gtbl) B.pre
  have hts := fun w h => hts0 w (List.mem_cons_of_mem _ h)
  have hown : s.vm.findClass R_QB = some m.cls := findClass_of_methodNamed B.named
  have hlocks := B.notSynchronized
  subst hsz
  have hD := hD0.self (sz := s.heap.size)
  generalize hAe : va_A [(q0, .inr (11, [.ref h0, r1, r2, r3, r4, r5, r6, r7])), (h0, .inr (8, [.ref qb, ru, .int uc, .int ln, .int en, .int at_, .int pl])), (qb, .inl (cB, 4096, .inl f))] s.heap.size = A at hD hZ ⊢
  have hA : ∀ q : Nat, s.heap.size ≤ q → A q := fun q h => by rw [← hAe]; exact Or.inr h
  have hS : va_S A s.heap s.heap [] := va_S.rf
  have hP : va_P (dC, dI) classes [(q0, .inr (11, [.ref h0, r1, r2, r3, r4, r5, r6, r7])), (h0, .inr (8, [.ref qb, ru, .int uc, .int ln, .int en, .int at_, .int pl])), (qb, .inl (cB, 4096, .inl f))] s.heap := hP
  have hl := lv_entry ([.ref q0, .int nn]) (n := 2) (Nat.le_of_ble_eq_true rfl)
  rw [lg_entry_eq]
  generalize (lg_sl ([.ref q0, .int nn]) ++ List.replicate (2 - (lg_sl ([.ref q0, .int nn])).length) Slot.unset).toArray = ls at hl ⊢
  have hl : lv_has ls 2 [(0, .ref q0), (1, .int nn)] := hl
  refine lv_iload_n hx hb d_QB_end_0 rfl (lv_at hl 1 rfl) ?_
  refine lv_if_lt (tgt := 15) hx hb d_QB_end_1 (by decide) (fun c1 => ?_) (fun c1 => ?_)
  · exact vx_throw0 (own := R_QB) (cls := "java/lang/IllegalArgumentException") (names := ["java/lang/RuntimeException", "java/lang/Exception"]) hx hb hl9 hown (by decide +kernel) (by decide +kernel) (hts _ w_260) (hts _ w_13) (hat hts hN xa_QB_end_15) xa_QB_end_15_g hZ.1 hZ.2 hS (hl.1.trans hml.symm) d_QB_end_15 d_QB_end_18 d_QB_end_19 d_QB_end_22 (fun x hx => (hex x hx).elim) (Nat.le_of_ble_eq_true rfl) (Nat.le_of_ble_eq_true rfl) (Nat.le_of_ble_eq_true rfl) (Nat.le_of_ble_eq_true rfl) hlocks (fun t ha hsz hk => ⟨(), (fun h => h.1 c1), ⟨rfl, hP.kept (fun k q hq => hk q.1 (hP k q hq).lt), va_K.moved ha hK, hD⟩, Nat.le_trans hS.1 hsz, fun q h1 h2 => (hk q (Nat.lt_of_lt_of_le h1 hS.1)).trans (hS.2.1 q h1 h2)⟩) hS.2.2 (Nat.le_of_ble_eq_true rfl) (Nat.le_of_ble_eq_true rfl)
  · refine lv_iload_n hx hb d_QB_end_4 rfl (lv_at hl 1 rfl) ?_
    refine lv_aload_n hx hb d_QB_end_5 rfl (lv_at hl 0 rfl) ?_
    refine va_get (D := (dC, dI)) (ci := 11) (v := .ref h0) (C := R_QB) (T := F_QB) (N := 8) hx hb hts in_QB hown hK hP 0 rfl rfl 0 (by decide) (hts _ w_151) (fun _ h9 => h9) rfl d_QB_end_6 ?_
    refine va_get (D := (dC, dI)) (ci := 8) (v := .int ln) (C := R_Tape) (T := F_Tape) (N := 7) hx hb hts in_Tape hown hK hP 1 rfl rfl 3 (by decide) (hts _ w_47) (fun _ h9 => h9) rfl d_QB_end_9 ?_
    refine lv_icmp_le (tgt := 23) hx hb d_QB_end_12 (by decide) (fun c12 => ?_) (fun c12 => ?_)
    · refine lv_aload_n hx hb d_QB_end_23 rfl (lv_at hl 0 rfl) ?_
      refine va_get (D := (dC, dI)) (ci := 11) (v := .ref h0) (C := R_QB) (T := F_QB) (N := 8) hx hb hts in_QB hown hK hP 0 rfl rfl 0 (by decide) (hts _ w_151) (fun _ h9 => h9) rfl d_QB_end_24 ?_
      refine lv_iload_n hx hb d_QB_end_27 rfl (lv_at hl 1 rfl) ?_
      refine va_put (D := (dC, dI)) (ci := 8) (v := .int nn) (ty := .int) (C := R_Tape) (T := F_Tape) (N := 7) hx hb hts in_Tape t_Tape t_Tape_ok n_Tape hown hK hP hD hS 1 rfl rfl 3 (by decide) (hts _ w_47) (fun _ h9 => h9) rfl (by decide +kernel) rfl rfl (Nat.le_of_ble_eq_true rfl) d_QB_end_28 (fun H locs hP hD hS => ?_)
      have hP : va_P (dC, dI) classes [(q0, .inr (11, [.ref h0, r1, r2, r3, r4, r5, r6, r7])), (h0, .inr (8, [.ref qb, ru, .int uc, .int nn, .int en, .int at_, .int pl])), (qb, .inl (cB, 4096, .inl f))] H := hP
      have hD : va_D A [(q0, .inr (11, [.ref h0, r1, r2, r3, r4, r5, r6, r7])), (h0, .inr (8, [.ref qb, ru, .int uc, .int nn, .int en, .int at_, .int pl])), (qb, .inl (cB, 4096, .inl f))] := hD
      refine lv_iload_n hx hb d_QB_end_31 rfl (lv_at hl 1 rfl) ?_
      refine w_same (fun hq => ?_)
      refine W.widen (k := 1) (n := 6) (Nat.le_of_ble_eq_true rfl) (Nat.le_of_ble_eq_true rfl) ?_
      refine vx_ret ?_
      exact W.iret (v := nn) hx hb hr (fun t ht hW => ⟨⟨nn, (), rfl, ⟨⟨c1, c12⟩, rfl⟩, ⟨by rw [ht]; exact hP, va_K.moved hW.alike hK, hD⟩, by rw [ht]; exact hq⟩, hS.F ht⟩) hS.2.2 d_QB_end_32
    · exact vx_throw0 (own := R_QB) (cls := "java/lang/IllegalArgumentException") (names := ["java/lang/RuntimeException", "java/lang/Exception"]) hx hb hl9 hown (by decide +kernel) (by decide +kernel) (hts _ w_260) (hts _ w_13) (hat hts hN xa_QB_end_15) xa_QB_end_15_g hZ.1 hZ.2 hS (hl.1.trans hml.symm) d_QB_end_15 d_QB_end_18 d_QB_end_19 d_QB_end_22 (fun x hx => (hex x hx).elim) (Nat.le_of_ble_eq_true rfl) (Nat.le_of_ble_eq_true rfl) (Nat.le_of_ble_eq_true rfl) (Nat.le_of_ble_eq_true rfl) hlocks (fun t ha hsz hk => ⟨(), (fun h => c12 h.2), ⟨rfl, hP.kept (fun k q hq => hk q.1 (hP k q hq).lt), va_K.moved ha hK, hD⟩, Nat.le_trans hS.1 hsz, fun q h1 h2 => (hk q (Nat.lt_of_lt_of_le h1 hS.1)).trans (hS.2.1 q h1 h2)⟩) hS.2.2 (Nat.le_of_ble_eq_true rfl) (Nat.le_of_ble_eq_true rfl)
abbrev b_QB_checkNumber : ByteArray := prog_1_method_10_code
def y_QB_checkNumber : MethodName := ⟨"QueryBench", "checkNumber", "(I)V"⟩
abbrev k_QB_checkNumber : Cond := .code y_QB_checkNumber b_QB_checkNumber 1 none
theorem i_QB_checkNumber : k_QB_checkNumber ∈ gtbl := gt_in 285 (by decide +kernel) (by decide +kernel)
theorem d_QB_checkNumber_0 : decode b_QB_checkNumber 0 = .ok (.iload_n 0, 1) := by decide +kernel
theorem d_QB_checkNumber_1 : decode b_QB_checkNumber 1 = .ok (.ifCond .lt 8, 3) := by decide +kernel
theorem d_QB_checkNumber_4 : decode b_QB_checkNumber 4 = .ok (.iload_n 0, 1) := by decide +kernel
theorem d_QB_checkNumber_5 : decode b_QB_checkNumber 5 = .ok (.iconst 4, 1) := by decide +kernel
theorem d_QB_checkNumber_6 : decode b_QB_checkNumber 6 = .ok (.if_icmp .lt 11, 3) := by decide +kernel
theorem d_QB_checkNumber_9 : decode b_QB_checkNumber 9 = .ok (.new 66, 3) := by decide +kernel
theorem d_QB_checkNumber_12 : decode b_QB_checkNumber 12 = .ok (.dup, 1) := by decide +kernel
theorem d_QB_checkNumber_13 : decode b_QB_checkNumber 13 = .ok (.invokespecial 68, 3) := by decide +kernel
theorem d_QB_checkNumber_16 : decode b_QB_checkNumber 16 = .ok (.athrow, 1) := by decide +kernel
theorem d_QB_checkNumber_17 : decode b_QB_checkNumber 17 = .ok (.return_, 1) := by decide +kernel
theorem xa_QB_checkNumber_9 : ∀ w ∈ vx_at0 R_QB 68 "java/lang/IllegalArgumentException" ["java/lang/RuntimeException", "java/lang/Exception"], (goodWord w = true ∧ w ∈ lw_tbl) ∨ w ∈ nwl := by decide +kernel
theorem xa_QB_checkNumber_9_g : ∀ w ∈ Cond.classLink R_QB 66 "java/lang/IllegalArgumentException" :: Cond.initialized "java/lang/IllegalArgumentException" :: vx_at0 R_QB 68 "java/lang/IllegalArgumentException" ["java/lang/RuntimeException", "java/lang/Exception"], vx_ot w = true := by decide +kernel
set_option maxHeartbeats 4000000 in
set_option maxRecDepth 100000 in
/-- QueryBench.checkNumber -/
theorem c_QB_checkNumber (l : Launch) (hl9 : l.stackTraces = false) (dC : Nat → ClassId) (dI : Nat → Nat → Nat) (sz : Heap) (d : Int32) : vx_Met l y_QB_checkNumber (k_QB_checkNumber :: gtbl) ({ frames := 8, cells := 1, slots := 6, locals := 110 }) (va_Pc [.int d] (mx dC dI [] [] sz)) (va_Qv (fun (_ : Unit) => ¬ d < 0 ∧ d < 4) (fun _ t => mz dC dI [] [] (va_A [] sz.size) t ∧ szk sz t.heap 0 0) (va_A [] sz.size)) (vx_X (fun _ : Unit => ¬ (¬ d < 0 ∧ d < 4)) (fun E _ t => E = "java/lang/IllegalArgumentException" ∧ mz dC dI [] [] (va_A [] sz.size) t) (va_A [] sz.size)) 1 6 (va_A [] sz.size) := by
  refine vx_ofW (cc := b_QB_checkNumber) (maxL := 1) (ret := none) (by decide) rfl ?_
  intro p e s m args below meth c s₁ B hml hex hv
  obtain ⟨rfl, ⟨hsz, hP, hK, hD0⟩, hN, hZ⟩ := hv
  have hx := B.exec
  have hb := B.bytes
  have hr := B.returns
  have hts0 := atoms_spec (ws := k_QB_checkNumber :: gtbl) B.pre
  have hts := fun w h => hts0 w (List.mem_cons_of_mem _ h)
  have hown : s.vm.findClass R_QB = some m.cls := findClass_of_methodNamed B.named
  have hlocks := B.notSynchronized
  subst hsz
  have hD := hD0.self (sz := s.heap.size)
  generalize hAe : va_A [] s.heap.size = A at hD hZ ⊢
  have hA : ∀ q : Nat, s.heap.size ≤ q → A q := fun q h => by rw [← hAe]; exact Or.inr h
  have hS : va_S A s.heap s.heap [] := va_S.rf
  have hP : va_P (dC, dI) classes [] s.heap := hP
  have hl := lv_entry ([.int d]) (n := 1) (Nat.le_of_ble_eq_true rfl)
  rw [lg_entry_eq]
  generalize (lg_sl ([.int d]) ++ List.replicate (1 - (lg_sl ([.int d])).length) Slot.unset).toArray = ls at hl ⊢
  have hl : lv_has ls 1 [(0, .int d)] := hl
  refine lv_iload_n hx hb d_QB_checkNumber_0 rfl (lv_at hl 0 rfl) ?_
  refine lv_if_lt (tgt := 9) hx hb d_QB_checkNumber_1 (by decide) (fun c1 => ?_) (fun c1 => ?_)
  · exact vx_throw0 (own := R_QB) (cls := "java/lang/IllegalArgumentException") (names := ["java/lang/RuntimeException", "java/lang/Exception"]) hx hb hl9 hown (by decide +kernel) (by decide +kernel) (hts _ w_260) (hts _ w_13) (hat hts hN xa_QB_checkNumber_9) xa_QB_checkNumber_9_g hZ.1 hZ.2 hS (hl.1.trans hml.symm) d_QB_checkNumber_9 d_QB_checkNumber_12 d_QB_checkNumber_13 d_QB_checkNumber_16 (fun x hx => (hex x hx).elim) (Nat.le_of_ble_eq_true rfl) (Nat.le_of_ble_eq_true rfl) (Nat.le_of_ble_eq_true rfl) (Nat.le_of_ble_eq_true rfl) hlocks (fun t ha hsz hk => ⟨(), (fun h => h.1 c1), ⟨rfl, hP.kept (fun k q hq => hk q.1 (hP k q hq).lt), va_K.moved ha hK, hD⟩, Nat.le_trans hS.1 hsz, fun q h1 h2 => (hk q (Nat.lt_of_lt_of_le h1 hS.1)).trans (hS.2.1 q h1 h2)⟩) hS.2.2 (Nat.le_of_ble_eq_true rfl) (Nat.le_of_ble_eq_true rfl)
  · refine lv_iload_n hx hb d_QB_checkNumber_4 rfl (lv_at hl 0 rfl) ?_
    refine lv_iconst (v := 4) hx hb d_QB_checkNumber_5 (by decide) ?_
    refine lv_icmp_lt (tgt := 17) hx hb d_QB_checkNumber_6 (by decide) (fun c6 => ?_) (fun c6 => ?_)
    · refine w_same (fun hq => ?_)
      refine W.widen (k := 1) (n := 6) (Nat.le_of_ble_eq_true rfl) (Nat.le_of_ble_eq_true rfl) ?_
      refine vx_ret ?_
      exact W.vret hx hb hr (fun t ht hW => ⟨⟨(), rfl, ⟨c1, c6⟩, ⟨by rw [ht]; exact hP, va_K.moved hW.alike hK, hD⟩, by rw [ht]; exact hq⟩, hS.F ht⟩) hS.2.2 d_QB_checkNumber_17
    · exact vx_throw0 (own := R_QB) (cls := "java/lang/IllegalArgumentException") (names := ["java/lang/RuntimeException", "java/lang/Exception"]) hx hb hl9 hown (by decide +kernel) (by decide +kernel) (hts _ w_260) (hts _ w_13) (hat hts hN xa_QB_checkNumber_9) xa_QB_checkNumber_9_g hZ.1 hZ.2 hS (hl.1.trans hml.symm) d_QB_checkNumber_9 d_QB_checkNumber_12 d_QB_checkNumber_13 d_QB_checkNumber_16 (fun x hx => (hex x hx).elim) (Nat.le_of_ble_eq_true rfl) (Nat.le_of_ble_eq_true rfl) (Nat.le_of_ble_eq_true rfl) (Nat.le_of_ble_eq_true rfl) hlocks (fun t ha hsz hk => ⟨(), (fun h => c6 h.2), ⟨rfl, hP.kept (fun k q hq => hk q.1 (hP k q hq).lt), va_K.moved ha hK, hD⟩, Nat.le_trans hS.1 hsz, fun q h1 h2 => (hk q (Nat.lt_of_lt_of_le h1 hS.1)).trans (hS.2.1 q h1 h2)⟩) hS.2.2 (Nat.le_of_ble_eq_true rfl) (Nat.le_of_ble_eq_true rfl)
abbrev b_QB_isDigit : ByteArray := prog_1_method_12_code
def y_QB_isDigit : MethodName := ⟨"QueryBench", "isDigit", "(I)Z"⟩
abbrev k_QB_isDigit : Cond := .code y_QB_isDigit b_QB_isDigit 1 (some .boolean)
theorem i_QB_isDigit : k_QB_isDigit ∈ gtbl := gt_in 511 (by decide +kernel) (by decide +kernel)
theorem d_QB_isDigit_0 : decode b_QB_isDigit 0 = .ok (.iload_n 0, 1) := by decide +kernel
theorem d_QB_isDigit_1 : decode b_QB_isDigit 1 = .ok (.bipush 48, 2) := by decide +kernel
theorem d_QB_isDigit_3 : decode b_QB_isDigit 3 = .ok (.if_icmp .lt 13, 3) := by decide +kernel
theorem d_QB_isDigit_6 : decode b_QB_isDigit 6 = .ok (.iload_n 0, 1) := by decide +kernel
theorem d_QB_isDigit_7 : decode b_QB_isDigit 7 = .ok (.bipush 57, 2) := by decide +kernel
theorem d_QB_isDigit_9 : decode b_QB_isDigit 9 = .ok (.if_icmp .gt 7, 3) := by decide +kernel
theorem d_QB_isDigit_12 : decode b_QB_isDigit 12 = .ok (.iconst 1, 1) := by decide +kernel
theorem d_QB_isDigit_13 : decode b_QB_isDigit 13 = .ok (.goto 4, 3) := by decide +kernel
theorem d_QB_isDigit_16 : decode b_QB_isDigit 16 = .ok (.iconst 0, 1) := by decide +kernel
theorem d_QB_isDigit_17 : decode b_QB_isDigit 17 = .ok (.ireturn, 1) := by decide +kernel
set_option maxHeartbeats 4000000 in
set_option maxRecDepth 100000 in
/-- QueryBench.isDigit -/
theorem c_QB_isDigit (l : Launch) (dC : Nat → ClassId) (dI : Nat → Nat → Nat) (sz : Heap) (x : Int32) : Met l y_QB_isDigit (k_QB_isDigit :: gtbl) ({ frames := 0, cells := 0, slots := 0, locals := 0 }) (va_Pc [.int x] (mp dC dI [] [] sz)) (va_Qi (fun (r : Int32) (_ : Unit) => r = if 48 ≤ x ∧ x ≤ 57 then 1 else 0) (fun _ => mz dC dI [] [] (va_A [] sz.size)) (va_A [] sz.size)) 0 0 (va_A [] sz.size) := by
  refine Met.ofW (cc := b_QB_isDigit) (maxL := 1) (ret := (some .boolean)) (by decide) rfl ?_
  intro p e s m args below meth c s₁ B hml hv
  obtain ⟨rfl, hsz, hP, hK, hD0⟩ := hv
  have hx := B.exec
  have hb := B.bytes
  have hr := B.returns
  have hts0 := atoms_spec (ws := k_QB_isDigit :: gtbl) B.pre
  have hts := fun w h => hts0 w (List.mem_cons_of_mem _ h)
  have hown : s.vm.findClass R_QB = some m.cls := findClass_of_methodNamed B.named
  have hlocks := B.notSynchronized
  subst hsz
  have hD := hD0.self (sz := s.heap.size)
  generalize hAe : va_A [] s.heap.size = A at hD ⊢
  have hA : ∀ q : Nat, s.heap.size ≤ q → A q := fun q h => by rw [← hAe]; exact Or.inr h
  have hS : va_S A s.heap s.heap [] := va_S.rf
  have hP : va_P (dC, dI) classes [] s.heap := hP
  have hl := lv_entry ([.int x]) (n := 1) (Nat.le_of_ble_eq_true rfl)
  rw [lg_entry_eq]
  generalize (lg_sl ([.int x]) ++ List.replicate (1 - (lg_sl ([.int x])).length) Slot.unset).toArray = ls at hl ⊢
  have hl : lv_has ls 1 [(0, .int x)] := hl
  refine lv_iload_n hx hb d_QB_isDigit_0 rfl (lv_at hl 0 rfl) ?_
  refine lv_bipush (v := 48) hx hb d_QB_isDigit_1 (by decide) ?_
  refine lv_icmp_lt (tgt := 16) hx hb d_QB_isDigit_3 (by decide) (fun c3 => ?_) (fun c3 => ?_)
  · refine lv_iconst (v := 0) hx hb d_QB_isDigit_16 (by decide) ?_
    exact W.zret (v := 0) hx hb hr rfl (fun t ht hW => ⟨⟨0, (), rfl, by rw [if_neg (fun h => absurd c3 (Int32.not_lt.mpr h.1))], by rw [ht]; exact hP, va_K.moved hW.alike hK, hD⟩, hS.F ht⟩) hS.2.2 d_QB_isDigit_17
  · refine lv_iload_n hx hb d_QB_isDigit_6 rfl (lv_at hl 0 rfl) ?_
    refine lv_bipush (v := 57) hx hb d_QB_isDigit_7 (by decide) ?_
    refine lv_icmp_gt (tgt := 16) hx hb d_QB_isDigit_9 (by decide) (fun c9 => ?_) (fun c9 => ?_)
    · refine lv_iconst (v := 0) hx hb d_QB_isDigit_16 (by decide) ?_
      exact W.zret (v := 0) hx hb hr rfl (fun t ht hW => ⟨⟨0, (), rfl, by rw [if_neg (fun h => absurd c9 (Int32.not_lt.mpr h.2))], by rw [ht]; exact hP, va_K.moved hW.alike hK, hD⟩, hS.F ht⟩) hS.2.2 d_QB_isDigit_17
    · refine lv_iconst (v := 1) hx hb d_QB_isDigit_12 (by decide) ?_
      refine lv_goto (tgt := 17) hx hb d_QB_isDigit_13 (by decide) ?_
      exact W.zret (v := 1) hx hb hr rfl (fun t ht hW => ⟨⟨1, (), rfl, by rw [if_pos ⟨Int32.not_lt.mp c3, Int32.not_lt.mp c9⟩], by rw [ht]; exact hP, va_K.moved hW.alike hK, hD⟩, hS.F ht⟩) hS.2.2 d_QB_isDigit_17
abbrev b_QB_isHighUnit : ByteArray := prog_1_method_13_code
def y_QB_isHighUnit : MethodName := ⟨"QueryBench", "isHighUnit", "(I)Z"⟩
abbrev k_QB_isHighUnit : Cond := .code y_QB_isHighUnit b_QB_isHighUnit 1 (some .boolean)
theorem i_QB_isHighUnit : k_QB_isHighUnit ∈ gtbl := gt_in 433 (by decide +kernel) (by decide +kernel)
theorem d_QB_isHighUnit_0 : decode b_QB_isHighUnit 0 = .ok (.iload_n 0, 1) := by decide +kernel
theorem d_QB_isHighUnit_1 : decode b_QB_isHighUnit 1 = .ok (.ldc 127, 2) := by decide +kernel
theorem d_QB_isHighUnit_3 : decode b_QB_isHighUnit 3 = .ok (.if_icmp .lt 13, 3) := by decide +kernel
theorem d_QB_isHighUnit_6 : decode b_QB_isHighUnit 6 = .ok (.iload_n 0, 1) := by decide +kernel
theorem d_QB_isHighUnit_7 : decode b_QB_isHighUnit 7 = .ok (.ldc 128, 2) := by decide +kernel
theorem d_QB_isHighUnit_9 : decode b_QB_isHighUnit 9 = .ok (.if_icmp .gt 7, 3) := by decide +kernel
theorem d_QB_isHighUnit_12 : decode b_QB_isHighUnit 12 = .ok (.iconst 1, 1) := by decide +kernel
theorem d_QB_isHighUnit_13 : decode b_QB_isHighUnit 13 = .ok (.goto 4, 3) := by decide +kernel
theorem d_QB_isHighUnit_16 : decode b_QB_isHighUnit 16 = .ok (.iconst 0, 1) := by decide +kernel
theorem d_QB_isHighUnit_17 : decode b_QB_isHighUnit 17 = .ok (.ireturn, 1) := by decide +kernel
set_option maxHeartbeats 4000000 in
set_option maxRecDepth 100000 in
/-- QueryBench.isHighUnit -/
theorem c_QB_isHighUnit (l : Launch) (dC : Nat → ClassId) (dI : Nat → Nat → Nat) (sz : Heap) (x : Int32) : Met l y_QB_isHighUnit (k_QB_isHighUnit :: gtbl) ({ frames := 0, cells := 0, slots := 0, locals := 0 }) (va_Pc [.int x] (mp dC dI [] [] sz)) (va_Qi (fun (r : Int32) (_ : Unit) => r = if 55296 ≤ x ∧ x ≤ 56319 then 1 else 0) (fun _ => mz dC dI [] [] (va_A [] sz.size)) (va_A [] sz.size)) 0 0 (va_A [] sz.size) := by
  refine Met.ofW (cc := b_QB_isHighUnit) (maxL := 1) (ret := (some .boolean)) (by decide) rfl ?_
  intro p e s m args below meth c s₁ B hml hv
  obtain ⟨rfl, hsz, hP, hK, hD0⟩ := hv
  have hx := B.exec
  have hb := B.bytes
  have hr := B.returns
  have hts0 := atoms_spec (ws := k_QB_isHighUnit :: gtbl) B.pre
  have hts := fun w h => hts0 w (List.mem_cons_of_mem _ h)
  have hown : s.vm.findClass R_QB = some m.cls := findClass_of_methodNamed B.named
  have hlocks := B.notSynchronized
  subst hsz
  have hD := hD0.self (sz := s.heap.size)
  generalize hAe : va_A [] s.heap.size = A at hD ⊢
  have hA : ∀ q : Nat, s.heap.size ≤ q → A q := fun q h => by rw [← hAe]; exact Or.inr h
  have hS : va_S A s.heap s.heap [] := va_S.rf
  have hP : va_P (dC, dI) classes [] s.heap := hP
  have hl := lv_entry ([.int x]) (n := 1) (Nat.le_of_ble_eq_true rfl)
  rw [lg_entry_eq]
  generalize (lg_sl ([.int x]) ++ List.replicate (1 - (lg_sl ([.int x])).length) Slot.unset).toArray = ls at hl ⊢
  have hl : lv_has ls 1 [(0, .int x)] := hl
  refine lv_iload_n hx hb d_QB_isHighUnit_0 rfl (lv_at hl 0 rfl) ?_
  refine lv_ldc (v := 55296) hx hb hown (hts _ w_434) d_QB_isHighUnit_1 ?_
  refine lv_icmp_lt (tgt := 16) hx hb d_QB_isHighUnit_3 (by decide) (fun c3 => ?_) (fun c3 => ?_)
  · refine lv_iconst (v := 0) hx hb d_QB_isHighUnit_16 (by decide) ?_
    exact W.zret (v := 0) hx hb hr rfl (fun t ht hW => ⟨⟨0, (), rfl, by rw [if_neg (fun h => absurd c3 (Int32.not_lt.mpr h.1))], by rw [ht]; exact hP, va_K.moved hW.alike hK, hD⟩, hS.F ht⟩) hS.2.2 d_QB_isHighUnit_17
  · refine lv_iload_n hx hb d_QB_isHighUnit_6 rfl (lv_at hl 0 rfl) ?_
    refine lv_ldc (v := 56319) hx hb hown (hts _ w_435) d_QB_isHighUnit_7 ?_
    refine lv_icmp_gt (tgt := 16) hx hb d_QB_isHighUnit_9 (by decide) (fun c9 => ?_) (fun c9 => ?_)
    · refine lv_iconst (v := 0) hx hb d_QB_isHighUnit_16 (by decide) ?_
      exact W.zret (v := 0) hx hb hr rfl (fun t ht hW => ⟨⟨0, (), rfl, by rw [if_neg (fun h => absurd c9 (Int32.not_lt.mpr h.2))], by rw [ht]; exact hP, va_K.moved hW.alike hK, hD⟩, hS.F ht⟩) hS.2.2 d_QB_isHighUnit_17
    · refine lv_iconst (v := 1) hx hb d_QB_isHighUnit_12 (by decide) ?_
      refine lv_goto (tgt := 17) hx hb d_QB_isHighUnit_13 (by decide) ?_
      exact W.zret (v := 1) hx hb hr rfl (fun t ht hW => ⟨⟨1, (), rfl, by rw [if_pos ⟨Int32.not_lt.mp c3, Int32.not_lt.mp c9⟩], by rw [ht]; exact hP, va_K.moved hW.alike hK, hD⟩, hS.F ht⟩) hS.2.2 d_QB_isHighUnit_17
abbrev b_QB_isLowUnit : ByteArray := prog_1_method_14_code
def y_QB_isLowUnit : MethodName := ⟨"QueryBench", "isLowUnit", "(I)Z"⟩
abbrev k_QB_isLowUnit : Cond := .code y_QB_isLowUnit b_QB_isLowUnit 1 (some .boolean)
theorem i_QB_isLowUnit : k_QB_isLowUnit ∈ gtbl := gt_in 428 (by decide +kernel) (by decide +kernel)
theorem d_QB_isLowUnit_0 : decode b_QB_isLowUnit 0 = .ok (.iload_n 0, 1) := by decide +kernel
theorem d_QB_isLowUnit_1 : decode b_QB_isLowUnit 1 = .ok (.ldc 129, 2) := by decide +kernel
theorem d_QB_isLowUnit_3 : decode b_QB_isLowUnit 3 = .ok (.if_icmp .lt 13, 3) := by decide +kernel
theorem d_QB_isLowUnit_6 : decode b_QB_isLowUnit 6 = .ok (.iload_n 0, 1) := by decide +kernel
theorem d_QB_isLowUnit_7 : decode b_QB_isLowUnit 7 = .ok (.ldc 130, 2) := by decide +kernel
theorem d_QB_isLowUnit_9 : decode b_QB_isLowUnit 9 = .ok (.if_icmp .gt 7, 3) := by decide +kernel
theorem d_QB_isLowUnit_12 : decode b_QB_isLowUnit 12 = .ok (.iconst 1, 1) := by decide +kernel
theorem d_QB_isLowUnit_13 : decode b_QB_isLowUnit 13 = .ok (.goto 4, 3) := by decide +kernel
theorem d_QB_isLowUnit_16 : decode b_QB_isLowUnit 16 = .ok (.iconst 0, 1) := by decide +kernel
theorem d_QB_isLowUnit_17 : decode b_QB_isLowUnit 17 = .ok (.ireturn, 1) := by decide +kernel
set_option maxHeartbeats 4000000 in
set_option maxRecDepth 100000 in
/-- QueryBench.isLowUnit -/
theorem c_QB_isLowUnit (l : Launch) (dC : Nat → ClassId) (dI : Nat → Nat → Nat) (sz : Heap) (x : Int32) : Met l y_QB_isLowUnit (k_QB_isLowUnit :: gtbl) ({ frames := 0, cells := 0, slots := 0, locals := 0 }) (va_Pc [.int x] (mp dC dI [] [] sz)) (va_Qi (fun (r : Int32) (_ : Unit) => r = if 56320 ≤ x ∧ x ≤ 57343 then 1 else 0) (fun _ => mz dC dI [] [] (va_A [] sz.size)) (va_A [] sz.size)) 0 0 (va_A [] sz.size) := by
  refine Met.ofW (cc := b_QB_isLowUnit) (maxL := 1) (ret := (some .boolean)) (by decide) rfl ?_
  intro p e s m args below meth c s₁ B hml hv
  obtain ⟨rfl, hsz, hP, hK, hD0⟩ := hv
  have hx := B.exec
  have hb := B.bytes
  have hr := B.returns
  have hts0 := atoms_spec (ws := k_QB_isLowUnit :: gtbl) B.pre
  have hts := fun w h => hts0 w (List.mem_cons_of_mem _ h)
  have hown : s.vm.findClass R_QB = some m.cls := findClass_of_methodNamed B.named
  have hlocks := B.notSynchronized
  subst hsz
  have hD := hD0.self (sz := s.heap.size)
  generalize hAe : va_A [] s.heap.size = A at hD ⊢
  have hA : ∀ q : Nat, s.heap.size ≤ q → A q := fun q h => by rw [← hAe]; exact Or.inr h
  have hS : va_S A s.heap s.heap [] := va_S.rf
  have hP : va_P (dC, dI) classes [] s.heap := hP
  have hl := lv_entry ([.int x]) (n := 1) (Nat.le_of_ble_eq_true rfl)
  rw [lg_entry_eq]
  generalize (lg_sl ([.int x]) ++ List.replicate (1 - (lg_sl ([.int x])).length) Slot.unset).toArray = ls at hl ⊢
  have hl : lv_has ls 1 [(0, .int x)] := hl
  refine lv_iload_n hx hb d_QB_isLowUnit_0 rfl (lv_at hl 0 rfl) ?_
  refine lv_ldc (v := 56320) hx hb hown (hts _ w_429) d_QB_isLowUnit_1 ?_
  refine lv_icmp_lt (tgt := 16) hx hb d_QB_isLowUnit_3 (by decide) (fun c3 => ?_) (fun c3 => ?_)
  · refine lv_iconst (v := 0) hx hb d_QB_isLowUnit_16 (by decide) ?_
    exact W.zret (v := 0) hx hb hr rfl (fun t ht hW => ⟨⟨0, (), rfl, by rw [if_neg (fun h => absurd c3 (Int32.not_lt.mpr h.1))], by rw [ht]; exact hP, va_K.moved hW.alike hK, hD⟩, hS.F ht⟩) hS.2.2 d_QB_isLowUnit_17
  · refine lv_iload_n hx hb d_QB_isLowUnit_6 rfl (lv_at hl 0 rfl) ?_
    refine lv_ldc (v := 57343) hx hb hown (hts _ w_430) d_QB_isLowUnit_7 ?_
    refine lv_icmp_gt (tgt := 16) hx hb d_QB_isLowUnit_9 (by decide) (fun c9 => ?_) (fun c9 => ?_)
    · refine lv_iconst (v := 0) hx hb d_QB_isLowUnit_16 (by decide) ?_
      exact W.zret (v := 0) hx hb hr rfl (fun t ht hW => ⟨⟨0, (), rfl, by rw [if_neg (fun h => absurd c9 (Int32.not_lt.mpr h.2))], by rw [ht]; exact hP, va_K.moved hW.alike hK, hD⟩, hS.F ht⟩) hS.2.2 d_QB_isLowUnit_17
    · refine lv_iconst (v := 1) hx hb d_QB_isLowUnit_12 (by decide) ?_
      refine lv_goto (tgt := 17) hx hb d_QB_isLowUnit_13 (by decide) ?_
      exact W.zret (v := 1) hx hb hr rfl (fun t ht hW => ⟨⟨1, (), rfl, by rw [if_pos ⟨Int32.not_lt.mp c3, Int32.not_lt.mp c9⟩], by rw [ht]; exact hP, va_K.moved hW.alike hK, hD⟩, hS.F ht⟩) hS.2.2 d_QB_isLowUnit_17
