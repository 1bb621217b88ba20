theorem w_56 : (.fieldLink "QueryBench" 121 "QueryBench$Tape" "place" "I" : Cond) ∈ gtbl := gt_in 56 (by decide +kernel) (by decide +kernel)
theorem w_141 : (.fieldLink "QueryBench$Printer" 33 "QueryBench$Printer" "length" "I" : Cond) ∈ gtbl := gt_in 141 (by decide +kernel) (by decide +kernel)
theorem w_142 : (.fieldLink "QueryBench" 103 "QueryBench$Printer" "length" "I" : Cond) ∈ gtbl := gt_in 142 (by decide +kernel) (by decide +kernel)
theorem w_957 : (.methodLink "QueryBench$Printer" 25 ⟨"QueryBench$Printer", "put", "(I)V"⟩ : Cond) ∈ gtbl := gt_in 957 (by decide +kernel) (by decide +kernel)
theorem w_959 : (.instanceMethod ⟨"QueryBench$Printer", "put", "(I)V"⟩ : Cond) ∈ gtbl := gt_in 959 (by decide +kernel) (by decide +kernel)
theorem w_961 : (.classLink "QueryBench$Printer" 37 "java/lang/IndexOutOfBoundsException" : Cond) ∈ gtbl := gt_in 961 (by decide +kernel) (by decide +kernel)
theorem w_984 : (.methodLink "QueryBench$Printer" 40 ⟨"java/lang/String", "length", "()I"⟩ : Cond) ∈ gtbl := gt_in 984 (by decide +kernel) (by decide +kernel)
theorem w_985 : (.methodLink "QueryBench$Printer" 45 ⟨"java/lang/String", "charAt", "(I)C"⟩ : Cond) ∈ gtbl := gt_in 985 (by decide +kernel) (by decide +kernel)
theorem w_1099 : (.fieldLink "QueryBenchModel" 20 "QueryBenchModel" "out" "[B" : Cond) ∈ gtbl := gt_in 1099 (by decide +kernel) (by decide +kernel)
abbrev b_QB_count : ByteArray := prog_1_method_9_code
def y_QB_count : MethodName := ⟨"QueryBench", "count", "(I)I"⟩
abbrev k_QB_count : Cond := .code y_QB_count b_QB_count 2 (some .int)
theorem i_QB_count : k_QB_count ∈ gtbl := gt_in 1019 (by decide +kernel) (by decide +kernel)
theorem d_QB_count_0 : decode b_QB_count 0 = .ok (.iload_n 1, 1) := by decide +kernel
theorem d_QB_count_1 : decode b_QB_count 1 = .ok (.ifCond .lt 8, 3) := by decide +kernel
theorem d_QB_count_4 : decode b_QB_count 4 = .ok (.iload_n 1, 1) := by decide +kernel
theorem d_QB_count_5 : decode b_QB_count 5 = .ok (.iconst 2, 1) := by decide +kernel
theorem d_QB_count_6 : decode b_QB_count 6 = .ok (.if_icmp .le 11, 3) := by decide +kernel
theorem d_QB_count_9 : decode b_QB_count 9 = .ok (.new 66, 3) := by decide +kernel
theorem d_QB_count_12 : decode b_QB_count 12 = .ok (.dup, 1) := by decide +kernel
theorem d_QB_count_13 : decode b_QB_count 13 = .ok (.invokespecial 68, 3) := by decide +kernel
theorem d_QB_count_16 : decode b_QB_count 16 = .ok (.athrow, 1) := by decide +kernel
theorem d_QB_count_17 : decode b_QB_count 17 = .ok (.iload_n 1, 1) := by decide +kernel
theorem d_QB_count_18 : decode b_QB_count 18 = .ok (.ifCond .ne 11, 3) := by decide +kernel
theorem d_QB_count_21 : decode b_QB_count 21 = .ok (.aload_n 0, 1) := by decide +kernel
theorem d_QB_count_22 : decode b_QB_count 22 = .ok (.getfield 10, 3) := by decide +kernel
theorem d_QB_count_25 : decode b_QB_count 25 = .ok (.getfield 55, 3) := by decide +kernel
theorem d_QB_count_28 : decode b_QB_count 28 = .ok (.ireturn, 1) := by decide +kernel
theorem d_QB_count_29 : decode b_QB_count 29 = .ok (.iload_n 1, 1) := by decide +kernel
theorem d_QB_count_30 : decode b_QB_count 30 = .ok (.iconst 1, 1) := by decide +kernel
theorem d_QB_count_31 : decode b_QB_count 31 = .ok (.if_icmp .ne 13, 3) := by decide +kernel
theorem d_QB_count_34 : decode b_QB_count 34 = .ok (.aload_n 0, 1) := by decide +kernel
theorem d_QB_count_35 : decode b_QB_count 35 = .ok (.getfield 48, 3) := by decide +kernel
theorem d_QB_count_38 : decode b_QB_count 38 = .ok (.getfield 103, 3) := by decide +kernel
theorem d_QB_count_41 : decode b_QB_count 41 = .ok (.goto 10, 3) := by decide +kernel
theorem d_QB_count_44 : decode b_QB_count 44 = .ok (.aload_n 0, 1) := by decide +kernel
theorem d_QB_count_45 : decode b_QB_count 45 = .ok (.getfield 10, 3) := by decide +kernel
theorem d_QB_count_48 : decode b_QB_count 48 = .ok (.getfield 121, 3) := by decide +kernel
theorem d_QB_count_51 : decode b_QB_count 51 = .ok (.ireturn, 1) := by decide +kernel
theorem xa_QB_count_9 : ∀ w ∈ vx_at0 R_QB 68 "java/lang/IllegalArgumentException" ["java/lang/RuntimeException", "java/lang/Exception"], (goodWord w = true ∧ w ∈ lw_tbl) ∨ w ∈ nwl := by decide +kernel
theorem xa_QB_count_9_g : ∀ w ∈ Cond.classLink R_QB 66 "java/lang/IllegalArgumentException" :: Cond.initialized "java/lang/IllegalArgumentException" :: vx_at0 R_QB 68 "java/lang/IllegalArgumentException" ["java/lang/RuntimeException", "java/lang/Exception"], vx_ot w = true := by decide +kernel
set_option maxHeartbeats 4000000 in
set_option maxRecDepth 100000 in
/-- QueryBench.count -/
theorem c_QB_count (l : Launch) (hl9 : l.stackTraces = false) (dC : Nat → ClassId) (dI : Nat → Nat → Nat) (q0 h0 p1 : Nat) (sz : Heap) (r1 r2 r3 r4 r5 r7 rb ru rpb rps : Value) (uc ln en at_ pl rl nn : Int32) : vx_Met l y_QB_count (k_QB_count :: gtbl) ({ frames := 8, cells := 1, slots := 6, locals := 110 }) (va_Pc [.ref q0, .int nn] (mx dC dI [(q0, .inr (11, [.ref h0, r1, r2, r3, r4, r5, .ref p1, r7])), (h0, .inr (8, [rb, ru, .int uc, .int ln, .int en, .int at_, .int pl])), (p1, .inr (3, [rpb, .int rl, rps]))] [] sz)) (va_Qi (fun (r : Int32) (_ : Unit) => (¬ nn < 0 ∧ nn ≤ 2) ∧ r = if nn = 0 then ln else if nn = 1 then rl else pl) (fun _ t => mz dC dI [(q0, .inr (11, [.ref h0, r1, r2, r3, r4, r5, .ref p1, r7])), (h0, .inr (8, [rb, ru, .int uc, .int ln, .int en, .int at_, .int pl])), (p1, .inr (3, [rpb, .int rl, rps]))] [] (va_A [(q0, .inr (11, [.ref h0, r1, r2, r3, r4, r5, .ref p1, r7])), (h0, .inr (8, [rb, ru, .int uc, .int ln, .int en, .int at_, .int pl])), (p1, .inr (3, [rpb, .int rl, rps]))] sz.size) t ∧ szk sz t.heap 0 0) (va_A [(q0, .inr (11, [.ref h0, r1, r2, r3, r4, r5, .ref p1, r7])), (h0, .inr (8, [rb, ru, .int uc, .int ln, .int en, .int at_, .int pl])), (p1, .inr (3, [rpb, .int rl, rps]))] sz.size)) (vx_X (fun _ : Unit => ¬ (¬ nn < 0 ∧ nn ≤ 2)) (fun E _ t => E = "java/lang/IllegalArgumentException" ∧ mz dC dI [(q0, .inr (11, [.ref h0, r1, r2, r3, r4, r5, .ref p1, r7])), (h0, .inr (8, [rb, ru, .int uc, .int ln, .int en, .int at_, .int pl])), (p1, .inr (3, [rpb, .int rl, rps]))] [] (va_A [(q0, .inr (11, [.ref h0, r1, r2, r3, r4, r5, .ref p1, r7])), (h0, .inr (8, [rb, ru, .int uc, .int ln, .int en, .int at_, .int pl])), (p1, .inr (3, [rpb, .int rl, rps]))] sz.size) t) (va_A [(q0, .inr (11, [.ref h0, r1, r2, r3, r4, r5, .ref p1, r7])), (h0, .inr (8, [rb, ru, .int uc, .int ln, .int en, .int at_, .int pl])), (p1, .inr (3, [rpb, .int rl, rps]))] sz.size)) 1 6 (va_A [(q0, .inr (11, [.ref h0, r1, r2, r3, r4, r5, .ref p1, r7])), (h0, .inr (8, [rb, ru, .int uc, .int ln, .int en, .int at_, .int pl])), (p1, .inr (3, [rpb, .int rl, rps]))] sz.size) := by
  refine vx_ofW (cc := b_QB_count) (maxL := 2) (ret := (some .int)) (by decide) rfl ?_
  intro p e s m args below meth c s₁ B hml hex hv
  obtain ⟨rfl, ⟨hsz, hP, hK, hD0⟩, hN, hZ⟩ := hv
  have hx := B.exec
  have hb := B.bytes
  have hr := B.returns
  have hts0 := atoms_spec (ws := k_QB_count :: gtbl) B.pre
  have hts := fun w h => hts0 w (List.mem_cons_of_mem _ h)
  have hown : s.vm.findClass R_QB = some m.cls := findClass_of_methodNamed B.named
  have hlocks := B.notSynchronized
  subst hsz
  have hD := hD0.self (sz := s.heap.size)
  generalize hAe : va_A [(q0, .inr (11, [.ref h0, r1, r2, r3, r4, r5, .ref p1, r7])), (h0, .inr (8, [rb, ru, .int uc, .int ln, .int en, .int at_, .int pl])), (p1, .inr (3, [rpb, .int rl, rps]))] s.heap.size = A at hD hZ ⊢
  have hA : ∀ q : Nat, s.heap.size ≤ q → A q := fun q h => by rw [← hAe]; exact Or.inr h
  have hS : va_S A s.heap s.heap [] := va_S.rf
  have hP : va_P (dC, dI) classes [(q0, .inr (11, [.ref h0, r1, r2, r3, r4, r5, .ref p1, r7])), (h0, .inr (8, [rb, ru, .int uc, .int ln, .int en, .int at_, .int pl])), (p1, .inr (3, [rpb, .int rl, rps]))] s.heap := hP
  have hl := lv_entry ([.ref q0, .int nn]) (n := 2) (Nat.le_of_ble_eq_true rfl)
  rw [lg_entry_eq]
  generalize (lg_sl ([.ref q0, .int nn]) ++ List.replicate (2 - (lg_sl ([.ref q0, .int nn])).length) Slot.unset).toArray = ls at hl ⊢
  have hl : lv_has ls 2 [(0, .ref q0), (1, .int nn)] := hl
  refine lv_iload_n hx hb d_QB_count_0 rfl (lv_at hl 1 rfl) ?_
  refine lv_if_lt (tgt := 9) hx hb d_QB_count_1 (by decide) (fun c1 => ?_) (fun c1 => ?_)
  · exact vx_throw0 (own := R_QB) (cls := "java/lang/IllegalArgumentException") (names := ["java/lang/RuntimeException", "java/lang/Exception"]) hx hb hl9 hown (by decide +kernel) (by decide +kernel) (hts _ w_260) (hts _ w_13) (hat hts hN xa_QB_count_9) xa_QB_count_9_g hZ.1 hZ.2 hS (hl.1.trans hml.symm) d_QB_count_9 d_QB_count_12 d_QB_count_13 d_QB_count_16 (fun x hx => (hex x hx).elim) (Nat.le_of_ble_eq_true rfl) (Nat.le_of_ble_eq_true rfl) (Nat.le_of_ble_eq_true rfl) (Nat.le_of_ble_eq_true rfl) hlocks (fun t ha hsz hk => ⟨(), (fun h => h.1 c1), ⟨rfl, hP.kept (fun k q hq => hk q.1 (hP k q hq).lt), va_K.moved ha hK, hD⟩, Nat.le_trans hS.1 hsz, fun q h1 h2 => (hk q (Nat.lt_of_lt_of_le h1 hS.1)).trans (hS.2.1 q h1 h2)⟩) hS.2.2 (Nat.le_of_ble_eq_true rfl) (Nat.le_of_ble_eq_true rfl)
  · refine lv_iload_n hx hb d_QB_count_4 rfl (lv_at hl 1 rfl) ?_
    refine lv_iconst (v := 2) hx hb d_QB_count_5 (by decide) ?_
    refine lv_icmp_le (tgt := 17) hx hb d_QB_count_6 (by decide) (fun c6 => ?_) (fun c6 => ?_)
    · refine lv_iload_n hx hb d_QB_count_17 rfl (lv_at hl 1 rfl) ?_
      refine lv_if_ne (tgt := 29) hx hb d_QB_count_18 (by decide) (fun c18 => ?_) (fun c18 => ?_)
      · refine lv_iload_n hx hb d_QB_count_29 rfl (lv_at hl 1 rfl) ?_
        refine lv_iconst (v := 1) hx hb d_QB_count_30 (by decide) ?_
        refine lv_icmp_ne (tgt := 44) hx hb d_QB_count_31 (by decide) (fun c31 => ?_) (fun c31 => ?_)
        · refine lv_aload_n hx hb d_QB_count_44 rfl (lv_at hl 0 rfl) ?_
          refine va_get (D := (dC, dI)) (ci := 11) (v := .ref h0) (C := R_QB) (T := F_QB) (N := 8) hx hb hts in_QB hown hK hP 0 rfl rfl 0 (by decide) (hts _ w_151) (fun _ h9 => h9) rfl d_QB_count_45 ?_
          refine va_get (D := (dC, dI)) (ci := 8) (v := .int pl) (C := R_Tape) (T := F_Tape) (N := 7) hx hb hts in_Tape hown hK hP 1 rfl rfl 6 (by decide) (hts _ w_56) (fun _ h9 => h9) rfl d_QB_count_48 ?_
          refine w_same (fun hq => ?_)
          refine W.widen (k := 1) (n := 6) (Nat.le_of_ble_eq_true rfl) (Nat.le_of_ble_eq_true rfl) ?_
          refine vx_ret ?_
          exact W.iret (v := pl) hx hb hr (fun t ht hW => ⟨⟨pl, (), rfl, ⟨⟨c1, c6⟩, by rw [if_neg c18, if_neg c31]⟩, ⟨by rw [ht]; exact hP, va_K.moved hW.alike hK, hD⟩, by rw [ht]; exact hq⟩, hS.F ht⟩) hS.2.2 d_QB_count_51
        · refine lv_aload_n hx hb d_QB_count_34 rfl (lv_at hl 0 rfl) ?_
          refine va_get (D := (dC, dI)) (ci := 11) (v := .ref p1) (C := R_QB) (T := F_QB) (N := 8) hx hb hts in_QB hown hK hP 0 rfl rfl 6 (by decide) (hts _ w_157) (fun _ h9 => h9) rfl d_QB_count_35 ?_
          refine va_get (D := (dC, dI)) (ci := 3) (v := .int rl) (C := R_Printer) (T := F_Printer) (N := 3) hx hb hts in_Printer hown hK hP 2 rfl rfl 1 (by decide) (hts _ w_142) (fun _ h9 => h9) rfl d_QB_count_38 ?_
          refine lv_goto (tgt := 51) hx hb d_QB_count_41 (by decide) ?_
          refine w_same (fun hq => ?_)
          refine W.widen (k := 1) (n := 6) (Nat.le_of_ble_eq_true rfl) (Nat.le_of_ble_eq_true rfl) ?_
          refine vx_ret ?_
          exact W.iret (v := rl) hx hb hr (fun t ht hW => ⟨⟨rl, (), rfl, ⟨⟨c1, c6⟩, by rw [if_neg c18, if_pos c31]⟩, ⟨by rw [ht]; exact hP, va_K.moved hW.alike hK, hD⟩, by rw [ht]; exact hq⟩, hS.F ht⟩) hS.2.2 d_QB_count_51
      · refine lv_aload_n hx hb d_QB_count_21 rfl (lv_at hl 0 rfl) ?_
        refine va_get (D := (dC, dI)) (ci := 11) (v := .ref h0) (C := R_QB) (T := F_QB) (N := 8) hx hb hts in_QB hown hK hP 0 rfl rfl 0 (by decide) (hts _ w_151) (fun _ h9 => h9) rfl d_QB_count_22 ?_
        refine va_get (D := (dC, dI)) (ci := 8) (v := .int ln) (C := R_Tape) (T := F_Tape) (N := 7) hx hb hts in_Tape hown hK hP 1 rfl rfl 3 (by decide) (hts _ w_47) (fun _ h9 => h9) rfl d_QB_count_25 ?_
        refine w_same (fun hq => ?_)
        refine W.widen (k := 1) (n := 6) (Nat.le_of_ble_eq_true rfl) (Nat.le_of_ble_eq_true rfl) ?_
        refine vx_ret ?_
        exact W.iret (v := ln) hx hb hr (fun t ht hW => ⟨⟨ln, (), rfl, ⟨⟨c1, c6⟩, by rw [if_pos c18]⟩, ⟨by rw [ht]; exact hP, va_K.moved hW.alike hK, hD⟩, by rw [ht]; exact hq⟩, hS.F ht⟩) hS.2.2 d_QB_count_28
    · exact vx_throw0 (own := R_QB) (cls := "java/lang/IllegalArgumentException") (names := ["java/lang/RuntimeException", "java/lang/Exception"]) hx hb hl9 hown (by decide +kernel) (by decide +kernel) (hts _ w_260) (hts _ w_13) (hat hts hN xa_QB_count_9) xa_QB_count_9_g hZ.1 hZ.2 hS (hl.1.trans hml.symm) d_QB_count_9 d_QB_count_12 d_QB_count_13 d_QB_count_16 (fun x hx => (hex x hx).elim) (Nat.le_of_ble_eq_true rfl) (Nat.le_of_ble_eq_true rfl) (Nat.le_of_ble_eq_true rfl) (Nat.le_of_ble_eq_true rfl) hlocks (fun t ha hsz hk => ⟨(), (fun h => c6 h.2), ⟨rfl, hP.kept (fun k q hq => hk q.1 (hP k q hq).lt), va_K.moved ha hK, hD⟩, Nat.le_trans hS.1 hsz, fun q h1 h2 => (hk q (Nat.lt_of_lt_of_le h1 hS.1)).trans (hS.2.1 q h1 h2)⟩) hS.2.2 (Nat.le_of_ble_eq_true rfl) (Nat.le_of_ble_eq_true rfl)
abbrev b_Printer_put : ByteArray := prog_5_method_3_code
def y_Printer_put : MethodName := ⟨"QueryBench$Printer", "put", "(I)V"⟩
abbrev k_Printer_put : Cond := .code y_Printer_put b_Printer_put 2 none
theorem i_Printer_put : k_Printer_put ∈ gtbl := gt_in 960 (by decide +kernel) (by decide +kernel)
theorem d_Printer_put_0 : decode b_Printer_put 0 = .ok (.aload_n 0, 1) := by decide +kernel
theorem d_Printer_put_1 : decode b_Printer_put 1 = .ok (.getfield 33, 3) := by decide +kernel
theorem d_Printer_put_4 : decode b_Printer_put 4 = .ok (.sipush 16384, 3) := by decide +kernel
theorem d_Printer_put_7 : decode b_Printer_put 7 = .ok (.if_icmp .lt 11, 3) := by decide +kernel
theorem d_Printer_put_10 : decode b_Printer_put 10 = .ok (.new 37, 3) := by decide +kernel
theorem d_Printer_put_13 : decode b_Printer_put 13 = .ok (.dup, 1) := by decide +kernel
theorem d_Printer_put_14 : decode b_Printer_put 14 = .ok (.invokespecial 39, 3) := by decide +kernel
theorem d_Printer_put_17 : decode b_Printer_put 17 = .ok (.athrow, 1) := by decide +kernel
theorem d_Printer_put_18 : decode b_Printer_put 18 = .ok (.aload_n 0, 1) := by decide +kernel
theorem d_Printer_put_19 : decode b_Printer_put 19 = .ok (.getfield 9, 3) := by decide +kernel
theorem d_Printer_put_22 : decode b_Printer_put 22 = .ok (.aload_n 0, 1) := by decide +kernel
theorem d_Printer_put_23 : decode b_Printer_put 23 = .ok (.getfield 33, 3) := by decide +kernel
theorem d_Printer_put_26 : decode b_Printer_put 26 = .ok (.iload_n 1, 1) := by decide +kernel
theorem d_Printer_put_27 : decode b_Printer_put 27 = .ok (.i2b, 1) := by decide +kernel
theorem d_Printer_put_28 : decode b_Printer_put 28 = .ok (.bastore, 1) := by decide +kernel
theorem d_Printer_put_29 : decode b_Printer_put 29 = .ok (.aload_n 0, 1) := by decide +kernel
theorem d_Printer_put_30 : decode b_Printer_put 30 = .ok (.dup, 1) := by decide +kernel
theorem d_Printer_put_31 : decode b_Printer_put 31 = .ok (.getfield 33, 3) := by decide +kernel
theorem d_Printer_put_34 : decode b_Printer_put 34 = .ok (.iconst 1, 1) := by decide +kernel
theorem d_Printer_put_35 : decode b_Printer_put 35 = .ok (.iadd, 1) := by decide +kernel
theorem d_Printer_put_36 : decode b_Printer_put 36 = .ok (.putfield 33, 3) := by decide +kernel
theorem d_Printer_put_39 : decode b_Printer_put 39 = .ok (.return_, 1) := by decide +kernel
theorem xa_Printer_put_10 : ∀ w ∈ vx_at0 R_Printer 39 "java/lang/IndexOutOfBoundsException" ["java/lang/RuntimeException", "java/lang/Exception"], (goodWord w = true ∧ w ∈ lw_tbl) ∨ w ∈ nwl := by decide +kernel
theorem xa_Printer_put_10_g : ∀ w ∈ Cond.classLink R_Printer 37 "java/lang/IndexOutOfBoundsException" :: Cond.initialized "java/lang/IndexOutOfBoundsException" :: vx_at0 R_Printer 39 "java/lang/IndexOutOfBoundsException" ["java/lang/RuntimeException", "java/lang/Exception"], vx_ot w = true := by decide +kernel
set_option maxHeartbeats 4000000 in
set_option maxRecDepth 100000 in
/-- Printer.put -/
theorem c_Printer_put (l : Launch) (hl9 : l.stackTraces = false) (dC : Nat → ClassId) (dI : Nat → Nat → Nat) (cB : ClassId) (p1 pb : Nat) (sz : Heap) (rps : Value) (f : Nat → Int32) (k : Nat) (x : Int32) (hk0 : k ≤ 16384) : vx_Met l y_Printer_put (k_Printer_put :: gtbl) ({ frames := 8, cells := 1, slots := 6, locals := 110 }) (va_Pc [.ref p1, .int x] (mx dC dI [(p1, .inr (3, [.ref pb, .int (nI k), rps])), (pb, .inl (cB, 16384, .inl f))] [(cB, .byte)] sz)) (va_Qv (fun (_ : Unit) => k < 16384) (fun _ t => mz dC dI [(p1, .inr (3, [.ref pb, .int (nI (k + 1)), rps])), (pb, .inl (cB, 16384, .inl (upd f k (vp_nar .byte (x.toInt8.toInt32)))))] [(cB, .byte)] (va_A [(p1, .inr (3, [.ref pb, .int (nI k), rps])), (pb, .inl (cB, 16384, .inl f))] sz.size) t ∧ szk sz t.heap 0 0) (va_A [(p1, .inr (3, [.ref pb, .int (nI k), rps])), (pb, .inl (cB, 16384, .inl f))] sz.size)) (vx_X (fun _ : Unit => ¬ k < 16384) (fun E _ t => E = "java/lang/IndexOutOfBoundsException" ∧ mz dC dI [(p1, .inr (3, [.ref pb, .int (nI k), rps])), (pb, .inl (cB, 16384, .inl f))] [(cB, .byte)] (va_A [(p1, .inr (3, [.ref pb, .int (nI k), rps])), (pb, .inl (cB, 16384, .inl f))] sz.size) t) (va_A [(p1, .inr (3, [.ref pb, .int (nI k), rps])), (pb, .inl (cB, 16384, .inl f))] sz.size)) 1 6 (va_A [(p1, .inr (3, [.ref pb, .int (nI k), rps])), (pb, .inl (cB, 16384, .inl f))] sz.size) := by
  refine vx_ofW (cc := b_Printer_put) (maxL := 2) (ret := none) (by decide) rfl ?_
  intro p e s m args below meth c s₁ B hml hex hv
  obtain ⟨rfl, ⟨hsz, hP, hK, hD0⟩, hN, hZ⟩ := hv
  have hx := B.exec
  have hb := B.bytes
  have hr := B.returns
  have hts0 := atoms_spec (ws := k_Printer_put :: gtbl) B.pre
  have hts := fun w h => hts0 w (List.mem_cons_of_mem _ h)
  have hown : s.vm.findClass R_Printer = some m.cls := findClass_of_methodNamed B.named
  have hlocks := B.notSynchronized
  subst hsz
  have hD := hD0.self (sz := s.heap.size)
  generalize hAe : va_A [(p1, .inr (3, [.ref pb, .int (nI k), rps])), (pb, .inl (cB, 16384, .inl f))] s.heap.size = A at hD hZ ⊢
  have hA : ∀ q : Nat, s.heap.size ≤ q → A q := fun q h => by rw [← hAe]; exact Or.inr h
  have hS : va_S A s.heap s.heap [] := va_S.rf
  have hP : va_P (dC, dI) classes [(p1, .inr (3, [.ref pb, .int (nI k), rps])), (pb, .inl (cB, 16384, .inl f))] s.heap := hP
  have hl := lv_entry ([.ref p1, .int x]) (n := 2) (Nat.le_of_ble_eq_true rfl)
  rw [lg_entry_eq]
  generalize (lg_sl ([.ref p1, .int x]) ++ List.replicate (2 - (lg_sl ([.ref p1, .int x])).length) Slot.unset).toArray = ls at hl ⊢
  have hl : lv_has ls 2 [(0, .ref p1), (1, .int x)] := hl
  refine lv_aload_n hx hb d_Printer_put_0 rfl (lv_at hl 0 rfl) ?_
  refine va_get (D := (dC, dI)) (ci := 3) (v := .int (nI k)) (C := R_Printer) (T := F_Printer) (N := 3) hx hb hts in_Printer hown hK hP 0 rfl rfl 1 (by decide) (hts _ w_141) (fun _ h9 => h9) rfl d_Printer_put_1 ?_
  refine lv_sipush (v := 16384) hx hb d_Printer_put_4 (by decide) ?_
  refine lv_icmp_lt (tgt := 18) hx hb d_Printer_put_7 (by decide) (fun c7 => ?_) (fun c7 => ?_)
  · refine lv_aload_n hx hb d_Printer_put_18 rfl (lv_at hl 0 rfl) ?_
    refine va_get (D := (dC, dI)) (ci := 3) (v := .ref pb) (C := R_Printer) (T := F_Printer) (N := 3) hx hb hts in_Printer hown hK hP 0 rfl rfl 0 (by decide) (hts _ w_139) (fun _ h9 => h9) rfl d_Printer_put_19 ?_
    refine lv_aload_n hx hb d_Printer_put_22 rfl (lv_at hl 0 rfl) ?_
    refine va_get (D := (dC, dI)) (ci := 3) (v := .int (nI k)) (C := R_Printer) (T := F_Printer) (N := 3) hx hb hts in_Printer hown hK hP 0 rfl rfl 1 (by decide) (hts _ w_141) (fun _ h9 => h9) rfl d_Printer_put_23 ?_
    refine lv_iload_n hx hb d_Printer_put_26 rfl (lv_at hl 1 rfl) ?_
    refine lv_i2b (v := x.toInt8.toInt32) hx hb d_Printer_put_27 rfl ?_
    have hk : k < 16384 := by rw [show (16384 : Int32) = nI 16384 from rfl, nI_ltI (by omega) (by omega)] at c7; exact c7
    refine va_bast hx hb hK hP hD hS 1 0 rfl rfl (vp_in_nI hk (by decide)) d_Printer_put_28 (fun H locs hP hD hS => ?_)
    rw [show ((nI k)).toNatClampNeg = k from nI_clamp (by omega)] at hP hD
    have hP : va_P (dC, dI) classes [(p1, .inr (3, [.ref pb, .int (nI k), rps])), (pb, .inl (cB, 16384, .inl (upd f k (vp_nar .byte (x.toInt8.toInt32)))))] H := hP
    have hD : va_D A [(p1, .inr (3, [.ref pb, .int (nI k), rps])), (pb, .inl (cB, 16384, .inl (upd f k (vp_nar .byte (x.toInt8.toInt32)))))] := hD
    refine lv_aload_n hx hb d_Printer_put_29 rfl (lv_at hl 0 rfl) ?_
    refine lv_dup hx hb d_Printer_put_30 rfl ?_
    refine va_get (D := (dC, dI)) (ci := 3) (v := .int (nI k)) (C := R_Printer) (T := F_Printer) (N := 3) hx hb hts in_Printer hown hK hP 0 rfl rfl 1 (by decide) (hts _ w_141) (fun _ h9 => h9) rfl d_Printer_put_31 ?_
    refine lv_iconst (v := 1) hx hb d_Printer_put_34 (by decide) ?_
    refine lv_iadd hx hb d_Printer_put_35 ?_
    refine W.eq (g2 := F0 m 36 ls [.int (nI (k + 1)), .ref p1]) (by rw [show ((nI k) + 1) = (nI (k + 1)) from nI_1 _]) ?_
    refine va_put (D := (dC, dI)) (ci := 3) (v := .int (nI (k + 1))) (ty := .int) (C := R_Printer) (T := F_Printer) (N := 3) hx hb hts in_Printer t_Printer t_Printer_ok n_Printer hown hK hP hD hS 0 rfl rfl 1 (by decide) (hts _ w_141) (fun _ h9 => h9) rfl (by decide +kernel) rfl rfl (Nat.le_of_ble_eq_true rfl) d_Printer_put_36 (fun H locs hP hD hS => ?_)
    have hP : va_P (dC, dI) classes [(p1, .inr (3, [.ref pb, .int (nI (k + 1)), rps])), (pb, .inl (cB, 16384, .inl (upd f k (vp_nar .byte (x.toInt8.toInt32)))))] H := hP
    have hD : va_D A [(p1, .inr (3, [.ref pb, .int (nI (k + 1)), rps])), (pb, .inl (cB, 16384, .inl (upd f k (vp_nar .byte (x.toInt8.toInt32)))))] := hD
    refine w_same (fun hq => ?_)
    refine W.widen (k := 1) (n := 6) (Nat.le_of_ble_eq_true rfl) (Nat.le_of_ble_eq_true rfl) ?_
    refine vx_ret ?_
    exact W.vret hx hb hr (fun t ht hW => ⟨⟨(), rfl, hk, ⟨by rw [ht]; exact hP, va_K.moved hW.alike hK, hD⟩, by rw [ht]; exact hq⟩, hS.F ht⟩) hS.2.2 d_Printer_put_39
  · exact vx_throw0 (own := R_Printer) (cls := "java/lang/IndexOutOfBoundsException") (names := ["java/lang/RuntimeException", "java/lang/Exception"]) hx hb hl9 hown (by decide +kernel) (by decide +kernel) (hts _ w_961) (hts _ w_12) (hat hts hN xa_Printer_put_10) xa_Printer_put_10_g hZ.1 hZ.2 hS (hl.1.trans hml.symm) d_Printer_put_10 d_Printer_put_13 d_Printer_put_14 d_Printer_put_17 (fun x hx => (hex x hx).elim) (Nat.le_of_ble_eq_true rfl) (Nat.le_of_ble_eq_true rfl) (Nat.le_of_ble_eq_true rfl) (Nat.le_of_ble_eq_true rfl) hlocks (fun t ha hsz hk => ⟨(), (fun h => c7 (by rw [show (16384 : Int32) = nI 16384 from rfl, nI_ltI (by omega) (by omega)]; exact h)), ⟨rfl, hP.kept (fun k q hq => hk q.1 (hP k q hq).lt), va_K.moved ha hK, hD⟩, Nat.le_trans hS.1 hsz, fun q h1 h2 => (hk q (Nat.lt_of_lt_of_le h1 hS.1)).trans (hS.2.1 q h1 h2)⟩) hS.2.2 (Nat.le_of_ble_eq_true rfl) (Nat.le_of_ble_eq_true rfl)
abbrev b_Printer_putLetters : ByteArray := prog_5_method_4_code
def y_Printer_putLetters : MethodName := ⟨"QueryBench$Printer", "putLetters", "(Ljava/lang/String;)V"⟩
abbrev k_Printer_putLetters : Cond := .code y_Printer_putLetters b_Printer_putLetters 3 none
theorem i_Printer_putLetters : k_Printer_putLetters ∈ gtbl := gt_in 983 (by decide +kernel) (by decide +kernel)
theorem d_Printer_putLetters_0 : decode b_Printer_putLetters 0 = .ok (.iconst 0, 1) := by decide +kernel
theorem d_Printer_putLetters_1 : decode b_Printer_putLetters 1 = .ok (.istore_n 2, 1) := by decide +kernel
theorem d_Printer_putLetters_2 : decode b_Printer_putLetters 2 = .ok (.iload_n 2, 1) := by decide +kernel
theorem d_Printer_putLetters_3 : decode b_Printer_putLetters 3 = .ok (.aload_n 1, 1) := by decide +kernel
theorem d_Printer_putLetters_4 : decode b_Printer_putLetters 4 = .ok (.invokevirtual 40, 3) := by decide +kernel
theorem d_Printer_putLetters_7 : decode b_Printer_putLetters 7 = .ok (.if_icmp .ge 18, 3) := by decide +kernel
theorem d_Printer_putLetters_10 : decode b_Printer_putLetters 10 = .ok (.aload_n 0, 1) := by decide +kernel
theorem d_Printer_putLetters_11 : decode b_Printer_putLetters 11 = .ok (.aload_n 1, 1) := by decide +kernel
theorem d_Printer_putLetters_12 : decode b_Printer_putLetters 12 = .ok (.iload_n 2, 1) := by decide +kernel
theorem d_Printer_putLetters_13 : decode b_Printer_putLetters 13 = .ok (.invokevirtual 45, 3) := by decide +kernel
theorem d_Printer_putLetters_16 : decode b_Printer_putLetters 16 = .ok (.invokevirtual 25, 3) := by decide +kernel
theorem d_Printer_putLetters_19 : decode b_Printer_putLetters 19 = .ok (.iinc 2 1, 3) := by decide +kernel
theorem d_Printer_putLetters_22 : decode b_Printer_putLetters 22 = .ok (.goto (-20), 3) := by decide +kernel
theorem d_Printer_putLetters_25 : decode b_Printer_putLetters 25 = .ok (.return_, 1) := by decide +kernel
set_option maxHeartbeats 4000000 in
set_option maxRecDepth 100000 in
/-- Printer.putLetters -/
theorem c_Printer_putLetters (l : Launch) (hl9 : l.stackTraces = false) (dC : Nat → ClassId) (dI : Nat → Nat → Nat) (cB : ClassId) (p1 pb : Nat) (sz : Heap) (rps : Value) (f : Nat → Int32) (k : Nat) (sa av len : Nat) (b : Nat → Int32) (hk0 : k ≤ 16384) (hlen : len ≤ 1000) : vx_Met l y_Printer_putLetters (k_Printer_putLetters :: gtbl) ({ frames := 9, cells := 1, slots := 6, locals := 131 }) (va_Pc [.ref p1, .ref sa] (mt sa av len b dC dI [(p1, .inr (3, [.ref pb, .int (nI k), rps])), (pb, .inl (cB, 16384, .inl f))] [(cB, .byte)] sz)) (va_Qv (fun (_ : Unit) => k + len ≤ 16384) (fun _ t => mz dC dI [(p1, .inr (3, [.ref pb, .int (nI (k + len)), rps])), (pb, .inl (cB, 16384, .inl (wrS f k b len)))] [(cB, .byte)] (va_A [(p1, .inr (3, [.ref pb, .int (nI k), rps])), (pb, .inl (cB, 16384, .inl f))] sz.size) t ∧ szk sz t.heap 0 0) (va_A [(p1, .inr (3, [.ref pb, .int (nI k), rps])), (pb, .inl (cB, 16384, .inl f))] sz.size)) (vx_X (fun u : Nat => u ≤ len ∧ ¬ k + len ≤ 16384) (fun E u t => E = "java/lang/IndexOutOfBoundsException" ∧ mz dC dI [(p1, .inr (3, [.ref pb, .int (nI (k + u)), rps])), (pb, .inl (cB, 16384, .inl (wrS f k b u)))] [(cB, .byte)] (va_A [(p1, .inr (3, [.ref pb, .int (nI k), rps])), (pb, .inl (cB, 16384, .inl f))] sz.size) t) (va_A [(p1, .inr (3, [.ref pb, .int (nI k), rps])), (pb, .inl (cB, 16384, .inl f))] sz.size)) 1 6 (va_A [(p1, .inr (3, [.ref pb, .int (nI k), rps])), (pb, .inl (cB, 16384, .inl f))] sz.size) := by
  refine vx_ofW (cc := b_Printer_putLetters) (maxL := 3) (ret := none) (by decide) rfl ?_
  intro p e s m args below meth c s₁ B hml hex hv
  obtain ⟨rfl, ⟨hsz, hP, hK, hD0⟩, hN, hZ, hE⟩ := hv
  have hx := B.exec
  have hb := B.bytes
  have hr := B.returns
  have hts0 := atoms_spec (ws := k_Printer_putLetters :: gtbl) B.pre
  have hts := fun w h => hts0 w (List.mem_cons_of_mem _ h)
  have hown : s.vm.findClass R_Printer = some m.cls := findClass_of_methodNamed B.named
  have hlocks := B.notSynchronized
  subst hsz
  have hD := hD0.self (sz := s.heap.size)
  generalize hAe : va_A [(p1, .inr (3, [.ref pb, .int (nI k), rps])), (pb, .inl (cB, 16384, .inl f))] s.heap.size = A at hD hZ hE ⊢
  have hA : ∀ q : Nat, s.heap.size ≤ q → A q := fun q h => by rw [← hAe]; exact Or.inr h
  have hS : va_S A s.heap s.heap [] := va_S.rf
  have hP : va_P (dC, dI) classes [(p1, .inr (3, [.ref pb, .int (nI k), rps])), (pb, .inl (cB, 16384, .inl f))] s.heap := hP
  have hl := lv_entry ([.ref p1, .ref sa]) (n := 3) (Nat.le_of_ble_eq_true rfl)
  rw [lg_entry_eq]
  generalize (lg_sl ([.ref p1, .ref sa]) ++ List.replicate (3 - (lg_sl ([.ref p1, .ref sa])).length) Slot.unset).toArray = ls at hl ⊢
  have hl : lv_has ls 3 [(0, .ref p1), (1, .ref sa)] := hl
  refine lv_iconst (v := 0) hx hb d_Printer_putLetters_0 (by decide) ?_
  refine lv_istore_n (lv' := [(2, .int 0), (0, .ref p1), (1, .ref sa)]) hx hb d_Printer_putLetters_1 rfl hl (by decide) rfl (fun ls hl => ?_)
  refine w_loop (D := (dC, dI)) (cl := classes) (A := A) (H0 := s.heap) (nL := 3) 2 (σ := Nat) (fun j => j ≤ len ∧ k + j ≤ 16384) (fun j => len - j) (fun j => [(p1, .inr (3, [.ref pb, .int (nI (k + j)), rps])), (pb, .inl (cB, 16384, .inl (wrS f k b j)))]) (fun j => [(0, .ref p1), (1, .ref sa), (2, .int (nI j))]) ?_ 0 ⟨Nat.zero_le _, hk0⟩ hP hD hS (lv_sub hl [1, 2, 0] rfl)
  rintro j H locs ls hI ih hP hD hS hl
  have hP : va_P (dC, dI) classes [(p1, .inr (3, [.ref pb, .int (nI (k + j)), rps])), (pb, .inl (cB, 16384, .inl (wrS f k b j)))] H := hP
  have hD : va_D A [(p1, .inr (3, [.ref pb, .int (nI (k + j)), rps])), (pb, .inl (cB, 16384, .inl (wrS f k b j)))] := hD
  have hl : lv_has ls 3 [(0, .ref p1), (1, .ref sa), (2, .int (nI j))] := hl
  refine lv_iload_n hx hb d_Printer_putLetters_2 rfl (lv_at hl 2 rfl) ?_
  refine lv_aload_n hx hb d_Printer_putLetters_3 rfl (lv_at hl 1 rfl) ?_
  have hPc := hP.sub (ws' := []) [] rfl
  have hDc := hD.sub (ws' := []) [] (by decide) rfl
  have hKc := hK.sub (tys' := []) [] rfl
  have hFc := va_free (wc := []) hD hS hA [] rfl
  refine va_calli (va_runV (As := []) (rest := [.int (nI j)]) ⟨hx, hb, hml, hown, hts⟩ (c_Str_length l dC dI H sa av len b) (cwV 0 hts (gt_V (own := R_Printer) (C := R_Str) (i := 40) (y := y_Str_length) i_Str_length w_984 w_456 w_457 w_18) rfl rfl rfl (by decide +kernel) ⟨Nat.le_of_ble_eq_true rfl, Nat.le_of_ble_eq_true rfl⟩) ⟨mstr_blind, (by obtain ⟨cell, h1, h2, h3, -⟩ := va_O.kept hE.1 hS.2.1; exact ⟨cell, h1, h2, h3⟩), fun U hU hW => ⟨rfl, ⟨hU, by rw [hU]; exact hPc, va_K.moved hW.alike hKc, hDc.weaken (fun _ _ _ _ => trivial)⟩, by rw [hU]; exact SX.moved' hW.alike (SX.narrow' (SX.kept' hE hS.2.1) hFc)⟩⟩ rfl rfl hl.1 rfl (lv_room (Nat.le_of_ble_eq_true rfl)) d_Printer_putLetters_4 ⟨Nat.le_of_ble_eq_true rfl, Nat.le_of_ble_eq_true rfl⟩) hS (fun q _ h => hFc q h) hFc (fun r _u t H1 locs ht hvm hw hB hz1 hk1 hS => ?_)
  obtain ⟨hP1, hK1, hD1⟩ := hB
  rw [ht] at hP1
  obtain ⟨hP, hD⟩ := va_join (wr := [(p1, .inr (3, [.ref pb, .int (nI (k + j)), rps])), (pb, .inl (cB, 16384, .inl (wrS f k b j)))]) (w1 := []) hP hD [] [0, 1] rfl rfl (by decide) (by decide) hk1 hFc hP1 hD1
  generalize H1 = H at hP hS ⊢
  have hP : va_P (dC, dI) classes [(p1, .inr (3, [.ref pb, .int (nI (k + j)), rps])), (pb, .inl (cB, 16384, .inl (wrS f k b j)))] H := hP
  have hD : va_D A [(p1, .inr (3, [.ref pb, .int (nI (k + j)), rps])), (pb, .inl (cB, 16384, .inl (wrS f k b j)))] := hD
  have hw : r = (nI len) := hw
  subst hw
  refine lv_icmp_ge (tgt := 25) hx hb d_Printer_putLetters_7 (by decide) (fun c7 => ?_) (fun c7 => ?_)
  · have hl0 : j = len := by rw [nI_leI (by omega) (by omega)] at c7; omega
    have hm : k + len ≤ 16384 := by omega
    rw [hl0] at hP hD
    refine w_same (fun hq => ?_)
    refine W.widen (k := 1) (n := 6) (Nat.le_of_ble_eq_true rfl) (Nat.le_of_ble_eq_true rfl) ?_
    refine vx_ret ?_
    exact W.vret hx hb hr (fun t ht hW => ⟨⟨(), rfl, hm, ⟨by rw [ht]; exact hP, va_K.moved hW.alike hK, hD⟩, by rw [ht]; exact hq⟩, hS.F ht⟩) hS.2.2 d_Printer_putLetters_25
  · refine lv_aload_n hx hb d_Printer_putLetters_10 rfl (lv_at hl 0 rfl) ?_
    refine lv_aload_n hx hb d_Printer_putLetters_11 rfl (lv_at hl 1 rfl) ?_
    refine lv_iload_n hx hb d_Printer_putLetters_12 rfl (lv_at hl 2 rfl) ?_
    have hj : j < len := by rw [nI_leI (by omega) (by omega)] at c7; omega
    have hPc := hP.sub (ws' := []) [] rfl
    have hDc := hD.sub (ws' := []) [] (by decide) rfl
    have hKc := hK.sub (tys' := []) [] rfl
    have hFc := va_free (wc := []) hD hS hA [] rfl
    refine va_calli (va_runV (As := [.int (nI j)]) (rest := [.ref p1]) ⟨hx, hb, hml, hown, hts⟩ (c_Str_charAt l dC dI H sa av len b j hj (by omega)) (cwV 1 hts (gt_V (own := R_Printer) (C := R_Str) (i := 45) (y := y_Str_charAt) i_Str_charAt w_985 w_466 w_467 w_18) rfl rfl rfl (by decide +kernel) ⟨Nat.le_of_ble_eq_true rfl, Nat.le_of_ble_eq_true rfl⟩) ⟨mstr_blind, (by obtain ⟨cell, h1, h2, h3, -⟩ := va_O.kept hE.1 hS.2.1; exact ⟨cell, h1, h2, h3⟩), fun U hU hW => ⟨rfl, ⟨hU, by rw [hU]; exact hPc, va_K.moved hW.alike hKc, hDc.weaken (fun _ _ _ _ => trivial)⟩, by rw [hU]; exact SX.moved' hW.alike (SX.narrow' (SX.kept' hE hS.2.1) hFc)⟩⟩ rfl rfl hl.1 rfl (lv_room (Nat.le_of_ble_eq_true rfl)) d_Printer_putLetters_13 ⟨Nat.le_of_ble_eq_true rfl, Nat.le_of_ble_eq_true rfl⟩) hS (fun q _ h => hFc q h) hFc (fun r _u t H1 locs ht hvm hw hB hz1 hk1 hS => ?_)
    obtain ⟨hP1, hK1, hD1⟩ := hB
    rw [ht] at hP1
    obtain ⟨hP, hD⟩ := va_join (wr := [(p1, .inr (3, [.ref pb, .int (nI (k + j)), rps])), (pb, .inl (cB, 16384, .inl (wrS f k b j)))]) (w1 := []) hP hD [] [0, 1] rfl rfl (by decide) (by decide) hk1 hFc hP1 hD1
    generalize H1 = H at hP hS ⊢
    have hP : va_P (dC, dI) classes [(p1, .inr (3, [.ref pb, .int (nI (k + j)), rps])), (pb, .inl (cB, 16384, .inl (wrS f k b j)))] H := hP
    have hD : va_D A [(p1, .inr (3, [.ref pb, .int (nI (k + j)), rps])), (pb, .inl (cB, 16384, .inl (wrS f k b j)))] := hD
    have hw : r = (b j &&& 255) := hw
    subst hw
    have hPc := hP.sub (ws' := [(p1, .inr (3, [.ref pb, .int (nI (k + j)), rps])), (pb, .inl (cB, 16384, .inl (wrS f k b j)))]) [0, 1] rfl
    have hDc := hD.sub (ws' := [(p1, .inr (3, [.ref pb, .int (nI (k + j)), rps])), (pb, .inl (cB, 16384, .inl (wrS f k b j)))]) [0, 1] (by decide) rfl
    have hKc := hK.sub (tys' := [(cB, .byte)]) [0] rfl
    have hFc := va_free (wc := [(p1, .inr (3, [.ref pb, .int (nI (k + j)), rps])), (pb, .inl (cB, 16384, .inl (wrS f k b j)))]) hD hS hA [0, 1] rfl
    refine w_same (fun hq0 => ?_)
    refine vx_callv (vx_runV (As := [.int (b j &&& 255)]) (rest := []) ⟨hx, hb, hml, hown, hts⟩ (c_Printer_put l hl9 dC dI cB p1 pb H rps (wrS f k b j) (k + j) (b j &&& 255) hI.2) (cwV 1 hts (gt_V (own := R_Printer) (C := R_Printer) (i := 25) (y := y_Printer_put) i_Printer_put w_957 w_959 (gt_sel (y := y_Printer_put) (n := 3) (by decide +kernel)) w_6) rfl rfl rfl (by decide +kernel) ⟨Nat.le_of_ble_eq_true rfl, Nat.le_of_ble_eq_true rfl⟩) ⟨mx_blind, va_recv hKc hPc (ci := 3) (q0 := 0) rfl rfl, fun U hU hW => ⟨rfl, ⟨hU, by rw [hU]; exact hPc, va_K.moved hW.alike hKc, hDc.weaken (fun _ _ _ _ => trivial)⟩, hN.warm hW, by rw [hU]; exact ZX.moved' hW.alike (ZX.narrow' (ZX.kept' hZ hS.2.1) hFc)⟩⟩ rfl rfl hl.1 rfl (lv_room (Nat.le_of_ble_eq_true rfl)) d_Printer_putLetters_16 ⟨Nat.le_of_ble_eq_true rfl, Nat.le_of_ble_eq_true rfl⟩) hS (fun q _ h => hFc q h) hFc (fun q _ h => hFc q h) (fun E ce q9 _u t H1 locs ht hvm hw hB hz1 hk1 hS hce hcv hcl => ?_) (fun _u t H1 locs ht hvm hw hB hz1 hk1 hS => ?_)
    · obtain ⟨hE, hP1, hK1, hD1⟩ := hB
      rw [ht] at hP1
      obtain ⟨hP, hD⟩ := va_join (wr := []) (w1 := [(p1, .inr (3, [.ref pb, .int (nI (k + j)), rps])), (pb, .inl (cB, 16384, .inl (wrS f k b j)))]) hP hD [0, 1] [] rfl rfl (by decide) (by decide) hk1 hFc hP1 hD1
      generalize H1 = H at hP hS hce ⊢
      have hP : va_P (dC, dI) classes [(p1, .inr (3, [.ref pb, .int (nI (k + j)), rps])), (pb, .inl (cB, 16384, .inl (wrS f k b j)))] H := hP
      have hD : va_D A [(p1, .inr (3, [.ref pb, .int (nI (k + j)), rps])), (pb, .inl (cB, 16384, .inl (wrS f k b j)))] := hD
      exact vx_out (fun x hx => (hex x hx).elim) hlocks hce hcv hcl (fun t ht2 ha => ⟨j, ⟨by omega, fun h => hw (by omega)⟩, ⟨hE, by rw [ht2]; exact hP, va_K.moved ha hK, hD⟩, hS.F ht2⟩) hS.2.2 (Nat.le_of_ble_eq_true rfl) (Nat.le_of_ble_eq_true rfl)
    · obtain ⟨⟨hP1, hK1, hD1⟩, hz9⟩ := hB
      rw [ht] at hP1
      rw [ht] at hz9
      refine w_tight (hq0.trans hz9) ?_
      have hq0 := hq0.trans hz9
      obtain ⟨hP, hD⟩ := va_join (wr := []) (w1 := [(p1, .inr (3, [.ref pb, .int (nI (k + j + 1)), rps])), (pb, .inl (cB, 16384, .inl (wrS f k b (j + 1))))]) hP hD [0, 1] [] rfl rfl (by decide) (by decide) hk1 hFc hP1 hD1
      generalize H1 = H at hP hS ⊢
      have hP : va_P (dC, dI) classes [(p1, .inr (3, [.ref pb, .int (nI (k + j + 1)), rps])), (pb, .inl (cB, 16384, .inl (wrS f k b (j + 1))))] H := hP
      have hD : va_D A [(p1, .inr (3, [.ref pb, .int (nI (k + j + 1)), rps])), (pb, .inl (cB, 16384, .inl (wrS f k b (j + 1))))] := hD
      have hw : k + j < 16384 := hw
      refine lv_iinc (v := nI (j + 1)) (lv' := [(2, .int (nI (j + 1))), (0, .ref p1), (1, .ref sa)]) hx hb d_Printer_putLetters_19 hl (k := 2) rfl (nI_1 j) (by decide) rfl (fun ls hl => ?_)
      refine lv_goto (tgt := 2) hx hb d_Printer_putLetters_22 (by decide) ?_
      exact ih (j + 1) _ _ _ ⟨by omega, by omega⟩ (by show len - (j + 1) < len - j; omega) hP hD hS (lv_sub hl [1, 2, 0] rfl)
abbrev b_Mo_write : ByteArray := prog_14_method_26_code
def y_Mo_write : MethodName := ⟨"QueryBenchModel", "write", "(I)V"⟩
abbrev k_Mo_write : Cond := .code y_Mo_write b_Mo_write 2 none
theorem i_Mo_write : k_Mo_write ∈ gtbl := gt_in 1377 (by decide +kernel) (by decide +kernel)
theorem d_Mo_write_0 : decode b_Mo_write 0 = .ok (.aload_n 0, 1) := by decide +kernel
theorem d_Mo_write_1 : decode b_Mo_write 1 = .ok (.getfield 232, 3) := by decide +kernel
theorem d_Mo_write_4 : decode b_Mo_write 4 = .ok (.sipush 16384, 3) := by decide +kernel
theorem d_Mo_write_7 : decode b_Mo_write 7 = .ok (.if_icmp .lt 9, 3) := by decide +kernel
theorem d_Mo_write_10 : decode b_Mo_write 10 = .ok (.aload_n 0, 1) := by decide +kernel
theorem d_Mo_write_11 : decode b_Mo_write 11 = .ok (.iconst 1, 1) := by decide +kernel
theorem d_Mo_write_12 : decode b_Mo_write 12 = .ok (.putfield 235, 3) := by decide +kernel
theorem d_Mo_write_15 : decode b_Mo_write 15 = .ok (.return_, 1) := by decide +kernel
theorem d_Mo_write_16 : decode b_Mo_write 16 = .ok (.aload_n 0, 1) := by decide +kernel
theorem d_Mo_write_17 : decode b_Mo_write 17 = .ok (.getfield 20, 3) := by decide +kernel
theorem d_Mo_write_20 : decode b_Mo_write 20 = .ok (.aload_n 0, 1) := by decide +kernel
theorem d_Mo_write_21 : decode b_Mo_write 21 = .ok (.getfield 232, 3) := by decide +kernel
theorem d_Mo_write_24 : decode b_Mo_write 24 = .ok (.iload_n 1, 1) := by decide +kernel
theorem d_Mo_write_25 : decode b_Mo_write 25 = .ok (.i2b, 1) := by decide +kernel
theorem d_Mo_write_26 : decode b_Mo_write 26 = .ok (.bastore, 1) := by decide +kernel
theorem d_Mo_write_27 : decode b_Mo_write 27 = .ok (.aload_n 0, 1) := by decide +kernel
theorem d_Mo_write_28 : decode b_Mo_write 28 = .ok (.dup, 1) := by decide +kernel
theorem d_Mo_write_29 : decode b_Mo_write 29 = .ok (.getfield 232, 3) := by decide +kernel
theorem d_Mo_write_32 : decode b_Mo_write 32 = .ok (.iconst 1, 1) := by decide +kernel
theorem d_Mo_write_33 : decode b_Mo_write 33 = .ok (.iadd, 1) := by decide +kernel
theorem d_Mo_write_34 : decode b_Mo_write 34 = .ok (.putfield 232, 3) := by decide +kernel
theorem d_Mo_write_37 : decode b_Mo_write 37 = .ok (.return_, 1) := by decide +kernel
set_option maxHeartbeats 4000000 in
set_option maxRecDepth 100000 in
/-- the reference: write(b) -/
theorem c_Mo_write (l : Launch) (dC : Nat → ClassId) (dI : Nat → Nat → Nat) (mo : Nat) (sz : Heap) (v : Nat → Value) (cB : ClassId) (qo : Nat) (f : Nat → Int32) (k : Nat) (x : Int32) (hk0 : k ≤ 16384) (h10 : v 10 = .ref qo) (h11 : v 11 = .int (nI k)) : Met l y_Mo_write (k_Mo_write :: gtbl) ({ frames := 0, cells := 0, slots := 0, locals := 0 }) (va_Pc [.ref mo, .int x] (mp dC dI [(mo, .inr (13, MF 30 v)), (qo, .inl (cB, 16392, .inl f))] [(cB, .byte)] sz)) (va_Qv (fun (u : (Nat → Value) × (Nat → Int32)) => (k < 16384 ∧ u = (va_up v 11 (.int (nI (k + 1))), upd f k (vp_nar .byte (x.toInt8.toInt32)))) ∨ (¬ k < 16384 ∧ u = (va_up v 12 (.int 1), f))) (fun u => mz dC dI [(mo, .inr (13, MF 30 u.1)), (qo, .inl (cB, 16392, .inl u.2))] [(cB, .byte)] (va_A [(mo, .inr (13, MF 30 v)), (qo, .inl (cB, 16392, .inl f))] sz.size)) (va_A [(mo, .inr (13, MF 30 v)), (qo, .inl (cB, 16392, .inl f))] sz.size)) 0 0 (va_A [(mo, .inr (13, MF 30 v)), (qo, .inl (cB, 16392, .inl f))] sz.size) := by
  refine Met.ofW (cc := b_Mo_write) (maxL := 2) (ret := none) (by decide) rfl ?_
  intro p e s m args below meth c s₁ B hml hv
  obtain ⟨rfl, hsz, hP, hK, hD0⟩ := hv
  have hx := B.exec
  have hb := B.bytes
  have hr := B.returns
  have hts0 := atoms_spec (ws := k_Mo_write :: gtbl) B.pre
  have hts := fun w h => hts0 w (List.mem_cons_of_mem _ h)
  have hown : s.vm.findClass R_Mo = some m.cls := findClass_of_methodNamed B.named
  have hlocks := B.notSynchronized
  subst hsz
  have hD := hD0.self (sz := s.heap.size)
  generalize hAe : va_A [(mo, .inr (13, MF 30 v)), (qo, .inl (cB, 16392, .inl f))] s.heap.size = A at hD ⊢
  have hA : ∀ q : Nat, s.heap.size ≤ q → A q := fun q h => by rw [← hAe]; exact Or.inr h
  have hS : va_S A s.heap s.heap [] := va_S.rf
  have hP : va_P (dC, dI) classes [(mo, .inr (13, MF 30 v)), (qo, .inl (cB, 16392, .inl f))] s.heap := hP
  have hl := lv_entry ([.ref mo, .int x]) (n := 2) (Nat.le_of_ble_eq_true rfl)
  rw [lg_entry_eq]
  generalize (lg_sl ([.ref mo, .int x]) ++ List.replicate (2 - (lg_sl ([.ref mo, .int x])).length) Slot.unset).toArray = ls at hl ⊢
  have hl : lv_has ls 2 [(0, .ref mo), (1, .int x)] := hl
  refine lv_aload_n hx hb d_Mo_write_0 rfl (lv_at hl 0 rfl) ?_
  refine va_get (D := (dC, dI)) (ci := 13) (v := .int (nI k)) (C := R_Mo) (T := F_Mo) (N := 30) hx hb hts in_Mo hown hK hP 0 rfl rfl 11 (by decide) (hts _ w_1100) (fun _ h9 => h9) (MFg (by decide) h11) d_Mo_write_1 ?_
  refine lv_sipush (v := 16384) hx hb d_Mo_write_4 (by decide) ?_
  refine lv_icmp_lt (tgt := 16) hx hb d_Mo_write_7 (by decide) (fun c7 => ?_) (fun c7 => ?_)
  · refine lv_aload_n hx hb d_Mo_write_16 rfl (lv_at hl 0 rfl) ?_
    refine va_get (D := (dC, dI)) (ci := 13) (v := .ref qo) (C := R_Mo) (T := F_Mo) (N := 30) hx hb hts in_Mo hown hK hP 0 rfl rfl 10 (by decide) (hts _ w_1099) (fun _ h9 => h9) (MFg (by decide) h10) d_Mo_write_17 ?_
    refine lv_aload_n hx hb d_Mo_write_20 rfl (lv_at hl 0 rfl) ?_
    refine va_get (D := (dC, dI)) (ci := 13) (v := .int (nI k)) (C := R_Mo) (T := F_Mo) (N := 30) hx hb hts in_Mo hown hK hP 0 rfl rfl 11 (by decide) (hts _ w_1100) (fun _ h9 => h9) (MFg (by decide) h11) d_Mo_write_21 ?_
    refine lv_iload_n hx hb d_Mo_write_24 rfl (lv_at hl 1 rfl) ?_
    refine lv_i2b (v := x.toInt8.toInt32) hx hb d_Mo_write_25 rfl ?_
    have hk : k < 16384 := by rw [show (16384 : Int32) = nI 16384 from rfl, nI_ltI (by omega) (by omega)] at c7; exact c7
    refine va_bast hx hb hK hP hD hS 1 0 rfl rfl (vp_in_nI (show k < 16392 by omega) (by decide)) d_Mo_write_26 (fun H locs hP hD hS => ?_)
    rw [show ((nI k)).toNatClampNeg = k from nI_clamp (by omega)] at hP hD
    have hP : va_P (dC, dI) classes [(mo, .inr (13, MF 30 v)), (qo, .inl (cB, 16392, .inl (upd f k (vp_nar .byte (x.toInt8.toInt32)))))] H := hP
    have hD : va_D A [(mo, .inr (13, MF 30 v)), (qo, .inl (cB, 16392, .inl (upd f k (vp_nar .byte (x.toInt8.toInt32)))))] := hD
    refine lv_aload_n hx hb d_Mo_write_27 rfl (lv_at hl 0 rfl) ?_
    refine lv_dup hx hb d_Mo_write_28 rfl ?_
    refine va_get (D := (dC, dI)) (ci := 13) (v := .int (nI k)) (C := R_Mo) (T := F_Mo) (N := 30) hx hb hts in_Mo hown hK hP 0 rfl rfl 11 (by decide) (hts _ w_1100) (fun _ h9 => h9) (MFg (by decide) h11) d_Mo_write_29 ?_
    refine lv_iconst (v := 1) hx hb d_Mo_write_32 (by decide) ?_
    refine lv_iadd hx hb d_Mo_write_33 ?_
    refine W.eq (g2 := F0 m 34 ls [.int (nI (k + 1)), .ref mo]) (by rw [show ((nI k) + 1) = (nI (k + 1)) from nI_1 _]) ?_
    refine va_put (D := (dC, dI)) (ci := 13) (v := .int (nI (k + 1))) (ty := .int) (C := R_Mo) (T := F_Mo) (N := 30) hx hb hts in_Mo t_Mo t_Mo_ok n_Mo hown hK hP hD hS 0 rfl rfl 11 (by decide) (hts _ w_1100) (fun _ h9 => h9) rfl (by decide +kernel) rfl rfl (by rw [MFl]; decide) d_Mo_write_34 (fun H locs hP hD hS => ?_)
    rw [MFs (n := 30) (k := 11) (by decide)] at hP hD
    have hP : va_P (dC, dI) classes [(mo, .inr (13, MF 30 (va_up v 11 (.int (nI (k + 1)))))), (qo, .inl (cB, 16392, .inl (upd f k (vp_nar .byte (x.toInt8.toInt32)))))] H := hP
    have hD : va_D A [(mo, .inr (13, MF 30 (va_up v 11 (.int (nI (k + 1)))))), (qo, .inl (cB, 16392, .inl (upd f k (vp_nar .byte (x.toInt8.toInt32)))))] := hD
    exact W.vret hx hb hr (fun t ht hW => ⟨⟨(va_up v 11 (.int (nI (k + 1))), upd f k (vp_nar .byte (x.toInt8.toInt32))), rfl, Or.inl ⟨hk, rfl⟩, by rw [ht]; exact hP, va_K.moved hW.alike hK, hD⟩, hS.F ht⟩) hS.2.2 d_Mo_write_37
  · refine lv_aload_n hx hb d_Mo_write_10 rfl (lv_at hl 0 rfl) ?_
    refine lv_iconst (v := 1) hx hb d_Mo_write_11 (by decide) ?_
    refine va_put (D := (dC, dI)) (ci := 13) (v := .int 1) (ty := .boolean) (C := R_Mo) (T := F_Mo) (N := 30) hx hb hts in_Mo t_Mo t_Mo_ok n_Mo hown hK hP hD hS 0 rfl rfl 12 (by decide) (hts _ w_1101) (fun _ h9 => h9) rfl (by decide +kernel) rfl rfl (by rw [MFl]; decide) d_Mo_write_12 (fun H locs hP hD hS => ?_)
    rw [MFs (n := 30) (k := 12) (by decide)] at hP hD
    have hP : va_P (dC, dI) classes [(mo, .inr (13, MF 30 (va_up v 12 (.int 1)))), (qo, .inl (cB, 16392, .inl f))] H := hP
    have hD : va_D A [(mo, .inr (13, MF 30 (va_up v 12 (.int 1)))), (qo, .inl (cB, 16392, .inl f))] := hD
    exact W.vret hx hb hr (fun t ht hW => ⟨⟨(va_up v 12 (.int 1), f), rfl, Or.inr ⟨(fun h => c7 (by rw [show (16384 : Int32) = nI 16384 from rfl, nI_ltI (by omega) (by omega)]; exact h)), rfl⟩, by rw [ht]; exact hP, va_K.moved hW.alike hK, hD⟩, hS.F ht⟩) hS.2.2 d_Mo_write_15
abbrev b_Mo_shut : ByteArray := prog_14_method_38_code
def y_Mo_shut : MethodName := ⟨"QueryBenchModel", "shut", "(I)Z"⟩
abbrev k_Mo_shut : Cond := .code y_Mo_shut b_Mo_shut 2 (some .boolean)
theorem i_Mo_shut : k_Mo_shut ∈ gtbl := gt_in 1450 (by decide +kernel) (by decide +kernel)
theorem d_Mo_shut_0 : decode b_Mo_shut 0 = .ok (.aload_n 0, 1) := by decide +kernel
theorem d_Mo_shut_1 : decode b_Mo_shut 1 = .ok (.iload_n 1, 1) := by decide +kernel
theorem d_Mo_shut_2 : decode b_Mo_shut 2 = .ok (.invokevirtual 163, 3) := by decide +kernel
theorem d_Mo_shut_5 : decode b_Mo_shut 5 = .ok (.ifCond .ne 5, 3) := by decide +kernel
theorem d_Mo_shut_8 : decode b_Mo_shut 8 = .ok (.iconst 0, 1) := by decide +kernel
theorem d_Mo_shut_9 : decode b_Mo_shut 9 = .ok (.ireturn, 1) := by decide +kernel
theorem d_Mo_shut_10 : decode b_Mo_shut 10 = .ok (.aload_n 0, 1) := by decide +kernel
theorem d_Mo_shut_11 : decode b_Mo_shut 11 = .ok (.dup, 1) := by decide +kernel
theorem d_Mo_shut_12 : decode b_Mo_shut 12 = .ok (.getfield 266, 3) := by decide +kernel
theorem d_Mo_shut_15 : decode b_Mo_shut 15 = .ok (.iconst 1, 1) := by decide +kernel
theorem d_Mo_shut_16 : decode b_Mo_shut 16 = .ok (.isub, 1) := by decide +kernel
theorem d_Mo_shut_17 : decode b_Mo_shut 17 = .ok (.putfield 266, 3) := by decide +kernel
theorem d_Mo_shut_20 : decode b_Mo_shut 20 = .ok (.iconst 1, 1) := by decide +kernel
theorem d_Mo_shut_21 : decode b_Mo_shut 21 = .ok (.ireturn, 1) := by decide +kernel
set_option maxHeartbeats 4000000 in
set_option maxRecDepth 100000 in
/-- the reference: shut -/
theorem c_Mo_shut (l : Launch) (dC : Nat → ClassId) (dI : Nat → Nat → Nat) (mo : Nat) (sz : Heap) (v : Nat → Value) (cB : ClassId) (qx NN : Nat) (f : Nat → Int32) (n i : Nat) (hnN : n ≤ NN) (hNN : NN ≤ 1000000) (hi0 : i ≤ 1000000) (h6 : v 6 = .ref qx) (h7 : v 7 = .int (nI i)) (h8 : v 8 = .int (nI n)) (br : Int32) (h9 : v 9 = .int br) (ch : Int32) (o : Nat) (h23 : v 23 = .int (nI (o + 1))) : Met l y_Mo_shut (k_Mo_shut :: gtbl) ({ frames := 2, cells := 0, slots := 0, locals := 46 }) (va_Pc [.ref mo, .int ch] (mp dC dI [(mo, .inr (13, MF 30 v)), (qx, .inl (cB, NN, .inl f))] [(cB, .byte)] sz)) (va_Qi (fun (r : Int32) (u : Nat → Value) => (hereV f n i = ch ∧ r = 1 ∧ u = va_up (va_up v 7 (.int (nI (i + 1)))) 23 (.int (nI o))) ∨ (¬ hereV f n i = ch ∧ r = 0 ∧ u = mfail v br (nI i))) (fun u => mz dC dI [(mo, .inr (13, MF 30 u)), (qx, .inl (cB, NN, .inl f))] [(cB, .byte)] (va_A [(mo, .inr (13, MF 30 v)), (qx, .inl (cB, NN, .inl f))] sz.size)) (va_A [(mo, .inr (13, MF 30 v)), (qx, .inl (cB, NN, .inl f))] sz.size)) 0 0 (va_A [(mo, .inr (13, MF 30 v)), (qx, .inl (cB, NN, .inl f))] sz.size) := by
  refine Met.ofW (cc := b_Mo_shut) (maxL := 2) (ret := (some .boolean)) (by decide) rfl ?_
  intro p e s m args below meth c s₁ B hml hv
  obtain ⟨rfl, hsz, hP, hK, hD0⟩ := hv
  have hx := B.exec
  have hb := B.bytes
  have hr := B.returns
  have hts0 := atoms_spec (ws := k_Mo_shut :: gtbl) B.pre
  have hts := fun w h => hts0 w (List.mem_cons_of_mem _ h)
  have hown : s.vm.findClass R_Mo = some m.cls := findClass_of_methodNamed B.named
  have hlocks := B.notSynchronized
  subst hsz
  have hD := hD0.self (sz := s.heap.size)
  generalize hAe : va_A [(mo, .inr (13, MF 30 v)), (qx, .inl (cB, NN, .inl f))] s.heap.size = A at hD ⊢
  have hA : ∀ q : Nat, s.heap.size ≤ q → A q := fun q h => by rw [← hAe]; exact Or.inr h
  have hS : va_S A s.heap s.heap [] := va_S.rf
  have hP : va_P (dC, dI) classes [(mo, .inr (13, MF 30 v)), (qx, .inl (cB, NN, .inl f))] s.heap := hP
  have hl := lv_entry ([.ref mo, .int ch]) (n := 2) (Nat.le_of_ble_eq_true rfl)
  rw [lg_entry_eq]
  generalize (lg_sl ([.ref mo, .int ch]) ++ List.replicate (2 - (lg_sl ([.ref mo, .int ch])).length) Slot.unset).toArray = ls at hl ⊢
  have hl : lv_has ls 2 [(0, .ref mo), (1, .int ch)] := hl
  refine lv_aload_n hx hb d_Mo_shut_0 rfl (lv_at hl 0 rfl) ?_
  refine lv_iload_n hx hb d_Mo_shut_1 rfl (lv_at hl 1 rfl) ?_
  have hPc := hP.sub (ws' := [(mo, .inr (13, MF 30 v)), (qx, .inl (cB, NN, .inl f))]) [0, 1] rfl
  have hDc := hD.sub (ws' := [(mo, .inr (13, MF 30 v)), (qx, .inl (cB, NN, .inl f))]) [0, 1] (by decide) rfl
  have hKc := hK.sub (tys' := [(cB, .byte)]) [0] rfl
  have hFc := va_free (wc := [(mo, .inr (13, MF 30 v)), (qx, .inl (cB, NN, .inl f))]) hD hS hA [0, 1] rfl
  refine va_calli (va_runV (As := [.int ch]) (rest := []) ⟨hx, hb, hml, hown, hts⟩ (c_Mo_take l dC dI mo s.heap v cB qx NN f n i hnN hNN hi0 h6 h7 h8 br h9 ch) (cwV 1 hts (gt_V (own := R_Mo) (C := R_Mo) (i := 163) (y := y_Mo_take) i_Mo_take w_1246 w_1248 (gt_sel (y := y_Mo_take) (n := 30) (by decide +kernel)) w_7) rfl rfl rfl (by decide +kernel) ⟨Nat.le_of_ble_eq_true rfl, Nat.le_of_ble_eq_true rfl⟩) ⟨mp_blind, va_recv hKc hPc (ci := 13) (q0 := 0) rfl rfl, fun U hU hW => ⟨rfl, hU, by rw [hU]; exact hPc, va_K.moved hW.alike hKc, hDc.weaken (fun _ _ _ _ => trivial)⟩⟩ rfl rfl hl.1 rfl (lv_room (Nat.le_of_ble_eq_true rfl)) d_Mo_shut_2 ⟨Nat.le_of_ble_eq_true rfl, Nat.le_of_ble_eq_true rfl⟩) hS (fun q _ h => hFc q h) hFc (fun r u2 t H1 locs ht hvm hw hB hz1 hk1 hS => ?_)
  obtain ⟨hP1, hK1, hD1⟩ := hB
  rw [ht] at hP1
  obtain ⟨hP, hD⟩ := va_join (wr := []) (w1 := [(mo, .inr (13, MF 30 u2)), (qx, .inl (cB, NN, .inl f))]) hP hD [0, 1] [] rfl rfl (by decide) (by decide) hk1 hFc hP1 hD1
  generalize H1 = H at hP hS ⊢
  have hP : va_P (dC, dI) classes [(mo, .inr (13, MF 30 u2)), (qx, .inl (cB, NN, .inl f))] H := hP
  have hD : va_D A [(mo, .inr (13, MF 30 u2)), (qx, .inl (cB, NN, .inl f))] := hD
  rcases hw with ⟨hw1, hw2, hw3⟩ | ⟨hw1, hw2, hw3⟩
  · subst hw2
    subst hw3
    have hP : va_P (dC, dI) classes [(mo, .inr (13, MF 30 (va_up v 7 (.int (nI (i + 1)))))), (qx, .inl (cB, NN, .inl f))] H := hP
    have hD : va_D A [(mo, .inr (13, MF 30 (va_up v 7 (.int (nI (i + 1)))))), (qx, .inl (cB, NN, .inl f))] := hD
    refine lv_if_ne (tgt := 10) hx hb d_Mo_shut_5 (by decide) (fun _ => ?_) (fun h => absurd h (by decide))
    refine lv_aload_n hx hb d_Mo_shut_10 rfl (lv_at hl 0 rfl) ?_
    refine lv_dup hx hb d_Mo_shut_11 rfl ?_
    refine va_get (D := (dC, dI)) (ci := 13) (v := .int (nI (o + 1))) (C := R_Mo) (T := F_Mo) (N := 30) hx hb hts in_Mo hown hK hP 0 rfl rfl 23 (by decide) (hts _ w_1112) (fun _ h9 => h9) (MFg (by decide) ((va_up_ne _ _ (by decide)).trans (h23))) d_Mo_shut_12 ?_
    refine lv_iconst (v := 1) hx hb d_Mo_shut_15 (by decide) ?_
    refine lv_isub hx hb d_Mo_shut_16 ?_
    refine W.eq (g2 := F0 m 17 ls [.int (nI o), .ref mo]) (by rw [show ((nI (o + 1)) - 1) = (nI o) from nI_pred _]) ?_
    refine va_put (D := (dC, dI)) (ci := 13) (v := .int (nI o)) (ty := .int) (C := R_Mo) (T := F_Mo) (N := 30) hx hb hts in_Mo t_Mo t_Mo_ok n_Mo hown hK hP hD hS 0 rfl rfl 23 (by decide) (hts _ w_1112) (fun _ h9 => h9) rfl (by decide +kernel) rfl rfl (by rw [MFl]; decide) d_Mo_shut_17 (fun H locs hP hD hS => ?_)
    rw [MFs (n := 30) (k := 23) (by decide)] at hP hD
    have hP : va_P (dC, dI) classes [(mo, .inr (13, MF 30 (va_up (va_up v 7 (.int (nI (i + 1)))) 23 (.int (nI o))))), (qx, .inl (cB, NN, .inl f))] H := hP
    have hD : va_D A [(mo, .inr (13, MF 30 (va_up (va_up v 7 (.int (nI (i + 1)))) 23 (.int (nI o))))), (qx, .inl (cB, NN, .inl f))] := hD
    refine lv_iconst (v := 1) hx hb d_Mo_shut_20 (by decide) ?_
    exact W.zret (v := 1) hx hb hr rfl (fun t ht hW => ⟨⟨1, va_up (va_up v 7 (.int (nI (i + 1)))) 23 (.int (nI o)), rfl, Or.inl ⟨hw1, rfl, rfl⟩, by rw [ht]; exact hP, va_K.moved hW.alike hK, hD⟩, hS.F ht⟩) hS.2.2 d_Mo_shut_21
  · subst hw2
    subst hw3
    have hP : va_P (dC, dI) classes [(mo, .inr (13, MF 30 (mfail v br (nI i)))), (qx, .inl (cB, NN, .inl f))] H := hP
    have hD : va_D A [(mo, .inr (13, MF 30 (mfail v br (nI i)))), (qx, .inl (cB, NN, .inl f))] := hD
    refine lv_if_ne (tgt := 10) hx hb d_Mo_shut_5 (by decide) (fun h => absurd h (by decide)) (fun _ => ?_)
    refine lv_iconst (v := 0) hx hb d_Mo_shut_8 (by decide) ?_
    exact W.zret (v := 0) hx hb hr rfl (fun t ht hW => ⟨⟨0, mfail v br (nI i), rfl, Or.inr ⟨hw1, rfl, rfl⟩, by rw [ht]; exact hP, va_K.moved hW.alike hK, hD⟩, hS.F ht⟩) hS.2.2 d_Mo_shut_9
