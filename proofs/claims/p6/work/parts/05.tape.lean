theorem w_43 : (.fieldLink "QueryBench$Tape" 9 "QueryBench$Tape" "bytes" "[B" : Cond) ∈ gtbl := gt_in 43 (by decide +kernel) (by decide +kernel)
theorem w_48 : (.fieldLink "QueryBench$Tape" 23 "QueryBench$Tape" "length" "I" : Cond) ∈ gtbl := gt_in 48 (by decide +kernel) (by decide +kernel)
theorem w_51 : (.fieldLink "QueryBench$Tape" 26 "QueryBench$Tape" "end" "I" : Cond) ∈ gtbl := gt_in 51 (by decide +kernel) (by decide +kernel)
theorem w_54 : (.fieldLink "QueryBench$Tape" 29 "QueryBench$Tape" "at" "I" : Cond) ∈ gtbl := gt_in 54 (by decide +kernel) (by decide +kernel)
theorem w_55 : (.fieldLink "QueryBench$Tape" 19 "QueryBench$Tape" "place" "I" : Cond) ∈ gtbl := gt_in 55 (by decide +kernel) (by decide +kernel)
/-- the byte at the place, or -1 -/
def hereV (f : Nat → Int32) (n i : Nat) : Int32 := if i < n then f i &&& 255 else -1
abbrev b_Tape_here : ByteArray := prog_10_method_4_code
def y_Tape_here : MethodName := ⟨"QueryBench$Tape", "here", "()I"⟩
abbrev k_Tape_here : Cond := .code y_Tape_here b_Tape_here 1 (some .int)
theorem i_Tape_here : k_Tape_here ∈ gtbl := gt_in 365 (by decide +kernel) (by decide +kernel)
theorem d_Tape_here_0 : decode b_Tape_here 0 = .ok (.aload_n 0, 1) := by decide +kernel
theorem d_Tape_here_1 : decode b_Tape_here 1 = .ok (.getfield 29, 3) := by decide +kernel
theorem d_Tape_here_4 : decode b_Tape_here 4 = .ok (.aload_n 0, 1) := by decide +kernel
theorem d_Tape_here_5 : decode b_Tape_here 5 = .ok (.getfield 26, 3) := by decide +kernel
theorem d_Tape_here_8 : decode b_Tape_here 8 = .ok (.if_icmp .ge 19, 3) := by decide +kernel
theorem d_Tape_here_11 : decode b_Tape_here 11 = .ok (.aload_n 0, 1) := by decide +kernel
theorem d_Tape_here_12 : decode b_Tape_here 12 = .ok (.getfield 9, 3) := by decide +kernel
theorem d_Tape_here_15 : decode b_Tape_here 15 = .ok (.aload_n 0, 1) := by decide +kernel
theorem d_Tape_here_16 : decode b_Tape_here 16 = .ok (.getfield 29, 3) := by decide +kernel
theorem d_Tape_here_19 : decode b_Tape_here 19 = .ok (.baload, 1) := by decide +kernel
theorem d_Tape_here_20 : decode b_Tape_here 20 = .ok (.sipush 255, 3) := by decide +kernel
theorem d_Tape_here_23 : decode b_Tape_here 23 = .ok (.iand, 1) := by decide +kernel
theorem d_Tape_here_24 : decode b_Tape_here 24 = .ok (.goto 4, 3) := by decide +kernel
theorem d_Tape_here_27 : decode b_Tape_here 27 = .ok (.iconst (-1), 1) := by decide +kernel
theorem d_Tape_here_28 : decode b_Tape_here 28 = .ok (.ireturn, 1) := by decide +kernel
set_option maxHeartbeats 4000000 in
set_option maxRecDepth 100000 in
/-- Tape.here() -/
theorem c_Tape_here (l : Launch) (dC : Nat → ClassId) (dI : Nat → Nat → Nat) (cB : ClassId) (h0 qb : Nat) (sz : Heap) (ru : Value) (uc ln pl : Int32) (f : Nat → Int32) (n i : Nat) (hn0 : n ≤ 4096) (hi0 : i ≤ 1000000) : Met l y_Tape_here (k_Tape_here :: gtbl) ({ frames := 0, cells := 0, slots := 0, locals := 0 }) (va_Pc [.ref h0] (mp dC dI [(h0, .inr (8, [.ref qb, ru, .int uc, .int ln, .int (nI n), .int (nI i), .int pl])), (qb, .inl (cB, 4096, .inl f))] [(cB, .byte)] sz)) (va_Qi (fun (r : Int32) (_ : Unit) => r = hereV f n i) (fun _ => mz dC dI [(h0, .inr (8, [.ref qb, ru, .int uc, .int ln, .int (nI n), .int (nI i), .int pl])), (qb, .inl (cB, 4096, .inl f))] [(cB, .byte)] (va_A [(h0, .inr (8, [.ref qb, ru, .int uc, .int ln, .int (nI n), .int (nI i), .int pl])), (qb, .inl (cB, 4096, .inl f))] sz.size)) (va_A [(h0, .inr (8, [.ref qb, ru, .int uc, .int ln, .int (nI n), .int (nI i), .int pl])), (qb, .inl (cB, 4096, .inl f))] sz.size)) 0 0 (va_A [(h0, .inr (8, [.ref qb, ru, .int uc, .int ln, .int (nI n), .int (nI i), .int pl])), (qb, .inl (cB, 4096, .inl f))] sz.size) := by
  refine Met.ofW (cc := b_Tape_here) (maxL := 1) (ret := (some .int)) (by decide) rfl ?_
  intro p e s m args below meth c s₁ B hml hv
  obtain ⟨rfl, hsz, hP, hK, hD0⟩ := hv
  have hx := B.exec
  have hb := B.bytes
  have hr := B.returns
  have hts0 := atoms_spec (ws := k_Tape_here :: gtbl) B.pre
  have hts := fun w h => hts0 w (List.mem_cons_of_mem _ h)
  have hown : s.vm.findClass R_Tape = some m.cls := findClass_of_methodNamed B.named
  have hlocks := B.notSynchronized
  subst hsz
  have hD := hD0.self (sz := s.heap.size)
  generalize hAe : va_A [(h0, .inr (8, [.ref qb, ru, .int uc, .int ln, .int (nI n), .int (nI i), .int pl])), (qb, .inl (cB, 4096, .inl f))] s.heap.size = A at hD ⊢
  have hA : ∀ q : Nat, s.heap.size ≤ q → A q := fun q h => by rw [← hAe]; exact Or.inr h
  have hS : va_S A s.heap s.heap [] := va_S.rf
  have hP : va_P (dC, dI) classes [(h0, .inr (8, [.ref qb, ru, .int uc, .int ln, .int (nI n), .int (nI i), .int pl])), (qb, .inl (cB, 4096, .inl f))] s.heap := hP
  have hl := lv_entry ([.ref h0]) (n := 1) (Nat.le_of_ble_eq_true rfl)
  rw [lg_entry_eq]
  generalize (lg_sl ([.ref h0]) ++ List.replicate (1 - (lg_sl ([.ref h0])).length) Slot.unset).toArray = ls at hl ⊢
  have hl : lv_has ls 1 [(0, .ref h0)] := hl
  refine lv_aload_n hx hb d_Tape_here_0 rfl (lv_at hl 0 rfl) ?_
  refine va_get (D := (dC, dI)) (ci := 8) (v := .int (nI i)) (C := R_Tape) (T := F_Tape) (N := 7) hx hb hts in_Tape hown hK hP 0 rfl rfl 5 (by decide) (hts _ w_54) (fun _ h9 => h9) rfl d_Tape_here_1 ?_
  refine lv_aload_n hx hb d_Tape_here_4 rfl (lv_at hl 0 rfl) ?_
  refine va_get (D := (dC, dI)) (ci := 8) (v := .int (nI n)) (C := R_Tape) (T := F_Tape) (N := 7) hx hb hts in_Tape hown hK hP 0 rfl rfl 4 (by decide) (hts _ w_51) (fun _ h9 => h9) rfl d_Tape_here_5 ?_
  refine lv_icmp_ge (tgt := 27) hx hb d_Tape_here_8 (by decide) (fun c1 => ?_) (fun c1 => ?_)
  · refine lv_iconst (v := (-1)) hx hb d_Tape_here_27 (by decide) ?_
    have hn : ¬ i < n := fun h => absurd c1 (by rw [nI_leI (by omega) (by omega)]; omega)
    exact W.iret (v := (-1)) hx hb hr (fun t ht hW => ⟨⟨(-1), (), rfl, by unfold hereV; rw [if_neg hn], by rw [ht]; exact hP, va_K.moved hW.alike hK, hD⟩, hS.F ht⟩) hS.2.2 d_Tape_here_28
  · refine lv_aload_n hx hb d_Tape_here_11 rfl (lv_at hl 0 rfl) ?_
    refine va_get (D := (dC, dI)) (ci := 8) (v := .ref qb) (C := R_Tape) (T := F_Tape) (N := 7) hx hb hts in_Tape hown hK hP 0 rfl rfl 0 (by decide) (hts _ w_43) (fun _ h9 => h9) rfl d_Tape_here_12 ?_
    refine lv_aload_n hx hb d_Tape_here_15 rfl (lv_at hl 0 rfl) ?_
    refine va_get (D := (dC, dI)) (ci := 8) (v := .int (nI i)) (C := R_Tape) (T := F_Tape) (N := 7) hx hb hts in_Tape hown hK hP 0 rfl rfl 5 (by decide) (hts _ w_54) (fun _ h9 => h9) rfl d_Tape_here_16 ?_
    have hn : i < n := by rw [nI_leI (by omega) (by omega)] at c1; omega
    refine va_bald hx hb hK hP 1 0 rfl rfl (vp_in_nI (show i < 4096 by omega) (by decide)) d_Tape_here_19 ?_
    refine lv_sipush (v := 255) hx hb d_Tape_here_20 (by decide) ?_
    refine lv_iand hx hb d_Tape_here_23 ?_
    refine lv_topi (fun x1 e1 => ?_)
    refine lv_goto (tgt := 28) hx hb d_Tape_here_24 (by decide) ?_
    exact W.iret (v := x1) hx hb hr (fun t ht hW => ⟨⟨x1, (), rfl, by unfold hereV; rw [if_pos hn, e1, nI_clamp (by omega)], by rw [ht]; exact hP, va_K.moved hW.alike hK, hD⟩, hS.F ht⟩) hS.2.2 d_Tape_here_28
abbrev b_Tape_beginReading : ByteArray := prog_10_method_3_code
def y_Tape_beginReading : MethodName := ⟨"QueryBench$Tape", "beginReading", "()V"⟩
abbrev k_Tape_beginReading : Cond := .code y_Tape_beginReading b_Tape_beginReading 1 none
theorem i_Tape_beginReading : k_Tape_beginReading ∈ gtbl := gt_in 289 (by decide +kernel) (by decide +kernel)
theorem d_Tape_beginReading_0 : decode b_Tape_beginReading 0 = .ok (.aload_n 0, 1) := by decide +kernel
theorem d_Tape_beginReading_1 : decode b_Tape_beginReading 1 = .ok (.aload_n 0, 1) := by decide +kernel
theorem d_Tape_beginReading_2 : decode b_Tape_beginReading 2 = .ok (.getfield 23, 3) := by decide +kernel
theorem d_Tape_beginReading_5 : decode b_Tape_beginReading 5 = .ok (.putfield 26, 3) := by decide +kernel
theorem d_Tape_beginReading_8 : decode b_Tape_beginReading 8 = .ok (.aload_n 0, 1) := by decide +kernel
theorem d_Tape_beginReading_9 : decode b_Tape_beginReading 9 = .ok (.iconst 0, 1) := by decide +kernel
theorem d_Tape_beginReading_10 : decode b_Tape_beginReading 10 = .ok (.putfield 23, 3) := by decide +kernel
theorem d_Tape_beginReading_13 : decode b_Tape_beginReading 13 = .ok (.aload_n 0, 1) := by decide +kernel
theorem d_Tape_beginReading_14 : decode b_Tape_beginReading 14 = .ok (.iconst 0, 1) := by decide +kernel
theorem d_Tape_beginReading_15 : decode b_Tape_beginReading 15 = .ok (.putfield 29, 3) := by decide +kernel
theorem d_Tape_beginReading_18 : decode b_Tape_beginReading 18 = .ok (.aload_n 0, 1) := by decide +kernel
theorem d_Tape_beginReading_19 : decode b_Tape_beginReading 19 = .ok (.iconst (-1), 1) := by decide +kernel
theorem d_Tape_beginReading_20 : decode b_Tape_beginReading 20 = .ok (.putfield 19, 3) := by decide +kernel
theorem d_Tape_beginReading_23 : decode b_Tape_beginReading 23 = .ok (.return_, 1) := by decide +kernel
set_option maxHeartbeats 4000000 in
set_option maxRecDepth 100000 in
/-- Tape.beginReading() -/
theorem c_Tape_beginReading (l : Launch) (dC : Nat → ClassId) (dI : Nat → Nat → Nat) (cB : ClassId) (h0 qb : Nat) (sz : Heap) (ru : Value) (uc ln en at_ pl : Int32) (f : Nat → Int32) : Met l y_Tape_beginReading (k_Tape_beginReading :: gtbl) ({ frames := 0, cells := 0, slots := 0, locals := 0 }) (va_Pc [.ref h0] (mp dC dI [(h0, .inr (8, [.ref qb, ru, .int uc, .int ln, .int en, .int at_, .int pl])), (qb, .inl (cB, 4096, .inl f))] [(cB, .byte)] sz)) (va_Qv (fun (_ : Unit) => True) (fun _ => mz dC dI [(h0, .inr (8, [.ref qb, ru, .int uc, .int 0, .int ln, .int 0, .int (-1)])), (qb, .inl (cB, 4096, .inl f))] [(cB, .byte)] (va_A [(h0, .inr (8, [.ref qb, ru, .int uc, .int ln, .int en, .int at_, .int pl])), (qb, .inl (cB, 4096, .inl f))] sz.size)) (va_A [(h0, .inr (8, [.ref qb, ru, .int uc, .int ln, .int en, .int at_, .int pl])), (qb, .inl (cB, 4096, .inl f))] sz.size)) 0 0 (va_A [(h0, .inr (8, [.ref qb, ru, .int uc, .int ln, .int en, .int at_, .int pl])), (qb, .inl (cB, 4096, .inl f))] sz.size) := by
  refine Met.ofW (cc := b_Tape_beginReading) (maxL := 1) (ret := none) (by decide) rfl ?_
  intro p e s m args below meth c s₁ B hml hv
  obtain ⟨rfl, hsz, hP, hK, hD0⟩ := hv
  have hx := B.exec
  have hb := B.bytes
  have hr := B.returns
  have hts0 := atoms_spec (ws := k_Tape_beginReading :: gtbl) B.pre
  have hts := fun w h => hts0 w (List.mem_cons_of_mem _ h)
  have hown : s.vm.findClass R_Tape = some m.cls := findClass_of_methodNamed B.named
  have hlocks := B.notSynchronized
  subst hsz
  have hD := hD0.self (sz := s.heap.size)
  generalize hAe : va_A [(h0, .inr (8, [.ref qb, ru, .int uc, .int ln, .int en, .int at_, .int pl])), (qb, .inl (cB, 4096, .inl f))] s.heap.size = A at hD ⊢
  have hA : ∀ q : Nat, s.heap.size ≤ q → A q := fun q h => by rw [← hAe]; exact Or.inr h
  have hS : va_S A s.heap s.heap [] := va_S.rf
  have hP : va_P (dC, dI) classes [(h0, .inr (8, [.ref qb, ru, .int uc, .int ln, .int en, .int at_, .int pl])), (qb, .inl (cB, 4096, .inl f))] s.heap := hP
  have hl := lv_entry ([.ref h0]) (n := 1) (Nat.le_of_ble_eq_true rfl)
  rw [lg_entry_eq]
  generalize (lg_sl ([.ref h0]) ++ List.replicate (1 - (lg_sl ([.ref h0])).length) Slot.unset).toArray = ls at hl ⊢
  have hl : lv_has ls 1 [(0, .ref h0)] := hl
  refine lv_aload_n hx hb d_Tape_beginReading_0 rfl (lv_at hl 0 rfl) ?_
  refine lv_aload_n hx hb d_Tape_beginReading_1 rfl (lv_at hl 0 rfl) ?_
  refine va_get (D := (dC, dI)) (ci := 8) (v := .int ln) (C := R_Tape) (T := F_Tape) (N := 7) hx hb hts in_Tape hown hK hP 0 rfl rfl 3 (by decide) (hts _ w_48) (fun _ h9 => h9) rfl d_Tape_beginReading_2 ?_
  refine va_put (D := (dC, dI)) (ci := 8) (v := .int ln) (ty := .int) (C := R_Tape) (T := F_Tape) (N := 7) hx hb hts in_Tape t_Tape t_Tape_ok n_Tape hown hK hP hD hS 0 rfl rfl 4 (by decide) (hts _ w_51) (fun _ h9 => h9) rfl (by decide +kernel) rfl rfl (Nat.le_of_ble_eq_true rfl) d_Tape_beginReading_5 (fun H locs hP hD hS => ?_)
  have hP : va_P (dC, dI) classes [(h0, .inr (8, [.ref qb, ru, .int uc, .int ln, .int ln, .int at_, .int pl])), (qb, .inl (cB, 4096, .inl f))] H := hP
  have hD : va_D A [(h0, .inr (8, [.ref qb, ru, .int uc, .int ln, .int ln, .int at_, .int pl])), (qb, .inl (cB, 4096, .inl f))] := hD
  refine lv_aload_n hx hb d_Tape_beginReading_8 rfl (lv_at hl 0 rfl) ?_
  refine lv_iconst (v := 0) hx hb d_Tape_beginReading_9 (by decide) ?_
  refine va_put (D := (dC, dI)) (ci := 8) (v := .int 0) (ty := .int) (C := R_Tape) (T := F_Tape) (N := 7) hx hb hts in_Tape t_Tape t_Tape_ok n_Tape hown hK hP hD hS 0 rfl rfl 3 (by decide) (hts _ w_48) (fun _ h9 => h9) rfl (by decide +kernel) rfl rfl (Nat.le_of_ble_eq_true rfl) d_Tape_beginReading_10 (fun H locs hP hD hS => ?_)
  have hP : va_P (dC, dI) classes [(h0, .inr (8, [.ref qb, ru, .int uc, .int 0, .int ln, .int at_, .int pl])), (qb, .inl (cB, 4096, .inl f))] H := hP
  have hD : va_D A [(h0, .inr (8, [.ref qb, ru, .int uc, .int 0, .int ln, .int at_, .int pl])), (qb, .inl (cB, 4096, .inl f))] := hD
  refine lv_aload_n hx hb d_Tape_beginReading_13 rfl (lv_at hl 0 rfl) ?_
  refine lv_iconst (v := 0) hx hb d_Tape_beginReading_14 (by decide) ?_
  refine va_put (D := (dC, dI)) (ci := 8) (v := .int 0) (ty := .int) (C := R_Tape) (T := F_Tape) (N := 7) hx hb hts in_Tape t_Tape t_Tape_ok n_Tape hown hK hP hD hS 0 rfl rfl 5 (by decide) (hts _ w_54) (fun _ h9 => h9) rfl (by decide +kernel) rfl rfl (Nat.le_of_ble_eq_true rfl) d_Tape_beginReading_15 (fun H locs hP hD hS => ?_)
  have hP : va_P (dC, dI) classes [(h0, .inr (8, [.ref qb, ru, .int uc, .int 0, .int ln, .int 0, .int pl])), (qb, .inl (cB, 4096, .inl f))] H := hP
  have hD : va_D A [(h0, .inr (8, [.ref qb, ru, .int uc, .int 0, .int ln, .int 0, .int pl])), (qb, .inl (cB, 4096, .inl f))] := hD
  refine lv_aload_n hx hb d_Tape_beginReading_18 rfl (lv_at hl 0 rfl) ?_
  refine lv_iconst (v := (-1)) hx hb d_Tape_beginReading_19 (by decide) ?_
  refine va_put (D := (dC, dI)) (ci := 8) (v := .int (-1)) (ty := .int) (C := R_Tape) (T := F_Tape) (N := 7) hx hb hts in_Tape t_Tape t_Tape_ok n_Tape hown hK hP hD hS 0 rfl rfl 6 (by decide) (hts _ w_55) (fun _ h9 => h9) rfl (by decide +kernel) rfl rfl (Nat.le_of_ble_eq_true rfl) d_Tape_beginReading_20 (fun H locs hP hD hS => ?_)
  have hP : va_P (dC, dI) classes [(h0, .inr (8, [.ref qb, ru, .int uc, .int 0, .int ln, .int 0, .int (-1)])), (qb, .inl (cB, 4096, .inl f))] H := hP
  have hD : va_D A [(h0, .inr (8, [.ref qb, ru, .int uc, .int 0, .int ln, .int 0, .int (-1)])), (qb, .inl (cB, 4096, .inl f))] := hD
  exact W.vret hx hb hr (fun t ht hW => ⟨⟨(), rfl, trivial, by rw [ht]; exact hP, va_K.moved hW.alike hK, hD⟩, hS.F ht⟩) hS.2.2 d_Tape_beginReading_23
