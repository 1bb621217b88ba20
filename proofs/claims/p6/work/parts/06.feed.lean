theorem w_2 : (.initialized "QueryBench$Tape" : Cond) ∈ gtbl := gt_in 2 (by decide +kernel) (by decide +kernel)
theorem w_12 : (.initialized "java/lang/IndexOutOfBoundsException" : Cond) ∈ gtbl := gt_in 12 (by decide +kernel) (by decide +kernel)
theorem w_47 : (.fieldLink "QueryBench" 55 "QueryBench$Tape" "length" "I" : Cond) ∈ gtbl := gt_in 47 (by decide +kernel) (by decide +kernel)
theorem w_151 : (.fieldLink "QueryBench" 10 "QueryBench" "tape" "LQueryBench$Tape;" : Cond) ∈ gtbl := gt_in 151 (by decide +kernel) (by decide +kernel)
theorem w_184 : (.classLink "QueryBench" 59 "java/lang/IndexOutOfBoundsException" : Cond) ∈ gtbl := gt_in 184 (by decide +kernel) (by decide +kernel)
theorem w_248 : (.methodLink "QueryBench" 62 ⟨"QueryBench$Tape", "put", "(I)V"⟩ : Cond) ∈ gtbl := gt_in 248 (by decide +kernel) (by decide +kernel)
theorem w_249 : (.instanceMethod ⟨"QueryBench$Tape", "put", "(I)V"⟩ : Cond) ∈ gtbl := gt_in 249 (by decide +kernel) (by decide +kernel)
theorem w_250 : (.selects "QueryBench$Tape" ⟨"QueryBench$Tape", "put", "(I)V"⟩ ⟨"QueryBench$Tape", "put", "(I)V"⟩ : Cond) ∈ gtbl := gt_in 250 (by decide +kernel) (by decide +kernel)
def putB (x : Int32) (k : Int32) : Int32 := vp_nar .byte ((x >>> (k &&& 31)).toInt8.toInt32)
/-- the four bytes of x, from n on -/
def put4 (f : Nat → Int32) (n : Nat) (x : Int32) : Nat → Int32 := upd (upd (upd (upd f n (putB x 24)) (n + 1) (putB x 16)) (n + 1 + 1) (putB x 8)) (n + 1 + 1 + 1) (putB x 0)
abbrev b_Tape_put : ByteArray := prog_10_method_2_code
def y_Tape_put : MethodName := ⟨"QueryBench$Tape", "put", "(I)V"⟩
abbrev k_Tape_put : Cond := .code y_Tape_put b_Tape_put 3 none
theorem i_Tape_put : k_Tape_put ∈ gtbl := gt_in 251 (by decide +kernel) (by decide +kernel)
theorem d_Tape_put_0 : decode b_Tape_put 0 = .ok (.bipush 24, 2) := by decide +kernel
theorem d_Tape_put_2 : decode b_Tape_put 2 = .ok (.istore_n 2, 1) := by decide +kernel
theorem d_Tape_put_3 : decode b_Tape_put 3 = .ok (.iload_n 2, 1) := by decide +kernel
theorem d_Tape_put_4 : decode b_Tape_put 4 = .ok (.ifCond .lt 42, 3) := by decide +kernel
theorem d_Tape_put_7 : decode b_Tape_put 7 = .ok (.aload_n 0, 1) := by decide +kernel
theorem d_Tape_put_8 : decode b_Tape_put 8 = .ok (.getfield 23, 3) := by decide +kernel
theorem d_Tape_put_11 : decode b_Tape_put 11 = .ok (.sipush 4096, 3) := by decide +kernel
theorem d_Tape_put_14 : decode b_Tape_put 14 = .ok (.if_icmp .ge 32, 3) := by decide +kernel
theorem d_Tape_put_17 : decode b_Tape_put 17 = .ok (.aload_n 0, 1) := by decide +kernel
theorem d_Tape_put_18 : decode b_Tape_put 18 = .ok (.getfield 9, 3) := by decide +kernel
theorem d_Tape_put_21 : decode b_Tape_put 21 = .ok (.aload_n 0, 1) := by decide +kernel
theorem d_Tape_put_22 : decode b_Tape_put 22 = .ok (.getfield 23, 3) := by decide +kernel
theorem d_Tape_put_25 : decode b_Tape_put 25 = .ok (.iload_n 1, 1) := by decide +kernel
theorem d_Tape_put_26 : decode b_Tape_put 26 = .ok (.iload_n 2, 1) := by decide +kernel
theorem d_Tape_put_27 : decode b_Tape_put 27 = .ok (.ishr, 1) := by decide +kernel
theorem d_Tape_put_28 : decode b_Tape_put 28 = .ok (.i2b, 1) := by decide +kernel
theorem d_Tape_put_29 : decode b_Tape_put 29 = .ok (.bastore, 1) := by decide +kernel
theorem d_Tape_put_30 : decode b_Tape_put 30 = .ok (.aload_n 0, 1) := by decide +kernel
theorem d_Tape_put_31 : decode b_Tape_put 31 = .ok (.dup, 1) := by decide +kernel
theorem d_Tape_put_32 : decode b_Tape_put 32 = .ok (.getfield 23, 3) := by decide +kernel
theorem d_Tape_put_35 : decode b_Tape_put 35 = .ok (.iconst 1, 1) := by decide +kernel
theorem d_Tape_put_36 : decode b_Tape_put 36 = .ok (.iadd, 1) := by decide +kernel
theorem d_Tape_put_37 : decode b_Tape_put 37 = .ok (.putfield 23, 3) := by decide +kernel
theorem d_Tape_put_40 : decode b_Tape_put 40 = .ok (.iinc 2 (-8), 3) := by decide +kernel
theorem d_Tape_put_43 : decode b_Tape_put 43 = .ok (.goto (-40), 3) := by decide +kernel
theorem d_Tape_put_46 : decode b_Tape_put 46 = .ok (.return_, 1) := by decide +kernel
set_option maxHeartbeats 4000000 in
set_option maxRecDepth 100000 in
/-- Tape.put(x), where there is room -/
theorem c_Tape_put (l : Launch) (dC : Nat → ClassId) (dI : Nat → Nat → Nat) (cB : ClassId) (h0 qb : Nat) (sz : Heap) (ru : Value) (uc en at_ pl : Int32) (f : Nat → Int32) (n : Nat) (x : Int32) (hn0 : n + 4 ≤ 4096) : Met l y_Tape_put (k_Tape_put :: gtbl) ({ frames := 0, cells := 0, slots := 0, locals := 0 }) (va_Pc [.ref h0, .int x] (mp dC dI [(h0, .inr (8, [.ref qb, ru, .int uc, .int (nI n), .int en, .int at_, .int pl])), (qb, .inl (cB, 4096, .inl f))] [(cB, .byte)] sz)) (va_Qv (fun (_ : Unit) => True) (fun _ => mz dC dI [(h0, .inr (8, [.ref qb, ru, .int uc, .int (nI (n + 1 + 1 + 1 + 1)), .int en, .int at_, .int pl])), (qb, .inl (cB, 4096, .inl (put4 f n x)))] [(cB, .byte)] (va_A [(h0, .inr (8, [.ref qb, ru, .int uc, .int (nI n), .int en, .int at_, .int pl])), (qb, .inl (cB, 4096, .inl f))] sz.size)) (va_A [(h0, .inr (8, [.ref qb, ru, .int uc, .int (nI n), .int en, .int at_, .int pl])), (qb, .inl (cB, 4096, .inl f))] sz.size)) 0 0 (va_A [(h0, .inr (8, [.ref qb, ru, .int uc, .int (nI n), .int en, .int at_, .int pl])), (qb, .inl (cB, 4096, .inl f))] sz.size) := by
  refine Met.ofW (cc := b_Tape_put) (maxL := 3) (ret := none) (by decide) rfl ?_
  intro p e s m args below meth c s₁ B hml hv
  obtain ⟨rfl, hsz, hP, hK, hD0⟩ := hv
  have hx := B.exec
  have hb := B.bytes
  have hr := B.returns
  have hts0 := atoms_spec (ws := k_Tape_put :: gtbl) B.pre
  have hts := fun w h => hts0 w (List.mem_cons_of_mem _ h)
  have hown : s.vm.findClass R_Tape = some m.cls := findClass_of_methodNamed B.named
  have hlocks := B.notSynchronized
  subst hsz
  have hD := hD0.self (sz := s.heap.size)
  generalize hAe : va_A [(h0, .inr (8, [.ref qb, ru, .int uc, .int (nI n), .int en, .int at_, .int pl])), (qb, .inl (cB, 4096, .inl f))] s.heap.size = A at hD ⊢
  have hA : ∀ q : Nat, s.heap.size ≤ q → A q := fun q h => by rw [← hAe]; exact Or.inr h
  have hS : va_S A s.heap s.heap [] := va_S.rf
  have hP : va_P (dC, dI) classes [(h0, .inr (8, [.ref qb, ru, .int uc, .int (nI n), .int en, .int at_, .int pl])), (qb, .inl (cB, 4096, .inl f))] s.heap := hP
  have hl := lv_entry ([.ref h0, .int x]) (n := 3) (Nat.le_of_ble_eq_true rfl)
  rw [lg_entry_eq]
  generalize (lg_sl ([.ref h0, .int x]) ++ List.replicate (3 - (lg_sl ([.ref h0, .int x])).length) Slot.unset).toArray = ls at hl ⊢
  have hl : lv_has ls 3 [(0, .ref h0), (1, .int x)] := hl
  refine lv_bipush (v := 24) hx hb d_Tape_put_0 (by decide) ?_
  refine lv_istore_n (lv' := [(2, .int 24), (0, .ref h0), (1, .int x)]) hx hb d_Tape_put_2 rfl hl (by decide) rfl (fun ls hl => ?_)
  refine lv_iload_n hx hb d_Tape_put_3 rfl (lv_at hl 0 rfl) ?_
  refine lv_if_lt (tgt := 46) hx hb d_Tape_put_4 (by decide) (fun h => absurd h (by decide)) (fun _ => ?_)
  refine lv_aload_n hx hb d_Tape_put_7 rfl (lv_at hl 1 rfl) ?_
  refine va_get (D := (dC, dI)) (ci := 8) (v := .int (nI n)) (C := R_Tape) (T := F_Tape) (N := 7) hx hb hts in_Tape hown hK hP 0 rfl rfl 3 (by decide) (hts _ w_48) (fun _ h9 => h9) rfl d_Tape_put_8 ?_
  refine lv_sipush (v := 4096) hx hb d_Tape_put_11 (by decide) ?_
  refine lv_icmp_ge (tgt := 46) hx hb d_Tape_put_14 (by decide) (fun h => absurd h (by rw [show (4096 : Int32) = nI 4096 from rfl, nI_leI (by omega) (by omega)]; omega)) (fun _ => ?_)
  refine lv_aload_n hx hb d_Tape_put_17 rfl (lv_at hl 1 rfl) ?_
  refine va_get (D := (dC, dI)) (ci := 8) (v := .ref qb) (C := R_Tape) (T := F_Tape) (N := 7) hx hb hts in_Tape hown hK hP 0 rfl rfl 0 (by decide) (hts _ w_43) (fun _ h9 => h9) rfl d_Tape_put_18 ?_
  refine lv_aload_n hx hb d_Tape_put_21 rfl (lv_at hl 1 rfl) ?_
  refine va_get (D := (dC, dI)) (ci := 8) (v := .int (nI n)) (C := R_Tape) (T := F_Tape) (N := 7) hx hb hts in_Tape hown hK hP 0 rfl rfl 3 (by decide) (hts _ w_48) (fun _ h9 => h9) rfl d_Tape_put_22 ?_
  refine lv_iload_n hx hb d_Tape_put_25 rfl (lv_at hl 2 rfl) ?_
  refine lv_iload_n hx hb d_Tape_put_26 rfl (lv_at hl 0 rfl) ?_
  refine lv_ishr hx hb d_Tape_put_27 ?_
  refine lv_i2b (v := (x >>> (24 &&& 31)).toInt8.toInt32) hx hb d_Tape_put_28 rfl ?_
  refine va_bast hx hb hK hP hD hS 1 0 rfl rfl (vp_in_nI (show n < 4096 by omega) (by decide)) d_Tape_put_29 (fun H locs hP hD hS => ?_)
  rw [show ((nI n)).toNatClampNeg = n from nI_clamp (by omega)] at hP hD
  have hP : va_P (dC, dI) classes [(h0, .inr (8, [.ref qb, ru, .int uc, .int (nI n), .int en, .int at_, .int pl])), (qb, .inl (cB, 4096, .inl (upd f n (vp_nar .byte (((x >>> (24 &&& 31)).toInt8.toInt32))))))] H := hP
  have hD : va_D A [(h0, .inr (8, [.ref qb, ru, .int uc, .int (nI n), .int en, .int at_, .int pl])), (qb, .inl (cB, 4096, .inl (upd f n (vp_nar .byte (((x >>> (24 &&& 31)).toInt8.toInt32))))))] := hD
  refine lv_aload_n hx hb d_Tape_put_30 rfl (lv_at hl 1 rfl) ?_
  refine lv_dup hx hb d_Tape_put_31 rfl ?_
  refine va_get (D := (dC, dI)) (ci := 8) (v := .int (nI n)) (C := R_Tape) (T := F_Tape) (N := 7) hx hb hts in_Tape hown hK hP 0 rfl rfl 3 (by decide) (hts _ w_48) (fun _ h9 => h9) rfl d_Tape_put_32 ?_
  refine lv_iconst (v := 1) hx hb d_Tape_put_35 (by decide) ?_
  refine lv_iadd hx hb d_Tape_put_36 ?_
  refine W.eq (g2 := F0 m 37 ls [.int (nI (n + 1)), .ref h0]) (by rw [show ((nI n) + 1) = (nI (n + 1)) from nI_1 _]) ?_
  refine va_put (D := (dC, dI)) (ci := 8) (v := .int (nI (n + 1))) (ty := .int) (C := R_Tape) (T := F_Tape) (N := 7) hx hb hts in_Tape t_Tape t_Tape_ok n_Tape hown hK hP hD hS 0 rfl rfl 3 (by decide) (hts _ w_48) (fun _ h9 => h9) rfl (by decide +kernel) rfl rfl (Nat.le_of_ble_eq_true rfl) d_Tape_put_37 (fun H locs hP hD hS => ?_)
  have hP : va_P (dC, dI) classes [(h0, .inr (8, [.ref qb, ru, .int uc, .int (nI (n + 1)), .int en, .int at_, .int pl])), (qb, .inl (cB, 4096, .inl (upd f n (vp_nar .byte (((x >>> (24 &&& 31)).toInt8.toInt32))))))] H := hP
  have hD : va_D A [(h0, .inr (8, [.ref qb, ru, .int uc, .int (nI (n + 1)), .int en, .int at_, .int pl])), (qb, .inl (cB, 4096, .inl (upd f n (vp_nar .byte (((x >>> (24 &&& 31)).toInt8.toInt32))))))] := hD
  refine lv_iinc (v := 16) (lv' := [(2, .int 16), (0, .ref h0), (1, .int x)]) hx hb d_Tape_put_40 hl (k := 0) rfl (by decide) (by decide) rfl (fun ls hl => ?_)
  refine lv_goto (tgt := 3) hx hb d_Tape_put_43 (by decide) ?_
  refine lv_iload_n hx hb d_Tape_put_3 rfl (lv_at hl 0 rfl) ?_
  refine lv_if_lt (tgt := 46) hx hb d_Tape_put_4 (by decide) (fun h => absurd h (by decide)) (fun _ => ?_)
  refine lv_aload_n hx hb d_Tape_put_7 rfl (lv_at hl 1 rfl) ?_
  refine va_get (D := (dC, dI)) (ci := 8) (v := .int (nI (n + 1))) (C := R_Tape) (T := F_Tape) (N := 7) hx hb hts in_Tape hown hK hP 0 rfl rfl 3 (by decide) (hts _ w_48) (fun _ h9 => h9) rfl d_Tape_put_8 ?_
  refine lv_sipush (v := 4096) hx hb d_Tape_put_11 (by decide) ?_
  refine lv_icmp_ge (tgt := 46) hx hb d_Tape_put_14 (by decide) (fun h => absurd h (by rw [show (4096 : Int32) = nI 4096 from rfl, nI_leI (by omega) (by omega)]; omega)) (fun _ => ?_)
  refine lv_aload_n hx hb d_Tape_put_17 rfl (lv_at hl 1 rfl) ?_
  refine va_get (D := (dC, dI)) (ci := 8) (v := .ref qb) (C := R_Tape) (T := F_Tape) (N := 7) hx hb hts in_Tape hown hK hP 0 rfl rfl 0 (by decide) (hts _ w_43) (fun _ h9 => h9) rfl d_Tape_put_18 ?_
  refine lv_aload_n hx hb d_Tape_put_21 rfl (lv_at hl 1 rfl) ?_
  refine va_get (D := (dC, dI)) (ci := 8) (v := .int (nI (n + 1))) (C := R_Tape) (T := F_Tape) (N := 7) hx hb hts in_Tape hown hK hP 0 rfl rfl 3 (by decide) (hts _ w_48) (fun _ h9 => h9) rfl d_Tape_put_22 ?_
  refine lv_iload_n hx hb d_Tape_put_25 rfl (lv_at hl 2 rfl) ?_
  refine lv_iload_n hx hb d_Tape_put_26 rfl (lv_at hl 0 rfl) ?_
  refine lv_ishr hx hb d_Tape_put_27 ?_
  refine lv_i2b (v := (x >>> (16 &&& 31)).toInt8.toInt32) hx hb d_Tape_put_28 rfl ?_
  refine va_bast hx hb hK hP hD hS 1 0 rfl rfl (vp_in_nI (show n + 1 < 4096 by omega) (by decide)) d_Tape_put_29 (fun H locs hP hD hS => ?_)
  rw [show ((nI (n + 1))).toNatClampNeg = (n + 1) from nI_clamp (by omega)] at hP hD
  have hP : va_P (dC, dI) classes [(h0, .inr (8, [.ref qb, ru, .int uc, .int (nI (n + 1)), .int en, .int at_, .int pl])), (qb, .inl (cB, 4096, .inl (upd ((upd f n (vp_nar .byte (((x >>> (24 &&& 31)).toInt8.toInt32))))) (n + 1) (vp_nar .byte (((x >>> (16 &&& 31)).toInt8.toInt32))))))] H := hP
  have hD : va_D A [(h0, .inr (8, [.ref qb, ru, .int uc, .int (nI (n + 1)), .int en, .int at_, .int pl])), (qb, .inl (cB, 4096, .inl (upd ((upd f n (vp_nar .byte (((x >>> (24 &&& 31)).toInt8.toInt32))))) (n + 1) (vp_nar .byte (((x >>> (16 &&& 31)).toInt8.toInt32))))))] := hD
  refine lv_aload_n hx hb d_Tape_put_30 rfl (lv_at hl 1 rfl) ?_
  refine lv_dup hx hb d_Tape_put_31 rfl ?_
  refine va_get (D := (dC, dI)) (ci := 8) (v := .int (nI (n + 1))) (C := R_Tape) (T := F_Tape) (N := 7) hx hb hts in_Tape hown hK hP 0 rfl rfl 3 (by decide) (hts _ w_48) (fun _ h9 => h9) rfl d_Tape_put_32 ?_
  refine lv_iconst (v := 1) hx hb d_Tape_put_35 (by decide) ?_
  refine lv_iadd hx hb d_Tape_put_36 ?_
  refine W.eq (g2 := F0 m 37 ls [.int (nI (n + 1 + 1)), .ref h0]) (by rw [show ((nI (n + 1)) + 1) = (nI (n + 1 + 1)) from nI_1 _]) ?_
  refine va_put (D := (dC, dI)) (ci := 8) (v := .int (nI (n + 1 + 1))) (ty := .int) (C := R_Tape) (T := F_Tape) (N := 7) hx hb hts in_Tape t_Tape t_Tape_ok n_Tape hown hK hP hD hS 0 rfl rfl 3 (by decide) (hts _ w_48) (fun _ h9 => h9) rfl (by decide +kernel) rfl rfl (Nat.le_of_ble_eq_true rfl) d_Tape_put_37 (fun H locs hP hD hS => ?_)
  have hP : va_P (dC, dI) classes [(h0, .inr (8, [.ref qb, ru, .int uc, .int (nI (n + 1 + 1)), .int en, .int at_, .int pl])), (qb, .inl (cB, 4096, .inl (upd ((upd f n (vp_nar .byte (((x >>> (24 &&& 31)).toInt8.toInt32))))) (n + 1) (vp_nar .byte (((x >>> (16 &&& 31)).toInt8.toInt32))))))] H := hP
  have hD : va_D A [(h0, .inr (8, [.ref qb, ru, .int uc, .int (nI (n + 1 + 1)), .int en, .int at_, .int pl])), (qb, .inl (cB, 4096, .inl (upd ((upd f n (vp_nar .byte (((x >>> (24 &&& 31)).toInt8.toInt32))))) (n + 1) (vp_nar .byte (((x >>> (16 &&& 31)).toInt8.toInt32))))))] := hD
  refine lv_iinc (v := 8) (lv' := [(2, .int 8), (0, .ref h0), (1, .int x)]) hx hb d_Tape_put_40 hl (k := 0) rfl (by decide) (by decide) rfl (fun ls hl => ?_)
  refine lv_goto (tgt := 3) hx hb d_Tape_put_43 (by decide) ?_
  refine lv_iload_n hx hb d_Tape_put_3 rfl (lv_at hl 0 rfl) ?_
  refine lv_if_lt (tgt := 46) hx hb d_Tape_put_4 (by decide) (fun h => absurd h (by decide)) (fun _ => ?_)
  refine lv_aload_n hx hb d_Tape_put_7 rfl (lv_at hl 1 rfl) ?_
  refine va_get (D := (dC, dI)) (ci := 8) (v := .int (nI (n + 1 + 1))) (C := R_Tape) (T := F_Tape) (N := 7) hx hb hts in_Tape hown hK hP 0 rfl rfl 3 (by decide) (hts _ w_48) (fun _ h9 => h9) rfl d_Tape_put_8 ?_
  refine lv_sipush (v := 4096) hx hb d_Tape_put_11 (by decide) ?_
  refine lv_icmp_ge (tgt := 46) hx hb d_Tape_put_14 (by decide) (fun h => absurd h (by rw [show (4096 : Int32) = nI 4096 from rfl, nI_leI (by omega) (by omega)]; omega)) (fun _ => ?_)
  refine lv_aload_n hx hb d_Tape_put_17 rfl (lv_at hl 1 rfl) ?_
  refine va_get (D := (dC, dI)) (ci := 8) (v := .ref qb) (C := R_Tape) (T := F_Tape) (N := 7) hx hb hts in_Tape hown hK hP 0 rfl rfl 0 (by decide) (hts _ w_43) (fun _ h9 => h9) rfl d_Tape_put_18 ?_
  refine lv_aload_n hx hb d_Tape_put_21 rfl (lv_at hl 1 rfl) ?_
  refine va_get (D := (dC, dI)) (ci := 8) (v := .int (nI (n + 1 + 1))) (C := R_Tape) (T := F_Tape) (N := 7) hx hb hts in_Tape hown hK hP 0 rfl rfl 3 (by decide) (hts _ w_48) (fun _ h9 => h9) rfl d_Tape_put_22 ?_
  refine lv_iload_n hx hb d_Tape_put_25 rfl (lv_at hl 2 rfl) ?_
  refine lv_iload_n hx hb d_Tape_put_26 rfl (lv_at hl 0 rfl) ?_
  refine lv_ishr hx hb d_Tape_put_27 ?_
  refine lv_i2b (v := (x >>> (8 &&& 31)).toInt8.toInt32) hx hb d_Tape_put_28 rfl ?_
  refine va_bast hx hb hK hP hD hS 1 0 rfl rfl (vp_in_nI (show n + 1 + 1 < 4096 by omega) (by decide)) d_Tape_put_29 (fun H locs hP hD hS => ?_)
  rw [show ((nI (n + 1 + 1))).toNatClampNeg = (n + 1 + 1) from nI_clamp (by omega)] at hP hD
  have hP : va_P (dC, dI) classes [(h0, .inr (8, [.ref qb, ru, .int uc, .int (nI (n + 1 + 1)), .int en, .int at_, .int pl])), (qb, .inl (cB, 4096, .inl (upd ((upd ((upd f n (vp_nar .byte (((x >>> (24 &&& 31)).toInt8.toInt32))))) (n + 1) (vp_nar .byte (((x >>> (16 &&& 31)).toInt8.toInt32))))) (n + 1 + 1) (vp_nar .byte (((x >>> (8 &&& 31)).toInt8.toInt32))))))] H := hP
  have hD : va_D A [(h0, .inr (8, [.ref qb, ru, .int uc, .int (nI (n + 1 + 1)), .int en, .int at_, .int pl])), (qb, .inl (cB, 4096, .inl (upd ((upd ((upd f n (vp_nar .byte (((x >>> (24 &&& 31)).toInt8.toInt32))))) (n + 1) (vp_nar .byte (((x >>> (16 &&& 31)).toInt8.toInt32))))) (n + 1 + 1) (vp_nar .byte (((x >>> (8 &&& 31)).toInt8.toInt32))))))] := hD
  refine lv_aload_n hx hb d_Tape_put_30 rfl (lv_at hl 1 rfl) ?_
  refine lv_dup hx hb d_Tape_put_31 rfl ?_
  refine va_get (D := (dC, dI)) (ci := 8) (v := .int (nI (n + 1 + 1))) (C := R_Tape) (T := F_Tape) (N := 7) hx hb hts in_Tape hown hK hP 0 rfl rfl 3 (by decide) (hts _ w_48) (fun _ h9 => h9) rfl d_Tape_put_32 ?_
  refine lv_iconst (v := 1) hx hb d_Tape_put_35 (by decide) ?_
  refine lv_iadd hx hb d_Tape_put_36 ?_
  refine W.eq (g2 := F0 m 37 ls [.int (nI (n + 1 + 1 + 1)), .ref h0]) (by rw [show ((nI (n + 1 + 1)) + 1) = (nI (n + 1 + 1 + 1)) from nI_1 _]) ?_
  refine va_put (D := (dC, dI)) (ci := 8) (v := .int (nI (n + 1 + 1 + 1))) (ty := .int) (C := R_Tape) (T := F_Tape) (N := 7) hx hb hts in_Tape t_Tape t_Tape_ok n_Tape hown hK hP hD hS 0 rfl rfl 3 (by decide) (hts _ w_48) (fun _ h9 => h9) rfl (by decide +kernel) rfl rfl (Nat.le_of_ble_eq_true rfl) d_Tape_put_37 (fun H locs hP hD hS => ?_)
  have hP : va_P (dC, dI) classes [(h0, .inr (8, [.ref qb, ru, .int uc, .int (nI (n + 1 + 1 + 1)), .int en, .int at_, .int pl])), (qb, .inl (cB, 4096, .inl (upd ((upd ((upd f n (vp_nar .byte (((x >>> (24 &&& 31)).toInt8.toInt32))))) (n + 1) (vp_nar .byte (((x >>> (16 &&& 31)).toInt8.toInt32))))) (n + 1 + 1) (vp_nar .byte (((x >>> (8 &&& 31)).toInt8.toInt32))))))] H := hP
  have hD : va_D A [(h0, .inr (8, [.ref qb, ru, .int uc, .int (nI (n + 1 + 1 + 1)), .int en, .int at_, .int pl])), (qb, .inl (cB, 4096, .inl (upd ((upd ((upd f n (vp_nar .byte (((x >>> (24 &&& 31)).toInt8.toInt32))))) (n + 1) (vp_nar .byte (((x >>> (16 &&& 31)).toInt8.toInt32))))) (n + 1 + 1) (vp_nar .byte (((x >>> (8 &&& 31)).toInt8.toInt32))))))] := hD
  refine lv_iinc (v := 0) (lv' := [(2, .int 0), (0, .ref h0), (1, .int x)]) hx hb d_Tape_put_40 hl (k := 0) rfl (by decide) (by decide) rfl (fun ls hl => ?_)
  refine lv_goto (tgt := 3) hx hb d_Tape_put_43 (by decide) ?_
  refine lv_iload_n hx hb d_Tape_put_3 rfl (lv_at hl 0 rfl) ?_
  refine lv_if_lt (tgt := 46) hx hb d_Tape_put_4 (by decide) (fun h => absurd h (by decide)) (fun _ => ?_)
  refine lv_aload_n hx hb d_Tape_put_7 rfl (lv_at hl 1 rfl) ?_
  refine va_get (D := (dC, dI)) (ci := 8) (v := .int (nI (n + 1 + 1 + 1))) (C := R_Tape) (T := F_Tape) (N := 7) hx hb hts in_Tape hown hK hP 0 rfl rfl 3 (by decide) (hts _ w_48) (fun _ h9 => h9) rfl d_Tape_put_8 ?_
  refine lv_sipush (v := 4096) hx hb d_Tape_put_11 (by decide) ?_
  refine lv_icmp_ge (tgt := 46) hx hb d_Tape_put_14 (by decide) (fun h => absurd h (by rw [show (4096 : Int32) = nI 4096 from rfl, nI_leI (by omega) (by omega)]; omega)) (fun _ => ?_)
  refine lv_aload_n hx hb d_Tape_put_17 rfl (lv_at hl 1 rfl) ?_
  refine va_get (D := (dC, dI)) (ci := 8) (v := .ref qb) (C := R_Tape) (T := F_Tape) (N := 7) hx hb hts in_Tape hown hK hP 0 rfl rfl 0 (by decide) (hts _ w_43) (fun _ h9 => h9) rfl d_Tape_put_18 ?_
  refine lv_aload_n hx hb d_Tape_put_21 rfl (lv_at hl 1 rfl) ?_
  refine va_get (D := (dC, dI)) (ci := 8) (v := .int (nI (n + 1 + 1 + 1))) (C := R_Tape) (T := F_Tape) (N := 7) hx hb hts in_Tape hown hK hP 0 rfl rfl 3 (by decide) (hts _ w_48) (fun _ h9 => h9) rfl d_Tape_put_22 ?_
  refine lv_iload_n hx hb d_Tape_put_25 rfl (lv_at hl 2 rfl) ?_
  refine lv_iload_n hx hb d_Tape_put_26 rfl (lv_at hl 0 rfl) ?_
  refine lv_ishr hx hb d_Tape_put_27 ?_
  refine lv_i2b (v := (x >>> (0 &&& 31)).toInt8.toInt32) hx hb d_Tape_put_28 rfl ?_
  refine va_bast hx hb hK hP hD hS 1 0 rfl rfl (vp_in_nI (show n + 1 + 1 + 1 < 4096 by omega) (by decide)) d_Tape_put_29 (fun H locs hP hD hS => ?_)
  rw [show ((nI (n + 1 + 1 + 1))).toNatClampNeg = (n + 1 + 1 + 1) from nI_clamp (by omega)] at hP hD
  have hP : va_P (dC, dI) classes [(h0, .inr (8, [.ref qb, ru, .int uc, .int (nI (n + 1 + 1 + 1)), .int en, .int at_, .int pl])), (qb, .inl (cB, 4096, .inl (upd ((upd ((upd ((upd f n (vp_nar .byte (((x >>> (24 &&& 31)).toInt8.toInt32))))) (n + 1) (vp_nar .byte (((x >>> (16 &&& 31)).toInt8.toInt32))))) (n + 1 + 1) (vp_nar .byte (((x >>> (8 &&& 31)).toInt8.toInt32))))) (n + 1 + 1 + 1) (vp_nar .byte (((x >>> (0 &&& 31)).toInt8.toInt32))))))] H := hP
  have hD : va_D A [(h0, .inr (8, [.ref qb, ru, .int uc, .int (nI (n + 1 + 1 + 1)), .int en, .int at_, .int pl])), (qb, .inl (cB, 4096, .inl (upd ((upd ((upd ((upd f n (vp_nar .byte (((x >>> (24 &&& 31)).toInt8.toInt32))))) (n + 1) (vp_nar .byte (((x >>> (16 &&& 31)).toInt8.toInt32))))) (n + 1 + 1) (vp_nar .byte (((x >>> (8 &&& 31)).toInt8.toInt32))))) (n + 1 + 1 + 1) (vp_nar .byte (((x >>> (0 &&& 31)).toInt8.toInt32))))))] := hD
  refine lv_aload_n hx hb d_Tape_put_30 rfl (lv_at hl 1 rfl) ?_
  refine lv_dup hx hb d_Tape_put_31 rfl ?_
  refine va_get (D := (dC, dI)) (ci := 8) (v := .int (nI (n + 1 + 1 + 1))) (C := R_Tape) (T := F_Tape) (N := 7) hx hb hts in_Tape hown hK hP 0 rfl rfl 3 (by decide) (hts _ w_48) (fun _ h9 => h9) rfl d_Tape_put_32 ?_
  refine lv_iconst (v := 1) hx hb d_Tape_put_35 (by decide) ?_
  refine lv_iadd hx hb d_Tape_put_36 ?_
  refine W.eq (g2 := F0 m 37 ls [.int (nI (n + 1 + 1 + 1 + 1)), .ref h0]) (by rw [show ((nI (n + 1 + 1 + 1)) + 1) = (nI (n + 1 + 1 + 1 + 1)) from nI_1 _]) ?_
  refine va_put (D := (dC, dI)) (ci := 8) (v := .int (nI (n + 1 + 1 + 1 + 1))) (ty := .int) (C := R_Tape) (T := F_Tape) (N := 7) hx hb hts in_Tape t_Tape t_Tape_ok n_Tape hown hK hP hD hS 0 rfl rfl 3 (by decide) (hts _ w_48) (fun _ h9 => h9) rfl (by decide +kernel) rfl rfl (Nat.le_of_ble_eq_true rfl) d_Tape_put_37 (fun H locs hP hD hS => ?_)
  have hP : va_P (dC, dI) classes [(h0, .inr (8, [.ref qb, ru, .int uc, .int (nI (n + 1 + 1 + 1 + 1)), .int en, .int at_, .int pl])), (qb, .inl (cB, 4096, .inl (upd ((upd ((upd ((upd f n (vp_nar .byte (((x >>> (24 &&& 31)).toInt8.toInt32))))) (n + 1) (vp_nar .byte (((x >>> (16 &&& 31)).toInt8.toInt32))))) (n + 1 + 1) (vp_nar .byte (((x >>> (8 &&& 31)).toInt8.toInt32))))) (n + 1 + 1 + 1) (vp_nar .byte (((x >>> (0 &&& 31)).toInt8.toInt32))))))] H := hP
  have hD : va_D A [(h0, .inr (8, [.ref qb, ru, .int uc, .int (nI (n + 1 + 1 + 1 + 1)), .int en, .int at_, .int pl])), (qb, .inl (cB, 4096, .inl (upd ((upd ((upd ((upd f n (vp_nar .byte (((x >>> (24 &&& 31)).toInt8.toInt32))))) (n + 1) (vp_nar .byte (((x >>> (16 &&& 31)).toInt8.toInt32))))) (n + 1 + 1) (vp_nar .byte (((x >>> (8 &&& 31)).toInt8.toInt32))))) (n + 1 + 1 + 1) (vp_nar .byte (((x >>> (0 &&& 31)).toInt8.toInt32))))))] := hD
  refine lv_iinc (v := (-8)) (lv' := [(2, .int (-8)), (0, .ref h0), (1, .int x)]) hx hb d_Tape_put_40 hl (k := 0) rfl (by decide) (by decide) rfl (fun ls hl => ?_)
  refine lv_goto (tgt := 3) hx hb d_Tape_put_43 (by decide) ?_
  refine lv_iload_n hx hb d_Tape_put_3 rfl (lv_at hl 0 rfl) ?_
  refine lv_if_lt (tgt := 46) hx hb d_Tape_put_4 (by decide) (fun _ => ?_) (fun h => absurd (by decide) h)
  exact W.vret hx hb hr (fun t ht hW => ⟨⟨(), rfl, trivial, by rw [ht]; exact hP, va_K.moved hW.alike hK, hD⟩, hS.F ht⟩) hS.2.2 d_Tape_put_46
def feed5 (f : Nat → Int32) (n : Nat) (a b c_ d e_ : Int32) : Nat → Int32 := put4 (put4 (put4 (put4 (put4 f n a) (n + 4) b) (n + 8) c_) (n + 12) d) (n + 16) e_
abbrev b_QB_feed : ByteArray := prog_1_method_2_code
def y_QB_feed : MethodName := ⟨"QueryBench", "feed", "(IIIII)I"⟩
abbrev k_QB_feed : Cond := .code y_QB_feed b_QB_feed 6 (some .int)
theorem i_QB_feed : k_QB_feed ∈ gtbl := gt_in 183 (by decide +kernel) (by decide +kernel)
theorem d_QB_feed_0 : decode b_QB_feed 0 = .ok (.aload_n 0, 1) := by decide +kernel
theorem d_QB_feed_1 : decode b_QB_feed 1 = .ok (.getfield 10, 3) := by decide +kernel
theorem d_QB_feed_4 : decode b_QB_feed 4 = .ok (.getfield 55, 3) := by decide +kernel
theorem d_QB_feed_7 : decode b_QB_feed 7 = .ok (.bipush 20, 2) := by decide +kernel
theorem d_QB_feed_9 : decode b_QB_feed 9 = .ok (.iadd, 1) := by decide +kernel
theorem d_QB_feed_10 : decode b_QB_feed 10 = .ok (.sipush 4096, 3) := by decide +kernel
theorem d_QB_feed_13 : decode b_QB_feed 13 = .ok (.if_icmp .le 11, 3) := by decide +kernel
theorem d_QB_feed_16 : decode b_QB_feed 16 = .ok (.new 59, 3) := by decide +kernel
theorem d_QB_feed_19 : decode b_QB_feed 19 = .ok (.dup, 1) := by decide +kernel
theorem d_QB_feed_20 : decode b_QB_feed 20 = .ok (.invokespecial 61, 3) := by decide +kernel
theorem d_QB_feed_23 : decode b_QB_feed 23 = .ok (.athrow, 1) := by decide +kernel
theorem d_QB_feed_24 : decode b_QB_feed 24 = .ok (.aload_n 0, 1) := by decide +kernel
theorem d_QB_feed_25 : decode b_QB_feed 25 = .ok (.getfield 10, 3) := by decide +kernel
theorem d_QB_feed_28 : decode b_QB_feed 28 = .ok (.iload_n 1, 1) := by decide +kernel
theorem d_QB_feed_29 : decode b_QB_feed 29 = .ok (.invokevirtual 62, 3) := by decide +kernel
theorem d_QB_feed_32 : decode b_QB_feed 32 = .ok (.aload_n 0, 1) := by decide +kernel
theorem d_QB_feed_33 : decode b_QB_feed 33 = .ok (.getfield 10, 3) := by decide +kernel
theorem d_QB_feed_36 : decode b_QB_feed 36 = .ok (.iload_n 2, 1) := by decide +kernel
theorem d_QB_feed_37 : decode b_QB_feed 37 = .ok (.invokevirtual 62, 3) := by decide +kernel
theorem d_QB_feed_40 : decode b_QB_feed 40 = .ok (.aload_n 0, 1) := by decide +kernel
theorem d_QB_feed_41 : decode b_QB_feed 41 = .ok (.getfield 10, 3) := by decide +kernel
theorem d_QB_feed_44 : decode b_QB_feed 44 = .ok (.iload_n 3, 1) := by decide +kernel
theorem d_QB_feed_45 : decode b_QB_feed 45 = .ok (.invokevirtual 62, 3) := by decide +kernel
theorem d_QB_feed_48 : decode b_QB_feed 48 = .ok (.aload_n 0, 1) := by decide +kernel
theorem d_QB_feed_49 : decode b_QB_feed 49 = .ok (.getfield 10, 3) := by decide +kernel
theorem d_QB_feed_52 : decode b_QB_feed 52 = .ok (.iload 4, 2) := by decide +kernel
theorem d_QB_feed_54 : decode b_QB_feed 54 = .ok (.invokevirtual 62, 3) := by decide +kernel
theorem d_QB_feed_57 : decode b_QB_feed 57 = .ok (.aload_n 0, 1) := by decide +kernel
theorem d_QB_feed_58 : decode b_QB_feed 58 = .ok (.getfield 10, 3) := by decide +kernel
theorem d_QB_feed_61 : decode b_QB_feed 61 = .ok (.iload 5, 2) := by decide +kernel
theorem d_QB_feed_63 : decode b_QB_feed 63 = .ok (.invokevirtual 62, 3) := by decide +kernel
theorem d_QB_feed_66 : decode b_QB_feed 66 = .ok (.aload_n 0, 1) := by decide +kernel
theorem d_QB_feed_67 : decode b_QB_feed 67 = .ok (.getfield 10, 3) := by decide +kernel
theorem d_QB_feed_70 : decode b_QB_feed 70 = .ok (.getfield 55, 3) := by decide +kernel
theorem d_QB_feed_73 : decode b_QB_feed 73 = .ok (.ireturn, 1) := by decide +kernel
theorem xa_QB_feed_16 : ∀ w ∈ vx_at0 R_QB 61 "java/lang/IndexOutOfBoundsException" ["java/lang/RuntimeException", "java/lang/Exception"], (goodWord w = true ∧ w ∈ lw_tbl) ∨ w ∈ nwl := by decide +kernel
theorem xa_QB_feed_16_g : ∀ w ∈ Cond.classLink R_QB 59 "java/lang/IndexOutOfBoundsException" :: Cond.initialized "java/lang/IndexOutOfBoundsException" :: vx_at0 R_QB 61 "java/lang/IndexOutOfBoundsException" ["java/lang/RuntimeException", "java/lang/Exception"], vx_ot w = true := by decide +kernel
set_option maxHeartbeats 4000000 in
set_option maxRecDepth 100000 in
/-- QueryBench.feed -/
theorem c_QB_feed (l : Launch) (hl9 : l.stackTraces = false) (dC : Nat → ClassId) (dI : Nat → Nat → Nat) (cB : ClassId) (q0 h0 qb : Nat) (sz : Heap) (ru r1 r2 r3 r4 r5 r6 r7 : Value) (uc en at_ pl : Int32) (f : Nat → Int32) (n : Nat) (a b c_ d e_ : Int32) (hn0 : n ≤ 4096) : vx_Met l y_QB_feed (k_QB_feed :: gtbl) ({ frames := 8, cells := 1, slots := 6, locals := 110 }) (va_Pc [.ref q0, .int a, .int b, .int c_, .int d, .int e_] (mx dC dI [(q0, .inr (11, [.ref h0, r1, r2, r3, r4, r5, r6, r7])), (h0, .inr (8, [.ref qb, ru, .int uc, .int (nI n), .int en, .int at_, .int pl])), (qb, .inl (cB, 4096, .inl f))] [(cB, .byte)] sz)) (va_Qi (fun (r : Int32) (_ : Unit) => n + 20 ≤ 4096 ∧ r = nI (n + 20)) (fun _ t => mz dC dI [(q0, .inr (11, [.ref h0, r1, r2, r3, r4, r5, r6, r7])), (h0, .inr (8, [.ref qb, ru, .int uc, .int (nI (n + 20)), .int en, .int at_, .int pl])), (qb, .inl (cB, 4096, .inl (feed5 f n a b c_ d e_)))] [(cB, .byte)] (va_A [(q0, .inr (11, [.ref h0, r1, r2, r3, r4, r5, r6, r7])), (h0, .inr (8, [.ref qb, ru, .int uc, .int (nI n), .int en, .int at_, .int pl])), (qb, .inl (cB, 4096, .inl f))] sz.size) t ∧ szk sz t.heap 0 0) (va_A [(q0, .inr (11, [.ref h0, r1, r2, r3, r4, r5, r6, r7])), (h0, .inr (8, [.ref qb, ru, .int uc, .int (nI n), .int en, .int at_, .int pl])), (qb, .inl (cB, 4096, .inl f))] sz.size)) (vx_X (fun _ : Unit => ¬ n + 20 ≤ 4096) (fun E _ t => E = "java/lang/IndexOutOfBoundsException" ∧ mz dC dI [(q0, .inr (11, [.ref h0, r1, r2, r3, r4, r5, r6, r7])), (h0, .inr (8, [.ref qb, ru, .int uc, .int (nI n), .int en, .int at_, .int pl])), (qb, .inl (cB, 4096, .inl f))] [(cB, .byte)] (va_A [(q0, .inr (11, [.ref h0, r1, r2, r3, r4, r5, r6, r7])), (h0, .inr (8, [.ref qb, ru, .int uc, .int (nI n), .int en, .int at_, .int pl])), (qb, .inl (cB, 4096, .inl f))] sz.size) t) (va_A [(q0, .inr (11, [.ref h0, r1, r2, r3, r4, r5, r6, r7])), (h0, .inr (8, [.ref qb, ru, .int uc, .int (nI n), .int en, .int at_, .int pl])), (qb, .inl (cB, 4096, .inl f))] sz.size)) 1 6 (va_A [(q0, .inr (11, [.ref h0, r1, r2, r3, r4, r5, r6, r7])), (h0, .inr (8, [.ref qb, ru, .int uc, .int (nI n), .int en, .int at_, .int pl])), (qb, .inl (cB, 4096, .inl f))] sz.size) := by
  refine vx_ofW (cc := b_QB_feed) (maxL := 6) (ret := (some .int)) (by decide) rfl ?_
  intro p e s m args below meth c s₁ B hml hex hv
  obtain ⟨rfl, ⟨hsz, hP, hK, hD0⟩, hN, hZ⟩ := hv
  have hx := B.exec
  have hb := B.bytes
  have hr := B.returns
  have hts0 := atoms_spec (ws := k_QB_feed :: gtbl) B.pre
  have hts := fun w h => hts0 w (List.mem_cons_of_mem _ h)
  have hown : s.vm.findClass R_QB = some m.cls := findClass_of_methodNamed B.named
  have hlocks := B.notSynchronized
  subst hsz
  have hD := hD0.self (sz := s.heap.size)
  generalize hAe : va_A [(q0, .inr (11, [.ref h0, r1, r2, r3, r4, r5, r6, r7])), (h0, .inr (8, [.ref qb, ru, .int uc, .int (nI n), .int en, .int at_, .int pl])), (qb, .inl (cB, 4096, .inl f))] s.heap.size = A at hD hZ ⊢
  have hA : ∀ q : Nat, s.heap.size ≤ q → A q := fun q h => by rw [← hAe]; exact Or.inr h
  have hS : va_S A s.heap s.heap [] := va_S.rf
  have hP : va_P (dC, dI) classes [(q0, .inr (11, [.ref h0, r1, r2, r3, r4, r5, r6, r7])), (h0, .inr (8, [.ref qb, ru, .int uc, .int (nI n), .int en, .int at_, .int pl])), (qb, .inl (cB, 4096, .inl f))] s.heap := hP
  have hl := lv_entry ([.ref q0, .int a, .int b, .int c_, .int d, .int e_]) (n := 6) (Nat.le_of_ble_eq_true rfl)
  rw [lg_entry_eq]
  generalize (lg_sl ([.ref q0, .int a, .int b, .int c_, .int d, .int e_]) ++ List.replicate (6 - (lg_sl ([.ref q0, .int a, .int b, .int c_, .int d, .int e_])).length) Slot.unset).toArray = ls at hl ⊢
  have hl : lv_has ls 6 [(0, .ref q0), (1, .int a), (2, .int b), (3, .int c_), (4, .int d), (5, .int e_)] := hl
  refine lv_aload_n hx hb d_QB_feed_0 rfl (lv_at hl 0 rfl) ?_
  refine va_get (D := (dC, dI)) (ci := 11) (v := .ref h0) (C := R_QB) (T := F_QB) (N := 8) hx hb hts in_QB hown hK hP 0 rfl rfl 0 (by decide) (hts _ w_151) (fun _ h9 => h9) rfl d_QB_feed_1 ?_
  refine va_get (D := (dC, dI)) (ci := 8) (v := .int (nI n)) (C := R_Tape) (T := F_Tape) (N := 7) hx hb hts in_Tape hown hK hP 1 rfl rfl 3 (by decide) (hts _ w_47) (fun _ h9 => h9) rfl d_QB_feed_4 ?_
  refine lv_bipush (v := 20) hx hb d_QB_feed_7 (by decide) ?_
  refine lv_iadd hx hb d_QB_feed_9 ?_
  refine lv_sipush (v := 4096) hx hb d_QB_feed_10 (by decide) ?_
  refine lv_icmp_le (tgt := 24) hx hb d_QB_feed_13 (by decide) (fun c1 => ?_) (fun c1 => ?_)
  · have hg : n + 20 ≤ 4096 := by rw [show nI n + 20 = nI (n + 20) from nI_add n 20, show (4096 : Int32) = nI 4096 from rfl, nI_leI (by omega) (by omega)] at c1; exact c1
    refine lv_aload_n hx hb d_QB_feed_24 rfl (lv_at hl 0 rfl) ?_
    refine va_get (D := (dC, dI)) (ci := 11) (v := .ref h0) (C := R_QB) (T := F_QB) (N := 8) hx hb hts in_QB hown hK hP 0 rfl rfl 0 (by decide) (hts _ w_151) (fun _ h9 => h9) rfl d_QB_feed_25 ?_
    refine lv_iload_n hx hb d_QB_feed_28 rfl (lv_at hl 1 rfl) ?_
    have hPc := hP.sub (ws' := [(h0, .inr (8, [.ref qb, ru, .int uc, .int (nI n), .int en, .int at_, .int pl])), (qb, .inl (cB, 4096, .inl f))]) [1, 2] rfl
    have hDc := hD.sub (ws' := [(h0, .inr (8, [.ref qb, ru, .int uc, .int (nI n), .int en, .int at_, .int pl])), (qb, .inl (cB, 4096, .inl f))]) [1, 2] (by decide) rfl
    have hKc := hK.sub (tys' := [(cB, .byte)]) [0] rfl
    have hFc := va_free (wc := [(h0, .inr (8, [.ref qb, ru, .int uc, .int (nI n), .int en, .int at_, .int pl])), (qb, .inl (cB, 4096, .inl f))]) hD hS hA [1, 2] rfl
    refine va_callv (va_runV (As := [.int a]) (rest := []) ⟨hx, hb, hml, hown, hts⟩ (c_Tape_put l dC dI cB h0 qb s.heap ru uc en at_ pl f n a (by omega)) (cwV 1 hts (gt_V (own := R_QB) (C := R_Tape) (i := 62) (y := y_Tape_put) i_Tape_put w_248 w_249 w_250 w_2) rfl rfl rfl (by decide +kernel) ⟨Nat.le_of_ble_eq_true rfl, Nat.le_of_ble_eq_true rfl⟩) ⟨mp_blind, va_recv hKc hPc (ci := 8) (q0 := 0) rfl rfl, fun U hU hW => ⟨rfl, hU, by rw [hU]; exact hPc, va_K.moved hW.alike hKc, hDc.weaken (fun _ _ _ _ => trivial)⟩⟩ rfl rfl hl.1 rfl (lv_room (Nat.le_of_ble_eq_true rfl)) d_QB_feed_29 ⟨Nat.le_of_ble_eq_true rfl, Nat.le_of_ble_eq_true rfl⟩) hS (fun q _ h => hFc q h) hFc (fun u t H1 locs ht hvm hw hB hz1 hk1 hS => ?_)
    obtain ⟨hP1, hK1, hD1⟩ := hB
    rw [ht] at hP1
    obtain ⟨hP, hD⟩ := va_join (wr := [(q0, .inr (11, [.ref h0, r1, r2, r3, r4, r5, r6, r7]))]) (w1 := [(h0, .inr (8, [.ref qb, ru, .int uc, .int (nI (n + 4)), .int en, .int at_, .int pl])), (qb, .inl (cB, 4096, .inl (put4 f n a)))]) hP hD [1, 2] [0] rfl rfl (by decide) (by decide) hk1 hFc hP1 hD1
    generalize H1 = H at hP hS ⊢
    have hP : va_P (dC, dI) classes [(q0, .inr (11, [.ref h0, r1, r2, r3, r4, r5, r6, r7])), (h0, .inr (8, [.ref qb, ru, .int uc, .int (nI (n + 4)), .int en, .int at_, .int pl])), (qb, .inl (cB, 4096, .inl (put4 f n a)))] H := hP
    have hD : va_D A [(q0, .inr (11, [.ref h0, r1, r2, r3, r4, r5, r6, r7])), (h0, .inr (8, [.ref qb, ru, .int uc, .int (nI (n + 4)), .int en, .int at_, .int pl])), (qb, .inl (cB, 4096, .inl (put4 f n a)))] := hD
    refine lv_aload_n hx hb d_QB_feed_32 rfl (lv_at hl 0 rfl) ?_
    refine va_get (D := (dC, dI)) (ci := 11) (v := .ref h0) (C := R_QB) (T := F_QB) (N := 8) hx hb hts in_QB hown hK hP 0 rfl rfl 0 (by decide) (hts _ w_151) (fun _ h9 => h9) rfl d_QB_feed_33 ?_
    refine lv_iload_n hx hb d_QB_feed_36 rfl (lv_at hl 2 rfl) ?_
    have hPc := hP.sub (ws' := [(h0, .inr (8, [.ref qb, ru, .int uc, .int (nI (n + 4)), .int en, .int at_, .int pl])), (qb, .inl (cB, 4096, .inl (put4 f n a)))]) [1, 2] rfl
    have hDc := hD.sub (ws' := [(h0, .inr (8, [.ref qb, ru, .int uc, .int (nI (n + 4)), .int en, .int at_, .int pl])), (qb, .inl (cB, 4096, .inl (put4 f n a)))]) [1, 2] (by decide) rfl
    have hKc := hK.sub (tys' := [(cB, .byte)]) [0] rfl
    have hFc := va_free (wc := [(h0, .inr (8, [.ref qb, ru, .int uc, .int (nI (n + 4)), .int en, .int at_, .int pl])), (qb, .inl (cB, 4096, .inl (put4 f n a)))]) hD hS hA [1, 2] rfl
    refine va_callv (va_runV (As := [.int b]) (rest := []) ⟨hx, hb, hml, hown, hts⟩ (c_Tape_put l dC dI cB h0 qb H ru uc en at_ pl (put4 f n a) (n + 4) b (by omega)) (cwV 1 hts (gt_V (own := R_QB) (C := R_Tape) (i := 62) (y := y_Tape_put) i_Tape_put w_248 w_249 w_250 w_2) rfl rfl rfl (by decide +kernel) ⟨Nat.le_of_ble_eq_true rfl, Nat.le_of_ble_eq_true rfl⟩) ⟨mp_blind, va_recv hKc hPc (ci := 8) (q0 := 0) rfl rfl, fun U hU hW => ⟨rfl, hU, by rw [hU]; exact hPc, va_K.moved hW.alike hKc, hDc.weaken (fun _ _ _ _ => trivial)⟩⟩ rfl rfl hl.1 rfl (lv_room (Nat.le_of_ble_eq_true rfl)) d_QB_feed_37 ⟨Nat.le_of_ble_eq_true rfl, Nat.le_of_ble_eq_true rfl⟩) hS (fun q _ h => hFc q h) hFc (fun u t H1 locs ht hvm hw hB hz1 hk1 hS => ?_)
    obtain ⟨hP1, hK1, hD1⟩ := hB
    rw [ht] at hP1
    obtain ⟨hP, hD⟩ := va_join (wr := [(q0, .inr (11, [.ref h0, r1, r2, r3, r4, r5, r6, r7]))]) (w1 := [(h0, .inr (8, [.ref qb, ru, .int uc, .int (nI (n + 8)), .int en, .int at_, .int pl])), (qb, .inl (cB, 4096, .inl (put4 (put4 f n a) (n + 4) b)))]) hP hD [1, 2] [0] rfl rfl (by decide) (by decide) hk1 hFc hP1 hD1
    generalize H1 = H at hP hS ⊢
    have hP : va_P (dC, dI) classes [(q0, .inr (11, [.ref h0, r1, r2, r3, r4, r5, r6, r7])), (h0, .inr (8, [.ref qb, ru, .int uc, .int (nI (n + 8)), .int en, .int at_, .int pl])), (qb, .inl (cB, 4096, .inl (put4 (put4 f n a) (n + 4) b)))] H := hP
    have hD : va_D A [(q0, .inr (11, [.ref h0, r1, r2, r3, r4, r5, r6, r7])), (h0, .inr (8, [.ref qb, ru, .int uc, .int (nI (n + 8)), .int en, .int at_, .int pl])), (qb, .inl (cB, 4096, .inl (put4 (put4 f n a) (n + 4) b)))] := hD
    refine lv_aload_n hx hb d_QB_feed_40 rfl (lv_at hl 0 rfl) ?_
    refine va_get (D := (dC, dI)) (ci := 11) (v := .ref h0) (C := R_QB) (T := F_QB) (N := 8) hx hb hts in_QB hown hK hP 0 rfl rfl 0 (by decide) (hts _ w_151) (fun _ h9 => h9) rfl d_QB_feed_41 ?_
    refine lv_iload_n hx hb d_QB_feed_44 rfl (lv_at hl 3 rfl) ?_
    have hPc := hP.sub (ws' := [(h0, .inr (8, [.ref qb, ru, .int uc, .int (nI (n + 8)), .int en, .int at_, .int pl])), (qb, .inl (cB, 4096, .inl (put4 (put4 f n a) (n + 4) b)))]) [1, 2] rfl
    have hDc := hD.sub (ws' := [(h0, .inr (8, [.ref qb, ru, .int uc, .int (nI (n + 8)), .int en, .int at_, .int pl])), (qb, .inl (cB, 4096, .inl (put4 (put4 f n a) (n + 4) b)))]) [1, 2] (by decide) rfl
    have hKc := hK.sub (tys' := [(cB, .byte)]) [0] rfl
    have hFc := va_free (wc := [(h0, .inr (8, [.ref qb, ru, .int uc, .int (nI (n + 8)), .int en, .int at_, .int pl])), (qb, .inl (cB, 4096, .inl (put4 (put4 f n a) (n + 4) b)))]) hD hS hA [1, 2] rfl
    refine va_callv (va_runV (As := [.int c_]) (rest := []) ⟨hx, hb, hml, hown, hts⟩ (c_Tape_put l dC dI cB h0 qb H ru uc en at_ pl (put4 (put4 f n a) (n + 4) b) (n + 8) c_ (by omega)) (cwV 1 hts (gt_V (own := R_QB) (C := R_Tape) (i := 62) (y := y_Tape_put) i_Tape_put w_248 w_249 w_250 w_2) rfl rfl rfl (by decide +kernel) ⟨Nat.le_of_ble_eq_true rfl, Nat.le_of_ble_eq_true rfl⟩) ⟨mp_blind, va_recv hKc hPc (ci := 8) (q0 := 0) rfl rfl, fun U hU hW => ⟨rfl, hU, by rw [hU]; exact hPc, va_K.moved hW.alike hKc, hDc.weaken (fun _ _ _ _ => trivial)⟩⟩ rfl rfl hl.1 rfl (lv_room (Nat.le_of_ble_eq_true rfl)) d_QB_feed_45 ⟨Nat.le_of_ble_eq_true rfl, Nat.le_of_ble_eq_true rfl⟩) hS (fun q _ h => hFc q h) hFc (fun u t H1 locs ht hvm hw hB hz1 hk1 hS => ?_)
    obtain ⟨hP1, hK1, hD1⟩ := hB
    rw [ht] at hP1
    obtain ⟨hP, hD⟩ := va_join (wr := [(q0, .inr (11, [.ref h0, r1, r2, r3, r4, r5, r6, r7]))]) (w1 := [(h0, .inr (8, [.ref qb, ru, .int uc, .int (nI (n + 12)), .int en, .int at_, .int pl])), (qb, .inl (cB, 4096, .inl (put4 (put4 (put4 f n a) (n + 4) b) (n + 8) c_)))]) hP hD [1, 2] [0] rfl rfl (by decide) (by decide) hk1 hFc hP1 hD1
    generalize H1 = H at hP hS ⊢
    have hP : va_P (dC, dI) classes [(q0, .inr (11, [.ref h0, r1, r2, r3, r4, r5, r6, r7])), (h0, .inr (8, [.ref qb, ru, .int uc, .int (nI (n + 12)), .int en, .int at_, .int pl])), (qb, .inl (cB, 4096, .inl (put4 (put4 (put4 f n a) (n + 4) b) (n + 8) c_)))] H := hP
    have hD : va_D A [(q0, .inr (11, [.ref h0, r1, r2, r3, r4, r5, r6, r7])), (h0, .inr (8, [.ref qb, ru, .int uc, .int (nI (n + 12)), .int en, .int at_, .int pl])), (qb, .inl (cB, 4096, .inl (put4 (put4 (put4 f n a) (n + 4) b) (n + 8) c_)))] := hD
    refine lv_aload_n hx hb d_QB_feed_48 rfl (lv_at hl 0 rfl) ?_
    refine va_get (D := (dC, dI)) (ci := 11) (v := .ref h0) (C := R_QB) (T := F_QB) (N := 8) hx hb hts in_QB hown hK hP 0 rfl rfl 0 (by decide) (hts _ w_151) (fun _ h9 => h9) rfl d_QB_feed_49 ?_
    refine lv_iload hx hb d_QB_feed_52 (lv_at hl 4 rfl) ?_
    have hPc := hP.sub (ws' := [(h0, .inr (8, [.ref qb, ru, .int uc, .int (nI (n + 12)), .int en, .int at_, .int pl])), (qb, .inl (cB, 4096, .inl (put4 (put4 (put4 f n a) (n + 4) b) (n + 8) c_)))]) [1, 2] rfl
    have hDc := hD.sub (ws' := [(h0, .inr (8, [.ref qb, ru, .int uc, .int (nI (n + 12)), .int en, .int at_, .int pl])), (qb, .inl (cB, 4096, .inl (put4 (put4 (put4 f n a) (n + 4) b) (n + 8) c_)))]) [1, 2] (by decide) rfl
    have hKc := hK.sub (tys' := [(cB, .byte)]) [0] rfl
    have hFc := va_free (wc := [(h0, .inr (8, [.ref qb, ru, .int uc, .int (nI (n + 12)), .int en, .int at_, .int pl])), (qb, .inl (cB, 4096, .inl (put4 (put4 (put4 f n a) (n + 4) b) (n + 8) c_)))]) hD hS hA [1, 2] rfl
    refine va_callv (va_runV (As := [.int d]) (rest := []) ⟨hx, hb, hml, hown, hts⟩ (c_Tape_put l dC dI cB h0 qb H ru uc en at_ pl (put4 (put4 (put4 f n a) (n + 4) b) (n + 8) c_) (n + 12) d (by omega)) (cwV 1 hts (gt_V (own := R_QB) (C := R_Tape) (i := 62) (y := y_Tape_put) i_Tape_put w_248 w_249 w_250 w_2) rfl rfl rfl (by decide +kernel) ⟨Nat.le_of_ble_eq_true rfl, Nat.le_of_ble_eq_true rfl⟩) ⟨mp_blind, va_recv hKc hPc (ci := 8) (q0 := 0) rfl rfl, fun U hU hW => ⟨rfl, hU, by rw [hU]; exact hPc, va_K.moved hW.alike hKc, hDc.weaken (fun _ _ _ _ => trivial)⟩⟩ rfl rfl hl.1 rfl (lv_room (Nat.le_of_ble_eq_true rfl)) d_QB_feed_54 ⟨Nat.le_of_ble_eq_true rfl, Nat.le_of_ble_eq_true rfl⟩) hS (fun q _ h => hFc q h) hFc (fun u t H1 locs ht hvm hw hB hz1 hk1 hS => ?_)
    obtain ⟨hP1, hK1, hD1⟩ := hB
    rw [ht] at hP1
    obtain ⟨hP, hD⟩ := va_join (wr := [(q0, .inr (11, [.ref h0, r1, r2, r3, r4, r5, r6, r7]))]) (w1 := [(h0, .inr (8, [.ref qb, ru, .int uc, .int (nI (n + 16)), .int en, .int at_, .int pl])), (qb, .inl (cB, 4096, .inl (put4 (put4 (put4 (put4 f n a) (n + 4) b) (n + 8) c_) (n + 12) d)))]) hP hD [1, 2] [0] rfl rfl (by decide) (by decide) hk1 hFc hP1 hD1
    generalize H1 = H at hP hS ⊢
    have hP : va_P (dC, dI) classes [(q0, .inr (11, [.ref h0, r1, r2, r3, r4, r5, r6, r7])), (h0, .inr (8, [.ref qb, ru, .int uc, .int (nI (n + 16)), .int en, .int at_, .int pl])), (qb, .inl (cB, 4096, .inl (put4 (put4 (put4 (put4 f n a) (n + 4) b) (n + 8) c_) (n + 12) d)))] H := hP
    have hD : va_D A [(q0, .inr (11, [.ref h0, r1, r2, r3, r4, r5, r6, r7])), (h0, .inr (8, [.ref qb, ru, .int uc, .int (nI (n + 16)), .int en, .int at_, .int pl])), (qb, .inl (cB, 4096, .inl (put4 (put4 (put4 (put4 f n a) (n + 4) b) (n + 8) c_) (n + 12) d)))] := hD
    refine lv_aload_n hx hb d_QB_feed_57 rfl (lv_at hl 0 rfl) ?_
    refine va_get (D := (dC, dI)) (ci := 11) (v := .ref h0) (C := R_QB) (T := F_QB) (N := 8) hx hb hts in_QB hown hK hP 0 rfl rfl 0 (by decide) (hts _ w_151) (fun _ h9 => h9) rfl d_QB_feed_58 ?_
    refine lv_iload hx hb d_QB_feed_61 (lv_at hl 5 rfl) ?_
    have hPc := hP.sub (ws' := [(h0, .inr (8, [.ref qb, ru, .int uc, .int (nI (n + 16)), .int en, .int at_, .int pl])), (qb, .inl (cB, 4096, .inl (put4 (put4 (put4 (put4 f n a) (n + 4) b) (n + 8) c_) (n + 12) d)))]) [1, 2] rfl
    have hDc := hD.sub (ws' := [(h0, .inr (8, [.ref qb, ru, .int uc, .int (nI (n + 16)), .int en, .int at_, .int pl])), (qb, .inl (cB, 4096, .inl (put4 (put4 (put4 (put4 f n a) (n + 4) b) (n + 8) c_) (n + 12) d)))]) [1, 2] (by decide) rfl
    have hKc := hK.sub (tys' := [(cB, .byte)]) [0] rfl
    have hFc := va_free (wc := [(h0, .inr (8, [.ref qb, ru, .int uc, .int (nI (n + 16)), .int en, .int at_, .int pl])), (qb, .inl (cB, 4096, .inl (put4 (put4 (put4 (put4 f n a) (n + 4) b) (n + 8) c_) (n + 12) d)))]) hD hS hA [1, 2] rfl
    refine va_callv (va_runV (As := [.int e_]) (rest := []) ⟨hx, hb, hml, hown, hts⟩ (c_Tape_put l dC dI cB h0 qb H ru uc en at_ pl (put4 (put4 (put4 (put4 f n a) (n + 4) b) (n + 8) c_) (n + 12) d) (n + 16) e_ (by omega)) (cwV 1 hts (gt_V (own := R_QB) (C := R_Tape) (i := 62) (y := y_Tape_put) i_Tape_put w_248 w_249 w_250 w_2) rfl rfl rfl (by decide +kernel) ⟨Nat.le_of_ble_eq_true rfl, Nat.le_of_ble_eq_true rfl⟩) ⟨mp_blind, va_recv hKc hPc (ci := 8) (q0 := 0) rfl rfl, fun U hU hW => ⟨rfl, hU, by rw [hU]; exact hPc, va_K.moved hW.alike hKc, hDc.weaken (fun _ _ _ _ => trivial)⟩⟩ rfl rfl hl.1 rfl (lv_room (Nat.le_of_ble_eq_true rfl)) d_QB_feed_63 ⟨Nat.le_of_ble_eq_true rfl, Nat.le_of_ble_eq_true rfl⟩) hS (fun q _ h => hFc q h) hFc (fun u t H1 locs ht hvm hw hB hz1 hk1 hS => ?_)
    obtain ⟨hP1, hK1, hD1⟩ := hB
    rw [ht] at hP1
    obtain ⟨hP, hD⟩ := va_join (wr := [(q0, .inr (11, [.ref h0, r1, r2, r3, r4, r5, r6, r7]))]) (w1 := [(h0, .inr (8, [.ref qb, ru, .int uc, .int (nI (n + 20)), .int en, .int at_, .int pl])), (qb, .inl (cB, 4096, .inl (put4 (put4 (put4 (put4 (put4 f n a) (n + 4) b) (n + 8) c_) (n + 12) d) (n + 16) e_)))]) hP hD [1, 2] [0] rfl rfl (by decide) (by decide) hk1 hFc hP1 hD1
    generalize H1 = H at hP hS ⊢
    have hP : va_P (dC, dI) classes [(q0, .inr (11, [.ref h0, r1, r2, r3, r4, r5, r6, r7])), (h0, .inr (8, [.ref qb, ru, .int uc, .int (nI (n + 20)), .int en, .int at_, .int pl])), (qb, .inl (cB, 4096, .inl (put4 (put4 (put4 (put4 (put4 f n a) (n + 4) b) (n + 8) c_) (n + 12) d) (n + 16) e_)))] H := hP
    have hD : va_D A [(q0, .inr (11, [.ref h0, r1, r2, r3, r4, r5, r6, r7])), (h0, .inr (8, [.ref qb, ru, .int uc, .int (nI (n + 20)), .int en, .int at_, .int pl])), (qb, .inl (cB, 4096, .inl (put4 (put4 (put4 (put4 (put4 f n a) (n + 4) b) (n + 8) c_) (n + 12) d) (n + 16) e_)))] := hD
    refine lv_aload_n hx hb d_QB_feed_66 rfl (lv_at hl 0 rfl) ?_
    refine va_get (D := (dC, dI)) (ci := 11) (v := .ref h0) (C := R_QB) (T := F_QB) (N := 8) hx hb hts in_QB hown hK hP 0 rfl rfl 0 (by decide) (hts _ w_151) (fun _ h9 => h9) rfl d_QB_feed_67 ?_
    refine va_get (D := (dC, dI)) (ci := 8) (v := .int (nI (n + 20))) (C := R_Tape) (T := F_Tape) (N := 7) hx hb hts in_Tape hown hK hP 1 rfl rfl 3 (by decide) (hts _ w_47) (fun _ h9 => h9) rfl d_QB_feed_70 ?_
    refine w_same (fun hq => ?_)
    refine W.widen (k := 1) (n := 6) (Nat.le_of_ble_eq_true rfl) (Nat.le_of_ble_eq_true rfl) ?_
    refine vx_ret ?_
    exact W.iret (v := (nI (n + 20))) hx hb hr (fun t ht hW => ⟨⟨(nI (n + 20)), (), rfl, ⟨hg, rfl⟩, ⟨by rw [ht]; exact hP, va_K.moved hW.alike hK, hD⟩, by rw [ht]; exact hq⟩, hS.F ht⟩) hS.2.2 d_QB_feed_73
  · have hg : ¬ n + 20 ≤ 4096 := fun h => c1 (by rw [show nI n + 20 = nI (n + 20) from nI_add n 20, show (4096 : Int32) = nI 4096 from rfl, nI_leI (by omega) (by omega)]; exact h)
    exact vx_throw0 (own := R_QB) (cls := "java/lang/IndexOutOfBoundsException") (names := ["java/lang/RuntimeException", "java/lang/Exception"]) hx hb hl9 hown (by decide +kernel) (by decide +kernel) (hts _ w_184) (hts _ w_12) (hat hts hN xa_QB_feed_16) xa_QB_feed_16_g hZ.1 hZ.2 hS (hl.1.trans hml.symm) d_QB_feed_16 d_QB_feed_19 d_QB_feed_20 d_QB_feed_23 (fun x hx => (hex x hx).elim) (Nat.le_of_ble_eq_true rfl) (Nat.le_of_ble_eq_true rfl) (Nat.le_of_ble_eq_true rfl) (Nat.le_of_ble_eq_true rfl) hlocks (fun t ha hsz hk => ⟨(), hg, ⟨rfl, hP.kept (fun k q hq => hk q.1 (hP k q hq).lt), va_K.moved ha hK, hD⟩, Nat.le_trans hS.1 hsz, fun q h1 h2 => (hk q (Nat.lt_of_lt_of_le h1 hS.1)).trans (hS.2.1 q h1 h2)⟩) hS.2.2 (Nat.le_of_ble_eq_true rfl) (Nat.le_of_ble_eq_true rfl)
