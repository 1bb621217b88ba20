theorem w_15 : (.initialized "java/lang/UnsupportedOperationException" : Cond) ∈ gtbl := gt_in 15 (by decide +kernel) (by decide +kernel)
theorem w_363 : (.instanceMethod ⟨"QueryBench$Tape", "here", "()I"⟩ : Cond) ∈ gtbl := gt_in 363 (by decide +kernel) (by decide +kernel)
theorem w_364 : (.selects "QueryBench$Tape" ⟨"QueryBench$Tape", "here", "()I"⟩ ⟨"QueryBench$Tape", "here", "()I"⟩ : Cond) ∈ gtbl := gt_in 364 (by decide +kernel) (by decide +kernel)
theorem w_371 : (.instanceMethod ⟨"QueryBench$Tape", "fail", "(I)V"⟩ : Cond) ∈ gtbl := gt_in 371 (by decide +kernel) (by decide +kernel)
theorem w_372 : (.selects "QueryBench$Tape" ⟨"QueryBench$Tape", "fail", "(I)V"⟩ ⟨"QueryBench$Tape", "fail", "(I)V"⟩ : Cond) ∈ gtbl := gt_in 372 (by decide +kernel) (by decide +kernel)
theorem w_374 : (.classLink "QueryBench$Tape" 32 "java/lang/UnsupportedOperationException" : Cond) ∈ gtbl := gt_in 374 (by decide +kernel) (by decide +kernel)
theorem w_396 : (.methodLink "QueryBench$Tape" 35 ⟨"QueryBench$Tape", "here", "()I"⟩ : Cond) ∈ gtbl := gt_in 396 (by decide +kernel) (by decide +kernel)
theorem w_413 : (.methodLink "QueryBench$Tape" 39 ⟨"QueryBench$Tape", "fail", "(I)V"⟩ : Cond) ∈ gtbl := gt_in 413 (by decide +kernel) (by decide +kernel)
abbrev b_Tape_fail : ByteArray := prog_10_method_5_code
def y_Tape_fail : MethodName := ⟨"QueryBench$Tape", "fail", "(I)V"⟩
abbrev k_Tape_fail : Cond := .code y_Tape_fail b_Tape_fail 2 none
theorem i_Tape_fail : k_Tape_fail ∈ gtbl := gt_in 373 (by decide +kernel) (by decide +kernel)
theorem d_Tape_fail_0 : decode b_Tape_fail 0 = .ok (.aload_n 0, 1) := by decide +kernel
theorem d_Tape_fail_1 : decode b_Tape_fail 1 = .ok (.iload_n 1, 1) := by decide +kernel
theorem d_Tape_fail_2 : decode b_Tape_fail 2 = .ok (.putfield 19, 3) := by decide +kernel
theorem d_Tape_fail_5 : decode b_Tape_fail 5 = .ok (.new 32, 3) := by decide +kernel
theorem d_Tape_fail_8 : decode b_Tape_fail 8 = .ok (.dup, 1) := by decide +kernel
theorem d_Tape_fail_9 : decode b_Tape_fail 9 = .ok (.invokespecial 34, 3) := by decide +kernel
theorem d_Tape_fail_12 : decode b_Tape_fail 12 = .ok (.athrow, 1) := by decide +kernel
theorem xa_Tape_fail_5 : ∀ w ∈ vx_at0 R_Tape 34 "java/lang/UnsupportedOperationException" ["java/lang/RuntimeException", "java/lang/Exception"], (goodWord w = true ∧ w ∈ lw_tbl) ∨ w ∈ nwl := by decide +kernel
theorem xa_Tape_fail_5_g : ∀ w ∈ Cond.classLink R_Tape 32 "java/lang/UnsupportedOperationException" :: Cond.initialized "java/lang/UnsupportedOperationException" :: vx_at0 R_Tape 34 "java/lang/UnsupportedOperationException" ["java/lang/RuntimeException", "java/lang/Exception"], vx_ot w = true := by decide +kernel
set_option maxHeartbeats 4000000 in
set_option maxRecDepth 100000 in
/-- Tape.fail(where): it throws -/
theorem c_Tape_fail (l : Launch) (hl9 : l.stackTraces = false) (dC : Nat → ClassId) (dI : Nat → Nat → Nat) (cB : ClassId) (h0 qb : Nat) (sz : Heap) (ru : Value) (uc ln en at_ pl : Int32) (f : Nat → Int32) (wh : Int32) : vx_Met l y_Tape_fail (k_Tape_fail :: gtbl) ({ frames := 8, cells := 1, slots := 6, locals := 110 }) (va_Pc [.ref h0, .int wh] (mx dC dI [(h0, .inr (8, [.ref qb, ru, .int uc, .int ln, .int en, .int at_, .int pl])), (qb, .inl (cB, 4096, .inl f))] [(cB, .byte)] sz)) (va_Qv (fun (_ : Unit) => False) (fun _ t => mz dC dI [(h0, .inr (8, [.ref qb, ru, .int uc, .int ln, .int en, .int at_, .int pl])), (qb, .inl (cB, 4096, .inl f))] [(cB, .byte)] (va_A [(h0, .inr (8, [.ref qb, ru, .int uc, .int ln, .int en, .int at_, .int pl])), (qb, .inl (cB, 4096, .inl f))] sz.size) t ∧ szk sz t.heap 0 0) (va_A [(h0, .inr (8, [.ref qb, ru, .int uc, .int ln, .int en, .int at_, .int pl])), (qb, .inl (cB, 4096, .inl f))] sz.size)) (vx_X (fun _ : Unit => True) (fun E _ t => E = "java/lang/UnsupportedOperationException" ∧ mz dC dI [(h0, .inr (8, [.ref qb, ru, .int uc, .int ln, .int en, .int at_, .int wh])), (qb, .inl (cB, 4096, .inl f))] [(cB, .byte)] (va_A [(h0, .inr (8, [.ref qb, ru, .int uc, .int ln, .int en, .int at_, .int pl])), (qb, .inl (cB, 4096, .inl f))] sz.size) t) (va_A [(h0, .inr (8, [.ref qb, ru, .int uc, .int ln, .int en, .int at_, .int pl])), (qb, .inl (cB, 4096, .inl f))] sz.size)) 1 6 (va_A [(h0, .inr (8, [.ref qb, ru, .int uc, .int ln, .int en, .int at_, .int pl])), (qb, .inl (cB, 4096, .inl f))] sz.size) := by
  refine vx_ofW (cc := b_Tape_fail) (maxL := 2) (ret := none) (by decide) rfl ?_
  intro p e s m args below meth c s₁ B hml hex hv
  obtain ⟨rfl, ⟨hsz, hP, hK, hD0⟩, hN, hZ⟩ := hv
  have hx := B.exec
  have hb := B.bytes
  have hr := B.returns
  have hts0 := atoms_spec (ws := k_Tape_fail :: gtbl) B.pre
  have hts := fun w h => hts0 w (List.mem_cons_of_mem _ h)
  have hown : s.vm.findClass R_Tape = some m.cls := findClass_of_methodNamed B.named
  have hlocks := B.notSynchronized
  subst hsz
  have hD := hD0.self (sz := s.heap.size)
  generalize hAe : va_A [(h0, .inr (8, [.ref qb, ru, .int uc, .int ln, .int en, .int at_, .int pl])), (qb, .inl (cB, 4096, .inl f))] s.heap.size = A at hD hZ ⊢
  have hA : ∀ q : Nat, s.heap.size ≤ q → A q := fun q h => by rw [← hAe]; exact Or.inr h
  have hS : va_S A s.heap s.heap [] := va_S.rf
  have hP : va_P (dC, dI) classes [(h0, .inr (8, [.ref qb, ru, .int uc, .int ln, .int en, .int at_, .int pl])), (qb, .inl (cB, 4096, .inl f))] s.heap := hP
  have hl := lv_entry ([.ref h0, .int wh]) (n := 2) (Nat.le_of_ble_eq_true rfl)
  rw [lg_entry_eq]
  generalize (lg_sl ([.ref h0, .int wh]) ++ List.replicate (2 - (lg_sl ([.ref h0, .int wh])).length) Slot.unset).toArray = ls at hl ⊢
  have hl : lv_has ls 2 [(0, .ref h0), (1, .int wh)] := hl
  refine lv_aload_n hx hb d_Tape_fail_0 rfl (lv_at hl 0 rfl) ?_
  refine lv_iload_n hx hb d_Tape_fail_1 rfl (lv_at hl 1 rfl) ?_
  refine va_put (D := (dC, dI)) (ci := 8) (v := .int wh) (ty := .int) (C := R_Tape) (T := F_Tape) (N := 7) hx hb hts in_Tape t_Tape t_Tape_ok n_Tape hown hK hP hD hS 0 rfl rfl 6 (by decide) (hts _ w_55) (fun _ h9 => h9) rfl (by decide +kernel) rfl rfl (Nat.le_of_ble_eq_true rfl) d_Tape_fail_2 (fun H locs hP hD hS => ?_)
  have hP : va_P (dC, dI) classes [(h0, .inr (8, [.ref qb, ru, .int uc, .int ln, .int en, .int at_, .int wh])), (qb, .inl (cB, 4096, .inl f))] H := hP
  have hD : va_D A [(h0, .inr (8, [.ref qb, ru, .int uc, .int ln, .int en, .int at_, .int wh])), (qb, .inl (cB, 4096, .inl f))] := hD
  exact vx_throw0 (own := R_Tape) (cls := "java/lang/UnsupportedOperationException") (names := ["java/lang/RuntimeException", "java/lang/Exception"]) hx hb hl9 hown (by decide +kernel) (by decide +kernel) (hts _ w_374) (hts _ w_15) (hat hts hN xa_Tape_fail_5) xa_Tape_fail_5_g hZ.1 hZ.2 hS (hl.1.trans hml.symm) d_Tape_fail_5 d_Tape_fail_8 d_Tape_fail_9 d_Tape_fail_12 (fun x hx => (hex x hx).elim) (Nat.le_of_ble_eq_true rfl) (Nat.le_of_ble_eq_true rfl) (Nat.le_of_ble_eq_true rfl) (Nat.le_of_ble_eq_true rfl) hlocks (fun t ha hsz hk => ⟨(), trivial, ⟨rfl, hP.kept (fun k q hq => hk q.1 (hP k q hq).lt), va_K.moved ha hK, hD⟩, Nat.le_trans hS.1 hsz, fun q h1 h2 => (hk q (Nat.lt_of_lt_of_le h1 hS.1)).trans (hS.2.1 q h1 h2)⟩) hS.2.2 (Nat.le_of_ble_eq_true rfl) (Nat.le_of_ble_eq_true rfl)
abbrev b_Tape_takeIf : ByteArray := prog_10_method_6_code
def y_Tape_takeIf : MethodName := ⟨"QueryBench$Tape", "takeIf", "(I)Z"⟩
abbrev k_Tape_takeIf : Cond := .code y_Tape_takeIf b_Tape_takeIf 2 (some .boolean)
theorem i_Tape_takeIf : k_Tape_takeIf ∈ gtbl := gt_in 395 (by decide +kernel) (by decide +kernel)
theorem d_Tape_takeIf_0 : decode b_Tape_takeIf 0 = .ok (.aload_n 0, 1) := by decide +kernel
theorem d_Tape_takeIf_1 : decode b_Tape_takeIf 1 = .ok (.invokevirtual 35, 3) := by decide +kernel
theorem d_Tape_takeIf_4 : decode b_Tape_takeIf 4 = .ok (.iload_n 1, 1) := by decide +kernel
theorem d_Tape_takeIf_5 : decode b_Tape_takeIf 5 = .ok (.if_icmp .eq 5, 3) := by decide +kernel
theorem d_Tape_takeIf_8 : decode b_Tape_takeIf 8 = .ok (.iconst 0, 1) := by decide +kernel
theorem d_Tape_takeIf_9 : decode b_Tape_takeIf 9 = .ok (.ireturn, 1) := by decide +kernel
theorem d_Tape_takeIf_10 : decode b_Tape_takeIf 10 = .ok (.aload_n 0, 1) := by decide +kernel
theorem d_Tape_takeIf_11 : decode b_Tape_takeIf 11 = .ok (.dup, 1) := by decide +kernel
theorem d_Tape_takeIf_12 : decode b_Tape_takeIf 12 = .ok (.getfield 29, 3) := by decide +kernel
theorem d_Tape_takeIf_15 : decode b_Tape_takeIf 15 = .ok (.iconst 1, 1) := by decide +kernel
theorem d_Tape_takeIf_16 : decode b_Tape_takeIf 16 = .ok (.iadd, 1) := by decide +kernel
theorem d_Tape_takeIf_17 : decode b_Tape_takeIf 17 = .ok (.putfield 29, 3) := by decide +kernel
theorem d_Tape_takeIf_20 : decode b_Tape_takeIf 20 = .ok (.iconst 1, 1) := by decide +kernel
theorem d_Tape_takeIf_21 : decode b_Tape_takeIf 21 = .ok (.ireturn, 1) := by decide +kernel
set_option maxHeartbeats 4000000 in
set_option maxRecDepth 100000 in
/-- Tape.takeIf -/
theorem c_Tape_takeIf (l : Launch) (dC : Nat → ClassId) (dI : Nat → Nat → Nat) (cB : ClassId) (h0 qb : Nat) (sz : Heap) (ru : Value) (uc ln pl : Int32) (f : Nat → Int32) (n i : Nat) (b : Int32) (hn0 : n ≤ 4096) (hi0 : i ≤ 1000000) : Met l y_Tape_takeIf (k_Tape_takeIf :: gtbl) ({ frames := 1, cells := 0, slots := 0, locals := 20 }) (va_Pc [.ref h0, .int b] (mp dC dI [(h0, .inr (8, [.ref qb, ru, .int uc, .int ln, .int (nI n), .int (nI i), .int pl])), (qb, .inl (cB, 4096, .inl f))] [(cB, .byte)] sz)) (va_Qi (fun (r : Int32) (u : Nat) => (hereV f n i = b ∧ r = 1 ∧ u = i + 1) ∨ (hereV f n i ≠ b ∧ r = 0 ∧ u = i)) (fun u => mz dC dI [(h0, .inr (8, [.ref qb, ru, .int uc, .int ln, .int (nI n), .int (nI u), .int pl])), (qb, .inl (cB, 4096, .inl f))] [(cB, .byte)] (va_A [(h0, .inr (8, [.ref qb, ru, .int uc, .int ln, .int (nI n), .int (nI i), .int pl])), (qb, .inl (cB, 4096, .inl f))] sz.size)) (va_A [(h0, .inr (8, [.ref qb, ru, .int uc, .int ln, .int (nI n), .int (nI i), .int pl])), (qb, .inl (cB, 4096, .inl f))] sz.size)) 0 0 (va_A [(h0, .inr (8, [.ref qb, ru, .int uc, .int ln, .int (nI n), .int (nI i), .int pl])), (qb, .inl (cB, 4096, .inl f))] sz.size) := by
  refine Met.ofW (cc := b_Tape_takeIf) (maxL := 2) (ret := (some .boolean)) (by decide) rfl ?_
  intro p e s m args below meth c s₁ B hml hv
  obtain ⟨rfl, hsz, hP, hK, hD0⟩ := hv
  have hx := B.exec
  have hb := B.bytes
  have hr := B.returns
  have hts0 := atoms_spec (ws := k_Tape_takeIf :: gtbl) B.pre
  have hts := fun w h => hts0 w (List.mem_cons_of_mem _ h)
  have hown : s.vm.findClass R_Tape = some m.cls := findClass_of_methodNamed B.named
  have hlocks := B.notSynchronized
  subst hsz
  have hD := hD0.self (sz := s.heap.size)
  generalize hAe : va_A [(h0, .inr (8, [.ref qb, ru, .int uc, .int ln, .int (nI n), .int (nI i), .int pl])), (qb, .inl (cB, 4096, .inl f))] s.heap.size = A at hD ⊢
  have hA : ∀ q : Nat, s.heap.size ≤ q → A q := fun q h => by rw [← hAe]; exact Or.inr h
  have hS : va_S A s.heap s.heap [] := va_S.rf
  have hP : va_P (dC, dI) classes [(h0, .inr (8, [.ref qb, ru, .int uc, .int ln, .int (nI n), .int (nI i), .int pl])), (qb, .inl (cB, 4096, .inl f))] s.heap := hP
  have hl := lv_entry ([.ref h0, .int b]) (n := 2) (Nat.le_of_ble_eq_true rfl)
  rw [lg_entry_eq]
  generalize (lg_sl ([.ref h0, .int b]) ++ List.replicate (2 - (lg_sl ([.ref h0, .int b])).length) Slot.unset).toArray = ls at hl ⊢
  have hl : lv_has ls 2 [(0, .ref h0), (1, .int b)] := hl
  refine lv_aload_n hx hb d_Tape_takeIf_0 rfl (lv_at hl 0 rfl) ?_
  have hPc := hP.sub (ws' := [(h0, .inr (8, [.ref qb, ru, .int uc, .int ln, .int (nI n), .int (nI i), .int pl])), (qb, .inl (cB, 4096, .inl f))]) [0, 1] rfl
  have hDc := hD.sub (ws' := [(h0, .inr (8, [.ref qb, ru, .int uc, .int ln, .int (nI n), .int (nI i), .int pl])), (qb, .inl (cB, 4096, .inl f))]) [0, 1] (by decide) rfl
  have hKc := hK.sub (tys' := [(cB, .byte)]) [0] rfl
  have hFc := va_free (wc := [(h0, .inr (8, [.ref qb, ru, .int uc, .int ln, .int (nI n), .int (nI i), .int pl])), (qb, .inl (cB, 4096, .inl f))]) hD hS hA [0, 1] rfl
  refine va_calli (va_runV (As := []) (rest := []) ⟨hx, hb, hml, hown, hts⟩ (c_Tape_here l dC dI cB h0 qb s.heap ru uc ln pl f n i (by omega) (by omega)) (cwV 0 hts (gt_V (own := R_Tape) (C := R_Tape) (i := 35) (y := y_Tape_here) i_Tape_here w_396 w_363 w_364 w_2) rfl rfl rfl (by decide +kernel) ⟨Nat.le_of_ble_eq_true rfl, Nat.le_of_ble_eq_true rfl⟩) ⟨mp_blind, va_recv hKc hPc (ci := 8) (q0 := 0) rfl rfl, fun U hU hW => ⟨rfl, hU, by rw [hU]; exact hPc, va_K.moved hW.alike hKc, hDc.weaken (fun _ _ _ _ => trivial)⟩⟩ rfl rfl hl.1 rfl (lv_room (Nat.le_of_ble_eq_true rfl)) d_Tape_takeIf_1 ⟨Nat.le_of_ble_eq_true rfl, Nat.le_of_ble_eq_true rfl⟩) hS (fun q _ h => hFc q h) hFc (fun r u t H1 locs ht hvm hw hB hz1 hk1 hS => ?_)
  obtain ⟨hP1, hK1, hD1⟩ := hB
  rw [ht] at hP1
  obtain ⟨hP, hD⟩ := va_join (wr := []) (w1 := [(h0, .inr (8, [.ref qb, ru, .int uc, .int ln, .int (nI n), .int (nI i), .int pl])), (qb, .inl (cB, 4096, .inl f))]) hP hD [0, 1] [] rfl rfl (by decide) (by decide) hk1 hFc hP1 hD1
  generalize H1 = H at hP hS ⊢
  have hP : va_P (dC, dI) classes [(h0, .inr (8, [.ref qb, ru, .int uc, .int ln, .int (nI n), .int (nI i), .int pl])), (qb, .inl (cB, 4096, .inl f))] H := hP
  have hD : va_D A [(h0, .inr (8, [.ref qb, ru, .int uc, .int ln, .int (nI n), .int (nI i), .int pl])), (qb, .inl (cB, 4096, .inl f))] := hD
  have hw : r = hereV f n i := hw
  refine lv_iload_n hx hb d_Tape_takeIf_4 rfl (lv_at hl 1 rfl) ?_
  refine lv_icmp_eq (tgt := 10) hx hb d_Tape_takeIf_5 (by decide) (fun c5 => ?_) (fun c5 => ?_)
  · refine lv_aload_n hx hb d_Tape_takeIf_10 rfl (lv_at hl 0 rfl) ?_
    refine lv_dup hx hb d_Tape_takeIf_11 rfl ?_
    refine va_get (D := (dC, dI)) (ci := 8) (v := .int (nI i)) (C := R_Tape) (T := F_Tape) (N := 7) hx hb hts in_Tape hown hK hP 0 rfl rfl 5 (by decide) (hts _ w_54) (fun _ h9 => h9) rfl d_Tape_takeIf_12 ?_
    refine lv_iconst (v := 1) hx hb d_Tape_takeIf_15 (by decide) ?_
    refine lv_iadd hx hb d_Tape_takeIf_16 ?_
    refine W.eq (g2 := F0 m 17 ls [.int (nI (i + 1)), .ref h0]) (by rw [show ((nI i) + 1) = (nI (i + 1)) from nI_1 _]) ?_
    refine va_put (D := (dC, dI)) (ci := 8) (v := .int (nI (i + 1))) (ty := .int) (C := R_Tape) (T := F_Tape) (N := 7) hx hb hts in_Tape t_Tape t_Tape_ok n_Tape hown hK hP hD hS 0 rfl rfl 5 (by decide) (hts _ w_54) (fun _ h9 => h9) rfl (by decide +kernel) rfl rfl (Nat.le_of_ble_eq_true rfl) d_Tape_takeIf_17 (fun H locs hP hD hS => ?_)
    have hP : va_P (dC, dI) classes [(h0, .inr (8, [.ref qb, ru, .int uc, .int ln, .int (nI n), .int (nI (i + 1)), .int pl])), (qb, .inl (cB, 4096, .inl f))] H := hP
    have hD : va_D A [(h0, .inr (8, [.ref qb, ru, .int uc, .int ln, .int (nI n), .int (nI (i + 1)), .int pl])), (qb, .inl (cB, 4096, .inl f))] := hD
    refine lv_iconst (v := 1) hx hb d_Tape_takeIf_20 (by decide) ?_
    exact W.zret (v := 1) hx hb hr rfl (fun t ht hW => ⟨⟨1, i + 1, rfl, Or.inl ⟨hw.symm.trans c5, rfl, rfl⟩, by rw [ht]; exact hP, va_K.moved hW.alike hK, hD⟩, hS.F ht⟩) hS.2.2 d_Tape_takeIf_21
  · refine lv_iconst (v := 0) hx hb d_Tape_takeIf_8 (by decide) ?_
    exact W.zret (v := 0) hx hb hr rfl (fun t ht hW => ⟨⟨0, i, rfl, Or.inr ⟨fun h => c5 (hw.trans h), rfl, rfl⟩, by rw [ht]; exact hP, va_K.moved hW.alike hK, hD⟩, hS.F ht⟩) hS.2.2 d_Tape_takeIf_9
abbrev b_Tape_take : ByteArray := prog_10_method_7_code
def y_Tape_take : MethodName := ⟨"QueryBench$Tape", "take", "(I)V"⟩
abbrev k_Tape_take : Cond := .code y_Tape_take b_Tape_take 2 none
theorem i_Tape_take : k_Tape_take ∈ gtbl := gt_in 439 (by decide +kernel) (by decide +kernel)
theorem d_Tape_take_0 : decode b_Tape_take 0 = .ok (.aload_n 0, 1) := by decide +kernel
theorem d_Tape_take_1 : decode b_Tape_take 1 = .ok (.invokevirtual 35, 3) := by decide +kernel
theorem d_Tape_take_4 : decode b_Tape_take 4 = .ok (.iload_n 1, 1) := by decide +kernel
theorem d_Tape_take_5 : decode b_Tape_take 5 = .ok (.if_icmp .eq 11, 3) := by decide +kernel
theorem d_Tape_take_8 : decode b_Tape_take 8 = .ok (.aload_n 0, 1) := by decide +kernel
theorem d_Tape_take_9 : decode b_Tape_take 9 = .ok (.aload_n 0, 1) := by decide +kernel
theorem d_Tape_take_10 : decode b_Tape_take 10 = .ok (.getfield 29, 3) := by decide +kernel
theorem d_Tape_take_13 : decode b_Tape_take 13 = .ok (.invokevirtual 39, 3) := by decide +kernel
theorem d_Tape_take_16 : decode b_Tape_take 16 = .ok (.aload_n 0, 1) := by decide +kernel
theorem d_Tape_take_17 : decode b_Tape_take 17 = .ok (.dup, 1) := by decide +kernel
theorem d_Tape_take_18 : decode b_Tape_take 18 = .ok (.getfield 29, 3) := by decide +kernel
theorem d_Tape_take_21 : decode b_Tape_take 21 = .ok (.iconst 1, 1) := by decide +kernel
theorem d_Tape_take_22 : decode b_Tape_take 22 = .ok (.iadd, 1) := by decide +kernel
theorem d_Tape_take_23 : decode b_Tape_take 23 = .ok (.putfield 29, 3) := by decide +kernel
theorem d_Tape_take_26 : decode b_Tape_take 26 = .ok (.return_, 1) := by decide +kernel
set_option maxHeartbeats 4000000 in
set_option maxRecDepth 100000 in
/-- Tape.take -/
theorem c_Tape_take (l : Launch) (hl9 : l.stackTraces = false) (dC : Nat → ClassId) (dI : Nat → Nat → Nat) (cB : ClassId) (h0 qb : Nat) (sz : Heap) (ru : Value) (uc ln pl : Int32) (f : Nat → Int32) (n i : Nat) (b : Int32) (hn0 : n ≤ 4096) (hi0 : i ≤ 1000000) : vx_Met l y_Tape_take (k_Tape_take :: gtbl) ({ frames := 9, cells := 1, slots := 6, locals := 131 }) (va_Pc [.ref h0, .int b] (mx dC dI [(h0, .inr (8, [.ref qb, ru, .int uc, .int ln, .int (nI n), .int (nI i), .int pl])), (qb, .inl (cB, 4096, .inl f))] [(cB, .byte)] sz)) (va_Qv (fun (_ : Unit) => hereV f n i = b) (fun _ t => mz dC dI [(h0, .inr (8, [.ref qb, ru, .int uc, .int ln, .int (nI n), .int (nI (i + 1)), .int pl])), (qb, .inl (cB, 4096, .inl f))] [(cB, .byte)] (va_A [(h0, .inr (8, [.ref qb, ru, .int uc, .int ln, .int (nI n), .int (nI i), .int pl])), (qb, .inl (cB, 4096, .inl f))] sz.size) t ∧ szk sz t.heap 0 0) (va_A [(h0, .inr (8, [.ref qb, ru, .int uc, .int ln, .int (nI n), .int (nI i), .int pl])), (qb, .inl (cB, 4096, .inl f))] sz.size)) (vx_X (fun _ : Unit => hereV f n i ≠ b) (fun E _ t => E = "java/lang/UnsupportedOperationException" ∧ mz dC dI [(h0, .inr (8, [.ref qb, ru, .int uc, .int ln, .int (nI n), .int (nI i), .int (nI i)])), (qb, .inl (cB, 4096, .inl f))] [(cB, .byte)] (va_A [(h0, .inr (8, [.ref qb, ru, .int uc, .int ln, .int (nI n), .int (nI i), .int pl])), (qb, .inl (cB, 4096, .inl f))] sz.size) t) (va_A [(h0, .inr (8, [.ref qb, ru, .int uc, .int ln, .int (nI n), .int (nI i), .int pl])), (qb, .inl (cB, 4096, .inl f))] sz.size)) 1 6 (va_A [(h0, .inr (8, [.ref qb, ru, .int uc, .int ln, .int (nI n), .int (nI i), .int pl])), (qb, .inl (cB, 4096, .inl f))] sz.size) := by
  refine vx_ofW (cc := b_Tape_take) (maxL := 2) (ret := none) (by decide) rfl ?_
  intro p e s m args below meth c s₁ B hml hex hv
  obtain ⟨rfl, ⟨hsz, hP, hK, hD0⟩, hN, hZ⟩ := hv
  have hx := B.exec
  have hb := B.bytes
  have hr := B.returns
  have hts0 := atoms_spec (ws := k_Tape_take :: gtbl) B.pre
  have hts := fun w h => hts0 w (List.mem_cons_of_mem _ h)
  have hown : s.vm.findClass R_Tape = some m.cls := findClass_of_methodNamed B.named
  have hlocks := B.notSynchronized
  subst hsz
  have hD := hD0.self (sz := s.heap.size)
  generalize hAe : va_A [(h0, .inr (8, [.ref qb, ru, .int uc, .int ln, .int (nI n), .int (nI i), .int pl])), (qb, .inl (cB, 4096, .inl f))] s.heap.size = A at hD hZ ⊢
  have hA : ∀ q : Nat, s.heap.size ≤ q → A q := fun q h => by rw [← hAe]; exact Or.inr h
  have hS : va_S A s.heap s.heap [] := va_S.rf
  have hP : va_P (dC, dI) classes [(h0, .inr (8, [.ref qb, ru, .int uc, .int ln, .int (nI n), .int (nI i), .int pl])), (qb, .inl (cB, 4096, .inl f))] s.heap := hP
  have hl := lv_entry ([.ref h0, .int b]) (n := 2) (Nat.le_of_ble_eq_true rfl)
  rw [lg_entry_eq]
  generalize (lg_sl ([.ref h0, .int b]) ++ List.replicate (2 - (lg_sl ([.ref h0, .int b])).length) Slot.unset).toArray = ls at hl ⊢
  have hl : lv_has ls 2 [(0, .ref h0), (1, .int b)] := hl
  refine lv_aload_n hx hb d_Tape_take_0 rfl (lv_at hl 0 rfl) ?_
  have hPc := hP.sub (ws' := [(h0, .inr (8, [.ref qb, ru, .int uc, .int ln, .int (nI n), .int (nI i), .int pl])), (qb, .inl (cB, 4096, .inl f))]) [0, 1] rfl
  have hDc := hD.sub (ws' := [(h0, .inr (8, [.ref qb, ru, .int uc, .int ln, .int (nI n), .int (nI i), .int pl])), (qb, .inl (cB, 4096, .inl f))]) [0, 1] (by decide) rfl
  have hKc := hK.sub (tys' := [(cB, .byte)]) [0] rfl
  have hFc := va_free (wc := [(h0, .inr (8, [.ref qb, ru, .int uc, .int ln, .int (nI n), .int (nI i), .int pl])), (qb, .inl (cB, 4096, .inl f))]) hD hS hA [0, 1] rfl
  refine va_calli (va_runV (As := []) (rest := []) ⟨hx, hb, hml, hown, hts⟩ (c_Tape_here l dC dI cB h0 qb s.heap ru uc ln pl f n i (by omega) (by omega)) (cwV 0 hts (gt_V (own := R_Tape) (C := R_Tape) (i := 35) (y := y_Tape_here) i_Tape_here w_396 w_363 w_364 w_2) rfl rfl rfl (by decide +kernel) ⟨Nat.le_of_ble_eq_true rfl, Nat.le_of_ble_eq_true rfl⟩) ⟨mp_blind, va_recv hKc hPc (ci := 8) (q0 := 0) rfl rfl, fun U hU hW => ⟨rfl, hU, by rw [hU]; exact hPc, va_K.moved hW.alike hKc, hDc.weaken (fun _ _ _ _ => trivial)⟩⟩ rfl rfl hl.1 rfl (lv_room (Nat.le_of_ble_eq_true rfl)) d_Tape_take_1 ⟨Nat.le_of_ble_eq_true rfl, Nat.le_of_ble_eq_true rfl⟩) hS (fun q _ h => hFc q h) hFc (fun r u t H1 locs ht hvm hw hB hz1 hk1 hS => ?_)
  obtain ⟨hP1, hK1, hD1⟩ := hB
  rw [ht] at hP1
  obtain ⟨hP, hD⟩ := va_join (wr := []) (w1 := [(h0, .inr (8, [.ref qb, ru, .int uc, .int ln, .int (nI n), .int (nI i), .int pl])), (qb, .inl (cB, 4096, .inl f))]) hP hD [0, 1] [] rfl rfl (by decide) (by decide) hk1 hFc hP1 hD1
  generalize H1 = H at hP hS ⊢
  have hP : va_P (dC, dI) classes [(h0, .inr (8, [.ref qb, ru, .int uc, .int ln, .int (nI n), .int (nI i), .int pl])), (qb, .inl (cB, 4096, .inl f))] H := hP
  have hD : va_D A [(h0, .inr (8, [.ref qb, ru, .int uc, .int ln, .int (nI n), .int (nI i), .int pl])), (qb, .inl (cB, 4096, .inl f))] := hD
  have hw : r = hereV f n i := hw
  have hw0 := hw
  refine lv_iload_n hx hb d_Tape_take_4 rfl (lv_at hl 1 rfl) ?_
  refine lv_icmp_eq (tgt := 16) hx hb d_Tape_take_5 (by decide) (fun c5 => ?_) (fun c5 => ?_)
  · refine lv_aload_n hx hb d_Tape_take_16 rfl (lv_at hl 0 rfl) ?_
    refine lv_dup hx hb d_Tape_take_17 rfl ?_
    refine va_get (D := (dC, dI)) (ci := 8) (v := .int (nI i)) (C := R_Tape) (T := F_Tape) (N := 7) hx hb hts in_Tape hown hK hP 0 rfl rfl 5 (by decide) (hts _ w_54) (fun _ h9 => h9) rfl d_Tape_take_18 ?_
    refine lv_iconst (v := 1) hx hb d_Tape_take_21 (by decide) ?_
    refine lv_iadd hx hb d_Tape_take_22 ?_
    refine W.eq (g2 := F0 m 23 ls [.int (nI (i + 1)), .ref h0]) (by rw [show ((nI i) + 1) = (nI (i + 1)) from nI_1 _]) ?_
    refine va_put (D := (dC, dI)) (ci := 8) (v := .int (nI (i + 1))) (ty := .int) (C := R_Tape) (T := F_Tape) (N := 7) hx hb hts in_Tape t_Tape t_Tape_ok n_Tape hown hK hP hD hS 0 rfl rfl 5 (by decide) (hts _ w_54) (fun _ h9 => h9) rfl (by decide +kernel) rfl rfl (Nat.le_of_ble_eq_true rfl) d_Tape_take_23 (fun H locs hP hD hS => ?_)
    have hP : va_P (dC, dI) classes [(h0, .inr (8, [.ref qb, ru, .int uc, .int ln, .int (nI n), .int (nI (i + 1)), .int pl])), (qb, .inl (cB, 4096, .inl f))] H := hP
    have hD : va_D A [(h0, .inr (8, [.ref qb, ru, .int uc, .int ln, .int (nI n), .int (nI (i + 1)), .int pl])), (qb, .inl (cB, 4096, .inl f))] := hD
    refine w_same (fun hq => ?_)
    refine W.widen (k := 1) (n := 6) (Nat.le_of_ble_eq_true rfl) (Nat.le_of_ble_eq_true rfl) ?_
    refine vx_ret ?_
    exact W.vret hx hb hr (fun t ht hW => ⟨⟨(), rfl, hw0.symm.trans c5, ⟨by rw [ht]; exact hP, va_K.moved hW.alike hK, hD⟩, by rw [ht]; exact hq⟩, hS.F ht⟩) hS.2.2 d_Tape_take_26
  · refine lv_aload_n hx hb d_Tape_take_8 rfl (lv_at hl 0 rfl) ?_
    refine lv_aload_n hx hb d_Tape_take_9 rfl (lv_at hl 0 rfl) ?_
    refine va_get (D := (dC, dI)) (ci := 8) (v := .int (nI i)) (C := R_Tape) (T := F_Tape) (N := 7) hx hb hts in_Tape hown hK hP 0 rfl rfl 5 (by decide) (hts _ w_54) (fun _ h9 => h9) rfl d_Tape_take_10 ?_
    have hPc := hP.sub (ws' := [(h0, .inr (8, [.ref qb, ru, .int uc, .int ln, .int (nI n), .int (nI i), .int pl])), (qb, .inl (cB, 4096, .inl f))]) [0, 1] rfl
    have hDc := hD.sub (ws' := [(h0, .inr (8, [.ref qb, ru, .int uc, .int ln, .int (nI n), .int (nI i), .int pl])), (qb, .inl (cB, 4096, .inl f))]) [0, 1] (by decide) rfl
    have hKc := hK.sub (tys' := [(cB, .byte)]) [0] rfl
    have hFc := va_free (wc := [(h0, .inr (8, [.ref qb, ru, .int uc, .int ln, .int (nI n), .int (nI i), .int pl])), (qb, .inl (cB, 4096, .inl f))]) hD hS hA [0, 1] rfl
    refine w_same (fun hq0 => ?_)
    refine vx_callv (vx_runV (As := [.int (nI i)]) (rest := []) ⟨hx, hb, hml, hown, hts⟩ (c_Tape_fail l hl9 dC dI cB h0 qb H ru uc ln (nI n) (nI i) pl f (nI i)) (cwV 1 hts (gt_V (own := R_Tape) (C := R_Tape) (i := 39) (y := y_Tape_fail) i_Tape_fail w_413 w_371 w_372 w_2) rfl rfl rfl (by decide +kernel) ⟨Nat.le_of_ble_eq_true rfl, Nat.le_of_ble_eq_true rfl⟩) ⟨mx_blind, va_recv hKc hPc (ci := 8) (q0 := 0) rfl rfl, fun U hU hW => ⟨rfl, ⟨hU, by rw [hU]; exact hPc, va_K.moved hW.alike hKc, hDc.weaken (fun _ _ _ _ => trivial)⟩, hN.warm hW, by rw [hU]; exact ZX.moved' hW.alike (ZX.narrow' (ZX.kept' hZ hS.2.1) hFc)⟩⟩ rfl rfl hl.1 rfl (lv_room (Nat.le_of_ble_eq_true rfl)) d_Tape_take_13 ⟨Nat.le_of_ble_eq_true rfl, Nat.le_of_ble_eq_true rfl⟩) hS (fun q _ h => hFc q h) hFc (fun q _ h => hFc q h) (fun E ce q9 u t H1 locs ht hvm hw hB hz1 hk1 hS hce hcv hcl => ?_) (fun u t H1 locs ht hvm hw hB hz1 hk1 hS => ?_)
    · obtain ⟨hE, hP1, hK1, hD1⟩ := hB
      rw [ht] at hP1
      obtain ⟨hP, hD⟩ := va_join (wr := []) (w1 := [(h0, .inr (8, [.ref qb, ru, .int uc, .int ln, .int (nI n), .int (nI i), .int (nI i)])), (qb, .inl (cB, 4096, .inl f))]) hP hD [0, 1] [] rfl rfl (by decide) (by decide) hk1 hFc hP1 hD1
      generalize H1 = H at hP hS hce ⊢
      have hP : va_P (dC, dI) classes [(h0, .inr (8, [.ref qb, ru, .int uc, .int ln, .int (nI n), .int (nI i), .int (nI i)])), (qb, .inl (cB, 4096, .inl f))] H := hP
      have hD : va_D A [(h0, .inr (8, [.ref qb, ru, .int uc, .int ln, .int (nI n), .int (nI i), .int (nI i)])), (qb, .inl (cB, 4096, .inl f))] := hD
      exact vx_out (fun x hx => (hex x hx).elim) hlocks hce hcv hcl (fun t ht2 ha => ⟨(), fun h => c5 (hw0.trans h), ⟨hE, by rw [ht2]; exact hP, va_K.moved ha hK, hD⟩, hS.F ht2⟩) hS.2.2 (Nat.le_of_ble_eq_true rfl) (Nat.le_of_ble_eq_true rfl)
    · exact hw.elim
