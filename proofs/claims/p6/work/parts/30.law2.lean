theorem w_179 : (.classLink "QueryBenchLaw" 13 "java/lang/IndexOutOfBoundsException" : Cond) ∈ gtbl := gt_in 179 (by decide +kernel) (by decide +kernel)
theorem w_180 : (.methodLink "QueryBenchLaw" 7 ⟨"QueryBench", "feed", "(IIIII)I"⟩ : Cond) ∈ gtbl := gt_in 180 (by decide +kernel) (by decide +kernel)
theorem w_181 : (.instanceMethod ⟨"QueryBench", "feed", "(IIIII)I"⟩ : Cond) ∈ gtbl := gt_in 181 (by decide +kernel) (by decide +kernel)
theorem w_182 : (.selects "QueryBench" ⟨"QueryBench", "feed", "(IIIII)I"⟩ ⟨"QueryBench", "feed", "(IIIII)I"⟩ : Cond) ∈ gtbl := gt_in 182 (by decide +kernel) (by decide +kernel)
theorem nl_186 : (.castable "java/lang/IndexOutOfBoundsException" "java/lang/IndexOutOfBoundsException" : Cond) ∈ nwl := List.mem_filter.mpr ⟨List.mem_append_right _ (List.mem_of_getElem? (i := 186) (by decide +kernel)), rfl⟩
abbrev b_Law_feed : ByteArray := method_3_code
def y_Law_feed : MethodName := ⟨"QueryBenchLaw", "feed", "(LQueryBench;IIIII[J)I"⟩
abbrev k_Law_feed : Cond := .codeWith y_Law_feed b_Law_feed 8 (some .int) [(0, 16, 19, 13)]
theorem i_Law_feed : k_Law_feed ∈ gtbl := gt_in 178 (by decide +kernel) (by decide +kernel)
theorem d_Law_feed_0 : decode b_Law_feed 0 = .ok (.aload 6, 2) := by decide +kernel
theorem d_Law_feed_2 : decode b_Law_feed 2 = .ok (.iconst 0, 1) := by decide +kernel
theorem d_Law_feed_3 : decode b_Law_feed 3 = .ok (.aload_n 0, 1) := by decide +kernel
theorem d_Law_feed_4 : decode b_Law_feed 4 = .ok (.iload_n 1, 1) := by decide +kernel
theorem d_Law_feed_5 : decode b_Law_feed 5 = .ok (.iload_n 2, 1) := by decide +kernel
theorem d_Law_feed_6 : decode b_Law_feed 6 = .ok (.iload_n 3, 1) := by decide +kernel
theorem d_Law_feed_7 : decode b_Law_feed 7 = .ok (.iload 4, 2) := by decide +kernel
theorem d_Law_feed_9 : decode b_Law_feed 9 = .ok (.iload 5, 2) := by decide +kernel
theorem d_Law_feed_11 : decode b_Law_feed 11 = .ok (.invokevirtual 7, 3) := by decide +kernel
theorem d_Law_feed_14 : decode b_Law_feed 14 = .ok (.i2l, 1) := by decide +kernel
theorem d_Law_feed_15 : decode b_Law_feed 15 = .ok (.lastore, 1) := by decide +kernel
theorem d_Law_feed_16 : decode b_Law_feed 16 = .ok (.goto 7, 3) := by decide +kernel
theorem d_Law_feed_19 : decode b_Law_feed 19 = .ok (.astore 7, 2) := by decide +kernel
theorem d_Law_feed_21 : decode b_Law_feed 21 = .ok (.iconst 1, 1) := by decide +kernel
theorem d_Law_feed_22 : decode b_Law_feed 22 = .ok (.ireturn, 1) := by decide +kernel
theorem d_Law_feed_23 : decode b_Law_feed 23 = .ok (.iconst 0, 1) := by decide +kernel
theorem d_Law_feed_24 : decode b_Law_feed 24 = .ok (.ireturn, 1) := by decide +kernel
set_option maxHeartbeats 4000000 in
set_option maxRecDepth 100000 in
/-- the law: feed -/
theorem c_Law_feed (l : Launch) (hl9 : l.stackTraces = false) (dC : Nat → ClassId) (dI : Nat → Nat → Nat) (cB : ClassId) (q0 h0 qb : Nat) (sz : Heap) (ru r1 r2 r3 r4 r5 r6 r7 : Value) (cJ : ClassId) (qo : Nat) (g : Nat → Int64) (uc en at_ pl : Int32) (f : Nat → Int32) (n : Nat) (a b c_ d e_ : Int32) (hn0 : n ≤ 4096) : Met l y_Law_feed (k_Law_feed :: gtbl) ({ frames := 9, cells := 1, slots := 6, locals := 140 }) (va_Pc [.ref q0, .int a, .int b, .int c_, .int d, .int e_, .ref qo] (mx dC dI [(q0, .inr (11, [.ref h0, r1, r2, r3, r4, r5, r6, r7])), (h0, .inr (8, [.ref qb, ru, .int uc, .int (nI n), .int en, .int at_, .int pl])), (qb, .inl (cB, 4096, .inl f)), (qo, .inl (cJ, 1, .inr (.inl g)))] [(cB, .byte), (cJ, .long)] sz)) (va_Qi (fun (r : Int32) (u : Nat × (Nat → Int32) × (Nat → Int64)) => (n + 20 ≤ 4096 ∧ r = 0 ∧ u = (n + 20, feed5 f n a b c_ d e_, vp_updL g 0 (nI (n + 20)).toInt64)) ∨ (¬ n + 20 ≤ 4096 ∧ r = 1 ∧ u = (n, f, g))) (fun u => mz dC dI [(q0, .inr (11, [.ref h0, r1, r2, r3, r4, r5, r6, r7])), (h0, .inr (8, [.ref qb, ru, .int uc, .int (nI u.1), .int en, .int at_, .int pl])), (qb, .inl (cB, 4096, .inl u.2.1)), (qo, .inl (cJ, 1, .inr (.inl u.2.2)))] [(cB, .byte), (cJ, .long)] (va_A [(q0, .inr (11, [.ref h0, r1, r2, r3, r4, r5, r6, r7])), (h0, .inr (8, [.ref qb, ru, .int uc, .int (nI n), .int en, .int at_, .int pl])), (qb, .inl (cB, 4096, .inl f)), (qo, .inl (cJ, 1, .inr (.inl g)))] sz.size)) (va_A [(q0, .inr (11, [.ref h0, r1, r2, r3, r4, r5, r6, r7])), (h0, .inr (8, [.ref qb, ru, .int uc, .int (nI n), .int en, .int at_, .int pl])), (qb, .inl (cB, 4096, .inl f)), (qo, .inl (cJ, 1, .inr (.inl g)))] sz.size)) 1 6 (va_A [(q0, .inr (11, [.ref h0, r1, r2, r3, r4, r5, r6, r7])), (h0, .inr (8, [.ref qb, ru, .int uc, .int (nI n), .int en, .int at_, .int pl])), (qb, .inl (cB, 4096, .inl f)), (qo, .inl (cJ, 1, .inr (.inl g)))] sz.size) := by
  refine met_ofWH (cc := b_Law_feed) (maxL := 8) (ret := (some .int)) (by decide) rfl ?_
  intro p e s m args below meth c s₁ B hml htab hv
  obtain ⟨rfl, ⟨hsz, hP, hK, hD0⟩, hN, hZ⟩ := hv
  have hx := B.exec
  have hb := B.bytes
  have hr := B.returns
  have hts0 := atoms_spec (ws := k_Law_feed :: gtbl) B.pre
  have hts := fun w h => hts0 w (List.mem_cons_of_mem _ h)
  have hown : s.vm.findClass R_Law = some m.cls := findClass_of_methodNamed B.named
  have hlocks := B.notSynchronized
  subst hsz
  have hD := hD0.self (sz := s.heap.size)
  generalize hAe : va_A [(q0, .inr (11, [.ref h0, r1, r2, r3, r4, r5, r6, r7])), (h0, .inr (8, [.ref qb, ru, .int uc, .int (nI n), .int en, .int at_, .int pl])), (qb, .inl (cB, 4096, .inl f)), (qo, .inl (cJ, 1, .inr (.inl g)))] s.heap.size = A at hD hZ ⊢
  have hA : ∀ q : Nat, s.heap.size ≤ q → A q := fun q h => by rw [← hAe]; exact Or.inr h
  have hS : va_S A s.heap s.heap [] := va_S.rf
  have hP : va_P (dC, dI) classes [(q0, .inr (11, [.ref h0, r1, r2, r3, r4, r5, r6, r7])), (h0, .inr (8, [.ref qb, ru, .int uc, .int (nI n), .int en, .int at_, .int pl])), (qb, .inl (cB, 4096, .inl f)), (qo, .inl (cJ, 1, .inr (.inl g)))] s.heap := hP
  have hl := lv_entry ([.ref q0, .int a, .int b, .int c_, .int d, .int e_, .ref qo]) (n := 8) (Nat.le_of_ble_eq_true rfl)
  rw [lg_entry_eq]
  generalize (lg_sl ([.ref q0, .int a, .int b, .int c_, .int d, .int e_, .ref qo]) ++ List.replicate (8 - (lg_sl ([.ref q0, .int a, .int b, .int c_, .int d, .int e_, .ref qo])).length) Slot.unset).toArray = ls at hl ⊢
  have hl : lv_has ls 8 [(0, .ref q0), (1, .int a), (2, .int b), (3, .int c_), (4, .int d), (5, .int e_), (6, .ref qo)] := hl
  refine lv_aload hx hb d_Law_feed_0 (lv_at hl 6 rfl) ?_
  refine lv_iconst (v := 0) hx hb d_Law_feed_2 (by decide) ?_
  refine lv_aload_n hx hb d_Law_feed_3 rfl (lv_at hl 0 rfl) ?_
  refine lv_iload_n hx hb d_Law_feed_4 rfl (lv_at hl 1 rfl) ?_
  refine lv_iload_n hx hb d_Law_feed_5 rfl (lv_at hl 2 rfl) ?_
  refine lv_iload_n hx hb d_Law_feed_6 rfl (lv_at hl 3 rfl) ?_
  refine lv_iload hx hb d_Law_feed_7 (lv_at hl 4 rfl) ?_
  refine lv_iload hx hb d_Law_feed_9 (lv_at hl 5 rfl) ?_
  have hPc := hP.sub (ws' := [(q0, .inr (11, [.ref h0, r1, r2, r3, r4, r5, r6, r7])), (h0, .inr (8, [.ref qb, ru, .int uc, .int (nI n), .int en, .int at_, .int pl])), (qb, .inl (cB, 4096, .inl f))]) [0, 1, 2] rfl
  have hDc := hD.sub (ws' := [(q0, .inr (11, [.ref h0, r1, r2, r3, r4, r5, r6, r7])), (h0, .inr (8, [.ref qb, ru, .int uc, .int (nI n), .int en, .int at_, .int pl])), (qb, .inl (cB, 4096, .inl f))]) [0, 1, 2] (by decide) rfl
  have hKc := hK.sub (tys' := [(cB, .byte)]) [0] rfl
  have hFc := va_free (wc := [(q0, .inr (11, [.ref h0, r1, r2, r3, r4, r5, r6, r7])), (h0, .inr (8, [.ref qb, ru, .int uc, .int (nI n), .int en, .int at_, .int pl])), (qb, .inl (cB, 4096, .inl f))]) hD hS hA [0, 1, 2] rfl
  refine w_same (fun hq0 => ?_)
  refine vx_calli (vx_runV (As := [.int a, .int b, .int c_, .int d, .int e_]) (rest := [.int 0, .ref qo]) ⟨hx, hb, hml, hown, hts⟩ (c_QB_feed l hl9 dC dI cB q0 h0 qb s.heap ru r1 r2 r3 r4 r5 r6 r7 uc en at_ pl f n a b c_ d e_ hn0) (cwV 5 hts (gt_V (own := R_Law) (C := R_QB) (i := 7) (y := y_QB_feed) i_QB_feed w_180 w_181 w_182 w_1) rfl rfl rfl (by decide +kernel) ⟨Nat.le_of_ble_eq_true rfl, Nat.le_of_ble_eq_true rfl⟩) ⟨mx_blind, va_recv hKc hPc (ci := 11) (q0 := 0) rfl rfl, fun U hU hW => ⟨rfl, ⟨hU, by rw [hU]; exact hPc, va_K.moved hW.alike hKc, hDc.weaken (fun _ _ _ _ => trivial)⟩, hN.warm hW, by rw [hU]; exact ZX.moved' hW.alike (ZX.narrow' (ZX.kept' hZ hS.2.1) hFc)⟩⟩ rfl rfl hl.1 rfl (lv_room (Nat.le_of_ble_eq_true rfl)) d_Law_feed_11 ⟨Nat.le_of_ble_eq_true rfl, Nat.le_of_ble_eq_true rfl⟩) hS (fun q _ h => hFc q h) hFc (fun q _ h => hFc q h) (fun E ce q9 _u t H1 locs ht hvm hw hB hz1 hk1 hS hce hcv hcl => ?_) (fun r _u t H1 locs ht hvm hw hB hz1 hk1 hS => ?_)
  · obtain ⟨hE, hP1, hK1, hD1⟩ := hB
    rw [ht] at hP1
    obtain ⟨hP, hD⟩ := va_join (wr := [(qo, .inl (cJ, 1, .inr (.inl g)))]) (w1 := [(q0, .inr (11, [.ref h0, r1, r2, r3, r4, r5, r6, r7])), (h0, .inr (8, [.ref qb, ru, .int uc, .int (nI n), .int en, .int at_, .int pl])), (qb, .inl (cB, 4096, .inl f))]) hP hD [0, 1, 2] [3] rfl rfl (by decide) (by decide) hk1 hFc hP1 hD1
    generalize H1 = H at hP hS hce ⊢
    have hP : va_P (dC, dI) classes [(qo, .inl (cJ, 1, .inr (.inl g))), (q0, .inr (11, [.ref h0, r1, r2, r3, r4, r5, r6, r7])), (h0, .inr (8, [.ref qb, ru, .int uc, .int (nI n), .int en, .int at_, .int pl])), (qb, .inl (cB, 4096, .inl f))] H := hP
    have hD : va_D A [(qo, .inl (cJ, 1, .inr (.inl g))), (q0, .inr (11, [.ref h0, r1, r2, r3, r4, r5, r6, r7])), (h0, .inr (8, [.ref qb, ru, .int uc, .int (nI n), .int en, .int at_, .int pl])), (qb, .inl (cB, 4096, .inl f))] := hD
    have hP := hP.sub (ws' := [(q0, .inr (11, [.ref h0, r1, r2, r3, r4, r5, r6, r7])), (h0, .inr (8, [.ref qb, ru, .int uc, .int (nI n), .int en, .int at_, .int pl])), (qb, .inl (cB, 4096, .inl f)), (qo, .inl (cJ, 1, .inr (.inl g)))]) [1, 2, 3, 0] rfl
    have hD := hD.sub (ws' := [(q0, .inr (11, [.ref h0, r1, r2, r3, r4, r5, r6, r7])), (h0, .inr (8, [.ref qb, ru, .int uc, .int (nI n), .int en, .int at_, .int pl])), (qb, .inl (cB, 4096, .inl f)), (qo, .inl (cJ, 1, .inr (.inl g)))]) [1, 2, 3, 0] (by decide) rfl
    subst hE
    refine vx_catch (own := R_Law) (name := "java/lang/IndexOutOfBoundsException") hown [] ⟨0, 16, 19, 13⟩ [] htab (fun z hz => nomatch hz) (by decide) (by decide) (hts _ w_179) (va_Nw.use rfl (hN _ nl_186)) hce hcv hcl ?_
    refine lv_astore (lv' := [(7, .ref q9), (0, .ref q0), (1, .int a), (2, .int b), (3, .int c_), (4, .int d), (5, .int e_), (6, .ref qo)]) hx hb d_Law_feed_19 hl (by decide) rfl (fun ls hl => ?_)
    refine lv_iconst (v := 1) hx hb d_Law_feed_21 (by decide) ?_
    refine W.widen (k := 1) (n := 6) (Nat.le_of_ble_eq_true rfl) (Nat.le_of_ble_eq_true rfl) ?_
    exact W.iret (v := 1) hx hb hr (fun t ht hW => ⟨⟨1, (n, f, g), rfl, Or.inr ⟨hw, rfl, rfl⟩, by rw [ht]; exact hP, va_K.moved hW.alike hK, hD⟩, hS.F ht⟩) hS.2.2 d_Law_feed_22
  · obtain ⟨⟨hP1, hK1, hD1⟩, hz9⟩ := hB
    rw [ht] at hP1
    rw [ht] at hz9
    refine w_tight (hq0.trans hz9) ?_
    have hq0 := hq0.trans hz9
    obtain ⟨hP, hD⟩ := va_join (wr := [(qo, .inl (cJ, 1, .inr (.inl g)))]) (w1 := [(q0, .inr (11, [.ref h0, r1, r2, r3, r4, r5, r6, r7])), (h0, .inr (8, [.ref qb, ru, .int uc, .int (nI (n + 20)), .int en, .int at_, .int pl])), (qb, .inl (cB, 4096, .inl (feed5 f n a b c_ d e_)))]) hP hD [0, 1, 2] [3] rfl rfl (by decide) (by decide) hk1 hFc hP1 hD1
    generalize H1 = H at hP hS ⊢
    have hP : va_P (dC, dI) classes [(qo, .inl (cJ, 1, .inr (.inl g))), (q0, .inr (11, [.ref h0, r1, r2, r3, r4, r5, r6, r7])), (h0, .inr (8, [.ref qb, ru, .int uc, .int (nI (n + 20)), .int en, .int at_, .int pl])), (qb, .inl (cB, 4096, .inl (feed5 f n a b c_ d e_)))] H := hP
    have hD : va_D A [(qo, .inl (cJ, 1, .inr (.inl g))), (q0, .inr (11, [.ref h0, r1, r2, r3, r4, r5, r6, r7])), (h0, .inr (8, [.ref qb, ru, .int uc, .int (nI (n + 20)), .int en, .int at_, .int pl])), (qb, .inl (cB, 4096, .inl (feed5 f n a b c_ d e_)))] := hD
    have hP := hP.sub (ws' := [(q0, .inr (11, [.ref h0, r1, r2, r3, r4, r5, r6, r7])), (h0, .inr (8, [.ref qb, ru, .int uc, .int (nI (n + 20)), .int en, .int at_, .int pl])), (qb, .inl (cB, 4096, .inl (feed5 f n a b c_ d e_))), (qo, .inl (cJ, 1, .inr (.inl g)))]) [1, 2, 3, 0] rfl
    have hD := hD.sub (ws' := [(q0, .inr (11, [.ref h0, r1, r2, r3, r4, r5, r6, r7])), (h0, .inr (8, [.ref qb, ru, .int uc, .int (nI (n + 20)), .int en, .int at_, .int pl])), (qb, .inl (cB, 4096, .inl (feed5 f n a b c_ d e_))), (qo, .inl (cJ, 1, .inr (.inl g)))]) [1, 2, 3, 0] (by decide) rfl
    obtain ⟨hok, hr9⟩ : n + 20 ≤ 4096 ∧ r = nI (n + 20) := hw
    rw [hr9]
    refine lv_i2l (v := ((nI (n + 20))).toInt64) hx hb d_Law_feed_14 rfl ?_
    refine va_last hx hb hK hP hD hS 3 1 rfl rfl (vp_in_nI (n := 0) (by decide) (by decide)) d_Law_feed_15 (fun H locs hP hD hS => ?_)
    have hP : va_P (dC, dI) classes [(q0, .inr (11, [.ref h0, r1, r2, r3, r4, r5, r6, r7])), (h0, .inr (8, [.ref qb, ru, .int uc, .int (nI (n + 20)), .int en, .int at_, .int pl])), (qb, .inl (cB, 4096, .inl (feed5 f n a b c_ d e_))), (qo, .inl (cJ, 1, .inr (.inl (vp_updL g 0 (nI (n + 20)).toInt64))))] H := hP
    have hD : va_D A [(q0, .inr (11, [.ref h0, r1, r2, r3, r4, r5, r6, r7])), (h0, .inr (8, [.ref qb, ru, .int uc, .int (nI (n + 20)), .int en, .int at_, .int pl])), (qb, .inl (cB, 4096, .inl (feed5 f n a b c_ d e_))), (qo, .inl (cJ, 1, .inr (.inl (vp_updL g 0 (nI (n + 20)).toInt64))))] := hD
    refine lv_goto (tgt := 23) hx hb d_Law_feed_16 (by decide) ?_
    refine lv_iconst (v := 0) hx hb d_Law_feed_23 (by decide) ?_
    refine W.widen (k := 1) (n := 6) (Nat.le_of_ble_eq_true rfl) (Nat.le_of_ble_eq_true rfl) ?_
    exact W.iret (v := 0) hx hb hr (fun t ht hW => ⟨⟨0, (n + 20, feed5 f n a b c_ d e_, vp_updL g 0 (nI (n + 20)).toInt64), rfl, Or.inl ⟨hok, rfl, rfl⟩, by rw [ht]; exact hP, va_K.moved hW.alike hK, hD⟩, hS.F ht⟩) hS.2.2 d_Law_feed_24
