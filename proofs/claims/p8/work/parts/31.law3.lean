theorem w_1016 : (.methodLink "QueryBenchLaw" 42 ⟨"QueryBench", "count", "(I)I"⟩ : Cond) ∈ gtbl := gt_in 1016 (by decide +kernel) (by decide +kernel)
theorem w_1017 : (.instanceMethod ⟨"QueryBench", "count", "(I)I"⟩ : Cond) ∈ gtbl := gt_in 1017 (by decide +kernel) (by decide +kernel)
theorem w_1018 : (.selects "QueryBench" ⟨"QueryBench", "count", "(I)I"⟩ ⟨"QueryBench", "count", "(I)I"⟩ : Cond) ∈ gtbl := gt_in 1018 (by decide +kernel) (by decide +kernel)
abbrev b_Law_count : ByteArray := method_10_code
def y_Law_count : MethodName := ⟨"QueryBenchLaw", "count", "(LQueryBench;I[J)I"⟩
abbrev k_Law_count : Cond := .codeWith y_Law_count b_Law_count 4 (some .int) [(0, 9, 12, 19)]
theorem i_Law_count : k_Law_count ∈ gtbl := gt_in 1015 (by decide +kernel) (by decide +kernel)
theorem d_Law_count_0 : decode b_Law_count 0 = .ok (.aload_n 2, 1) := by decide +kernel
theorem d_Law_count_1 : decode b_Law_count 1 = .ok (.iconst 0, 1) := by decide +kernel
theorem d_Law_count_2 : decode b_Law_count 2 = .ok (.aload_n 0, 1) := by decide +kernel
theorem d_Law_count_3 : decode b_Law_count 3 = .ok (.iload_n 1, 1) := by decide +kernel
theorem d_Law_count_4 : decode b_Law_count 4 = .ok (.invokevirtual 42, 3) := by decide +kernel
theorem d_Law_count_7 : decode b_Law_count 7 = .ok (.i2l, 1) := by decide +kernel
theorem d_Law_count_8 : decode b_Law_count 8 = .ok (.lastore, 1) := by decide +kernel
theorem d_Law_count_9 : decode b_Law_count 9 = .ok (.goto 6, 3) := by decide +kernel
theorem d_Law_count_12 : decode b_Law_count 12 = .ok (.astore_n 3, 1) := by decide +kernel
theorem d_Law_count_13 : decode b_Law_count 13 = .ok (.iconst 1, 1) := by decide +kernel
theorem d_Law_count_14 : decode b_Law_count 14 = .ok (.ireturn, 1) := by decide +kernel
theorem d_Law_count_15 : decode b_Law_count 15 = .ok (.iconst 0, 1) := by decide +kernel
theorem d_Law_count_16 : decode b_Law_count 16 = .ok (.ireturn, 1) := by decide +kernel
set_option maxHeartbeats 4000000 in
set_option maxRecDepth 100000 in
/-- the law: count -/
theorem c_Law_count (l : Launch) (hl9 : l.stackTraces = false) (dC : Nat → ClassId) (dI : Nat → Nat → Nat) (q0 h0 p1 : Nat) (sz : Heap) (r1 r2 r3 r4 r5 r7 rb ru rpb rps : Value) (cJ : ClassId) (qo : Nat) (g : Nat → Int64) (uc ln en at_ pl rl nn : Int32) : Met l y_Law_count (k_Law_count :: gtbl) ({ frames := 9, cells := 1, slots := 6, locals := 140 }) (va_Pc [.ref q0, .int nn, .ref qo] (mx dC dI [(q0, .inr (11, [.ref h0, r1, r2, r3, r4, r5, .ref p1, r7])), (h0, .inr (8, [rb, ru, .int uc, .int ln, .int en, .int at_, .int pl])), (p1, .inr (3, [rpb, .int rl, rps])), (qo, .inl (cJ, 1, .inr (.inl g)))] [(cJ, .long)] sz)) (va_Qi (fun (r : Int32) (u : Nat → Int64) => ((¬ nn < 0 ∧ nn ≤ 2) ∧ r = 0 ∧ u = vp_updL g 0 (if nn = 0 then ln else if nn = 1 then rl else pl).toInt64) ∨ (¬ (¬ nn < 0 ∧ nn ≤ 2) ∧ r = 1 ∧ u = g)) (fun u => mz dC dI [(q0, .inr (11, [.ref h0, r1, r2, r3, r4, r5, .ref p1, r7])), (h0, .inr (8, [rb, ru, .int uc, .int ln, .int en, .int at_, .int pl])), (p1, .inr (3, [rpb, .int rl, rps])), (qo, .inl (cJ, 1, .inr (.inl u)))] [(cJ, .long)] (va_A [(q0, .inr (11, [.ref h0, r1, r2, r3, r4, r5, .ref p1, r7])), (h0, .inr (8, [rb, ru, .int uc, .int ln, .int en, .int at_, .int pl])), (p1, .inr (3, [rpb, .int rl, rps])), (qo, .inl (cJ, 1, .inr (.inl g)))] sz.size)) (va_A [(q0, .inr (11, [.ref h0, r1, r2, r3, r4, r5, .ref p1, r7])), (h0, .inr (8, [rb, ru, .int uc, .int ln, .int en, .int at_, .int pl])), (p1, .inr (3, [rpb, .int rl, rps])), (qo, .inl (cJ, 1, .inr (.inl g)))] sz.size)) 1 6 (va_A [(q0, .inr (11, [.ref h0, r1, r2, r3, r4, r5, .ref p1, r7])), (h0, .inr (8, [rb, ru, .int uc, .int ln, .int en, .int at_, .int pl])), (p1, .inr (3, [rpb, .int rl, rps])), (qo, .inl (cJ, 1, .inr (.inl g)))] sz.size) := by
  refine met_ofWH (cc := b_Law_count) (maxL := 4) (ret := (some .int)) (by decide) rfl ?_
  intro p e s m args below meth c s₁ B hml htab hv
  obtain ⟨rfl, ⟨hsz, hP, hK, hD0⟩, hN, hZ⟩ := hv
  have hx := B.exec
  have hb := B.bytes
  have hr := B.returns
  have hts0 := atoms_spec (ws := k_Law_count :: gtbl) B.pre
  have hts := fun w h => hts0 w (List.mem_cons_of_mem _ h)
  have hown : s.vm.findClass R_Law = some m.cls := findClass_of_methodNamed B.named
  have hlocks := B.notSynchronized
  subst hsz
  have hD := hD0.self (sz := s.heap.size)
  generalize hAe : va_A [(q0, .inr (11, [.ref h0, r1, r2, r3, r4, r5, .ref p1, r7])), (h0, .inr (8, [rb, ru, .int uc, .int ln, .int en, .int at_, .int pl])), (p1, .inr (3, [rpb, .int rl, rps])), (qo, .inl (cJ, 1, .inr (.inl g)))] s.heap.size = A at hD hZ ⊢
  have hA : ∀ q : Nat, s.heap.size ≤ q → A q := fun q h => by rw [← hAe]; exact Or.inr h
  have hS : va_S A s.heap s.heap [] := va_S.rf
  have hP : va_P (dC, dI) classes [(q0, .inr (11, [.ref h0, r1, r2, r3, r4, r5, .ref p1, r7])), (h0, .inr (8, [rb, ru, .int uc, .int ln, .int en, .int at_, .int pl])), (p1, .inr (3, [rpb, .int rl, rps])), (qo, .inl (cJ, 1, .inr (.inl g)))] s.heap := hP
  have hl := lv_entry ([.ref q0, .int nn, .ref qo]) (n := 4) (Nat.le_of_ble_eq_true rfl)
  rw [lg_entry_eq]
  generalize (lg_sl ([.ref q0, .int nn, .ref qo]) ++ List.replicate (4 - (lg_sl ([.ref q0, .int nn, .ref qo])).length) Slot.unset).toArray = ls at hl ⊢
  have hl : lv_has ls 4 [(0, .ref q0), (1, .int nn), (2, .ref qo)] := hl
  refine lv_aload_n hx hb d_Law_count_0 rfl (lv_at hl 2 rfl) ?_
  refine lv_iconst (v := 0) hx hb d_Law_count_1 (by decide) ?_
  refine lv_aload_n hx hb d_Law_count_2 rfl (lv_at hl 0 rfl) ?_
  refine lv_iload_n hx hb d_Law_count_3 rfl (lv_at hl 1 rfl) ?_
  have hPc := hP.sub (ws' := [(q0, .inr (11, [.ref h0, r1, r2, r3, r4, r5, .ref p1, r7])), (h0, .inr (8, [rb, ru, .int uc, .int ln, .int en, .int at_, .int pl])), (p1, .inr (3, [rpb, .int rl, rps]))]) [0, 1, 2] rfl
  have hDc := hD.sub (ws' := [(q0, .inr (11, [.ref h0, r1, r2, r3, r4, r5, .ref p1, r7])), (h0, .inr (8, [rb, ru, .int uc, .int ln, .int en, .int at_, .int pl])), (p1, .inr (3, [rpb, .int rl, rps]))]) [0, 1, 2] (by decide) rfl
  have hKc := hK.sub (tys' := []) [] rfl
  have hFc := va_free (wc := [(q0, .inr (11, [.ref h0, r1, r2, r3, r4, r5, .ref p1, r7])), (h0, .inr (8, [rb, ru, .int uc, .int ln, .int en, .int at_, .int pl])), (p1, .inr (3, [rpb, .int rl, rps]))]) hD hS hA [0, 1, 2] rfl
  refine w_same (fun hq0 => ?_)
  refine vx_calli (vx_runV (As := [.int nn]) (rest := [.int 0, .ref qo]) ⟨hx, hb, hml, hown, hts⟩ (c_QB_count l hl9 dC dI q0 h0 p1 s.heap r1 r2 r3 r4 r5 r7 rb ru rpb rps uc ln en at_ pl rl nn) (cwV 1 hts (gt_V (own := R_Law) (C := R_QB) (i := 42) (y := y_QB_count) i_QB_count w_1016 w_1017 w_1018 w_1) rfl rfl rfl (by decide +kernel) ⟨Nat.le_of_ble_eq_true rfl, Nat.le_of_ble_eq_true rfl⟩) ⟨mx_blind, va_recv hKc hPc (ci := 11) (q0 := 0) rfl rfl, fun U hU hW => ⟨rfl, ⟨hU, by rw [hU]; exact hPc, va_K.moved hW.alike hKc, hDc.weaken (fun _ _ _ _ => trivial)⟩, hN.warm hW, by rw [hU]; exact ZX.moved' hW.alike (ZX.narrow' (ZX.kept' hZ hS.2.1) hFc)⟩⟩ rfl rfl hl.1 rfl (lv_room (Nat.le_of_ble_eq_true rfl)) d_Law_count_4 ⟨Nat.le_of_ble_eq_true rfl, Nat.le_of_ble_eq_true rfl⟩) hS (fun q _ h => hFc q h) hFc (fun q _ h => hFc q h) (fun E ce q9 _u t H1 locs ht hvm hw hB hz1 hk1 hS hce hcv hcl => ?_) (fun r _u t H1 locs ht hvm hw hB hz1 hk1 hS => ?_)
  · obtain ⟨hE, hP1, hK1, hD1⟩ := hB
    rw [ht] at hP1
    obtain ⟨hP, hD⟩ := va_join (wr := [(qo, .inl (cJ, 1, .inr (.inl g)))]) (w1 := [(q0, .inr (11, [.ref h0, r1, r2, r3, r4, r5, .ref p1, r7])), (h0, .inr (8, [rb, ru, .int uc, .int ln, .int en, .int at_, .int pl])), (p1, .inr (3, [rpb, .int rl, rps]))]) hP hD [0, 1, 2] [3] rfl rfl (by decide) (by decide) hk1 hFc hP1 hD1
    generalize H1 = H at hP hS hce ⊢
    have hP : va_P (dC, dI) classes [(qo, .inl (cJ, 1, .inr (.inl g))), (q0, .inr (11, [.ref h0, r1, r2, r3, r4, r5, .ref p1, r7])), (h0, .inr (8, [rb, ru, .int uc, .int ln, .int en, .int at_, .int pl])), (p1, .inr (3, [rpb, .int rl, rps]))] H := hP
    have hD : va_D A [(qo, .inl (cJ, 1, .inr (.inl g))), (q0, .inr (11, [.ref h0, r1, r2, r3, r4, r5, .ref p1, r7])), (h0, .inr (8, [rb, ru, .int uc, .int ln, .int en, .int at_, .int pl])), (p1, .inr (3, [rpb, .int rl, rps]))] := hD
    have hP := hP.sub (ws' := [(q0, .inr (11, [.ref h0, r1, r2, r3, r4, r5, .ref p1, r7])), (h0, .inr (8, [rb, ru, .int uc, .int ln, .int en, .int at_, .int pl])), (p1, .inr (3, [rpb, .int rl, rps])), (qo, .inl (cJ, 1, .inr (.inl g)))]) [1, 2, 3, 0] rfl
    have hD := hD.sub (ws' := [(q0, .inr (11, [.ref h0, r1, r2, r3, r4, r5, .ref p1, r7])), (h0, .inr (8, [rb, ru, .int uc, .int ln, .int en, .int at_, .int pl])), (p1, .inr (3, [rpb, .int rl, rps])), (qo, .inl (cJ, 1, .inr (.inl g)))]) [1, 2, 3, 0] (by decide) rfl
    subst hE
    refine vx_catch (own := R_Law) (name := "java/lang/IllegalArgumentException") hown [] ⟨0, 9, 12, 19⟩ [] htab (fun z hz => nomatch hz) (by decide) (by decide) (hts _ w_255) (va_Nw.use rfl (hN _ nl_262)) hce hcv hcl ?_
    refine lv_astore_n (lv' := [(3, .ref q9), (0, .ref q0), (1, .int nn), (2, .ref qo)]) hx hb d_Law_count_12 rfl hl (by decide) rfl (fun ls hl => ?_)
    refine lv_iconst (v := 1) hx hb d_Law_count_13 (by decide) ?_
    refine W.widen (k := 1) (n := 6) (Nat.le_of_ble_eq_true rfl) (Nat.le_of_ble_eq_true rfl) ?_
    exact W.iret (v := 1) hx hb hr (fun t ht hW => ⟨⟨1, g, rfl, Or.inr ⟨hw, rfl, rfl⟩, by rw [ht]; exact hP, va_K.moved hW.alike hK, hD⟩, hS.F ht⟩) hS.2.2 d_Law_count_14
  · obtain ⟨⟨hP1, hK1, hD1⟩, hz9⟩ := hB
    rw [ht] at hP1
    rw [ht] at hz9
    refine w_tight (hq0.trans hz9) ?_
    have hq0 := hq0.trans hz9
    obtain ⟨hP, hD⟩ := va_join (wr := [(qo, .inl (cJ, 1, .inr (.inl g)))]) (w1 := [(q0, .inr (11, [.ref h0, r1, r2, r3, r4, r5, .ref p1, r7])), (h0, .inr (8, [rb, ru, .int uc, .int ln, .int en, .int at_, .int pl])), (p1, .inr (3, [rpb, .int rl, rps]))]) hP hD [0, 1, 2] [3] rfl rfl (by decide) (by decide) hk1 hFc hP1 hD1
    generalize H1 = H at hP hS ⊢
    have hP : va_P (dC, dI) classes [(qo, .inl (cJ, 1, .inr (.inl g))), (q0, .inr (11, [.ref h0, r1, r2, r3, r4, r5, .ref p1, r7])), (h0, .inr (8, [rb, ru, .int uc, .int ln, .int en, .int at_, .int pl])), (p1, .inr (3, [rpb, .int rl, rps]))] H := hP
    have hD : va_D A [(qo, .inl (cJ, 1, .inr (.inl g))), (q0, .inr (11, [.ref h0, r1, r2, r3, r4, r5, .ref p1, r7])), (h0, .inr (8, [rb, ru, .int uc, .int ln, .int en, .int at_, .int pl])), (p1, .inr (3, [rpb, .int rl, rps]))] := hD
    have hP := hP.sub (ws' := [(q0, .inr (11, [.ref h0, r1, r2, r3, r4, r5, .ref p1, r7])), (h0, .inr (8, [rb, ru, .int uc, .int ln, .int en, .int at_, .int pl])), (p1, .inr (3, [rpb, .int rl, rps])), (qo, .inl (cJ, 1, .inr (.inl g)))]) [1, 2, 3, 0] rfl
    have hD := hD.sub (ws' := [(q0, .inr (11, [.ref h0, r1, r2, r3, r4, r5, .ref p1, r7])), (h0, .inr (8, [rb, ru, .int uc, .int ln, .int en, .int at_, .int pl])), (p1, .inr (3, [rpb, .int rl, rps])), (qo, .inl (cJ, 1, .inr (.inl g)))]) [1, 2, 3, 0] (by decide) rfl
    obtain ⟨hok, hr9⟩ : (¬ nn < 0 ∧ nn ≤ 2) ∧ r = (if nn = 0 then ln else if nn = 1 then rl else pl) := hw
    rw [hr9]
    refine lv_i2l (v := (((if nn = 0 then ln else if nn = 1 then rl else pl))).toInt64) hx hb d_Law_count_7 rfl ?_
    refine va_last hx hb hK hP hD hS 3 0 rfl rfl (vp_in_nI (n := 0) (by decide) (by decide)) d_Law_count_8 (fun H locs hP hD hS => ?_)
    have hP : va_P (dC, dI) classes [(q0, .inr (11, [.ref h0, r1, r2, r3, r4, r5, .ref p1, r7])), (h0, .inr (8, [rb, ru, .int uc, .int ln, .int en, .int at_, .int pl])), (p1, .inr (3, [rpb, .int rl, rps])), (qo, .inl (cJ, 1, .inr (.inl (vp_updL g 0 ((if nn = 0 then ln else if nn = 1 then rl else pl)).toInt64))))] H := hP
    have hD : va_D A [(q0, .inr (11, [.ref h0, r1, r2, r3, r4, r5, .ref p1, r7])), (h0, .inr (8, [rb, ru, .int uc, .int ln, .int en, .int at_, .int pl])), (p1, .inr (3, [rpb, .int rl, rps])), (qo, .inl (cJ, 1, .inr (.inl (vp_updL g 0 ((if nn = 0 then ln else if nn = 1 then rl else pl)).toInt64))))] := hD
    refine lv_goto (tgt := 15) hx hb d_Law_count_9 (by decide) ?_
    refine lv_iconst (v := 0) hx hb d_Law_count_15 (by decide) ?_
    refine W.widen (k := 1) (n := 6) (Nat.le_of_ble_eq_true rfl) (Nat.le_of_ble_eq_true rfl) ?_
    exact W.iret (v := 0) hx hb hr (fun t ht hW => ⟨⟨0, vp_updL g 0 (if nn = 0 then ln else if nn = 1 then rl else pl).toInt64, rfl, Or.inl ⟨hok, rfl, rfl⟩, by rw [ht]; exact hP, va_K.moved hW.alike hK, hD⟩, hS.F ht⟩) hS.2.2 d_Law_count_16
