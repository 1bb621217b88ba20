theorem z_526 : (.methodLink "QueryBenchLaw" 26 ⟨"QueryBench", "read", "()I"⟩ : Cond) ∈ gtbl := gt_in 526 (by decide +kernel) (by decide +kernel)
theorem z_527 : (.instanceMethod ⟨"QueryBench", "read", "()I"⟩ : Cond) ∈ gtbl := gt_in 527 (by decide +kernel) (by decide +kernel)
theorem z_528 : (.selects "QueryBench" ⟨"QueryBench", "read", "()I"⟩ ⟨"QueryBench", "read", "()I"⟩ : Cond) ∈ gtbl := gt_in 528 (by decide +kernel) (by decide +kernel)
theorem z_807 : (.classLink "QueryBenchLaw" 33 "java/lang/IllegalStateException" : Cond) ∈ gtbl := gt_in 807 (by decide +kernel) (by decide +kernel)
theorem z_808 : (.methodLink "QueryBenchLaw" 30 ⟨"QueryBench", "run", "(I)I"⟩ : Cond) ∈ gtbl := gt_in 808 (by decide +kernel) (by decide +kernel)
theorem z_809 : (.instanceMethod ⟨"QueryBench", "run", "(I)I"⟩ : Cond) ∈ gtbl := gt_in 809 (by decide +kernel) (by decide +kernel)
theorem z_810 : (.selects "QueryBench" ⟨"QueryBench", "run", "(I)I"⟩ ⟨"QueryBench", "run", "(I)I"⟩ : Cond) ∈ gtbl := gt_in 810 (by decide +kernel) (by decide +kernel)
theorem z_1002 : (.methodLink "QueryBenchLaw" 35 ⟨"QueryBench", "work", "(I)I"⟩ : Cond) ∈ gtbl := gt_in 1002 (by decide +kernel) (by decide +kernel)
theorem z_1003 : (.instanceMethod ⟨"QueryBench", "work", "(I)I"⟩ : Cond) ∈ gtbl := gt_in 1003 (by decide +kernel) (by decide +kernel)
theorem z_1004 : (.selects "QueryBench" ⟨"QueryBench", "work", "(I)I"⟩ ⟨"QueryBench", "work", "(I)I"⟩ : Cond) ∈ gtbl := gt_in 1004 (by decide +kernel) (by decide +kernel)
theorem z_1009 : (.methodLink "QueryBenchLaw" 38 ⟨"QueryBench", "word", "(I)J"⟩ : Cond) ∈ gtbl := gt_in 1009 (by decide +kernel) (by decide +kernel)
theorem z_1010 : (.instanceMethod ⟨"QueryBench", "word", "(I)J"⟩ : Cond) ∈ gtbl := gt_in 1010 (by decide +kernel) (by decide +kernel)
theorem z_1011 : (.selects "QueryBench" ⟨"QueryBench", "word", "(I)J"⟩ ⟨"QueryBench", "word", "(I)J"⟩ : Cond) ∈ gtbl := gt_in 1011 (by decide +kernel) (by decide +kernel)
theorem nz_818 : (.castable "java/lang/IllegalStateException" "java/lang/IllegalStateException" : Cond) ∈ nwl := List.mem_filter.mpr ⟨List.mem_append_right _ (List.mem_of_getElem? (i := 818) (by decide +kernel)), rfl⟩
abbrev b_Law_read : ByteArray := method_6_code
def y_Law_read : MethodName := ⟨"QueryBenchLaw", "read", "(LQueryBench;[J)I"⟩
abbrev k_Law_read : Cond := .codeWith y_Law_read b_Law_read 3 (some .int) [(0, 8, 11, 24)]
theorem i_Law_read : k_Law_read ∈ gtbl := gt_in 525 (by decide +kernel) (by decide +kernel)
theorem d_Law_read_0 : decode b_Law_read 0 = .ok (.aload_n 1, 1) := by decide +kernel
theorem d_Law_read_1 : decode b_Law_read 1 = .ok (.iconst 0, 1) := by decide +kernel
theorem d_Law_read_2 : decode b_Law_read 2 = .ok (.aload_n 0, 1) := by decide +kernel
theorem d_Law_read_3 : decode b_Law_read 3 = .ok (.invokevirtual 26, 3) := by decide +kernel
theorem d_Law_read_6 : decode b_Law_read 6 = .ok (.i2l, 1) := by decide +kernel
theorem d_Law_read_7 : decode b_Law_read 7 = .ok (.lastore, 1) := by decide +kernel
theorem d_Law_read_8 : decode b_Law_read 8 = .ok (.goto 6, 3) := by decide +kernel
theorem d_Law_read_11 : decode b_Law_read 11 = .ok (.astore_n 2, 1) := by decide +kernel
theorem d_Law_read_12 : decode b_Law_read 12 = .ok (.iconst 1, 1) := by decide +kernel
theorem d_Law_read_13 : decode b_Law_read 13 = .ok (.ireturn, 1) := by decide +kernel
theorem d_Law_read_14 : decode b_Law_read 14 = .ok (.iconst 0, 1) := by decide +kernel
theorem d_Law_read_15 : decode b_Law_read 15 = .ok (.ireturn, 1) := by decide +kernel
abbrev b_Law_work : ByteArray := method_8_code
def y_Law_work : MethodName := ⟨"QueryBenchLaw", "work", "(LQueryBench;I[J)I"⟩
abbrev k_Law_work : Cond := .codeWith y_Law_work b_Law_work 4 (some .int) [(0, 9, 12, 19), (0, 9, 15, 33), (0, 9, 18, 13)]
theorem i_Law_work : k_Law_work ∈ gtbl := gt_in 1001 (by decide +kernel) (by decide +kernel)
theorem d_Law_work_0 : decode b_Law_work 0 = .ok (.aload_n 2, 1) := by decide +kernel
theorem d_Law_work_1 : decode b_Law_work 1 = .ok (.iconst 0, 1) := by decide +kernel
theorem d_Law_work_2 : decode b_Law_work 2 = .ok (.aload_n 0, 1) := by decide +kernel
theorem d_Law_work_3 : decode b_Law_work 3 = .ok (.iload_n 1, 1) := by decide +kernel
theorem d_Law_work_4 : decode b_Law_work 4 = .ok (.invokevirtual 35, 3) := by decide +kernel
theorem d_Law_work_7 : decode b_Law_work 7 = .ok (.i2l, 1) := by decide +kernel
theorem d_Law_work_8 : decode b_Law_work 8 = .ok (.lastore, 1) := by decide +kernel
theorem d_Law_work_9 : decode b_Law_work 9 = .ok (.goto 12, 3) := by decide +kernel
theorem d_Law_work_12 : decode b_Law_work 12 = .ok (.astore_n 3, 1) := by decide +kernel
theorem d_Law_work_13 : decode b_Law_work 13 = .ok (.iconst 1, 1) := by decide +kernel
theorem d_Law_work_14 : decode b_Law_work 14 = .ok (.ireturn, 1) := by decide +kernel
theorem d_Law_work_15 : decode b_Law_work 15 = .ok (.astore_n 3, 1) := by decide +kernel
theorem d_Law_work_16 : decode b_Law_work 16 = .ok (.iconst 2, 1) := by decide +kernel
theorem d_Law_work_17 : decode b_Law_work 17 = .ok (.ireturn, 1) := by decide +kernel
theorem d_Law_work_18 : decode b_Law_work 18 = .ok (.astore_n 3, 1) := by decide +kernel
theorem d_Law_work_19 : decode b_Law_work 19 = .ok (.iconst 3, 1) := by decide +kernel
theorem d_Law_work_20 : decode b_Law_work 20 = .ok (.ireturn, 1) := by decide +kernel
theorem d_Law_work_21 : decode b_Law_work 21 = .ok (.iconst 0, 1) := by decide +kernel
theorem d_Law_work_22 : decode b_Law_work 22 = .ok (.ireturn, 1) := by decide +kernel
abbrev b_Law_run : ByteArray := method_7_code
def y_Law_run : MethodName := ⟨"QueryBenchLaw", "run", "(LQueryBench;I[J)I"⟩
abbrev k_Law_run : Cond := .codeWith y_Law_run b_Law_run 4 (some .int) [(0, 9, 12, 19), (0, 9, 15, 33), (0, 9, 18, 13)]
theorem i_Law_run : k_Law_run ∈ gtbl := gt_in 806 (by decide +kernel) (by decide +kernel)
theorem d_Law_run_0 : decode b_Law_run 0 = .ok (.aload_n 2, 1) := by decide +kernel
theorem d_Law_run_1 : decode b_Law_run 1 = .ok (.iconst 0, 1) := by decide +kernel
theorem d_Law_run_2 : decode b_Law_run 2 = .ok (.aload_n 0, 1) := by decide +kernel
theorem d_Law_run_3 : decode b_Law_run 3 = .ok (.iload_n 1, 1) := by decide +kernel
theorem d_Law_run_4 : decode b_Law_run 4 = .ok (.invokevirtual 30, 3) := by decide +kernel
theorem d_Law_run_7 : decode b_Law_run 7 = .ok (.i2l, 1) := by decide +kernel
theorem d_Law_run_8 : decode b_Law_run 8 = .ok (.lastore, 1) := by decide +kernel
theorem d_Law_run_9 : decode b_Law_run 9 = .ok (.goto 12, 3) := by decide +kernel
theorem d_Law_run_12 : decode b_Law_run 12 = .ok (.astore_n 3, 1) := by decide +kernel
theorem d_Law_run_13 : decode b_Law_run 13 = .ok (.iconst 1, 1) := by decide +kernel
theorem d_Law_run_14 : decode b_Law_run 14 = .ok (.ireturn, 1) := by decide +kernel
theorem d_Law_run_15 : decode b_Law_run 15 = .ok (.astore_n 3, 1) := by decide +kernel
theorem d_Law_run_16 : decode b_Law_run 16 = .ok (.iconst 2, 1) := by decide +kernel
theorem d_Law_run_17 : decode b_Law_run 17 = .ok (.ireturn, 1) := by decide +kernel
theorem d_Law_run_18 : decode b_Law_run 18 = .ok (.astore_n 3, 1) := by decide +kernel
theorem d_Law_run_19 : decode b_Law_run 19 = .ok (.iconst 3, 1) := by decide +kernel
theorem d_Law_run_20 : decode b_Law_run 20 = .ok (.ireturn, 1) := by decide +kernel
theorem d_Law_run_21 : decode b_Law_run 21 = .ok (.iconst 0, 1) := by decide +kernel
theorem d_Law_run_22 : decode b_Law_run 22 = .ok (.ireturn, 1) := by decide +kernel
abbrev b_Law_word : ByteArray := method_9_code
def y_Law_word : MethodName := ⟨"QueryBenchLaw", "word", "(LQueryBench;I[J)I"⟩
abbrev k_Law_word : Cond := .codeWith y_Law_word b_Law_word 4 (some .int) [(0, 8, 11, 13)]
theorem i_Law_word : k_Law_word ∈ gtbl := gt_in 1008 (by decide +kernel) (by decide +kernel)
theorem d_Law_word_0 : decode b_Law_word 0 = .ok (.aload_n 2, 1) := by decide +kernel
theorem d_Law_word_1 : decode b_Law_word 1 = .ok (.iconst 0, 1) := by decide +kernel
theorem d_Law_word_2 : decode b_Law_word 2 = .ok (.aload_n 0, 1) := by decide +kernel
theorem d_Law_word_3 : decode b_Law_word 3 = .ok (.iload_n 1, 1) := by decide +kernel
theorem d_Law_word_4 : decode b_Law_word 4 = .ok (.invokevirtual 38, 3) := by decide +kernel
theorem d_Law_word_7 : decode b_Law_word 7 = .ok (.lastore, 1) := by decide +kernel
theorem d_Law_word_8 : decode b_Law_word 8 = .ok (.goto 6, 3) := by decide +kernel
theorem d_Law_word_11 : decode b_Law_word 11 = .ok (.astore_n 3, 1) := by decide +kernel
theorem d_Law_word_12 : decode b_Law_word 12 = .ok (.iconst 1, 1) := by decide +kernel
theorem d_Law_word_13 : decode b_Law_word 13 = .ok (.ireturn, 1) := by decide +kernel
theorem d_Law_word_14 : decode b_Law_word 14 = .ok (.iconst 0, 1) := by decide +kernel
theorem d_Law_word_15 : decode b_Law_word 15 = .ok (.ireturn, 1) := by decide +kernel
set_option maxHeartbeats 4000000 in
set_option maxRecDepth 100000 in
/-- the law: word -/
theorem c_Law_word (l : Launch) (hl9 : l.stackTraces = false) (dC : Nat → ClassId) (dI : Nat → Nat → Nat) (cB cJ : ClassId) (sz : Heap) (qo : Nat) (g : Nat → Int64) (q0 p1 pb : Nat) (r0 r1 r2 r3 r4 r5 r7 rps : Value) (f : Nat → Int32) (n : Nat) (hn0 : n ≤ 16384) (d : Int32) : Met l y_Law_word (k_Law_word :: gtbl) ({ frames := 10, cells := 1, slots := 6, locals := 150 }) (va_Pc [.ref q0, .int d, .ref qo] (mx dC dI ([(q0, .inr (11, [r0, r1, r2, r3, r4, r5, .ref p1, r7])), (p1, .inr (3, [.ref pb, .int (nI n), rps])), (pb, .inl (cB, 16384, .inl f)), (qo, .inl (cJ, 1, .inr (.inl g)))]) [(cB, .byte), (cJ, .long)] sz)) (va_Qi (fun (r : Int32) (u : Nat → Int64) => (r = 0 ∧ ∃ k9, k9 < n ∧ d = nI k9 ∧ u 0 = wdC f n 8 k9 0) ∨ (r = 1 ∧ ¬ (¬ d < 0 ∧ d < nI n))) (fun u t9 => mz dC dI ([(q0, .inr (11, [r0, r1, r2, r3, r4, r5, .ref p1, r7])), (p1, .inr (3, [.ref pb, .int (nI n), rps])), (pb, .inl (cB, 16384, .inl f)), (qo, .inl (cJ, 1, .inr (.inl u)))]) [(cB, .byte), (cJ, .long)] (va_A ([(q0, .inr (11, [r0, r1, r2, r3, r4, r5, .ref p1, r7])), (p1, .inr (3, [.ref pb, .int (nI n), rps])), (pb, .inl (cB, 16384, .inl f)), (qo, .inl (cJ, 1, .inr (.inl g)))]) sz.size) t9 ∧ szk sz t9.heap (1) (6)) (va_A ([(q0, .inr (11, [r0, r1, r2, r3, r4, r5, .ref p1, r7])), (p1, .inr (3, [.ref pb, .int (nI n), rps])), (pb, .inl (cB, 16384, .inl f)), (qo, .inl (cJ, 1, .inr (.inl g)))]) sz.size)) (1) (6) (va_A ([(q0, .inr (11, [r0, r1, r2, r3, r4, r5, .ref p1, r7])), (p1, .inr (3, [.ref pb, .int (nI n), rps])), (pb, .inl (cB, 16384, .inl f)), (qo, .inl (cJ, 1, .inr (.inl g)))]) sz.size) := by
  refine met_ofWH (cc := b_Law_word) (maxL := 4) (ret := (some .int)) (by decide) rfl ?_
  intro p e s m args below meth c s₁ B hml htab hv
  obtain ⟨rfl, ⟨hsz, hP, hK, hD0⟩, hN, hZ⟩ := hv
  have hx := B.exec
  have hb := B.bytes
  have hr := B.returns
  have hts0 := atoms_spec (ws := k_Law_word :: gtbl) B.pre
  have hts := fun w h => hts0 w (List.mem_cons_of_mem _ h)
  have hown : s.vm.findClass R_Law = some m.cls := findClass_of_methodNamed B.named
  have hlocks := B.notSynchronized
  subst hsz
  have hD := hD0.self (sz := s.heap.size)
  generalize hAe : va_A ([(q0, .inr (11, [r0, r1, r2, r3, r4, r5, .ref p1, r7])), (p1, .inr (3, [.ref pb, .int (nI n), rps])), (pb, .inl (cB, 16384, .inl f)), (qo, .inl (cJ, 1, .inr (.inl g)))]) s.heap.size = A at hD hZ ⊢
  have hA : ∀ q : Nat, s.heap.size ≤ q → A q := fun q h => by rw [← hAe]; exact Or.inr h
  have hS : va_S A s.heap s.heap [] := va_S.rf
  have hP : va_P (dC, dI) classes ([(q0, .inr (11, [r0, r1, r2, r3, r4, r5, .ref p1, r7])), (p1, .inr (3, [.ref pb, .int (nI n), rps])), (pb, .inl (cB, 16384, .inl f)), (qo, .inl (cJ, 1, .inr (.inl g)))]) s.heap := hP
  have hl := lv_entry ([.ref q0, .int d, .ref qo]) (n := 4) (Nat.le_of_ble_eq_true rfl)
  rw [lg_entry_eq]
  generalize (lg_sl ([.ref q0, .int d, .ref qo]) ++ List.replicate (4 - (lg_sl ([.ref q0, .int d, .ref qo])).length) Slot.unset).toArray = ls at hl ⊢
  have hl : lv_has ls 4 [(0, .ref q0), (1, .int d), (2, .ref qo)] := hl
  refine lv_aload_n hx hb d_Law_word_0 rfl (lv_at hl 2 rfl) ?_
  refine lv_iconst (v := 0) hx hb d_Law_word_1 (by decide) ?_
  refine lv_aload_n hx hb d_Law_word_2 rfl (lv_at hl 0 rfl) ?_
  refine lv_iload_n hx hb d_Law_word_3 rfl (lv_at hl 1 rfl) ?_
  have hPc := hP.sub (ws' := [(q0, .inr (11, [r0, r1, r2, r3, r4, r5, .ref p1, r7])), (p1, .inr (3, [.ref pb, .int (nI n), rps])), (pb, .inl (cB, 16384, .inl f))]) [0, 1, 2] rfl
  have hDc := hD.sub (ws' := [(q0, .inr (11, [r0, r1, r2, r3, r4, r5, .ref p1, r7])), (p1, .inr (3, [.ref pb, .int (nI n), rps])), (pb, .inl (cB, 16384, .inl f))]) [0, 1, 2] (by decide) rfl
  have hFc := va_free (wc := [(q0, .inr (11, [r0, r1, r2, r3, r4, r5, .ref p1, r7])), (p1, .inr (3, [.ref pb, .int (nI n), rps])), (pb, .inl (cB, 16384, .inl f))]) hD hS hA [0, 1, 2] rfl
  have hKc := hK.sub (tys' := [(cB, .byte)]) [0] rfl
  refine w_same (fun hq0 => ?_)
  refine vx_calll (vx_runV (As := [.int d]) (rest := [.int 0, .ref qo]) ⟨hx, hb, hml, hown, hts⟩ (c_QB_word l hl9 dC dI cB q0 p1 pb s.heap r0 r1 r2 r3 r4 r5 r7 rps f n d hn0) (cwV 1 hts (gt_V (own := R_Law) (C := R_QB) (i := 38) (y := y_QB_word) i_QB_word z_1009 z_1010 z_1011 w_1) rfl rfl rfl (by decide +kernel) ⟨by show 8 + 1 ≤ 10; omega, by show 8 + (6 + 11) + 110 ≤ 150; omega⟩) ⟨mx_blind, va_recv hK hP (ci := 11) (q0 := 0) rfl rfl, fun U hU hW => ⟨rfl, ⟨hU, by rw [hU]; exact hPc, va_K.moved hW.alike hKc, hDc.weaken (fun _ _ _ _ => trivial)⟩, hN.warm hW, by rw [hU]; exact ZX.moved' hW.alike (ZX.narrow' (ZX.kept' hZ hS.2.1) hFc)⟩⟩ rfl rfl hl.1 rfl (lv_room (Nat.le_of_ble_eq_true rfl)) d_Law_word_4 ⟨Nat.le_of_ble_eq_true rfl, Nat.le_of_ble_eq_true rfl⟩) hS (fun q _ h => hFc q h) hFc (fun q _ h => hFc q h) (fun En ce q9 _u t9 H1 locs ht hvm hw hB hz1 hk1 hS hce hcv hcl => ?_) (fun r9 _u t9 H1 locs ht hvm hw hB hz1 hk1 hS => ?_)
  · obtain ⟨hEn, hP1, hK1, hD1⟩ := hB
    rw [ht] at hP1
    obtain ⟨hP, hD⟩ := va_join (wr := [(qo, .inl (cJ, 1, .inr (.inl g)))]) (w1 := [(q0, .inr (11, [r0, r1, r2, r3, r4, r5, .ref p1, r7])), (p1, .inr (3, [.ref pb, .int (nI n), rps])), (pb, .inl (cB, 16384, .inl f))]) hP hD [0, 1, 2] [3] rfl rfl (by decide) (by decide) hk1 hFc hP1 hD1
    generalize H1 = H at hP hS hce ⊢
    have hP : va_P (dC, dI) classes ([(qo, .inl (cJ, 1, .inr (.inl g))), (q0, .inr (11, [r0, r1, r2, r3, r4, r5, .ref p1, r7])), (p1, .inr (3, [.ref pb, .int (nI n), rps])), (pb, .inl (cB, 16384, .inl f))]) H := hP
    have hD : va_D A ([(qo, .inl (cJ, 1, .inr (.inl g))), (q0, .inr (11, [r0, r1, r2, r3, r4, r5, .ref p1, r7])), (p1, .inr (3, [.ref pb, .int (nI n), rps])), (pb, .inl (cB, 16384, .inl f))]) := hD
    have hP := hP.sub (ws' := [(q0, .inr (11, [r0, r1, r2, r3, r4, r5, .ref p1, r7])), (p1, .inr (3, [.ref pb, .int (nI n), rps])), (pb, .inl (cB, 16384, .inl f)), (qo, .inl (cJ, 1, .inr (.inl g)))]) [1, 2, 3, 0] rfl
    have hD := hD.sub (ws' := [(q0, .inr (11, [r0, r1, r2, r3, r4, r5, .ref p1, r7])), (p1, .inr (3, [.ref pb, .int (nI n), rps])), (pb, .inl (cB, 16384, .inl f)), (qo, .inl (cJ, 1, .inr (.inl g)))]) [1, 2, 3, 0] (by decide) rfl
    have hno : ¬ (¬ d < 0 ∧ d < nI n) := hw
    subst hEn
    refine vx_catch (own := R_Law) (name := "java/lang/IndexOutOfBoundsException") hown [] ⟨0, 8, 11, 13⟩ [] htab (fun z hz => nomatch hz) (by decide) (by decide) (hts _ w_179) (va_Nw.use rfl (hN _ nl_186)) hce hcv hcl ?_
    refine lv_astore_n (lv' := [(3, .ref q9), (0, .ref q0), (1, .int d), (2, .ref qo)]) hx hb d_Law_word_11 rfl hl (by decide) rfl (fun ls hl => ?_)
    refine lv_iconst (v := 1) hx hb d_Law_word_12 (by decide) ?_
    refine w_same (fun hq => ?_)
    refine W.widen (k := 1) (n := 6) (by show 1 ≤ 1; omega) (by show 6 ≤ 6; omega) ?_
    exact W.iret (v := 1) hx hb hr (fun t9 ht hW => ⟨⟨1, g, rfl, (Or.inr ⟨rfl, hno⟩), ⟨by rw [ht]; exact hP, va_K.moved hW.alike hK, hD⟩, by rw [ht]; exact hq.mono (by show 1 ≤ 1; omega) (by show 6 ≤ 6; omega)⟩, hS.F ht⟩) hS.2.2 d_Law_word_13
  · obtain ⟨⟨hP1, hK1, hD1⟩, hz9⟩ := hB
    rw [ht] at hP1
    rw [ht] at hz9
    have hq0 : szk s.heap H1 (0) (0) := (hq0.trans hz9).mono (Nat.le_refl _) (Nat.le_refl _)
    refine w_tight hq0 ?_
    obtain ⟨hP, hD⟩ := va_join (wr := [(qo, .inl (cJ, 1, .inr (.inl g)))]) (w1 := [(q0, .inr (11, [r0, r1, r2, r3, r4, r5, .ref p1, r7])), (p1, .inr (3, [.ref pb, .int (nI n), rps])), (pb, .inl (cB, 16384, .inl f))]) hP hD [0, 1, 2] [3] rfl rfl (by decide) (by decide) hk1 hFc hP1 hD1
    generalize H1 = H at hP hS hq0 ⊢
    have hP : va_P (dC, dI) classes ([(qo, .inl (cJ, 1, .inr (.inl g))), (q0, .inr (11, [r0, r1, r2, r3, r4, r5, .ref p1, r7])), (p1, .inr (3, [.ref pb, .int (nI n), rps])), (pb, .inl (cB, 16384, .inl f))]) H := hP
    have hD : va_D A ([(qo, .inl (cJ, 1, .inr (.inl g))), (q0, .inr (11, [r0, r1, r2, r3, r4, r5, .ref p1, r7])), (p1, .inr (3, [.ref pb, .int (nI n), rps])), (pb, .inl (cB, 16384, .inl f))]) := hD
    have hP := hP.sub (ws' := [(q0, .inr (11, [r0, r1, r2, r3, r4, r5, .ref p1, r7])), (p1, .inr (3, [.ref pb, .int (nI n), rps])), (pb, .inl (cB, 16384, .inl f)), (qo, .inl (cJ, 1, .inr (.inl g)))]) [1, 2, 3, 0] rfl
    have hD := hD.sub (ws' := [(q0, .inr (11, [r0, r1, r2, r3, r4, r5, .ref p1, r7])), (p1, .inr (3, [.ref pb, .int (nI n), rps])), (pb, .inl (cB, 16384, .inl f)), (qo, .inl (cJ, 1, .inr (.inl g)))]) [1, 2, 3, 0] (by decide) rfl
    obtain ⟨hok, hval⟩ := hw
    have hok : ¬ d < 0 ∧ d < nI n := hok
    have hval : ∀ k9, k9 < n ∧ d = nI k9 → r9 = wdC f n 8 k9 0 := hval
    obtain ⟨k9, hk9, hd9⟩ : ∃ k, k < n ∧ d = nI k := by
      rcases pk_ix d (n := n) (by omega) with h9 | h9 | h9
      · exact absurd h9 hok.1
      · exact absurd hok.2 (Int32.not_lt.mpr h9)
      · exact h9
    refine va_last hx hb hK hP hD hS 3 1 rfl rfl (vp_in_nI (n := 0) (by decide) (by decide)) d_Law_word_7 (fun H locs hP hD hS => ?_)
    have hP : va_P (dC, dI) classes ([(q0, .inr (11, [r0, r1, r2, r3, r4, r5, .ref p1, r7])), (p1, .inr (3, [.ref pb, .int (nI n), rps])), (pb, .inl (cB, 16384, .inl f)), (qo, .inl (cJ, 1, .inr (.inl (vp_updL g 0 r9))))]) H := hP
    have hD : va_D A ([(q0, .inr (11, [r0, r1, r2, r3, r4, r5, .ref p1, r7])), (p1, .inr (3, [.ref pb, .int (nI n), rps])), (pb, .inl (cB, 16384, .inl f)), (qo, .inl (cJ, 1, .inr (.inl (vp_updL g 0 r9))))]) := hD
    refine lv_goto (tgt := 14) hx hb d_Law_word_8 (by decide) ?_
    refine lv_iconst (v := 0) hx hb d_Law_word_14 (by decide) ?_
    refine w_same (fun hq => ?_)
    refine W.widen (k := 1) (n := 6) (by show 0 ≤ 1; omega) (by show 0 ≤ 6; omega) ?_
    exact W.iret (v := 0) hx hb hr (fun t9 ht hW => ⟨⟨0, vp_updL g 0 r9, rfl, (Or.inl ⟨rfl, k9, hk9, hd9, by rw [← hval k9 ⟨hk9, hd9⟩]; rfl⟩), ⟨by rw [ht]; exact hP, va_K.moved hW.alike hK, hD⟩, by rw [ht]; exact hq.mono (by show 0 ≤ 1; omega) (by show 0 ≤ 6; omega)⟩, hS.F ht⟩) hS.2.2 d_Law_word_15
