theorem w_255 : (.classLink "QueryBenchLaw" 19 "java/lang/IllegalArgumentException" : Cond) ∈ gtbl := gt_in 255 (by decide +kernel) (by decide +kernel)
theorem w_256 : (.methodLink "QueryBenchLaw" 15 ⟨"QueryBench", "end", "(I)I"⟩ : Cond) ∈ gtbl := gt_in 256 (by decide +kernel) (by decide +kernel)
theorem w_257 : (.instanceMethod ⟨"QueryBench", "end", "(I)I"⟩ : Cond) ∈ gtbl := gt_in 257 (by decide +kernel) (by decide +kernel)
theorem w_258 : (.selects "QueryBench" ⟨"QueryBench", "end", "(I)I"⟩ ⟨"QueryBench", "end", "(I)I"⟩ : Cond) ∈ gtbl := gt_in 258 (by decide +kernel) (by decide +kernel)
theorem nl_262 : (.castable "java/lang/IllegalArgumentException" "java/lang/IllegalArgumentException" : Cond) ∈ nwl := List.mem_filter.mpr ⟨List.mem_append_right _ (List.mem_of_getElem? (i := 262) (by decide +kernel)), rfl⟩
/-- a contract of a method with a table, which never throws -/
theorem met_ofWH {l : Launch} {y : MethodName} {ws ws' : List Cond} {rm : Room} {Pc : Array Value → State → Prop} {Qc : Array Value → State → Outcome → State → Prop} {mc ms : Nat} {free : Addr → Prop} {cc : ByteArray} {maxL : Nat} {ret : Option FieldType} {hh : List (Nat × Nat × Nat × Nat)}
    (hy : plainName y.cls = true) (hw : ws = Cond.codeWith y cc maxL ret hh :: ws')
    (body : ∀ p e s m args below meth c s₁, BodyLoose p l y (headSpec ws rm) cc maxL ret e s m args below meth c s₁ → c.maxLocals = maxL → c.exceptionTable.toList = tableOf hh → Pc args s →
      W p l e (headSpec ws rm).room s m args below meth c s.heap [] 0 0 (MQ below Qc args s mc ms free) (entryFrame m args maxL)) : Met l y ws rm Pc Qc mc ms free := by
  refine MetFree.of_bodyS (code := cc) (maxLocals := maxL) (ret := ret) hy ?_ ?_
  · intro args s m h hn
    obtain ⟨m9, meth, c, hn9, h1, h2, h3, h4, -, h5, h6, -⟩ := Cond.codeWith_spec (atoms_spec (ws := ws) h _ (by rw [hw]; exact List.mem_cons_self))
    cases hn.symm.trans hn9
    exact ⟨meth, c, h1, h2, h3, h4, h5, h6⟩
  · intro p e s m args below meth c s₁ B hml hP _
    have hh0 : s₁.heap = s.heap := by rw [B.state]; rfl
    have ht : c.exceptionTable.toList = tableOf hh := vx_table (x := y) B (atoms_spec (ws := ws) B.pre _ (by rw [hw]; exact List.mem_cons_self))
    obtain ⟨t, a1, o, b1, b2, b3⟩ := body p e s m args below meth c s₁ B hml ht hP s₁ hh0 (Stand.of_body B)
    exact ⟨t, o, a1, b1, b2, b3⟩
abbrev b_Law_end : ByteArray := method_4_code
def y_Law_end : MethodName := ⟨"QueryBenchLaw", "end", "(LQueryBench;I[J)I"⟩
abbrev k_Law_end : Cond := .codeWith y_Law_end b_Law_end 4 (some .int) [(0, 9, 12, 19)]
theorem i_Law_end : k_Law_end ∈ gtbl := gt_in 254 (by decide +kernel) (by decide +kernel)
theorem d_Law_end_0 : decode b_Law_end 0 = .ok (.aload_n 2, 1) := by decide +kernel
theorem d_Law_end_1 : decode b_Law_end 1 = .ok (.iconst 0, 1) := by decide +kernel
theorem d_Law_end_2 : decode b_Law_end 2 = .ok (.aload_n 0, 1) := by decide +kernel
theorem d_Law_end_3 : decode b_Law_end 3 = .ok (.iload_n 1, 1) := by decide +kernel
theorem d_Law_end_4 : decode b_Law_end 4 = .ok (.invokevirtual 15, 3) := by decide +kernel
theorem d_Law_end_7 : decode b_Law_end 7 = .ok (.i2l, 1) := by decide +kernel
theorem d_Law_end_8 : decode b_Law_end 8 = .ok (.lastore, 1) := by decide +kernel
theorem d_Law_end_9 : decode b_Law_end 9 = .ok (.goto 6, 3) := by decide +kernel
theorem d_Law_end_12 : decode b_Law_end 12 = .ok (.astore_n 3, 1) := by decide +kernel
theorem d_Law_end_13 : decode b_Law_end 13 = .ok (.iconst 1, 1) := by decide +kernel
theorem d_Law_end_14 : decode b_Law_end 14 = .ok (.ireturn, 1) := by decide +kernel
theorem d_Law_end_15 : decode b_Law_end 15 = .ok (.iconst 0, 1) := by decide +kernel
theorem d_Law_end_16 : decode b_Law_end 16 = .ok (.ireturn, 1) := by decide +kernel
set_option maxHeartbeats 4000000 in
set_option maxRecDepth 100000 in
/-- the law: end -/
theorem c_Law_end (l : Launch) (hl9 : l.stackTraces = false) (dC : Nat → ClassId) (dI : Nat → Nat → Nat) (cB : ClassId) (q0 h0 qb : Nat) (sz : Heap) (ru r1 r2 r3 r4 r5 r6 r7 : Value) (cJ : ClassId) (qo : Nat) (g : Nat → Int64) (uc ln en at_ pl : Int32) (f : Nat → Int32) (nn : Int32) : Met l y_Law_end (k_Law_end :: gtbl) ({ frames := 9, cells := 1, slots := 6, locals := 131 }) (va_Pc [.ref q0, .int nn, .ref qo] (mx dC dI [(q0, .inr (11, [.ref h0, r1, r2, r3, r4, r5, r6, r7])), (h0, .inr (8, [.ref qb, ru, .int uc, .int ln, .int en, .int at_, .int pl])), (qb, .inl (cB, 4096, .inl f)), (qo, .inl (cJ, 1, .inr (.inl g)))] [(cB, .byte), (cJ, .long)] sz)) (va_Qi (fun (r : Int32) (u : Int32 × (Nat → Int64)) => ((¬ nn < 0 ∧ nn ≤ ln) ∧ r = 0 ∧ u = (nn, vp_updL g 0 nn.toInt64)) ∨ (¬ (¬ nn < 0 ∧ nn ≤ ln) ∧ r = 1 ∧ u = (ln, g))) (fun u => mz dC dI [(q0, .inr (11, [.ref h0, r1, r2, r3, r4, r5, r6, r7])), (h0, .inr (8, [.ref qb, ru, .int uc, .int u.1, .int en, .int at_, .int pl])), (qb, .inl (cB, 4096, .inl f)), (qo, .inl (cJ, 1, .inr (.inl u.2)))] [(cB, .byte), (cJ, .long)] (va_A [(q0, .inr (11, [.ref h0, r1, r2, r3, r4, r5, r6, r7])), (h0, .inr (8, [.ref qb, ru, .int uc, .int ln, .int en, .int at_, .int pl])), (qb, .inl (cB, 4096, .inl f)), (qo, .inl (cJ, 1, .inr (.inl g)))] sz.size)) (va_A [(q0, .inr (11, [.ref h0, r1, r2, r3, r4, r5, r6, r7])), (h0, .inr (8, [.ref qb, ru, .int uc, .int ln, .int en, .int at_, .int pl])), (qb, .inl (cB, 4096, .inl f)), (qo, .inl (cJ, 1, .inr (.inl g)))] sz.size)) 1 6 (va_A [(q0, .inr (11, [.ref h0, r1, r2, r3, r4, r5, r6, r7])), (h0, .inr (8, [.ref qb, ru, .int uc, .int ln, .int en, .int at_, .int pl])), (qb, .inl (cB, 4096, .inl f)), (qo, .inl (cJ, 1, .inr (.inl g)))] sz.size) := by
  refine met_ofWH (cc := b_Law_end) (maxL := 4) (ret := (some .int)) (by decide) rfl ?_
  intro p e s m args below meth c s₁ B hml htab hv
  obtain ⟨rfl, ⟨hsz, hP, hK, hD0⟩, hN, hZ⟩ := hv
  have hx := B.exec
  have hb := B.bytes
  have hr := B.returns
  have hts0 := atoms_spec (ws := k_Law_end :: gtbl) B.pre
  have hts := fun w h => hts0 w (List.mem_cons_of_mem _ h)
  have hown : s.vm.findClass R_Law = some m.cls := findClass_of_methodNamed B.named
  have hlocks := B.notSynchronized
  subst hsz
  have hD := hD0.self (sz := s.heap.size)
  generalize hAe : va_A [(q0, .inr (11, [.ref h0, r1, r2, r3, r4, r5, r6, r7])), (h0, .inr (8, [.ref qb, ru, .int uc, .int ln, .int en, .int at_, .int pl])), (qb, .inl (cB, 4096, .inl f)), (qo, .inl (cJ, 1, .inr (.inl g)))] s.heap.size = A at hD hZ ⊢
  have hA : ∀ q : Nat, s.heap.size ≤ q → A q := fun q h => by rw [← hAe]; exact Or.inr h
  have hS : va_S A s.heap s.heap [] := va_S.rf
  have hP : va_P (dC, dI) classes [(q0, .inr (11, [.ref h0, r1, r2, r3, r4, r5, r6, r7])), (h0, .inr (8, [.ref qb, ru, .int uc, .int ln, .int en, .int at_, .int pl])), (qb, .inl (cB, 4096, .inl f)), (qo, .inl (cJ, 1, .inr (.inl g)))] s.heap := hP
  have hl := lv_entry ([.ref q0, .int nn, .ref qo]) (n := 4) (Nat.le_of_ble_eq_true rfl)
  rw [lg_entry_eq]
  generalize (lg_sl ([.ref q0, .int nn, .ref qo]) ++ List.replicate (4 - (lg_sl ([.ref q0, .int nn, .ref qo])).length) Slot.unset).toArray = ls at hl ⊢
  have hl : lv_has ls 4 [(0, .ref q0), (1, .int nn), (2, .ref qo)] := hl
  refine lv_aload_n hx hb d_Law_end_0 rfl (lv_at hl 2 rfl) ?_
  refine lv_iconst (v := 0) hx hb d_Law_end_1 (by decide) ?_
  refine lv_aload_n hx hb d_Law_end_2 rfl (lv_at hl 0 rfl) ?_
  refine lv_iload_n hx hb d_Law_end_3 rfl (lv_at hl 1 rfl) ?_
  have hPc := hP.sub (ws' := [(q0, .inr (11, [.ref h0, r1, r2, r3, r4, r5, r6, r7])), (h0, .inr (8, [.ref qb, ru, .int uc, .int ln, .int en, .int at_, .int pl])), (qb, .inl (cB, 4096, .inl f))]) [0, 1, 2] rfl
  have hDc := hD.sub (ws' := [(q0, .inr (11, [.ref h0, r1, r2, r3, r4, r5, r6, r7])), (h0, .inr (8, [.ref qb, ru, .int uc, .int ln, .int en, .int at_, .int pl])), (qb, .inl (cB, 4096, .inl f))]) [0, 1, 2] (by decide) rfl
  have hKc := hK.sub (tys' := [(cB, .byte)]) [0] rfl
  have hFc := va_free (wc := [(q0, .inr (11, [.ref h0, r1, r2, r3, r4, r5, r6, r7])), (h0, .inr (8, [.ref qb, ru, .int uc, .int ln, .int en, .int at_, .int pl])), (qb, .inl (cB, 4096, .inl f))]) hD hS hA [0, 1, 2] rfl
  refine w_same (fun hq0 => ?_)
  refine vx_calli (vx_runV (As := [.int nn]) (rest := [.int 0, .ref qo]) ⟨hx, hb, hml, hown, hts⟩ (c_QB_end l hl9 dC dI cB q0 h0 qb s.heap ru r1 r2 r3 r4 r5 r6 r7 uc ln en at_ pl f nn) (cwV 1 hts (gt_V (own := R_Law) (C := R_QB) (i := 15) (y := y_QB_end) i_QB_end w_256 w_257 w_258 w_1) rfl rfl rfl (by decide +kernel) ⟨Nat.le_of_ble_eq_true rfl, Nat.le_of_ble_eq_true rfl⟩) ⟨mx_blind, va_recv hKc hPc (ci := 11) (q0 := 0) rfl rfl, fun U hU hW => ⟨rfl, ⟨hU, by rw [hU]; exact hPc, va_K.moved hW.alike hKc, hDc.weaken (fun _ _ _ _ => trivial)⟩, hN.warm hW, by rw [hU]; exact ZX.moved' hW.alike (ZX.narrow' (ZX.kept' hZ hS.2.1) hFc)⟩⟩ rfl rfl hl.1 rfl (lv_room (Nat.le_of_ble_eq_true rfl)) d_Law_end_4 ⟨Nat.le_of_ble_eq_true rfl, Nat.le_of_ble_eq_true rfl⟩) hS (fun q _ h => hFc q h) hFc (fun q _ h => hFc q h) (fun E ce q9 _u t H1 locs ht hvm hw hB hz1 hk1 hS hce hcv hcl => ?_) (fun r _u t H1 locs ht hvm hw hB hz1 hk1 hS => ?_)
  · obtain ⟨hE, hP1, hK1, hD1⟩ := hB
    rw [ht] at hP1
    obtain ⟨hP, hD⟩ := va_join (wr := [(qo, .inl (cJ, 1, .inr (.inl g)))]) (w1 := [(q0, .inr (11, [.ref h0, r1, r2, r3, r4, r5, r6, r7])), (h0, .inr (8, [.ref qb, ru, .int uc, .int ln, .int en, .int at_, .int pl])), (qb, .inl (cB, 4096, .inl f))]) hP hD [0, 1, 2] [3] rfl rfl (by decide) (by decide) hk1 hFc hP1 hD1
    generalize H1 = H at hP hS hce ⊢
    have hP : va_P (dC, dI) classes [(qo, .inl (cJ, 1, .inr (.inl g))), (q0, .inr (11, [.ref h0, r1, r2, r3, r4, r5, r6, r7])), (h0, .inr (8, [.ref qb, ru, .int uc, .int ln, .int en, .int at_, .int pl])), (qb, .inl (cB, 4096, .inl f))] H := hP
    have hD : va_D A [(qo, .inl (cJ, 1, .inr (.inl g))), (q0, .inr (11, [.ref h0, r1, r2, r3, r4, r5, r6, r7])), (h0, .inr (8, [.ref qb, ru, .int uc, .int ln, .int en, .int at_, .int pl])), (qb, .inl (cB, 4096, .inl f))] := hD
    have hP := hP.sub (ws' := [(q0, .inr (11, [.ref h0, r1, r2, r3, r4, r5, r6, r7])), (h0, .inr (8, [.ref qb, ru, .int uc, .int ln, .int en, .int at_, .int pl])), (qb, .inl (cB, 4096, .inl f)), (qo, .inl (cJ, 1, .inr (.inl g)))]) [1, 2, 3, 0] rfl
    have hD := hD.sub (ws' := [(q0, .inr (11, [.ref h0, r1, r2, r3, r4, r5, r6, r7])), (h0, .inr (8, [.ref qb, ru, .int uc, .int ln, .int en, .int at_, .int pl])), (qb, .inl (cB, 4096, .inl f)), (qo, .inl (cJ, 1, .inr (.inl g)))]) [1, 2, 3, 0] (by decide) rfl
    subst hE
    refine vx_catch (own := R_Law) (name := "java/lang/IllegalArgumentException") hown [] ⟨0, 9, 12, 19⟩ [] htab (fun z hz => nomatch hz) (by decide) (by decide) (hts _ w_255) (va_Nw.use rfl (hN _ nl_262)) hce hcv hcl ?_
    refine lv_astore_n (lv' := [(3, .ref q9), (0, .ref q0), (1, .int nn), (2, .ref qo)]) hx hb d_Law_end_12 rfl hl (by decide) rfl (fun ls hl => ?_)
    refine lv_iconst (v := 1) hx hb d_Law_end_13 (by decide) ?_
    refine W.widen (k := 1) (n := 6) (Nat.le_of_ble_eq_true rfl) (Nat.le_of_ble_eq_true rfl) ?_
    exact W.iret (v := 1) hx hb hr (fun t ht hW => ⟨⟨1, (ln, g), rfl, Or.inr ⟨hw, rfl, rfl⟩, by rw [ht]; exact hP, va_K.moved hW.alike hK, hD⟩, hS.F ht⟩) hS.2.2 d_Law_end_14
  · obtain ⟨⟨hP1, hK1, hD1⟩, hz9⟩ := hB
    rw [ht] at hP1
    rw [ht] at hz9
    refine w_tight (hq0.trans hz9) ?_
    have hq0 := hq0.trans hz9
    obtain ⟨hP, hD⟩ := va_join (wr := [(qo, .inl (cJ, 1, .inr (.inl g)))]) (w1 := [(q0, .inr (11, [.ref h0, r1, r2, r3, r4, r5, r6, r7])), (h0, .inr (8, [.ref qb, ru, .int uc, .int nn, .int en, .int at_, .int pl])), (qb, .inl (cB, 4096, .inl f))]) hP hD [0, 1, 2] [3] rfl rfl (by decide) (by decide) hk1 hFc hP1 hD1
    generalize H1 = H at hP hS ⊢
    have hP : va_P (dC, dI) classes [(qo, .inl (cJ, 1, .inr (.inl g))), (q0, .inr (11, [.ref h0, r1, r2, r3, r4, r5, r6, r7])), (h0, .inr (8, [.ref qb, ru, .int uc, .int nn, .int en, .int at_, .int pl])), (qb, .inl (cB, 4096, .inl f))] H := hP
    have hD : va_D A [(qo, .inl (cJ, 1, .inr (.inl g))), (q0, .inr (11, [.ref h0, r1, r2, r3, r4, r5, r6, r7])), (h0, .inr (8, [.ref qb, ru, .int uc, .int nn, .int en, .int at_, .int pl])), (qb, .inl (cB, 4096, .inl f))] := hD
    have hP := hP.sub (ws' := [(q0, .inr (11, [.ref h0, r1, r2, r3, r4, r5, r6, r7])), (h0, .inr (8, [.ref qb, ru, .int uc, .int nn, .int en, .int at_, .int pl])), (qb, .inl (cB, 4096, .inl f)), (qo, .inl (cJ, 1, .inr (.inl g)))]) [1, 2, 3, 0] rfl
    have hD := hD.sub (ws' := [(q0, .inr (11, [.ref h0, r1, r2, r3, r4, r5, r6, r7])), (h0, .inr (8, [.ref qb, ru, .int uc, .int nn, .int en, .int at_, .int pl])), (qb, .inl (cB, 4096, .inl f)), (qo, .inl (cJ, 1, .inr (.inl g)))]) [1, 2, 3, 0] (by decide) rfl
    obtain ⟨hok, hr9⟩ : (¬ nn < 0 ∧ nn ≤ ln) ∧ r = nn := hw
    rw [hr9]
    refine lv_i2l (v := nn.toInt64) hx hb d_Law_end_7 rfl ?_
    refine va_last hx hb hK hP hD hS 3 1 rfl rfl (vp_in_nI (n := 0) (by decide) (by decide)) d_Law_end_8 (fun H locs hP hD hS => ?_)
    have hP : va_P (dC, dI) classes [(q0, .inr (11, [.ref h0, r1, r2, r3, r4, r5, r6, r7])), (h0, .inr (8, [.ref qb, ru, .int uc, .int nn, .int en, .int at_, .int pl])), (qb, .inl (cB, 4096, .inl f)), (qo, .inl (cJ, 1, .inr (.inl (vp_updL g 0 nn.toInt64))))] H := hP
    have hD : va_D A [(q0, .inr (11, [.ref h0, r1, r2, r3, r4, r5, r6, r7])), (h0, .inr (8, [.ref qb, ru, .int uc, .int nn, .int en, .int at_, .int pl])), (qb, .inl (cB, 4096, .inl f)), (qo, .inl (cJ, 1, .inr (.inl (vp_updL g 0 nn.toInt64))))] := hD
    refine lv_goto (tgt := 15) hx hb d_Law_end_9 (by decide) ?_
    refine lv_iconst (v := 0) hx hb d_Law_end_15 (by decide) ?_
    refine W.widen (k := 1) (n := 6) (Nat.le_of_ble_eq_true rfl) (Nat.le_of_ble_eq_true rfl) ?_
    exact W.iret (v := 0) hx hb hr (fun t ht hW => ⟨⟨0, (nn, vp_updL g 0 nn.toInt64), rfl, Or.inl ⟨hok, rfl, rfl⟩, by rw [ht]; exact hP, va_K.moved hW.alike hK, hD⟩, hS.F ht⟩) hS.2.2 d_Law_end_16
