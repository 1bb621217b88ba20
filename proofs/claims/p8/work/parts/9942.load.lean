theorem z_278 : (.classLink "QueryBenchLaw" 24 "java/lang/UnsupportedOperationException" : Cond) ∈ gtbl := gt_in 278 (by decide +kernel) (by decide +kernel)
theorem z_279 : (.methodLink "QueryBenchLaw" 21 ⟨"QueryBench", "load", "(I)I"⟩ : Cond) ∈ gtbl := gt_in 279 (by decide +kernel) (by decide +kernel)
theorem z_280 : (.instanceMethod ⟨"QueryBench", "load", "(I)I"⟩ : Cond) ∈ gtbl := gt_in 280 (by decide +kernel) (by decide +kernel)
theorem z_281 : (.selects "QueryBench" ⟨"QueryBench", "load", "(I)I"⟩ ⟨"QueryBench", "load", "(I)I"⟩ : Cond) ∈ gtbl := gt_in 281 (by decide +kernel) (by decide +kernel)
theorem nz_376 : (.castable "java/lang/UnsupportedOperationException" "java/lang/UnsupportedOperationException" : Cond) ∈ nwl := List.mem_filter.mpr ⟨List.mem_append_right _ (List.mem_of_getElem? (i := 376) (by decide +kernel)), rfl⟩
/-- what the law's own methods need beside: which thrown is none of which class -/
abbrev NCx (U : State) : Prop := va_Nc "java/lang/UnsupportedOperationException" "java/lang/IllegalArgumentException" U ∧ va_Nc "java/lang/IllegalStateException" "java/lang/IllegalArgumentException" U ∧ va_Nc "java/lang/IndexOutOfBoundsException" "java/lang/IllegalArgumentException" U ∧ va_Nc "java/lang/IndexOutOfBoundsException" "java/lang/IllegalStateException" U
abbrev mw (K : Nat → Nat × Nat) (dC : Nat → ClassId) (dI : Nat → Nat → Nat) (ws : va_W) (tys : List (ClassId × FieldType)) (sz : Heap) (U : State) : Prop := ml K dC dI ws tys sz U ∧ NCx U
theorem mw_blind {K : Nat → Nat × Nat} {dC : Nat → ClassId} {dI : Nat → Nat → Nat} {ws : va_W} {tys : List (ClassId × FieldType)} {sz : Heap} {vs : List Value} : FrameBlind (va_Pc vs (mw K dC dI ws tys sz)) := fun a U g mk q => by
  obtain ⟨q0, q1, n1, n2, n3, n4⟩ := q
  have h := ml_blind a U g mk ⟨q0, q1⟩
  exact ⟨h.1, h.2, va_Nc.moved (u := U) (U := U.calling g mk a) (Vm.Alike.refl U.vm) n1, va_Nc.moved (u := U) (U := U.calling g mk a) (Vm.Alike.refl U.vm) n2, va_Nc.moved (u := U) (U := U.calling g mk a) (Vm.Alike.refl U.vm) n3, va_Nc.moved (u := U) (U := U.calling g mk a) (Vm.Alike.refl U.vm) n4⟩
/-- the numbers of the values as they stand -/
def nuF (f : Nat → va_E) (a : Nat) : Int64 := match f a with
  | .inr (_, _ :: .long x :: _) => x
  | _ => 0
theorem pf_self (f : Nat → va_E) : pf f (nuF f) = f := by
  funext a
  unfold pf nuF
  split
  · rename_i h
    rw [h]
  · rfl
/-- the class between two calls: its pool, its documents, its query -/
def CIn (cI cV : ClassId) (E lv : Nat → Nat) (L : List Nat) (f : Nat → va_E) (dg : Nat → Option Nat) (qy : Option Nat) : Prop := PO cI cV E lv L f ∧ (∀ a, E a ≠ 1) ∧ (∀ j, j < 4 → oR (isF E) (dg j)) ∧ oR (fun q => E q = 7 ∧ lv q ≤ 80) qy
section CIns
variable {cI cV : ClassId} {E lv : Nat → Nat} {L : List Nat} {f : Nat → va_E} {dg : Nat → Option Nat} {qy : Option Nat}
theorem CIn.po (h : CIn cI cV E lv L f dg qy) : PO cI cV E lv L f := h.1
theorem CIn.same (h : CIn cI cV E lv L f dg qy) {f2 : Nat → va_E} (hf : ∀ a, E a ≠ 0 → f2 a = f a) : CIn cI cV E lv L f2 dg qy := ⟨h.1.go EX.rf.el (fun _ _ => rfl) (fun a ha => h.1.inL ha) (fun a ha => Or.inl ⟨rfl, hf a ha⟩), h.2⟩
theorem CIn.num (h : CIn cI cV E lv L f dg qy) (ν : Nat → Int64) : CIn cI cV E lv L (pf f ν) dg qy := ⟨h.1.num ν, h.2⟩
theorem CIn.load (h : CIn cI cV E lv L f dg qy) {n v p : Nat} {N : List Nat} {E' : Nat → Nat} {f' : Nat → va_E} {lb : Nat} (hJ : JP cI cV E lv L f none 0 n v p N E' f' lb) (j : Nat) : CIn cI cV E' lv (L ++ N) f' (va_up dg j (some v)) qy := by
  refine ⟨hJ.po, fun a ha => ?_, fun k hk => ?_, fun q hq => ?_⟩
  · by_cases h0 : E a = 0
    · exact hJ.2.2.2.2.1 a h0 ha
    · exact h.2.1 a ((hJ.ex a h0).symm.trans ha)
  · by_cases e : k = j
    · rw [e, va_up_self]
      intro b hb
      cases hb
      exact Or.inl hJ.v2.1
    · rw [va_up_ne _ _ e]
      exact (h.2.2.1 k hk).mono fun b hb => hJ.ex.el.f hb
  · have := h.2.2.2 q hq
    exact ⟨(hJ.ex q (by rw [this.1]; decide)).trans this.1, this.2⟩
theorem CIn.read (h : CIn cI cV E lv L f dg qy) {n v p z dm : Nat} {N : List Nat} {E' : Nat → Nat} {f' : Nat → va_E} (hQ : QPn cI cV E L f 0 n z 7 80 dm v p N E' f') : ∃ lv', CIn cI cV E' lv' (L ++ N) f' dg (some v) := by
  obtain ⟨lv', g, e⟩ := hQ.x lv h.po 80 (Nat.le_refl _)
  refine ⟨lv', g.po, fun a ha => ?_, fun k hk => ?_, fun q hq => ?_⟩
  · by_cases h0 : E a = 0
    · exact g.2.2.2.2.2.2.1 a h0 ha
    · exact h.2.1 a ((g.ex a h0).symm.trans ha)
  · exact (h.2.2.1 k hk).mono fun b hb => g.ex.el.f hb
  · cases hq
    exact ⟨hQ.so, Nat.le_of_eq e⟩
end CIns

set_option maxHeartbeats 4000000 in
set_option maxRecDepth 100000 in
/-- QueryBench.load, refused -/
theorem c_QB_loadBad (l : Launch) (hl9 : l.stackTraces = false) (dC : Nat → ClassId) (dI : Nat → Nat → Nat) (sz : Heap) (q0 : Nat) (r0 r1 r2 r3 r4 r5 r6 r7 : Value) (d : Int32) (hbad : ¬ (¬ d < 0 ∧ d < 4)) : vx_Met l y_QB_load (k_QB_load :: gtbl) ({ frames := 10, cells := 1, slots := 6, locals := 150 }) (va_Pc [.ref q0, .int d] (mx dC dI ([(q0, .inr (11, [r0, r1, r2, r3, r4, r5, r6, r7]))]) [] sz)) (va_Qi (fun (r : Int32) (u : Unit) => False) (fun u t9 => mz dC dI ([(q0, .inr (11, [r0, r1, r2, r3, r4, r5, r6, r7]))]) [] (va_A ([(q0, .inr (11, [r0, r1, r2, r3, r4, r5, r6, r7]))]) sz.size) t9 ∧ szk sz t9.heap (0) (0)) (va_A ([(q0, .inr (11, [r0, r1, r2, r3, r4, r5, r6, r7]))]) sz.size)) (vx_X (fun (u : Unit) => True) (fun En u t9 => En = IAX ∧ mz dC dI ([(q0, .inr (11, [r0, r1, r2, r3, r4, r5, r6, r7]))]) [] (va_A ([(q0, .inr (11, [r0, r1, r2, r3, r4, r5, r6, r7]))]) sz.size) t9) (va_A ([(q0, .inr (11, [r0, r1, r2, r3, r4, r5, r6, r7]))]) sz.size)) (1) (6) (va_A ([(q0, .inr (11, [r0, r1, r2, r3, r4, r5, r6, r7]))]) sz.size) := by
  refine vx_ofW (cc := b_QB_load) (maxL := 3) (ret := (some .int)) (by decide) rfl ?_
  intro p e s m args below meth c s₁ B hml hex hv
  obtain ⟨rfl, ⟨hsz, hP, hK, hD0⟩, hN, hZ⟩ := hv
  have hx := B.exec
  have hb := B.bytes
  have hr := B.returns
  have hts0 := atoms_spec (ws := k_QB_load :: gtbl) B.pre
  have hts := fun w h => hts0 w (List.mem_cons_of_mem _ h)
  have hown : s.vm.findClass R_QB = some m.cls := findClass_of_methodNamed B.named
  have hlocks := B.notSynchronized
  subst hsz
  have hD := hD0.self (sz := s.heap.size)
  generalize hAe : va_A ([(q0, .inr (11, [r0, r1, r2, r3, r4, r5, r6, r7]))]) s.heap.size = A at hD hZ ⊢
  have hA : ∀ q : Nat, s.heap.size ≤ q → A q := fun q h => by rw [← hAe]; exact Or.inr h
  have hS : va_S A s.heap s.heap [] := va_S.rf
  have hP : va_P (dC, dI) classes ([(q0, .inr (11, [r0, r1, r2, r3, r4, r5, r6, r7]))]) s.heap := hP
  have hl := lv_entry ([.ref q0, .int d]) (n := 3) (Nat.le_of_ble_eq_true rfl)
  rw [lg_entry_eq]
  generalize (lg_sl ([.ref q0, .int d]) ++ List.replicate (3 - (lg_sl ([.ref q0, .int d])).length) Slot.unset).toArray = ls at hl ⊢
  have hl : lv_has ls 3 [(0, .ref q0), (1, .int d)] := hl
  refine lv_iload_n hx hb d_QB_load_0 rfl (lv_at hl 1 rfl) ?_
  have hPc := hP.sub (ws' := []) [] rfl
  have hDc := hD.sub (ws' := []) [] (by decide) rfl
  have hFc := va_free (wc := []) hD hS hA [] rfl
  have hKc := hK.sub (tys' := []) [] rfl
  refine w_same (fun hq0 => ?_)
  refine vx_callv (vx_runS (As := [.int d]) (rest := []) ⟨hx, hb, hml, hown, hts⟩ (c_QB_checkNumber l hl9 dC dI s.heap d) (va_cwS 1 hts (gt_S (own := R_QB) (i := 69) (y := y_QB_checkNumber) i_QB_checkNumber z_283 z_284 w_1) rfl rfl rfl (by decide +kernel) ⟨by show 8 + 1 ≤ 10; omega, by show 8 + (1 + 11) + 110 ≤ 150; omega⟩) ⟨mx_blind, fun U hU hW => ⟨rfl, ⟨hU, by rw [hU]; exact hPc, va_K.moved hW.alike hKc, hDc.weaken (fun _ _ _ _ => trivial)⟩, hN.warm hW, by rw [hU]; exact ZX.moved' hW.alike (ZX.narrow' (ZX.kept' hZ hS.2.1) hFc)⟩⟩ rfl rfl hl.1 rfl (lv_room (Nat.le_of_ble_eq_true rfl)) d_QB_load_1 ⟨Nat.le_of_ble_eq_true rfl, Nat.le_of_ble_eq_true rfl⟩) hS (fun q _ h => hFc q h) hFc (fun q _ h => hFc q h) (fun En ce q9 _u t9 H1 locs ht hvm hw hB hz1 hk1 hS hce hcv hcl => ?_) (fun _u t9 H1 locs ht hvm hw hB hz1 hk1 hS => ?_)
  · obtain ⟨hEn, hP1, hK1, hD1⟩ := hB
    rw [ht] at hP1
    obtain ⟨hP, hD⟩ := va_join (wr := [(q0, .inr (11, [r0, r1, r2, r3, r4, r5, r6, r7]))]) (w1 := []) hP hD [] [0] rfl rfl (by decide) (by decide) hk1 hFc hP1 hD1
    generalize H1 = H at hP hS hce ⊢
    have hP : va_P (dC, dI) classes ([(q0, .inr (11, [r0, r1, r2, r3, r4, r5, r6, r7]))]) H := hP
    have hD : va_D A ([(q0, .inr (11, [r0, r1, r2, r3, r4, r5, r6, r7]))]) := hD
    exact vx_out (fun x hx => (hex x hx).elim) hlocks hce hcv hcl (fun t9 ht2 ha => ⟨(), trivial, ⟨hEn, by rw [ht2]; exact hP, va_K.moved ha hK, hD⟩, hS.F ht2⟩) hS.2.2 (Nat.le_of_ble_eq_true rfl) (Nat.le_of_ble_eq_true rfl)
  · obtain ⟨⟨hP1, hK1, hD1⟩, hz9⟩ := hB
    rw [ht] at hP1
    rw [ht] at hz9
    refine w_tight (hq0.trans hz9) ?_
    have hq0 := hq0.trans hz9
    obtain ⟨hP, hD⟩ := va_join (wr := [(q0, .inr (11, [r0, r1, r2, r3, r4, r5, r6, r7]))]) (w1 := []) hP hD [] [0] rfl rfl (by decide) (by decide) hk1 hFc hP1 hD1
    generalize H1 = H at hP hS hq0 ⊢
    have hP : va_P (dC, dI) classes ([(q0, .inr (11, [r0, r1, r2, r3, r4, r5, r6, r7]))]) H := hP
    have hD : va_D A ([(q0, .inr (11, [r0, r1, r2, r3, r4, r5, r6, r7]))]) := hD
    exact absurd hw hbad
abbrev b_Law_load : ByteArray := method_5_code
def y_Law_load : MethodName := ⟨"QueryBenchLaw", "load", "(LQueryBench;I[J)I"⟩
abbrev k_Law_load : Cond := .codeWith y_Law_load b_Law_load 4 (some .int) [(0, 9, 12, 19), (0, 9, 15, 24)]
theorem i_Law_load : k_Law_load ∈ gtbl := gt_in 277 (by decide +kernel) (by decide +kernel)
theorem d_Law_load_0 : decode b_Law_load 0 = .ok (.aload_n 2, 1) := by decide +kernel
theorem d_Law_load_1 : decode b_Law_load 1 = .ok (.iconst 0, 1) := by decide +kernel
theorem d_Law_load_2 : decode b_Law_load 2 = .ok (.aload_n 0, 1) := by decide +kernel
theorem d_Law_load_3 : decode b_Law_load 3 = .ok (.iload_n 1, 1) := by decide +kernel
theorem d_Law_load_4 : decode b_Law_load 4 = .ok (.invokevirtual 21, 3) := by decide +kernel
theorem d_Law_load_7 : decode b_Law_load 7 = .ok (.i2l, 1) := by decide +kernel
theorem d_Law_load_8 : decode b_Law_load 8 = .ok (.lastore, 1) := by decide +kernel
theorem d_Law_load_9 : decode b_Law_load 9 = .ok (.goto 9, 3) := by decide +kernel
theorem d_Law_load_12 : decode b_Law_load 12 = .ok (.astore_n 3, 1) := by decide +kernel
theorem d_Law_load_13 : decode b_Law_load 13 = .ok (.iconst 1, 1) := by decide +kernel
theorem d_Law_load_14 : decode b_Law_load 14 = .ok (.ireturn, 1) := by decide +kernel
theorem d_Law_load_15 : decode b_Law_load 15 = .ok (.astore_n 3, 1) := by decide +kernel
theorem d_Law_load_16 : decode b_Law_load 16 = .ok (.iconst 2, 1) := by decide +kernel
theorem d_Law_load_17 : decode b_Law_load 17 = .ok (.ireturn, 1) := by decide +kernel
theorem d_Law_load_18 : decode b_Law_load 18 = .ok (.iconst 0, 1) := by decide +kernel
theorem d_Law_load_19 : decode b_Law_load 19 = .ok (.ireturn, 1) := by decide +kernel
set_option maxHeartbeats 4000000 in
set_option maxRecDepth 100000 in
/-- the law: load, refused -/
theorem c_Law_loadBad (l : Launch) (hl9 : l.stackTraces = false) (dC : Nat → ClassId) (dI : Nat → Nat → Nat) (cJ : ClassId) (sz : Heap) (qo : Nat) (g : Nat → Int64) (q0 : Nat) (r0 r1 r2 r3 r4 r5 r6 r7 : Value) (d : Int32) (hbad : ¬ (¬ d < 0 ∧ d < 4)) : Met l y_Law_load (k_Law_load :: gtbl) ({ frames := 12, cells := 1, slots := 6, locals := 190 }) (va_Pc [.ref q0, .int d, .ref qo] (mx dC dI ([(q0, .inr (11, [r0, r1, r2, r3, r4, r5, r6, r7])), (qo, .inl (cJ, 1, .inr (.inl g)))]) [(cJ, .long)] sz)) (va_Qi (fun (r : Int32) (u : Unit) => r = 1) (fun u t9 => mz dC dI ([(q0, .inr (11, [r0, r1, r2, r3, r4, r5, r6, r7])), (qo, .inl (cJ, 1, .inr (.inl g)))]) [(cJ, .long)] (va_A ([(q0, .inr (11, [r0, r1, r2, r3, r4, r5, r6, r7])), (qo, .inl (cJ, 1, .inr (.inl g)))]) sz.size) t9 ∧ szk sz t9.heap (1) (6)) (va_A ([(q0, .inr (11, [r0, r1, r2, r3, r4, r5, r6, r7])), (qo, .inl (cJ, 1, .inr (.inl g)))]) sz.size)) (1) (6) (va_A ([(q0, .inr (11, [r0, r1, r2, r3, r4, r5, r6, r7])), (qo, .inl (cJ, 1, .inr (.inl g)))]) sz.size) := by
  refine met_ofWH (cc := b_Law_load) (maxL := 4) (ret := (some .int)) (by decide) rfl ?_
  intro p e s m args below meth c s₁ B hml htab hv
  obtain ⟨rfl, ⟨hsz, hP, hK, hD0⟩, hN, hZ⟩ := hv
  have hx := B.exec
  have hb := B.bytes
  have hr := B.returns
  have hts0 := atoms_spec (ws := k_Law_load :: gtbl) B.pre
  have hts := fun w h => hts0 w (List.mem_cons_of_mem _ h)
  have hown : s.vm.findClass R_Law = some m.cls := findClass_of_methodNamed B.named
  have hlocks := B.notSynchronized
  subst hsz
  have hD := hD0.self (sz := s.heap.size)
  generalize hAe : va_A ([(q0, .inr (11, [r0, r1, r2, r3, r4, r5, r6, r7])), (qo, .inl (cJ, 1, .inr (.inl g)))]) s.heap.size = A at hD hZ ⊢
  have hA : ∀ q : Nat, s.heap.size ≤ q → A q := fun q h => by rw [← hAe]; exact Or.inr h
  have hS : va_S A s.heap s.heap [] := va_S.rf
  have hP : va_P (dC, dI) classes ([(q0, .inr (11, [r0, r1, r2, r3, r4, r5, r6, r7])), (qo, .inl (cJ, 1, .inr (.inl g)))]) s.heap := hP
  have hl := lv_entry ([.ref q0, .int d, .ref qo]) (n := 4) (Nat.le_of_ble_eq_true rfl)
  rw [lg_entry_eq]
  generalize (lg_sl ([.ref q0, .int d, .ref qo]) ++ List.replicate (4 - (lg_sl ([.ref q0, .int d, .ref qo])).length) Slot.unset).toArray = ls at hl ⊢
  have hl : lv_has ls 4 [(0, .ref q0), (1, .int d), (2, .ref qo)] := hl
  refine lv_aload_n hx hb d_Law_load_0 rfl (lv_at hl 2 rfl) ?_
  refine lv_iconst (v := 0) hx hb d_Law_load_1 (by decide) ?_
  refine lv_aload_n hx hb d_Law_load_2 rfl (lv_at hl 0 rfl) ?_
  refine lv_iload_n hx hb d_Law_load_3 rfl (lv_at hl 1 rfl) ?_
  have hPc := hP.sub (ws' := [(q0, .inr (11, [r0, r1, r2, r3, r4, r5, r6, r7]))]) [0] rfl
  have hDc := hD.sub (ws' := [(q0, .inr (11, [r0, r1, r2, r3, r4, r5, r6, r7]))]) [0] (by decide) rfl
  have hFc := va_free (wc := [(q0, .inr (11, [r0, r1, r2, r3, r4, r5, r6, r7]))]) hD hS hA [0] rfl
  have hKc := hK.sub (tys' := []) [] rfl
  refine w_same (fun hq0 => ?_)
  refine vx_calli (vx_runV (As := [.int d]) (rest := [.int 0, .ref qo]) ⟨hx, hb, hml, hown, hts⟩ (c_QB_loadBad l hl9 dC dI s.heap q0 r0 r1 r2 r3 r4 r5 r6 r7 d hbad) (cwV 1 hts (gt_V (own := R_Law) (C := R_QB) (i := 21) (y := y_QB_load) i_QB_load z_279 z_280 z_281 w_1) rfl rfl rfl (by decide +kernel) ⟨by show 10 + 1 ≤ 12; omega, by show 8 + (3 + 11) + 150 ≤ 190; omega⟩) ⟨mx_blind, va_recv hK hP (ci := 11) (q0 := 0) rfl rfl, fun U hU hW => ⟨rfl, ⟨hU, by rw [hU]; exact hPc, va_K.moved hW.alike hKc, hDc.weaken (fun _ _ _ _ => trivial)⟩, hN.warm hW, by rw [hU]; exact ZX.moved' hW.alike (ZX.narrow' (ZX.kept' hZ hS.2.1) hFc)⟩⟩ rfl rfl hl.1 rfl (lv_room (Nat.le_of_ble_eq_true rfl)) d_Law_load_4 ⟨Nat.le_of_ble_eq_true rfl, Nat.le_of_ble_eq_true rfl⟩) hS (fun q _ h => hFc q h) hFc (fun q _ h => hFc q h) (fun En ce q9 _u t9 H1 locs ht hvm hw hB hz1 hk1 hS hce hcv hcl => ?_) (fun r9 _u t9 H1 locs ht hvm hw hB hz1 hk1 hS => ?_)
  · obtain ⟨hEn, hP1, hK1, hD1⟩ := hB
    rw [ht] at hP1
    obtain ⟨hP, hD⟩ := va_join (wr := [(qo, .inl (cJ, 1, .inr (.inl g)))]) (w1 := [(q0, .inr (11, [r0, r1, r2, r3, r4, r5, r6, r7]))]) hP hD [0] [1] rfl rfl (by decide) (by decide) hk1 hFc hP1 hD1
    generalize H1 = H at hP hS hce ⊢
    have hP : va_P (dC, dI) classes ([(qo, .inl (cJ, 1, .inr (.inl g))), (q0, .inr (11, [r0, r1, r2, r3, r4, r5, r6, r7]))]) H := hP
    have hD : va_D A ([(qo, .inl (cJ, 1, .inr (.inl g))), (q0, .inr (11, [r0, r1, r2, r3, r4, r5, r6, r7]))]) := hD
    have hP := hP.sub (ws' := [(q0, .inr (11, [r0, r1, r2, r3, r4, r5, r6, r7])), (qo, .inl (cJ, 1, .inr (.inl g)))]) [1, 0] rfl
    have hD := hD.sub (ws' := [(q0, .inr (11, [r0, r1, r2, r3, r4, r5, r6, r7])), (qo, .inl (cJ, 1, .inr (.inl g)))]) [1, 0] (by decide) rfl
    subst hEn
    refine vx_catch (own := R_Law) (name := "java/lang/IllegalArgumentException") hown [] ⟨0, 9, 12, 19⟩ [⟨0, 9, 15, 24⟩] htab (fun z hz => nomatch hz) (by decide) (by decide) (hts _ w_255) (va_Nw.use rfl (hN _ nl_262)) hce hcv hcl ?_
    refine lv_astore_n (lv' := [(3, .ref q9), (0, .ref q0), (1, .int d), (2, .ref qo)]) hx hb d_Law_load_12 rfl hl (by decide) rfl (fun ls hl => ?_)
    refine lv_iconst (v := 1) hx hb d_Law_load_13 (by decide) ?_
    refine w_same (fun hq => ?_)
    refine W.widen (k := 1) (n := 6) (Nat.le_of_ble_eq_true rfl) (Nat.le_of_ble_eq_true rfl) ?_
    exact W.iret (v := 1) hx hb hr (fun t9 ht hW => ⟨⟨1, (), rfl, rfl, ⟨by rw [ht]; exact hP, va_K.moved hW.alike hK, hD⟩, by rw [ht]; exact hq⟩, hS.F ht⟩) hS.2.2 d_Law_load_14
  · obtain ⟨⟨hP1, hK1, hD1⟩, hz9⟩ := hB
    rw [ht] at hP1
    rw [ht] at hz9
    refine w_tight (hq0.trans hz9) ?_
    have hq0 := hq0.trans hz9
    obtain ⟨hP, hD⟩ := va_join (wr := [(qo, .inl (cJ, 1, .inr (.inl g)))]) (w1 := [(q0, .inr (11, [r0, r1, r2, r3, r4, r5, r6, r7]))]) hP hD [0] [1] rfl rfl (by decide) (by decide) hk1 hFc hP1 hD1
    generalize H1 = H at hP hS hq0 ⊢
    have hP : va_P (dC, dI) classes ([(qo, .inl (cJ, 1, .inr (.inl g))), (q0, .inr (11, [r0, r1, r2, r3, r4, r5, r6, r7]))]) H := hP
    have hD : va_D A ([(qo, .inl (cJ, 1, .inr (.inl g))), (q0, .inr (11, [r0, r1, r2, r3, r4, r5, r6, r7]))]) := hD
    have hP := hP.sub (ws' := [(q0, .inr (11, [r0, r1, r2, r3, r4, r5, r6, r7])), (qo, .inl (cJ, 1, .inr (.inl g)))]) [1, 0] rfl
    have hD := hD.sub (ws' := [(q0, .inr (11, [r0, r1, r2, r3, r4, r5, r6, r7])), (qo, .inl (cJ, 1, .inr (.inl g)))]) [1, 0] (by decide) rfl
    exact hw.elim
