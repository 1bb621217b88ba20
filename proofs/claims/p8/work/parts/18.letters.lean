theorem w_455 : (.methodLink "QueryBench$Tape" 43 ⟨"java/lang/String", "length", "()I"⟩ : Cond) ∈ gtbl := gt_in 455 (by decide +kernel) (by decide +kernel)
theorem w_456 : (.instanceMethod ⟨"java/lang/String", "length", "()I"⟩ : Cond) ∈ gtbl := gt_in 456 (by decide +kernel) (by decide +kernel)
theorem w_457 : (.selects "java/lang/String" ⟨"java/lang/String", "length", "()I"⟩ ⟨"java/lang/String", "length", "()I"⟩ : Cond) ∈ gtbl := gt_in 457 (by decide +kernel) (by decide +kernel)
theorem w_465 : (.methodLink "QueryBench$Tape" 47 ⟨"java/lang/String", "charAt", "(I)C"⟩ : Cond) ∈ gtbl := gt_in 465 (by decide +kernel) (by decide +kernel)
theorem w_466 : (.instanceMethod ⟨"java/lang/String", "charAt", "(I)C"⟩ : Cond) ∈ gtbl := gt_in 466 (by decide +kernel) (by decide +kernel)
theorem w_467 : (.selects "java/lang/String" ⟨"java/lang/String", "charAt", "(I)C"⟩ ⟨"java/lang/String", "charAt", "(I)C"⟩ : Cond) ∈ gtbl := gt_in 467 (by decide +kernel) (by decide +kernel)
theorem w_1244 : (.methodLink "QueryBenchModel" 155 ⟨"java/lang/String", "length", "()I"⟩ : Cond) ∈ gtbl := gt_in 1244 (by decide +kernel) (by decide +kernel)
theorem w_1245 : (.methodLink "QueryBenchModel" 159 ⟨"java/lang/String", "charAt", "(I)C"⟩ : Cond) ∈ gtbl := gt_in 1245 (by decide +kernel) (by decide +kernel)
theorem w_1246 : (.methodLink "QueryBenchModel" 163 ⟨"QueryBenchModel", "take", "(I)Z"⟩ : Cond) ∈ gtbl := gt_in 1246 (by decide +kernel) (by decide +kernel)
theorem w_1248 : (.instanceMethod ⟨"QueryBenchModel", "take", "(I)Z"⟩ : Cond) ∈ gtbl := gt_in 1248 (by decide +kernel) (by decide +kernel)
theorem w_1332 : (.methodLink "QueryBenchModel" 166 ⟨"QueryBenchModel", "digit", "(I)Z"⟩ : Cond) ∈ gtbl := gt_in 1332 (by decide +kernel) (by decide +kernel)
theorem w_1333 : (.static ⟨"QueryBenchModel", "digit", "(I)Z"⟩ : Cond) ∈ gtbl := gt_in 1333 (by decide +kernel) (by decide +kernel)
abbrev mt (sa av len : Nat) (b : Nat → Int32) (dC : Nat → ClassId) (dI : Nat → Nat → Nat) (ws : va_W) (tys : List (ClassId × FieldType)) (sz : Heap) (U : State) : Prop := mp dC dI ws tys sz U ∧ NW U ∧ ZX (va_A ws sz.size) U U.heap ∧ SX sa av len b (va_A ws sz.size) U U.heap
theorem mt_blind {sa av len : Nat} {b : Nat → Int32} {dC : Nat → ClassId} {dI : Nat → Nat → Nat} {ws : va_W} {tys : List (ClassId × FieldType)} {sz : Heap} {vs : List Value} : FrameBlind (va_Pc vs (mt sa av len b dC dI ws tys sz)) := fun a U g mk q => by
  obtain ⟨q0, ⟨q1, qP, qK, qD⟩, qN, qZ, qE⟩ := q
  exact ⟨q0, ⟨q1, qP, va_K.moved (u := U) (U := U.calling g mk a) (Vm.Alike.refl U.vm) qK, qD⟩, NW.same (s := U) (U := U.calling g mk a) rfl qN, ZX.moved' (u := U) (U := U.calling g mk a) (Vm.Alike.refl U.vm) qZ, SX.moved' (u := U) (U := U.calling g mk a) (Vm.Alike.refl U.vm) qE⟩
/-- the text stands at i -/
def mtch (f : Nat → Int32) (n i : Nat) (b : Nat → Int32) (len : Nat) : Prop := ∀ j, j < len → hereV f n (i + j) = b j &&& 255
def wrS (g : Nat → Int32) (k : Nat) (b : Nat → Int32) : Nat → (Nat → Int32)
  | 0 => g
  | j + 1 => upd (wrS g k b j) (k + j) (vp_nar .byte ((b j &&& 255).toInt8.toInt32))
abbrev b_Tape_takeLetters : ByteArray := prog_10_method_8_code
def y_Tape_takeLetters : MethodName := ⟨"QueryBench$Tape", "takeLetters", "(Ljava/lang/String;)V"⟩
abbrev k_Tape_takeLetters : Cond := .code y_Tape_takeLetters b_Tape_takeLetters 3 none
theorem i_Tape_takeLetters : k_Tape_takeLetters ∈ gtbl := gt_in 454 (by decide +kernel) (by decide +kernel)
theorem d_Tape_takeLetters_0 : decode b_Tape_takeLetters 0 = .ok (.iconst 0, 1) := by decide +kernel
theorem d_Tape_takeLetters_1 : decode b_Tape_takeLetters 1 = .ok (.istore_n 2, 1) := by decide +kernel
theorem d_Tape_takeLetters_2 : decode b_Tape_takeLetters 2 = .ok (.iload_n 2, 1) := by decide +kernel
theorem d_Tape_takeLetters_3 : decode b_Tape_takeLetters 3 = .ok (.aload_n 1, 1) := by decide +kernel
theorem d_Tape_takeLetters_4 : decode b_Tape_takeLetters 4 = .ok (.invokevirtual 43, 3) := by decide +kernel
theorem d_Tape_takeLetters_7 : decode b_Tape_takeLetters 7 = .ok (.if_icmp .ge 18, 3) := by decide +kernel
theorem d_Tape_takeLetters_10 : decode b_Tape_takeLetters 10 = .ok (.aload_n 0, 1) := by decide +kernel
theorem d_Tape_takeLetters_11 : decode b_Tape_takeLetters 11 = .ok (.aload_n 1, 1) := by decide +kernel
theorem d_Tape_takeLetters_12 : decode b_Tape_takeLetters 12 = .ok (.iload_n 2, 1) := by decide +kernel
theorem d_Tape_takeLetters_13 : decode b_Tape_takeLetters 13 = .ok (.invokevirtual 47, 3) := by decide +kernel
theorem d_Tape_takeLetters_16 : decode b_Tape_takeLetters 16 = .ok (.invokevirtual 51, 3) := by decide +kernel
theorem d_Tape_takeLetters_19 : decode b_Tape_takeLetters 19 = .ok (.iinc 2 1, 3) := by decide +kernel
theorem d_Tape_takeLetters_22 : decode b_Tape_takeLetters 22 = .ok (.goto (-20), 3) := by decide +kernel
theorem d_Tape_takeLetters_25 : decode b_Tape_takeLetters 25 = .ok (.return_, 1) := by decide +kernel
set_option maxHeartbeats 4000000 in
set_option maxRecDepth 100000 in
/-- Tape.takeLetters -/
theorem c_Tape_takeLetters (l : Launch) (hl9 : l.stackTraces = false) (dC : Nat → ClassId) (dI : Nat → Nat → Nat) (cB : ClassId) (h0 qb : Nat) (sz : Heap) (ru : Value) (sa av len : Nat) (b : Nat → Int32) (uc ln pl : Int32) (f : Nat → Int32) (n i : Nat) (hn0 : n ≤ 4096) (hi0 : i ≤ 900000) (hlen : len ≤ 1000) : vx_Met l y_Tape_takeLetters (k_Tape_takeLetters :: gtbl) ({ frames := 10, cells := 1, slots := 6, locals := 152 }) (va_Pc [.ref h0, .ref sa] (mt sa av len b dC dI [(h0, .inr (8, [.ref qb, ru, .int uc, .int ln, .int (nI n), .int (nI i), .int pl])), (qb, .inl (cB, 4096, .inl f))] [(cB, .byte)] sz)) (va_Qv (fun (_ : Unit) => mtch f n i b len) (fun _ t => mz dC dI [(h0, .inr (8, [.ref qb, ru, .int uc, .int ln, .int (nI n), .int (nI (i + len)), .int pl])), (qb, .inl (cB, 4096, .inl f))] [(cB, .byte)] (va_A [(h0, .inr (8, [.ref qb, ru, .int uc, .int ln, .int (nI n), .int (nI i), .int pl])), (qb, .inl (cB, 4096, .inl f))] sz.size) t ∧ szk sz t.heap 0 0) (va_A [(h0, .inr (8, [.ref qb, ru, .int uc, .int ln, .int (nI n), .int (nI i), .int pl])), (qb, .inl (cB, 4096, .inl f))] sz.size)) (vx_X (fun u : Nat => ¬ mtch f n i b len) (fun E u t => E = "java/lang/UnsupportedOperationException" ∧ mz dC dI [(h0, .inr (8, [.ref qb, ru, .int uc, .int ln, .int (nI n), .int (nI u), .int (nI u)])), (qb, .inl (cB, 4096, .inl f))] [(cB, .byte)] (va_A [(h0, .inr (8, [.ref qb, ru, .int uc, .int ln, .int (nI n), .int (nI i), .int pl])), (qb, .inl (cB, 4096, .inl f))] sz.size) t) (va_A [(h0, .inr (8, [.ref qb, ru, .int uc, .int ln, .int (nI n), .int (nI i), .int pl])), (qb, .inl (cB, 4096, .inl f))] sz.size)) 1 6 (va_A [(h0, .inr (8, [.ref qb, ru, .int uc, .int ln, .int (nI n), .int (nI i), .int pl])), (qb, .inl (cB, 4096, .inl f))] sz.size) := by
  refine vx_ofW (cc := b_Tape_takeLetters) (maxL := 3) (ret := none) (by decide) rfl ?_
  intro p e s m args below meth c s₁ B hml hex hv
  obtain ⟨rfl, ⟨hsz, hP, hK, hD0⟩, hN, hZ, hE⟩ := hv
  have hx := B.exec
  have hb := B.bytes
  have hr := B.returns
  have hts0 := atoms_spec (ws := k_Tape_takeLetters :: gtbl) B.pre
  have hts := fun w h => hts0 w (List.mem_cons_of_mem _ h)
  have hown : s.vm.findClass R_Tape = some m.cls := findClass_of_methodNamed B.named
  have hlocks := B.notSynchronized
  subst hsz
  have hD := hD0.self (sz := s.heap.size)
  generalize hAe : va_A [(h0, .inr (8, [.ref qb, ru, .int uc, .int ln, .int (nI n), .int (nI i), .int pl])), (qb, .inl (cB, 4096, .inl f))] s.heap.size = A at hD hZ hE ⊢
  have hA : ∀ q : Nat, s.heap.size ≤ q → A q := fun q h => by rw [← hAe]; exact Or.inr h
  have hS : va_S A s.heap s.heap [] := va_S.rf
  have hP : va_P (dC, dI) classes [(h0, .inr (8, [.ref qb, ru, .int uc, .int ln, .int (nI n), .int (nI i), .int pl])), (qb, .inl (cB, 4096, .inl f))] s.heap := hP
  have hl := lv_entry ([.ref h0, .ref sa]) (n := 3) (Nat.le_of_ble_eq_true rfl)
  rw [lg_entry_eq]
  generalize (lg_sl ([.ref h0, .ref sa]) ++ List.replicate (3 - (lg_sl ([.ref h0, .ref sa])).length) Slot.unset).toArray = ls at hl ⊢
  have hl : lv_has ls 3 [(0, .ref h0), (1, .ref sa)] := hl
  refine lv_iconst (v := 0) hx hb d_Tape_takeLetters_0 (by decide) ?_
  refine lv_istore_n (lv' := [(2, .int 0), (0, .ref h0), (1, .ref sa)]) hx hb d_Tape_takeLetters_1 rfl hl (by decide) rfl (fun ls hl => ?_)
  refine w_loop (D := (dC, dI)) (cl := classes) (A := A) (H0 := s.heap) (nL := 3) 2 (σ := Nat) (fun j => j ≤ len ∧ ∀ k, k < j → hereV f n (i + k) = b k &&& 255) (fun j => len - j) (fun j => [(h0, .inr (8, [.ref qb, ru, .int uc, .int ln, .int (nI n), .int (nI (i + j)), .int pl])), (qb, .inl (cB, 4096, .inl f))]) (fun j => [(0, .ref h0), (1, .ref sa), (2, .int (nI j))]) ?_ 0 ⟨Nat.zero_le _, fun k h => absurd h (Nat.not_lt_zero _)⟩ hP hD hS (lv_sub hl [1, 2, 0] rfl)
  rintro j H locs ls hI ih hP hD hS hl
  have hP : va_P (dC, dI) classes [(h0, .inr (8, [.ref qb, ru, .int uc, .int ln, .int (nI n), .int (nI (i + j)), .int pl])), (qb, .inl (cB, 4096, .inl f))] H := hP
  have hD : va_D A [(h0, .inr (8, [.ref qb, ru, .int uc, .int ln, .int (nI n), .int (nI (i + j)), .int pl])), (qb, .inl (cB, 4096, .inl f))] := hD
  have hl : lv_has ls 3 [(0, .ref h0), (1, .ref sa), (2, .int (nI j))] := hl
  refine lv_iload_n hx hb d_Tape_takeLetters_2 rfl (lv_at hl 2 rfl) ?_
  refine lv_aload_n hx hb d_Tape_takeLetters_3 rfl (lv_at hl 1 rfl) ?_
  have hPc := hP.sub (ws' := []) [] rfl
  have hDc := hD.sub (ws' := []) [] (by decide) rfl
  have hKc := hK.sub (tys' := []) [] rfl
  have hFc := va_free (wc := []) hD hS hA [] rfl
  refine va_calli (va_runV (As := []) (rest := [.int (nI j)]) ⟨hx, hb, hml, hown, hts⟩ (c_Str_length l dC dI H sa av len b) (cwV 0 hts (gt_V (own := R_Tape) (C := R_Str) (i := 43) (y := y_Str_length) i_Str_length w_455 w_456 w_457 w_18) rfl rfl rfl (by decide +kernel) ⟨Nat.le_of_ble_eq_true rfl, Nat.le_of_ble_eq_true rfl⟩) ⟨mstr_blind, (by obtain ⟨cell, h1, h2, h3, -⟩ := va_O.kept hE.1 hS.2.1; exact ⟨cell, h1, h2, h3⟩), fun U hU hW => ⟨rfl, ⟨hU, by rw [hU]; exact hPc, va_K.moved hW.alike hKc, hDc.weaken (fun _ _ _ _ => trivial)⟩, by rw [hU]; exact SX.moved' hW.alike (SX.narrow' (SX.kept' hE hS.2.1) hFc)⟩⟩ rfl rfl hl.1 rfl (lv_room (Nat.le_of_ble_eq_true rfl)) d_Tape_takeLetters_4 ⟨Nat.le_of_ble_eq_true rfl, Nat.le_of_ble_eq_true rfl⟩) hS (fun q _ h => hFc q h) hFc (fun r _u t H1 locs ht hvm hw hB hz1 hk1 hS => ?_)
  obtain ⟨hP1, hK1, hD1⟩ := hB
  rw [ht] at hP1
  obtain ⟨hP, hD⟩ := va_join (wr := [(h0, .inr (8, [.ref qb, ru, .int uc, .int ln, .int (nI n), .int (nI (i + j)), .int pl])), (qb, .inl (cB, 4096, .inl f))]) (w1 := []) hP hD [] [0, 1] rfl rfl (by decide) (by decide) hk1 hFc hP1 hD1
  generalize H1 = H at hP hS ⊢
  have hP : va_P (dC, dI) classes [(h0, .inr (8, [.ref qb, ru, .int uc, .int ln, .int (nI n), .int (nI (i + j)), .int pl])), (qb, .inl (cB, 4096, .inl f))] H := hP
  have hD : va_D A [(h0, .inr (8, [.ref qb, ru, .int uc, .int ln, .int (nI n), .int (nI (i + j)), .int pl])), (qb, .inl (cB, 4096, .inl f))] := hD
  have hw : r = (nI len) := hw
  subst hw
  refine lv_icmp_ge (tgt := 25) hx hb d_Tape_takeLetters_7 (by decide) (fun c7 => ?_) (fun c7 => ?_)
  · have hl0 : j = len := by rw [nI_leI (by omega) (by omega)] at c7; omega
    have hm : mtch f n i b len := fun k h => hI.2 k (by omega)
    rw [hl0] at hP hD
    refine w_same (fun hq => ?_)
    refine W.widen (k := 1) (n := 6) (Nat.le_of_ble_eq_true rfl) (Nat.le_of_ble_eq_true rfl) ?_
    refine vx_ret ?_
    exact W.vret hx hb hr (fun t ht hW => ⟨⟨(), rfl, hm, ⟨by rw [ht]; exact hP, va_K.moved hW.alike hK, hD⟩, by rw [ht]; exact hq⟩, hS.F ht⟩) hS.2.2 d_Tape_takeLetters_25
  · refine lv_aload_n hx hb d_Tape_takeLetters_10 rfl (lv_at hl 0 rfl) ?_
    refine lv_aload_n hx hb d_Tape_takeLetters_11 rfl (lv_at hl 1 rfl) ?_
    refine lv_iload_n hx hb d_Tape_takeLetters_12 rfl (lv_at hl 2 rfl) ?_
    have hj : j < len := by rw [nI_leI (by omega) (by omega)] at c7; omega
    have hPc := hP.sub (ws' := []) [] rfl
    have hDc := hD.sub (ws' := []) [] (by decide) rfl
    have hKc := hK.sub (tys' := []) [] rfl
    have hFc := va_free (wc := []) hD hS hA [] rfl
    refine va_calli (va_runV (As := [.int (nI j)]) (rest := [.ref h0]) ⟨hx, hb, hml, hown, hts⟩ (c_Str_charAt l dC dI H sa av len b j hj (by omega)) (cwV 1 hts (gt_V (own := R_Tape) (C := R_Str) (i := 47) (y := y_Str_charAt) i_Str_charAt w_465 w_466 w_467 w_18) rfl rfl rfl (by decide +kernel) ⟨Nat.le_of_ble_eq_true rfl, Nat.le_of_ble_eq_true rfl⟩) ⟨mstr_blind, (by obtain ⟨cell, h1, h2, h3, -⟩ := va_O.kept hE.1 hS.2.1; exact ⟨cell, h1, h2, h3⟩), fun U hU hW => ⟨rfl, ⟨hU, by rw [hU]; exact hPc, va_K.moved hW.alike hKc, hDc.weaken (fun _ _ _ _ => trivial)⟩, by rw [hU]; exact SX.moved' hW.alike (SX.narrow' (SX.kept' hE hS.2.1) hFc)⟩⟩ rfl rfl hl.1 rfl (lv_room (Nat.le_of_ble_eq_true rfl)) d_Tape_takeLetters_13 ⟨Nat.le_of_ble_eq_true rfl, Nat.le_of_ble_eq_true rfl⟩) hS (fun q _ h => hFc q h) hFc (fun r _u t H1 locs ht hvm hw hB hz1 hk1 hS => ?_)
    obtain ⟨hP1, hK1, hD1⟩ := hB
    rw [ht] at hP1
    obtain ⟨hP, hD⟩ := va_join (wr := [(h0, .inr (8, [.ref qb, ru, .int uc, .int ln, .int (nI n), .int (nI (i + j)), .int pl])), (qb, .inl (cB, 4096, .inl f))]) (w1 := []) hP hD [] [0, 1] rfl rfl (by decide) (by decide) hk1 hFc hP1 hD1
    generalize H1 = H at hP hS ⊢
    have hP : va_P (dC, dI) classes [(h0, .inr (8, [.ref qb, ru, .int uc, .int ln, .int (nI n), .int (nI (i + j)), .int pl])), (qb, .inl (cB, 4096, .inl f))] H := hP
    have hD : va_D A [(h0, .inr (8, [.ref qb, ru, .int uc, .int ln, .int (nI n), .int (nI (i + j)), .int pl])), (qb, .inl (cB, 4096, .inl f))] := hD
    have hw : r = (b j &&& 255) := hw
    subst hw
    have hPc := hP.sub (ws' := [(h0, .inr (8, [.ref qb, ru, .int uc, .int ln, .int (nI n), .int (nI (i + j)), .int pl])), (qb, .inl (cB, 4096, .inl f))]) [0, 1] rfl
    have hDc := hD.sub (ws' := [(h0, .inr (8, [.ref qb, ru, .int uc, .int ln, .int (nI n), .int (nI (i + j)), .int pl])), (qb, .inl (cB, 4096, .inl f))]) [0, 1] (by decide) rfl
    have hKc := hK.sub (tys' := [(cB, .byte)]) [0] rfl
    have hFc := va_free (wc := [(h0, .inr (8, [.ref qb, ru, .int uc, .int ln, .int (nI n), .int (nI (i + j)), .int pl])), (qb, .inl (cB, 4096, .inl f))]) hD hS hA [0, 1] rfl
    refine w_same (fun hq0 => ?_)
    refine vx_callv (vx_runV (As := [.int (b j &&& 255)]) (rest := []) ⟨hx, hb, hml, hown, hts⟩ (c_Tape_take l hl9 dC dI cB h0 qb H ru uc ln pl f n (i + j) (b j &&& 255) (by omega) (by omega)) (cwV 1 hts (gt_V (own := R_Tape) (C := R_Tape) (i := 51) (y := y_Tape_take) i_Tape_take w_436 w_437 w_438 w_2) rfl rfl rfl (by decide +kernel) ⟨Nat.le_of_ble_eq_true rfl, Nat.le_of_ble_eq_true rfl⟩) ⟨mx_blind, va_recv hKc hPc (ci := 8) (q0 := 0) rfl rfl, fun U hU hW => ⟨rfl, ⟨hU, by rw [hU]; exact hPc, va_K.moved hW.alike hKc, hDc.weaken (fun _ _ _ _ => trivial)⟩, hN.warm hW, by rw [hU]; exact ZX.moved' hW.alike (ZX.narrow' (ZX.kept' hZ hS.2.1) hFc)⟩⟩ rfl rfl hl.1 rfl (lv_room (Nat.le_of_ble_eq_true rfl)) d_Tape_takeLetters_16 ⟨Nat.le_of_ble_eq_true rfl, Nat.le_of_ble_eq_true rfl⟩) hS (fun q _ h => hFc q h) hFc (fun q _ h => hFc q h) (fun E ce q9 _u t H1 locs ht hvm hw hB hz1 hk1 hS hce hcv hcl => ?_) (fun _u t H1 locs ht hvm hw hB hz1 hk1 hS => ?_)
    · obtain ⟨hE, hP1, hK1, hD1⟩ := hB
      rw [ht] at hP1
      obtain ⟨hP, hD⟩ := va_join (wr := []) (w1 := [(h0, .inr (8, [.ref qb, ru, .int uc, .int ln, .int (nI n), .int (nI (i + j)), .int (nI (i + j))])), (qb, .inl (cB, 4096, .inl f))]) hP hD [0, 1] [] rfl rfl (by decide) (by decide) hk1 hFc hP1 hD1
      generalize H1 = H at hP hS hce ⊢
      have hP : va_P (dC, dI) classes [(h0, .inr (8, [.ref qb, ru, .int uc, .int ln, .int (nI n), .int (nI (i + j)), .int (nI (i + j))])), (qb, .inl (cB, 4096, .inl f))] H := hP
      have hD : va_D A [(h0, .inr (8, [.ref qb, ru, .int uc, .int ln, .int (nI n), .int (nI (i + j)), .int (nI (i + j))])), (qb, .inl (cB, 4096, .inl f))] := hD
      exact vx_out (fun x hx => (hex x hx).elim) hlocks hce hcv hcl (fun t ht2 ha => ⟨(i + j), (fun h => hw (h j hj)), ⟨hE, by rw [ht2]; exact hP, va_K.moved ha hK, hD⟩, hS.F ht2⟩) hS.2.2 (Nat.le_of_ble_eq_true rfl) (Nat.le_of_ble_eq_true rfl)
    · obtain ⟨⟨hP1, hK1, hD1⟩, hz9⟩ := hB
      rw [ht] at hP1
      rw [ht] at hz9
      refine w_tight (hq0.trans hz9) ?_
      have hq0 := hq0.trans hz9
      obtain ⟨hP, hD⟩ := va_join (wr := []) (w1 := [(h0, .inr (8, [.ref qb, ru, .int uc, .int ln, .int (nI n), .int (nI (i + j + 1)), .int pl])), (qb, .inl (cB, 4096, .inl f))]) hP hD [0, 1] [] rfl rfl (by decide) (by decide) hk1 hFc hP1 hD1
      generalize H1 = H at hP hS ⊢
      have hP : va_P (dC, dI) classes [(h0, .inr (8, [.ref qb, ru, .int uc, .int ln, .int (nI n), .int (nI (i + j + 1)), .int pl])), (qb, .inl (cB, 4096, .inl f))] H := hP
      have hD : va_D A [(h0, .inr (8, [.ref qb, ru, .int uc, .int ln, .int (nI n), .int (nI (i + j + 1)), .int pl])), (qb, .inl (cB, 4096, .inl f))] := hD
      have hw : hereV f n (i + j) = b j &&& 255 := hw
      refine lv_iinc (v := nI (j + 1)) (lv' := [(2, .int (nI (j + 1))), (0, .ref h0), (1, .ref sa)]) hx hb d_Tape_takeLetters_19 hl (k := 2) rfl (nI_1 j) (by decide) rfl (fun ls hl => ?_)
      refine lv_goto (tgt := 2) hx hb d_Tape_takeLetters_22 (by decide) ?_
      exact ih (j + 1) _ _ _ ⟨by omega, fun k h => (Nat.lt_succ_iff_lt_or_eq.mp h).elim (hI.2 k) (fun e => by rw [e]; exact hw)⟩ (by show len - (j + 1) < len - j; omega) hP hD hS (lv_sub hl [1, 2, 0] rfl)
abbrev b_Mo_hex : ByteArray := prog_14_method_19_code
def y_Mo_hex : MethodName := ⟨"QueryBenchModel", "hex", "(I)I"⟩
abbrev k_Mo_hex : Cond := .code y_Mo_hex b_Mo_hex 1 (some .int)
theorem i_Mo_hex : k_Mo_hex ∈ gtbl := gt_in 1331 (by decide +kernel) (by decide +kernel)
theorem d_Mo_hex_0 : decode b_Mo_hex 0 = .ok (.iload_n 0, 1) := by decide +kernel
theorem d_Mo_hex_1 : decode b_Mo_hex 1 = .ok (.invokestatic 166, 3) := by decide +kernel
theorem d_Mo_hex_4 : decode b_Mo_hex 4 = .ok (.ifCond .eq 10, 3) := by decide +kernel
theorem d_Mo_hex_7 : decode b_Mo_hex 7 = .ok (.iload_n 0, 1) := by decide +kernel
theorem d_Mo_hex_8 : decode b_Mo_hex 8 = .ok (.bipush 48, 2) := by decide +kernel
theorem d_Mo_hex_10 : decode b_Mo_hex 10 = .ok (.isub, 1) := by decide +kernel
theorem d_Mo_hex_11 : decode b_Mo_hex 11 = .ok (.goto 48, 3) := by decide +kernel
theorem d_Mo_hex_14 : decode b_Mo_hex 14 = .ok (.iload_n 0, 1) := by decide +kernel
theorem d_Mo_hex_15 : decode b_Mo_hex 15 = .ok (.bipush 97, 2) := by decide +kernel
theorem d_Mo_hex_17 : decode b_Mo_hex 17 = .ok (.if_icmp .lt 19, 3) := by decide +kernel
theorem d_Mo_hex_20 : decode b_Mo_hex 20 = .ok (.iload_n 0, 1) := by decide +kernel
theorem d_Mo_hex_21 : decode b_Mo_hex 21 = .ok (.bipush 102, 2) := by decide +kernel
theorem d_Mo_hex_23 : decode b_Mo_hex 23 = .ok (.if_icmp .gt 13, 3) := by decide +kernel
theorem d_Mo_hex_26 : decode b_Mo_hex 26 = .ok (.iload_n 0, 1) := by decide +kernel
theorem d_Mo_hex_27 : decode b_Mo_hex 27 = .ok (.bipush 97, 2) := by decide +kernel
theorem d_Mo_hex_29 : decode b_Mo_hex 29 = .ok (.isub, 1) := by decide +kernel
theorem d_Mo_hex_30 : decode b_Mo_hex 30 = .ok (.bipush 10, 2) := by decide +kernel
theorem d_Mo_hex_32 : decode b_Mo_hex 32 = .ok (.iadd, 1) := by decide +kernel
theorem d_Mo_hex_33 : decode b_Mo_hex 33 = .ok (.goto 26, 3) := by decide +kernel
theorem d_Mo_hex_36 : decode b_Mo_hex 36 = .ok (.iload_n 0, 1) := by decide +kernel
theorem d_Mo_hex_37 : decode b_Mo_hex 37 = .ok (.bipush 65, 2) := by decide +kernel
theorem d_Mo_hex_39 : decode b_Mo_hex 39 = .ok (.if_icmp .lt 19, 3) := by decide +kernel
theorem d_Mo_hex_42 : decode b_Mo_hex 42 = .ok (.iload_n 0, 1) := by decide +kernel
theorem d_Mo_hex_43 : decode b_Mo_hex 43 = .ok (.bipush 70, 2) := by decide +kernel
theorem d_Mo_hex_45 : decode b_Mo_hex 45 = .ok (.if_icmp .gt 13, 3) := by decide +kernel
theorem d_Mo_hex_48 : decode b_Mo_hex 48 = .ok (.iload_n 0, 1) := by decide +kernel
theorem d_Mo_hex_49 : decode b_Mo_hex 49 = .ok (.bipush 65, 2) := by decide +kernel
theorem d_Mo_hex_51 : decode b_Mo_hex 51 = .ok (.isub, 1) := by decide +kernel
theorem d_Mo_hex_52 : decode b_Mo_hex 52 = .ok (.bipush 10, 2) := by decide +kernel
theorem d_Mo_hex_54 : decode b_Mo_hex 54 = .ok (.iadd, 1) := by decide +kernel
theorem d_Mo_hex_55 : decode b_Mo_hex 55 = .ok (.goto 4, 3) := by decide +kernel
theorem d_Mo_hex_58 : decode b_Mo_hex 58 = .ok (.iconst (-1), 1) := by decide +kernel
theorem d_Mo_hex_59 : decode b_Mo_hex 59 = .ok (.ireturn, 1) := by decide +kernel
set_option maxHeartbeats 4000000 in
set_option maxRecDepth 100000 in
/-- the reference: hex -/
theorem c_Mo_hex (l : Launch) (dC : Nat → ClassId) (dI : Nat → Nat → Nat) (sz : Heap) (x : Int32) : Met l y_Mo_hex (k_Mo_hex :: gtbl) ({ frames := 1, cells := 0, slots := 0, locals := 20 }) (va_Pc [.int x] (mp dC dI [] [] sz)) (va_Qi (fun (r : Int32) (_ : Unit) => r = hexV x) (fun _ => mz dC dI [] [] (va_A [] sz.size)) (va_A [] sz.size)) 0 0 (va_A [] sz.size) := by
  refine Met.ofW (cc := b_Mo_hex) (maxL := 1) (ret := (some .int)) (by decide) rfl ?_
  intro p e s m args below meth c s₁ B hml hv
  obtain ⟨rfl, hsz, hP, hK, hD0⟩ := hv
  have hx := B.exec
  have hb := B.bytes
  have hr := B.returns
  have hts0 := atoms_spec (ws := k_Mo_hex :: gtbl) B.pre
  have hts := fun w h => hts0 w (List.mem_cons_of_mem _ h)
  have hown : s.vm.findClass R_Mo = some m.cls := findClass_of_methodNamed B.named
  have hlocks := B.notSynchronized
  subst hsz
  have hD := hD0.self (sz := s.heap.size)
  generalize hAe : va_A [] s.heap.size = A at hD ⊢
  have hA : ∀ q : Nat, s.heap.size ≤ q → A q := fun q h => by rw [← hAe]; exact Or.inr h
  have hS : va_S A s.heap s.heap [] := va_S.rf
  have hP : va_P (dC, dI) classes [] s.heap := hP
  have hl := lv_entry ([.int x]) (n := 1) (Nat.le_of_ble_eq_true rfl)
  rw [lg_entry_eq]
  generalize (lg_sl ([.int x]) ++ List.replicate (1 - (lg_sl ([.int x])).length) Slot.unset).toArray = ls at hl ⊢
  have hl : lv_has ls 1 [(0, .int x)] := hl
  refine lv_iload_n hx hb d_Mo_hex_0 rfl (lv_at hl 0 rfl) ?_
  have hPc := hP.sub (ws' := []) [] rfl
  have hDc := hD.sub (ws' := []) [] (by decide) rfl
  have hKc := hK.sub (tys' := []) [] rfl
  have hFc := va_free (wc := []) hD hS hA [] rfl
  refine va_calli (va_runS (As := [.int x]) (rest := []) ⟨hx, hb, hml, hown, hts⟩ (c_Mo_digit l dC dI s.heap x) (va_cwS 1 hts (gt_S (own := R_Mo) (i := 166) (y := y_Mo_digit) i_Mo_digit w_1332 w_1333 w_7) rfl rfl rfl (by decide +kernel) ⟨Nat.le_of_ble_eq_true rfl, Nat.le_of_ble_eq_true rfl⟩) ⟨mp_blind, fun U hU hW => ⟨rfl, hU, by rw [hU]; exact hPc, va_K.moved hW.alike hKc, hDc.weaken (fun _ _ _ _ => trivial)⟩⟩ rfl rfl hl.1 rfl (lv_room (Nat.le_of_ble_eq_true rfl)) d_Mo_hex_1 ⟨Nat.le_of_ble_eq_true rfl, Nat.le_of_ble_eq_true rfl⟩) hS (fun q _ h => hFc q h) hFc (fun r _u t H1 locs ht hvm hw hB hz1 hk1 hS => ?_)
  obtain ⟨hP1, hK1, hD1⟩ := hB
  rw [ht] at hP1
  obtain ⟨hP, hD⟩ := va_join (wr := []) (w1 := []) hP hD [] [] rfl rfl (by decide) (by decide) hk1 hFc hP1 hD1
  generalize H1 = H at hP hS ⊢
  have hP : va_P (dC, dI) classes [] H := hP
  have hD : va_D A [] := hD
  have hw : r = if 48 ≤ x ∧ x ≤ 57 then 1 else 0 := hw
  refine lv_if_eq (tgt := 14) hx hb d_Mo_hex_4 (by decide) (fun c4 => ?_) (fun c4 => ?_)
  · refine lv_iload_n hx hb d_Mo_hex_14 rfl (lv_at hl 0 rfl) ?_
    refine lv_bipush (v := 97) hx hb d_Mo_hex_15 (by decide) ?_
    refine lv_icmp_lt (tgt := 36) hx hb d_Mo_hex_17 (by decide) (fun c17 => ?_) (fun c17 => ?_)
    · refine lv_iload_n hx hb d_Mo_hex_36 rfl (lv_at hl 0 rfl) ?_
      refine lv_bipush (v := 65) hx hb d_Mo_hex_37 (by decide) ?_
      refine lv_icmp_lt (tgt := 58) hx hb d_Mo_hex_39 (by decide) (fun c39 => ?_) (fun c39 => ?_)
      · refine lv_iconst (v := (-1)) hx hb d_Mo_hex_58 (by decide) ?_
        have hd : ¬ (¬ x < 48 ∧ ¬ 57 < x) := fun h => by rw [if_pos ⟨Int32.not_lt.mp h.1, Int32.not_lt.mp h.2⟩] at hw; rw [hw] at c4; exact absurd c4 (by decide)
        exact W.iret (v := (-1)) hx hb hr (fun t ht hW => ⟨⟨(-1), (), rfl, by unfold hexV; rw [if_neg hd, if_neg (fun h => h.1 c17), if_neg (fun h => h.1 c39)], by rw [ht]; exact hP, va_K.moved hW.alike hK, hD⟩, hS.F ht⟩) hS.2.2 d_Mo_hex_59
      · refine lv_iload_n hx hb d_Mo_hex_42 rfl (lv_at hl 0 rfl) ?_
        refine lv_bipush (v := 70) hx hb d_Mo_hex_43 (by decide) ?_
        refine lv_icmp_gt (tgt := 58) hx hb d_Mo_hex_45 (by decide) (fun c45 => ?_) (fun c45 => ?_)
        · refine lv_iconst (v := (-1)) hx hb d_Mo_hex_58 (by decide) ?_
          have hd : ¬ (¬ x < 48 ∧ ¬ 57 < x) := fun h => by rw [if_pos ⟨Int32.not_lt.mp h.1, Int32.not_lt.mp h.2⟩] at hw; rw [hw] at c4; exact absurd c4 (by decide)
          exact W.iret (v := (-1)) hx hb hr (fun t ht hW => ⟨⟨(-1), (), rfl, by unfold hexV; rw [if_neg hd, if_neg (fun h => h.1 c17), if_neg (fun h => h.2 c45)], by rw [ht]; exact hP, va_K.moved hW.alike hK, hD⟩, hS.F ht⟩) hS.2.2 d_Mo_hex_59
        · refine lv_iload_n hx hb d_Mo_hex_48 rfl (lv_at hl 0 rfl) ?_
          refine lv_bipush (v := 65) hx hb d_Mo_hex_49 (by decide) ?_
          refine lv_isub hx hb d_Mo_hex_51 ?_
          refine lv_bipush (v := 10) hx hb d_Mo_hex_52 (by decide) ?_
          refine lv_iadd hx hb d_Mo_hex_54 ?_
          refine lv_goto (tgt := 59) hx hb d_Mo_hex_55 (by decide) ?_
          have hd : ¬ (¬ x < 48 ∧ ¬ 57 < x) := fun h => by rw [if_pos ⟨Int32.not_lt.mp h.1, Int32.not_lt.mp h.2⟩] at hw; rw [hw] at c4; exact absurd c4 (by decide)
          exact W.iret (v := ((x - 65) + 10)) hx hb hr (fun t ht hW => ⟨⟨((x - 65) + 10), (), rfl, by unfold hexV; rw [if_neg hd, if_neg (fun h => h.1 c17), if_pos ⟨c39, c45⟩], by rw [ht]; exact hP, va_K.moved hW.alike hK, hD⟩, hS.F ht⟩) hS.2.2 d_Mo_hex_59
    · refine lv_iload_n hx hb d_Mo_hex_20 rfl (lv_at hl 0 rfl) ?_
      refine lv_bipush (v := 102) hx hb d_Mo_hex_21 (by decide) ?_
      refine lv_icmp_gt (tgt := 36) hx hb d_Mo_hex_23 (by decide) (fun c23 => ?_) (fun c23 => ?_)
      · refine lv_iload_n hx hb d_Mo_hex_36 rfl (lv_at hl 0 rfl) ?_
        refine lv_bipush (v := 65) hx hb d_Mo_hex_37 (by decide) ?_
        refine lv_icmp_lt (tgt := 58) hx hb d_Mo_hex_39 (by decide) (fun c39 => ?_) (fun c39 => ?_)
        · refine lv_iconst (v := (-1)) hx hb d_Mo_hex_58 (by decide) ?_
          have hd : ¬ (¬ x < 48 ∧ ¬ 57 < x) := fun h => by rw [if_pos ⟨Int32.not_lt.mp h.1, Int32.not_lt.mp h.2⟩] at hw; rw [hw] at c4; exact absurd c4 (by decide)
          exact W.iret (v := (-1)) hx hb hr (fun t ht hW => ⟨⟨(-1), (), rfl, by unfold hexV; rw [if_neg hd, if_neg (fun h => h.2 c23), if_neg (fun h => h.1 c39)], by rw [ht]; exact hP, va_K.moved hW.alike hK, hD⟩, hS.F ht⟩) hS.2.2 d_Mo_hex_59
        · refine lv_iload_n hx hb d_Mo_hex_42 rfl (lv_at hl 0 rfl) ?_
          refine lv_bipush (v := 70) hx hb d_Mo_hex_43 (by decide) ?_
          refine lv_icmp_gt (tgt := 58) hx hb d_Mo_hex_45 (by decide) (fun c45 => ?_) (fun c45 => ?_)
          · refine lv_iconst (v := (-1)) hx hb d_Mo_hex_58 (by decide) ?_
            have hd : ¬ (¬ x < 48 ∧ ¬ 57 < x) := fun h => by rw [if_pos ⟨Int32.not_lt.mp h.1, Int32.not_lt.mp h.2⟩] at hw; rw [hw] at c4; exact absurd c4 (by decide)
            exact W.iret (v := (-1)) hx hb hr (fun t ht hW => ⟨⟨(-1), (), rfl, by unfold hexV; rw [if_neg hd, if_neg (fun h => h.2 c23), if_neg (fun h => h.2 c45)], by rw [ht]; exact hP, va_K.moved hW.alike hK, hD⟩, hS.F ht⟩) hS.2.2 d_Mo_hex_59
          · refine lv_iload_n hx hb d_Mo_hex_48 rfl (lv_at hl 0 rfl) ?_
            refine lv_bipush (v := 65) hx hb d_Mo_hex_49 (by decide) ?_
            refine lv_isub hx hb d_Mo_hex_51 ?_
            refine lv_bipush (v := 10) hx hb d_Mo_hex_52 (by decide) ?_
            refine lv_iadd hx hb d_Mo_hex_54 ?_
            refine lv_goto (tgt := 59) hx hb d_Mo_hex_55 (by decide) ?_
            have hd : ¬ (¬ x < 48 ∧ ¬ 57 < x) := fun h => by rw [if_pos ⟨Int32.not_lt.mp h.1, Int32.not_lt.mp h.2⟩] at hw; rw [hw] at c4; exact absurd c4 (by decide)
            exact W.iret (v := ((x - 65) + 10)) hx hb hr (fun t ht hW => ⟨⟨((x - 65) + 10), (), rfl, by unfold hexV; rw [if_neg hd, if_neg (fun h => h.2 c23), if_pos ⟨c39, c45⟩], by rw [ht]; exact hP, va_K.moved hW.alike hK, hD⟩, hS.F ht⟩) hS.2.2 d_Mo_hex_59
      · refine lv_iload_n hx hb d_Mo_hex_26 rfl (lv_at hl 0 rfl) ?_
        refine lv_bipush (v := 97) hx hb d_Mo_hex_27 (by decide) ?_
        refine lv_isub hx hb d_Mo_hex_29 ?_
        refine lv_bipush (v := 10) hx hb d_Mo_hex_30 (by decide) ?_
        refine lv_iadd hx hb d_Mo_hex_32 ?_
        refine lv_goto (tgt := 59) hx hb d_Mo_hex_33 (by decide) ?_
        have hd : ¬ (¬ x < 48 ∧ ¬ 57 < x) := fun h => by rw [if_pos ⟨Int32.not_lt.mp h.1, Int32.not_lt.mp h.2⟩] at hw; rw [hw] at c4; exact absurd c4 (by decide)
        exact W.iret (v := ((x - 97) + 10)) hx hb hr (fun t ht hW => ⟨⟨((x - 97) + 10), (), rfl, by unfold hexV; rw [if_neg hd, if_pos ⟨c17, c23⟩], by rw [ht]; exact hP, va_K.moved hW.alike hK, hD⟩, hS.F ht⟩) hS.2.2 d_Mo_hex_59
  · refine lv_iload_n hx hb d_Mo_hex_7 rfl (lv_at hl 0 rfl) ?_
    refine lv_bipush (v := 48) hx hb d_Mo_hex_8 (by decide) ?_
    refine lv_isub hx hb d_Mo_hex_10 ?_
    refine lv_goto (tgt := 59) hx hb d_Mo_hex_11 (by decide) ?_
    have hd : 48 ≤ x ∧ x ≤ 57 := Classical.byContradiction (fun h => c4 (by rw [hw, if_neg h]))
    exact W.iret (v := (x - 48)) hx hb hr (fun t ht hW => ⟨⟨(x - 48), (), rfl, by unfold hexV; rw [if_pos ⟨Int32.not_lt.mpr hd.1, Int32.not_lt.mpr hd.2⟩], by rw [ht]; exact hP, va_K.moved hW.alike hK, hD⟩, hS.F ht⟩) hS.2.2 d_Mo_hex_59
abbrev b_Mo_wordS : ByteArray := prog_14_method_18_code
def y_Mo_wordS : MethodName := ⟨"QueryBenchModel", "word", "(Ljava/lang/String;)Z"⟩
abbrev k_Mo_wordS : Cond := .code y_Mo_wordS b_Mo_wordS 3 (some .boolean)
theorem i_Mo_wordS : k_Mo_wordS ∈ gtbl := gt_in 1243 (by decide +kernel) (by decide +kernel)
theorem d_Mo_wordS_0 : decode b_Mo_wordS 0 = .ok (.iconst 0, 1) := by decide +kernel
theorem d_Mo_wordS_1 : decode b_Mo_wordS 1 = .ok (.istore_n 2, 1) := by decide +kernel
theorem d_Mo_wordS_2 : decode b_Mo_wordS 2 = .ok (.iload_n 2, 1) := by decide +kernel
theorem d_Mo_wordS_3 : decode b_Mo_wordS 3 = .ok (.aload_n 1, 1) := by decide +kernel
theorem d_Mo_wordS_4 : decode b_Mo_wordS 4 = .ok (.invokevirtual 155, 3) := by decide +kernel
theorem d_Mo_wordS_7 : decode b_Mo_wordS 7 = .ok (.if_icmp .ge 23, 3) := by decide +kernel
theorem d_Mo_wordS_10 : decode b_Mo_wordS 10 = .ok (.aload_n 0, 1) := by decide +kernel
theorem d_Mo_wordS_11 : decode b_Mo_wordS 11 = .ok (.aload_n 1, 1) := by decide +kernel
theorem d_Mo_wordS_12 : decode b_Mo_wordS 12 = .ok (.iload_n 2, 1) := by decide +kernel
theorem d_Mo_wordS_13 : decode b_Mo_wordS 13 = .ok (.invokevirtual 159, 3) := by decide +kernel
theorem d_Mo_wordS_16 : decode b_Mo_wordS 16 = .ok (.invokevirtual 163, 3) := by decide +kernel
theorem d_Mo_wordS_19 : decode b_Mo_wordS 19 = .ok (.ifCond .ne 5, 3) := by decide +kernel
theorem d_Mo_wordS_22 : decode b_Mo_wordS 22 = .ok (.iconst 0, 1) := by decide +kernel
theorem d_Mo_wordS_23 : decode b_Mo_wordS 23 = .ok (.ireturn, 1) := by decide +kernel
theorem d_Mo_wordS_24 : decode b_Mo_wordS 24 = .ok (.iinc 2 1, 3) := by decide +kernel
theorem d_Mo_wordS_27 : decode b_Mo_wordS 27 = .ok (.goto (-25), 3) := by decide +kernel
theorem d_Mo_wordS_30 : decode b_Mo_wordS 30 = .ok (.iconst 1, 1) := by decide +kernel
theorem d_Mo_wordS_31 : decode b_Mo_wordS 31 = .ok (.ireturn, 1) := by decide +kernel
set_option maxHeartbeats 4000000 in
set_option maxRecDepth 100000 in
/-- the reference: word(text) -/
theorem c_Mo_wordS (l : Launch) (dC : Nat → ClassId) (dI : Nat → Nat → Nat) (mo : Nat) (sz : Heap) (v : Nat → Value) (cB : ClassId) (qx NN : Nat) (f : Nat → Int32) (sa av len : Nat) (b : Nat → Int32) (n i : Nat) (hnN : n ≤ NN) (hNN : NN ≤ 1000000) (hi0 : i ≤ 900000) (h6 : v 6 = .ref qx) (h7 : v 7 = .int (nI i)) (h8 : v 8 = .int (nI n)) (br : Int32) (h9 : v 9 = .int br) (hlen : len ≤ 1000) : Met l y_Mo_wordS (k_Mo_wordS :: gtbl) ({ frames := 4, cells := 0, slots := 0, locals := 85 }) (va_Pc [.ref mo, .ref sa] (mstr sa av len b dC dI [(mo, .inr (13, MF 30 v)), (qx, .inl (cB, NN, .inl f))] [(cB, .byte)] sz)) (va_Qi (fun (r : Int32) (u : Nat → Value) => (mtch f n i b len ∧ r = 1 ∧ u = va_up v 7 (.int (nI (i + len)))) ∨ (¬ mtch f n i b len ∧ r = 0 ∧ ∃ k, u = mfail (va_up v 7 (.int (nI k))) br (nI k))) (fun u => mz dC dI [(mo, .inr (13, MF 30 u)), (qx, .inl (cB, NN, .inl f))] [(cB, .byte)] (va_A [(mo, .inr (13, MF 30 v)), (qx, .inl (cB, NN, .inl f))] sz.size)) (va_A [(mo, .inr (13, MF 30 v)), (qx, .inl (cB, NN, .inl f))] sz.size)) 0 0 (va_A [(mo, .inr (13, MF 30 v)), (qx, .inl (cB, NN, .inl f))] sz.size) := by
  refine Met.ofW (cc := b_Mo_wordS) (maxL := 3) (ret := (some .boolean)) (by decide) rfl ?_
  intro p e s m args below meth c s₁ B hml hv
  obtain ⟨rfl, ⟨hsz, hP, hK, hD0⟩, hE⟩ := hv
  have hx := B.exec
  have hb := B.bytes
  have hr := B.returns
  have hts0 := atoms_spec (ws := k_Mo_wordS :: gtbl) B.pre
  have hts := fun w h => hts0 w (List.mem_cons_of_mem _ h)
  have hown : s.vm.findClass R_Mo = some m.cls := findClass_of_methodNamed B.named
  have hlocks := B.notSynchronized
  subst hsz
  have hD := hD0.self (sz := s.heap.size)
  generalize hAe : va_A [(mo, .inr (13, MF 30 v)), (qx, .inl (cB, NN, .inl f))] s.heap.size = A at hD hE ⊢
  have hA : ∀ q : Nat, s.heap.size ≤ q → A q := fun q h => by rw [← hAe]; exact Or.inr h
  have hS : va_S A s.heap s.heap [] := va_S.rf
  have hP : va_P (dC, dI) classes [(mo, .inr (13, MF 30 v)), (qx, .inl (cB, NN, .inl f))] s.heap := hP
  have hl := lv_entry ([.ref mo, .ref sa]) (n := 3) (Nat.le_of_ble_eq_true rfl)
  rw [lg_entry_eq]
  generalize (lg_sl ([.ref mo, .ref sa]) ++ List.replicate (3 - (lg_sl ([.ref mo, .ref sa])).length) Slot.unset).toArray = ls at hl ⊢
  have hl : lv_has ls 3 [(0, .ref mo), (1, .ref sa)] := hl
  refine lv_iconst (v := 0) hx hb d_Mo_wordS_0 (by decide) ?_
  refine lv_istore_n (lv' := [(2, .int 0), (0, .ref mo), (1, .ref sa)]) hx hb d_Mo_wordS_1 rfl hl (by decide) rfl (fun ls hl => ?_)
  have hP : va_P (dC, dI) classes [(mo, .inr (13, MF 30 (va_up v 7 (.int (nI (i + 0)))))), (qx, .inl (cB, NN, .inl f))] s.heap := by rw [Nat.add_zero, va_up_id h7]; exact hP
  have hD : va_D A [(mo, .inr (13, MF 30 (va_up v 7 (.int (nI (i + 0)))))), (qx, .inl (cB, NN, .inl f))] := by rw [Nat.add_zero, va_up_id h7]; exact hD
  refine w_loop (D := (dC, dI)) (cl := classes) (A := A) (H0 := s.heap) (nL := 3) 2 (σ := Nat) (fun j => j ≤ len ∧ ∀ k, k < j → hereV f n (i + k) = b k &&& 255) (fun j => len - j) (fun j => [(mo, .inr (13, MF 30 (va_up v 7 (.int (nI (i + j)))))), (qx, .inl (cB, NN, .inl f))]) (fun j => [(0, .ref mo), (1, .ref sa), (2, .int (nI j))]) ?_ 0 ⟨Nat.zero_le _, fun k h => absurd h (Nat.not_lt_zero _)⟩ hP hD hS (lv_sub hl [1, 2, 0] rfl)
  rintro j H locs ls hI ih hP hD hS hl
  have hP : va_P (dC, dI) classes [(mo, .inr (13, MF 30 (va_up v 7 (.int (nI (i + j)))))), (qx, .inl (cB, NN, .inl f))] H := hP
  have hD : va_D A [(mo, .inr (13, MF 30 (va_up v 7 (.int (nI (i + j)))))), (qx, .inl (cB, NN, .inl f))] := hD
  have hl : lv_has ls 3 [(0, .ref mo), (1, .ref sa), (2, .int (nI j))] := hl
  refine lv_iload_n hx hb d_Mo_wordS_2 rfl (lv_at hl 2 rfl) ?_
  refine lv_aload_n hx hb d_Mo_wordS_3 rfl (lv_at hl 1 rfl) ?_
  have hPc := hP.sub (ws' := []) [] rfl
  have hDc := hD.sub (ws' := []) [] (by decide) rfl
  have hKc := hK.sub (tys' := []) [] rfl
  have hFc := va_free (wc := []) hD hS hA [] rfl
  refine va_calli (va_runV (As := []) (rest := [.int (nI j)]) ⟨hx, hb, hml, hown, hts⟩ (c_Str_length l dC dI H sa av len b) (cwV 0 hts (gt_V (own := R_Mo) (C := R_Str) (i := 155) (y := y_Str_length) i_Str_length w_1244 w_456 w_457 w_18) rfl rfl rfl (by decide +kernel) ⟨Nat.le_of_ble_eq_true rfl, Nat.le_of_ble_eq_true rfl⟩) ⟨mstr_blind, (by obtain ⟨cell, h1, h2, h3, -⟩ := va_O.kept hE.1 hS.2.1; exact ⟨cell, h1, h2, h3⟩), fun U hU hW => ⟨rfl, ⟨hU, by rw [hU]; exact hPc, va_K.moved hW.alike hKc, hDc.weaken (fun _ _ _ _ => trivial)⟩, by rw [hU]; exact SX.moved' hW.alike (SX.narrow' (SX.kept' hE hS.2.1) hFc)⟩⟩ rfl rfl hl.1 rfl (lv_room (Nat.le_of_ble_eq_true rfl)) d_Mo_wordS_4 ⟨Nat.le_of_ble_eq_true rfl, Nat.le_of_ble_eq_true rfl⟩) hS (fun q _ h => hFc q h) hFc (fun r _u t H1 locs ht hvm hw hB hz1 hk1 hS => ?_)
  obtain ⟨hP1, hK1, hD1⟩ := hB
  rw [ht] at hP1
  obtain ⟨hP, hD⟩ := va_join (wr := [(mo, .inr (13, MF 30 (va_up v 7 (.int (nI (i + j)))))), (qx, .inl (cB, NN, .inl f))]) (w1 := []) hP hD [] [0, 1] rfl rfl (by decide) (by decide) hk1 hFc hP1 hD1
  generalize H1 = H at hP hS ⊢
  have hP : va_P (dC, dI) classes [(mo, .inr (13, MF 30 (va_up v 7 (.int (nI (i + j)))))), (qx, .inl (cB, NN, .inl f))] H := hP
  have hD : va_D A [(mo, .inr (13, MF 30 (va_up v 7 (.int (nI (i + j)))))), (qx, .inl (cB, NN, .inl f))] := hD
  have hw : r = (nI len) := hw
  subst hw
  refine lv_icmp_ge (tgt := 30) hx hb d_Mo_wordS_7 (by decide) (fun c7 => ?_) (fun c7 => ?_)
  · refine lv_iconst (v := 1) hx hb d_Mo_wordS_30 (by decide) ?_
    have hl0 : j = len := by rw [nI_leI (by omega) (by omega)] at c7; omega
    rw [hl0] at hP hD
    exact W.zret (v := 1) hx hb hr rfl (fun t ht hW => ⟨⟨1, va_up v 7 (.int (nI (i + len))), rfl, Or.inl ⟨fun k h => hI.2 k (by omega), rfl, rfl⟩, by rw [ht]; exact hP, va_K.moved hW.alike hK, hD⟩, hS.F ht⟩) hS.2.2 d_Mo_wordS_31
  · refine lv_aload_n hx hb d_Mo_wordS_10 rfl (lv_at hl 0 rfl) ?_
    refine lv_aload_n hx hb d_Mo_wordS_11 rfl (lv_at hl 1 rfl) ?_
    refine lv_iload_n hx hb d_Mo_wordS_12 rfl (lv_at hl 2 rfl) ?_
    have hj : j < len := by rw [nI_leI (by omega) (by omega)] at c7; omega
    have hPc := hP.sub (ws' := []) [] rfl
    have hDc := hD.sub (ws' := []) [] (by decide) rfl
    have hKc := hK.sub (tys' := []) [] rfl
    have hFc := va_free (wc := []) hD hS hA [] rfl
    refine va_calli (va_runV (As := [.int (nI j)]) (rest := [.ref mo]) ⟨hx, hb, hml, hown, hts⟩ (c_Str_charAt l dC dI H sa av len b j hj (by omega)) (cwV 1 hts (gt_V (own := R_Mo) (C := R_Str) (i := 159) (y := y_Str_charAt) i_Str_charAt w_1245 w_466 w_467 w_18) rfl rfl rfl (by decide +kernel) ⟨Nat.le_of_ble_eq_true rfl, Nat.le_of_ble_eq_true rfl⟩) ⟨mstr_blind, (by obtain ⟨cell, h1, h2, h3, -⟩ := va_O.kept hE.1 hS.2.1; exact ⟨cell, h1, h2, h3⟩), fun U hU hW => ⟨rfl, ⟨hU, by rw [hU]; exact hPc, va_K.moved hW.alike hKc, hDc.weaken (fun _ _ _ _ => trivial)⟩, by rw [hU]; exact SX.moved' hW.alike (SX.narrow' (SX.kept' hE hS.2.1) hFc)⟩⟩ rfl rfl hl.1 rfl (lv_room (Nat.le_of_ble_eq_true rfl)) d_Mo_wordS_13 ⟨Nat.le_of_ble_eq_true rfl, Nat.le_of_ble_eq_true rfl⟩) hS (fun q _ h => hFc q h) hFc (fun r _u t H1 locs ht hvm hw hB hz1 hk1 hS => ?_)
    obtain ⟨hP1, hK1, hD1⟩ := hB
    rw [ht] at hP1
    obtain ⟨hP, hD⟩ := va_join (wr := [(mo, .inr (13, MF 30 (va_up v 7 (.int (nI (i + j)))))), (qx, .inl (cB, NN, .inl f))]) (w1 := []) hP hD [] [0, 1] rfl rfl (by decide) (by decide) hk1 hFc hP1 hD1
    generalize H1 = H at hP hS ⊢
    have hP : va_P (dC, dI) classes [(mo, .inr (13, MF 30 (va_up v 7 (.int (nI (i + j)))))), (qx, .inl (cB, NN, .inl f))] H := hP
    have hD : va_D A [(mo, .inr (13, MF 30 (va_up v 7 (.int (nI (i + j)))))), (qx, .inl (cB, NN, .inl f))] := hD
    have hw : r = (b j &&& 255) := hw
    subst hw
    have hPc := hP.sub (ws' := [(mo, .inr (13, MF 30 (va_up v 7 (.int (nI (i + j)))))), (qx, .inl (cB, NN, .inl f))]) [0, 1] rfl
    have hDc := hD.sub (ws' := [(mo, .inr (13, MF 30 (va_up v 7 (.int (nI (i + j)))))), (qx, .inl (cB, NN, .inl f))]) [0, 1] (by decide) rfl
    have hKc := hK.sub (tys' := [(cB, .byte)]) [0] rfl
    have hFc := va_free (wc := [(mo, .inr (13, MF 30 (va_up v 7 (.int (nI (i + j)))))), (qx, .inl (cB, NN, .inl f))]) hD hS hA [0, 1] rfl
    refine va_calli (va_runV (As := [.int (b j &&& 255)]) (rest := []) ⟨hx, hb, hml, hown, hts⟩ (c_Mo_take l dC dI mo H (va_up v 7 (.int (nI (i + j)))) cB qx NN f n (i + j) hnN hNN (by omega) ((va_up_ne _ _ (by decide)).trans (h6)) (va_up_self _ _ _) ((va_up_ne _ _ (by decide)).trans (h8)) br ((va_up_ne _ _ (by decide)).trans (h9)) (b j &&& 255)) (cwV 1 hts (gt_V (own := R_Mo) (C := R_Mo) (i := 163) (y := y_Mo_take) i_Mo_take w_1246 w_1248 (gt_sel (y := y_Mo_take) (n := 30) (by decide +kernel)) w_7) rfl rfl rfl (by decide +kernel) ⟨Nat.le_of_ble_eq_true rfl, Nat.le_of_ble_eq_true rfl⟩) ⟨mp_blind, va_recv hKc hPc (ci := 13) (q0 := 0) rfl rfl, fun U hU hW => ⟨rfl, hU, by rw [hU]; exact hPc, va_K.moved hW.alike hKc, hDc.weaken (fun _ _ _ _ => trivial)⟩⟩ rfl rfl hl.1 rfl (lv_room (Nat.le_of_ble_eq_true rfl)) d_Mo_wordS_16 ⟨Nat.le_of_ble_eq_true rfl, Nat.le_of_ble_eq_true rfl⟩) hS (fun q _ h => hFc q h) hFc (fun r u2 t H1 locs ht hvm hw hB hz1 hk1 hS => ?_)
    obtain ⟨hP1, hK1, hD1⟩ := hB
    rw [ht] at hP1
    obtain ⟨hP, hD⟩ := va_join (wr := []) (w1 := [(mo, .inr (13, MF 30 u2)), (qx, .inl (cB, NN, .inl f))]) hP hD [0, 1] [] rfl rfl (by decide) (by decide) hk1 hFc hP1 hD1
    generalize H1 = H at hP hS ⊢
    have hP : va_P (dC, dI) classes [(mo, .inr (13, MF 30 u2)), (qx, .inl (cB, NN, .inl f))] H := hP
    have hD : va_D A [(mo, .inr (13, MF 30 u2)), (qx, .inl (cB, NN, .inl f))] := hD
    rcases hw with ⟨hw1, hw2, hw3⟩ | ⟨hw1, hw2, hw3⟩
    · subst hw2
      subst hw3
      rw [bx_uu] at hP hD
      have hP : va_P (dC, dI) classes [(mo, .inr (13, MF 30 (va_up v 7 (.int (nI (i + j + 1)))))), (qx, .inl (cB, NN, .inl f))] H := hP
      have hD : va_D A [(mo, .inr (13, MF 30 (va_up v 7 (.int (nI (i + j + 1)))))), (qx, .inl (cB, NN, .inl f))] := hD
      refine lv_if_ne (tgt := 24) hx hb d_Mo_wordS_19 (by decide) (fun _ => ?_) (fun h => absurd h (by decide))
      refine lv_iinc (v := nI (j + 1)) (lv' := [(2, .int (nI (j + 1))), (0, .ref mo), (1, .ref sa)]) hx hb d_Mo_wordS_24 hl (k := 2) rfl (nI_1 j) (by decide) rfl (fun ls hl => ?_)
      refine lv_goto (tgt := 2) hx hb d_Mo_wordS_27 (by decide) ?_
      exact ih (j + 1) _ _ _ ⟨by omega, fun k h => (Nat.lt_succ_iff_lt_or_eq.mp h).elim (hI.2 k) (fun e => by rw [e]; exact hw1)⟩ (by show len - (j + 1) < len - j; omega) hP hD hS (lv_sub hl [1, 2, 0] rfl)
    · subst hw2
      refine lv_if_ne (tgt := 24) hx hb d_Mo_wordS_19 (by decide) (fun h => absurd h (by decide)) (fun _ => ?_)
      refine lv_iconst (v := 0) hx hb d_Mo_wordS_22 (by decide) ?_
      exact W.zret (v := 0) hx hb hr rfl (fun t ht hW => ⟨⟨0, u2, rfl, Or.inr ⟨fun h => hw1 (h j hj), rfl, i + j, hw3⟩, by rw [ht]; exact hP, va_K.moved hW.alike hK, hD⟩, hS.F ht⟩) hS.2.2 d_Mo_wordS_23
