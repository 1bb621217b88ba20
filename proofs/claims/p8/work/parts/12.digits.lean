theorem w_1 : (.initialized "QueryBench" : Cond) ∈ gtbl := gt_in 1 (by decide +kernel) (by decide +kernel)
theorem w_16 : (.initialized "java/lang/Math" : Cond) ∈ gtbl := gt_in 16 (by decide +kernel) (by decide +kernel)
theorem w_510 : (.static ⟨"QueryBench", "isDigit", "(I)Z"⟩ : Cond) ∈ gtbl := gt_in 510 (by decide +kernel) (by decide +kernel)
theorem w_517 : (.constantLong "QueryBench$Tape" 58 10 : Cond) ∈ gtbl := gt_in 517 (by decide +kernel) (by decide +kernel)
theorem w_518 : (.constantLong "QueryBench$Tape" 60 9007199254740992 : Cond) ∈ gtbl := gt_in 518 (by decide +kernel) (by decide +kernel)
theorem w_519 : (.methodLink "QueryBench$Tape" 62 ⟨"java/lang/Math", "min", "(JJ)J"⟩ : Cond) ∈ gtbl := gt_in 519 (by decide +kernel) (by decide +kernel)
theorem w_520 : (.static ⟨"java/lang/Math", "min", "(JJ)J"⟩ : Cond) ∈ gtbl := gt_in 520 (by decide +kernel) (by decide +kernel)
theorem w_522 : (.constantLong "QueryBench$Tape" 68 9007199254740991 : Cond) ∈ gtbl := gt_in 522 (by decide +kernel) (by decide +kernel)
theorem nl_516 : (.methodLinkNest "QueryBench$Tape" 54 ⟨"QueryBench", "isDigit", "(I)Z"⟩ "QueryBench" : Cond) ∈ nwl := List.mem_filter.mpr ⟨List.mem_append_right _ (List.mem_of_getElem? (i := 516) (by decide +kernel)), rfl⟩
def minL (x : Int64) : Int64 := if 9007199254740992 < x then 9007199254740992 else x
def digS (f : Nat → Int32) (n : Nat) : Nat → Nat → Int64 → Int64 × Nat
  | 0, j, a => (a, j)
  | k + 1, j, a => if j < n ∧ 48 ≤ f j ∧ f j ≤ 57 then digS f n k (j + 1) (minL (a * 10 + (f j - 48).toInt64)) else (a, j)
/-- the digits from i on: their number (cut above 2^53 - 1), and where they end -/
def digR (f : Nat → Int32) (n i : Nat) : Int64 × Nat := digS f n (n - i) i 0
theorem digS_s {f : Nat → Int32} {n j : Nat} {a : Int64} (h : j < n) (hd : 48 ≤ f j ∧ f j ≤ 57) : digS f n (n - j) j a = digS f n (n - (j + 1)) (j + 1) (minL (a * 10 + (f j - 48).toInt64)) := by
  rw [show n - j = (n - (j + 1)) + 1 by omega]
  simp only [digS]
  rw [if_pos ⟨h, hd⟩]
theorem digS_e {f : Nat → Int32} {n j : Nat} {a : Int64} (h : ¬ (j < n ∧ 48 ≤ f j ∧ f j ≤ 57)) : digS f n (n - j) j a = (a, j) := by
  cases hk : n - j with
  | zero => rfl
  | succ k => simp only [digS]; rw [if_neg h]
theorem w_minl : Cond.code Lib.MathLoose.min_long.x Lib.MathLoose.min_long.code 4 (some .long) ∈ gtbl := gt_in 521 (by decide +kernel) (by decide +kernel)
abbrev b_Tape_digits : ByteArray := prog_10_method_10_code
def y_Tape_digits : MethodName := ⟨"QueryBench$Tape", "digits", "(I)J"⟩
abbrev k_Tape_digits : Cond := .code y_Tape_digits b_Tape_digits 4 (some .long)
theorem i_Tape_digits : k_Tape_digits ∈ gtbl := gt_in 515 (by decide +kernel) (by decide +kernel)
theorem d_Tape_digits_0 : decode b_Tape_digits 0 = .ok (.lconst 0, 1) := by decide +kernel
theorem d_Tape_digits_1 : decode b_Tape_digits 1 = .ok (.lstore_n 2, 1) := by decide +kernel
theorem d_Tape_digits_2 : decode b_Tape_digits 2 = .ok (.aload_n 0, 1) := by decide +kernel
theorem d_Tape_digits_3 : decode b_Tape_digits 3 = .ok (.getfield 29, 3) := by decide +kernel
theorem d_Tape_digits_6 : decode b_Tape_digits 6 = .ok (.aload_n 0, 1) := by decide +kernel
theorem d_Tape_digits_7 : decode b_Tape_digits 7 = .ok (.getfield 26, 3) := by decide +kernel
theorem d_Tape_digits_10 : decode b_Tape_digits 10 = .ok (.if_icmp .ge 57, 3) := by decide +kernel
theorem d_Tape_digits_13 : decode b_Tape_digits 13 = .ok (.aload_n 0, 1) := by decide +kernel
theorem d_Tape_digits_14 : decode b_Tape_digits 14 = .ok (.getfield 9, 3) := by decide +kernel
theorem d_Tape_digits_17 : decode b_Tape_digits 17 = .ok (.aload_n 0, 1) := by decide +kernel
theorem d_Tape_digits_18 : decode b_Tape_digits 18 = .ok (.getfield 29, 3) := by decide +kernel
theorem d_Tape_digits_21 : decode b_Tape_digits 21 = .ok (.baload, 1) := by decide +kernel
theorem d_Tape_digits_22 : decode b_Tape_digits 22 = .ok (.invokestatic 54, 3) := by decide +kernel
theorem d_Tape_digits_25 : decode b_Tape_digits 25 = .ok (.ifCond .eq 42, 3) := by decide +kernel
theorem d_Tape_digits_28 : decode b_Tape_digits 28 = .ok (.lload_n 2, 1) := by decide +kernel
theorem d_Tape_digits_29 : decode b_Tape_digits 29 = .ok (.ldc2_w 58, 3) := by decide +kernel
theorem d_Tape_digits_32 : decode b_Tape_digits 32 = .ok (.lmul, 1) := by decide +kernel
theorem d_Tape_digits_33 : decode b_Tape_digits 33 = .ok (.aload_n 0, 1) := by decide +kernel
theorem d_Tape_digits_34 : decode b_Tape_digits 34 = .ok (.getfield 9, 3) := by decide +kernel
theorem d_Tape_digits_37 : decode b_Tape_digits 37 = .ok (.aload_n 0, 1) := by decide +kernel
theorem d_Tape_digits_38 : decode b_Tape_digits 38 = .ok (.getfield 29, 3) := by decide +kernel
theorem d_Tape_digits_41 : decode b_Tape_digits 41 = .ok (.baload, 1) := by decide +kernel
theorem d_Tape_digits_42 : decode b_Tape_digits 42 = .ok (.bipush 48, 2) := by decide +kernel
theorem d_Tape_digits_44 : decode b_Tape_digits 44 = .ok (.isub, 1) := by decide +kernel
theorem d_Tape_digits_45 : decode b_Tape_digits 45 = .ok (.i2l, 1) := by decide +kernel
theorem d_Tape_digits_46 : decode b_Tape_digits 46 = .ok (.ladd, 1) := by decide +kernel
theorem d_Tape_digits_47 : decode b_Tape_digits 47 = .ok (.ldc2_w 60, 3) := by decide +kernel
theorem d_Tape_digits_50 : decode b_Tape_digits 50 = .ok (.invokestatic 62, 3) := by decide +kernel
theorem d_Tape_digits_53 : decode b_Tape_digits 53 = .ok (.lstore_n 2, 1) := by decide +kernel
theorem d_Tape_digits_54 : decode b_Tape_digits 54 = .ok (.aload_n 0, 1) := by decide +kernel
theorem d_Tape_digits_55 : decode b_Tape_digits 55 = .ok (.dup, 1) := by decide +kernel
theorem d_Tape_digits_56 : decode b_Tape_digits 56 = .ok (.getfield 29, 3) := by decide +kernel
theorem d_Tape_digits_59 : decode b_Tape_digits 59 = .ok (.iconst 1, 1) := by decide +kernel
theorem d_Tape_digits_60 : decode b_Tape_digits 60 = .ok (.iadd, 1) := by decide +kernel
theorem d_Tape_digits_61 : decode b_Tape_digits 61 = .ok (.putfield 29, 3) := by decide +kernel
theorem d_Tape_digits_64 : decode b_Tape_digits 64 = .ok (.goto (-62), 3) := by decide +kernel
theorem d_Tape_digits_67 : decode b_Tape_digits 67 = .ok (.lload_n 2, 1) := by decide +kernel
theorem d_Tape_digits_68 : decode b_Tape_digits 68 = .ok (.ldc2_w 68, 3) := by decide +kernel
theorem d_Tape_digits_71 : decode b_Tape_digits 71 = .ok (.lcmp, 1) := by decide +kernel
theorem d_Tape_digits_72 : decode b_Tape_digits 72 = .ok (.ifCond .le 8, 3) := by decide +kernel
theorem d_Tape_digits_75 : decode b_Tape_digits 75 = .ok (.aload_n 0, 1) := by decide +kernel
theorem d_Tape_digits_76 : decode b_Tape_digits 76 = .ok (.iload_n 1, 1) := by decide +kernel
theorem d_Tape_digits_77 : decode b_Tape_digits 77 = .ok (.invokevirtual 39, 3) := by decide +kernel
theorem d_Tape_digits_80 : decode b_Tape_digits 80 = .ok (.lload_n 2, 1) := by decide +kernel
theorem d_Tape_digits_81 : decode b_Tape_digits 81 = .ok (.lreturn, 1) := by decide +kernel
set_option maxHeartbeats 4000000 in
set_option maxRecDepth 100000 in
/-- Tape.digits -/
theorem c_Tape_digits (l : Launch) (hl9 : l.stackTraces = false) (dC : Nat → ClassId) (dI : Nat → Nat → Nat) (cB : ClassId) (h0 qb : Nat) (sz : Heap) (ru : Value) (uc ln pl : Int32) (f : Nat → Int32) (n i : Nat) (fst : Int32) (hn0 : n ≤ 4096) (hi0 : i ≤ 900000) : vx_Met l y_Tape_digits (k_Tape_digits :: gtbl) ({ frames := 9, cells := 1, slots := 6, locals := 131 }) (va_Pc [.ref h0, .int fst] (mx dC dI [(h0, .inr (8, [.ref qb, ru, .int uc, .int ln, .int (nI n), .int (nI i), .int pl])), (qb, .inl (cB, 4096, .inl f))] [(cB, .byte)] sz)) (va_Ql (fun (r : Int64) (u : Nat) => (r, u) = digR f n i ∧ r ≤ 9007199254740991) (fun u t => mz dC dI [(h0, .inr (8, [.ref qb, ru, .int uc, .int ln, .int (nI n), .int (nI u), .int pl])), (qb, .inl (cB, 4096, .inl f))] [(cB, .byte)] (va_A [(h0, .inr (8, [.ref qb, ru, .int uc, .int ln, .int (nI n), .int (nI i), .int pl])), (qb, .inl (cB, 4096, .inl f))] sz.size) t ∧ szk sz t.heap 0 0) (va_A [(h0, .inr (8, [.ref qb, ru, .int uc, .int ln, .int (nI n), .int (nI i), .int pl])), (qb, .inl (cB, 4096, .inl f))] sz.size)) (vx_X (fun u : Nat => ∃ r : Int64, (r, u) = digR f n i ∧ ¬ r ≤ 9007199254740991) (fun E u t => E = "java/lang/UnsupportedOperationException" ∧ mz dC dI [(h0, .inr (8, [.ref qb, ru, .int uc, .int ln, .int (nI n), .int (nI u), .int fst])), (qb, .inl (cB, 4096, .inl f))] [(cB, .byte)] (va_A [(h0, .inr (8, [.ref qb, ru, .int uc, .int ln, .int (nI n), .int (nI i), .int pl])), (qb, .inl (cB, 4096, .inl f))] sz.size) t) (va_A [(h0, .inr (8, [.ref qb, ru, .int uc, .int ln, .int (nI n), .int (nI i), .int pl])), (qb, .inl (cB, 4096, .inl f))] sz.size)) 1 6 (va_A [(h0, .inr (8, [.ref qb, ru, .int uc, .int ln, .int (nI n), .int (nI i), .int pl])), (qb, .inl (cB, 4096, .inl f))] sz.size) := by
  refine vx_ofW (cc := b_Tape_digits) (maxL := 4) (ret := (some .long)) (by decide) rfl ?_
  intro p e s m args below meth c s₁ B hml hex hv
  obtain ⟨rfl, ⟨hsz, hP, hK, hD0⟩, hN, hZ⟩ := hv
  have hx := B.exec
  have hb := B.bytes
  have hr := B.returns
  have hts0 := atoms_spec (ws := k_Tape_digits :: gtbl) B.pre
  have hts := fun w h => hts0 w (List.mem_cons_of_mem _ h)
  have hown : s.vm.findClass R_Tape = some m.cls := findClass_of_methodNamed B.named
  have hlocks := B.notSynchronized
  subst hsz
  have hD := hD0.self (sz := s.heap.size)
  generalize hAe : va_A [(h0, .inr (8, [.ref qb, ru, .int uc, .int ln, .int (nI n), .int (nI i), .int pl])), (qb, .inl (cB, 4096, .inl f))] s.heap.size = A at hD hZ ⊢
  have hA : ∀ q : Nat, s.heap.size ≤ q → A q := fun q h => by rw [← hAe]; exact Or.inr h
  have hS : va_S A s.heap s.heap [] := va_S.rf
  have hP : va_P (dC, dI) classes [(h0, .inr (8, [.ref qb, ru, .int uc, .int ln, .int (nI n), .int (nI i), .int pl])), (qb, .inl (cB, 4096, .inl f))] s.heap := hP
  have hl := lv_entry ([.ref h0, .int fst]) (n := 4) (Nat.le_of_ble_eq_true rfl)
  rw [lg_entry_eq]
  generalize (lg_sl ([.ref h0, .int fst]) ++ List.replicate (4 - (lg_sl ([.ref h0, .int fst])).length) Slot.unset).toArray = ls at hl ⊢
  have hl : lv_has ls 4 [(0, .ref h0), (1, .int fst)] := hl
  refine lv_lconst (v := 0) hx hb d_Tape_digits_0 (by decide) ?_
  refine lv_lstore_n (lv' := [(2, .long 0), (0, .ref h0), (1, .int fst)]) hx hb d_Tape_digits_1 rfl hl (by decide) rfl (fun ls hl => ?_)
  refine w_loop (D := (dC, dI)) (cl := classes) (A := A) (H0 := s.heap) (nL := 4) 2 (σ := Nat × Int64) (fun ⟨j, a⟩ => j ≤ 1000000 + n ∧ digS f n (n - j) j a = digR f n i) (fun ⟨j, a⟩ => n - j) (fun ⟨j, a⟩ => [(h0, .inr (8, [.ref qb, ru, .int uc, .int ln, .int (nI n), .int (nI j), .int pl])), (qb, .inl (cB, 4096, .inl f))]) (fun ⟨j, a⟩ => [(0, .ref h0), (1, .int fst), (2, .long a)]) ?_ (i, 0) ⟨by omega, rfl⟩ hP hD hS (lv_sub hl [1, 2, 0] rfl)
  rintro ⟨j, a⟩ H locs ls hI ih hP hD hS hl
  have hP : va_P (dC, dI) classes [(h0, .inr (8, [.ref qb, ru, .int uc, .int ln, .int (nI n), .int (nI j), .int pl])), (qb, .inl (cB, 4096, .inl f))] H := hP
  have hD : va_D A [(h0, .inr (8, [.ref qb, ru, .int uc, .int ln, .int (nI n), .int (nI j), .int pl])), (qb, .inl (cB, 4096, .inl f))] := hD
  have hl : lv_has ls 4 [(0, .ref h0), (1, .int fst), (2, .long a)] := hl
  refine lv_aload_n hx hb d_Tape_digits_2 rfl (lv_at hl 0 rfl) ?_
  refine va_get (D := (dC, dI)) (ci := 8) (v := .int (nI j)) (C := R_Tape) (T := F_Tape) (N := 7) hx hb hts in_Tape hown hK hP 0 rfl rfl 5 (by decide) (hts _ w_54) (fun _ h9 => h9) rfl d_Tape_digits_3 ?_
  refine lv_aload_n hx hb d_Tape_digits_6 rfl (lv_at hl 0 rfl) ?_
  refine va_get (D := (dC, dI)) (ci := 8) (v := .int (nI n)) (C := R_Tape) (T := F_Tape) (N := 7) hx hb hts in_Tape hown hK hP 0 rfl rfl 4 (by decide) (hts _ w_51) (fun _ h9 => h9) rfl d_Tape_digits_7 ?_
  refine lv_icmp_ge (tgt := 67) hx hb d_Tape_digits_10 (by decide) (fun c10 => ?_) (fun c10 => ?_)
  · have he : (a, j) = digR f n i := by rw [← hI.2]; exact (digS_e (fun h => absurd c10 (by rw [nI_leI (by omega) (by omega)]; omega))).symm
    refine lv_lload_n hx hb d_Tape_digits_67 rfl (lv_at hl 2 rfl) ?_
    refine lv_ldc2 (v := 9007199254740991) hx hb hown (hts _ w_522) d_Tape_digits_68 ?_
    refine W.lcmp hx hb d_Tape_digits_71 ?_
    refine lv_if_le (tgt := 80) hx hb d_Tape_digits_72 (by decide) (fun c72 => ?_) (fun c72 => ?_)
    · refine lv_lload_n hx hb d_Tape_digits_80 rfl (lv_at hl 2 rfl) ?_
      refine w_same (fun hq => ?_)
      refine W.widen (k := 1) (n := 6) (Nat.le_of_ble_eq_true rfl) (Nat.le_of_ble_eq_true rfl) ?_
      refine vx_ret ?_
      exact W.lret (v := a) hx hb hr (fun t ht hW => ⟨⟨a, j, rfl, ⟨he, (lg_cmp_le _ _).mp c72⟩, ⟨by rw [ht]; exact hP, va_K.moved hW.alike hK, hD⟩, by rw [ht]; exact hq⟩, hS.F ht⟩) hS.2.2 d_Tape_digits_81
    · refine lv_aload_n hx hb d_Tape_digits_75 rfl (lv_at hl 0 rfl) ?_
      refine lv_iload_n hx hb d_Tape_digits_76 rfl (lv_at hl 1 rfl) ?_
      have hPc := hP.sub (ws' := [(h0, .inr (8, [.ref qb, ru, .int uc, .int ln, .int (nI n), .int (nI j), .int pl])), (qb, .inl (cB, 4096, .inl f))]) [0, 1] rfl
      have hDc := hD.sub (ws' := [(h0, .inr (8, [.ref qb, ru, .int uc, .int ln, .int (nI n), .int (nI j), .int pl])), (qb, .inl (cB, 4096, .inl f))]) [0, 1] (by decide) rfl
      have hKc := hK.sub (tys' := [(cB, .byte)]) [0] rfl
      have hFc := va_free (wc := [(h0, .inr (8, [.ref qb, ru, .int uc, .int ln, .int (nI n), .int (nI j), .int pl])), (qb, .inl (cB, 4096, .inl f))]) hD hS hA [0, 1] rfl
      refine w_same (fun hq0 => ?_)
      refine vx_callv (vx_runV (As := [.int fst]) (rest := []) ⟨hx, hb, hml, hown, hts⟩ (c_Tape_fail l hl9 dC dI cB h0 qb H ru uc ln (nI n) (nI j) pl f fst) (cwV 1 hts (gt_V (own := R_Tape) (C := R_Tape) (i := 39) (y := y_Tape_fail) i_Tape_fail w_413 w_371 w_372 w_2) rfl rfl rfl (by decide +kernel) ⟨Nat.le_of_ble_eq_true rfl, Nat.le_of_ble_eq_true rfl⟩) ⟨mx_blind, va_recv hKc hPc (ci := 8) (q0 := 0) rfl rfl, fun U hU hW => ⟨rfl, ⟨hU, by rw [hU]; exact hPc, va_K.moved hW.alike hKc, hDc.weaken (fun _ _ _ _ => trivial)⟩, hN.warm hW, by rw [hU]; exact ZX.moved' hW.alike (ZX.narrow' (ZX.kept' hZ hS.2.1) hFc)⟩⟩ rfl rfl hl.1 rfl (lv_room (Nat.le_of_ble_eq_true rfl)) d_Tape_digits_77 ⟨Nat.le_of_ble_eq_true rfl, Nat.le_of_ble_eq_true rfl⟩) hS (fun q _ h => hFc q h) hFc (fun q _ h => hFc q h) (fun E ce q9 u t H1 locs ht hvm hw hB hz1 hk1 hS hce hcv hcl => ?_) (fun u t H1 locs ht hvm hw hB hz1 hk1 hS => ?_)
      · obtain ⟨hE, hP1, hK1, hD1⟩ := hB
        rw [ht] at hP1
        obtain ⟨hP, hD⟩ := va_join (wr := []) (w1 := [(h0, .inr (8, [.ref qb, ru, .int uc, .int ln, .int (nI n), .int (nI j), .int fst])), (qb, .inl (cB, 4096, .inl f))]) hP hD [0, 1] [] rfl rfl (by decide) (by decide) hk1 hFc hP1 hD1
        generalize H1 = H at hP hS hce ⊢
        have hP : va_P (dC, dI) classes [(h0, .inr (8, [.ref qb, ru, .int uc, .int ln, .int (nI n), .int (nI j), .int fst])), (qb, .inl (cB, 4096, .inl f))] H := hP
        have hD : va_D A [(h0, .inr (8, [.ref qb, ru, .int uc, .int ln, .int (nI n), .int (nI j), .int fst])), (qb, .inl (cB, 4096, .inl f))] := hD
        exact vx_out (fun x hx => (hex x hx).elim) hlocks hce hcv hcl (fun t ht2 ha => ⟨j, ⟨a, he, fun h => c72 ((lg_cmp_le _ _).mpr h)⟩, ⟨hE, by rw [ht2]; exact hP, va_K.moved ha hK, hD⟩, hS.F ht2⟩) hS.2.2 (Nat.le_of_ble_eq_true rfl) (Nat.le_of_ble_eq_true rfl)
      · exact hw.elim
  · refine lv_aload_n hx hb d_Tape_digits_13 rfl (lv_at hl 0 rfl) ?_
    refine va_get (D := (dC, dI)) (ci := 8) (v := .ref qb) (C := R_Tape) (T := F_Tape) (N := 7) hx hb hts in_Tape hown hK hP 0 rfl rfl 0 (by decide) (hts _ w_43) (fun _ h9 => h9) rfl d_Tape_digits_14 ?_
    refine lv_aload_n hx hb d_Tape_digits_17 rfl (lv_at hl 0 rfl) ?_
    refine va_get (D := (dC, dI)) (ci := 8) (v := .int (nI j)) (C := R_Tape) (T := F_Tape) (N := 7) hx hb hts in_Tape hown hK hP 0 rfl rfl 5 (by decide) (hts _ w_54) (fun _ h9 => h9) rfl d_Tape_digits_18 ?_
    have hj : j < n := by rw [nI_leI (by omega) (by omega)] at c10; omega
    refine va_bald hx hb hK hP 1 0 rfl rfl (vp_in_nI (show j < 4096 by omega) (by decide)) d_Tape_digits_21 ?_
    rw [show (nI j).toNatClampNeg = j from nI_clamp (by omega)]
    have hPc := hP.sub (ws' := []) [] rfl
    have hDc := hD.sub (ws' := []) [] (by decide) rfl
    have hKc := hK.sub (tys' := []) [] rfl
    have hFc := va_free (wc := []) hD hS hA [] rfl
    refine va_calli (va_runSN (As := [.int (f j)]) (rest := []) ⟨hx, hb, hml, hown, hts⟩ (c_QB_isDigit l dC dI H (f j)) (⟨va_cnB (host := "QueryBench") 1 hts (gt_code i_QB_isDigit) rfl rfl rfl (hN _ nl_516) (hts _ w_1) (by decide +kernel) ⟨Nat.le_of_ble_eq_true rfl, Nat.le_of_ble_eq_true rfl⟩, hts _ w_510, trivial⟩) ⟨mp_blind, fun U hU hW => ⟨rfl, hU, by rw [hU]; exact hPc, va_K.moved hW.alike hKc, hDc.weaken (fun _ _ _ _ => trivial)⟩⟩ rfl rfl hl.1 rfl (lv_room (Nat.le_of_ble_eq_true rfl)) d_Tape_digits_22 ⟨Nat.le_of_ble_eq_true rfl, Nat.le_of_ble_eq_true rfl⟩) hS (fun q _ h => hFc q h) hFc (fun r u t H1 locs ht hvm hw hB hz1 hk1 hS => ?_)
    obtain ⟨hP1, hK1, hD1⟩ := hB
    rw [ht] at hP1
    obtain ⟨hP, hD⟩ := va_join (wr := [(h0, .inr (8, [.ref qb, ru, .int uc, .int ln, .int (nI n), .int (nI j), .int pl])), (qb, .inl (cB, 4096, .inl f))]) (w1 := []) hP hD [] [0, 1] rfl rfl (by decide) (by decide) hk1 hFc hP1 hD1
    generalize H1 = H at hP hS ⊢
    have hP : va_P (dC, dI) classes [(h0, .inr (8, [.ref qb, ru, .int uc, .int ln, .int (nI n), .int (nI j), .int pl])), (qb, .inl (cB, 4096, .inl f))] H := hP
    have hD : va_D A [(h0, .inr (8, [.ref qb, ru, .int uc, .int ln, .int (nI n), .int (nI j), .int pl])), (qb, .inl (cB, 4096, .inl f))] := hD
    have hw : r = if 48 ≤ f j ∧ f j ≤ 57 then 1 else 0 := hw
    refine lv_if_eq (tgt := 67) hx hb d_Tape_digits_25 (by decide) (fun c25 => ?_) (fun c25 => ?_)
    · have he : (a, j) = digR f n i := by rw [← hI.2]; exact (digS_e (fun h => by rw [if_pos h.2] at hw; rw [hw] at c25; exact absurd c25 (by decide))).symm
      refine lv_lload_n hx hb d_Tape_digits_67 rfl (lv_at hl 2 rfl) ?_
      refine lv_ldc2 (v := 9007199254740991) hx hb hown (hts _ w_522) d_Tape_digits_68 ?_
      refine W.lcmp hx hb d_Tape_digits_71 ?_
      refine lv_if_le (tgt := 80) hx hb d_Tape_digits_72 (by decide) (fun c72 => ?_) (fun c72 => ?_)
      · refine lv_lload_n hx hb d_Tape_digits_80 rfl (lv_at hl 2 rfl) ?_
        refine w_same (fun hq => ?_)
        refine W.widen (k := 1) (n := 6) (Nat.le_of_ble_eq_true rfl) (Nat.le_of_ble_eq_true rfl) ?_
        refine vx_ret ?_
        exact W.lret (v := a) hx hb hr (fun t ht hW => ⟨⟨a, j, rfl, ⟨he, (lg_cmp_le _ _).mp c72⟩, ⟨by rw [ht]; exact hP, va_K.moved hW.alike hK, hD⟩, by rw [ht]; exact hq⟩, hS.F ht⟩) hS.2.2 d_Tape_digits_81
      · refine lv_aload_n hx hb d_Tape_digits_75 rfl (lv_at hl 0 rfl) ?_
        refine lv_iload_n hx hb d_Tape_digits_76 rfl (lv_at hl 1 rfl) ?_
        have hPc := hP.sub (ws' := [(h0, .inr (8, [.ref qb, ru, .int uc, .int ln, .int (nI n), .int (nI j), .int pl])), (qb, .inl (cB, 4096, .inl f))]) [0, 1] rfl
        have hDc := hD.sub (ws' := [(h0, .inr (8, [.ref qb, ru, .int uc, .int ln, .int (nI n), .int (nI j), .int pl])), (qb, .inl (cB, 4096, .inl f))]) [0, 1] (by decide) rfl
        have hKc := hK.sub (tys' := [(cB, .byte)]) [0] rfl
        have hFc := va_free (wc := [(h0, .inr (8, [.ref qb, ru, .int uc, .int ln, .int (nI n), .int (nI j), .int pl])), (qb, .inl (cB, 4096, .inl f))]) hD hS hA [0, 1] rfl
        refine w_same (fun hq0 => ?_)
        refine vx_callv (vx_runV (As := [.int fst]) (rest := []) ⟨hx, hb, hml, hown, hts⟩ (c_Tape_fail l hl9 dC dI cB h0 qb H ru uc ln (nI n) (nI j) pl f fst) (cwV 1 hts (gt_V (own := R_Tape) (C := R_Tape) (i := 39) (y := y_Tape_fail) i_Tape_fail w_413 w_371 w_372 w_2) rfl rfl rfl (by decide +kernel) ⟨Nat.le_of_ble_eq_true rfl, Nat.le_of_ble_eq_true rfl⟩) ⟨mx_blind, va_recv hKc hPc (ci := 8) (q0 := 0) rfl rfl, fun U hU hW => ⟨rfl, ⟨hU, by rw [hU]; exact hPc, va_K.moved hW.alike hKc, hDc.weaken (fun _ _ _ _ => trivial)⟩, hN.warm hW, by rw [hU]; exact ZX.moved' hW.alike (ZX.narrow' (ZX.kept' hZ hS.2.1) hFc)⟩⟩ rfl rfl hl.1 rfl (lv_room (Nat.le_of_ble_eq_true rfl)) d_Tape_digits_77 ⟨Nat.le_of_ble_eq_true rfl, Nat.le_of_ble_eq_true rfl⟩) hS (fun q _ h => hFc q h) hFc (fun q _ h => hFc q h) (fun E ce q9 u t H1 locs ht hvm hw hB hz1 hk1 hS hce hcv hcl => ?_) (fun u t H1 locs ht hvm hw hB hz1 hk1 hS => ?_)
        · obtain ⟨hE, hP1, hK1, hD1⟩ := hB
          rw [ht] at hP1
          obtain ⟨hP, hD⟩ := va_join (wr := []) (w1 := [(h0, .inr (8, [.ref qb, ru, .int uc, .int ln, .int (nI n), .int (nI j), .int fst])), (qb, .inl (cB, 4096, .inl f))]) hP hD [0, 1] [] rfl rfl (by decide) (by decide) hk1 hFc hP1 hD1
          generalize H1 = H at hP hS hce ⊢
          have hP : va_P (dC, dI) classes [(h0, .inr (8, [.ref qb, ru, .int uc, .int ln, .int (nI n), .int (nI j), .int fst])), (qb, .inl (cB, 4096, .inl f))] H := hP
          have hD : va_D A [(h0, .inr (8, [.ref qb, ru, .int uc, .int ln, .int (nI n), .int (nI j), .int fst])), (qb, .inl (cB, 4096, .inl f))] := hD
          exact vx_out (fun x hx => (hex x hx).elim) hlocks hce hcv hcl (fun t ht2 ha => ⟨j, ⟨a, he, fun h => c72 ((lg_cmp_le _ _).mpr h)⟩, ⟨hE, by rw [ht2]; exact hP, va_K.moved ha hK, hD⟩, hS.F ht2⟩) hS.2.2 (Nat.le_of_ble_eq_true rfl) (Nat.le_of_ble_eq_true rfl)
        · exact hw.elim
    · refine lv_lload_n hx hb d_Tape_digits_28 rfl (lv_at hl 2 rfl) ?_
      refine lv_ldc2 (v := 10) hx hb hown (hts _ w_517) d_Tape_digits_29 ?_
      refine lv_lmul hx hb d_Tape_digits_32 ?_
      refine lv_aload_n hx hb d_Tape_digits_33 rfl (lv_at hl 0 rfl) ?_
      refine va_get (D := (dC, dI)) (ci := 8) (v := .ref qb) (C := R_Tape) (T := F_Tape) (N := 7) hx hb hts in_Tape hown hK hP 0 rfl rfl 0 (by decide) (hts _ w_43) (fun _ h9 => h9) rfl d_Tape_digits_34 ?_
      refine lv_aload_n hx hb d_Tape_digits_37 rfl (lv_at hl 0 rfl) ?_
      refine va_get (D := (dC, dI)) (ci := 8) (v := .int (nI j)) (C := R_Tape) (T := F_Tape) (N := 7) hx hb hts in_Tape hown hK hP 0 rfl rfl 5 (by decide) (hts _ w_54) (fun _ h9 => h9) rfl d_Tape_digits_38 ?_
      refine va_bald hx hb hK hP 1 0 rfl rfl (vp_in_nI (show j < 4096 by omega) (by decide)) d_Tape_digits_41 ?_
      rw [show (nI j).toNatClampNeg = j from nI_clamp (by omega)]
      refine lv_bipush (v := 48) hx hb d_Tape_digits_42 (by decide) ?_
      refine lv_isub hx hb d_Tape_digits_44 ?_
      refine lv_i2l (v := (((f j) - 48)).toInt64) hx hb d_Tape_digits_45 rfl ?_
      refine lv_ladd hx hb d_Tape_digits_46 ?_
      refine lv_ldc2 (v := 9007199254740992) hx hb hown (hts _ w_518) d_Tape_digits_47 ?_
      have hdg : 48 ≤ f j ∧ f j ≤ 57 := Classical.byContradiction (fun h => c25 (by rw [hw, if_neg h]))
      refine va_mmin_long hx hb (hml.trans hl.1.symm) hown (hts _ w_519) (hts _ w_520) (hts _ w_16) (hts _ w_minl) (Nat.le_of_ble_eq_true rfl) (Nat.le_of_ble_eq_true rfl) (Nat.zero_le _) (Nat.zero_le _) d_Tape_digits_50 ?_
      refine lv_lstore_n (lv' := [(2, .long (minL (a * 10 + (f j - 48).toInt64))), (0, .ref h0), (1, .int fst)]) hx hb d_Tape_digits_53 rfl hl (by decide) rfl (fun ls hl => ?_)
      refine lv_aload_n hx hb d_Tape_digits_54 rfl (lv_at hl 1 rfl) ?_
      refine lv_dup hx hb d_Tape_digits_55 rfl ?_
      refine va_get (D := (dC, dI)) (ci := 8) (v := .int (nI j)) (C := R_Tape) (T := F_Tape) (N := 7) hx hb hts in_Tape hown hK hP 0 rfl rfl 5 (by decide) (hts _ w_54) (fun _ h9 => h9) rfl d_Tape_digits_56 ?_
      refine lv_iconst (v := 1) hx hb d_Tape_digits_59 (by decide) ?_
      refine lv_iadd hx hb d_Tape_digits_60 ?_
      refine W.eq (g2 := F0 m 61 ls [.int (nI (j + 1)), .ref h0]) (by rw [show ((nI j) + 1) = (nI (j + 1)) from nI_1 _]) ?_
      refine va_put (D := (dC, dI)) (ci := 8) (v := .int (nI (j + 1))) (ty := .int) (C := R_Tape) (T := F_Tape) (N := 7) hx hb hts in_Tape t_Tape t_Tape_ok n_Tape hown hK hP hD hS 0 rfl rfl 5 (by decide) (hts _ w_54) (fun _ h9 => h9) rfl (by decide +kernel) rfl rfl (Nat.le_of_ble_eq_true rfl) d_Tape_digits_61 (fun H locs hP hD hS => ?_)
      have hP : va_P (dC, dI) classes [(h0, .inr (8, [.ref qb, ru, .int uc, .int ln, .int (nI n), .int (nI (j + 1)), .int pl])), (qb, .inl (cB, 4096, .inl f))] H := hP
      have hD : va_D A [(h0, .inr (8, [.ref qb, ru, .int uc, .int ln, .int (nI n), .int (nI (j + 1)), .int pl])), (qb, .inl (cB, 4096, .inl f))] := hD
      refine lv_goto (tgt := 2) hx hb d_Tape_digits_64 (by decide) ?_
      exact ih (j + 1, minL (a * 10 + (f j - 48).toInt64)) _ _ _ ⟨by omega, by rw [← hI.2]; exact (digS_s hj hdg).symm⟩ (by show n - (j + 1) < n - j; omega) hP hD hS (lv_sub hl [1, 2, 0] rfl)
