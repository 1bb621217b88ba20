theorem w_1100 : (.fieldLink "QueryBenchModel" 232 "QueryBenchModel" "written" "I" : Cond) ∈ gtbl := gt_in 1100 (by decide +kernel) (by decide +kernel)
theorem w_1101 : (.fieldLink "QueryBenchModel" 235 "QueryBenchModel" "over" "Z" : Cond) ∈ gtbl := gt_in 1101 (by decide +kernel) (by decide +kernel)
theorem w_1108 : (.fieldLink "QueryBenchModel" 49 "QueryBenchModel" "q" "[I" : Cond) ∈ gtbl := gt_in 1108 (by decide +kernel) (by decide +kernel)
theorem w_1112 : (.fieldLink "QueryBenchModel" 266 "QueryBenchModel" "opened" "I" : Cond) ∈ gtbl := gt_in 1112 (by decide +kernel) (by decide +kernel)
theorem w_1233 : (.methodLink "QueryBenchModel" 147 ⟨"QueryBenchModel", "c", "()I"⟩ : Cond) ∈ gtbl := gt_in 1233 (by decide +kernel) (by decide +kernel)
theorem w_1235 : (.instanceMethod ⟨"QueryBenchModel", "c", "()I"⟩ : Cond) ∈ gtbl := gt_in 1235 (by decide +kernel) (by decide +kernel)
theorem w_1250 : (.methodLink "QueryBenchModel" 151 ⟨"QueryBenchModel", "fail", "(I)Z"⟩ : Cond) ∈ gtbl := gt_in 1250 (by decide +kernel) (by decide +kernel)
theorem w_1252 : (.instanceMethod ⟨"QueryBenchModel", "fail", "(I)Z"⟩ : Cond) ∈ gtbl := gt_in 1252 (by decide +kernel) (by decide +kernel)
theorem va_up_id {v : Nat → Value} {k : Nat} {x : Value} (h : v k = x) : va_up v k x = v := by
  funext j
  by_cases hj : j = k
  · subst hj; rw [va_up_self]; exact h.symm
  · exact va_up_ne v x hj
abbrev blkH (x : Int32) : Prop := x = 32 ∨ x = 9 ∨ x = 10 ∨ x = 13
theorem blkH_lt {f : Nat → Int32} {n i : Nat} (h : blkH (hereV f n i)) : i < n := Classical.byContradiction (fun hn => by
  unfold hereV at h
  rw [if_neg hn] at h
  revert h
  decide)
def skH (f : Nat → Int32) (n : Nat) : Nat → Nat → Nat
  | 0, j => j
  | k + 1, j => if blkH (hereV f n j) then skH f n k (j + 1) else j
/-- behind the blanks, as the reference goes -/
def skipH (f : Nat → Int32) (n i : Nat) : Nat := skH f n (n - i) i
theorem skipH_s {f : Nat → Int32} {n i : Nat} (hb : blkH (hereV f n i)) : skipH f n i = skipH f n (i + 1) := by
  have h := blkH_lt hb
  unfold skipH
  rw [show n - i = (n - (i + 1)) + 1 by omega]
  simp only [skH]
  rw [if_pos hb]
theorem skipH_e {f : Nat → Int32} {n i : Nat} (h : ¬ blkH (hereV f n i)) : skipH f n i = i := by
  unfold skipH
  cases hk : n - i with
  | zero => rfl
  | succ k => simp only [skH]; rw [if_neg h]
theorem skH_le (f : Nat → Int32) (n : Nat) : ∀ (k j : Nat), j ≤ skH f n k j ∧ skH f n k j ≤ max j n := by
  intro k
  induction k with
  | zero => intro j; simp only [skH]; omega
  | succ k ih =>
    intro j
    simp only [skH]
    split
    · next h => have := ih (j + 1); have := blkH_lt h; omega
    · omega
theorem skipH_le (f : Nat → Int32) (n i : Nat) : i ≤ skipH f n i ∧ skipH f n i ≤ max i n := skH_le f n _ i
abbrev letH (x : Int32) : Prop := (¬ x < 97 ∧ x ≤ 122) ∨ (¬ x < 65 ∧ x ≤ 90) ∨ x = 95
abbrev opH (x : Int32) : Prop := x = 61 ∨ x = 33 ∨ x = 60 ∨ x = 62
abbrev b_Mo_take : ByteArray := prog_14_method_17_code
def y_Mo_take : MethodName := ⟨"QueryBenchModel", "take", "(I)Z"⟩
abbrev k_Mo_take : Cond := .code y_Mo_take b_Mo_take 2 (some .boolean)
theorem i_Mo_take : k_Mo_take ∈ gtbl := gt_in 1249 (by decide +kernel) (by decide +kernel)
theorem d_Mo_take_0 : decode b_Mo_take 0 = .ok (.aload_n 0, 1) := by decide +kernel
theorem d_Mo_take_1 : decode b_Mo_take 1 = .ok (.invokevirtual 147, 3) := by decide +kernel
theorem d_Mo_take_4 : decode b_Mo_take 4 = .ok (.iload_n 1, 1) := by decide +kernel
theorem d_Mo_take_5 : decode b_Mo_take 5 = .ok (.if_icmp .eq 12, 3) := by decide +kernel
theorem d_Mo_take_8 : decode b_Mo_take 8 = .ok (.aload_n 0, 1) := by decide +kernel
theorem d_Mo_take_9 : decode b_Mo_take 9 = .ok (.aload_n 0, 1) := by decide +kernel
theorem d_Mo_take_10 : decode b_Mo_take 10 = .ok (.getfield 135, 3) := by decide +kernel
theorem d_Mo_take_13 : decode b_Mo_take 13 = .ok (.invokevirtual 151, 3) := by decide +kernel
theorem d_Mo_take_16 : decode b_Mo_take 16 = .ok (.ireturn, 1) := by decide +kernel
theorem d_Mo_take_17 : decode b_Mo_take 17 = .ok (.aload_n 0, 1) := by decide +kernel
theorem d_Mo_take_18 : decode b_Mo_take 18 = .ok (.dup, 1) := by decide +kernel
theorem d_Mo_take_19 : decode b_Mo_take 19 = .ok (.getfield 135, 3) := by decide +kernel
theorem d_Mo_take_22 : decode b_Mo_take 22 = .ok (.iconst 1, 1) := by decide +kernel
theorem d_Mo_take_23 : decode b_Mo_take 23 = .ok (.iadd, 1) := by decide +kernel
theorem d_Mo_take_24 : decode b_Mo_take 24 = .ok (.putfield 135, 3) := by decide +kernel
theorem d_Mo_take_27 : decode b_Mo_take 27 = .ok (.iconst 1, 1) := by decide +kernel
theorem d_Mo_take_28 : decode b_Mo_take 28 = .ok (.ireturn, 1) := by decide +kernel
set_option maxHeartbeats 4000000 in
set_option maxRecDepth 100000 in
/-- the reference: take -/
theorem c_Mo_take (l : Launch) (dC : Nat → ClassId) (dI : Nat → Nat → Nat) (mo : Nat) (sz : Heap) (v : Nat → Value) (cB : ClassId) (qx NN : Nat) (f : Nat → Int32) (n i : Nat) (hnN : n ≤ NN) (hNN : NN ≤ 1000000) (hi0 : i ≤ 1000000) (h6 : v 6 = .ref qx) (h7 : v 7 = .int (nI i)) (h8 : v 8 = .int (nI n)) (br : Int32) (h9 : v 9 = .int br) (ch : Int32) : Met l y_Mo_take (k_Mo_take :: gtbl) ({ frames := 1, cells := 0, slots := 0, locals := 24 }) (va_Pc [.ref mo, .int ch] (mp dC dI [(mo, .inr (13, MF 30 v)), (qx, .inl (cB, NN, .inl f))] [(cB, .byte)] sz)) (va_Qi (fun (r : Int32) (u : Nat → Value) => (hereV f n i = ch ∧ r = 1 ∧ u = va_up v 7 (.int (nI (i + 1)))) ∨ (¬ hereV f n i = ch ∧ r = 0 ∧ u = mfail v br (nI i))) (fun u => mz dC dI [(mo, .inr (13, MF 30 u)), (qx, .inl (cB, NN, .inl f))] [(cB, .byte)] (va_A [(mo, .inr (13, MF 30 v)), (qx, .inl (cB, NN, .inl f))] sz.size)) (va_A [(mo, .inr (13, MF 30 v)), (qx, .inl (cB, NN, .inl f))] sz.size)) 0 0 (va_A [(mo, .inr (13, MF 30 v)), (qx, .inl (cB, NN, .inl f))] sz.size) := by
  refine Met.ofW (cc := b_Mo_take) (maxL := 2) (ret := (some .boolean)) (by decide) rfl ?_
  intro p e s m args below meth c s₁ B hml hv
  obtain ⟨rfl, hsz, hP, hK, hD0⟩ := hv
  have hx := B.exec
  have hb := B.bytes
  have hr := B.returns
  have hts0 := atoms_spec (ws := k_Mo_take :: gtbl) B.pre
  have hts := fun w h => hts0 w (List.mem_cons_of_mem _ h)
  have hown : s.vm.findClass R_Mo = some m.cls := findClass_of_methodNamed B.named
  have hlocks := B.notSynchronized
  subst hsz
  have hD := hD0.self (sz := s.heap.size)
  generalize hAe : va_A [(mo, .inr (13, MF 30 v)), (qx, .inl (cB, NN, .inl f))] s.heap.size = A at hD ⊢
  have hA : ∀ q : Nat, s.heap.size ≤ q → A q := fun q h => by rw [← hAe]; exact Or.inr h
  have hS : va_S A s.heap s.heap [] := va_S.rf
  have hP : va_P (dC, dI) classes [(mo, .inr (13, MF 30 v)), (qx, .inl (cB, NN, .inl f))] s.heap := hP
  have hl := lv_entry ([.ref mo, .int ch]) (n := 2) (Nat.le_of_ble_eq_true rfl)
  rw [lg_entry_eq]
  generalize (lg_sl ([.ref mo, .int ch]) ++ List.replicate (2 - (lg_sl ([.ref mo, .int ch])).length) Slot.unset).toArray = ls at hl ⊢
  have hl : lv_has ls 2 [(0, .ref mo), (1, .int ch)] := hl
  refine lv_aload_n hx hb d_Mo_take_0 rfl (lv_at hl 0 rfl) ?_
  have hPc := hP.sub (ws' := [(mo, .inr (13, MF 30 v)), (qx, .inl (cB, NN, .inl f))]) [0, 1] rfl
  have hDc := hD.sub (ws' := [(mo, .inr (13, MF 30 v)), (qx, .inl (cB, NN, .inl f))]) [0, 1] (by decide) rfl
  have hKc := hK.sub (tys' := [(cB, .byte)]) [0] rfl
  have hFc := va_free (wc := [(mo, .inr (13, MF 30 v)), (qx, .inl (cB, NN, .inl f))]) hD hS hA [0, 1] rfl
  refine va_calli (va_runV (As := []) (rest := []) ⟨hx, hb, hml, hown, hts⟩ (c_Mo_c l dC dI mo s.heap v cB qx NN f n i (by omega) (by omega) (by omega) h6 h7 h8) (cwV 0 hts (gt_V (own := R_Mo) (C := R_Mo) (i := 147) (y := y_Mo_c) i_Mo_c w_1233 w_1235 (gt_sel (y := y_Mo_c) (n := 30) (by decide +kernel)) w_7) rfl rfl rfl (by decide +kernel) ⟨Nat.le_of_ble_eq_true rfl, Nat.le_of_ble_eq_true rfl⟩) ⟨mp_blind, va_recv hKc hPc (ci := 13) (q0 := 0) rfl rfl, fun U hU hW => ⟨rfl, hU, by rw [hU]; exact hPc, va_K.moved hW.alike hKc, hDc.weaken (fun _ _ _ _ => trivial)⟩⟩ rfl rfl hl.1 rfl (lv_room (Nat.le_of_ble_eq_true rfl)) d_Mo_take_1 ⟨Nat.le_of_ble_eq_true rfl, Nat.le_of_ble_eq_true rfl⟩) hS (fun q _ h => hFc q h) hFc (fun r1 _u t H1 locs ht hvm hw hB hz1 hk1 hS => ?_)
  obtain ⟨hP1, hK1, hD1⟩ := hB
  rw [ht] at hP1
  obtain ⟨hP, hD⟩ := va_join (wr := []) (w1 := [(mo, .inr (13, MF 30 v)), (qx, .inl (cB, NN, .inl f))]) hP hD [0, 1] [] rfl rfl (by decide) (by decide) hk1 hFc hP1 hD1
  generalize H1 = H at hP hS ⊢
  have hP : va_P (dC, dI) classes [(mo, .inr (13, MF 30 v)), (qx, .inl (cB, NN, .inl f))] H := hP
  have hD : va_D A [(mo, .inr (13, MF 30 v)), (qx, .inl (cB, NN, .inl f))] := hD
  have h_r1 : r1 = hereV f n i := hw
  refine lv_iload_n hx hb d_Mo_take_4 rfl (lv_at hl 1 rfl) ?_
  refine lv_icmp_eq (tgt := 17) hx hb d_Mo_take_5 (by decide) (fun c5 => ?_) (fun c5 => ?_)
  · refine lv_aload_n hx hb d_Mo_take_17 rfl (lv_at hl 0 rfl) ?_
    refine lv_dup hx hb d_Mo_take_18 rfl ?_
    refine va_get (D := (dC, dI)) (ci := 13) (v := .int (nI i)) (C := R_Mo) (T := F_Mo) (N := 30) hx hb hts in_Mo hown hK hP 0 rfl rfl 7 (by decide) (hts _ w_1096) (fun _ h9 => h9) (MFg (by decide) h7) d_Mo_take_19 ?_
    refine lv_iconst (v := 1) hx hb d_Mo_take_22 (by decide) ?_
    refine lv_iadd hx hb d_Mo_take_23 ?_
    refine W.eq (g2 := F0 m 24 ls [.int (nI (i + 1)), .ref mo]) (by rw [show ((nI i) + 1) = (nI (i + 1)) from nI_1 _]) ?_
    refine va_put (D := (dC, dI)) (ci := 13) (v := .int (nI (i + 1))) (ty := .int) (C := R_Mo) (T := F_Mo) (N := 30) hx hb hts in_Mo t_Mo t_Mo_ok n_Mo hown hK hP hD hS 0 rfl rfl 7 (by decide) (hts _ w_1096) (fun _ h9 => h9) rfl (by decide +kernel) rfl rfl (by rw [MFl]; decide) d_Mo_take_24 (fun H locs hP hD hS => ?_)
    rw [MFs (n := 30) (k := 7) (by decide)] at hP hD
    have hP : va_P (dC, dI) classes [(mo, .inr (13, MF 30 (va_up v 7 (.int (nI (i + 1)))))), (qx, .inl (cB, NN, .inl f))] H := hP
    have hD : va_D A [(mo, .inr (13, MF 30 (va_up v 7 (.int (nI (i + 1)))))), (qx, .inl (cB, NN, .inl f))] := hD
    refine lv_iconst (v := 1) hx hb d_Mo_take_27 (by decide) ?_
    exact W.zret (v := 1) hx hb hr rfl (fun t ht hW => ⟨⟨1, va_up v 7 (.int (nI (i + 1))), rfl, Or.inl ⟨h_r1.symm.trans c5, rfl, rfl⟩, by rw [ht]; exact hP, va_K.moved hW.alike hK, hD⟩, hS.F ht⟩) hS.2.2 d_Mo_take_28
  · refine lv_aload_n hx hb d_Mo_take_8 rfl (lv_at hl 0 rfl) ?_
    refine lv_aload_n hx hb d_Mo_take_9 rfl (lv_at hl 0 rfl) ?_
    refine va_get (D := (dC, dI)) (ci := 13) (v := .int (nI i)) (C := R_Mo) (T := F_Mo) (N := 30) hx hb hts in_Mo hown hK hP 0 rfl rfl 7 (by decide) (hts _ w_1096) (fun _ h9 => h9) (MFg (by decide) h7) d_Mo_take_10 ?_
    have hPc := hP.sub (ws' := [(mo, .inr (13, MF 30 v))]) [0] rfl
    have hDc := hD.sub (ws' := [(mo, .inr (13, MF 30 v))]) [0] (by decide) rfl
    have hKc := hK.sub (tys' := []) [] rfl
    have hFc := va_free (wc := [(mo, .inr (13, MF 30 v))]) hD hS hA [0] rfl
    refine va_calli (va_runV (As := [.int (nI i)]) (rest := []) ⟨hx, hb, hml, hown, hts⟩ (c_Mo_fail l dC dI mo H v br (nI i) h9) (cwV 1 hts (gt_V (own := R_Mo) (C := R_Mo) (i := 151) (y := y_Mo_fail) i_Mo_fail w_1250 w_1252 (gt_sel (y := y_Mo_fail) (n := 30) (by decide +kernel)) w_7) rfl rfl rfl (by decide +kernel) ⟨Nat.le_of_ble_eq_true rfl, Nat.le_of_ble_eq_true rfl⟩) ⟨mp_blind, va_recv hKc hPc (ci := 13) (q0 := 0) rfl rfl, fun U hU hW => ⟨rfl, hU, by rw [hU]; exact hPc, va_K.moved hW.alike hKc, hDc.weaken (fun _ _ _ _ => trivial)⟩⟩ rfl rfl hl.1 rfl (lv_room (Nat.le_of_ble_eq_true rfl)) d_Mo_take_13 ⟨Nat.le_of_ble_eq_true rfl, Nat.le_of_ble_eq_true rfl⟩) hS (fun q _ h => hFc q h) hFc (fun r u2 t H1 locs ht hvm hw hB hz1 hk1 hS => ?_)
    obtain ⟨hP1, hK1, hD1⟩ := hB
    rw [ht] at hP1
    obtain ⟨hP, hD⟩ := va_join (wr := [(qx, .inl (cB, NN, .inl f))]) (w1 := [(mo, .inr (13, MF 30 u2))]) hP hD [0] [1] rfl rfl (by decide) (by decide) hk1 hFc hP1 hD1
    generalize H1 = H at hP hS ⊢
    have hP : va_P (dC, dI) classes [(qx, .inl (cB, NN, .inl f)), (mo, .inr (13, MF 30 u2))] H := hP
    have hD : va_D A [(qx, .inl (cB, NN, .inl f)), (mo, .inr (13, MF 30 u2))] := hD
    have hP := hP.sub (ws' := [(mo, .inr (13, MF 30 u2)), (qx, .inl (cB, NN, .inl f))]) [1, 0] rfl
    have hD := hD.sub (ws' := [(mo, .inr (13, MF 30 u2)), (qx, .inl (cB, NN, .inl f))]) [1, 0] (by decide) rfl
    obtain ⟨rfl, rfl⟩ : r = 0 ∧ u2 = mfail v br (nI i) := hw
    have hP : va_P (dC, dI) classes [(mo, .inr (13, MF 30 (mfail v br (nI i)))), (qx, .inl (cB, NN, .inl f))] H := hP
    have hD : va_D A [(mo, .inr (13, MF 30 (mfail v br (nI i)))), (qx, .inl (cB, NN, .inl f))] := hD
    exact W.zret (v := 0) hx hb hr rfl (fun t ht hW => ⟨⟨0, mfail v br (nI i), rfl, Or.inr ⟨fun h => c5 (h_r1.trans h), rfl, rfl⟩, by rw [ht]; exact hP, va_K.moved hW.alike hK, hD⟩, hS.F ht⟩) hS.2.2 d_Mo_take_16
abbrev b_Mo_blanks : ByteArray := prog_14_method_15_code
def y_Mo_blanks : MethodName := ⟨"QueryBenchModel", "blanks", "()V"⟩
abbrev k_Mo_blanks : Cond := .code y_Mo_blanks b_Mo_blanks 1 none
theorem i_Mo_blanks : k_Mo_blanks ∈ gtbl := gt_in 1232 (by decide +kernel) (by decide +kernel)
theorem d_Mo_blanks_0 : decode b_Mo_blanks 0 = .ok (.aload_n 0, 1) := by decide +kernel
theorem d_Mo_blanks_1 : decode b_Mo_blanks 1 = .ok (.invokevirtual 147, 3) := by decide +kernel
theorem d_Mo_blanks_4 : decode b_Mo_blanks 4 = .ok (.bipush 32, 2) := by decide +kernel
theorem d_Mo_blanks_6 : decode b_Mo_blanks 6 = .ok (.if_icmp .eq 30, 3) := by decide +kernel
theorem d_Mo_blanks_9 : decode b_Mo_blanks 9 = .ok (.aload_n 0, 1) := by decide +kernel
theorem d_Mo_blanks_10 : decode b_Mo_blanks 10 = .ok (.invokevirtual 147, 3) := by decide +kernel
theorem d_Mo_blanks_13 : decode b_Mo_blanks 13 = .ok (.bipush 9, 2) := by decide +kernel
theorem d_Mo_blanks_15 : decode b_Mo_blanks 15 = .ok (.if_icmp .eq 21, 3) := by decide +kernel
theorem d_Mo_blanks_18 : decode b_Mo_blanks 18 = .ok (.aload_n 0, 1) := by decide +kernel
theorem d_Mo_blanks_19 : decode b_Mo_blanks 19 = .ok (.invokevirtual 147, 3) := by decide +kernel
theorem d_Mo_blanks_22 : decode b_Mo_blanks 22 = .ok (.bipush 10, 2) := by decide +kernel
theorem d_Mo_blanks_24 : decode b_Mo_blanks 24 = .ok (.if_icmp .eq 12, 3) := by decide +kernel
theorem d_Mo_blanks_27 : decode b_Mo_blanks 27 = .ok (.aload_n 0, 1) := by decide +kernel
theorem d_Mo_blanks_28 : decode b_Mo_blanks 28 = .ok (.invokevirtual 147, 3) := by decide +kernel
theorem d_Mo_blanks_31 : decode b_Mo_blanks 31 = .ok (.bipush 13, 2) := by decide +kernel
theorem d_Mo_blanks_33 : decode b_Mo_blanks 33 = .ok (.if_icmp .ne 16, 3) := by decide +kernel
theorem d_Mo_blanks_36 : decode b_Mo_blanks 36 = .ok (.aload_n 0, 1) := by decide +kernel
theorem d_Mo_blanks_37 : decode b_Mo_blanks 37 = .ok (.dup, 1) := by decide +kernel
theorem d_Mo_blanks_38 : decode b_Mo_blanks 38 = .ok (.getfield 135, 3) := by decide +kernel
theorem d_Mo_blanks_41 : decode b_Mo_blanks 41 = .ok (.iconst 1, 1) := by decide +kernel
theorem d_Mo_blanks_42 : decode b_Mo_blanks 42 = .ok (.iadd, 1) := by decide +kernel
theorem d_Mo_blanks_43 : decode b_Mo_blanks 43 = .ok (.putfield 135, 3) := by decide +kernel
theorem d_Mo_blanks_46 : decode b_Mo_blanks 46 = .ok (.goto (-46), 3) := by decide +kernel
theorem d_Mo_blanks_49 : decode b_Mo_blanks 49 = .ok (.return_, 1) := by decide +kernel
set_option maxHeartbeats 4000000 in
set_option maxRecDepth 100000 in
/-- the reference: blanks -/
theorem c_Mo_blanks (l : Launch) (dC : Nat → ClassId) (dI : Nat → Nat → Nat) (mo : Nat) (sz : Heap) (v : Nat → Value) (cB : ClassId) (qx NN : Nat) (f : Nat → Int32) (n i : Nat) (hnN : n ≤ NN) (hNN : NN ≤ 1000000) (hi0 : i ≤ 900000) (h6 : v 6 = .ref qx) (h7 : v 7 = .int (nI i)) (h8 : v 8 = .int (nI n)) : Met l y_Mo_blanks (k_Mo_blanks :: gtbl) ({ frames := 1, cells := 0, slots := 0, locals := 24 }) (va_Pc [.ref mo] (mp dC dI [(mo, .inr (13, MF 30 v)), (qx, .inl (cB, NN, .inl f))] [(cB, .byte)] sz)) (va_Qv (fun (_ : Unit) => True) (fun _ => mz dC dI [(mo, .inr (13, MF 30 (va_up v 7 (.int (nI (skipH f n i)))))), (qx, .inl (cB, NN, .inl f))] [(cB, .byte)] (va_A [(mo, .inr (13, MF 30 v)), (qx, .inl (cB, NN, .inl f))] sz.size)) (va_A [(mo, .inr (13, MF 30 v)), (qx, .inl (cB, NN, .inl f))] sz.size)) 0 0 (va_A [(mo, .inr (13, MF 30 v)), (qx, .inl (cB, NN, .inl f))] sz.size) := by
  refine Met.ofW (cc := b_Mo_blanks) (maxL := 1) (ret := none) (by decide) rfl ?_
  intro p e s m args below meth c s₁ B hml hv
  obtain ⟨rfl, hsz, hP, hK, hD0⟩ := hv
  have hx := B.exec
  have hb := B.bytes
  have hr := B.returns
  have hts0 := atoms_spec (ws := k_Mo_blanks :: gtbl) B.pre
  have hts := fun w h => hts0 w (List.mem_cons_of_mem _ h)
  have hown : s.vm.findClass R_Mo = some m.cls := findClass_of_methodNamed B.named
  have hlocks := B.notSynchronized
  subst hsz
  have hD := hD0.self (sz := s.heap.size)
  generalize hAe : va_A [(mo, .inr (13, MF 30 v)), (qx, .inl (cB, NN, .inl f))] s.heap.size = A at hD ⊢
  have hA : ∀ q : Nat, s.heap.size ≤ q → A q := fun q h => by rw [← hAe]; exact Or.inr h
  have hS : va_S A s.heap s.heap [] := va_S.rf
  have hP : va_P (dC, dI) classes [(mo, .inr (13, MF 30 v)), (qx, .inl (cB, NN, .inl f))] s.heap := hP
  have hl := lv_entry ([.ref mo]) (n := 1) (Nat.le_of_ble_eq_true rfl)
  rw [lg_entry_eq]
  generalize (lg_sl ([.ref mo]) ++ List.replicate (1 - (lg_sl ([.ref mo])).length) Slot.unset).toArray = ls at hl ⊢
  have hl : lv_has ls 1 [(0, .ref mo)] := hl
  have hP : va_P (dC, dI) classes [(mo, .inr (13, MF 30 (va_up v 7 (.int (nI i))))), (qx, .inl (cB, NN, .inl f))] s.heap := by rw [va_up_id h7]; exact hP
  have hD : va_D A [(mo, .inr (13, MF 30 (va_up v 7 (.int (nI i))))), (qx, .inl (cB, NN, .inl f))] := by rw [va_up_id h7]; exact hD
  refine w_loop (D := (dC, dI)) (cl := classes) (A := A) (H0 := s.heap) (nL := 1) 0 (σ := Nat) (fun j => j ≤ 1000000 ∧ (j = i ∨ j ≤ n) ∧ skipH f n j = skipH f n i) (fun j => n - j) (fun j => [(mo, .inr (13, MF 30 (va_up v 7 (.int (nI j))))), (qx, .inl (cB, NN, .inl f))]) (fun j => [(0, .ref mo)]) ?_ i ⟨by omega, Or.inl rfl, rfl⟩ hP hD hS (lv_sub hl [0] rfl)
  rintro j H locs ls hI ih hP hD hS hl
  have hP : va_P (dC, dI) classes [(mo, .inr (13, MF 30 (va_up v 7 (.int (nI j))))), (qx, .inl (cB, NN, .inl f))] H := hP
  have hD : va_D A [(mo, .inr (13, MF 30 (va_up v 7 (.int (nI j))))), (qx, .inl (cB, NN, .inl f))] := hD
  have hl : lv_has ls 1 [(0, .ref mo)] := hl
  refine lv_aload_n hx hb d_Mo_blanks_0 rfl (lv_at hl 0 rfl) ?_
  have hPc := hP.sub (ws' := [(mo, .inr (13, MF 30 (va_up v 7 (.int (nI j))))), (qx, .inl (cB, NN, .inl f))]) [0, 1] rfl
  have hDc := hD.sub (ws' := [(mo, .inr (13, MF 30 (va_up v 7 (.int (nI j))))), (qx, .inl (cB, NN, .inl f))]) [0, 1] (by decide) rfl
  have hKc := hK.sub (tys' := [(cB, .byte)]) [0] rfl
  have hFc := va_free (wc := [(mo, .inr (13, MF 30 (va_up v 7 (.int (nI j))))), (qx, .inl (cB, NN, .inl f))]) hD hS hA [0, 1] rfl
  refine va_calli (va_runV (As := []) (rest := []) ⟨hx, hb, hml, hown, hts⟩ (c_Mo_c l dC dI mo H (va_up v 7 (.int (nI j))) cB qx NN f n j (by omega) (by omega) (by omega) ((va_up_ne _ _ (by decide)).trans (h6)) (va_up_self _ _ _) ((va_up_ne _ _ (by decide)).trans (h8))) (cwV 0 hts (gt_V (own := R_Mo) (C := R_Mo) (i := 147) (y := y_Mo_c) i_Mo_c w_1233 w_1235 (gt_sel (y := y_Mo_c) (n := 30) (by decide +kernel)) w_7) rfl rfl rfl (by decide +kernel) ⟨Nat.le_of_ble_eq_true rfl, Nat.le_of_ble_eq_true rfl⟩) ⟨mp_blind, va_recv hKc hPc (ci := 13) (q0 := 0) rfl rfl, fun U hU hW => ⟨rfl, hU, by rw [hU]; exact hPc, va_K.moved hW.alike hKc, hDc.weaken (fun _ _ _ _ => trivial)⟩⟩ rfl rfl hl.1 rfl (lv_room (Nat.le_of_ble_eq_true rfl)) d_Mo_blanks_1 ⟨Nat.le_of_ble_eq_true rfl, Nat.le_of_ble_eq_true rfl⟩) hS (fun q _ h => hFc q h) hFc (fun r1 _u t H1 locs ht hvm hw hB hz1 hk1 hS => ?_)
  obtain ⟨hP1, hK1, hD1⟩ := hB
  rw [ht] at hP1
  obtain ⟨hP, hD⟩ := va_join (wr := []) (w1 := [(mo, .inr (13, MF 30 (va_up v 7 (.int (nI j))))), (qx, .inl (cB, NN, .inl f))]) hP hD [0, 1] [] rfl rfl (by decide) (by decide) hk1 hFc hP1 hD1
  generalize H1 = H at hP hS ⊢
  have hP : va_P (dC, dI) classes [(mo, .inr (13, MF 30 (va_up v 7 (.int (nI j))))), (qx, .inl (cB, NN, .inl f))] H := hP
  have hD : va_D A [(mo, .inr (13, MF 30 (va_up v 7 (.int (nI j))))), (qx, .inl (cB, NN, .inl f))] := hD
  have h_r1 : r1 = hereV f n j := hw
  refine lv_bipush (v := 32) hx hb d_Mo_blanks_4 (by decide) ?_
  refine lv_icmp_eq (tgt := 36) hx hb d_Mo_blanks_6 (by decide) (fun c6 => ?_) (fun c6 => ?_)
  · refine lv_aload_n hx hb d_Mo_blanks_36 rfl (lv_at hl 0 rfl) ?_
    refine lv_dup hx hb d_Mo_blanks_37 rfl ?_
    refine va_get (D := (dC, dI)) (ci := 13) (v := .int (nI j)) (C := R_Mo) (T := F_Mo) (N := 30) hx hb hts in_Mo hown hK hP 0 rfl rfl 7 (by decide) (hts _ w_1096) (fun _ h9 => h9) (MFg (by decide) (va_up_self _ _ _)) d_Mo_blanks_38 ?_
    refine lv_iconst (v := 1) hx hb d_Mo_blanks_41 (by decide) ?_
    refine lv_iadd hx hb d_Mo_blanks_42 ?_
    refine W.eq (g2 := F0 m 43 ls [.int (nI (j + 1)), .ref mo]) (by rw [show ((nI j) + 1) = (nI (j + 1)) from nI_1 _]) ?_
    refine va_put (D := (dC, dI)) (ci := 13) (v := .int (nI (j + 1))) (ty := .int) (C := R_Mo) (T := F_Mo) (N := 30) hx hb hts in_Mo t_Mo t_Mo_ok n_Mo hown hK hP hD hS 0 rfl rfl 7 (by decide) (hts _ w_1096) (fun _ h9 => h9) rfl (by decide +kernel) rfl rfl (by rw [MFl]; decide) d_Mo_blanks_43 (fun H locs hP hD hS => ?_)
    rw [MFs (n := 30) (k := 7) (by decide)] at hP hD
    rw [bx_uu] at hP hD
    have hP : va_P (dC, dI) classes [(mo, .inr (13, MF 30 (va_up v 7 (.int (nI (j + 1)))))), (qx, .inl (cB, NN, .inl f))] H := hP
    have hD : va_D A [(mo, .inr (13, MF 30 (va_up v 7 (.int (nI (j + 1)))))), (qx, .inl (cB, NN, .inl f))] := hD
    refine lv_goto (tgt := 0) hx hb d_Mo_blanks_46 (by decide) ?_
    have hbk : blkH (hereV f n j) := Or.inl (h_r1.symm.trans c6)
    have hlt := blkH_lt hbk
    exact ih (j + 1) _ _ _ ⟨by omega, Or.inr (by omega), by rw [← hI.2.2]; exact (skipH_s hbk).symm⟩ (by show n - (j + 1) < n - j; omega) hP hD hS (lv_sub hl [0] rfl)
  · refine lv_aload_n hx hb d_Mo_blanks_9 rfl (lv_at hl 0 rfl) ?_
    have hPc := hP.sub (ws' := [(mo, .inr (13, MF 30 (va_up v 7 (.int (nI j))))), (qx, .inl (cB, NN, .inl f))]) [0, 1] rfl
    have hDc := hD.sub (ws' := [(mo, .inr (13, MF 30 (va_up v 7 (.int (nI j))))), (qx, .inl (cB, NN, .inl f))]) [0, 1] (by decide) rfl
    have hKc := hK.sub (tys' := [(cB, .byte)]) [0] rfl
    have hFc := va_free (wc := [(mo, .inr (13, MF 30 (va_up v 7 (.int (nI j))))), (qx, .inl (cB, NN, .inl f))]) hD hS hA [0, 1] rfl
    refine va_calli (va_runV (As := []) (rest := []) ⟨hx, hb, hml, hown, hts⟩ (c_Mo_c l dC dI mo H (va_up v 7 (.int (nI j))) cB qx NN f n j (by omega) (by omega) (by omega) ((va_up_ne _ _ (by decide)).trans (h6)) (va_up_self _ _ _) ((va_up_ne _ _ (by decide)).trans (h8))) (cwV 0 hts (gt_V (own := R_Mo) (C := R_Mo) (i := 147) (y := y_Mo_c) i_Mo_c w_1233 w_1235 (gt_sel (y := y_Mo_c) (n := 30) (by decide +kernel)) w_7) rfl rfl rfl (by decide +kernel) ⟨Nat.le_of_ble_eq_true rfl, Nat.le_of_ble_eq_true rfl⟩) ⟨mp_blind, va_recv hKc hPc (ci := 13) (q0 := 0) rfl rfl, fun U hU hW => ⟨rfl, hU, by rw [hU]; exact hPc, va_K.moved hW.alike hKc, hDc.weaken (fun _ _ _ _ => trivial)⟩⟩ rfl rfl hl.1 rfl (lv_room (Nat.le_of_ble_eq_true rfl)) d_Mo_blanks_10 ⟨Nat.le_of_ble_eq_true rfl, Nat.le_of_ble_eq_true rfl⟩) hS (fun q _ h => hFc q h) hFc (fun r2 _u t H1 locs ht hvm hw hB hz1 hk1 hS => ?_)
    obtain ⟨hP1, hK1, hD1⟩ := hB
    rw [ht] at hP1
    obtain ⟨hP, hD⟩ := va_join (wr := []) (w1 := [(mo, .inr (13, MF 30 (va_up v 7 (.int (nI j))))), (qx, .inl (cB, NN, .inl f))]) hP hD [0, 1] [] rfl rfl (by decide) (by decide) hk1 hFc hP1 hD1
    generalize H1 = H at hP hS ⊢
    have hP : va_P (dC, dI) classes [(mo, .inr (13, MF 30 (va_up v 7 (.int (nI j))))), (qx, .inl (cB, NN, .inl f))] H := hP
    have hD : va_D A [(mo, .inr (13, MF 30 (va_up v 7 (.int (nI j))))), (qx, .inl (cB, NN, .inl f))] := hD
    have h_r2 : r2 = hereV f n j := hw
    refine lv_bipush (v := 9) hx hb d_Mo_blanks_13 (by decide) ?_
    refine lv_icmp_eq (tgt := 36) hx hb d_Mo_blanks_15 (by decide) (fun c15 => ?_) (fun c15 => ?_)
    · refine lv_aload_n hx hb d_Mo_blanks_36 rfl (lv_at hl 0 rfl) ?_
      refine lv_dup hx hb d_Mo_blanks_37 rfl ?_
      refine va_get (D := (dC, dI)) (ci := 13) (v := .int (nI j)) (C := R_Mo) (T := F_Mo) (N := 30) hx hb hts in_Mo hown hK hP 0 rfl rfl 7 (by decide) (hts _ w_1096) (fun _ h9 => h9) (MFg (by decide) (va_up_self _ _ _)) d_Mo_blanks_38 ?_
      refine lv_iconst (v := 1) hx hb d_Mo_blanks_41 (by decide) ?_
      refine lv_iadd hx hb d_Mo_blanks_42 ?_
      refine W.eq (g2 := F0 m 43 ls [.int (nI (j + 1)), .ref mo]) (by rw [show ((nI j) + 1) = (nI (j + 1)) from nI_1 _]) ?_
      refine va_put (D := (dC, dI)) (ci := 13) (v := .int (nI (j + 1))) (ty := .int) (C := R_Mo) (T := F_Mo) (N := 30) hx hb hts in_Mo t_Mo t_Mo_ok n_Mo hown hK hP hD hS 0 rfl rfl 7 (by decide) (hts _ w_1096) (fun _ h9 => h9) rfl (by decide +kernel) rfl rfl (by rw [MFl]; decide) d_Mo_blanks_43 (fun H locs hP hD hS => ?_)
      rw [MFs (n := 30) (k := 7) (by decide)] at hP hD
      rw [bx_uu] at hP hD
      have hP : va_P (dC, dI) classes [(mo, .inr (13, MF 30 (va_up v 7 (.int (nI (j + 1)))))), (qx, .inl (cB, NN, .inl f))] H := hP
      have hD : va_D A [(mo, .inr (13, MF 30 (va_up v 7 (.int (nI (j + 1)))))), (qx, .inl (cB, NN, .inl f))] := hD
      refine lv_goto (tgt := 0) hx hb d_Mo_blanks_46 (by decide) ?_
      have hbk : blkH (hereV f n j) := Or.inr (Or.inl (h_r2.symm.trans c15))
      have hlt := blkH_lt hbk
      exact ih (j + 1) _ _ _ ⟨by omega, Or.inr (by omega), by rw [← hI.2.2]; exact (skipH_s hbk).symm⟩ (by show n - (j + 1) < n - j; omega) hP hD hS (lv_sub hl [0] rfl)
    · refine lv_aload_n hx hb d_Mo_blanks_18 rfl (lv_at hl 0 rfl) ?_
      have hPc := hP.sub (ws' := [(mo, .inr (13, MF 30 (va_up v 7 (.int (nI j))))), (qx, .inl (cB, NN, .inl f))]) [0, 1] rfl
      have hDc := hD.sub (ws' := [(mo, .inr (13, MF 30 (va_up v 7 (.int (nI j))))), (qx, .inl (cB, NN, .inl f))]) [0, 1] (by decide) rfl
      have hKc := hK.sub (tys' := [(cB, .byte)]) [0] rfl
      have hFc := va_free (wc := [(mo, .inr (13, MF 30 (va_up v 7 (.int (nI j))))), (qx, .inl (cB, NN, .inl f))]) hD hS hA [0, 1] rfl
      refine va_calli (va_runV (As := []) (rest := []) ⟨hx, hb, hml, hown, hts⟩ (c_Mo_c l dC dI mo H (va_up v 7 (.int (nI j))) cB qx NN f n j (by omega) (by omega) (by omega) ((va_up_ne _ _ (by decide)).trans (h6)) (va_up_self _ _ _) ((va_up_ne _ _ (by decide)).trans (h8))) (cwV 0 hts (gt_V (own := R_Mo) (C := R_Mo) (i := 147) (y := y_Mo_c) i_Mo_c w_1233 w_1235 (gt_sel (y := y_Mo_c) (n := 30) (by decide +kernel)) w_7) rfl rfl rfl (by decide +kernel) ⟨Nat.le_of_ble_eq_true rfl, Nat.le_of_ble_eq_true rfl⟩) ⟨mp_blind, va_recv hKc hPc (ci := 13) (q0 := 0) rfl rfl, fun U hU hW => ⟨rfl, hU, by rw [hU]; exact hPc, va_K.moved hW.alike hKc, hDc.weaken (fun _ _ _ _ => trivial)⟩⟩ rfl rfl hl.1 rfl (lv_room (Nat.le_of_ble_eq_true rfl)) d_Mo_blanks_19 ⟨Nat.le_of_ble_eq_true rfl, Nat.le_of_ble_eq_true rfl⟩) hS (fun q _ h => hFc q h) hFc (fun r3 _u t H1 locs ht hvm hw hB hz1 hk1 hS => ?_)
      obtain ⟨hP1, hK1, hD1⟩ := hB
      rw [ht] at hP1
      obtain ⟨hP, hD⟩ := va_join (wr := []) (w1 := [(mo, .inr (13, MF 30 (va_up v 7 (.int (nI j))))), (qx, .inl (cB, NN, .inl f))]) hP hD [0, 1] [] rfl rfl (by decide) (by decide) hk1 hFc hP1 hD1
      generalize H1 = H at hP hS ⊢
      have hP : va_P (dC, dI) classes [(mo, .inr (13, MF 30 (va_up v 7 (.int (nI j))))), (qx, .inl (cB, NN, .inl f))] H := hP
      have hD : va_D A [(mo, .inr (13, MF 30 (va_up v 7 (.int (nI j))))), (qx, .inl (cB, NN, .inl f))] := hD
      have h_r3 : r3 = hereV f n j := hw
      refine lv_bipush (v := 10) hx hb d_Mo_blanks_22 (by decide) ?_
      refine lv_icmp_eq (tgt := 36) hx hb d_Mo_blanks_24 (by decide) (fun c24 => ?_) (fun c24 => ?_)
      · refine lv_aload_n hx hb d_Mo_blanks_36 rfl (lv_at hl 0 rfl) ?_
        refine lv_dup hx hb d_Mo_blanks_37 rfl ?_
        refine va_get (D := (dC, dI)) (ci := 13) (v := .int (nI j)) (C := R_Mo) (T := F_Mo) (N := 30) hx hb hts in_Mo hown hK hP 0 rfl rfl 7 (by decide) (hts _ w_1096) (fun _ h9 => h9) (MFg (by decide) (va_up_self _ _ _)) d_Mo_blanks_38 ?_
        refine lv_iconst (v := 1) hx hb d_Mo_blanks_41 (by decide) ?_
        refine lv_iadd hx hb d_Mo_blanks_42 ?_
        refine W.eq (g2 := F0 m 43 ls [.int (nI (j + 1)), .ref mo]) (by rw [show ((nI j) + 1) = (nI (j + 1)) from nI_1 _]) ?_
        refine va_put (D := (dC, dI)) (ci := 13) (v := .int (nI (j + 1))) (ty := .int) (C := R_Mo) (T := F_Mo) (N := 30) hx hb hts in_Mo t_Mo t_Mo_ok n_Mo hown hK hP hD hS 0 rfl rfl 7 (by decide) (hts _ w_1096) (fun _ h9 => h9) rfl (by decide +kernel) rfl rfl (by rw [MFl]; decide) d_Mo_blanks_43 (fun H locs hP hD hS => ?_)
        rw [MFs (n := 30) (k := 7) (by decide)] at hP hD
        rw [bx_uu] at hP hD
        have hP : va_P (dC, dI) classes [(mo, .inr (13, MF 30 (va_up v 7 (.int (nI (j + 1)))))), (qx, .inl (cB, NN, .inl f))] H := hP
        have hD : va_D A [(mo, .inr (13, MF 30 (va_up v 7 (.int (nI (j + 1)))))), (qx, .inl (cB, NN, .inl f))] := hD
        refine lv_goto (tgt := 0) hx hb d_Mo_blanks_46 (by decide) ?_
        have hbk : blkH (hereV f n j) := Or.inr (Or.inr (Or.inl (h_r3.symm.trans c24)))
        have hlt := blkH_lt hbk
        exact ih (j + 1) _ _ _ ⟨by omega, Or.inr (by omega), by rw [← hI.2.2]; exact (skipH_s hbk).symm⟩ (by show n - (j + 1) < n - j; omega) hP hD hS (lv_sub hl [0] rfl)
      · refine lv_aload_n hx hb d_Mo_blanks_27 rfl (lv_at hl 0 rfl) ?_
        have hPc := hP.sub (ws' := [(mo, .inr (13, MF 30 (va_up v 7 (.int (nI j))))), (qx, .inl (cB, NN, .inl f))]) [0, 1] rfl
        have hDc := hD.sub (ws' := [(mo, .inr (13, MF 30 (va_up v 7 (.int (nI j))))), (qx, .inl (cB, NN, .inl f))]) [0, 1] (by decide) rfl
        have hKc := hK.sub (tys' := [(cB, .byte)]) [0] rfl
        have hFc := va_free (wc := [(mo, .inr (13, MF 30 (va_up v 7 (.int (nI j))))), (qx, .inl (cB, NN, .inl f))]) hD hS hA [0, 1] rfl
        refine va_calli (va_runV (As := []) (rest := []) ⟨hx, hb, hml, hown, hts⟩ (c_Mo_c l dC dI mo H (va_up v 7 (.int (nI j))) cB qx NN f n j (by omega) (by omega) (by omega) ((va_up_ne _ _ (by decide)).trans (h6)) (va_up_self _ _ _) ((va_up_ne _ _ (by decide)).trans (h8))) (cwV 0 hts (gt_V (own := R_Mo) (C := R_Mo) (i := 147) (y := y_Mo_c) i_Mo_c w_1233 w_1235 (gt_sel (y := y_Mo_c) (n := 30) (by decide +kernel)) w_7) rfl rfl rfl (by decide +kernel) ⟨Nat.le_of_ble_eq_true rfl, Nat.le_of_ble_eq_true rfl⟩) ⟨mp_blind, va_recv hKc hPc (ci := 13) (q0 := 0) rfl rfl, fun U hU hW => ⟨rfl, hU, by rw [hU]; exact hPc, va_K.moved hW.alike hKc, hDc.weaken (fun _ _ _ _ => trivial)⟩⟩ rfl rfl hl.1 rfl (lv_room (Nat.le_of_ble_eq_true rfl)) d_Mo_blanks_28 ⟨Nat.le_of_ble_eq_true rfl, Nat.le_of_ble_eq_true rfl⟩) hS (fun q _ h => hFc q h) hFc (fun r4 _u t H1 locs ht hvm hw hB hz1 hk1 hS => ?_)
        obtain ⟨hP1, hK1, hD1⟩ := hB
        rw [ht] at hP1
        obtain ⟨hP, hD⟩ := va_join (wr := []) (w1 := [(mo, .inr (13, MF 30 (va_up v 7 (.int (nI j))))), (qx, .inl (cB, NN, .inl f))]) hP hD [0, 1] [] rfl rfl (by decide) (by decide) hk1 hFc hP1 hD1
        generalize H1 = H at hP hS ⊢
        have hP : va_P (dC, dI) classes [(mo, .inr (13, MF 30 (va_up v 7 (.int (nI j))))), (qx, .inl (cB, NN, .inl f))] H := hP
        have hD : va_D A [(mo, .inr (13, MF 30 (va_up v 7 (.int (nI j))))), (qx, .inl (cB, NN, .inl f))] := hD
        have h_r4 : r4 = hereV f n j := hw
        refine lv_bipush (v := 13) hx hb d_Mo_blanks_31 (by decide) ?_
        refine lv_icmp_ne (tgt := 49) hx hb d_Mo_blanks_33 (by decide) (fun c33 => ?_) (fun c33 => ?_)
        · have he : skipH f n i = j := by rw [← hI.2.2]; exact skipH_e (fun h => by rcases h with h | h | h | h; exact c6 (h_r1.trans h); exact c15 (h_r2.trans h); exact c24 (h_r3.trans h); exact c33 (h_r4.trans h))
          exact W.vret hx hb hr (fun t ht hW => ⟨⟨(), rfl, trivial, by rw [ht, he]; exact hP, va_K.moved hW.alike hK, by rw [he]; exact hD⟩, hS.F ht⟩) hS.2.2 d_Mo_blanks_49
        · refine lv_aload_n hx hb d_Mo_blanks_36 rfl (lv_at hl 0 rfl) ?_
          refine lv_dup hx hb d_Mo_blanks_37 rfl ?_
          refine va_get (D := (dC, dI)) (ci := 13) (v := .int (nI j)) (C := R_Mo) (T := F_Mo) (N := 30) hx hb hts in_Mo hown hK hP 0 rfl rfl 7 (by decide) (hts _ w_1096) (fun _ h9 => h9) (MFg (by decide) (va_up_self _ _ _)) d_Mo_blanks_38 ?_
          refine lv_iconst (v := 1) hx hb d_Mo_blanks_41 (by decide) ?_
          refine lv_iadd hx hb d_Mo_blanks_42 ?_
          refine W.eq (g2 := F0 m 43 ls [.int (nI (j + 1)), .ref mo]) (by rw [show ((nI j) + 1) = (nI (j + 1)) from nI_1 _]) ?_
          refine va_put (D := (dC, dI)) (ci := 13) (v := .int (nI (j + 1))) (ty := .int) (C := R_Mo) (T := F_Mo) (N := 30) hx hb hts in_Mo t_Mo t_Mo_ok n_Mo hown hK hP hD hS 0 rfl rfl 7 (by decide) (hts _ w_1096) (fun _ h9 => h9) rfl (by decide +kernel) rfl rfl (by rw [MFl]; decide) d_Mo_blanks_43 (fun H locs hP hD hS => ?_)
          rw [MFs (n := 30) (k := 7) (by decide)] at hP hD
          rw [bx_uu] at hP hD
          have hP : va_P (dC, dI) classes [(mo, .inr (13, MF 30 (va_up v 7 (.int (nI (j + 1)))))), (qx, .inl (cB, NN, .inl f))] H := hP
          have hD : va_D A [(mo, .inr (13, MF 30 (va_up v 7 (.int (nI (j + 1)))))), (qx, .inl (cB, NN, .inl f))] := hD
          refine lv_goto (tgt := 0) hx hb d_Mo_blanks_46 (by decide) ?_
          have hbk : blkH (hereV f n j) := Or.inr (Or.inr (Or.inr (h_r4.symm.trans c33)))
          have hlt := blkH_lt hbk
          exact ih (j + 1) _ _ _ ⟨by omega, Or.inr (by omega), by rw [← hI.2.2]; exact (skipH_s hbk).symm⟩ (by show n - (j + 1) < n - j; omega) hP hD hS (lv_sub hl [0] rfl)
abbrev b_Mo_letter : ByteArray := prog_14_method_36_code
def y_Mo_letter : MethodName := ⟨"QueryBenchModel", "letter", "(I)Z"⟩
abbrev k_Mo_letter : Cond := .code y_Mo_letter b_Mo_letter 1 (some .boolean)
theorem i_Mo_letter : k_Mo_letter ∈ gtbl := gt_in 1480 (by decide +kernel) (by decide +kernel)
theorem d_Mo_letter_0 : decode b_Mo_letter 0 = .ok (.iload_n 0, 1) := by decide +kernel
theorem d_Mo_letter_1 : decode b_Mo_letter 1 = .ok (.bipush 97, 2) := by decide +kernel
theorem d_Mo_letter_3 : decode b_Mo_letter 3 = .ok (.if_icmp .lt 9, 3) := by decide +kernel
theorem d_Mo_letter_6 : decode b_Mo_letter 6 = .ok (.iload_n 0, 1) := by decide +kernel
theorem d_Mo_letter_7 : decode b_Mo_letter 7 = .ok (.bipush 122, 2) := by decide +kernel
theorem d_Mo_letter_9 : decode b_Mo_letter 9 = .ok (.if_icmp .le 21, 3) := by decide +kernel
theorem d_Mo_letter_12 : decode b_Mo_letter 12 = .ok (.iload_n 0, 1) := by decide +kernel
theorem d_Mo_letter_13 : decode b_Mo_letter 13 = .ok (.bipush 65, 2) := by decide +kernel
theorem d_Mo_letter_15 : decode b_Mo_letter 15 = .ok (.if_icmp .lt 9, 3) := by decide +kernel
theorem d_Mo_letter_18 : decode b_Mo_letter 18 = .ok (.iload_n 0, 1) := by decide +kernel
theorem d_Mo_letter_19 : decode b_Mo_letter 19 = .ok (.bipush 90, 2) := by decide +kernel
theorem d_Mo_letter_21 : decode b_Mo_letter 21 = .ok (.if_icmp .le 9, 3) := by decide +kernel
theorem d_Mo_letter_24 : decode b_Mo_letter 24 = .ok (.iload_n 0, 1) := by decide +kernel
theorem d_Mo_letter_25 : decode b_Mo_letter 25 = .ok (.bipush 95, 2) := by decide +kernel
theorem d_Mo_letter_27 : decode b_Mo_letter 27 = .ok (.if_icmp .ne 7, 3) := by decide +kernel
theorem d_Mo_letter_30 : decode b_Mo_letter 30 = .ok (.iconst 1, 1) := by decide +kernel
theorem d_Mo_letter_31 : decode b_Mo_letter 31 = .ok (.goto 4, 3) := by decide +kernel
theorem d_Mo_letter_34 : decode b_Mo_letter 34 = .ok (.iconst 0, 1) := by decide +kernel
theorem d_Mo_letter_35 : decode b_Mo_letter 35 = .ok (.ireturn, 1) := by decide +kernel
set_option maxHeartbeats 4000000 in
set_option maxRecDepth 100000 in
/-- the reference: letter -/
theorem c_Mo_letter (l : Launch) (dC : Nat → ClassId) (dI : Nat → Nat → Nat) (sz : Heap) (x : Int32) : Met l y_Mo_letter (k_Mo_letter :: gtbl) ({ frames := 0, cells := 0, slots := 0, locals := 0 }) (va_Pc [.int x] (mp dC dI [] [] sz)) (va_Qi (fun (r : Int32) (_ : Unit) => r = if letH x then 1 else 0) (fun _ => mz dC dI [] [] (va_A [] sz.size)) (va_A [] sz.size)) 0 0 (va_A [] sz.size) := by
  refine Met.ofW (cc := b_Mo_letter) (maxL := 1) (ret := (some .boolean)) (by decide) rfl ?_
  intro p e s m args below meth c s₁ B hml hv
  obtain ⟨rfl, hsz, hP, hK, hD0⟩ := hv
  have hx := B.exec
  have hb := B.bytes
  have hr := B.returns
  have hts0 := atoms_spec (ws := k_Mo_letter :: gtbl) B.pre
  have hts := fun w h => hts0 w (List.mem_cons_of_mem _ h)
  have hown : s.vm.findClass R_Mo = some m.cls := findClass_of_methodNamed B.named
  have hlocks := B.notSynchronized
  subst hsz
  have hD := hD0.self (sz := s.heap.size)
  generalize hAe : va_A [] s.heap.size = A at hD ⊢
  have hA : ∀ q : Nat, s.heap.size ≤ q → A q := fun q h => by rw [← hAe]; exact Or.inr h
  have hS : va_S A s.heap s.heap [] := va_S.rf
  have hP : va_P (dC, dI) classes [] s.heap := hP
  have hl := lv_entry ([.int x]) (n := 1) (Nat.le_of_ble_eq_true rfl)
  rw [lg_entry_eq]
  generalize (lg_sl ([.int x]) ++ List.replicate (1 - (lg_sl ([.int x])).length) Slot.unset).toArray = ls at hl ⊢
  have hl : lv_has ls 1 [(0, .int x)] := hl
  refine lv_iload_n hx hb d_Mo_letter_0 rfl (lv_at hl 0 rfl) ?_
  refine lv_bipush (v := 97) hx hb d_Mo_letter_1 (by decide) ?_
  refine lv_icmp_lt (tgt := 12) hx hb d_Mo_letter_3 (by decide) (fun c3 => ?_) (fun c3 => ?_)
  · refine lv_iload_n hx hb d_Mo_letter_12 rfl (lv_at hl 0 rfl) ?_
    refine lv_bipush (v := 65) hx hb d_Mo_letter_13 (by decide) ?_
    refine lv_icmp_lt (tgt := 24) hx hb d_Mo_letter_15 (by decide) (fun c15 => ?_) (fun c15 => ?_)
    · refine lv_iload_n hx hb d_Mo_letter_24 rfl (lv_at hl 0 rfl) ?_
      refine lv_bipush (v := 95) hx hb d_Mo_letter_25 (by decide) ?_
      refine lv_icmp_ne (tgt := 34) hx hb d_Mo_letter_27 (by decide) (fun c27 => ?_) (fun c27 => ?_)
      · refine lv_iconst (v := 0) hx hb d_Mo_letter_34 (by decide) ?_
        exact W.zret (v := 0) hx hb hr rfl (fun t ht hW => ⟨⟨0, (), rfl, by rw [if_neg (fun h => h.elim (fun h => h.1 c3) (fun h => h.elim (fun h => h.1 c15) (fun h => c27 h)))], by rw [ht]; exact hP, va_K.moved hW.alike hK, hD⟩, hS.F ht⟩) hS.2.2 d_Mo_letter_35
      · refine lv_iconst (v := 1) hx hb d_Mo_letter_30 (by decide) ?_
        refine lv_goto (tgt := 35) hx hb d_Mo_letter_31 (by decide) ?_
        exact W.zret (v := 1) hx hb hr rfl (fun t ht hW => ⟨⟨1, (), rfl, by rw [if_pos (Or.inr (Or.inr c27))], by rw [ht]; exact hP, va_K.moved hW.alike hK, hD⟩, hS.F ht⟩) hS.2.2 d_Mo_letter_35
    · refine lv_iload_n hx hb d_Mo_letter_18 rfl (lv_at hl 0 rfl) ?_
      refine lv_bipush (v := 90) hx hb d_Mo_letter_19 (by decide) ?_
      refine lv_icmp_le (tgt := 30) hx hb d_Mo_letter_21 (by decide) (fun c21 => ?_) (fun c21 => ?_)
      · refine lv_iconst (v := 1) hx hb d_Mo_letter_30 (by decide) ?_
        refine lv_goto (tgt := 35) hx hb d_Mo_letter_31 (by decide) ?_
        exact W.zret (v := 1) hx hb hr rfl (fun t ht hW => ⟨⟨1, (), rfl, by rw [if_pos (Or.inr (Or.inl ⟨c15, c21⟩))], by rw [ht]; exact hP, va_K.moved hW.alike hK, hD⟩, hS.F ht⟩) hS.2.2 d_Mo_letter_35
      · refine lv_iload_n hx hb d_Mo_letter_24 rfl (lv_at hl 0 rfl) ?_
        refine lv_bipush (v := 95) hx hb d_Mo_letter_25 (by decide) ?_
        refine lv_icmp_ne (tgt := 34) hx hb d_Mo_letter_27 (by decide) (fun c27 => ?_) (fun c27 => ?_)
        · refine lv_iconst (v := 0) hx hb d_Mo_letter_34 (by decide) ?_
          exact W.zret (v := 0) hx hb hr rfl (fun t ht hW => ⟨⟨0, (), rfl, by rw [if_neg (fun h => h.elim (fun h => h.1 c3) (fun h => h.elim (fun h => c21 h.2) (fun h => c27 h)))], by rw [ht]; exact hP, va_K.moved hW.alike hK, hD⟩, hS.F ht⟩) hS.2.2 d_Mo_letter_35
        · refine lv_iconst (v := 1) hx hb d_Mo_letter_30 (by decide) ?_
          refine lv_goto (tgt := 35) hx hb d_Mo_letter_31 (by decide) ?_
          exact W.zret (v := 1) hx hb hr rfl (fun t ht hW => ⟨⟨1, (), rfl, by rw [if_pos (Or.inr (Or.inr c27))], by rw [ht]; exact hP, va_K.moved hW.alike hK, hD⟩, hS.F ht⟩) hS.2.2 d_Mo_letter_35
  · refine lv_iload_n hx hb d_Mo_letter_6 rfl (lv_at hl 0 rfl) ?_
    refine lv_bipush (v := 122) hx hb d_Mo_letter_7 (by decide) ?_
    refine lv_icmp_le (tgt := 30) hx hb d_Mo_letter_9 (by decide) (fun c9 => ?_) (fun c9 => ?_)
    · refine lv_iconst (v := 1) hx hb d_Mo_letter_30 (by decide) ?_
      refine lv_goto (tgt := 35) hx hb d_Mo_letter_31 (by decide) ?_
      exact W.zret (v := 1) hx hb hr rfl (fun t ht hW => ⟨⟨1, (), rfl, by rw [if_pos (Or.inl ⟨c3, c9⟩)], by rw [ht]; exact hP, va_K.moved hW.alike hK, hD⟩, hS.F ht⟩) hS.2.2 d_Mo_letter_35
    · refine lv_iload_n hx hb d_Mo_letter_12 rfl (lv_at hl 0 rfl) ?_
      refine lv_bipush (v := 65) hx hb d_Mo_letter_13 (by decide) ?_
      refine lv_icmp_lt (tgt := 24) hx hb d_Mo_letter_15 (by decide) (fun c15 => ?_) (fun c15 => ?_)
      · refine lv_iload_n hx hb d_Mo_letter_24 rfl (lv_at hl 0 rfl) ?_
        refine lv_bipush (v := 95) hx hb d_Mo_letter_25 (by decide) ?_
        refine lv_icmp_ne (tgt := 34) hx hb d_Mo_letter_27 (by decide) (fun c27 => ?_) (fun c27 => ?_)
        · refine lv_iconst (v := 0) hx hb d_Mo_letter_34 (by decide) ?_
          exact W.zret (v := 0) hx hb hr rfl (fun t ht hW => ⟨⟨0, (), rfl, by rw [if_neg (fun h => h.elim (fun h => c9 h.2) (fun h => h.elim (fun h => h.1 c15) (fun h => c27 h)))], by rw [ht]; exact hP, va_K.moved hW.alike hK, hD⟩, hS.F ht⟩) hS.2.2 d_Mo_letter_35
        · refine lv_iconst (v := 1) hx hb d_Mo_letter_30 (by decide) ?_
          refine lv_goto (tgt := 35) hx hb d_Mo_letter_31 (by decide) ?_
          exact W.zret (v := 1) hx hb hr rfl (fun t ht hW => ⟨⟨1, (), rfl, by rw [if_pos (Or.inr (Or.inr c27))], by rw [ht]; exact hP, va_K.moved hW.alike hK, hD⟩, hS.F ht⟩) hS.2.2 d_Mo_letter_35
      · refine lv_iload_n hx hb d_Mo_letter_18 rfl (lv_at hl 0 rfl) ?_
        refine lv_bipush (v := 90) hx hb d_Mo_letter_19 (by decide) ?_
        refine lv_icmp_le (tgt := 30) hx hb d_Mo_letter_21 (by decide) (fun c21 => ?_) (fun c21 => ?_)
        · refine lv_iconst (v := 1) hx hb d_Mo_letter_30 (by decide) ?_
          refine lv_goto (tgt := 35) hx hb d_Mo_letter_31 (by decide) ?_
          exact W.zret (v := 1) hx hb hr rfl (fun t ht hW => ⟨⟨1, (), rfl, by rw [if_pos (Or.inr (Or.inl ⟨c15, c21⟩))], by rw [ht]; exact hP, va_K.moved hW.alike hK, hD⟩, hS.F ht⟩) hS.2.2 d_Mo_letter_35
        · refine lv_iload_n hx hb d_Mo_letter_24 rfl (lv_at hl 0 rfl) ?_
          refine lv_bipush (v := 95) hx hb d_Mo_letter_25 (by decide) ?_
          refine lv_icmp_ne (tgt := 34) hx hb d_Mo_letter_27 (by decide) (fun c27 => ?_) (fun c27 => ?_)
          · refine lv_iconst (v := 0) hx hb d_Mo_letter_34 (by decide) ?_
            exact W.zret (v := 0) hx hb hr rfl (fun t ht hW => ⟨⟨0, (), rfl, by rw [if_neg (fun h => h.elim (fun h => c9 h.2) (fun h => h.elim (fun h => c21 h.2) (fun h => c27 h)))], by rw [ht]; exact hP, va_K.moved hW.alike hK, hD⟩, hS.F ht⟩) hS.2.2 d_Mo_letter_35
          · refine lv_iconst (v := 1) hx hb d_Mo_letter_30 (by decide) ?_
            refine lv_goto (tgt := 35) hx hb d_Mo_letter_31 (by decide) ?_
            exact W.zret (v := 1) hx hb hr rfl (fun t ht hW => ⟨⟨1, (), rfl, by rw [if_pos (Or.inr (Or.inr c27))], by rw [ht]; exact hP, va_K.moved hW.alike hK, hD⟩, hS.F ht⟩) hS.2.2 d_Mo_letter_35
abbrev b_Mo_operator : ByteArray := prog_14_method_48_code
def y_Mo_operator : MethodName := ⟨"QueryBenchModel", "operator", "()Z"⟩
abbrev k_Mo_operator : Cond := .code y_Mo_operator b_Mo_operator 1 (some .boolean)
theorem i_Mo_operator : k_Mo_operator ∈ gtbl := gt_in 1454 (by decide +kernel) (by decide +kernel)
theorem d_Mo_operator_0 : decode b_Mo_operator 0 = .ok (.aload_n 0, 1) := by decide +kernel
theorem d_Mo_operator_1 : decode b_Mo_operator 1 = .ok (.invokevirtual 147, 3) := by decide +kernel
theorem d_Mo_operator_4 : decode b_Mo_operator 4 = .ok (.bipush 61, 2) := by decide +kernel
theorem d_Mo_operator_6 : decode b_Mo_operator 6 = .ok (.if_icmp .eq 30, 3) := by decide +kernel
theorem d_Mo_operator_9 : decode b_Mo_operator 9 = .ok (.aload_n 0, 1) := by decide +kernel
theorem d_Mo_operator_10 : decode b_Mo_operator 10 = .ok (.invokevirtual 147, 3) := by decide +kernel
theorem d_Mo_operator_13 : decode b_Mo_operator 13 = .ok (.bipush 33, 2) := by decide +kernel
theorem d_Mo_operator_15 : decode b_Mo_operator 15 = .ok (.if_icmp .eq 21, 3) := by decide +kernel
theorem d_Mo_operator_18 : decode b_Mo_operator 18 = .ok (.aload_n 0, 1) := by decide +kernel
theorem d_Mo_operator_19 : decode b_Mo_operator 19 = .ok (.invokevirtual 147, 3) := by decide +kernel
theorem d_Mo_operator_22 : decode b_Mo_operator 22 = .ok (.bipush 60, 2) := by decide +kernel
theorem d_Mo_operator_24 : decode b_Mo_operator 24 = .ok (.if_icmp .eq 12, 3) := by decide +kernel
theorem d_Mo_operator_27 : decode b_Mo_operator 27 = .ok (.aload_n 0, 1) := by decide +kernel
theorem d_Mo_operator_28 : decode b_Mo_operator 28 = .ok (.invokevirtual 147, 3) := by decide +kernel
theorem d_Mo_operator_31 : decode b_Mo_operator 31 = .ok (.bipush 62, 2) := by decide +kernel
theorem d_Mo_operator_33 : decode b_Mo_operator 33 = .ok (.if_icmp .ne 7, 3) := by decide +kernel
theorem d_Mo_operator_36 : decode b_Mo_operator 36 = .ok (.iconst 1, 1) := by decide +kernel
theorem d_Mo_operator_37 : decode b_Mo_operator 37 = .ok (.goto 4, 3) := by decide +kernel
theorem d_Mo_operator_40 : decode b_Mo_operator 40 = .ok (.iconst 0, 1) := by decide +kernel
theorem d_Mo_operator_41 : decode b_Mo_operator 41 = .ok (.ireturn, 1) := by decide +kernel
set_option maxHeartbeats 4000000 in
set_option maxRecDepth 100000 in
/-- the reference: operator -/
theorem c_Mo_operator (l : Launch) (dC : Nat → ClassId) (dI : Nat → Nat → Nat) (mo : Nat) (sz : Heap) (v : Nat → Value) (cB : ClassId) (qx NN : Nat) (f : Nat → Int32) (n i : Nat) (hnN : n ≤ NN) (hNN : NN ≤ 1000000) (hi0 : i ≤ 1000000) (h6 : v 6 = .ref qx) (h7 : v 7 = .int (nI i)) (h8 : v 8 = .int (nI n)) : Met l y_Mo_operator (k_Mo_operator :: gtbl) ({ frames := 1, cells := 0, slots := 0, locals := 24 }) (va_Pc [.ref mo] (mp dC dI [(mo, .inr (13, MF 30 v)), (qx, .inl (cB, NN, .inl f))] [(cB, .byte)] sz)) (va_Qi (fun (r : Int32) (_ : Unit) => r = if opH (hereV f n i) then 1 else 0) (fun _ => mz dC dI [(mo, .inr (13, MF 30 v)), (qx, .inl (cB, NN, .inl f))] [(cB, .byte)] (va_A [(mo, .inr (13, MF 30 v)), (qx, .inl (cB, NN, .inl f))] sz.size)) (va_A [(mo, .inr (13, MF 30 v)), (qx, .inl (cB, NN, .inl f))] sz.size)) 0 0 (va_A [(mo, .inr (13, MF 30 v)), (qx, .inl (cB, NN, .inl f))] sz.size) := by
  refine Met.ofW (cc := b_Mo_operator) (maxL := 1) (ret := (some .boolean)) (by decide) rfl ?_
  intro p e s m args below meth c s₁ B hml hv
  obtain ⟨rfl, hsz, hP, hK, hD0⟩ := hv
  have hx := B.exec
  have hb := B.bytes
  have hr := B.returns
  have hts0 := atoms_spec (ws := k_Mo_operator :: gtbl) B.pre
  have hts := fun w h => hts0 w (List.mem_cons_of_mem _ h)
  have hown : s.vm.findClass R_Mo = some m.cls := findClass_of_methodNamed B.named
  have hlocks := B.notSynchronized
  subst hsz
  have hD := hD0.self (sz := s.heap.size)
  generalize hAe : va_A [(mo, .inr (13, MF 30 v)), (qx, .inl (cB, NN, .inl f))] s.heap.size = A at hD ⊢
  have hA : ∀ q : Nat, s.heap.size ≤ q → A q := fun q h => by rw [← hAe]; exact Or.inr h
  have hS : va_S A s.heap s.heap [] := va_S.rf
  have hP : va_P (dC, dI) classes [(mo, .inr (13, MF 30 v)), (qx, .inl (cB, NN, .inl f))] s.heap := hP
  have hl := lv_entry ([.ref mo]) (n := 1) (Nat.le_of_ble_eq_true rfl)
  rw [lg_entry_eq]
  generalize (lg_sl ([.ref mo]) ++ List.replicate (1 - (lg_sl ([.ref mo])).length) Slot.unset).toArray = ls at hl ⊢
  have hl : lv_has ls 1 [(0, .ref mo)] := hl
  refine lv_aload_n hx hb d_Mo_operator_0 rfl (lv_at hl 0 rfl) ?_
  have hPc := hP.sub (ws' := [(mo, .inr (13, MF 30 v)), (qx, .inl (cB, NN, .inl f))]) [0, 1] rfl
  have hDc := hD.sub (ws' := [(mo, .inr (13, MF 30 v)), (qx, .inl (cB, NN, .inl f))]) [0, 1] (by decide) rfl
  have hKc := hK.sub (tys' := [(cB, .byte)]) [0] rfl
  have hFc := va_free (wc := [(mo, .inr (13, MF 30 v)), (qx, .inl (cB, NN, .inl f))]) hD hS hA [0, 1] rfl
  refine va_calli (va_runV (As := []) (rest := []) ⟨hx, hb, hml, hown, hts⟩ (c_Mo_c l dC dI mo s.heap v cB qx NN f n i (by omega) (by omega) (by omega) h6 h7 h8) (cwV 0 hts (gt_V (own := R_Mo) (C := R_Mo) (i := 147) (y := y_Mo_c) i_Mo_c w_1233 w_1235 (gt_sel (y := y_Mo_c) (n := 30) (by decide +kernel)) w_7) rfl rfl rfl (by decide +kernel) ⟨Nat.le_of_ble_eq_true rfl, Nat.le_of_ble_eq_true rfl⟩) ⟨mp_blind, va_recv hKc hPc (ci := 13) (q0 := 0) rfl rfl, fun U hU hW => ⟨rfl, hU, by rw [hU]; exact hPc, va_K.moved hW.alike hKc, hDc.weaken (fun _ _ _ _ => trivial)⟩⟩ rfl rfl hl.1 rfl (lv_room (Nat.le_of_ble_eq_true rfl)) d_Mo_operator_1 ⟨Nat.le_of_ble_eq_true rfl, Nat.le_of_ble_eq_true rfl⟩) hS (fun q _ h => hFc q h) hFc (fun r1 _u t H1 locs ht hvm hw hB hz1 hk1 hS => ?_)
  obtain ⟨hP1, hK1, hD1⟩ := hB
  rw [ht] at hP1
  obtain ⟨hP, hD⟩ := va_join (wr := []) (w1 := [(mo, .inr (13, MF 30 v)), (qx, .inl (cB, NN, .inl f))]) hP hD [0, 1] [] rfl rfl (by decide) (by decide) hk1 hFc hP1 hD1
  generalize H1 = H at hP hS ⊢
  have hP : va_P (dC, dI) classes [(mo, .inr (13, MF 30 v)), (qx, .inl (cB, NN, .inl f))] H := hP
  have hD : va_D A [(mo, .inr (13, MF 30 v)), (qx, .inl (cB, NN, .inl f))] := hD
  have h_r1 : r1 = hereV f n i := hw
  refine lv_bipush (v := 61) hx hb d_Mo_operator_4 (by decide) ?_
  refine lv_icmp_eq (tgt := 36) hx hb d_Mo_operator_6 (by decide) (fun c6 => ?_) (fun c6 => ?_)
  · refine lv_iconst (v := 1) hx hb d_Mo_operator_36 (by decide) ?_
    refine lv_goto (tgt := 41) hx hb d_Mo_operator_37 (by decide) ?_
    exact W.zret (v := 1) hx hb hr rfl (fun t ht hW => ⟨⟨1, (), rfl, by rw [if_pos (Or.inl (h_r1.symm.trans c6))], by rw [ht]; exact hP, va_K.moved hW.alike hK, hD⟩, hS.F ht⟩) hS.2.2 d_Mo_operator_41
  · refine lv_aload_n hx hb d_Mo_operator_9 rfl (lv_at hl 0 rfl) ?_
    have hPc := hP.sub (ws' := [(mo, .inr (13, MF 30 v)), (qx, .inl (cB, NN, .inl f))]) [0, 1] rfl
    have hDc := hD.sub (ws' := [(mo, .inr (13, MF 30 v)), (qx, .inl (cB, NN, .inl f))]) [0, 1] (by decide) rfl
    have hKc := hK.sub (tys' := [(cB, .byte)]) [0] rfl
    have hFc := va_free (wc := [(mo, .inr (13, MF 30 v)), (qx, .inl (cB, NN, .inl f))]) hD hS hA [0, 1] rfl
    refine va_calli (va_runV (As := []) (rest := []) ⟨hx, hb, hml, hown, hts⟩ (c_Mo_c l dC dI mo H v cB qx NN f n i (by omega) (by omega) (by omega) h6 h7 h8) (cwV 0 hts (gt_V (own := R_Mo) (C := R_Mo) (i := 147) (y := y_Mo_c) i_Mo_c w_1233 w_1235 (gt_sel (y := y_Mo_c) (n := 30) (by decide +kernel)) w_7) rfl rfl rfl (by decide +kernel) ⟨Nat.le_of_ble_eq_true rfl, Nat.le_of_ble_eq_true rfl⟩) ⟨mp_blind, va_recv hKc hPc (ci := 13) (q0 := 0) rfl rfl, fun U hU hW => ⟨rfl, hU, by rw [hU]; exact hPc, va_K.moved hW.alike hKc, hDc.weaken (fun _ _ _ _ => trivial)⟩⟩ rfl rfl hl.1 rfl (lv_room (Nat.le_of_ble_eq_true rfl)) d_Mo_operator_10 ⟨Nat.le_of_ble_eq_true rfl, Nat.le_of_ble_eq_true rfl⟩) hS (fun q _ h => hFc q h) hFc (fun r2 _u t H1 locs ht hvm hw hB hz1 hk1 hS => ?_)
    obtain ⟨hP1, hK1, hD1⟩ := hB
    rw [ht] at hP1
    obtain ⟨hP, hD⟩ := va_join (wr := []) (w1 := [(mo, .inr (13, MF 30 v)), (qx, .inl (cB, NN, .inl f))]) hP hD [0, 1] [] rfl rfl (by decide) (by decide) hk1 hFc hP1 hD1
    generalize H1 = H at hP hS ⊢
    have hP : va_P (dC, dI) classes [(mo, .inr (13, MF 30 v)), (qx, .inl (cB, NN, .inl f))] H := hP
    have hD : va_D A [(mo, .inr (13, MF 30 v)), (qx, .inl (cB, NN, .inl f))] := hD
    have h_r2 : r2 = hereV f n i := hw
    refine lv_bipush (v := 33) hx hb d_Mo_operator_13 (by decide) ?_
    refine lv_icmp_eq (tgt := 36) hx hb d_Mo_operator_15 (by decide) (fun c15 => ?_) (fun c15 => ?_)
    · refine lv_iconst (v := 1) hx hb d_Mo_operator_36 (by decide) ?_
      refine lv_goto (tgt := 41) hx hb d_Mo_operator_37 (by decide) ?_
      exact W.zret (v := 1) hx hb hr rfl (fun t ht hW => ⟨⟨1, (), rfl, by rw [if_pos (Or.inr (Or.inl (h_r2.symm.trans c15)))], by rw [ht]; exact hP, va_K.moved hW.alike hK, hD⟩, hS.F ht⟩) hS.2.2 d_Mo_operator_41
    · refine lv_aload_n hx hb d_Mo_operator_18 rfl (lv_at hl 0 rfl) ?_
      have hPc := hP.sub (ws' := [(mo, .inr (13, MF 30 v)), (qx, .inl (cB, NN, .inl f))]) [0, 1] rfl
      have hDc := hD.sub (ws' := [(mo, .inr (13, MF 30 v)), (qx, .inl (cB, NN, .inl f))]) [0, 1] (by decide) rfl
      have hKc := hK.sub (tys' := [(cB, .byte)]) [0] rfl
      have hFc := va_free (wc := [(mo, .inr (13, MF 30 v)), (qx, .inl (cB, NN, .inl f))]) hD hS hA [0, 1] rfl
      refine va_calli (va_runV (As := []) (rest := []) ⟨hx, hb, hml, hown, hts⟩ (c_Mo_c l dC dI mo H v cB qx NN f n i (by omega) (by omega) (by omega) h6 h7 h8) (cwV 0 hts (gt_V (own := R_Mo) (C := R_Mo) (i := 147) (y := y_Mo_c) i_Mo_c w_1233 w_1235 (gt_sel (y := y_Mo_c) (n := 30) (by decide +kernel)) w_7) rfl rfl rfl (by decide +kernel) ⟨Nat.le_of_ble_eq_true rfl, Nat.le_of_ble_eq_true rfl⟩) ⟨mp_blind, va_recv hKc hPc (ci := 13) (q0 := 0) rfl rfl, fun U hU hW => ⟨rfl, hU, by rw [hU]; exact hPc, va_K.moved hW.alike hKc, hDc.weaken (fun _ _ _ _ => trivial)⟩⟩ rfl rfl hl.1 rfl (lv_room (Nat.le_of_ble_eq_true rfl)) d_Mo_operator_19 ⟨Nat.le_of_ble_eq_true rfl, Nat.le_of_ble_eq_true rfl⟩) hS (fun q _ h => hFc q h) hFc (fun r3 _u t H1 locs ht hvm hw hB hz1 hk1 hS => ?_)
      obtain ⟨hP1, hK1, hD1⟩ := hB
      rw [ht] at hP1
      obtain ⟨hP, hD⟩ := va_join (wr := []) (w1 := [(mo, .inr (13, MF 30 v)), (qx, .inl (cB, NN, .inl f))]) hP hD [0, 1] [] rfl rfl (by decide) (by decide) hk1 hFc hP1 hD1
      generalize H1 = H at hP hS ⊢
      have hP : va_P (dC, dI) classes [(mo, .inr (13, MF 30 v)), (qx, .inl (cB, NN, .inl f))] H := hP
      have hD : va_D A [(mo, .inr (13, MF 30 v)), (qx, .inl (cB, NN, .inl f))] := hD
      have h_r3 : r3 = hereV f n i := hw
      refine lv_bipush (v := 60) hx hb d_Mo_operator_22 (by decide) ?_
      refine lv_icmp_eq (tgt := 36) hx hb d_Mo_operator_24 (by decide) (fun c24 => ?_) (fun c24 => ?_)
      · refine lv_iconst (v := 1) hx hb d_Mo_operator_36 (by decide) ?_
        refine lv_goto (tgt := 41) hx hb d_Mo_operator_37 (by decide) ?_
        exact W.zret (v := 1) hx hb hr rfl (fun t ht hW => ⟨⟨1, (), rfl, by rw [if_pos (Or.inr (Or.inr (Or.inl (h_r3.symm.trans c24))))], by rw [ht]; exact hP, va_K.moved hW.alike hK, hD⟩, hS.F ht⟩) hS.2.2 d_Mo_operator_41
      · refine lv_aload_n hx hb d_Mo_operator_27 rfl (lv_at hl 0 rfl) ?_
        have hPc := hP.sub (ws' := [(mo, .inr (13, MF 30 v)), (qx, .inl (cB, NN, .inl f))]) [0, 1] rfl
        have hDc := hD.sub (ws' := [(mo, .inr (13, MF 30 v)), (qx, .inl (cB, NN, .inl f))]) [0, 1] (by decide) rfl
        have hKc := hK.sub (tys' := [(cB, .byte)]) [0] rfl
        have hFc := va_free (wc := [(mo, .inr (13, MF 30 v)), (qx, .inl (cB, NN, .inl f))]) hD hS hA [0, 1] rfl
        refine va_calli (va_runV (As := []) (rest := []) ⟨hx, hb, hml, hown, hts⟩ (c_Mo_c l dC dI mo H v cB qx NN f n i (by omega) (by omega) (by omega) h6 h7 h8) (cwV 0 hts (gt_V (own := R_Mo) (C := R_Mo) (i := 147) (y := y_Mo_c) i_Mo_c w_1233 w_1235 (gt_sel (y := y_Mo_c) (n := 30) (by decide +kernel)) w_7) rfl rfl rfl (by decide +kernel) ⟨Nat.le_of_ble_eq_true rfl, Nat.le_of_ble_eq_true rfl⟩) ⟨mp_blind, va_recv hKc hPc (ci := 13) (q0 := 0) rfl rfl, fun U hU hW => ⟨rfl, hU, by rw [hU]; exact hPc, va_K.moved hW.alike hKc, hDc.weaken (fun _ _ _ _ => trivial)⟩⟩ rfl rfl hl.1 rfl (lv_room (Nat.le_of_ble_eq_true rfl)) d_Mo_operator_28 ⟨Nat.le_of_ble_eq_true rfl, Nat.le_of_ble_eq_true rfl⟩) hS (fun q _ h => hFc q h) hFc (fun r4 _u t H1 locs ht hvm hw hB hz1 hk1 hS => ?_)
        obtain ⟨hP1, hK1, hD1⟩ := hB
        rw [ht] at hP1
        obtain ⟨hP, hD⟩ := va_join (wr := []) (w1 := [(mo, .inr (13, MF 30 v)), (qx, .inl (cB, NN, .inl f))]) hP hD [0, 1] [] rfl rfl (by decide) (by decide) hk1 hFc hP1 hD1
        generalize H1 = H at hP hS ⊢
        have hP : va_P (dC, dI) classes [(mo, .inr (13, MF 30 v)), (qx, .inl (cB, NN, .inl f))] H := hP
        have hD : va_D A [(mo, .inr (13, MF 30 v)), (qx, .inl (cB, NN, .inl f))] := hD
        have h_r4 : r4 = hereV f n i := hw
        refine lv_bipush (v := 62) hx hb d_Mo_operator_31 (by decide) ?_
        refine lv_icmp_ne (tgt := 40) hx hb d_Mo_operator_33 (by decide) (fun c33 => ?_) (fun c33 => ?_)
        · refine lv_iconst (v := 0) hx hb d_Mo_operator_40 (by decide) ?_
          exact W.zret (v := 0) hx hb hr rfl (fun t ht hW => ⟨⟨0, (), rfl, by rw [if_neg (fun h => by rcases h with h | h | h | h; exact c6 (h_r1.trans h); exact c15 (h_r2.trans h); exact c24 (h_r3.trans h); exact c33 (h_r4.trans h))], by rw [ht]; exact hP, va_K.moved hW.alike hK, hD⟩, hS.F ht⟩) hS.2.2 d_Mo_operator_41
        · refine lv_iconst (v := 1) hx hb d_Mo_operator_36 (by decide) ?_
          refine lv_goto (tgt := 41) hx hb d_Mo_operator_37 (by decide) ?_
          exact W.zret (v := 1) hx hb hr rfl (fun t ht hW => ⟨⟨1, (), rfl, by rw [if_pos (Or.inr (Or.inr (Or.inr (h_r4.symm.trans c33))))], by rw [ht]; exact hP, va_K.moved hW.alike hK, hD⟩, hS.F ht⟩) hS.2.2 d_Mo_operator_41
abbrev b_Mo_enter : ByteArray := prog_14_method_37_code
def y_Mo_enter : MethodName := ⟨"QueryBenchModel", "enter", "(I)Z"⟩
abbrev k_Mo_enter : Cond := .code y_Mo_enter b_Mo_enter 2 (some .boolean)
theorem i_Mo_enter : k_Mo_enter ∈ gtbl := gt_in 1426 (by decide +kernel) (by decide +kernel)
theorem d_Mo_enter_0 : decode b_Mo_enter 0 = .ok (.aload_n 0, 1) := by decide +kernel
theorem d_Mo_enter_1 : decode b_Mo_enter 1 = .ok (.invokevirtual 147, 3) := by decide +kernel
theorem d_Mo_enter_4 : decode b_Mo_enter 4 = .ok (.iload_n 1, 1) := by decide +kernel
theorem d_Mo_enter_5 : decode b_Mo_enter 5 = .ok (.if_icmp .ne 12, 3) := by decide +kernel
theorem d_Mo_enter_8 : decode b_Mo_enter 8 = .ok (.aload_n 0, 1) := by decide +kernel
theorem d_Mo_enter_9 : decode b_Mo_enter 9 = .ok (.getfield 266, 3) := by decide +kernel
theorem d_Mo_enter_12 : decode b_Mo_enter 12 = .ok (.bipush 16, 2) := by decide +kernel
theorem d_Mo_enter_14 : decode b_Mo_enter 14 = .ok (.if_icmp .ne 12, 3) := by decide +kernel
theorem d_Mo_enter_17 : decode b_Mo_enter 17 = .ok (.aload_n 0, 1) := by decide +kernel
theorem d_Mo_enter_18 : decode b_Mo_enter 18 = .ok (.aload_n 0, 1) := by decide +kernel
theorem d_Mo_enter_19 : decode b_Mo_enter 19 = .ok (.getfield 135, 3) := by decide +kernel
theorem d_Mo_enter_22 : decode b_Mo_enter 22 = .ok (.invokevirtual 151, 3) := by decide +kernel
theorem d_Mo_enter_25 : decode b_Mo_enter 25 = .ok (.ireturn, 1) := by decide +kernel
theorem d_Mo_enter_26 : decode b_Mo_enter 26 = .ok (.aload_n 0, 1) := by decide +kernel
theorem d_Mo_enter_27 : decode b_Mo_enter 27 = .ok (.dup, 1) := by decide +kernel
theorem d_Mo_enter_28 : decode b_Mo_enter 28 = .ok (.getfield 266, 3) := by decide +kernel
theorem d_Mo_enter_31 : decode b_Mo_enter 31 = .ok (.iconst 1, 1) := by decide +kernel
theorem d_Mo_enter_32 : decode b_Mo_enter 32 = .ok (.iadd, 1) := by decide +kernel
theorem d_Mo_enter_33 : decode b_Mo_enter 33 = .ok (.putfield 266, 3) := by decide +kernel
theorem d_Mo_enter_36 : decode b_Mo_enter 36 = .ok (.aload_n 0, 1) := by decide +kernel
theorem d_Mo_enter_37 : decode b_Mo_enter 37 = .ok (.dup, 1) := by decide +kernel
theorem d_Mo_enter_38 : decode b_Mo_enter 38 = .ok (.getfield 135, 3) := by decide +kernel
theorem d_Mo_enter_41 : decode b_Mo_enter 41 = .ok (.iconst 1, 1) := by decide +kernel
theorem d_Mo_enter_42 : decode b_Mo_enter 42 = .ok (.iadd, 1) := by decide +kernel
theorem d_Mo_enter_43 : decode b_Mo_enter 43 = .ok (.putfield 135, 3) := by decide +kernel
theorem d_Mo_enter_46 : decode b_Mo_enter 46 = .ok (.iconst 1, 1) := by decide +kernel
theorem d_Mo_enter_47 : decode b_Mo_enter 47 = .ok (.ireturn, 1) := by decide +kernel
set_option maxHeartbeats 4000000 in
set_option maxRecDepth 100000 in
/-- the reference: enter -/
theorem c_Mo_enter (l : Launch) (dC : Nat → ClassId) (dI : Nat → Nat → Nat) (mo : Nat) (sz : Heap) (v : Nat → Value) (cB : ClassId) (qx NN : Nat) (f : Nat → Int32) (n i : Nat) (hnN : n ≤ NN) (hNN : NN ≤ 1000000) (hi0 : i ≤ 1000000) (h6 : v 6 = .ref qx) (h7 : v 7 = .int (nI i)) (h8 : v 8 = .int (nI n)) (br : Int32) (h9 : v 9 = .int br) (ch : Int32) (o : Nat) (ho : o ≤ 1000) (h23 : v 23 = .int (nI o)) : Met l y_Mo_enter (k_Mo_enter :: gtbl) ({ frames := 1, cells := 0, slots := 0, locals := 24 }) (va_Pc [.ref mo, .int ch] (mp dC dI [(mo, .inr (13, MF 30 v)), (qx, .inl (cB, NN, .inl f))] [(cB, .byte)] sz)) (va_Qi (fun (r : Int32) (u : Nat → Value) => ((hereV f n i = ch ∧ ¬ o = 16) ∧ r = 1 ∧ u = va_up (va_up v 23 (.int (nI (o + 1)))) 7 (.int (nI (i + 1)))) ∨ (¬ (hereV f n i = ch ∧ ¬ o = 16) ∧ r = 0 ∧ u = mfail v br (nI i))) (fun u => mz dC dI [(mo, .inr (13, MF 30 u)), (qx, .inl (cB, NN, .inl f))] [(cB, .byte)] (va_A [(mo, .inr (13, MF 30 v)), (qx, .inl (cB, NN, .inl f))] sz.size)) (va_A [(mo, .inr (13, MF 30 v)), (qx, .inl (cB, NN, .inl f))] sz.size)) 0 0 (va_A [(mo, .inr (13, MF 30 v)), (qx, .inl (cB, NN, .inl f))] sz.size) := by
  refine Met.ofW (cc := b_Mo_enter) (maxL := 2) (ret := (some .boolean)) (by decide) rfl ?_
  intro p e s m args below meth c s₁ B hml hv
  obtain ⟨rfl, hsz, hP, hK, hD0⟩ := hv
  have hx := B.exec
  have hb := B.bytes
  have hr := B.returns
  have hts0 := atoms_spec (ws := k_Mo_enter :: gtbl) B.pre
  have hts := fun w h => hts0 w (List.mem_cons_of_mem _ h)
  have hown : s.vm.findClass R_Mo = some m.cls := findClass_of_methodNamed B.named
  have hlocks := B.notSynchronized
  subst hsz
  have hD := hD0.self (sz := s.heap.size)
  generalize hAe : va_A [(mo, .inr (13, MF 30 v)), (qx, .inl (cB, NN, .inl f))] s.heap.size = A at hD ⊢
  have hA : ∀ q : Nat, s.heap.size ≤ q → A q := fun q h => by rw [← hAe]; exact Or.inr h
  have hS : va_S A s.heap s.heap [] := va_S.rf
  have hP : va_P (dC, dI) classes [(mo, .inr (13, MF 30 v)), (qx, .inl (cB, NN, .inl f))] s.heap := hP
  have hl := lv_entry ([.ref mo, .int ch]) (n := 2) (Nat.le_of_ble_eq_true rfl)
  rw [lg_entry_eq]
  generalize (lg_sl ([.ref mo, .int ch]) ++ List.replicate (2 - (lg_sl ([.ref mo, .int ch])).length) Slot.unset).toArray = ls at hl ⊢
  have hl : lv_has ls 2 [(0, .ref mo), (1, .int ch)] := hl
  refine lv_aload_n hx hb d_Mo_enter_0 rfl (lv_at hl 0 rfl) ?_
  have hPc := hP.sub (ws' := [(mo, .inr (13, MF 30 v)), (qx, .inl (cB, NN, .inl f))]) [0, 1] rfl
  have hDc := hD.sub (ws' := [(mo, .inr (13, MF 30 v)), (qx, .inl (cB, NN, .inl f))]) [0, 1] (by decide) rfl
  have hKc := hK.sub (tys' := [(cB, .byte)]) [0] rfl
  have hFc := va_free (wc := [(mo, .inr (13, MF 30 v)), (qx, .inl (cB, NN, .inl f))]) hD hS hA [0, 1] rfl
  refine va_calli (va_runV (As := []) (rest := []) ⟨hx, hb, hml, hown, hts⟩ (c_Mo_c l dC dI mo s.heap v cB qx NN f n i (by omega) (by omega) (by omega) h6 h7 h8) (cwV 0 hts (gt_V (own := R_Mo) (C := R_Mo) (i := 147) (y := y_Mo_c) i_Mo_c w_1233 w_1235 (gt_sel (y := y_Mo_c) (n := 30) (by decide +kernel)) w_7) rfl rfl rfl (by decide +kernel) ⟨Nat.le_of_ble_eq_true rfl, Nat.le_of_ble_eq_true rfl⟩) ⟨mp_blind, va_recv hKc hPc (ci := 13) (q0 := 0) rfl rfl, fun U hU hW => ⟨rfl, hU, by rw [hU]; exact hPc, va_K.moved hW.alike hKc, hDc.weaken (fun _ _ _ _ => trivial)⟩⟩ rfl rfl hl.1 rfl (lv_room (Nat.le_of_ble_eq_true rfl)) d_Mo_enter_1 ⟨Nat.le_of_ble_eq_true rfl, Nat.le_of_ble_eq_true rfl⟩) hS (fun q _ h => hFc q h) hFc (fun r1 _u t H1 locs ht hvm hw hB hz1 hk1 hS => ?_)
  obtain ⟨hP1, hK1, hD1⟩ := hB
  rw [ht] at hP1
  obtain ⟨hP, hD⟩ := va_join (wr := []) (w1 := [(mo, .inr (13, MF 30 v)), (qx, .inl (cB, NN, .inl f))]) hP hD [0, 1] [] rfl rfl (by decide) (by decide) hk1 hFc hP1 hD1
  generalize H1 = H at hP hS ⊢
  have hP : va_P (dC, dI) classes [(mo, .inr (13, MF 30 v)), (qx, .inl (cB, NN, .inl f))] H := hP
  have hD : va_D A [(mo, .inr (13, MF 30 v)), (qx, .inl (cB, NN, .inl f))] := hD
  have h_r1 : r1 = hereV f n i := hw
  refine lv_iload_n hx hb d_Mo_enter_4 rfl (lv_at hl 1 rfl) ?_
  refine lv_icmp_ne (tgt := 17) hx hb d_Mo_enter_5 (by decide) (fun c5 => ?_) (fun c5 => ?_)
  · refine lv_aload_n hx hb d_Mo_enter_17 rfl (lv_at hl 0 rfl) ?_
    refine lv_aload_n hx hb d_Mo_enter_18 rfl (lv_at hl 0 rfl) ?_
    refine va_get (D := (dC, dI)) (ci := 13) (v := .int (nI i)) (C := R_Mo) (T := F_Mo) (N := 30) hx hb hts in_Mo hown hK hP 0 rfl rfl 7 (by decide) (hts _ w_1096) (fun _ h9 => h9) (MFg (by decide) h7) d_Mo_enter_19 ?_
    have hPc := hP.sub (ws' := [(mo, .inr (13, MF 30 v))]) [0] rfl
    have hDc := hD.sub (ws' := [(mo, .inr (13, MF 30 v))]) [0] (by decide) rfl
    have hKc := hK.sub (tys' := []) [] rfl
    have hFc := va_free (wc := [(mo, .inr (13, MF 30 v))]) hD hS hA [0] rfl
    refine va_calli (va_runV (As := [.int (nI i)]) (rest := []) ⟨hx, hb, hml, hown, hts⟩ (c_Mo_fail l dC dI mo H v br (nI i) h9) (cwV 1 hts (gt_V (own := R_Mo) (C := R_Mo) (i := 151) (y := y_Mo_fail) i_Mo_fail w_1250 w_1252 (gt_sel (y := y_Mo_fail) (n := 30) (by decide +kernel)) w_7) rfl rfl rfl (by decide +kernel) ⟨Nat.le_of_ble_eq_true rfl, Nat.le_of_ble_eq_true rfl⟩) ⟨mp_blind, va_recv hKc hPc (ci := 13) (q0 := 0) rfl rfl, fun U hU hW => ⟨rfl, hU, by rw [hU]; exact hPc, va_K.moved hW.alike hKc, hDc.weaken (fun _ _ _ _ => trivial)⟩⟩ rfl rfl hl.1 rfl (lv_room (Nat.le_of_ble_eq_true rfl)) d_Mo_enter_22 ⟨Nat.le_of_ble_eq_true rfl, Nat.le_of_ble_eq_true rfl⟩) hS (fun q _ h => hFc q h) hFc (fun r u2 t H1 locs ht hvm hw hB hz1 hk1 hS => ?_)
    obtain ⟨hP1, hK1, hD1⟩ := hB
    rw [ht] at hP1
    obtain ⟨hP, hD⟩ := va_join (wr := [(qx, .inl (cB, NN, .inl f))]) (w1 := [(mo, .inr (13, MF 30 u2))]) hP hD [0] [1] rfl rfl (by decide) (by decide) hk1 hFc hP1 hD1
    generalize H1 = H at hP hS ⊢
    have hP : va_P (dC, dI) classes [(qx, .inl (cB, NN, .inl f)), (mo, .inr (13, MF 30 u2))] H := hP
    have hD : va_D A [(qx, .inl (cB, NN, .inl f)), (mo, .inr (13, MF 30 u2))] := hD
    have hP := hP.sub (ws' := [(mo, .inr (13, MF 30 u2)), (qx, .inl (cB, NN, .inl f))]) [1, 0] rfl
    have hD := hD.sub (ws' := [(mo, .inr (13, MF 30 u2)), (qx, .inl (cB, NN, .inl f))]) [1, 0] (by decide) rfl
    obtain ⟨rfl, rfl⟩ : r = 0 ∧ u2 = mfail v br (nI i) := hw
    have hP : va_P (dC, dI) classes [(mo, .inr (13, MF 30 (mfail v br (nI i)))), (qx, .inl (cB, NN, .inl f))] H := hP
    have hD : va_D A [(mo, .inr (13, MF 30 (mfail v br (nI i)))), (qx, .inl (cB, NN, .inl f))] := hD
    exact W.zret (v := 0) hx hb hr rfl (fun t ht hW => ⟨⟨0, mfail v br (nI i), rfl, Or.inr ⟨fun h => c5 (h_r1.trans h.1), rfl, rfl⟩, by rw [ht]; exact hP, va_K.moved hW.alike hK, hD⟩, hS.F ht⟩) hS.2.2 d_Mo_enter_25
  · refine lv_aload_n hx hb d_Mo_enter_8 rfl (lv_at hl 0 rfl) ?_
    refine va_get (D := (dC, dI)) (ci := 13) (v := .int (nI o)) (C := R_Mo) (T := F_Mo) (N := 30) hx hb hts in_Mo hown hK hP 0 rfl rfl 23 (by decide) (hts _ w_1112) (fun _ h9 => h9) (MFg (by decide) h23) d_Mo_enter_9 ?_
    refine lv_bipush (v := 16) hx hb d_Mo_enter_12 (by decide) ?_
    refine lv_icmp_ne (tgt := 26) hx hb d_Mo_enter_14 (by decide) (fun c14 => ?_) (fun c14 => ?_)
    · refine lv_aload_n hx hb d_Mo_enter_26 rfl (lv_at hl 0 rfl) ?_
      refine lv_dup hx hb d_Mo_enter_27 rfl ?_
      refine va_get (D := (dC, dI)) (ci := 13) (v := .int (nI o)) (C := R_Mo) (T := F_Mo) (N := 30) hx hb hts in_Mo hown hK hP 0 rfl rfl 23 (by decide) (hts _ w_1112) (fun _ h9 => h9) (MFg (by decide) h23) d_Mo_enter_28 ?_
      refine lv_iconst (v := 1) hx hb d_Mo_enter_31 (by decide) ?_
      refine lv_iadd hx hb d_Mo_enter_32 ?_
      refine W.eq (g2 := F0 m 33 ls [.int (nI (o + 1)), .ref mo]) (by rw [show ((nI o) + 1) = (nI (o + 1)) from nI_1 _]) ?_
      refine va_put (D := (dC, dI)) (ci := 13) (v := .int (nI (o + 1))) (ty := .int) (C := R_Mo) (T := F_Mo) (N := 30) hx hb hts in_Mo t_Mo t_Mo_ok n_Mo hown hK hP hD hS 0 rfl rfl 23 (by decide) (hts _ w_1112) (fun _ h9 => h9) rfl (by decide +kernel) rfl rfl (by rw [MFl]; decide) d_Mo_enter_33 (fun H locs hP hD hS => ?_)
      rw [MFs (n := 30) (k := 23) (by decide)] at hP hD
      have hP : va_P (dC, dI) classes [(mo, .inr (13, MF 30 (va_up v 23 (.int (nI (o + 1)))))), (qx, .inl (cB, NN, .inl f))] H := hP
      have hD : va_D A [(mo, .inr (13, MF 30 (va_up v 23 (.int (nI (o + 1)))))), (qx, .inl (cB, NN, .inl f))] := hD
      refine lv_aload_n hx hb d_Mo_enter_36 rfl (lv_at hl 0 rfl) ?_
      refine lv_dup hx hb d_Mo_enter_37 rfl ?_
      refine va_get (D := (dC, dI)) (ci := 13) (v := .int (nI i)) (C := R_Mo) (T := F_Mo) (N := 30) hx hb hts in_Mo hown hK hP 0 rfl rfl 7 (by decide) (hts _ w_1096) (fun _ h9 => h9) (MFg (by decide) ((va_up_ne _ _ (by decide)).trans (h7))) d_Mo_enter_38 ?_
      refine lv_iconst (v := 1) hx hb d_Mo_enter_41 (by decide) ?_
      refine lv_iadd hx hb d_Mo_enter_42 ?_
      refine W.eq (g2 := F0 m 43 ls [.int (nI (i + 1)), .ref mo]) (by rw [show ((nI i) + 1) = (nI (i + 1)) from nI_1 _]) ?_
      refine va_put (D := (dC, dI)) (ci := 13) (v := .int (nI (i + 1))) (ty := .int) (C := R_Mo) (T := F_Mo) (N := 30) hx hb hts in_Mo t_Mo t_Mo_ok n_Mo hown hK hP hD hS 0 rfl rfl 7 (by decide) (hts _ w_1096) (fun _ h9 => h9) rfl (by decide +kernel) rfl rfl (by rw [MFl]; decide) d_Mo_enter_43 (fun H locs hP hD hS => ?_)
      rw [MFs (n := 30) (k := 7) (by decide)] at hP hD
      have hP : va_P (dC, dI) classes [(mo, .inr (13, MF 30 (va_up (va_up v 23 (.int (nI (o + 1)))) 7 (.int (nI (i + 1)))))), (qx, .inl (cB, NN, .inl f))] H := hP
      have hD : va_D A [(mo, .inr (13, MF 30 (va_up (va_up v 23 (.int (nI (o + 1)))) 7 (.int (nI (i + 1)))))), (qx, .inl (cB, NN, .inl f))] := hD
      refine lv_iconst (v := 1) hx hb d_Mo_enter_46 (by decide) ?_
      exact W.zret (v := 1) hx hb hr rfl (fun t ht hW => ⟨⟨1, va_up (va_up v 23 (.int (nI (o + 1)))) 7 (.int (nI (i + 1))), rfl, Or.inl ⟨⟨h_r1.symm.trans c5, fun h => c14 (by rw [h]; rfl)⟩, rfl, rfl⟩, by rw [ht]; exact hP, va_K.moved hW.alike hK, hD⟩, hS.F ht⟩) hS.2.2 d_Mo_enter_47
    · refine lv_aload_n hx hb d_Mo_enter_17 rfl (lv_at hl 0 rfl) ?_
      refine lv_aload_n hx hb d_Mo_enter_18 rfl (lv_at hl 0 rfl) ?_
      refine va_get (D := (dC, dI)) (ci := 13) (v := .int (nI i)) (C := R_Mo) (T := F_Mo) (N := 30) hx hb hts in_Mo hown hK hP 0 rfl rfl 7 (by decide) (hts _ w_1096) (fun _ h9 => h9) (MFg (by decide) h7) d_Mo_enter_19 ?_
      have hPc := hP.sub (ws' := [(mo, .inr (13, MF 30 v))]) [0] rfl
      have hDc := hD.sub (ws' := [(mo, .inr (13, MF 30 v))]) [0] (by decide) rfl
      have hKc := hK.sub (tys' := []) [] rfl
      have hFc := va_free (wc := [(mo, .inr (13, MF 30 v))]) hD hS hA [0] rfl
      refine va_calli (va_runV (As := [.int (nI i)]) (rest := []) ⟨hx, hb, hml, hown, hts⟩ (c_Mo_fail l dC dI mo H v br (nI i) h9) (cwV 1 hts (gt_V (own := R_Mo) (C := R_Mo) (i := 151) (y := y_Mo_fail) i_Mo_fail w_1250 w_1252 (gt_sel (y := y_Mo_fail) (n := 30) (by decide +kernel)) w_7) rfl rfl rfl (by decide +kernel) ⟨Nat.le_of_ble_eq_true rfl, Nat.le_of_ble_eq_true rfl⟩) ⟨mp_blind, va_recv hKc hPc (ci := 13) (q0 := 0) rfl rfl, fun U hU hW => ⟨rfl, hU, by rw [hU]; exact hPc, va_K.moved hW.alike hKc, hDc.weaken (fun _ _ _ _ => trivial)⟩⟩ rfl rfl hl.1 rfl (lv_room (Nat.le_of_ble_eq_true rfl)) d_Mo_enter_22 ⟨Nat.le_of_ble_eq_true rfl, Nat.le_of_ble_eq_true rfl⟩) hS (fun q _ h => hFc q h) hFc (fun r u2 t H1 locs ht hvm hw hB hz1 hk1 hS => ?_)
      obtain ⟨hP1, hK1, hD1⟩ := hB
      rw [ht] at hP1
      obtain ⟨hP, hD⟩ := va_join (wr := [(qx, .inl (cB, NN, .inl f))]) (w1 := [(mo, .inr (13, MF 30 u2))]) hP hD [0] [1] rfl rfl (by decide) (by decide) hk1 hFc hP1 hD1
      generalize H1 = H at hP hS ⊢
      have hP : va_P (dC, dI) classes [(qx, .inl (cB, NN, .inl f)), (mo, .inr (13, MF 30 u2))] H := hP
      have hD : va_D A [(qx, .inl (cB, NN, .inl f)), (mo, .inr (13, MF 30 u2))] := hD
      have hP := hP.sub (ws' := [(mo, .inr (13, MF 30 u2)), (qx, .inl (cB, NN, .inl f))]) [1, 0] rfl
      have hD := hD.sub (ws' := [(mo, .inr (13, MF 30 u2)), (qx, .inl (cB, NN, .inl f))]) [1, 0] (by decide) rfl
      obtain ⟨rfl, rfl⟩ : r = 0 ∧ u2 = mfail v br (nI i) := hw
      have hP : va_P (dC, dI) classes [(mo, .inr (13, MF 30 (mfail v br (nI i)))), (qx, .inl (cB, NN, .inl f))] H := hP
      have hD : va_D A [(mo, .inr (13, MF 30 (mfail v br (nI i)))), (qx, .inl (cB, NN, .inl f))] := hD
      exact W.zret (v := 0) hx hb hr rfl (fun t ht hW => ⟨⟨0, mfail v br (nI i), rfl, Or.inr ⟨fun h => h.2 (by rw [show (16 : Int32) = nI 16 from rfl, nI_eq (by omega) (by omega)] at c14; exact c14), rfl, rfl⟩, by rw [ht]; exact hP, va_K.moved hW.alike hK, hD⟩, hS.F ht⟩) hS.2.2 d_Mo_enter_25
abbrev b_Mo_begin : ByteArray := prog_14_method_31_code
def y_Mo_begin : MethodName := ⟨"QueryBenchModel", "begin", "()V"⟩
abbrev k_Mo_begin : Cond := .code y_Mo_begin b_Mo_begin 1 none
theorem i_Mo_begin : k_Mo_begin ∈ gtbl := gt_in 1365 (by decide +kernel) (by decide +kernel)
theorem d_Mo_begin_0 : decode b_Mo_begin 0 = .ok (.aload_n 0, 1) := by decide +kernel
theorem d_Mo_begin_1 : decode b_Mo_begin 1 = .ok (.iconst 0, 1) := by decide +kernel
theorem d_Mo_begin_2 : decode b_Mo_begin 2 = .ok (.putfield 232, 3) := by decide +kernel
theorem d_Mo_begin_5 : decode b_Mo_begin 5 = .ok (.aload_n 0, 1) := by decide +kernel
theorem d_Mo_begin_6 : decode b_Mo_begin 6 = .ok (.iconst 0, 1) := by decide +kernel
theorem d_Mo_begin_7 : decode b_Mo_begin 7 = .ok (.putfield 235, 3) := by decide +kernel
theorem d_Mo_begin_10 : decode b_Mo_begin 10 = .ok (.return_, 1) := by decide +kernel
set_option maxHeartbeats 4000000 in
set_option maxRecDepth 100000 in
/-- the reference: begin -/
theorem c_Mo_begin (l : Launch) (dC : Nat → ClassId) (dI : Nat → Nat → Nat) (mo : Nat) (sz : Heap) (v : Nat → Value)  : Met l y_Mo_begin (k_Mo_begin :: gtbl) ({ frames := 0, cells := 0, slots := 0, locals := 0 }) (va_Pc [.ref mo] (mp dC dI [(mo, .inr (13, MF 30 v))] [] sz)) (va_Qv (fun (_ : Unit) => True) (fun _ => mz dC dI [(mo, .inr (13, MF 30 (va_up (va_up v 11 (.int 0)) 12 (.int 0))))] [] (va_A [(mo, .inr (13, MF 30 v))] sz.size)) (va_A [(mo, .inr (13, MF 30 v))] sz.size)) 0 0 (va_A [(mo, .inr (13, MF 30 v))] sz.size) := by
  refine Met.ofW (cc := b_Mo_begin) (maxL := 1) (ret := none) (by decide) rfl ?_
  intro p e s m args below meth c s₁ B hml hv
  obtain ⟨rfl, hsz, hP, hK, hD0⟩ := hv
  have hx := B.exec
  have hb := B.bytes
  have hr := B.returns
  have hts0 := atoms_spec (ws := k_Mo_begin :: gtbl) B.pre
  have hts := fun w h => hts0 w (List.mem_cons_of_mem _ h)
  have hown : s.vm.findClass R_Mo = some m.cls := findClass_of_methodNamed B.named
  have hlocks := B.notSynchronized
  subst hsz
  have hD := hD0.self (sz := s.heap.size)
  generalize hAe : va_A [(mo, .inr (13, MF 30 v))] s.heap.size = A at hD ⊢
  have hA : ∀ q : Nat, s.heap.size ≤ q → A q := fun q h => by rw [← hAe]; exact Or.inr h
  have hS : va_S A s.heap s.heap [] := va_S.rf
  have hP : va_P (dC, dI) classes [(mo, .inr (13, MF 30 v))] s.heap := hP
  have hl := lv_entry ([.ref mo]) (n := 1) (Nat.le_of_ble_eq_true rfl)
  rw [lg_entry_eq]
  generalize (lg_sl ([.ref mo]) ++ List.replicate (1 - (lg_sl ([.ref mo])).length) Slot.unset).toArray = ls at hl ⊢
  have hl : lv_has ls 1 [(0, .ref mo)] := hl
  refine lv_aload_n hx hb d_Mo_begin_0 rfl (lv_at hl 0 rfl) ?_
  refine lv_iconst (v := 0) hx hb d_Mo_begin_1 (by decide) ?_
  refine va_put (D := (dC, dI)) (ci := 13) (v := .int 0) (ty := .int) (C := R_Mo) (T := F_Mo) (N := 30) hx hb hts in_Mo t_Mo t_Mo_ok n_Mo hown hK hP hD hS 0 rfl rfl 11 (by decide) (hts _ w_1100) (fun _ h9 => h9) rfl (by decide +kernel) rfl rfl (by rw [MFl]; decide) d_Mo_begin_2 (fun H locs hP hD hS => ?_)
  rw [MFs (n := 30) (k := 11) (by decide)] at hP hD
  have hP : va_P (dC, dI) classes [(mo, .inr (13, MF 30 (va_up v 11 (.int 0))))] H := hP
  have hD : va_D A [(mo, .inr (13, MF 30 (va_up v 11 (.int 0))))] := hD
  refine lv_aload_n hx hb d_Mo_begin_5 rfl (lv_at hl 0 rfl) ?_
  refine lv_iconst (v := 0) hx hb d_Mo_begin_6 (by decide) ?_
  refine va_put (D := (dC, dI)) (ci := 13) (v := .int 0) (ty := .boolean) (C := R_Mo) (T := F_Mo) (N := 30) hx hb hts in_Mo t_Mo t_Mo_ok n_Mo hown hK hP hD hS 0 rfl rfl 12 (by decide) (hts _ w_1101) (fun _ h9 => h9) rfl (by decide +kernel) rfl rfl (by rw [MFl]; decide) d_Mo_begin_7 (fun H locs hP hD hS => ?_)
  rw [MFs (n := 30) (k := 12) (by decide)] at hP hD
  have hP : va_P (dC, dI) classes [(mo, .inr (13, MF 30 (va_up (va_up v 11 (.int 0)) 12 (.int 0))))] H := hP
  have hD : va_D A [(mo, .inr (13, MF 30 (va_up (va_up v 11 (.int 0)) 12 (.int 0))))] := hD
  exact W.vret hx hb hr (fun t ht hW => ⟨⟨(), rfl, trivial, by rw [ht]; exact hP, va_K.moved hW.alike hK, hD⟩, hS.F ht⟩) hS.2.2 d_Mo_begin_10
abbrev b_Mo_field : ByteArray := prog_14_method_34_code
def y_Mo_field : MethodName := ⟨"QueryBenchModel", "field", "(II)I"⟩
abbrev k_Mo_field : Cond := .code y_Mo_field b_Mo_field 3 (some .int)
theorem i_Mo_field : k_Mo_field ∈ gtbl := gt_in 1434 (by decide +kernel) (by decide +kernel)
theorem d_Mo_field_0 : decode b_Mo_field 0 = .ok (.aload_n 0, 1) := by decide +kernel
theorem d_Mo_field_1 : decode b_Mo_field 1 = .ok (.getfield 49, 3) := by decide +kernel
theorem d_Mo_field_4 : decode b_Mo_field 4 = .ok (.bipush 8, 2) := by decide +kernel
theorem d_Mo_field_6 : decode b_Mo_field 6 = .ok (.iload_n 1, 1) := by decide +kernel
theorem d_Mo_field_7 : decode b_Mo_field 7 = .ok (.imul, 1) := by decide +kernel
theorem d_Mo_field_8 : decode b_Mo_field 8 = .ok (.iload_n 2, 1) := by decide +kernel
theorem d_Mo_field_9 : decode b_Mo_field 9 = .ok (.iadd, 1) := by decide +kernel
theorem d_Mo_field_10 : decode b_Mo_field 10 = .ok (.iaload, 1) := by decide +kernel
theorem d_Mo_field_11 : decode b_Mo_field 11 = .ok (.ireturn, 1) := by decide +kernel
set_option maxHeartbeats 4000000 in
set_option maxRecDepth 100000 in
/-- the reference: field -/
theorem c_Mo_field (l : Launch) (dC : Nat → ClassId) (dI : Nat → Nat → Nat) (mo : Nat) (sz : Heap) (v : Nat → Value) (cI : ClassId) (qq NQ : Nat) (g : Nat → Int32) (a b : Nat) (hab : 8 * a + b < NQ) (hNQ : NQ ≤ 100000000) (h19 : v 19 = .ref qq) : Met l y_Mo_field (k_Mo_field :: gtbl) ({ frames := 0, cells := 0, slots := 0, locals := 0 }) (va_Pc [.ref mo, .int (nI a), .int (nI b)] (mp dC dI [(mo, .inr (13, MF 30 v)), (qq, .inl (cI, NQ, .inl g))] [(cI, .int)] sz)) (va_Qi (fun (r : Int32) (_ : Unit) => r = g (8 * a + b)) (fun _ => mz dC dI [(mo, .inr (13, MF 30 v)), (qq, .inl (cI, NQ, .inl g))] [(cI, .int)] (va_A [(mo, .inr (13, MF 30 v)), (qq, .inl (cI, NQ, .inl g))] sz.size)) (va_A [(mo, .inr (13, MF 30 v)), (qq, .inl (cI, NQ, .inl g))] sz.size)) 0 0 (va_A [(mo, .inr (13, MF 30 v)), (qq, .inl (cI, NQ, .inl g))] sz.size) := by
  refine Met.ofW (cc := b_Mo_field) (maxL := 3) (ret := (some .int)) (by decide) rfl ?_
  intro p e s m args below meth c s₁ B hml hv
  obtain ⟨rfl, hsz, hP, hK, hD0⟩ := hv
  have hx := B.exec
  have hb := B.bytes
  have hr := B.returns
  have hts0 := atoms_spec (ws := k_Mo_field :: gtbl) B.pre
  have hts := fun w h => hts0 w (List.mem_cons_of_mem _ h)
  have hown : s.vm.findClass R_Mo = some m.cls := findClass_of_methodNamed B.named
  have hlocks := B.notSynchronized
  subst hsz
  have hD := hD0.self (sz := s.heap.size)
  generalize hAe : va_A [(mo, .inr (13, MF 30 v)), (qq, .inl (cI, NQ, .inl g))] s.heap.size = A at hD ⊢
  have hA : ∀ q : Nat, s.heap.size ≤ q → A q := fun q h => by rw [← hAe]; exact Or.inr h
  have hS : va_S A s.heap s.heap [] := va_S.rf
  have hP : va_P (dC, dI) classes [(mo, .inr (13, MF 30 v)), (qq, .inl (cI, NQ, .inl g))] s.heap := hP
  have hl := lv_entry ([.ref mo, .int (nI a), .int (nI b)]) (n := 3) (Nat.le_of_ble_eq_true rfl)
  rw [lg_entry_eq]
  generalize (lg_sl ([.ref mo, .int (nI a), .int (nI b)]) ++ List.replicate (3 - (lg_sl ([.ref mo, .int (nI a), .int (nI b)])).length) Slot.unset).toArray = ls at hl ⊢
  have hl : lv_has ls 3 [(0, .ref mo), (1, .int (nI a)), (2, .int (nI b))] := hl
  refine lv_aload_n hx hb d_Mo_field_0 rfl (lv_at hl 0 rfl) ?_
  refine va_get (D := (dC, dI)) (ci := 13) (v := .ref qq) (C := R_Mo) (T := F_Mo) (N := 30) hx hb hts in_Mo hown hK hP 0 rfl rfl 19 (by decide) (hts _ w_1108) (fun _ h9 => h9) (MFg (by decide) h19) d_Mo_field_1 ?_
  refine lv_bipush (v := 8) hx hb d_Mo_field_4 (by decide) ?_
  refine lv_iload_n hx hb d_Mo_field_6 rfl (lv_at hl 1 rfl) ?_
  refine lv_imul hx hb d_Mo_field_7 ?_
  refine lv_iload_n hx hb d_Mo_field_8 rfl (lv_at hl 2 rfl) ?_
  refine lv_iadd hx hb d_Mo_field_9 ?_
  refine W.eq (g2 := F0 m 10 ls [.int (nI (8 * a + b)), .ref qq]) (by rw [show ((8 * (nI a)) + (nI b)) = (nI (8 * a + b)) from (by rw [show (8 : Int32) = nI 8 from rfl, pk_mul, nI_add])]) ?_
  refine va_iald hx hb hK hP 1 0 rfl rfl (vp_in_nI (show 8 * a + b < NQ by omega) (by omega)) d_Mo_field_10 ?_
  rw [show (nI (8 * a + b)).toNatClampNeg = 8 * a + b from nI_clamp (by omega)]
  exact W.iret (v := (g (8 * a + b))) hx hb hr (fun t ht hW => ⟨⟨(g (8 * a + b)), (), rfl, rfl, by rw [ht]; exact hP, va_K.moved hW.alike hK, hD⟩, hS.F ht⟩) hS.2.2 d_Mo_field_11
abbrev b_Mo_set : ByteArray := prog_14_method_35_code
def y_Mo_set : MethodName := ⟨"QueryBenchModel", "set", "(III)V"⟩
abbrev k_Mo_set : Cond := .code y_Mo_set b_Mo_set 4 none
theorem i_Mo_set : k_Mo_set ∈ gtbl := gt_in 1414 (by decide +kernel) (by decide +kernel)
theorem d_Mo_set_0 : decode b_Mo_set 0 = .ok (.aload_n 0, 1) := by decide +kernel
theorem d_Mo_set_1 : decode b_Mo_set 1 = .ok (.getfield 49, 3) := by decide +kernel
theorem d_Mo_set_4 : decode b_Mo_set 4 = .ok (.bipush 8, 2) := by decide +kernel
theorem d_Mo_set_6 : decode b_Mo_set 6 = .ok (.iload_n 1, 1) := by decide +kernel
theorem d_Mo_set_7 : decode b_Mo_set 7 = .ok (.imul, 1) := by decide +kernel
theorem d_Mo_set_8 : decode b_Mo_set 8 = .ok (.iload_n 2, 1) := by decide +kernel
theorem d_Mo_set_9 : decode b_Mo_set 9 = .ok (.iadd, 1) := by decide +kernel
theorem d_Mo_set_10 : decode b_Mo_set 10 = .ok (.iload_n 3, 1) := by decide +kernel
theorem d_Mo_set_11 : decode b_Mo_set 11 = .ok (.iastore, 1) := by decide +kernel
theorem d_Mo_set_12 : decode b_Mo_set 12 = .ok (.return_, 1) := by decide +kernel
set_option maxHeartbeats 4000000 in
set_option maxRecDepth 100000 in
/-- the reference: set -/
theorem c_Mo_set (l : Launch) (dC : Nat → ClassId) (dI : Nat → Nat → Nat) (mo : Nat) (sz : Heap) (v : Nat → Value) (cI : ClassId) (qq NQ : Nat) (g : Nat → Int32) (a b : Nat) (y : Int32) (hab : 8 * a + b < NQ) (hNQ : NQ ≤ 100000000) (h19 : v 19 = .ref qq) : Met l y_Mo_set (k_Mo_set :: gtbl) ({ frames := 0, cells := 0, slots := 0, locals := 0 }) (va_Pc [.ref mo, .int (nI a), .int (nI b), .int y] (mp dC dI [(mo, .inr (13, MF 30 v)), (qq, .inl (cI, NQ, .inl g))] [(cI, .int)] sz)) (va_Qv (fun (_ : Unit) => True) (fun _ => mz dC dI [(mo, .inr (13, MF 30 v)), (qq, .inl (cI, NQ, .inl (upd g (8 * a + b) y)))] [(cI, .int)] (va_A [(mo, .inr (13, MF 30 v)), (qq, .inl (cI, NQ, .inl g))] sz.size)) (va_A [(mo, .inr (13, MF 30 v)), (qq, .inl (cI, NQ, .inl g))] sz.size)) 0 0 (va_A [(mo, .inr (13, MF 30 v)), (qq, .inl (cI, NQ, .inl g))] sz.size) := by
  refine Met.ofW (cc := b_Mo_set) (maxL := 4) (ret := none) (by decide) rfl ?_
  intro p e s m args below meth c s₁ B hml hv
  obtain ⟨rfl, hsz, hP, hK, hD0⟩ := hv
  have hx := B.exec
  have hb := B.bytes
  have hr := B.returns
  have hts0 := atoms_spec (ws := k_Mo_set :: gtbl) B.pre
  have hts := fun w h => hts0 w (List.mem_cons_of_mem _ h)
  have hown : s.vm.findClass R_Mo = some m.cls := findClass_of_methodNamed B.named
  have hlocks := B.notSynchronized
  subst hsz
  have hD := hD0.self (sz := s.heap.size)
  generalize hAe : va_A [(mo, .inr (13, MF 30 v)), (qq, .inl (cI, NQ, .inl g))] s.heap.size = A at hD ⊢
  have hA : ∀ q : Nat, s.heap.size ≤ q → A q := fun q h => by rw [← hAe]; exact Or.inr h
  have hS : va_S A s.heap s.heap [] := va_S.rf
  have hP : va_P (dC, dI) classes [(mo, .inr (13, MF 30 v)), (qq, .inl (cI, NQ, .inl g))] s.heap := hP
  have hl := lv_entry ([.ref mo, .int (nI a), .int (nI b), .int y]) (n := 4) (Nat.le_of_ble_eq_true rfl)
  rw [lg_entry_eq]
  generalize (lg_sl ([.ref mo, .int (nI a), .int (nI b), .int y]) ++ List.replicate (4 - (lg_sl ([.ref mo, .int (nI a), .int (nI b), .int y])).length) Slot.unset).toArray = ls at hl ⊢
  have hl : lv_has ls 4 [(0, .ref mo), (1, .int (nI a)), (2, .int (nI b)), (3, .int y)] := hl
  refine lv_aload_n hx hb d_Mo_set_0 rfl (lv_at hl 0 rfl) ?_
  refine va_get (D := (dC, dI)) (ci := 13) (v := .ref qq) (C := R_Mo) (T := F_Mo) (N := 30) hx hb hts in_Mo hown hK hP 0 rfl rfl 19 (by decide) (hts _ w_1108) (fun _ h9 => h9) (MFg (by decide) h19) d_Mo_set_1 ?_
  refine lv_bipush (v := 8) hx hb d_Mo_set_4 (by decide) ?_
  refine lv_iload_n hx hb d_Mo_set_6 rfl (lv_at hl 1 rfl) ?_
  refine lv_imul hx hb d_Mo_set_7 ?_
  refine lv_iload_n hx hb d_Mo_set_8 rfl (lv_at hl 2 rfl) ?_
  refine lv_iadd hx hb d_Mo_set_9 ?_
  refine lv_iload_n hx hb d_Mo_set_10 rfl (lv_at hl 3 rfl) ?_
  rw [show (8 * nI a + nI b : Int32) = nI (8 * a + b) by rw [show (8 : Int32) = nI 8 from rfl, pk_mul, nI_add]]
  refine va_iast hx hb hK hP hD hS 1 0 rfl rfl (vp_in_nI (show 8 * a + b < NQ by omega) (by omega)) d_Mo_set_11 (fun H locs hP hD hS => ?_)
  rw [show (nI (8 * a + b)).toNatClampNeg = 8 * a + b from nI_clamp (by omega)] at hP hD
  have hP : va_P (dC, dI) classes [(mo, .inr (13, MF 30 v)), (qq, .inl (cI, NQ, .inl (upd g (8 * a + b) y)))] H := hP
  have hD : va_D A [(mo, .inr (13, MF 30 v)), (qq, .inl (cI, NQ, .inl (upd g (8 * a + b) y)))] := hD
  exact W.vret hx hb hr (fun t ht hW => ⟨⟨(), rfl, trivial, by rw [ht]; exact hP, va_K.moved hW.alike hK, hD⟩, hS.F ht⟩) hS.2.2 d_Mo_set_12
