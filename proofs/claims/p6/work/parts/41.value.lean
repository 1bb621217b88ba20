theorem w_1039 : (.fieldLink "QueryBenchModel" 103 "QueryBenchModel$Tree" "starts" "[I" : Cond) ∈ gtbl := gt_in 1039 (by decide +kernel) (by decide +kernel)
theorem w_1041 : (.fieldLink "QueryBenchModel" 106 "QueryBenchModel$Tree" "lengths" "[I" : Cond) ∈ gtbl := gt_in 1041 (by decide +kernel) (by decide +kernel)
theorem w_1240 : (.methodLink "QueryBenchModel" 193 ⟨"QueryBenchModel", "word", "(Ljava/lang/String;)Z"⟩ : Cond) ∈ gtbl := gt_in 1240 (by decide +kernel) (by decide +kernel)
theorem w_1242 : (.instanceMethod ⟨"QueryBenchModel", "word", "(Ljava/lang/String;)Z"⟩ : Cond) ∈ gtbl := gt_in 1242 (by decide +kernel) (by decide +kernel)
theorem w_1254 : (.methodLink "QueryBenchModel" 197 ⟨"QueryBenchModel$Tree", "add", "(I)I"⟩ : Cond) ∈ gtbl := gt_in 1254 (by decide +kernel) (by decide +kernel)
theorem w_1255 : (.instanceMethod ⟨"QueryBenchModel$Tree", "add", "(I)I"⟩ : Cond) ∈ gtbl := gt_in 1255 (by decide +kernel) (by decide +kernel)
theorem w_1256 : (.selects "QueryBenchModel$Tree" ⟨"QueryBenchModel$Tree", "add", "(I)I"⟩ ⟨"QueryBenchModel$Tree", "add", "(I)I"⟩ : Cond) ∈ gtbl := gt_in 1256 (by decide +kernel) (by decide +kernel)
theorem w_1339 : (.methodLink "QueryBenchModel" 207 ⟨"QueryBenchModel", "number", "(LQueryBenchModel$Tree;I)Z"⟩ : Cond) ∈ gtbl := gt_in 1339 (by decide +kernel) (by decide +kernel)
theorem w_1341 : (.instanceMethod ⟨"QueryBenchModel", "number", "(LQueryBenchModel$Tree;I)Z"⟩ : Cond) ∈ gtbl := gt_in 1341 (by decide +kernel) (by decide +kernel)
theorem w_1346 : (.methodLink "QueryBenchModel" 211 ⟨"QueryBenchModel", "inside", "(LQueryBenchModel$Tree;III)Z"⟩ : Cond) ∈ gtbl := gt_in 1346 (by decide +kernel) (by decide +kernel)
theorem w_1348 : (.instanceMethod ⟨"QueryBenchModel", "inside", "(LQueryBenchModel$Tree;III)Z"⟩ : Cond) ∈ gtbl := gt_in 1348 (by decide +kernel) (by decide +kernel)
theorem TE_of {T T2 T3 : TS} (h : TE T T2) (h1 : T3.ct = T2.ct) (h2 : T3.us = T2.us) (h3 : T3.un = T2.un) (h4 : alk T2 T3 (fun j => j < T.ct)) : TE T T3 := ⟨by rw [h1]; exact h.1, h.2.1.trans h4, h.2.2.trans ⟨Nat.le_of_eq h2.symm, fun j _ => by rw [h3]⟩⟩
theorem TB.toTE {T T1 T2 : TS} (h : TE T T1) (hb : TB T1 T2 T.ct) : TE T T2 := ⟨Nat.le_trans h.1 hb.1, h.2.1.trans (hb.2.1.mono (fun j hj => ⟨Nat.lt_of_lt_of_le hj h.1, Nat.ne_of_lt hj⟩)), h.2.2.trans hb.2.2.1⟩
theorem RepK_ob {β : Type} {rep : Nat → Nat → β → Prop} {T : TS} {ob ob2 : Prop} {a hi lo : Nat} {z k : Int32} {cs : List (List Int32 × β)} (e : ob ↔ ob2) (h : RepK rep T ob a hi z lo k cs) : RepK rep T ob2 a hi z lo k cs := by
  rw [← propext e]
  exact h
theorem dgM_at (f : Nat → Int32) (n : Nat) : ∀ (k j : Nat) (a : Int64), j ≤ (dgM f n k j a).2 := by
  intro k
  induction k with
  | zero => intro j a; exact Nat.le_refl _
  | succ k ih =>
    intro j a
    simp only [dgM]
    split
    · exact Nat.le_trans (Nat.le_succ _) (ih _ _)
    · exact Nat.le_refl _
theorem dgN_lt {f : Nat → Int32} {n i : Nat} (h : digH (hereV f n i)) : i < (dgN f n i).2 := by
  unfold dgN
  split
  · exact Nat.lt_succ_self _
  · simp only [dgM]
    rw [if_pos h]
    exact dgM_at _ _ _ _ _
theorem nuB_lt {f : Nat → Int32} {n i : Nat} {mi : Bool} {p : Int64 × Nat} (h : nuB f n i mi = some p) : i < p.2 := by
  unfold nuB at h
  by_cases h1 : digH (hereV f n i)
  · rw [if_neg (fun q => q h1)] at h
    split at h
    · cases h
    · cases h; exact dgN_lt h1
  · rw [if_pos h1] at h; cases h
theorem numM_lt {f : Nat → Int32} {n i j : Nat} {x : Int64} (h : numM f n i = some (x, j)) : i < j := by
  unfold numM at h
  split at h
  · have := nuB_lt h; show i < j; simp only at this; omega
  · exact nuB_lt h
set_option maxHeartbeats 4000000 in
set_option maxRecDepth 100000 in
/-- the reference: value -/
theorem c_value0 : VC 0 := by
  intro l dC dI mo sz v cB cI cL cC qx NN f n K t T i br hnN hNN hi0 h6 h8 hT hcu hcc
  refine Met.ofW (cc := b_Mo_value) (maxL := 5) (ret := (some .int)) (by decide) rfl ?_
  intro p e s m args below meth c s₁ B hml hv
  obtain ⟨rfl, ⟨hsz, hP, hK, hD0⟩, hM⟩ := hv
  have hx := B.exec
  have hb := B.bytes
  have hr := B.returns
  have hts0 := atoms_spec (ws := k_Mo_value :: gtbl) B.pre
  have hts := fun w h => hts0 w (List.mem_cons_of_mem _ h)
  have hown : s.vm.findClass R_Mo = some m.cls := findClass_of_methodNamed B.named
  have hlocks := B.notSynchronized
  subst hsz
  have hD := hD0.self (sz := s.heap.size)
  generalize hAe : va_A [(mo, .inr (13, MF 30 (rf v i br))), (qx, .inl (cB, NN, .inl f)), (t, .inr (12, MF 13 (tw T))), (T.a0, .inl (cI, T.N, .inl T.kd)), (T.a1, .inl (cL, T.N, .inr (.inl T.nu))), (T.a2, .inl (cI, T.N, .inl T.st)), (T.a3, .inl (cI, T.N, .inl T.ln)), (T.a4, .inl (cI, T.N, .inl T.ki)), (T.a5, .inl (cI, T.N, .inl T.nx)), (T.a6, .inl (cI, T.N, .inl T.ns)), (T.a7, .inl (cI, T.N, .inl T.nl)), (T.a8, .inl (cI, T.N, .inl T.pa)), (T.a9, .inl (cI, T.N, .inl T.pl)), (T.au, .inl (cC, T.U, .inl T.un))] s.heap.size = A at hD hM ⊢
  have hA : ∀ q : Nat, s.heap.size ≤ q → A q := fun q h => by rw [← hAe]; exact Or.inr h
  have hS : va_S A s.heap s.heap [] := va_S.rf
  have hP : va_P (dC, dI) classes [(mo, .inr (13, MF 30 (rf v i br))), (qx, .inl (cB, NN, .inl f)), (t, .inr (12, MF 13 (tw T))), (T.a0, .inl (cI, T.N, .inl T.kd)), (T.a1, .inl (cL, T.N, .inr (.inl T.nu))), (T.a2, .inl (cI, T.N, .inl T.st)), (T.a3, .inl (cI, T.N, .inl T.ln)), (T.a4, .inl (cI, T.N, .inl T.ki)), (T.a5, .inl (cI, T.N, .inl T.nx)), (T.a6, .inl (cI, T.N, .inl T.ns)), (T.a7, .inl (cI, T.N, .inl T.nl)), (T.a8, .inl (cI, T.N, .inl T.pa)), (T.a9, .inl (cI, T.N, .inl T.pl)), (T.au, .inl (cC, T.U, .inl T.un))] s.heap := hP
  have hl := lv_entry ([.ref mo, .ref t, .int (nI (32 - 0))]) (n := 5) (Nat.le_of_ble_eq_true rfl)
  rw [lg_entry_eq]
  generalize (lg_sl ([.ref mo, .ref t, .int (nI (32 - 0))]) ++ List.replicate (5 - (lg_sl ([.ref mo, .ref t, .int (nI (32 - 0))])).length) Slot.unset).toArray = ls at hl ⊢
  have hl : lv_has ls 5 [(0, .ref mo), (1, .ref t), (2, .int (nI (32 - 0)))] := hl
  have hT0 := hT
  have ho3 := hT.2.2.1
  have ho2 := hT.2.1
  have hGB_T : GB (T.ct + (n + 12 - i)) (T.us + (n + 12 - i)) T T := GB.rf
  have hTk_T := hT
  clear hT
  refine w_same (fun hq => ?_)
  refine w_tight (k := cE T T) (n := sE T T) (by rw [cE_rf.1, cE_rf.2]; exact hq) ?_
  have hfit_T := hGB_T.fits
  refine lv_aload_n hx hb d_Mo_value_0 rfl (lv_at hl 0 rfl) ?_
  have hPc := hP.sub (ws' := [(mo, .inr (13, MF 30 (rf v i br))), (qx, .inl (cB, NN, .inl f))]) [0, 1] rfl
  have hDc := hD.sub (ws' := [(mo, .inr (13, MF 30 (rf v i br))), (qx, .inl (cB, NN, .inl f))]) [0, 1] (by decide) rfl
  have hKc := hK.sub (tys' := [(cB, .byte)]) [0] rfl
  have hFc := va_free (wc := [(mo, .inr (13, MF 30 (rf v i br))), (qx, .inl (cB, NN, .inl f))]) hD hS hA [0, 1] rfl
  refine va_callv (va_runV (As := []) (rest := []) ⟨hx, hb, hml, hown, hts⟩ (c_Mo_blanks l dC dI mo s.heap (rf v i br) cB qx NN f n i (by omega) (by omega) (by omega) ((rf_ne (by decide) (by decide)).trans h6) rf_7 ((rf_ne (by decide) (by decide)).trans h8)) (cwV 0 hts (gt_V (own := R_Mo) (C := R_Mo) (i := 184) (y := y_Mo_blanks) i_Mo_blanks w_1229 w_1231 (gt_sel (y := y_Mo_blanks) (n := 30) (by decide +kernel)) w_7) rfl rfl rfl (by decide +kernel) ⟨Nat.le_of_ble_eq_true rfl, Nat.le_of_ble_eq_true rfl⟩) ⟨mp_blind, va_recv hKc hPc (ci := 13) (q0 := 0) rfl rfl, fun U hU hW => ⟨rfl, hU, by rw [hU]; exact hPc, va_K.moved hW.alike hKc, hDc.weaken (fun _ _ _ _ => trivial)⟩⟩ rfl rfl hl.1 rfl (lv_room (Nat.le_of_ble_eq_true rfl)) d_Mo_value_1 ⟨hfit_T.1, hfit_T.2⟩) hS (fun q _ h => hFc q h) hFc (fun _u t9 H1 locs ht hvm hw hB hz1 hk1 hS => ?_)
  obtain ⟨hP1, hK1, hD1⟩ := hB
  rw [ht] at hP1
  obtain ⟨hP, hD⟩ := va_join (wr := [(t, .inr (12, MF 13 (tw T))), (T.a0, .inl (cI, T.N, .inl T.kd)), (T.a1, .inl (cL, T.N, .inr (.inl T.nu))), (T.a2, .inl (cI, T.N, .inl T.st)), (T.a3, .inl (cI, T.N, .inl T.ln)), (T.a4, .inl (cI, T.N, .inl T.ki)), (T.a5, .inl (cI, T.N, .inl T.nx)), (T.a6, .inl (cI, T.N, .inl T.ns)), (T.a7, .inl (cI, T.N, .inl T.nl)), (T.a8, .inl (cI, T.N, .inl T.pa)), (T.a9, .inl (cI, T.N, .inl T.pl)), (T.au, .inl (cC, T.U, .inl T.un))]) (w1 := [(mo, .inr (13, MF 30 (va_up (rf v i br) 7 (.int (nI (skipH f n i)))))), (qx, .inl (cB, NN, .inl f))]) hP hD [0, 1] [2, 3, 4, 5, 6, 7, 8, 9, 10, 11, 12, 13] rfl rfl (by decide) (by decide) hk1 hFc hP1 hD1
  generalize H1 = H at hP hS ⊢
  have hP : va_P (dC, dI) classes [(t, .inr (12, MF 13 (tw T))), (T.a0, .inl (cI, T.N, .inl T.kd)), (T.a1, .inl (cL, T.N, .inr (.inl T.nu))), (T.a2, .inl (cI, T.N, .inl T.st)), (T.a3, .inl (cI, T.N, .inl T.ln)), (T.a4, .inl (cI, T.N, .inl T.ki)), (T.a5, .inl (cI, T.N, .inl T.nx)), (T.a6, .inl (cI, T.N, .inl T.ns)), (T.a7, .inl (cI, T.N, .inl T.nl)), (T.a8, .inl (cI, T.N, .inl T.pa)), (T.a9, .inl (cI, T.N, .inl T.pl)), (T.au, .inl (cC, T.U, .inl T.un)), (mo, .inr (13, MF 30 (va_up (rf v i br) 7 (.int (nI (skipH f n i)))))), (qx, .inl (cB, NN, .inl f))] H := hP
  have hD : va_D A [(t, .inr (12, MF 13 (tw T))), (T.a0, .inl (cI, T.N, .inl T.kd)), (T.a1, .inl (cL, T.N, .inr (.inl T.nu))), (T.a2, .inl (cI, T.N, .inl T.st)), (T.a3, .inl (cI, T.N, .inl T.ln)), (T.a4, .inl (cI, T.N, .inl T.ki)), (T.a5, .inl (cI, T.N, .inl T.nx)), (T.a6, .inl (cI, T.N, .inl T.ns)), (T.a7, .inl (cI, T.N, .inl T.nl)), (T.a8, .inl (cI, T.N, .inl T.pa)), (T.a9, .inl (cI, T.N, .inl T.pl)), (T.au, .inl (cC, T.U, .inl T.un)), (mo, .inr (13, MF 30 (va_up (rf v i br) 7 (.int (nI (skipH f n i)))))), (qx, .inl (cB, NN, .inl f))] := hD
  have hP := hP.sub (ws' := [(mo, .inr (13, MF 30 (va_up (rf v i br) 7 (.int (nI (skipH f n i)))))), (qx, .inl (cB, NN, .inl f)), (t, .inr (12, MF 13 (tw T))), (T.a0, .inl (cI, T.N, .inl T.kd)), (T.a1, .inl (cL, T.N, .inr (.inl T.nu))), (T.a2, .inl (cI, T.N, .inl T.st)), (T.a3, .inl (cI, T.N, .inl T.ln)), (T.a4, .inl (cI, T.N, .inl T.ki)), (T.a5, .inl (cI, T.N, .inl T.nx)), (T.a6, .inl (cI, T.N, .inl T.ns)), (T.a7, .inl (cI, T.N, .inl T.nl)), (T.a8, .inl (cI, T.N, .inl T.pa)), (T.a9, .inl (cI, T.N, .inl T.pl)), (T.au, .inl (cC, T.U, .inl T.un))]) [12, 13, 0, 1, 2, 3, 4, 5, 6, 7, 8, 9, 10, 11] rfl
  have hD := hD.sub (ws' := [(mo, .inr (13, MF 30 (va_up (rf v i br) 7 (.int (nI (skipH f n i)))))), (qx, .inl (cB, NN, .inl f)), (t, .inr (12, MF 13 (tw T))), (T.a0, .inl (cI, T.N, .inl T.kd)), (T.a1, .inl (cL, T.N, .inr (.inl T.nu))), (T.a2, .inl (cI, T.N, .inl T.st)), (T.a3, .inl (cI, T.N, .inl T.ln)), (T.a4, .inl (cI, T.N, .inl T.ki)), (T.a5, .inl (cI, T.N, .inl T.nx)), (T.a6, .inl (cI, T.N, .inl T.ns)), (T.a7, .inl (cI, T.N, .inl T.nl)), (T.a8, .inl (cI, T.N, .inl T.pa)), (T.a9, .inl (cI, T.N, .inl T.pl)), (T.au, .inl (cC, T.U, .inl T.un))]) [12, 13, 0, 1, 2, 3, 4, 5, 6, 7, 8, 9, 10, 11] (by decide) rfl
  rw [rf_u7] at hP hD
  have hP : va_P (dC, dI) classes [(mo, .inr (13, MF 30 (rf v (skipH f n i) br))), (qx, .inl (cB, NN, .inl f)), (t, .inr (12, MF 13 (tw T))), (T.a0, .inl (cI, T.N, .inl T.kd)), (T.a1, .inl (cL, T.N, .inr (.inl T.nu))), (T.a2, .inl (cI, T.N, .inl T.st)), (T.a3, .inl (cI, T.N, .inl T.ln)), (T.a4, .inl (cI, T.N, .inl T.ki)), (T.a5, .inl (cI, T.N, .inl T.nx)), (T.a6, .inl (cI, T.N, .inl T.ns)), (T.a7, .inl (cI, T.N, .inl T.nl)), (T.a8, .inl (cI, T.N, .inl T.pa)), (T.a9, .inl (cI, T.N, .inl T.pl)), (T.au, .inl (cC, T.U, .inl T.un))] H := hP
  have hD : va_D A [(mo, .inr (13, MF 30 (rf v (skipH f n i) br))), (qx, .inl (cB, NN, .inl f)), (t, .inr (12, MF 13 (tw T))), (T.a0, .inl (cI, T.N, .inl T.kd)), (T.a1, .inl (cL, T.N, .inr (.inl T.nu))), (T.a2, .inl (cI, T.N, .inl T.st)), (T.a3, .inl (cI, T.N, .inl T.ln)), (T.a4, .inl (cI, T.N, .inl T.ki)), (T.a5, .inl (cI, T.N, .inl T.nx)), (T.a6, .inl (cI, T.N, .inl T.ns)), (T.a7, .inl (cI, T.N, .inl T.nl)), (T.a8, .inl (cI, T.N, .inl T.pa)), (T.a9, .inl (cI, T.N, .inl T.pl)), (T.au, .inl (cC, T.U, .inl T.un))] := hD
  have hsk_4 := skipH_n (f := f) (show i ≤ n by omega)
  refine lv_aload_n hx hb d_Mo_value_4 rfl (lv_at hl 0 rfl) ?_
  have hPc := hP.sub (ws' := [(mo, .inr (13, MF 30 (rf v (skipH f n i) br))), (qx, .inl (cB, NN, .inl f))]) [0, 1] rfl
  have hDc := hD.sub (ws' := [(mo, .inr (13, MF 30 (rf v (skipH f n i) br))), (qx, .inl (cB, NN, .inl f))]) [0, 1] (by decide) rfl
  have hKc := hK.sub (tys' := [(cB, .byte)]) [0] rfl
  have hFc := va_free (wc := [(mo, .inr (13, MF 30 (rf v (skipH f n i) br))), (qx, .inl (cB, NN, .inl f))]) hD hS hA [0, 1] rfl
  refine va_calli (va_runV (As := []) (rest := []) ⟨hx, hb, hml, hown, hts⟩ (c_Mo_c l dC dI mo H (rf v (skipH f n i) br) cB qx NN f n (skipH f n i) (by omega) (by omega) (by omega) ((rf_ne (by decide) (by decide)).trans h6) rf_7 ((rf_ne (by decide) (by decide)).trans h8)) (cwV 0 hts (gt_V (own := R_Mo) (C := R_Mo) (i := 147) (y := y_Mo_c) i_Mo_c w_1233 w_1235 (gt_sel (y := y_Mo_c) (n := 30) (by decide +kernel)) w_7) rfl rfl rfl (by decide +kernel) ⟨Nat.le_of_ble_eq_true rfl, Nat.le_of_ble_eq_true rfl⟩) ⟨mp_blind, va_recv hKc hPc (ci := 13) (q0 := 0) rfl rfl, fun U hU hW => ⟨rfl, hU, by rw [hU]; exact hPc, va_K.moved hW.alike hKc, hDc.weaken (fun _ _ _ _ => trivial)⟩⟩ rfl rfl hl.1 rfl (lv_room (Nat.le_of_ble_eq_true rfl)) d_Mo_value_5 ⟨hfit_T.1, hfit_T.2⟩) hS (fun q _ h => hFc q h) hFc (fun r1 _u t9 H1 locs ht hvm hw hB hz1 hk1 hS => ?_)
  obtain ⟨hP1, hK1, hD1⟩ := hB
  rw [ht] at hP1
  obtain ⟨hP, hD⟩ := va_join (wr := [(t, .inr (12, MF 13 (tw T))), (T.a0, .inl (cI, T.N, .inl T.kd)), (T.a1, .inl (cL, T.N, .inr (.inl T.nu))), (T.a2, .inl (cI, T.N, .inl T.st)), (T.a3, .inl (cI, T.N, .inl T.ln)), (T.a4, .inl (cI, T.N, .inl T.ki)), (T.a5, .inl (cI, T.N, .inl T.nx)), (T.a6, .inl (cI, T.N, .inl T.ns)), (T.a7, .inl (cI, T.N, .inl T.nl)), (T.a8, .inl (cI, T.N, .inl T.pa)), (T.a9, .inl (cI, T.N, .inl T.pl)), (T.au, .inl (cC, T.U, .inl T.un))]) (w1 := [(mo, .inr (13, MF 30 (rf v (skipH f n i) br))), (qx, .inl (cB, NN, .inl f))]) hP hD [0, 1] [2, 3, 4, 5, 6, 7, 8, 9, 10, 11, 12, 13] rfl rfl (by decide) (by decide) hk1 hFc hP1 hD1
  generalize H1 = H at hP hS ⊢
  have hP : va_P (dC, dI) classes [(t, .inr (12, MF 13 (tw T))), (T.a0, .inl (cI, T.N, .inl T.kd)), (T.a1, .inl (cL, T.N, .inr (.inl T.nu))), (T.a2, .inl (cI, T.N, .inl T.st)), (T.a3, .inl (cI, T.N, .inl T.ln)), (T.a4, .inl (cI, T.N, .inl T.ki)), (T.a5, .inl (cI, T.N, .inl T.nx)), (T.a6, .inl (cI, T.N, .inl T.ns)), (T.a7, .inl (cI, T.N, .inl T.nl)), (T.a8, .inl (cI, T.N, .inl T.pa)), (T.a9, .inl (cI, T.N, .inl T.pl)), (T.au, .inl (cC, T.U, .inl T.un)), (mo, .inr (13, MF 30 (rf v (skipH f n i) br))), (qx, .inl (cB, NN, .inl f))] H := hP
  have hD : va_D A [(t, .inr (12, MF 13 (tw T))), (T.a0, .inl (cI, T.N, .inl T.kd)), (T.a1, .inl (cL, T.N, .inr (.inl T.nu))), (T.a2, .inl (cI, T.N, .inl T.st)), (T.a3, .inl (cI, T.N, .inl T.ln)), (T.a4, .inl (cI, T.N, .inl T.ki)), (T.a5, .inl (cI, T.N, .inl T.nx)), (T.a6, .inl (cI, T.N, .inl T.ns)), (T.a7, .inl (cI, T.N, .inl T.nl)), (T.a8, .inl (cI, T.N, .inl T.pa)), (T.a9, .inl (cI, T.N, .inl T.pl)), (T.au, .inl (cC, T.U, .inl T.un)), (mo, .inr (13, MF 30 (rf v (skipH f n i) br))), (qx, .inl (cB, NN, .inl f))] := hD
  have hP := hP.sub (ws' := [(mo, .inr (13, MF 30 (rf v (skipH f n i) br))), (qx, .inl (cB, NN, .inl f)), (t, .inr (12, MF 13 (tw T))), (T.a0, .inl (cI, T.N, .inl T.kd)), (T.a1, .inl (cL, T.N, .inr (.inl T.nu))), (T.a2, .inl (cI, T.N, .inl T.st)), (T.a3, .inl (cI, T.N, .inl T.ln)), (T.a4, .inl (cI, T.N, .inl T.ki)), (T.a5, .inl (cI, T.N, .inl T.nx)), (T.a6, .inl (cI, T.N, .inl T.ns)), (T.a7, .inl (cI, T.N, .inl T.nl)), (T.a8, .inl (cI, T.N, .inl T.pa)), (T.a9, .inl (cI, T.N, .inl T.pl)), (T.au, .inl (cC, T.U, .inl T.un))]) [12, 13, 0, 1, 2, 3, 4, 5, 6, 7, 8, 9, 10, 11] rfl
  have hD := hD.sub (ws' := [(mo, .inr (13, MF 30 (rf v (skipH f n i) br))), (qx, .inl (cB, NN, .inl f)), (t, .inr (12, MF 13 (tw T))), (T.a0, .inl (cI, T.N, .inl T.kd)), (T.a1, .inl (cL, T.N, .inr (.inl T.nu))), (T.a2, .inl (cI, T.N, .inl T.st)), (T.a3, .inl (cI, T.N, .inl T.ln)), (T.a4, .inl (cI, T.N, .inl T.ki)), (T.a5, .inl (cI, T.N, .inl T.nx)), (T.a6, .inl (cI, T.N, .inl T.ns)), (T.a7, .inl (cI, T.N, .inl T.nl)), (T.a8, .inl (cI, T.N, .inl T.pa)), (T.a9, .inl (cI, T.N, .inl T.pl)), (T.au, .inl (cC, T.U, .inl T.un))]) [12, 13, 0, 1, 2, 3, 4, 5, 6, 7, 8, 9, 10, 11] (by decide) rfl
  have h_r1 : r1 = hereV f n (skipH f n i) := hw
  refine lv_istore_n (lv' := [(3, .int r1), (0, .ref mo), (1, .ref t), (2, .int (nI (32 - 0)))]) hx hb d_Mo_value_8 rfl hl (by decide) rfl (fun ls hl => ?_)
  refine lv_iload_n hx hb d_Mo_value_9 rfl (lv_at hl 0 rfl) ?_
  refine lv_bipush (v := 110) hx hb d_Mo_value_10 (by decide) ?_
  refine lv_icmp_eq (tgt := 27) hx hb d_Mo_value_12 (by decide) (fun c12 => ?_) (fun c12 => ?_)
  · refine lv_aload_n hx hb d_Mo_value_27 rfl (lv_at hl 1 rfl) ?_
    refine lv_iload_n hx hb d_Mo_value_28 rfl (lv_at hl 0 rfl) ?_
    refine lv_bipush (v := 110) hx hb d_Mo_value_29 (by decide) ?_
    refine lv_icmp_ne (tgt := 39) hx hb d_Mo_value_31 (by decide) (fun h => absurd h (fun q => q c12)) (fun _ => ?_)
    refine va_ldcS hx hb hown (hM 1 _ rfl).2 d_Mo_value_34 ?_
    refine lv_goto (tgt := 52) hx hb d_Mo_value_36 (by decide) ?_
    have hE := (hM 1 _ rfl).1
    have hPc := hP.sub (ws' := [(mo, .inr (13, MF 30 (rf v (skipH f n i) br))), (qx, .inl (cB, NN, .inl f))]) [0, 1] rfl
    have hDc := hD.sub (ws' := [(mo, .inr (13, MF 30 (rf v (skipH f n i) br))), (qx, .inl (cB, NN, .inl f))]) [0, 1] (by decide) rfl
    have hKc := hK.sub (tys' := [(cB, .byte)]) [0] rfl
    have hFc := va_free (wc := [(mo, .inr (13, MF 30 (rf v (skipH f n i) br))), (qx, .inl (cB, NN, .inl f))]) hD hS hA [0, 1] rfl
    refine va_calli (va_runV (As := [.ref (K 1).1]) (rest := []) ⟨hx, hb, hml, hown, hts⟩ (c_Mo_wordS l dC dI mo H (rf v (skipH f n i) br) cB qx NN f (K 1).1 (K 1).2 4 (mtx 1) n (skipH f n i) (by omega) (by omega) (by omega) ((rf_ne (by decide) (by decide)).trans h6) rf_7 ((rf_ne (by decide) (by decide)).trans h8) br rf_9 (by decide)) (cwV 1 hts (gt_V (own := R_Mo) (C := R_Mo) (i := 193) (y := y_Mo_wordS) i_Mo_wordS w_1240 w_1242 (gt_sel (y := y_Mo_wordS) (n := 30) (by decide +kernel)) w_7) rfl rfl rfl (by decide +kernel) ⟨Nat.le_of_ble_eq_true rfl, Nat.le_of_ble_eq_true rfl⟩) ⟨mstr_blind, va_recv hKc hPc (ci := 13) (q0 := 0) rfl rfl, fun U hU hW => ⟨rfl, ⟨hU, by rw [hU]; exact hPc, va_K.moved hW.alike hKc, hDc.weaken (fun _ _ _ _ => trivial)⟩, by rw [hU]; exact SX.moved' hW.alike (SX.narrow' (SX.kept' hE hS.2.1) hFc)⟩⟩ rfl rfl hl.1 rfl (lv_room (Nat.le_of_ble_eq_true rfl)) d_Mo_value_52 ⟨hfit_T.1, hfit_T.2⟩) hS (fun q _ h => hFc q h) hFc (fun r0 u2 t9 H1 locs ht hvm hw hB hz1 hk1 hS => ?_)
    obtain ⟨hP1, hK1, hD1⟩ := hB
    rw [ht] at hP1
    obtain ⟨hP, hD⟩ := va_join (wr := [(t, .inr (12, MF 13 (tw T))), (T.a0, .inl (cI, T.N, .inl T.kd)), (T.a1, .inl (cL, T.N, .inr (.inl T.nu))), (T.a2, .inl (cI, T.N, .inl T.st)), (T.a3, .inl (cI, T.N, .inl T.ln)), (T.a4, .inl (cI, T.N, .inl T.ki)), (T.a5, .inl (cI, T.N, .inl T.nx)), (T.a6, .inl (cI, T.N, .inl T.ns)), (T.a7, .inl (cI, T.N, .inl T.nl)), (T.a8, .inl (cI, T.N, .inl T.pa)), (T.a9, .inl (cI, T.N, .inl T.pl)), (T.au, .inl (cC, T.U, .inl T.un))]) (w1 := [(mo, .inr (13, MF 30 u2)), (qx, .inl (cB, NN, .inl f))]) hP hD [0, 1] [2, 3, 4, 5, 6, 7, 8, 9, 10, 11, 12, 13] rfl rfl (by decide) (by decide) hk1 hFc hP1 hD1
    generalize H1 = H at hP hS ⊢
    have hP : va_P (dC, dI) classes [(t, .inr (12, MF 13 (tw T))), (T.a0, .inl (cI, T.N, .inl T.kd)), (T.a1, .inl (cL, T.N, .inr (.inl T.nu))), (T.a2, .inl (cI, T.N, .inl T.st)), (T.a3, .inl (cI, T.N, .inl T.ln)), (T.a4, .inl (cI, T.N, .inl T.ki)), (T.a5, .inl (cI, T.N, .inl T.nx)), (T.a6, .inl (cI, T.N, .inl T.ns)), (T.a7, .inl (cI, T.N, .inl T.nl)), (T.a8, .inl (cI, T.N, .inl T.pa)), (T.a9, .inl (cI, T.N, .inl T.pl)), (T.au, .inl (cC, T.U, .inl T.un)), (mo, .inr (13, MF 30 u2)), (qx, .inl (cB, NN, .inl f))] H := hP
    have hD : va_D A [(t, .inr (12, MF 13 (tw T))), (T.a0, .inl (cI, T.N, .inl T.kd)), (T.a1, .inl (cL, T.N, .inr (.inl T.nu))), (T.a2, .inl (cI, T.N, .inl T.st)), (T.a3, .inl (cI, T.N, .inl T.ln)), (T.a4, .inl (cI, T.N, .inl T.ki)), (T.a5, .inl (cI, T.N, .inl T.nx)), (T.a6, .inl (cI, T.N, .inl T.ns)), (T.a7, .inl (cI, T.N, .inl T.nl)), (T.a8, .inl (cI, T.N, .inl T.pa)), (T.a9, .inl (cI, T.N, .inl T.pl)), (T.au, .inl (cC, T.U, .inl T.un)), (mo, .inr (13, MF 30 u2)), (qx, .inl (cB, NN, .inl f))] := hD
    have hP := hP.sub (ws' := [(mo, .inr (13, MF 30 u2)), (qx, .inl (cB, NN, .inl f)), (t, .inr (12, MF 13 (tw T))), (T.a0, .inl (cI, T.N, .inl T.kd)), (T.a1, .inl (cL, T.N, .inr (.inl T.nu))), (T.a2, .inl (cI, T.N, .inl T.st)), (T.a3, .inl (cI, T.N, .inl T.ln)), (T.a4, .inl (cI, T.N, .inl T.ki)), (T.a5, .inl (cI, T.N, .inl T.nx)), (T.a6, .inl (cI, T.N, .inl T.ns)), (T.a7, .inl (cI, T.N, .inl T.nl)), (T.a8, .inl (cI, T.N, .inl T.pa)), (T.a9, .inl (cI, T.N, .inl T.pl)), (T.au, .inl (cC, T.U, .inl T.un))]) [12, 13, 0, 1, 2, 3, 4, 5, 6, 7, 8, 9, 10, 11] rfl
    have hD := hD.sub (ws' := [(mo, .inr (13, MF 30 u2)), (qx, .inl (cB, NN, .inl f)), (t, .inr (12, MF 13 (tw T))), (T.a0, .inl (cI, T.N, .inl T.kd)), (T.a1, .inl (cL, T.N, .inr (.inl T.nu))), (T.a2, .inl (cI, T.N, .inl T.st)), (T.a3, .inl (cI, T.N, .inl T.ln)), (T.a4, .inl (cI, T.N, .inl T.ki)), (T.a5, .inl (cI, T.N, .inl T.nx)), (T.a6, .inl (cI, T.N, .inl T.ns)), (T.a7, .inl (cI, T.N, .inl T.nl)), (T.a8, .inl (cI, T.N, .inl T.pa)), (T.a9, .inl (cI, T.N, .inl T.pl)), (T.au, .inl (cC, T.U, .inl T.un))]) [12, 13, 0, 1, 2, 3, 4, 5, 6, 7, 8, 9, 10, 11] (by decide) rfl
    rcases hw with ⟨hw1, hw2, hw3⟩ | ⟨hw1, hw2, k9, hw3⟩
    · rw [rf_u7] at hw3
      rw [hw3] at hP hD
      subst hw2
      have hP : va_P (dC, dI) classes [(mo, .inr (13, MF 30 (rf v ((skipH f n i) + 4) br))), (qx, .inl (cB, NN, .inl f)), (t, .inr (12, MF 13 (tw T))), (T.a0, .inl (cI, T.N, .inl T.kd)), (T.a1, .inl (cL, T.N, .inr (.inl T.nu))), (T.a2, .inl (cI, T.N, .inl T.st)), (T.a3, .inl (cI, T.N, .inl T.ln)), (T.a4, .inl (cI, T.N, .inl T.ki)), (T.a5, .inl (cI, T.N, .inl T.nx)), (T.a6, .inl (cI, T.N, .inl T.ns)), (T.a7, .inl (cI, T.N, .inl T.nl)), (T.a8, .inl (cI, T.N, .inl T.pa)), (T.a9, .inl (cI, T.N, .inl T.pl)), (T.au, .inl (cC, T.U, .inl T.un))] H := hP
      have hD : va_D A [(mo, .inr (13, MF 30 (rf v ((skipH f n i) + 4) br))), (qx, .inl (cB, NN, .inl f)), (t, .inr (12, MF 13 (tw T))), (T.a0, .inl (cI, T.N, .inl T.kd)), (T.a1, .inl (cL, T.N, .inr (.inl T.nu))), (T.a2, .inl (cI, T.N, .inl T.st)), (T.a3, .inl (cI, T.N, .inl T.ln)), (T.a4, .inl (cI, T.N, .inl T.ki)), (T.a5, .inl (cI, T.N, .inl T.nx)), (T.a6, .inl (cI, T.N, .inl T.ns)), (T.a7, .inl (cI, T.N, .inl T.nl)), (T.a8, .inl (cI, T.N, .inl T.pa)), (T.a9, .inl (cI, T.N, .inl T.pl)), (T.au, .inl (cC, T.U, .inl T.un))] := hD
      have hwlt := mtch_le (k := 3) hw1 (by decide)
      refine lv_if_ne (tgt := 60) hx hb d_Mo_value_55 (by decide) (fun _ => ?_) (fun h => absurd h (by decide))
      refine lv_aload_n hx hb d_Mo_value_60 rfl (lv_at hl 2 rfl) ?_
      refine lv_iload_n hx hb d_Mo_value_61 rfl (lv_at hl 0 rfl) ?_
      refine lv_bipush (v := 110) hx hb d_Mo_value_62 (by decide) ?_
      refine lv_icmp_ne (tgt := 71) hx hb d_Mo_value_64 (by decide) (fun h => absurd h (fun q => q c12)) (fun _ => ?_)
      refine lv_iconst (v := 0) hx hb d_Mo_value_67 (by decide) ?_
      refine lv_goto (tgt := 82) hx hb d_Mo_value_68 (by decide) ?_
      have hPc := hP.sub (ws' := [(t, .inr (12, MF 13 (tw T))), (T.a0, .inl (cI, T.N, .inl T.kd)), (T.a1, .inl (cL, T.N, .inr (.inl T.nu))), (T.a2, .inl (cI, T.N, .inl T.st)), (T.a3, .inl (cI, T.N, .inl T.ln)), (T.a4, .inl (cI, T.N, .inl T.ki)), (T.a5, .inl (cI, T.N, .inl T.nx)), (T.a6, .inl (cI, T.N, .inl T.ns)), (T.a7, .inl (cI, T.N, .inl T.nl)), (T.a8, .inl (cI, T.N, .inl T.pa)), (T.a9, .inl (cI, T.N, .inl T.pl)), (T.au, .inl (cC, T.U, .inl T.un))]) [2, 3, 4, 5, 6, 7, 8, 9, 10, 11, 12, 13] rfl
      have hDc := hD.sub (ws' := [(t, .inr (12, MF 13 (tw T))), (T.a0, .inl (cI, T.N, .inl T.kd)), (T.a1, .inl (cL, T.N, .inr (.inl T.nu))), (T.a2, .inl (cI, T.N, .inl T.st)), (T.a3, .inl (cI, T.N, .inl T.ln)), (T.a4, .inl (cI, T.N, .inl T.ki)), (T.a5, .inl (cI, T.N, .inl T.nx)), (T.a6, .inl (cI, T.N, .inl T.ns)), (T.a7, .inl (cI, T.N, .inl T.nl)), (T.a8, .inl (cI, T.N, .inl T.pa)), (T.a9, .inl (cI, T.N, .inl T.pl)), (T.au, .inl (cC, T.U, .inl T.un))]) [2, 3, 4, 5, 6, 7, 8, 9, 10, 11, 12, 13] (by decide) rfl
      have hKc := hK.sub (tys' := [(cI, .int), (cL, .long), (cC, .char)]) [1, 2, 3] rfl
      have hFc := va_free (wc := [(t, .inr (12, MF 13 (tw T))), (T.a0, .inl (cI, T.N, .inl T.kd)), (T.a1, .inl (cL, T.N, .inr (.inl T.nu))), (T.a2, .inl (cI, T.N, .inl T.st)), (T.a3, .inl (cI, T.N, .inl T.ln)), (T.a4, .inl (cI, T.N, .inl T.ki)), (T.a5, .inl (cI, T.N, .inl T.nx)), (T.a6, .inl (cI, T.N, .inl T.ns)), (T.a7, .inl (cI, T.N, .inl T.nl)), (T.a8, .inl (cI, T.N, .inl T.pa)), (T.a9, .inl (cI, T.N, .inl T.pl)), (T.au, .inl (cC, T.U, .inl T.un))]) hD hS hA [2, 3, 4, 5, 6, 7, 8, 9, 10, 11, 12, 13] rfl
      refine w_same (fun hq0 => ?_)
      refine va_calli (va_runV (As := [.int 0]) (rest := []) ⟨hx, hb, hml, hown, hts⟩ (c_Tree_add l dC dI t H cI cL cC T 0 hTk_T) (cwV 1 hts (gt_V (own := R_Mo) (C := R_Tree) (i := 197) (y := y_Tree_add) i_Tree_add w_1254 w_1255 w_1256 w_8) rfl rfl rfl (by decide +kernel) ⟨Nat.le_of_ble_eq_true rfl, Nat.le_of_ble_eq_true rfl⟩) ⟨mp_blind, va_recv hKc hPc (ci := 12) (q0 := 0) rfl rfl, fun U hU hW => ⟨rfl, hU, by rw [hU]; exact hPc, va_K.moved hW.alike hKc, hDc.weaken (fun _ _ _ _ => trivial)⟩⟩ rfl rfl hl.1 rfl (lv_room (Nat.le_of_ble_eq_true rfl)) d_Mo_value_82 ⟨(TAd.fit hGB_T hTk_T (by omega)).1, (TAd.fit hGB_T hTk_T (by omega)).2⟩) hS (fun q _ h => hFc q h) hFc (fun r0 T1 t9 H1 locs ht hvm hw hB hz1 hk1 hS => ?_)
      obtain ⟨⟨hP1, hK1, hD1⟩, hz9⟩ := hB
      rw [ht] at hP1
      rw [ht] at hz9
      obtain ⟨hr0, hA_T1⟩ := hw
      have hA_T1 : TAd T T1 0 := hA_T1
      have hAg := hA_T1.gb hTk_T (by omega)
      obtain ⟨hGB_T1, hGc_T1, hGs_T1⟩ := hGB_T.tr hAg.1 (show T.ct + 1 ≤ (T.ct + (n + 12 - i)) by omega) (Nat.zero_le _)
      have hGc_T1 := Nat.le_trans (Nat.add_le_add_left hAg.2.1 _) hGc_T1
      have hGs_T1 := Nat.le_trans (Nat.add_le_add_left hAg.2.2 _) hGs_T1
      have hq1 : szk s.heap H1 (cE T T1) (sE T T1) := (hq0.trans hz9).mono hGc_T1 hGs_T1
      refine w_tight hq1 ?_
      obtain ⟨hP, hD⟩ := va_join (wr := [(mo, .inr (13, MF 30 (rf v ((skipH f n i) + 4) br))), (qx, .inl (cB, NN, .inl f))]) (w1 := [(t, .inr (12, MF 13 (tw T1))), (T1.a0, .inl (cI, T1.N, .inl T1.kd)), (T1.a1, .inl (cL, T1.N, .inr (.inl T1.nu))), (T1.a2, .inl (cI, T1.N, .inl T1.st)), (T1.a3, .inl (cI, T1.N, .inl T1.ln)), (T1.a4, .inl (cI, T1.N, .inl T1.ki)), (T1.a5, .inl (cI, T1.N, .inl T1.nx)), (T1.a6, .inl (cI, T1.N, .inl T1.ns)), (T1.a7, .inl (cI, T1.N, .inl T1.nl)), (T1.a8, .inl (cI, T1.N, .inl T1.pa)), (T1.a9, .inl (cI, T1.N, .inl T1.pl)), (T1.au, .inl (cC, T1.U, .inl T1.un))]) hP hD [2, 3, 4, 5, 6, 7, 8, 9, 10, 11, 12, 13] [0, 1] rfl rfl (by decide) (by decide) hk1 hFc hP1 hD1
      generalize H1 = H at hP hS ⊢
      have hP : va_P (dC, dI) classes [(mo, .inr (13, MF 30 (rf v ((skipH f n i) + 4) br))), (qx, .inl (cB, NN, .inl f)), (t, .inr (12, MF 13 (tw T1))), (T1.a0, .inl (cI, T1.N, .inl T1.kd)), (T1.a1, .inl (cL, T1.N, .inr (.inl T1.nu))), (T1.a2, .inl (cI, T1.N, .inl T1.st)), (T1.a3, .inl (cI, T1.N, .inl T1.ln)), (T1.a4, .inl (cI, T1.N, .inl T1.ki)), (T1.a5, .inl (cI, T1.N, .inl T1.nx)), (T1.a6, .inl (cI, T1.N, .inl T1.ns)), (T1.a7, .inl (cI, T1.N, .inl T1.nl)), (T1.a8, .inl (cI, T1.N, .inl T1.pa)), (T1.a9, .inl (cI, T1.N, .inl T1.pl)), (T1.au, .inl (cC, T1.U, .inl T1.un))] H := hP
      have hD : va_D A [(mo, .inr (13, MF 30 (rf v ((skipH f n i) + 4) br))), (qx, .inl (cB, NN, .inl f)), (t, .inr (12, MF 13 (tw T1))), (T1.a0, .inl (cI, T1.N, .inl T1.kd)), (T1.a1, .inl (cL, T1.N, .inr (.inl T1.nu))), (T1.a2, .inl (cI, T1.N, .inl T1.st)), (T1.a3, .inl (cI, T1.N, .inl T1.ln)), (T1.a4, .inl (cI, T1.N, .inl T1.ki)), (T1.a5, .inl (cI, T1.N, .inl T1.nx)), (T1.a6, .inl (cI, T1.N, .inl T1.ns)), (T1.a7, .inl (cI, T1.N, .inl T1.nl)), (T1.a8, .inl (cI, T1.N, .inl T1.pa)), (T1.a9, .inl (cI, T1.N, .inl T1.pl)), (T1.au, .inl (cC, T1.U, .inl T1.un))] := hD
      have hTk_T1 := (hA_T1.ok hTk_T (by omega)).1
      have hAc_T1 : T1.ct = T.ct + 1 ∧ T1.us = T.us := ⟨(hA_T1.ok hTk_T (by omega)).2.2.2.2.2.1, (hA_T1.ok hTk_T (by omega)).2.2.2.2.1⟩
      have hr0 : r0 = nI T.ct := hr0
      subst hr0
      have hfit_T1 := hGB_T1.fits
      refine lv_istore (lv' := [(4, .int (nI T.ct)), (3, .int r1), (0, .ref mo), (1, .ref t), (2, .int (nI (32 - 0)))]) hx hb d_Mo_value_85 hl (by decide) rfl (fun ls hl => ?_)
      refine lv_goto (tgt := 253) hx hb d_Mo_value_87 (by decide) ?_
      have hAA := hA_T1.2.2.2.2.2.2.2
      have hTEn := hA_T1.te
      have hRepn : RepL T1 T.ct (0, 0, []) := ⟨hAA.1, by show 0 ≤ 6; omega, fun h => absurd h (by show ¬ 0 = 3; omega), fun h => absurd h (by show ¬ 0 = 4; omega), fun _ => hAA.2.2.2.2.2.1⟩
      have hkin : T1.ki T.ct = -1 := hAA.2.1
      have hpan : T1.pa T.ct = -1 := hAA.2.2.2.1
      have hctn : T1.ct = T.ct + 1 := hAc_T1.1
      have husn : T1.us = T.us := hAc_T1.2
      have hpl : pLeaf f n (skipH f n i) = some ((0, 0, []), ((skipH f n i) + 4)) := by unfold pLeaf; rw [if_pos (h_r1.symm.trans c12), if_pos (mtB_iff.mpr hw1)]
      have hnc : ¬ (hereV f n (skipH f n i) = 91 ∨ hereV f n (skipH f n i) = 123) := fun h => by rw [← h_r1, c12] at h; revert h; decide
      refine lv_aload_n hx hb d_Mo_value_253 rfl (lv_at hl 2 rfl) ?_
      have hPc := hP.sub (ws' := [(mo, .inr (13, MF 30 (rf v ((skipH f n i) + 4) br))), (qx, .inl (cB, NN, .inl f))]) [0, 1] rfl
      have hDc := hD.sub (ws' := [(mo, .inr (13, MF 30 (rf v ((skipH f n i) + 4) br))), (qx, .inl (cB, NN, .inl f))]) [0, 1] (by decide) rfl
      have hKc := hK.sub (tys' := [(cB, .byte)]) [0] rfl
      have hFc := va_free (wc := [(mo, .inr (13, MF 30 (rf v ((skipH f n i) + 4) br))), (qx, .inl (cB, NN, .inl f))]) hD hS hA [0, 1] rfl
      refine va_callv (va_runV (As := []) (rest := []) ⟨hx, hb, hml, hown, hts⟩ (c_Mo_blanks l dC dI mo H (rf v ((skipH f n i) + 4) br) cB qx NN f n ((skipH f n i) + 4) (by omega) (by omega) (by omega) ((rf_ne (by decide) (by decide)).trans h6) rf_7 ((rf_ne (by decide) (by decide)).trans h8)) (cwV 0 hts (gt_V (own := R_Mo) (C := R_Mo) (i := 184) (y := y_Mo_blanks) i_Mo_blanks w_1229 w_1231 (gt_sel (y := y_Mo_blanks) (n := 30) (by decide +kernel)) w_7) rfl rfl rfl (by decide +kernel) ⟨Nat.le_of_ble_eq_true rfl, Nat.le_of_ble_eq_true rfl⟩) ⟨mp_blind, va_recv hKc hPc (ci := 13) (q0 := 0) rfl rfl, fun U hU hW => ⟨rfl, hU, by rw [hU]; exact hPc, va_K.moved hW.alike hKc, hDc.weaken (fun _ _ _ _ => trivial)⟩⟩ rfl rfl hl.1 rfl (lv_room (Nat.le_of_ble_eq_true rfl)) d_Mo_value_254 ⟨hfit_T1.1, hfit_T1.2⟩) hS (fun q _ h => hFc q h) hFc (fun _u t9 H1 locs ht hvm hw hB hz1 hk1 hS => ?_)
      obtain ⟨hP1, hK1, hD1⟩ := hB
      rw [ht] at hP1
      obtain ⟨hP, hD⟩ := va_join (wr := [(t, .inr (12, MF 13 (tw T1))), (T1.a0, .inl (cI, T1.N, .inl T1.kd)), (T1.a1, .inl (cL, T1.N, .inr (.inl T1.nu))), (T1.a2, .inl (cI, T1.N, .inl T1.st)), (T1.a3, .inl (cI, T1.N, .inl T1.ln)), (T1.a4, .inl (cI, T1.N, .inl T1.ki)), (T1.a5, .inl (cI, T1.N, .inl T1.nx)), (T1.a6, .inl (cI, T1.N, .inl T1.ns)), (T1.a7, .inl (cI, T1.N, .inl T1.nl)), (T1.a8, .inl (cI, T1.N, .inl T1.pa)), (T1.a9, .inl (cI, T1.N, .inl T1.pl)), (T1.au, .inl (cC, T1.U, .inl T1.un))]) (w1 := [(mo, .inr (13, MF 30 (va_up (rf v ((skipH f n i) + 4) br) 7 (.int (nI (skipH f n ((skipH f n i) + 4))))))), (qx, .inl (cB, NN, .inl f))]) hP hD [0, 1] [2, 3, 4, 5, 6, 7, 8, 9, 10, 11, 12, 13] rfl rfl (by decide) (by decide) hk1 hFc hP1 hD1
      generalize H1 = H at hP hS ⊢
      have hP : va_P (dC, dI) classes [(t, .inr (12, MF 13 (tw T1))), (T1.a0, .inl (cI, T1.N, .inl T1.kd)), (T1.a1, .inl (cL, T1.N, .inr (.inl T1.nu))), (T1.a2, .inl (cI, T1.N, .inl T1.st)), (T1.a3, .inl (cI, T1.N, .inl T1.ln)), (T1.a4, .inl (cI, T1.N, .inl T1.ki)), (T1.a5, .inl (cI, T1.N, .inl T1.nx)), (T1.a6, .inl (cI, T1.N, .inl T1.ns)), (T1.a7, .inl (cI, T1.N, .inl T1.nl)), (T1.a8, .inl (cI, T1.N, .inl T1.pa)), (T1.a9, .inl (cI, T1.N, .inl T1.pl)), (T1.au, .inl (cC, T1.U, .inl T1.un)), (mo, .inr (13, MF 30 (va_up (rf v ((skipH f n i) + 4) br) 7 (.int (nI (skipH f n ((skipH f n i) + 4))))))), (qx, .inl (cB, NN, .inl f))] H := hP
      have hD : va_D A [(t, .inr (12, MF 13 (tw T1))), (T1.a0, .inl (cI, T1.N, .inl T1.kd)), (T1.a1, .inl (cL, T1.N, .inr (.inl T1.nu))), (T1.a2, .inl (cI, T1.N, .inl T1.st)), (T1.a3, .inl (cI, T1.N, .inl T1.ln)), (T1.a4, .inl (cI, T1.N, .inl T1.ki)), (T1.a5, .inl (cI, T1.N, .inl T1.nx)), (T1.a6, .inl (cI, T1.N, .inl T1.ns)), (T1.a7, .inl (cI, T1.N, .inl T1.nl)), (T1.a8, .inl (cI, T1.N, .inl T1.pa)), (T1.a9, .inl (cI, T1.N, .inl T1.pl)), (T1.au, .inl (cC, T1.U, .inl T1.un)), (mo, .inr (13, MF 30 (va_up (rf v ((skipH f n i) + 4) br) 7 (.int (nI (skipH f n ((skipH f n i) + 4))))))), (qx, .inl (cB, NN, .inl f))] := hD
      have hP := hP.sub (ws' := [(mo, .inr (13, MF 30 (va_up (rf v ((skipH f n i) + 4) br) 7 (.int (nI (skipH f n ((skipH f n i) + 4))))))), (qx, .inl (cB, NN, .inl f)), (t, .inr (12, MF 13 (tw T1))), (T1.a0, .inl (cI, T1.N, .inl T1.kd)), (T1.a1, .inl (cL, T1.N, .inr (.inl T1.nu))), (T1.a2, .inl (cI, T1.N, .inl T1.st)), (T1.a3, .inl (cI, T1.N, .inl T1.ln)), (T1.a4, .inl (cI, T1.N, .inl T1.ki)), (T1.a5, .inl (cI, T1.N, .inl T1.nx)), (T1.a6, .inl (cI, T1.N, .inl T1.ns)), (T1.a7, .inl (cI, T1.N, .inl T1.nl)), (T1.a8, .inl (cI, T1.N, .inl T1.pa)), (T1.a9, .inl (cI, T1.N, .inl T1.pl)), (T1.au, .inl (cC, T1.U, .inl T1.un))]) [12, 13, 0, 1, 2, 3, 4, 5, 6, 7, 8, 9, 10, 11] rfl
      have hD := hD.sub (ws' := [(mo, .inr (13, MF 30 (va_up (rf v ((skipH f n i) + 4) br) 7 (.int (nI (skipH f n ((skipH f n i) + 4))))))), (qx, .inl (cB, NN, .inl f)), (t, .inr (12, MF 13 (tw T1))), (T1.a0, .inl (cI, T1.N, .inl T1.kd)), (T1.a1, .inl (cL, T1.N, .inr (.inl T1.nu))), (T1.a2, .inl (cI, T1.N, .inl T1.st)), (T1.a3, .inl (cI, T1.N, .inl T1.ln)), (T1.a4, .inl (cI, T1.N, .inl T1.ki)), (T1.a5, .inl (cI, T1.N, .inl T1.nx)), (T1.a6, .inl (cI, T1.N, .inl T1.ns)), (T1.a7, .inl (cI, T1.N, .inl T1.nl)), (T1.a8, .inl (cI, T1.N, .inl T1.pa)), (T1.a9, .inl (cI, T1.N, .inl T1.pl)), (T1.au, .inl (cC, T1.U, .inl T1.un))]) [12, 13, 0, 1, 2, 3, 4, 5, 6, 7, 8, 9, 10, 11] (by decide) rfl
      rw [rf_u7] at hP hD
      have hP : va_P (dC, dI) classes [(mo, .inr (13, MF 30 (rf v (skipH f n ((skipH f n i) + 4)) br))), (qx, .inl (cB, NN, .inl f)), (t, .inr (12, MF 13 (tw T1))), (T1.a0, .inl (cI, T1.N, .inl T1.kd)), (T1.a1, .inl (cL, T1.N, .inr (.inl T1.nu))), (T1.a2, .inl (cI, T1.N, .inl T1.st)), (T1.a3, .inl (cI, T1.N, .inl T1.ln)), (T1.a4, .inl (cI, T1.N, .inl T1.ki)), (T1.a5, .inl (cI, T1.N, .inl T1.nx)), (T1.a6, .inl (cI, T1.N, .inl T1.ns)), (T1.a7, .inl (cI, T1.N, .inl T1.nl)), (T1.a8, .inl (cI, T1.N, .inl T1.pa)), (T1.a9, .inl (cI, T1.N, .inl T1.pl)), (T1.au, .inl (cC, T1.U, .inl T1.un))] H := hP
      have hD : va_D A [(mo, .inr (13, MF 30 (rf v (skipH f n ((skipH f n i) + 4)) br))), (qx, .inl (cB, NN, .inl f)), (t, .inr (12, MF 13 (tw T1))), (T1.a0, .inl (cI, T1.N, .inl T1.kd)), (T1.a1, .inl (cL, T1.N, .inr (.inl T1.nu))), (T1.a2, .inl (cI, T1.N, .inl T1.st)), (T1.a3, .inl (cI, T1.N, .inl T1.ln)), (T1.a4, .inl (cI, T1.N, .inl T1.ki)), (T1.a5, .inl (cI, T1.N, .inl T1.nx)), (T1.a6, .inl (cI, T1.N, .inl T1.ns)), (T1.a7, .inl (cI, T1.N, .inl T1.nl)), (T1.a8, .inl (cI, T1.N, .inl T1.pa)), (T1.a9, .inl (cI, T1.N, .inl T1.pl)), (T1.au, .inl (cC, T1.U, .inl T1.un))] := hD
      have hsk_257 := skipH_n (f := f) (show ((skipH f n i) + 4) ≤ n by omega)
      refine lv_iload hx hb d_Mo_value_257 (lv_at hl 0 rfl) ?_
      have hpv : pV f n 0 i = some (jleaf 0 (0, 0, []), (skipH f n ((skipH f n i) + 4))) := by rw [pV_leaf _ hnc, hpl]; rfl
      have hRV : RepV T1 0 T.ct T1.ct (jleaf 0 (0, 0, [])) := leafRep hRepn (by decide) hkin hctn _
      refine w_same (fun hq => ?_)
      refine W.widen (k := ncap T (T.ct + (n + 12 - i)) + qcap T (T.us + (n + 12 - i))) (n := 20 * ncap T (T.ct + (n + 12 - i)) + 2 * qcap T (T.us + (n + 12 - i))) hfit_T1.1 hfit_T1.2 ?_
      have hTG : TG n i T T1 := ⟨hTk_T1, hGB_T1⟩
      exact W.iret (v := nI T.ct) hx hb hr (fun t9 ht hW => ⟨⟨nI T.ct, (T1, (skipH f n ((skipH f n i) + 4)), br), rfl, ⟨hTG, Or.inl ⟨(jleaf 0 (0, 0, [])), rfl, hpv, hRV, hTEn, hpan, by show T.ct < T1.ct; omega, by show T1.ct + i ≤ T.ct + (skipH f n ((skipH f n i) + 4)); omega, by show T1.us + i ≤ T.us + (skipH f n ((skipH f n i) + 4)); omega, by show (skipH f n ((skipH f n i) + 4)) ≤ n; omega⟩⟩, ⟨by rw [ht]; exact hP, va_K.moved hW.alike hK, hD⟩, by rw [ht]; exact hq⟩, hS.F ht⟩) hS.2.2 d_Mo_value_259
    · rw [rf_u7] at hw3
      obtain ⟨b5, h_b5⟩ := rf_fail (v := v) (i := k9) (br := br) (b2 := br) (wh := nI k9)
      rw [h_b5] at hw3
      rw [hw3] at hP hD
      subst hw2
      have hP : va_P (dC, dI) classes [(mo, .inr (13, MF 30 (rf v k9 b5))), (qx, .inl (cB, NN, .inl f)), (t, .inr (12, MF 13 (tw T))), (T.a0, .inl (cI, T.N, .inl T.kd)), (T.a1, .inl (cL, T.N, .inr (.inl T.nu))), (T.a2, .inl (cI, T.N, .inl T.st)), (T.a3, .inl (cI, T.N, .inl T.ln)), (T.a4, .inl (cI, T.N, .inl T.ki)), (T.a5, .inl (cI, T.N, .inl T.nx)), (T.a6, .inl (cI, T.N, .inl T.ns)), (T.a7, .inl (cI, T.N, .inl T.nl)), (T.a8, .inl (cI, T.N, .inl T.pa)), (T.a9, .inl (cI, T.N, .inl T.pl)), (T.au, .inl (cC, T.U, .inl T.un))] H := hP
      have hD : va_D A [(mo, .inr (13, MF 30 (rf v k9 b5))), (qx, .inl (cB, NN, .inl f)), (t, .inr (12, MF 13 (tw T))), (T.a0, .inl (cI, T.N, .inl T.kd)), (T.a1, .inl (cL, T.N, .inr (.inl T.nu))), (T.a2, .inl (cI, T.N, .inl T.st)), (T.a3, .inl (cI, T.N, .inl T.ln)), (T.a4, .inl (cI, T.N, .inl T.ki)), (T.a5, .inl (cI, T.N, .inl T.nx)), (T.a6, .inl (cI, T.N, .inl T.ns)), (T.a7, .inl (cI, T.N, .inl T.nl)), (T.a8, .inl (cI, T.N, .inl T.pa)), (T.a9, .inl (cI, T.N, .inl T.pl)), (T.au, .inl (cC, T.U, .inl T.un))] := hD
      refine lv_if_ne (tgt := 60) hx hb d_Mo_value_55 (by decide) (fun h => absurd h (by decide)) (fun _ => ?_)
      refine lv_iconst (v := (-1)) hx hb d_Mo_value_58 (by decide) ?_
      have hpl : pLeaf f n (skipH f n i) = none := by unfold pLeaf; rw [if_pos (h_r1.symm.trans c12), if_neg (fun h => hw1 (mtB_iff.mp h))]
      have hfin : pV f n 0 i = none := by rw [pV_leaf _ (fun h => by rw [← h_r1, c12] at h; revert h; decide), hpl]; rfl
      refine w_same (fun hq => ?_)
      refine W.widen (k := ncap T (T.ct + (n + 12 - i)) + qcap T (T.us + (n + 12 - i))) (n := 20 * ncap T (T.ct + (n + 12 - i)) + 2 * qcap T (T.us + (n + 12 - i))) hfit_T.1 hfit_T.2 ?_
      have hTG : TG n i T T := ⟨hTk_T, hGB_T⟩
      exact W.iret (v := -1) hx hb hr (fun t9 ht hW => ⟨⟨-1, (T, k9, b5), rfl, ⟨hTG, Or.inr ⟨rfl, hfin⟩⟩, ⟨by rw [ht]; exact hP, va_K.moved hW.alike hK, hD⟩, by rw [ht]; exact hq⟩, hS.F ht⟩) hS.2.2 d_Mo_value_59
  · refine lv_iload_n hx hb d_Mo_value_15 rfl (lv_at hl 0 rfl) ?_
    refine lv_bipush (v := 116) hx hb d_Mo_value_16 (by decide) ?_
    refine lv_icmp_eq (tgt := 27) hx hb d_Mo_value_18 (by decide) (fun c18 => ?_) (fun c18 => ?_)
    · refine lv_aload_n hx hb d_Mo_value_27 rfl (lv_at hl 1 rfl) ?_
      refine lv_iload_n hx hb d_Mo_value_28 rfl (lv_at hl 0 rfl) ?_
      refine lv_bipush (v := 110) hx hb d_Mo_value_29 (by decide) ?_
      refine lv_icmp_ne (tgt := 39) hx hb d_Mo_value_31 (by decide) (fun _ => ?_) (fun h => absurd h c12)
      refine lv_iload_n hx hb d_Mo_value_39 rfl (lv_at hl 0 rfl) ?_
      refine lv_bipush (v := 116) hx hb d_Mo_value_40 (by decide) ?_
      refine lv_icmp_ne (tgt := 50) hx hb d_Mo_value_42 (by decide) (fun h => absurd h (fun q => q c18)) (fun _ => ?_)
      refine va_ldcS hx hb hown (hM 2 _ rfl).2 d_Mo_value_45 ?_
      refine lv_goto (tgt := 52) hx hb d_Mo_value_47 (by decide) ?_
      have hE := (hM 2 _ rfl).1
      have hPc := hP.sub (ws' := [(mo, .inr (13, MF 30 (rf v (skipH f n i) br))), (qx, .inl (cB, NN, .inl f))]) [0, 1] rfl
      have hDc := hD.sub (ws' := [(mo, .inr (13, MF 30 (rf v (skipH f n i) br))), (qx, .inl (cB, NN, .inl f))]) [0, 1] (by decide) rfl
      have hKc := hK.sub (tys' := [(cB, .byte)]) [0] rfl
      have hFc := va_free (wc := [(mo, .inr (13, MF 30 (rf v (skipH f n i) br))), (qx, .inl (cB, NN, .inl f))]) hD hS hA [0, 1] rfl
      refine va_calli (va_runV (As := [.ref (K 2).1]) (rest := []) ⟨hx, hb, hml, hown, hts⟩ (c_Mo_wordS l dC dI mo H (rf v (skipH f n i) br) cB qx NN f (K 2).1 (K 2).2 4 (mtx 2) n (skipH f n i) (by omega) (by omega) (by omega) ((rf_ne (by decide) (by decide)).trans h6) rf_7 ((rf_ne (by decide) (by decide)).trans h8) br rf_9 (by decide)) (cwV 1 hts (gt_V (own := R_Mo) (C := R_Mo) (i := 193) (y := y_Mo_wordS) i_Mo_wordS w_1240 w_1242 (gt_sel (y := y_Mo_wordS) (n := 30) (by decide +kernel)) w_7) rfl rfl rfl (by decide +kernel) ⟨Nat.le_of_ble_eq_true rfl, Nat.le_of_ble_eq_true rfl⟩) ⟨mstr_blind, va_recv hKc hPc (ci := 13) (q0 := 0) rfl rfl, fun U hU hW => ⟨rfl, ⟨hU, by rw [hU]; exact hPc, va_K.moved hW.alike hKc, hDc.weaken (fun _ _ _ _ => trivial)⟩, by rw [hU]; exact SX.moved' hW.alike (SX.narrow' (SX.kept' hE hS.2.1) hFc)⟩⟩ rfl rfl hl.1 rfl (lv_room (Nat.le_of_ble_eq_true rfl)) d_Mo_value_52 ⟨hfit_T.1, hfit_T.2⟩) hS (fun q _ h => hFc q h) hFc (fun r0 u2 t9 H1 locs ht hvm hw hB hz1 hk1 hS => ?_)
      obtain ⟨hP1, hK1, hD1⟩ := hB
      rw [ht] at hP1
      obtain ⟨hP, hD⟩ := va_join (wr := [(t, .inr (12, MF 13 (tw T))), (T.a0, .inl (cI, T.N, .inl T.kd)), (T.a1, .inl (cL, T.N, .inr (.inl T.nu))), (T.a2, .inl (cI, T.N, .inl T.st)), (T.a3, .inl (cI, T.N, .inl T.ln)), (T.a4, .inl (cI, T.N, .inl T.ki)), (T.a5, .inl (cI, T.N, .inl T.nx)), (T.a6, .inl (cI, T.N, .inl T.ns)), (T.a7, .inl (cI, T.N, .inl T.nl)), (T.a8, .inl (cI, T.N, .inl T.pa)), (T.a9, .inl (cI, T.N, .inl T.pl)), (T.au, .inl (cC, T.U, .inl T.un))]) (w1 := [(mo, .inr (13, MF 30 u2)), (qx, .inl (cB, NN, .inl f))]) hP hD [0, 1] [2, 3, 4, 5, 6, 7, 8, 9, 10, 11, 12, 13] rfl rfl (by decide) (by decide) hk1 hFc hP1 hD1
      generalize H1 = H at hP hS ⊢
      have hP : va_P (dC, dI) classes [(t, .inr (12, MF 13 (tw T))), (T.a0, .inl (cI, T.N, .inl T.kd)), (T.a1, .inl (cL, T.N, .inr (.inl T.nu))), (T.a2, .inl (cI, T.N, .inl T.st)), (T.a3, .inl (cI, T.N, .inl T.ln)), (T.a4, .inl (cI, T.N, .inl T.ki)), (T.a5, .inl (cI, T.N, .inl T.nx)), (T.a6, .inl (cI, T.N, .inl T.ns)), (T.a7, .inl (cI, T.N, .inl T.nl)), (T.a8, .inl (cI, T.N, .inl T.pa)), (T.a9, .inl (cI, T.N, .inl T.pl)), (T.au, .inl (cC, T.U, .inl T.un)), (mo, .inr (13, MF 30 u2)), (qx, .inl (cB, NN, .inl f))] H := hP
      have hD : va_D A [(t, .inr (12, MF 13 (tw T))), (T.a0, .inl (cI, T.N, .inl T.kd)), (T.a1, .inl (cL, T.N, .inr (.inl T.nu))), (T.a2, .inl (cI, T.N, .inl T.st)), (T.a3, .inl (cI, T.N, .inl T.ln)), (T.a4, .inl (cI, T.N, .inl T.ki)), (T.a5, .inl (cI, T.N, .inl T.nx)), (T.a6, .inl (cI, T.N, .inl T.ns)), (T.a7, .inl (cI, T.N, .inl T.nl)), (T.a8, .inl (cI, T.N, .inl T.pa)), (T.a9, .inl (cI, T.N, .inl T.pl)), (T.au, .inl (cC, T.U, .inl T.un)), (mo, .inr (13, MF 30 u2)), (qx, .inl (cB, NN, .inl f))] := hD
      have hP := hP.sub (ws' := [(mo, .inr (13, MF 30 u2)), (qx, .inl (cB, NN, .inl f)), (t, .inr (12, MF 13 (tw T))), (T.a0, .inl (cI, T.N, .inl T.kd)), (T.a1, .inl (cL, T.N, .inr (.inl T.nu))), (T.a2, .inl (cI, T.N, .inl T.st)), (T.a3, .inl (cI, T.N, .inl T.ln)), (T.a4, .inl (cI, T.N, .inl T.ki)), (T.a5, .inl (cI, T.N, .inl T.nx)), (T.a6, .inl (cI, T.N, .inl T.ns)), (T.a7, .inl (cI, T.N, .inl T.nl)), (T.a8, .inl (cI, T.N, .inl T.pa)), (T.a9, .inl (cI, T.N, .inl T.pl)), (T.au, .inl (cC, T.U, .inl T.un))]) [12, 13, 0, 1, 2, 3, 4, 5, 6, 7, 8, 9, 10, 11] rfl
      have hD := hD.sub (ws' := [(mo, .inr (13, MF 30 u2)), (qx, .inl (cB, NN, .inl f)), (t, .inr (12, MF 13 (tw T))), (T.a0, .inl (cI, T.N, .inl T.kd)), (T.a1, .inl (cL, T.N, .inr (.inl T.nu))), (T.a2, .inl (cI, T.N, .inl T.st)), (T.a3, .inl (cI, T.N, .inl T.ln)), (T.a4, .inl (cI, T.N, .inl T.ki)), (T.a5, .inl (cI, T.N, .inl T.nx)), (T.a6, .inl (cI, T.N, .inl T.ns)), (T.a7, .inl (cI, T.N, .inl T.nl)), (T.a8, .inl (cI, T.N, .inl T.pa)), (T.a9, .inl (cI, T.N, .inl T.pl)), (T.au, .inl (cC, T.U, .inl T.un))]) [12, 13, 0, 1, 2, 3, 4, 5, 6, 7, 8, 9, 10, 11] (by decide) rfl
      rcases hw with ⟨hw1, hw2, hw3⟩ | ⟨hw1, hw2, k9, hw3⟩
      · rw [rf_u7] at hw3
        rw [hw3] at hP hD
        subst hw2
        have hP : va_P (dC, dI) classes [(mo, .inr (13, MF 30 (rf v ((skipH f n i) + 4) br))), (qx, .inl (cB, NN, .inl f)), (t, .inr (12, MF 13 (tw T))), (T.a0, .inl (cI, T.N, .inl T.kd)), (T.a1, .inl (cL, T.N, .inr (.inl T.nu))), (T.a2, .inl (cI, T.N, .inl T.st)), (T.a3, .inl (cI, T.N, .inl T.ln)), (T.a4, .inl (cI, T.N, .inl T.ki)), (T.a5, .inl (cI, T.N, .inl T.nx)), (T.a6, .inl (cI, T.N, .inl T.ns)), (T.a7, .inl (cI, T.N, .inl T.nl)), (T.a8, .inl (cI, T.N, .inl T.pa)), (T.a9, .inl (cI, T.N, .inl T.pl)), (T.au, .inl (cC, T.U, .inl T.un))] H := hP
        have hD : va_D A [(mo, .inr (13, MF 30 (rf v ((skipH f n i) + 4) br))), (qx, .inl (cB, NN, .inl f)), (t, .inr (12, MF 13 (tw T))), (T.a0, .inl (cI, T.N, .inl T.kd)), (T.a1, .inl (cL, T.N, .inr (.inl T.nu))), (T.a2, .inl (cI, T.N, .inl T.st)), (T.a3, .inl (cI, T.N, .inl T.ln)), (T.a4, .inl (cI, T.N, .inl T.ki)), (T.a5, .inl (cI, T.N, .inl T.nx)), (T.a6, .inl (cI, T.N, .inl T.ns)), (T.a7, .inl (cI, T.N, .inl T.nl)), (T.a8, .inl (cI, T.N, .inl T.pa)), (T.a9, .inl (cI, T.N, .inl T.pl)), (T.au, .inl (cC, T.U, .inl T.un))] := hD
        have hwlt := mtch_le (k := 3) hw1 (by decide)
        refine lv_if_ne (tgt := 60) hx hb d_Mo_value_55 (by decide) (fun _ => ?_) (fun h => absurd h (by decide))
        refine lv_aload_n hx hb d_Mo_value_60 rfl (lv_at hl 2 rfl) ?_
        refine lv_iload_n hx hb d_Mo_value_61 rfl (lv_at hl 0 rfl) ?_
        refine lv_bipush (v := 110) hx hb d_Mo_value_62 (by decide) ?_
        refine lv_icmp_ne (tgt := 71) hx hb d_Mo_value_64 (by decide) (fun _ => ?_) (fun h => absurd h c12)
        refine lv_iload_n hx hb d_Mo_value_71 rfl (lv_at hl 0 rfl) ?_
        refine lv_bipush (v := 116) hx hb d_Mo_value_72 (by decide) ?_
        refine lv_icmp_ne (tgt := 81) hx hb d_Mo_value_74 (by decide) (fun h => absurd h (fun q => q c18)) (fun _ => ?_)
        refine lv_iconst (v := 1) hx hb d_Mo_value_77 (by decide) ?_
        refine lv_goto (tgt := 82) hx hb d_Mo_value_78 (by decide) ?_
        have hPc := hP.sub (ws' := [(t, .inr (12, MF 13 (tw T))), (T.a0, .inl (cI, T.N, .inl T.kd)), (T.a1, .inl (cL, T.N, .inr (.inl T.nu))), (T.a2, .inl (cI, T.N, .inl T.st)), (T.a3, .inl (cI, T.N, .inl T.ln)), (T.a4, .inl (cI, T.N, .inl T.ki)), (T.a5, .inl (cI, T.N, .inl T.nx)), (T.a6, .inl (cI, T.N, .inl T.ns)), (T.a7, .inl (cI, T.N, .inl T.nl)), (T.a8, .inl (cI, T.N, .inl T.pa)), (T.a9, .inl (cI, T.N, .inl T.pl)), (T.au, .inl (cC, T.U, .inl T.un))]) [2, 3, 4, 5, 6, 7, 8, 9, 10, 11, 12, 13] rfl
        have hDc := hD.sub (ws' := [(t, .inr (12, MF 13 (tw T))), (T.a0, .inl (cI, T.N, .inl T.kd)), (T.a1, .inl (cL, T.N, .inr (.inl T.nu))), (T.a2, .inl (cI, T.N, .inl T.st)), (T.a3, .inl (cI, T.N, .inl T.ln)), (T.a4, .inl (cI, T.N, .inl T.ki)), (T.a5, .inl (cI, T.N, .inl T.nx)), (T.a6, .inl (cI, T.N, .inl T.ns)), (T.a7, .inl (cI, T.N, .inl T.nl)), (T.a8, .inl (cI, T.N, .inl T.pa)), (T.a9, .inl (cI, T.N, .inl T.pl)), (T.au, .inl (cC, T.U, .inl T.un))]) [2, 3, 4, 5, 6, 7, 8, 9, 10, 11, 12, 13] (by decide) rfl
        have hKc := hK.sub (tys' := [(cI, .int), (cL, .long), (cC, .char)]) [1, 2, 3] rfl
        have hFc := va_free (wc := [(t, .inr (12, MF 13 (tw T))), (T.a0, .inl (cI, T.N, .inl T.kd)), (T.a1, .inl (cL, T.N, .inr (.inl T.nu))), (T.a2, .inl (cI, T.N, .inl T.st)), (T.a3, .inl (cI, T.N, .inl T.ln)), (T.a4, .inl (cI, T.N, .inl T.ki)), (T.a5, .inl (cI, T.N, .inl T.nx)), (T.a6, .inl (cI, T.N, .inl T.ns)), (T.a7, .inl (cI, T.N, .inl T.nl)), (T.a8, .inl (cI, T.N, .inl T.pa)), (T.a9, .inl (cI, T.N, .inl T.pl)), (T.au, .inl (cC, T.U, .inl T.un))]) hD hS hA [2, 3, 4, 5, 6, 7, 8, 9, 10, 11, 12, 13] rfl
        refine w_same (fun hq0 => ?_)
        refine va_calli (va_runV (As := [.int 1]) (rest := []) ⟨hx, hb, hml, hown, hts⟩ (c_Tree_add l dC dI t H cI cL cC T 1 hTk_T) (cwV 1 hts (gt_V (own := R_Mo) (C := R_Tree) (i := 197) (y := y_Tree_add) i_Tree_add w_1254 w_1255 w_1256 w_8) rfl rfl rfl (by decide +kernel) ⟨Nat.le_of_ble_eq_true rfl, Nat.le_of_ble_eq_true rfl⟩) ⟨mp_blind, va_recv hKc hPc (ci := 12) (q0 := 0) rfl rfl, fun U hU hW => ⟨rfl, hU, by rw [hU]; exact hPc, va_K.moved hW.alike hKc, hDc.weaken (fun _ _ _ _ => trivial)⟩⟩ rfl rfl hl.1 rfl (lv_room (Nat.le_of_ble_eq_true rfl)) d_Mo_value_82 ⟨(TAd.fit hGB_T hTk_T (by omega)).1, (TAd.fit hGB_T hTk_T (by omega)).2⟩) hS (fun q _ h => hFc q h) hFc (fun r0 T1 t9 H1 locs ht hvm hw hB hz1 hk1 hS => ?_)
        obtain ⟨⟨hP1, hK1, hD1⟩, hz9⟩ := hB
        rw [ht] at hP1
        rw [ht] at hz9
        obtain ⟨hr0, hA_T1⟩ := hw
        have hA_T1 : TAd T T1 1 := hA_T1
        have hAg := hA_T1.gb hTk_T (by omega)
        obtain ⟨hGB_T1, hGc_T1, hGs_T1⟩ := hGB_T.tr hAg.1 (show T.ct + 1 ≤ (T.ct + (n + 12 - i)) by omega) (Nat.zero_le _)
        have hGc_T1 := Nat.le_trans (Nat.add_le_add_left hAg.2.1 _) hGc_T1
        have hGs_T1 := Nat.le_trans (Nat.add_le_add_left hAg.2.2 _) hGs_T1
        have hq1 : szk s.heap H1 (cE T T1) (sE T T1) := (hq0.trans hz9).mono hGc_T1 hGs_T1
        refine w_tight hq1 ?_
        obtain ⟨hP, hD⟩ := va_join (wr := [(mo, .inr (13, MF 30 (rf v ((skipH f n i) + 4) br))), (qx, .inl (cB, NN, .inl f))]) (w1 := [(t, .inr (12, MF 13 (tw T1))), (T1.a0, .inl (cI, T1.N, .inl T1.kd)), (T1.a1, .inl (cL, T1.N, .inr (.inl T1.nu))), (T1.a2, .inl (cI, T1.N, .inl T1.st)), (T1.a3, .inl (cI, T1.N, .inl T1.ln)), (T1.a4, .inl (cI, T1.N, .inl T1.ki)), (T1.a5, .inl (cI, T1.N, .inl T1.nx)), (T1.a6, .inl (cI, T1.N, .inl T1.ns)), (T1.a7, .inl (cI, T1.N, .inl T1.nl)), (T1.a8, .inl (cI, T1.N, .inl T1.pa)), (T1.a9, .inl (cI, T1.N, .inl T1.pl)), (T1.au, .inl (cC, T1.U, .inl T1.un))]) hP hD [2, 3, 4, 5, 6, 7, 8, 9, 10, 11, 12, 13] [0, 1] rfl rfl (by decide) (by decide) hk1 hFc hP1 hD1
        generalize H1 = H at hP hS ⊢
        have hP : va_P (dC, dI) classes [(mo, .inr (13, MF 30 (rf v ((skipH f n i) + 4) br))), (qx, .inl (cB, NN, .inl f)), (t, .inr (12, MF 13 (tw T1))), (T1.a0, .inl (cI, T1.N, .inl T1.kd)), (T1.a1, .inl (cL, T1.N, .inr (.inl T1.nu))), (T1.a2, .inl (cI, T1.N, .inl T1.st)), (T1.a3, .inl (cI, T1.N, .inl T1.ln)), (T1.a4, .inl (cI, T1.N, .inl T1.ki)), (T1.a5, .inl (cI, T1.N, .inl T1.nx)), (T1.a6, .inl (cI, T1.N, .inl T1.ns)), (T1.a7, .inl (cI, T1.N, .inl T1.nl)), (T1.a8, .inl (cI, T1.N, .inl T1.pa)), (T1.a9, .inl (cI, T1.N, .inl T1.pl)), (T1.au, .inl (cC, T1.U, .inl T1.un))] H := hP
        have hD : va_D A [(mo, .inr (13, MF 30 (rf v ((skipH f n i) + 4) br))), (qx, .inl (cB, NN, .inl f)), (t, .inr (12, MF 13 (tw T1))), (T1.a0, .inl (cI, T1.N, .inl T1.kd)), (T1.a1, .inl (cL, T1.N, .inr (.inl T1.nu))), (T1.a2, .inl (cI, T1.N, .inl T1.st)), (T1.a3, .inl (cI, T1.N, .inl T1.ln)), (T1.a4, .inl (cI, T1.N, .inl T1.ki)), (T1.a5, .inl (cI, T1.N, .inl T1.nx)), (T1.a6, .inl (cI, T1.N, .inl T1.ns)), (T1.a7, .inl (cI, T1.N, .inl T1.nl)), (T1.a8, .inl (cI, T1.N, .inl T1.pa)), (T1.a9, .inl (cI, T1.N, .inl T1.pl)), (T1.au, .inl (cC, T1.U, .inl T1.un))] := hD
        have hTk_T1 := (hA_T1.ok hTk_T (by omega)).1
        have hAc_T1 : T1.ct = T.ct + 1 ∧ T1.us = T.us := ⟨(hA_T1.ok hTk_T (by omega)).2.2.2.2.2.1, (hA_T1.ok hTk_T (by omega)).2.2.2.2.1⟩
        have hr0 : r0 = nI T.ct := hr0
        subst hr0
        have hfit_T1 := hGB_T1.fits
        refine lv_istore (lv' := [(4, .int (nI T.ct)), (3, .int r1), (0, .ref mo), (1, .ref t), (2, .int (nI (32 - 0)))]) hx hb d_Mo_value_85 hl (by decide) rfl (fun ls hl => ?_)
        refine lv_goto (tgt := 253) hx hb d_Mo_value_87 (by decide) ?_
        have hAA := hA_T1.2.2.2.2.2.2.2
        have hTEn := hA_T1.te
        have hRepn : RepL T1 T.ct (1, 0, []) := ⟨hAA.1, by show 1 ≤ 6; omega, fun h => absurd h (by show ¬ 1 = 3; omega), fun h => absurd h (by show ¬ 1 = 4; omega), fun _ => hAA.2.2.2.2.2.1⟩
        have hkin : T1.ki T.ct = -1 := hAA.2.1
        have hpan : T1.pa T.ct = -1 := hAA.2.2.2.1
        have hctn : T1.ct = T.ct + 1 := hAc_T1.1
        have husn : T1.us = T.us := hAc_T1.2
        have hpl : pLeaf f n (skipH f n i) = some ((1, 0, []), ((skipH f n i) + 4)) := by unfold pLeaf; rw [if_neg (fun h => c12 (h_r1.trans h)), if_pos (h_r1.symm.trans c18), if_pos (mtB_iff.mpr hw1)]
        have hnc : ¬ (hereV f n (skipH f n i) = 91 ∨ hereV f n (skipH f n i) = 123) := fun h => by rw [← h_r1, c18] at h; revert h; decide
        refine lv_aload_n hx hb d_Mo_value_253 rfl (lv_at hl 2 rfl) ?_
        have hPc := hP.sub (ws' := [(mo, .inr (13, MF 30 (rf v ((skipH f n i) + 4) br))), (qx, .inl (cB, NN, .inl f))]) [0, 1] rfl
        have hDc := hD.sub (ws' := [(mo, .inr (13, MF 30 (rf v ((skipH f n i) + 4) br))), (qx, .inl (cB, NN, .inl f))]) [0, 1] (by decide) rfl
        have hKc := hK.sub (tys' := [(cB, .byte)]) [0] rfl
        have hFc := va_free (wc := [(mo, .inr (13, MF 30 (rf v ((skipH f n i) + 4) br))), (qx, .inl (cB, NN, .inl f))]) hD hS hA [0, 1] rfl
        refine va_callv (va_runV (As := []) (rest := []) ⟨hx, hb, hml, hown, hts⟩ (c_Mo_blanks l dC dI mo H (rf v ((skipH f n i) + 4) br) cB qx NN f n ((skipH f n i) + 4) (by omega) (by omega) (by omega) ((rf_ne (by decide) (by decide)).trans h6) rf_7 ((rf_ne (by decide) (by decide)).trans h8)) (cwV 0 hts (gt_V (own := R_Mo) (C := R_Mo) (i := 184) (y := y_Mo_blanks) i_Mo_blanks w_1229 w_1231 (gt_sel (y := y_Mo_blanks) (n := 30) (by decide +kernel)) w_7) rfl rfl rfl (by decide +kernel) ⟨Nat.le_of_ble_eq_true rfl, Nat.le_of_ble_eq_true rfl⟩) ⟨mp_blind, va_recv hKc hPc (ci := 13) (q0 := 0) rfl rfl, fun U hU hW => ⟨rfl, hU, by rw [hU]; exact hPc, va_K.moved hW.alike hKc, hDc.weaken (fun _ _ _ _ => trivial)⟩⟩ rfl rfl hl.1 rfl (lv_room (Nat.le_of_ble_eq_true rfl)) d_Mo_value_254 ⟨hfit_T1.1, hfit_T1.2⟩) hS (fun q _ h => hFc q h) hFc (fun _u t9 H1 locs ht hvm hw hB hz1 hk1 hS => ?_)
        obtain ⟨hP1, hK1, hD1⟩ := hB
        rw [ht] at hP1
        obtain ⟨hP, hD⟩ := va_join (wr := [(t, .inr (12, MF 13 (tw T1))), (T1.a0, .inl (cI, T1.N, .inl T1.kd)), (T1.a1, .inl (cL, T1.N, .inr (.inl T1.nu))), (T1.a2, .inl (cI, T1.N, .inl T1.st)), (T1.a3, .inl (cI, T1.N, .inl T1.ln)), (T1.a4, .inl (cI, T1.N, .inl T1.ki)), (T1.a5, .inl (cI, T1.N, .inl T1.nx)), (T1.a6, .inl (cI, T1.N, .inl T1.ns)), (T1.a7, .inl (cI, T1.N, .inl T1.nl)), (T1.a8, .inl (cI, T1.N, .inl T1.pa)), (T1.a9, .inl (cI, T1.N, .inl T1.pl)), (T1.au, .inl (cC, T1.U, .inl T1.un))]) (w1 := [(mo, .inr (13, MF 30 (va_up (rf v ((skipH f n i) + 4) br) 7 (.int (nI (skipH f n ((skipH f n i) + 4))))))), (qx, .inl (cB, NN, .inl f))]) hP hD [0, 1] [2, 3, 4, 5, 6, 7, 8, 9, 10, 11, 12, 13] rfl rfl (by decide) (by decide) hk1 hFc hP1 hD1
        generalize H1 = H at hP hS ⊢
        have hP : va_P (dC, dI) classes [(t, .inr (12, MF 13 (tw T1))), (T1.a0, .inl (cI, T1.N, .inl T1.kd)), (T1.a1, .inl (cL, T1.N, .inr (.inl T1.nu))), (T1.a2, .inl (cI, T1.N, .inl T1.st)), (T1.a3, .inl (cI, T1.N, .inl T1.ln)), (T1.a4, .inl (cI, T1.N, .inl T1.ki)), (T1.a5, .inl (cI, T1.N, .inl T1.nx)), (T1.a6, .inl (cI, T1.N, .inl T1.ns)), (T1.a7, .inl (cI, T1.N, .inl T1.nl)), (T1.a8, .inl (cI, T1.N, .inl T1.pa)), (T1.a9, .inl (cI, T1.N, .inl T1.pl)), (T1.au, .inl (cC, T1.U, .inl T1.un)), (mo, .inr (13, MF 30 (va_up (rf v ((skipH f n i) + 4) br) 7 (.int (nI (skipH f n ((skipH f n i) + 4))))))), (qx, .inl (cB, NN, .inl f))] H := hP
        have hD : va_D A [(t, .inr (12, MF 13 (tw T1))), (T1.a0, .inl (cI, T1.N, .inl T1.kd)), (T1.a1, .inl (cL, T1.N, .inr (.inl T1.nu))), (T1.a2, .inl (cI, T1.N, .inl T1.st)), (T1.a3, .inl (cI, T1.N, .inl T1.ln)), (T1.a4, .inl (cI, T1.N, .inl T1.ki)), (T1.a5, .inl (cI, T1.N, .inl T1.nx)), (T1.a6, .inl (cI, T1.N, .inl T1.ns)), (T1.a7, .inl (cI, T1.N, .inl T1.nl)), (T1.a8, .inl (cI, T1.N, .inl T1.pa)), (T1.a9, .inl (cI, T1.N, .inl T1.pl)), (T1.au, .inl (cC, T1.U, .inl T1.un)), (mo, .inr (13, MF 30 (va_up (rf v ((skipH f n i) + 4) br) 7 (.int (nI (skipH f n ((skipH f n i) + 4))))))), (qx, .inl (cB, NN, .inl f))] := hD
        have hP := hP.sub (ws' := [(mo, .inr (13, MF 30 (va_up (rf v ((skipH f n i) + 4) br) 7 (.int (nI (skipH f n ((skipH f n i) + 4))))))), (qx, .inl (cB, NN, .inl f)), (t, .inr (12, MF 13 (tw T1))), (T1.a0, .inl (cI, T1.N, .inl T1.kd)), (T1.a1, .inl (cL, T1.N, .inr (.inl T1.nu))), (T1.a2, .inl (cI, T1.N, .inl T1.st)), (T1.a3, .inl (cI, T1.N, .inl T1.ln)), (T1.a4, .inl (cI, T1.N, .inl T1.ki)), (T1.a5, .inl (cI, T1.N, .inl T1.nx)), (T1.a6, .inl (cI, T1.N, .inl T1.ns)), (T1.a7, .inl (cI, T1.N, .inl T1.nl)), (T1.a8, .inl (cI, T1.N, .inl T1.pa)), (T1.a9, .inl (cI, T1.N, .inl T1.pl)), (T1.au, .inl (cC, T1.U, .inl T1.un))]) [12, 13, 0, 1, 2, 3, 4, 5, 6, 7, 8, 9, 10, 11] rfl
        have hD := hD.sub (ws' := [(mo, .inr (13, MF 30 (va_up (rf v ((skipH f n i) + 4) br) 7 (.int (nI (skipH f n ((skipH f n i) + 4))))))), (qx, .inl (cB, NN, .inl f)), (t, .inr (12, MF 13 (tw T1))), (T1.a0, .inl (cI, T1.N, .inl T1.kd)), (T1.a1, .inl (cL, T1.N, .inr (.inl T1.nu))), (T1.a2, .inl (cI, T1.N, .inl T1.st)), (T1.a3, .inl (cI, T1.N, .inl T1.ln)), (T1.a4, .inl (cI, T1.N, .inl T1.ki)), (T1.a5, .inl (cI, T1.N, .inl T1.nx)), (T1.a6, .inl (cI, T1.N, .inl T1.ns)), (T1.a7, .inl (cI, T1.N, .inl T1.nl)), (T1.a8, .inl (cI, T1.N, .inl T1.pa)), (T1.a9, .inl (cI, T1.N, .inl T1.pl)), (T1.au, .inl (cC, T1.U, .inl T1.un))]) [12, 13, 0, 1, 2, 3, 4, 5, 6, 7, 8, 9, 10, 11] (by decide) rfl
        rw [rf_u7] at hP hD
        have hP : va_P (dC, dI) classes [(mo, .inr (13, MF 30 (rf v (skipH f n ((skipH f n i) + 4)) br))), (qx, .inl (cB, NN, .inl f)), (t, .inr (12, MF 13 (tw T1))), (T1.a0, .inl (cI, T1.N, .inl T1.kd)), (T1.a1, .inl (cL, T1.N, .inr (.inl T1.nu))), (T1.a2, .inl (cI, T1.N, .inl T1.st)), (T1.a3, .inl (cI, T1.N, .inl T1.ln)), (T1.a4, .inl (cI, T1.N, .inl T1.ki)), (T1.a5, .inl (cI, T1.N, .inl T1.nx)), (T1.a6, .inl (cI, T1.N, .inl T1.ns)), (T1.a7, .inl (cI, T1.N, .inl T1.nl)), (T1.a8, .inl (cI, T1.N, .inl T1.pa)), (T1.a9, .inl (cI, T1.N, .inl T1.pl)), (T1.au, .inl (cC, T1.U, .inl T1.un))] H := hP
        have hD : va_D A [(mo, .inr (13, MF 30 (rf v (skipH f n ((skipH f n i) + 4)) br))), (qx, .inl (cB, NN, .inl f)), (t, .inr (12, MF 13 (tw T1))), (T1.a0, .inl (cI, T1.N, .inl T1.kd)), (T1.a1, .inl (cL, T1.N, .inr (.inl T1.nu))), (T1.a2, .inl (cI, T1.N, .inl T1.st)), (T1.a3, .inl (cI, T1.N, .inl T1.ln)), (T1.a4, .inl (cI, T1.N, .inl T1.ki)), (T1.a5, .inl (cI, T1.N, .inl T1.nx)), (T1.a6, .inl (cI, T1.N, .inl T1.ns)), (T1.a7, .inl (cI, T1.N, .inl T1.nl)), (T1.a8, .inl (cI, T1.N, .inl T1.pa)), (T1.a9, .inl (cI, T1.N, .inl T1.pl)), (T1.au, .inl (cC, T1.U, .inl T1.un))] := hD
        have hsk_257 := skipH_n (f := f) (show ((skipH f n i) + 4) ≤ n by omega)
        refine lv_iload hx hb d_Mo_value_257 (lv_at hl 0 rfl) ?_
        have hpv : pV f n 0 i = some (jleaf 0 (1, 0, []), (skipH f n ((skipH f n i) + 4))) := by rw [pV_leaf _ hnc, hpl]; rfl
        have hRV : RepV T1 0 T.ct T1.ct (jleaf 0 (1, 0, [])) := leafRep hRepn (by decide) hkin hctn _
        refine w_same (fun hq => ?_)
        refine W.widen (k := ncap T (T.ct + (n + 12 - i)) + qcap T (T.us + (n + 12 - i))) (n := 20 * ncap T (T.ct + (n + 12 - i)) + 2 * qcap T (T.us + (n + 12 - i))) hfit_T1.1 hfit_T1.2 ?_
        have hTG : TG n i T T1 := ⟨hTk_T1, hGB_T1⟩
        exact W.iret (v := nI T.ct) hx hb hr (fun t9 ht hW => ⟨⟨nI T.ct, (T1, (skipH f n ((skipH f n i) + 4)), br), rfl, ⟨hTG, Or.inl ⟨(jleaf 0 (1, 0, [])), rfl, hpv, hRV, hTEn, hpan, by show T.ct < T1.ct; omega, by show T1.ct + i ≤ T.ct + (skipH f n ((skipH f n i) + 4)); omega, by show T1.us + i ≤ T.us + (skipH f n ((skipH f n i) + 4)); omega, by show (skipH f n ((skipH f n i) + 4)) ≤ n; omega⟩⟩, ⟨by rw [ht]; exact hP, va_K.moved hW.alike hK, hD⟩, by rw [ht]; exact hq⟩, hS.F ht⟩) hS.2.2 d_Mo_value_259
      · rw [rf_u7] at hw3
        obtain ⟨b5, h_b5⟩ := rf_fail (v := v) (i := k9) (br := br) (b2 := br) (wh := nI k9)
        rw [h_b5] at hw3
        rw [hw3] at hP hD
        subst hw2
        have hP : va_P (dC, dI) classes [(mo, .inr (13, MF 30 (rf v k9 b5))), (qx, .inl (cB, NN, .inl f)), (t, .inr (12, MF 13 (tw T))), (T.a0, .inl (cI, T.N, .inl T.kd)), (T.a1, .inl (cL, T.N, .inr (.inl T.nu))), (T.a2, .inl (cI, T.N, .inl T.st)), (T.a3, .inl (cI, T.N, .inl T.ln)), (T.a4, .inl (cI, T.N, .inl T.ki)), (T.a5, .inl (cI, T.N, .inl T.nx)), (T.a6, .inl (cI, T.N, .inl T.ns)), (T.a7, .inl (cI, T.N, .inl T.nl)), (T.a8, .inl (cI, T.N, .inl T.pa)), (T.a9, .inl (cI, T.N, .inl T.pl)), (T.au, .inl (cC, T.U, .inl T.un))] H := hP
        have hD : va_D A [(mo, .inr (13, MF 30 (rf v k9 b5))), (qx, .inl (cB, NN, .inl f)), (t, .inr (12, MF 13 (tw T))), (T.a0, .inl (cI, T.N, .inl T.kd)), (T.a1, .inl (cL, T.N, .inr (.inl T.nu))), (T.a2, .inl (cI, T.N, .inl T.st)), (T.a3, .inl (cI, T.N, .inl T.ln)), (T.a4, .inl (cI, T.N, .inl T.ki)), (T.a5, .inl (cI, T.N, .inl T.nx)), (T.a6, .inl (cI, T.N, .inl T.ns)), (T.a7, .inl (cI, T.N, .inl T.nl)), (T.a8, .inl (cI, T.N, .inl T.pa)), (T.a9, .inl (cI, T.N, .inl T.pl)), (T.au, .inl (cC, T.U, .inl T.un))] := hD
        refine lv_if_ne (tgt := 60) hx hb d_Mo_value_55 (by decide) (fun h => absurd h (by decide)) (fun _ => ?_)
        refine lv_iconst (v := (-1)) hx hb d_Mo_value_58 (by decide) ?_
        have hpl : pLeaf f n (skipH f n i) = none := by unfold pLeaf; rw [if_neg (fun h => c12 (h_r1.trans h)), if_pos (h_r1.symm.trans c18), if_neg (fun h => hw1 (mtB_iff.mp h))]
        have hfin : pV f n 0 i = none := by rw [pV_leaf _ (fun h => by rw [← h_r1, c18] at h; revert h; decide), hpl]; rfl
        refine w_same (fun hq => ?_)
        refine W.widen (k := ncap T (T.ct + (n + 12 - i)) + qcap T (T.us + (n + 12 - i))) (n := 20 * ncap T (T.ct + (n + 12 - i)) + 2 * qcap T (T.us + (n + 12 - i))) hfit_T.1 hfit_T.2 ?_
        have hTG : TG n i T T := ⟨hTk_T, hGB_T⟩
        exact W.iret (v := -1) hx hb hr (fun t9 ht hW => ⟨⟨-1, (T, k9, b5), rfl, ⟨hTG, Or.inr ⟨rfl, hfin⟩⟩, ⟨by rw [ht]; exact hP, va_K.moved hW.alike hK, hD⟩, by rw [ht]; exact hq⟩, hS.F ht⟩) hS.2.2 d_Mo_value_59
    · refine lv_iload_n hx hb d_Mo_value_21 rfl (lv_at hl 0 rfl) ?_
      refine lv_bipush (v := 102) hx hb d_Mo_value_22 (by decide) ?_
      refine lv_icmp_ne (tgt := 90) hx hb d_Mo_value_24 (by decide) (fun c24 => ?_) (fun c24 => ?_)
      · refine lv_iload_n hx hb d_Mo_value_90 rfl (lv_at hl 0 rfl) ?_
        refine lv_bipush (v := 34) hx hb d_Mo_value_91 (by decide) ?_
        refine lv_icmp_ne (tgt := 137) hx hb d_Mo_value_93 (by decide) (fun c93 => ?_) (fun c93 => ?_)
        · refine lv_iload_n hx hb d_Mo_value_137 rfl (lv_at hl 0 rfl) ?_
          refine lv_bipush (v := 45) hx hb d_Mo_value_138 (by decide) ?_
          refine lv_icmp_eq (tgt := 150) hx hb d_Mo_value_140 (by decide) (fun c140 => ?_) (fun c140 => ?_)
          · refine lv_aload_n hx hb d_Mo_value_150 rfl (lv_at hl 2 rfl) ?_
            refine lv_iconst (v := 3) hx hb d_Mo_value_151 (by decide) ?_
            have hPc := hP.sub (ws' := [(t, .inr (12, MF 13 (tw T))), (T.a0, .inl (cI, T.N, .inl T.kd)), (T.a1, .inl (cL, T.N, .inr (.inl T.nu))), (T.a2, .inl (cI, T.N, .inl T.st)), (T.a3, .inl (cI, T.N, .inl T.ln)), (T.a4, .inl (cI, T.N, .inl T.ki)), (T.a5, .inl (cI, T.N, .inl T.nx)), (T.a6, .inl (cI, T.N, .inl T.ns)), (T.a7, .inl (cI, T.N, .inl T.nl)), (T.a8, .inl (cI, T.N, .inl T.pa)), (T.a9, .inl (cI, T.N, .inl T.pl)), (T.au, .inl (cC, T.U, .inl T.un))]) [2, 3, 4, 5, 6, 7, 8, 9, 10, 11, 12, 13] rfl
            have hDc := hD.sub (ws' := [(t, .inr (12, MF 13 (tw T))), (T.a0, .inl (cI, T.N, .inl T.kd)), (T.a1, .inl (cL, T.N, .inr (.inl T.nu))), (T.a2, .inl (cI, T.N, .inl T.st)), (T.a3, .inl (cI, T.N, .inl T.ln)), (T.a4, .inl (cI, T.N, .inl T.ki)), (T.a5, .inl (cI, T.N, .inl T.nx)), (T.a6, .inl (cI, T.N, .inl T.ns)), (T.a7, .inl (cI, T.N, .inl T.nl)), (T.a8, .inl (cI, T.N, .inl T.pa)), (T.a9, .inl (cI, T.N, .inl T.pl)), (T.au, .inl (cC, T.U, .inl T.un))]) [2, 3, 4, 5, 6, 7, 8, 9, 10, 11, 12, 13] (by decide) rfl
            have hKc := hK.sub (tys' := [(cI, .int), (cL, .long), (cC, .char)]) [1, 2, 3] rfl
            have hFc := va_free (wc := [(t, .inr (12, MF 13 (tw T))), (T.a0, .inl (cI, T.N, .inl T.kd)), (T.a1, .inl (cL, T.N, .inr (.inl T.nu))), (T.a2, .inl (cI, T.N, .inl T.st)), (T.a3, .inl (cI, T.N, .inl T.ln)), (T.a4, .inl (cI, T.N, .inl T.ki)), (T.a5, .inl (cI, T.N, .inl T.nx)), (T.a6, .inl (cI, T.N, .inl T.ns)), (T.a7, .inl (cI, T.N, .inl T.nl)), (T.a8, .inl (cI, T.N, .inl T.pa)), (T.a9, .inl (cI, T.N, .inl T.pl)), (T.au, .inl (cC, T.U, .inl T.un))]) hD hS hA [2, 3, 4, 5, 6, 7, 8, 9, 10, 11, 12, 13] rfl
            refine w_same (fun hq0 => ?_)
            refine va_calli (va_runV (As := [.int 3]) (rest := []) ⟨hx, hb, hml, hown, hts⟩ (c_Tree_add l dC dI t H cI cL cC T 3 hTk_T) (cwV 1 hts (gt_V (own := R_Mo) (C := R_Tree) (i := 197) (y := y_Tree_add) i_Tree_add w_1254 w_1255 w_1256 w_8) rfl rfl rfl (by decide +kernel) ⟨Nat.le_of_ble_eq_true rfl, Nat.le_of_ble_eq_true rfl⟩) ⟨mp_blind, va_recv hKc hPc (ci := 12) (q0 := 0) rfl rfl, fun U hU hW => ⟨rfl, hU, by rw [hU]; exact hPc, va_K.moved hW.alike hKc, hDc.weaken (fun _ _ _ _ => trivial)⟩⟩ rfl rfl hl.1 rfl (lv_room (Nat.le_of_ble_eq_true rfl)) d_Mo_value_152 ⟨(TAd.fit hGB_T hTk_T (by omega)).1, (TAd.fit hGB_T hTk_T (by omega)).2⟩) hS (fun q _ h => hFc q h) hFc (fun r0 T1 t9 H1 locs ht hvm hw hB hz1 hk1 hS => ?_)
            obtain ⟨⟨hP1, hK1, hD1⟩, hz9⟩ := hB
            rw [ht] at hP1
            rw [ht] at hz9
            obtain ⟨hr0, hA_T1⟩ := hw
            have hA_T1 : TAd T T1 3 := hA_T1
            have hAg := hA_T1.gb hTk_T (by omega)
            obtain ⟨hGB_T1, hGc_T1, hGs_T1⟩ := hGB_T.tr hAg.1 (show T.ct + 1 ≤ (T.ct + (n + 12 - i)) by omega) (Nat.zero_le _)
            have hGc_T1 := Nat.le_trans (Nat.add_le_add_left hAg.2.1 _) hGc_T1
            have hGs_T1 := Nat.le_trans (Nat.add_le_add_left hAg.2.2 _) hGs_T1
            have hq1 : szk s.heap H1 (cE T T1) (sE T T1) := (hq0.trans hz9).mono hGc_T1 hGs_T1
            refine w_tight hq1 ?_
            obtain ⟨hP, hD⟩ := va_join (wr := [(mo, .inr (13, MF 30 (rf v (skipH f n i) br))), (qx, .inl (cB, NN, .inl f))]) (w1 := [(t, .inr (12, MF 13 (tw T1))), (T1.a0, .inl (cI, T1.N, .inl T1.kd)), (T1.a1, .inl (cL, T1.N, .inr (.inl T1.nu))), (T1.a2, .inl (cI, T1.N, .inl T1.st)), (T1.a3, .inl (cI, T1.N, .inl T1.ln)), (T1.a4, .inl (cI, T1.N, .inl T1.ki)), (T1.a5, .inl (cI, T1.N, .inl T1.nx)), (T1.a6, .inl (cI, T1.N, .inl T1.ns)), (T1.a7, .inl (cI, T1.N, .inl T1.nl)), (T1.a8, .inl (cI, T1.N, .inl T1.pa)), (T1.a9, .inl (cI, T1.N, .inl T1.pl)), (T1.au, .inl (cC, T1.U, .inl T1.un))]) hP hD [2, 3, 4, 5, 6, 7, 8, 9, 10, 11, 12, 13] [0, 1] rfl rfl (by decide) (by decide) hk1 hFc hP1 hD1
            generalize H1 = H at hP hS ⊢
            have hP : va_P (dC, dI) classes [(mo, .inr (13, MF 30 (rf v (skipH f n i) br))), (qx, .inl (cB, NN, .inl f)), (t, .inr (12, MF 13 (tw T1))), (T1.a0, .inl (cI, T1.N, .inl T1.kd)), (T1.a1, .inl (cL, T1.N, .inr (.inl T1.nu))), (T1.a2, .inl (cI, T1.N, .inl T1.st)), (T1.a3, .inl (cI, T1.N, .inl T1.ln)), (T1.a4, .inl (cI, T1.N, .inl T1.ki)), (T1.a5, .inl (cI, T1.N, .inl T1.nx)), (T1.a6, .inl (cI, T1.N, .inl T1.ns)), (T1.a7, .inl (cI, T1.N, .inl T1.nl)), (T1.a8, .inl (cI, T1.N, .inl T1.pa)), (T1.a9, .inl (cI, T1.N, .inl T1.pl)), (T1.au, .inl (cC, T1.U, .inl T1.un))] H := hP
            have hD : va_D A [(mo, .inr (13, MF 30 (rf v (skipH f n i) br))), (qx, .inl (cB, NN, .inl f)), (t, .inr (12, MF 13 (tw T1))), (T1.a0, .inl (cI, T1.N, .inl T1.kd)), (T1.a1, .inl (cL, T1.N, .inr (.inl T1.nu))), (T1.a2, .inl (cI, T1.N, .inl T1.st)), (T1.a3, .inl (cI, T1.N, .inl T1.ln)), (T1.a4, .inl (cI, T1.N, .inl T1.ki)), (T1.a5, .inl (cI, T1.N, .inl T1.nx)), (T1.a6, .inl (cI, T1.N, .inl T1.ns)), (T1.a7, .inl (cI, T1.N, .inl T1.nl)), (T1.a8, .inl (cI, T1.N, .inl T1.pa)), (T1.a9, .inl (cI, T1.N, .inl T1.pl)), (T1.au, .inl (cC, T1.U, .inl T1.un))] := hD
            have hTk_T1 := (hA_T1.ok hTk_T (by omega)).1
            have hAc_T1 : T1.ct = T.ct + 1 ∧ T1.us = T.us := ⟨(hA_T1.ok hTk_T (by omega)).2.2.2.2.2.1, (hA_T1.ok hTk_T (by omega)).2.2.2.2.1⟩
            have hr0 : r0 = nI T.ct := hr0
            subst hr0
            have hfit_T1 := hGB_T1.fits
            refine lv_istore (lv' := [(4, .int (nI T.ct)), (3, .int r1), (0, .ref mo), (1, .ref t), (2, .int (nI (32 - 0)))]) hx hb d_Mo_value_155 hl (by decide) rfl (fun ls hl => ?_)
            refine lv_aload_n hx hb d_Mo_value_157 rfl (lv_at hl 2 rfl) ?_
            refine lv_aload_n hx hb d_Mo_value_158 rfl (lv_at hl 3 rfl) ?_
            refine lv_iload hx hb d_Mo_value_159 (lv_at hl 0 rfl) ?_
            have hPc := hP.sub (ws' := [(mo, .inr (13, MF 30 (rf v (skipH f n i) br))), (qx, .inl (cB, NN, .inl f)), (t, .inr (12, MF 13 (tw T1))), (T1.a1, .inl (cL, T1.N, .inr (.inl T1.nu)))]) [0, 1, 2, 4] rfl
            have hDc := hD.sub (ws' := [(mo, .inr (13, MF 30 (rf v (skipH f n i) br))), (qx, .inl (cB, NN, .inl f)), (t, .inr (12, MF 13 (tw T1))), (T1.a1, .inl (cL, T1.N, .inr (.inl T1.nu)))]) [0, 1, 2, 4] (by decide) rfl
            have hKc := hK.sub (tys' := [(cB, .byte), (cL, .long)]) [0, 2] rfl
            have hFc := va_free (wc := [(mo, .inr (13, MF 30 (rf v (skipH f n i) br))), (qx, .inl (cB, NN, .inl f)), (t, .inr (12, MF 13 (tw T1))), (T1.a1, .inl (cL, T1.N, .inr (.inl T1.nu)))]) hD hS hA [0, 1, 2, 4] rfl
            refine va_calli (va_runV (As := [.ref t, .int (nI T.ct)]) (rest := []) ⟨hx, hb, hml, hown, hts⟩ (c_Mo_numberT l dC dI mo H v cB cL qx NN f n t T1 (skipH f n i) br hnN hNN (by omega) h6 h8 hTk_T1 T.ct (by omega)) (cwV 2 hts (gt_V (own := R_Mo) (C := R_Mo) (i := 207) (y := y_Mo_numberT) i_Mo_numberT w_1339 w_1341 (gt_sel (y := y_Mo_numberT) (n := 30) (by decide +kernel)) w_7) rfl rfl rfl (by decide +kernel) ⟨Nat.le_of_ble_eq_true rfl, Nat.le_of_ble_eq_true rfl⟩) ⟨mp_blind, va_recv hKc hPc (ci := 13) (q0 := 0) rfl rfl, fun U hU hW => ⟨rfl, hU, by rw [hU]; exact hPc, va_K.moved hW.alike hKc, hDc.weaken (fun _ _ _ _ => trivial)⟩⟩ rfl rfl hl.1 rfl (lv_room (Nat.le_of_ble_eq_true rfl)) d_Mo_value_161 ⟨hfit_T1.1, hfit_T1.2⟩) hS (fun q _ h => hFc q h) hFc (fun r0 ⟨j2, b2, nu2⟩ t9 H1 locs ht hvm hw hB hz1 hk1 hS => ?_)
            obtain ⟨hP1, hK1, hD1⟩ := hB
            rw [ht] at hP1
            obtain ⟨hP, hD⟩ := va_join (wr := [(T1.a0, .inl (cI, T1.N, .inl T1.kd)), (T1.a2, .inl (cI, T1.N, .inl T1.st)), (T1.a3, .inl (cI, T1.N, .inl T1.ln)), (T1.a4, .inl (cI, T1.N, .inl T1.ki)), (T1.a5, .inl (cI, T1.N, .inl T1.nx)), (T1.a6, .inl (cI, T1.N, .inl T1.ns)), (T1.a7, .inl (cI, T1.N, .inl T1.nl)), (T1.a8, .inl (cI, T1.N, .inl T1.pa)), (T1.a9, .inl (cI, T1.N, .inl T1.pl)), (T1.au, .inl (cC, T1.U, .inl T1.un))]) (w1 := [(mo, .inr (13, MF 30 (rf v j2 b2))), (qx, .inl (cB, NN, .inl f)), (t, .inr (12, MF 13 (tw T1))), (T1.a1, .inl (cL, T1.N, .inr (.inl nu2)))]) hP hD [0, 1, 2, 4] [3, 5, 6, 7, 8, 9, 10, 11, 12, 13] rfl rfl (by decide) (by decide) hk1 hFc hP1 hD1
            generalize H1 = H at hP hS ⊢
            have hP : va_P (dC, dI) classes [(T1.a0, .inl (cI, T1.N, .inl T1.kd)), (T1.a2, .inl (cI, T1.N, .inl T1.st)), (T1.a3, .inl (cI, T1.N, .inl T1.ln)), (T1.a4, .inl (cI, T1.N, .inl T1.ki)), (T1.a5, .inl (cI, T1.N, .inl T1.nx)), (T1.a6, .inl (cI, T1.N, .inl T1.ns)), (T1.a7, .inl (cI, T1.N, .inl T1.nl)), (T1.a8, .inl (cI, T1.N, .inl T1.pa)), (T1.a9, .inl (cI, T1.N, .inl T1.pl)), (T1.au, .inl (cC, T1.U, .inl T1.un)), (mo, .inr (13, MF 30 (rf v j2 b2))), (qx, .inl (cB, NN, .inl f)), (t, .inr (12, MF 13 (tw T1))), (T1.a1, .inl (cL, T1.N, .inr (.inl nu2)))] H := hP
            have hD : va_D A [(T1.a0, .inl (cI, T1.N, .inl T1.kd)), (T1.a2, .inl (cI, T1.N, .inl T1.st)), (T1.a3, .inl (cI, T1.N, .inl T1.ln)), (T1.a4, .inl (cI, T1.N, .inl T1.ki)), (T1.a5, .inl (cI, T1.N, .inl T1.nx)), (T1.a6, .inl (cI, T1.N, .inl T1.ns)), (T1.a7, .inl (cI, T1.N, .inl T1.nl)), (T1.a8, .inl (cI, T1.N, .inl T1.pa)), (T1.a9, .inl (cI, T1.N, .inl T1.pl)), (T1.au, .inl (cC, T1.U, .inl T1.un)), (mo, .inr (13, MF 30 (rf v j2 b2))), (qx, .inl (cB, NN, .inl f)), (t, .inr (12, MF 13 (tw T1))), (T1.a1, .inl (cL, T1.N, .inr (.inl nu2)))] := hD
            have hP := hP.sub (ws' := [(mo, .inr (13, MF 30 (rf v j2 b2))), (qx, .inl (cB, NN, .inl f)), (t, .inr (12, MF 13 (tw T1))), (T1.a0, .inl (cI, T1.N, .inl T1.kd)), (T1.a1, .inl (cL, T1.N, .inr (.inl nu2))), (T1.a2, .inl (cI, T1.N, .inl T1.st)), (T1.a3, .inl (cI, T1.N, .inl T1.ln)), (T1.a4, .inl (cI, T1.N, .inl T1.ki)), (T1.a5, .inl (cI, T1.N, .inl T1.nx)), (T1.a6, .inl (cI, T1.N, .inl T1.ns)), (T1.a7, .inl (cI, T1.N, .inl T1.nl)), (T1.a8, .inl (cI, T1.N, .inl T1.pa)), (T1.a9, .inl (cI, T1.N, .inl T1.pl)), (T1.au, .inl (cC, T1.U, .inl T1.un))]) [10, 11, 12, 0, 13, 1, 2, 3, 4, 5, 6, 7, 8, 9] rfl
            have hD := hD.sub (ws' := [(mo, .inr (13, MF 30 (rf v j2 b2))), (qx, .inl (cB, NN, .inl f)), (t, .inr (12, MF 13 (tw T1))), (T1.a0, .inl (cI, T1.N, .inl T1.kd)), (T1.a1, .inl (cL, T1.N, .inr (.inl nu2))), (T1.a2, .inl (cI, T1.N, .inl T1.st)), (T1.a3, .inl (cI, T1.N, .inl T1.ln)), (T1.a4, .inl (cI, T1.N, .inl T1.ki)), (T1.a5, .inl (cI, T1.N, .inl T1.nx)), (T1.a6, .inl (cI, T1.N, .inl T1.ns)), (T1.a7, .inl (cI, T1.N, .inl T1.nl)), (T1.a8, .inl (cI, T1.N, .inl T1.pa)), (T1.a9, .inl (cI, T1.N, .inl T1.pl)), (T1.au, .inl (cC, T1.U, .inl T1.un))]) [10, 11, 12, 0, 13, 1, 2, 3, 4, 5, 6, 7, 8, 9] (by decide) rfl
            rcases hw with ⟨hw1, val, hw2, hw3, hw4⟩ | ⟨hw1, hw2, hw3, hw4⟩
            · have hw3 : nu2 = vp_updL T1.nu T.ct val := hw3
              have hw4 : j2 ≤ n := hw4
              have hw2 : numM f n (skipH f n i) = some (val, j2) := hw2
              subst hw3
              subst hw1
              obtain ⟨T2, e_T2⟩ : ∃ z : TS, z = (TS.mk T1.N T1.U T1.ct T1.us T1.a0 T1.a1 T1.a2 T1.a3 T1.a4 T1.a5 T1.a6 T1.a7 T1.a8 T1.a9 T1.au T1.kd T1.st T1.ln T1.ki T1.nx T1.ns T1.nl T1.pa T1.pl T1.un (vp_updL T1.nu T.ct val)) := ⟨_, rfl⟩
              have hP : va_P (dC, dI) classes [(mo, .inr (13, MF 30 (rf v j2 b2))), (qx, .inl (cB, NN, .inl f)), (t, .inr (12, MF 13 (tw T2))), (T2.a0, .inl (cI, T2.N, .inl T2.kd)), (T2.a1, .inl (cL, T2.N, .inr (.inl T2.nu))), (T2.a2, .inl (cI, T2.N, .inl T2.st)), (T2.a3, .inl (cI, T2.N, .inl T2.ln)), (T2.a4, .inl (cI, T2.N, .inl T2.ki)), (T2.a5, .inl (cI, T2.N, .inl T2.nx)), (T2.a6, .inl (cI, T2.N, .inl T2.ns)), (T2.a7, .inl (cI, T2.N, .inl T2.nl)), (T2.a8, .inl (cI, T2.N, .inl T2.pa)), (T2.a9, .inl (cI, T2.N, .inl T2.pl)), (T2.au, .inl (cC, T2.U, .inl T2.un))] H := by subst e_T2; exact hP
              have hD : va_D A [(mo, .inr (13, MF 30 (rf v j2 b2))), (qx, .inl (cB, NN, .inl f)), (t, .inr (12, MF 13 (tw T2))), (T2.a0, .inl (cI, T2.N, .inl T2.kd)), (T2.a1, .inl (cL, T2.N, .inr (.inl T2.nu))), (T2.a2, .inl (cI, T2.N, .inl T2.st)), (T2.a3, .inl (cI, T2.N, .inl T2.ln)), (T2.a4, .inl (cI, T2.N, .inl T2.ki)), (T2.a5, .inl (cI, T2.N, .inl T2.nx)), (T2.a6, .inl (cI, T2.N, .inl T2.ns)), (T2.a7, .inl (cI, T2.N, .inl T2.nl)), (T2.a8, .inl (cI, T2.N, .inl T2.pa)), (T2.a9, .inl (cI, T2.N, .inl T2.pl)), (T2.au, .inl (cC, T2.U, .inl T2.un))] := by subst e_T2; exact hD
              have hT2 : T2.N = T1.N ∧ T2.U = T1.U ∧ T2.ct = T1.ct ∧ T2.us = T1.us ∧ T2.un = T1.un ∧ T2.kd = T1.kd ∧ T2.nu = vp_updL T1.nu T.ct val ∧ T2.st = T1.st ∧ T2.ln = T1.ln ∧ T2.pa = T1.pa ∧ T2.ki = T1.ki ∧ T2.nx = T1.nx ∧ T2.ns = T1.ns ∧ T2.nl = T1.nl := by rw [e_T2]; exact ⟨rfl, rfl, rfl, rfl, rfl, rfl, rfl, rfl, rfl, rfl, rfl, rfl, rfl, rfl⟩
              obtain ⟨g1, g2, g3, g4, g5, g6, g7, g8, g9, g10, g11, g12, g13, g14⟩ := hT2
              have hTk_T2 : TOK T2 := by obtain ⟨q1, q2, q3, q4, q5, q6, q7⟩ := hTk_T1; exact ⟨by omega, by omega, by omega, by omega, by omega, by omega, by rw [g5]; exact q7⟩
              refine w_same (fun hq => ?_)
              refine w_tight (k := cE T T2) (n := sE T T2) (by unfold cE sE at hq ⊢; rw [g1, g2]; exact hq) ?_
              have hGB_T2 : GB (T.ct + (n + 12 - i)) (T.us + (n + 12 - i)) T T2 := by unfold GB at hGB_T1 ⊢; rw [g1, g2]; exact hGB_T1
              have hfit_T2 := hGB_T2.fits
              have hAA := hA_T1.2.2.2.2.2.2.2
              have hTEn : TE T T2 := TE_of hA_T1.te g3 g4 g5 (fun j9 h9 => ⟨by rw [g6], by rw [g7]; exact if_neg (by omega), by rw [g8], by rw [g9], by rw [g11], by rw [g12], by rw [g13], by rw [g14], by rw [g10]⟩)
              have hRepn : RepL T2 T.ct (3, val, []) := ⟨by rw [g6]; exact hAA.1, by show 3 ≤ 6; omega, fun _ => by rw [g7]; exact pk_uLs, fun h => absurd h (by show ¬ 3 = 4; omega), fun _ => by rw [g9]; exact hAA.2.2.2.2.2.1⟩
              have hkin : T2.ki T.ct = -1 := by rw [g11]; exact hAA.2.1
              have hpan : T2.pa T.ct = -1 := by rw [g10]; exact hAA.2.2.2.1
              have hctn : T2.ct = T.ct + 1 := by omega
              have husn : T2.us = T.us := by omega
              have hnu45 : hereV f n (skipH f n i) = 45 ∨ digH (hereV f n (skipH f n i)) := by rw [← h_r1]; exact Or.inl c140
              have hnlt := numM_lt hw2
              have hpl : pLeaf f n (skipH f n i) = some ((3, val, []), j2) := by unfold pLeaf; rw [if_neg (fun h => c12 (h_r1.trans h)), if_neg (fun h => c18 (h_r1.trans h)), if_neg (fun h => c24 (h_r1.trans h)), if_neg (fun h => c93 (h_r1.trans h)), if_pos hnu45, hw2]
              have hnc : ¬ (hereV f n (skipH f n i) = 91 ∨ hereV f n (skipH f n i) = 123) := fun h => by rcases h with h | h <;> rw [h] at hnu45 <;> revert hnu45 <;> decide
              refine lv_if_ne (tgt := 253) hx hb d_Mo_value_164 (by decide) (fun _ => ?_) (fun h => absurd h (by decide))
              refine lv_aload_n hx hb d_Mo_value_253 rfl (lv_at hl 2 rfl) ?_
              have hPc := hP.sub (ws' := [(mo, .inr (13, MF 30 (rf v j2 b2))), (qx, .inl (cB, NN, .inl f))]) [0, 1] rfl
              have hDc := hD.sub (ws' := [(mo, .inr (13, MF 30 (rf v j2 b2))), (qx, .inl (cB, NN, .inl f))]) [0, 1] (by decide) rfl
              have hKc := hK.sub (tys' := [(cB, .byte)]) [0] rfl
              have hFc := va_free (wc := [(mo, .inr (13, MF 30 (rf v j2 b2))), (qx, .inl (cB, NN, .inl f))]) hD hS hA [0, 1] rfl
              refine va_callv (va_runV (As := []) (rest := []) ⟨hx, hb, hml, hown, hts⟩ (c_Mo_blanks l dC dI mo H (rf v j2 b2) cB qx NN f n j2 (by omega) (by omega) (by omega) ((rf_ne (by decide) (by decide)).trans h6) rf_7 ((rf_ne (by decide) (by decide)).trans h8)) (cwV 0 hts (gt_V (own := R_Mo) (C := R_Mo) (i := 184) (y := y_Mo_blanks) i_Mo_blanks w_1229 w_1231 (gt_sel (y := y_Mo_blanks) (n := 30) (by decide +kernel)) w_7) rfl rfl rfl (by decide +kernel) ⟨Nat.le_of_ble_eq_true rfl, Nat.le_of_ble_eq_true rfl⟩) ⟨mp_blind, va_recv hKc hPc (ci := 13) (q0 := 0) rfl rfl, fun U hU hW => ⟨rfl, hU, by rw [hU]; exact hPc, va_K.moved hW.alike hKc, hDc.weaken (fun _ _ _ _ => trivial)⟩⟩ rfl rfl hl.1 rfl (lv_room (Nat.le_of_ble_eq_true rfl)) d_Mo_value_254 ⟨hfit_T2.1, hfit_T2.2⟩) hS (fun q _ h => hFc q h) hFc (fun _u t9 H1 locs ht hvm hw hB hz1 hk1 hS => ?_)
              obtain ⟨hP1, hK1, hD1⟩ := hB
              rw [ht] at hP1
              obtain ⟨hP, hD⟩ := va_join (wr := [(t, .inr (12, MF 13 (tw T2))), (T2.a0, .inl (cI, T2.N, .inl T2.kd)), (T2.a1, .inl (cL, T2.N, .inr (.inl T2.nu))), (T2.a2, .inl (cI, T2.N, .inl T2.st)), (T2.a3, .inl (cI, T2.N, .inl T2.ln)), (T2.a4, .inl (cI, T2.N, .inl T2.ki)), (T2.a5, .inl (cI, T2.N, .inl T2.nx)), (T2.a6, .inl (cI, T2.N, .inl T2.ns)), (T2.a7, .inl (cI, T2.N, .inl T2.nl)), (T2.a8, .inl (cI, T2.N, .inl T2.pa)), (T2.a9, .inl (cI, T2.N, .inl T2.pl)), (T2.au, .inl (cC, T2.U, .inl T2.un))]) (w1 := [(mo, .inr (13, MF 30 (va_up (rf v j2 b2) 7 (.int (nI (skipH f n j2)))))), (qx, .inl (cB, NN, .inl f))]) hP hD [0, 1] [2, 3, 4, 5, 6, 7, 8, 9, 10, 11, 12, 13] rfl rfl (by decide) (by decide) hk1 hFc hP1 hD1
              generalize H1 = H at hP hS ⊢
              have hP : va_P (dC, dI) classes [(t, .inr (12, MF 13 (tw T2))), (T2.a0, .inl (cI, T2.N, .inl T2.kd)), (T2.a1, .inl (cL, T2.N, .inr (.inl T2.nu))), (T2.a2, .inl (cI, T2.N, .inl T2.st)), (T2.a3, .inl (cI, T2.N, .inl T2.ln)), (T2.a4, .inl (cI, T2.N, .inl T2.ki)), (T2.a5, .inl (cI, T2.N, .inl T2.nx)), (T2.a6, .inl (cI, T2.N, .inl T2.ns)), (T2.a7, .inl (cI, T2.N, .inl T2.nl)), (T2.a8, .inl (cI, T2.N, .inl T2.pa)), (T2.a9, .inl (cI, T2.N, .inl T2.pl)), (T2.au, .inl (cC, T2.U, .inl T2.un)), (mo, .inr (13, MF 30 (va_up (rf v j2 b2) 7 (.int (nI (skipH f n j2)))))), (qx, .inl (cB, NN, .inl f))] H := hP
              have hD : va_D A [(t, .inr (12, MF 13 (tw T2))), (T2.a0, .inl (cI, T2.N, .inl T2.kd)), (T2.a1, .inl (cL, T2.N, .inr (.inl T2.nu))), (T2.a2, .inl (cI, T2.N, .inl T2.st)), (T2.a3, .inl (cI, T2.N, .inl T2.ln)), (T2.a4, .inl (cI, T2.N, .inl T2.ki)), (T2.a5, .inl (cI, T2.N, .inl T2.nx)), (T2.a6, .inl (cI, T2.N, .inl T2.ns)), (T2.a7, .inl (cI, T2.N, .inl T2.nl)), (T2.a8, .inl (cI, T2.N, .inl T2.pa)), (T2.a9, .inl (cI, T2.N, .inl T2.pl)), (T2.au, .inl (cC, T2.U, .inl T2.un)), (mo, .inr (13, MF 30 (va_up (rf v j2 b2) 7 (.int (nI (skipH f n j2)))))), (qx, .inl (cB, NN, .inl f))] := hD
              have hP := hP.sub (ws' := [(mo, .inr (13, MF 30 (va_up (rf v j2 b2) 7 (.int (nI (skipH f n j2)))))), (qx, .inl (cB, NN, .inl f)), (t, .inr (12, MF 13 (tw T2))), (T2.a0, .inl (cI, T2.N, .inl T2.kd)), (T2.a1, .inl (cL, T2.N, .inr (.inl T2.nu))), (T2.a2, .inl (cI, T2.N, .inl T2.st)), (T2.a3, .inl (cI, T2.N, .inl T2.ln)), (T2.a4, .inl (cI, T2.N, .inl T2.ki)), (T2.a5, .inl (cI, T2.N, .inl T2.nx)), (T2.a6, .inl (cI, T2.N, .inl T2.ns)), (T2.a7, .inl (cI, T2.N, .inl T2.nl)), (T2.a8, .inl (cI, T2.N, .inl T2.pa)), (T2.a9, .inl (cI, T2.N, .inl T2.pl)), (T2.au, .inl (cC, T2.U, .inl T2.un))]) [12, 13, 0, 1, 2, 3, 4, 5, 6, 7, 8, 9, 10, 11] rfl
              have hD := hD.sub (ws' := [(mo, .inr (13, MF 30 (va_up (rf v j2 b2) 7 (.int (nI (skipH f n j2)))))), (qx, .inl (cB, NN, .inl f)), (t, .inr (12, MF 13 (tw T2))), (T2.a0, .inl (cI, T2.N, .inl T2.kd)), (T2.a1, .inl (cL, T2.N, .inr (.inl T2.nu))), (T2.a2, .inl (cI, T2.N, .inl T2.st)), (T2.a3, .inl (cI, T2.N, .inl T2.ln)), (T2.a4, .inl (cI, T2.N, .inl T2.ki)), (T2.a5, .inl (cI, T2.N, .inl T2.nx)), (T2.a6, .inl (cI, T2.N, .inl T2.ns)), (T2.a7, .inl (cI, T2.N, .inl T2.nl)), (T2.a8, .inl (cI, T2.N, .inl T2.pa)), (T2.a9, .inl (cI, T2.N, .inl T2.pl)), (T2.au, .inl (cC, T2.U, .inl T2.un))]) [12, 13, 0, 1, 2, 3, 4, 5, 6, 7, 8, 9, 10, 11] (by decide) rfl
              rw [rf_u7] at hP hD
              have hP : va_P (dC, dI) classes [(mo, .inr (13, MF 30 (rf v (skipH f n j2) b2))), (qx, .inl (cB, NN, .inl f)), (t, .inr (12, MF 13 (tw T2))), (T2.a0, .inl (cI, T2.N, .inl T2.kd)), (T2.a1, .inl (cL, T2.N, .inr (.inl T2.nu))), (T2.a2, .inl (cI, T2.N, .inl T2.st)), (T2.a3, .inl (cI, T2.N, .inl T2.ln)), (T2.a4, .inl (cI, T2.N, .inl T2.ki)), (T2.a5, .inl (cI, T2.N, .inl T2.nx)), (T2.a6, .inl (cI, T2.N, .inl T2.ns)), (T2.a7, .inl (cI, T2.N, .inl T2.nl)), (T2.a8, .inl (cI, T2.N, .inl T2.pa)), (T2.a9, .inl (cI, T2.N, .inl T2.pl)), (T2.au, .inl (cC, T2.U, .inl T2.un))] H := hP
              have hD : va_D A [(mo, .inr (13, MF 30 (rf v (skipH f n j2) b2))), (qx, .inl (cB, NN, .inl f)), (t, .inr (12, MF 13 (tw T2))), (T2.a0, .inl (cI, T2.N, .inl T2.kd)), (T2.a1, .inl (cL, T2.N, .inr (.inl T2.nu))), (T2.a2, .inl (cI, T2.N, .inl T2.st)), (T2.a3, .inl (cI, T2.N, .inl T2.ln)), (T2.a4, .inl (cI, T2.N, .inl T2.ki)), (T2.a5, .inl (cI, T2.N, .inl T2.nx)), (T2.a6, .inl (cI, T2.N, .inl T2.ns)), (T2.a7, .inl (cI, T2.N, .inl T2.nl)), (T2.a8, .inl (cI, T2.N, .inl T2.pa)), (T2.a9, .inl (cI, T2.N, .inl T2.pl)), (T2.au, .inl (cC, T2.U, .inl T2.un))] := hD
              have hsk_257 := skipH_n (f := f) (show j2 ≤ n by omega)
              refine lv_iload hx hb d_Mo_value_257 (lv_at hl 0 rfl) ?_
              have hpv : pV f n 0 i = some (jleaf 0 (3, val, []), (skipH f n j2)) := by rw [pV_leaf _ hnc, hpl]; rfl
              have hRV : RepV T2 0 T.ct T2.ct (jleaf 0 (3, val, [])) := leafRep hRepn (by show (3 : Nat) < 5; omega) hkin hctn _
              refine w_same (fun hq => ?_)
              refine W.widen (k := ncap T (T.ct + (n + 12 - i)) + qcap T (T.us + (n + 12 - i))) (n := 20 * ncap T (T.ct + (n + 12 - i)) + 2 * qcap T (T.us + (n + 12 - i))) hfit_T2.1 hfit_T2.2 ?_
              have hTG : TG n i T T2 := ⟨hTk_T2, hGB_T2⟩
              exact W.iret (v := nI T.ct) hx hb hr (fun t9 ht hW => ⟨⟨nI T.ct, (T2, (skipH f n j2), b2), rfl, ⟨hTG, Or.inl ⟨(jleaf 0 (3, val, [])), rfl, hpv, hRV, hTEn, hpan, by show T.ct < T2.ct; omega, by show T2.ct + i ≤ T.ct + (skipH f n j2); omega, by show T2.us + i ≤ T.us + (skipH f n j2); omega, by show (skipH f n j2) ≤ n; omega⟩⟩, ⟨by rw [ht]; exact hP, va_K.moved hW.alike hK, hD⟩, by rw [ht]; exact hq⟩, hS.F ht⟩) hS.2.2 d_Mo_value_259
            · have hw3 : nu2 = T1.nu := hw3
              subst hw3
              subst hw1
              have hP : va_P (dC, dI) classes [(mo, .inr (13, MF 30 (rf v j2 b2))), (qx, .inl (cB, NN, .inl f)), (t, .inr (12, MF 13 (tw T1))), (T1.a0, .inl (cI, T1.N, .inl T1.kd)), (T1.a1, .inl (cL, T1.N, .inr (.inl T1.nu))), (T1.a2, .inl (cI, T1.N, .inl T1.st)), (T1.a3, .inl (cI, T1.N, .inl T1.ln)), (T1.a4, .inl (cI, T1.N, .inl T1.ki)), (T1.a5, .inl (cI, T1.N, .inl T1.nx)), (T1.a6, .inl (cI, T1.N, .inl T1.ns)), (T1.a7, .inl (cI, T1.N, .inl T1.nl)), (T1.a8, .inl (cI, T1.N, .inl T1.pa)), (T1.a9, .inl (cI, T1.N, .inl T1.pl)), (T1.au, .inl (cC, T1.U, .inl T1.un))] H := hP
              have hD : va_D A [(mo, .inr (13, MF 30 (rf v j2 b2))), (qx, .inl (cB, NN, .inl f)), (t, .inr (12, MF 13 (tw T1))), (T1.a0, .inl (cI, T1.N, .inl T1.kd)), (T1.a1, .inl (cL, T1.N, .inr (.inl T1.nu))), (T1.a2, .inl (cI, T1.N, .inl T1.st)), (T1.a3, .inl (cI, T1.N, .inl T1.ln)), (T1.a4, .inl (cI, T1.N, .inl T1.ki)), (T1.a5, .inl (cI, T1.N, .inl T1.nx)), (T1.a6, .inl (cI, T1.N, .inl T1.ns)), (T1.a7, .inl (cI, T1.N, .inl T1.nl)), (T1.a8, .inl (cI, T1.N, .inl T1.pa)), (T1.a9, .inl (cI, T1.N, .inl T1.pl)), (T1.au, .inl (cC, T1.U, .inl T1.un))] := hD
              have hnu45 : hereV f n (skipH f n i) = 45 ∨ digH (hereV f n (skipH f n i)) := by rw [← h_r1]; exact Or.inl c140
              refine lv_if_ne (tgt := 253) hx hb d_Mo_value_164 (by decide) (fun h => absurd h (by decide)) (fun _ => ?_)
              refine lv_iconst (v := (-1)) hx hb d_Mo_value_167 (by decide) ?_
              have hpl : pLeaf f n (skipH f n i) = none := by unfold pLeaf; rw [if_neg (fun h => c12 (h_r1.trans h)), if_neg (fun h => c18 (h_r1.trans h)), if_neg (fun h => c24 (h_r1.trans h)), if_neg (fun h => c93 (h_r1.trans h)), if_pos hnu45, hw2]
              have hfin : pV f n 0 i = none := by rw [pV_leaf _ (fun h => by rcases h with h | h <;> rw [h] at hnu45 <;> revert hnu45 <;> decide), hpl]; rfl
              refine w_same (fun hq => ?_)
              refine W.widen (k := ncap T (T.ct + (n + 12 - i)) + qcap T (T.us + (n + 12 - i))) (n := 20 * ncap T (T.ct + (n + 12 - i)) + 2 * qcap T (T.us + (n + 12 - i))) hfit_T1.1 hfit_T1.2 ?_
              have hTG : TG n i T T1 := ⟨hTk_T1, hGB_T1⟩
              exact W.iret (v := -1) hx hb hr (fun t9 ht hW => ⟨⟨-1, (T1, j2, b2), rfl, ⟨hTG, Or.inr ⟨rfl, hfin⟩⟩, ⟨by rw [ht]; exact hP, va_K.moved hW.alike hK, hD⟩, by rw [ht]; exact hq⟩, hS.F ht⟩) hS.2.2 d_Mo_value_168
          · refine lv_iload_n hx hb d_Mo_value_143 rfl (lv_at hl 0 rfl) ?_
            have hPc := hP.sub (ws' := []) [] rfl
            have hDc := hD.sub (ws' := []) [] (by decide) rfl
            have hKc := hK.sub (tys' := []) [] rfl
            have hFc := va_free (wc := []) hD hS hA [] rfl
            refine va_calli (va_runS (As := [.int r1]) (rest := []) ⟨hx, hb, hml, hown, hts⟩ (c_Mo_digit l dC dI H r1) (va_cwS 1 hts (gt_S (own := R_Mo) (i := 166) (y := y_Mo_digit) i_Mo_digit w_1332 w_1333 w_7) rfl rfl rfl (by decide +kernel) ⟨Nat.le_of_ble_eq_true rfl, Nat.le_of_ble_eq_true rfl⟩) ⟨mp_blind, fun U hU hW => ⟨rfl, hU, by rw [hU]; exact hPc, va_K.moved hW.alike hKc, hDc.weaken (fun _ _ _ _ => trivial)⟩⟩ rfl rfl hl.1 rfl (lv_room (Nat.le_of_ble_eq_true rfl)) d_Mo_value_144 ⟨hfit_T.1, hfit_T.2⟩) hS (fun q _ h => hFc q h) hFc (fun d1 _u t9 H1 locs ht hvm hw hB hz1 hk1 hS => ?_)
            obtain ⟨hP1, hK1, hD1⟩ := hB
            rw [ht] at hP1
            obtain ⟨hP, hD⟩ := va_join (wr := [(mo, .inr (13, MF 30 (rf v (skipH f n i) br))), (qx, .inl (cB, NN, .inl f)), (t, .inr (12, MF 13 (tw T))), (T.a0, .inl (cI, T.N, .inl T.kd)), (T.a1, .inl (cL, T.N, .inr (.inl T.nu))), (T.a2, .inl (cI, T.N, .inl T.st)), (T.a3, .inl (cI, T.N, .inl T.ln)), (T.a4, .inl (cI, T.N, .inl T.ki)), (T.a5, .inl (cI, T.N, .inl T.nx)), (T.a6, .inl (cI, T.N, .inl T.ns)), (T.a7, .inl (cI, T.N, .inl T.nl)), (T.a8, .inl (cI, T.N, .inl T.pa)), (T.a9, .inl (cI, T.N, .inl T.pl)), (T.au, .inl (cC, T.U, .inl T.un))]) (w1 := []) hP hD [] [0, 1, 2, 3, 4, 5, 6, 7, 8, 9, 10, 11, 12, 13] rfl rfl (by decide) (by decide) hk1 hFc hP1 hD1
            generalize H1 = H at hP hS ⊢
            have hP : va_P (dC, dI) classes [(mo, .inr (13, MF 30 (rf v (skipH f n i) br))), (qx, .inl (cB, NN, .inl f)), (t, .inr (12, MF 13 (tw T))), (T.a0, .inl (cI, T.N, .inl T.kd)), (T.a1, .inl (cL, T.N, .inr (.inl T.nu))), (T.a2, .inl (cI, T.N, .inl T.st)), (T.a3, .inl (cI, T.N, .inl T.ln)), (T.a4, .inl (cI, T.N, .inl T.ki)), (T.a5, .inl (cI, T.N, .inl T.nx)), (T.a6, .inl (cI, T.N, .inl T.ns)), (T.a7, .inl (cI, T.N, .inl T.nl)), (T.a8, .inl (cI, T.N, .inl T.pa)), (T.a9, .inl (cI, T.N, .inl T.pl)), (T.au, .inl (cC, T.U, .inl T.un))] H := hP
            have hD : va_D A [(mo, .inr (13, MF 30 (rf v (skipH f n i) br))), (qx, .inl (cB, NN, .inl f)), (t, .inr (12, MF 13 (tw T))), (T.a0, .inl (cI, T.N, .inl T.kd)), (T.a1, .inl (cL, T.N, .inr (.inl T.nu))), (T.a2, .inl (cI, T.N, .inl T.st)), (T.a3, .inl (cI, T.N, .inl T.ln)), (T.a4, .inl (cI, T.N, .inl T.ki)), (T.a5, .inl (cI, T.N, .inl T.nx)), (T.a6, .inl (cI, T.N, .inl T.ns)), (T.a7, .inl (cI, T.N, .inl T.nl)), (T.a8, .inl (cI, T.N, .inl T.pa)), (T.a9, .inl (cI, T.N, .inl T.pl)), (T.au, .inl (cC, T.U, .inl T.un))] := hD
            have h_d1 := dg_01 hw
            refine lv_if_eq (tgt := 169) hx hb d_Mo_value_147 (by decide) (fun c147 => ?_) (fun c147 => ?_)
            · refine lv_iload_n hx hb d_Mo_value_169 rfl (lv_at hl 0 rfl) ?_
              refine lv_bipush (v := 91) hx hb d_Mo_value_170 (by decide) ?_
              refine lv_icmp_eq (tgt := 181) hx hb d_Mo_value_172 (by decide) (fun c172 => ?_) (fun c172 => ?_)
              · refine lv_iload_n hx hb d_Mo_value_181 rfl (lv_at hl 3 rfl) ?_
                refine lv_bipush (v := 32) hx hb d_Mo_value_182 (by decide) ?_
                refine lv_icmp_ne (tgt := 198) hx hb d_Mo_value_184 (by decide) (fun h => absurd h (fun q => q (by decide))) (fun _ => ?_)
                refine lv_aload_n hx hb d_Mo_value_187 rfl (lv_at hl 1 rfl) ?_
                refine lv_aload_n hx hb d_Mo_value_188 rfl (lv_at hl 1 rfl) ?_
                refine va_get (D := (dC, dI)) (ci := 13) (v := .int (nI (skipH f n i))) (C := R_Mo) (T := F_Mo) (N := 30) hx hb hts in_Mo hown hK hP 0 rfl rfl 7 (by decide) (hts _ w_1096) (fun _ h9 => h9) (MFg (by decide) rf_7) d_Mo_value_189 ?_
                have hPc := hP.sub (ws' := [(mo, .inr (13, MF 30 (rf v (skipH f n i) br)))]) [0] rfl
                have hDc := hD.sub (ws' := [(mo, .inr (13, MF 30 (rf v (skipH f n i) br)))]) [0] (by decide) rfl
                have hKc := hK.sub (tys' := []) [] rfl
                have hFc := va_free (wc := [(mo, .inr (13, MF 30 (rf v (skipH f n i) br)))]) hD hS hA [0] rfl
                refine va_calli (va_runV (As := [.int (nI (skipH f n i))]) (rest := []) ⟨hx, hb, hml, hown, hts⟩ (c_Mo_fail l dC dI mo H (rf v (skipH f n i) br) br ((nI (skipH f n i))) rf_9) (cwV 1 hts (gt_V (own := R_Mo) (C := R_Mo) (i := 151) (y := y_Mo_fail) i_Mo_fail w_1250 w_1252 (gt_sel (y := y_Mo_fail) (n := 30) (by decide +kernel)) w_7) rfl rfl rfl (by decide +kernel) ⟨Nat.le_of_ble_eq_true rfl, Nat.le_of_ble_eq_true rfl⟩) ⟨mp_blind, va_recv hKc hPc (ci := 13) (q0 := 0) rfl rfl, fun U hU hW => ⟨rfl, hU, by rw [hU]; exact hPc, va_K.moved hW.alike hKc, hDc.weaken (fun _ _ _ _ => trivial)⟩⟩ rfl rfl hl.1 rfl (lv_room (Nat.le_of_ble_eq_true rfl)) d_Mo_value_192 ⟨hfit_T.1, hfit_T.2⟩) hS (fun q _ h => hFc q h) hFc (fun r0 u2 t9 H1 locs ht hvm hw hB hz1 hk1 hS => ?_)
                obtain ⟨hP1, hK1, hD1⟩ := hB
                rw [ht] at hP1
                obtain ⟨hP, hD⟩ := va_join (wr := [(qx, .inl (cB, NN, .inl f)), (t, .inr (12, MF 13 (tw T))), (T.a0, .inl (cI, T.N, .inl T.kd)), (T.a1, .inl (cL, T.N, .inr (.inl T.nu))), (T.a2, .inl (cI, T.N, .inl T.st)), (T.a3, .inl (cI, T.N, .inl T.ln)), (T.a4, .inl (cI, T.N, .inl T.ki)), (T.a5, .inl (cI, T.N, .inl T.nx)), (T.a6, .inl (cI, T.N, .inl T.ns)), (T.a7, .inl (cI, T.N, .inl T.nl)), (T.a8, .inl (cI, T.N, .inl T.pa)), (T.a9, .inl (cI, T.N, .inl T.pl)), (T.au, .inl (cC, T.U, .inl T.un))]) (w1 := [(mo, .inr (13, MF 30 u2))]) hP hD [0] [1, 2, 3, 4, 5, 6, 7, 8, 9, 10, 11, 12, 13] rfl rfl (by decide) (by decide) hk1 hFc hP1 hD1
                generalize H1 = H at hP hS ⊢
                have hP : va_P (dC, dI) classes [(qx, .inl (cB, NN, .inl f)), (t, .inr (12, MF 13 (tw T))), (T.a0, .inl (cI, T.N, .inl T.kd)), (T.a1, .inl (cL, T.N, .inr (.inl T.nu))), (T.a2, .inl (cI, T.N, .inl T.st)), (T.a3, .inl (cI, T.N, .inl T.ln)), (T.a4, .inl (cI, T.N, .inl T.ki)), (T.a5, .inl (cI, T.N, .inl T.nx)), (T.a6, .inl (cI, T.N, .inl T.ns)), (T.a7, .inl (cI, T.N, .inl T.nl)), (T.a8, .inl (cI, T.N, .inl T.pa)), (T.a9, .inl (cI, T.N, .inl T.pl)), (T.au, .inl (cC, T.U, .inl T.un)), (mo, .inr (13, MF 30 u2))] H := hP
                have hD : va_D A [(qx, .inl (cB, NN, .inl f)), (t, .inr (12, MF 13 (tw T))), (T.a0, .inl (cI, T.N, .inl T.kd)), (T.a1, .inl (cL, T.N, .inr (.inl T.nu))), (T.a2, .inl (cI, T.N, .inl T.st)), (T.a3, .inl (cI, T.N, .inl T.ln)), (T.a4, .inl (cI, T.N, .inl T.ki)), (T.a5, .inl (cI, T.N, .inl T.nx)), (T.a6, .inl (cI, T.N, .inl T.ns)), (T.a7, .inl (cI, T.N, .inl T.nl)), (T.a8, .inl (cI, T.N, .inl T.pa)), (T.a9, .inl (cI, T.N, .inl T.pl)), (T.au, .inl (cC, T.U, .inl T.un)), (mo, .inr (13, MF 30 u2))] := hD
                have hP := hP.sub (ws' := [(mo, .inr (13, MF 30 u2)), (qx, .inl (cB, NN, .inl f)), (t, .inr (12, MF 13 (tw T))), (T.a0, .inl (cI, T.N, .inl T.kd)), (T.a1, .inl (cL, T.N, .inr (.inl T.nu))), (T.a2, .inl (cI, T.N, .inl T.st)), (T.a3, .inl (cI, T.N, .inl T.ln)), (T.a4, .inl (cI, T.N, .inl T.ki)), (T.a5, .inl (cI, T.N, .inl T.nx)), (T.a6, .inl (cI, T.N, .inl T.ns)), (T.a7, .inl (cI, T.N, .inl T.nl)), (T.a8, .inl (cI, T.N, .inl T.pa)), (T.a9, .inl (cI, T.N, .inl T.pl)), (T.au, .inl (cC, T.U, .inl T.un))]) [13, 0, 1, 2, 3, 4, 5, 6, 7, 8, 9, 10, 11, 12] rfl
                have hD := hD.sub (ws' := [(mo, .inr (13, MF 30 u2)), (qx, .inl (cB, NN, .inl f)), (t, .inr (12, MF 13 (tw T))), (T.a0, .inl (cI, T.N, .inl T.kd)), (T.a1, .inl (cL, T.N, .inr (.inl T.nu))), (T.a2, .inl (cI, T.N, .inl T.st)), (T.a3, .inl (cI, T.N, .inl T.ln)), (T.a4, .inl (cI, T.N, .inl T.ki)), (T.a5, .inl (cI, T.N, .inl T.nx)), (T.a6, .inl (cI, T.N, .inl T.ns)), (T.a7, .inl (cI, T.N, .inl T.nl)), (T.a8, .inl (cI, T.N, .inl T.pa)), (T.a9, .inl (cI, T.N, .inl T.pl)), (T.au, .inl (cC, T.U, .inl T.un))]) [13, 0, 1, 2, 3, 4, 5, 6, 7, 8, 9, 10, 11, 12] (by decide) rfl
                obtain ⟨b7, h_b7⟩ := rf_fail (v := v) (i := (skipH f n i)) (br := br) (b2 := br) (wh := (nI (skipH f n i)))
                have hw : r0 = 0 ∧ u2 = _ := hw
                obtain ⟨hw1, hw2⟩ := hw
                rw [h_b7] at hw2
                rw [hw2] at hP hD
                subst hw1
                have hP : va_P (dC, dI) classes [(mo, .inr (13, MF 30 (rf v (skipH f n i) b7))), (qx, .inl (cB, NN, .inl f)), (t, .inr (12, MF 13 (tw T))), (T.a0, .inl (cI, T.N, .inl T.kd)), (T.a1, .inl (cL, T.N, .inr (.inl T.nu))), (T.a2, .inl (cI, T.N, .inl T.st)), (T.a3, .inl (cI, T.N, .inl T.ln)), (T.a4, .inl (cI, T.N, .inl T.ki)), (T.a5, .inl (cI, T.N, .inl T.nx)), (T.a6, .inl (cI, T.N, .inl T.ns)), (T.a7, .inl (cI, T.N, .inl T.nl)), (T.a8, .inl (cI, T.N, .inl T.pa)), (T.a9, .inl (cI, T.N, .inl T.pl)), (T.au, .inl (cC, T.U, .inl T.un))] H := hP
                have hD : va_D A [(mo, .inr (13, MF 30 (rf v (skipH f n i) b7))), (qx, .inl (cB, NN, .inl f)), (t, .inr (12, MF 13 (tw T))), (T.a0, .inl (cI, T.N, .inl T.kd)), (T.a1, .inl (cL, T.N, .inr (.inl T.nu))), (T.a2, .inl (cI, T.N, .inl T.st)), (T.a3, .inl (cI, T.N, .inl T.ln)), (T.a4, .inl (cI, T.N, .inl T.ki)), (T.a5, .inl (cI, T.N, .inl T.nx)), (T.a6, .inl (cI, T.N, .inl T.ns)), (T.a7, .inl (cI, T.N, .inl T.nl)), (T.a8, .inl (cI, T.N, .inl T.pa)), (T.a9, .inl (cI, T.N, .inl T.pl)), (T.au, .inl (cC, T.U, .inl T.un))] := hD
                refine lv_pop hx hb d_Mo_value_195 rfl ?_
                refine lv_iconst (v := (-1)) hx hb d_Mo_value_196 (by decide) ?_
                have hpl : pLeaf f n (skipH f n i) = none := by unfold pLeaf; rw [if_neg (fun h => c12 (h_r1.trans h)), if_neg (fun h => c18 (h_r1.trans h)), if_neg (fun h => c24 (h_r1.trans h)), if_neg (fun h => c93 (h_r1.trans h)), if_neg (fun h => by rw [← h_r1] at h; exact h.elim c140 (h_d1.2 c147))]
                have hfin : pV f n 0 i = none := by simp only [pV]; rw [hpl]; rfl
                refine w_same (fun hq => ?_)
                refine W.widen (k := ncap T (T.ct + (n + 12 - i)) + qcap T (T.us + (n + 12 - i))) (n := 20 * ncap T (T.ct + (n + 12 - i)) + 2 * qcap T (T.us + (n + 12 - i))) hfit_T.1 hfit_T.2 ?_
                have hTG : TG n i T T := ⟨hTk_T, hGB_T⟩
                exact W.iret (v := -1) hx hb hr (fun t9 ht hW => ⟨⟨-1, (T, (skipH f n i), b7), rfl, ⟨hTG, Or.inr ⟨rfl, hfin⟩⟩, ⟨by rw [ht]; exact hP, va_K.moved hW.alike hK, hD⟩, by rw [ht]; exact hq⟩, hS.F ht⟩) hS.2.2 d_Mo_value_197
              · refine lv_iload_n hx hb d_Mo_value_175 rfl (lv_at hl 0 rfl) ?_
                refine lv_bipush (v := 123) hx hb d_Mo_value_176 (by decide) ?_
                refine lv_icmp_ne (tgt := 242) hx hb d_Mo_value_178 (by decide) (fun c178 => ?_) (fun c178 => ?_)
                · refine lv_aload_n hx hb d_Mo_value_242 rfl (lv_at hl 1 rfl) ?_
                  refine lv_aload_n hx hb d_Mo_value_243 rfl (lv_at hl 1 rfl) ?_
                  refine va_get (D := (dC, dI)) (ci := 13) (v := .int (nI (skipH f n i))) (C := R_Mo) (T := F_Mo) (N := 30) hx hb hts in_Mo hown hK hP 0 rfl rfl 7 (by decide) (hts _ w_1096) (fun _ h9 => h9) (MFg (by decide) rf_7) d_Mo_value_244 ?_
                  have hPc := hP.sub (ws' := [(mo, .inr (13, MF 30 (rf v (skipH f n i) br)))]) [0] rfl
                  have hDc := hD.sub (ws' := [(mo, .inr (13, MF 30 (rf v (skipH f n i) br)))]) [0] (by decide) rfl
                  have hKc := hK.sub (tys' := []) [] rfl
                  have hFc := va_free (wc := [(mo, .inr (13, MF 30 (rf v (skipH f n i) br)))]) hD hS hA [0] rfl
                  refine va_calli (va_runV (As := [.int (nI (skipH f n i))]) (rest := []) ⟨hx, hb, hml, hown, hts⟩ (c_Mo_fail l dC dI mo H (rf v (skipH f n i) br) br ((nI (skipH f n i))) rf_9) (cwV 1 hts (gt_V (own := R_Mo) (C := R_Mo) (i := 151) (y := y_Mo_fail) i_Mo_fail w_1250 w_1252 (gt_sel (y := y_Mo_fail) (n := 30) (by decide +kernel)) w_7) rfl rfl rfl (by decide +kernel) ⟨Nat.le_of_ble_eq_true rfl, Nat.le_of_ble_eq_true rfl⟩) ⟨mp_blind, va_recv hKc hPc (ci := 13) (q0 := 0) rfl rfl, fun U hU hW => ⟨rfl, hU, by rw [hU]; exact hPc, va_K.moved hW.alike hKc, hDc.weaken (fun _ _ _ _ => trivial)⟩⟩ rfl rfl hl.1 rfl (lv_room (Nat.le_of_ble_eq_true rfl)) d_Mo_value_247 ⟨hfit_T.1, hfit_T.2⟩) hS (fun q _ h => hFc q h) hFc (fun r0 u2 t9 H1 locs ht hvm hw hB hz1 hk1 hS => ?_)
                  obtain ⟨hP1, hK1, hD1⟩ := hB
                  rw [ht] at hP1
                  obtain ⟨hP, hD⟩ := va_join (wr := [(qx, .inl (cB, NN, .inl f)), (t, .inr (12, MF 13 (tw T))), (T.a0, .inl (cI, T.N, .inl T.kd)), (T.a1, .inl (cL, T.N, .inr (.inl T.nu))), (T.a2, .inl (cI, T.N, .inl T.st)), (T.a3, .inl (cI, T.N, .inl T.ln)), (T.a4, .inl (cI, T.N, .inl T.ki)), (T.a5, .inl (cI, T.N, .inl T.nx)), (T.a6, .inl (cI, T.N, .inl T.ns)), (T.a7, .inl (cI, T.N, .inl T.nl)), (T.a8, .inl (cI, T.N, .inl T.pa)), (T.a9, .inl (cI, T.N, .inl T.pl)), (T.au, .inl (cC, T.U, .inl T.un))]) (w1 := [(mo, .inr (13, MF 30 u2))]) hP hD [0] [1, 2, 3, 4, 5, 6, 7, 8, 9, 10, 11, 12, 13] rfl rfl (by decide) (by decide) hk1 hFc hP1 hD1
                  generalize H1 = H at hP hS ⊢
                  have hP : va_P (dC, dI) classes [(qx, .inl (cB, NN, .inl f)), (t, .inr (12, MF 13 (tw T))), (T.a0, .inl (cI, T.N, .inl T.kd)), (T.a1, .inl (cL, T.N, .inr (.inl T.nu))), (T.a2, .inl (cI, T.N, .inl T.st)), (T.a3, .inl (cI, T.N, .inl T.ln)), (T.a4, .inl (cI, T.N, .inl T.ki)), (T.a5, .inl (cI, T.N, .inl T.nx)), (T.a6, .inl (cI, T.N, .inl T.ns)), (T.a7, .inl (cI, T.N, .inl T.nl)), (T.a8, .inl (cI, T.N, .inl T.pa)), (T.a9, .inl (cI, T.N, .inl T.pl)), (T.au, .inl (cC, T.U, .inl T.un)), (mo, .inr (13, MF 30 u2))] H := hP
                  have hD : va_D A [(qx, .inl (cB, NN, .inl f)), (t, .inr (12, MF 13 (tw T))), (T.a0, .inl (cI, T.N, .inl T.kd)), (T.a1, .inl (cL, T.N, .inr (.inl T.nu))), (T.a2, .inl (cI, T.N, .inl T.st)), (T.a3, .inl (cI, T.N, .inl T.ln)), (T.a4, .inl (cI, T.N, .inl T.ki)), (T.a5, .inl (cI, T.N, .inl T.nx)), (T.a6, .inl (cI, T.N, .inl T.ns)), (T.a7, .inl (cI, T.N, .inl T.nl)), (T.a8, .inl (cI, T.N, .inl T.pa)), (T.a9, .inl (cI, T.N, .inl T.pl)), (T.au, .inl (cC, T.U, .inl T.un)), (mo, .inr (13, MF 30 u2))] := hD
                  have hP := hP.sub (ws' := [(mo, .inr (13, MF 30 u2)), (qx, .inl (cB, NN, .inl f)), (t, .inr (12, MF 13 (tw T))), (T.a0, .inl (cI, T.N, .inl T.kd)), (T.a1, .inl (cL, T.N, .inr (.inl T.nu))), (T.a2, .inl (cI, T.N, .inl T.st)), (T.a3, .inl (cI, T.N, .inl T.ln)), (T.a4, .inl (cI, T.N, .inl T.ki)), (T.a5, .inl (cI, T.N, .inl T.nx)), (T.a6, .inl (cI, T.N, .inl T.ns)), (T.a7, .inl (cI, T.N, .inl T.nl)), (T.a8, .inl (cI, T.N, .inl T.pa)), (T.a9, .inl (cI, T.N, .inl T.pl)), (T.au, .inl (cC, T.U, .inl T.un))]) [13, 0, 1, 2, 3, 4, 5, 6, 7, 8, 9, 10, 11, 12] rfl
                  have hD := hD.sub (ws' := [(mo, .inr (13, MF 30 u2)), (qx, .inl (cB, NN, .inl f)), (t, .inr (12, MF 13 (tw T))), (T.a0, .inl (cI, T.N, .inl T.kd)), (T.a1, .inl (cL, T.N, .inr (.inl T.nu))), (T.a2, .inl (cI, T.N, .inl T.st)), (T.a3, .inl (cI, T.N, .inl T.ln)), (T.a4, .inl (cI, T.N, .inl T.ki)), (T.a5, .inl (cI, T.N, .inl T.nx)), (T.a6, .inl (cI, T.N, .inl T.ns)), (T.a7, .inl (cI, T.N, .inl T.nl)), (T.a8, .inl (cI, T.N, .inl T.pa)), (T.a9, .inl (cI, T.N, .inl T.pl)), (T.au, .inl (cC, T.U, .inl T.un))]) [13, 0, 1, 2, 3, 4, 5, 6, 7, 8, 9, 10, 11, 12] (by decide) rfl
                  obtain ⟨b7, h_b7⟩ := rf_fail (v := v) (i := (skipH f n i)) (br := br) (b2 := br) (wh := (nI (skipH f n i)))
                  have hw : r0 = 0 ∧ u2 = _ := hw
                  obtain ⟨hw1, hw2⟩ := hw
                  rw [h_b7] at hw2
                  rw [hw2] at hP hD
                  subst hw1
                  have hP : va_P (dC, dI) classes [(mo, .inr (13, MF 30 (rf v (skipH f n i) b7))), (qx, .inl (cB, NN, .inl f)), (t, .inr (12, MF 13 (tw T))), (T.a0, .inl (cI, T.N, .inl T.kd)), (T.a1, .inl (cL, T.N, .inr (.inl T.nu))), (T.a2, .inl (cI, T.N, .inl T.st)), (T.a3, .inl (cI, T.N, .inl T.ln)), (T.a4, .inl (cI, T.N, .inl T.ki)), (T.a5, .inl (cI, T.N, .inl T.nx)), (T.a6, .inl (cI, T.N, .inl T.ns)), (T.a7, .inl (cI, T.N, .inl T.nl)), (T.a8, .inl (cI, T.N, .inl T.pa)), (T.a9, .inl (cI, T.N, .inl T.pl)), (T.au, .inl (cC, T.U, .inl T.un))] H := hP
                  have hD : va_D A [(mo, .inr (13, MF 30 (rf v (skipH f n i) b7))), (qx, .inl (cB, NN, .inl f)), (t, .inr (12, MF 13 (tw T))), (T.a0, .inl (cI, T.N, .inl T.kd)), (T.a1, .inl (cL, T.N, .inr (.inl T.nu))), (T.a2, .inl (cI, T.N, .inl T.st)), (T.a3, .inl (cI, T.N, .inl T.ln)), (T.a4, .inl (cI, T.N, .inl T.ki)), (T.a5, .inl (cI, T.N, .inl T.nx)), (T.a6, .inl (cI, T.N, .inl T.ns)), (T.a7, .inl (cI, T.N, .inl T.nl)), (T.a8, .inl (cI, T.N, .inl T.pa)), (T.a9, .inl (cI, T.N, .inl T.pl)), (T.au, .inl (cC, T.U, .inl T.un))] := hD
                  refine lv_pop hx hb d_Mo_value_250 rfl ?_
                  refine lv_iconst (v := (-1)) hx hb d_Mo_value_251 (by decide) ?_
                  have hpl : pLeaf f n (skipH f n i) = none := by unfold pLeaf; rw [if_neg (fun h => c12 (h_r1.trans h)), if_neg (fun h => c18 (h_r1.trans h)), if_neg (fun h => c24 (h_r1.trans h)), if_neg (fun h => c93 (h_r1.trans h)), if_neg (fun h => by rw [← h_r1] at h; exact h.elim c140 (h_d1.2 c147))]
                  have hfin : pV f n 0 i = none := by rw [pV_leaf _ (fun h => by rw [← h_r1] at h; exact h.elim c172 c178), hpl]; rfl
                  refine w_same (fun hq => ?_)
                  refine W.widen (k := ncap T (T.ct + (n + 12 - i)) + qcap T (T.us + (n + 12 - i))) (n := 20 * ncap T (T.ct + (n + 12 - i)) + 2 * qcap T (T.us + (n + 12 - i))) hfit_T.1 hfit_T.2 ?_
                  have hTG : TG n i T T := ⟨hTk_T, hGB_T⟩
                  exact W.iret (v := -1) hx hb hr (fun t9 ht hW => ⟨⟨-1, (T, (skipH f n i), b7), rfl, ⟨hTG, Or.inr ⟨rfl, hfin⟩⟩, ⟨by rw [ht]; exact hP, va_K.moved hW.alike hK, hD⟩, by rw [ht]; exact hq⟩, hS.F ht⟩) hS.2.2 d_Mo_value_252
                · refine lv_iload_n hx hb d_Mo_value_181 rfl (lv_at hl 3 rfl) ?_
                  refine lv_bipush (v := 32) hx hb d_Mo_value_182 (by decide) ?_
                  refine lv_icmp_ne (tgt := 198) hx hb d_Mo_value_184 (by decide) (fun h => absurd h (fun q => q (by decide))) (fun _ => ?_)
                  refine lv_aload_n hx hb d_Mo_value_187 rfl (lv_at hl 1 rfl) ?_
                  refine lv_aload_n hx hb d_Mo_value_188 rfl (lv_at hl 1 rfl) ?_
                  refine va_get (D := (dC, dI)) (ci := 13) (v := .int (nI (skipH f n i))) (C := R_Mo) (T := F_Mo) (N := 30) hx hb hts in_Mo hown hK hP 0 rfl rfl 7 (by decide) (hts _ w_1096) (fun _ h9 => h9) (MFg (by decide) rf_7) d_Mo_value_189 ?_
                  have hPc := hP.sub (ws' := [(mo, .inr (13, MF 30 (rf v (skipH f n i) br)))]) [0] rfl
                  have hDc := hD.sub (ws' := [(mo, .inr (13, MF 30 (rf v (skipH f n i) br)))]) [0] (by decide) rfl
                  have hKc := hK.sub (tys' := []) [] rfl
                  have hFc := va_free (wc := [(mo, .inr (13, MF 30 (rf v (skipH f n i) br)))]) hD hS hA [0] rfl
                  refine va_calli (va_runV (As := [.int (nI (skipH f n i))]) (rest := []) ⟨hx, hb, hml, hown, hts⟩ (c_Mo_fail l dC dI mo H (rf v (skipH f n i) br) br ((nI (skipH f n i))) rf_9) (cwV 1 hts (gt_V (own := R_Mo) (C := R_Mo) (i := 151) (y := y_Mo_fail) i_Mo_fail w_1250 w_1252 (gt_sel (y := y_Mo_fail) (n := 30) (by decide +kernel)) w_7) rfl rfl rfl (by decide +kernel) ⟨Nat.le_of_ble_eq_true rfl, Nat.le_of_ble_eq_true rfl⟩) ⟨mp_blind, va_recv hKc hPc (ci := 13) (q0 := 0) rfl rfl, fun U hU hW => ⟨rfl, hU, by rw [hU]; exact hPc, va_K.moved hW.alike hKc, hDc.weaken (fun _ _ _ _ => trivial)⟩⟩ rfl rfl hl.1 rfl (lv_room (Nat.le_of_ble_eq_true rfl)) d_Mo_value_192 ⟨hfit_T.1, hfit_T.2⟩) hS (fun q _ h => hFc q h) hFc (fun r0 u2 t9 H1 locs ht hvm hw hB hz1 hk1 hS => ?_)
                  obtain ⟨hP1, hK1, hD1⟩ := hB
                  rw [ht] at hP1
                  obtain ⟨hP, hD⟩ := va_join (wr := [(qx, .inl (cB, NN, .inl f)), (t, .inr (12, MF 13 (tw T))), (T.a0, .inl (cI, T.N, .inl T.kd)), (T.a1, .inl (cL, T.N, .inr (.inl T.nu))), (T.a2, .inl (cI, T.N, .inl T.st)), (T.a3, .inl (cI, T.N, .inl T.ln)), (T.a4, .inl (cI, T.N, .inl T.ki)), (T.a5, .inl (cI, T.N, .inl T.nx)), (T.a6, .inl (cI, T.N, .inl T.ns)), (T.a7, .inl (cI, T.N, .inl T.nl)), (T.a8, .inl (cI, T.N, .inl T.pa)), (T.a9, .inl (cI, T.N, .inl T.pl)), (T.au, .inl (cC, T.U, .inl T.un))]) (w1 := [(mo, .inr (13, MF 30 u2))]) hP hD [0] [1, 2, 3, 4, 5, 6, 7, 8, 9, 10, 11, 12, 13] rfl rfl (by decide) (by decide) hk1 hFc hP1 hD1
                  generalize H1 = H at hP hS ⊢
                  have hP : va_P (dC, dI) classes [(qx, .inl (cB, NN, .inl f)), (t, .inr (12, MF 13 (tw T))), (T.a0, .inl (cI, T.N, .inl T.kd)), (T.a1, .inl (cL, T.N, .inr (.inl T.nu))), (T.a2, .inl (cI, T.N, .inl T.st)), (T.a3, .inl (cI, T.N, .inl T.ln)), (T.a4, .inl (cI, T.N, .inl T.ki)), (T.a5, .inl (cI, T.N, .inl T.nx)), (T.a6, .inl (cI, T.N, .inl T.ns)), (T.a7, .inl (cI, T.N, .inl T.nl)), (T.a8, .inl (cI, T.N, .inl T.pa)), (T.a9, .inl (cI, T.N, .inl T.pl)), (T.au, .inl (cC, T.U, .inl T.un)), (mo, .inr (13, MF 30 u2))] H := hP
                  have hD : va_D A [(qx, .inl (cB, NN, .inl f)), (t, .inr (12, MF 13 (tw T))), (T.a0, .inl (cI, T.N, .inl T.kd)), (T.a1, .inl (cL, T.N, .inr (.inl T.nu))), (T.a2, .inl (cI, T.N, .inl T.st)), (T.a3, .inl (cI, T.N, .inl T.ln)), (T.a4, .inl (cI, T.N, .inl T.ki)), (T.a5, .inl (cI, T.N, .inl T.nx)), (T.a6, .inl (cI, T.N, .inl T.ns)), (T.a7, .inl (cI, T.N, .inl T.nl)), (T.a8, .inl (cI, T.N, .inl T.pa)), (T.a9, .inl (cI, T.N, .inl T.pl)), (T.au, .inl (cC, T.U, .inl T.un)), (mo, .inr (13, MF 30 u2))] := hD
                  have hP := hP.sub (ws' := [(mo, .inr (13, MF 30 u2)), (qx, .inl (cB, NN, .inl f)), (t, .inr (12, MF 13 (tw T))), (T.a0, .inl (cI, T.N, .inl T.kd)), (T.a1, .inl (cL, T.N, .inr (.inl T.nu))), (T.a2, .inl (cI, T.N, .inl T.st)), (T.a3, .inl (cI, T.N, .inl T.ln)), (T.a4, .inl (cI, T.N, .inl T.ki)), (T.a5, .inl (cI, T.N, .inl T.nx)), (T.a6, .inl (cI, T.N, .inl T.ns)), (T.a7, .inl (cI, T.N, .inl T.nl)), (T.a8, .inl (cI, T.N, .inl T.pa)), (T.a9, .inl (cI, T.N, .inl T.pl)), (T.au, .inl (cC, T.U, .inl T.un))]) [13, 0, 1, 2, 3, 4, 5, 6, 7, 8, 9, 10, 11, 12] rfl
                  have hD := hD.sub (ws' := [(mo, .inr (13, MF 30 u2)), (qx, .inl (cB, NN, .inl f)), (t, .inr (12, MF 13 (tw T))), (T.a0, .inl (cI, T.N, .inl T.kd)), (T.a1, .inl (cL, T.N, .inr (.inl T.nu))), (T.a2, .inl (cI, T.N, .inl T.st)), (T.a3, .inl (cI, T.N, .inl T.ln)), (T.a4, .inl (cI, T.N, .inl T.ki)), (T.a5, .inl (cI, T.N, .inl T.nx)), (T.a6, .inl (cI, T.N, .inl T.ns)), (T.a7, .inl (cI, T.N, .inl T.nl)), (T.a8, .inl (cI, T.N, .inl T.pa)), (T.a9, .inl (cI, T.N, .inl T.pl)), (T.au, .inl (cC, T.U, .inl T.un))]) [13, 0, 1, 2, 3, 4, 5, 6, 7, 8, 9, 10, 11, 12] (by decide) rfl
                  obtain ⟨b7, h_b7⟩ := rf_fail (v := v) (i := (skipH f n i)) (br := br) (b2 := br) (wh := (nI (skipH f n i)))
                  have hw : r0 = 0 ∧ u2 = _ := hw
                  obtain ⟨hw1, hw2⟩ := hw
                  rw [h_b7] at hw2
                  rw [hw2] at hP hD
                  subst hw1
                  have hP : va_P (dC, dI) classes [(mo, .inr (13, MF 30 (rf v (skipH f n i) b7))), (qx, .inl (cB, NN, .inl f)), (t, .inr (12, MF 13 (tw T))), (T.a0, .inl (cI, T.N, .inl T.kd)), (T.a1, .inl (cL, T.N, .inr (.inl T.nu))), (T.a2, .inl (cI, T.N, .inl T.st)), (T.a3, .inl (cI, T.N, .inl T.ln)), (T.a4, .inl (cI, T.N, .inl T.ki)), (T.a5, .inl (cI, T.N, .inl T.nx)), (T.a6, .inl (cI, T.N, .inl T.ns)), (T.a7, .inl (cI, T.N, .inl T.nl)), (T.a8, .inl (cI, T.N, .inl T.pa)), (T.a9, .inl (cI, T.N, .inl T.pl)), (T.au, .inl (cC, T.U, .inl T.un))] H := hP
                  have hD : va_D A [(mo, .inr (13, MF 30 (rf v (skipH f n i) b7))), (qx, .inl (cB, NN, .inl f)), (t, .inr (12, MF 13 (tw T))), (T.a0, .inl (cI, T.N, .inl T.kd)), (T.a1, .inl (cL, T.N, .inr (.inl T.nu))), (T.a2, .inl (cI, T.N, .inl T.st)), (T.a3, .inl (cI, T.N, .inl T.ln)), (T.a4, .inl (cI, T.N, .inl T.ki)), (T.a5, .inl (cI, T.N, .inl T.nx)), (T.a6, .inl (cI, T.N, .inl T.ns)), (T.a7, .inl (cI, T.N, .inl T.nl)), (T.a8, .inl (cI, T.N, .inl T.pa)), (T.a9, .inl (cI, T.N, .inl T.pl)), (T.au, .inl (cC, T.U, .inl T.un))] := hD
                  refine lv_pop hx hb d_Mo_value_195 rfl ?_
                  refine lv_iconst (v := (-1)) hx hb d_Mo_value_196 (by decide) ?_
                  have hpl : pLeaf f n (skipH f n i) = none := by unfold pLeaf; rw [if_neg (fun h => c12 (h_r1.trans h)), if_neg (fun h => c18 (h_r1.trans h)), if_neg (fun h => c24 (h_r1.trans h)), if_neg (fun h => c93 (h_r1.trans h)), if_neg (fun h => by rw [← h_r1] at h; exact h.elim c140 (h_d1.2 c147))]
                  have hfin : pV f n 0 i = none := by simp only [pV]; rw [hpl]; rfl
                  refine w_same (fun hq => ?_)
                  refine W.widen (k := ncap T (T.ct + (n + 12 - i)) + qcap T (T.us + (n + 12 - i))) (n := 20 * ncap T (T.ct + (n + 12 - i)) + 2 * qcap T (T.us + (n + 12 - i))) hfit_T.1 hfit_T.2 ?_
                  have hTG : TG n i T T := ⟨hTk_T, hGB_T⟩
                  exact W.iret (v := -1) hx hb hr (fun t9 ht hW => ⟨⟨-1, (T, (skipH f n i), b7), rfl, ⟨hTG, Or.inr ⟨rfl, hfin⟩⟩, ⟨by rw [ht]; exact hP, va_K.moved hW.alike hK, hD⟩, by rw [ht]; exact hq⟩, hS.F ht⟩) hS.2.2 d_Mo_value_197
            · refine lv_aload_n hx hb d_Mo_value_150 rfl (lv_at hl 2 rfl) ?_
              refine lv_iconst (v := 3) hx hb d_Mo_value_151 (by decide) ?_
              have hPc := hP.sub (ws' := [(t, .inr (12, MF 13 (tw T))), (T.a0, .inl (cI, T.N, .inl T.kd)), (T.a1, .inl (cL, T.N, .inr (.inl T.nu))), (T.a2, .inl (cI, T.N, .inl T.st)), (T.a3, .inl (cI, T.N, .inl T.ln)), (T.a4, .inl (cI, T.N, .inl T.ki)), (T.a5, .inl (cI, T.N, .inl T.nx)), (T.a6, .inl (cI, T.N, .inl T.ns)), (T.a7, .inl (cI, T.N, .inl T.nl)), (T.a8, .inl (cI, T.N, .inl T.pa)), (T.a9, .inl (cI, T.N, .inl T.pl)), (T.au, .inl (cC, T.U, .inl T.un))]) [2, 3, 4, 5, 6, 7, 8, 9, 10, 11, 12, 13] rfl
              have hDc := hD.sub (ws' := [(t, .inr (12, MF 13 (tw T))), (T.a0, .inl (cI, T.N, .inl T.kd)), (T.a1, .inl (cL, T.N, .inr (.inl T.nu))), (T.a2, .inl (cI, T.N, .inl T.st)), (T.a3, .inl (cI, T.N, .inl T.ln)), (T.a4, .inl (cI, T.N, .inl T.ki)), (T.a5, .inl (cI, T.N, .inl T.nx)), (T.a6, .inl (cI, T.N, .inl T.ns)), (T.a7, .inl (cI, T.N, .inl T.nl)), (T.a8, .inl (cI, T.N, .inl T.pa)), (T.a9, .inl (cI, T.N, .inl T.pl)), (T.au, .inl (cC, T.U, .inl T.un))]) [2, 3, 4, 5, 6, 7, 8, 9, 10, 11, 12, 13] (by decide) rfl
              have hKc := hK.sub (tys' := [(cI, .int), (cL, .long), (cC, .char)]) [1, 2, 3] rfl
              have hFc := va_free (wc := [(t, .inr (12, MF 13 (tw T))), (T.a0, .inl (cI, T.N, .inl T.kd)), (T.a1, .inl (cL, T.N, .inr (.inl T.nu))), (T.a2, .inl (cI, T.N, .inl T.st)), (T.a3, .inl (cI, T.N, .inl T.ln)), (T.a4, .inl (cI, T.N, .inl T.ki)), (T.a5, .inl (cI, T.N, .inl T.nx)), (T.a6, .inl (cI, T.N, .inl T.ns)), (T.a7, .inl (cI, T.N, .inl T.nl)), (T.a8, .inl (cI, T.N, .inl T.pa)), (T.a9, .inl (cI, T.N, .inl T.pl)), (T.au, .inl (cC, T.U, .inl T.un))]) hD hS hA [2, 3, 4, 5, 6, 7, 8, 9, 10, 11, 12, 13] rfl
              refine w_same (fun hq0 => ?_)
              refine va_calli (va_runV (As := [.int 3]) (rest := []) ⟨hx, hb, hml, hown, hts⟩ (c_Tree_add l dC dI t H cI cL cC T 3 hTk_T) (cwV 1 hts (gt_V (own := R_Mo) (C := R_Tree) (i := 197) (y := y_Tree_add) i_Tree_add w_1254 w_1255 w_1256 w_8) rfl rfl rfl (by decide +kernel) ⟨Nat.le_of_ble_eq_true rfl, Nat.le_of_ble_eq_true rfl⟩) ⟨mp_blind, va_recv hKc hPc (ci := 12) (q0 := 0) rfl rfl, fun U hU hW => ⟨rfl, hU, by rw [hU]; exact hPc, va_K.moved hW.alike hKc, hDc.weaken (fun _ _ _ _ => trivial)⟩⟩ rfl rfl hl.1 rfl (lv_room (Nat.le_of_ble_eq_true rfl)) d_Mo_value_152 ⟨(TAd.fit hGB_T hTk_T (by omega)).1, (TAd.fit hGB_T hTk_T (by omega)).2⟩) hS (fun q _ h => hFc q h) hFc (fun r0 T1 t9 H1 locs ht hvm hw hB hz1 hk1 hS => ?_)
              obtain ⟨⟨hP1, hK1, hD1⟩, hz9⟩ := hB
              rw [ht] at hP1
              rw [ht] at hz9
              obtain ⟨hr0, hA_T1⟩ := hw
              have hA_T1 : TAd T T1 3 := hA_T1
              have hAg := hA_T1.gb hTk_T (by omega)
              obtain ⟨hGB_T1, hGc_T1, hGs_T1⟩ := hGB_T.tr hAg.1 (show T.ct + 1 ≤ (T.ct + (n + 12 - i)) by omega) (Nat.zero_le _)
              have hGc_T1 := Nat.le_trans (Nat.add_le_add_left hAg.2.1 _) hGc_T1
              have hGs_T1 := Nat.le_trans (Nat.add_le_add_left hAg.2.2 _) hGs_T1
              have hq1 : szk s.heap H1 (cE T T1) (sE T T1) := (hq0.trans hz9).mono hGc_T1 hGs_T1
              refine w_tight hq1 ?_
              obtain ⟨hP, hD⟩ := va_join (wr := [(mo, .inr (13, MF 30 (rf v (skipH f n i) br))), (qx, .inl (cB, NN, .inl f))]) (w1 := [(t, .inr (12, MF 13 (tw T1))), (T1.a0, .inl (cI, T1.N, .inl T1.kd)), (T1.a1, .inl (cL, T1.N, .inr (.inl T1.nu))), (T1.a2, .inl (cI, T1.N, .inl T1.st)), (T1.a3, .inl (cI, T1.N, .inl T1.ln)), (T1.a4, .inl (cI, T1.N, .inl T1.ki)), (T1.a5, .inl (cI, T1.N, .inl T1.nx)), (T1.a6, .inl (cI, T1.N, .inl T1.ns)), (T1.a7, .inl (cI, T1.N, .inl T1.nl)), (T1.a8, .inl (cI, T1.N, .inl T1.pa)), (T1.a9, .inl (cI, T1.N, .inl T1.pl)), (T1.au, .inl (cC, T1.U, .inl T1.un))]) hP hD [2, 3, 4, 5, 6, 7, 8, 9, 10, 11, 12, 13] [0, 1] rfl rfl (by decide) (by decide) hk1 hFc hP1 hD1
              generalize H1 = H at hP hS ⊢
              have hP : va_P (dC, dI) classes [(mo, .inr (13, MF 30 (rf v (skipH f n i) br))), (qx, .inl (cB, NN, .inl f)), (t, .inr (12, MF 13 (tw T1))), (T1.a0, .inl (cI, T1.N, .inl T1.kd)), (T1.a1, .inl (cL, T1.N, .inr (.inl T1.nu))), (T1.a2, .inl (cI, T1.N, .inl T1.st)), (T1.a3, .inl (cI, T1.N, .inl T1.ln)), (T1.a4, .inl (cI, T1.N, .inl T1.ki)), (T1.a5, .inl (cI, T1.N, .inl T1.nx)), (T1.a6, .inl (cI, T1.N, .inl T1.ns)), (T1.a7, .inl (cI, T1.N, .inl T1.nl)), (T1.a8, .inl (cI, T1.N, .inl T1.pa)), (T1.a9, .inl (cI, T1.N, .inl T1.pl)), (T1.au, .inl (cC, T1.U, .inl T1.un))] H := hP
              have hD : va_D A [(mo, .inr (13, MF 30 (rf v (skipH f n i) br))), (qx, .inl (cB, NN, .inl f)), (t, .inr (12, MF 13 (tw T1))), (T1.a0, .inl (cI, T1.N, .inl T1.kd)), (T1.a1, .inl (cL, T1.N, .inr (.inl T1.nu))), (T1.a2, .inl (cI, T1.N, .inl T1.st)), (T1.a3, .inl (cI, T1.N, .inl T1.ln)), (T1.a4, .inl (cI, T1.N, .inl T1.ki)), (T1.a5, .inl (cI, T1.N, .inl T1.nx)), (T1.a6, .inl (cI, T1.N, .inl T1.ns)), (T1.a7, .inl (cI, T1.N, .inl T1.nl)), (T1.a8, .inl (cI, T1.N, .inl T1.pa)), (T1.a9, .inl (cI, T1.N, .inl T1.pl)), (T1.au, .inl (cC, T1.U, .inl T1.un))] := hD
              have hTk_T1 := (hA_T1.ok hTk_T (by omega)).1
              have hAc_T1 : T1.ct = T.ct + 1 ∧ T1.us = T.us := ⟨(hA_T1.ok hTk_T (by omega)).2.2.2.2.2.1, (hA_T1.ok hTk_T (by omega)).2.2.2.2.1⟩
              have hr0 : r0 = nI T.ct := hr0
              subst hr0
              have hfit_T1 := hGB_T1.fits
              refine lv_istore (lv' := [(4, .int (nI T.ct)), (3, .int r1), (0, .ref mo), (1, .ref t), (2, .int (nI (32 - 0)))]) hx hb d_Mo_value_155 hl (by decide) rfl (fun ls hl => ?_)
              refine lv_aload_n hx hb d_Mo_value_157 rfl (lv_at hl 2 rfl) ?_
              refine lv_aload_n hx hb d_Mo_value_158 rfl (lv_at hl 3 rfl) ?_
              refine lv_iload hx hb d_Mo_value_159 (lv_at hl 0 rfl) ?_
              have hPc := hP.sub (ws' := [(mo, .inr (13, MF 30 (rf v (skipH f n i) br))), (qx, .inl (cB, NN, .inl f)), (t, .inr (12, MF 13 (tw T1))), (T1.a1, .inl (cL, T1.N, .inr (.inl T1.nu)))]) [0, 1, 2, 4] rfl
              have hDc := hD.sub (ws' := [(mo, .inr (13, MF 30 (rf v (skipH f n i) br))), (qx, .inl (cB, NN, .inl f)), (t, .inr (12, MF 13 (tw T1))), (T1.a1, .inl (cL, T1.N, .inr (.inl T1.nu)))]) [0, 1, 2, 4] (by decide) rfl
              have hKc := hK.sub (tys' := [(cB, .byte), (cL, .long)]) [0, 2] rfl
              have hFc := va_free (wc := [(mo, .inr (13, MF 30 (rf v (skipH f n i) br))), (qx, .inl (cB, NN, .inl f)), (t, .inr (12, MF 13 (tw T1))), (T1.a1, .inl (cL, T1.N, .inr (.inl T1.nu)))]) hD hS hA [0, 1, 2, 4] rfl
              refine va_calli (va_runV (As := [.ref t, .int (nI T.ct)]) (rest := []) ⟨hx, hb, hml, hown, hts⟩ (c_Mo_numberT l dC dI mo H v cB cL qx NN f n t T1 (skipH f n i) br hnN hNN (by omega) h6 h8 hTk_T1 T.ct (by omega)) (cwV 2 hts (gt_V (own := R_Mo) (C := R_Mo) (i := 207) (y := y_Mo_numberT) i_Mo_numberT w_1339 w_1341 (gt_sel (y := y_Mo_numberT) (n := 30) (by decide +kernel)) w_7) rfl rfl rfl (by decide +kernel) ⟨Nat.le_of_ble_eq_true rfl, Nat.le_of_ble_eq_true rfl⟩) ⟨mp_blind, va_recv hKc hPc (ci := 13) (q0 := 0) rfl rfl, fun U hU hW => ⟨rfl, hU, by rw [hU]; exact hPc, va_K.moved hW.alike hKc, hDc.weaken (fun _ _ _ _ => trivial)⟩⟩ rfl rfl hl.1 rfl (lv_room (Nat.le_of_ble_eq_true rfl)) d_Mo_value_161 ⟨hfit_T1.1, hfit_T1.2⟩) hS (fun q _ h => hFc q h) hFc (fun r0 ⟨j2, b2, nu2⟩ t9 H1 locs ht hvm hw hB hz1 hk1 hS => ?_)
              obtain ⟨hP1, hK1, hD1⟩ := hB
              rw [ht] at hP1
              obtain ⟨hP, hD⟩ := va_join (wr := [(T1.a0, .inl (cI, T1.N, .inl T1.kd)), (T1.a2, .inl (cI, T1.N, .inl T1.st)), (T1.a3, .inl (cI, T1.N, .inl T1.ln)), (T1.a4, .inl (cI, T1.N, .inl T1.ki)), (T1.a5, .inl (cI, T1.N, .inl T1.nx)), (T1.a6, .inl (cI, T1.N, .inl T1.ns)), (T1.a7, .inl (cI, T1.N, .inl T1.nl)), (T1.a8, .inl (cI, T1.N, .inl T1.pa)), (T1.a9, .inl (cI, T1.N, .inl T1.pl)), (T1.au, .inl (cC, T1.U, .inl T1.un))]) (w1 := [(mo, .inr (13, MF 30 (rf v j2 b2))), (qx, .inl (cB, NN, .inl f)), (t, .inr (12, MF 13 (tw T1))), (T1.a1, .inl (cL, T1.N, .inr (.inl nu2)))]) hP hD [0, 1, 2, 4] [3, 5, 6, 7, 8, 9, 10, 11, 12, 13] rfl rfl (by decide) (by decide) hk1 hFc hP1 hD1
              generalize H1 = H at hP hS ⊢
              have hP : va_P (dC, dI) classes [(T1.a0, .inl (cI, T1.N, .inl T1.kd)), (T1.a2, .inl (cI, T1.N, .inl T1.st)), (T1.a3, .inl (cI, T1.N, .inl T1.ln)), (T1.a4, .inl (cI, T1.N, .inl T1.ki)), (T1.a5, .inl (cI, T1.N, .inl T1.nx)), (T1.a6, .inl (cI, T1.N, .inl T1.ns)), (T1.a7, .inl (cI, T1.N, .inl T1.nl)), (T1.a8, .inl (cI, T1.N, .inl T1.pa)), (T1.a9, .inl (cI, T1.N, .inl T1.pl)), (T1.au, .inl (cC, T1.U, .inl T1.un)), (mo, .inr (13, MF 30 (rf v j2 b2))), (qx, .inl (cB, NN, .inl f)), (t, .inr (12, MF 13 (tw T1))), (T1.a1, .inl (cL, T1.N, .inr (.inl nu2)))] H := hP
              have hD : va_D A [(T1.a0, .inl (cI, T1.N, .inl T1.kd)), (T1.a2, .inl (cI, T1.N, .inl T1.st)), (T1.a3, .inl (cI, T1.N, .inl T1.ln)), (T1.a4, .inl (cI, T1.N, .inl T1.ki)), (T1.a5, .inl (cI, T1.N, .inl T1.nx)), (T1.a6, .inl (cI, T1.N, .inl T1.ns)), (T1.a7, .inl (cI, T1.N, .inl T1.nl)), (T1.a8, .inl (cI, T1.N, .inl T1.pa)), (T1.a9, .inl (cI, T1.N, .inl T1.pl)), (T1.au, .inl (cC, T1.U, .inl T1.un)), (mo, .inr (13, MF 30 (rf v j2 b2))), (qx, .inl (cB, NN, .inl f)), (t, .inr (12, MF 13 (tw T1))), (T1.a1, .inl (cL, T1.N, .inr (.inl nu2)))] := hD
              have hP := hP.sub (ws' := [(mo, .inr (13, MF 30 (rf v j2 b2))), (qx, .inl (cB, NN, .inl f)), (t, .inr (12, MF 13 (tw T1))), (T1.a0, .inl (cI, T1.N, .inl T1.kd)), (T1.a1, .inl (cL, T1.N, .inr (.inl nu2))), (T1.a2, .inl (cI, T1.N, .inl T1.st)), (T1.a3, .inl (cI, T1.N, .inl T1.ln)), (T1.a4, .inl (cI, T1.N, .inl T1.ki)), (T1.a5, .inl (cI, T1.N, .inl T1.nx)), (T1.a6, .inl (cI, T1.N, .inl T1.ns)), (T1.a7, .inl (cI, T1.N, .inl T1.nl)), (T1.a8, .inl (cI, T1.N, .inl T1.pa)), (T1.a9, .inl (cI, T1.N, .inl T1.pl)), (T1.au, .inl (cC, T1.U, .inl T1.un))]) [10, 11, 12, 0, 13, 1, 2, 3, 4, 5, 6, 7, 8, 9] rfl
              have hD := hD.sub (ws' := [(mo, .inr (13, MF 30 (rf v j2 b2))), (qx, .inl (cB, NN, .inl f)), (t, .inr (12, MF 13 (tw T1))), (T1.a0, .inl (cI, T1.N, .inl T1.kd)), (T1.a1, .inl (cL, T1.N, .inr (.inl nu2))), (T1.a2, .inl (cI, T1.N, .inl T1.st)), (T1.a3, .inl (cI, T1.N, .inl T1.ln)), (T1.a4, .inl (cI, T1.N, .inl T1.ki)), (T1.a5, .inl (cI, T1.N, .inl T1.nx)), (T1.a6, .inl (cI, T1.N, .inl T1.ns)), (T1.a7, .inl (cI, T1.N, .inl T1.nl)), (T1.a8, .inl (cI, T1.N, .inl T1.pa)), (T1.a9, .inl (cI, T1.N, .inl T1.pl)), (T1.au, .inl (cC, T1.U, .inl T1.un))]) [10, 11, 12, 0, 13, 1, 2, 3, 4, 5, 6, 7, 8, 9] (by decide) rfl
              rcases hw with ⟨hw1, val, hw2, hw3, hw4⟩ | ⟨hw1, hw2, hw3, hw4⟩
              · have hw3 : nu2 = vp_updL T1.nu T.ct val := hw3
                have hw4 : j2 ≤ n := hw4
                have hw2 : numM f n (skipH f n i) = some (val, j2) := hw2
                subst hw3
                subst hw1
                obtain ⟨T2, e_T2⟩ : ∃ z : TS, z = (TS.mk T1.N T1.U T1.ct T1.us T1.a0 T1.a1 T1.a2 T1.a3 T1.a4 T1.a5 T1.a6 T1.a7 T1.a8 T1.a9 T1.au T1.kd T1.st T1.ln T1.ki T1.nx T1.ns T1.nl T1.pa T1.pl T1.un (vp_updL T1.nu T.ct val)) := ⟨_, rfl⟩
                have hP : va_P (dC, dI) classes [(mo, .inr (13, MF 30 (rf v j2 b2))), (qx, .inl (cB, NN, .inl f)), (t, .inr (12, MF 13 (tw T2))), (T2.a0, .inl (cI, T2.N, .inl T2.kd)), (T2.a1, .inl (cL, T2.N, .inr (.inl T2.nu))), (T2.a2, .inl (cI, T2.N, .inl T2.st)), (T2.a3, .inl (cI, T2.N, .inl T2.ln)), (T2.a4, .inl (cI, T2.N, .inl T2.ki)), (T2.a5, .inl (cI, T2.N, .inl T2.nx)), (T2.a6, .inl (cI, T2.N, .inl T2.ns)), (T2.a7, .inl (cI, T2.N, .inl T2.nl)), (T2.a8, .inl (cI, T2.N, .inl T2.pa)), (T2.a9, .inl (cI, T2.N, .inl T2.pl)), (T2.au, .inl (cC, T2.U, .inl T2.un))] H := by subst e_T2; exact hP
                have hD : va_D A [(mo, .inr (13, MF 30 (rf v j2 b2))), (qx, .inl (cB, NN, .inl f)), (t, .inr (12, MF 13 (tw T2))), (T2.a0, .inl (cI, T2.N, .inl T2.kd)), (T2.a1, .inl (cL, T2.N, .inr (.inl T2.nu))), (T2.a2, .inl (cI, T2.N, .inl T2.st)), (T2.a3, .inl (cI, T2.N, .inl T2.ln)), (T2.a4, .inl (cI, T2.N, .inl T2.ki)), (T2.a5, .inl (cI, T2.N, .inl T2.nx)), (T2.a6, .inl (cI, T2.N, .inl T2.ns)), (T2.a7, .inl (cI, T2.N, .inl T2.nl)), (T2.a8, .inl (cI, T2.N, .inl T2.pa)), (T2.a9, .inl (cI, T2.N, .inl T2.pl)), (T2.au, .inl (cC, T2.U, .inl T2.un))] := by subst e_T2; exact hD
                have hT2 : T2.N = T1.N ∧ T2.U = T1.U ∧ T2.ct = T1.ct ∧ T2.us = T1.us ∧ T2.un = T1.un ∧ T2.kd = T1.kd ∧ T2.nu = vp_updL T1.nu T.ct val ∧ T2.st = T1.st ∧ T2.ln = T1.ln ∧ T2.pa = T1.pa ∧ T2.ki = T1.ki ∧ T2.nx = T1.nx ∧ T2.ns = T1.ns ∧ T2.nl = T1.nl := by rw [e_T2]; exact ⟨rfl, rfl, rfl, rfl, rfl, rfl, rfl, rfl, rfl, rfl, rfl, rfl, rfl, rfl⟩
                obtain ⟨g1, g2, g3, g4, g5, g6, g7, g8, g9, g10, g11, g12, g13, g14⟩ := hT2
                have hTk_T2 : TOK T2 := by obtain ⟨q1, q2, q3, q4, q5, q6, q7⟩ := hTk_T1; exact ⟨by omega, by omega, by omega, by omega, by omega, by omega, by rw [g5]; exact q7⟩
                refine w_same (fun hq => ?_)
                refine w_tight (k := cE T T2) (n := sE T T2) (by unfold cE sE at hq ⊢; rw [g1, g2]; exact hq) ?_
                have hGB_T2 : GB (T.ct + (n + 12 - i)) (T.us + (n + 12 - i)) T T2 := by unfold GB at hGB_T1 ⊢; rw [g1, g2]; exact hGB_T1
                have hfit_T2 := hGB_T2.fits
                have hAA := hA_T1.2.2.2.2.2.2.2
                have hTEn : TE T T2 := TE_of hA_T1.te g3 g4 g5 (fun j9 h9 => ⟨by rw [g6], by rw [g7]; exact if_neg (by omega), by rw [g8], by rw [g9], by rw [g11], by rw [g12], by rw [g13], by rw [g14], by rw [g10]⟩)
                have hRepn : RepL T2 T.ct (3, val, []) := ⟨by rw [g6]; exact hAA.1, by show 3 ≤ 6; omega, fun _ => by rw [g7]; exact pk_uLs, fun h => absurd h (by show ¬ 3 = 4; omega), fun _ => by rw [g9]; exact hAA.2.2.2.2.2.1⟩
                have hkin : T2.ki T.ct = -1 := by rw [g11]; exact hAA.2.1
                have hpan : T2.pa T.ct = -1 := by rw [g10]; exact hAA.2.2.2.1
                have hctn : T2.ct = T.ct + 1 := by omega
                have husn : T2.us = T.us := by omega
                have hnu45 : hereV f n (skipH f n i) = 45 ∨ digH (hereV f n (skipH f n i)) := by rw [← h_r1]; exact Or.inr (h_d1.1 c147)
                have hnlt := numM_lt hw2
                have hpl : pLeaf f n (skipH f n i) = some ((3, val, []), j2) := by unfold pLeaf; rw [if_neg (fun h => c12 (h_r1.trans h)), if_neg (fun h => c18 (h_r1.trans h)), if_neg (fun h => c24 (h_r1.trans h)), if_neg (fun h => c93 (h_r1.trans h)), if_pos hnu45, hw2]
                have hnc : ¬ (hereV f n (skipH f n i) = 91 ∨ hereV f n (skipH f n i) = 123) := fun h => by rcases h with h | h <;> rw [h] at hnu45 <;> revert hnu45 <;> decide
                refine lv_if_ne (tgt := 253) hx hb d_Mo_value_164 (by decide) (fun _ => ?_) (fun h => absurd h (by decide))
                refine lv_aload_n hx hb d_Mo_value_253 rfl (lv_at hl 2 rfl) ?_
                have hPc := hP.sub (ws' := [(mo, .inr (13, MF 30 (rf v j2 b2))), (qx, .inl (cB, NN, .inl f))]) [0, 1] rfl
                have hDc := hD.sub (ws' := [(mo, .inr (13, MF 30 (rf v j2 b2))), (qx, .inl (cB, NN, .inl f))]) [0, 1] (by decide) rfl
                have hKc := hK.sub (tys' := [(cB, .byte)]) [0] rfl
                have hFc := va_free (wc := [(mo, .inr (13, MF 30 (rf v j2 b2))), (qx, .inl (cB, NN, .inl f))]) hD hS hA [0, 1] rfl
                refine va_callv (va_runV (As := []) (rest := []) ⟨hx, hb, hml, hown, hts⟩ (c_Mo_blanks l dC dI mo H (rf v j2 b2) cB qx NN f n j2 (by omega) (by omega) (by omega) ((rf_ne (by decide) (by decide)).trans h6) rf_7 ((rf_ne (by decide) (by decide)).trans h8)) (cwV 0 hts (gt_V (own := R_Mo) (C := R_Mo) (i := 184) (y := y_Mo_blanks) i_Mo_blanks w_1229 w_1231 (gt_sel (y := y_Mo_blanks) (n := 30) (by decide +kernel)) w_7) rfl rfl rfl (by decide +kernel) ⟨Nat.le_of_ble_eq_true rfl, Nat.le_of_ble_eq_true rfl⟩) ⟨mp_blind, va_recv hKc hPc (ci := 13) (q0 := 0) rfl rfl, fun U hU hW => ⟨rfl, hU, by rw [hU]; exact hPc, va_K.moved hW.alike hKc, hDc.weaken (fun _ _ _ _ => trivial)⟩⟩ rfl rfl hl.1 rfl (lv_room (Nat.le_of_ble_eq_true rfl)) d_Mo_value_254 ⟨hfit_T2.1, hfit_T2.2⟩) hS (fun q _ h => hFc q h) hFc (fun _u t9 H1 locs ht hvm hw hB hz1 hk1 hS => ?_)
                obtain ⟨hP1, hK1, hD1⟩ := hB
                rw [ht] at hP1
                obtain ⟨hP, hD⟩ := va_join (wr := [(t, .inr (12, MF 13 (tw T2))), (T2.a0, .inl (cI, T2.N, .inl T2.kd)), (T2.a1, .inl (cL, T2.N, .inr (.inl T2.nu))), (T2.a2, .inl (cI, T2.N, .inl T2.st)), (T2.a3, .inl (cI, T2.N, .inl T2.ln)), (T2.a4, .inl (cI, T2.N, .inl T2.ki)), (T2.a5, .inl (cI, T2.N, .inl T2.nx)), (T2.a6, .inl (cI, T2.N, .inl T2.ns)), (T2.a7, .inl (cI, T2.N, .inl T2.nl)), (T2.a8, .inl (cI, T2.N, .inl T2.pa)), (T2.a9, .inl (cI, T2.N, .inl T2.pl)), (T2.au, .inl (cC, T2.U, .inl T2.un))]) (w1 := [(mo, .inr (13, MF 30 (va_up (rf v j2 b2) 7 (.int (nI (skipH f n j2)))))), (qx, .inl (cB, NN, .inl f))]) hP hD [0, 1] [2, 3, 4, 5, 6, 7, 8, 9, 10, 11, 12, 13] rfl rfl (by decide) (by decide) hk1 hFc hP1 hD1
                generalize H1 = H at hP hS ⊢
                have hP : va_P (dC, dI) classes [(t, .inr (12, MF 13 (tw T2))), (T2.a0, .inl (cI, T2.N, .inl T2.kd)), (T2.a1, .inl (cL, T2.N, .inr (.inl T2.nu))), (T2.a2, .inl (cI, T2.N, .inl T2.st)), (T2.a3, .inl (cI, T2.N, .inl T2.ln)), (T2.a4, .inl (cI, T2.N, .inl T2.ki)), (T2.a5, .inl (cI, T2.N, .inl T2.nx)), (T2.a6, .inl (cI, T2.N, .inl T2.ns)), (T2.a7, .inl (cI, T2.N, .inl T2.nl)), (T2.a8, .inl (cI, T2.N, .inl T2.pa)), (T2.a9, .inl (cI, T2.N, .inl T2.pl)), (T2.au, .inl (cC, T2.U, .inl T2.un)), (mo, .inr (13, MF 30 (va_up (rf v j2 b2) 7 (.int (nI (skipH f n j2)))))), (qx, .inl (cB, NN, .inl f))] H := hP
                have hD : va_D A [(t, .inr (12, MF 13 (tw T2))), (T2.a0, .inl (cI, T2.N, .inl T2.kd)), (T2.a1, .inl (cL, T2.N, .inr (.inl T2.nu))), (T2.a2, .inl (cI, T2.N, .inl T2.st)), (T2.a3, .inl (cI, T2.N, .inl T2.ln)), (T2.a4, .inl (cI, T2.N, .inl T2.ki)), (T2.a5, .inl (cI, T2.N, .inl T2.nx)), (T2.a6, .inl (cI, T2.N, .inl T2.ns)), (T2.a7, .inl (cI, T2.N, .inl T2.nl)), (T2.a8, .inl (cI, T2.N, .inl T2.pa)), (T2.a9, .inl (cI, T2.N, .inl T2.pl)), (T2.au, .inl (cC, T2.U, .inl T2.un)), (mo, .inr (13, MF 30 (va_up (rf v j2 b2) 7 (.int (nI (skipH f n j2)))))), (qx, .inl (cB, NN, .inl f))] := hD
                have hP := hP.sub (ws' := [(mo, .inr (13, MF 30 (va_up (rf v j2 b2) 7 (.int (nI (skipH f n j2)))))), (qx, .inl (cB, NN, .inl f)), (t, .inr (12, MF 13 (tw T2))), (T2.a0, .inl (cI, T2.N, .inl T2.kd)), (T2.a1, .inl (cL, T2.N, .inr (.inl T2.nu))), (T2.a2, .inl (cI, T2.N, .inl T2.st)), (T2.a3, .inl (cI, T2.N, .inl T2.ln)), (T2.a4, .inl (cI, T2.N, .inl T2.ki)), (T2.a5, .inl (cI, T2.N, .inl T2.nx)), (T2.a6, .inl (cI, T2.N, .inl T2.ns)), (T2.a7, .inl (cI, T2.N, .inl T2.nl)), (T2.a8, .inl (cI, T2.N, .inl T2.pa)), (T2.a9, .inl (cI, T2.N, .inl T2.pl)), (T2.au, .inl (cC, T2.U, .inl T2.un))]) [12, 13, 0, 1, 2, 3, 4, 5, 6, 7, 8, 9, 10, 11] rfl
                have hD := hD.sub (ws' := [(mo, .inr (13, MF 30 (va_up (rf v j2 b2) 7 (.int (nI (skipH f n j2)))))), (qx, .inl (cB, NN, .inl f)), (t, .inr (12, MF 13 (tw T2))), (T2.a0, .inl (cI, T2.N, .inl T2.kd)), (T2.a1, .inl (cL, T2.N, .inr (.inl T2.nu))), (T2.a2, .inl (cI, T2.N, .inl T2.st)), (T2.a3, .inl (cI, T2.N, .inl T2.ln)), (T2.a4, .inl (cI, T2.N, .inl T2.ki)), (T2.a5, .inl (cI, T2.N, .inl T2.nx)), (T2.a6, .inl (cI, T2.N, .inl T2.ns)), (T2.a7, .inl (cI, T2.N, .inl T2.nl)), (T2.a8, .inl (cI, T2.N, .inl T2.pa)), (T2.a9, .inl (cI, T2.N, .inl T2.pl)), (T2.au, .inl (cC, T2.U, .inl T2.un))]) [12, 13, 0, 1, 2, 3, 4, 5, 6, 7, 8, 9, 10, 11] (by decide) rfl
                rw [rf_u7] at hP hD
                have hP : va_P (dC, dI) classes [(mo, .inr (13, MF 30 (rf v (skipH f n j2) b2))), (qx, .inl (cB, NN, .inl f)), (t, .inr (12, MF 13 (tw T2))), (T2.a0, .inl (cI, T2.N, .inl T2.kd)), (T2.a1, .inl (cL, T2.N, .inr (.inl T2.nu))), (T2.a2, .inl (cI, T2.N, .inl T2.st)), (T2.a3, .inl (cI, T2.N, .inl T2.ln)), (T2.a4, .inl (cI, T2.N, .inl T2.ki)), (T2.a5, .inl (cI, T2.N, .inl T2.nx)), (T2.a6, .inl (cI, T2.N, .inl T2.ns)), (T2.a7, .inl (cI, T2.N, .inl T2.nl)), (T2.a8, .inl (cI, T2.N, .inl T2.pa)), (T2.a9, .inl (cI, T2.N, .inl T2.pl)), (T2.au, .inl (cC, T2.U, .inl T2.un))] H := hP
                have hD : va_D A [(mo, .inr (13, MF 30 (rf v (skipH f n j2) b2))), (qx, .inl (cB, NN, .inl f)), (t, .inr (12, MF 13 (tw T2))), (T2.a0, .inl (cI, T2.N, .inl T2.kd)), (T2.a1, .inl (cL, T2.N, .inr (.inl T2.nu))), (T2.a2, .inl (cI, T2.N, .inl T2.st)), (T2.a3, .inl (cI, T2.N, .inl T2.ln)), (T2.a4, .inl (cI, T2.N, .inl T2.ki)), (T2.a5, .inl (cI, T2.N, .inl T2.nx)), (T2.a6, .inl (cI, T2.N, .inl T2.ns)), (T2.a7, .inl (cI, T2.N, .inl T2.nl)), (T2.a8, .inl (cI, T2.N, .inl T2.pa)), (T2.a9, .inl (cI, T2.N, .inl T2.pl)), (T2.au, .inl (cC, T2.U, .inl T2.un))] := hD
                have hsk_257 := skipH_n (f := f) (show j2 ≤ n by omega)
                refine lv_iload hx hb d_Mo_value_257 (lv_at hl 0 rfl) ?_
                have hpv : pV f n 0 i = some (jleaf 0 (3, val, []), (skipH f n j2)) := by rw [pV_leaf _ hnc, hpl]; rfl
                have hRV : RepV T2 0 T.ct T2.ct (jleaf 0 (3, val, [])) := leafRep hRepn (by show (3 : Nat) < 5; omega) hkin hctn _
                refine w_same (fun hq => ?_)
                refine W.widen (k := ncap T (T.ct + (n + 12 - i)) + qcap T (T.us + (n + 12 - i))) (n := 20 * ncap T (T.ct + (n + 12 - i)) + 2 * qcap T (T.us + (n + 12 - i))) hfit_T2.1 hfit_T2.2 ?_
                have hTG : TG n i T T2 := ⟨hTk_T2, hGB_T2⟩
                exact W.iret (v := nI T.ct) hx hb hr (fun t9 ht hW => ⟨⟨nI T.ct, (T2, (skipH f n j2), b2), rfl, ⟨hTG, Or.inl ⟨(jleaf 0 (3, val, [])), rfl, hpv, hRV, hTEn, hpan, by show T.ct < T2.ct; omega, by show T2.ct + i ≤ T.ct + (skipH f n j2); omega, by show T2.us + i ≤ T.us + (skipH f n j2); omega, by show (skipH f n j2) ≤ n; omega⟩⟩, ⟨by rw [ht]; exact hP, va_K.moved hW.alike hK, hD⟩, by rw [ht]; exact hq⟩, hS.F ht⟩) hS.2.2 d_Mo_value_259
              · have hw3 : nu2 = T1.nu := hw3
                subst hw3
                subst hw1
                have hP : va_P (dC, dI) classes [(mo, .inr (13, MF 30 (rf v j2 b2))), (qx, .inl (cB, NN, .inl f)), (t, .inr (12, MF 13 (tw T1))), (T1.a0, .inl (cI, T1.N, .inl T1.kd)), (T1.a1, .inl (cL, T1.N, .inr (.inl T1.nu))), (T1.a2, .inl (cI, T1.N, .inl T1.st)), (T1.a3, .inl (cI, T1.N, .inl T1.ln)), (T1.a4, .inl (cI, T1.N, .inl T1.ki)), (T1.a5, .inl (cI, T1.N, .inl T1.nx)), (T1.a6, .inl (cI, T1.N, .inl T1.ns)), (T1.a7, .inl (cI, T1.N, .inl T1.nl)), (T1.a8, .inl (cI, T1.N, .inl T1.pa)), (T1.a9, .inl (cI, T1.N, .inl T1.pl)), (T1.au, .inl (cC, T1.U, .inl T1.un))] H := hP
                have hD : va_D A [(mo, .inr (13, MF 30 (rf v j2 b2))), (qx, .inl (cB, NN, .inl f)), (t, .inr (12, MF 13 (tw T1))), (T1.a0, .inl (cI, T1.N, .inl T1.kd)), (T1.a1, .inl (cL, T1.N, .inr (.inl T1.nu))), (T1.a2, .inl (cI, T1.N, .inl T1.st)), (T1.a3, .inl (cI, T1.N, .inl T1.ln)), (T1.a4, .inl (cI, T1.N, .inl T1.ki)), (T1.a5, .inl (cI, T1.N, .inl T1.nx)), (T1.a6, .inl (cI, T1.N, .inl T1.ns)), (T1.a7, .inl (cI, T1.N, .inl T1.nl)), (T1.a8, .inl (cI, T1.N, .inl T1.pa)), (T1.a9, .inl (cI, T1.N, .inl T1.pl)), (T1.au, .inl (cC, T1.U, .inl T1.un))] := hD
                have hnu45 : hereV f n (skipH f n i) = 45 ∨ digH (hereV f n (skipH f n i)) := by rw [← h_r1]; exact Or.inr (h_d1.1 c147)
                refine lv_if_ne (tgt := 253) hx hb d_Mo_value_164 (by decide) (fun h => absurd h (by decide)) (fun _ => ?_)
                refine lv_iconst (v := (-1)) hx hb d_Mo_value_167 (by decide) ?_
                have hpl : pLeaf f n (skipH f n i) = none := by unfold pLeaf; rw [if_neg (fun h => c12 (h_r1.trans h)), if_neg (fun h => c18 (h_r1.trans h)), if_neg (fun h => c24 (h_r1.trans h)), if_neg (fun h => c93 (h_r1.trans h)), if_pos hnu45, hw2]
                have hfin : pV f n 0 i = none := by rw [pV_leaf _ (fun h => by rcases h with h | h <;> rw [h] at hnu45 <;> revert hnu45 <;> decide), hpl]; rfl
                refine w_same (fun hq => ?_)
                refine W.widen (k := ncap T (T.ct + (n + 12 - i)) + qcap T (T.us + (n + 12 - i))) (n := 20 * ncap T (T.ct + (n + 12 - i)) + 2 * qcap T (T.us + (n + 12 - i))) hfit_T1.1 hfit_T1.2 ?_
                have hTG : TG n i T T1 := ⟨hTk_T1, hGB_T1⟩
                exact W.iret (v := -1) hx hb hr (fun t9 ht hW => ⟨⟨-1, (T1, j2, b2), rfl, ⟨hTG, Or.inr ⟨rfl, hfin⟩⟩, ⟨by rw [ht]; exact hP, va_K.moved hW.alike hK, hD⟩, by rw [ht]; exact hq⟩, hS.F ht⟩) hS.2.2 d_Mo_value_168
        · refine lv_aload_n hx hb d_Mo_value_96 rfl (lv_at hl 2 rfl) ?_
          refine lv_iconst (v := 4) hx hb d_Mo_value_97 (by decide) ?_
          have hPc := hP.sub (ws' := [(t, .inr (12, MF 13 (tw T))), (T.a0, .inl (cI, T.N, .inl T.kd)), (T.a1, .inl (cL, T.N, .inr (.inl T.nu))), (T.a2, .inl (cI, T.N, .inl T.st)), (T.a3, .inl (cI, T.N, .inl T.ln)), (T.a4, .inl (cI, T.N, .inl T.ki)), (T.a5, .inl (cI, T.N, .inl T.nx)), (T.a6, .inl (cI, T.N, .inl T.ns)), (T.a7, .inl (cI, T.N, .inl T.nl)), (T.a8, .inl (cI, T.N, .inl T.pa)), (T.a9, .inl (cI, T.N, .inl T.pl)), (T.au, .inl (cC, T.U, .inl T.un))]) [2, 3, 4, 5, 6, 7, 8, 9, 10, 11, 12, 13] rfl
          have hDc := hD.sub (ws' := [(t, .inr (12, MF 13 (tw T))), (T.a0, .inl (cI, T.N, .inl T.kd)), (T.a1, .inl (cL, T.N, .inr (.inl T.nu))), (T.a2, .inl (cI, T.N, .inl T.st)), (T.a3, .inl (cI, T.N, .inl T.ln)), (T.a4, .inl (cI, T.N, .inl T.ki)), (T.a5, .inl (cI, T.N, .inl T.nx)), (T.a6, .inl (cI, T.N, .inl T.ns)), (T.a7, .inl (cI, T.N, .inl T.nl)), (T.a8, .inl (cI, T.N, .inl T.pa)), (T.a9, .inl (cI, T.N, .inl T.pl)), (T.au, .inl (cC, T.U, .inl T.un))]) [2, 3, 4, 5, 6, 7, 8, 9, 10, 11, 12, 13] (by decide) rfl
          have hKc := hK.sub (tys' := [(cI, .int), (cL, .long), (cC, .char)]) [1, 2, 3] rfl
          have hFc := va_free (wc := [(t, .inr (12, MF 13 (tw T))), (T.a0, .inl (cI, T.N, .inl T.kd)), (T.a1, .inl (cL, T.N, .inr (.inl T.nu))), (T.a2, .inl (cI, T.N, .inl T.st)), (T.a3, .inl (cI, T.N, .inl T.ln)), (T.a4, .inl (cI, T.N, .inl T.ki)), (T.a5, .inl (cI, T.N, .inl T.nx)), (T.a6, .inl (cI, T.N, .inl T.ns)), (T.a7, .inl (cI, T.N, .inl T.nl)), (T.a8, .inl (cI, T.N, .inl T.pa)), (T.a9, .inl (cI, T.N, .inl T.pl)), (T.au, .inl (cC, T.U, .inl T.un))]) hD hS hA [2, 3, 4, 5, 6, 7, 8, 9, 10, 11, 12, 13] rfl
          refine w_same (fun hq0 => ?_)
          refine va_calli (va_runV (As := [.int 4]) (rest := []) ⟨hx, hb, hml, hown, hts⟩ (c_Tree_add l dC dI t H cI cL cC T 4 hTk_T) (cwV 1 hts (gt_V (own := R_Mo) (C := R_Tree) (i := 197) (y := y_Tree_add) i_Tree_add w_1254 w_1255 w_1256 w_8) rfl rfl rfl (by decide +kernel) ⟨Nat.le_of_ble_eq_true rfl, Nat.le_of_ble_eq_true rfl⟩) ⟨mp_blind, va_recv hKc hPc (ci := 12) (q0 := 0) rfl rfl, fun U hU hW => ⟨rfl, hU, by rw [hU]; exact hPc, va_K.moved hW.alike hKc, hDc.weaken (fun _ _ _ _ => trivial)⟩⟩ rfl rfl hl.1 rfl (lv_room (Nat.le_of_ble_eq_true rfl)) d_Mo_value_98 ⟨(TAd.fit hGB_T hTk_T (by omega)).1, (TAd.fit hGB_T hTk_T (by omega)).2⟩) hS (fun q _ h => hFc q h) hFc (fun r0 T1 t9 H1 locs ht hvm hw hB hz1 hk1 hS => ?_)
          obtain ⟨⟨hP1, hK1, hD1⟩, hz9⟩ := hB
          rw [ht] at hP1
          rw [ht] at hz9
          obtain ⟨hr0, hA_T1⟩ := hw
          have hA_T1 : TAd T T1 4 := hA_T1
          have hAg := hA_T1.gb hTk_T (by omega)
          obtain ⟨hGB_T1, hGc_T1, hGs_T1⟩ := hGB_T.tr hAg.1 (show T.ct + 1 ≤ (T.ct + (n + 12 - i)) by omega) (Nat.zero_le _)
          have hGc_T1 := Nat.le_trans (Nat.add_le_add_left hAg.2.1 _) hGc_T1
          have hGs_T1 := Nat.le_trans (Nat.add_le_add_left hAg.2.2 _) hGs_T1
          have hq1 : szk s.heap H1 (cE T T1) (sE T T1) := (hq0.trans hz9).mono hGc_T1 hGs_T1
          refine w_tight hq1 ?_
          obtain ⟨hP, hD⟩ := va_join (wr := [(mo, .inr (13, MF 30 (rf v (skipH f n i) br))), (qx, .inl (cB, NN, .inl f))]) (w1 := [(t, .inr (12, MF 13 (tw T1))), (T1.a0, .inl (cI, T1.N, .inl T1.kd)), (T1.a1, .inl (cL, T1.N, .inr (.inl T1.nu))), (T1.a2, .inl (cI, T1.N, .inl T1.st)), (T1.a3, .inl (cI, T1.N, .inl T1.ln)), (T1.a4, .inl (cI, T1.N, .inl T1.ki)), (T1.a5, .inl (cI, T1.N, .inl T1.nx)), (T1.a6, .inl (cI, T1.N, .inl T1.ns)), (T1.a7, .inl (cI, T1.N, .inl T1.nl)), (T1.a8, .inl (cI, T1.N, .inl T1.pa)), (T1.a9, .inl (cI, T1.N, .inl T1.pl)), (T1.au, .inl (cC, T1.U, .inl T1.un))]) hP hD [2, 3, 4, 5, 6, 7, 8, 9, 10, 11, 12, 13] [0, 1] rfl rfl (by decide) (by decide) hk1 hFc hP1 hD1
          generalize H1 = H at hP hS ⊢
          have hP : va_P (dC, dI) classes [(mo, .inr (13, MF 30 (rf v (skipH f n i) br))), (qx, .inl (cB, NN, .inl f)), (t, .inr (12, MF 13 (tw T1))), (T1.a0, .inl (cI, T1.N, .inl T1.kd)), (T1.a1, .inl (cL, T1.N, .inr (.inl T1.nu))), (T1.a2, .inl (cI, T1.N, .inl T1.st)), (T1.a3, .inl (cI, T1.N, .inl T1.ln)), (T1.a4, .inl (cI, T1.N, .inl T1.ki)), (T1.a5, .inl (cI, T1.N, .inl T1.nx)), (T1.a6, .inl (cI, T1.N, .inl T1.ns)), (T1.a7, .inl (cI, T1.N, .inl T1.nl)), (T1.a8, .inl (cI, T1.N, .inl T1.pa)), (T1.a9, .inl (cI, T1.N, .inl T1.pl)), (T1.au, .inl (cC, T1.U, .inl T1.un))] H := hP
          have hD : va_D A [(mo, .inr (13, MF 30 (rf v (skipH f n i) br))), (qx, .inl (cB, NN, .inl f)), (t, .inr (12, MF 13 (tw T1))), (T1.a0, .inl (cI, T1.N, .inl T1.kd)), (T1.a1, .inl (cL, T1.N, .inr (.inl T1.nu))), (T1.a2, .inl (cI, T1.N, .inl T1.st)), (T1.a3, .inl (cI, T1.N, .inl T1.ln)), (T1.a4, .inl (cI, T1.N, .inl T1.ki)), (T1.a5, .inl (cI, T1.N, .inl T1.nx)), (T1.a6, .inl (cI, T1.N, .inl T1.ns)), (T1.a7, .inl (cI, T1.N, .inl T1.nl)), (T1.a8, .inl (cI, T1.N, .inl T1.pa)), (T1.a9, .inl (cI, T1.N, .inl T1.pl)), (T1.au, .inl (cC, T1.U, .inl T1.un))] := hD
          have hTk_T1 := (hA_T1.ok hTk_T (by omega)).1
          have hAc_T1 : T1.ct = T.ct + 1 ∧ T1.us = T.us := ⟨(hA_T1.ok hTk_T (by omega)).2.2.2.2.2.1, (hA_T1.ok hTk_T (by omega)).2.2.2.2.1⟩
          have hr0 : r0 = nI T.ct := hr0
          subst hr0
          have hfit_T1 := hGB_T1.fits
          refine lv_istore (lv' := [(4, .int (nI T.ct)), (3, .int r1), (0, .ref mo), (1, .ref t), (2, .int (nI (32 - 0)))]) hx hb d_Mo_value_101 hl (by decide) rfl (fun ls hl => ?_)
          refine lv_aload_n hx hb d_Mo_value_103 rfl (lv_at hl 2 rfl) ?_
          refine lv_bipush (v := 34) hx hb d_Mo_value_104 (by decide) ?_
          refine lv_aload_n hx hb d_Mo_value_106 rfl (lv_at hl 3 rfl) ?_
          have hq34 : hereV f n (skipH f n i) = 34 := h_r1.symm.trans c93
          have hltq := here_in hq34 (by decide)
          have hPc := hP.sub (ws' := [(mo, .inr (13, MF 30 (rf v (skipH f n i) br))), (qx, .inl (cB, NN, .inl f)), (t, .inr (12, MF 13 (tw T1))), (T1.au, .inl (cC, T1.U, .inl T1.un))]) [0, 1, 2, 13] rfl
          have hDc := hD.sub (ws' := [(mo, .inr (13, MF 30 (rf v (skipH f n i) br))), (qx, .inl (cB, NN, .inl f)), (t, .inr (12, MF 13 (tw T1))), (T1.au, .inl (cC, T1.U, .inl T1.un))]) [0, 1, 2, 13] (by decide) rfl
          have hKc := hK.sub (tys' := [(cB, .byte), (cC, .char)]) [0, 3] rfl
          have hFc := va_free (wc := [(mo, .inr (13, MF 30 (rf v (skipH f n i) br))), (qx, .inl (cB, NN, .inl f)), (t, .inr (12, MF 13 (tw T1))), (T1.au, .inl (cC, T1.U, .inl T1.un))]) hD hS hA [0, 1, 2, 13] rfl
          refine w_same (fun hq0 => ?_)
          refine va_calli (va_runV (As := [.int 34, .ref t]) (rest := []) ⟨hx, hb, hml, hown, hts⟩ (c_Mo_quoted l dC dI mo H v cB cC qx NN f n K t T1 (skipH f n i) br 34 hnN hNN (by omega) h6 h8 (by decide) hTk_T1 (by omega)) (cwV 2 hts (gt_V (own := R_Mo) (C := R_Mo) (i := 200) (y := y_Mo_quoted) i_Mo_quoted w_1261 w_1263 (gt_sel (y := y_Mo_quoted) (n := 30) (by decide +kernel)) w_7) rfl rfl rfl (by decide +kernel) ⟨Nat.le_of_ble_eq_true rfl, Nat.le_of_ble_eq_true rfl⟩) ⟨me_blind, va_recv hKc hPc (ci := 13) (q0 := 0) rfl rfl, fun U hU hW => ⟨rfl, ⟨hU, by rw [hU]; exact hPc, va_K.moved hW.alike hKc, hDc.weaken (fun _ _ _ _ => trivial)⟩, by rw [hU]; exact ME.call hM hS.2.1 hFc hW⟩⟩ rfl rfl hl.1 rfl (lv_room (Nat.le_of_ble_eq_true rfl)) d_Mo_value_107 ⟨(hGB_T1.stepQ (C2 := T1.us + (n + 12 - (skipH f n i))) (by omega)).1, (hGB_T1.stepQ (C2 := T1.us + (n + 12 - (skipH f n i))) (by omega)).2⟩) hS (fun q _ h => hFc q h) hFc (fun r0 ⟨T2, us9, j_T2, b_T2⟩ t9 H1 locs ht hvm hw hB hz1 hk1 hS => ?_)
          obtain ⟨⟨hP1, hK1, hD1⟩, hz9⟩ := hB
          rw [ht] at hP1
          rw [ht] at hz9
          obtain ⟨hX_T2, hw⟩ := hw
          have hX_T2 : TX T1 T2 us9 := hX_T2
          have hXa_T2 := hX_T2.alk
          have hXs_T2 := hX_T2.us
          have hln_T2 : us9.length ≤ n + 12 - (skipH f n i) := by rcases hw with ⟨_, _, h9, h8⟩ | ⟨_, _, h9, _⟩; exact Nat.le_sub_of_add_le (show us9.length + (skipH f n i) ≤ n + 12 by have h8 : us9.length + (skipH f n i) + 2 ≤ j_T2 := h8; have h9 : j_T2 ≤ n := h9; omega); exact h9
          obtain ⟨hGB_T2, hGc_T2, hGs_T2⟩ := hGB_T1.tr hX_T2.gb.1 (Nat.zero_le _) (show T1.us + us9.length ≤ (T.us + (n + 12 - i)) by omega)
          rw [← hX_T2.gb.2.1] at hGc_T2
          rw [← hX_T2.gb.2.2] at hGs_T2
          have hz9 : szk H H1 (T2.U - T1.U) (2 * (T2.U - T1.U)) := hz9
          have hq1 : szk s.heap H1 (cE T T2) (sE T T2) := (hq0.trans hz9).mono hGc_T2 hGs_T2
          refine w_tight hq1 ?_
          obtain ⟨hP, hD⟩ := va_join (wr := [(T1.a0, .inl (cI, T1.N, .inl T1.kd)), (T1.a1, .inl (cL, T1.N, .inr (.inl T1.nu))), (T1.a2, .inl (cI, T1.N, .inl T1.st)), (T1.a3, .inl (cI, T1.N, .inl T1.ln)), (T1.a4, .inl (cI, T1.N, .inl T1.ki)), (T1.a5, .inl (cI, T1.N, .inl T1.nx)), (T1.a6, .inl (cI, T1.N, .inl T1.ns)), (T1.a7, .inl (cI, T1.N, .inl T1.nl)), (T1.a8, .inl (cI, T1.N, .inl T1.pa)), (T1.a9, .inl (cI, T1.N, .inl T1.pl))]) (w1 := [(mo, .inr (13, MF 30 (rf v j_T2 b_T2))), (qx, .inl (cB, NN, .inl f)), (t, .inr (12, MF 13 (tw T2))), (T2.au, .inl (cC, T2.U, .inl T2.un))]) hP hD [0, 1, 2, 13] [3, 4, 5, 6, 7, 8, 9, 10, 11, 12] rfl rfl (by decide) (by decide) hk1 hFc hP1 hD1
          generalize H1 = H at hP hS ⊢
          have hP : va_P (dC, dI) classes [(T1.a0, .inl (cI, T1.N, .inl T1.kd)), (T1.a1, .inl (cL, T1.N, .inr (.inl T1.nu))), (T1.a2, .inl (cI, T1.N, .inl T1.st)), (T1.a3, .inl (cI, T1.N, .inl T1.ln)), (T1.a4, .inl (cI, T1.N, .inl T1.ki)), (T1.a5, .inl (cI, T1.N, .inl T1.nx)), (T1.a6, .inl (cI, T1.N, .inl T1.ns)), (T1.a7, .inl (cI, T1.N, .inl T1.nl)), (T1.a8, .inl (cI, T1.N, .inl T1.pa)), (T1.a9, .inl (cI, T1.N, .inl T1.pl)), (mo, .inr (13, MF 30 (rf v j_T2 b_T2))), (qx, .inl (cB, NN, .inl f)), (t, .inr (12, MF 13 (tw T2))), (T2.au, .inl (cC, T2.U, .inl T2.un))] H := hP
          have hD : va_D A [(T1.a0, .inl (cI, T1.N, .inl T1.kd)), (T1.a1, .inl (cL, T1.N, .inr (.inl T1.nu))), (T1.a2, .inl (cI, T1.N, .inl T1.st)), (T1.a3, .inl (cI, T1.N, .inl T1.ln)), (T1.a4, .inl (cI, T1.N, .inl T1.ki)), (T1.a5, .inl (cI, T1.N, .inl T1.nx)), (T1.a6, .inl (cI, T1.N, .inl T1.ns)), (T1.a7, .inl (cI, T1.N, .inl T1.nl)), (T1.a8, .inl (cI, T1.N, .inl T1.pa)), (T1.a9, .inl (cI, T1.N, .inl T1.pl)), (mo, .inr (13, MF 30 (rf v j_T2 b_T2))), (qx, .inl (cB, NN, .inl f)), (t, .inr (12, MF 13 (tw T2))), (T2.au, .inl (cC, T2.U, .inl T2.un))] := hD
          have hP := hP.sub (ws' := [(mo, .inr (13, MF 30 (rf v j_T2 b_T2))), (qx, .inl (cB, NN, .inl f)), (t, .inr (12, MF 13 (tw T2))), (T1.a0, .inl (cI, T1.N, .inl T1.kd)), (T1.a1, .inl (cL, T1.N, .inr (.inl T1.nu))), (T1.a2, .inl (cI, T1.N, .inl T1.st)), (T1.a3, .inl (cI, T1.N, .inl T1.ln)), (T1.a4, .inl (cI, T1.N, .inl T1.ki)), (T1.a5, .inl (cI, T1.N, .inl T1.nx)), (T1.a6, .inl (cI, T1.N, .inl T1.ns)), (T1.a7, .inl (cI, T1.N, .inl T1.nl)), (T1.a8, .inl (cI, T1.N, .inl T1.pa)), (T1.a9, .inl (cI, T1.N, .inl T1.pl)), (T2.au, .inl (cC, T2.U, .inl T2.un))]) [10, 11, 12, 0, 1, 2, 3, 4, 5, 6, 7, 8, 9, 13] rfl
          have hD := hD.sub (ws' := [(mo, .inr (13, MF 30 (rf v j_T2 b_T2))), (qx, .inl (cB, NN, .inl f)), (t, .inr (12, MF 13 (tw T2))), (T1.a0, .inl (cI, T1.N, .inl T1.kd)), (T1.a1, .inl (cL, T1.N, .inr (.inl T1.nu))), (T1.a2, .inl (cI, T1.N, .inl T1.st)), (T1.a3, .inl (cI, T1.N, .inl T1.ln)), (T1.a4, .inl (cI, T1.N, .inl T1.ki)), (T1.a5, .inl (cI, T1.N, .inl T1.nx)), (T1.a6, .inl (cI, T1.N, .inl T1.ns)), (T1.a7, .inl (cI, T1.N, .inl T1.nl)), (T1.a8, .inl (cI, T1.N, .inl T1.pa)), (T1.a9, .inl (cI, T1.N, .inl T1.pl)), (T2.au, .inl (cC, T2.U, .inl T2.un))]) [10, 11, 12, 0, 1, 2, 3, 4, 5, 6, 7, 8, 9, 13] (by decide) rfl
          have hP := hP.sub (ws' := [(mo, .inr (13, MF 30 (rf v j_T2 b_T2))), (qx, .inl (cB, NN, .inl f)), (t, .inr (12, MF 13 (tw T2))), (T1.a0, .inl (cI, T1.N, .inl T1.kd)), (T1.a1, .inl (cL, T1.N, .inr (.inl T1.nu))), (T1.a2, .inl (cI, T1.N, .inl T1.st)), (T1.a3, .inl (cI, T1.N, .inl T1.ln)), (T1.a4, .inl (cI, T1.N, .inl T1.ki)), (T1.a5, .inl (cI, T1.N, .inl T1.nx)), (T1.a6, .inl (cI, T1.N, .inl T1.ns)), (T1.a7, .inl (cI, T1.N, .inl T1.nl)), (T1.a8, .inl (cI, T1.N, .inl T1.pa)), (T1.a9, .inl (cI, T1.N, .inl T1.pl)), (T2.au, .inl (cC, T2.U, .inl T2.un))]) [0, 1, 2, 3, 4, 5, 6, 7, 8, 9, 10, 11, 12, 13] rfl
          have hD := hD.sub (ws' := [(mo, .inr (13, MF 30 (rf v j_T2 b_T2))), (qx, .inl (cB, NN, .inl f)), (t, .inr (12, MF 13 (tw T2))), (T1.a0, .inl (cI, T1.N, .inl T1.kd)), (T1.a1, .inl (cL, T1.N, .inr (.inl T1.nu))), (T1.a2, .inl (cI, T1.N, .inl T1.st)), (T1.a3, .inl (cI, T1.N, .inl T1.ln)), (T1.a4, .inl (cI, T1.N, .inl T1.ki)), (T1.a5, .inl (cI, T1.N, .inl T1.nx)), (T1.a6, .inl (cI, T1.N, .inl T1.ns)), (T1.a7, .inl (cI, T1.N, .inl T1.nl)), (T1.a8, .inl (cI, T1.N, .inl T1.pa)), (T1.a9, .inl (cI, T1.N, .inl T1.pl)), (T2.au, .inl (cC, T2.U, .inl T2.un))]) [0, 1, 2, 3, 4, 5, 6, 7, 8, 9, 10, 11, 12, 13] (by decide) rfl
          have hP : va_P (dC, dI) classes [(mo, .inr (13, MF 30 (rf v j_T2 b_T2))), (qx, .inl (cB, NN, .inl f)), (t, .inr (12, MF 13 (tw T2))), (T2.a0, .inl (cI, T2.N, .inl T2.kd)), (T2.a1, .inl (cL, T2.N, .inr (.inl T2.nu))), (T2.a2, .inl (cI, T2.N, .inl T2.st)), (T2.a3, .inl (cI, T2.N, .inl T2.ln)), (T2.a4, .inl (cI, T2.N, .inl T2.ki)), (T2.a5, .inl (cI, T2.N, .inl T2.nx)), (T2.a6, .inl (cI, T2.N, .inl T2.ns)), (T2.a7, .inl (cI, T2.N, .inl T2.nl)), (T2.a8, .inl (cI, T2.N, .inl T2.pa)), (T2.a9, .inl (cI, T2.N, .inl T2.pl)), (T2.au, .inl (cC, T2.U, .inl T2.un))] H := by obtain ⟨_, _, _, rfl, _⟩ := hX_T2; exact hP
          have hD : va_D A [(mo, .inr (13, MF 30 (rf v j_T2 b_T2))), (qx, .inl (cB, NN, .inl f)), (t, .inr (12, MF 13 (tw T2))), (T2.a0, .inl (cI, T2.N, .inl T2.kd)), (T2.a1, .inl (cL, T2.N, .inr (.inl T2.nu))), (T2.a2, .inl (cI, T2.N, .inl T2.st)), (T2.a3, .inl (cI, T2.N, .inl T2.ln)), (T2.a4, .inl (cI, T2.N, .inl T2.ki)), (T2.a5, .inl (cI, T2.N, .inl T2.nx)), (T2.a6, .inl (cI, T2.N, .inl T2.ns)), (T2.a7, .inl (cI, T2.N, .inl T2.nl)), (T2.a8, .inl (cI, T2.N, .inl T2.pa)), (T2.a9, .inl (cI, T2.N, .inl T2.pl)), (T2.au, .inl (cC, T2.U, .inl T2.un))] := by obtain ⟨_, _, _, rfl, _⟩ := hX_T2; exact hD
          rcases hw with ⟨ho_1, ho_2, ho_3, ho_4⟩ | ⟨ho_1, ho_2, ho_3, ho_4⟩
          · have ho_2 : qtQ f n 34 (skipH f n i) = some (us9, j_T2) := ho_2
            have ho_3 : j_T2 ≤ n := ho_3
            have ho_4 : us9.length + (skipH f n i) + 2 ≤ j_T2 := ho_4
            have hqt_T2 := ho_2
            have hTk_T2 := hX_T2.ok hTk_T1 (by omega)
            have hTk_T2 := hX_T2.ok hTk_T1 (by omega)
            subst ho_1
            have hfit_T2 := hGB_T2.fits
            refine lv_if_ne (tgt := 115) hx hb d_Mo_value_110 (by decide) (fun _ => ?_) (fun h => absurd h (by decide))
            refine lv_aload_n hx hb d_Mo_value_115 rfl (lv_at hl 3 rfl) ?_
            refine va_get (D := (dC, dI)) (ci := 12) (v := .ref T2.a3) (C := R_Tree) (T := F_Tree) (N := 13) hx hb hts in_Tree hown hK hP 2 rfl rfl 3 (by decide) (hts _ w_1041) (fun _ h9 => h9) (MFg (by decide) rfl) d_Mo_value_116 ?_
            refine lv_iload hx hb d_Mo_value_119 (lv_at hl 0 rfl) ?_
            refine lv_aload_n hx hb d_Mo_value_121 rfl (lv_at hl 3 rfl) ?_
            refine va_get (D := (dC, dI)) (ci := 12) (v := .int (nI T2.us)) (C := R_Tree) (T := F_Tree) (N := 13) hx hb hts in_Tree hown hK hP 2 rfl rfl 12 (by decide) (hts _ w_1058) (fun _ h9 => h9) (MFg (by decide) rfl) d_Mo_value_122 ?_
            refine lv_aload_n hx hb d_Mo_value_125 rfl (lv_at hl 3 rfl) ?_
            refine va_get (D := (dC, dI)) (ci := 12) (v := .ref T2.a2) (C := R_Tree) (T := F_Tree) (N := 13) hx hb hts in_Tree hown hK hP 2 rfl rfl 2 (by decide) (hts _ w_1039) (fun _ h9 => h9) (MFg (by decide) rfl) d_Mo_value_126 ?_
            refine lv_iload hx hb d_Mo_value_129 (lv_at hl 0 rfl) ?_
            have hst2 : T2.st T.ct = nI T.us := by rw [(hXa_T2.1 T.ct trivial).2.2.1]; exact hA_T1.2.2.2.2.2.2.2.2.2.2.2.2.2
            refine va_iald hx hb hK hP 5 1 rfl rfl (vp_in_nI (show T.ct < T2.N by have := hTk_T2.2.2.1; omega) (by have := hTk_T2.2.1; omega)) d_Mo_value_131 ?_
            rw [show (nI T.ct).toNatClampNeg = T.ct from nI_clamp (by omega), hst2]
            refine lv_isub hx hb d_Mo_value_132 ?_
            refine W.eq (g2 := F0 m 133 ls [.int (nI us9.length), .int (nI T.ct), .ref T2.a3]) (by rw [show ((nI T2.us) - (nI T.us)) = (nI us9.length) from (by rw [hXs_T2, hAc_T1.2]; exact nI_asub _ _)]) ?_
            refine va_iast hx hb hK hP hD hS 6 1 rfl rfl (vp_in_nI (show T.ct < T2.N by have := hTk_T2.2.2.1; omega) (by have := hTk_T2.2.1; omega)) d_Mo_value_133 (fun H locs hP hD hS => ?_)
            rw [show (nI T.ct).toNatClampNeg = T.ct from nI_clamp (by omega)] at hP hD
            have hP : va_P (dC, dI) classes [(mo, .inr (13, MF 30 (rf v j_T2 b_T2))), (qx, .inl (cB, NN, .inl f)), (t, .inr (12, MF 13 (tw T2))), (T2.a0, .inl (cI, T2.N, .inl T2.kd)), (T2.a1, .inl (cL, T2.N, .inr (.inl T2.nu))), (T2.a2, .inl (cI, T2.N, .inl T2.st)), (T2.a3, .inl (cI, T2.N, .inl (upd T2.ln T.ct (nI us9.length)))), (T2.a4, .inl (cI, T2.N, .inl T2.ki)), (T2.a5, .inl (cI, T2.N, .inl T2.nx)), (T2.a6, .inl (cI, T2.N, .inl T2.ns)), (T2.a7, .inl (cI, T2.N, .inl T2.nl)), (T2.a8, .inl (cI, T2.N, .inl T2.pa)), (T2.a9, .inl (cI, T2.N, .inl T2.pl)), (T2.au, .inl (cC, T2.U, .inl T2.un))] H := hP
            have hD : va_D A [(mo, .inr (13, MF 30 (rf v j_T2 b_T2))), (qx, .inl (cB, NN, .inl f)), (t, .inr (12, MF 13 (tw T2))), (T2.a0, .inl (cI, T2.N, .inl T2.kd)), (T2.a1, .inl (cL, T2.N, .inr (.inl T2.nu))), (T2.a2, .inl (cI, T2.N, .inl T2.st)), (T2.a3, .inl (cI, T2.N, .inl (upd T2.ln T.ct (nI us9.length)))), (T2.a4, .inl (cI, T2.N, .inl T2.ki)), (T2.a5, .inl (cI, T2.N, .inl T2.nx)), (T2.a6, .inl (cI, T2.N, .inl T2.ns)), (T2.a7, .inl (cI, T2.N, .inl T2.nl)), (T2.a8, .inl (cI, T2.N, .inl T2.pa)), (T2.a9, .inl (cI, T2.N, .inl T2.pl)), (T2.au, .inl (cC, T2.U, .inl T2.un))] := hD
            obtain ⟨T3, e_T3⟩ : ∃ z : TS, z = (TS.mk T2.N T2.U T2.ct T2.us T2.a0 T2.a1 T2.a2 T2.a3 T2.a4 T2.a5 T2.a6 T2.a7 T2.a8 T2.a9 T2.au T2.kd T2.st (upd T2.ln T.ct (nI us9.length)) T2.ki T2.nx T2.ns T2.nl T2.pa T2.pl T2.un T2.nu) := ⟨_, rfl⟩
            have hP : va_P (dC, dI) classes [(mo, .inr (13, MF 30 (rf v j_T2 b_T2))), (qx, .inl (cB, NN, .inl f)), (t, .inr (12, MF 13 (tw T3))), (T3.a0, .inl (cI, T3.N, .inl T3.kd)), (T3.a1, .inl (cL, T3.N, .inr (.inl T3.nu))), (T3.a2, .inl (cI, T3.N, .inl T3.st)), (T3.a3, .inl (cI, T3.N, .inl T3.ln)), (T3.a4, .inl (cI, T3.N, .inl T3.ki)), (T3.a5, .inl (cI, T3.N, .inl T3.nx)), (T3.a6, .inl (cI, T3.N, .inl T3.ns)), (T3.a7, .inl (cI, T3.N, .inl T3.nl)), (T3.a8, .inl (cI, T3.N, .inl T3.pa)), (T3.a9, .inl (cI, T3.N, .inl T3.pl)), (T3.au, .inl (cC, T3.U, .inl T3.un))] H := by subst e_T3; exact hP
            have hD : va_D A [(mo, .inr (13, MF 30 (rf v j_T2 b_T2))), (qx, .inl (cB, NN, .inl f)), (t, .inr (12, MF 13 (tw T3))), (T3.a0, .inl (cI, T3.N, .inl T3.kd)), (T3.a1, .inl (cL, T3.N, .inr (.inl T3.nu))), (T3.a2, .inl (cI, T3.N, .inl T3.st)), (T3.a3, .inl (cI, T3.N, .inl T3.ln)), (T3.a4, .inl (cI, T3.N, .inl T3.ki)), (T3.a5, .inl (cI, T3.N, .inl T3.nx)), (T3.a6, .inl (cI, T3.N, .inl T3.ns)), (T3.a7, .inl (cI, T3.N, .inl T3.nl)), (T3.a8, .inl (cI, T3.N, .inl T3.pa)), (T3.a9, .inl (cI, T3.N, .inl T3.pl)), (T3.au, .inl (cC, T3.U, .inl T3.un))] := by subst e_T3; exact hD
            have hT3 : T3.N = T2.N ∧ T3.U = T2.U ∧ T3.ct = T2.ct ∧ T3.us = T2.us ∧ T3.un = T2.un ∧ T3.kd = T2.kd ∧ T3.nu = T2.nu ∧ T3.st = T2.st ∧ T3.ln = upd T2.ln T.ct (nI us9.length) ∧ T3.pa = T2.pa ∧ T3.ki = T2.ki ∧ T3.nx = T2.nx ∧ T3.ns = T2.ns ∧ T3.nl = T2.nl := by rw [e_T3]; exact ⟨rfl, rfl, rfl, rfl, rfl, rfl, rfl, rfl, rfl, rfl, rfl, rfl, rfl, rfl⟩
            obtain ⟨g1, g2, g3, g4, g5, g6, g7, g8, g9, g10, g11, g12, g13, g14⟩ := hT3
            have hTk_T3 : TOK T3 := by obtain ⟨q1, q2, q3, q4, q5, q6, q7⟩ := hTk_T2; exact ⟨by omega, by omega, by omega, by omega, by omega, by omega, by rw [g5]; exact q7⟩
            refine w_same (fun hq => ?_)
            refine w_tight (k := cE T T3) (n := sE T T3) (by unfold cE sE at hq ⊢; rw [g1, g2]; exact hq) ?_
            have hGB_T3 : GB (T.ct + (n + 12 - i)) (T.us + (n + 12 - i)) T T3 := by unfold GB at hGB_T2 ⊢; rw [g1, g2]; exact hGB_T2
            have hfit_T3 := hGB_T3.fits
            have hAA := hA_T1.2.2.2.2.2.2.2
            have hXX := hXa_T2.1 T.ct trivial
            have hTEn : TE T T3 := TE_of (hA_T1.te.trans hX_T2.te) g3 g4 g5 (fun j9 h9 => ⟨by rw [g6], by rw [g7], by rw [g8], by rw [g9]; exact pk_un (by omega), by rw [g11], by rw [g12], by rw [g13], by rw [g14], by rw [g10]⟩)
            have hRepn : RepL T3 T.ct (4, 0, us9.map c16) := ⟨by rw [g6, hXX.1]; exact hAA.1, by show 4 ≤ 6; omega, fun h => absurd h (by show ¬ 4 = 3; omega), fun _ => ⟨T.us, us9.length, by rw [g8]; exact hst2, by rw [g9]; exact pk_us, by omega, by rw [g5, ← hAc_T1.2]; exact hX_T2.un.2⟩, fun h => absurd rfl h⟩
            have hkin : T3.ki T.ct = -1 := by rw [g11, hXX.2.2.2.2.1]; exact hAA.2.1
            have hpan : T3.pa T.ct = -1 := by rw [g10, hXX.2.2.2.2.2.2.2.2]; exact hAA.2.2.2.1
            have hctn : T3.ct = T.ct + 1 := by omega
            have husn : T3.us = T.us + us9.length := by omega
            have hpl : pLeaf f n (skipH f n i) = some ((4, 0, us9.map c16), j_T2) := by unfold pLeaf; rw [if_neg (fun h => c12 (h_r1.trans h)), if_neg (fun h => c18 (h_r1.trans h)), if_neg (fun h => c24 (h_r1.trans h)), if_pos hq34, hqt_T2]
            have hnc : ¬ (hereV f n (skipH f n i) = 91 ∨ hereV f n (skipH f n i) = 123) := fun h => by rw [hq34] at h; revert h; decide
            refine lv_goto (tgt := 253) hx hb d_Mo_value_134 (by decide) ?_
            refine lv_aload_n hx hb d_Mo_value_253 rfl (lv_at hl 2 rfl) ?_
            have hPc := hP.sub (ws' := [(mo, .inr (13, MF 30 (rf v j_T2 b_T2))), (qx, .inl (cB, NN, .inl f))]) [0, 1] rfl
            have hDc := hD.sub (ws' := [(mo, .inr (13, MF 30 (rf v j_T2 b_T2))), (qx, .inl (cB, NN, .inl f))]) [0, 1] (by decide) rfl
            have hKc := hK.sub (tys' := [(cB, .byte)]) [0] rfl
            have hFc := va_free (wc := [(mo, .inr (13, MF 30 (rf v j_T2 b_T2))), (qx, .inl (cB, NN, .inl f))]) hD hS hA [0, 1] rfl
            refine va_callv (va_runV (As := []) (rest := []) ⟨hx, hb, hml, hown, hts⟩ (c_Mo_blanks l dC dI mo H (rf v j_T2 b_T2) cB qx NN f n j_T2 (by omega) (by omega) (by omega) ((rf_ne (by decide) (by decide)).trans h6) rf_7 ((rf_ne (by decide) (by decide)).trans h8)) (cwV 0 hts (gt_V (own := R_Mo) (C := R_Mo) (i := 184) (y := y_Mo_blanks) i_Mo_blanks w_1229 w_1231 (gt_sel (y := y_Mo_blanks) (n := 30) (by decide +kernel)) w_7) rfl rfl rfl (by decide +kernel) ⟨Nat.le_of_ble_eq_true rfl, Nat.le_of_ble_eq_true rfl⟩) ⟨mp_blind, va_recv hKc hPc (ci := 13) (q0 := 0) rfl rfl, fun U hU hW => ⟨rfl, hU, by rw [hU]; exact hPc, va_K.moved hW.alike hKc, hDc.weaken (fun _ _ _ _ => trivial)⟩⟩ rfl rfl hl.1 rfl (lv_room (Nat.le_of_ble_eq_true rfl)) d_Mo_value_254 ⟨hfit_T3.1, hfit_T3.2⟩) hS (fun q _ h => hFc q h) hFc (fun _u t9 H1 locs ht hvm hw hB hz1 hk1 hS => ?_)
            obtain ⟨hP1, hK1, hD1⟩ := hB
            rw [ht] at hP1
            obtain ⟨hP, hD⟩ := va_join (wr := [(t, .inr (12, MF 13 (tw T3))), (T3.a0, .inl (cI, T3.N, .inl T3.kd)), (T3.a1, .inl (cL, T3.N, .inr (.inl T3.nu))), (T3.a2, .inl (cI, T3.N, .inl T3.st)), (T3.a3, .inl (cI, T3.N, .inl T3.ln)), (T3.a4, .inl (cI, T3.N, .inl T3.ki)), (T3.a5, .inl (cI, T3.N, .inl T3.nx)), (T3.a6, .inl (cI, T3.N, .inl T3.ns)), (T3.a7, .inl (cI, T3.N, .inl T3.nl)), (T3.a8, .inl (cI, T3.N, .inl T3.pa)), (T3.a9, .inl (cI, T3.N, .inl T3.pl)), (T3.au, .inl (cC, T3.U, .inl T3.un))]) (w1 := [(mo, .inr (13, MF 30 (va_up (rf v j_T2 b_T2) 7 (.int (nI (skipH f n j_T2)))))), (qx, .inl (cB, NN, .inl f))]) hP hD [0, 1] [2, 3, 4, 5, 6, 7, 8, 9, 10, 11, 12, 13] rfl rfl (by decide) (by decide) hk1 hFc hP1 hD1
            generalize H1 = H at hP hS ⊢
            have hP : va_P (dC, dI) classes [(t, .inr (12, MF 13 (tw T3))), (T3.a0, .inl (cI, T3.N, .inl T3.kd)), (T3.a1, .inl (cL, T3.N, .inr (.inl T3.nu))), (T3.a2, .inl (cI, T3.N, .inl T3.st)), (T3.a3, .inl (cI, T3.N, .inl T3.ln)), (T3.a4, .inl (cI, T3.N, .inl T3.ki)), (T3.a5, .inl (cI, T3.N, .inl T3.nx)), (T3.a6, .inl (cI, T3.N, .inl T3.ns)), (T3.a7, .inl (cI, T3.N, .inl T3.nl)), (T3.a8, .inl (cI, T3.N, .inl T3.pa)), (T3.a9, .inl (cI, T3.N, .inl T3.pl)), (T3.au, .inl (cC, T3.U, .inl T3.un)), (mo, .inr (13, MF 30 (va_up (rf v j_T2 b_T2) 7 (.int (nI (skipH f n j_T2)))))), (qx, .inl (cB, NN, .inl f))] H := hP
            have hD : va_D A [(t, .inr (12, MF 13 (tw T3))), (T3.a0, .inl (cI, T3.N, .inl T3.kd)), (T3.a1, .inl (cL, T3.N, .inr (.inl T3.nu))), (T3.a2, .inl (cI, T3.N, .inl T3.st)), (T3.a3, .inl (cI, T3.N, .inl T3.ln)), (T3.a4, .inl (cI, T3.N, .inl T3.ki)), (T3.a5, .inl (cI, T3.N, .inl T3.nx)), (T3.a6, .inl (cI, T3.N, .inl T3.ns)), (T3.a7, .inl (cI, T3.N, .inl T3.nl)), (T3.a8, .inl (cI, T3.N, .inl T3.pa)), (T3.a9, .inl (cI, T3.N, .inl T3.pl)), (T3.au, .inl (cC, T3.U, .inl T3.un)), (mo, .inr (13, MF 30 (va_up (rf v j_T2 b_T2) 7 (.int (nI (skipH f n j_T2)))))), (qx, .inl (cB, NN, .inl f))] := hD
            have hP := hP.sub (ws' := [(mo, .inr (13, MF 30 (va_up (rf v j_T2 b_T2) 7 (.int (nI (skipH f n j_T2)))))), (qx, .inl (cB, NN, .inl f)), (t, .inr (12, MF 13 (tw T3))), (T3.a0, .inl (cI, T3.N, .inl T3.kd)), (T3.a1, .inl (cL, T3.N, .inr (.inl T3.nu))), (T3.a2, .inl (cI, T3.N, .inl T3.st)), (T3.a3, .inl (cI, T3.N, .inl T3.ln)), (T3.a4, .inl (cI, T3.N, .inl T3.ki)), (T3.a5, .inl (cI, T3.N, .inl T3.nx)), (T3.a6, .inl (cI, T3.N, .inl T3.ns)), (T3.a7, .inl (cI, T3.N, .inl T3.nl)), (T3.a8, .inl (cI, T3.N, .inl T3.pa)), (T3.a9, .inl (cI, T3.N, .inl T3.pl)), (T3.au, .inl (cC, T3.U, .inl T3.un))]) [12, 13, 0, 1, 2, 3, 4, 5, 6, 7, 8, 9, 10, 11] rfl
            have hD := hD.sub (ws' := [(mo, .inr (13, MF 30 (va_up (rf v j_T2 b_T2) 7 (.int (nI (skipH f n j_T2)))))), (qx, .inl (cB, NN, .inl f)), (t, .inr (12, MF 13 (tw T3))), (T3.a0, .inl (cI, T3.N, .inl T3.kd)), (T3.a1, .inl (cL, T3.N, .inr (.inl T3.nu))), (T3.a2, .inl (cI, T3.N, .inl T3.st)), (T3.a3, .inl (cI, T3.N, .inl T3.ln)), (T3.a4, .inl (cI, T3.N, .inl T3.ki)), (T3.a5, .inl (cI, T3.N, .inl T3.nx)), (T3.a6, .inl (cI, T3.N, .inl T3.ns)), (T3.a7, .inl (cI, T3.N, .inl T3.nl)), (T3.a8, .inl (cI, T3.N, .inl T3.pa)), (T3.a9, .inl (cI, T3.N, .inl T3.pl)), (T3.au, .inl (cC, T3.U, .inl T3.un))]) [12, 13, 0, 1, 2, 3, 4, 5, 6, 7, 8, 9, 10, 11] (by decide) rfl
            rw [rf_u7] at hP hD
            have hP : va_P (dC, dI) classes [(mo, .inr (13, MF 30 (rf v (skipH f n j_T2) b_T2))), (qx, .inl (cB, NN, .inl f)), (t, .inr (12, MF 13 (tw T3))), (T3.a0, .inl (cI, T3.N, .inl T3.kd)), (T3.a1, .inl (cL, T3.N, .inr (.inl T3.nu))), (T3.a2, .inl (cI, T3.N, .inl T3.st)), (T3.a3, .inl (cI, T3.N, .inl T3.ln)), (T3.a4, .inl (cI, T3.N, .inl T3.ki)), (T3.a5, .inl (cI, T3.N, .inl T3.nx)), (T3.a6, .inl (cI, T3.N, .inl T3.ns)), (T3.a7, .inl (cI, T3.N, .inl T3.nl)), (T3.a8, .inl (cI, T3.N, .inl T3.pa)), (T3.a9, .inl (cI, T3.N, .inl T3.pl)), (T3.au, .inl (cC, T3.U, .inl T3.un))] H := hP
            have hD : va_D A [(mo, .inr (13, MF 30 (rf v (skipH f n j_T2) b_T2))), (qx, .inl (cB, NN, .inl f)), (t, .inr (12, MF 13 (tw T3))), (T3.a0, .inl (cI, T3.N, .inl T3.kd)), (T3.a1, .inl (cL, T3.N, .inr (.inl T3.nu))), (T3.a2, .inl (cI, T3.N, .inl T3.st)), (T3.a3, .inl (cI, T3.N, .inl T3.ln)), (T3.a4, .inl (cI, T3.N, .inl T3.ki)), (T3.a5, .inl (cI, T3.N, .inl T3.nx)), (T3.a6, .inl (cI, T3.N, .inl T3.ns)), (T3.a7, .inl (cI, T3.N, .inl T3.nl)), (T3.a8, .inl (cI, T3.N, .inl T3.pa)), (T3.a9, .inl (cI, T3.N, .inl T3.pl)), (T3.au, .inl (cC, T3.U, .inl T3.un))] := hD
            have hsk_257 := skipH_n (f := f) (show j_T2 ≤ n by omega)
            refine lv_iload hx hb d_Mo_value_257 (lv_at hl 0 rfl) ?_
            have hpv : pV f n 0 i = some (jleaf 0 (4, 0, us9.map c16), (skipH f n j_T2)) := by rw [pV_leaf _ hnc, hpl]; rfl
            have hRV : RepV T3 0 T.ct T3.ct (jleaf 0 (4, 0, us9.map c16)) := leafRep hRepn (by show (4 : Nat) < 5; omega) hkin hctn _
            refine w_same (fun hq => ?_)
            refine W.widen (k := ncap T (T.ct + (n + 12 - i)) + qcap T (T.us + (n + 12 - i))) (n := 20 * ncap T (T.ct + (n + 12 - i)) + 2 * qcap T (T.us + (n + 12 - i))) hfit_T3.1 hfit_T3.2 ?_
            have hTG : TG n i T T3 := ⟨hTk_T3, hGB_T3⟩
            exact W.iret (v := nI T.ct) hx hb hr (fun t9 ht hW => ⟨⟨nI T.ct, (T3, (skipH f n j_T2), b_T2), rfl, ⟨hTG, Or.inl ⟨(jleaf 0 (4, 0, us9.map c16)), rfl, hpv, hRV, hTEn, hpan, by show T.ct < T3.ct; omega, by show T3.ct + i ≤ T.ct + (skipH f n j_T2); omega, by show T3.us + i ≤ T.us + (skipH f n j_T2); omega, by show (skipH f n j_T2) ≤ n; omega⟩⟩, ⟨by rw [ht]; exact hP, va_K.moved hW.alike hK, hD⟩, by rw [ht]; exact hq⟩, hS.F ht⟩) hS.2.2 d_Mo_value_259
          · have ho_2 : qtQ f n 34 (skipH f n i) = none := ho_2
            have ho_3 : us9.length ≤ n + 12 - (skipH f n i) := ho_3
            have ho_4 : j_T2 ≤ n + 30 := ho_4
            have hqt_T2 := ho_2
            have hTk_T2 := hX_T2.ok hTk_T1 (by omega)
            have hTk_T2 := hX_T2.ok hTk_T1 (by omega)
            subst ho_1
            have hfit_T2 := hGB_T2.fits
            refine lv_if_ne (tgt := 115) hx hb d_Mo_value_110 (by decide) (fun h => absurd h (by decide)) (fun _ => ?_)
            refine lv_iconst (v := (-1)) hx hb d_Mo_value_113 (by decide) ?_
            have hpl : pLeaf f n (skipH f n i) = none := by unfold pLeaf; rw [if_neg (fun h => c12 (h_r1.trans h)), if_neg (fun h => c18 (h_r1.trans h)), if_neg (fun h => c24 (h_r1.trans h)), if_pos hq34, hqt_T2]
            have hfin : pV f n 0 i = none := by rw [pV_leaf _ (fun h => by rw [hq34] at h; revert h; decide), hpl]; rfl
            refine w_same (fun hq => ?_)
            refine W.widen (k := ncap T (T.ct + (n + 12 - i)) + qcap T (T.us + (n + 12 - i))) (n := 20 * ncap T (T.ct + (n + 12 - i)) + 2 * qcap T (T.us + (n + 12 - i))) hfit_T2.1 hfit_T2.2 ?_
            have hTG : TG n i T T2 := ⟨hTk_T2, hGB_T2⟩
            exact W.iret (v := -1) hx hb hr (fun t9 ht hW => ⟨⟨-1, (T2, j_T2, b_T2), rfl, ⟨hTG, Or.inr ⟨rfl, hfin⟩⟩, ⟨by rw [ht]; exact hP, va_K.moved hW.alike hK, hD⟩, by rw [ht]; exact hq⟩, hS.F ht⟩) hS.2.2 d_Mo_value_114
      · refine lv_aload_n hx hb d_Mo_value_27 rfl (lv_at hl 1 rfl) ?_
        refine lv_iload_n hx hb d_Mo_value_28 rfl (lv_at hl 0 rfl) ?_
        refine lv_bipush (v := 110) hx hb d_Mo_value_29 (by decide) ?_
        refine lv_icmp_ne (tgt := 39) hx hb d_Mo_value_31 (by decide) (fun _ => ?_) (fun h => absurd h c12)
        refine lv_iload_n hx hb d_Mo_value_39 rfl (lv_at hl 0 rfl) ?_
        refine lv_bipush (v := 116) hx hb d_Mo_value_40 (by decide) ?_
        refine lv_icmp_ne (tgt := 50) hx hb d_Mo_value_42 (by decide) (fun _ => ?_) (fun h => absurd h c18)
        refine va_ldcS hx hb hown (hM 3 _ rfl).2 d_Mo_value_50 ?_
        have hE := (hM 3 _ rfl).1
        have hPc := hP.sub (ws' := [(mo, .inr (13, MF 30 (rf v (skipH f n i) br))), (qx, .inl (cB, NN, .inl f))]) [0, 1] rfl
        have hDc := hD.sub (ws' := [(mo, .inr (13, MF 30 (rf v (skipH f n i) br))), (qx, .inl (cB, NN, .inl f))]) [0, 1] (by decide) rfl
        have hKc := hK.sub (tys' := [(cB, .byte)]) [0] rfl
        have hFc := va_free (wc := [(mo, .inr (13, MF 30 (rf v (skipH f n i) br))), (qx, .inl (cB, NN, .inl f))]) hD hS hA [0, 1] rfl
        refine va_calli (va_runV (As := [.ref (K 3).1]) (rest := []) ⟨hx, hb, hml, hown, hts⟩ (c_Mo_wordS l dC dI mo H (rf v (skipH f n i) br) cB qx NN f (K 3).1 (K 3).2 5 (mtx 3) n (skipH f n i) (by omega) (by omega) (by omega) ((rf_ne (by decide) (by decide)).trans h6) rf_7 ((rf_ne (by decide) (by decide)).trans h8) br rf_9 (by decide)) (cwV 1 hts (gt_V (own := R_Mo) (C := R_Mo) (i := 193) (y := y_Mo_wordS) i_Mo_wordS w_1240 w_1242 (gt_sel (y := y_Mo_wordS) (n := 30) (by decide +kernel)) w_7) rfl rfl rfl (by decide +kernel) ⟨Nat.le_of_ble_eq_true rfl, Nat.le_of_ble_eq_true rfl⟩) ⟨mstr_blind, va_recv hKc hPc (ci := 13) (q0 := 0) rfl rfl, fun U hU hW => ⟨rfl, ⟨hU, by rw [hU]; exact hPc, va_K.moved hW.alike hKc, hDc.weaken (fun _ _ _ _ => trivial)⟩, by rw [hU]; exact SX.moved' hW.alike (SX.narrow' (SX.kept' hE hS.2.1) hFc)⟩⟩ rfl rfl hl.1 rfl (lv_room (Nat.le_of_ble_eq_true rfl)) d_Mo_value_52 ⟨hfit_T.1, hfit_T.2⟩) hS (fun q _ h => hFc q h) hFc (fun r0 u2 t9 H1 locs ht hvm hw hB hz1 hk1 hS => ?_)
        obtain ⟨hP1, hK1, hD1⟩ := hB
        rw [ht] at hP1
        obtain ⟨hP, hD⟩ := va_join (wr := [(t, .inr (12, MF 13 (tw T))), (T.a0, .inl (cI, T.N, .inl T.kd)), (T.a1, .inl (cL, T.N, .inr (.inl T.nu))), (T.a2, .inl (cI, T.N, .inl T.st)), (T.a3, .inl (cI, T.N, .inl T.ln)), (T.a4, .inl (cI, T.N, .inl T.ki)), (T.a5, .inl (cI, T.N, .inl T.nx)), (T.a6, .inl (cI, T.N, .inl T.ns)), (T.a7, .inl (cI, T.N, .inl T.nl)), (T.a8, .inl (cI, T.N, .inl T.pa)), (T.a9, .inl (cI, T.N, .inl T.pl)), (T.au, .inl (cC, T.U, .inl T.un))]) (w1 := [(mo, .inr (13, MF 30 u2)), (qx, .inl (cB, NN, .inl f))]) hP hD [0, 1] [2, 3, 4, 5, 6, 7, 8, 9, 10, 11, 12, 13] rfl rfl (by decide) (by decide) hk1 hFc hP1 hD1
        generalize H1 = H at hP hS ⊢
        have hP : va_P (dC, dI) classes [(t, .inr (12, MF 13 (tw T))), (T.a0, .inl (cI, T.N, .inl T.kd)), (T.a1, .inl (cL, T.N, .inr (.inl T.nu))), (T.a2, .inl (cI, T.N, .inl T.st)), (T.a3, .inl (cI, T.N, .inl T.ln)), (T.a4, .inl (cI, T.N, .inl T.ki)), (T.a5, .inl (cI, T.N, .inl T.nx)), (T.a6, .inl (cI, T.N, .inl T.ns)), (T.a7, .inl (cI, T.N, .inl T.nl)), (T.a8, .inl (cI, T.N, .inl T.pa)), (T.a9, .inl (cI, T.N, .inl T.pl)), (T.au, .inl (cC, T.U, .inl T.un)), (mo, .inr (13, MF 30 u2)), (qx, .inl (cB, NN, .inl f))] H := hP
        have hD : va_D A [(t, .inr (12, MF 13 (tw T))), (T.a0, .inl (cI, T.N, .inl T.kd)), (T.a1, .inl (cL, T.N, .inr (.inl T.nu))), (T.a2, .inl (cI, T.N, .inl T.st)), (T.a3, .inl (cI, T.N, .inl T.ln)), (T.a4, .inl (cI, T.N, .inl T.ki)), (T.a5, .inl (cI, T.N, .inl T.nx)), (T.a6, .inl (cI, T.N, .inl T.ns)), (T.a7, .inl (cI, T.N, .inl T.nl)), (T.a8, .inl (cI, T.N, .inl T.pa)), (T.a9, .inl (cI, T.N, .inl T.pl)), (T.au, .inl (cC, T.U, .inl T.un)), (mo, .inr (13, MF 30 u2)), (qx, .inl (cB, NN, .inl f))] := hD
        have hP := hP.sub (ws' := [(mo, .inr (13, MF 30 u2)), (qx, .inl (cB, NN, .inl f)), (t, .inr (12, MF 13 (tw T))), (T.a0, .inl (cI, T.N, .inl T.kd)), (T.a1, .inl (cL, T.N, .inr (.inl T.nu))), (T.a2, .inl (cI, T.N, .inl T.st)), (T.a3, .inl (cI, T.N, .inl T.ln)), (T.a4, .inl (cI, T.N, .inl T.ki)), (T.a5, .inl (cI, T.N, .inl T.nx)), (T.a6, .inl (cI, T.N, .inl T.ns)), (T.a7, .inl (cI, T.N, .inl T.nl)), (T.a8, .inl (cI, T.N, .inl T.pa)), (T.a9, .inl (cI, T.N, .inl T.pl)), (T.au, .inl (cC, T.U, .inl T.un))]) [12, 13, 0, 1, 2, 3, 4, 5, 6, 7, 8, 9, 10, 11] rfl
        have hD := hD.sub (ws' := [(mo, .inr (13, MF 30 u2)), (qx, .inl (cB, NN, .inl f)), (t, .inr (12, MF 13 (tw T))), (T.a0, .inl (cI, T.N, .inl T.kd)), (T.a1, .inl (cL, T.N, .inr (.inl T.nu))), (T.a2, .inl (cI, T.N, .inl T.st)), (T.a3, .inl (cI, T.N, .inl T.ln)), (T.a4, .inl (cI, T.N, .inl T.ki)), (T.a5, .inl (cI, T.N, .inl T.nx)), (T.a6, .inl (cI, T.N, .inl T.ns)), (T.a7, .inl (cI, T.N, .inl T.nl)), (T.a8, .inl (cI, T.N, .inl T.pa)), (T.a9, .inl (cI, T.N, .inl T.pl)), (T.au, .inl (cC, T.U, .inl T.un))]) [12, 13, 0, 1, 2, 3, 4, 5, 6, 7, 8, 9, 10, 11] (by decide) rfl
        rcases hw with ⟨hw1, hw2, hw3⟩ | ⟨hw1, hw2, k9, hw3⟩
        · rw [rf_u7] at hw3
          rw [hw3] at hP hD
          subst hw2
          have hP : va_P (dC, dI) classes [(mo, .inr (13, MF 30 (rf v ((skipH f n i) + 5) br))), (qx, .inl (cB, NN, .inl f)), (t, .inr (12, MF 13 (tw T))), (T.a0, .inl (cI, T.N, .inl T.kd)), (T.a1, .inl (cL, T.N, .inr (.inl T.nu))), (T.a2, .inl (cI, T.N, .inl T.st)), (T.a3, .inl (cI, T.N, .inl T.ln)), (T.a4, .inl (cI, T.N, .inl T.ki)), (T.a5, .inl (cI, T.N, .inl T.nx)), (T.a6, .inl (cI, T.N, .inl T.ns)), (T.a7, .inl (cI, T.N, .inl T.nl)), (T.a8, .inl (cI, T.N, .inl T.pa)), (T.a9, .inl (cI, T.N, .inl T.pl)), (T.au, .inl (cC, T.U, .inl T.un))] H := hP
          have hD : va_D A [(mo, .inr (13, MF 30 (rf v ((skipH f n i) + 5) br))), (qx, .inl (cB, NN, .inl f)), (t, .inr (12, MF 13 (tw T))), (T.a0, .inl (cI, T.N, .inl T.kd)), (T.a1, .inl (cL, T.N, .inr (.inl T.nu))), (T.a2, .inl (cI, T.N, .inl T.st)), (T.a3, .inl (cI, T.N, .inl T.ln)), (T.a4, .inl (cI, T.N, .inl T.ki)), (T.a5, .inl (cI, T.N, .inl T.nx)), (T.a6, .inl (cI, T.N, .inl T.ns)), (T.a7, .inl (cI, T.N, .inl T.nl)), (T.a8, .inl (cI, T.N, .inl T.pa)), (T.a9, .inl (cI, T.N, .inl T.pl)), (T.au, .inl (cC, T.U, .inl T.un))] := hD
          have hwlt := mtch_le (k := 4) hw1 (by decide)
          refine lv_if_ne (tgt := 60) hx hb d_Mo_value_55 (by decide) (fun _ => ?_) (fun h => absurd h (by decide))
          refine lv_aload_n hx hb d_Mo_value_60 rfl (lv_at hl 2 rfl) ?_
          refine lv_iload_n hx hb d_Mo_value_61 rfl (lv_at hl 0 rfl) ?_
          refine lv_bipush (v := 110) hx hb d_Mo_value_62 (by decide) ?_
          refine lv_icmp_ne (tgt := 71) hx hb d_Mo_value_64 (by decide) (fun _ => ?_) (fun h => absurd h c12)
          refine lv_iload_n hx hb d_Mo_value_71 rfl (lv_at hl 0 rfl) ?_
          refine lv_bipush (v := 116) hx hb d_Mo_value_72 (by decide) ?_
          refine lv_icmp_ne (tgt := 81) hx hb d_Mo_value_74 (by decide) (fun _ => ?_) (fun h => absurd h c18)
          refine lv_iconst (v := 2) hx hb d_Mo_value_81 (by decide) ?_
          have hPc := hP.sub (ws' := [(t, .inr (12, MF 13 (tw T))), (T.a0, .inl (cI, T.N, .inl T.kd)), (T.a1, .inl (cL, T.N, .inr (.inl T.nu))), (T.a2, .inl (cI, T.N, .inl T.st)), (T.a3, .inl (cI, T.N, .inl T.ln)), (T.a4, .inl (cI, T.N, .inl T.ki)), (T.a5, .inl (cI, T.N, .inl T.nx)), (T.a6, .inl (cI, T.N, .inl T.ns)), (T.a7, .inl (cI, T.N, .inl T.nl)), (T.a8, .inl (cI, T.N, .inl T.pa)), (T.a9, .inl (cI, T.N, .inl T.pl)), (T.au, .inl (cC, T.U, .inl T.un))]) [2, 3, 4, 5, 6, 7, 8, 9, 10, 11, 12, 13] rfl
          have hDc := hD.sub (ws' := [(t, .inr (12, MF 13 (tw T))), (T.a0, .inl (cI, T.N, .inl T.kd)), (T.a1, .inl (cL, T.N, .inr (.inl T.nu))), (T.a2, .inl (cI, T.N, .inl T.st)), (T.a3, .inl (cI, T.N, .inl T.ln)), (T.a4, .inl (cI, T.N, .inl T.ki)), (T.a5, .inl (cI, T.N, .inl T.nx)), (T.a6, .inl (cI, T.N, .inl T.ns)), (T.a7, .inl (cI, T.N, .inl T.nl)), (T.a8, .inl (cI, T.N, .inl T.pa)), (T.a9, .inl (cI, T.N, .inl T.pl)), (T.au, .inl (cC, T.U, .inl T.un))]) [2, 3, 4, 5, 6, 7, 8, 9, 10, 11, 12, 13] (by decide) rfl
          have hKc := hK.sub (tys' := [(cI, .int), (cL, .long), (cC, .char)]) [1, 2, 3] rfl
          have hFc := va_free (wc := [(t, .inr (12, MF 13 (tw T))), (T.a0, .inl (cI, T.N, .inl T.kd)), (T.a1, .inl (cL, T.N, .inr (.inl T.nu))), (T.a2, .inl (cI, T.N, .inl T.st)), (T.a3, .inl (cI, T.N, .inl T.ln)), (T.a4, .inl (cI, T.N, .inl T.ki)), (T.a5, .inl (cI, T.N, .inl T.nx)), (T.a6, .inl (cI, T.N, .inl T.ns)), (T.a7, .inl (cI, T.N, .inl T.nl)), (T.a8, .inl (cI, T.N, .inl T.pa)), (T.a9, .inl (cI, T.N, .inl T.pl)), (T.au, .inl (cC, T.U, .inl T.un))]) hD hS hA [2, 3, 4, 5, 6, 7, 8, 9, 10, 11, 12, 13] rfl
          refine w_same (fun hq0 => ?_)
          refine va_calli (va_runV (As := [.int 2]) (rest := []) ⟨hx, hb, hml, hown, hts⟩ (c_Tree_add l dC dI t H cI cL cC T 2 hTk_T) (cwV 1 hts (gt_V (own := R_Mo) (C := R_Tree) (i := 197) (y := y_Tree_add) i_Tree_add w_1254 w_1255 w_1256 w_8) rfl rfl rfl (by decide +kernel) ⟨Nat.le_of_ble_eq_true rfl, Nat.le_of_ble_eq_true rfl⟩) ⟨mp_blind, va_recv hKc hPc (ci := 12) (q0 := 0) rfl rfl, fun U hU hW => ⟨rfl, hU, by rw [hU]; exact hPc, va_K.moved hW.alike hKc, hDc.weaken (fun _ _ _ _ => trivial)⟩⟩ rfl rfl hl.1 rfl (lv_room (Nat.le_of_ble_eq_true rfl)) d_Mo_value_82 ⟨(TAd.fit hGB_T hTk_T (by omega)).1, (TAd.fit hGB_T hTk_T (by omega)).2⟩) hS (fun q _ h => hFc q h) hFc (fun r0 T1 t9 H1 locs ht hvm hw hB hz1 hk1 hS => ?_)
          obtain ⟨⟨hP1, hK1, hD1⟩, hz9⟩ := hB
          rw [ht] at hP1
          rw [ht] at hz9
          obtain ⟨hr0, hA_T1⟩ := hw
          have hA_T1 : TAd T T1 2 := hA_T1
          have hAg := hA_T1.gb hTk_T (by omega)
          obtain ⟨hGB_T1, hGc_T1, hGs_T1⟩ := hGB_T.tr hAg.1 (show T.ct + 1 ≤ (T.ct + (n + 12 - i)) by omega) (Nat.zero_le _)
          have hGc_T1 := Nat.le_trans (Nat.add_le_add_left hAg.2.1 _) hGc_T1
          have hGs_T1 := Nat.le_trans (Nat.add_le_add_left hAg.2.2 _) hGs_T1
          have hq1 : szk s.heap H1 (cE T T1) (sE T T1) := (hq0.trans hz9).mono hGc_T1 hGs_T1
          refine w_tight hq1 ?_
          obtain ⟨hP, hD⟩ := va_join (wr := [(mo, .inr (13, MF 30 (rf v ((skipH f n i) + 5) br))), (qx, .inl (cB, NN, .inl f))]) (w1 := [(t, .inr (12, MF 13 (tw T1))), (T1.a0, .inl (cI, T1.N, .inl T1.kd)), (T1.a1, .inl (cL, T1.N, .inr (.inl T1.nu))), (T1.a2, .inl (cI, T1.N, .inl T1.st)), (T1.a3, .inl (cI, T1.N, .inl T1.ln)), (T1.a4, .inl (cI, T1.N, .inl T1.ki)), (T1.a5, .inl (cI, T1.N, .inl T1.nx)), (T1.a6, .inl (cI, T1.N, .inl T1.ns)), (T1.a7, .inl (cI, T1.N, .inl T1.nl)), (T1.a8, .inl (cI, T1.N, .inl T1.pa)), (T1.a9, .inl (cI, T1.N, .inl T1.pl)), (T1.au, .inl (cC, T1.U, .inl T1.un))]) hP hD [2, 3, 4, 5, 6, 7, 8, 9, 10, 11, 12, 13] [0, 1] rfl rfl (by decide) (by decide) hk1 hFc hP1 hD1
          generalize H1 = H at hP hS ⊢
          have hP : va_P (dC, dI) classes [(mo, .inr (13, MF 30 (rf v ((skipH f n i) + 5) br))), (qx, .inl (cB, NN, .inl f)), (t, .inr (12, MF 13 (tw T1))), (T1.a0, .inl (cI, T1.N, .inl T1.kd)), (T1.a1, .inl (cL, T1.N, .inr (.inl T1.nu))), (T1.a2, .inl (cI, T1.N, .inl T1.st)), (T1.a3, .inl (cI, T1.N, .inl T1.ln)), (T1.a4, .inl (cI, T1.N, .inl T1.ki)), (T1.a5, .inl (cI, T1.N, .inl T1.nx)), (T1.a6, .inl (cI, T1.N, .inl T1.ns)), (T1.a7, .inl (cI, T1.N, .inl T1.nl)), (T1.a8, .inl (cI, T1.N, .inl T1.pa)), (T1.a9, .inl (cI, T1.N, .inl T1.pl)), (T1.au, .inl (cC, T1.U, .inl T1.un))] H := hP
          have hD : va_D A [(mo, .inr (13, MF 30 (rf v ((skipH f n i) + 5) br))), (qx, .inl (cB, NN, .inl f)), (t, .inr (12, MF 13 (tw T1))), (T1.a0, .inl (cI, T1.N, .inl T1.kd)), (T1.a1, .inl (cL, T1.N, .inr (.inl T1.nu))), (T1.a2, .inl (cI, T1.N, .inl T1.st)), (T1.a3, .inl (cI, T1.N, .inl T1.ln)), (T1.a4, .inl (cI, T1.N, .inl T1.ki)), (T1.a5, .inl (cI, T1.N, .inl T1.nx)), (T1.a6, .inl (cI, T1.N, .inl T1.ns)), (T1.a7, .inl (cI, T1.N, .inl T1.nl)), (T1.a8, .inl (cI, T1.N, .inl T1.pa)), (T1.a9, .inl (cI, T1.N, .inl T1.pl)), (T1.au, .inl (cC, T1.U, .inl T1.un))] := hD
          have hTk_T1 := (hA_T1.ok hTk_T (by omega)).1
          have hAc_T1 : T1.ct = T.ct + 1 ∧ T1.us = T.us := ⟨(hA_T1.ok hTk_T (by omega)).2.2.2.2.2.1, (hA_T1.ok hTk_T (by omega)).2.2.2.2.1⟩
          have hr0 : r0 = nI T.ct := hr0
          subst hr0
          have hfit_T1 := hGB_T1.fits
          refine lv_istore (lv' := [(4, .int (nI T.ct)), (3, .int r1), (0, .ref mo), (1, .ref t), (2, .int (nI (32 - 0)))]) hx hb d_Mo_value_85 hl (by decide) rfl (fun ls hl => ?_)
          refine lv_goto (tgt := 253) hx hb d_Mo_value_87 (by decide) ?_
          have hAA := hA_T1.2.2.2.2.2.2.2
          have hTEn := hA_T1.te
          have hRepn : RepL T1 T.ct (2, 0, []) := ⟨hAA.1, by show 2 ≤ 6; omega, fun h => absurd h (by show ¬ 2 = 3; omega), fun h => absurd h (by show ¬ 2 = 4; omega), fun _ => hAA.2.2.2.2.2.1⟩
          have hkin : T1.ki T.ct = -1 := hAA.2.1
          have hpan : T1.pa T.ct = -1 := hAA.2.2.2.1
          have hctn : T1.ct = T.ct + 1 := hAc_T1.1
          have husn : T1.us = T.us := hAc_T1.2
          have hpl : pLeaf f n (skipH f n i) = some ((2, 0, []), ((skipH f n i) + 5)) := by unfold pLeaf; rw [if_neg (fun h => c12 (h_r1.trans h)), if_neg (fun h => c18 (h_r1.trans h)), if_pos (h_r1.symm.trans c24), if_pos (mtB_iff.mpr hw1)]
          have hnc : ¬ (hereV f n (skipH f n i) = 91 ∨ hereV f n (skipH f n i) = 123) := fun h => by rw [← h_r1, c24] at h; revert h; decide
          refine lv_aload_n hx hb d_Mo_value_253 rfl (lv_at hl 2 rfl) ?_
          have hPc := hP.sub (ws' := [(mo, .inr (13, MF 30 (rf v ((skipH f n i) + 5) br))), (qx, .inl (cB, NN, .inl f))]) [0, 1] rfl
          have hDc := hD.sub (ws' := [(mo, .inr (13, MF 30 (rf v ((skipH f n i) + 5) br))), (qx, .inl (cB, NN, .inl f))]) [0, 1] (by decide) rfl
          have hKc := hK.sub (tys' := [(cB, .byte)]) [0] rfl
          have hFc := va_free (wc := [(mo, .inr (13, MF 30 (rf v ((skipH f n i) + 5) br))), (qx, .inl (cB, NN, .inl f))]) hD hS hA [0, 1] rfl
          refine va_callv (va_runV (As := []) (rest := []) ⟨hx, hb, hml, hown, hts⟩ (c_Mo_blanks l dC dI mo H (rf v ((skipH f n i) + 5) br) cB qx NN f n ((skipH f n i) + 5) (by omega) (by omega) (by omega) ((rf_ne (by decide) (by decide)).trans h6) rf_7 ((rf_ne (by decide) (by decide)).trans h8)) (cwV 0 hts (gt_V (own := R_Mo) (C := R_Mo) (i := 184) (y := y_Mo_blanks) i_Mo_blanks w_1229 w_1231 (gt_sel (y := y_Mo_blanks) (n := 30) (by decide +kernel)) w_7) rfl rfl rfl (by decide +kernel) ⟨Nat.le_of_ble_eq_true rfl, Nat.le_of_ble_eq_true rfl⟩) ⟨mp_blind, va_recv hKc hPc (ci := 13) (q0 := 0) rfl rfl, fun U hU hW => ⟨rfl, hU, by rw [hU]; exact hPc, va_K.moved hW.alike hKc, hDc.weaken (fun _ _ _ _ => trivial)⟩⟩ rfl rfl hl.1 rfl (lv_room (Nat.le_of_ble_eq_true rfl)) d_Mo_value_254 ⟨hfit_T1.1, hfit_T1.2⟩) hS (fun q _ h => hFc q h) hFc (fun _u t9 H1 locs ht hvm hw hB hz1 hk1 hS => ?_)
          obtain ⟨hP1, hK1, hD1⟩ := hB
          rw [ht] at hP1
          obtain ⟨hP, hD⟩ := va_join (wr := [(t, .inr (12, MF 13 (tw T1))), (T1.a0, .inl (cI, T1.N, .inl T1.kd)), (T1.a1, .inl (cL, T1.N, .inr (.inl T1.nu))), (T1.a2, .inl (cI, T1.N, .inl T1.st)), (T1.a3, .inl (cI, T1.N, .inl T1.ln)), (T1.a4, .inl (cI, T1.N, .inl T1.ki)), (T1.a5, .inl (cI, T1.N, .inl T1.nx)), (T1.a6, .inl (cI, T1.N, .inl T1.ns)), (T1.a7, .inl (cI, T1.N, .inl T1.nl)), (T1.a8, .inl (cI, T1.N, .inl T1.pa)), (T1.a9, .inl (cI, T1.N, .inl T1.pl)), (T1.au, .inl (cC, T1.U, .inl T1.un))]) (w1 := [(mo, .inr (13, MF 30 (va_up (rf v ((skipH f n i) + 5) br) 7 (.int (nI (skipH f n ((skipH f n i) + 5))))))), (qx, .inl (cB, NN, .inl f))]) hP hD [0, 1] [2, 3, 4, 5, 6, 7, 8, 9, 10, 11, 12, 13] rfl rfl (by decide) (by decide) hk1 hFc hP1 hD1
          generalize H1 = H at hP hS ⊢
          have hP : va_P (dC, dI) classes [(t, .inr (12, MF 13 (tw T1))), (T1.a0, .inl (cI, T1.N, .inl T1.kd)), (T1.a1, .inl (cL, T1.N, .inr (.inl T1.nu))), (T1.a2, .inl (cI, T1.N, .inl T1.st)), (T1.a3, .inl (cI, T1.N, .inl T1.ln)), (T1.a4, .inl (cI, T1.N, .inl T1.ki)), (T1.a5, .inl (cI, T1.N, .inl T1.nx)), (T1.a6, .inl (cI, T1.N, .inl T1.ns)), (T1.a7, .inl (cI, T1.N, .inl T1.nl)), (T1.a8, .inl (cI, T1.N, .inl T1.pa)), (T1.a9, .inl (cI, T1.N, .inl T1.pl)), (T1.au, .inl (cC, T1.U, .inl T1.un)), (mo, .inr (13, MF 30 (va_up (rf v ((skipH f n i) + 5) br) 7 (.int (nI (skipH f n ((skipH f n i) + 5))))))), (qx, .inl (cB, NN, .inl f))] H := hP
          have hD : va_D A [(t, .inr (12, MF 13 (tw T1))), (T1.a0, .inl (cI, T1.N, .inl T1.kd)), (T1.a1, .inl (cL, T1.N, .inr (.inl T1.nu))), (T1.a2, .inl (cI, T1.N, .inl T1.st)), (T1.a3, .inl (cI, T1.N, .inl T1.ln)), (T1.a4, .inl (cI, T1.N, .inl T1.ki)), (T1.a5, .inl (cI, T1.N, .inl T1.nx)), (T1.a6, .inl (cI, T1.N, .inl T1.ns)), (T1.a7, .inl (cI, T1.N, .inl T1.nl)), (T1.a8, .inl (cI, T1.N, .inl T1.pa)), (T1.a9, .inl (cI, T1.N, .inl T1.pl)), (T1.au, .inl (cC, T1.U, .inl T1.un)), (mo, .inr (13, MF 30 (va_up (rf v ((skipH f n i) + 5) br) 7 (.int (nI (skipH f n ((skipH f n i) + 5))))))), (qx, .inl (cB, NN, .inl f))] := hD
          have hP := hP.sub (ws' := [(mo, .inr (13, MF 30 (va_up (rf v ((skipH f n i) + 5) br) 7 (.int (nI (skipH f n ((skipH f n i) + 5))))))), (qx, .inl (cB, NN, .inl f)), (t, .inr (12, MF 13 (tw T1))), (T1.a0, .inl (cI, T1.N, .inl T1.kd)), (T1.a1, .inl (cL, T1.N, .inr (.inl T1.nu))), (T1.a2, .inl (cI, T1.N, .inl T1.st)), (T1.a3, .inl (cI, T1.N, .inl T1.ln)), (T1.a4, .inl (cI, T1.N, .inl T1.ki)), (T1.a5, .inl (cI, T1.N, .inl T1.nx)), (T1.a6, .inl (cI, T1.N, .inl T1.ns)), (T1.a7, .inl (cI, T1.N, .inl T1.nl)), (T1.a8, .inl (cI, T1.N, .inl T1.pa)), (T1.a9, .inl (cI, T1.N, .inl T1.pl)), (T1.au, .inl (cC, T1.U, .inl T1.un))]) [12, 13, 0, 1, 2, 3, 4, 5, 6, 7, 8, 9, 10, 11] rfl
          have hD := hD.sub (ws' := [(mo, .inr (13, MF 30 (va_up (rf v ((skipH f n i) + 5) br) 7 (.int (nI (skipH f n ((skipH f n i) + 5))))))), (qx, .inl (cB, NN, .inl f)), (t, .inr (12, MF 13 (tw T1))), (T1.a0, .inl (cI, T1.N, .inl T1.kd)), (T1.a1, .inl (cL, T1.N, .inr (.inl T1.nu))), (T1.a2, .inl (cI, T1.N, .inl T1.st)), (T1.a3, .inl (cI, T1.N, .inl T1.ln)), (T1.a4, .inl (cI, T1.N, .inl T1.ki)), (T1.a5, .inl (cI, T1.N, .inl T1.nx)), (T1.a6, .inl (cI, T1.N, .inl T1.ns)), (T1.a7, .inl (cI, T1.N, .inl T1.nl)), (T1.a8, .inl (cI, T1.N, .inl T1.pa)), (T1.a9, .inl (cI, T1.N, .inl T1.pl)), (T1.au, .inl (cC, T1.U, .inl T1.un))]) [12, 13, 0, 1, 2, 3, 4, 5, 6, 7, 8, 9, 10, 11] (by decide) rfl
          rw [rf_u7] at hP hD
          have hP : va_P (dC, dI) classes [(mo, .inr (13, MF 30 (rf v (skipH f n ((skipH f n i) + 5)) br))), (qx, .inl (cB, NN, .inl f)), (t, .inr (12, MF 13 (tw T1))), (T1.a0, .inl (cI, T1.N, .inl T1.kd)), (T1.a1, .inl (cL, T1.N, .inr (.inl T1.nu))), (T1.a2, .inl (cI, T1.N, .inl T1.st)), (T1.a3, .inl (cI, T1.N, .inl T1.ln)), (T1.a4, .inl (cI, T1.N, .inl T1.ki)), (T1.a5, .inl (cI, T1.N, .inl T1.nx)), (T1.a6, .inl (cI, T1.N, .inl T1.ns)), (T1.a7, .inl (cI, T1.N, .inl T1.nl)), (T1.a8, .inl (cI, T1.N, .inl T1.pa)), (T1.a9, .inl (cI, T1.N, .inl T1.pl)), (T1.au, .inl (cC, T1.U, .inl T1.un))] H := hP
          have hD : va_D A [(mo, .inr (13, MF 30 (rf v (skipH f n ((skipH f n i) + 5)) br))), (qx, .inl (cB, NN, .inl f)), (t, .inr (12, MF 13 (tw T1))), (T1.a0, .inl (cI, T1.N, .inl T1.kd)), (T1.a1, .inl (cL, T1.N, .inr (.inl T1.nu))), (T1.a2, .inl (cI, T1.N, .inl T1.st)), (T1.a3, .inl (cI, T1.N, .inl T1.ln)), (T1.a4, .inl (cI, T1.N, .inl T1.ki)), (T1.a5, .inl (cI, T1.N, .inl T1.nx)), (T1.a6, .inl (cI, T1.N, .inl T1.ns)), (T1.a7, .inl (cI, T1.N, .inl T1.nl)), (T1.a8, .inl (cI, T1.N, .inl T1.pa)), (T1.a9, .inl (cI, T1.N, .inl T1.pl)), (T1.au, .inl (cC, T1.U, .inl T1.un))] := hD
          have hsk_257 := skipH_n (f := f) (show ((skipH f n i) + 5) ≤ n by omega)
          refine lv_iload hx hb d_Mo_value_257 (lv_at hl 0 rfl) ?_
          have hpv : pV f n 0 i = some (jleaf 0 (2, 0, []), (skipH f n ((skipH f n i) + 5))) := by rw [pV_leaf _ hnc, hpl]; rfl
          have hRV : RepV T1 0 T.ct T1.ct (jleaf 0 (2, 0, [])) := leafRep hRepn (by decide) hkin hctn _
          refine w_same (fun hq => ?_)
          refine W.widen (k := ncap T (T.ct + (n + 12 - i)) + qcap T (T.us + (n + 12 - i))) (n := 20 * ncap T (T.ct + (n + 12 - i)) + 2 * qcap T (T.us + (n + 12 - i))) hfit_T1.1 hfit_T1.2 ?_
          have hTG : TG n i T T1 := ⟨hTk_T1, hGB_T1⟩
          exact W.iret (v := nI T.ct) hx hb hr (fun t9 ht hW => ⟨⟨nI T.ct, (T1, (skipH f n ((skipH f n i) + 5)), br), rfl, ⟨hTG, Or.inl ⟨(jleaf 0 (2, 0, [])), rfl, hpv, hRV, hTEn, hpan, by show T.ct < T1.ct; omega, by show T1.ct + i ≤ T.ct + (skipH f n ((skipH f n i) + 5)); omega, by show T1.us + i ≤ T.us + (skipH f n ((skipH f n i) + 5)); omega, by show (skipH f n ((skipH f n i) + 5)) ≤ n; omega⟩⟩, ⟨by rw [ht]; exact hP, va_K.moved hW.alike hK, hD⟩, by rw [ht]; exact hq⟩, hS.F ht⟩) hS.2.2 d_Mo_value_259
        · rw [rf_u7] at hw3
          obtain ⟨b5, h_b5⟩ := rf_fail (v := v) (i := k9) (br := br) (b2 := br) (wh := nI k9)
          rw [h_b5] at hw3
          rw [hw3] at hP hD
          subst hw2
          have hP : va_P (dC, dI) classes [(mo, .inr (13, MF 30 (rf v k9 b5))), (qx, .inl (cB, NN, .inl f)), (t, .inr (12, MF 13 (tw T))), (T.a0, .inl (cI, T.N, .inl T.kd)), (T.a1, .inl (cL, T.N, .inr (.inl T.nu))), (T.a2, .inl (cI, T.N, .inl T.st)), (T.a3, .inl (cI, T.N, .inl T.ln)), (T.a4, .inl (cI, T.N, .inl T.ki)), (T.a5, .inl (cI, T.N, .inl T.nx)), (T.a6, .inl (cI, T.N, .inl T.ns)), (T.a7, .inl (cI, T.N, .inl T.nl)), (T.a8, .inl (cI, T.N, .inl T.pa)), (T.a9, .inl (cI, T.N, .inl T.pl)), (T.au, .inl (cC, T.U, .inl T.un))] H := hP
          have hD : va_D A [(mo, .inr (13, MF 30 (rf v k9 b5))), (qx, .inl (cB, NN, .inl f)), (t, .inr (12, MF 13 (tw T))), (T.a0, .inl (cI, T.N, .inl T.kd)), (T.a1, .inl (cL, T.N, .inr (.inl T.nu))), (T.a2, .inl (cI, T.N, .inl T.st)), (T.a3, .inl (cI, T.N, .inl T.ln)), (T.a4, .inl (cI, T.N, .inl T.ki)), (T.a5, .inl (cI, T.N, .inl T.nx)), (T.a6, .inl (cI, T.N, .inl T.ns)), (T.a7, .inl (cI, T.N, .inl T.nl)), (T.a8, .inl (cI, T.N, .inl T.pa)), (T.a9, .inl (cI, T.N, .inl T.pl)), (T.au, .inl (cC, T.U, .inl T.un))] := hD
          refine lv_if_ne (tgt := 60) hx hb d_Mo_value_55 (by decide) (fun h => absurd h (by decide)) (fun _ => ?_)
          refine lv_iconst (v := (-1)) hx hb d_Mo_value_58 (by decide) ?_
          have hpl : pLeaf f n (skipH f n i) = none := by unfold pLeaf; rw [if_neg (fun h => c12 (h_r1.trans h)), if_neg (fun h => c18 (h_r1.trans h)), if_pos (h_r1.symm.trans c24), if_neg (fun h => hw1 (mtB_iff.mp h))]
          have hfin : pV f n 0 i = none := by rw [pV_leaf _ (fun h => by rw [← h_r1, c24] at h; revert h; decide), hpl]; rfl
          refine w_same (fun hq => ?_)
          refine W.widen (k := ncap T (T.ct + (n + 12 - i)) + qcap T (T.us + (n + 12 - i))) (n := 20 * ncap T (T.ct + (n + 12 - i)) + 2 * qcap T (T.us + (n + 12 - i))) hfit_T.1 hfit_T.2 ?_
          have hTG : TG n i T T := ⟨hTk_T, hGB_T⟩
          exact W.iret (v := -1) hx hb hr (fun t9 ht hW => ⟨⟨-1, (T, k9, b5), rfl, ⟨hTG, Or.inr ⟨rfl, hfin⟩⟩, ⟨by rw [ht]; exact hP, va_K.moved hW.alike hK, hD⟩, by rw [ht]; exact hq⟩, hS.F ht⟩) hS.2.2 d_Mo_value_59
set_option maxHeartbeats 4000000 in
set_option maxRecDepth 100000 in
/-- the reference: value -/
theorem c_valueS (r : Nat) (hr32 : r + 1 ≤ 32) (hIA : IC r 91) (hIO : IC r 123) : VC (r + 1) := by
  intro l dC dI mo sz v cB cI cL cC qx NN f n K t T i br hnN hNN hi0 h6 h8 hT hcu hcc
  rw [show 32 - (r + 1) = 31 - r from by omega]
  refine Met.ofW (cc := b_Mo_value) (maxL := 5) (ret := (some .int)) (by decide) rfl ?_
  intro p e s m args below meth c s₁ B hml hv
  obtain ⟨rfl, ⟨hsz, hP, hK, hD0⟩, hM⟩ := hv
  have hx := B.exec
  have hb := B.bytes
  have hr := B.returns
  have hts0 := atoms_spec (ws := k_Mo_value :: gtbl) B.pre
  have hts := fun w h => hts0 w (List.mem_cons_of_mem _ h)
  have hown : s.vm.findClass R_Mo = some m.cls := findClass_of_methodNamed B.named
  have hlocks := B.notSynchronized
  subst hsz
  have hD := hD0.self (sz := s.heap.size)
  generalize hAe : va_A [(mo, .inr (13, MF 30 (rf v i br))), (qx, .inl (cB, NN, .inl f)), (t, .inr (12, MF 13 (tw T))), (T.a0, .inl (cI, T.N, .inl T.kd)), (T.a1, .inl (cL, T.N, .inr (.inl T.nu))), (T.a2, .inl (cI, T.N, .inl T.st)), (T.a3, .inl (cI, T.N, .inl T.ln)), (T.a4, .inl (cI, T.N, .inl T.ki)), (T.a5, .inl (cI, T.N, .inl T.nx)), (T.a6, .inl (cI, T.N, .inl T.ns)), (T.a7, .inl (cI, T.N, .inl T.nl)), (T.a8, .inl (cI, T.N, .inl T.pa)), (T.a9, .inl (cI, T.N, .inl T.pl)), (T.au, .inl (cC, T.U, .inl T.un))] s.heap.size = A at hD hM ⊢
  have hA : ∀ q : Nat, s.heap.size ≤ q → A q := fun q h => by rw [← hAe]; exact Or.inr h
  have hS : va_S A s.heap s.heap [] := va_S.rf
  have hP : va_P (dC, dI) classes [(mo, .inr (13, MF 30 (rf v i br))), (qx, .inl (cB, NN, .inl f)), (t, .inr (12, MF 13 (tw T))), (T.a0, .inl (cI, T.N, .inl T.kd)), (T.a1, .inl (cL, T.N, .inr (.inl T.nu))), (T.a2, .inl (cI, T.N, .inl T.st)), (T.a3, .inl (cI, T.N, .inl T.ln)), (T.a4, .inl (cI, T.N, .inl T.ki)), (T.a5, .inl (cI, T.N, .inl T.nx)), (T.a6, .inl (cI, T.N, .inl T.ns)), (T.a7, .inl (cI, T.N, .inl T.nl)), (T.a8, .inl (cI, T.N, .inl T.pa)), (T.a9, .inl (cI, T.N, .inl T.pl)), (T.au, .inl (cC, T.U, .inl T.un))] s.heap := hP
  have hl := lv_entry ([.ref mo, .ref t, .int (nI (31 - r))]) (n := 5) (Nat.le_of_ble_eq_true rfl)
  rw [lg_entry_eq]
  generalize (lg_sl ([.ref mo, .ref t, .int (nI (31 - r))]) ++ List.replicate (5 - (lg_sl ([.ref mo, .ref t, .int (nI (31 - r))])).length) Slot.unset).toArray = ls at hl ⊢
  have hl : lv_has ls 5 [(0, .ref mo), (1, .ref t), (2, .int (nI (31 - r)))] := hl
  have hT0 := hT
  have ho3 := hT.2.2.1
  have ho2 := hT.2.1
  have hGB_T : GB (T.ct + (n + 12 - i)) (T.us + (n + 12 - i)) T T := GB.rf
  have hTk_T := hT
  clear hT
  refine w_same (fun hq => ?_)
  refine w_tight (k := cE T T) (n := sE T T) (by rw [cE_rf.1, cE_rf.2]; exact hq) ?_
  have hfit_T := hGB_T.fits
  refine lv_aload_n hx hb d_Mo_value_0 rfl (lv_at hl 0 rfl) ?_
  have hPc := hP.sub (ws' := [(mo, .inr (13, MF 30 (rf v i br))), (qx, .inl (cB, NN, .inl f))]) [0, 1] rfl
  have hDc := hD.sub (ws' := [(mo, .inr (13, MF 30 (rf v i br))), (qx, .inl (cB, NN, .inl f))]) [0, 1] (by decide) rfl
  have hKc := hK.sub (tys' := [(cB, .byte)]) [0] rfl
  have hFc := va_free (wc := [(mo, .inr (13, MF 30 (rf v i br))), (qx, .inl (cB, NN, .inl f))]) hD hS hA [0, 1] rfl
  refine va_callv (va_runV (As := []) (rest := []) ⟨hx, hb, hml, hown, hts⟩ (c_Mo_blanks l dC dI mo s.heap (rf v i br) cB qx NN f n i (by omega) (by omega) (by omega) ((rf_ne (by decide) (by decide)).trans h6) rf_7 ((rf_ne (by decide) (by decide)).trans h8)) (cwV 0 hts (gt_V (own := R_Mo) (C := R_Mo) (i := 184) (y := y_Mo_blanks) i_Mo_blanks w_1229 w_1231 (gt_sel (y := y_Mo_blanks) (n := 30) (by decide +kernel)) w_7) rfl rfl rfl (by decide +kernel) ⟨Nat.le_trans (m := 8) (Nat.le_of_ble_eq_true rfl) (Nat.le_add_right 8 (2 * (r + 1))), Nat.le_trans (m := 300) (Nat.le_of_ble_eq_true rfl) (Nat.le_add_right 300 (80 * (r + 1)))⟩) ⟨mp_blind, va_recv hKc hPc (ci := 13) (q0 := 0) rfl rfl, fun U hU hW => ⟨rfl, hU, by rw [hU]; exact hPc, va_K.moved hW.alike hKc, hDc.weaken (fun _ _ _ _ => trivial)⟩⟩ rfl rfl hl.1 rfl (lv_room (Nat.le_of_ble_eq_true rfl)) d_Mo_value_1 ⟨hfit_T.1, hfit_T.2⟩) hS (fun q _ h => hFc q h) hFc (fun _u t9 H1 locs ht hvm hw hB hz1 hk1 hS => ?_)
  obtain ⟨hP1, hK1, hD1⟩ := hB
  rw [ht] at hP1
  obtain ⟨hP, hD⟩ := va_join (wr := [(t, .inr (12, MF 13 (tw T))), (T.a0, .inl (cI, T.N, .inl T.kd)), (T.a1, .inl (cL, T.N, .inr (.inl T.nu))), (T.a2, .inl (cI, T.N, .inl T.st)), (T.a3, .inl (cI, T.N, .inl T.ln)), (T.a4, .inl (cI, T.N, .inl T.ki)), (T.a5, .inl (cI, T.N, .inl T.nx)), (T.a6, .inl (cI, T.N, .inl T.ns)), (T.a7, .inl (cI, T.N, .inl T.nl)), (T.a8, .inl (cI, T.N, .inl T.pa)), (T.a9, .inl (cI, T.N, .inl T.pl)), (T.au, .inl (cC, T.U, .inl T.un))]) (w1 := [(mo, .inr (13, MF 30 (va_up (rf v i br) 7 (.int (nI (skipH f n i)))))), (qx, .inl (cB, NN, .inl f))]) hP hD [0, 1] [2, 3, 4, 5, 6, 7, 8, 9, 10, 11, 12, 13] rfl rfl (by decide) (by decide) hk1 hFc hP1 hD1
  generalize H1 = H at hP hS ⊢
  have hP : va_P (dC, dI) classes [(t, .inr (12, MF 13 (tw T))), (T.a0, .inl (cI, T.N, .inl T.kd)), (T.a1, .inl (cL, T.N, .inr (.inl T.nu))), (T.a2, .inl (cI, T.N, .inl T.st)), (T.a3, .inl (cI, T.N, .inl T.ln)), (T.a4, .inl (cI, T.N, .inl T.ki)), (T.a5, .inl (cI, T.N, .inl T.nx)), (T.a6, .inl (cI, T.N, .inl T.ns)), (T.a7, .inl (cI, T.N, .inl T.nl)), (T.a8, .inl (cI, T.N, .inl T.pa)), (T.a9, .inl (cI, T.N, .inl T.pl)), (T.au, .inl (cC, T.U, .inl T.un)), (mo, .inr (13, MF 30 (va_up (rf v i br) 7 (.int (nI (skipH f n i)))))), (qx, .inl (cB, NN, .inl f))] H := hP
  have hD : va_D A [(t, .inr (12, MF 13 (tw T))), (T.a0, .inl (cI, T.N, .inl T.kd)), (T.a1, .inl (cL, T.N, .inr (.inl T.nu))), (T.a2, .inl (cI, T.N, .inl T.st)), (T.a3, .inl (cI, T.N, .inl T.ln)), (T.a4, .inl (cI, T.N, .inl T.ki)), (T.a5, .inl (cI, T.N, .inl T.nx)), (T.a6, .inl (cI, T.N, .inl T.ns)), (T.a7, .inl (cI, T.N, .inl T.nl)), (T.a8, .inl (cI, T.N, .inl T.pa)), (T.a9, .inl (cI, T.N, .inl T.pl)), (T.au, .inl (cC, T.U, .inl T.un)), (mo, .inr (13, MF 30 (va_up (rf v i br) 7 (.int (nI (skipH f n i)))))), (qx, .inl (cB, NN, .inl f))] := hD
  have hP := hP.sub (ws' := [(mo, .inr (13, MF 30 (va_up (rf v i br) 7 (.int (nI (skipH f n i)))))), (qx, .inl (cB, NN, .inl f)), (t, .inr (12, MF 13 (tw T))), (T.a0, .inl (cI, T.N, .inl T.kd)), (T.a1, .inl (cL, T.N, .inr (.inl T.nu))), (T.a2, .inl (cI, T.N, .inl T.st)), (T.a3, .inl (cI, T.N, .inl T.ln)), (T.a4, .inl (cI, T.N, .inl T.ki)), (T.a5, .inl (cI, T.N, .inl T.nx)), (T.a6, .inl (cI, T.N, .inl T.ns)), (T.a7, .inl (cI, T.N, .inl T.nl)), (T.a8, .inl (cI, T.N, .inl T.pa)), (T.a9, .inl (cI, T.N, .inl T.pl)), (T.au, .inl (cC, T.U, .inl T.un))]) [12, 13, 0, 1, 2, 3, 4, 5, 6, 7, 8, 9, 10, 11] rfl
  have hD := hD.sub (ws' := [(mo, .inr (13, MF 30 (va_up (rf v i br) 7 (.int (nI (skipH f n i)))))), (qx, .inl (cB, NN, .inl f)), (t, .inr (12, MF 13 (tw T))), (T.a0, .inl (cI, T.N, .inl T.kd)), (T.a1, .inl (cL, T.N, .inr (.inl T.nu))), (T.a2, .inl (cI, T.N, .inl T.st)), (T.a3, .inl (cI, T.N, .inl T.ln)), (T.a4, .inl (cI, T.N, .inl T.ki)), (T.a5, .inl (cI, T.N, .inl T.nx)), (T.a6, .inl (cI, T.N, .inl T.ns)), (T.a7, .inl (cI, T.N, .inl T.nl)), (T.a8, .inl (cI, T.N, .inl T.pa)), (T.a9, .inl (cI, T.N, .inl T.pl)), (T.au, .inl (cC, T.U, .inl T.un))]) [12, 13, 0, 1, 2, 3, 4, 5, 6, 7, 8, 9, 10, 11] (by decide) rfl
  rw [rf_u7] at hP hD
  have hP : va_P (dC, dI) classes [(mo, .inr (13, MF 30 (rf v (skipH f n i) br))), (qx, .inl (cB, NN, .inl f)), (t, .inr (12, MF 13 (tw T))), (T.a0, .inl (cI, T.N, .inl T.kd)), (T.a1, .inl (cL, T.N, .inr (.inl T.nu))), (T.a2, .inl (cI, T.N, .inl T.st)), (T.a3, .inl (cI, T.N, .inl T.ln)), (T.a4, .inl (cI, T.N, .inl T.ki)), (T.a5, .inl (cI, T.N, .inl T.nx)), (T.a6, .inl (cI, T.N, .inl T.ns)), (T.a7, .inl (cI, T.N, .inl T.nl)), (T.a8, .inl (cI, T.N, .inl T.pa)), (T.a9, .inl (cI, T.N, .inl T.pl)), (T.au, .inl (cC, T.U, .inl T.un))] H := hP
  have hD : va_D A [(mo, .inr (13, MF 30 (rf v (skipH f n i) br))), (qx, .inl (cB, NN, .inl f)), (t, .inr (12, MF 13 (tw T))), (T.a0, .inl (cI, T.N, .inl T.kd)), (T.a1, .inl (cL, T.N, .inr (.inl T.nu))), (T.a2, .inl (cI, T.N, .inl T.st)), (T.a3, .inl (cI, T.N, .inl T.ln)), (T.a4, .inl (cI, T.N, .inl T.ki)), (T.a5, .inl (cI, T.N, .inl T.nx)), (T.a6, .inl (cI, T.N, .inl T.ns)), (T.a7, .inl (cI, T.N, .inl T.nl)), (T.a8, .inl (cI, T.N, .inl T.pa)), (T.a9, .inl (cI, T.N, .inl T.pl)), (T.au, .inl (cC, T.U, .inl T.un))] := hD
  have hsk_4 := skipH_n (f := f) (show i ≤ n by omega)
  refine lv_aload_n hx hb d_Mo_value_4 rfl (lv_at hl 0 rfl) ?_
  have hPc := hP.sub (ws' := [(mo, .inr (13, MF 30 (rf v (skipH f n i) br))), (qx, .inl (cB, NN, .inl f))]) [0, 1] rfl
  have hDc := hD.sub (ws' := [(mo, .inr (13, MF 30 (rf v (skipH f n i) br))), (qx, .inl (cB, NN, .inl f))]) [0, 1] (by decide) rfl
  have hKc := hK.sub (tys' := [(cB, .byte)]) [0] rfl
  have hFc := va_free (wc := [(mo, .inr (13, MF 30 (rf v (skipH f n i) br))), (qx, .inl (cB, NN, .inl f))]) hD hS hA [0, 1] rfl
  refine va_calli (va_runV (As := []) (rest := []) ⟨hx, hb, hml, hown, hts⟩ (c_Mo_c l dC dI mo H (rf v (skipH f n i) br) cB qx NN f n (skipH f n i) (by omega) (by omega) (by omega) ((rf_ne (by decide) (by decide)).trans h6) rf_7 ((rf_ne (by decide) (by decide)).trans h8)) (cwV 0 hts (gt_V (own := R_Mo) (C := R_Mo) (i := 147) (y := y_Mo_c) i_Mo_c w_1233 w_1235 (gt_sel (y := y_Mo_c) (n := 30) (by decide +kernel)) w_7) rfl rfl rfl (by decide +kernel) ⟨Nat.le_trans (m := 8) (Nat.le_of_ble_eq_true rfl) (Nat.le_add_right 8 (2 * (r + 1))), Nat.le_trans (m := 300) (Nat.le_of_ble_eq_true rfl) (Nat.le_add_right 300 (80 * (r + 1)))⟩) ⟨mp_blind, va_recv hKc hPc (ci := 13) (q0 := 0) rfl rfl, fun U hU hW => ⟨rfl, hU, by rw [hU]; exact hPc, va_K.moved hW.alike hKc, hDc.weaken (fun _ _ _ _ => trivial)⟩⟩ rfl rfl hl.1 rfl (lv_room (Nat.le_of_ble_eq_true rfl)) d_Mo_value_5 ⟨hfit_T.1, hfit_T.2⟩) hS (fun q _ h => hFc q h) hFc (fun r1 _u t9 H1 locs ht hvm hw hB hz1 hk1 hS => ?_)
  obtain ⟨hP1, hK1, hD1⟩ := hB
  rw [ht] at hP1
  obtain ⟨hP, hD⟩ := va_join (wr := [(t, .inr (12, MF 13 (tw T))), (T.a0, .inl (cI, T.N, .inl T.kd)), (T.a1, .inl (cL, T.N, .inr (.inl T.nu))), (T.a2, .inl (cI, T.N, .inl T.st)), (T.a3, .inl (cI, T.N, .inl T.ln)), (T.a4, .inl (cI, T.N, .inl T.ki)), (T.a5, .inl (cI, T.N, .inl T.nx)), (T.a6, .inl (cI, T.N, .inl T.ns)), (T.a7, .inl (cI, T.N, .inl T.nl)), (T.a8, .inl (cI, T.N, .inl T.pa)), (T.a9, .inl (cI, T.N, .inl T.pl)), (T.au, .inl (cC, T.U, .inl T.un))]) (w1 := [(mo, .inr (13, MF 30 (rf v (skipH f n i) br))), (qx, .inl (cB, NN, .inl f))]) hP hD [0, 1] [2, 3, 4, 5, 6, 7, 8, 9, 10, 11, 12, 13] rfl rfl (by decide) (by decide) hk1 hFc hP1 hD1
  generalize H1 = H at hP hS ⊢
  have hP : va_P (dC, dI) classes [(t, .inr (12, MF 13 (tw T))), (T.a0, .inl (cI, T.N, .inl T.kd)), (T.a1, .inl (cL, T.N, .inr (.inl T.nu))), (T.a2, .inl (cI, T.N, .inl T.st)), (T.a3, .inl (cI, T.N, .inl T.ln)), (T.a4, .inl (cI, T.N, .inl T.ki)), (T.a5, .inl (cI, T.N, .inl T.nx)), (T.a6, .inl (cI, T.N, .inl T.ns)), (T.a7, .inl (cI, T.N, .inl T.nl)), (T.a8, .inl (cI, T.N, .inl T.pa)), (T.a9, .inl (cI, T.N, .inl T.pl)), (T.au, .inl (cC, T.U, .inl T.un)), (mo, .inr (13, MF 30 (rf v (skipH f n i) br))), (qx, .inl (cB, NN, .inl f))] H := hP
  have hD : va_D A [(t, .inr (12, MF 13 (tw T))), (T.a0, .inl (cI, T.N, .inl T.kd)), (T.a1, .inl (cL, T.N, .inr (.inl T.nu))), (T.a2, .inl (cI, T.N, .inl T.st)), (T.a3, .inl (cI, T.N, .inl T.ln)), (T.a4, .inl (cI, T.N, .inl T.ki)), (T.a5, .inl (cI, T.N, .inl T.nx)), (T.a6, .inl (cI, T.N, .inl T.ns)), (T.a7, .inl (cI, T.N, .inl T.nl)), (T.a8, .inl (cI, T.N, .inl T.pa)), (T.a9, .inl (cI, T.N, .inl T.pl)), (T.au, .inl (cC, T.U, .inl T.un)), (mo, .inr (13, MF 30 (rf v (skipH f n i) br))), (qx, .inl (cB, NN, .inl f))] := hD
  have hP := hP.sub (ws' := [(mo, .inr (13, MF 30 (rf v (skipH f n i) br))), (qx, .inl (cB, NN, .inl f)), (t, .inr (12, MF 13 (tw T))), (T.a0, .inl (cI, T.N, .inl T.kd)), (T.a1, .inl (cL, T.N, .inr (.inl T.nu))), (T.a2, .inl (cI, T.N, .inl T.st)), (T.a3, .inl (cI, T.N, .inl T.ln)), (T.a4, .inl (cI, T.N, .inl T.ki)), (T.a5, .inl (cI, T.N, .inl T.nx)), (T.a6, .inl (cI, T.N, .inl T.ns)), (T.a7, .inl (cI, T.N, .inl T.nl)), (T.a8, .inl (cI, T.N, .inl T.pa)), (T.a9, .inl (cI, T.N, .inl T.pl)), (T.au, .inl (cC, T.U, .inl T.un))]) [12, 13, 0, 1, 2, 3, 4, 5, 6, 7, 8, 9, 10, 11] rfl
  have hD := hD.sub (ws' := [(mo, .inr (13, MF 30 (rf v (skipH f n i) br))), (qx, .inl (cB, NN, .inl f)), (t, .inr (12, MF 13 (tw T))), (T.a0, .inl (cI, T.N, .inl T.kd)), (T.a1, .inl (cL, T.N, .inr (.inl T.nu))), (T.a2, .inl (cI, T.N, .inl T.st)), (T.a3, .inl (cI, T.N, .inl T.ln)), (T.a4, .inl (cI, T.N, .inl T.ki)), (T.a5, .inl (cI, T.N, .inl T.nx)), (T.a6, .inl (cI, T.N, .inl T.ns)), (T.a7, .inl (cI, T.N, .inl T.nl)), (T.a8, .inl (cI, T.N, .inl T.pa)), (T.a9, .inl (cI, T.N, .inl T.pl)), (T.au, .inl (cC, T.U, .inl T.un))]) [12, 13, 0, 1, 2, 3, 4, 5, 6, 7, 8, 9, 10, 11] (by decide) rfl
  have h_r1 : r1 = hereV f n (skipH f n i) := hw
  refine lv_istore_n (lv' := [(3, .int r1), (0, .ref mo), (1, .ref t), (2, .int (nI (31 - r)))]) hx hb d_Mo_value_8 rfl hl (by decide) rfl (fun ls hl => ?_)
  refine lv_iload_n hx hb d_Mo_value_9 rfl (lv_at hl 0 rfl) ?_
  refine lv_bipush (v := 110) hx hb d_Mo_value_10 (by decide) ?_
  refine lv_icmp_eq (tgt := 27) hx hb d_Mo_value_12 (by decide) (fun c12 => ?_) (fun c12 => ?_)
  · refine lv_aload_n hx hb d_Mo_value_27 rfl (lv_at hl 1 rfl) ?_
    refine lv_iload_n hx hb d_Mo_value_28 rfl (lv_at hl 0 rfl) ?_
    refine lv_bipush (v := 110) hx hb d_Mo_value_29 (by decide) ?_
    refine lv_icmp_ne (tgt := 39) hx hb d_Mo_value_31 (by decide) (fun h => absurd h (fun q => q c12)) (fun _ => ?_)
    refine va_ldcS hx hb hown (hM 1 _ rfl).2 d_Mo_value_34 ?_
    refine lv_goto (tgt := 52) hx hb d_Mo_value_36 (by decide) ?_
    have hE := (hM 1 _ rfl).1
    have hPc := hP.sub (ws' := [(mo, .inr (13, MF 30 (rf v (skipH f n i) br))), (qx, .inl (cB, NN, .inl f))]) [0, 1] rfl
    have hDc := hD.sub (ws' := [(mo, .inr (13, MF 30 (rf v (skipH f n i) br))), (qx, .inl (cB, NN, .inl f))]) [0, 1] (by decide) rfl
    have hKc := hK.sub (tys' := [(cB, .byte)]) [0] rfl
    have hFc := va_free (wc := [(mo, .inr (13, MF 30 (rf v (skipH f n i) br))), (qx, .inl (cB, NN, .inl f))]) hD hS hA [0, 1] rfl
    refine va_calli (va_runV (As := [.ref (K 1).1]) (rest := []) ⟨hx, hb, hml, hown, hts⟩ (c_Mo_wordS l dC dI mo H (rf v (skipH f n i) br) cB qx NN f (K 1).1 (K 1).2 4 (mtx 1) n (skipH f n i) (by omega) (by omega) (by omega) ((rf_ne (by decide) (by decide)).trans h6) rf_7 ((rf_ne (by decide) (by decide)).trans h8) br rf_9 (by decide)) (cwV 1 hts (gt_V (own := R_Mo) (C := R_Mo) (i := 193) (y := y_Mo_wordS) i_Mo_wordS w_1240 w_1242 (gt_sel (y := y_Mo_wordS) (n := 30) (by decide +kernel)) w_7) rfl rfl rfl (by decide +kernel) ⟨Nat.le_trans (m := 8) (Nat.le_of_ble_eq_true rfl) (Nat.le_add_right 8 (2 * (r + 1))), Nat.le_trans (m := 300) (Nat.le_of_ble_eq_true rfl) (Nat.le_add_right 300 (80 * (r + 1)))⟩) ⟨mstr_blind, va_recv hKc hPc (ci := 13) (q0 := 0) rfl rfl, fun U hU hW => ⟨rfl, ⟨hU, by rw [hU]; exact hPc, va_K.moved hW.alike hKc, hDc.weaken (fun _ _ _ _ => trivial)⟩, by rw [hU]; exact SX.moved' hW.alike (SX.narrow' (SX.kept' hE hS.2.1) hFc)⟩⟩ rfl rfl hl.1 rfl (lv_room (Nat.le_of_ble_eq_true rfl)) d_Mo_value_52 ⟨hfit_T.1, hfit_T.2⟩) hS (fun q _ h => hFc q h) hFc (fun r0 u2 t9 H1 locs ht hvm hw hB hz1 hk1 hS => ?_)
    obtain ⟨hP1, hK1, hD1⟩ := hB
    rw [ht] at hP1
    obtain ⟨hP, hD⟩ := va_join (wr := [(t, .inr (12, MF 13 (tw T))), (T.a0, .inl (cI, T.N, .inl T.kd)), (T.a1, .inl (cL, T.N, .inr (.inl T.nu))), (T.a2, .inl (cI, T.N, .inl T.st)), (T.a3, .inl (cI, T.N, .inl T.ln)), (T.a4, .inl (cI, T.N, .inl T.ki)), (T.a5, .inl (cI, T.N, .inl T.nx)), (T.a6, .inl (cI, T.N, .inl T.ns)), (T.a7, .inl (cI, T.N, .inl T.nl)), (T.a8, .inl (cI, T.N, .inl T.pa)), (T.a9, .inl (cI, T.N, .inl T.pl)), (T.au, .inl (cC, T.U, .inl T.un))]) (w1 := [(mo, .inr (13, MF 30 u2)), (qx, .inl (cB, NN, .inl f))]) hP hD [0, 1] [2, 3, 4, 5, 6, 7, 8, 9, 10, 11, 12, 13] rfl rfl (by decide) (by decide) hk1 hFc hP1 hD1
    generalize H1 = H at hP hS ⊢
    have hP : va_P (dC, dI) classes [(t, .inr (12, MF 13 (tw T))), (T.a0, .inl (cI, T.N, .inl T.kd)), (T.a1, .inl (cL, T.N, .inr (.inl T.nu))), (T.a2, .inl (cI, T.N, .inl T.st)), (T.a3, .inl (cI, T.N, .inl T.ln)), (T.a4, .inl (cI, T.N, .inl T.ki)), (T.a5, .inl (cI, T.N, .inl T.nx)), (T.a6, .inl (cI, T.N, .inl T.ns)), (T.a7, .inl (cI, T.N, .inl T.nl)), (T.a8, .inl (cI, T.N, .inl T.pa)), (T.a9, .inl (cI, T.N, .inl T.pl)), (T.au, .inl (cC, T.U, .inl T.un)), (mo, .inr (13, MF 30 u2)), (qx, .inl (cB, NN, .inl f))] H := hP
    have hD : va_D A [(t, .inr (12, MF 13 (tw T))), (T.a0, .inl (cI, T.N, .inl T.kd)), (T.a1, .inl (cL, T.N, .inr (.inl T.nu))), (T.a2, .inl (cI, T.N, .inl T.st)), (T.a3, .inl (cI, T.N, .inl T.ln)), (T.a4, .inl (cI, T.N, .inl T.ki)), (T.a5, .inl (cI, T.N, .inl T.nx)), (T.a6, .inl (cI, T.N, .inl T.ns)), (T.a7, .inl (cI, T.N, .inl T.nl)), (T.a8, .inl (cI, T.N, .inl T.pa)), (T.a9, .inl (cI, T.N, .inl T.pl)), (T.au, .inl (cC, T.U, .inl T.un)), (mo, .inr (13, MF 30 u2)), (qx, .inl (cB, NN, .inl f))] := hD
    have hP := hP.sub (ws' := [(mo, .inr (13, MF 30 u2)), (qx, .inl (cB, NN, .inl f)), (t, .inr (12, MF 13 (tw T))), (T.a0, .inl (cI, T.N, .inl T.kd)), (T.a1, .inl (cL, T.N, .inr (.inl T.nu))), (T.a2, .inl (cI, T.N, .inl T.st)), (T.a3, .inl (cI, T.N, .inl T.ln)), (T.a4, .inl (cI, T.N, .inl T.ki)), (T.a5, .inl (cI, T.N, .inl T.nx)), (T.a6, .inl (cI, T.N, .inl T.ns)), (T.a7, .inl (cI, T.N, .inl T.nl)), (T.a8, .inl (cI, T.N, .inl T.pa)), (T.a9, .inl (cI, T.N, .inl T.pl)), (T.au, .inl (cC, T.U, .inl T.un))]) [12, 13, 0, 1, 2, 3, 4, 5, 6, 7, 8, 9, 10, 11] rfl
    have hD := hD.sub (ws' := [(mo, .inr (13, MF 30 u2)), (qx, .inl (cB, NN, .inl f)), (t, .inr (12, MF 13 (tw T))), (T.a0, .inl (cI, T.N, .inl T.kd)), (T.a1, .inl (cL, T.N, .inr (.inl T.nu))), (T.a2, .inl (cI, T.N, .inl T.st)), (T.a3, .inl (cI, T.N, .inl T.ln)), (T.a4, .inl (cI, T.N, .inl T.ki)), (T.a5, .inl (cI, T.N, .inl T.nx)), (T.a6, .inl (cI, T.N, .inl T.ns)), (T.a7, .inl (cI, T.N, .inl T.nl)), (T.a8, .inl (cI, T.N, .inl T.pa)), (T.a9, .inl (cI, T.N, .inl T.pl)), (T.au, .inl (cC, T.U, .inl T.un))]) [12, 13, 0, 1, 2, 3, 4, 5, 6, 7, 8, 9, 10, 11] (by decide) rfl
    rcases hw with ⟨hw1, hw2, hw3⟩ | ⟨hw1, hw2, k9, hw3⟩
    · rw [rf_u7] at hw3
      rw [hw3] at hP hD
      subst hw2
      have hP : va_P (dC, dI) classes [(mo, .inr (13, MF 30 (rf v ((skipH f n i) + 4) br))), (qx, .inl (cB, NN, .inl f)), (t, .inr (12, MF 13 (tw T))), (T.a0, .inl (cI, T.N, .inl T.kd)), (T.a1, .inl (cL, T.N, .inr (.inl T.nu))), (T.a2, .inl (cI, T.N, .inl T.st)), (T.a3, .inl (cI, T.N, .inl T.ln)), (T.a4, .inl (cI, T.N, .inl T.ki)), (T.a5, .inl (cI, T.N, .inl T.nx)), (T.a6, .inl (cI, T.N, .inl T.ns)), (T.a7, .inl (cI, T.N, .inl T.nl)), (T.a8, .inl (cI, T.N, .inl T.pa)), (T.a9, .inl (cI, T.N, .inl T.pl)), (T.au, .inl (cC, T.U, .inl T.un))] H := hP
      have hD : va_D A [(mo, .inr (13, MF 30 (rf v ((skipH f n i) + 4) br))), (qx, .inl (cB, NN, .inl f)), (t, .inr (12, MF 13 (tw T))), (T.a0, .inl (cI, T.N, .inl T.kd)), (T.a1, .inl (cL, T.N, .inr (.inl T.nu))), (T.a2, .inl (cI, T.N, .inl T.st)), (T.a3, .inl (cI, T.N, .inl T.ln)), (T.a4, .inl (cI, T.N, .inl T.ki)), (T.a5, .inl (cI, T.N, .inl T.nx)), (T.a6, .inl (cI, T.N, .inl T.ns)), (T.a7, .inl (cI, T.N, .inl T.nl)), (T.a8, .inl (cI, T.N, .inl T.pa)), (T.a9, .inl (cI, T.N, .inl T.pl)), (T.au, .inl (cC, T.U, .inl T.un))] := hD
      have hwlt := mtch_le (k := 3) hw1 (by decide)
      refine lv_if_ne (tgt := 60) hx hb d_Mo_value_55 (by decide) (fun _ => ?_) (fun h => absurd h (by decide))
      refine lv_aload_n hx hb d_Mo_value_60 rfl (lv_at hl 2 rfl) ?_
      refine lv_iload_n hx hb d_Mo_value_61 rfl (lv_at hl 0 rfl) ?_
      refine lv_bipush (v := 110) hx hb d_Mo_value_62 (by decide) ?_
      refine lv_icmp_ne (tgt := 71) hx hb d_Mo_value_64 (by decide) (fun h => absurd h (fun q => q c12)) (fun _ => ?_)
      refine lv_iconst (v := 0) hx hb d_Mo_value_67 (by decide) ?_
      refine lv_goto (tgt := 82) hx hb d_Mo_value_68 (by decide) ?_
      have hPc := hP.sub (ws' := [(t, .inr (12, MF 13 (tw T))), (T.a0, .inl (cI, T.N, .inl T.kd)), (T.a1, .inl (cL, T.N, .inr (.inl T.nu))), (T.a2, .inl (cI, T.N, .inl T.st)), (T.a3, .inl (cI, T.N, .inl T.ln)), (T.a4, .inl (cI, T.N, .inl T.ki)), (T.a5, .inl (cI, T.N, .inl T.nx)), (T.a6, .inl (cI, T.N, .inl T.ns)), (T.a7, .inl (cI, T.N, .inl T.nl)), (T.a8, .inl (cI, T.N, .inl T.pa)), (T.a9, .inl (cI, T.N, .inl T.pl)), (T.au, .inl (cC, T.U, .inl T.un))]) [2, 3, 4, 5, 6, 7, 8, 9, 10, 11, 12, 13] rfl
      have hDc := hD.sub (ws' := [(t, .inr (12, MF 13 (tw T))), (T.a0, .inl (cI, T.N, .inl T.kd)), (T.a1, .inl (cL, T.N, .inr (.inl T.nu))), (T.a2, .inl (cI, T.N, .inl T.st)), (T.a3, .inl (cI, T.N, .inl T.ln)), (T.a4, .inl (cI, T.N, .inl T.ki)), (T.a5, .inl (cI, T.N, .inl T.nx)), (T.a6, .inl (cI, T.N, .inl T.ns)), (T.a7, .inl (cI, T.N, .inl T.nl)), (T.a8, .inl (cI, T.N, .inl T.pa)), (T.a9, .inl (cI, T.N, .inl T.pl)), (T.au, .inl (cC, T.U, .inl T.un))]) [2, 3, 4, 5, 6, 7, 8, 9, 10, 11, 12, 13] (by decide) rfl
      have hKc := hK.sub (tys' := [(cI, .int), (cL, .long), (cC, .char)]) [1, 2, 3] rfl
      have hFc := va_free (wc := [(t, .inr (12, MF 13 (tw T))), (T.a0, .inl (cI, T.N, .inl T.kd)), (T.a1, .inl (cL, T.N, .inr (.inl T.nu))), (T.a2, .inl (cI, T.N, .inl T.st)), (T.a3, .inl (cI, T.N, .inl T.ln)), (T.a4, .inl (cI, T.N, .inl T.ki)), (T.a5, .inl (cI, T.N, .inl T.nx)), (T.a6, .inl (cI, T.N, .inl T.ns)), (T.a7, .inl (cI, T.N, .inl T.nl)), (T.a8, .inl (cI, T.N, .inl T.pa)), (T.a9, .inl (cI, T.N, .inl T.pl)), (T.au, .inl (cC, T.U, .inl T.un))]) hD hS hA [2, 3, 4, 5, 6, 7, 8, 9, 10, 11, 12, 13] rfl
      refine w_same (fun hq0 => ?_)
      refine va_calli (va_runV (As := [.int 0]) (rest := []) ⟨hx, hb, hml, hown, hts⟩ (c_Tree_add l dC dI t H cI cL cC T 0 hTk_T) (cwV 1 hts (gt_V (own := R_Mo) (C := R_Tree) (i := 197) (y := y_Tree_add) i_Tree_add w_1254 w_1255 w_1256 w_8) rfl rfl rfl (by decide +kernel) ⟨Nat.le_trans (m := 8) (Nat.le_of_ble_eq_true rfl) (Nat.le_add_right 8 (2 * (r + 1))), Nat.le_trans (m := 300) (Nat.le_of_ble_eq_true rfl) (Nat.le_add_right 300 (80 * (r + 1)))⟩) ⟨mp_blind, va_recv hKc hPc (ci := 12) (q0 := 0) rfl rfl, fun U hU hW => ⟨rfl, hU, by rw [hU]; exact hPc, va_K.moved hW.alike hKc, hDc.weaken (fun _ _ _ _ => trivial)⟩⟩ rfl rfl hl.1 rfl (lv_room (Nat.le_of_ble_eq_true rfl)) d_Mo_value_82 ⟨(TAd.fit hGB_T hTk_T (by omega)).1, (TAd.fit hGB_T hTk_T (by omega)).2⟩) hS (fun q _ h => hFc q h) hFc (fun r0 T1 t9 H1 locs ht hvm hw hB hz1 hk1 hS => ?_)
      obtain ⟨⟨hP1, hK1, hD1⟩, hz9⟩ := hB
      rw [ht] at hP1
      rw [ht] at hz9
      obtain ⟨hr0, hA_T1⟩ := hw
      have hA_T1 : TAd T T1 0 := hA_T1
      have hAg := hA_T1.gb hTk_T (by omega)
      obtain ⟨hGB_T1, hGc_T1, hGs_T1⟩ := hGB_T.tr hAg.1 (show T.ct + 1 ≤ (T.ct + (n + 12 - i)) by omega) (Nat.zero_le _)
      have hGc_T1 := Nat.le_trans (Nat.add_le_add_left hAg.2.1 _) hGc_T1
      have hGs_T1 := Nat.le_trans (Nat.add_le_add_left hAg.2.2 _) hGs_T1
      have hq1 : szk s.heap H1 (cE T T1) (sE T T1) := (hq0.trans hz9).mono hGc_T1 hGs_T1
      refine w_tight hq1 ?_
      obtain ⟨hP, hD⟩ := va_join (wr := [(mo, .inr (13, MF 30 (rf v ((skipH f n i) + 4) br))), (qx, .inl (cB, NN, .inl f))]) (w1 := [(t, .inr (12, MF 13 (tw T1))), (T1.a0, .inl (cI, T1.N, .inl T1.kd)), (T1.a1, .inl (cL, T1.N, .inr (.inl T1.nu))), (T1.a2, .inl (cI, T1.N, .inl T1.st)), (T1.a3, .inl (cI, T1.N, .inl T1.ln)), (T1.a4, .inl (cI, T1.N, .inl T1.ki)), (T1.a5, .inl (cI, T1.N, .inl T1.nx)), (T1.a6, .inl (cI, T1.N, .inl T1.ns)), (T1.a7, .inl (cI, T1.N, .inl T1.nl)), (T1.a8, .inl (cI, T1.N, .inl T1.pa)), (T1.a9, .inl (cI, T1.N, .inl T1.pl)), (T1.au, .inl (cC, T1.U, .inl T1.un))]) hP hD [2, 3, 4, 5, 6, 7, 8, 9, 10, 11, 12, 13] [0, 1] rfl rfl (by decide) (by decide) hk1 hFc hP1 hD1
      generalize H1 = H at hP hS ⊢
      have hP : va_P (dC, dI) classes [(mo, .inr (13, MF 30 (rf v ((skipH f n i) + 4) br))), (qx, .inl (cB, NN, .inl f)), (t, .inr (12, MF 13 (tw T1))), (T1.a0, .inl (cI, T1.N, .inl T1.kd)), (T1.a1, .inl (cL, T1.N, .inr (.inl T1.nu))), (T1.a2, .inl (cI, T1.N, .inl T1.st)), (T1.a3, .inl (cI, T1.N, .inl T1.ln)), (T1.a4, .inl (cI, T1.N, .inl T1.ki)), (T1.a5, .inl (cI, T1.N, .inl T1.nx)), (T1.a6, .inl (cI, T1.N, .inl T1.ns)), (T1.a7, .inl (cI, T1.N, .inl T1.nl)), (T1.a8, .inl (cI, T1.N, .inl T1.pa)), (T1.a9, .inl (cI, T1.N, .inl T1.pl)), (T1.au, .inl (cC, T1.U, .inl T1.un))] H := hP
      have hD : va_D A [(mo, .inr (13, MF 30 (rf v ((skipH f n i) + 4) br))), (qx, .inl (cB, NN, .inl f)), (t, .inr (12, MF 13 (tw T1))), (T1.a0, .inl (cI, T1.N, .inl T1.kd)), (T1.a1, .inl (cL, T1.N, .inr (.inl T1.nu))), (T1.a2, .inl (cI, T1.N, .inl T1.st)), (T1.a3, .inl (cI, T1.N, .inl T1.ln)), (T1.a4, .inl (cI, T1.N, .inl T1.ki)), (T1.a5, .inl (cI, T1.N, .inl T1.nx)), (T1.a6, .inl (cI, T1.N, .inl T1.ns)), (T1.a7, .inl (cI, T1.N, .inl T1.nl)), (T1.a8, .inl (cI, T1.N, .inl T1.pa)), (T1.a9, .inl (cI, T1.N, .inl T1.pl)), (T1.au, .inl (cC, T1.U, .inl T1.un))] := hD
      have hTk_T1 := (hA_T1.ok hTk_T (by omega)).1
      have hAc_T1 : T1.ct = T.ct + 1 ∧ T1.us = T.us := ⟨(hA_T1.ok hTk_T (by omega)).2.2.2.2.2.1, (hA_T1.ok hTk_T (by omega)).2.2.2.2.1⟩
      have hr0 : r0 = nI T.ct := hr0
      subst hr0
      have hfit_T1 := hGB_T1.fits
      refine lv_istore (lv' := [(4, .int (nI T.ct)), (3, .int r1), (0, .ref mo), (1, .ref t), (2, .int (nI (31 - r)))]) hx hb d_Mo_value_85 hl (by decide) rfl (fun ls hl => ?_)
      refine lv_goto (tgt := 253) hx hb d_Mo_value_87 (by decide) ?_
      have hAA := hA_T1.2.2.2.2.2.2.2
      have hTEn := hA_T1.te
      have hRepn : RepL T1 T.ct (0, 0, []) := ⟨hAA.1, by show 0 ≤ 6; omega, fun h => absurd h (by show ¬ 0 = 3; omega), fun h => absurd h (by show ¬ 0 = 4; omega), fun _ => hAA.2.2.2.2.2.1⟩
      have hkin : T1.ki T.ct = -1 := hAA.2.1
      have hpan : T1.pa T.ct = -1 := hAA.2.2.2.1
      have hctn : T1.ct = T.ct + 1 := hAc_T1.1
      have husn : T1.us = T.us := hAc_T1.2
      have hpl : pLeaf f n (skipH f n i) = some ((0, 0, []), ((skipH f n i) + 4)) := by unfold pLeaf; rw [if_pos (h_r1.symm.trans c12), if_pos (mtB_iff.mpr hw1)]
      have hnc : ¬ (hereV f n (skipH f n i) = 91 ∨ hereV f n (skipH f n i) = 123) := fun h => by rw [← h_r1, c12] at h; revert h; decide
      refine lv_aload_n hx hb d_Mo_value_253 rfl (lv_at hl 2 rfl) ?_
      have hPc := hP.sub (ws' := [(mo, .inr (13, MF 30 (rf v ((skipH f n i) + 4) br))), (qx, .inl (cB, NN, .inl f))]) [0, 1] rfl
      have hDc := hD.sub (ws' := [(mo, .inr (13, MF 30 (rf v ((skipH f n i) + 4) br))), (qx, .inl (cB, NN, .inl f))]) [0, 1] (by decide) rfl
      have hKc := hK.sub (tys' := [(cB, .byte)]) [0] rfl
      have hFc := va_free (wc := [(mo, .inr (13, MF 30 (rf v ((skipH f n i) + 4) br))), (qx, .inl (cB, NN, .inl f))]) hD hS hA [0, 1] rfl
      refine va_callv (va_runV (As := []) (rest := []) ⟨hx, hb, hml, hown, hts⟩ (c_Mo_blanks l dC dI mo H (rf v ((skipH f n i) + 4) br) cB qx NN f n ((skipH f n i) + 4) (by omega) (by omega) (by omega) ((rf_ne (by decide) (by decide)).trans h6) rf_7 ((rf_ne (by decide) (by decide)).trans h8)) (cwV 0 hts (gt_V (own := R_Mo) (C := R_Mo) (i := 184) (y := y_Mo_blanks) i_Mo_blanks w_1229 w_1231 (gt_sel (y := y_Mo_blanks) (n := 30) (by decide +kernel)) w_7) rfl rfl rfl (by decide +kernel) ⟨Nat.le_trans (m := 8) (Nat.le_of_ble_eq_true rfl) (Nat.le_add_right 8 (2 * (r + 1))), Nat.le_trans (m := 300) (Nat.le_of_ble_eq_true rfl) (Nat.le_add_right 300 (80 * (r + 1)))⟩) ⟨mp_blind, va_recv hKc hPc (ci := 13) (q0 := 0) rfl rfl, fun U hU hW => ⟨rfl, hU, by rw [hU]; exact hPc, va_K.moved hW.alike hKc, hDc.weaken (fun _ _ _ _ => trivial)⟩⟩ rfl rfl hl.1 rfl (lv_room (Nat.le_of_ble_eq_true rfl)) d_Mo_value_254 ⟨hfit_T1.1, hfit_T1.2⟩) hS (fun q _ h => hFc q h) hFc (fun _u t9 H1 locs ht hvm hw hB hz1 hk1 hS => ?_)
      obtain ⟨hP1, hK1, hD1⟩ := hB
      rw [ht] at hP1
      obtain ⟨hP, hD⟩ := va_join (wr := [(t, .inr (12, MF 13 (tw T1))), (T1.a0, .inl (cI, T1.N, .inl T1.kd)), (T1.a1, .inl (cL, T1.N, .inr (.inl T1.nu))), (T1.a2, .inl (cI, T1.N, .inl T1.st)), (T1.a3, .inl (cI, T1.N, .inl T1.ln)), (T1.a4, .inl (cI, T1.N, .inl T1.ki)), (T1.a5, .inl (cI, T1.N, .inl T1.nx)), (T1.a6, .inl (cI, T1.N, .inl T1.ns)), (T1.a7, .inl (cI, T1.N, .inl T1.nl)), (T1.a8, .inl (cI, T1.N, .inl T1.pa)), (T1.a9, .inl (cI, T1.N, .inl T1.pl)), (T1.au, .inl (cC, T1.U, .inl T1.un))]) (w1 := [(mo, .inr (13, MF 30 (va_up (rf v ((skipH f n i) + 4) br) 7 (.int (nI (skipH f n ((skipH f n i) + 4))))))), (qx, .inl (cB, NN, .inl f))]) hP hD [0, 1] [2, 3, 4, 5, 6, 7, 8, 9, 10, 11, 12, 13] rfl rfl (by decide) (by decide) hk1 hFc hP1 hD1
      generalize H1 = H at hP hS ⊢
      have hP : va_P (dC, dI) classes [(t, .inr (12, MF 13 (tw T1))), (T1.a0, .inl (cI, T1.N, .inl T1.kd)), (T1.a1, .inl (cL, T1.N, .inr (.inl T1.nu))), (T1.a2, .inl (cI, T1.N, .inl T1.st)), (T1.a3, .inl (cI, T1.N, .inl T1.ln)), (T1.a4, .inl (cI, T1.N, .inl T1.ki)), (T1.a5, .inl (cI, T1.N, .inl T1.nx)), (T1.a6, .inl (cI, T1.N, .inl T1.ns)), (T1.a7, .inl (cI, T1.N, .inl T1.nl)), (T1.a8, .inl (cI, T1.N, .inl T1.pa)), (T1.a9, .inl (cI, T1.N, .inl T1.pl)), (T1.au, .inl (cC, T1.U, .inl T1.un)), (mo, .inr (13, MF 30 (va_up (rf v ((skipH f n i) + 4) br) 7 (.int (nI (skipH f n ((skipH f n i) + 4))))))), (qx, .inl (cB, NN, .inl f))] H := hP
      have hD : va_D A [(t, .inr (12, MF 13 (tw T1))), (T1.a0, .inl (cI, T1.N, .inl T1.kd)), (T1.a1, .inl (cL, T1.N, .inr (.inl T1.nu))), (T1.a2, .inl (cI, T1.N, .inl T1.st)), (T1.a3, .inl (cI, T1.N, .inl T1.ln)), (T1.a4, .inl (cI, T1.N, .inl T1.ki)), (T1.a5, .inl (cI, T1.N, .inl T1.nx)), (T1.a6, .inl (cI, T1.N, .inl T1.ns)), (T1.a7, .inl (cI, T1.N, .inl T1.nl)), (T1.a8, .inl (cI, T1.N, .inl T1.pa)), (T1.a9, .inl (cI, T1.N, .inl T1.pl)), (T1.au, .inl (cC, T1.U, .inl T1.un)), (mo, .inr (13, MF 30 (va_up (rf v ((skipH f n i) + 4) br) 7 (.int (nI (skipH f n ((skipH f n i) + 4))))))), (qx, .inl (cB, NN, .inl f))] := hD
      have hP := hP.sub (ws' := [(mo, .inr (13, MF 30 (va_up (rf v ((skipH f n i) + 4) br) 7 (.int (nI (skipH f n ((skipH f n i) + 4))))))), (qx, .inl (cB, NN, .inl f)), (t, .inr (12, MF 13 (tw T1))), (T1.a0, .inl (cI, T1.N, .inl T1.kd)), (T1.a1, .inl (cL, T1.N, .inr (.inl T1.nu))), (T1.a2, .inl (cI, T1.N, .inl T1.st)), (T1.a3, .inl (cI, T1.N, .inl T1.ln)), (T1.a4, .inl (cI, T1.N, .inl T1.ki)), (T1.a5, .inl (cI, T1.N, .inl T1.nx)), (T1.a6, .inl (cI, T1.N, .inl T1.ns)), (T1.a7, .inl (cI, T1.N, .inl T1.nl)), (T1.a8, .inl (cI, T1.N, .inl T1.pa)), (T1.a9, .inl (cI, T1.N, .inl T1.pl)), (T1.au, .inl (cC, T1.U, .inl T1.un))]) [12, 13, 0, 1, 2, 3, 4, 5, 6, 7, 8, 9, 10, 11] rfl
      have hD := hD.sub (ws' := [(mo, .inr (13, MF 30 (va_up (rf v ((skipH f n i) + 4) br) 7 (.int (nI (skipH f n ((skipH f n i) + 4))))))), (qx, .inl (cB, NN, .inl f)), (t, .inr (12, MF 13 (tw T1))), (T1.a0, .inl (cI, T1.N, .inl T1.kd)), (T1.a1, .inl (cL, T1.N, .inr (.inl T1.nu))), (T1.a2, .inl (cI, T1.N, .inl T1.st)), (T1.a3, .inl (cI, T1.N, .inl T1.ln)), (T1.a4, .inl (cI, T1.N, .inl T1.ki)), (T1.a5, .inl (cI, T1.N, .inl T1.nx)), (T1.a6, .inl (cI, T1.N, .inl T1.ns)), (T1.a7, .inl (cI, T1.N, .inl T1.nl)), (T1.a8, .inl (cI, T1.N, .inl T1.pa)), (T1.a9, .inl (cI, T1.N, .inl T1.pl)), (T1.au, .inl (cC, T1.U, .inl T1.un))]) [12, 13, 0, 1, 2, 3, 4, 5, 6, 7, 8, 9, 10, 11] (by decide) rfl
      rw [rf_u7] at hP hD
      have hP : va_P (dC, dI) classes [(mo, .inr (13, MF 30 (rf v (skipH f n ((skipH f n i) + 4)) br))), (qx, .inl (cB, NN, .inl f)), (t, .inr (12, MF 13 (tw T1))), (T1.a0, .inl (cI, T1.N, .inl T1.kd)), (T1.a1, .inl (cL, T1.N, .inr (.inl T1.nu))), (T1.a2, .inl (cI, T1.N, .inl T1.st)), (T1.a3, .inl (cI, T1.N, .inl T1.ln)), (T1.a4, .inl (cI, T1.N, .inl T1.ki)), (T1.a5, .inl (cI, T1.N, .inl T1.nx)), (T1.a6, .inl (cI, T1.N, .inl T1.ns)), (T1.a7, .inl (cI, T1.N, .inl T1.nl)), (T1.a8, .inl (cI, T1.N, .inl T1.pa)), (T1.a9, .inl (cI, T1.N, .inl T1.pl)), (T1.au, .inl (cC, T1.U, .inl T1.un))] H := hP
      have hD : va_D A [(mo, .inr (13, MF 30 (rf v (skipH f n ((skipH f n i) + 4)) br))), (qx, .inl (cB, NN, .inl f)), (t, .inr (12, MF 13 (tw T1))), (T1.a0, .inl (cI, T1.N, .inl T1.kd)), (T1.a1, .inl (cL, T1.N, .inr (.inl T1.nu))), (T1.a2, .inl (cI, T1.N, .inl T1.st)), (T1.a3, .inl (cI, T1.N, .inl T1.ln)), (T1.a4, .inl (cI, T1.N, .inl T1.ki)), (T1.a5, .inl (cI, T1.N, .inl T1.nx)), (T1.a6, .inl (cI, T1.N, .inl T1.ns)), (T1.a7, .inl (cI, T1.N, .inl T1.nl)), (T1.a8, .inl (cI, T1.N, .inl T1.pa)), (T1.a9, .inl (cI, T1.N, .inl T1.pl)), (T1.au, .inl (cC, T1.U, .inl T1.un))] := hD
      have hsk_257 := skipH_n (f := f) (show ((skipH f n i) + 4) ≤ n by omega)
      refine lv_iload hx hb d_Mo_value_257 (lv_at hl 0 rfl) ?_
      have hpv : pV f n (r + 1) i = some (jleaf (r + 1) (0, 0, []), (skipH f n ((skipH f n i) + 4))) := by rw [pV_leaf _ hnc, hpl]; rfl
      have hRV : RepV T1 (r + 1) T.ct T1.ct (jleaf (r + 1) (0, 0, [])) := leafRep hRepn (by decide) hkin hctn _
      refine w_same (fun hq => ?_)
      refine W.widen (k := ncap T (T.ct + (n + 12 - i)) + qcap T (T.us + (n + 12 - i))) (n := 20 * ncap T (T.ct + (n + 12 - i)) + 2 * qcap T (T.us + (n + 12 - i))) hfit_T1.1 hfit_T1.2 ?_
      have hTG : TG n i T T1 := ⟨hTk_T1, hGB_T1⟩
      exact W.iret (v := nI T.ct) hx hb hr (fun t9 ht hW => ⟨⟨nI T.ct, (T1, (skipH f n ((skipH f n i) + 4)), br), rfl, ⟨hTG, Or.inl ⟨(jleaf (r + 1) (0, 0, [])), rfl, hpv, hRV, hTEn, hpan, by show T.ct < T1.ct; omega, by show T1.ct + i ≤ T.ct + (skipH f n ((skipH f n i) + 4)); omega, by show T1.us + i ≤ T.us + (skipH f n ((skipH f n i) + 4)); omega, by show (skipH f n ((skipH f n i) + 4)) ≤ n; omega⟩⟩, ⟨by rw [ht]; exact hP, va_K.moved hW.alike hK, hD⟩, by rw [ht]; exact hq⟩, hS.F ht⟩) hS.2.2 d_Mo_value_259
    · rw [rf_u7] at hw3
      obtain ⟨b5, h_b5⟩ := rf_fail (v := v) (i := k9) (br := br) (b2 := br) (wh := nI k9)
      rw [h_b5] at hw3
      rw [hw3] at hP hD
      subst hw2
      have hP : va_P (dC, dI) classes [(mo, .inr (13, MF 30 (rf v k9 b5))), (qx, .inl (cB, NN, .inl f)), (t, .inr (12, MF 13 (tw T))), (T.a0, .inl (cI, T.N, .inl T.kd)), (T.a1, .inl (cL, T.N, .inr (.inl T.nu))), (T.a2, .inl (cI, T.N, .inl T.st)), (T.a3, .inl (cI, T.N, .inl T.ln)), (T.a4, .inl (cI, T.N, .inl T.ki)), (T.a5, .inl (cI, T.N, .inl T.nx)), (T.a6, .inl (cI, T.N, .inl T.ns)), (T.a7, .inl (cI, T.N, .inl T.nl)), (T.a8, .inl (cI, T.N, .inl T.pa)), (T.a9, .inl (cI, T.N, .inl T.pl)), (T.au, .inl (cC, T.U, .inl T.un))] H := hP
      have hD : va_D A [(mo, .inr (13, MF 30 (rf v k9 b5))), (qx, .inl (cB, NN, .inl f)), (t, .inr (12, MF 13 (tw T))), (T.a0, .inl (cI, T.N, .inl T.kd)), (T.a1, .inl (cL, T.N, .inr (.inl T.nu))), (T.a2, .inl (cI, T.N, .inl T.st)), (T.a3, .inl (cI, T.N, .inl T.ln)), (T.a4, .inl (cI, T.N, .inl T.ki)), (T.a5, .inl (cI, T.N, .inl T.nx)), (T.a6, .inl (cI, T.N, .inl T.ns)), (T.a7, .inl (cI, T.N, .inl T.nl)), (T.a8, .inl (cI, T.N, .inl T.pa)), (T.a9, .inl (cI, T.N, .inl T.pl)), (T.au, .inl (cC, T.U, .inl T.un))] := hD
      refine lv_if_ne (tgt := 60) hx hb d_Mo_value_55 (by decide) (fun h => absurd h (by decide)) (fun _ => ?_)
      refine lv_iconst (v := (-1)) hx hb d_Mo_value_58 (by decide) ?_
      have hpl : pLeaf f n (skipH f n i) = none := by unfold pLeaf; rw [if_pos (h_r1.symm.trans c12), if_neg (fun h => hw1 (mtB_iff.mp h))]
      have hfin : pV f n (r + 1) i = none := by rw [pV_leaf _ (fun h => by rw [← h_r1, c12] at h; revert h; decide), hpl]; rfl
      refine w_same (fun hq => ?_)
      refine W.widen (k := ncap T (T.ct + (n + 12 - i)) + qcap T (T.us + (n + 12 - i))) (n := 20 * ncap T (T.ct + (n + 12 - i)) + 2 * qcap T (T.us + (n + 12 - i))) hfit_T.1 hfit_T.2 ?_
      have hTG : TG n i T T := ⟨hTk_T, hGB_T⟩
      exact W.iret (v := -1) hx hb hr (fun t9 ht hW => ⟨⟨-1, (T, k9, b5), rfl, ⟨hTG, Or.inr ⟨rfl, hfin⟩⟩, ⟨by rw [ht]; exact hP, va_K.moved hW.alike hK, hD⟩, by rw [ht]; exact hq⟩, hS.F ht⟩) hS.2.2 d_Mo_value_59
  · refine lv_iload_n hx hb d_Mo_value_15 rfl (lv_at hl 0 rfl) ?_
    refine lv_bipush (v := 116) hx hb d_Mo_value_16 (by decide) ?_
    refine lv_icmp_eq (tgt := 27) hx hb d_Mo_value_18 (by decide) (fun c18 => ?_) (fun c18 => ?_)
    · refine lv_aload_n hx hb d_Mo_value_27 rfl (lv_at hl 1 rfl) ?_
      refine lv_iload_n hx hb d_Mo_value_28 rfl (lv_at hl 0 rfl) ?_
      refine lv_bipush (v := 110) hx hb d_Mo_value_29 (by decide) ?_
      refine lv_icmp_ne (tgt := 39) hx hb d_Mo_value_31 (by decide) (fun _ => ?_) (fun h => absurd h c12)
      refine lv_iload_n hx hb d_Mo_value_39 rfl (lv_at hl 0 rfl) ?_
      refine lv_bipush (v := 116) hx hb d_Mo_value_40 (by decide) ?_
      refine lv_icmp_ne (tgt := 50) hx hb d_Mo_value_42 (by decide) (fun h => absurd h (fun q => q c18)) (fun _ => ?_)
      refine va_ldcS hx hb hown (hM 2 _ rfl).2 d_Mo_value_45 ?_
      refine lv_goto (tgt := 52) hx hb d_Mo_value_47 (by decide) ?_
      have hE := (hM 2 _ rfl).1
      have hPc := hP.sub (ws' := [(mo, .inr (13, MF 30 (rf v (skipH f n i) br))), (qx, .inl (cB, NN, .inl f))]) [0, 1] rfl
      have hDc := hD.sub (ws' := [(mo, .inr (13, MF 30 (rf v (skipH f n i) br))), (qx, .inl (cB, NN, .inl f))]) [0, 1] (by decide) rfl
      have hKc := hK.sub (tys' := [(cB, .byte)]) [0] rfl
      have hFc := va_free (wc := [(mo, .inr (13, MF 30 (rf v (skipH f n i) br))), (qx, .inl (cB, NN, .inl f))]) hD hS hA [0, 1] rfl
      refine va_calli (va_runV (As := [.ref (K 2).1]) (rest := []) ⟨hx, hb, hml, hown, hts⟩ (c_Mo_wordS l dC dI mo H (rf v (skipH f n i) br) cB qx NN f (K 2).1 (K 2).2 4 (mtx 2) n (skipH f n i) (by omega) (by omega) (by omega) ((rf_ne (by decide) (by decide)).trans h6) rf_7 ((rf_ne (by decide) (by decide)).trans h8) br rf_9 (by decide)) (cwV 1 hts (gt_V (own := R_Mo) (C := R_Mo) (i := 193) (y := y_Mo_wordS) i_Mo_wordS w_1240 w_1242 (gt_sel (y := y_Mo_wordS) (n := 30) (by decide +kernel)) w_7) rfl rfl rfl (by decide +kernel) ⟨Nat.le_trans (m := 8) (Nat.le_of_ble_eq_true rfl) (Nat.le_add_right 8 (2 * (r + 1))), Nat.le_trans (m := 300) (Nat.le_of_ble_eq_true rfl) (Nat.le_add_right 300 (80 * (r + 1)))⟩) ⟨mstr_blind, va_recv hKc hPc (ci := 13) (q0 := 0) rfl rfl, fun U hU hW => ⟨rfl, ⟨hU, by rw [hU]; exact hPc, va_K.moved hW.alike hKc, hDc.weaken (fun _ _ _ _ => trivial)⟩, by rw [hU]; exact SX.moved' hW.alike (SX.narrow' (SX.kept' hE hS.2.1) hFc)⟩⟩ rfl rfl hl.1 rfl (lv_room (Nat.le_of_ble_eq_true rfl)) d_Mo_value_52 ⟨hfit_T.1, hfit_T.2⟩) hS (fun q _ h => hFc q h) hFc (fun r0 u2 t9 H1 locs ht hvm hw hB hz1 hk1 hS => ?_)
      obtain ⟨hP1, hK1, hD1⟩ := hB
      rw [ht] at hP1
      obtain ⟨hP, hD⟩ := va_join (wr := [(t, .inr (12, MF 13 (tw T))), (T.a0, .inl (cI, T.N, .inl T.kd)), (T.a1, .inl (cL, T.N, .inr (.inl T.nu))), (T.a2, .inl (cI, T.N, .inl T.st)), (T.a3, .inl (cI, T.N, .inl T.ln)), (T.a4, .inl (cI, T.N, .inl T.ki)), (T.a5, .inl (cI, T.N, .inl T.nx)), (T.a6, .inl (cI, T.N, .inl T.ns)), (T.a7, .inl (cI, T.N, .inl T.nl)), (T.a8, .inl (cI, T.N, .inl T.pa)), (T.a9, .inl (cI, T.N, .inl T.pl)), (T.au, .inl (cC, T.U, .inl T.un))]) (w1 := [(mo, .inr (13, MF 30 u2)), (qx, .inl (cB, NN, .inl f))]) hP hD [0, 1] [2, 3, 4, 5, 6, 7, 8, 9, 10, 11, 12, 13] rfl rfl (by decide) (by decide) hk1 hFc hP1 hD1
      generalize H1 = H at hP hS ⊢
      have hP : va_P (dC, dI) classes [(t, .inr (12, MF 13 (tw T))), (T.a0, .inl (cI, T.N, .inl T.kd)), (T.a1, .inl (cL, T.N, .inr (.inl T.nu))), (T.a2, .inl (cI, T.N, .inl T.st)), (T.a3, .inl (cI, T.N, .inl T.ln)), (T.a4, .inl (cI, T.N, .inl T.ki)), (T.a5, .inl (cI, T.N, .inl T.nx)), (T.a6, .inl (cI, T.N, .inl T.ns)), (T.a7, .inl (cI, T.N, .inl T.nl)), (T.a8, .inl (cI, T.N, .inl T.pa)), (T.a9, .inl (cI, T.N, .inl T.pl)), (T.au, .inl (cC, T.U, .inl T.un)), (mo, .inr (13, MF 30 u2)), (qx, .inl (cB, NN, .inl f))] H := hP
      have hD : va_D A [(t, .inr (12, MF 13 (tw T))), (T.a0, .inl (cI, T.N, .inl T.kd)), (T.a1, .inl (cL, T.N, .inr (.inl T.nu))), (T.a2, .inl (cI, T.N, .inl T.st)), (T.a3, .inl (cI, T.N, .inl T.ln)), (T.a4, .inl (cI, T.N, .inl T.ki)), (T.a5, .inl (cI, T.N, .inl T.nx)), (T.a6, .inl (cI, T.N, .inl T.ns)), (T.a7, .inl (cI, T.N, .inl T.nl)), (T.a8, .inl (cI, T.N, .inl T.pa)), (T.a9, .inl (cI, T.N, .inl T.pl)), (T.au, .inl (cC, T.U, .inl T.un)), (mo, .inr (13, MF 30 u2)), (qx, .inl (cB, NN, .inl f))] := hD
      have hP := hP.sub (ws' := [(mo, .inr (13, MF 30 u2)), (qx, .inl (cB, NN, .inl f)), (t, .inr (12, MF 13 (tw T))), (T.a0, .inl (cI, T.N, .inl T.kd)), (T.a1, .inl (cL, T.N, .inr (.inl T.nu))), (T.a2, .inl (cI, T.N, .inl T.st)), (T.a3, .inl (cI, T.N, .inl T.ln)), (T.a4, .inl (cI, T.N, .inl T.ki)), (T.a5, .inl (cI, T.N, .inl T.nx)), (T.a6, .inl (cI, T.N, .inl T.ns)), (T.a7, .inl (cI, T.N, .inl T.nl)), (T.a8, .inl (cI, T.N, .inl T.pa)), (T.a9, .inl (cI, T.N, .inl T.pl)), (T.au, .inl (cC, T.U, .inl T.un))]) [12, 13, 0, 1, 2, 3, 4, 5, 6, 7, 8, 9, 10, 11] rfl
      have hD := hD.sub (ws' := [(mo, .inr (13, MF 30 u2)), (qx, .inl (cB, NN, .inl f)), (t, .inr (12, MF 13 (tw T))), (T.a0, .inl (cI, T.N, .inl T.kd)), (T.a1, .inl (cL, T.N, .inr (.inl T.nu))), (T.a2, .inl (cI, T.N, .inl T.st)), (T.a3, .inl (cI, T.N, .inl T.ln)), (T.a4, .inl (cI, T.N, .inl T.ki)), (T.a5, .inl (cI, T.N, .inl T.nx)), (T.a6, .inl (cI, T.N, .inl T.ns)), (T.a7, .inl (cI, T.N, .inl T.nl)), (T.a8, .inl (cI, T.N, .inl T.pa)), (T.a9, .inl (cI, T.N, .inl T.pl)), (T.au, .inl (cC, T.U, .inl T.un))]) [12, 13, 0, 1, 2, 3, 4, 5, 6, 7, 8, 9, 10, 11] (by decide) rfl
      rcases hw with ⟨hw1, hw2, hw3⟩ | ⟨hw1, hw2, k9, hw3⟩
      · rw [rf_u7] at hw3
        rw [hw3] at hP hD
        subst hw2
        have hP : va_P (dC, dI) classes [(mo, .inr (13, MF 30 (rf v ((skipH f n i) + 4) br))), (qx, .inl (cB, NN, .inl f)), (t, .inr (12, MF 13 (tw T))), (T.a0, .inl (cI, T.N, .inl T.kd)), (T.a1, .inl (cL, T.N, .inr (.inl T.nu))), (T.a2, .inl (cI, T.N, .inl T.st)), (T.a3, .inl (cI, T.N, .inl T.ln)), (T.a4, .inl (cI, T.N, .inl T.ki)), (T.a5, .inl (cI, T.N, .inl T.nx)), (T.a6, .inl (cI, T.N, .inl T.ns)), (T.a7, .inl (cI, T.N, .inl T.nl)), (T.a8, .inl (cI, T.N, .inl T.pa)), (T.a9, .inl (cI, T.N, .inl T.pl)), (T.au, .inl (cC, T.U, .inl T.un))] H := hP
        have hD : va_D A [(mo, .inr (13, MF 30 (rf v ((skipH f n i) + 4) br))), (qx, .inl (cB, NN, .inl f)), (t, .inr (12, MF 13 (tw T))), (T.a0, .inl (cI, T.N, .inl T.kd)), (T.a1, .inl (cL, T.N, .inr (.inl T.nu))), (T.a2, .inl (cI, T.N, .inl T.st)), (T.a3, .inl (cI, T.N, .inl T.ln)), (T.a4, .inl (cI, T.N, .inl T.ki)), (T.a5, .inl (cI, T.N, .inl T.nx)), (T.a6, .inl (cI, T.N, .inl T.ns)), (T.a7, .inl (cI, T.N, .inl T.nl)), (T.a8, .inl (cI, T.N, .inl T.pa)), (T.a9, .inl (cI, T.N, .inl T.pl)), (T.au, .inl (cC, T.U, .inl T.un))] := hD
        have hwlt := mtch_le (k := 3) hw1 (by decide)
        refine lv_if_ne (tgt := 60) hx hb d_Mo_value_55 (by decide) (fun _ => ?_) (fun h => absurd h (by decide))
        refine lv_aload_n hx hb d_Mo_value_60 rfl (lv_at hl 2 rfl) ?_
        refine lv_iload_n hx hb d_Mo_value_61 rfl (lv_at hl 0 rfl) ?_
        refine lv_bipush (v := 110) hx hb d_Mo_value_62 (by decide) ?_
        refine lv_icmp_ne (tgt := 71) hx hb d_Mo_value_64 (by decide) (fun _ => ?_) (fun h => absurd h c12)
        refine lv_iload_n hx hb d_Mo_value_71 rfl (lv_at hl 0 rfl) ?_
        refine lv_bipush (v := 116) hx hb d_Mo_value_72 (by decide) ?_
        refine lv_icmp_ne (tgt := 81) hx hb d_Mo_value_74 (by decide) (fun h => absurd h (fun q => q c18)) (fun _ => ?_)
        refine lv_iconst (v := 1) hx hb d_Mo_value_77 (by decide) ?_
        refine lv_goto (tgt := 82) hx hb d_Mo_value_78 (by decide) ?_
        have hPc := hP.sub (ws' := [(t, .inr (12, MF 13 (tw T))), (T.a0, .inl (cI, T.N, .inl T.kd)), (T.a1, .inl (cL, T.N, .inr (.inl T.nu))), (T.a2, .inl (cI, T.N, .inl T.st)), (T.a3, .inl (cI, T.N, .inl T.ln)), (T.a4, .inl (cI, T.N, .inl T.ki)), (T.a5, .inl (cI, T.N, .inl T.nx)), (T.a6, .inl (cI, T.N, .inl T.ns)), (T.a7, .inl (cI, T.N, .inl T.nl)), (T.a8, .inl (cI, T.N, .inl T.pa)), (T.a9, .inl (cI, T.N, .inl T.pl)), (T.au, .inl (cC, T.U, .inl T.un))]) [2, 3, 4, 5, 6, 7, 8, 9, 10, 11, 12, 13] rfl
        have hDc := hD.sub (ws' := [(t, .inr (12, MF 13 (tw T))), (T.a0, .inl (cI, T.N, .inl T.kd)), (T.a1, .inl (cL, T.N, .inr (.inl T.nu))), (T.a2, .inl (cI, T.N, .inl T.st)), (T.a3, .inl (cI, T.N, .inl T.ln)), (T.a4, .inl (cI, T.N, .inl T.ki)), (T.a5, .inl (cI, T.N, .inl T.nx)), (T.a6, .inl (cI, T.N, .inl T.ns)), (T.a7, .inl (cI, T.N, .inl T.nl)), (T.a8, .inl (cI, T.N, .inl T.pa)), (T.a9, .inl (cI, T.N, .inl T.pl)), (T.au, .inl (cC, T.U, .inl T.un))]) [2, 3, 4, 5, 6, 7, 8, 9, 10, 11, 12, 13] (by decide) rfl
        have hKc := hK.sub (tys' := [(cI, .int), (cL, .long), (cC, .char)]) [1, 2, 3] rfl
        have hFc := va_free (wc := [(t, .inr (12, MF 13 (tw T))), (T.a0, .inl (cI, T.N, .inl T.kd)), (T.a1, .inl (cL, T.N, .inr (.inl T.nu))), (T.a2, .inl (cI, T.N, .inl T.st)), (T.a3, .inl (cI, T.N, .inl T.ln)), (T.a4, .inl (cI, T.N, .inl T.ki)), (T.a5, .inl (cI, T.N, .inl T.nx)), (T.a6, .inl (cI, T.N, .inl T.ns)), (T.a7, .inl (cI, T.N, .inl T.nl)), (T.a8, .inl (cI, T.N, .inl T.pa)), (T.a9, .inl (cI, T.N, .inl T.pl)), (T.au, .inl (cC, T.U, .inl T.un))]) hD hS hA [2, 3, 4, 5, 6, 7, 8, 9, 10, 11, 12, 13] rfl
        refine w_same (fun hq0 => ?_)
        refine va_calli (va_runV (As := [.int 1]) (rest := []) ⟨hx, hb, hml, hown, hts⟩ (c_Tree_add l dC dI t H cI cL cC T 1 hTk_T) (cwV 1 hts (gt_V (own := R_Mo) (C := R_Tree) (i := 197) (y := y_Tree_add) i_Tree_add w_1254 w_1255 w_1256 w_8) rfl rfl rfl (by decide +kernel) ⟨Nat.le_trans (m := 8) (Nat.le_of_ble_eq_true rfl) (Nat.le_add_right 8 (2 * (r + 1))), Nat.le_trans (m := 300) (Nat.le_of_ble_eq_true rfl) (Nat.le_add_right 300 (80 * (r + 1)))⟩) ⟨mp_blind, va_recv hKc hPc (ci := 12) (q0 := 0) rfl rfl, fun U hU hW => ⟨rfl, hU, by rw [hU]; exact hPc, va_K.moved hW.alike hKc, hDc.weaken (fun _ _ _ _ => trivial)⟩⟩ rfl rfl hl.1 rfl (lv_room (Nat.le_of_ble_eq_true rfl)) d_Mo_value_82 ⟨(TAd.fit hGB_T hTk_T (by omega)).1, (TAd.fit hGB_T hTk_T (by omega)).2⟩) hS (fun q _ h => hFc q h) hFc (fun r0 T1 t9 H1 locs ht hvm hw hB hz1 hk1 hS => ?_)
        obtain ⟨⟨hP1, hK1, hD1⟩, hz9⟩ := hB
        rw [ht] at hP1
        rw [ht] at hz9
        obtain ⟨hr0, hA_T1⟩ := hw
        have hA_T1 : TAd T T1 1 := hA_T1
        have hAg := hA_T1.gb hTk_T (by omega)
        obtain ⟨hGB_T1, hGc_T1, hGs_T1⟩ := hGB_T.tr hAg.1 (show T.ct + 1 ≤ (T.ct + (n + 12 - i)) by omega) (Nat.zero_le _)
        have hGc_T1 := Nat.le_trans (Nat.add_le_add_left hAg.2.1 _) hGc_T1
        have hGs_T1 := Nat.le_trans (Nat.add_le_add_left hAg.2.2 _) hGs_T1
        have hq1 : szk s.heap H1 (cE T T1) (sE T T1) := (hq0.trans hz9).mono hGc_T1 hGs_T1
        refine w_tight hq1 ?_
        obtain ⟨hP, hD⟩ := va_join (wr := [(mo, .inr (13, MF 30 (rf v ((skipH f n i) + 4) br))), (qx, .inl (cB, NN, .inl f))]) (w1 := [(t, .inr (12, MF 13 (tw T1))), (T1.a0, .inl (cI, T1.N, .inl T1.kd)), (T1.a1, .inl (cL, T1.N, .inr (.inl T1.nu))), (T1.a2, .inl (cI, T1.N, .inl T1.st)), (T1.a3, .inl (cI, T1.N, .inl T1.ln)), (T1.a4, .inl (cI, T1.N, .inl T1.ki)), (T1.a5, .inl (cI, T1.N, .inl T1.nx)), (T1.a6, .inl (cI, T1.N, .inl T1.ns)), (T1.a7, .inl (cI, T1.N, .inl T1.nl)), (T1.a8, .inl (cI, T1.N, .inl T1.pa)), (T1.a9, .inl (cI, T1.N, .inl T1.pl)), (T1.au, .inl (cC, T1.U, .inl T1.un))]) hP hD [2, 3, 4, 5, 6, 7, 8, 9, 10, 11, 12, 13] [0, 1] rfl rfl (by decide) (by decide) hk1 hFc hP1 hD1
        generalize H1 = H at hP hS ⊢
        have hP : va_P (dC, dI) classes [(mo, .inr (13, MF 30 (rf v ((skipH f n i) + 4) br))), (qx, .inl (cB, NN, .inl f)), (t, .inr (12, MF 13 (tw T1))), (T1.a0, .inl (cI, T1.N, .inl T1.kd)), (T1.a1, .inl (cL, T1.N, .inr (.inl T1.nu))), (T1.a2, .inl (cI, T1.N, .inl T1.st)), (T1.a3, .inl (cI, T1.N, .inl T1.ln)), (T1.a4, .inl (cI, T1.N, .inl T1.ki)), (T1.a5, .inl (cI, T1.N, .inl T1.nx)), (T1.a6, .inl (cI, T1.N, .inl T1.ns)), (T1.a7, .inl (cI, T1.N, .inl T1.nl)), (T1.a8, .inl (cI, T1.N, .inl T1.pa)), (T1.a9, .inl (cI, T1.N, .inl T1.pl)), (T1.au, .inl (cC, T1.U, .inl T1.un))] H := hP
        have hD : va_D A [(mo, .inr (13, MF 30 (rf v ((skipH f n i) + 4) br))), (qx, .inl (cB, NN, .inl f)), (t, .inr (12, MF 13 (tw T1))), (T1.a0, .inl (cI, T1.N, .inl T1.kd)), (T1.a1, .inl (cL, T1.N, .inr (.inl T1.nu))), (T1.a2, .inl (cI, T1.N, .inl T1.st)), (T1.a3, .inl (cI, T1.N, .inl T1.ln)), (T1.a4, .inl (cI, T1.N, .inl T1.ki)), (T1.a5, .inl (cI, T1.N, .inl T1.nx)), (T1.a6, .inl (cI, T1.N, .inl T1.ns)), (T1.a7, .inl (cI, T1.N, .inl T1.nl)), (T1.a8, .inl (cI, T1.N, .inl T1.pa)), (T1.a9, .inl (cI, T1.N, .inl T1.pl)), (T1.au, .inl (cC, T1.U, .inl T1.un))] := hD
        have hTk_T1 := (hA_T1.ok hTk_T (by omega)).1
        have hAc_T1 : T1.ct = T.ct + 1 ∧ T1.us = T.us := ⟨(hA_T1.ok hTk_T (by omega)).2.2.2.2.2.1, (hA_T1.ok hTk_T (by omega)).2.2.2.2.1⟩
        have hr0 : r0 = nI T.ct := hr0
        subst hr0
        have hfit_T1 := hGB_T1.fits
        refine lv_istore (lv' := [(4, .int (nI T.ct)), (3, .int r1), (0, .ref mo), (1, .ref t), (2, .int (nI (31 - r)))]) hx hb d_Mo_value_85 hl (by decide) rfl (fun ls hl => ?_)
        refine lv_goto (tgt := 253) hx hb d_Mo_value_87 (by decide) ?_
        have hAA := hA_T1.2.2.2.2.2.2.2
        have hTEn := hA_T1.te
        have hRepn : RepL T1 T.ct (1, 0, []) := ⟨hAA.1, by show 1 ≤ 6; omega, fun h => absurd h (by show ¬ 1 = 3; omega), fun h => absurd h (by show ¬ 1 = 4; omega), fun _ => hAA.2.2.2.2.2.1⟩
        have hkin : T1.ki T.ct = -1 := hAA.2.1
        have hpan : T1.pa T.ct = -1 := hAA.2.2.2.1
        have hctn : T1.ct = T.ct + 1 := hAc_T1.1
        have husn : T1.us = T.us := hAc_T1.2
        have hpl : pLeaf f n (skipH f n i) = some ((1, 0, []), ((skipH f n i) + 4)) := by unfold pLeaf; rw [if_neg (fun h => c12 (h_r1.trans h)), if_pos (h_r1.symm.trans c18), if_pos (mtB_iff.mpr hw1)]
        have hnc : ¬ (hereV f n (skipH f n i) = 91 ∨ hereV f n (skipH f n i) = 123) := fun h => by rw [← h_r1, c18] at h; revert h; decide
        refine lv_aload_n hx hb d_Mo_value_253 rfl (lv_at hl 2 rfl) ?_
        have hPc := hP.sub (ws' := [(mo, .inr (13, MF 30 (rf v ((skipH f n i) + 4) br))), (qx, .inl (cB, NN, .inl f))]) [0, 1] rfl
        have hDc := hD.sub (ws' := [(mo, .inr (13, MF 30 (rf v ((skipH f n i) + 4) br))), (qx, .inl (cB, NN, .inl f))]) [0, 1] (by decide) rfl
        have hKc := hK.sub (tys' := [(cB, .byte)]) [0] rfl
        have hFc := va_free (wc := [(mo, .inr (13, MF 30 (rf v ((skipH f n i) + 4) br))), (qx, .inl (cB, NN, .inl f))]) hD hS hA [0, 1] rfl
        refine va_callv (va_runV (As := []) (rest := []) ⟨hx, hb, hml, hown, hts⟩ (c_Mo_blanks l dC dI mo H (rf v ((skipH f n i) + 4) br) cB qx NN f n ((skipH f n i) + 4) (by omega) (by omega) (by omega) ((rf_ne (by decide) (by decide)).trans h6) rf_7 ((rf_ne (by decide) (by decide)).trans h8)) (cwV 0 hts (gt_V (own := R_Mo) (C := R_Mo) (i := 184) (y := y_Mo_blanks) i_Mo_blanks w_1229 w_1231 (gt_sel (y := y_Mo_blanks) (n := 30) (by decide +kernel)) w_7) rfl rfl rfl (by decide +kernel) ⟨Nat.le_trans (m := 8) (Nat.le_of_ble_eq_true rfl) (Nat.le_add_right 8 (2 * (r + 1))), Nat.le_trans (m := 300) (Nat.le_of_ble_eq_true rfl) (Nat.le_add_right 300 (80 * (r + 1)))⟩) ⟨mp_blind, va_recv hKc hPc (ci := 13) (q0 := 0) rfl rfl, fun U hU hW => ⟨rfl, hU, by rw [hU]; exact hPc, va_K.moved hW.alike hKc, hDc.weaken (fun _ _ _ _ => trivial)⟩⟩ rfl rfl hl.1 rfl (lv_room (Nat.le_of_ble_eq_true rfl)) d_Mo_value_254 ⟨hfit_T1.1, hfit_T1.2⟩) hS (fun q _ h => hFc q h) hFc (fun _u t9 H1 locs ht hvm hw hB hz1 hk1 hS => ?_)
        obtain ⟨hP1, hK1, hD1⟩ := hB
        rw [ht] at hP1
        obtain ⟨hP, hD⟩ := va_join (wr := [(t, .inr (12, MF 13 (tw T1))), (T1.a0, .inl (cI, T1.N, .inl T1.kd)), (T1.a1, .inl (cL, T1.N, .inr (.inl T1.nu))), (T1.a2, .inl (cI, T1.N, .inl T1.st)), (T1.a3, .inl (cI, T1.N, .inl T1.ln)), (T1.a4, .inl (cI, T1.N, .inl T1.ki)), (T1.a5, .inl (cI, T1.N, .inl T1.nx)), (T1.a6, .inl (cI, T1.N, .inl T1.ns)), (T1.a7, .inl (cI, T1.N, .inl T1.nl)), (T1.a8, .inl (cI, T1.N, .inl T1.pa)), (T1.a9, .inl (cI, T1.N, .inl T1.pl)), (T1.au, .inl (cC, T1.U, .inl T1.un))]) (w1 := [(mo, .inr (13, MF 30 (va_up (rf v ((skipH f n i) + 4) br) 7 (.int (nI (skipH f n ((skipH f n i) + 4))))))), (qx, .inl (cB, NN, .inl f))]) hP hD [0, 1] [2, 3, 4, 5, 6, 7, 8, 9, 10, 11, 12, 13] rfl rfl (by decide) (by decide) hk1 hFc hP1 hD1
        generalize H1 = H at hP hS ⊢
        have hP : va_P (dC, dI) classes [(t, .inr (12, MF 13 (tw T1))), (T1.a0, .inl (cI, T1.N, .inl T1.kd)), (T1.a1, .inl (cL, T1.N, .inr (.inl T1.nu))), (T1.a2, .inl (cI, T1.N, .inl T1.st)), (T1.a3, .inl (cI, T1.N, .inl T1.ln)), (T1.a4, .inl (cI, T1.N, .inl T1.ki)), (T1.a5, .inl (cI, T1.N, .inl T1.nx)), (T1.a6, .inl (cI, T1.N, .inl T1.ns)), (T1.a7, .inl (cI, T1.N, .inl T1.nl)), (T1.a8, .inl (cI, T1.N, .inl T1.pa)), (T1.a9, .inl (cI, T1.N, .inl T1.pl)), (T1.au, .inl (cC, T1.U, .inl T1.un)), (mo, .inr (13, MF 30 (va_up (rf v ((skipH f n i) + 4) br) 7 (.int (nI (skipH f n ((skipH f n i) + 4))))))), (qx, .inl (cB, NN, .inl f))] H := hP
        have hD : va_D A [(t, .inr (12, MF 13 (tw T1))), (T1.a0, .inl (cI, T1.N, .inl T1.kd)), (T1.a1, .inl (cL, T1.N, .inr (.inl T1.nu))), (T1.a2, .inl (cI, T1.N, .inl T1.st)), (T1.a3, .inl (cI, T1.N, .inl T1.ln)), (T1.a4, .inl (cI, T1.N, .inl T1.ki)), (T1.a5, .inl (cI, T1.N, .inl T1.nx)), (T1.a6, .inl (cI, T1.N, .inl T1.ns)), (T1.a7, .inl (cI, T1.N, .inl T1.nl)), (T1.a8, .inl (cI, T1.N, .inl T1.pa)), (T1.a9, .inl (cI, T1.N, .inl T1.pl)), (T1.au, .inl (cC, T1.U, .inl T1.un)), (mo, .inr (13, MF 30 (va_up (rf v ((skipH f n i) + 4) br) 7 (.int (nI (skipH f n ((skipH f n i) + 4))))))), (qx, .inl (cB, NN, .inl f))] := hD
        have hP := hP.sub (ws' := [(mo, .inr (13, MF 30 (va_up (rf v ((skipH f n i) + 4) br) 7 (.int (nI (skipH f n ((skipH f n i) + 4))))))), (qx, .inl (cB, NN, .inl f)), (t, .inr (12, MF 13 (tw T1))), (T1.a0, .inl (cI, T1.N, .inl T1.kd)), (T1.a1, .inl (cL, T1.N, .inr (.inl T1.nu))), (T1.a2, .inl (cI, T1.N, .inl T1.st)), (T1.a3, .inl (cI, T1.N, .inl T1.ln)), (T1.a4, .inl (cI, T1.N, .inl T1.ki)), (T1.a5, .inl (cI, T1.N, .inl T1.nx)), (T1.a6, .inl (cI, T1.N, .inl T1.ns)), (T1.a7, .inl (cI, T1.N, .inl T1.nl)), (T1.a8, .inl (cI, T1.N, .inl T1.pa)), (T1.a9, .inl (cI, T1.N, .inl T1.pl)), (T1.au, .inl (cC, T1.U, .inl T1.un))]) [12, 13, 0, 1, 2, 3, 4, 5, 6, 7, 8, 9, 10, 11] rfl
        have hD := hD.sub (ws' := [(mo, .inr (13, MF 30 (va_up (rf v ((skipH f n i) + 4) br) 7 (.int (nI (skipH f n ((skipH f n i) + 4))))))), (qx, .inl (cB, NN, .inl f)), (t, .inr (12, MF 13 (tw T1))), (T1.a0, .inl (cI, T1.N, .inl T1.kd)), (T1.a1, .inl (cL, T1.N, .inr (.inl T1.nu))), (T1.a2, .inl (cI, T1.N, .inl T1.st)), (T1.a3, .inl (cI, T1.N, .inl T1.ln)), (T1.a4, .inl (cI, T1.N, .inl T1.ki)), (T1.a5, .inl (cI, T1.N, .inl T1.nx)), (T1.a6, .inl (cI, T1.N, .inl T1.ns)), (T1.a7, .inl (cI, T1.N, .inl T1.nl)), (T1.a8, .inl (cI, T1.N, .inl T1.pa)), (T1.a9, .inl (cI, T1.N, .inl T1.pl)), (T1.au, .inl (cC, T1.U, .inl T1.un))]) [12, 13, 0, 1, 2, 3, 4, 5, 6, 7, 8, 9, 10, 11] (by decide) rfl
        rw [rf_u7] at hP hD
        have hP : va_P (dC, dI) classes [(mo, .inr (13, MF 30 (rf v (skipH f n ((skipH f n i) + 4)) br))), (qx, .inl (cB, NN, .inl f)), (t, .inr (12, MF 13 (tw T1))), (T1.a0, .inl (cI, T1.N, .inl T1.kd)), (T1.a1, .inl (cL, T1.N, .inr (.inl T1.nu))), (T1.a2, .inl (cI, T1.N, .inl T1.st)), (T1.a3, .inl (cI, T1.N, .inl T1.ln)), (T1.a4, .inl (cI, T1.N, .inl T1.ki)), (T1.a5, .inl (cI, T1.N, .inl T1.nx)), (T1.a6, .inl (cI, T1.N, .inl T1.ns)), (T1.a7, .inl (cI, T1.N, .inl T1.nl)), (T1.a8, .inl (cI, T1.N, .inl T1.pa)), (T1.a9, .inl (cI, T1.N, .inl T1.pl)), (T1.au, .inl (cC, T1.U, .inl T1.un))] H := hP
        have hD : va_D A [(mo, .inr (13, MF 30 (rf v (skipH f n ((skipH f n i) + 4)) br))), (qx, .inl (cB, NN, .inl f)), (t, .inr (12, MF 13 (tw T1))), (T1.a0, .inl (cI, T1.N, .inl T1.kd)), (T1.a1, .inl (cL, T1.N, .inr (.inl T1.nu))), (T1.a2, .inl (cI, T1.N, .inl T1.st)), (T1.a3, .inl (cI, T1.N, .inl T1.ln)), (T1.a4, .inl (cI, T1.N, .inl T1.ki)), (T1.a5, .inl (cI, T1.N, .inl T1.nx)), (T1.a6, .inl (cI, T1.N, .inl T1.ns)), (T1.a7, .inl (cI, T1.N, .inl T1.nl)), (T1.a8, .inl (cI, T1.N, .inl T1.pa)), (T1.a9, .inl (cI, T1.N, .inl T1.pl)), (T1.au, .inl (cC, T1.U, .inl T1.un))] := hD
        have hsk_257 := skipH_n (f := f) (show ((skipH f n i) + 4) ≤ n by omega)
        refine lv_iload hx hb d_Mo_value_257 (lv_at hl 0 rfl) ?_
        have hpv : pV f n (r + 1) i = some (jleaf (r + 1) (1, 0, []), (skipH f n ((skipH f n i) + 4))) := by rw [pV_leaf _ hnc, hpl]; rfl
        have hRV : RepV T1 (r + 1) T.ct T1.ct (jleaf (r + 1) (1, 0, [])) := leafRep hRepn (by decide) hkin hctn _
        refine w_same (fun hq => ?_)
        refine W.widen (k := ncap T (T.ct + (n + 12 - i)) + qcap T (T.us + (n + 12 - i))) (n := 20 * ncap T (T.ct + (n + 12 - i)) + 2 * qcap T (T.us + (n + 12 - i))) hfit_T1.1 hfit_T1.2 ?_
        have hTG : TG n i T T1 := ⟨hTk_T1, hGB_T1⟩
        exact W.iret (v := nI T.ct) hx hb hr (fun t9 ht hW => ⟨⟨nI T.ct, (T1, (skipH f n ((skipH f n i) + 4)), br), rfl, ⟨hTG, Or.inl ⟨(jleaf (r + 1) (1, 0, [])), rfl, hpv, hRV, hTEn, hpan, by show T.ct < T1.ct; omega, by show T1.ct + i ≤ T.ct + (skipH f n ((skipH f n i) + 4)); omega, by show T1.us + i ≤ T.us + (skipH f n ((skipH f n i) + 4)); omega, by show (skipH f n ((skipH f n i) + 4)) ≤ n; omega⟩⟩, ⟨by rw [ht]; exact hP, va_K.moved hW.alike hK, hD⟩, by rw [ht]; exact hq⟩, hS.F ht⟩) hS.2.2 d_Mo_value_259
      · rw [rf_u7] at hw3
        obtain ⟨b5, h_b5⟩ := rf_fail (v := v) (i := k9) (br := br) (b2 := br) (wh := nI k9)
        rw [h_b5] at hw3
        rw [hw3] at hP hD
        subst hw2
        have hP : va_P (dC, dI) classes [(mo, .inr (13, MF 30 (rf v k9 b5))), (qx, .inl (cB, NN, .inl f)), (t, .inr (12, MF 13 (tw T))), (T.a0, .inl (cI, T.N, .inl T.kd)), (T.a1, .inl (cL, T.N, .inr (.inl T.nu))), (T.a2, .inl (cI, T.N, .inl T.st)), (T.a3, .inl (cI, T.N, .inl T.ln)), (T.a4, .inl (cI, T.N, .inl T.ki)), (T.a5, .inl (cI, T.N, .inl T.nx)), (T.a6, .inl (cI, T.N, .inl T.ns)), (T.a7, .inl (cI, T.N, .inl T.nl)), (T.a8, .inl (cI, T.N, .inl T.pa)), (T.a9, .inl (cI, T.N, .inl T.pl)), (T.au, .inl (cC, T.U, .inl T.un))] H := hP
        have hD : va_D A [(mo, .inr (13, MF 30 (rf v k9 b5))), (qx, .inl (cB, NN, .inl f)), (t, .inr (12, MF 13 (tw T))), (T.a0, .inl (cI, T.N, .inl T.kd)), (T.a1, .inl (cL, T.N, .inr (.inl T.nu))), (T.a2, .inl (cI, T.N, .inl T.st)), (T.a3, .inl (cI, T.N, .inl T.ln)), (T.a4, .inl (cI, T.N, .inl T.ki)), (T.a5, .inl (cI, T.N, .inl T.nx)), (T.a6, .inl (cI, T.N, .inl T.ns)), (T.a7, .inl (cI, T.N, .inl T.nl)), (T.a8, .inl (cI, T.N, .inl T.pa)), (T.a9, .inl (cI, T.N, .inl T.pl)), (T.au, .inl (cC, T.U, .inl T.un))] := hD
        refine lv_if_ne (tgt := 60) hx hb d_Mo_value_55 (by decide) (fun h => absurd h (by decide)) (fun _ => ?_)
        refine lv_iconst (v := (-1)) hx hb d_Mo_value_58 (by decide) ?_
        have hpl : pLeaf f n (skipH f n i) = none := by unfold pLeaf; rw [if_neg (fun h => c12 (h_r1.trans h)), if_pos (h_r1.symm.trans c18), if_neg (fun h => hw1 (mtB_iff.mp h))]
        have hfin : pV f n (r + 1) i = none := by rw [pV_leaf _ (fun h => by rw [← h_r1, c18] at h; revert h; decide), hpl]; rfl
        refine w_same (fun hq => ?_)
        refine W.widen (k := ncap T (T.ct + (n + 12 - i)) + qcap T (T.us + (n + 12 - i))) (n := 20 * ncap T (T.ct + (n + 12 - i)) + 2 * qcap T (T.us + (n + 12 - i))) hfit_T.1 hfit_T.2 ?_
        have hTG : TG n i T T := ⟨hTk_T, hGB_T⟩
        exact W.iret (v := -1) hx hb hr (fun t9 ht hW => ⟨⟨-1, (T, k9, b5), rfl, ⟨hTG, Or.inr ⟨rfl, hfin⟩⟩, ⟨by rw [ht]; exact hP, va_K.moved hW.alike hK, hD⟩, by rw [ht]; exact hq⟩, hS.F ht⟩) hS.2.2 d_Mo_value_59
    · refine lv_iload_n hx hb d_Mo_value_21 rfl (lv_at hl 0 rfl) ?_
      refine lv_bipush (v := 102) hx hb d_Mo_value_22 (by decide) ?_
      refine lv_icmp_ne (tgt := 90) hx hb d_Mo_value_24 (by decide) (fun c24 => ?_) (fun c24 => ?_)
      · refine lv_iload_n hx hb d_Mo_value_90 rfl (lv_at hl 0 rfl) ?_
        refine lv_bipush (v := 34) hx hb d_Mo_value_91 (by decide) ?_
        refine lv_icmp_ne (tgt := 137) hx hb d_Mo_value_93 (by decide) (fun c93 => ?_) (fun c93 => ?_)
        · refine lv_iload_n hx hb d_Mo_value_137 rfl (lv_at hl 0 rfl) ?_
          refine lv_bipush (v := 45) hx hb d_Mo_value_138 (by decide) ?_
          refine lv_icmp_eq (tgt := 150) hx hb d_Mo_value_140 (by decide) (fun c140 => ?_) (fun c140 => ?_)
          · refine lv_aload_n hx hb d_Mo_value_150 rfl (lv_at hl 2 rfl) ?_
            refine lv_iconst (v := 3) hx hb d_Mo_value_151 (by decide) ?_
            have hPc := hP.sub (ws' := [(t, .inr (12, MF 13 (tw T))), (T.a0, .inl (cI, T.N, .inl T.kd)), (T.a1, .inl (cL, T.N, .inr (.inl T.nu))), (T.a2, .inl (cI, T.N, .inl T.st)), (T.a3, .inl (cI, T.N, .inl T.ln)), (T.a4, .inl (cI, T.N, .inl T.ki)), (T.a5, .inl (cI, T.N, .inl T.nx)), (T.a6, .inl (cI, T.N, .inl T.ns)), (T.a7, .inl (cI, T.N, .inl T.nl)), (T.a8, .inl (cI, T.N, .inl T.pa)), (T.a9, .inl (cI, T.N, .inl T.pl)), (T.au, .inl (cC, T.U, .inl T.un))]) [2, 3, 4, 5, 6, 7, 8, 9, 10, 11, 12, 13] rfl
            have hDc := hD.sub (ws' := [(t, .inr (12, MF 13 (tw T))), (T.a0, .inl (cI, T.N, .inl T.kd)), (T.a1, .inl (cL, T.N, .inr (.inl T.nu))), (T.a2, .inl (cI, T.N, .inl T.st)), (T.a3, .inl (cI, T.N, .inl T.ln)), (T.a4, .inl (cI, T.N, .inl T.ki)), (T.a5, .inl (cI, T.N, .inl T.nx)), (T.a6, .inl (cI, T.N, .inl T.ns)), (T.a7, .inl (cI, T.N, .inl T.nl)), (T.a8, .inl (cI, T.N, .inl T.pa)), (T.a9, .inl (cI, T.N, .inl T.pl)), (T.au, .inl (cC, T.U, .inl T.un))]) [2, 3, 4, 5, 6, 7, 8, 9, 10, 11, 12, 13] (by decide) rfl
            have hKc := hK.sub (tys' := [(cI, .int), (cL, .long), (cC, .char)]) [1, 2, 3] rfl
            have hFc := va_free (wc := [(t, .inr (12, MF 13 (tw T))), (T.a0, .inl (cI, T.N, .inl T.kd)), (T.a1, .inl (cL, T.N, .inr (.inl T.nu))), (T.a2, .inl (cI, T.N, .inl T.st)), (T.a3, .inl (cI, T.N, .inl T.ln)), (T.a4, .inl (cI, T.N, .inl T.ki)), (T.a5, .inl (cI, T.N, .inl T.nx)), (T.a6, .inl (cI, T.N, .inl T.ns)), (T.a7, .inl (cI, T.N, .inl T.nl)), (T.a8, .inl (cI, T.N, .inl T.pa)), (T.a9, .inl (cI, T.N, .inl T.pl)), (T.au, .inl (cC, T.U, .inl T.un))]) hD hS hA [2, 3, 4, 5, 6, 7, 8, 9, 10, 11, 12, 13] rfl
            refine w_same (fun hq0 => ?_)
            refine va_calli (va_runV (As := [.int 3]) (rest := []) ⟨hx, hb, hml, hown, hts⟩ (c_Tree_add l dC dI t H cI cL cC T 3 hTk_T) (cwV 1 hts (gt_V (own := R_Mo) (C := R_Tree) (i := 197) (y := y_Tree_add) i_Tree_add w_1254 w_1255 w_1256 w_8) rfl rfl rfl (by decide +kernel) ⟨Nat.le_trans (m := 8) (Nat.le_of_ble_eq_true rfl) (Nat.le_add_right 8 (2 * (r + 1))), Nat.le_trans (m := 300) (Nat.le_of_ble_eq_true rfl) (Nat.le_add_right 300 (80 * (r + 1)))⟩) ⟨mp_blind, va_recv hKc hPc (ci := 12) (q0 := 0) rfl rfl, fun U hU hW => ⟨rfl, hU, by rw [hU]; exact hPc, va_K.moved hW.alike hKc, hDc.weaken (fun _ _ _ _ => trivial)⟩⟩ rfl rfl hl.1 rfl (lv_room (Nat.le_of_ble_eq_true rfl)) d_Mo_value_152 ⟨(TAd.fit hGB_T hTk_T (by omega)).1, (TAd.fit hGB_T hTk_T (by omega)).2⟩) hS (fun q _ h => hFc q h) hFc (fun r0 T1 t9 H1 locs ht hvm hw hB hz1 hk1 hS => ?_)
            obtain ⟨⟨hP1, hK1, hD1⟩, hz9⟩ := hB
            rw [ht] at hP1
            rw [ht] at hz9
            obtain ⟨hr0, hA_T1⟩ := hw
            have hA_T1 : TAd T T1 3 := hA_T1
            have hAg := hA_T1.gb hTk_T (by omega)
            obtain ⟨hGB_T1, hGc_T1, hGs_T1⟩ := hGB_T.tr hAg.1 (show T.ct + 1 ≤ (T.ct + (n + 12 - i)) by omega) (Nat.zero_le _)
            have hGc_T1 := Nat.le_trans (Nat.add_le_add_left hAg.2.1 _) hGc_T1
            have hGs_T1 := Nat.le_trans (Nat.add_le_add_left hAg.2.2 _) hGs_T1
            have hq1 : szk s.heap H1 (cE T T1) (sE T T1) := (hq0.trans hz9).mono hGc_T1 hGs_T1
            refine w_tight hq1 ?_
            obtain ⟨hP, hD⟩ := va_join (wr := [(mo, .inr (13, MF 30 (rf v (skipH f n i) br))), (qx, .inl (cB, NN, .inl f))]) (w1 := [(t, .inr (12, MF 13 (tw T1))), (T1.a0, .inl (cI, T1.N, .inl T1.kd)), (T1.a1, .inl (cL, T1.N, .inr (.inl T1.nu))), (T1.a2, .inl (cI, T1.N, .inl T1.st)), (T1.a3, .inl (cI, T1.N, .inl T1.ln)), (T1.a4, .inl (cI, T1.N, .inl T1.ki)), (T1.a5, .inl (cI, T1.N, .inl T1.nx)), (T1.a6, .inl (cI, T1.N, .inl T1.ns)), (T1.a7, .inl (cI, T1.N, .inl T1.nl)), (T1.a8, .inl (cI, T1.N, .inl T1.pa)), (T1.a9, .inl (cI, T1.N, .inl T1.pl)), (T1.au, .inl (cC, T1.U, .inl T1.un))]) hP hD [2, 3, 4, 5, 6, 7, 8, 9, 10, 11, 12, 13] [0, 1] rfl rfl (by decide) (by decide) hk1 hFc hP1 hD1
            generalize H1 = H at hP hS ⊢
            have hP : va_P (dC, dI) classes [(mo, .inr (13, MF 30 (rf v (skipH f n i) br))), (qx, .inl (cB, NN, .inl f)), (t, .inr (12, MF 13 (tw T1))), (T1.a0, .inl (cI, T1.N, .inl T1.kd)), (T1.a1, .inl (cL, T1.N, .inr (.inl T1.nu))), (T1.a2, .inl (cI, T1.N, .inl T1.st)), (T1.a3, .inl (cI, T1.N, .inl T1.ln)), (T1.a4, .inl (cI, T1.N, .inl T1.ki)), (T1.a5, .inl (cI, T1.N, .inl T1.nx)), (T1.a6, .inl (cI, T1.N, .inl T1.ns)), (T1.a7, .inl (cI, T1.N, .inl T1.nl)), (T1.a8, .inl (cI, T1.N, .inl T1.pa)), (T1.a9, .inl (cI, T1.N, .inl T1.pl)), (T1.au, .inl (cC, T1.U, .inl T1.un))] H := hP
            have hD : va_D A [(mo, .inr (13, MF 30 (rf v (skipH f n i) br))), (qx, .inl (cB, NN, .inl f)), (t, .inr (12, MF 13 (tw T1))), (T1.a0, .inl (cI, T1.N, .inl T1.kd)), (T1.a1, .inl (cL, T1.N, .inr (.inl T1.nu))), (T1.a2, .inl (cI, T1.N, .inl T1.st)), (T1.a3, .inl (cI, T1.N, .inl T1.ln)), (T1.a4, .inl (cI, T1.N, .inl T1.ki)), (T1.a5, .inl (cI, T1.N, .inl T1.nx)), (T1.a6, .inl (cI, T1.N, .inl T1.ns)), (T1.a7, .inl (cI, T1.N, .inl T1.nl)), (T1.a8, .inl (cI, T1.N, .inl T1.pa)), (T1.a9, .inl (cI, T1.N, .inl T1.pl)), (T1.au, .inl (cC, T1.U, .inl T1.un))] := hD
            have hTk_T1 := (hA_T1.ok hTk_T (by omega)).1
            have hAc_T1 : T1.ct = T.ct + 1 ∧ T1.us = T.us := ⟨(hA_T1.ok hTk_T (by omega)).2.2.2.2.2.1, (hA_T1.ok hTk_T (by omega)).2.2.2.2.1⟩
            have hr0 : r0 = nI T.ct := hr0
            subst hr0
            have hfit_T1 := hGB_T1.fits
            refine lv_istore (lv' := [(4, .int (nI T.ct)), (3, .int r1), (0, .ref mo), (1, .ref t), (2, .int (nI (31 - r)))]) hx hb d_Mo_value_155 hl (by decide) rfl (fun ls hl => ?_)
            refine lv_aload_n hx hb d_Mo_value_157 rfl (lv_at hl 2 rfl) ?_
            refine lv_aload_n hx hb d_Mo_value_158 rfl (lv_at hl 3 rfl) ?_
            refine lv_iload hx hb d_Mo_value_159 (lv_at hl 0 rfl) ?_
            have hPc := hP.sub (ws' := [(mo, .inr (13, MF 30 (rf v (skipH f n i) br))), (qx, .inl (cB, NN, .inl f)), (t, .inr (12, MF 13 (tw T1))), (T1.a1, .inl (cL, T1.N, .inr (.inl T1.nu)))]) [0, 1, 2, 4] rfl
            have hDc := hD.sub (ws' := [(mo, .inr (13, MF 30 (rf v (skipH f n i) br))), (qx, .inl (cB, NN, .inl f)), (t, .inr (12, MF 13 (tw T1))), (T1.a1, .inl (cL, T1.N, .inr (.inl T1.nu)))]) [0, 1, 2, 4] (by decide) rfl
            have hKc := hK.sub (tys' := [(cB, .byte), (cL, .long)]) [0, 2] rfl
            have hFc := va_free (wc := [(mo, .inr (13, MF 30 (rf v (skipH f n i) br))), (qx, .inl (cB, NN, .inl f)), (t, .inr (12, MF 13 (tw T1))), (T1.a1, .inl (cL, T1.N, .inr (.inl T1.nu)))]) hD hS hA [0, 1, 2, 4] rfl
            refine va_calli (va_runV (As := [.ref t, .int (nI T.ct)]) (rest := []) ⟨hx, hb, hml, hown, hts⟩ (c_Mo_numberT l dC dI mo H v cB cL qx NN f n t T1 (skipH f n i) br hnN hNN (by omega) h6 h8 hTk_T1 T.ct (by omega)) (cwV 2 hts (gt_V (own := R_Mo) (C := R_Mo) (i := 207) (y := y_Mo_numberT) i_Mo_numberT w_1339 w_1341 (gt_sel (y := y_Mo_numberT) (n := 30) (by decide +kernel)) w_7) rfl rfl rfl (by decide +kernel) ⟨Nat.le_trans (m := 8) (Nat.le_of_ble_eq_true rfl) (Nat.le_add_right 8 (2 * (r + 1))), Nat.le_trans (m := 300) (Nat.le_of_ble_eq_true rfl) (Nat.le_add_right 300 (80 * (r + 1)))⟩) ⟨mp_blind, va_recv hKc hPc (ci := 13) (q0 := 0) rfl rfl, fun U hU hW => ⟨rfl, hU, by rw [hU]; exact hPc, va_K.moved hW.alike hKc, hDc.weaken (fun _ _ _ _ => trivial)⟩⟩ rfl rfl hl.1 rfl (lv_room (Nat.le_of_ble_eq_true rfl)) d_Mo_value_161 ⟨hfit_T1.1, hfit_T1.2⟩) hS (fun q _ h => hFc q h) hFc (fun r0 ⟨j2, b2, nu2⟩ t9 H1 locs ht hvm hw hB hz1 hk1 hS => ?_)
            obtain ⟨hP1, hK1, hD1⟩ := hB
            rw [ht] at hP1
            obtain ⟨hP, hD⟩ := va_join (wr := [(T1.a0, .inl (cI, T1.N, .inl T1.kd)), (T1.a2, .inl (cI, T1.N, .inl T1.st)), (T1.a3, .inl (cI, T1.N, .inl T1.ln)), (T1.a4, .inl (cI, T1.N, .inl T1.ki)), (T1.a5, .inl (cI, T1.N, .inl T1.nx)), (T1.a6, .inl (cI, T1.N, .inl T1.ns)), (T1.a7, .inl (cI, T1.N, .inl T1.nl)), (T1.a8, .inl (cI, T1.N, .inl T1.pa)), (T1.a9, .inl (cI, T1.N, .inl T1.pl)), (T1.au, .inl (cC, T1.U, .inl T1.un))]) (w1 := [(mo, .inr (13, MF 30 (rf v j2 b2))), (qx, .inl (cB, NN, .inl f)), (t, .inr (12, MF 13 (tw T1))), (T1.a1, .inl (cL, T1.N, .inr (.inl nu2)))]) hP hD [0, 1, 2, 4] [3, 5, 6, 7, 8, 9, 10, 11, 12, 13] rfl rfl (by decide) (by decide) hk1 hFc hP1 hD1
            generalize H1 = H at hP hS ⊢
            have hP : va_P (dC, dI) classes [(T1.a0, .inl (cI, T1.N, .inl T1.kd)), (T1.a2, .inl (cI, T1.N, .inl T1.st)), (T1.a3, .inl (cI, T1.N, .inl T1.ln)), (T1.a4, .inl (cI, T1.N, .inl T1.ki)), (T1.a5, .inl (cI, T1.N, .inl T1.nx)), (T1.a6, .inl (cI, T1.N, .inl T1.ns)), (T1.a7, .inl (cI, T1.N, .inl T1.nl)), (T1.a8, .inl (cI, T1.N, .inl T1.pa)), (T1.a9, .inl (cI, T1.N, .inl T1.pl)), (T1.au, .inl (cC, T1.U, .inl T1.un)), (mo, .inr (13, MF 30 (rf v j2 b2))), (qx, .inl (cB, NN, .inl f)), (t, .inr (12, MF 13 (tw T1))), (T1.a1, .inl (cL, T1.N, .inr (.inl nu2)))] H := hP
            have hD : va_D A [(T1.a0, .inl (cI, T1.N, .inl T1.kd)), (T1.a2, .inl (cI, T1.N, .inl T1.st)), (T1.a3, .inl (cI, T1.N, .inl T1.ln)), (T1.a4, .inl (cI, T1.N, .inl T1.ki)), (T1.a5, .inl (cI, T1.N, .inl T1.nx)), (T1.a6, .inl (cI, T1.N, .inl T1.ns)), (T1.a7, .inl (cI, T1.N, .inl T1.nl)), (T1.a8, .inl (cI, T1.N, .inl T1.pa)), (T1.a9, .inl (cI, T1.N, .inl T1.pl)), (T1.au, .inl (cC, T1.U, .inl T1.un)), (mo, .inr (13, MF 30 (rf v j2 b2))), (qx, .inl (cB, NN, .inl f)), (t, .inr (12, MF 13 (tw T1))), (T1.a1, .inl (cL, T1.N, .inr (.inl nu2)))] := hD
            have hP := hP.sub (ws' := [(mo, .inr (13, MF 30 (rf v j2 b2))), (qx, .inl (cB, NN, .inl f)), (t, .inr (12, MF 13 (tw T1))), (T1.a0, .inl (cI, T1.N, .inl T1.kd)), (T1.a1, .inl (cL, T1.N, .inr (.inl nu2))), (T1.a2, .inl (cI, T1.N, .inl T1.st)), (T1.a3, .inl (cI, T1.N, .inl T1.ln)), (T1.a4, .inl (cI, T1.N, .inl T1.ki)), (T1.a5, .inl (cI, T1.N, .inl T1.nx)), (T1.a6, .inl (cI, T1.N, .inl T1.ns)), (T1.a7, .inl (cI, T1.N, .inl T1.nl)), (T1.a8, .inl (cI, T1.N, .inl T1.pa)), (T1.a9, .inl (cI, T1.N, .inl T1.pl)), (T1.au, .inl (cC, T1.U, .inl T1.un))]) [10, 11, 12, 0, 13, 1, 2, 3, 4, 5, 6, 7, 8, 9] rfl
            have hD := hD.sub (ws' := [(mo, .inr (13, MF 30 (rf v j2 b2))), (qx, .inl (cB, NN, .inl f)), (t, .inr (12, MF 13 (tw T1))), (T1.a0, .inl (cI, T1.N, .inl T1.kd)), (T1.a1, .inl (cL, T1.N, .inr (.inl nu2))), (T1.a2, .inl (cI, T1.N, .inl T1.st)), (T1.a3, .inl (cI, T1.N, .inl T1.ln)), (T1.a4, .inl (cI, T1.N, .inl T1.ki)), (T1.a5, .inl (cI, T1.N, .inl T1.nx)), (T1.a6, .inl (cI, T1.N, .inl T1.ns)), (T1.a7, .inl (cI, T1.N, .inl T1.nl)), (T1.a8, .inl (cI, T1.N, .inl T1.pa)), (T1.a9, .inl (cI, T1.N, .inl T1.pl)), (T1.au, .inl (cC, T1.U, .inl T1.un))]) [10, 11, 12, 0, 13, 1, 2, 3, 4, 5, 6, 7, 8, 9] (by decide) rfl
            rcases hw with ⟨hw1, val, hw2, hw3, hw4⟩ | ⟨hw1, hw2, hw3, hw4⟩
            · have hw3 : nu2 = vp_updL T1.nu T.ct val := hw3
              have hw4 : j2 ≤ n := hw4
              have hw2 : numM f n (skipH f n i) = some (val, j2) := hw2
              subst hw3
              subst hw1
              obtain ⟨T2, e_T2⟩ : ∃ z : TS, z = (TS.mk T1.N T1.U T1.ct T1.us T1.a0 T1.a1 T1.a2 T1.a3 T1.a4 T1.a5 T1.a6 T1.a7 T1.a8 T1.a9 T1.au T1.kd T1.st T1.ln T1.ki T1.nx T1.ns T1.nl T1.pa T1.pl T1.un (vp_updL T1.nu T.ct val)) := ⟨_, rfl⟩
              have hP : va_P (dC, dI) classes [(mo, .inr (13, MF 30 (rf v j2 b2))), (qx, .inl (cB, NN, .inl f)), (t, .inr (12, MF 13 (tw T2))), (T2.a0, .inl (cI, T2.N, .inl T2.kd)), (T2.a1, .inl (cL, T2.N, .inr (.inl T2.nu))), (T2.a2, .inl (cI, T2.N, .inl T2.st)), (T2.a3, .inl (cI, T2.N, .inl T2.ln)), (T2.a4, .inl (cI, T2.N, .inl T2.ki)), (T2.a5, .inl (cI, T2.N, .inl T2.nx)), (T2.a6, .inl (cI, T2.N, .inl T2.ns)), (T2.a7, .inl (cI, T2.N, .inl T2.nl)), (T2.a8, .inl (cI, T2.N, .inl T2.pa)), (T2.a9, .inl (cI, T2.N, .inl T2.pl)), (T2.au, .inl (cC, T2.U, .inl T2.un))] H := by subst e_T2; exact hP
              have hD : va_D A [(mo, .inr (13, MF 30 (rf v j2 b2))), (qx, .inl (cB, NN, .inl f)), (t, .inr (12, MF 13 (tw T2))), (T2.a0, .inl (cI, T2.N, .inl T2.kd)), (T2.a1, .inl (cL, T2.N, .inr (.inl T2.nu))), (T2.a2, .inl (cI, T2.N, .inl T2.st)), (T2.a3, .inl (cI, T2.N, .inl T2.ln)), (T2.a4, .inl (cI, T2.N, .inl T2.ki)), (T2.a5, .inl (cI, T2.N, .inl T2.nx)), (T2.a6, .inl (cI, T2.N, .inl T2.ns)), (T2.a7, .inl (cI, T2.N, .inl T2.nl)), (T2.a8, .inl (cI, T2.N, .inl T2.pa)), (T2.a9, .inl (cI, T2.N, .inl T2.pl)), (T2.au, .inl (cC, T2.U, .inl T2.un))] := by subst e_T2; exact hD
              have hT2 : T2.N = T1.N ∧ T2.U = T1.U ∧ T2.ct = T1.ct ∧ T2.us = T1.us ∧ T2.un = T1.un ∧ T2.kd = T1.kd ∧ T2.nu = vp_updL T1.nu T.ct val ∧ T2.st = T1.st ∧ T2.ln = T1.ln ∧ T2.pa = T1.pa ∧ T2.ki = T1.ki ∧ T2.nx = T1.nx ∧ T2.ns = T1.ns ∧ T2.nl = T1.nl := by rw [e_T2]; exact ⟨rfl, rfl, rfl, rfl, rfl, rfl, rfl, rfl, rfl, rfl, rfl, rfl, rfl, rfl⟩
              obtain ⟨g1, g2, g3, g4, g5, g6, g7, g8, g9, g10, g11, g12, g13, g14⟩ := hT2
              have hTk_T2 : TOK T2 := by obtain ⟨q1, q2, q3, q4, q5, q6, q7⟩ := hTk_T1; exact ⟨by omega, by omega, by omega, by omega, by omega, by omega, by rw [g5]; exact q7⟩
              refine w_same (fun hq => ?_)
              refine w_tight (k := cE T T2) (n := sE T T2) (by unfold cE sE at hq ⊢; rw [g1, g2]; exact hq) ?_
              have hGB_T2 : GB (T.ct + (n + 12 - i)) (T.us + (n + 12 - i)) T T2 := by unfold GB at hGB_T1 ⊢; rw [g1, g2]; exact hGB_T1
              have hfit_T2 := hGB_T2.fits
              have hAA := hA_T1.2.2.2.2.2.2.2
              have hTEn : TE T T2 := TE_of hA_T1.te g3 g4 g5 (fun j9 h9 => ⟨by rw [g6], by rw [g7]; exact if_neg (by omega), by rw [g8], by rw [g9], by rw [g11], by rw [g12], by rw [g13], by rw [g14], by rw [g10]⟩)
              have hRepn : RepL T2 T.ct (3, val, []) := ⟨by rw [g6]; exact hAA.1, by show 3 ≤ 6; omega, fun _ => by rw [g7]; exact pk_uLs, fun h => absurd h (by show ¬ 3 = 4; omega), fun _ => by rw [g9]; exact hAA.2.2.2.2.2.1⟩
              have hkin : T2.ki T.ct = -1 := by rw [g11]; exact hAA.2.1
              have hpan : T2.pa T.ct = -1 := by rw [g10]; exact hAA.2.2.2.1
              have hctn : T2.ct = T.ct + 1 := by omega
              have husn : T2.us = T.us := by omega
              have hnu45 : hereV f n (skipH f n i) = 45 ∨ digH (hereV f n (skipH f n i)) := by rw [← h_r1]; exact Or.inl c140
              have hnlt := numM_lt hw2
              have hpl : pLeaf f n (skipH f n i) = some ((3, val, []), j2) := by unfold pLeaf; rw [if_neg (fun h => c12 (h_r1.trans h)), if_neg (fun h => c18 (h_r1.trans h)), if_neg (fun h => c24 (h_r1.trans h)), if_neg (fun h => c93 (h_r1.trans h)), if_pos hnu45, hw2]
              have hnc : ¬ (hereV f n (skipH f n i) = 91 ∨ hereV f n (skipH f n i) = 123) := fun h => by rcases h with h | h <;> rw [h] at hnu45 <;> revert hnu45 <;> decide
              refine lv_if_ne (tgt := 253) hx hb d_Mo_value_164 (by decide) (fun _ => ?_) (fun h => absurd h (by decide))
              refine lv_aload_n hx hb d_Mo_value_253 rfl (lv_at hl 2 rfl) ?_
              have hPc := hP.sub (ws' := [(mo, .inr (13, MF 30 (rf v j2 b2))), (qx, .inl (cB, NN, .inl f))]) [0, 1] rfl
              have hDc := hD.sub (ws' := [(mo, .inr (13, MF 30 (rf v j2 b2))), (qx, .inl (cB, NN, .inl f))]) [0, 1] (by decide) rfl
              have hKc := hK.sub (tys' := [(cB, .byte)]) [0] rfl
              have hFc := va_free (wc := [(mo, .inr (13, MF 30 (rf v j2 b2))), (qx, .inl (cB, NN, .inl f))]) hD hS hA [0, 1] rfl
              refine va_callv (va_runV (As := []) (rest := []) ⟨hx, hb, hml, hown, hts⟩ (c_Mo_blanks l dC dI mo H (rf v j2 b2) cB qx NN f n j2 (by omega) (by omega) (by omega) ((rf_ne (by decide) (by decide)).trans h6) rf_7 ((rf_ne (by decide) (by decide)).trans h8)) (cwV 0 hts (gt_V (own := R_Mo) (C := R_Mo) (i := 184) (y := y_Mo_blanks) i_Mo_blanks w_1229 w_1231 (gt_sel (y := y_Mo_blanks) (n := 30) (by decide +kernel)) w_7) rfl rfl rfl (by decide +kernel) ⟨Nat.le_trans (m := 8) (Nat.le_of_ble_eq_true rfl) (Nat.le_add_right 8 (2 * (r + 1))), Nat.le_trans (m := 300) (Nat.le_of_ble_eq_true rfl) (Nat.le_add_right 300 (80 * (r + 1)))⟩) ⟨mp_blind, va_recv hKc hPc (ci := 13) (q0 := 0) rfl rfl, fun U hU hW => ⟨rfl, hU, by rw [hU]; exact hPc, va_K.moved hW.alike hKc, hDc.weaken (fun _ _ _ _ => trivial)⟩⟩ rfl rfl hl.1 rfl (lv_room (Nat.le_of_ble_eq_true rfl)) d_Mo_value_254 ⟨hfit_T2.1, hfit_T2.2⟩) hS (fun q _ h => hFc q h) hFc (fun _u t9 H1 locs ht hvm hw hB hz1 hk1 hS => ?_)
              obtain ⟨hP1, hK1, hD1⟩ := hB
              rw [ht] at hP1
              obtain ⟨hP, hD⟩ := va_join (wr := [(t, .inr (12, MF 13 (tw T2))), (T2.a0, .inl (cI, T2.N, .inl T2.kd)), (T2.a1, .inl (cL, T2.N, .inr (.inl T2.nu))), (T2.a2, .inl (cI, T2.N, .inl T2.st)), (T2.a3, .inl (cI, T2.N, .inl T2.ln)), (T2.a4, .inl (cI, T2.N, .inl T2.ki)), (T2.a5, .inl (cI, T2.N, .inl T2.nx)), (T2.a6, .inl (cI, T2.N, .inl T2.ns)), (T2.a7, .inl (cI, T2.N, .inl T2.nl)), (T2.a8, .inl (cI, T2.N, .inl T2.pa)), (T2.a9, .inl (cI, T2.N, .inl T2.pl)), (T2.au, .inl (cC, T2.U, .inl T2.un))]) (w1 := [(mo, .inr (13, MF 30 (va_up (rf v j2 b2) 7 (.int (nI (skipH f n j2)))))), (qx, .inl (cB, NN, .inl f))]) hP hD [0, 1] [2, 3, 4, 5, 6, 7, 8, 9, 10, 11, 12, 13] rfl rfl (by decide) (by decide) hk1 hFc hP1 hD1
              generalize H1 = H at hP hS ⊢
              have hP : va_P (dC, dI) classes [(t, .inr (12, MF 13 (tw T2))), (T2.a0, .inl (cI, T2.N, .inl T2.kd)), (T2.a1, .inl (cL, T2.N, .inr (.inl T2.nu))), (T2.a2, .inl (cI, T2.N, .inl T2.st)), (T2.a3, .inl (cI, T2.N, .inl T2.ln)), (T2.a4, .inl (cI, T2.N, .inl T2.ki)), (T2.a5, .inl (cI, T2.N, .inl T2.nx)), (T2.a6, .inl (cI, T2.N, .inl T2.ns)), (T2.a7, .inl (cI, T2.N, .inl T2.nl)), (T2.a8, .inl (cI, T2.N, .inl T2.pa)), (T2.a9, .inl (cI, T2.N, .inl T2.pl)), (T2.au, .inl (cC, T2.U, .inl T2.un)), (mo, .inr (13, MF 30 (va_up (rf v j2 b2) 7 (.int (nI (skipH f n j2)))))), (qx, .inl (cB, NN, .inl f))] H := hP
              have hD : va_D A [(t, .inr (12, MF 13 (tw T2))), (T2.a0, .inl (cI, T2.N, .inl T2.kd)), (T2.a1, .inl (cL, T2.N, .inr (.inl T2.nu))), (T2.a2, .inl (cI, T2.N, .inl T2.st)), (T2.a3, .inl (cI, T2.N, .inl T2.ln)), (T2.a4, .inl (cI, T2.N, .inl T2.ki)), (T2.a5, .inl (cI, T2.N, .inl T2.nx)), (T2.a6, .inl (cI, T2.N, .inl T2.ns)), (T2.a7, .inl (cI, T2.N, .inl T2.nl)), (T2.a8, .inl (cI, T2.N, .inl T2.pa)), (T2.a9, .inl (cI, T2.N, .inl T2.pl)), (T2.au, .inl (cC, T2.U, .inl T2.un)), (mo, .inr (13, MF 30 (va_up (rf v j2 b2) 7 (.int (nI (skipH f n j2)))))), (qx, .inl (cB, NN, .inl f))] := hD
              have hP := hP.sub (ws' := [(mo, .inr (13, MF 30 (va_up (rf v j2 b2) 7 (.int (nI (skipH f n j2)))))), (qx, .inl (cB, NN, .inl f)), (t, .inr (12, MF 13 (tw T2))), (T2.a0, .inl (cI, T2.N, .inl T2.kd)), (T2.a1, .inl (cL, T2.N, .inr (.inl T2.nu))), (T2.a2, .inl (cI, T2.N, .inl T2.st)), (T2.a3, .inl (cI, T2.N, .inl T2.ln)), (T2.a4, .inl (cI, T2.N, .inl T2.ki)), (T2.a5, .inl (cI, T2.N, .inl T2.nx)), (T2.a6, .inl (cI, T2.N, .inl T2.ns)), (T2.a7, .inl (cI, T2.N, .inl T2.nl)), (T2.a8, .inl (cI, T2.N, .inl T2.pa)), (T2.a9, .inl (cI, T2.N, .inl T2.pl)), (T2.au, .inl (cC, T2.U, .inl T2.un))]) [12, 13, 0, 1, 2, 3, 4, 5, 6, 7, 8, 9, 10, 11] rfl
              have hD := hD.sub (ws' := [(mo, .inr (13, MF 30 (va_up (rf v j2 b2) 7 (.int (nI (skipH f n j2)))))), (qx, .inl (cB, NN, .inl f)), (t, .inr (12, MF 13 (tw T2))), (T2.a0, .inl (cI, T2.N, .inl T2.kd)), (T2.a1, .inl (cL, T2.N, .inr (.inl T2.nu))), (T2.a2, .inl (cI, T2.N, .inl T2.st)), (T2.a3, .inl (cI, T2.N, .inl T2.ln)), (T2.a4, .inl (cI, T2.N, .inl T2.ki)), (T2.a5, .inl (cI, T2.N, .inl T2.nx)), (T2.a6, .inl (cI, T2.N, .inl T2.ns)), (T2.a7, .inl (cI, T2.N, .inl T2.nl)), (T2.a8, .inl (cI, T2.N, .inl T2.pa)), (T2.a9, .inl (cI, T2.N, .inl T2.pl)), (T2.au, .inl (cC, T2.U, .inl T2.un))]) [12, 13, 0, 1, 2, 3, 4, 5, 6, 7, 8, 9, 10, 11] (by decide) rfl
              rw [rf_u7] at hP hD
              have hP : va_P (dC, dI) classes [(mo, .inr (13, MF 30 (rf v (skipH f n j2) b2))), (qx, .inl (cB, NN, .inl f)), (t, .inr (12, MF 13 (tw T2))), (T2.a0, .inl (cI, T2.N, .inl T2.kd)), (T2.a1, .inl (cL, T2.N, .inr (.inl T2.nu))), (T2.a2, .inl (cI, T2.N, .inl T2.st)), (T2.a3, .inl (cI, T2.N, .inl T2.ln)), (T2.a4, .inl (cI, T2.N, .inl T2.ki)), (T2.a5, .inl (cI, T2.N, .inl T2.nx)), (T2.a6, .inl (cI, T2.N, .inl T2.ns)), (T2.a7, .inl (cI, T2.N, .inl T2.nl)), (T2.a8, .inl (cI, T2.N, .inl T2.pa)), (T2.a9, .inl (cI, T2.N, .inl T2.pl)), (T2.au, .inl (cC, T2.U, .inl T2.un))] H := hP
              have hD : va_D A [(mo, .inr (13, MF 30 (rf v (skipH f n j2) b2))), (qx, .inl (cB, NN, .inl f)), (t, .inr (12, MF 13 (tw T2))), (T2.a0, .inl (cI, T2.N, .inl T2.kd)), (T2.a1, .inl (cL, T2.N, .inr (.inl T2.nu))), (T2.a2, .inl (cI, T2.N, .inl T2.st)), (T2.a3, .inl (cI, T2.N, .inl T2.ln)), (T2.a4, .inl (cI, T2.N, .inl T2.ki)), (T2.a5, .inl (cI, T2.N, .inl T2.nx)), (T2.a6, .inl (cI, T2.N, .inl T2.ns)), (T2.a7, .inl (cI, T2.N, .inl T2.nl)), (T2.a8, .inl (cI, T2.N, .inl T2.pa)), (T2.a9, .inl (cI, T2.N, .inl T2.pl)), (T2.au, .inl (cC, T2.U, .inl T2.un))] := hD
              have hsk_257 := skipH_n (f := f) (show j2 ≤ n by omega)
              refine lv_iload hx hb d_Mo_value_257 (lv_at hl 0 rfl) ?_
              have hpv : pV f n (r + 1) i = some (jleaf (r + 1) (3, val, []), (skipH f n j2)) := by rw [pV_leaf _ hnc, hpl]; rfl
              have hRV : RepV T2 (r + 1) T.ct T2.ct (jleaf (r + 1) (3, val, [])) := leafRep hRepn (by show (3 : Nat) < 5; omega) hkin hctn _
              refine w_same (fun hq => ?_)
              refine W.widen (k := ncap T (T.ct + (n + 12 - i)) + qcap T (T.us + (n + 12 - i))) (n := 20 * ncap T (T.ct + (n + 12 - i)) + 2 * qcap T (T.us + (n + 12 - i))) hfit_T2.1 hfit_T2.2 ?_
              have hTG : TG n i T T2 := ⟨hTk_T2, hGB_T2⟩
              exact W.iret (v := nI T.ct) hx hb hr (fun t9 ht hW => ⟨⟨nI T.ct, (T2, (skipH f n j2), b2), rfl, ⟨hTG, Or.inl ⟨(jleaf (r + 1) (3, val, [])), rfl, hpv, hRV, hTEn, hpan, by show T.ct < T2.ct; omega, by show T2.ct + i ≤ T.ct + (skipH f n j2); omega, by show T2.us + i ≤ T.us + (skipH f n j2); omega, by show (skipH f n j2) ≤ n; omega⟩⟩, ⟨by rw [ht]; exact hP, va_K.moved hW.alike hK, hD⟩, by rw [ht]; exact hq⟩, hS.F ht⟩) hS.2.2 d_Mo_value_259
            · have hw3 : nu2 = T1.nu := hw3
              subst hw3
              subst hw1
              have hP : va_P (dC, dI) classes [(mo, .inr (13, MF 30 (rf v j2 b2))), (qx, .inl (cB, NN, .inl f)), (t, .inr (12, MF 13 (tw T1))), (T1.a0, .inl (cI, T1.N, .inl T1.kd)), (T1.a1, .inl (cL, T1.N, .inr (.inl T1.nu))), (T1.a2, .inl (cI, T1.N, .inl T1.st)), (T1.a3, .inl (cI, T1.N, .inl T1.ln)), (T1.a4, .inl (cI, T1.N, .inl T1.ki)), (T1.a5, .inl (cI, T1.N, .inl T1.nx)), (T1.a6, .inl (cI, T1.N, .inl T1.ns)), (T1.a7, .inl (cI, T1.N, .inl T1.nl)), (T1.a8, .inl (cI, T1.N, .inl T1.pa)), (T1.a9, .inl (cI, T1.N, .inl T1.pl)), (T1.au, .inl (cC, T1.U, .inl T1.un))] H := hP
              have hD : va_D A [(mo, .inr (13, MF 30 (rf v j2 b2))), (qx, .inl (cB, NN, .inl f)), (t, .inr (12, MF 13 (tw T1))), (T1.a0, .inl (cI, T1.N, .inl T1.kd)), (T1.a1, .inl (cL, T1.N, .inr (.inl T1.nu))), (T1.a2, .inl (cI, T1.N, .inl T1.st)), (T1.a3, .inl (cI, T1.N, .inl T1.ln)), (T1.a4, .inl (cI, T1.N, .inl T1.ki)), (T1.a5, .inl (cI, T1.N, .inl T1.nx)), (T1.a6, .inl (cI, T1.N, .inl T1.ns)), (T1.a7, .inl (cI, T1.N, .inl T1.nl)), (T1.a8, .inl (cI, T1.N, .inl T1.pa)), (T1.a9, .inl (cI, T1.N, .inl T1.pl)), (T1.au, .inl (cC, T1.U, .inl T1.un))] := hD
              have hnu45 : hereV f n (skipH f n i) = 45 ∨ digH (hereV f n (skipH f n i)) := by rw [← h_r1]; exact Or.inl c140
              refine lv_if_ne (tgt := 253) hx hb d_Mo_value_164 (by decide) (fun h => absurd h (by decide)) (fun _ => ?_)
              refine lv_iconst (v := (-1)) hx hb d_Mo_value_167 (by decide) ?_
              have hpl : pLeaf f n (skipH f n i) = none := by unfold pLeaf; rw [if_neg (fun h => c12 (h_r1.trans h)), if_neg (fun h => c18 (h_r1.trans h)), if_neg (fun h => c24 (h_r1.trans h)), if_neg (fun h => c93 (h_r1.trans h)), if_pos hnu45, hw2]
              have hfin : pV f n (r + 1) i = none := by rw [pV_leaf _ (fun h => by rcases h with h | h <;> rw [h] at hnu45 <;> revert hnu45 <;> decide), hpl]; rfl
              refine w_same (fun hq => ?_)
              refine W.widen (k := ncap T (T.ct + (n + 12 - i)) + qcap T (T.us + (n + 12 - i))) (n := 20 * ncap T (T.ct + (n + 12 - i)) + 2 * qcap T (T.us + (n + 12 - i))) hfit_T1.1 hfit_T1.2 ?_
              have hTG : TG n i T T1 := ⟨hTk_T1, hGB_T1⟩
              exact W.iret (v := -1) hx hb hr (fun t9 ht hW => ⟨⟨-1, (T1, j2, b2), rfl, ⟨hTG, Or.inr ⟨rfl, hfin⟩⟩, ⟨by rw [ht]; exact hP, va_K.moved hW.alike hK, hD⟩, by rw [ht]; exact hq⟩, hS.F ht⟩) hS.2.2 d_Mo_value_168
          · refine lv_iload_n hx hb d_Mo_value_143 rfl (lv_at hl 0 rfl) ?_
            have hPc := hP.sub (ws' := []) [] rfl
            have hDc := hD.sub (ws' := []) [] (by decide) rfl
            have hKc := hK.sub (tys' := []) [] rfl
            have hFc := va_free (wc := []) hD hS hA [] rfl
            refine va_calli (va_runS (As := [.int r1]) (rest := []) ⟨hx, hb, hml, hown, hts⟩ (c_Mo_digit l dC dI H r1) (va_cwS 1 hts (gt_S (own := R_Mo) (i := 166) (y := y_Mo_digit) i_Mo_digit w_1332 w_1333 w_7) rfl rfl rfl (by decide +kernel) ⟨Nat.le_trans (m := 8) (Nat.le_of_ble_eq_true rfl) (Nat.le_add_right 8 (2 * (r + 1))), Nat.le_trans (m := 300) (Nat.le_of_ble_eq_true rfl) (Nat.le_add_right 300 (80 * (r + 1)))⟩) ⟨mp_blind, fun U hU hW => ⟨rfl, hU, by rw [hU]; exact hPc, va_K.moved hW.alike hKc, hDc.weaken (fun _ _ _ _ => trivial)⟩⟩ rfl rfl hl.1 rfl (lv_room (Nat.le_of_ble_eq_true rfl)) d_Mo_value_144 ⟨hfit_T.1, hfit_T.2⟩) hS (fun q _ h => hFc q h) hFc (fun d1 _u t9 H1 locs ht hvm hw hB hz1 hk1 hS => ?_)
            obtain ⟨hP1, hK1, hD1⟩ := hB
            rw [ht] at hP1
            obtain ⟨hP, hD⟩ := va_join (wr := [(mo, .inr (13, MF 30 (rf v (skipH f n i) br))), (qx, .inl (cB, NN, .inl f)), (t, .inr (12, MF 13 (tw T))), (T.a0, .inl (cI, T.N, .inl T.kd)), (T.a1, .inl (cL, T.N, .inr (.inl T.nu))), (T.a2, .inl (cI, T.N, .inl T.st)), (T.a3, .inl (cI, T.N, .inl T.ln)), (T.a4, .inl (cI, T.N, .inl T.ki)), (T.a5, .inl (cI, T.N, .inl T.nx)), (T.a6, .inl (cI, T.N, .inl T.ns)), (T.a7, .inl (cI, T.N, .inl T.nl)), (T.a8, .inl (cI, T.N, .inl T.pa)), (T.a9, .inl (cI, T.N, .inl T.pl)), (T.au, .inl (cC, T.U, .inl T.un))]) (w1 := []) hP hD [] [0, 1, 2, 3, 4, 5, 6, 7, 8, 9, 10, 11, 12, 13] rfl rfl (by decide) (by decide) hk1 hFc hP1 hD1
            generalize H1 = H at hP hS ⊢
            have hP : va_P (dC, dI) classes [(mo, .inr (13, MF 30 (rf v (skipH f n i) br))), (qx, .inl (cB, NN, .inl f)), (t, .inr (12, MF 13 (tw T))), (T.a0, .inl (cI, T.N, .inl T.kd)), (T.a1, .inl (cL, T.N, .inr (.inl T.nu))), (T.a2, .inl (cI, T.N, .inl T.st)), (T.a3, .inl (cI, T.N, .inl T.ln)), (T.a4, .inl (cI, T.N, .inl T.ki)), (T.a5, .inl (cI, T.N, .inl T.nx)), (T.a6, .inl (cI, T.N, .inl T.ns)), (T.a7, .inl (cI, T.N, .inl T.nl)), (T.a8, .inl (cI, T.N, .inl T.pa)), (T.a9, .inl (cI, T.N, .inl T.pl)), (T.au, .inl (cC, T.U, .inl T.un))] H := hP
            have hD : va_D A [(mo, .inr (13, MF 30 (rf v (skipH f n i) br))), (qx, .inl (cB, NN, .inl f)), (t, .inr (12, MF 13 (tw T))), (T.a0, .inl (cI, T.N, .inl T.kd)), (T.a1, .inl (cL, T.N, .inr (.inl T.nu))), (T.a2, .inl (cI, T.N, .inl T.st)), (T.a3, .inl (cI, T.N, .inl T.ln)), (T.a4, .inl (cI, T.N, .inl T.ki)), (T.a5, .inl (cI, T.N, .inl T.nx)), (T.a6, .inl (cI, T.N, .inl T.ns)), (T.a7, .inl (cI, T.N, .inl T.nl)), (T.a8, .inl (cI, T.N, .inl T.pa)), (T.a9, .inl (cI, T.N, .inl T.pl)), (T.au, .inl (cC, T.U, .inl T.un))] := hD
            have h_d1 := dg_01 hw
            refine lv_if_eq (tgt := 169) hx hb d_Mo_value_147 (by decide) (fun c147 => ?_) (fun c147 => ?_)
            · refine lv_iload_n hx hb d_Mo_value_169 rfl (lv_at hl 0 rfl) ?_
              refine lv_bipush (v := 91) hx hb d_Mo_value_170 (by decide) ?_
              refine lv_icmp_eq (tgt := 181) hx hb d_Mo_value_172 (by decide) (fun c172 => ?_) (fun c172 => ?_)
              · refine lv_iload_n hx hb d_Mo_value_181 rfl (lv_at hl 3 rfl) ?_
                refine lv_bipush (v := 32) hx hb d_Mo_value_182 (by decide) ?_
                refine lv_icmp_ne (tgt := 198) hx hb d_Mo_value_184 (by decide) (fun _ => ?_) (fun h => absurd h (fun h => by rw [show (32 : Int32) = nI 32 from rfl, nI_eq (by omega) (by omega)] at h; omega))
                refine lv_aload_n hx hb d_Mo_value_198 rfl (lv_at hl 2 rfl) ?_
                refine lv_iload_n hx hb d_Mo_value_199 rfl (lv_at hl 0 rfl) ?_
                refine lv_bipush (v := 91) hx hb d_Mo_value_200 (by decide) ?_
                refine lv_icmp_ne (tgt := 209) hx hb d_Mo_value_202 (by decide) (fun h => absurd h (fun q => q c172)) (fun _ => ?_)
                refine lv_iconst (v := 5) hx hb d_Mo_value_205 (by decide) ?_
                refine lv_goto (tgt := 211) hx hb d_Mo_value_206 (by decide) ?_
                have hPc := hP.sub (ws' := [(t, .inr (12, MF 13 (tw T))), (T.a0, .inl (cI, T.N, .inl T.kd)), (T.a1, .inl (cL, T.N, .inr (.inl T.nu))), (T.a2, .inl (cI, T.N, .inl T.st)), (T.a3, .inl (cI, T.N, .inl T.ln)), (T.a4, .inl (cI, T.N, .inl T.ki)), (T.a5, .inl (cI, T.N, .inl T.nx)), (T.a6, .inl (cI, T.N, .inl T.ns)), (T.a7, .inl (cI, T.N, .inl T.nl)), (T.a8, .inl (cI, T.N, .inl T.pa)), (T.a9, .inl (cI, T.N, .inl T.pl)), (T.au, .inl (cC, T.U, .inl T.un))]) [2, 3, 4, 5, 6, 7, 8, 9, 10, 11, 12, 13] rfl
                have hDc := hD.sub (ws' := [(t, .inr (12, MF 13 (tw T))), (T.a0, .inl (cI, T.N, .inl T.kd)), (T.a1, .inl (cL, T.N, .inr (.inl T.nu))), (T.a2, .inl (cI, T.N, .inl T.st)), (T.a3, .inl (cI, T.N, .inl T.ln)), (T.a4, .inl (cI, T.N, .inl T.ki)), (T.a5, .inl (cI, T.N, .inl T.nx)), (T.a6, .inl (cI, T.N, .inl T.ns)), (T.a7, .inl (cI, T.N, .inl T.nl)), (T.a8, .inl (cI, T.N, .inl T.pa)), (T.a9, .inl (cI, T.N, .inl T.pl)), (T.au, .inl (cC, T.U, .inl T.un))]) [2, 3, 4, 5, 6, 7, 8, 9, 10, 11, 12, 13] (by decide) rfl
                have hKc := hK.sub (tys' := [(cI, .int), (cL, .long), (cC, .char)]) [1, 2, 3] rfl
                have hFc := va_free (wc := [(t, .inr (12, MF 13 (tw T))), (T.a0, .inl (cI, T.N, .inl T.kd)), (T.a1, .inl (cL, T.N, .inr (.inl T.nu))), (T.a2, .inl (cI, T.N, .inl T.st)), (T.a3, .inl (cI, T.N, .inl T.ln)), (T.a4, .inl (cI, T.N, .inl T.ki)), (T.a5, .inl (cI, T.N, .inl T.nx)), (T.a6, .inl (cI, T.N, .inl T.ns)), (T.a7, .inl (cI, T.N, .inl T.nl)), (T.a8, .inl (cI, T.N, .inl T.pa)), (T.a9, .inl (cI, T.N, .inl T.pl)), (T.au, .inl (cC, T.U, .inl T.un))]) hD hS hA [2, 3, 4, 5, 6, 7, 8, 9, 10, 11, 12, 13] rfl
                refine w_same (fun hq0 => ?_)
                refine va_calli (va_runV (As := [.int 5]) (rest := []) ⟨hx, hb, hml, hown, hts⟩ (c_Tree_add l dC dI t H cI cL cC T 5 hTk_T) (cwV 1 hts (gt_V (own := R_Mo) (C := R_Tree) (i := 197) (y := y_Tree_add) i_Tree_add w_1254 w_1255 w_1256 w_8) rfl rfl rfl (by decide +kernel) ⟨Nat.le_trans (m := 8) (Nat.le_of_ble_eq_true rfl) (Nat.le_add_right 8 (2 * (r + 1))), Nat.le_trans (m := 300) (Nat.le_of_ble_eq_true rfl) (Nat.le_add_right 300 (80 * (r + 1)))⟩) ⟨mp_blind, va_recv hKc hPc (ci := 12) (q0 := 0) rfl rfl, fun U hU hW => ⟨rfl, hU, by rw [hU]; exact hPc, va_K.moved hW.alike hKc, hDc.weaken (fun _ _ _ _ => trivial)⟩⟩ rfl rfl hl.1 rfl (lv_room (Nat.le_of_ble_eq_true rfl)) d_Mo_value_211 ⟨(TAd.fit hGB_T hTk_T (by omega)).1, (TAd.fit hGB_T hTk_T (by omega)).2⟩) hS (fun q _ h => hFc q h) hFc (fun r0 T1 t9 H1 locs ht hvm hw hB hz1 hk1 hS => ?_)
                obtain ⟨⟨hP1, hK1, hD1⟩, hz9⟩ := hB
                rw [ht] at hP1
                rw [ht] at hz9
                obtain ⟨hr0, hA_T1⟩ := hw
                have hA_T1 : TAd T T1 5 := hA_T1
                have hAg := hA_T1.gb hTk_T (by omega)
                obtain ⟨hGB_T1, hGc_T1, hGs_T1⟩ := hGB_T.tr hAg.1 (show T.ct + 1 ≤ (T.ct + (n + 12 - i)) by omega) (Nat.zero_le _)
                have hGc_T1 := Nat.le_trans (Nat.add_le_add_left hAg.2.1 _) hGc_T1
                have hGs_T1 := Nat.le_trans (Nat.add_le_add_left hAg.2.2 _) hGs_T1
                have hq1 : szk s.heap H1 (cE T T1) (sE T T1) := (hq0.trans hz9).mono hGc_T1 hGs_T1
                refine w_tight hq1 ?_
                obtain ⟨hP, hD⟩ := va_join (wr := [(mo, .inr (13, MF 30 (rf v (skipH f n i) br))), (qx, .inl (cB, NN, .inl f))]) (w1 := [(t, .inr (12, MF 13 (tw T1))), (T1.a0, .inl (cI, T1.N, .inl T1.kd)), (T1.a1, .inl (cL, T1.N, .inr (.inl T1.nu))), (T1.a2, .inl (cI, T1.N, .inl T1.st)), (T1.a3, .inl (cI, T1.N, .inl T1.ln)), (T1.a4, .inl (cI, T1.N, .inl T1.ki)), (T1.a5, .inl (cI, T1.N, .inl T1.nx)), (T1.a6, .inl (cI, T1.N, .inl T1.ns)), (T1.a7, .inl (cI, T1.N, .inl T1.nl)), (T1.a8, .inl (cI, T1.N, .inl T1.pa)), (T1.a9, .inl (cI, T1.N, .inl T1.pl)), (T1.au, .inl (cC, T1.U, .inl T1.un))]) hP hD [2, 3, 4, 5, 6, 7, 8, 9, 10, 11, 12, 13] [0, 1] rfl rfl (by decide) (by decide) hk1 hFc hP1 hD1
                generalize H1 = H at hP hS ⊢
                have hP : va_P (dC, dI) classes [(mo, .inr (13, MF 30 (rf v (skipH f n i) br))), (qx, .inl (cB, NN, .inl f)), (t, .inr (12, MF 13 (tw T1))), (T1.a0, .inl (cI, T1.N, .inl T1.kd)), (T1.a1, .inl (cL, T1.N, .inr (.inl T1.nu))), (T1.a2, .inl (cI, T1.N, .inl T1.st)), (T1.a3, .inl (cI, T1.N, .inl T1.ln)), (T1.a4, .inl (cI, T1.N, .inl T1.ki)), (T1.a5, .inl (cI, T1.N, .inl T1.nx)), (T1.a6, .inl (cI, T1.N, .inl T1.ns)), (T1.a7, .inl (cI, T1.N, .inl T1.nl)), (T1.a8, .inl (cI, T1.N, .inl T1.pa)), (T1.a9, .inl (cI, T1.N, .inl T1.pl)), (T1.au, .inl (cC, T1.U, .inl T1.un))] H := hP
                have hD : va_D A [(mo, .inr (13, MF 30 (rf v (skipH f n i) br))), (qx, .inl (cB, NN, .inl f)), (t, .inr (12, MF 13 (tw T1))), (T1.a0, .inl (cI, T1.N, .inl T1.kd)), (T1.a1, .inl (cL, T1.N, .inr (.inl T1.nu))), (T1.a2, .inl (cI, T1.N, .inl T1.st)), (T1.a3, .inl (cI, T1.N, .inl T1.ln)), (T1.a4, .inl (cI, T1.N, .inl T1.ki)), (T1.a5, .inl (cI, T1.N, .inl T1.nx)), (T1.a6, .inl (cI, T1.N, .inl T1.ns)), (T1.a7, .inl (cI, T1.N, .inl T1.nl)), (T1.a8, .inl (cI, T1.N, .inl T1.pa)), (T1.a9, .inl (cI, T1.N, .inl T1.pl)), (T1.au, .inl (cC, T1.U, .inl T1.un))] := hD
                have hTk_T1 := (hA_T1.ok hTk_T (by omega)).1
                have hAc_T1 : T1.ct = T.ct + 1 ∧ T1.us = T.us := ⟨(hA_T1.ok hTk_T (by omega)).2.2.2.2.2.1, (hA_T1.ok hTk_T (by omega)).2.2.2.2.1⟩
                have hr0 : r0 = nI T.ct := hr0
                subst hr0
                have hfit_T1 := hGB_T1.fits
                refine lv_istore (lv' := [(4, .int (nI T.ct)), (3, .int r1), (0, .ref mo), (1, .ref t), (2, .int (nI (31 - r)))]) hx hb d_Mo_value_214 hl (by decide) rfl (fun ls hl => ?_)
                refine lv_aload_n hx hb d_Mo_value_216 rfl (lv_at hl 2 rfl) ?_
                refine lv_aload_n hx hb d_Mo_value_217 rfl (lv_at hl 3 rfl) ?_
                refine lv_iload hx hb d_Mo_value_218 (lv_at hl 0 rfl) ?_
                refine lv_iload_n hx hb d_Mo_value_220 rfl (lv_at hl 4 rfl) ?_
                refine lv_iload_n hx hb d_Mo_value_221 rfl (lv_at hl 1 rfl) ?_
                refine lv_bipush (v := 91) hx hb d_Mo_value_222 (by decide) ?_
                refine lv_icmp_ne (tgt := 232) hx hb d_Mo_value_224 (by decide) (fun h => absurd h (fun q => q c172)) (fun _ => ?_)
                refine lv_bipush (v := 93) hx hb d_Mo_value_227 (by decide) ?_
                refine lv_goto (tgt := 234) hx hb d_Mo_value_229 (by decide) ?_
                have hop : hereV f n (skipH f n i) = 91 := h_r1.symm.trans c172
                have hlto := here_in hop (by decide)
                refine W.eq (g2 := F0 m 234 ls [.int (clo 91), .int (nI (31 - r)), .int (nI T.ct), .ref t, .ref mo]) (by rw [show 93 = (clo 91) from (by decide)]) ?_
                have hPc := hP.sub (ws' := [(mo, .inr (13, MF 30 (rf v (skipH f n i) br))), (qx, .inl (cB, NN, .inl f)), (t, .inr (12, MF 13 (tw T1))), (T1.a0, .inl (cI, T1.N, .inl T1.kd)), (T1.a1, .inl (cL, T1.N, .inr (.inl T1.nu))), (T1.a2, .inl (cI, T1.N, .inl T1.st)), (T1.a3, .inl (cI, T1.N, .inl T1.ln)), (T1.a4, .inl (cI, T1.N, .inl T1.ki)), (T1.a5, .inl (cI, T1.N, .inl T1.nx)), (T1.a6, .inl (cI, T1.N, .inl T1.ns)), (T1.a7, .inl (cI, T1.N, .inl T1.nl)), (T1.a8, .inl (cI, T1.N, .inl T1.pa)), (T1.a9, .inl (cI, T1.N, .inl T1.pl)), (T1.au, .inl (cC, T1.U, .inl T1.un))]) [0, 1, 2, 3, 4, 5, 6, 7, 8, 9, 10, 11, 12, 13] rfl
                have hDc := hD.sub (ws' := [(mo, .inr (13, MF 30 (rf v (skipH f n i) br))), (qx, .inl (cB, NN, .inl f)), (t, .inr (12, MF 13 (tw T1))), (T1.a0, .inl (cI, T1.N, .inl T1.kd)), (T1.a1, .inl (cL, T1.N, .inr (.inl T1.nu))), (T1.a2, .inl (cI, T1.N, .inl T1.st)), (T1.a3, .inl (cI, T1.N, .inl T1.ln)), (T1.a4, .inl (cI, T1.N, .inl T1.ki)), (T1.a5, .inl (cI, T1.N, .inl T1.nx)), (T1.a6, .inl (cI, T1.N, .inl T1.ns)), (T1.a7, .inl (cI, T1.N, .inl T1.nl)), (T1.a8, .inl (cI, T1.N, .inl T1.pa)), (T1.a9, .inl (cI, T1.N, .inl T1.pl)), (T1.au, .inl (cC, T1.U, .inl T1.un))]) [0, 1, 2, 3, 4, 5, 6, 7, 8, 9, 10, 11, 12, 13] (by decide) rfl
                have hKc := hK.sub (tys' := [(cB, .byte), (cI, .int), (cL, .long), (cC, .char)]) [0, 1, 2, 3] rfl
                have hFc := va_free (wc := [(mo, .inr (13, MF 30 (rf v (skipH f n i) br))), (qx, .inl (cB, NN, .inl f)), (t, .inr (12, MF 13 (tw T1))), (T1.a0, .inl (cI, T1.N, .inl T1.kd)), (T1.a1, .inl (cL, T1.N, .inr (.inl T1.nu))), (T1.a2, .inl (cI, T1.N, .inl T1.st)), (T1.a3, .inl (cI, T1.N, .inl T1.ln)), (T1.a4, .inl (cI, T1.N, .inl T1.ki)), (T1.a5, .inl (cI, T1.N, .inl T1.nx)), (T1.a6, .inl (cI, T1.N, .inl T1.ns)), (T1.a7, .inl (cI, T1.N, .inl T1.nl)), (T1.a8, .inl (cI, T1.N, .inl T1.pa)), (T1.a9, .inl (cI, T1.N, .inl T1.pl)), (T1.au, .inl (cC, T1.U, .inl T1.un))]) hD hS hA [0, 1, 2, 3, 4, 5, 6, 7, 8, 9, 10, 11, 12, 13] rfl
                refine w_same (fun hq0 => ?_)
                refine va_calli (va_runV (As := [.ref t, .int (nI T.ct), .int (nI (31 - r)), .int (clo 91)]) (rest := []) ⟨hx, hb, hml, hown, hts⟩ (hIA l dC dI mo H v cB cI cL cC qx NN f n K t T1 (skipH f n i) br T.ct hnN hNN (by omega) h6 h8 hTk_T1 (by omega) (by omega) (by omega) hA_T1.2.2.2.2.2.2.2.2.1) (cwV 4 hts (gt_V (own := R_Mo) (C := R_Mo) (i := 211) (y := y_Mo_inside) i_Mo_inside w_1346 w_1348 (gt_sel (y := y_Mo_inside) (n := 30) (by decide +kernel)) w_7) rfl rfl rfl (by decide +kernel) ⟨by show 9 + 2 * r + 1 ≤ 8 + 2 * (r + 1); omega, by show 8 + (9 + 11) + (330 + 80 * r) ≤ 300 + 80 * (r + 1); omega⟩) ⟨me_blind, va_recv hKc hPc (ci := 13) (q0 := 0) rfl rfl, fun U hU hW => ⟨rfl, ⟨hU, by rw [hU]; exact hPc, va_K.moved hW.alike hKc, hDc.weaken (fun _ _ _ _ => trivial)⟩, by rw [hU]; exact ME.call hM hS.2.1 hFc hW⟩⟩ rfl rfl hl.1 rfl (lv_room (Nat.le_of_ble_eq_true rfl)) d_Mo_value_234 ⟨(hGB_T1.step (B2 := T1.ct + (n + 12 - ((skipH f n i) + 1))) (C2 := T1.us + (n + 12 - ((skipH f n i) + 1))) (by omega) (by omega)).1, (hGB_T1.step (B2 := T1.ct + (n + 12 - ((skipH f n i) + 1))) (C2 := T1.us + (n + 12 - ((skipH f n i) + 1))) (by omega) (by omega)).2⟩) hS (fun q _ h => hFc q h) hFc (fun r0 ⟨T2, j_T2, b_T2⟩ t9 H1 locs ht hvm hw hB hz1 hk1 hS => ?_)
                obtain ⟨⟨hP1, hK1, hD1⟩, hz9⟩ := hB
                rw [ht] at hP1
                rw [ht] at hz9
                obtain ⟨⟨hTk_T2, hGn_T2⟩, hw⟩ := hw
                have hTk_T2 : TOK T2 := hTk_T2
                obtain ⟨hGB_T2, hGc_T2, hGs_T2⟩ := hGB_T1.tr hGn_T2 (by omega) (by omega)
                have hz9 : szk H H1 (cE T1 T2) (sE T1 T2) := hz9
                have hq1 : szk s.heap H1 (cE T T2) (sE T T2) := (hq0.trans hz9).mono hGc_T2 hGs_T2
                refine w_tight hq1 ?_
                obtain ⟨hP, hD⟩ := va_join (wr := []) (w1 := [(mo, .inr (13, MF 30 (rf v j_T2 b_T2))), (qx, .inl (cB, NN, .inl f)), (t, .inr (12, MF 13 (tw T2))), (T2.a0, .inl (cI, T2.N, .inl T2.kd)), (T2.a1, .inl (cL, T2.N, .inr (.inl T2.nu))), (T2.a2, .inl (cI, T2.N, .inl T2.st)), (T2.a3, .inl (cI, T2.N, .inl T2.ln)), (T2.a4, .inl (cI, T2.N, .inl T2.ki)), (T2.a5, .inl (cI, T2.N, .inl T2.nx)), (T2.a6, .inl (cI, T2.N, .inl T2.ns)), (T2.a7, .inl (cI, T2.N, .inl T2.nl)), (T2.a8, .inl (cI, T2.N, .inl T2.pa)), (T2.a9, .inl (cI, T2.N, .inl T2.pl)), (T2.au, .inl (cC, T2.U, .inl T2.un))]) hP hD [0, 1, 2, 3, 4, 5, 6, 7, 8, 9, 10, 11, 12, 13] [] rfl rfl (by decide) (by decide) hk1 hFc hP1 hD1
                generalize H1 = H at hP hS ⊢
                have hP : va_P (dC, dI) classes [(mo, .inr (13, MF 30 (rf v j_T2 b_T2))), (qx, .inl (cB, NN, .inl f)), (t, .inr (12, MF 13 (tw T2))), (T2.a0, .inl (cI, T2.N, .inl T2.kd)), (T2.a1, .inl (cL, T2.N, .inr (.inl T2.nu))), (T2.a2, .inl (cI, T2.N, .inl T2.st)), (T2.a3, .inl (cI, T2.N, .inl T2.ln)), (T2.a4, .inl (cI, T2.N, .inl T2.ki)), (T2.a5, .inl (cI, T2.N, .inl T2.nx)), (T2.a6, .inl (cI, T2.N, .inl T2.ns)), (T2.a7, .inl (cI, T2.N, .inl T2.nl)), (T2.a8, .inl (cI, T2.N, .inl T2.pa)), (T2.a9, .inl (cI, T2.N, .inl T2.pl)), (T2.au, .inl (cC, T2.U, .inl T2.un))] H := hP
                have hD : va_D A [(mo, .inr (13, MF 30 (rf v j_T2 b_T2))), (qx, .inl (cB, NN, .inl f)), (t, .inr (12, MF 13 (tw T2))), (T2.a0, .inl (cI, T2.N, .inl T2.kd)), (T2.a1, .inl (cL, T2.N, .inr (.inl T2.nu))), (T2.a2, .inl (cI, T2.N, .inl T2.st)), (T2.a3, .inl (cI, T2.N, .inl T2.ln)), (T2.a4, .inl (cI, T2.N, .inl T2.ki)), (T2.a5, .inl (cI, T2.N, .inl T2.nx)), (T2.a6, .inl (cI, T2.N, .inl T2.ns)), (T2.a7, .inl (cI, T2.N, .inl T2.nl)), (T2.a8, .inl (cI, T2.N, .inl T2.pa)), (T2.a9, .inl (cI, T2.N, .inl T2.pl)), (T2.au, .inl (cC, T2.U, .inl T2.un))] := hD
                rcases hw with ⟨hi_1, ks, hi_2, hi_3, hi_4, hi_5, hi_6, hi_7⟩ | ⟨hi_1, hi_2⟩
                · have hi_2 : pInside f n (pV f n r) 91 (skipH f n i) = some (ks, j_T2) := hi_2
                  have hi_4 : TB T1 T2 T.ct := hi_4
                  have hi_5 : T2.ct + ((skipH f n i) + 1) ≤ T1.ct + j_T2 := hi_5
                  have hi_6 : T2.us + ((skipH f n i) + 1) ≤ T1.us + j_T2 := hi_6
                  have hi_7 : j_T2 ≤ n := hi_7
                  have hi_8 := hi_4.1
                  subst hi_1
                  have hfit_T2 := hGB_T2.fits
                  have hTEn : TE T T2 := TB.toTE hA_T1.te hi_4
                  have hpan : T2.pa T.ct = -1 := by rw [hi_4.2.2.2.2.2.2.2.2.2.2]; exact hA_T1.2.2.2.2.2.2.2.2.2.2.1
                  have hRV : RepV T2 (r + 1) T.ct T2.ct (((5, 0, []), ks) : JVt (r + 1)) := by
                    refine ⟨by omega, Nat.le_refl _, ⟨by rw [hi_4.2.2.2.1]; exact hA_T1.2.2.2.2.2.2.2.1, by show 5 ≤ 6; omega, fun h => absurd h (by show ¬ 5 = 3; omega), fun h => absurd h (by show ¬ 5 = 4; omega), fun _ => by rw [hi_4.2.2.2.2.2.2.1]; exact hA_T1.2.2.2.2.2.2.2.2.2.2.2.2.1⟩, fun h => absurd h (by show ¬ 5 < 5; omega), ?_⟩
                    have hi_3 := RepK_ob (ob2 := ((5 : Nat) = 6)) (by decide) hi_3
                    rw [← hAc_T1.1]
                    exact hi_3
                  have hpv : pV f n (r + 1) i = some ((((5, 0, []), ks) : JVt (r + 1)), skipH f n j_T2) := by
                    simp only [pV]
                    rw [if_pos (Or.inl hop), hop, hi_2]
                    rfl
                  refine lv_if_ne (tgt := 253) hx hb d_Mo_value_237 (by decide) (fun _ => ?_) (fun h => absurd h (by decide))
                  refine lv_aload_n hx hb d_Mo_value_253 rfl (lv_at hl 2 rfl) ?_
                  have hPc := hP.sub (ws' := [(mo, .inr (13, MF 30 (rf v j_T2 b_T2))), (qx, .inl (cB, NN, .inl f))]) [0, 1] rfl
                  have hDc := hD.sub (ws' := [(mo, .inr (13, MF 30 (rf v j_T2 b_T2))), (qx, .inl (cB, NN, .inl f))]) [0, 1] (by decide) rfl
                  have hKc := hK.sub (tys' := [(cB, .byte)]) [0] rfl
                  have hFc := va_free (wc := [(mo, .inr (13, MF 30 (rf v j_T2 b_T2))), (qx, .inl (cB, NN, .inl f))]) hD hS hA [0, 1] rfl
                  refine va_callv (va_runV (As := []) (rest := []) ⟨hx, hb, hml, hown, hts⟩ (c_Mo_blanks l dC dI mo H (rf v j_T2 b_T2) cB qx NN f n j_T2 (by omega) (by omega) (by omega) ((rf_ne (by decide) (by decide)).trans h6) rf_7 ((rf_ne (by decide) (by decide)).trans h8)) (cwV 0 hts (gt_V (own := R_Mo) (C := R_Mo) (i := 184) (y := y_Mo_blanks) i_Mo_blanks w_1229 w_1231 (gt_sel (y := y_Mo_blanks) (n := 30) (by decide +kernel)) w_7) rfl rfl rfl (by decide +kernel) ⟨Nat.le_trans (m := 8) (Nat.le_of_ble_eq_true rfl) (Nat.le_add_right 8 (2 * (r + 1))), Nat.le_trans (m := 300) (Nat.le_of_ble_eq_true rfl) (Nat.le_add_right 300 (80 * (r + 1)))⟩) ⟨mp_blind, va_recv hKc hPc (ci := 13) (q0 := 0) rfl rfl, fun U hU hW => ⟨rfl, hU, by rw [hU]; exact hPc, va_K.moved hW.alike hKc, hDc.weaken (fun _ _ _ _ => trivial)⟩⟩ rfl rfl hl.1 rfl (lv_room (Nat.le_of_ble_eq_true rfl)) d_Mo_value_254 ⟨hfit_T2.1, hfit_T2.2⟩) hS (fun q _ h => hFc q h) hFc (fun _u t9 H1 locs ht hvm hw hB hz1 hk1 hS => ?_)
                  obtain ⟨hP1, hK1, hD1⟩ := hB
                  rw [ht] at hP1
                  obtain ⟨hP, hD⟩ := va_join (wr := [(t, .inr (12, MF 13 (tw T2))), (T2.a0, .inl (cI, T2.N, .inl T2.kd)), (T2.a1, .inl (cL, T2.N, .inr (.inl T2.nu))), (T2.a2, .inl (cI, T2.N, .inl T2.st)), (T2.a3, .inl (cI, T2.N, .inl T2.ln)), (T2.a4, .inl (cI, T2.N, .inl T2.ki)), (T2.a5, .inl (cI, T2.N, .inl T2.nx)), (T2.a6, .inl (cI, T2.N, .inl T2.ns)), (T2.a7, .inl (cI, T2.N, .inl T2.nl)), (T2.a8, .inl (cI, T2.N, .inl T2.pa)), (T2.a9, .inl (cI, T2.N, .inl T2.pl)), (T2.au, .inl (cC, T2.U, .inl T2.un))]) (w1 := [(mo, .inr (13, MF 30 (va_up (rf v j_T2 b_T2) 7 (.int (nI (skipH f n j_T2)))))), (qx, .inl (cB, NN, .inl f))]) hP hD [0, 1] [2, 3, 4, 5, 6, 7, 8, 9, 10, 11, 12, 13] rfl rfl (by decide) (by decide) hk1 hFc hP1 hD1
                  generalize H1 = H at hP hS ⊢
                  have hP : va_P (dC, dI) classes [(t, .inr (12, MF 13 (tw T2))), (T2.a0, .inl (cI, T2.N, .inl T2.kd)), (T2.a1, .inl (cL, T2.N, .inr (.inl T2.nu))), (T2.a2, .inl (cI, T2.N, .inl T2.st)), (T2.a3, .inl (cI, T2.N, .inl T2.ln)), (T2.a4, .inl (cI, T2.N, .inl T2.ki)), (T2.a5, .inl (cI, T2.N, .inl T2.nx)), (T2.a6, .inl (cI, T2.N, .inl T2.ns)), (T2.a7, .inl (cI, T2.N, .inl T2.nl)), (T2.a8, .inl (cI, T2.N, .inl T2.pa)), (T2.a9, .inl (cI, T2.N, .inl T2.pl)), (T2.au, .inl (cC, T2.U, .inl T2.un)), (mo, .inr (13, MF 30 (va_up (rf v j_T2 b_T2) 7 (.int (nI (skipH f n j_T2)))))), (qx, .inl (cB, NN, .inl f))] H := hP
                  have hD : va_D A [(t, .inr (12, MF 13 (tw T2))), (T2.a0, .inl (cI, T2.N, .inl T2.kd)), (T2.a1, .inl (cL, T2.N, .inr (.inl T2.nu))), (T2.a2, .inl (cI, T2.N, .inl T2.st)), (T2.a3, .inl (cI, T2.N, .inl T2.ln)), (T2.a4, .inl (cI, T2.N, .inl T2.ki)), (T2.a5, .inl (cI, T2.N, .inl T2.nx)), (T2.a6, .inl (cI, T2.N, .inl T2.ns)), (T2.a7, .inl (cI, T2.N, .inl T2.nl)), (T2.a8, .inl (cI, T2.N, .inl T2.pa)), (T2.a9, .inl (cI, T2.N, .inl T2.pl)), (T2.au, .inl (cC, T2.U, .inl T2.un)), (mo, .inr (13, MF 30 (va_up (rf v j_T2 b_T2) 7 (.int (nI (skipH f n j_T2)))))), (qx, .inl (cB, NN, .inl f))] := hD
                  have hP := hP.sub (ws' := [(mo, .inr (13, MF 30 (va_up (rf v j_T2 b_T2) 7 (.int (nI (skipH f n j_T2)))))), (qx, .inl (cB, NN, .inl f)), (t, .inr (12, MF 13 (tw T2))), (T2.a0, .inl (cI, T2.N, .inl T2.kd)), (T2.a1, .inl (cL, T2.N, .inr (.inl T2.nu))), (T2.a2, .inl (cI, T2.N, .inl T2.st)), (T2.a3, .inl (cI, T2.N, .inl T2.ln)), (T2.a4, .inl (cI, T2.N, .inl T2.ki)), (T2.a5, .inl (cI, T2.N, .inl T2.nx)), (T2.a6, .inl (cI, T2.N, .inl T2.ns)), (T2.a7, .inl (cI, T2.N, .inl T2.nl)), (T2.a8, .inl (cI, T2.N, .inl T2.pa)), (T2.a9, .inl (cI, T2.N, .inl T2.pl)), (T2.au, .inl (cC, T2.U, .inl T2.un))]) [12, 13, 0, 1, 2, 3, 4, 5, 6, 7, 8, 9, 10, 11] rfl
                  have hD := hD.sub (ws' := [(mo, .inr (13, MF 30 (va_up (rf v j_T2 b_T2) 7 (.int (nI (skipH f n j_T2)))))), (qx, .inl (cB, NN, .inl f)), (t, .inr (12, MF 13 (tw T2))), (T2.a0, .inl (cI, T2.N, .inl T2.kd)), (T2.a1, .inl (cL, T2.N, .inr (.inl T2.nu))), (T2.a2, .inl (cI, T2.N, .inl T2.st)), (T2.a3, .inl (cI, T2.N, .inl T2.ln)), (T2.a4, .inl (cI, T2.N, .inl T2.ki)), (T2.a5, .inl (cI, T2.N, .inl T2.nx)), (T2.a6, .inl (cI, T2.N, .inl T2.ns)), (T2.a7, .inl (cI, T2.N, .inl T2.nl)), (T2.a8, .inl (cI, T2.N, .inl T2.pa)), (T2.a9, .inl (cI, T2.N, .inl T2.pl)), (T2.au, .inl (cC, T2.U, .inl T2.un))]) [12, 13, 0, 1, 2, 3, 4, 5, 6, 7, 8, 9, 10, 11] (by decide) rfl
                  rw [rf_u7] at hP hD
                  have hP : va_P (dC, dI) classes [(mo, .inr (13, MF 30 (rf v (skipH f n j_T2) b_T2))), (qx, .inl (cB, NN, .inl f)), (t, .inr (12, MF 13 (tw T2))), (T2.a0, .inl (cI, T2.N, .inl T2.kd)), (T2.a1, .inl (cL, T2.N, .inr (.inl T2.nu))), (T2.a2, .inl (cI, T2.N, .inl T2.st)), (T2.a3, .inl (cI, T2.N, .inl T2.ln)), (T2.a4, .inl (cI, T2.N, .inl T2.ki)), (T2.a5, .inl (cI, T2.N, .inl T2.nx)), (T2.a6, .inl (cI, T2.N, .inl T2.ns)), (T2.a7, .inl (cI, T2.N, .inl T2.nl)), (T2.a8, .inl (cI, T2.N, .inl T2.pa)), (T2.a9, .inl (cI, T2.N, .inl T2.pl)), (T2.au, .inl (cC, T2.U, .inl T2.un))] H := hP
                  have hD : va_D A [(mo, .inr (13, MF 30 (rf v (skipH f n j_T2) b_T2))), (qx, .inl (cB, NN, .inl f)), (t, .inr (12, MF 13 (tw T2))), (T2.a0, .inl (cI, T2.N, .inl T2.kd)), (T2.a1, .inl (cL, T2.N, .inr (.inl T2.nu))), (T2.a2, .inl (cI, T2.N, .inl T2.st)), (T2.a3, .inl (cI, T2.N, .inl T2.ln)), (T2.a4, .inl (cI, T2.N, .inl T2.ki)), (T2.a5, .inl (cI, T2.N, .inl T2.nx)), (T2.a6, .inl (cI, T2.N, .inl T2.ns)), (T2.a7, .inl (cI, T2.N, .inl T2.nl)), (T2.a8, .inl (cI, T2.N, .inl T2.pa)), (T2.a9, .inl (cI, T2.N, .inl T2.pl)), (T2.au, .inl (cC, T2.U, .inl T2.un))] := hD
                  have hsk_257 := skipH_n (f := f) (show j_T2 ≤ n by omega)
                  refine lv_iload hx hb d_Mo_value_257 (lv_at hl 0 rfl) ?_
                  refine w_same (fun hq => ?_)
                  refine W.widen (k := ncap T (T.ct + (n + 12 - i)) + qcap T (T.us + (n + 12 - i))) (n := 20 * ncap T (T.ct + (n + 12 - i)) + 2 * qcap T (T.us + (n + 12 - i))) hfit_T2.1 hfit_T2.2 ?_
                  have hTG : TG n i T T2 := ⟨hTk_T2, hGB_T2⟩
                  exact W.iret (v := nI T.ct) hx hb hr (fun t9 ht hW => ⟨⟨nI T.ct, (T2, (skipH f n j_T2), b_T2), rfl, ⟨hTG, Or.inl ⟨(((5, 0, []), ks) : JVt (r + 1)), rfl, hpv, hRV, hTEn, hpan, by show T.ct < T2.ct; omega, by show T2.ct + i ≤ T.ct + (skipH f n j_T2); omega, by show T2.us + i ≤ T.us + (skipH f n j_T2); omega, by show (skipH f n j_T2) ≤ n; omega⟩⟩, ⟨by rw [ht]; exact hP, va_K.moved hW.alike hK, hD⟩, by rw [ht]; exact hq⟩, hS.F ht⟩) hS.2.2 d_Mo_value_259
                · have hi_2 : pInside f n (pV f n r) 91 (skipH f n i) = none := hi_2
                  subst hi_1
                  have hfit_T2 := hGB_T2.fits
                  refine lv_if_ne (tgt := 253) hx hb d_Mo_value_237 (by decide) (fun h => absurd h (by decide)) (fun _ => ?_)
                  refine lv_iconst (v := (-1)) hx hb d_Mo_value_240 (by decide) ?_
                  have hfin : pV f n (r + 1) i = none := by
                    simp only [pV]
                    rw [if_pos (Or.inl hop), hop, hi_2]
                    rfl
                  refine w_same (fun hq => ?_)
                  refine W.widen (k := ncap T (T.ct + (n + 12 - i)) + qcap T (T.us + (n + 12 - i))) (n := 20 * ncap T (T.ct + (n + 12 - i)) + 2 * qcap T (T.us + (n + 12 - i))) hfit_T2.1 hfit_T2.2 ?_
                  have hTG : TG n i T T2 := ⟨hTk_T2, hGB_T2⟩
                  exact W.iret (v := -1) hx hb hr (fun t9 ht hW => ⟨⟨-1, (T2, j_T2, b_T2), rfl, ⟨hTG, Or.inr ⟨rfl, hfin⟩⟩, ⟨by rw [ht]; exact hP, va_K.moved hW.alike hK, hD⟩, by rw [ht]; exact hq⟩, hS.F ht⟩) hS.2.2 d_Mo_value_241
              · refine lv_iload_n hx hb d_Mo_value_175 rfl (lv_at hl 0 rfl) ?_
                refine lv_bipush (v := 123) hx hb d_Mo_value_176 (by decide) ?_
                refine lv_icmp_ne (tgt := 242) hx hb d_Mo_value_178 (by decide) (fun c178 => ?_) (fun c178 => ?_)
                · refine lv_aload_n hx hb d_Mo_value_242 rfl (lv_at hl 1 rfl) ?_
                  refine lv_aload_n hx hb d_Mo_value_243 rfl (lv_at hl 1 rfl) ?_
                  refine va_get (D := (dC, dI)) (ci := 13) (v := .int (nI (skipH f n i))) (C := R_Mo) (T := F_Mo) (N := 30) hx hb hts in_Mo hown hK hP 0 rfl rfl 7 (by decide) (hts _ w_1096) (fun _ h9 => h9) (MFg (by decide) rf_7) d_Mo_value_244 ?_
                  have hPc := hP.sub (ws' := [(mo, .inr (13, MF 30 (rf v (skipH f n i) br)))]) [0] rfl
                  have hDc := hD.sub (ws' := [(mo, .inr (13, MF 30 (rf v (skipH f n i) br)))]) [0] (by decide) rfl
                  have hKc := hK.sub (tys' := []) [] rfl
                  have hFc := va_free (wc := [(mo, .inr (13, MF 30 (rf v (skipH f n i) br)))]) hD hS hA [0] rfl
                  refine va_calli (va_runV (As := [.int (nI (skipH f n i))]) (rest := []) ⟨hx, hb, hml, hown, hts⟩ (c_Mo_fail l dC dI mo H (rf v (skipH f n i) br) br ((nI (skipH f n i))) rf_9) (cwV 1 hts (gt_V (own := R_Mo) (C := R_Mo) (i := 151) (y := y_Mo_fail) i_Mo_fail w_1250 w_1252 (gt_sel (y := y_Mo_fail) (n := 30) (by decide +kernel)) w_7) rfl rfl rfl (by decide +kernel) ⟨Nat.le_trans (m := 8) (Nat.le_of_ble_eq_true rfl) (Nat.le_add_right 8 (2 * (r + 1))), Nat.le_trans (m := 300) (Nat.le_of_ble_eq_true rfl) (Nat.le_add_right 300 (80 * (r + 1)))⟩) ⟨mp_blind, va_recv hKc hPc (ci := 13) (q0 := 0) rfl rfl, fun U hU hW => ⟨rfl, hU, by rw [hU]; exact hPc, va_K.moved hW.alike hKc, hDc.weaken (fun _ _ _ _ => trivial)⟩⟩ rfl rfl hl.1 rfl (lv_room (Nat.le_of_ble_eq_true rfl)) d_Mo_value_247 ⟨hfit_T.1, hfit_T.2⟩) hS (fun q _ h => hFc q h) hFc (fun r0 u2 t9 H1 locs ht hvm hw hB hz1 hk1 hS => ?_)
                  obtain ⟨hP1, hK1, hD1⟩ := hB
                  rw [ht] at hP1
                  obtain ⟨hP, hD⟩ := va_join (wr := [(qx, .inl (cB, NN, .inl f)), (t, .inr (12, MF 13 (tw T))), (T.a0, .inl (cI, T.N, .inl T.kd)), (T.a1, .inl (cL, T.N, .inr (.inl T.nu))), (T.a2, .inl (cI, T.N, .inl T.st)), (T.a3, .inl (cI, T.N, .inl T.ln)), (T.a4, .inl (cI, T.N, .inl T.ki)), (T.a5, .inl (cI, T.N, .inl T.nx)), (T.a6, .inl (cI, T.N, .inl T.ns)), (T.a7, .inl (cI, T.N, .inl T.nl)), (T.a8, .inl (cI, T.N, .inl T.pa)), (T.a9, .inl (cI, T.N, .inl T.pl)), (T.au, .inl (cC, T.U, .inl T.un))]) (w1 := [(mo, .inr (13, MF 30 u2))]) hP hD [0] [1, 2, 3, 4, 5, 6, 7, 8, 9, 10, 11, 12, 13] rfl rfl (by decide) (by decide) hk1 hFc hP1 hD1
                  generalize H1 = H at hP hS ⊢
                  have hP : va_P (dC, dI) classes [(qx, .inl (cB, NN, .inl f)), (t, .inr (12, MF 13 (tw T))), (T.a0, .inl (cI, T.N, .inl T.kd)), (T.a1, .inl (cL, T.N, .inr (.inl T.nu))), (T.a2, .inl (cI, T.N, .inl T.st)), (T.a3, .inl (cI, T.N, .inl T.ln)), (T.a4, .inl (cI, T.N, .inl T.ki)), (T.a5, .inl (cI, T.N, .inl T.nx)), (T.a6, .inl (cI, T.N, .inl T.ns)), (T.a7, .inl (cI, T.N, .inl T.nl)), (T.a8, .inl (cI, T.N, .inl T.pa)), (T.a9, .inl (cI, T.N, .inl T.pl)), (T.au, .inl (cC, T.U, .inl T.un)), (mo, .inr (13, MF 30 u2))] H := hP
                  have hD : va_D A [(qx, .inl (cB, NN, .inl f)), (t, .inr (12, MF 13 (tw T))), (T.a0, .inl (cI, T.N, .inl T.kd)), (T.a1, .inl (cL, T.N, .inr (.inl T.nu))), (T.a2, .inl (cI, T.N, .inl T.st)), (T.a3, .inl (cI, T.N, .inl T.ln)), (T.a4, .inl (cI, T.N, .inl T.ki)), (T.a5, .inl (cI, T.N, .inl T.nx)), (T.a6, .inl (cI, T.N, .inl T.ns)), (T.a7, .inl (cI, T.N, .inl T.nl)), (T.a8, .inl (cI, T.N, .inl T.pa)), (T.a9, .inl (cI, T.N, .inl T.pl)), (T.au, .inl (cC, T.U, .inl T.un)), (mo, .inr (13, MF 30 u2))] := hD
                  have hP := hP.sub (ws' := [(mo, .inr (13, MF 30 u2)), (qx, .inl (cB, NN, .inl f)), (t, .inr (12, MF 13 (tw T))), (T.a0, .inl (cI, T.N, .inl T.kd)), (T.a1, .inl (cL, T.N, .inr (.inl T.nu))), (T.a2, .inl (cI, T.N, .inl T.st)), (T.a3, .inl (cI, T.N, .inl T.ln)), (T.a4, .inl (cI, T.N, .inl T.ki)), (T.a5, .inl (cI, T.N, .inl T.nx)), (T.a6, .inl (cI, T.N, .inl T.ns)), (T.a7, .inl (cI, T.N, .inl T.nl)), (T.a8, .inl (cI, T.N, .inl T.pa)), (T.a9, .inl (cI, T.N, .inl T.pl)), (T.au, .inl (cC, T.U, .inl T.un))]) [13, 0, 1, 2, 3, 4, 5, 6, 7, 8, 9, 10, 11, 12] rfl
                  have hD := hD.sub (ws' := [(mo, .inr (13, MF 30 u2)), (qx, .inl (cB, NN, .inl f)), (t, .inr (12, MF 13 (tw T))), (T.a0, .inl (cI, T.N, .inl T.kd)), (T.a1, .inl (cL, T.N, .inr (.inl T.nu))), (T.a2, .inl (cI, T.N, .inl T.st)), (T.a3, .inl (cI, T.N, .inl T.ln)), (T.a4, .inl (cI, T.N, .inl T.ki)), (T.a5, .inl (cI, T.N, .inl T.nx)), (T.a6, .inl (cI, T.N, .inl T.ns)), (T.a7, .inl (cI, T.N, .inl T.nl)), (T.a8, .inl (cI, T.N, .inl T.pa)), (T.a9, .inl (cI, T.N, .inl T.pl)), (T.au, .inl (cC, T.U, .inl T.un))]) [13, 0, 1, 2, 3, 4, 5, 6, 7, 8, 9, 10, 11, 12] (by decide) rfl
                  obtain ⟨b7, h_b7⟩ := rf_fail (v := v) (i := (skipH f n i)) (br := br) (b2 := br) (wh := (nI (skipH f n i)))
                  have hw : r0 = 0 ∧ u2 = _ := hw
                  obtain ⟨hw1, hw2⟩ := hw
                  rw [h_b7] at hw2
                  rw [hw2] at hP hD
                  subst hw1
                  have hP : va_P (dC, dI) classes [(mo, .inr (13, MF 30 (rf v (skipH f n i) b7))), (qx, .inl (cB, NN, .inl f)), (t, .inr (12, MF 13 (tw T))), (T.a0, .inl (cI, T.N, .inl T.kd)), (T.a1, .inl (cL, T.N, .inr (.inl T.nu))), (T.a2, .inl (cI, T.N, .inl T.st)), (T.a3, .inl (cI, T.N, .inl T.ln)), (T.a4, .inl (cI, T.N, .inl T.ki)), (T.a5, .inl (cI, T.N, .inl T.nx)), (T.a6, .inl (cI, T.N, .inl T.ns)), (T.a7, .inl (cI, T.N, .inl T.nl)), (T.a8, .inl (cI, T.N, .inl T.pa)), (T.a9, .inl (cI, T.N, .inl T.pl)), (T.au, .inl (cC, T.U, .inl T.un))] H := hP
                  have hD : va_D A [(mo, .inr (13, MF 30 (rf v (skipH f n i) b7))), (qx, .inl (cB, NN, .inl f)), (t, .inr (12, MF 13 (tw T))), (T.a0, .inl (cI, T.N, .inl T.kd)), (T.a1, .inl (cL, T.N, .inr (.inl T.nu))), (T.a2, .inl (cI, T.N, .inl T.st)), (T.a3, .inl (cI, T.N, .inl T.ln)), (T.a4, .inl (cI, T.N, .inl T.ki)), (T.a5, .inl (cI, T.N, .inl T.nx)), (T.a6, .inl (cI, T.N, .inl T.ns)), (T.a7, .inl (cI, T.N, .inl T.nl)), (T.a8, .inl (cI, T.N, .inl T.pa)), (T.a9, .inl (cI, T.N, .inl T.pl)), (T.au, .inl (cC, T.U, .inl T.un))] := hD
                  refine lv_pop hx hb d_Mo_value_250 rfl ?_
                  refine lv_iconst (v := (-1)) hx hb d_Mo_value_251 (by decide) ?_
                  have hpl : pLeaf f n (skipH f n i) = none := by unfold pLeaf; rw [if_neg (fun h => c12 (h_r1.trans h)), if_neg (fun h => c18 (h_r1.trans h)), if_neg (fun h => c24 (h_r1.trans h)), if_neg (fun h => c93 (h_r1.trans h)), if_neg (fun h => by rw [← h_r1] at h; exact h.elim c140 (h_d1.2 c147))]
                  have hfin : pV f n (r + 1) i = none := by rw [pV_leaf _ (fun h => by rw [← h_r1] at h; exact h.elim c172 c178), hpl]; rfl
                  refine w_same (fun hq => ?_)
                  refine W.widen (k := ncap T (T.ct + (n + 12 - i)) + qcap T (T.us + (n + 12 - i))) (n := 20 * ncap T (T.ct + (n + 12 - i)) + 2 * qcap T (T.us + (n + 12 - i))) hfit_T.1 hfit_T.2 ?_
                  have hTG : TG n i T T := ⟨hTk_T, hGB_T⟩
                  exact W.iret (v := -1) hx hb hr (fun t9 ht hW => ⟨⟨-1, (T, (skipH f n i), b7), rfl, ⟨hTG, Or.inr ⟨rfl, hfin⟩⟩, ⟨by rw [ht]; exact hP, va_K.moved hW.alike hK, hD⟩, by rw [ht]; exact hq⟩, hS.F ht⟩) hS.2.2 d_Mo_value_252
                · refine lv_iload_n hx hb d_Mo_value_181 rfl (lv_at hl 3 rfl) ?_
                  refine lv_bipush (v := 32) hx hb d_Mo_value_182 (by decide) ?_
                  refine lv_icmp_ne (tgt := 198) hx hb d_Mo_value_184 (by decide) (fun _ => ?_) (fun h => absurd h (fun h => by rw [show (32 : Int32) = nI 32 from rfl, nI_eq (by omega) (by omega)] at h; omega))
                  refine lv_aload_n hx hb d_Mo_value_198 rfl (lv_at hl 2 rfl) ?_
                  refine lv_iload_n hx hb d_Mo_value_199 rfl (lv_at hl 0 rfl) ?_
                  refine lv_bipush (v := 91) hx hb d_Mo_value_200 (by decide) ?_
                  refine lv_icmp_ne (tgt := 209) hx hb d_Mo_value_202 (by decide) (fun _ => ?_) (fun h => absurd h c172)
                  refine lv_bipush (v := 6) hx hb d_Mo_value_209 (by decide) ?_
                  have hPc := hP.sub (ws' := [(t, .inr (12, MF 13 (tw T))), (T.a0, .inl (cI, T.N, .inl T.kd)), (T.a1, .inl (cL, T.N, .inr (.inl T.nu))), (T.a2, .inl (cI, T.N, .inl T.st)), (T.a3, .inl (cI, T.N, .inl T.ln)), (T.a4, .inl (cI, T.N, .inl T.ki)), (T.a5, .inl (cI, T.N, .inl T.nx)), (T.a6, .inl (cI, T.N, .inl T.ns)), (T.a7, .inl (cI, T.N, .inl T.nl)), (T.a8, .inl (cI, T.N, .inl T.pa)), (T.a9, .inl (cI, T.N, .inl T.pl)), (T.au, .inl (cC, T.U, .inl T.un))]) [2, 3, 4, 5, 6, 7, 8, 9, 10, 11, 12, 13] rfl
                  have hDc := hD.sub (ws' := [(t, .inr (12, MF 13 (tw T))), (T.a0, .inl (cI, T.N, .inl T.kd)), (T.a1, .inl (cL, T.N, .inr (.inl T.nu))), (T.a2, .inl (cI, T.N, .inl T.st)), (T.a3, .inl (cI, T.N, .inl T.ln)), (T.a4, .inl (cI, T.N, .inl T.ki)), (T.a5, .inl (cI, T.N, .inl T.nx)), (T.a6, .inl (cI, T.N, .inl T.ns)), (T.a7, .inl (cI, T.N, .inl T.nl)), (T.a8, .inl (cI, T.N, .inl T.pa)), (T.a9, .inl (cI, T.N, .inl T.pl)), (T.au, .inl (cC, T.U, .inl T.un))]) [2, 3, 4, 5, 6, 7, 8, 9, 10, 11, 12, 13] (by decide) rfl
                  have hKc := hK.sub (tys' := [(cI, .int), (cL, .long), (cC, .char)]) [1, 2, 3] rfl
                  have hFc := va_free (wc := [(t, .inr (12, MF 13 (tw T))), (T.a0, .inl (cI, T.N, .inl T.kd)), (T.a1, .inl (cL, T.N, .inr (.inl T.nu))), (T.a2, .inl (cI, T.N, .inl T.st)), (T.a3, .inl (cI, T.N, .inl T.ln)), (T.a4, .inl (cI, T.N, .inl T.ki)), (T.a5, .inl (cI, T.N, .inl T.nx)), (T.a6, .inl (cI, T.N, .inl T.ns)), (T.a7, .inl (cI, T.N, .inl T.nl)), (T.a8, .inl (cI, T.N, .inl T.pa)), (T.a9, .inl (cI, T.N, .inl T.pl)), (T.au, .inl (cC, T.U, .inl T.un))]) hD hS hA [2, 3, 4, 5, 6, 7, 8, 9, 10, 11, 12, 13] rfl
                  refine w_same (fun hq0 => ?_)
                  refine va_calli (va_runV (As := [.int 6]) (rest := []) ⟨hx, hb, hml, hown, hts⟩ (c_Tree_add l dC dI t H cI cL cC T 6 hTk_T) (cwV 1 hts (gt_V (own := R_Mo) (C := R_Tree) (i := 197) (y := y_Tree_add) i_Tree_add w_1254 w_1255 w_1256 w_8) rfl rfl rfl (by decide +kernel) ⟨Nat.le_trans (m := 8) (Nat.le_of_ble_eq_true rfl) (Nat.le_add_right 8 (2 * (r + 1))), Nat.le_trans (m := 300) (Nat.le_of_ble_eq_true rfl) (Nat.le_add_right 300 (80 * (r + 1)))⟩) ⟨mp_blind, va_recv hKc hPc (ci := 12) (q0 := 0) rfl rfl, fun U hU hW => ⟨rfl, hU, by rw [hU]; exact hPc, va_K.moved hW.alike hKc, hDc.weaken (fun _ _ _ _ => trivial)⟩⟩ rfl rfl hl.1 rfl (lv_room (Nat.le_of_ble_eq_true rfl)) d_Mo_value_211 ⟨(TAd.fit hGB_T hTk_T (by omega)).1, (TAd.fit hGB_T hTk_T (by omega)).2⟩) hS (fun q _ h => hFc q h) hFc (fun r0 T1 t9 H1 locs ht hvm hw hB hz1 hk1 hS => ?_)
                  obtain ⟨⟨hP1, hK1, hD1⟩, hz9⟩ := hB
                  rw [ht] at hP1
                  rw [ht] at hz9
                  obtain ⟨hr0, hA_T1⟩ := hw
                  have hA_T1 : TAd T T1 6 := hA_T1
                  have hAg := hA_T1.gb hTk_T (by omega)
                  obtain ⟨hGB_T1, hGc_T1, hGs_T1⟩ := hGB_T.tr hAg.1 (show T.ct + 1 ≤ (T.ct + (n + 12 - i)) by omega) (Nat.zero_le _)
                  have hGc_T1 := Nat.le_trans (Nat.add_le_add_left hAg.2.1 _) hGc_T1
                  have hGs_T1 := Nat.le_trans (Nat.add_le_add_left hAg.2.2 _) hGs_T1
                  have hq1 : szk s.heap H1 (cE T T1) (sE T T1) := (hq0.trans hz9).mono hGc_T1 hGs_T1
                  refine w_tight hq1 ?_
                  obtain ⟨hP, hD⟩ := va_join (wr := [(mo, .inr (13, MF 30 (rf v (skipH f n i) br))), (qx, .inl (cB, NN, .inl f))]) (w1 := [(t, .inr (12, MF 13 (tw T1))), (T1.a0, .inl (cI, T1.N, .inl T1.kd)), (T1.a1, .inl (cL, T1.N, .inr (.inl T1.nu))), (T1.a2, .inl (cI, T1.N, .inl T1.st)), (T1.a3, .inl (cI, T1.N, .inl T1.ln)), (T1.a4, .inl (cI, T1.N, .inl T1.ki)), (T1.a5, .inl (cI, T1.N, .inl T1.nx)), (T1.a6, .inl (cI, T1.N, .inl T1.ns)), (T1.a7, .inl (cI, T1.N, .inl T1.nl)), (T1.a8, .inl (cI, T1.N, .inl T1.pa)), (T1.a9, .inl (cI, T1.N, .inl T1.pl)), (T1.au, .inl (cC, T1.U, .inl T1.un))]) hP hD [2, 3, 4, 5, 6, 7, 8, 9, 10, 11, 12, 13] [0, 1] rfl rfl (by decide) (by decide) hk1 hFc hP1 hD1
                  generalize H1 = H at hP hS ⊢
                  have hP : va_P (dC, dI) classes [(mo, .inr (13, MF 30 (rf v (skipH f n i) br))), (qx, .inl (cB, NN, .inl f)), (t, .inr (12, MF 13 (tw T1))), (T1.a0, .inl (cI, T1.N, .inl T1.kd)), (T1.a1, .inl (cL, T1.N, .inr (.inl T1.nu))), (T1.a2, .inl (cI, T1.N, .inl T1.st)), (T1.a3, .inl (cI, T1.N, .inl T1.ln)), (T1.a4, .inl (cI, T1.N, .inl T1.ki)), (T1.a5, .inl (cI, T1.N, .inl T1.nx)), (T1.a6, .inl (cI, T1.N, .inl T1.ns)), (T1.a7, .inl (cI, T1.N, .inl T1.nl)), (T1.a8, .inl (cI, T1.N, .inl T1.pa)), (T1.a9, .inl (cI, T1.N, .inl T1.pl)), (T1.au, .inl (cC, T1.U, .inl T1.un))] H := hP
                  have hD : va_D A [(mo, .inr (13, MF 30 (rf v (skipH f n i) br))), (qx, .inl (cB, NN, .inl f)), (t, .inr (12, MF 13 (tw T1))), (T1.a0, .inl (cI, T1.N, .inl T1.kd)), (T1.a1, .inl (cL, T1.N, .inr (.inl T1.nu))), (T1.a2, .inl (cI, T1.N, .inl T1.st)), (T1.a3, .inl (cI, T1.N, .inl T1.ln)), (T1.a4, .inl (cI, T1.N, .inl T1.ki)), (T1.a5, .inl (cI, T1.N, .inl T1.nx)), (T1.a6, .inl (cI, T1.N, .inl T1.ns)), (T1.a7, .inl (cI, T1.N, .inl T1.nl)), (T1.a8, .inl (cI, T1.N, .inl T1.pa)), (T1.a9, .inl (cI, T1.N, .inl T1.pl)), (T1.au, .inl (cC, T1.U, .inl T1.un))] := hD
                  have hTk_T1 := (hA_T1.ok hTk_T (by omega)).1
                  have hAc_T1 : T1.ct = T.ct + 1 ∧ T1.us = T.us := ⟨(hA_T1.ok hTk_T (by omega)).2.2.2.2.2.1, (hA_T1.ok hTk_T (by omega)).2.2.2.2.1⟩
                  have hr0 : r0 = nI T.ct := hr0
                  subst hr0
                  have hfit_T1 := hGB_T1.fits
                  refine lv_istore (lv' := [(4, .int (nI T.ct)), (3, .int r1), (0, .ref mo), (1, .ref t), (2, .int (nI (31 - r)))]) hx hb d_Mo_value_214 hl (by decide) rfl (fun ls hl => ?_)
                  refine lv_aload_n hx hb d_Mo_value_216 rfl (lv_at hl 2 rfl) ?_
                  refine lv_aload_n hx hb d_Mo_value_217 rfl (lv_at hl 3 rfl) ?_
                  refine lv_iload hx hb d_Mo_value_218 (lv_at hl 0 rfl) ?_
                  refine lv_iload_n hx hb d_Mo_value_220 rfl (lv_at hl 4 rfl) ?_
                  refine lv_iload_n hx hb d_Mo_value_221 rfl (lv_at hl 1 rfl) ?_
                  refine lv_bipush (v := 91) hx hb d_Mo_value_222 (by decide) ?_
                  refine lv_icmp_ne (tgt := 232) hx hb d_Mo_value_224 (by decide) (fun _ => ?_) (fun h => absurd h c172)
                  refine lv_bipush (v := 125) hx hb d_Mo_value_232 (by decide) ?_
                  have hop : hereV f n (skipH f n i) = 123 := h_r1.symm.trans c178
                  have hlto := here_in hop (by decide)
                  refine W.eq (g2 := F0 m 234 ls [.int (clo 123), .int (nI (31 - r)), .int (nI T.ct), .ref t, .ref mo]) (by rw [show 125 = (clo 123) from (by decide)]) ?_
                  have hPc := hP.sub (ws' := [(mo, .inr (13, MF 30 (rf v (skipH f n i) br))), (qx, .inl (cB, NN, .inl f)), (t, .inr (12, MF 13 (tw T1))), (T1.a0, .inl (cI, T1.N, .inl T1.kd)), (T1.a1, .inl (cL, T1.N, .inr (.inl T1.nu))), (T1.a2, .inl (cI, T1.N, .inl T1.st)), (T1.a3, .inl (cI, T1.N, .inl T1.ln)), (T1.a4, .inl (cI, T1.N, .inl T1.ki)), (T1.a5, .inl (cI, T1.N, .inl T1.nx)), (T1.a6, .inl (cI, T1.N, .inl T1.ns)), (T1.a7, .inl (cI, T1.N, .inl T1.nl)), (T1.a8, .inl (cI, T1.N, .inl T1.pa)), (T1.a9, .inl (cI, T1.N, .inl T1.pl)), (T1.au, .inl (cC, T1.U, .inl T1.un))]) [0, 1, 2, 3, 4, 5, 6, 7, 8, 9, 10, 11, 12, 13] rfl
                  have hDc := hD.sub (ws' := [(mo, .inr (13, MF 30 (rf v (skipH f n i) br))), (qx, .inl (cB, NN, .inl f)), (t, .inr (12, MF 13 (tw T1))), (T1.a0, .inl (cI, T1.N, .inl T1.kd)), (T1.a1, .inl (cL, T1.N, .inr (.inl T1.nu))), (T1.a2, .inl (cI, T1.N, .inl T1.st)), (T1.a3, .inl (cI, T1.N, .inl T1.ln)), (T1.a4, .inl (cI, T1.N, .inl T1.ki)), (T1.a5, .inl (cI, T1.N, .inl T1.nx)), (T1.a6, .inl (cI, T1.N, .inl T1.ns)), (T1.a7, .inl (cI, T1.N, .inl T1.nl)), (T1.a8, .inl (cI, T1.N, .inl T1.pa)), (T1.a9, .inl (cI, T1.N, .inl T1.pl)), (T1.au, .inl (cC, T1.U, .inl T1.un))]) [0, 1, 2, 3, 4, 5, 6, 7, 8, 9, 10, 11, 12, 13] (by decide) rfl
                  have hKc := hK.sub (tys' := [(cB, .byte), (cI, .int), (cL, .long), (cC, .char)]) [0, 1, 2, 3] rfl
                  have hFc := va_free (wc := [(mo, .inr (13, MF 30 (rf v (skipH f n i) br))), (qx, .inl (cB, NN, .inl f)), (t, .inr (12, MF 13 (tw T1))), (T1.a0, .inl (cI, T1.N, .inl T1.kd)), (T1.a1, .inl (cL, T1.N, .inr (.inl T1.nu))), (T1.a2, .inl (cI, T1.N, .inl T1.st)), (T1.a3, .inl (cI, T1.N, .inl T1.ln)), (T1.a4, .inl (cI, T1.N, .inl T1.ki)), (T1.a5, .inl (cI, T1.N, .inl T1.nx)), (T1.a6, .inl (cI, T1.N, .inl T1.ns)), (T1.a7, .inl (cI, T1.N, .inl T1.nl)), (T1.a8, .inl (cI, T1.N, .inl T1.pa)), (T1.a9, .inl (cI, T1.N, .inl T1.pl)), (T1.au, .inl (cC, T1.U, .inl T1.un))]) hD hS hA [0, 1, 2, 3, 4, 5, 6, 7, 8, 9, 10, 11, 12, 13] rfl
                  refine w_same (fun hq0 => ?_)
                  refine va_calli (va_runV (As := [.ref t, .int (nI T.ct), .int (nI (31 - r)), .int (clo 123)]) (rest := []) ⟨hx, hb, hml, hown, hts⟩ (hIO l dC dI mo H v cB cI cL cC qx NN f n K t T1 (skipH f n i) br T.ct hnN hNN (by omega) h6 h8 hTk_T1 (by omega) (by omega) (by omega) hA_T1.2.2.2.2.2.2.2.2.1) (cwV 4 hts (gt_V (own := R_Mo) (C := R_Mo) (i := 211) (y := y_Mo_inside) i_Mo_inside w_1346 w_1348 (gt_sel (y := y_Mo_inside) (n := 30) (by decide +kernel)) w_7) rfl rfl rfl (by decide +kernel) ⟨by show 9 + 2 * r + 1 ≤ 8 + 2 * (r + 1); omega, by show 8 + (9 + 11) + (330 + 80 * r) ≤ 300 + 80 * (r + 1); omega⟩) ⟨me_blind, va_recv hKc hPc (ci := 13) (q0 := 0) rfl rfl, fun U hU hW => ⟨rfl, ⟨hU, by rw [hU]; exact hPc, va_K.moved hW.alike hKc, hDc.weaken (fun _ _ _ _ => trivial)⟩, by rw [hU]; exact ME.call hM hS.2.1 hFc hW⟩⟩ rfl rfl hl.1 rfl (lv_room (Nat.le_of_ble_eq_true rfl)) d_Mo_value_234 ⟨(hGB_T1.step (B2 := T1.ct + (n + 12 - ((skipH f n i) + 1))) (C2 := T1.us + (n + 12 - ((skipH f n i) + 1))) (by omega) (by omega)).1, (hGB_T1.step (B2 := T1.ct + (n + 12 - ((skipH f n i) + 1))) (C2 := T1.us + (n + 12 - ((skipH f n i) + 1))) (by omega) (by omega)).2⟩) hS (fun q _ h => hFc q h) hFc (fun r0 ⟨T2, j_T2, b_T2⟩ t9 H1 locs ht hvm hw hB hz1 hk1 hS => ?_)
                  obtain ⟨⟨hP1, hK1, hD1⟩, hz9⟩ := hB
                  rw [ht] at hP1
                  rw [ht] at hz9
                  obtain ⟨⟨hTk_T2, hGn_T2⟩, hw⟩ := hw
                  have hTk_T2 : TOK T2 := hTk_T2
                  obtain ⟨hGB_T2, hGc_T2, hGs_T2⟩ := hGB_T1.tr hGn_T2 (by omega) (by omega)
                  have hz9 : szk H H1 (cE T1 T2) (sE T1 T2) := hz9
                  have hq1 : szk s.heap H1 (cE T T2) (sE T T2) := (hq0.trans hz9).mono hGc_T2 hGs_T2
                  refine w_tight hq1 ?_
                  obtain ⟨hP, hD⟩ := va_join (wr := []) (w1 := [(mo, .inr (13, MF 30 (rf v j_T2 b_T2))), (qx, .inl (cB, NN, .inl f)), (t, .inr (12, MF 13 (tw T2))), (T2.a0, .inl (cI, T2.N, .inl T2.kd)), (T2.a1, .inl (cL, T2.N, .inr (.inl T2.nu))), (T2.a2, .inl (cI, T2.N, .inl T2.st)), (T2.a3, .inl (cI, T2.N, .inl T2.ln)), (T2.a4, .inl (cI, T2.N, .inl T2.ki)), (T2.a5, .inl (cI, T2.N, .inl T2.nx)), (T2.a6, .inl (cI, T2.N, .inl T2.ns)), (T2.a7, .inl (cI, T2.N, .inl T2.nl)), (T2.a8, .inl (cI, T2.N, .inl T2.pa)), (T2.a9, .inl (cI, T2.N, .inl T2.pl)), (T2.au, .inl (cC, T2.U, .inl T2.un))]) hP hD [0, 1, 2, 3, 4, 5, 6, 7, 8, 9, 10, 11, 12, 13] [] rfl rfl (by decide) (by decide) hk1 hFc hP1 hD1
                  generalize H1 = H at hP hS ⊢
                  have hP : va_P (dC, dI) classes [(mo, .inr (13, MF 30 (rf v j_T2 b_T2))), (qx, .inl (cB, NN, .inl f)), (t, .inr (12, MF 13 (tw T2))), (T2.a0, .inl (cI, T2.N, .inl T2.kd)), (T2.a1, .inl (cL, T2.N, .inr (.inl T2.nu))), (T2.a2, .inl (cI, T2.N, .inl T2.st)), (T2.a3, .inl (cI, T2.N, .inl T2.ln)), (T2.a4, .inl (cI, T2.N, .inl T2.ki)), (T2.a5, .inl (cI, T2.N, .inl T2.nx)), (T2.a6, .inl (cI, T2.N, .inl T2.ns)), (T2.a7, .inl (cI, T2.N, .inl T2.nl)), (T2.a8, .inl (cI, T2.N, .inl T2.pa)), (T2.a9, .inl (cI, T2.N, .inl T2.pl)), (T2.au, .inl (cC, T2.U, .inl T2.un))] H := hP
                  have hD : va_D A [(mo, .inr (13, MF 30 (rf v j_T2 b_T2))), (qx, .inl (cB, NN, .inl f)), (t, .inr (12, MF 13 (tw T2))), (T2.a0, .inl (cI, T2.N, .inl T2.kd)), (T2.a1, .inl (cL, T2.N, .inr (.inl T2.nu))), (T2.a2, .inl (cI, T2.N, .inl T2.st)), (T2.a3, .inl (cI, T2.N, .inl T2.ln)), (T2.a4, .inl (cI, T2.N, .inl T2.ki)), (T2.a5, .inl (cI, T2.N, .inl T2.nx)), (T2.a6, .inl (cI, T2.N, .inl T2.ns)), (T2.a7, .inl (cI, T2.N, .inl T2.nl)), (T2.a8, .inl (cI, T2.N, .inl T2.pa)), (T2.a9, .inl (cI, T2.N, .inl T2.pl)), (T2.au, .inl (cC, T2.U, .inl T2.un))] := hD
                  rcases hw with ⟨hi_1, ks, hi_2, hi_3, hi_4, hi_5, hi_6, hi_7⟩ | ⟨hi_1, hi_2⟩
                  · have hi_2 : pInside f n (pV f n r) 123 (skipH f n i) = some (ks, j_T2) := hi_2
                    have hi_4 : TB T1 T2 T.ct := hi_4
                    have hi_5 : T2.ct + ((skipH f n i) + 1) ≤ T1.ct + j_T2 := hi_5
                    have hi_6 : T2.us + ((skipH f n i) + 1) ≤ T1.us + j_T2 := hi_6
                    have hi_7 : j_T2 ≤ n := hi_7
                    have hi_8 := hi_4.1
                    subst hi_1
                    have hfit_T2 := hGB_T2.fits
                    have hTEn : TE T T2 := TB.toTE hA_T1.te hi_4
                    have hpan : T2.pa T.ct = -1 := by rw [hi_4.2.2.2.2.2.2.2.2.2.2]; exact hA_T1.2.2.2.2.2.2.2.2.2.2.1
                    have hRV : RepV T2 (r + 1) T.ct T2.ct (((6, 0, []), ks) : JVt (r + 1)) := by
                      refine ⟨by omega, Nat.le_refl _, ⟨by rw [hi_4.2.2.2.1]; exact hA_T1.2.2.2.2.2.2.2.1, by show 6 ≤ 6; omega, fun h => absurd h (by show ¬ 6 = 3; omega), fun h => absurd h (by show ¬ 6 = 4; omega), fun _ => by rw [hi_4.2.2.2.2.2.2.1]; exact hA_T1.2.2.2.2.2.2.2.2.2.2.2.2.1⟩, fun h => absurd h (by show ¬ 6 < 5; omega), ?_⟩
                      have hi_3 := RepK_ob (ob2 := ((6 : Nat) = 6)) (by decide) hi_3
                      rw [← hAc_T1.1]
                      exact hi_3
                    have hpv : pV f n (r + 1) i = some ((((6, 0, []), ks) : JVt (r + 1)), skipH f n j_T2) := by
                      simp only [pV]
                      rw [if_pos (Or.inr hop), hop, hi_2]
                      rfl
                    refine lv_if_ne (tgt := 253) hx hb d_Mo_value_237 (by decide) (fun _ => ?_) (fun h => absurd h (by decide))
                    refine lv_aload_n hx hb d_Mo_value_253 rfl (lv_at hl 2 rfl) ?_
                    have hPc := hP.sub (ws' := [(mo, .inr (13, MF 30 (rf v j_T2 b_T2))), (qx, .inl (cB, NN, .inl f))]) [0, 1] rfl
                    have hDc := hD.sub (ws' := [(mo, .inr (13, MF 30 (rf v j_T2 b_T2))), (qx, .inl (cB, NN, .inl f))]) [0, 1] (by decide) rfl
                    have hKc := hK.sub (tys' := [(cB, .byte)]) [0] rfl
                    have hFc := va_free (wc := [(mo, .inr (13, MF 30 (rf v j_T2 b_T2))), (qx, .inl (cB, NN, .inl f))]) hD hS hA [0, 1] rfl
                    refine va_callv (va_runV (As := []) (rest := []) ⟨hx, hb, hml, hown, hts⟩ (c_Mo_blanks l dC dI mo H (rf v j_T2 b_T2) cB qx NN f n j_T2 (by omega) (by omega) (by omega) ((rf_ne (by decide) (by decide)).trans h6) rf_7 ((rf_ne (by decide) (by decide)).trans h8)) (cwV 0 hts (gt_V (own := R_Mo) (C := R_Mo) (i := 184) (y := y_Mo_blanks) i_Mo_blanks w_1229 w_1231 (gt_sel (y := y_Mo_blanks) (n := 30) (by decide +kernel)) w_7) rfl rfl rfl (by decide +kernel) ⟨Nat.le_trans (m := 8) (Nat.le_of_ble_eq_true rfl) (Nat.le_add_right 8 (2 * (r + 1))), Nat.le_trans (m := 300) (Nat.le_of_ble_eq_true rfl) (Nat.le_add_right 300 (80 * (r + 1)))⟩) ⟨mp_blind, va_recv hKc hPc (ci := 13) (q0 := 0) rfl rfl, fun U hU hW => ⟨rfl, hU, by rw [hU]; exact hPc, va_K.moved hW.alike hKc, hDc.weaken (fun _ _ _ _ => trivial)⟩⟩ rfl rfl hl.1 rfl (lv_room (Nat.le_of_ble_eq_true rfl)) d_Mo_value_254 ⟨hfit_T2.1, hfit_T2.2⟩) hS (fun q _ h => hFc q h) hFc (fun _u t9 H1 locs ht hvm hw hB hz1 hk1 hS => ?_)
                    obtain ⟨hP1, hK1, hD1⟩ := hB
                    rw [ht] at hP1
                    obtain ⟨hP, hD⟩ := va_join (wr := [(t, .inr (12, MF 13 (tw T2))), (T2.a0, .inl (cI, T2.N, .inl T2.kd)), (T2.a1, .inl (cL, T2.N, .inr (.inl T2.nu))), (T2.a2, .inl (cI, T2.N, .inl T2.st)), (T2.a3, .inl (cI, T2.N, .inl T2.ln)), (T2.a4, .inl (cI, T2.N, .inl T2.ki)), (T2.a5, .inl (cI, T2.N, .inl T2.nx)), (T2.a6, .inl (cI, T2.N, .inl T2.ns)), (T2.a7, .inl (cI, T2.N, .inl T2.nl)), (T2.a8, .inl (cI, T2.N, .inl T2.pa)), (T2.a9, .inl (cI, T2.N, .inl T2.pl)), (T2.au, .inl (cC, T2.U, .inl T2.un))]) (w1 := [(mo, .inr (13, MF 30 (va_up (rf v j_T2 b_T2) 7 (.int (nI (skipH f n j_T2)))))), (qx, .inl (cB, NN, .inl f))]) hP hD [0, 1] [2, 3, 4, 5, 6, 7, 8, 9, 10, 11, 12, 13] rfl rfl (by decide) (by decide) hk1 hFc hP1 hD1
                    generalize H1 = H at hP hS ⊢
                    have hP : va_P (dC, dI) classes [(t, .inr (12, MF 13 (tw T2))), (T2.a0, .inl (cI, T2.N, .inl T2.kd)), (T2.a1, .inl (cL, T2.N, .inr (.inl T2.nu))), (T2.a2, .inl (cI, T2.N, .inl T2.st)), (T2.a3, .inl (cI, T2.N, .inl T2.ln)), (T2.a4, .inl (cI, T2.N, .inl T2.ki)), (T2.a5, .inl (cI, T2.N, .inl T2.nx)), (T2.a6, .inl (cI, T2.N, .inl T2.ns)), (T2.a7, .inl (cI, T2.N, .inl T2.nl)), (T2.a8, .inl (cI, T2.N, .inl T2.pa)), (T2.a9, .inl (cI, T2.N, .inl T2.pl)), (T2.au, .inl (cC, T2.U, .inl T2.un)), (mo, .inr (13, MF 30 (va_up (rf v j_T2 b_T2) 7 (.int (nI (skipH f n j_T2)))))), (qx, .inl (cB, NN, .inl f))] H := hP
                    have hD : va_D A [(t, .inr (12, MF 13 (tw T2))), (T2.a0, .inl (cI, T2.N, .inl T2.kd)), (T2.a1, .inl (cL, T2.N, .inr (.inl T2.nu))), (T2.a2, .inl (cI, T2.N, .inl T2.st)), (T2.a3, .inl (cI, T2.N, .inl T2.ln)), (T2.a4, .inl (cI, T2.N, .inl T2.ki)), (T2.a5, .inl (cI, T2.N, .inl T2.nx)), (T2.a6, .inl (cI, T2.N, .inl T2.ns)), (T2.a7, .inl (cI, T2.N, .inl T2.nl)), (T2.a8, .inl (cI, T2.N, .inl T2.pa)), (T2.a9, .inl (cI, T2.N, .inl T2.pl)), (T2.au, .inl (cC, T2.U, .inl T2.un)), (mo, .inr (13, MF 30 (va_up (rf v j_T2 b_T2) 7 (.int (nI (skipH f n j_T2)))))), (qx, .inl (cB, NN, .inl f))] := hD
                    have hP := hP.sub (ws' := [(mo, .inr (13, MF 30 (va_up (rf v j_T2 b_T2) 7 (.int (nI (skipH f n j_T2)))))), (qx, .inl (cB, NN, .inl f)), (t, .inr (12, MF 13 (tw T2))), (T2.a0, .inl (cI, T2.N, .inl T2.kd)), (T2.a1, .inl (cL, T2.N, .inr (.inl T2.nu))), (T2.a2, .inl (cI, T2.N, .inl T2.st)), (T2.a3, .inl (cI, T2.N, .inl T2.ln)), (T2.a4, .inl (cI, T2.N, .inl T2.ki)), (T2.a5, .inl (cI, T2.N, .inl T2.nx)), (T2.a6, .inl (cI, T2.N, .inl T2.ns)), (T2.a7, .inl (cI, T2.N, .inl T2.nl)), (T2.a8, .inl (cI, T2.N, .inl T2.pa)), (T2.a9, .inl (cI, T2.N, .inl T2.pl)), (T2.au, .inl (cC, T2.U, .inl T2.un))]) [12, 13, 0, 1, 2, 3, 4, 5, 6, 7, 8, 9, 10, 11] rfl
                    have hD := hD.sub (ws' := [(mo, .inr (13, MF 30 (va_up (rf v j_T2 b_T2) 7 (.int (nI (skipH f n j_T2)))))), (qx, .inl (cB, NN, .inl f)), (t, .inr (12, MF 13 (tw T2))), (T2.a0, .inl (cI, T2.N, .inl T2.kd)), (T2.a1, .inl (cL, T2.N, .inr (.inl T2.nu))), (T2.a2, .inl (cI, T2.N, .inl T2.st)), (T2.a3, .inl (cI, T2.N, .inl T2.ln)), (T2.a4, .inl (cI, T2.N, .inl T2.ki)), (T2.a5, .inl (cI, T2.N, .inl T2.nx)), (T2.a6, .inl (cI, T2.N, .inl T2.ns)), (T2.a7, .inl (cI, T2.N, .inl T2.nl)), (T2.a8, .inl (cI, T2.N, .inl T2.pa)), (T2.a9, .inl (cI, T2.N, .inl T2.pl)), (T2.au, .inl (cC, T2.U, .inl T2.un))]) [12, 13, 0, 1, 2, 3, 4, 5, 6, 7, 8, 9, 10, 11] (by decide) rfl
                    rw [rf_u7] at hP hD
                    have hP : va_P (dC, dI) classes [(mo, .inr (13, MF 30 (rf v (skipH f n j_T2) b_T2))), (qx, .inl (cB, NN, .inl f)), (t, .inr (12, MF 13 (tw T2))), (T2.a0, .inl (cI, T2.N, .inl T2.kd)), (T2.a1, .inl (cL, T2.N, .inr (.inl T2.nu))), (T2.a2, .inl (cI, T2.N, .inl T2.st)), (T2.a3, .inl (cI, T2.N, .inl T2.ln)), (T2.a4, .inl (cI, T2.N, .inl T2.ki)), (T2.a5, .inl (cI, T2.N, .inl T2.nx)), (T2.a6, .inl (cI, T2.N, .inl T2.ns)), (T2.a7, .inl (cI, T2.N, .inl T2.nl)), (T2.a8, .inl (cI, T2.N, .inl T2.pa)), (T2.a9, .inl (cI, T2.N, .inl T2.pl)), (T2.au, .inl (cC, T2.U, .inl T2.un))] H := hP
                    have hD : va_D A [(mo, .inr (13, MF 30 (rf v (skipH f n j_T2) b_T2))), (qx, .inl (cB, NN, .inl f)), (t, .inr (12, MF 13 (tw T2))), (T2.a0, .inl (cI, T2.N, .inl T2.kd)), (T2.a1, .inl (cL, T2.N, .inr (.inl T2.nu))), (T2.a2, .inl (cI, T2.N, .inl T2.st)), (T2.a3, .inl (cI, T2.N, .inl T2.ln)), (T2.a4, .inl (cI, T2.N, .inl T2.ki)), (T2.a5, .inl (cI, T2.N, .inl T2.nx)), (T2.a6, .inl (cI, T2.N, .inl T2.ns)), (T2.a7, .inl (cI, T2.N, .inl T2.nl)), (T2.a8, .inl (cI, T2.N, .inl T2.pa)), (T2.a9, .inl (cI, T2.N, .inl T2.pl)), (T2.au, .inl (cC, T2.U, .inl T2.un))] := hD
                    have hsk_257 := skipH_n (f := f) (show j_T2 ≤ n by omega)
                    refine lv_iload hx hb d_Mo_value_257 (lv_at hl 0 rfl) ?_
                    refine w_same (fun hq => ?_)
                    refine W.widen (k := ncap T (T.ct + (n + 12 - i)) + qcap T (T.us + (n + 12 - i))) (n := 20 * ncap T (T.ct + (n + 12 - i)) + 2 * qcap T (T.us + (n + 12 - i))) hfit_T2.1 hfit_T2.2 ?_
                    have hTG : TG n i T T2 := ⟨hTk_T2, hGB_T2⟩
                    exact W.iret (v := nI T.ct) hx hb hr (fun t9 ht hW => ⟨⟨nI T.ct, (T2, (skipH f n j_T2), b_T2), rfl, ⟨hTG, Or.inl ⟨(((6, 0, []), ks) : JVt (r + 1)), rfl, hpv, hRV, hTEn, hpan, by show T.ct < T2.ct; omega, by show T2.ct + i ≤ T.ct + (skipH f n j_T2); omega, by show T2.us + i ≤ T.us + (skipH f n j_T2); omega, by show (skipH f n j_T2) ≤ n; omega⟩⟩, ⟨by rw [ht]; exact hP, va_K.moved hW.alike hK, hD⟩, by rw [ht]; exact hq⟩, hS.F ht⟩) hS.2.2 d_Mo_value_259
                  · have hi_2 : pInside f n (pV f n r) 123 (skipH f n i) = none := hi_2
                    subst hi_1
                    have hfit_T2 := hGB_T2.fits
                    refine lv_if_ne (tgt := 253) hx hb d_Mo_value_237 (by decide) (fun h => absurd h (by decide)) (fun _ => ?_)
                    refine lv_iconst (v := (-1)) hx hb d_Mo_value_240 (by decide) ?_
                    have hfin : pV f n (r + 1) i = none := by
                      simp only [pV]
                      rw [if_pos (Or.inr hop), hop, hi_2]
                      rfl
                    refine w_same (fun hq => ?_)
                    refine W.widen (k := ncap T (T.ct + (n + 12 - i)) + qcap T (T.us + (n + 12 - i))) (n := 20 * ncap T (T.ct + (n + 12 - i)) + 2 * qcap T (T.us + (n + 12 - i))) hfit_T2.1 hfit_T2.2 ?_
                    have hTG : TG n i T T2 := ⟨hTk_T2, hGB_T2⟩
                    exact W.iret (v := -1) hx hb hr (fun t9 ht hW => ⟨⟨-1, (T2, j_T2, b_T2), rfl, ⟨hTG, Or.inr ⟨rfl, hfin⟩⟩, ⟨by rw [ht]; exact hP, va_K.moved hW.alike hK, hD⟩, by rw [ht]; exact hq⟩, hS.F ht⟩) hS.2.2 d_Mo_value_241
            · refine lv_aload_n hx hb d_Mo_value_150 rfl (lv_at hl 2 rfl) ?_
              refine lv_iconst (v := 3) hx hb d_Mo_value_151 (by decide) ?_
              have hPc := hP.sub (ws' := [(t, .inr (12, MF 13 (tw T))), (T.a0, .inl (cI, T.N, .inl T.kd)), (T.a1, .inl (cL, T.N, .inr (.inl T.nu))), (T.a2, .inl (cI, T.N, .inl T.st)), (T.a3, .inl (cI, T.N, .inl T.ln)), (T.a4, .inl (cI, T.N, .inl T.ki)), (T.a5, .inl (cI, T.N, .inl T.nx)), (T.a6, .inl (cI, T.N, .inl T.ns)), (T.a7, .inl (cI, T.N, .inl T.nl)), (T.a8, .inl (cI, T.N, .inl T.pa)), (T.a9, .inl (cI, T.N, .inl T.pl)), (T.au, .inl (cC, T.U, .inl T.un))]) [2, 3, 4, 5, 6, 7, 8, 9, 10, 11, 12, 13] rfl
              have hDc := hD.sub (ws' := [(t, .inr (12, MF 13 (tw T))), (T.a0, .inl (cI, T.N, .inl T.kd)), (T.a1, .inl (cL, T.N, .inr (.inl T.nu))), (T.a2, .inl (cI, T.N, .inl T.st)), (T.a3, .inl (cI, T.N, .inl T.ln)), (T.a4, .inl (cI, T.N, .inl T.ki)), (T.a5, .inl (cI, T.N, .inl T.nx)), (T.a6, .inl (cI, T.N, .inl T.ns)), (T.a7, .inl (cI, T.N, .inl T.nl)), (T.a8, .inl (cI, T.N, .inl T.pa)), (T.a9, .inl (cI, T.N, .inl T.pl)), (T.au, .inl (cC, T.U, .inl T.un))]) [2, 3, 4, 5, 6, 7, 8, 9, 10, 11, 12, 13] (by decide) rfl
              have hKc := hK.sub (tys' := [(cI, .int), (cL, .long), (cC, .char)]) [1, 2, 3] rfl
              have hFc := va_free (wc := [(t, .inr (12, MF 13 (tw T))), (T.a0, .inl (cI, T.N, .inl T.kd)), (T.a1, .inl (cL, T.N, .inr (.inl T.nu))), (T.a2, .inl (cI, T.N, .inl T.st)), (T.a3, .inl (cI, T.N, .inl T.ln)), (T.a4, .inl (cI, T.N, .inl T.ki)), (T.a5, .inl (cI, T.N, .inl T.nx)), (T.a6, .inl (cI, T.N, .inl T.ns)), (T.a7, .inl (cI, T.N, .inl T.nl)), (T.a8, .inl (cI, T.N, .inl T.pa)), (T.a9, .inl (cI, T.N, .inl T.pl)), (T.au, .inl (cC, T.U, .inl T.un))]) hD hS hA [2, 3, 4, 5, 6, 7, 8, 9, 10, 11, 12, 13] rfl
              refine w_same (fun hq0 => ?_)
              refine va_calli (va_runV (As := [.int 3]) (rest := []) ⟨hx, hb, hml, hown, hts⟩ (c_Tree_add l dC dI t H cI cL cC T 3 hTk_T) (cwV 1 hts (gt_V (own := R_Mo) (C := R_Tree) (i := 197) (y := y_Tree_add) i_Tree_add w_1254 w_1255 w_1256 w_8) rfl rfl rfl (by decide +kernel) ⟨Nat.le_trans (m := 8) (Nat.le_of_ble_eq_true rfl) (Nat.le_add_right 8 (2 * (r + 1))), Nat.le_trans (m := 300) (Nat.le_of_ble_eq_true rfl) (Nat.le_add_right 300 (80 * (r + 1)))⟩) ⟨mp_blind, va_recv hKc hPc (ci := 12) (q0 := 0) rfl rfl, fun U hU hW => ⟨rfl, hU, by rw [hU]; exact hPc, va_K.moved hW.alike hKc, hDc.weaken (fun _ _ _ _ => trivial)⟩⟩ rfl rfl hl.1 rfl (lv_room (Nat.le_of_ble_eq_true rfl)) d_Mo_value_152 ⟨(TAd.fit hGB_T hTk_T (by omega)).1, (TAd.fit hGB_T hTk_T (by omega)).2⟩) hS (fun q _ h => hFc q h) hFc (fun r0 T1 t9 H1 locs ht hvm hw hB hz1 hk1 hS => ?_)
              obtain ⟨⟨hP1, hK1, hD1⟩, hz9⟩ := hB
              rw [ht] at hP1
              rw [ht] at hz9
              obtain ⟨hr0, hA_T1⟩ := hw
              have hA_T1 : TAd T T1 3 := hA_T1
              have hAg := hA_T1.gb hTk_T (by omega)
              obtain ⟨hGB_T1, hGc_T1, hGs_T1⟩ := hGB_T.tr hAg.1 (show T.ct + 1 ≤ (T.ct + (n + 12 - i)) by omega) (Nat.zero_le _)
              have hGc_T1 := Nat.le_trans (Nat.add_le_add_left hAg.2.1 _) hGc_T1
              have hGs_T1 := Nat.le_trans (Nat.add_le_add_left hAg.2.2 _) hGs_T1
              have hq1 : szk s.heap H1 (cE T T1) (sE T T1) := (hq0.trans hz9).mono hGc_T1 hGs_T1
              refine w_tight hq1 ?_
              obtain ⟨hP, hD⟩ := va_join (wr := [(mo, .inr (13, MF 30 (rf v (skipH f n i) br))), (qx, .inl (cB, NN, .inl f))]) (w1 := [(t, .inr (12, MF 13 (tw T1))), (T1.a0, .inl (cI, T1.N, .inl T1.kd)), (T1.a1, .inl (cL, T1.N, .inr (.inl T1.nu))), (T1.a2, .inl (cI, T1.N, .inl T1.st)), (T1.a3, .inl (cI, T1.N, .inl T1.ln)), (T1.a4, .inl (cI, T1.N, .inl T1.ki)), (T1.a5, .inl (cI, T1.N, .inl T1.nx)), (T1.a6, .inl (cI, T1.N, .inl T1.ns)), (T1.a7, .inl (cI, T1.N, .inl T1.nl)), (T1.a8, .inl (cI, T1.N, .inl T1.pa)), (T1.a9, .inl (cI, T1.N, .inl T1.pl)), (T1.au, .inl (cC, T1.U, .inl T1.un))]) hP hD [2, 3, 4, 5, 6, 7, 8, 9, 10, 11, 12, 13] [0, 1] rfl rfl (by decide) (by decide) hk1 hFc hP1 hD1
              generalize H1 = H at hP hS ⊢
              have hP : va_P (dC, dI) classes [(mo, .inr (13, MF 30 (rf v (skipH f n i) br))), (qx, .inl (cB, NN, .inl f)), (t, .inr (12, MF 13 (tw T1))), (T1.a0, .inl (cI, T1.N, .inl T1.kd)), (T1.a1, .inl (cL, T1.N, .inr (.inl T1.nu))), (T1.a2, .inl (cI, T1.N, .inl T1.st)), (T1.a3, .inl (cI, T1.N, .inl T1.ln)), (T1.a4, .inl (cI, T1.N, .inl T1.ki)), (T1.a5, .inl (cI, T1.N, .inl T1.nx)), (T1.a6, .inl (cI, T1.N, .inl T1.ns)), (T1.a7, .inl (cI, T1.N, .inl T1.nl)), (T1.a8, .inl (cI, T1.N, .inl T1.pa)), (T1.a9, .inl (cI, T1.N, .inl T1.pl)), (T1.au, .inl (cC, T1.U, .inl T1.un))] H := hP
              have hD : va_D A [(mo, .inr (13, MF 30 (rf v (skipH f n i) br))), (qx, .inl (cB, NN, .inl f)), (t, .inr (12, MF 13 (tw T1))), (T1.a0, .inl (cI, T1.N, .inl T1.kd)), (T1.a1, .inl (cL, T1.N, .inr (.inl T1.nu))), (T1.a2, .inl (cI, T1.N, .inl T1.st)), (T1.a3, .inl (cI, T1.N, .inl T1.ln)), (T1.a4, .inl (cI, T1.N, .inl T1.ki)), (T1.a5, .inl (cI, T1.N, .inl T1.nx)), (T1.a6, .inl (cI, T1.N, .inl T1.ns)), (T1.a7, .inl (cI, T1.N, .inl T1.nl)), (T1.a8, .inl (cI, T1.N, .inl T1.pa)), (T1.a9, .inl (cI, T1.N, .inl T1.pl)), (T1.au, .inl (cC, T1.U, .inl T1.un))] := hD
              have hTk_T1 := (hA_T1.ok hTk_T (by omega)).1
              have hAc_T1 : T1.ct = T.ct + 1 ∧ T1.us = T.us := ⟨(hA_T1.ok hTk_T (by omega)).2.2.2.2.2.1, (hA_T1.ok hTk_T (by omega)).2.2.2.2.1⟩
              have hr0 : r0 = nI T.ct := hr0
              subst hr0
              have hfit_T1 := hGB_T1.fits
              refine lv_istore (lv' := [(4, .int (nI T.ct)), (3, .int r1), (0, .ref mo), (1, .ref t), (2, .int (nI (31 - r)))]) hx hb d_Mo_value_155 hl (by decide) rfl (fun ls hl => ?_)
              refine lv_aload_n hx hb d_Mo_value_157 rfl (lv_at hl 2 rfl) ?_
              refine lv_aload_n hx hb d_Mo_value_158 rfl (lv_at hl 3 rfl) ?_
              refine lv_iload hx hb d_Mo_value_159 (lv_at hl 0 rfl) ?_
              have hPc := hP.sub (ws' := [(mo, .inr (13, MF 30 (rf v (skipH f n i) br))), (qx, .inl (cB, NN, .inl f)), (t, .inr (12, MF 13 (tw T1))), (T1.a1, .inl (cL, T1.N, .inr (.inl T1.nu)))]) [0, 1, 2, 4] rfl
              have hDc := hD.sub (ws' := [(mo, .inr (13, MF 30 (rf v (skipH f n i) br))), (qx, .inl (cB, NN, .inl f)), (t, .inr (12, MF 13 (tw T1))), (T1.a1, .inl (cL, T1.N, .inr (.inl T1.nu)))]) [0, 1, 2, 4] (by decide) rfl
              have hKc := hK.sub (tys' := [(cB, .byte), (cL, .long)]) [0, 2] rfl
              have hFc := va_free (wc := [(mo, .inr (13, MF 30 (rf v (skipH f n i) br))), (qx, .inl (cB, NN, .inl f)), (t, .inr (12, MF 13 (tw T1))), (T1.a1, .inl (cL, T1.N, .inr (.inl T1.nu)))]) hD hS hA [0, 1, 2, 4] rfl
              refine va_calli (va_runV (As := [.ref t, .int (nI T.ct)]) (rest := []) ⟨hx, hb, hml, hown, hts⟩ (c_Mo_numberT l dC dI mo H v cB cL qx NN f n t T1 (skipH f n i) br hnN hNN (by omega) h6 h8 hTk_T1 T.ct (by omega)) (cwV 2 hts (gt_V (own := R_Mo) (C := R_Mo) (i := 207) (y := y_Mo_numberT) i_Mo_numberT w_1339 w_1341 (gt_sel (y := y_Mo_numberT) (n := 30) (by decide +kernel)) w_7) rfl rfl rfl (by decide +kernel) ⟨Nat.le_trans (m := 8) (Nat.le_of_ble_eq_true rfl) (Nat.le_add_right 8 (2 * (r + 1))), Nat.le_trans (m := 300) (Nat.le_of_ble_eq_true rfl) (Nat.le_add_right 300 (80 * (r + 1)))⟩) ⟨mp_blind, va_recv hKc hPc (ci := 13) (q0 := 0) rfl rfl, fun U hU hW => ⟨rfl, hU, by rw [hU]; exact hPc, va_K.moved hW.alike hKc, hDc.weaken (fun _ _ _ _ => trivial)⟩⟩ rfl rfl hl.1 rfl (lv_room (Nat.le_of_ble_eq_true rfl)) d_Mo_value_161 ⟨hfit_T1.1, hfit_T1.2⟩) hS (fun q _ h => hFc q h) hFc (fun r0 ⟨j2, b2, nu2⟩ t9 H1 locs ht hvm hw hB hz1 hk1 hS => ?_)
              obtain ⟨hP1, hK1, hD1⟩ := hB
              rw [ht] at hP1
              obtain ⟨hP, hD⟩ := va_join (wr := [(T1.a0, .inl (cI, T1.N, .inl T1.kd)), (T1.a2, .inl (cI, T1.N, .inl T1.st)), (T1.a3, .inl (cI, T1.N, .inl T1.ln)), (T1.a4, .inl (cI, T1.N, .inl T1.ki)), (T1.a5, .inl (cI, T1.N, .inl T1.nx)), (T1.a6, .inl (cI, T1.N, .inl T1.ns)), (T1.a7, .inl (cI, T1.N, .inl T1.nl)), (T1.a8, .inl (cI, T1.N, .inl T1.pa)), (T1.a9, .inl (cI, T1.N, .inl T1.pl)), (T1.au, .inl (cC, T1.U, .inl T1.un))]) (w1 := [(mo, .inr (13, MF 30 (rf v j2 b2))), (qx, .inl (cB, NN, .inl f)), (t, .inr (12, MF 13 (tw T1))), (T1.a1, .inl (cL, T1.N, .inr (.inl nu2)))]) hP hD [0, 1, 2, 4] [3, 5, 6, 7, 8, 9, 10, 11, 12, 13] rfl rfl (by decide) (by decide) hk1 hFc hP1 hD1
              generalize H1 = H at hP hS ⊢
              have hP : va_P (dC, dI) classes [(T1.a0, .inl (cI, T1.N, .inl T1.kd)), (T1.a2, .inl (cI, T1.N, .inl T1.st)), (T1.a3, .inl (cI, T1.N, .inl T1.ln)), (T1.a4, .inl (cI, T1.N, .inl T1.ki)), (T1.a5, .inl (cI, T1.N, .inl T1.nx)), (T1.a6, .inl (cI, T1.N, .inl T1.ns)), (T1.a7, .inl (cI, T1.N, .inl T1.nl)), (T1.a8, .inl (cI, T1.N, .inl T1.pa)), (T1.a9, .inl (cI, T1.N, .inl T1.pl)), (T1.au, .inl (cC, T1.U, .inl T1.un)), (mo, .inr (13, MF 30 (rf v j2 b2))), (qx, .inl (cB, NN, .inl f)), (t, .inr (12, MF 13 (tw T1))), (T1.a1, .inl (cL, T1.N, .inr (.inl nu2)))] H := hP
              have hD : va_D A [(T1.a0, .inl (cI, T1.N, .inl T1.kd)), (T1.a2, .inl (cI, T1.N, .inl T1.st)), (T1.a3, .inl (cI, T1.N, .inl T1.ln)), (T1.a4, .inl (cI, T1.N, .inl T1.ki)), (T1.a5, .inl (cI, T1.N, .inl T1.nx)), (T1.a6, .inl (cI, T1.N, .inl T1.ns)), (T1.a7, .inl (cI, T1.N, .inl T1.nl)), (T1.a8, .inl (cI, T1.N, .inl T1.pa)), (T1.a9, .inl (cI, T1.N, .inl T1.pl)), (T1.au, .inl (cC, T1.U, .inl T1.un)), (mo, .inr (13, MF 30 (rf v j2 b2))), (qx, .inl (cB, NN, .inl f)), (t, .inr (12, MF 13 (tw T1))), (T1.a1, .inl (cL, T1.N, .inr (.inl nu2)))] := hD
              have hP := hP.sub (ws' := [(mo, .inr (13, MF 30 (rf v j2 b2))), (qx, .inl (cB, NN, .inl f)), (t, .inr (12, MF 13 (tw T1))), (T1.a0, .inl (cI, T1.N, .inl T1.kd)), (T1.a1, .inl (cL, T1.N, .inr (.inl nu2))), (T1.a2, .inl (cI, T1.N, .inl T1.st)), (T1.a3, .inl (cI, T1.N, .inl T1.ln)), (T1.a4, .inl (cI, T1.N, .inl T1.ki)), (T1.a5, .inl (cI, T1.N, .inl T1.nx)), (T1.a6, .inl (cI, T1.N, .inl T1.ns)), (T1.a7, .inl (cI, T1.N, .inl T1.nl)), (T1.a8, .inl (cI, T1.N, .inl T1.pa)), (T1.a9, .inl (cI, T1.N, .inl T1.pl)), (T1.au, .inl (cC, T1.U, .inl T1.un))]) [10, 11, 12, 0, 13, 1, 2, 3, 4, 5, 6, 7, 8, 9] rfl
              have hD := hD.sub (ws' := [(mo, .inr (13, MF 30 (rf v j2 b2))), (qx, .inl (cB, NN, .inl f)), (t, .inr (12, MF 13 (tw T1))), (T1.a0, .inl (cI, T1.N, .inl T1.kd)), (T1.a1, .inl (cL, T1.N, .inr (.inl nu2))), (T1.a2, .inl (cI, T1.N, .inl T1.st)), (T1.a3, .inl (cI, T1.N, .inl T1.ln)), (T1.a4, .inl (cI, T1.N, .inl T1.ki)), (T1.a5, .inl (cI, T1.N, .inl T1.nx)), (T1.a6, .inl (cI, T1.N, .inl T1.ns)), (T1.a7, .inl (cI, T1.N, .inl T1.nl)), (T1.a8, .inl (cI, T1.N, .inl T1.pa)), (T1.a9, .inl (cI, T1.N, .inl T1.pl)), (T1.au, .inl (cC, T1.U, .inl T1.un))]) [10, 11, 12, 0, 13, 1, 2, 3, 4, 5, 6, 7, 8, 9] (by decide) rfl
              rcases hw with ⟨hw1, val, hw2, hw3, hw4⟩ | ⟨hw1, hw2, hw3, hw4⟩
              · have hw3 : nu2 = vp_updL T1.nu T.ct val := hw3
                have hw4 : j2 ≤ n := hw4
                have hw2 : numM f n (skipH f n i) = some (val, j2) := hw2
                subst hw3
                subst hw1
                obtain ⟨T2, e_T2⟩ : ∃ z : TS, z = (TS.mk T1.N T1.U T1.ct T1.us T1.a0 T1.a1 T1.a2 T1.a3 T1.a4 T1.a5 T1.a6 T1.a7 T1.a8 T1.a9 T1.au T1.kd T1.st T1.ln T1.ki T1.nx T1.ns T1.nl T1.pa T1.pl T1.un (vp_updL T1.nu T.ct val)) := ⟨_, rfl⟩
                have hP : va_P (dC, dI) classes [(mo, .inr (13, MF 30 (rf v j2 b2))), (qx, .inl (cB, NN, .inl f)), (t, .inr (12, MF 13 (tw T2))), (T2.a0, .inl (cI, T2.N, .inl T2.kd)), (T2.a1, .inl (cL, T2.N, .inr (.inl T2.nu))), (T2.a2, .inl (cI, T2.N, .inl T2.st)), (T2.a3, .inl (cI, T2.N, .inl T2.ln)), (T2.a4, .inl (cI, T2.N, .inl T2.ki)), (T2.a5, .inl (cI, T2.N, .inl T2.nx)), (T2.a6, .inl (cI, T2.N, .inl T2.ns)), (T2.a7, .inl (cI, T2.N, .inl T2.nl)), (T2.a8, .inl (cI, T2.N, .inl T2.pa)), (T2.a9, .inl (cI, T2.N, .inl T2.pl)), (T2.au, .inl (cC, T2.U, .inl T2.un))] H := by subst e_T2; exact hP
                have hD : va_D A [(mo, .inr (13, MF 30 (rf v j2 b2))), (qx, .inl (cB, NN, .inl f)), (t, .inr (12, MF 13 (tw T2))), (T2.a0, .inl (cI, T2.N, .inl T2.kd)), (T2.a1, .inl (cL, T2.N, .inr (.inl T2.nu))), (T2.a2, .inl (cI, T2.N, .inl T2.st)), (T2.a3, .inl (cI, T2.N, .inl T2.ln)), (T2.a4, .inl (cI, T2.N, .inl T2.ki)), (T2.a5, .inl (cI, T2.N, .inl T2.nx)), (T2.a6, .inl (cI, T2.N, .inl T2.ns)), (T2.a7, .inl (cI, T2.N, .inl T2.nl)), (T2.a8, .inl (cI, T2.N, .inl T2.pa)), (T2.a9, .inl (cI, T2.N, .inl T2.pl)), (T2.au, .inl (cC, T2.U, .inl T2.un))] := by subst e_T2; exact hD
                have hT2 : T2.N = T1.N ∧ T2.U = T1.U ∧ T2.ct = T1.ct ∧ T2.us = T1.us ∧ T2.un = T1.un ∧ T2.kd = T1.kd ∧ T2.nu = vp_updL T1.nu T.ct val ∧ T2.st = T1.st ∧ T2.ln = T1.ln ∧ T2.pa = T1.pa ∧ T2.ki = T1.ki ∧ T2.nx = T1.nx ∧ T2.ns = T1.ns ∧ T2.nl = T1.nl := by rw [e_T2]; exact ⟨rfl, rfl, rfl, rfl, rfl, rfl, rfl, rfl, rfl, rfl, rfl, rfl, rfl, rfl⟩
                obtain ⟨g1, g2, g3, g4, g5, g6, g7, g8, g9, g10, g11, g12, g13, g14⟩ := hT2
                have hTk_T2 : TOK T2 := by obtain ⟨q1, q2, q3, q4, q5, q6, q7⟩ := hTk_T1; exact ⟨by omega, by omega, by omega, by omega, by omega, by omega, by rw [g5]; exact q7⟩
                refine w_same (fun hq => ?_)
                refine w_tight (k := cE T T2) (n := sE T T2) (by unfold cE sE at hq ⊢; rw [g1, g2]; exact hq) ?_
                have hGB_T2 : GB (T.ct + (n + 12 - i)) (T.us + (n + 12 - i)) T T2 := by unfold GB at hGB_T1 ⊢; rw [g1, g2]; exact hGB_T1
                have hfit_T2 := hGB_T2.fits
                have hAA := hA_T1.2.2.2.2.2.2.2
                have hTEn : TE T T2 := TE_of hA_T1.te g3 g4 g5 (fun j9 h9 => ⟨by rw [g6], by rw [g7]; exact if_neg (by omega), by rw [g8], by rw [g9], by rw [g11], by rw [g12], by rw [g13], by rw [g14], by rw [g10]⟩)
                have hRepn : RepL T2 T.ct (3, val, []) := ⟨by rw [g6]; exact hAA.1, by show 3 ≤ 6; omega, fun _ => by rw [g7]; exact pk_uLs, fun h => absurd h (by show ¬ 3 = 4; omega), fun _ => by rw [g9]; exact hAA.2.2.2.2.2.1⟩
                have hkin : T2.ki T.ct = -1 := by rw [g11]; exact hAA.2.1
                have hpan : T2.pa T.ct = -1 := by rw [g10]; exact hAA.2.2.2.1
                have hctn : T2.ct = T.ct + 1 := by omega
                have husn : T2.us = T.us := by omega
                have hnu45 : hereV f n (skipH f n i) = 45 ∨ digH (hereV f n (skipH f n i)) := by rw [← h_r1]; exact Or.inr (h_d1.1 c147)
                have hnlt := numM_lt hw2
                have hpl : pLeaf f n (skipH f n i) = some ((3, val, []), j2) := by unfold pLeaf; rw [if_neg (fun h => c12 (h_r1.trans h)), if_neg (fun h => c18 (h_r1.trans h)), if_neg (fun h => c24 (h_r1.trans h)), if_neg (fun h => c93 (h_r1.trans h)), if_pos hnu45, hw2]
                have hnc : ¬ (hereV f n (skipH f n i) = 91 ∨ hereV f n (skipH f n i) = 123) := fun h => by rcases h with h | h <;> rw [h] at hnu45 <;> revert hnu45 <;> decide
                refine lv_if_ne (tgt := 253) hx hb d_Mo_value_164 (by decide) (fun _ => ?_) (fun h => absurd h (by decide))
                refine lv_aload_n hx hb d_Mo_value_253 rfl (lv_at hl 2 rfl) ?_
                have hPc := hP.sub (ws' := [(mo, .inr (13, MF 30 (rf v j2 b2))), (qx, .inl (cB, NN, .inl f))]) [0, 1] rfl
                have hDc := hD.sub (ws' := [(mo, .inr (13, MF 30 (rf v j2 b2))), (qx, .inl (cB, NN, .inl f))]) [0, 1] (by decide) rfl
                have hKc := hK.sub (tys' := [(cB, .byte)]) [0] rfl
                have hFc := va_free (wc := [(mo, .inr (13, MF 30 (rf v j2 b2))), (qx, .inl (cB, NN, .inl f))]) hD hS hA [0, 1] rfl
                refine va_callv (va_runV (As := []) (rest := []) ⟨hx, hb, hml, hown, hts⟩ (c_Mo_blanks l dC dI mo H (rf v j2 b2) cB qx NN f n j2 (by omega) (by omega) (by omega) ((rf_ne (by decide) (by decide)).trans h6) rf_7 ((rf_ne (by decide) (by decide)).trans h8)) (cwV 0 hts (gt_V (own := R_Mo) (C := R_Mo) (i := 184) (y := y_Mo_blanks) i_Mo_blanks w_1229 w_1231 (gt_sel (y := y_Mo_blanks) (n := 30) (by decide +kernel)) w_7) rfl rfl rfl (by decide +kernel) ⟨Nat.le_trans (m := 8) (Nat.le_of_ble_eq_true rfl) (Nat.le_add_right 8 (2 * (r + 1))), Nat.le_trans (m := 300) (Nat.le_of_ble_eq_true rfl) (Nat.le_add_right 300 (80 * (r + 1)))⟩) ⟨mp_blind, va_recv hKc hPc (ci := 13) (q0 := 0) rfl rfl, fun U hU hW => ⟨rfl, hU, by rw [hU]; exact hPc, va_K.moved hW.alike hKc, hDc.weaken (fun _ _ _ _ => trivial)⟩⟩ rfl rfl hl.1 rfl (lv_room (Nat.le_of_ble_eq_true rfl)) d_Mo_value_254 ⟨hfit_T2.1, hfit_T2.2⟩) hS (fun q _ h => hFc q h) hFc (fun _u t9 H1 locs ht hvm hw hB hz1 hk1 hS => ?_)
                obtain ⟨hP1, hK1, hD1⟩ := hB
                rw [ht] at hP1
                obtain ⟨hP, hD⟩ := va_join (wr := [(t, .inr (12, MF 13 (tw T2))), (T2.a0, .inl (cI, T2.N, .inl T2.kd)), (T2.a1, .inl (cL, T2.N, .inr (.inl T2.nu))), (T2.a2, .inl (cI, T2.N, .inl T2.st)), (T2.a3, .inl (cI, T2.N, .inl T2.ln)), (T2.a4, .inl (cI, T2.N, .inl T2.ki)), (T2.a5, .inl (cI, T2.N, .inl T2.nx)), (T2.a6, .inl (cI, T2.N, .inl T2.ns)), (T2.a7, .inl (cI, T2.N, .inl T2.nl)), (T2.a8, .inl (cI, T2.N, .inl T2.pa)), (T2.a9, .inl (cI, T2.N, .inl T2.pl)), (T2.au, .inl (cC, T2.U, .inl T2.un))]) (w1 := [(mo, .inr (13, MF 30 (va_up (rf v j2 b2) 7 (.int (nI (skipH f n j2)))))), (qx, .inl (cB, NN, .inl f))]) hP hD [0, 1] [2, 3, 4, 5, 6, 7, 8, 9, 10, 11, 12, 13] rfl rfl (by decide) (by decide) hk1 hFc hP1 hD1
                generalize H1 = H at hP hS ⊢
                have hP : va_P (dC, dI) classes [(t, .inr (12, MF 13 (tw T2))), (T2.a0, .inl (cI, T2.N, .inl T2.kd)), (T2.a1, .inl (cL, T2.N, .inr (.inl T2.nu))), (T2.a2, .inl (cI, T2.N, .inl T2.st)), (T2.a3, .inl (cI, T2.N, .inl T2.ln)), (T2.a4, .inl (cI, T2.N, .inl T2.ki)), (T2.a5, .inl (cI, T2.N, .inl T2.nx)), (T2.a6, .inl (cI, T2.N, .inl T2.ns)), (T2.a7, .inl (cI, T2.N, .inl T2.nl)), (T2.a8, .inl (cI, T2.N, .inl T2.pa)), (T2.a9, .inl (cI, T2.N, .inl T2.pl)), (T2.au, .inl (cC, T2.U, .inl T2.un)), (mo, .inr (13, MF 30 (va_up (rf v j2 b2) 7 (.int (nI (skipH f n j2)))))), (qx, .inl (cB, NN, .inl f))] H := hP
                have hD : va_D A [(t, .inr (12, MF 13 (tw T2))), (T2.a0, .inl (cI, T2.N, .inl T2.kd)), (T2.a1, .inl (cL, T2.N, .inr (.inl T2.nu))), (T2.a2, .inl (cI, T2.N, .inl T2.st)), (T2.a3, .inl (cI, T2.N, .inl T2.ln)), (T2.a4, .inl (cI, T2.N, .inl T2.ki)), (T2.a5, .inl (cI, T2.N, .inl T2.nx)), (T2.a6, .inl (cI, T2.N, .inl T2.ns)), (T2.a7, .inl (cI, T2.N, .inl T2.nl)), (T2.a8, .inl (cI, T2.N, .inl T2.pa)), (T2.a9, .inl (cI, T2.N, .inl T2.pl)), (T2.au, .inl (cC, T2.U, .inl T2.un)), (mo, .inr (13, MF 30 (va_up (rf v j2 b2) 7 (.int (nI (skipH f n j2)))))), (qx, .inl (cB, NN, .inl f))] := hD
                have hP := hP.sub (ws' := [(mo, .inr (13, MF 30 (va_up (rf v j2 b2) 7 (.int (nI (skipH f n j2)))))), (qx, .inl (cB, NN, .inl f)), (t, .inr (12, MF 13 (tw T2))), (T2.a0, .inl (cI, T2.N, .inl T2.kd)), (T2.a1, .inl (cL, T2.N, .inr (.inl T2.nu))), (T2.a2, .inl (cI, T2.N, .inl T2.st)), (T2.a3, .inl (cI, T2.N, .inl T2.ln)), (T2.a4, .inl (cI, T2.N, .inl T2.ki)), (T2.a5, .inl (cI, T2.N, .inl T2.nx)), (T2.a6, .inl (cI, T2.N, .inl T2.ns)), (T2.a7, .inl (cI, T2.N, .inl T2.nl)), (T2.a8, .inl (cI, T2.N, .inl T2.pa)), (T2.a9, .inl (cI, T2.N, .inl T2.pl)), (T2.au, .inl (cC, T2.U, .inl T2.un))]) [12, 13, 0, 1, 2, 3, 4, 5, 6, 7, 8, 9, 10, 11] rfl
                have hD := hD.sub (ws' := [(mo, .inr (13, MF 30 (va_up (rf v j2 b2) 7 (.int (nI (skipH f n j2)))))), (qx, .inl (cB, NN, .inl f)), (t, .inr (12, MF 13 (tw T2))), (T2.a0, .inl (cI, T2.N, .inl T2.kd)), (T2.a1, .inl (cL, T2.N, .inr (.inl T2.nu))), (T2.a2, .inl (cI, T2.N, .inl T2.st)), (T2.a3, .inl (cI, T2.N, .inl T2.ln)), (T2.a4, .inl (cI, T2.N, .inl T2.ki)), (T2.a5, .inl (cI, T2.N, .inl T2.nx)), (T2.a6, .inl (cI, T2.N, .inl T2.ns)), (T2.a7, .inl (cI, T2.N, .inl T2.nl)), (T2.a8, .inl (cI, T2.N, .inl T2.pa)), (T2.a9, .inl (cI, T2.N, .inl T2.pl)), (T2.au, .inl (cC, T2.U, .inl T2.un))]) [12, 13, 0, 1, 2, 3, 4, 5, 6, 7, 8, 9, 10, 11] (by decide) rfl
                rw [rf_u7] at hP hD
                have hP : va_P (dC, dI) classes [(mo, .inr (13, MF 30 (rf v (skipH f n j2) b2))), (qx, .inl (cB, NN, .inl f)), (t, .inr (12, MF 13 (tw T2))), (T2.a0, .inl (cI, T2.N, .inl T2.kd)), (T2.a1, .inl (cL, T2.N, .inr (.inl T2.nu))), (T2.a2, .inl (cI, T2.N, .inl T2.st)), (T2.a3, .inl (cI, T2.N, .inl T2.ln)), (T2.a4, .inl (cI, T2.N, .inl T2.ki)), (T2.a5, .inl (cI, T2.N, .inl T2.nx)), (T2.a6, .inl (cI, T2.N, .inl T2.ns)), (T2.a7, .inl (cI, T2.N, .inl T2.nl)), (T2.a8, .inl (cI, T2.N, .inl T2.pa)), (T2.a9, .inl (cI, T2.N, .inl T2.pl)), (T2.au, .inl (cC, T2.U, .inl T2.un))] H := hP
                have hD : va_D A [(mo, .inr (13, MF 30 (rf v (skipH f n j2) b2))), (qx, .inl (cB, NN, .inl f)), (t, .inr (12, MF 13 (tw T2))), (T2.a0, .inl (cI, T2.N, .inl T2.kd)), (T2.a1, .inl (cL, T2.N, .inr (.inl T2.nu))), (T2.a2, .inl (cI, T2.N, .inl T2.st)), (T2.a3, .inl (cI, T2.N, .inl T2.ln)), (T2.a4, .inl (cI, T2.N, .inl T2.ki)), (T2.a5, .inl (cI, T2.N, .inl T2.nx)), (T2.a6, .inl (cI, T2.N, .inl T2.ns)), (T2.a7, .inl (cI, T2.N, .inl T2.nl)), (T2.a8, .inl (cI, T2.N, .inl T2.pa)), (T2.a9, .inl (cI, T2.N, .inl T2.pl)), (T2.au, .inl (cC, T2.U, .inl T2.un))] := hD
                have hsk_257 := skipH_n (f := f) (show j2 ≤ n by omega)
                refine lv_iload hx hb d_Mo_value_257 (lv_at hl 0 rfl) ?_
                have hpv : pV f n (r + 1) i = some (jleaf (r + 1) (3, val, []), (skipH f n j2)) := by rw [pV_leaf _ hnc, hpl]; rfl
                have hRV : RepV T2 (r + 1) T.ct T2.ct (jleaf (r + 1) (3, val, [])) := leafRep hRepn (by show (3 : Nat) < 5; omega) hkin hctn _
                refine w_same (fun hq => ?_)
                refine W.widen (k := ncap T (T.ct + (n + 12 - i)) + qcap T (T.us + (n + 12 - i))) (n := 20 * ncap T (T.ct + (n + 12 - i)) + 2 * qcap T (T.us + (n + 12 - i))) hfit_T2.1 hfit_T2.2 ?_
                have hTG : TG n i T T2 := ⟨hTk_T2, hGB_T2⟩
                exact W.iret (v := nI T.ct) hx hb hr (fun t9 ht hW => ⟨⟨nI T.ct, (T2, (skipH f n j2), b2), rfl, ⟨hTG, Or.inl ⟨(jleaf (r + 1) (3, val, [])), rfl, hpv, hRV, hTEn, hpan, by show T.ct < T2.ct; omega, by show T2.ct + i ≤ T.ct + (skipH f n j2); omega, by show T2.us + i ≤ T.us + (skipH f n j2); omega, by show (skipH f n j2) ≤ n; omega⟩⟩, ⟨by rw [ht]; exact hP, va_K.moved hW.alike hK, hD⟩, by rw [ht]; exact hq⟩, hS.F ht⟩) hS.2.2 d_Mo_value_259
              · have hw3 : nu2 = T1.nu := hw3
                subst hw3
                subst hw1
                have hP : va_P (dC, dI) classes [(mo, .inr (13, MF 30 (rf v j2 b2))), (qx, .inl (cB, NN, .inl f)), (t, .inr (12, MF 13 (tw T1))), (T1.a0, .inl (cI, T1.N, .inl T1.kd)), (T1.a1, .inl (cL, T1.N, .inr (.inl T1.nu))), (T1.a2, .inl (cI, T1.N, .inl T1.st)), (T1.a3, .inl (cI, T1.N, .inl T1.ln)), (T1.a4, .inl (cI, T1.N, .inl T1.ki)), (T1.a5, .inl (cI, T1.N, .inl T1.nx)), (T1.a6, .inl (cI, T1.N, .inl T1.ns)), (T1.a7, .inl (cI, T1.N, .inl T1.nl)), (T1.a8, .inl (cI, T1.N, .inl T1.pa)), (T1.a9, .inl (cI, T1.N, .inl T1.pl)), (T1.au, .inl (cC, T1.U, .inl T1.un))] H := hP
                have hD : va_D A [(mo, .inr (13, MF 30 (rf v j2 b2))), (qx, .inl (cB, NN, .inl f)), (t, .inr (12, MF 13 (tw T1))), (T1.a0, .inl (cI, T1.N, .inl T1.kd)), (T1.a1, .inl (cL, T1.N, .inr (.inl T1.nu))), (T1.a2, .inl (cI, T1.N, .inl T1.st)), (T1.a3, .inl (cI, T1.N, .inl T1.ln)), (T1.a4, .inl (cI, T1.N, .inl T1.ki)), (T1.a5, .inl (cI, T1.N, .inl T1.nx)), (T1.a6, .inl (cI, T1.N, .inl T1.ns)), (T1.a7, .inl (cI, T1.N, .inl T1.nl)), (T1.a8, .inl (cI, T1.N, .inl T1.pa)), (T1.a9, .inl (cI, T1.N, .inl T1.pl)), (T1.au, .inl (cC, T1.U, .inl T1.un))] := hD
                have hnu45 : hereV f n (skipH f n i) = 45 ∨ digH (hereV f n (skipH f n i)) := by rw [← h_r1]; exact Or.inr (h_d1.1 c147)
                refine lv_if_ne (tgt := 253) hx hb d_Mo_value_164 (by decide) (fun h => absurd h (by decide)) (fun _ => ?_)
                refine lv_iconst (v := (-1)) hx hb d_Mo_value_167 (by decide) ?_
                have hpl : pLeaf f n (skipH f n i) = none := by unfold pLeaf; rw [if_neg (fun h => c12 (h_r1.trans h)), if_neg (fun h => c18 (h_r1.trans h)), if_neg (fun h => c24 (h_r1.trans h)), if_neg (fun h => c93 (h_r1.trans h)), if_pos hnu45, hw2]
                have hfin : pV f n (r + 1) i = none := by rw [pV_leaf _ (fun h => by rcases h with h | h <;> rw [h] at hnu45 <;> revert hnu45 <;> decide), hpl]; rfl
                refine w_same (fun hq => ?_)
                refine W.widen (k := ncap T (T.ct + (n + 12 - i)) + qcap T (T.us + (n + 12 - i))) (n := 20 * ncap T (T.ct + (n + 12 - i)) + 2 * qcap T (T.us + (n + 12 - i))) hfit_T1.1 hfit_T1.2 ?_
                have hTG : TG n i T T1 := ⟨hTk_T1, hGB_T1⟩
                exact W.iret (v := -1) hx hb hr (fun t9 ht hW => ⟨⟨-1, (T1, j2, b2), rfl, ⟨hTG, Or.inr ⟨rfl, hfin⟩⟩, ⟨by rw [ht]; exact hP, va_K.moved hW.alike hK, hD⟩, by rw [ht]; exact hq⟩, hS.F ht⟩) hS.2.2 d_Mo_value_168
        · refine lv_aload_n hx hb d_Mo_value_96 rfl (lv_at hl 2 rfl) ?_
          refine lv_iconst (v := 4) hx hb d_Mo_value_97 (by decide) ?_
          have hPc := hP.sub (ws' := [(t, .inr (12, MF 13 (tw T))), (T.a0, .inl (cI, T.N, .inl T.kd)), (T.a1, .inl (cL, T.N, .inr (.inl T.nu))), (T.a2, .inl (cI, T.N, .inl T.st)), (T.a3, .inl (cI, T.N, .inl T.ln)), (T.a4, .inl (cI, T.N, .inl T.ki)), (T.a5, .inl (cI, T.N, .inl T.nx)), (T.a6, .inl (cI, T.N, .inl T.ns)), (T.a7, .inl (cI, T.N, .inl T.nl)), (T.a8, .inl (cI, T.N, .inl T.pa)), (T.a9, .inl (cI, T.N, .inl T.pl)), (T.au, .inl (cC, T.U, .inl T.un))]) [2, 3, 4, 5, 6, 7, 8, 9, 10, 11, 12, 13] rfl
          have hDc := hD.sub (ws' := [(t, .inr (12, MF 13 (tw T))), (T.a0, .inl (cI, T.N, .inl T.kd)), (T.a1, .inl (cL, T.N, .inr (.inl T.nu))), (T.a2, .inl (cI, T.N, .inl T.st)), (T.a3, .inl (cI, T.N, .inl T.ln)), (T.a4, .inl (cI, T.N, .inl T.ki)), (T.a5, .inl (cI, T.N, .inl T.nx)), (T.a6, .inl (cI, T.N, .inl T.ns)), (T.a7, .inl (cI, T.N, .inl T.nl)), (T.a8, .inl (cI, T.N, .inl T.pa)), (T.a9, .inl (cI, T.N, .inl T.pl)), (T.au, .inl (cC, T.U, .inl T.un))]) [2, 3, 4, 5, 6, 7, 8, 9, 10, 11, 12, 13] (by decide) rfl
          have hKc := hK.sub (tys' := [(cI, .int), (cL, .long), (cC, .char)]) [1, 2, 3] rfl
          have hFc := va_free (wc := [(t, .inr (12, MF 13 (tw T))), (T.a0, .inl (cI, T.N, .inl T.kd)), (T.a1, .inl (cL, T.N, .inr (.inl T.nu))), (T.a2, .inl (cI, T.N, .inl T.st)), (T.a3, .inl (cI, T.N, .inl T.ln)), (T.a4, .inl (cI, T.N, .inl T.ki)), (T.a5, .inl (cI, T.N, .inl T.nx)), (T.a6, .inl (cI, T.N, .inl T.ns)), (T.a7, .inl (cI, T.N, .inl T.nl)), (T.a8, .inl (cI, T.N, .inl T.pa)), (T.a9, .inl (cI, T.N, .inl T.pl)), (T.au, .inl (cC, T.U, .inl T.un))]) hD hS hA [2, 3, 4, 5, 6, 7, 8, 9, 10, 11, 12, 13] rfl
          refine w_same (fun hq0 => ?_)
          refine va_calli (va_runV (As := [.int 4]) (rest := []) ⟨hx, hb, hml, hown, hts⟩ (c_Tree_add l dC dI t H cI cL cC T 4 hTk_T) (cwV 1 hts (gt_V (own := R_Mo) (C := R_Tree) (i := 197) (y := y_Tree_add) i_Tree_add w_1254 w_1255 w_1256 w_8) rfl rfl rfl (by decide +kernel) ⟨Nat.le_trans (m := 8) (Nat.le_of_ble_eq_true rfl) (Nat.le_add_right 8 (2 * (r + 1))), Nat.le_trans (m := 300) (Nat.le_of_ble_eq_true rfl) (Nat.le_add_right 300 (80 * (r + 1)))⟩) ⟨mp_blind, va_recv hKc hPc (ci := 12) (q0 := 0) rfl rfl, fun U hU hW => ⟨rfl, hU, by rw [hU]; exact hPc, va_K.moved hW.alike hKc, hDc.weaken (fun _ _ _ _ => trivial)⟩⟩ rfl rfl hl.1 rfl (lv_room (Nat.le_of_ble_eq_true rfl)) d_Mo_value_98 ⟨(TAd.fit hGB_T hTk_T (by omega)).1, (TAd.fit hGB_T hTk_T (by omega)).2⟩) hS (fun q _ h => hFc q h) hFc (fun r0 T1 t9 H1 locs ht hvm hw hB hz1 hk1 hS => ?_)
          obtain ⟨⟨hP1, hK1, hD1⟩, hz9⟩ := hB
          rw [ht] at hP1
          rw [ht] at hz9
          obtain ⟨hr0, hA_T1⟩ := hw
          have hA_T1 : TAd T T1 4 := hA_T1
          have hAg := hA_T1.gb hTk_T (by omega)
          obtain ⟨hGB_T1, hGc_T1, hGs_T1⟩ := hGB_T.tr hAg.1 (show T.ct + 1 ≤ (T.ct + (n + 12 - i)) by omega) (Nat.zero_le _)
          have hGc_T1 := Nat.le_trans (Nat.add_le_add_left hAg.2.1 _) hGc_T1
          have hGs_T1 := Nat.le_trans (Nat.add_le_add_left hAg.2.2 _) hGs_T1
          have hq1 : szk s.heap H1 (cE T T1) (sE T T1) := (hq0.trans hz9).mono hGc_T1 hGs_T1
          refine w_tight hq1 ?_
          obtain ⟨hP, hD⟩ := va_join (wr := [(mo, .inr (13, MF 30 (rf v (skipH f n i) br))), (qx, .inl (cB, NN, .inl f))]) (w1 := [(t, .inr (12, MF 13 (tw T1))), (T1.a0, .inl (cI, T1.N, .inl T1.kd)), (T1.a1, .inl (cL, T1.N, .inr (.inl T1.nu))), (T1.a2, .inl (cI, T1.N, .inl T1.st)), (T1.a3, .inl (cI, T1.N, .inl T1.ln)), (T1.a4, .inl (cI, T1.N, .inl T1.ki)), (T1.a5, .inl (cI, T1.N, .inl T1.nx)), (T1.a6, .inl (cI, T1.N, .inl T1.ns)), (T1.a7, .inl (cI, T1.N, .inl T1.nl)), (T1.a8, .inl (cI, T1.N, .inl T1.pa)), (T1.a9, .inl (cI, T1.N, .inl T1.pl)), (T1.au, .inl (cC, T1.U, .inl T1.un))]) hP hD [2, 3, 4, 5, 6, 7, 8, 9, 10, 11, 12, 13] [0, 1] rfl rfl (by decide) (by decide) hk1 hFc hP1 hD1
          generalize H1 = H at hP hS ⊢
          have hP : va_P (dC, dI) classes [(mo, .inr (13, MF 30 (rf v (skipH f n i) br))), (qx, .inl (cB, NN, .inl f)), (t, .inr (12, MF 13 (tw T1))), (T1.a0, .inl (cI, T1.N, .inl T1.kd)), (T1.a1, .inl (cL, T1.N, .inr (.inl T1.nu))), (T1.a2, .inl (cI, T1.N, .inl T1.st)), (T1.a3, .inl (cI, T1.N, .inl T1.ln)), (T1.a4, .inl (cI, T1.N, .inl T1.ki)), (T1.a5, .inl (cI, T1.N, .inl T1.nx)), (T1.a6, .inl (cI, T1.N, .inl T1.ns)), (T1.a7, .inl (cI, T1.N, .inl T1.nl)), (T1.a8, .inl (cI, T1.N, .inl T1.pa)), (T1.a9, .inl (cI, T1.N, .inl T1.pl)), (T1.au, .inl (cC, T1.U, .inl T1.un))] H := hP
          have hD : va_D A [(mo, .inr (13, MF 30 (rf v (skipH f n i) br))), (qx, .inl (cB, NN, .inl f)), (t, .inr (12, MF 13 (tw T1))), (T1.a0, .inl (cI, T1.N, .inl T1.kd)), (T1.a1, .inl (cL, T1.N, .inr (.inl T1.nu))), (T1.a2, .inl (cI, T1.N, .inl T1.st)), (T1.a3, .inl (cI, T1.N, .inl T1.ln)), (T1.a4, .inl (cI, T1.N, .inl T1.ki)), (T1.a5, .inl (cI, T1.N, .inl T1.nx)), (T1.a6, .inl (cI, T1.N, .inl T1.ns)), (T1.a7, .inl (cI, T1.N, .inl T1.nl)), (T1.a8, .inl (cI, T1.N, .inl T1.pa)), (T1.a9, .inl (cI, T1.N, .inl T1.pl)), (T1.au, .inl (cC, T1.U, .inl T1.un))] := hD
          have hTk_T1 := (hA_T1.ok hTk_T (by omega)).1
          have hAc_T1 : T1.ct = T.ct + 1 ∧ T1.us = T.us := ⟨(hA_T1.ok hTk_T (by omega)).2.2.2.2.2.1, (hA_T1.ok hTk_T (by omega)).2.2.2.2.1⟩
          have hr0 : r0 = nI T.ct := hr0
          subst hr0
          have hfit_T1 := hGB_T1.fits
          refine lv_istore (lv' := [(4, .int (nI T.ct)), (3, .int r1), (0, .ref mo), (1, .ref t), (2, .int (nI (31 - r)))]) hx hb d_Mo_value_101 hl (by decide) rfl (fun ls hl => ?_)
          refine lv_aload_n hx hb d_Mo_value_103 rfl (lv_at hl 2 rfl) ?_
          refine lv_bipush (v := 34) hx hb d_Mo_value_104 (by decide) ?_
          refine lv_aload_n hx hb d_Mo_value_106 rfl (lv_at hl 3 rfl) ?_
          have hq34 : hereV f n (skipH f n i) = 34 := h_r1.symm.trans c93
          have hltq := here_in hq34 (by decide)
          have hPc := hP.sub (ws' := [(mo, .inr (13, MF 30 (rf v (skipH f n i) br))), (qx, .inl (cB, NN, .inl f)), (t, .inr (12, MF 13 (tw T1))), (T1.au, .inl (cC, T1.U, .inl T1.un))]) [0, 1, 2, 13] rfl
          have hDc := hD.sub (ws' := [(mo, .inr (13, MF 30 (rf v (skipH f n i) br))), (qx, .inl (cB, NN, .inl f)), (t, .inr (12, MF 13 (tw T1))), (T1.au, .inl (cC, T1.U, .inl T1.un))]) [0, 1, 2, 13] (by decide) rfl
          have hKc := hK.sub (tys' := [(cB, .byte), (cC, .char)]) [0, 3] rfl
          have hFc := va_free (wc := [(mo, .inr (13, MF 30 (rf v (skipH f n i) br))), (qx, .inl (cB, NN, .inl f)), (t, .inr (12, MF 13 (tw T1))), (T1.au, .inl (cC, T1.U, .inl T1.un))]) hD hS hA [0, 1, 2, 13] rfl
          refine w_same (fun hq0 => ?_)
          refine va_calli (va_runV (As := [.int 34, .ref t]) (rest := []) ⟨hx, hb, hml, hown, hts⟩ (c_Mo_quoted l dC dI mo H v cB cC qx NN f n K t T1 (skipH f n i) br 34 hnN hNN (by omega) h6 h8 (by decide) hTk_T1 (by omega)) (cwV 2 hts (gt_V (own := R_Mo) (C := R_Mo) (i := 200) (y := y_Mo_quoted) i_Mo_quoted w_1261 w_1263 (gt_sel (y := y_Mo_quoted) (n := 30) (by decide +kernel)) w_7) rfl rfl rfl (by decide +kernel) ⟨Nat.le_trans (m := 8) (Nat.le_of_ble_eq_true rfl) (Nat.le_add_right 8 (2 * (r + 1))), Nat.le_trans (m := 300) (Nat.le_of_ble_eq_true rfl) (Nat.le_add_right 300 (80 * (r + 1)))⟩) ⟨me_blind, va_recv hKc hPc (ci := 13) (q0 := 0) rfl rfl, fun U hU hW => ⟨rfl, ⟨hU, by rw [hU]; exact hPc, va_K.moved hW.alike hKc, hDc.weaken (fun _ _ _ _ => trivial)⟩, by rw [hU]; exact ME.call hM hS.2.1 hFc hW⟩⟩ rfl rfl hl.1 rfl (lv_room (Nat.le_of_ble_eq_true rfl)) d_Mo_value_107 ⟨(hGB_T1.stepQ (C2 := T1.us + (n + 12 - (skipH f n i))) (by omega)).1, (hGB_T1.stepQ (C2 := T1.us + (n + 12 - (skipH f n i))) (by omega)).2⟩) hS (fun q _ h => hFc q h) hFc (fun r0 ⟨T2, us9, j_T2, b_T2⟩ t9 H1 locs ht hvm hw hB hz1 hk1 hS => ?_)
          obtain ⟨⟨hP1, hK1, hD1⟩, hz9⟩ := hB
          rw [ht] at hP1
          rw [ht] at hz9
          obtain ⟨hX_T2, hw⟩ := hw
          have hX_T2 : TX T1 T2 us9 := hX_T2
          have hXa_T2 := hX_T2.alk
          have hXs_T2 := hX_T2.us
          have hln_T2 : us9.length ≤ n + 12 - (skipH f n i) := by rcases hw with ⟨_, _, h9, h8⟩ | ⟨_, _, h9, _⟩; exact Nat.le_sub_of_add_le (show us9.length + (skipH f n i) ≤ n + 12 by have h8 : us9.length + (skipH f n i) + 2 ≤ j_T2 := h8; have h9 : j_T2 ≤ n := h9; omega); exact h9
          obtain ⟨hGB_T2, hGc_T2, hGs_T2⟩ := hGB_T1.tr hX_T2.gb.1 (Nat.zero_le _) (show T1.us + us9.length ≤ (T.us + (n + 12 - i)) by omega)
          rw [← hX_T2.gb.2.1] at hGc_T2
          rw [← hX_T2.gb.2.2] at hGs_T2
          have hz9 : szk H H1 (T2.U - T1.U) (2 * (T2.U - T1.U)) := hz9
          have hq1 : szk s.heap H1 (cE T T2) (sE T T2) := (hq0.trans hz9).mono hGc_T2 hGs_T2
          refine w_tight hq1 ?_
          obtain ⟨hP, hD⟩ := va_join (wr := [(T1.a0, .inl (cI, T1.N, .inl T1.kd)), (T1.a1, .inl (cL, T1.N, .inr (.inl T1.nu))), (T1.a2, .inl (cI, T1.N, .inl T1.st)), (T1.a3, .inl (cI, T1.N, .inl T1.ln)), (T1.a4, .inl (cI, T1.N, .inl T1.ki)), (T1.a5, .inl (cI, T1.N, .inl T1.nx)), (T1.a6, .inl (cI, T1.N, .inl T1.ns)), (T1.a7, .inl (cI, T1.N, .inl T1.nl)), (T1.a8, .inl (cI, T1.N, .inl T1.pa)), (T1.a9, .inl (cI, T1.N, .inl T1.pl))]) (w1 := [(mo, .inr (13, MF 30 (rf v j_T2 b_T2))), (qx, .inl (cB, NN, .inl f)), (t, .inr (12, MF 13 (tw T2))), (T2.au, .inl (cC, T2.U, .inl T2.un))]) hP hD [0, 1, 2, 13] [3, 4, 5, 6, 7, 8, 9, 10, 11, 12] rfl rfl (by decide) (by decide) hk1 hFc hP1 hD1
          generalize H1 = H at hP hS ⊢
          have hP : va_P (dC, dI) classes [(T1.a0, .inl (cI, T1.N, .inl T1.kd)), (T1.a1, .inl (cL, T1.N, .inr (.inl T1.nu))), (T1.a2, .inl (cI, T1.N, .inl T1.st)), (T1.a3, .inl (cI, T1.N, .inl T1.ln)), (T1.a4, .inl (cI, T1.N, .inl T1.ki)), (T1.a5, .inl (cI, T1.N, .inl T1.nx)), (T1.a6, .inl (cI, T1.N, .inl T1.ns)), (T1.a7, .inl (cI, T1.N, .inl T1.nl)), (T1.a8, .inl (cI, T1.N, .inl T1.pa)), (T1.a9, .inl (cI, T1.N, .inl T1.pl)), (mo, .inr (13, MF 30 (rf v j_T2 b_T2))), (qx, .inl (cB, NN, .inl f)), (t, .inr (12, MF 13 (tw T2))), (T2.au, .inl (cC, T2.U, .inl T2.un))] H := hP
          have hD : va_D A [(T1.a0, .inl (cI, T1.N, .inl T1.kd)), (T1.a1, .inl (cL, T1.N, .inr (.inl T1.nu))), (T1.a2, .inl (cI, T1.N, .inl T1.st)), (T1.a3, .inl (cI, T1.N, .inl T1.ln)), (T1.a4, .inl (cI, T1.N, .inl T1.ki)), (T1.a5, .inl (cI, T1.N, .inl T1.nx)), (T1.a6, .inl (cI, T1.N, .inl T1.ns)), (T1.a7, .inl (cI, T1.N, .inl T1.nl)), (T1.a8, .inl (cI, T1.N, .inl T1.pa)), (T1.a9, .inl (cI, T1.N, .inl T1.pl)), (mo, .inr (13, MF 30 (rf v j_T2 b_T2))), (qx, .inl (cB, NN, .inl f)), (t, .inr (12, MF 13 (tw T2))), (T2.au, .inl (cC, T2.U, .inl T2.un))] := hD
          have hP := hP.sub (ws' := [(mo, .inr (13, MF 30 (rf v j_T2 b_T2))), (qx, .inl (cB, NN, .inl f)), (t, .inr (12, MF 13 (tw T2))), (T1.a0, .inl (cI, T1.N, .inl T1.kd)), (T1.a1, .inl (cL, T1.N, .inr (.inl T1.nu))), (T1.a2, .inl (cI, T1.N, .inl T1.st)), (T1.a3, .inl (cI, T1.N, .inl T1.ln)), (T1.a4, .inl (cI, T1.N, .inl T1.ki)), (T1.a5, .inl (cI, T1.N, .inl T1.nx)), (T1.a6, .inl (cI, T1.N, .inl T1.ns)), (T1.a7, .inl (cI, T1.N, .inl T1.nl)), (T1.a8, .inl (cI, T1.N, .inl T1.pa)), (T1.a9, .inl (cI, T1.N, .inl T1.pl)), (T2.au, .inl (cC, T2.U, .inl T2.un))]) [10, 11, 12, 0, 1, 2, 3, 4, 5, 6, 7, 8, 9, 13] rfl
          have hD := hD.sub (ws' := [(mo, .inr (13, MF 30 (rf v j_T2 b_T2))), (qx, .inl (cB, NN, .inl f)), (t, .inr (12, MF 13 (tw T2))), (T1.a0, .inl (cI, T1.N, .inl T1.kd)), (T1.a1, .inl (cL, T1.N, .inr (.inl T1.nu))), (T1.a2, .inl (cI, T1.N, .inl T1.st)), (T1.a3, .inl (cI, T1.N, .inl T1.ln)), (T1.a4, .inl (cI, T1.N, .inl T1.ki)), (T1.a5, .inl (cI, T1.N, .inl T1.nx)), (T1.a6, .inl (cI, T1.N, .inl T1.ns)), (T1.a7, .inl (cI, T1.N, .inl T1.nl)), (T1.a8, .inl (cI, T1.N, .inl T1.pa)), (T1.a9, .inl (cI, T1.N, .inl T1.pl)), (T2.au, .inl (cC, T2.U, .inl T2.un))]) [10, 11, 12, 0, 1, 2, 3, 4, 5, 6, 7, 8, 9, 13] (by decide) rfl
          have hP := hP.sub (ws' := [(mo, .inr (13, MF 30 (rf v j_T2 b_T2))), (qx, .inl (cB, NN, .inl f)), (t, .inr (12, MF 13 (tw T2))), (T1.a0, .inl (cI, T1.N, .inl T1.kd)), (T1.a1, .inl (cL, T1.N, .inr (.inl T1.nu))), (T1.a2, .inl (cI, T1.N, .inl T1.st)), (T1.a3, .inl (cI, T1.N, .inl T1.ln)), (T1.a4, .inl (cI, T1.N, .inl T1.ki)), (T1.a5, .inl (cI, T1.N, .inl T1.nx)), (T1.a6, .inl (cI, T1.N, .inl T1.ns)), (T1.a7, .inl (cI, T1.N, .inl T1.nl)), (T1.a8, .inl (cI, T1.N, .inl T1.pa)), (T1.a9, .inl (cI, T1.N, .inl T1.pl)), (T2.au, .inl (cC, T2.U, .inl T2.un))]) [0, 1, 2, 3, 4, 5, 6, 7, 8, 9, 10, 11, 12, 13] rfl
          have hD := hD.sub (ws' := [(mo, .inr (13, MF 30 (rf v j_T2 b_T2))), (qx, .inl (cB, NN, .inl f)), (t, .inr (12, MF 13 (tw T2))), (T1.a0, .inl (cI, T1.N, .inl T1.kd)), (T1.a1, .inl (cL, T1.N, .inr (.inl T1.nu))), (T1.a2, .inl (cI, T1.N, .inl T1.st)), (T1.a3, .inl (cI, T1.N, .inl T1.ln)), (T1.a4, .inl (cI, T1.N, .inl T1.ki)), (T1.a5, .inl (cI, T1.N, .inl T1.nx)), (T1.a6, .inl (cI, T1.N, .inl T1.ns)), (T1.a7, .inl (cI, T1.N, .inl T1.nl)), (T1.a8, .inl (cI, T1.N, .inl T1.pa)), (T1.a9, .inl (cI, T1.N, .inl T1.pl)), (T2.au, .inl (cC, T2.U, .inl T2.un))]) [0, 1, 2, 3, 4, 5, 6, 7, 8, 9, 10, 11, 12, 13] (by decide) rfl
          have hP : va_P (dC, dI) classes [(mo, .inr (13, MF 30 (rf v j_T2 b_T2))), (qx, .inl (cB, NN, .inl f)), (t, .inr (12, MF 13 (tw T2))), (T2.a0, .inl (cI, T2.N, .inl T2.kd)), (T2.a1, .inl (cL, T2.N, .inr (.inl T2.nu))), (T2.a2, .inl (cI, T2.N, .inl T2.st)), (T2.a3, .inl (cI, T2.N, .inl T2.ln)), (T2.a4, .inl (cI, T2.N, .inl T2.ki)), (T2.a5, .inl (cI, T2.N, .inl T2.nx)), (T2.a6, .inl (cI, T2.N, .inl T2.ns)), (T2.a7, .inl (cI, T2.N, .inl T2.nl)), (T2.a8, .inl (cI, T2.N, .inl T2.pa)), (T2.a9, .inl (cI, T2.N, .inl T2.pl)), (T2.au, .inl (cC, T2.U, .inl T2.un))] H := by obtain ⟨_, _, _, rfl, _⟩ := hX_T2; exact hP
          have hD : va_D A [(mo, .inr (13, MF 30 (rf v j_T2 b_T2))), (qx, .inl (cB, NN, .inl f)), (t, .inr (12, MF 13 (tw T2))), (T2.a0, .inl (cI, T2.N, .inl T2.kd)), (T2.a1, .inl (cL, T2.N, .inr (.inl T2.nu))), (T2.a2, .inl (cI, T2.N, .inl T2.st)), (T2.a3, .inl (cI, T2.N, .inl T2.ln)), (T2.a4, .inl (cI, T2.N, .inl T2.ki)), (T2.a5, .inl (cI, T2.N, .inl T2.nx)), (T2.a6, .inl (cI, T2.N, .inl T2.ns)), (T2.a7, .inl (cI, T2.N, .inl T2.nl)), (T2.a8, .inl (cI, T2.N, .inl T2.pa)), (T2.a9, .inl (cI, T2.N, .inl T2.pl)), (T2.au, .inl (cC, T2.U, .inl T2.un))] := by obtain ⟨_, _, _, rfl, _⟩ := hX_T2; exact hD
          rcases hw with ⟨ho_1, ho_2, ho_3, ho_4⟩ | ⟨ho_1, ho_2, ho_3, ho_4⟩
          · have ho_2 : qtQ f n 34 (skipH f n i) = some (us9, j_T2) := ho_2
            have ho_3 : j_T2 ≤ n := ho_3
            have ho_4 : us9.length + (skipH f n i) + 2 ≤ j_T2 := ho_4
            have hqt_T2 := ho_2
            have hTk_T2 := hX_T2.ok hTk_T1 (by omega)
            have hTk_T2 := hX_T2.ok hTk_T1 (by omega)
            subst ho_1
            have hfit_T2 := hGB_T2.fits
            refine lv_if_ne (tgt := 115) hx hb d_Mo_value_110 (by decide) (fun _ => ?_) (fun h => absurd h (by decide))
            refine lv_aload_n hx hb d_Mo_value_115 rfl (lv_at hl 3 rfl) ?_
            refine va_get (D := (dC, dI)) (ci := 12) (v := .ref T2.a3) (C := R_Tree) (T := F_Tree) (N := 13) hx hb hts in_Tree hown hK hP 2 rfl rfl 3 (by decide) (hts _ w_1041) (fun _ h9 => h9) (MFg (by decide) rfl) d_Mo_value_116 ?_
            refine lv_iload hx hb d_Mo_value_119 (lv_at hl 0 rfl) ?_
            refine lv_aload_n hx hb d_Mo_value_121 rfl (lv_at hl 3 rfl) ?_
            refine va_get (D := (dC, dI)) (ci := 12) (v := .int (nI T2.us)) (C := R_Tree) (T := F_Tree) (N := 13) hx hb hts in_Tree hown hK hP 2 rfl rfl 12 (by decide) (hts _ w_1058) (fun _ h9 => h9) (MFg (by decide) rfl) d_Mo_value_122 ?_
            refine lv_aload_n hx hb d_Mo_value_125 rfl (lv_at hl 3 rfl) ?_
            refine va_get (D := (dC, dI)) (ci := 12) (v := .ref T2.a2) (C := R_Tree) (T := F_Tree) (N := 13) hx hb hts in_Tree hown hK hP 2 rfl rfl 2 (by decide) (hts _ w_1039) (fun _ h9 => h9) (MFg (by decide) rfl) d_Mo_value_126 ?_
            refine lv_iload hx hb d_Mo_value_129 (lv_at hl 0 rfl) ?_
            have hst2 : T2.st T.ct = nI T.us := by rw [(hXa_T2.1 T.ct trivial).2.2.1]; exact hA_T1.2.2.2.2.2.2.2.2.2.2.2.2.2
            refine va_iald hx hb hK hP 5 1 rfl rfl (vp_in_nI (show T.ct < T2.N by have := hTk_T2.2.2.1; omega) (by have := hTk_T2.2.1; omega)) d_Mo_value_131 ?_
            rw [show (nI T.ct).toNatClampNeg = T.ct from nI_clamp (by omega), hst2]
            refine lv_isub hx hb d_Mo_value_132 ?_
            refine W.eq (g2 := F0 m 133 ls [.int (nI us9.length), .int (nI T.ct), .ref T2.a3]) (by rw [show ((nI T2.us) - (nI T.us)) = (nI us9.length) from (by rw [hXs_T2, hAc_T1.2]; exact nI_asub _ _)]) ?_
            refine va_iast hx hb hK hP hD hS 6 1 rfl rfl (vp_in_nI (show T.ct < T2.N by have := hTk_T2.2.2.1; omega) (by have := hTk_T2.2.1; omega)) d_Mo_value_133 (fun H locs hP hD hS => ?_)
            rw [show (nI T.ct).toNatClampNeg = T.ct from nI_clamp (by omega)] at hP hD
            have hP : va_P (dC, dI) classes [(mo, .inr (13, MF 30 (rf v j_T2 b_T2))), (qx, .inl (cB, NN, .inl f)), (t, .inr (12, MF 13 (tw T2))), (T2.a0, .inl (cI, T2.N, .inl T2.kd)), (T2.a1, .inl (cL, T2.N, .inr (.inl T2.nu))), (T2.a2, .inl (cI, T2.N, .inl T2.st)), (T2.a3, .inl (cI, T2.N, .inl (upd T2.ln T.ct (nI us9.length)))), (T2.a4, .inl (cI, T2.N, .inl T2.ki)), (T2.a5, .inl (cI, T2.N, .inl T2.nx)), (T2.a6, .inl (cI, T2.N, .inl T2.ns)), (T2.a7, .inl (cI, T2.N, .inl T2.nl)), (T2.a8, .inl (cI, T2.N, .inl T2.pa)), (T2.a9, .inl (cI, T2.N, .inl T2.pl)), (T2.au, .inl (cC, T2.U, .inl T2.un))] H := hP
            have hD : va_D A [(mo, .inr (13, MF 30 (rf v j_T2 b_T2))), (qx, .inl (cB, NN, .inl f)), (t, .inr (12, MF 13 (tw T2))), (T2.a0, .inl (cI, T2.N, .inl T2.kd)), (T2.a1, .inl (cL, T2.N, .inr (.inl T2.nu))), (T2.a2, .inl (cI, T2.N, .inl T2.st)), (T2.a3, .inl (cI, T2.N, .inl (upd T2.ln T.ct (nI us9.length)))), (T2.a4, .inl (cI, T2.N, .inl T2.ki)), (T2.a5, .inl (cI, T2.N, .inl T2.nx)), (T2.a6, .inl (cI, T2.N, .inl T2.ns)), (T2.a7, .inl (cI, T2.N, .inl T2.nl)), (T2.a8, .inl (cI, T2.N, .inl T2.pa)), (T2.a9, .inl (cI, T2.N, .inl T2.pl)), (T2.au, .inl (cC, T2.U, .inl T2.un))] := hD
            obtain ⟨T3, e_T3⟩ : ∃ z : TS, z = (TS.mk T2.N T2.U T2.ct T2.us T2.a0 T2.a1 T2.a2 T2.a3 T2.a4 T2.a5 T2.a6 T2.a7 T2.a8 T2.a9 T2.au T2.kd T2.st (upd T2.ln T.ct (nI us9.length)) T2.ki T2.nx T2.ns T2.nl T2.pa T2.pl T2.un T2.nu) := ⟨_, rfl⟩
            have hP : va_P (dC, dI) classes [(mo, .inr (13, MF 30 (rf v j_T2 b_T2))), (qx, .inl (cB, NN, .inl f)), (t, .inr (12, MF 13 (tw T3))), (T3.a0, .inl (cI, T3.N, .inl T3.kd)), (T3.a1, .inl (cL, T3.N, .inr (.inl T3.nu))), (T3.a2, .inl (cI, T3.N, .inl T3.st)), (T3.a3, .inl (cI, T3.N, .inl T3.ln)), (T3.a4, .inl (cI, T3.N, .inl T3.ki)), (T3.a5, .inl (cI, T3.N, .inl T3.nx)), (T3.a6, .inl (cI, T3.N, .inl T3.ns)), (T3.a7, .inl (cI, T3.N, .inl T3.nl)), (T3.a8, .inl (cI, T3.N, .inl T3.pa)), (T3.a9, .inl (cI, T3.N, .inl T3.pl)), (T3.au, .inl (cC, T3.U, .inl T3.un))] H := by subst e_T3; exact hP
            have hD : va_D A [(mo, .inr (13, MF 30 (rf v j_T2 b_T2))), (qx, .inl (cB, NN, .inl f)), (t, .inr (12, MF 13 (tw T3))), (T3.a0, .inl (cI, T3.N, .inl T3.kd)), (T3.a1, .inl (cL, T3.N, .inr (.inl T3.nu))), (T3.a2, .inl (cI, T3.N, .inl T3.st)), (T3.a3, .inl (cI, T3.N, .inl T3.ln)), (T3.a4, .inl (cI, T3.N, .inl T3.ki)), (T3.a5, .inl (cI, T3.N, .inl T3.nx)), (T3.a6, .inl (cI, T3.N, .inl T3.ns)), (T3.a7, .inl (cI, T3.N, .inl T3.nl)), (T3.a8, .inl (cI, T3.N, .inl T3.pa)), (T3.a9, .inl (cI, T3.N, .inl T3.pl)), (T3.au, .inl (cC, T3.U, .inl T3.un))] := by subst e_T3; exact hD
            have hT3 : T3.N = T2.N ∧ T3.U = T2.U ∧ T3.ct = T2.ct ∧ T3.us = T2.us ∧ T3.un = T2.un ∧ T3.kd = T2.kd ∧ T3.nu = T2.nu ∧ T3.st = T2.st ∧ T3.ln = upd T2.ln T.ct (nI us9.length) ∧ T3.pa = T2.pa ∧ T3.ki = T2.ki ∧ T3.nx = T2.nx ∧ T3.ns = T2.ns ∧ T3.nl = T2.nl := by rw [e_T3]; exact ⟨rfl, rfl, rfl, rfl, rfl, rfl, rfl, rfl, rfl, rfl, rfl, rfl, rfl, rfl⟩
            obtain ⟨g1, g2, g3, g4, g5, g6, g7, g8, g9, g10, g11, g12, g13, g14⟩ := hT3
            have hTk_T3 : TOK T3 := by obtain ⟨q1, q2, q3, q4, q5, q6, q7⟩ := hTk_T2; exact ⟨by omega, by omega, by omega, by omega, by omega, by omega, by rw [g5]; exact q7⟩
            refine w_same (fun hq => ?_)
            refine w_tight (k := cE T T3) (n := sE T T3) (by unfold cE sE at hq ⊢; rw [g1, g2]; exact hq) ?_
            have hGB_T3 : GB (T.ct + (n + 12 - i)) (T.us + (n + 12 - i)) T T3 := by unfold GB at hGB_T2 ⊢; rw [g1, g2]; exact hGB_T2
            have hfit_T3 := hGB_T3.fits
            have hAA := hA_T1.2.2.2.2.2.2.2
            have hXX := hXa_T2.1 T.ct trivial
            have hTEn : TE T T3 := TE_of (hA_T1.te.trans hX_T2.te) g3 g4 g5 (fun j9 h9 => ⟨by rw [g6], by rw [g7], by rw [g8], by rw [g9]; exact pk_un (by omega), by rw [g11], by rw [g12], by rw [g13], by rw [g14], by rw [g10]⟩)
            have hRepn : RepL T3 T.ct (4, 0, us9.map c16) := ⟨by rw [g6, hXX.1]; exact hAA.1, by show 4 ≤ 6; omega, fun h => absurd h (by show ¬ 4 = 3; omega), fun _ => ⟨T.us, us9.length, by rw [g8]; exact hst2, by rw [g9]; exact pk_us, by omega, by rw [g5, ← hAc_T1.2]; exact hX_T2.un.2⟩, fun h => absurd rfl h⟩
            have hkin : T3.ki T.ct = -1 := by rw [g11, hXX.2.2.2.2.1]; exact hAA.2.1
            have hpan : T3.pa T.ct = -1 := by rw [g10, hXX.2.2.2.2.2.2.2.2]; exact hAA.2.2.2.1
            have hctn : T3.ct = T.ct + 1 := by omega
            have husn : T3.us = T.us + us9.length := by omega
            have hpl : pLeaf f n (skipH f n i) = some ((4, 0, us9.map c16), j_T2) := by unfold pLeaf; rw [if_neg (fun h => c12 (h_r1.trans h)), if_neg (fun h => c18 (h_r1.trans h)), if_neg (fun h => c24 (h_r1.trans h)), if_pos hq34, hqt_T2]
            have hnc : ¬ (hereV f n (skipH f n i) = 91 ∨ hereV f n (skipH f n i) = 123) := fun h => by rw [hq34] at h; revert h; decide
            refine lv_goto (tgt := 253) hx hb d_Mo_value_134 (by decide) ?_
            refine lv_aload_n hx hb d_Mo_value_253 rfl (lv_at hl 2 rfl) ?_
            have hPc := hP.sub (ws' := [(mo, .inr (13, MF 30 (rf v j_T2 b_T2))), (qx, .inl (cB, NN, .inl f))]) [0, 1] rfl
            have hDc := hD.sub (ws' := [(mo, .inr (13, MF 30 (rf v j_T2 b_T2))), (qx, .inl (cB, NN, .inl f))]) [0, 1] (by decide) rfl
            have hKc := hK.sub (tys' := [(cB, .byte)]) [0] rfl
            have hFc := va_free (wc := [(mo, .inr (13, MF 30 (rf v j_T2 b_T2))), (qx, .inl (cB, NN, .inl f))]) hD hS hA [0, 1] rfl
            refine va_callv (va_runV (As := []) (rest := []) ⟨hx, hb, hml, hown, hts⟩ (c_Mo_blanks l dC dI mo H (rf v j_T2 b_T2) cB qx NN f n j_T2 (by omega) (by omega) (by omega) ((rf_ne (by decide) (by decide)).trans h6) rf_7 ((rf_ne (by decide) (by decide)).trans h8)) (cwV 0 hts (gt_V (own := R_Mo) (C := R_Mo) (i := 184) (y := y_Mo_blanks) i_Mo_blanks w_1229 w_1231 (gt_sel (y := y_Mo_blanks) (n := 30) (by decide +kernel)) w_7) rfl rfl rfl (by decide +kernel) ⟨Nat.le_trans (m := 8) (Nat.le_of_ble_eq_true rfl) (Nat.le_add_right 8 (2 * (r + 1))), Nat.le_trans (m := 300) (Nat.le_of_ble_eq_true rfl) (Nat.le_add_right 300 (80 * (r + 1)))⟩) ⟨mp_blind, va_recv hKc hPc (ci := 13) (q0 := 0) rfl rfl, fun U hU hW => ⟨rfl, hU, by rw [hU]; exact hPc, va_K.moved hW.alike hKc, hDc.weaken (fun _ _ _ _ => trivial)⟩⟩ rfl rfl hl.1 rfl (lv_room (Nat.le_of_ble_eq_true rfl)) d_Mo_value_254 ⟨hfit_T3.1, hfit_T3.2⟩) hS (fun q _ h => hFc q h) hFc (fun _u t9 H1 locs ht hvm hw hB hz1 hk1 hS => ?_)
            obtain ⟨hP1, hK1, hD1⟩ := hB
            rw [ht] at hP1
            obtain ⟨hP, hD⟩ := va_join (wr := [(t, .inr (12, MF 13 (tw T3))), (T3.a0, .inl (cI, T3.N, .inl T3.kd)), (T3.a1, .inl (cL, T3.N, .inr (.inl T3.nu))), (T3.a2, .inl (cI, T3.N, .inl T3.st)), (T3.a3, .inl (cI, T3.N, .inl T3.ln)), (T3.a4, .inl (cI, T3.N, .inl T3.ki)), (T3.a5, .inl (cI, T3.N, .inl T3.nx)), (T3.a6, .inl (cI, T3.N, .inl T3.ns)), (T3.a7, .inl (cI, T3.N, .inl T3.nl)), (T3.a8, .inl (cI, T3.N, .inl T3.pa)), (T3.a9, .inl (cI, T3.N, .inl T3.pl)), (T3.au, .inl (cC, T3.U, .inl T3.un))]) (w1 := [(mo, .inr (13, MF 30 (va_up (rf v j_T2 b_T2) 7 (.int (nI (skipH f n j_T2)))))), (qx, .inl (cB, NN, .inl f))]) hP hD [0, 1] [2, 3, 4, 5, 6, 7, 8, 9, 10, 11, 12, 13] rfl rfl (by decide) (by decide) hk1 hFc hP1 hD1
            generalize H1 = H at hP hS ⊢
            have hP : va_P (dC, dI) classes [(t, .inr (12, MF 13 (tw T3))), (T3.a0, .inl (cI, T3.N, .inl T3.kd)), (T3.a1, .inl (cL, T3.N, .inr (.inl T3.nu))), (T3.a2, .inl (cI, T3.N, .inl T3.st)), (T3.a3, .inl (cI, T3.N, .inl T3.ln)), (T3.a4, .inl (cI, T3.N, .inl T3.ki)), (T3.a5, .inl (cI, T3.N, .inl T3.nx)), (T3.a6, .inl (cI, T3.N, .inl T3.ns)), (T3.a7, .inl (cI, T3.N, .inl T3.nl)), (T3.a8, .inl (cI, T3.N, .inl T3.pa)), (T3.a9, .inl (cI, T3.N, .inl T3.pl)), (T3.au, .inl (cC, T3.U, .inl T3.un)), (mo, .inr (13, MF 30 (va_up (rf v j_T2 b_T2) 7 (.int (nI (skipH f n j_T2)))))), (qx, .inl (cB, NN, .inl f))] H := hP
            have hD : va_D A [(t, .inr (12, MF 13 (tw T3))), (T3.a0, .inl (cI, T3.N, .inl T3.kd)), (T3.a1, .inl (cL, T3.N, .inr (.inl T3.nu))), (T3.a2, .inl (cI, T3.N, .inl T3.st)), (T3.a3, .inl (cI, T3.N, .inl T3.ln)), (T3.a4, .inl (cI, T3.N, .inl T3.ki)), (T3.a5, .inl (cI, T3.N, .inl T3.nx)), (T3.a6, .inl (cI, T3.N, .inl T3.ns)), (T3.a7, .inl (cI, T3.N, .inl T3.nl)), (T3.a8, .inl (cI, T3.N, .inl T3.pa)), (T3.a9, .inl (cI, T3.N, .inl T3.pl)), (T3.au, .inl (cC, T3.U, .inl T3.un)), (mo, .inr (13, MF 30 (va_up (rf v j_T2 b_T2) 7 (.int (nI (skipH f n j_T2)))))), (qx, .inl (cB, NN, .inl f))] := hD
            have hP := hP.sub (ws' := [(mo, .inr (13, MF 30 (va_up (rf v j_T2 b_T2) 7 (.int (nI (skipH f n j_T2)))))), (qx, .inl (cB, NN, .inl f)), (t, .inr (12, MF 13 (tw T3))), (T3.a0, .inl (cI, T3.N, .inl T3.kd)), (T3.a1, .inl (cL, T3.N, .inr (.inl T3.nu))), (T3.a2, .inl (cI, T3.N, .inl T3.st)), (T3.a3, .inl (cI, T3.N, .inl T3.ln)), (T3.a4, .inl (cI, T3.N, .inl T3.ki)), (T3.a5, .inl (cI, T3.N, .inl T3.nx)), (T3.a6, .inl (cI, T3.N, .inl T3.ns)), (T3.a7, .inl (cI, T3.N, .inl T3.nl)), (T3.a8, .inl (cI, T3.N, .inl T3.pa)), (T3.a9, .inl (cI, T3.N, .inl T3.pl)), (T3.au, .inl (cC, T3.U, .inl T3.un))]) [12, 13, 0, 1, 2, 3, 4, 5, 6, 7, 8, 9, 10, 11] rfl
            have hD := hD.sub (ws' := [(mo, .inr (13, MF 30 (va_up (rf v j_T2 b_T2) 7 (.int (nI (skipH f n j_T2)))))), (qx, .inl (cB, NN, .inl f)), (t, .inr (12, MF 13 (tw T3))), (T3.a0, .inl (cI, T3.N, .inl T3.kd)), (T3.a1, .inl (cL, T3.N, .inr (.inl T3.nu))), (T3.a2, .inl (cI, T3.N, .inl T3.st)), (T3.a3, .inl (cI, T3.N, .inl T3.ln)), (T3.a4, .inl (cI, T3.N, .inl T3.ki)), (T3.a5, .inl (cI, T3.N, .inl T3.nx)), (T3.a6, .inl (cI, T3.N, .inl T3.ns)), (T3.a7, .inl (cI, T3.N, .inl T3.nl)), (T3.a8, .inl (cI, T3.N, .inl T3.pa)), (T3.a9, .inl (cI, T3.N, .inl T3.pl)), (T3.au, .inl (cC, T3.U, .inl T3.un))]) [12, 13, 0, 1, 2, 3, 4, 5, 6, 7, 8, 9, 10, 11] (by decide) rfl
            rw [rf_u7] at hP hD
            have hP : va_P (dC, dI) classes [(mo, .inr (13, MF 30 (rf v (skipH f n j_T2) b_T2))), (qx, .inl (cB, NN, .inl f)), (t, .inr (12, MF 13 (tw T3))), (T3.a0, .inl (cI, T3.N, .inl T3.kd)), (T3.a1, .inl (cL, T3.N, .inr (.inl T3.nu))), (T3.a2, .inl (cI, T3.N, .inl T3.st)), (T3.a3, .inl (cI, T3.N, .inl T3.ln)), (T3.a4, .inl (cI, T3.N, .inl T3.ki)), (T3.a5, .inl (cI, T3.N, .inl T3.nx)), (T3.a6, .inl (cI, T3.N, .inl T3.ns)), (T3.a7, .inl (cI, T3.N, .inl T3.nl)), (T3.a8, .inl (cI, T3.N, .inl T3.pa)), (T3.a9, .inl (cI, T3.N, .inl T3.pl)), (T3.au, .inl (cC, T3.U, .inl T3.un))] H := hP
            have hD : va_D A [(mo, .inr (13, MF 30 (rf v (skipH f n j_T2) b_T2))), (qx, .inl (cB, NN, .inl f)), (t, .inr (12, MF 13 (tw T3))), (T3.a0, .inl (cI, T3.N, .inl T3.kd)), (T3.a1, .inl (cL, T3.N, .inr (.inl T3.nu))), (T3.a2, .inl (cI, T3.N, .inl T3.st)), (T3.a3, .inl (cI, T3.N, .inl T3.ln)), (T3.a4, .inl (cI, T3.N, .inl T3.ki)), (T3.a5, .inl (cI, T3.N, .inl T3.nx)), (T3.a6, .inl (cI, T3.N, .inl T3.ns)), (T3.a7, .inl (cI, T3.N, .inl T3.nl)), (T3.a8, .inl (cI, T3.N, .inl T3.pa)), (T3.a9, .inl (cI, T3.N, .inl T3.pl)), (T3.au, .inl (cC, T3.U, .inl T3.un))] := hD
            have hsk_257 := skipH_n (f := f) (show j_T2 ≤ n by omega)
            refine lv_iload hx hb d_Mo_value_257 (lv_at hl 0 rfl) ?_
            have hpv : pV f n (r + 1) i = some (jleaf (r + 1) (4, 0, us9.map c16), (skipH f n j_T2)) := by rw [pV_leaf _ hnc, hpl]; rfl
            have hRV : RepV T3 (r + 1) T.ct T3.ct (jleaf (r + 1) (4, 0, us9.map c16)) := leafRep hRepn (by show (4 : Nat) < 5; omega) hkin hctn _
            refine w_same (fun hq => ?_)
            refine W.widen (k := ncap T (T.ct + (n + 12 - i)) + qcap T (T.us + (n + 12 - i))) (n := 20 * ncap T (T.ct + (n + 12 - i)) + 2 * qcap T (T.us + (n + 12 - i))) hfit_T3.1 hfit_T3.2 ?_
            have hTG : TG n i T T3 := ⟨hTk_T3, hGB_T3⟩
            exact W.iret (v := nI T.ct) hx hb hr (fun t9 ht hW => ⟨⟨nI T.ct, (T3, (skipH f n j_T2), b_T2), rfl, ⟨hTG, Or.inl ⟨(jleaf (r + 1) (4, 0, us9.map c16)), rfl, hpv, hRV, hTEn, hpan, by show T.ct < T3.ct; omega, by show T3.ct + i ≤ T.ct + (skipH f n j_T2); omega, by show T3.us + i ≤ T.us + (skipH f n j_T2); omega, by show (skipH f n j_T2) ≤ n; omega⟩⟩, ⟨by rw [ht]; exact hP, va_K.moved hW.alike hK, hD⟩, by rw [ht]; exact hq⟩, hS.F ht⟩) hS.2.2 d_Mo_value_259
          · have ho_2 : qtQ f n 34 (skipH f n i) = none := ho_2
            have ho_3 : us9.length ≤ n + 12 - (skipH f n i) := ho_3
            have ho_4 : j_T2 ≤ n + 30 := ho_4
            have hqt_T2 := ho_2
            have hTk_T2 := hX_T2.ok hTk_T1 (by omega)
            have hTk_T2 := hX_T2.ok hTk_T1 (by omega)
            subst ho_1
            have hfit_T2 := hGB_T2.fits
            refine lv_if_ne (tgt := 115) hx hb d_Mo_value_110 (by decide) (fun h => absurd h (by decide)) (fun _ => ?_)
            refine lv_iconst (v := (-1)) hx hb d_Mo_value_113 (by decide) ?_
            have hpl : pLeaf f n (skipH f n i) = none := by unfold pLeaf; rw [if_neg (fun h => c12 (h_r1.trans h)), if_neg (fun h => c18 (h_r1.trans h)), if_neg (fun h => c24 (h_r1.trans h)), if_pos hq34, hqt_T2]
            have hfin : pV f n (r + 1) i = none := by rw [pV_leaf _ (fun h => by rw [hq34] at h; revert h; decide), hpl]; rfl
            refine w_same (fun hq => ?_)
            refine W.widen (k := ncap T (T.ct + (n + 12 - i)) + qcap T (T.us + (n + 12 - i))) (n := 20 * ncap T (T.ct + (n + 12 - i)) + 2 * qcap T (T.us + (n + 12 - i))) hfit_T2.1 hfit_T2.2 ?_
            have hTG : TG n i T T2 := ⟨hTk_T2, hGB_T2⟩
            exact W.iret (v := -1) hx hb hr (fun t9 ht hW => ⟨⟨-1, (T2, j_T2, b_T2), rfl, ⟨hTG, Or.inr ⟨rfl, hfin⟩⟩, ⟨by rw [ht]; exact hP, va_K.moved hW.alike hK, hD⟩, by rw [ht]; exact hq⟩, hS.F ht⟩) hS.2.2 d_Mo_value_114
      · refine lv_aload_n hx hb d_Mo_value_27 rfl (lv_at hl 1 rfl) ?_
        refine lv_iload_n hx hb d_Mo_value_28 rfl (lv_at hl 0 rfl) ?_
        refine lv_bipush (v := 110) hx hb d_Mo_value_29 (by decide) ?_
        refine lv_icmp_ne (tgt := 39) hx hb d_Mo_value_31 (by decide) (fun _ => ?_) (fun h => absurd h c12)
        refine lv_iload_n hx hb d_Mo_value_39 rfl (lv_at hl 0 rfl) ?_
        refine lv_bipush (v := 116) hx hb d_Mo_value_40 (by decide) ?_
        refine lv_icmp_ne (tgt := 50) hx hb d_Mo_value_42 (by decide) (fun _ => ?_) (fun h => absurd h c18)
        refine va_ldcS hx hb hown (hM 3 _ rfl).2 d_Mo_value_50 ?_
        have hE := (hM 3 _ rfl).1
        have hPc := hP.sub (ws' := [(mo, .inr (13, MF 30 (rf v (skipH f n i) br))), (qx, .inl (cB, NN, .inl f))]) [0, 1] rfl
        have hDc := hD.sub (ws' := [(mo, .inr (13, MF 30 (rf v (skipH f n i) br))), (qx, .inl (cB, NN, .inl f))]) [0, 1] (by decide) rfl
        have hKc := hK.sub (tys' := [(cB, .byte)]) [0] rfl
        have hFc := va_free (wc := [(mo, .inr (13, MF 30 (rf v (skipH f n i) br))), (qx, .inl (cB, NN, .inl f))]) hD hS hA [0, 1] rfl
        refine va_calli (va_runV (As := [.ref (K 3).1]) (rest := []) ⟨hx, hb, hml, hown, hts⟩ (c_Mo_wordS l dC dI mo H (rf v (skipH f n i) br) cB qx NN f (K 3).1 (K 3).2 5 (mtx 3) n (skipH f n i) (by omega) (by omega) (by omega) ((rf_ne (by decide) (by decide)).trans h6) rf_7 ((rf_ne (by decide) (by decide)).trans h8) br rf_9 (by decide)) (cwV 1 hts (gt_V (own := R_Mo) (C := R_Mo) (i := 193) (y := y_Mo_wordS) i_Mo_wordS w_1240 w_1242 (gt_sel (y := y_Mo_wordS) (n := 30) (by decide +kernel)) w_7) rfl rfl rfl (by decide +kernel) ⟨Nat.le_trans (m := 8) (Nat.le_of_ble_eq_true rfl) (Nat.le_add_right 8 (2 * (r + 1))), Nat.le_trans (m := 300) (Nat.le_of_ble_eq_true rfl) (Nat.le_add_right 300 (80 * (r + 1)))⟩) ⟨mstr_blind, va_recv hKc hPc (ci := 13) (q0 := 0) rfl rfl, fun U hU hW => ⟨rfl, ⟨hU, by rw [hU]; exact hPc, va_K.moved hW.alike hKc, hDc.weaken (fun _ _ _ _ => trivial)⟩, by rw [hU]; exact SX.moved' hW.alike (SX.narrow' (SX.kept' hE hS.2.1) hFc)⟩⟩ rfl rfl hl.1 rfl (lv_room (Nat.le_of_ble_eq_true rfl)) d_Mo_value_52 ⟨hfit_T.1, hfit_T.2⟩) hS (fun q _ h => hFc q h) hFc (fun r0 u2 t9 H1 locs ht hvm hw hB hz1 hk1 hS => ?_)
        obtain ⟨hP1, hK1, hD1⟩ := hB
        rw [ht] at hP1
        obtain ⟨hP, hD⟩ := va_join (wr := [(t, .inr (12, MF 13 (tw T))), (T.a0, .inl (cI, T.N, .inl T.kd)), (T.a1, .inl (cL, T.N, .inr (.inl T.nu))), (T.a2, .inl (cI, T.N, .inl T.st)), (T.a3, .inl (cI, T.N, .inl T.ln)), (T.a4, .inl (cI, T.N, .inl T.ki)), (T.a5, .inl (cI, T.N, .inl T.nx)), (T.a6, .inl (cI, T.N, .inl T.ns)), (T.a7, .inl (cI, T.N, .inl T.nl)), (T.a8, .inl (cI, T.N, .inl T.pa)), (T.a9, .inl (cI, T.N, .inl T.pl)), (T.au, .inl (cC, T.U, .inl T.un))]) (w1 := [(mo, .inr (13, MF 30 u2)), (qx, .inl (cB, NN, .inl f))]) hP hD [0, 1] [2, 3, 4, 5, 6, 7, 8, 9, 10, 11, 12, 13] rfl rfl (by decide) (by decide) hk1 hFc hP1 hD1
        generalize H1 = H at hP hS ⊢
        have hP : va_P (dC, dI) classes [(t, .inr (12, MF 13 (tw T))), (T.a0, .inl (cI, T.N, .inl T.kd)), (T.a1, .inl (cL, T.N, .inr (.inl T.nu))), (T.a2, .inl (cI, T.N, .inl T.st)), (T.a3, .inl (cI, T.N, .inl T.ln)), (T.a4, .inl (cI, T.N, .inl T.ki)), (T.a5, .inl (cI, T.N, .inl T.nx)), (T.a6, .inl (cI, T.N, .inl T.ns)), (T.a7, .inl (cI, T.N, .inl T.nl)), (T.a8, .inl (cI, T.N, .inl T.pa)), (T.a9, .inl (cI, T.N, .inl T.pl)), (T.au, .inl (cC, T.U, .inl T.un)), (mo, .inr (13, MF 30 u2)), (qx, .inl (cB, NN, .inl f))] H := hP
        have hD : va_D A [(t, .inr (12, MF 13 (tw T))), (T.a0, .inl (cI, T.N, .inl T.kd)), (T.a1, .inl (cL, T.N, .inr (.inl T.nu))), (T.a2, .inl (cI, T.N, .inl T.st)), (T.a3, .inl (cI, T.N, .inl T.ln)), (T.a4, .inl (cI, T.N, .inl T.ki)), (T.a5, .inl (cI, T.N, .inl T.nx)), (T.a6, .inl (cI, T.N, .inl T.ns)), (T.a7, .inl (cI, T.N, .inl T.nl)), (T.a8, .inl (cI, T.N, .inl T.pa)), (T.a9, .inl (cI, T.N, .inl T.pl)), (T.au, .inl (cC, T.U, .inl T.un)), (mo, .inr (13, MF 30 u2)), (qx, .inl (cB, NN, .inl f))] := hD
        have hP := hP.sub (ws' := [(mo, .inr (13, MF 30 u2)), (qx, .inl (cB, NN, .inl f)), (t, .inr (12, MF 13 (tw T))), (T.a0, .inl (cI, T.N, .inl T.kd)), (T.a1, .inl (cL, T.N, .inr (.inl T.nu))), (T.a2, .inl (cI, T.N, .inl T.st)), (T.a3, .inl (cI, T.N, .inl T.ln)), (T.a4, .inl (cI, T.N, .inl T.ki)), (T.a5, .inl (cI, T.N, .inl T.nx)), (T.a6, .inl (cI, T.N, .inl T.ns)), (T.a7, .inl (cI, T.N, .inl T.nl)), (T.a8, .inl (cI, T.N, .inl T.pa)), (T.a9, .inl (cI, T.N, .inl T.pl)), (T.au, .inl (cC, T.U, .inl T.un))]) [12, 13, 0, 1, 2, 3, 4, 5, 6, 7, 8, 9, 10, 11] rfl
        have hD := hD.sub (ws' := [(mo, .inr (13, MF 30 u2)), (qx, .inl (cB, NN, .inl f)), (t, .inr (12, MF 13 (tw T))), (T.a0, .inl (cI, T.N, .inl T.kd)), (T.a1, .inl (cL, T.N, .inr (.inl T.nu))), (T.a2, .inl (cI, T.N, .inl T.st)), (T.a3, .inl (cI, T.N, .inl T.ln)), (T.a4, .inl (cI, T.N, .inl T.ki)), (T.a5, .inl (cI, T.N, .inl T.nx)), (T.a6, .inl (cI, T.N, .inl T.ns)), (T.a7, .inl (cI, T.N, .inl T.nl)), (T.a8, .inl (cI, T.N, .inl T.pa)), (T.a9, .inl (cI, T.N, .inl T.pl)), (T.au, .inl (cC, T.U, .inl T.un))]) [12, 13, 0, 1, 2, 3, 4, 5, 6, 7, 8, 9, 10, 11] (by decide) rfl
        rcases hw with ⟨hw1, hw2, hw3⟩ | ⟨hw1, hw2, k9, hw3⟩
        · rw [rf_u7] at hw3
          rw [hw3] at hP hD
          subst hw2
          have hP : va_P (dC, dI) classes [(mo, .inr (13, MF 30 (rf v ((skipH f n i) + 5) br))), (qx, .inl (cB, NN, .inl f)), (t, .inr (12, MF 13 (tw T))), (T.a0, .inl (cI, T.N, .inl T.kd)), (T.a1, .inl (cL, T.N, .inr (.inl T.nu))), (T.a2, .inl (cI, T.N, .inl T.st)), (T.a3, .inl (cI, T.N, .inl T.ln)), (T.a4, .inl (cI, T.N, .inl T.ki)), (T.a5, .inl (cI, T.N, .inl T.nx)), (T.a6, .inl (cI, T.N, .inl T.ns)), (T.a7, .inl (cI, T.N, .inl T.nl)), (T.a8, .inl (cI, T.N, .inl T.pa)), (T.a9, .inl (cI, T.N, .inl T.pl)), (T.au, .inl (cC, T.U, .inl T.un))] H := hP
          have hD : va_D A [(mo, .inr (13, MF 30 (rf v ((skipH f n i) + 5) br))), (qx, .inl (cB, NN, .inl f)), (t, .inr (12, MF 13 (tw T))), (T.a0, .inl (cI, T.N, .inl T.kd)), (T.a1, .inl (cL, T.N, .inr (.inl T.nu))), (T.a2, .inl (cI, T.N, .inl T.st)), (T.a3, .inl (cI, T.N, .inl T.ln)), (T.a4, .inl (cI, T.N, .inl T.ki)), (T.a5, .inl (cI, T.N, .inl T.nx)), (T.a6, .inl (cI, T.N, .inl T.ns)), (T.a7, .inl (cI, T.N, .inl T.nl)), (T.a8, .inl (cI, T.N, .inl T.pa)), (T.a9, .inl (cI, T.N, .inl T.pl)), (T.au, .inl (cC, T.U, .inl T.un))] := hD
          have hwlt := mtch_le (k := 4) hw1 (by decide)
          refine lv_if_ne (tgt := 60) hx hb d_Mo_value_55 (by decide) (fun _ => ?_) (fun h => absurd h (by decide))
          refine lv_aload_n hx hb d_Mo_value_60 rfl (lv_at hl 2 rfl) ?_
          refine lv_iload_n hx hb d_Mo_value_61 rfl (lv_at hl 0 rfl) ?_
          refine lv_bipush (v := 110) hx hb d_Mo_value_62 (by decide) ?_
          refine lv_icmp_ne (tgt := 71) hx hb d_Mo_value_64 (by decide) (fun _ => ?_) (fun h => absurd h c12)
          refine lv_iload_n hx hb d_Mo_value_71 rfl (lv_at hl 0 rfl) ?_
          refine lv_bipush (v := 116) hx hb d_Mo_value_72 (by decide) ?_
          refine lv_icmp_ne (tgt := 81) hx hb d_Mo_value_74 (by decide) (fun _ => ?_) (fun h => absurd h c18)
          refine lv_iconst (v := 2) hx hb d_Mo_value_81 (by decide) ?_
          have hPc := hP.sub (ws' := [(t, .inr (12, MF 13 (tw T))), (T.a0, .inl (cI, T.N, .inl T.kd)), (T.a1, .inl (cL, T.N, .inr (.inl T.nu))), (T.a2, .inl (cI, T.N, .inl T.st)), (T.a3, .inl (cI, T.N, .inl T.ln)), (T.a4, .inl (cI, T.N, .inl T.ki)), (T.a5, .inl (cI, T.N, .inl T.nx)), (T.a6, .inl (cI, T.N, .inl T.ns)), (T.a7, .inl (cI, T.N, .inl T.nl)), (T.a8, .inl (cI, T.N, .inl T.pa)), (T.a9, .inl (cI, T.N, .inl T.pl)), (T.au, .inl (cC, T.U, .inl T.un))]) [2, 3, 4, 5, 6, 7, 8, 9, 10, 11, 12, 13] rfl
          have hDc := hD.sub (ws' := [(t, .inr (12, MF 13 (tw T))), (T.a0, .inl (cI, T.N, .inl T.kd)), (T.a1, .inl (cL, T.N, .inr (.inl T.nu))), (T.a2, .inl (cI, T.N, .inl T.st)), (T.a3, .inl (cI, T.N, .inl T.ln)), (T.a4, .inl (cI, T.N, .inl T.ki)), (T.a5, .inl (cI, T.N, .inl T.nx)), (T.a6, .inl (cI, T.N, .inl T.ns)), (T.a7, .inl (cI, T.N, .inl T.nl)), (T.a8, .inl (cI, T.N, .inl T.pa)), (T.a9, .inl (cI, T.N, .inl T.pl)), (T.au, .inl (cC, T.U, .inl T.un))]) [2, 3, 4, 5, 6, 7, 8, 9, 10, 11, 12, 13] (by decide) rfl
          have hKc := hK.sub (tys' := [(cI, .int), (cL, .long), (cC, .char)]) [1, 2, 3] rfl
          have hFc := va_free (wc := [(t, .inr (12, MF 13 (tw T))), (T.a0, .inl (cI, T.N, .inl T.kd)), (T.a1, .inl (cL, T.N, .inr (.inl T.nu))), (T.a2, .inl (cI, T.N, .inl T.st)), (T.a3, .inl (cI, T.N, .inl T.ln)), (T.a4, .inl (cI, T.N, .inl T.ki)), (T.a5, .inl (cI, T.N, .inl T.nx)), (T.a6, .inl (cI, T.N, .inl T.ns)), (T.a7, .inl (cI, T.N, .inl T.nl)), (T.a8, .inl (cI, T.N, .inl T.pa)), (T.a9, .inl (cI, T.N, .inl T.pl)), (T.au, .inl (cC, T.U, .inl T.un))]) hD hS hA [2, 3, 4, 5, 6, 7, 8, 9, 10, 11, 12, 13] rfl
          refine w_same (fun hq0 => ?_)
          refine va_calli (va_runV (As := [.int 2]) (rest := []) ⟨hx, hb, hml, hown, hts⟩ (c_Tree_add l dC dI t H cI cL cC T 2 hTk_T) (cwV 1 hts (gt_V (own := R_Mo) (C := R_Tree) (i := 197) (y := y_Tree_add) i_Tree_add w_1254 w_1255 w_1256 w_8) rfl rfl rfl (by decide +kernel) ⟨Nat.le_trans (m := 8) (Nat.le_of_ble_eq_true rfl) (Nat.le_add_right 8 (2 * (r + 1))), Nat.le_trans (m := 300) (Nat.le_of_ble_eq_true rfl) (Nat.le_add_right 300 (80 * (r + 1)))⟩) ⟨mp_blind, va_recv hKc hPc (ci := 12) (q0 := 0) rfl rfl, fun U hU hW => ⟨rfl, hU, by rw [hU]; exact hPc, va_K.moved hW.alike hKc, hDc.weaken (fun _ _ _ _ => trivial)⟩⟩ rfl rfl hl.1 rfl (lv_room (Nat.le_of_ble_eq_true rfl)) d_Mo_value_82 ⟨(TAd.fit hGB_T hTk_T (by omega)).1, (TAd.fit hGB_T hTk_T (by omega)).2⟩) hS (fun q _ h => hFc q h) hFc (fun r0 T1 t9 H1 locs ht hvm hw hB hz1 hk1 hS => ?_)
          obtain ⟨⟨hP1, hK1, hD1⟩, hz9⟩ := hB
          rw [ht] at hP1
          rw [ht] at hz9
          obtain ⟨hr0, hA_T1⟩ := hw
          have hA_T1 : TAd T T1 2 := hA_T1
          have hAg := hA_T1.gb hTk_T (by omega)
          obtain ⟨hGB_T1, hGc_T1, hGs_T1⟩ := hGB_T.tr hAg.1 (show T.ct + 1 ≤ (T.ct + (n + 12 - i)) by omega) (Nat.zero_le _)
          have hGc_T1 := Nat.le_trans (Nat.add_le_add_left hAg.2.1 _) hGc_T1
          have hGs_T1 := Nat.le_trans (Nat.add_le_add_left hAg.2.2 _) hGs_T1
          have hq1 : szk s.heap H1 (cE T T1) (sE T T1) := (hq0.trans hz9).mono hGc_T1 hGs_T1
          refine w_tight hq1 ?_
          obtain ⟨hP, hD⟩ := va_join (wr := [(mo, .inr (13, MF 30 (rf v ((skipH f n i) + 5) br))), (qx, .inl (cB, NN, .inl f))]) (w1 := [(t, .inr (12, MF 13 (tw T1))), (T1.a0, .inl (cI, T1.N, .inl T1.kd)), (T1.a1, .inl (cL, T1.N, .inr (.inl T1.nu))), (T1.a2, .inl (cI, T1.N, .inl T1.st)), (T1.a3, .inl (cI, T1.N, .inl T1.ln)), (T1.a4, .inl (cI, T1.N, .inl T1.ki)), (T1.a5, .inl (cI, T1.N, .inl T1.nx)), (T1.a6, .inl (cI, T1.N, .inl T1.ns)), (T1.a7, .inl (cI, T1.N, .inl T1.nl)), (T1.a8, .inl (cI, T1.N, .inl T1.pa)), (T1.a9, .inl (cI, T1.N, .inl T1.pl)), (T1.au, .inl (cC, T1.U, .inl T1.un))]) hP hD [2, 3, 4, 5, 6, 7, 8, 9, 10, 11, 12, 13] [0, 1] rfl rfl (by decide) (by decide) hk1 hFc hP1 hD1
          generalize H1 = H at hP hS ⊢
          have hP : va_P (dC, dI) classes [(mo, .inr (13, MF 30 (rf v ((skipH f n i) + 5) br))), (qx, .inl (cB, NN, .inl f)), (t, .inr (12, MF 13 (tw T1))), (T1.a0, .inl (cI, T1.N, .inl T1.kd)), (T1.a1, .inl (cL, T1.N, .inr (.inl T1.nu))), (T1.a2, .inl (cI, T1.N, .inl T1.st)), (T1.a3, .inl (cI, T1.N, .inl T1.ln)), (T1.a4, .inl (cI, T1.N, .inl T1.ki)), (T1.a5, .inl (cI, T1.N, .inl T1.nx)), (T1.a6, .inl (cI, T1.N, .inl T1.ns)), (T1.a7, .inl (cI, T1.N, .inl T1.nl)), (T1.a8, .inl (cI, T1.N, .inl T1.pa)), (T1.a9, .inl (cI, T1.N, .inl T1.pl)), (T1.au, .inl (cC, T1.U, .inl T1.un))] H := hP
          have hD : va_D A [(mo, .inr (13, MF 30 (rf v ((skipH f n i) + 5) br))), (qx, .inl (cB, NN, .inl f)), (t, .inr (12, MF 13 (tw T1))), (T1.a0, .inl (cI, T1.N, .inl T1.kd)), (T1.a1, .inl (cL, T1.N, .inr (.inl T1.nu))), (T1.a2, .inl (cI, T1.N, .inl T1.st)), (T1.a3, .inl (cI, T1.N, .inl T1.ln)), (T1.a4, .inl (cI, T1.N, .inl T1.ki)), (T1.a5, .inl (cI, T1.N, .inl T1.nx)), (T1.a6, .inl (cI, T1.N, .inl T1.ns)), (T1.a7, .inl (cI, T1.N, .inl T1.nl)), (T1.a8, .inl (cI, T1.N, .inl T1.pa)), (T1.a9, .inl (cI, T1.N, .inl T1.pl)), (T1.au, .inl (cC, T1.U, .inl T1.un))] := hD
          have hTk_T1 := (hA_T1.ok hTk_T (by omega)).1
          have hAc_T1 : T1.ct = T.ct + 1 ∧ T1.us = T.us := ⟨(hA_T1.ok hTk_T (by omega)).2.2.2.2.2.1, (hA_T1.ok hTk_T (by omega)).2.2.2.2.1⟩
          have hr0 : r0 = nI T.ct := hr0
          subst hr0
          have hfit_T1 := hGB_T1.fits
          refine lv_istore (lv' := [(4, .int (nI T.ct)), (3, .int r1), (0, .ref mo), (1, .ref t), (2, .int (nI (31 - r)))]) hx hb d_Mo_value_85 hl (by decide) rfl (fun ls hl => ?_)
          refine lv_goto (tgt := 253) hx hb d_Mo_value_87 (by decide) ?_
          have hAA := hA_T1.2.2.2.2.2.2.2
          have hTEn := hA_T1.te
          have hRepn : RepL T1 T.ct (2, 0, []) := ⟨hAA.1, by show 2 ≤ 6; omega, fun h => absurd h (by show ¬ 2 = 3; omega), fun h => absurd h (by show ¬ 2 = 4; omega), fun _ => hAA.2.2.2.2.2.1⟩
          have hkin : T1.ki T.ct = -1 := hAA.2.1
          have hpan : T1.pa T.ct = -1 := hAA.2.2.2.1
          have hctn : T1.ct = T.ct + 1 := hAc_T1.1
          have husn : T1.us = T.us := hAc_T1.2
          have hpl : pLeaf f n (skipH f n i) = some ((2, 0, []), ((skipH f n i) + 5)) := by unfold pLeaf; rw [if_neg (fun h => c12 (h_r1.trans h)), if_neg (fun h => c18 (h_r1.trans h)), if_pos (h_r1.symm.trans c24), if_pos (mtB_iff.mpr hw1)]
          have hnc : ¬ (hereV f n (skipH f n i) = 91 ∨ hereV f n (skipH f n i) = 123) := fun h => by rw [← h_r1, c24] at h; revert h; decide
          refine lv_aload_n hx hb d_Mo_value_253 rfl (lv_at hl 2 rfl) ?_
          have hPc := hP.sub (ws' := [(mo, .inr (13, MF 30 (rf v ((skipH f n i) + 5) br))), (qx, .inl (cB, NN, .inl f))]) [0, 1] rfl
          have hDc := hD.sub (ws' := [(mo, .inr (13, MF 30 (rf v ((skipH f n i) + 5) br))), (qx, .inl (cB, NN, .inl f))]) [0, 1] (by decide) rfl
          have hKc := hK.sub (tys' := [(cB, .byte)]) [0] rfl
          have hFc := va_free (wc := [(mo, .inr (13, MF 30 (rf v ((skipH f n i) + 5) br))), (qx, .inl (cB, NN, .inl f))]) hD hS hA [0, 1] rfl
          refine va_callv (va_runV (As := []) (rest := []) ⟨hx, hb, hml, hown, hts⟩ (c_Mo_blanks l dC dI mo H (rf v ((skipH f n i) + 5) br) cB qx NN f n ((skipH f n i) + 5) (by omega) (by omega) (by omega) ((rf_ne (by decide) (by decide)).trans h6) rf_7 ((rf_ne (by decide) (by decide)).trans h8)) (cwV 0 hts (gt_V (own := R_Mo) (C := R_Mo) (i := 184) (y := y_Mo_blanks) i_Mo_blanks w_1229 w_1231 (gt_sel (y := y_Mo_blanks) (n := 30) (by decide +kernel)) w_7) rfl rfl rfl (by decide +kernel) ⟨Nat.le_trans (m := 8) (Nat.le_of_ble_eq_true rfl) (Nat.le_add_right 8 (2 * (r + 1))), Nat.le_trans (m := 300) (Nat.le_of_ble_eq_true rfl) (Nat.le_add_right 300 (80 * (r + 1)))⟩) ⟨mp_blind, va_recv hKc hPc (ci := 13) (q0 := 0) rfl rfl, fun U hU hW => ⟨rfl, hU, by rw [hU]; exact hPc, va_K.moved hW.alike hKc, hDc.weaken (fun _ _ _ _ => trivial)⟩⟩ rfl rfl hl.1 rfl (lv_room (Nat.le_of_ble_eq_true rfl)) d_Mo_value_254 ⟨hfit_T1.1, hfit_T1.2⟩) hS (fun q _ h => hFc q h) hFc (fun _u t9 H1 locs ht hvm hw hB hz1 hk1 hS => ?_)
          obtain ⟨hP1, hK1, hD1⟩ := hB
          rw [ht] at hP1
          obtain ⟨hP, hD⟩ := va_join (wr := [(t, .inr (12, MF 13 (tw T1))), (T1.a0, .inl (cI, T1.N, .inl T1.kd)), (T1.a1, .inl (cL, T1.N, .inr (.inl T1.nu))), (T1.a2, .inl (cI, T1.N, .inl T1.st)), (T1.a3, .inl (cI, T1.N, .inl T1.ln)), (T1.a4, .inl (cI, T1.N, .inl T1.ki)), (T1.a5, .inl (cI, T1.N, .inl T1.nx)), (T1.a6, .inl (cI, T1.N, .inl T1.ns)), (T1.a7, .inl (cI, T1.N, .inl T1.nl)), (T1.a8, .inl (cI, T1.N, .inl T1.pa)), (T1.a9, .inl (cI, T1.N, .inl T1.pl)), (T1.au, .inl (cC, T1.U, .inl T1.un))]) (w1 := [(mo, .inr (13, MF 30 (va_up (rf v ((skipH f n i) + 5) br) 7 (.int (nI (skipH f n ((skipH f n i) + 5))))))), (qx, .inl (cB, NN, .inl f))]) hP hD [0, 1] [2, 3, 4, 5, 6, 7, 8, 9, 10, 11, 12, 13] rfl rfl (by decide) (by decide) hk1 hFc hP1 hD1
          generalize H1 = H at hP hS ⊢
          have hP : va_P (dC, dI) classes [(t, .inr (12, MF 13 (tw T1))), (T1.a0, .inl (cI, T1.N, .inl T1.kd)), (T1.a1, .inl (cL, T1.N, .inr (.inl T1.nu))), (T1.a2, .inl (cI, T1.N, .inl T1.st)), (T1.a3, .inl (cI, T1.N, .inl T1.ln)), (T1.a4, .inl (cI, T1.N, .inl T1.ki)), (T1.a5, .inl (cI, T1.N, .inl T1.nx)), (T1.a6, .inl (cI, T1.N, .inl T1.ns)), (T1.a7, .inl (cI, T1.N, .inl T1.nl)), (T1.a8, .inl (cI, T1.N, .inl T1.pa)), (T1.a9, .inl (cI, T1.N, .inl T1.pl)), (T1.au, .inl (cC, T1.U, .inl T1.un)), (mo, .inr (13, MF 30 (va_up (rf v ((skipH f n i) + 5) br) 7 (.int (nI (skipH f n ((skipH f n i) + 5))))))), (qx, .inl (cB, NN, .inl f))] H := hP
          have hD : va_D A [(t, .inr (12, MF 13 (tw T1))), (T1.a0, .inl (cI, T1.N, .inl T1.kd)), (T1.a1, .inl (cL, T1.N, .inr (.inl T1.nu))), (T1.a2, .inl (cI, T1.N, .inl T1.st)), (T1.a3, .inl (cI, T1.N, .inl T1.ln)), (T1.a4, .inl (cI, T1.N, .inl T1.ki)), (T1.a5, .inl (cI, T1.N, .inl T1.nx)), (T1.a6, .inl (cI, T1.N, .inl T1.ns)), (T1.a7, .inl (cI, T1.N, .inl T1.nl)), (T1.a8, .inl (cI, T1.N, .inl T1.pa)), (T1.a9, .inl (cI, T1.N, .inl T1.pl)), (T1.au, .inl (cC, T1.U, .inl T1.un)), (mo, .inr (13, MF 30 (va_up (rf v ((skipH f n i) + 5) br) 7 (.int (nI (skipH f n ((skipH f n i) + 5))))))), (qx, .inl (cB, NN, .inl f))] := hD
          have hP := hP.sub (ws' := [(mo, .inr (13, MF 30 (va_up (rf v ((skipH f n i) + 5) br) 7 (.int (nI (skipH f n ((skipH f n i) + 5))))))), (qx, .inl (cB, NN, .inl f)), (t, .inr (12, MF 13 (tw T1))), (T1.a0, .inl (cI, T1.N, .inl T1.kd)), (T1.a1, .inl (cL, T1.N, .inr (.inl T1.nu))), (T1.a2, .inl (cI, T1.N, .inl T1.st)), (T1.a3, .inl (cI, T1.N, .inl T1.ln)), (T1.a4, .inl (cI, T1.N, .inl T1.ki)), (T1.a5, .inl (cI, T1.N, .inl T1.nx)), (T1.a6, .inl (cI, T1.N, .inl T1.ns)), (T1.a7, .inl (cI, T1.N, .inl T1.nl)), (T1.a8, .inl (cI, T1.N, .inl T1.pa)), (T1.a9, .inl (cI, T1.N, .inl T1.pl)), (T1.au, .inl (cC, T1.U, .inl T1.un))]) [12, 13, 0, 1, 2, 3, 4, 5, 6, 7, 8, 9, 10, 11] rfl
          have hD := hD.sub (ws' := [(mo, .inr (13, MF 30 (va_up (rf v ((skipH f n i) + 5) br) 7 (.int (nI (skipH f n ((skipH f n i) + 5))))))), (qx, .inl (cB, NN, .inl f)), (t, .inr (12, MF 13 (tw T1))), (T1.a0, .inl (cI, T1.N, .inl T1.kd)), (T1.a1, .inl (cL, T1.N, .inr (.inl T1.nu))), (T1.a2, .inl (cI, T1.N, .inl T1.st)), (T1.a3, .inl (cI, T1.N, .inl T1.ln)), (T1.a4, .inl (cI, T1.N, .inl T1.ki)), (T1.a5, .inl (cI, T1.N, .inl T1.nx)), (T1.a6, .inl (cI, T1.N, .inl T1.ns)), (T1.a7, .inl (cI, T1.N, .inl T1.nl)), (T1.a8, .inl (cI, T1.N, .inl T1.pa)), (T1.a9, .inl (cI, T1.N, .inl T1.pl)), (T1.au, .inl (cC, T1.U, .inl T1.un))]) [12, 13, 0, 1, 2, 3, 4, 5, 6, 7, 8, 9, 10, 11] (by decide) rfl
          rw [rf_u7] at hP hD
          have hP : va_P (dC, dI) classes [(mo, .inr (13, MF 30 (rf v (skipH f n ((skipH f n i) + 5)) br))), (qx, .inl (cB, NN, .inl f)), (t, .inr (12, MF 13 (tw T1))), (T1.a0, .inl (cI, T1.N, .inl T1.kd)), (T1.a1, .inl (cL, T1.N, .inr (.inl T1.nu))), (T1.a2, .inl (cI, T1.N, .inl T1.st)), (T1.a3, .inl (cI, T1.N, .inl T1.ln)), (T1.a4, .inl (cI, T1.N, .inl T1.ki)), (T1.a5, .inl (cI, T1.N, .inl T1.nx)), (T1.a6, .inl (cI, T1.N, .inl T1.ns)), (T1.a7, .inl (cI, T1.N, .inl T1.nl)), (T1.a8, .inl (cI, T1.N, .inl T1.pa)), (T1.a9, .inl (cI, T1.N, .inl T1.pl)), (T1.au, .inl (cC, T1.U, .inl T1.un))] H := hP
          have hD : va_D A [(mo, .inr (13, MF 30 (rf v (skipH f n ((skipH f n i) + 5)) br))), (qx, .inl (cB, NN, .inl f)), (t, .inr (12, MF 13 (tw T1))), (T1.a0, .inl (cI, T1.N, .inl T1.kd)), (T1.a1, .inl (cL, T1.N, .inr (.inl T1.nu))), (T1.a2, .inl (cI, T1.N, .inl T1.st)), (T1.a3, .inl (cI, T1.N, .inl T1.ln)), (T1.a4, .inl (cI, T1.N, .inl T1.ki)), (T1.a5, .inl (cI, T1.N, .inl T1.nx)), (T1.a6, .inl (cI, T1.N, .inl T1.ns)), (T1.a7, .inl (cI, T1.N, .inl T1.nl)), (T1.a8, .inl (cI, T1.N, .inl T1.pa)), (T1.a9, .inl (cI, T1.N, .inl T1.pl)), (T1.au, .inl (cC, T1.U, .inl T1.un))] := hD
          have hsk_257 := skipH_n (f := f) (show ((skipH f n i) + 5) ≤ n by omega)
          refine lv_iload hx hb d_Mo_value_257 (lv_at hl 0 rfl) ?_
          have hpv : pV f n (r + 1) i = some (jleaf (r + 1) (2, 0, []), (skipH f n ((skipH f n i) + 5))) := by rw [pV_leaf _ hnc, hpl]; rfl
          have hRV : RepV T1 (r + 1) T.ct T1.ct (jleaf (r + 1) (2, 0, [])) := leafRep hRepn (by decide) hkin hctn _
          refine w_same (fun hq => ?_)
          refine W.widen (k := ncap T (T.ct + (n + 12 - i)) + qcap T (T.us + (n + 12 - i))) (n := 20 * ncap T (T.ct + (n + 12 - i)) + 2 * qcap T (T.us + (n + 12 - i))) hfit_T1.1 hfit_T1.2 ?_
          have hTG : TG n i T T1 := ⟨hTk_T1, hGB_T1⟩
          exact W.iret (v := nI T.ct) hx hb hr (fun t9 ht hW => ⟨⟨nI T.ct, (T1, (skipH f n ((skipH f n i) + 5)), br), rfl, ⟨hTG, Or.inl ⟨(jleaf (r + 1) (2, 0, [])), rfl, hpv, hRV, hTEn, hpan, by show T.ct < T1.ct; omega, by show T1.ct + i ≤ T.ct + (skipH f n ((skipH f n i) + 5)); omega, by show T1.us + i ≤ T.us + (skipH f n ((skipH f n i) + 5)); omega, by show (skipH f n ((skipH f n i) + 5)) ≤ n; omega⟩⟩, ⟨by rw [ht]; exact hP, va_K.moved hW.alike hK, hD⟩, by rw [ht]; exact hq⟩, hS.F ht⟩) hS.2.2 d_Mo_value_259
        · rw [rf_u7] at hw3
          obtain ⟨b5, h_b5⟩ := rf_fail (v := v) (i := k9) (br := br) (b2 := br) (wh := nI k9)
          rw [h_b5] at hw3
          rw [hw3] at hP hD
          subst hw2
          have hP : va_P (dC, dI) classes [(mo, .inr (13, MF 30 (rf v k9 b5))), (qx, .inl (cB, NN, .inl f)), (t, .inr (12, MF 13 (tw T))), (T.a0, .inl (cI, T.N, .inl T.kd)), (T.a1, .inl (cL, T.N, .inr (.inl T.nu))), (T.a2, .inl (cI, T.N, .inl T.st)), (T.a3, .inl (cI, T.N, .inl T.ln)), (T.a4, .inl (cI, T.N, .inl T.ki)), (T.a5, .inl (cI, T.N, .inl T.nx)), (T.a6, .inl (cI, T.N, .inl T.ns)), (T.a7, .inl (cI, T.N, .inl T.nl)), (T.a8, .inl (cI, T.N, .inl T.pa)), (T.a9, .inl (cI, T.N, .inl T.pl)), (T.au, .inl (cC, T.U, .inl T.un))] H := hP
          have hD : va_D A [(mo, .inr (13, MF 30 (rf v k9 b5))), (qx, .inl (cB, NN, .inl f)), (t, .inr (12, MF 13 (tw T))), (T.a0, .inl (cI, T.N, .inl T.kd)), (T.a1, .inl (cL, T.N, .inr (.inl T.nu))), (T.a2, .inl (cI, T.N, .inl T.st)), (T.a3, .inl (cI, T.N, .inl T.ln)), (T.a4, .inl (cI, T.N, .inl T.ki)), (T.a5, .inl (cI, T.N, .inl T.nx)), (T.a6, .inl (cI, T.N, .inl T.ns)), (T.a7, .inl (cI, T.N, .inl T.nl)), (T.a8, .inl (cI, T.N, .inl T.pa)), (T.a9, .inl (cI, T.N, .inl T.pl)), (T.au, .inl (cC, T.U, .inl T.un))] := hD
          refine lv_if_ne (tgt := 60) hx hb d_Mo_value_55 (by decide) (fun h => absurd h (by decide)) (fun _ => ?_)
          refine lv_iconst (v := (-1)) hx hb d_Mo_value_58 (by decide) ?_
          have hpl : pLeaf f n (skipH f n i) = none := by unfold pLeaf; rw [if_neg (fun h => c12 (h_r1.trans h)), if_neg (fun h => c18 (h_r1.trans h)), if_pos (h_r1.symm.trans c24), if_neg (fun h => hw1 (mtB_iff.mp h))]
          have hfin : pV f n (r + 1) i = none := by rw [pV_leaf _ (fun h => by rw [← h_r1, c24] at h; revert h; decide), hpl]; rfl
          refine w_same (fun hq => ?_)
          refine W.widen (k := ncap T (T.ct + (n + 12 - i)) + qcap T (T.us + (n + 12 - i))) (n := 20 * ncap T (T.ct + (n + 12 - i)) + 2 * qcap T (T.us + (n + 12 - i))) hfit_T.1 hfit_T.2 ?_
          have hTG : TG n i T T := ⟨hTk_T, hGB_T⟩
          exact W.iret (v := -1) hx hb hr (fun t9 ht hW => ⟨⟨-1, (T, k9, b5), rfl, ⟨hTG, Or.inr ⟨rfl, hfin⟩⟩, ⟨by rw [ht]; exact hP, va_K.moved hW.alike hK, hD⟩, by rw [ht]; exact hq⟩, hS.F ht⟩) hS.2.2 d_Mo_value_59
theorem c_IC (r : Nat) (h : r ≤ 31) (hV : VC r) : IC r 91 ∧ IC r 123 := ⟨c_insideA r h hV, c_insideO r h hV⟩
/-- the reference: value, at every depth -/
theorem c_VC : ∀ r : Nat, r ≤ 32 → VC r := by
  intro r
  induction r with
  | zero => exact fun _ => c_value0
  | succ r ih => exact fun h => c_valueS r h (c_IC r (by omega) (ih (by omega))).1 (c_IC r (by omega) (ih (by omega))).2
