abbrev b_Mo_wrap : ByteArray := prog_14_method_47_code
def y_Mo_wrap : MethodName := ⟨"QueryBenchModel", "wrap", "(I)I"⟩
abbrev k_Mo_wrap : Cond := .code y_Mo_wrap b_Mo_wrap 3 (some .int)
theorem i_Mo_wrap : k_Mo_wrap ∈ gtbl := gt_in 1475 (by decide +kernel) (by decide +kernel)
theorem d_Mo_wrap_0 : decode b_Mo_wrap 0 = .ok (.aload_n 0, 1) := by decide +kernel
theorem d_Mo_wrap_1 : decode b_Mo_wrap 1 = .ok (.bipush 35, 2) := by decide +kernel
theorem d_Mo_wrap_3 : decode b_Mo_wrap 3 = .ok (.invokevirtual 269, 3) := by decide +kernel
theorem d_Mo_wrap_6 : decode b_Mo_wrap 6 = .ok (.istore_n 2, 1) := by decide +kernel
theorem d_Mo_wrap_7 : decode b_Mo_wrap 7 = .ok (.aload_n 0, 1) := by decide +kernel
theorem d_Mo_wrap_8 : decode b_Mo_wrap 8 = .ok (.iload_n 2, 1) := by decide +kernel
theorem d_Mo_wrap_9 : decode b_Mo_wrap 9 = .ok (.iconst 2, 1) := by decide +kernel
theorem d_Mo_wrap_10 : decode b_Mo_wrap 10 = .ok (.iload_n 1, 1) := by decide +kernel
theorem d_Mo_wrap_11 : decode b_Mo_wrap 11 = .ok (.invokevirtual 272, 3) := by decide +kernel
theorem d_Mo_wrap_14 : decode b_Mo_wrap 14 = .ok (.iload_n 2, 1) := by decide +kernel
theorem d_Mo_wrap_15 : decode b_Mo_wrap 15 = .ok (.ireturn, 1) := by decide +kernel
set_option maxHeartbeats 4000000 in
set_option maxRecDepth 100000 in
/-- the reference: wrap -/
theorem c_Mo_wrap (l : Launch) (dC : Nat → ClassId) (dI : Nat → Nat → Nat) (mo : Nat) (sz : Heap) (v : Nat → Value) (cB cI cL cC : ClassId) (qx NN : Nat) (f : Nat → Int32) (n : Nat) (K : Nat → Nat × Nat) (tv : Nat) (Q : QS) (V : TS) (o i : Nat) (br : Int32) (x9 : Nat) (hnN : n ≤ NN) (hNN : NN ≤ 4096) (hi0 : i ≤ n) (h6 : v 6 = .ref qx) (h8 : v 8 = .int (nI n)) (h22 : v 22 = .ref tv) (hQ : QOK Q) (hV : TOK V) (hcu : V.us + (n + 12 - i) ≤ 400000) (hcr : Q.R + 8 * (n - i) + 1 ≤ 40000) : Met l y_Mo_wrap (k_Mo_wrap :: gtbl) ({ frames := 2, cells := kcap Q (Q.R + 8 * (n - i) + 1) + qcap V (V.us + (n + 12 - i)), slots := 22 * kcap Q (Q.R + 8 * (n - i) + 1) + 2 * qcap V (V.us + (n + 12 - i)), locals := 60 }) (va_Pc [.ref mo, .int (nI x9)] (me K dC dI [(mo, .inr (13, MF 30 (rf (rs v Q o) i br))), (qx, .inl (cB, NN, .inl f)), (Q.qq, .inl (cI, (8 * Q.C), .inl Q.qf)), (Q.qe, .inl (cL, (3 * Q.C), .inr (.inl Q.ef))), (tv, .inr (12, MF 13 (tw V))), (V.au, .inl (cC, V.U, .inl V.un))] [(cB, .byte), (cI, .int), (cL, .long), (cC, .char)] sz)) (va_Qi (fun (res : Int32) (Q2 : QS) => res = nI Q.R ∧ QOK Q2 ∧ GQ (Q.R + 8 * (n - i) + 1) (V.us + (n + 12 - i)) Q V Q2 V ∧ Q2.R = Q.R + 1 ∧ alr Q V Q2 V 0 Q.R ∧ Q2.qf (8 * Q.R + 0) = 35 ∧ Q2.qf (8 * Q.R + 1) = -1 ∧ Q2.qf (8 * Q.R + 2) = nI x9) (fun Q2 t9 => mz dC dI [(mo, .inr (13, MF 30 (rf (rs v Q2 o) i br))), (qx, .inl (cB, NN, .inl f)), (Q2.qq, .inl (cI, (8 * Q2.C), .inl Q2.qf)), (Q2.qe, .inl (cL, (3 * Q2.C), .inr (.inl Q2.ef))), (tv, .inr (12, MF 13 (tw V))), (V.au, .inl (cC, V.U, .inl V.un))] [(cB, .byte), (cI, .int), (cL, .long), (cC, .char)] (va_A [(mo, .inr (13, MF 30 (rf (rs v Q o) i br))), (qx, .inl (cB, NN, .inl f)), (Q.qq, .inl (cI, (8 * Q.C), .inl Q.qf)), (Q.qe, .inl (cL, (3 * Q.C), .inr (.inl Q.ef))), (tv, .inr (12, MF 13 (tw V))), (V.au, .inl (cC, V.U, .inl V.un))] sz.size) t9 ∧ szk sz t9.heap (cQ Q V Q2 V) (sQ Q V Q2 V)) (va_A [(mo, .inr (13, MF 30 (rf (rs v Q o) i br))), (qx, .inl (cB, NN, .inl f)), (Q.qq, .inl (cI, (8 * Q.C), .inl Q.qf)), (Q.qe, .inl (cL, (3 * Q.C), .inr (.inl Q.ef))), (tv, .inr (12, MF 13 (tw V))), (V.au, .inl (cC, V.U, .inl V.un))] sz.size)) (kcap Q (Q.R + 8 * (n - i) + 1) + qcap V (V.us + (n + 12 - i))) (22 * kcap Q (Q.R + 8 * (n - i) + 1) + 2 * qcap V (V.us + (n + 12 - i))) (va_A [(mo, .inr (13, MF 30 (rf (rs v Q o) i br))), (qx, .inl (cB, NN, .inl f)), (Q.qq, .inl (cI, (8 * Q.C), .inl Q.qf)), (Q.qe, .inl (cL, (3 * Q.C), .inr (.inl Q.ef))), (tv, .inr (12, MF 13 (tw V))), (V.au, .inl (cC, V.U, .inl V.un))] sz.size) := by
  refine Met.ofW (cc := b_Mo_wrap) (maxL := 3) (ret := (some .int)) (by decide) rfl ?_
  intro p e s m args below meth c s₁ B hml hv
  obtain ⟨rfl, ⟨hsz, hP, hK, hD0⟩, hM⟩ := hv
  have hx := B.exec
  have hb := B.bytes
  have hr := B.returns
  have hts0 := atoms_spec (ws := k_Mo_wrap :: gtbl) B.pre
  have hts := fun w h => hts0 w (List.mem_cons_of_mem _ h)
  have hown : s.vm.findClass R_Mo = some m.cls := findClass_of_methodNamed B.named
  have hlocks := B.notSynchronized
  subst hsz
  have hD := hD0.self (sz := s.heap.size)
  generalize hAe : va_A [(mo, .inr (13, MF 30 (rf (rs v Q o) i br))), (qx, .inl (cB, NN, .inl f)), (Q.qq, .inl (cI, (8 * Q.C), .inl Q.qf)), (Q.qe, .inl (cL, (3 * Q.C), .inr (.inl Q.ef))), (tv, .inr (12, MF 13 (tw V))), (V.au, .inl (cC, V.U, .inl V.un))] s.heap.size = A at hD hM ⊢
  have hA : ∀ q : Nat, s.heap.size ≤ q → A q := fun q h => by rw [← hAe]; exact Or.inr h
  have hS : va_S A s.heap s.heap [] := va_S.rf
  have hP : va_P (dC, dI) classes [(mo, .inr (13, MF 30 (rf (rs v Q o) i br))), (qx, .inl (cB, NN, .inl f)), (Q.qq, .inl (cI, (8 * Q.C), .inl Q.qf)), (Q.qe, .inl (cL, (3 * Q.C), .inr (.inl Q.ef))), (tv, .inr (12, MF 13 (tw V))), (V.au, .inl (cC, V.U, .inl V.un))] s.heap := hP
  have hl := lv_entry ([.ref mo, .int (nI x9)]) (n := 3) (Nat.le_of_ble_eq_true rfl)
  rw [lg_entry_eq]
  generalize (lg_sl ([.ref mo, .int (nI x9)]) ++ List.replicate (3 - (lg_sl ([.ref mo, .int (nI x9)])).length) Slot.unset).toArray = ls at hl ⊢
  have hl : lv_has ls 3 [(0, .ref mo), (1, .int (nI x9))] := hl
  have hQk_Q := hQ
  have hTk_V := hV
  have hCo := hQ.2.2.1
  have hCo2 := hQ.2.1
  clear hQ hV
  have hG_QV : GQ (Q.R + 8 * (n - i) + 1) (V.us + (n + 12 - i)) Q V Q V := GQ.rf
  refine w_same (fun hq => ?_)
  refine w_tight (k := cQ Q V Q V) (n := sQ Q V Q V) (by rw [cQ_rf.1, cQ_rf.2]; exact hq) ?_
  have hqb_QV : Q.R ≤ Q.C ∧ Q.C ≤ 100000 := ⟨hQk_Q.2.2.1, hQk_Q.2.1⟩
  have hfit_QV := hG_QV.fits
  refine lv_aload_n hx hb d_Mo_wrap_0 rfl (lv_at hl 0 rfl) ?_
  refine lv_bipush (v := 35) hx hb d_Mo_wrap_1 (by decide) ?_
  have hPc := hP.sub (ws' := [(mo, .inr (13, MF 30 (rf (rs v Q o) i br))), (Q.qq, .inl (cI, (8 * Q.C), .inl Q.qf)), (Q.qe, .inl (cL, (3 * Q.C), .inr (.inl Q.ef)))]) [0, 2, 3] rfl
  have hDc := hD.sub (ws' := [(mo, .inr (13, MF 30 (rf (rs v Q o) i br))), (Q.qq, .inl (cI, (8 * Q.C), .inl Q.qf)), (Q.qe, .inl (cL, (3 * Q.C), .inr (.inl Q.ef)))]) [0, 2, 3] (by decide) rfl
  have hKc := hK.sub (tys' := [(cI, .int), (cL, .long)]) [1, 2] rfl
  have hFc := va_free (wc := [(mo, .inr (13, MF 30 (rf (rs v Q o) i br))), (Q.qq, .inl (cI, (8 * Q.C), .inl Q.qf)), (Q.qe, .inl (cL, (3 * Q.C), .inr (.inl Q.ef)))]) hD hS hA [0, 2, 3] rfl
  refine w_same (fun hq0 => ?_)
  refine va_calli (va_runV (As := [.int 35]) (rest := []) ⟨hx, hb, hml, hown, hts⟩ (c_Mo_row l dC dI mo s.heap v cI cL Q o i br 35 hQk_Q) (cwV 1 hts (gt_V (own := R_Mo) (C := R_Mo) (i := 269) (y := y_Mo_row) i_Mo_row w_1407 w_1409 (gt_sel (y := y_Mo_row) (n := 30) (by decide +kernel)) w_7) rfl rfl rfl (by decide +kernel) ⟨Nat.le_of_ble_eq_true rfl, Nat.le_of_ble_eq_true rfl⟩) ⟨mp_blind, va_recv hKc hPc (ci := 13) (q0 := 0) rfl rfl, fun U hU hW => ⟨rfl, hU, by rw [hU]; exact hPc, va_K.moved hW.alike hKc, hDc.weaken (fun _ _ _ _ => trivial)⟩⟩ rfl rfl hl.1 rfl (lv_room (Nat.le_of_ble_eq_true rfl)) d_Mo_wrap_3 ⟨(QAd.fit hG_QV hQk_Q (by omega)).1, (QAd.fit hG_QV hQk_Q (by omega)).2⟩) hS (fun q _ h => hFc q h) hFc (fun r0 Q1 t9 H1 locs ht hvm hw hB hz1 hk1 hS => ?_)
  obtain ⟨⟨hP1, hK1, hD1⟩, hz9⟩ := hB
  rw [ht] at hP1
  rw [ht] at hz9
  obtain ⟨hr0, hA_Q1⟩ := hw
  have hA_Q1 : QAd Q Q1 35 := hA_Q1
  obtain ⟨hQk_Q1, hGa, hGb, hGd, hR_Q1⟩ := hA_Q1.gq hQk_Q (by omega) V
  obtain ⟨hG_Q1V, hGc, hGs⟩ := hG_QV.tr hGa (show Q.R + 1 ≤ Q.R + 8 * (n - i) + 1 by omega) (Nat.zero_le _)
  have hGc := Nat.le_trans (Nat.add_le_add_left hGb _) hGc
  have hGs := Nat.le_trans (Nat.add_le_add_left hGd _) hGs
  have hq1 : szk s.heap H1 (cQ Q V Q1 V) (sQ Q V Q1 V) := (hq0.trans hz9).mono hGc hGs
  refine w_tight hq1 ?_
  obtain ⟨hP, hD⟩ := va_join (wr := [(qx, .inl (cB, NN, .inl f)), (tv, .inr (12, MF 13 (tw V))), (V.au, .inl (cC, V.U, .inl V.un))]) (w1 := [(mo, .inr (13, MF 30 (rf (rs v Q1 o) i br))), (Q1.qq, .inl (cI, (8 * Q1.C), .inl Q1.qf)), (Q1.qe, .inl (cL, (3 * Q1.C), .inr (.inl Q1.ef)))]) hP hD [0, 2, 3] [1, 4, 5] rfl rfl (by decide) (by decide) hk1 hFc hP1 hD1
  generalize H1 = H at hP hS ⊢
  have hP : va_P (dC, dI) classes [(qx, .inl (cB, NN, .inl f)), (tv, .inr (12, MF 13 (tw V))), (V.au, .inl (cC, V.U, .inl V.un)), (mo, .inr (13, MF 30 (rf (rs v Q1 o) i br))), (Q1.qq, .inl (cI, (8 * Q1.C), .inl Q1.qf)), (Q1.qe, .inl (cL, (3 * Q1.C), .inr (.inl Q1.ef)))] H := hP
  have hD : va_D A [(qx, .inl (cB, NN, .inl f)), (tv, .inr (12, MF 13 (tw V))), (V.au, .inl (cC, V.U, .inl V.un)), (mo, .inr (13, MF 30 (rf (rs v Q1 o) i br))), (Q1.qq, .inl (cI, (8 * Q1.C), .inl Q1.qf)), (Q1.qe, .inl (cL, (3 * Q1.C), .inr (.inl Q1.ef)))] := hD
  have hP := hP.sub (ws' := [(mo, .inr (13, MF 30 (rf (rs v Q1 o) i br))), (qx, .inl (cB, NN, .inl f)), (tv, .inr (12, MF 13 (tw V))), (V.au, .inl (cC, V.U, .inl V.un)), (Q1.qq, .inl (cI, (8 * Q1.C), .inl Q1.qf)), (Q1.qe, .inl (cL, (3 * Q1.C), .inr (.inl Q1.ef)))]) [3, 0, 1, 2, 4, 5] rfl
  have hD := hD.sub (ws' := [(mo, .inr (13, MF 30 (rf (rs v Q1 o) i br))), (qx, .inl (cB, NN, .inl f)), (tv, .inr (12, MF 13 (tw V))), (V.au, .inl (cC, V.U, .inl V.un)), (Q1.qq, .inl (cI, (8 * Q1.C), .inl Q1.qf)), (Q1.qe, .inl (cL, (3 * Q1.C), .inr (.inl Q1.ef)))]) [3, 0, 1, 2, 4, 5] (by decide) rfl
  have hP := hP.sub (ws' := [(mo, .inr (13, MF 30 (rf (rs v Q1 o) i br))), (qx, .inl (cB, NN, .inl f)), (Q1.qq, .inl (cI, (8 * Q1.C), .inl Q1.qf)), (Q1.qe, .inl (cL, (3 * Q1.C), .inr (.inl Q1.ef))), (tv, .inr (12, MF 13 (tw V))), (V.au, .inl (cC, V.U, .inl V.un))]) [0, 1, 4, 5, 2, 3] rfl
  have hD := hD.sub (ws' := [(mo, .inr (13, MF 30 (rf (rs v Q1 o) i br))), (qx, .inl (cB, NN, .inl f)), (Q1.qq, .inl (cI, (8 * Q1.C), .inl Q1.qf)), (Q1.qe, .inl (cL, (3 * Q1.C), .inr (.inl Q1.ef))), (tv, .inr (12, MF 13 (tw V))), (V.au, .inl (cC, V.U, .inl V.un))]) [0, 1, 4, 5, 2, 3] (by decide) rfl
  have hr0 : r0 = nI Q.R := hr0
  subst hr0
  have hqb_Q1V : Q1.R ≤ Q1.C ∧ Q1.C ≤ 100000 := ⟨hQk_Q1.2.2.1, hQk_Q1.2.1⟩
  have hfit_Q1V := hG_Q1V.fits
  have hE_Q1 : alr Q V Q1 V 0 Q.R := ⟨fun r9 k9 _ h1 h2 => hA_Q1.2.2.1 _ (by omega), ⟨fun r9 k9 _ h1 h2 => hA_Q1.2.2.2.1.2 _ (by omega), Nat.le_refl _, fun _ _ => rfl⟩⟩
  have hk0_Q1 : Q1.qf (8 * Q.R + 0) = 35 := hA_Q1.2.2.2.2.1
  have hl1_Q1 : Q1.qf (8 * Q.R + 1) = -1 := hA_Q1.2.2.2.2.2 1 (by decide) (by decide)
  have hEx_Q1V : alr Q V Q1 V 0 Q.R := hE_Q1
  refine lv_istore_n (lv' := [(2, .int (nI Q.R)), (0, .ref mo), (1, .int (nI x9))]) hx hb d_Mo_wrap_6 rfl hl (by decide) rfl (fun ls hl => ?_)
  refine lv_aload_n hx hb d_Mo_wrap_7 rfl (lv_at hl 1 rfl) ?_
  refine lv_iload_n hx hb d_Mo_wrap_8 rfl (lv_at hl 0 rfl) ?_
  refine lv_iconst (v := 2) hx hb d_Mo_wrap_9 (by decide) ?_
  refine lv_iload_n hx hb d_Mo_wrap_10 rfl (lv_at hl 2 rfl) ?_
  refine W.eq (g2 := F0 m 11 ls [.int (nI x9), .int (nI 2), .int (nI Q.R), .ref mo]) rfl ?_
  have hPc := hP.sub (ws' := [(mo, .inr (13, MF 30 (rf (rs v Q1 o) i br))), (Q1.qq, .inl (cI, (8 * Q1.C), .inl Q1.qf))]) [0, 2] rfl
  have hDc := hD.sub (ws' := [(mo, .inr (13, MF 30 (rf (rs v Q1 o) i br))), (Q1.qq, .inl (cI, (8 * Q1.C), .inl Q1.qf))]) [0, 2] (by decide) rfl
  have hKc := hK.sub (tys' := [(cI, .int)]) [1] rfl
  have hFc := va_free (wc := [(mo, .inr (13, MF 30 (rf (rs v Q1 o) i br))), (Q1.qq, .inl (cI, (8 * Q1.C), .inl Q1.qf))]) hD hS hA [0, 2] rfl
  refine va_callv (va_runV (As := [.int (nI Q.R), .int (nI 2), .int (nI x9)]) (rest := []) ⟨hx, hb, hml, hown, hts⟩ (c_Mo_set l dC dI mo H (rf (rs v Q1 o) i br) cI Q1.qq (8 * Q1.C) Q1.qf Q.R 2 ((nI x9)) (by omega) (by omega) ((rf_ne (by decide) (by decide)).trans rs_19)) (cwV 3 hts (gt_V (own := R_Mo) (C := R_Mo) (i := 272) (y := y_Mo_set) i_Mo_set w_1411 w_1413 (gt_sel (y := y_Mo_set) (n := 30) (by decide +kernel)) w_7) rfl rfl rfl (by decide +kernel) ⟨Nat.le_of_ble_eq_true rfl, Nat.le_of_ble_eq_true rfl⟩) ⟨mp_blind, va_recv hKc hPc (ci := 13) (q0 := 0) rfl rfl, fun U hU hW => ⟨rfl, hU, by rw [hU]; exact hPc, va_K.moved hW.alike hKc, hDc.weaken (fun _ _ _ _ => trivial)⟩⟩ rfl rfl hl.1 rfl (lv_room (Nat.le_of_ble_eq_true rfl)) d_Mo_wrap_11 ⟨hfit_Q1V.1, hfit_Q1V.2⟩) hS (fun q _ h => hFc q h) hFc (fun _u t9 H1 locs ht hvm hw hB hz1 hk1 hS => ?_)
  obtain ⟨hP1, hK1, hD1⟩ := hB
  rw [ht] at hP1
  obtain ⟨hP, hD⟩ := va_join (wr := [(qx, .inl (cB, NN, .inl f)), (Q1.qe, .inl (cL, (3 * Q1.C), .inr (.inl Q1.ef))), (tv, .inr (12, MF 13 (tw V))), (V.au, .inl (cC, V.U, .inl V.un))]) (w1 := [(mo, .inr (13, MF 30 (rf (rs v Q1 o) i br))), (Q1.qq, .inl (cI, (8 * Q1.C), .inl (upd Q1.qf (8 * Q.R + 2) ((nI x9)))))]) hP hD [0, 2] [1, 3, 4, 5] rfl rfl (by decide) (by decide) hk1 hFc hP1 hD1
  generalize H1 = H at hP hS ⊢
  have hP : va_P (dC, dI) classes [(qx, .inl (cB, NN, .inl f)), (Q1.qe, .inl (cL, (3 * Q1.C), .inr (.inl Q1.ef))), (tv, .inr (12, MF 13 (tw V))), (V.au, .inl (cC, V.U, .inl V.un)), (mo, .inr (13, MF 30 (rf (rs v Q1 o) i br))), (Q1.qq, .inl (cI, (8 * Q1.C), .inl (upd Q1.qf (8 * Q.R + 2) ((nI x9)))))] H := hP
  have hD : va_D A [(qx, .inl (cB, NN, .inl f)), (Q1.qe, .inl (cL, (3 * Q1.C), .inr (.inl Q1.ef))), (tv, .inr (12, MF 13 (tw V))), (V.au, .inl (cC, V.U, .inl V.un)), (mo, .inr (13, MF 30 (rf (rs v Q1 o) i br))), (Q1.qq, .inl (cI, (8 * Q1.C), .inl (upd Q1.qf (8 * Q.R + 2) ((nI x9)))))] := hD
  have hP := hP.sub (ws' := [(mo, .inr (13, MF 30 (rf (rs v Q1 o) i br))), (qx, .inl (cB, NN, .inl f)), (Q1.qq, .inl (cI, (8 * Q1.C), .inl (upd Q1.qf (8 * Q.R + 2) ((nI x9))))), (Q1.qe, .inl (cL, (3 * Q1.C), .inr (.inl Q1.ef))), (tv, .inr (12, MF 13 (tw V))), (V.au, .inl (cC, V.U, .inl V.un))]) [4, 0, 5, 1, 2, 3] rfl
  have hD := hD.sub (ws' := [(mo, .inr (13, MF 30 (rf (rs v Q1 o) i br))), (qx, .inl (cB, NN, .inl f)), (Q1.qq, .inl (cI, (8 * Q1.C), .inl (upd Q1.qf (8 * Q.R + 2) ((nI x9))))), (Q1.qe, .inl (cL, (3 * Q1.C), .inr (.inl Q1.ef))), (tv, .inr (12, MF 13 (tw V))), (V.au, .inl (cC, V.U, .inl V.un))]) [4, 0, 5, 1, 2, 3] (by decide) rfl
  obtain ⟨Q2, e_Q2⟩ : ∃ z : QS, z = QS.wf Q1 (upd Q1.qf (8 * Q.R + 2) ((nI x9))) := ⟨_, rfl⟩
  have hP : va_P (dC, dI) classes [(mo, .inr (13, MF 30 (rf (rs v Q2 o) i br))), (qx, .inl (cB, NN, .inl f)), (Q2.qq, .inl (cI, (8 * Q2.C), .inl Q2.qf)), (Q2.qe, .inl (cL, (3 * Q2.C), .inr (.inl Q2.ef))), (tv, .inr (12, MF 13 (tw V))), (V.au, .inl (cC, V.U, .inl V.un))] H := by subst e_Q2; exact hP
  have hD : va_D A [(mo, .inr (13, MF 30 (rf (rs v Q2 o) i br))), (qx, .inl (cB, NN, .inl f)), (Q2.qq, .inl (cI, (8 * Q2.C), .inl Q2.qf)), (Q2.qe, .inl (cL, (3 * Q2.C), .inr (.inl Q2.ef))), (tv, .inr (12, MF 13 (tw V))), (V.au, .inl (cC, V.U, .inl V.un))] := by subst e_Q2; exact hD
  have hf_Q2 : Q2.C = Q1.C ∧ Q2.R = Q1.R ∧ Q2.qf = upd Q1.qf (8 * Q.R + 2) ((nI x9)) := by rw [e_Q2]; exact ⟨rfl, rfl, rfl⟩
  have he_Q2 : Q2.ef = Q1.ef := by rw [e_Q2]; rfl
  have hQk_Q2 : QOK Q2 := by rw [e_Q2]; exact hQk_Q1
  have hG_Q2V : GQ (Q.R + 8 * (n - i) + 1) (V.us + (n + 12 - i)) Q V Q2 V := by unfold GQ at hG_Q1V ⊢; rw [hf_Q2.1]; exact hG_Q1V
  refine w_same (fun hq => ?_)
  refine w_tight (k := cQ Q V Q2 V) (n := sQ Q V Q2 V) (by unfold cQ sQ at hq ⊢; rw [hf_Q2.1]; exact hq) ?_
  have hR_Q2 := hf_Q2.2.1
  have hqb_Q2V : Q2.R ≤ Q2.C ∧ Q2.C ≤ 100000 := ⟨hQk_Q2.2.2.1, hQk_Q2.2.1⟩
  have hfit_Q2V := hG_Q2V.fits
  have hk0_Q2 : Q2.qf (8 * Q.R + 0) = 35 := by rw [hf_Q2.2.2, pk_un (by omega)]; exact hk0_Q1
  have hl1_Q2 : Q2.qf (8 * Q.R + 1) = -1 := by rw [hf_Q2.2.2, pk_un (by omega)]; exact hl1_Q1
  have hEx_Q2V : alr Q V Q2 V 0 Q.R := hEx_Q1V.tr (alr.upd hf_Q2.2.2 he_Q2 (by decide) (by omega))
  refine lv_iload_n hx hb d_Mo_wrap_14 rfl (lv_at hl 0 rfl) ?_
  refine w_same (fun hq => ?_)
  refine W.widen (k := kcap Q (Q.R + 8 * (n - i) + 1) + qcap V (V.us + (n + 12 - i))) (n := 22 * kcap Q (Q.R + 8 * (n - i) + 1) + 2 * qcap V (V.us + (n + 12 - i))) hfit_Q2V.1 hfit_Q2V.2 ?_
  exact W.iret (v := nI Q.R) hx hb hr (fun t9 ht hW => ⟨⟨nI Q.R, Q2, rfl, ⟨rfl, hQk_Q2, hG_Q2V, by omega, hEx_Q2V, hk0_Q2, hl1_Q2, by rw [hf_Q2.2.2]; exact pk_us⟩, ⟨by rw [ht]; exact hP, va_K.moved hW.alike hK, hD⟩, by rw [ht]; exact hq⟩, hS.F ht⟩) hS.2.2 d_Mo_wrap_15
