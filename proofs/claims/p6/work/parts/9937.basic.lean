theorem z_666 : (.methodLink "QueryBench$QueryReader" 172 ⟨"QueryBench$QueryReader", "negation", "()LQueryBench$Condition;"⟩ : Cond) ∈ gtbl := gt_in 666 (by decide +kernel) (by decide +kernel)
theorem z_668 : (.instanceMethod ⟨"QueryBench$QueryReader", "negation", "()LQueryBench$Condition;"⟩ : Cond) ∈ gtbl := gt_in 668 (by decide +kernel) (by decide +kernel)
theorem z_716 : (.methodLink "QueryBench$QueryReader" 181 ⟨"QueryBench$QueryReader", "testOrComparison", "()LQueryBench$Condition;"⟩ : Cond) ∈ gtbl := gt_in 716 (by decide +kernel) (by decide +kernel)
theorem z_718 : (.instanceMethod ⟨"QueryBench$QueryReader", "testOrComparison", "()LQueryBench$Condition;"⟩ : Cond) ∈ gtbl := gt_in 718 (by decide +kernel) (by decide +kernel)
theorem QPn.g2 {cI cV : ClassId} {E lv E1 : Nat → Nat} {L N : List Nat} {f f1 : Nat → va_E} {i n z s bd dm r p : Nat} (h : QPn cI cV E L f i n z s bd dm r p N E1 f1) (hO : PO cI cV E lv L f) : EX E E1 := by
  obtain ⟨lv1, g⟩ := h.x.g hO
  exact g.ex
set_option maxHeartbeats 4000000 in
set_option maxRecDepth 100000 in
/-- QueryReader.basic -/
theorem c_QR_basic (l : Launch) (hl9 : l.stackTraces = false) (K : Nat → Nat × Nat) (dC : Nat → ClassId) (dI : Nat → Nat → Nat) (cI cV : ClassId) (cB : ClassId) (h0 qb qu : Nat) (ln : Int32) (bf : Nat → Int32) (n qr : Nat) (hn0 : n ≤ 4096) (hbf : byR bf) (o : Nat) (ho : o ≤ 16) (ok : Bool) (orL : Nat → Option (Nat × CT)) (cmL : Nat → Option (Nat × OT)) (qyL : Nat → Option (Nat × Bool × QT)) (hok : ok = true ↔ o < 16) (HNg : QCT l K dC dI cI cV cB h0 qb qu ln bf n qr y_QueryReader_negation (k_QueryReader_negation :: gtbl) [.ref qr] o (12 * (16 - o) + 18) (360 * (16 - o) + 540) 16 160 0 6 0 50 10 (5 * (16 - o) + 2) 1 1 (OKd KD 2 (ngD bf n ok orL)) (NOd (ngD bf n ok orL))) (HGr : QCT l K dC dI cI cV cB h0 qb qu ln bf n qr y_QueryReader_group (k_QueryReader_group :: gtbl) [.ref qr] o (12 * (16 - o) + 17) (360 * (16 - o) + 510) 12 150 0 7 0 60 10 (5 * (16 - o)) 2 0 (OKd KD 2 (gpD bf n ok orL)) (NOd (gpD bf n ok orL))) (HT : QCT l K dC dI cI cV cB h0 qb qu ln bf n qr y_QueryReader_testOrComparison (k_QueryReader_testOrComparison :: gtbl) [.ref qr] o (12 * (16 - o) + 18) (360 * (16 - o) + 540) 6 60 0 6 0 54 10 (5 * (16 - o) + 2) 1 1 (OKd KD 2 (tcD bf n ok orL (opD bf n ok orL cmL qyL))) (NOd (tcD bf n ok orL (opD bf n ok orL cmL qyL)))) (HP : QCT l K dC dI cI cV cB h0 qb qu ln bf n qr y_QueryReader_operand (k_QueryReader_operand :: gtbl) [.ref qr] o (12 * (16 - o) + 16) (360 * (16 - o) + 480) 8 80 3 0 14 0 11 (5 * (16 - o) + 1) 0 0 (OKd OD 0 (opD bf n ok orL cmL qyL)) (NOd (opD bf n ok orL cmL qyL))) : QCT l K dC dI cI cV cB h0 qb qu ln bf n qr y_QueryReader_basic (k_QueryReader_basic :: gtbl) [.ref qr] o (12 * (16 - o) + 19) (360 * (16 - o) + 570) 20 200 0 1 0 30 10 (5 * (16 - o) + 2) 1 0 (OKd KD 2 (baD bf n ok orL cmL qyL)) (NOd (baD bf n ok orL cmL qyL)) := by
  intro sz E lv L f i uc pl ug hO hin
  refine vx_ofW (cc := b_QueryReader_basic) (maxL := 3) (ret := (some (.object "QueryBench$Condition"))) (by decide) rfl ?_
  intro p e s m args below meth c s₁ B hml hex hv
  obtain ⟨rfl, ⟨hsz, hP, hK, hD0⟩, hN, hZ, hC, hV⟩ := hv
  have hx := B.exec
  have hb := B.bytes
  have hr := B.returns
  have hts0 := atoms_spec (ws := k_QueryReader_basic :: gtbl) B.pre
  have hts := fun w h => hts0 w (List.mem_cons_of_mem _ h)
  have hown : s.vm.findClass R_QueryReader = some m.cls := findClass_of_methodNamed B.named
  have hlocks := B.notSynchronized
  subst hsz
  have hD := hD0.self (sz := s.heap.size)
  generalize hAe : va_A ([(qr, .inr (5, [.ref h0, .int (nI o)])), (h0, .inr (8, [.ref qb, .ref qu, .int uc, .int ln, .int (nI n), .int (nI i), .int pl])), (qb, .inl (cB, 4096, .inl bf)), (qu, .inl (cI, 4096, .inl ug))] ++ va_pl L f) s.heap.size = A at hD hZ hC ⊢
  have hA : ∀ q : Nat, s.heap.size ≤ q → A q := fun q h => by rw [← hAe]; exact Or.inr h
  have hS : va_S A s.heap s.heap [] := va_S.rf
  have hP : va_P (dC, dI) classes ([(qr, .inr (5, [.ref h0, .int (nI o)])), (h0, .inr (8, [.ref qb, .ref qu, .int uc, .int ln, .int (nI n), .int (nI i), .int pl])), (qb, .inl (cB, 4096, .inl bf)), (qu, .inl (cI, 4096, .inl ug))] ++ va_pl L f) s.heap := hP
  have hl := lv_entry ([.ref qr]) (n := 3) (Nat.le_of_ble_eq_true rfl)
  rw [lg_entry_eq]
  generalize (lg_sl ([.ref qr]) ++ List.replicate (3 - (lg_sl ([.ref qr])).length) Slot.unset).toArray = ls at hl ⊢
  have hl : lv_has ls 3 [(0, .ref qr)] := hl
  have hLz : ∀ a, a ∈ L → a < s.heap.size := fun a ha => va_pl_lt hP ha
  have hi9 : i ≤ n := by omega
  have hP : va_P (dC, dI) classes ([(qr, .inr (5, [.ref h0, .int (nI o)])), (h0, .inr (8, [.ref qb, .ref qu, .int uc, .int ln, .int (nI n), .int (nI i), .int pl])), (qb, .inl (cB, 4096, .inl bf)), (qu, .inl (cI, 4096, .inl ug))] ++ va_pl (L ++ []) f) s.heap := by rw [List.append_nil]; exact hP
  have hD : va_D A ([(qr, .inr (5, [.ref h0, .int (nI o)])), (h0, .inr (8, [.ref qb, .ref qu, .int uc, .int ln, .int (nI n), .int (nI i), .int pl])), (qb, .inl (cB, 4096, .inl bf)), (qu, .inl (cI, 4096, .inl ug))] ++ va_pl (L ++ []) f) := by rw [List.append_nil]; exact hD
  have hG0 : QG cI cV E lv L f i n i s.heap.size [] E lv f := QG.rf hO hi9
  refine lv_aload_n hx hb d_QueryReader_basic_0 rfl (lv_at hl 0 rfl) ?_
  refine va_get (D := (dC, dI)) (ci := 5) (v := .ref h0) (C := R_QueryReader) (T := F_QueryReader) (N := 2) hx hb hts in_QueryReader hown hK hP 0 rfl rfl 0 (by decide) (hts _ w_100) (fun _ h9 => h9) rfl d_QueryReader_basic_1 ?_
  have hPc := hP.sub (ws' := [(h0, .inr (8, [.ref qb, .ref qu, .int uc, .int ln, .int (nI n), .int (nI i), .int pl])), (qb, .inl (cB, 4096, .inl bf))]) [1, 2] rfl
  have hDc := hD.sub (ws' := [(h0, .inr (8, [.ref qb, .ref qu, .int uc, .int ln, .int (nI n), .int (nI i), .int pl])), (qb, .inl (cB, 4096, .inl bf))]) [1, 2] (by decide) rfl
  have hFc := va_free (wc := [(h0, .inr (8, [.ref qb, .ref qu, .int uc, .int ln, .int (nI n), .int (nI i), .int pl])), (qb, .inl (cB, 4096, .inl bf))]) hD hS hA [1, 2] rfl
  have hKc := hK.sub (tys' := [(cB, .byte)]) [0] rfl
  refine va_callv (va_runV (As := []) (rest := []) ⟨hx, hb, hml, hown, hts⟩ (c_Tape_skipBlanks l dC dI cB h0 qb s.heap (.ref qu) uc ln pl bf n i hn0 (by omega)) (cwV 0 hts (gt_V (own := R_QueryReader) (C := R_Tape) (i := 39) (y := y_Tape_skipBlanks) i_Tape_skipBlanks z_563 z_299 z_300 w_2) rfl rfl rfl (by decide +kernel) ⟨by show 0 + 1 ≤ 12 * (16 - o) + 19; omega, by show 8 + (2 + 11) + (0) ≤ 360 * (16 - o) + 570; omega⟩) ⟨mp_blind, va_recv hK hP (ci := 8) (q0 := 1) rfl rfl, fun U hU hW => ⟨rfl, hU, by rw [hU]; exact hPc, va_K.moved hW.alike hKc, hDc.weaken (fun _ _ _ _ => trivial)⟩⟩ rfl rfl hl.1 rfl (lv_room (Nat.le_of_ble_eq_true rfl)) d_QueryReader_basic_4 ⟨by show 0 + (0) ≤ 8 * (n - i) + 20; omega, by show 0 + (0) ≤ 64 * (n - i) + 200; omega⟩) hS (fun q _ h => hFc q h) hFc (fun _u t9 H1 locs ht hvm hw hB hz1 hk1 hS => ?_)
  obtain ⟨hP1, hK1, hD1⟩ := hB
  rw [ht] at hP1
  obtain ⟨hP, hD⟩ := va_joinQ (wr := [(qr, .inr (5, [.ref h0, .int (nI o)])), (qu, .inl (cI, 4096, .inl ug))]) (w1 := [(h0, .inr (8, [.ref qb, .ref qu, .int uc, .int ln, .int (nI n), .int (nI (skipB bf n i)), .int pl])), (qb, .inl (cB, 4096, .inl bf))]) hP hD [1, 2] [0, 3] rfl rfl (by decide) (by decide) hk1 hFc hP1 hD1
  generalize H1 = H at hP hS ⊢
  have hP : va_P (dC, dI) classes ([(qr, .inr (5, [.ref h0, .int (nI o)])), (qu, .inl (cI, 4096, .inl ug)), (h0, .inr (8, [.ref qb, .ref qu, .int uc, .int ln, .int (nI n), .int (nI (skipB bf n i)), .int pl])), (qb, .inl (cB, 4096, .inl bf))] ++ va_pl ((L ++ [])) f) H := hP
  have hD : va_D A ([(qr, .inr (5, [.ref h0, .int (nI o)])), (qu, .inl (cI, 4096, .inl ug)), (h0, .inr (8, [.ref qb, .ref qu, .int uc, .int ln, .int (nI n), .int (nI (skipB bf n i)), .int pl])), (qb, .inl (cB, 4096, .inl bf))] ++ va_pl ((L ++ [])) f) := hD
  have hP := hP.part (cx := [(qr, .inr (5, [.ref h0, .int (nI o)])), (h0, .inr (8, [.ref qb, .ref qu, .int uc, .int ln, .int (nI n), .int (nI (skipB bf n i)), .int pl])), (qb, .inl (cB, 4096, .inl bf)), (qu, .inl (cI, 4096, .inl ug))]) [0, 2, 3, 1] rfl
  have hD := hD.part (cx := [(qr, .inr (5, [.ref h0, .int (nI o)])), (h0, .inr (8, [.ref qb, .ref qu, .int uc, .int ln, .int (nI n), .int (nI (skipB bf n i)), .int pl])), (qb, .inl (cB, 4096, .inl bf)), (qu, .inl (cI, 4096, .inl ug))]) [0, 2, 3, 1] (by decide) rfl
  obtain ⟨p21, h_p21⟩ : ∃ z, z = skipB bf n i := ⟨_, rfl⟩
  have hb_p21 := skip_b (f := bf) (show i ≤ n by omega)
  rw [← h_p21] at hP hD hb_p21
  have hP : va_P (dC, dI) classes ([(qr, .inr (5, [.ref h0, .int (nI o)])), (h0, .inr (8, [.ref qb, .ref qu, .int uc, .int ln, .int (nI n), .int (nI p21), .int pl])), (qb, .inl (cB, 4096, .inl bf)), (qu, .inl (cI, 4096, .inl ug))] ++ va_pl ((L ++ [])) f) H := hP
  have hD : va_D A ([(qr, .inr (5, [.ref h0, .int (nI o)])), (h0, .inr (8, [.ref qb, .ref qu, .int uc, .int ln, .int (nI n), .int (nI p21), .int pl])), (qb, .inl (cB, 4096, .inl bf)), (qu, .inl (cI, 4096, .inl ug))] ++ va_pl ((L ++ [])) f) := hD
  refine lv_aload_n hx hb d_QueryReader_basic_7 rfl (lv_at hl 0 rfl) ?_
  refine va_get (D := (dC, dI)) (ci := 5) (v := .ref h0) (C := R_QueryReader) (T := F_QueryReader) (N := 2) hx hb hts in_QueryReader hown hK hP 0 rfl rfl 0 (by decide) (hts _ w_100) (fun _ h9 => h9) rfl d_QueryReader_basic_8 ?_
  have hPc := hP.sub (ws' := [(h0, .inr (8, [.ref qb, .ref qu, .int uc, .int ln, .int (nI n), .int (nI p21), .int pl])), (qb, .inl (cB, 4096, .inl bf))]) [1, 2] rfl
  have hDc := hD.sub (ws' := [(h0, .inr (8, [.ref qb, .ref qu, .int uc, .int ln, .int (nI n), .int (nI p21), .int pl])), (qb, .inl (cB, 4096, .inl bf))]) [1, 2] (by decide) rfl
  have hFc := va_free (wc := [(h0, .inr (8, [.ref qb, .ref qu, .int uc, .int ln, .int (nI n), .int (nI p21), .int pl])), (qb, .inl (cB, 4096, .inl bf))]) hD hS hA [1, 2] rfl
  have hKc := hK.sub (tys' := [(cB, .byte)]) [0] rfl
  refine va_calli (va_runV (As := []) (rest := []) ⟨hx, hb, hml, hown, hts⟩ (c_Tape_here l dC dI cB h0 qb H (.ref qu) uc ln pl bf n p21 hn0 (by omega)) (cwV 0 hts (gt_V (own := R_QueryReader) (C := R_Tape) (i := 19) (y := y_Tape_here) i_Tape_here z_534 w_363 w_364 w_2) rfl rfl rfl (by decide +kernel) ⟨by show 0 + 1 ≤ 12 * (16 - o) + 19; omega, by show 8 + (1 + 11) + (0) ≤ 360 * (16 - o) + 570; omega⟩) ⟨mp_blind, va_recv hK hP (ci := 8) (q0 := 1) rfl rfl, fun U hU hW => ⟨rfl, hU, by rw [hU]; exact hPc, va_K.moved hW.alike hKc, hDc.weaken (fun _ _ _ _ => trivial)⟩⟩ rfl rfl hl.1 rfl (lv_room (Nat.le_of_ble_eq_true rfl)) d_QueryReader_basic_11 ⟨by show 0 + (0) ≤ 8 * (n - i) + 20; omega, by show 0 + (0) ≤ 64 * (n - i) + 200; omega⟩) hS (fun q _ h => hFc q h) hFc (fun h22 _u t9 H1 locs ht hvm hw hB hz1 hk1 hS => ?_)
  obtain ⟨hP1, hK1, hD1⟩ := hB
  rw [ht] at hP1
  obtain ⟨hP, hD⟩ := va_joinQ (wr := [(qr, .inr (5, [.ref h0, .int (nI o)])), (qu, .inl (cI, 4096, .inl ug))]) (w1 := [(h0, .inr (8, [.ref qb, .ref qu, .int uc, .int ln, .int (nI n), .int (nI p21), .int pl])), (qb, .inl (cB, 4096, .inl bf))]) hP hD [1, 2] [0, 3] rfl rfl (by decide) (by decide) hk1 hFc hP1 hD1
  generalize H1 = H at hP hS ⊢
  have hP : va_P (dC, dI) classes ([(qr, .inr (5, [.ref h0, .int (nI o)])), (qu, .inl (cI, 4096, .inl ug)), (h0, .inr (8, [.ref qb, .ref qu, .int uc, .int ln, .int (nI n), .int (nI p21), .int pl])), (qb, .inl (cB, 4096, .inl bf))] ++ va_pl ((L ++ [])) f) H := hP
  have hD : va_D A ([(qr, .inr (5, [.ref h0, .int (nI o)])), (qu, .inl (cI, 4096, .inl ug)), (h0, .inr (8, [.ref qb, .ref qu, .int uc, .int ln, .int (nI n), .int (nI p21), .int pl])), (qb, .inl (cB, 4096, .inl bf))] ++ va_pl ((L ++ [])) f) := hD
  have hP := hP.part (cx := [(qr, .inr (5, [.ref h0, .int (nI o)])), (h0, .inr (8, [.ref qb, .ref qu, .int uc, .int ln, .int (nI n), .int (nI p21), .int pl])), (qb, .inl (cB, 4096, .inl bf)), (qu, .inl (cI, 4096, .inl ug))]) [0, 2, 3, 1] rfl
  have hD := hD.part (cx := [(qr, .inr (5, [.ref h0, .int (nI o)])), (h0, .inr (8, [.ref qb, .ref qu, .int uc, .int ln, .int (nI n), .int (nI p21), .int pl])), (qb, .inl (cB, 4096, .inl bf)), (qu, .inl (cI, 4096, .inl ug))]) [0, 2, 3, 1] (by decide) rfl
  have h_h22 : h22 = hereV bf n p21 := hw
  refine lv_bipush (v := 33) hx hb d_QueryReader_basic_14 (by decide) ?_
  refine lv_icmp_ne (tgt := 27) hx hb d_QueryReader_basic_16 (by decide) (fun c16 => ?_) (fun c16 => ?_)
  · have h33 : ¬ hereV bf n p21 = 33 := fun q => c16 (h_h22.trans q)
    refine lv_aload_n hx hb d_QueryReader_basic_27 rfl (lv_at hl 0 rfl) ?_
    refine va_get (D := (dC, dI)) (ci := 5) (v := .ref h0) (C := R_QueryReader) (T := F_QueryReader) (N := 2) hx hb hts in_QueryReader hown hK hP 0 rfl rfl 0 (by decide) (hts _ w_100) (fun _ h9 => h9) rfl d_QueryReader_basic_28 ?_
    have hPc := hP.sub (ws' := [(h0, .inr (8, [.ref qb, .ref qu, .int uc, .int ln, .int (nI n), .int (nI p21), .int pl])), (qb, .inl (cB, 4096, .inl bf))]) [1, 2] rfl
    have hDc := hD.sub (ws' := [(h0, .inr (8, [.ref qb, .ref qu, .int uc, .int ln, .int (nI n), .int (nI p21), .int pl])), (qb, .inl (cB, 4096, .inl bf))]) [1, 2] (by decide) rfl
    have hFc := va_free (wc := [(h0, .inr (8, [.ref qb, .ref qu, .int uc, .int ln, .int (nI n), .int (nI p21), .int pl])), (qb, .inl (cB, 4096, .inl bf))]) hD hS hA [1, 2] rfl
    have hKc := hK.sub (tys' := [(cB, .byte)]) [0] rfl
    refine va_calli (va_runV (As := []) (rest := []) ⟨hx, hb, hml, hown, hts⟩ (c_Tape_here l dC dI cB h0 qb H (.ref qu) uc ln pl bf n p21 hn0 (by omega)) (cwV 0 hts (gt_V (own := R_QueryReader) (C := R_Tape) (i := 19) (y := y_Tape_here) i_Tape_here z_534 w_363 w_364 w_2) rfl rfl rfl (by decide +kernel) ⟨by show 0 + 1 ≤ 12 * (16 - o) + 19; omega, by show 8 + (1 + 11) + (0) ≤ 360 * (16 - o) + 570; omega⟩) ⟨mp_blind, va_recv hK hP (ci := 8) (q0 := 1) rfl rfl, fun U hU hW => ⟨rfl, hU, by rw [hU]; exact hPc, va_K.moved hW.alike hKc, hDc.weaken (fun _ _ _ _ => trivial)⟩⟩ rfl rfl hl.1 rfl (lv_room (Nat.le_of_ble_eq_true rfl)) d_QueryReader_basic_31 ⟨by show 0 + (0) ≤ 8 * (n - i) + 20; omega, by show 0 + (0) ≤ 64 * (n - i) + 200; omega⟩) hS (fun q _ h => hFc q h) hFc (fun h23 _u t9 H1 locs ht hvm hw hB hz1 hk1 hS => ?_)
    obtain ⟨hP1, hK1, hD1⟩ := hB
    rw [ht] at hP1
    obtain ⟨hP, hD⟩ := va_joinQ (wr := [(qr, .inr (5, [.ref h0, .int (nI o)])), (qu, .inl (cI, 4096, .inl ug))]) (w1 := [(h0, .inr (8, [.ref qb, .ref qu, .int uc, .int ln, .int (nI n), .int (nI p21), .int pl])), (qb, .inl (cB, 4096, .inl bf))]) hP hD [1, 2] [0, 3] rfl rfl (by decide) (by decide) hk1 hFc hP1 hD1
    generalize H1 = H at hP hS ⊢
    have hP : va_P (dC, dI) classes ([(qr, .inr (5, [.ref h0, .int (nI o)])), (qu, .inl (cI, 4096, .inl ug)), (h0, .inr (8, [.ref qb, .ref qu, .int uc, .int ln, .int (nI n), .int (nI p21), .int pl])), (qb, .inl (cB, 4096, .inl bf))] ++ va_pl ((L ++ [])) f) H := hP
    have hD : va_D A ([(qr, .inr (5, [.ref h0, .int (nI o)])), (qu, .inl (cI, 4096, .inl ug)), (h0, .inr (8, [.ref qb, .ref qu, .int uc, .int ln, .int (nI n), .int (nI p21), .int pl])), (qb, .inl (cB, 4096, .inl bf))] ++ va_pl ((L ++ [])) f) := hD
    have hP := hP.part (cx := [(qr, .inr (5, [.ref h0, .int (nI o)])), (h0, .inr (8, [.ref qb, .ref qu, .int uc, .int ln, .int (nI n), .int (nI p21), .int pl])), (qb, .inl (cB, 4096, .inl bf)), (qu, .inl (cI, 4096, .inl ug))]) [0, 2, 3, 1] rfl
    have hD := hD.part (cx := [(qr, .inr (5, [.ref h0, .int (nI o)])), (h0, .inr (8, [.ref qb, .ref qu, .int uc, .int ln, .int (nI n), .int (nI p21), .int pl])), (qb, .inl (cB, 4096, .inl bf)), (qu, .inl (cI, 4096, .inl ug))]) [0, 2, 3, 1] (by decide) rfl
    have h_h23 : h23 = hereV bf n p21 := hw
    refine lv_bipush (v := 40) hx hb d_QueryReader_basic_34 (by decide) ?_
    refine lv_icmp_ne (tgt := 47) hx hb d_QueryReader_basic_36 (by decide) (fun c36 => ?_) (fun c36 => ?_)
    · have h40 : ¬ hereV bf n p21 = 40 := fun q => c36 (h_h23.trans q)
      refine lv_aload_n hx hb d_QueryReader_basic_47 rfl (lv_at hl 0 rfl) ?_
      refine va_get (D := (dC, dI)) (ci := 5) (v := .ref h0) (C := R_QueryReader) (T := F_QueryReader) (N := 2) hx hb hts in_QueryReader hown hK hP 0 rfl rfl 0 (by decide) (hts _ w_100) (fun _ h9 => h9) rfl d_QueryReader_basic_48 ?_
      have hPc := hP.sub (ws' := [(h0, .inr (8, [.ref qb, .ref qu, .int uc, .int ln, .int (nI n), .int (nI p21), .int pl])), (qb, .inl (cB, 4096, .inl bf))]) [1, 2] rfl
      have hDc := hD.sub (ws' := [(h0, .inr (8, [.ref qb, .ref qu, .int uc, .int ln, .int (nI n), .int (nI p21), .int pl])), (qb, .inl (cB, 4096, .inl bf))]) [1, 2] (by decide) rfl
      have hFc := va_free (wc := [(h0, .inr (8, [.ref qb, .ref qu, .int uc, .int ln, .int (nI n), .int (nI p21), .int pl])), (qb, .inl (cB, 4096, .inl bf))]) hD hS hA [1, 2] rfl
      have hKc := hK.sub (tys' := [(cB, .byte)]) [0] rfl
      refine va_calli (va_runV (As := []) (rest := []) ⟨hx, hb, hml, hown, hts⟩ (c_Tape_here l dC dI cB h0 qb H (.ref qu) uc ln pl bf n p21 hn0 (by omega)) (cwV 0 hts (gt_V (own := R_QueryReader) (C := R_Tape) (i := 19) (y := y_Tape_here) i_Tape_here z_534 w_363 w_364 w_2) rfl rfl rfl (by decide +kernel) ⟨by show 0 + 1 ≤ 12 * (16 - o) + 19; omega, by show 8 + (1 + 11) + (0) ≤ 360 * (16 - o) + 570; omega⟩) ⟨mp_blind, va_recv hK hP (ci := 8) (q0 := 1) rfl rfl, fun U hU hW => ⟨rfl, hU, by rw [hU]; exact hPc, va_K.moved hW.alike hKc, hDc.weaken (fun _ _ _ _ => trivial)⟩⟩ rfl rfl hl.1 rfl (lv_room (Nat.le_of_ble_eq_true rfl)) d_QueryReader_basic_51 ⟨by show 0 + (0) ≤ 8 * (n - i) + 20; omega, by show 0 + (0) ≤ 64 * (n - i) + 200; omega⟩) hS (fun q _ h => hFc q h) hFc (fun h24 _u t9 H1 locs ht hvm hw hB hz1 hk1 hS => ?_)
      obtain ⟨hP1, hK1, hD1⟩ := hB
      rw [ht] at hP1
      obtain ⟨hP, hD⟩ := va_joinQ (wr := [(qr, .inr (5, [.ref h0, .int (nI o)])), (qu, .inl (cI, 4096, .inl ug))]) (w1 := [(h0, .inr (8, [.ref qb, .ref qu, .int uc, .int ln, .int (nI n), .int (nI p21), .int pl])), (qb, .inl (cB, 4096, .inl bf))]) hP hD [1, 2] [0, 3] rfl rfl (by decide) (by decide) hk1 hFc hP1 hD1
      generalize H1 = H at hP hS ⊢
      have hP : va_P (dC, dI) classes ([(qr, .inr (5, [.ref h0, .int (nI o)])), (qu, .inl (cI, 4096, .inl ug)), (h0, .inr (8, [.ref qb, .ref qu, .int uc, .int ln, .int (nI n), .int (nI p21), .int pl])), (qb, .inl (cB, 4096, .inl bf))] ++ va_pl ((L ++ [])) f) H := hP
      have hD : va_D A ([(qr, .inr (5, [.ref h0, .int (nI o)])), (qu, .inl (cI, 4096, .inl ug)), (h0, .inr (8, [.ref qb, .ref qu, .int uc, .int ln, .int (nI n), .int (nI p21), .int pl])), (qb, .inl (cB, 4096, .inl bf))] ++ va_pl ((L ++ [])) f) := hD
      have hP := hP.part (cx := [(qr, .inr (5, [.ref h0, .int (nI o)])), (h0, .inr (8, [.ref qb, .ref qu, .int uc, .int ln, .int (nI n), .int (nI p21), .int pl])), (qb, .inl (cB, 4096, .inl bf)), (qu, .inl (cI, 4096, .inl ug))]) [0, 2, 3, 1] rfl
      have hD := hD.part (cx := [(qr, .inr (5, [.ref h0, .int (nI o)])), (h0, .inr (8, [.ref qb, .ref qu, .int uc, .int ln, .int (nI n), .int (nI p21), .int pl])), (qb, .inl (cB, 4096, .inl bf)), (qu, .inl (cI, 4096, .inl ug))]) [0, 2, 3, 1] (by decide) rfl
      have h_h24 : h24 = hereV bf n p21 := hw
      refine vp_callSi (va_Run.run (va_runS (As := [.int h24]) (rest := []) ⟨hx, hb, hml, hown, hts⟩ (c_QueryReader_beginsQuery l dC dI H h24) (va_cwS 1 hts (gt_S (own := R_QueryReader) (i := 178) (y := y_QueryReader_beginsQuery) i_QueryReader_beginsQuery z_713 z_714 w_4) rfl rfl rfl (by decide +kernel) ⟨by show 0 + 1 ≤ 12 * (16 - o) + 19; omega, by show 8 + (1 + 11) + (0) ≤ 360 * (16 - o) + 570; omega⟩) ⟨mT_blind, fun U hU hW => ⟨rfl, hN.warm hW⟩⟩ rfl rfl hl.1 rfl (lv_room (Nat.le_of_ble_eq_true rfl)) d_QueryReader_basic_54 ⟨by show 0 + (0) ≤ 8 * (n - i) + 20; omega, by show 0 + (0) ≤ 64 * (n - i) + 200; omega⟩)) (fun r25 h_r25 => ?_)
      refine lv_if_eq (tgt := 68) hx hb d_QueryReader_basic_57 (by decide) (fun c57 => ?_) (fun c57 => ?_)
      · have hnot : ¬ (begC (hereV bf n p21)) := by rw [← h_h24]; exact h_r25.2.2 c57
        refine lv_aload_n hx hb d_QueryReader_basic_68 rfl (lv_at hl 0 rfl) ?_
        have hG26 := hG0.mv (show i ≤ p21 by omega) (show p21 ≤ n by omega)
        have hzz26 : s.heap.size ≤ H.size := hS.1
        have hPc := hP.part (cx := [(qr, .inr (5, [.ref h0, .int (nI o)])), (h0, .inr (8, [.ref qb, .ref qu, .int uc, .int ln, .int (nI n), .int (nI p21), .int pl])), (qb, .inl (cB, 4096, .inl bf)), (qu, .inl (cI, 4096, .inl ug))]) [0, 1, 2, 3] rfl
        have hDc := hD.part (cx := [(qr, .inr (5, [.ref h0, .int (nI o)])), (h0, .inr (8, [.ref qb, .ref qu, .int uc, .int ln, .int (nI n), .int (nI p21), .int pl])), (qb, .inl (cB, 4096, .inl bf)), (qu, .inl (cI, 4096, .inl ug))]) [0, 1, 2, 3] (by decide) rfl
        have hFc := va_freeP (cx := [(qr, .inr (5, [.ref h0, .int (nI o)])), (h0, .inr (8, [.ref qb, .ref qu, .int uc, .int ln, .int (nI n), .int (nI p21), .int pl])), (qb, .inl (cB, 4096, .inl bf)), (qu, .inl (cI, 4096, .inl ug))]) hD hS hA [0, 1, 2, 3] rfl
        have hKc := hK.sub (tys' := [(cB, .byte), (cI, .int), (cV, .object "QueryBench$Value")]) [0, 1, 2] rfl
        refine w_same (fun hq0 => ?_)
        refine vx_callr (vx_runV (As := []) (rest := []) ⟨hx, hb, hml, hown, hts⟩ (HP H E lv (L ++ []) f p21 uc pl ug hG26.po (by omega)) (cwV 0 hts (gt_V (own := R_QueryReader) (C := R_QueryReader) (i := 184) (y := y_QueryReader_operand) i_QueryReader_operand z_751 z_753 (gt_sel (y := y_QueryReader_operand) (n := 2) (by decide +kernel)) w_4) rfl rfl rfl (by decide +kernel) ⟨by show 12 * (16 - o) + 16 + 1 ≤ 12 * (16 - o) + 19; omega, by show 8 + (3 + 11) + (360 * (16 - o) + 480) ≤ 360 * (16 - o) + 570; omega⟩) ⟨ml_blind, va_recv hK hP (ci := 5) (q0 := 0) rfl rfl, fun U hU hW => ⟨rfl, ⟨hU, by rw [hU]; exact hPc, va_K.moved hW.alike hKc, hDc.weaken (fun _ _ _ _ => trivial)⟩, hN.warm hW, by rw [hU]; exact ZX.moved' hW.alike (ZX.narrow' (ZX.kept' hZ hS.2.1) hFc), by rw [hU]; exact CE.call hC hS.2.1 hFc hW, va_AO.moved hW.alike hV⟩⟩ rfl rfl hl.1 rfl (lv_room (Nat.le_of_ble_eq_true rfl)) d_QueryReader_basic_69 ⟨by show 0 + (8 * (n - p21) + 8) ≤ 8 * (n - i) + 20; omega, by show 0 + (64 * (n - p21) + 80) ≤ 64 * (n - i) + 200; omega⟩) hS (fun q _ h => hFc q h) hFc (fun q _ h => hFc q h) (fun En ce q9 ⟨ax, cx, px, gx, ox⟩ t9 H1 locs ht hvm hw hB hz1 hk1 hS hce hcv hcl => ?_) (fun ⟨w26, p26, N26, E26, f26, uc26, ug26⟩ v26 t9 H1 locs ht hvm hw hB hz1 hk1 hS => ?_)
        · obtain ⟨hEn, hP1, hK1, hD1⟩ := hB
          rw [ht] at hP1
          obtain ⟨hP, hD⟩ := va_joinP (wr := []) (rx := [(qr, .inr (5, [.ref h0, .int ox])), (h0, .inr (8, [.ref qb, .ref qu, .int cx, .int ln, .int (nI n), .int ax, .int px])), (qb, .inl (cB, 4096, .inl bf)), (qu, .inl (cI, 4096, .inl gx))]) (pl1 := va_pl ((L ++ [])) f) hP hD [0, 1, 2, 3] [] rfl rfl (by decide) (by decide) hk1 hFc hP1 hD1
          generalize H1 = H at hP hS hce ⊢
          have hP : va_P (dC, dI) classes ([(qr, .inr (5, [.ref h0, .int ox])), (h0, .inr (8, [.ref qb, .ref qu, .int cx, .int ln, .int (nI n), .int ax, .int px])), (qb, .inl (cB, 4096, .inl bf)), (qu, .inl (cI, 4096, .inl gx))] ++ va_pl ((L ++ [])) f) H := hP
          have hD : va_D A ([(qr, .inr (5, [.ref h0, .int ox])), (h0, .inr (8, [.ref qb, .ref qu, .int cx, .int ln, .int (nI n), .int ax, .int px])), (qb, .inl (cB, 4096, .inl bf)), (qu, .inl (cI, 4096, .inl gx))] ++ va_pl ((L ++ [])) f) := hD
          have hP := plP_cut (hP.part (cx := [(qr, .inr (5, [.ref h0, .int ox])), (h0, .inr (8, [.ref qb, .ref qu, .int cx, .int ln, .int (nI n), .int ax, .int px])), (qb, .inl (cB, 4096, .inl bf)), (qu, .inl (cI, 4096, .inl gx))]) [0, 1, 2, 3] rfl) hG26.on
          have hD := plD_cut (hD.part (cx := [(qr, .inr (5, [.ref h0, .int ox])), (h0, .inr (8, [.ref qb, .ref qu, .int cx, .int ln, .int (nI n), .int ax, .int px])), (qb, .inl (cB, 4096, .inl bf)), (qu, .inl (cI, 4096, .inl gx))]) [0, 1, 2, 3] (by decide) rfl) hG26.on
          have hno : (baD bf n ok orL cmL qyL) i = none := baD_0 h_p21 (baD1_0 h33 h40 hnot hw)
          exact vx_out (fun x hx => (hex x hx).elim) hlocks hce hcv hcl (fun t9 ht2 ha => ⟨(ax, cx, px, gx, ox), hno, ⟨hEn, by rw [ht2]; exact hP, va_K.moved ha hK, hD⟩, hS.F ht2⟩) hS.2.2 (by show 0 + (8 * (n - p21) + 8) ≤ 8 * (n - i) + 20; omega) (by show 0 + (64 * (n - p21) + 80) ≤ 64 * (n - i) + 200; omega)
        · obtain ⟨⟨hP1, hK1, hD1⟩, hz9, ha9⟩ := hB
          rw [ht] at hP1
          rw [ht] at hz9
          have ha9 : v26 = w26 := ha9
          subst ha9
          have hq0 : szk s.heap H1 (0 + (8 * (p26 - p21) + 3 - 0)) (0 + (64 * (p26 - p21) + 14 - 0)) := (hq0.trans hz9).mono (Nat.le_refl _) (Nat.le_refl _)
          refine w_tight hq0 ?_
          obtain ⟨hP, hD⟩ := va_joinP (wr := []) (rx := [(qr, .inr (5, [.ref h0, .int (nI o)])), (h0, .inr (8, [.ref qb, .ref qu, .int uc26, .int ln, .int (nI n), .int (nI p26), .int pl])), (qb, .inl (cB, 4096, .inl bf)), (qu, .inl (cI, 4096, .inl ug26))]) (pl1 := va_pl (((L ++ []) ++ N26)) f26) hP hD [0, 1, 2, 3] [] rfl rfl (by decide) (by decide) hk1 hFc hP1 hD1
          generalize H1 = H at hP hS hq0 ⊢
          have hP : va_P (dC, dI) classes ([(qr, .inr (5, [.ref h0, .int (nI o)])), (h0, .inr (8, [.ref qb, .ref qu, .int uc26, .int ln, .int (nI n), .int (nI p26), .int pl])), (qb, .inl (cB, 4096, .inl bf)), (qu, .inl (cI, 4096, .inl ug26))] ++ va_pl (((L ++ []) ++ N26)) f26) H := hP
          have hD : va_D A ([(qr, .inr (5, [.ref h0, .int (nI o)])), (h0, .inr (8, [.ref qb, .ref qu, .int uc26, .int ln, .int (nI n), .int (nI p26), .int pl])), (qb, .inl (cB, 4096, .inl bf)), (qu, .inl (cI, 4096, .inl ug26))] ++ va_pl (((L ++ []) ++ N26)) f26) := hD
          obtain ⟨hw, m26, hf26, hd26⟩ := hw
          have hf26 : (opD bf n ok orL cmL qyL) p21 = some (p26, m26) := hf26
          have hd26 : DNx OD 0 E E26 f26 v26 m26 := hd26
          have hQ26 : QPn cI cV E (L ++ []) f p21 n _ 11 (5 * (16 - o) + 1) 0 v26 p26 N26 E26 f26 := hw
          obtain ⟨lv26, hg26, hlv26⟩ := hQ26.x lv hG26.po _ (Nat.le_refl _)
          have hex26 := hg26.ex
          have hge26 := hg26.ge hQ26.new (by rw [hQ26.so]; decide)
          have hkp26 : KPx E E26 f f26 := KPx.of hg26 hG26.po
          have hnv26 : E v26 = 0 := hQ26.new
          have hsv26 : ¬ E26 v26 = 0 := by rw [hQ26.so]; decide
          have hG26 := hG26.tr hg26 hzz26
          obtain ⟨ha26, hb26⟩ := hQ26.num
          have ha26 : p21 + 0 ≤ p26 := ha26
          have hb26 : p26 ≤ n := hb26
          rw [List.append_assoc] at hP hD
          have hP : va_P (dC, dI) classes ([(qr, .inr (5, [.ref h0, .int (nI o)])), (h0, .inr (8, [.ref qb, .ref qu, .int uc26, .int ln, .int (nI n), .int (nI p26), .int pl])), (qb, .inl (cB, 4096, .inl bf)), (qu, .inl (cI, 4096, .inl ug26))] ++ va_pl ((L ++ ([] ++ N26))) f26) H := hP
          have hD : va_D A ([(qr, .inr (5, [.ref h0, .int (nI o)])), (h0, .inr (8, [.ref qb, .ref qu, .int uc26, .int ln, .int (nI n), .int (nI p26), .int pl])), (qb, .inl (cB, 4096, .inl bf)), (qu, .inl (cI, 4096, .inl ug26))] ++ va_pl ((L ++ ([] ++ N26))) f26) := hD
          refine lv_astore_n (lv' := [(2, .ref v26), (0, .ref qr)]) hx hb d_QueryReader_basic_72 rfl hl (by decide) rfl (fun ls hl => ?_)
          refine lv_aload_n hx hb d_QueryReader_basic_73 rfl (lv_at hl 1 rfl) ?_
          refine va_get (D := (dC, dI)) (ci := 5) (v := .ref h0) (C := R_QueryReader) (T := F_QueryReader) (N := 2) hx hb hts in_QueryReader hown hK hP 0 rfl rfl 0 (by decide) (hts _ w_100) (fun _ h9 => h9) rfl d_QueryReader_basic_74 ?_
          have hPc := hP.sub (ws' := [(h0, .inr (8, [.ref qb, .ref qu, .int uc26, .int ln, .int (nI n), .int (nI p26), .int pl])), (qb, .inl (cB, 4096, .inl bf))]) [1, 2] rfl
          have hDc := hD.sub (ws' := [(h0, .inr (8, [.ref qb, .ref qu, .int uc26, .int ln, .int (nI n), .int (nI p26), .int pl])), (qb, .inl (cB, 4096, .inl bf))]) [1, 2] (by decide) rfl
          have hFc := va_free (wc := [(h0, .inr (8, [.ref qb, .ref qu, .int uc26, .int ln, .int (nI n), .int (nI p26), .int pl])), (qb, .inl (cB, 4096, .inl bf))]) hD hS hA [1, 2] rfl
          have hKc := hK.sub (tys' := [(cB, .byte)]) [0] rfl
          refine va_callv (va_runV (As := []) (rest := []) ⟨hx, hb, hml, hown, hts⟩ (c_Tape_skipBlanks l dC dI cB h0 qb H (.ref qu) uc26 ln pl bf n p26 hn0 (by omega)) (cwV 0 hts (gt_V (own := R_QueryReader) (C := R_Tape) (i := 39) (y := y_Tape_skipBlanks) i_Tape_skipBlanks z_563 z_299 z_300 w_2) rfl rfl rfl (by decide +kernel) ⟨by show 0 + 1 ≤ 12 * (16 - o) + 19; omega, by show 8 + (2 + 11) + (0) ≤ 360 * (16 - o) + 570; omega⟩) ⟨mp_blind, va_recv hK hP (ci := 8) (q0 := 1) rfl rfl, fun U hU hW => ⟨rfl, hU, by rw [hU]; exact hPc, va_K.moved hW.alike hKc, hDc.weaken (fun _ _ _ _ => trivial)⟩⟩ rfl rfl hl.1 rfl (lv_room (Nat.le_of_ble_eq_true rfl)) d_QueryReader_basic_77 ⟨by show (0 + (8 * (p26 - p21) + 3 - 0)) + (0) ≤ 8 * (n - i) + 20; omega, by show (0 + (64 * (p26 - p21) + 14 - 0)) + (0) ≤ 64 * (n - i) + 200; omega⟩) hS (fun q _ h => hFc q h) hFc (fun _u t9 H1 locs ht hvm hw hB hz1 hk1 hS => ?_)
          obtain ⟨hP1, hK1, hD1⟩ := hB
          rw [ht] at hP1
          obtain ⟨hP, hD⟩ := va_joinQ (wr := [(qr, .inr (5, [.ref h0, .int (nI o)])), (qu, .inl (cI, 4096, .inl ug26))]) (w1 := [(h0, .inr (8, [.ref qb, .ref qu, .int uc26, .int ln, .int (nI n), .int (nI (skipB bf n p26)), .int pl])), (qb, .inl (cB, 4096, .inl bf))]) hP hD [1, 2] [0, 3] rfl rfl (by decide) (by decide) hk1 hFc hP1 hD1
          generalize H1 = H at hP hS ⊢
          have hP : va_P (dC, dI) classes ([(qr, .inr (5, [.ref h0, .int (nI o)])), (qu, .inl (cI, 4096, .inl ug26)), (h0, .inr (8, [.ref qb, .ref qu, .int uc26, .int ln, .int (nI n), .int (nI (skipB bf n p26)), .int pl])), (qb, .inl (cB, 4096, .inl bf))] ++ va_pl ((L ++ ([] ++ N26))) f26) H := hP
          have hD : va_D A ([(qr, .inr (5, [.ref h0, .int (nI o)])), (qu, .inl (cI, 4096, .inl ug26)), (h0, .inr (8, [.ref qb, .ref qu, .int uc26, .int ln, .int (nI n), .int (nI (skipB bf n p26)), .int pl])), (qb, .inl (cB, 4096, .inl bf))] ++ va_pl ((L ++ ([] ++ N26))) f26) := hD
          have hP := hP.part (cx := [(qr, .inr (5, [.ref h0, .int (nI o)])), (h0, .inr (8, [.ref qb, .ref qu, .int uc26, .int ln, .int (nI n), .int (nI (skipB bf n p26)), .int pl])), (qb, .inl (cB, 4096, .inl bf)), (qu, .inl (cI, 4096, .inl ug26))]) [0, 2, 3, 1] rfl
          have hD := hD.part (cx := [(qr, .inr (5, [.ref h0, .int (nI o)])), (h0, .inr (8, [.ref qb, .ref qu, .int uc26, .int ln, .int (nI n), .int (nI (skipB bf n p26)), .int pl])), (qb, .inl (cB, 4096, .inl bf)), (qu, .inl (cI, 4096, .inl ug26))]) [0, 2, 3, 1] (by decide) rfl
          obtain ⟨p27, h_p27⟩ : ∃ z, z = skipB bf n p26 := ⟨_, rfl⟩
          have hb_p27 := skip_b (f := bf) (show p26 ≤ n by omega)
          rw [← h_p27] at hP hD hb_p27
          have hP : va_P (dC, dI) classes ([(qr, .inr (5, [.ref h0, .int (nI o)])), (h0, .inr (8, [.ref qb, .ref qu, .int uc26, .int ln, .int (nI n), .int (nI p27), .int pl])), (qb, .inl (cB, 4096, .inl bf)), (qu, .inl (cI, 4096, .inl ug26))] ++ va_pl ((L ++ ([] ++ N26))) f26) H := hP
          have hD : va_D A ([(qr, .inr (5, [.ref h0, .int (nI o)])), (h0, .inr (8, [.ref qb, .ref qu, .int uc26, .int ln, .int (nI n), .int (nI p27), .int pl])), (qb, .inl (cB, 4096, .inl bf)), (qu, .inl (cI, 4096, .inl ug26))] ++ va_pl ((L ++ ([] ++ N26))) f26) := hD
          refine lv_aload_n hx hb d_QueryReader_basic_80 rfl (lv_at hl 1 rfl) ?_
          refine lv_aload_n hx hb d_QueryReader_basic_81 rfl (lv_at hl 0 rfl) ?_
          have hG28 := hG26.mv (show p26 ≤ p27 by omega) (show p27 ≤ n by omega)
          have hzz28 : s.heap.size ≤ H.size := hS.1
          have hPc := hP.part (cx := [(qr, .inr (5, [.ref h0, .int (nI o)])), (h0, .inr (8, [.ref qb, .ref qu, .int uc26, .int ln, .int (nI n), .int (nI p27), .int pl])), (qb, .inl (cB, 4096, .inl bf)), (qu, .inl (cI, 4096, .inl ug26))]) [0, 1, 2, 3] rfl
          have hDc := hD.part (cx := [(qr, .inr (5, [.ref h0, .int (nI o)])), (h0, .inr (8, [.ref qb, .ref qu, .int uc26, .int ln, .int (nI n), .int (nI p27), .int pl])), (qb, .inl (cB, 4096, .inl bf)), (qu, .inl (cI, 4096, .inl ug26))]) [0, 1, 2, 3] (by decide) rfl
          have hFc := va_freeP (cx := [(qr, .inr (5, [.ref h0, .int (nI o)])), (h0, .inr (8, [.ref qb, .ref qu, .int uc26, .int ln, .int (nI n), .int (nI p27), .int pl])), (qb, .inl (cB, 4096, .inl bf)), (qu, .inl (cI, 4096, .inl ug26))]) hD hS hA [0, 1, 2, 3] rfl
          have hKc := hK.sub (tys' := [(cB, .byte), (cI, .int), (cV, .object "QueryBench$Value")]) [0, 1, 2] rfl
          refine w_same (fun hq0 => ?_)
          refine vx_callr (vx_runV (As := [.ref v26]) (rest := []) ⟨hx, hb, hml, hown, hts⟩ (c_QR_comparison l hl9 K dC dI cI cV cB h0 qb qu ln bf n qr hn0 hbf o ho ok orL cmL qyL hok HP H E26 lv26 (L ++ ([] ++ N26)) f26 p27 uc26 pl ug26 hG28.po (by omega) v26 hQ26.so E (m26) hkp26.ex hnv26 (hd26)) (cwV 1 hts (gt_V (own := R_QueryReader) (C := R_QueryReader) (i := 188) (y := y_QueryReader_comparison) i_QueryReader_comparison z_743 z_745 (gt_sel (y := y_QueryReader_comparison) (n := 2) (by decide +kernel)) w_4) rfl rfl rfl (by decide +kernel) ⟨by show 12 * (16 - o) + 17 + 1 ≤ 12 * (16 - o) + 19; omega, by show 8 + (3 + 11) + (360 * (16 - o) + 510) ≤ 360 * (16 - o) + 570; omega⟩) ⟨ml_blind, va_recv hK hP (ci := 5) (q0 := 0) rfl rfl, fun U hU hW => ⟨rfl, ⟨hU, by rw [hU]; exact hPc, va_K.moved hW.alike hKc, hDc.weaken (fun _ _ _ _ => trivial)⟩, hN.warm hW, by rw [hU]; exact ZX.moved' hW.alike (ZX.narrow' (ZX.kept' hZ hS.2.1) hFc), by rw [hU]; exact CE.call hC hS.2.1 hFc hW, va_AO.moved hW.alike hV⟩⟩ rfl rfl hl.1 rfl (lv_room (Nat.le_of_ble_eq_true rfl)) d_QueryReader_basic_82 ⟨by show (0 + (8 * (p26 - p21) + 3 - 0)) + (8 * (n - p27) + 4) ≤ 8 * (n - i) + 20; omega, by show (0 + (64 * (p26 - p21) + 14 - 0)) + (64 * (n - p27) + 60) ≤ 64 * (n - i) + 200; omega⟩) hS (fun q _ h => hFc q h) hFc (fun q _ h => hFc q h) (fun En ce q9 ⟨ax, cx, px, gx, ox⟩ t9 H1 locs ht hvm hw hB hz1 hk1 hS hce hcv hcl => ?_) (fun ⟨w28, p28, N28, E28, f28, uc28, ug28⟩ v28 t9 H1 locs ht hvm hw hB hz1 hk1 hS => ?_)
          · obtain ⟨hEn, hP1, hK1, hD1⟩ := hB
            rw [ht] at hP1
            obtain ⟨hP, hD⟩ := va_joinP (wr := []) (rx := [(qr, .inr (5, [.ref h0, .int ox])), (h0, .inr (8, [.ref qb, .ref qu, .int cx, .int ln, .int (nI n), .int ax, .int px])), (qb, .inl (cB, 4096, .inl bf)), (qu, .inl (cI, 4096, .inl gx))]) (pl1 := va_pl ((L ++ ([] ++ N26))) f26) hP hD [0, 1, 2, 3] [] rfl rfl (by decide) (by decide) hk1 hFc hP1 hD1
            generalize H1 = H at hP hS hce ⊢
            have hP : va_P (dC, dI) classes ([(qr, .inr (5, [.ref h0, .int ox])), (h0, .inr (8, [.ref qb, .ref qu, .int cx, .int ln, .int (nI n), .int ax, .int px])), (qb, .inl (cB, 4096, .inl bf)), (qu, .inl (cI, 4096, .inl gx))] ++ va_pl ((L ++ ([] ++ N26))) f26) H := hP
            have hD : va_D A ([(qr, .inr (5, [.ref h0, .int ox])), (h0, .inr (8, [.ref qb, .ref qu, .int cx, .int ln, .int (nI n), .int ax, .int px])), (qb, .inl (cB, 4096, .inl bf)), (qu, .inl (cI, 4096, .inl gx))] ++ va_pl ((L ++ ([] ++ N26))) f26) := hD
            have hP := plP_cut (hP.part (cx := [(qr, .inr (5, [.ref h0, .int ox])), (h0, .inr (8, [.ref qb, .ref qu, .int cx, .int ln, .int (nI n), .int ax, .int px])), (qb, .inl (cB, 4096, .inl bf)), (qu, .inl (cI, 4096, .inl gx))]) [0, 1, 2, 3] rfl) hG28.on
            have hD := plD_cut (hD.part (cx := [(qr, .inr (5, [.ref h0, .int ox])), (h0, .inr (8, [.ref qb, .ref qu, .int cx, .int ln, .int (nI n), .int ax, .int px])), (qb, .inl (cB, 4096, .inl bf)), (qu, .inl (cI, 4096, .inl gx))]) [0, 1, 2, 3] (by decide) rfl) hG28.on
            have hno : (baD bf n ok orL cmL qyL) i = none := baD_0 h_p21 ((baD1_c h33 h40 hnot hf26 h_p27).trans hw)
            exact vx_out (fun x hx => (hex x hx).elim) hlocks hce hcv hcl (fun t9 ht2 ha => ⟨(ax, cx, px, gx, ox), hno, ⟨hEn, by rw [ht2]; exact hP, va_K.moved ha hK, hD⟩, hS.F ht2⟩) hS.2.2 (by show (0 + (8 * (p26 - p21) + 3 - 0)) + (8 * (n - p27) + 4) ≤ 8 * (n - i) + 20; omega) (by show (0 + (64 * (p26 - p21) + 14 - 0)) + (64 * (n - p27) + 60) ≤ 64 * (n - i) + 200; omega)
          · obtain ⟨⟨hP1, hK1, hD1⟩, hz9, ha9⟩ := hB
            rw [ht] at hP1
            rw [ht] at hz9
            have ha9 : v28 = w28 := ha9
            subst ha9
            have hq0 : szk s.heap H1 ((0 + (8 * (p26 - p21) + 3 - 0)) + (8 * (p28 - p27) - 4)) ((0 + (64 * (p26 - p21) + 14 - 0)) + (64 * (p28 - p27) - 44)) := (hq0.trans hz9).mono (Nat.le_refl _) (Nat.le_refl _)
            refine w_tight hq0 ?_
            obtain ⟨hP, hD⟩ := va_joinP (wr := []) (rx := [(qr, .inr (5, [.ref h0, .int (nI o)])), (h0, .inr (8, [.ref qb, .ref qu, .int uc28, .int ln, .int (nI n), .int (nI p28), .int pl])), (qb, .inl (cB, 4096, .inl bf)), (qu, .inl (cI, 4096, .inl ug28))]) (pl1 := va_pl (((L ++ ([] ++ N26)) ++ N28)) f28) hP hD [0, 1, 2, 3] [] rfl rfl (by decide) (by decide) hk1 hFc hP1 hD1
            generalize H1 = H at hP hS hq0 ⊢
            have hP : va_P (dC, dI) classes ([(qr, .inr (5, [.ref h0, .int (nI o)])), (h0, .inr (8, [.ref qb, .ref qu, .int uc28, .int ln, .int (nI n), .int (nI p28), .int pl])), (qb, .inl (cB, 4096, .inl bf)), (qu, .inl (cI, 4096, .inl ug28))] ++ va_pl (((L ++ ([] ++ N26)) ++ N28)) f28) H := hP
            have hD : va_D A ([(qr, .inr (5, [.ref h0, .int (nI o)])), (h0, .inr (8, [.ref qb, .ref qu, .int uc28, .int ln, .int (nI n), .int (nI p28), .int pl])), (qb, .inl (cB, 4096, .inl bf)), (qu, .inl (cI, 4096, .inl ug28))] ++ va_pl (((L ++ ([] ++ N26)) ++ N28)) f28) := hD
            obtain ⟨hw, m28, hf28, hd28⟩ := hw
            have hf28 : (cpD bf n (opD bf n ok orL cmL qyL) (m26)) p27 = some (p28, m28) := hf28
            have hd28 : DNx KD 2 E E28 f28 v28 m28 := hd28
            have hQ28 : QK cI cV E26 (L ++ ([] ++ N26)) f26 p27 n _ v26 (5 * (16 - o) + 2) v28 p28 N28 E28 f28 := hw
            obtain ⟨hn28, hs28, ha28, hb28, hx28⟩ := hQ28
            have ha28 : p27 + 1 ≤ p28 := ha28
            have hb28 : p28 ≤ n := hb28
            rw [List.append_assoc] at hP hD
            obtain ⟨lv28, hg28, hlv28⟩ := hx28 lv26 hG28.po (5 * (16 - o) + 2 + lv26 v26 + 1) (by omega) (by omega)
            have hG28 := hG28.tr hg28 hzz28
            have hP : va_P (dC, dI) classes ([(qr, .inr (5, [.ref h0, .int (nI o)])), (h0, .inr (8, [.ref qb, .ref qu, .int uc28, .int ln, .int (nI n), .int (nI p28), .int pl])), (qb, .inl (cB, 4096, .inl bf)), (qu, .inl (cI, 4096, .inl ug28))] ++ va_pl ((L ++ (([] ++ N26) ++ N28))) f28) H := hP
            have hD : va_D A ([(qr, .inr (5, [.ref h0, .int (nI o)])), (h0, .inr (8, [.ref qb, .ref qu, .int uc28, .int ln, .int (nI n), .int (nI p28), .int pl])), (qb, .inl (cB, 4096, .inl bf)), (qu, .inl (cI, 4096, .inl ug28))] ++ va_pl ((L ++ (([] ++ N26) ++ N28))) f28) := hD
            refine lv_astore_n (lv' := [(1, .ref v28), (2, .ref v26), (0, .ref qr)]) hx hb d_QueryReader_basic_85 rfl hl (by decide) rfl (fun ls hl => ?_)
            refine lv_aload_n hx hb d_QueryReader_basic_86 rfl (lv_at hl 2 rfl) ?_
            refine va_get (D := (dC, dI)) (ci := 5) (v := .ref h0) (C := R_QueryReader) (T := F_QueryReader) (N := 2) hx hb hts in_QueryReader hown hK hP 0 rfl rfl 0 (by decide) (hts _ w_100) (fun _ h9 => h9) rfl d_QueryReader_basic_87 ?_
            have hPc := hP.sub (ws' := [(h0, .inr (8, [.ref qb, .ref qu, .int uc28, .int ln, .int (nI n), .int (nI p28), .int pl])), (qb, .inl (cB, 4096, .inl bf))]) [1, 2] rfl
            have hDc := hD.sub (ws' := [(h0, .inr (8, [.ref qb, .ref qu, .int uc28, .int ln, .int (nI n), .int (nI p28), .int pl])), (qb, .inl (cB, 4096, .inl bf))]) [1, 2] (by decide) rfl
            have hFc := va_free (wc := [(h0, .inr (8, [.ref qb, .ref qu, .int uc28, .int ln, .int (nI n), .int (nI p28), .int pl])), (qb, .inl (cB, 4096, .inl bf))]) hD hS hA [1, 2] rfl
            have hKc := hK.sub (tys' := [(cB, .byte)]) [0] rfl
            refine va_callv (va_runV (As := []) (rest := []) ⟨hx, hb, hml, hown, hts⟩ (c_Tape_skipBlanks l dC dI cB h0 qb H (.ref qu) uc28 ln pl bf n p28 hn0 (by omega)) (cwV 0 hts (gt_V (own := R_QueryReader) (C := R_Tape) (i := 39) (y := y_Tape_skipBlanks) i_Tape_skipBlanks z_563 z_299 z_300 w_2) rfl rfl rfl (by decide +kernel) ⟨by show 0 + 1 ≤ 12 * (16 - o) + 19; omega, by show 8 + (2 + 11) + (0) ≤ 360 * (16 - o) + 570; omega⟩) ⟨mp_blind, va_recv hK hP (ci := 8) (q0 := 1) rfl rfl, fun U hU hW => ⟨rfl, hU, by rw [hU]; exact hPc, va_K.moved hW.alike hKc, hDc.weaken (fun _ _ _ _ => trivial)⟩⟩ rfl rfl hl.1 rfl (lv_room (Nat.le_of_ble_eq_true rfl)) d_QueryReader_basic_90 ⟨by show ((0 + (8 * (p26 - p21) + 3 - 0)) + (8 * (p28 - p27) - 4)) + (0) ≤ 8 * (n - i) + 20; omega, by show ((0 + (64 * (p26 - p21) + 14 - 0)) + (64 * (p28 - p27) - 44)) + (0) ≤ 64 * (n - i) + 200; omega⟩) hS (fun q _ h => hFc q h) hFc (fun _u t9 H1 locs ht hvm hw hB hz1 hk1 hS => ?_)
            obtain ⟨hP1, hK1, hD1⟩ := hB
            rw [ht] at hP1
            obtain ⟨hP, hD⟩ := va_joinQ (wr := [(qr, .inr (5, [.ref h0, .int (nI o)])), (qu, .inl (cI, 4096, .inl ug28))]) (w1 := [(h0, .inr (8, [.ref qb, .ref qu, .int uc28, .int ln, .int (nI n), .int (nI (skipB bf n p28)), .int pl])), (qb, .inl (cB, 4096, .inl bf))]) hP hD [1, 2] [0, 3] rfl rfl (by decide) (by decide) hk1 hFc hP1 hD1
            generalize H1 = H at hP hS ⊢
            have hP : va_P (dC, dI) classes ([(qr, .inr (5, [.ref h0, .int (nI o)])), (qu, .inl (cI, 4096, .inl ug28)), (h0, .inr (8, [.ref qb, .ref qu, .int uc28, .int ln, .int (nI n), .int (nI (skipB bf n p28)), .int pl])), (qb, .inl (cB, 4096, .inl bf))] ++ va_pl ((L ++ (([] ++ N26) ++ N28))) f28) H := hP
            have hD : va_D A ([(qr, .inr (5, [.ref h0, .int (nI o)])), (qu, .inl (cI, 4096, .inl ug28)), (h0, .inr (8, [.ref qb, .ref qu, .int uc28, .int ln, .int (nI n), .int (nI (skipB bf n p28)), .int pl])), (qb, .inl (cB, 4096, .inl bf))] ++ va_pl ((L ++ (([] ++ N26) ++ N28))) f28) := hD
            have hP := hP.part (cx := [(qr, .inr (5, [.ref h0, .int (nI o)])), (h0, .inr (8, [.ref qb, .ref qu, .int uc28, .int ln, .int (nI n), .int (nI (skipB bf n p28)), .int pl])), (qb, .inl (cB, 4096, .inl bf)), (qu, .inl (cI, 4096, .inl ug28))]) [0, 2, 3, 1] rfl
            have hD := hD.part (cx := [(qr, .inr (5, [.ref h0, .int (nI o)])), (h0, .inr (8, [.ref qb, .ref qu, .int uc28, .int ln, .int (nI n), .int (nI (skipB bf n p28)), .int pl])), (qb, .inl (cB, 4096, .inl bf)), (qu, .inl (cI, 4096, .inl ug28))]) [0, 2, 3, 1] (by decide) rfl
            obtain ⟨p29, h_p29⟩ : ∃ z, z = skipB bf n p28 := ⟨_, rfl⟩
            have hb_p29 := skip_b (f := bf) (show p28 ≤ n by omega)
            rw [← h_p29] at hP hD hb_p29
            have hP : va_P (dC, dI) classes ([(qr, .inr (5, [.ref h0, .int (nI o)])), (h0, .inr (8, [.ref qb, .ref qu, .int uc28, .int ln, .int (nI n), .int (nI p29), .int pl])), (qb, .inl (cB, 4096, .inl bf)), (qu, .inl (cI, 4096, .inl ug28))] ++ va_pl ((L ++ (([] ++ N26) ++ N28))) f28) H := hP
            have hD : va_D A ([(qr, .inr (5, [.ref h0, .int (nI o)])), (h0, .inr (8, [.ref qb, .ref qu, .int uc28, .int ln, .int (nI n), .int (nI p29), .int pl])), (qb, .inl (cB, 4096, .inl bf)), (qu, .inl (cI, 4096, .inl ug28))] ++ va_pl ((L ++ (([] ++ N26) ++ N28))) f28) := hD
            refine lv_aload_n hx hb d_QueryReader_basic_93 rfl (lv_at hl 0 rfl) ?_
            have hQf : QPn cI cV E L f i n s.heap.size 10 (5 * (16 - o) + 2) 1 v28 p29 (([] ++ N26) ++ N28) E28 f28 := by
              refine ⟨(hQ26.g2 hG0.po).z hn28, hs28, by omega, by omega, fun lv hO b hb => ?_⟩
              have g0 : QG cI cV E lv L f i n p21 s.heap.size [] E lv f := (QG.rf hO hi9).mv (by omega) (by omega)
              obtain ⟨lv1, g1, c1⟩ := hQ26.x lv g0.po (5 * (16 - o) + 1) (by omega)
              have g1 := g0.tr g1 hzz26
              have g1 := g1.mv (show p26 ≤ p27 by omega) (show p27 ≤ n by omega)
              obtain ⟨lv2, g3, c3⟩ := hx28 _ g1.po b (by omega) (by have := c1; omega)
              exact ⟨lv2, (g1.tr g3 hzz28).mv (by omega) (by omega), c3⟩
            have hQr : QPn cI cV E L f i n s.heap.size 10 (5 * (16 - o) + 2) 1 v28 p29 ((([] ++ N26) ++ N28)) E28 f28 := hQf
            have hfin : (baD bf n ok orL cmL qyL) i = some (p29, m28) := baD_1 h_p21 ((baD1_c h33 h40 hnot hf26 h_p27).trans hf28) h_p29
            have hdn : DNx KD 2 E E28 f28 v28 m28 := hd28
            refine w_same (fun hq => ?_)
            refine W.widen (k := 8 * (n - i) + 20) (n := 64 * (n - i) + 200) (by show ((0 + (8 * (p26 - p21) + 3 - 0)) + (8 * (p28 - p27) - 4)) ≤ 8 * (n - i) + 20; omega) (by show ((0 + (64 * (p26 - p21) + 14 - 0)) + (64 * (p28 - p27) - 44)) ≤ 64 * (n - i) + 200; omega) ?_
            refine vx_ret ?_
            exact W.aret (v := .ref v28) hx hb hr (Or.inl ⟨_, rfl⟩) (Or.inr ⟨_, rfl⟩) (fun t9 ht hW => ⟨⟨(v28, p29, (([] ++ N26) ++ N28), E28, f28, uc28, ug28), v28, rfl, ⟨hQr, _, hfin, hdn⟩, ⟨by rw [ht]; exact hP, va_K.moved hW.alike hK, hD⟩, by rw [ht]; exact ⟨hq.mono (by show ((0 + (8 * (p26 - p21) + 3 - 0)) + (8 * (p28 - p27) - 4)) ≤ 8 * (p29 - i) + 0 - 1; omega) (by show ((0 + (64 * (p26 - p21) + 14 - 0)) + (64 * (p28 - p27) - 44)) ≤ 64 * (p29 - i) + 0 - 30; omega), rfl⟩⟩, hS.F ht⟩) hS.2.2 d_QueryReader_basic_94
      · have hyes : begC (hereV bf n p21) := by rw [← h_h24]; exact h_r25.2.1 c57
        have hbq : p21 < n := by rcases hyes with h | h <;> exact here_lc h (by decide)
        refine lv_aload_n hx hb d_QueryReader_basic_60 rfl (lv_at hl 0 rfl) ?_
        have hG30 := hG0.mv (show i ≤ p21 by omega) (show p21 ≤ n by omega)
        have hzz30 : s.heap.size ≤ H.size := hS.1
        have hPc := hP.part (cx := [(qr, .inr (5, [.ref h0, .int (nI o)])), (h0, .inr (8, [.ref qb, .ref qu, .int uc, .int ln, .int (nI n), .int (nI p21), .int pl])), (qb, .inl (cB, 4096, .inl bf)), (qu, .inl (cI, 4096, .inl ug))]) [0, 1, 2, 3] rfl
        have hDc := hD.part (cx := [(qr, .inr (5, [.ref h0, .int (nI o)])), (h0, .inr (8, [.ref qb, .ref qu, .int uc, .int ln, .int (nI n), .int (nI p21), .int pl])), (qb, .inl (cB, 4096, .inl bf)), (qu, .inl (cI, 4096, .inl ug))]) [0, 1, 2, 3] (by decide) rfl
        have hFc := va_freeP (cx := [(qr, .inr (5, [.ref h0, .int (nI o)])), (h0, .inr (8, [.ref qb, .ref qu, .int uc, .int ln, .int (nI n), .int (nI p21), .int pl])), (qb, .inl (cB, 4096, .inl bf)), (qu, .inl (cI, 4096, .inl ug))]) hD hS hA [0, 1, 2, 3] rfl
        have hKc := hK.sub (tys' := [(cB, .byte), (cI, .int), (cV, .object "QueryBench$Value")]) [0, 1, 2] rfl
        refine w_same (fun hq0 => ?_)
        refine vx_callr (vx_runV (As := []) (rest := []) ⟨hx, hb, hml, hown, hts⟩ (HT H E lv (L ++ []) f p21 uc pl ug hG30.po (by omega)) (cwV 0 hts (gt_V (own := R_QueryReader) (C := R_QueryReader) (i := 181) (y := y_QueryReader_testOrComparison) i_QueryReader_testOrComparison z_716 z_718 (gt_sel (y := y_QueryReader_testOrComparison) (n := 2) (by decide +kernel)) w_4) rfl rfl rfl (by decide +kernel) ⟨by show 12 * (16 - o) + 18 + 1 ≤ 12 * (16 - o) + 19; omega, by show 8 + (4 + 11) + (360 * (16 - o) + 540) ≤ 360 * (16 - o) + 570; omega⟩) ⟨ml_blind, va_recv hK hP (ci := 5) (q0 := 0) rfl rfl, fun U hU hW => ⟨rfl, ⟨hU, by rw [hU]; exact hPc, va_K.moved hW.alike hKc, hDc.weaken (fun _ _ _ _ => trivial)⟩, hN.warm hW, by rw [hU]; exact ZX.moved' hW.alike (ZX.narrow' (ZX.kept' hZ hS.2.1) hFc), by rw [hU]; exact CE.call hC hS.2.1 hFc hW, va_AO.moved hW.alike hV⟩⟩ rfl rfl hl.1 rfl (lv_room (Nat.le_of_ble_eq_true rfl)) d_QueryReader_basic_61 ⟨by show 0 + (8 * (n - p21) + 6) ≤ 8 * (n - i) + 20; omega, by show 0 + (64 * (n - p21) + 60) ≤ 64 * (n - i) + 200; omega⟩) hS (fun q _ h => hFc q h) hFc (fun q _ h => hFc q h) (fun En ce q9 ⟨ax, cx, px, gx, ox⟩ t9 H1 locs ht hvm hw hB hz1 hk1 hS hce hcv hcl => ?_) (fun ⟨w30, p30, N30, E30, f30, uc30, ug30⟩ v30 t9 H1 locs ht hvm hw hB hz1 hk1 hS => ?_)
        · obtain ⟨hEn, hP1, hK1, hD1⟩ := hB
          rw [ht] at hP1
          obtain ⟨hP, hD⟩ := va_joinP (wr := []) (rx := [(qr, .inr (5, [.ref h0, .int ox])), (h0, .inr (8, [.ref qb, .ref qu, .int cx, .int ln, .int (nI n), .int ax, .int px])), (qb, .inl (cB, 4096, .inl bf)), (qu, .inl (cI, 4096, .inl gx))]) (pl1 := va_pl ((L ++ [])) f) hP hD [0, 1, 2, 3] [] rfl rfl (by decide) (by decide) hk1 hFc hP1 hD1
          generalize H1 = H at hP hS hce ⊢
          have hP : va_P (dC, dI) classes ([(qr, .inr (5, [.ref h0, .int ox])), (h0, .inr (8, [.ref qb, .ref qu, .int cx, .int ln, .int (nI n), .int ax, .int px])), (qb, .inl (cB, 4096, .inl bf)), (qu, .inl (cI, 4096, .inl gx))] ++ va_pl ((L ++ [])) f) H := hP
          have hD : va_D A ([(qr, .inr (5, [.ref h0, .int ox])), (h0, .inr (8, [.ref qb, .ref qu, .int cx, .int ln, .int (nI n), .int ax, .int px])), (qb, .inl (cB, 4096, .inl bf)), (qu, .inl (cI, 4096, .inl gx))] ++ va_pl ((L ++ [])) f) := hD
          have hP := plP_cut (hP.part (cx := [(qr, .inr (5, [.ref h0, .int ox])), (h0, .inr (8, [.ref qb, .ref qu, .int cx, .int ln, .int (nI n), .int ax, .int px])), (qb, .inl (cB, 4096, .inl bf)), (qu, .inl (cI, 4096, .inl gx))]) [0, 1, 2, 3] rfl) hG30.on
          have hD := plD_cut (hD.part (cx := [(qr, .inr (5, [.ref h0, .int ox])), (h0, .inr (8, [.ref qb, .ref qu, .int cx, .int ln, .int (nI n), .int ax, .int px])), (qb, .inl (cB, 4096, .inl bf)), (qu, .inl (cI, 4096, .inl gx))]) [0, 1, 2, 3] (by decide) rfl) hG30.on
          have hno : (baD bf n ok orL cmL qyL) i = none := baD_0 h_p21 ((baD1_t h33 h40 hyes).trans hw)
          exact vx_out (fun x hx => (hex x hx).elim) hlocks hce hcv hcl (fun t9 ht2 ha => ⟨(ax, cx, px, gx, ox), hno, ⟨hEn, by rw [ht2]; exact hP, va_K.moved ha hK, hD⟩, hS.F ht2⟩) hS.2.2 (by show 0 + (8 * (n - p21) + 6) ≤ 8 * (n - i) + 20; omega) (by show 0 + (64 * (n - p21) + 60) ≤ 64 * (n - i) + 200; omega)
        · obtain ⟨⟨hP1, hK1, hD1⟩, hz9, ha9⟩ := hB
          rw [ht] at hP1
          rw [ht] at hz9
          have ha9 : v30 = w30 := ha9
          subst ha9
          have hq0 : szk s.heap H1 (0 + (8 * (p30 - p21) + 0 - 6)) (0 + (64 * (p30 - p21) + 0 - 54)) := (hq0.trans hz9).mono (Nat.le_refl _) (Nat.le_refl _)
          refine w_tight hq0 ?_
          obtain ⟨hP, hD⟩ := va_joinP (wr := []) (rx := [(qr, .inr (5, [.ref h0, .int (nI o)])), (h0, .inr (8, [.ref qb, .ref qu, .int uc30, .int ln, .int (nI n), .int (nI p30), .int pl])), (qb, .inl (cB, 4096, .inl bf)), (qu, .inl (cI, 4096, .inl ug30))]) (pl1 := va_pl (((L ++ []) ++ N30)) f30) hP hD [0, 1, 2, 3] [] rfl rfl (by decide) (by decide) hk1 hFc hP1 hD1
          generalize H1 = H at hP hS hq0 ⊢
          have hP : va_P (dC, dI) classes ([(qr, .inr (5, [.ref h0, .int (nI o)])), (h0, .inr (8, [.ref qb, .ref qu, .int uc30, .int ln, .int (nI n), .int (nI p30), .int pl])), (qb, .inl (cB, 4096, .inl bf)), (qu, .inl (cI, 4096, .inl ug30))] ++ va_pl (((L ++ []) ++ N30)) f30) H := hP
          have hD : va_D A ([(qr, .inr (5, [.ref h0, .int (nI o)])), (h0, .inr (8, [.ref qb, .ref qu, .int uc30, .int ln, .int (nI n), .int (nI p30), .int pl])), (qb, .inl (cB, 4096, .inl bf)), (qu, .inl (cI, 4096, .inl ug30))] ++ va_pl (((L ++ []) ++ N30)) f30) := hD
          obtain ⟨hw, m30, hf30, hd30⟩ := hw
          have hf30 : (tcD bf n ok orL (opD bf n ok orL cmL qyL)) p21 = some (p30, m30) := hf30
          have hd30 : DNx KD 2 E E30 f30 v30 m30 := hd30
          have hQ30 : QPn cI cV E (L ++ []) f p21 n _ 10 (5 * (16 - o) + 2) 1 v30 p30 N30 E30 f30 := hw
          obtain ⟨lv30, hg30, hlv30⟩ := hQ30.x lv hG30.po _ (Nat.le_refl _)
          have hex30 := hg30.ex
          have hge30 := hg30.ge hQ30.new (by rw [hQ30.so]; decide)
          have hkp30 : KPx E E30 f f30 := KPx.of hg30 hG30.po
          have hnv30 : E v30 = 0 := hQ30.new
          have hsv30 : ¬ E30 v30 = 0 := by rw [hQ30.so]; decide
          have hG30 := hG30.tr hg30 hzz30
          obtain ⟨ha30, hb30⟩ := hQ30.num
          have ha30 : p21 + 1 ≤ p30 := ha30
          have hb30 : p30 ≤ n := hb30
          rw [List.append_assoc] at hP hD
          have hP : va_P (dC, dI) classes ([(qr, .inr (5, [.ref h0, .int (nI o)])), (h0, .inr (8, [.ref qb, .ref qu, .int uc30, .int ln, .int (nI n), .int (nI p30), .int pl])), (qb, .inl (cB, 4096, .inl bf)), (qu, .inl (cI, 4096, .inl ug30))] ++ va_pl ((L ++ ([] ++ N30))) f30) H := hP
          have hD : va_D A ([(qr, .inr (5, [.ref h0, .int (nI o)])), (h0, .inr (8, [.ref qb, .ref qu, .int uc30, .int ln, .int (nI n), .int (nI p30), .int pl])), (qb, .inl (cB, 4096, .inl bf)), (qu, .inl (cI, 4096, .inl ug30))] ++ va_pl ((L ++ ([] ++ N30))) f30) := hD
          refine lv_astore_n (lv' := [(1, .ref v30), (0, .ref qr)]) hx hb d_QueryReader_basic_64 rfl hl (by decide) rfl (fun ls hl => ?_)
          refine lv_goto (tgt := 86) hx hb d_QueryReader_basic_65 (by decide) ?_
          refine lv_aload_n hx hb d_QueryReader_basic_86 rfl (lv_at hl 1 rfl) ?_
          refine va_get (D := (dC, dI)) (ci := 5) (v := .ref h0) (C := R_QueryReader) (T := F_QueryReader) (N := 2) hx hb hts in_QueryReader hown hK hP 0 rfl rfl 0 (by decide) (hts _ w_100) (fun _ h9 => h9) rfl d_QueryReader_basic_87 ?_
          have hPc := hP.sub (ws' := [(h0, .inr (8, [.ref qb, .ref qu, .int uc30, .int ln, .int (nI n), .int (nI p30), .int pl])), (qb, .inl (cB, 4096, .inl bf))]) [1, 2] rfl
          have hDc := hD.sub (ws' := [(h0, .inr (8, [.ref qb, .ref qu, .int uc30, .int ln, .int (nI n), .int (nI p30), .int pl])), (qb, .inl (cB, 4096, .inl bf))]) [1, 2] (by decide) rfl
          have hFc := va_free (wc := [(h0, .inr (8, [.ref qb, .ref qu, .int uc30, .int ln, .int (nI n), .int (nI p30), .int pl])), (qb, .inl (cB, 4096, .inl bf))]) hD hS hA [1, 2] rfl
          have hKc := hK.sub (tys' := [(cB, .byte)]) [0] rfl
          refine va_callv (va_runV (As := []) (rest := []) ⟨hx, hb, hml, hown, hts⟩ (c_Tape_skipBlanks l dC dI cB h0 qb H (.ref qu) uc30 ln pl bf n p30 hn0 (by omega)) (cwV 0 hts (gt_V (own := R_QueryReader) (C := R_Tape) (i := 39) (y := y_Tape_skipBlanks) i_Tape_skipBlanks z_563 z_299 z_300 w_2) rfl rfl rfl (by decide +kernel) ⟨by show 0 + 1 ≤ 12 * (16 - o) + 19; omega, by show 8 + (2 + 11) + (0) ≤ 360 * (16 - o) + 570; omega⟩) ⟨mp_blind, va_recv hK hP (ci := 8) (q0 := 1) rfl rfl, fun U hU hW => ⟨rfl, hU, by rw [hU]; exact hPc, va_K.moved hW.alike hKc, hDc.weaken (fun _ _ _ _ => trivial)⟩⟩ rfl rfl hl.1 rfl (lv_room (Nat.le_of_ble_eq_true rfl)) d_QueryReader_basic_90 ⟨by show (0 + (8 * (p30 - p21) + 0 - 6)) + (0) ≤ 8 * (n - i) + 20; omega, by show (0 + (64 * (p30 - p21) + 0 - 54)) + (0) ≤ 64 * (n - i) + 200; omega⟩) hS (fun q _ h => hFc q h) hFc (fun _u t9 H1 locs ht hvm hw hB hz1 hk1 hS => ?_)
          obtain ⟨hP1, hK1, hD1⟩ := hB
          rw [ht] at hP1
          obtain ⟨hP, hD⟩ := va_joinQ (wr := [(qr, .inr (5, [.ref h0, .int (nI o)])), (qu, .inl (cI, 4096, .inl ug30))]) (w1 := [(h0, .inr (8, [.ref qb, .ref qu, .int uc30, .int ln, .int (nI n), .int (nI (skipB bf n p30)), .int pl])), (qb, .inl (cB, 4096, .inl bf))]) hP hD [1, 2] [0, 3] rfl rfl (by decide) (by decide) hk1 hFc hP1 hD1
          generalize H1 = H at hP hS ⊢
          have hP : va_P (dC, dI) classes ([(qr, .inr (5, [.ref h0, .int (nI o)])), (qu, .inl (cI, 4096, .inl ug30)), (h0, .inr (8, [.ref qb, .ref qu, .int uc30, .int ln, .int (nI n), .int (nI (skipB bf n p30)), .int pl])), (qb, .inl (cB, 4096, .inl bf))] ++ va_pl ((L ++ ([] ++ N30))) f30) H := hP
          have hD : va_D A ([(qr, .inr (5, [.ref h0, .int (nI o)])), (qu, .inl (cI, 4096, .inl ug30)), (h0, .inr (8, [.ref qb, .ref qu, .int uc30, .int ln, .int (nI n), .int (nI (skipB bf n p30)), .int pl])), (qb, .inl (cB, 4096, .inl bf))] ++ va_pl ((L ++ ([] ++ N30))) f30) := hD
          have hP := hP.part (cx := [(qr, .inr (5, [.ref h0, .int (nI o)])), (h0, .inr (8, [.ref qb, .ref qu, .int uc30, .int ln, .int (nI n), .int (nI (skipB bf n p30)), .int pl])), (qb, .inl (cB, 4096, .inl bf)), (qu, .inl (cI, 4096, .inl ug30))]) [0, 2, 3, 1] rfl
          have hD := hD.part (cx := [(qr, .inr (5, [.ref h0, .int (nI o)])), (h0, .inr (8, [.ref qb, .ref qu, .int uc30, .int ln, .int (nI n), .int (nI (skipB bf n p30)), .int pl])), (qb, .inl (cB, 4096, .inl bf)), (qu, .inl (cI, 4096, .inl ug30))]) [0, 2, 3, 1] (by decide) rfl
          obtain ⟨p31, h_p31⟩ : ∃ z, z = skipB bf n p30 := ⟨_, rfl⟩
          have hb_p31 := skip_b (f := bf) (show p30 ≤ n by omega)
          rw [← h_p31] at hP hD hb_p31
          have hP : va_P (dC, dI) classes ([(qr, .inr (5, [.ref h0, .int (nI o)])), (h0, .inr (8, [.ref qb, .ref qu, .int uc30, .int ln, .int (nI n), .int (nI p31), .int pl])), (qb, .inl (cB, 4096, .inl bf)), (qu, .inl (cI, 4096, .inl ug30))] ++ va_pl ((L ++ ([] ++ N30))) f30) H := hP
          have hD : va_D A ([(qr, .inr (5, [.ref h0, .int (nI o)])), (h0, .inr (8, [.ref qb, .ref qu, .int uc30, .int ln, .int (nI n), .int (nI p31), .int pl])), (qb, .inl (cB, 4096, .inl bf)), (qu, .inl (cI, 4096, .inl ug30))] ++ va_pl ((L ++ ([] ++ N30))) f30) := hD
          refine lv_aload_n hx hb d_QueryReader_basic_93 rfl (lv_at hl 0 rfl) ?_
          have hQr : QPn cI cV E L f i n s.heap.size 10 (5 * (16 - o) + 2) 1 v30 p31 (([] ++ N30)) E30 f30 := (QPn.wk ((hQ30.up (dm2 := 0) (by omega) (by omega) hzz30 (by omega) (by omega)).mv (by omega) (by omega)) (by omega))
          have hfin : (baD bf n ok orL cmL qyL) i = some (p31, m30) := baD_1 h_p21 ((baD1_t h33 h40 hyes).trans hf30) h_p31
          have hdn : DNx KD 2 E E30 f30 v30 m30 := hd30
          refine w_same (fun hq => ?_)
          refine W.widen (k := 8 * (n - i) + 20) (n := 64 * (n - i) + 200) (by show (0 + (8 * (p30 - p21) + 0 - 6)) ≤ 8 * (n - i) + 20; omega) (by show (0 + (64 * (p30 - p21) + 0 - 54)) ≤ 64 * (n - i) + 200; omega) ?_
          refine vx_ret ?_
          exact W.aret (v := .ref v30) hx hb hr (Or.inl ⟨_, rfl⟩) (Or.inr ⟨_, rfl⟩) (fun t9 ht hW => ⟨⟨(v30, p31, ([] ++ N30), E30, f30, uc30, ug30), v30, rfl, ⟨hQr, _, hfin, hdn⟩, ⟨by rw [ht]; exact hP, va_K.moved hW.alike hK, hD⟩, by rw [ht]; exact ⟨hq.mono (by show (0 + (8 * (p30 - p21) + 0 - 6)) ≤ 8 * (p31 - i) + 0 - 1; omega) (by show (0 + (64 * (p30 - p21) + 0 - 54)) ≤ 64 * (p31 - i) + 0 - 30; omega), rfl⟩⟩, hS.F ht⟩) hS.2.2 d_QueryReader_basic_94
    · refine lv_aload_n hx hb d_QueryReader_basic_39 rfl (lv_at hl 0 rfl) ?_
      have hG32 := hG0.mv (show i ≤ p21 by omega) (show p21 ≤ n by omega)
      have hzz32 : s.heap.size ≤ H.size := hS.1
      have hPc := hP.part (cx := [(qr, .inr (5, [.ref h0, .int (nI o)])), (h0, .inr (8, [.ref qb, .ref qu, .int uc, .int ln, .int (nI n), .int (nI p21), .int pl])), (qb, .inl (cB, 4096, .inl bf)), (qu, .inl (cI, 4096, .inl ug))]) [0, 1, 2, 3] rfl
      have hDc := hD.part (cx := [(qr, .inr (5, [.ref h0, .int (nI o)])), (h0, .inr (8, [.ref qb, .ref qu, .int uc, .int ln, .int (nI n), .int (nI p21), .int pl])), (qb, .inl (cB, 4096, .inl bf)), (qu, .inl (cI, 4096, .inl ug))]) [0, 1, 2, 3] (by decide) rfl
      have hFc := va_freeP (cx := [(qr, .inr (5, [.ref h0, .int (nI o)])), (h0, .inr (8, [.ref qb, .ref qu, .int uc, .int ln, .int (nI n), .int (nI p21), .int pl])), (qb, .inl (cB, 4096, .inl bf)), (qu, .inl (cI, 4096, .inl ug))]) hD hS hA [0, 1, 2, 3] rfl
      have hKc := hK.sub (tys' := [(cB, .byte), (cI, .int), (cV, .object "QueryBench$Value")]) [0, 1, 2] rfl
      refine w_same (fun hq0 => ?_)
      refine vx_callr (vx_runV (As := []) (rest := []) ⟨hx, hb, hml, hown, hts⟩ (HGr H E lv (L ++ []) f p21 uc pl ug hG32.po (by omega)) (cwV 0 hts (gt_V (own := R_QueryReader) (C := R_QueryReader) (i := 175) (y := y_QueryReader_group) i_QueryReader_group z_701 z_703 (gt_sel (y := y_QueryReader_group) (n := 2) (by decide +kernel)) w_4) rfl rfl rfl (by decide +kernel) ⟨by show 12 * (16 - o) + 17 + 1 ≤ 12 * (16 - o) + 19; omega, by show 8 + (2 + 11) + (360 * (16 - o) + 510) ≤ 360 * (16 - o) + 570; omega⟩) ⟨ml_blind, va_recv hK hP (ci := 5) (q0 := 0) rfl rfl, fun U hU hW => ⟨rfl, ⟨hU, by rw [hU]; exact hPc, va_K.moved hW.alike hKc, hDc.weaken (fun _ _ _ _ => trivial)⟩, hN.warm hW, by rw [hU]; exact ZX.moved' hW.alike (ZX.narrow' (ZX.kept' hZ hS.2.1) hFc), by rw [hU]; exact CE.call hC hS.2.1 hFc hW, va_AO.moved hW.alike hV⟩⟩ rfl rfl hl.1 rfl (lv_room (Nat.le_of_ble_eq_true rfl)) d_QueryReader_basic_40 ⟨by show 0 + (8 * (n - p21) + 12) ≤ 8 * (n - i) + 20; omega, by show 0 + (64 * (n - p21) + 150) ≤ 64 * (n - i) + 200; omega⟩) hS (fun q _ h => hFc q h) hFc (fun q _ h => hFc q h) (fun En ce q9 ⟨ax, cx, px, gx, ox⟩ t9 H1 locs ht hvm hw hB hz1 hk1 hS hce hcv hcl => ?_) (fun ⟨w32, p32, N32, E32, f32, uc32, ug32⟩ v32 t9 H1 locs ht hvm hw hB hz1 hk1 hS => ?_)
      · obtain ⟨hEn, hP1, hK1, hD1⟩ := hB
        rw [ht] at hP1
        obtain ⟨hP, hD⟩ := va_joinP (wr := []) (rx := [(qr, .inr (5, [.ref h0, .int ox])), (h0, .inr (8, [.ref qb, .ref qu, .int cx, .int ln, .int (nI n), .int ax, .int px])), (qb, .inl (cB, 4096, .inl bf)), (qu, .inl (cI, 4096, .inl gx))]) (pl1 := va_pl ((L ++ [])) f) hP hD [0, 1, 2, 3] [] rfl rfl (by decide) (by decide) hk1 hFc hP1 hD1
        generalize H1 = H at hP hS hce ⊢
        have hP : va_P (dC, dI) classes ([(qr, .inr (5, [.ref h0, .int ox])), (h0, .inr (8, [.ref qb, .ref qu, .int cx, .int ln, .int (nI n), .int ax, .int px])), (qb, .inl (cB, 4096, .inl bf)), (qu, .inl (cI, 4096, .inl gx))] ++ va_pl ((L ++ [])) f) H := hP
        have hD : va_D A ([(qr, .inr (5, [.ref h0, .int ox])), (h0, .inr (8, [.ref qb, .ref qu, .int cx, .int ln, .int (nI n), .int ax, .int px])), (qb, .inl (cB, 4096, .inl bf)), (qu, .inl (cI, 4096, .inl gx))] ++ va_pl ((L ++ [])) f) := hD
        have hP := plP_cut (hP.part (cx := [(qr, .inr (5, [.ref h0, .int ox])), (h0, .inr (8, [.ref qb, .ref qu, .int cx, .int ln, .int (nI n), .int ax, .int px])), (qb, .inl (cB, 4096, .inl bf)), (qu, .inl (cI, 4096, .inl gx))]) [0, 1, 2, 3] rfl) hG32.on
        have hD := plD_cut (hD.part (cx := [(qr, .inr (5, [.ref h0, .int ox])), (h0, .inr (8, [.ref qb, .ref qu, .int cx, .int ln, .int (nI n), .int ax, .int px])), (qb, .inl (cB, 4096, .inl bf)), (qu, .inl (cI, 4096, .inl gx))]) [0, 1, 2, 3] (by decide) rfl) hG32.on
        have hno : (baD bf n ok orL cmL qyL) i = none := baD_0 h_p21 ((baD1_g (h_h23.symm.trans c36)).trans hw)
        exact vx_out (fun x hx => (hex x hx).elim) hlocks hce hcv hcl (fun t9 ht2 ha => ⟨(ax, cx, px, gx, ox), hno, ⟨hEn, by rw [ht2]; exact hP, va_K.moved ha hK, hD⟩, hS.F ht2⟩) hS.2.2 (by show 0 + (8 * (n - p21) + 12) ≤ 8 * (n - i) + 20; omega) (by show 0 + (64 * (n - p21) + 150) ≤ 64 * (n - i) + 200; omega)
      · obtain ⟨⟨hP1, hK1, hD1⟩, hz9, ha9⟩ := hB
        rw [ht] at hP1
        rw [ht] at hz9
        have ha9 : v32 = w32 := ha9
        subst ha9
        have hq0 : szk s.heap H1 (0 + (8 * (p32 - p21) + 0 - 7)) (0 + (64 * (p32 - p21) + 0 - 60)) := (hq0.trans hz9).mono (Nat.le_refl _) (Nat.le_refl _)
        refine w_tight hq0 ?_
        obtain ⟨hP, hD⟩ := va_joinP (wr := []) (rx := [(qr, .inr (5, [.ref h0, .int (nI o)])), (h0, .inr (8, [.ref qb, .ref qu, .int uc32, .int ln, .int (nI n), .int (nI p32), .int pl])), (qb, .inl (cB, 4096, .inl bf)), (qu, .inl (cI, 4096, .inl ug32))]) (pl1 := va_pl (((L ++ []) ++ N32)) f32) hP hD [0, 1, 2, 3] [] rfl rfl (by decide) (by decide) hk1 hFc hP1 hD1
        generalize H1 = H at hP hS hq0 ⊢
        have hP : va_P (dC, dI) classes ([(qr, .inr (5, [.ref h0, .int (nI o)])), (h0, .inr (8, [.ref qb, .ref qu, .int uc32, .int ln, .int (nI n), .int (nI p32), .int pl])), (qb, .inl (cB, 4096, .inl bf)), (qu, .inl (cI, 4096, .inl ug32))] ++ va_pl (((L ++ []) ++ N32)) f32) H := hP
        have hD : va_D A ([(qr, .inr (5, [.ref h0, .int (nI o)])), (h0, .inr (8, [.ref qb, .ref qu, .int uc32, .int ln, .int (nI n), .int (nI p32), .int pl])), (qb, .inl (cB, 4096, .inl bf)), (qu, .inl (cI, 4096, .inl ug32))] ++ va_pl (((L ++ []) ++ N32)) f32) := hD
        obtain ⟨hw, m32, hf32, hd32⟩ := hw
        have hf32 : (gpD bf n ok orL) p21 = some (p32, m32) := hf32
        have hd32 : DNx KD 2 E E32 f32 v32 m32 := hd32
        have hQ32 : QPn cI cV E (L ++ []) f p21 n _ 10 (5 * (16 - o)) 2 v32 p32 N32 E32 f32 := hw
        obtain ⟨lv32, hg32, hlv32⟩ := hQ32.x lv hG32.po _ (Nat.le_refl _)
        have hex32 := hg32.ex
        have hge32 := hg32.ge hQ32.new (by rw [hQ32.so]; decide)
        have hkp32 : KPx E E32 f f32 := KPx.of hg32 hG32.po
        have hnv32 : E v32 = 0 := hQ32.new
        have hsv32 : ¬ E32 v32 = 0 := by rw [hQ32.so]; decide
        have hG32 := hG32.tr hg32 hzz32
        obtain ⟨ha32, hb32⟩ := hQ32.num
        have ha32 : p21 + 2 ≤ p32 := ha32
        have hb32 : p32 ≤ n := hb32
        rw [List.append_assoc] at hP hD
        have hP : va_P (dC, dI) classes ([(qr, .inr (5, [.ref h0, .int (nI o)])), (h0, .inr (8, [.ref qb, .ref qu, .int uc32, .int ln, .int (nI n), .int (nI p32), .int pl])), (qb, .inl (cB, 4096, .inl bf)), (qu, .inl (cI, 4096, .inl ug32))] ++ va_pl ((L ++ ([] ++ N32))) f32) H := hP
        have hD : va_D A ([(qr, .inr (5, [.ref h0, .int (nI o)])), (h0, .inr (8, [.ref qb, .ref qu, .int uc32, .int ln, .int (nI n), .int (nI p32), .int pl])), (qb, .inl (cB, 4096, .inl bf)), (qu, .inl (cI, 4096, .inl ug32))] ++ va_pl ((L ++ ([] ++ N32))) f32) := hD
        refine lv_astore_n (lv' := [(1, .ref v32), (0, .ref qr)]) hx hb d_QueryReader_basic_43 rfl hl (by decide) rfl (fun ls hl => ?_)
        refine lv_goto (tgt := 86) hx hb d_QueryReader_basic_44 (by decide) ?_
        refine lv_aload_n hx hb d_QueryReader_basic_86 rfl (lv_at hl 1 rfl) ?_
        refine va_get (D := (dC, dI)) (ci := 5) (v := .ref h0) (C := R_QueryReader) (T := F_QueryReader) (N := 2) hx hb hts in_QueryReader hown hK hP 0 rfl rfl 0 (by decide) (hts _ w_100) (fun _ h9 => h9) rfl d_QueryReader_basic_87 ?_
        have hPc := hP.sub (ws' := [(h0, .inr (8, [.ref qb, .ref qu, .int uc32, .int ln, .int (nI n), .int (nI p32), .int pl])), (qb, .inl (cB, 4096, .inl bf))]) [1, 2] rfl
        have hDc := hD.sub (ws' := [(h0, .inr (8, [.ref qb, .ref qu, .int uc32, .int ln, .int (nI n), .int (nI p32), .int pl])), (qb, .inl (cB, 4096, .inl bf))]) [1, 2] (by decide) rfl
        have hFc := va_free (wc := [(h0, .inr (8, [.ref qb, .ref qu, .int uc32, .int ln, .int (nI n), .int (nI p32), .int pl])), (qb, .inl (cB, 4096, .inl bf))]) hD hS hA [1, 2] rfl
        have hKc := hK.sub (tys' := [(cB, .byte)]) [0] rfl
        refine va_callv (va_runV (As := []) (rest := []) ⟨hx, hb, hml, hown, hts⟩ (c_Tape_skipBlanks l dC dI cB h0 qb H (.ref qu) uc32 ln pl bf n p32 hn0 (by omega)) (cwV 0 hts (gt_V (own := R_QueryReader) (C := R_Tape) (i := 39) (y := y_Tape_skipBlanks) i_Tape_skipBlanks z_563 z_299 z_300 w_2) rfl rfl rfl (by decide +kernel) ⟨by show 0 + 1 ≤ 12 * (16 - o) + 19; omega, by show 8 + (2 + 11) + (0) ≤ 360 * (16 - o) + 570; omega⟩) ⟨mp_blind, va_recv hK hP (ci := 8) (q0 := 1) rfl rfl, fun U hU hW => ⟨rfl, hU, by rw [hU]; exact hPc, va_K.moved hW.alike hKc, hDc.weaken (fun _ _ _ _ => trivial)⟩⟩ rfl rfl hl.1 rfl (lv_room (Nat.le_of_ble_eq_true rfl)) d_QueryReader_basic_90 ⟨by show (0 + (8 * (p32 - p21) + 0 - 7)) + (0) ≤ 8 * (n - i) + 20; omega, by show (0 + (64 * (p32 - p21) + 0 - 60)) + (0) ≤ 64 * (n - i) + 200; omega⟩) hS (fun q _ h => hFc q h) hFc (fun _u t9 H1 locs ht hvm hw hB hz1 hk1 hS => ?_)
        obtain ⟨hP1, hK1, hD1⟩ := hB
        rw [ht] at hP1
        obtain ⟨hP, hD⟩ := va_joinQ (wr := [(qr, .inr (5, [.ref h0, .int (nI o)])), (qu, .inl (cI, 4096, .inl ug32))]) (w1 := [(h0, .inr (8, [.ref qb, .ref qu, .int uc32, .int ln, .int (nI n), .int (nI (skipB bf n p32)), .int pl])), (qb, .inl (cB, 4096, .inl bf))]) hP hD [1, 2] [0, 3] rfl rfl (by decide) (by decide) hk1 hFc hP1 hD1
        generalize H1 = H at hP hS ⊢
        have hP : va_P (dC, dI) classes ([(qr, .inr (5, [.ref h0, .int (nI o)])), (qu, .inl (cI, 4096, .inl ug32)), (h0, .inr (8, [.ref qb, .ref qu, .int uc32, .int ln, .int (nI n), .int (nI (skipB bf n p32)), .int pl])), (qb, .inl (cB, 4096, .inl bf))] ++ va_pl ((L ++ ([] ++ N32))) f32) H := hP
        have hD : va_D A ([(qr, .inr (5, [.ref h0, .int (nI o)])), (qu, .inl (cI, 4096, .inl ug32)), (h0, .inr (8, [.ref qb, .ref qu, .int uc32, .int ln, .int (nI n), .int (nI (skipB bf n p32)), .int pl])), (qb, .inl (cB, 4096, .inl bf))] ++ va_pl ((L ++ ([] ++ N32))) f32) := hD
        have hP := hP.part (cx := [(qr, .inr (5, [.ref h0, .int (nI o)])), (h0, .inr (8, [.ref qb, .ref qu, .int uc32, .int ln, .int (nI n), .int (nI (skipB bf n p32)), .int pl])), (qb, .inl (cB, 4096, .inl bf)), (qu, .inl (cI, 4096, .inl ug32))]) [0, 2, 3, 1] rfl
        have hD := hD.part (cx := [(qr, .inr (5, [.ref h0, .int (nI o)])), (h0, .inr (8, [.ref qb, .ref qu, .int uc32, .int ln, .int (nI n), .int (nI (skipB bf n p32)), .int pl])), (qb, .inl (cB, 4096, .inl bf)), (qu, .inl (cI, 4096, .inl ug32))]) [0, 2, 3, 1] (by decide) rfl
        obtain ⟨p33, h_p33⟩ : ∃ z, z = skipB bf n p32 := ⟨_, rfl⟩
        have hb_p33 := skip_b (f := bf) (show p32 ≤ n by omega)
        rw [← h_p33] at hP hD hb_p33
        have hP : va_P (dC, dI) classes ([(qr, .inr (5, [.ref h0, .int (nI o)])), (h0, .inr (8, [.ref qb, .ref qu, .int uc32, .int ln, .int (nI n), .int (nI p33), .int pl])), (qb, .inl (cB, 4096, .inl bf)), (qu, .inl (cI, 4096, .inl ug32))] ++ va_pl ((L ++ ([] ++ N32))) f32) H := hP
        have hD : va_D A ([(qr, .inr (5, [.ref h0, .int (nI o)])), (h0, .inr (8, [.ref qb, .ref qu, .int uc32, .int ln, .int (nI n), .int (nI p33), .int pl])), (qb, .inl (cB, 4096, .inl bf)), (qu, .inl (cI, 4096, .inl ug32))] ++ va_pl ((L ++ ([] ++ N32))) f32) := hD
        refine lv_aload_n hx hb d_QueryReader_basic_93 rfl (lv_at hl 0 rfl) ?_
        have hQr : QPn cI cV E L f i n s.heap.size 10 (5 * (16 - o) + 2) 1 v32 p33 (([] ++ N32)) E32 f32 := (QPn.wk ((hQ32.up (dm2 := 0) (by omega) (by omega) hzz32 (by omega) (by omega)).mv (by omega) (by omega)) (by omega))
        have hfin : (baD bf n ok orL cmL qyL) i = some (p33, m32) := baD_1 h_p21 ((baD1_g (h_h23.symm.trans c36)).trans hf32) h_p33
        have hdn : DNx KD 2 E E32 f32 v32 m32 := hd32
        refine w_same (fun hq => ?_)
        refine W.widen (k := 8 * (n - i) + 20) (n := 64 * (n - i) + 200) (by show (0 + (8 * (p32 - p21) + 0 - 7)) ≤ 8 * (n - i) + 20; omega) (by show (0 + (64 * (p32 - p21) + 0 - 60)) ≤ 64 * (n - i) + 200; omega) ?_
        refine vx_ret ?_
        exact W.aret (v := .ref v32) hx hb hr (Or.inl ⟨_, rfl⟩) (Or.inr ⟨_, rfl⟩) (fun t9 ht hW => ⟨⟨(v32, p33, ([] ++ N32), E32, f32, uc32, ug32), v32, rfl, ⟨hQr, _, hfin, hdn⟩, ⟨by rw [ht]; exact hP, va_K.moved hW.alike hK, hD⟩, by rw [ht]; exact ⟨hq.mono (by show (0 + (8 * (p32 - p21) + 0 - 7)) ≤ 8 * (p33 - i) + 0 - 1; omega) (by show (0 + (64 * (p32 - p21) + 0 - 60)) ≤ 64 * (p33 - i) + 0 - 30; omega), rfl⟩⟩, hS.F ht⟩) hS.2.2 d_QueryReader_basic_94
  · have hbn : p21 < n := here_lc (h_h22.symm.trans c16) (by decide)
    refine lv_aload_n hx hb d_QueryReader_basic_19 rfl (lv_at hl 0 rfl) ?_
    have hG34 := hG0.mv (show i ≤ p21 by omega) (show p21 ≤ n by omega)
    have hzz34 : s.heap.size ≤ H.size := hS.1
    have hPc := hP.part (cx := [(qr, .inr (5, [.ref h0, .int (nI o)])), (h0, .inr (8, [.ref qb, .ref qu, .int uc, .int ln, .int (nI n), .int (nI p21), .int pl])), (qb, .inl (cB, 4096, .inl bf)), (qu, .inl (cI, 4096, .inl ug))]) [0, 1, 2, 3] rfl
    have hDc := hD.part (cx := [(qr, .inr (5, [.ref h0, .int (nI o)])), (h0, .inr (8, [.ref qb, .ref qu, .int uc, .int ln, .int (nI n), .int (nI p21), .int pl])), (qb, .inl (cB, 4096, .inl bf)), (qu, .inl (cI, 4096, .inl ug))]) [0, 1, 2, 3] (by decide) rfl
    have hFc := va_freeP (cx := [(qr, .inr (5, [.ref h0, .int (nI o)])), (h0, .inr (8, [.ref qb, .ref qu, .int uc, .int ln, .int (nI n), .int (nI p21), .int pl])), (qb, .inl (cB, 4096, .inl bf)), (qu, .inl (cI, 4096, .inl ug))]) hD hS hA [0, 1, 2, 3] rfl
    have hKc := hK.sub (tys' := [(cB, .byte), (cI, .int), (cV, .object "QueryBench$Value")]) [0, 1, 2] rfl
    refine w_same (fun hq0 => ?_)
    refine vx_callr (vx_runV (As := []) (rest := []) ⟨hx, hb, hml, hown, hts⟩ (HNg H E lv (L ++ []) f p21 uc pl ug hG34.po (by omega)) (cwV 0 hts (gt_V (own := R_QueryReader) (C := R_QueryReader) (i := 172) (y := y_QueryReader_negation) i_QueryReader_negation z_666 z_668 (gt_sel (y := y_QueryReader_negation) (n := 2) (by decide +kernel)) w_4) rfl rfl rfl (by decide +kernel) ⟨by show 12 * (16 - o) + 18 + 1 ≤ 12 * (16 - o) + 19; omega, by show 8 + (2 + 11) + (360 * (16 - o) + 540) ≤ 360 * (16 - o) + 570; omega⟩) ⟨ml_blind, va_recv hK hP (ci := 5) (q0 := 0) rfl rfl, fun U hU hW => ⟨rfl, ⟨hU, by rw [hU]; exact hPc, va_K.moved hW.alike hKc, hDc.weaken (fun _ _ _ _ => trivial)⟩, hN.warm hW, by rw [hU]; exact ZX.moved' hW.alike (ZX.narrow' (ZX.kept' hZ hS.2.1) hFc), by rw [hU]; exact CE.call hC hS.2.1 hFc hW, va_AO.moved hW.alike hV⟩⟩ rfl rfl hl.1 rfl (lv_room (Nat.le_of_ble_eq_true rfl)) d_QueryReader_basic_20 ⟨by show 0 + (8 * (n - p21) + 16) ≤ 8 * (n - i) + 20; omega, by show 0 + (64 * (n - p21) + 160) ≤ 64 * (n - i) + 200; omega⟩) hS (fun q _ h => hFc q h) hFc (fun q _ h => hFc q h) (fun En ce q9 ⟨ax, cx, px, gx, ox⟩ t9 H1 locs ht hvm hw hB hz1 hk1 hS hce hcv hcl => ?_) (fun ⟨w34, p34, N34, E34, f34, uc34, ug34⟩ v34 t9 H1 locs ht hvm hw hB hz1 hk1 hS => ?_)
    · obtain ⟨hEn, hP1, hK1, hD1⟩ := hB
      rw [ht] at hP1
      obtain ⟨hP, hD⟩ := va_joinP (wr := []) (rx := [(qr, .inr (5, [.ref h0, .int ox])), (h0, .inr (8, [.ref qb, .ref qu, .int cx, .int ln, .int (nI n), .int ax, .int px])), (qb, .inl (cB, 4096, .inl bf)), (qu, .inl (cI, 4096, .inl gx))]) (pl1 := va_pl ((L ++ [])) f) hP hD [0, 1, 2, 3] [] rfl rfl (by decide) (by decide) hk1 hFc hP1 hD1
      generalize H1 = H at hP hS hce ⊢
      have hP : va_P (dC, dI) classes ([(qr, .inr (5, [.ref h0, .int ox])), (h0, .inr (8, [.ref qb, .ref qu, .int cx, .int ln, .int (nI n), .int ax, .int px])), (qb, .inl (cB, 4096, .inl bf)), (qu, .inl (cI, 4096, .inl gx))] ++ va_pl ((L ++ [])) f) H := hP
      have hD : va_D A ([(qr, .inr (5, [.ref h0, .int ox])), (h0, .inr (8, [.ref qb, .ref qu, .int cx, .int ln, .int (nI n), .int ax, .int px])), (qb, .inl (cB, 4096, .inl bf)), (qu, .inl (cI, 4096, .inl gx))] ++ va_pl ((L ++ [])) f) := hD
      have hP := plP_cut (hP.part (cx := [(qr, .inr (5, [.ref h0, .int ox])), (h0, .inr (8, [.ref qb, .ref qu, .int cx, .int ln, .int (nI n), .int ax, .int px])), (qb, .inl (cB, 4096, .inl bf)), (qu, .inl (cI, 4096, .inl gx))]) [0, 1, 2, 3] rfl) hG34.on
      have hD := plD_cut (hD.part (cx := [(qr, .inr (5, [.ref h0, .int ox])), (h0, .inr (8, [.ref qb, .ref qu, .int cx, .int ln, .int (nI n), .int ax, .int px])), (qb, .inl (cB, 4096, .inl bf)), (qu, .inl (cI, 4096, .inl gx))]) [0, 1, 2, 3] (by decide) rfl) hG34.on
      have hno : (baD bf n ok orL cmL qyL) i = none := baD_0 h_p21 ((baD1_n (h_h22.symm.trans c16)).trans hw)
      exact vx_out (fun x hx => (hex x hx).elim) hlocks hce hcv hcl (fun t9 ht2 ha => ⟨(ax, cx, px, gx, ox), hno, ⟨hEn, by rw [ht2]; exact hP, va_K.moved ha hK, hD⟩, hS.F ht2⟩) hS.2.2 (by show 0 + (8 * (n - p21) + 16) ≤ 8 * (n - i) + 20; omega) (by show 0 + (64 * (n - p21) + 160) ≤ 64 * (n - i) + 200; omega)
    · obtain ⟨⟨hP1, hK1, hD1⟩, hz9, ha9⟩ := hB
      rw [ht] at hP1
      rw [ht] at hz9
      have ha9 : v34 = w34 := ha9
      subst ha9
      have hq0 : szk s.heap H1 (0 + (8 * (p34 - p21) + 0 - 6)) (0 + (64 * (p34 - p21) + 0 - 50)) := (hq0.trans hz9).mono (Nat.le_refl _) (Nat.le_refl _)
      refine w_tight hq0 ?_
      obtain ⟨hP, hD⟩ := va_joinP (wr := []) (rx := [(qr, .inr (5, [.ref h0, .int (nI o)])), (h0, .inr (8, [.ref qb, .ref qu, .int uc34, .int ln, .int (nI n), .int (nI p34), .int pl])), (qb, .inl (cB, 4096, .inl bf)), (qu, .inl (cI, 4096, .inl ug34))]) (pl1 := va_pl (((L ++ []) ++ N34)) f34) hP hD [0, 1, 2, 3] [] rfl rfl (by decide) (by decide) hk1 hFc hP1 hD1
      generalize H1 = H at hP hS hq0 ⊢
      have hP : va_P (dC, dI) classes ([(qr, .inr (5, [.ref h0, .int (nI o)])), (h0, .inr (8, [.ref qb, .ref qu, .int uc34, .int ln, .int (nI n), .int (nI p34), .int pl])), (qb, .inl (cB, 4096, .inl bf)), (qu, .inl (cI, 4096, .inl ug34))] ++ va_pl (((L ++ []) ++ N34)) f34) H := hP
      have hD : va_D A ([(qr, .inr (5, [.ref h0, .int (nI o)])), (h0, .inr (8, [.ref qb, .ref qu, .int uc34, .int ln, .int (nI n), .int (nI p34), .int pl])), (qb, .inl (cB, 4096, .inl bf)), (qu, .inl (cI, 4096, .inl ug34))] ++ va_pl (((L ++ []) ++ N34)) f34) := hD
      obtain ⟨hw, m34, hf34, hd34⟩ := hw
      have hf34 : (ngD bf n ok orL) p21 = some (p34, m34) := hf34
      have hd34 : DNx KD 2 E E34 f34 v34 m34 := hd34
      have hQ34 : QPn cI cV E (L ++ []) f p21 n _ 10 (5 * (16 - o) + 2) 1 v34 p34 N34 E34 f34 := hw
      obtain ⟨lv34, hg34, hlv34⟩ := hQ34.x lv hG34.po _ (Nat.le_refl _)
      have hex34 := hg34.ex
      have hge34 := hg34.ge hQ34.new (by rw [hQ34.so]; decide)
      have hkp34 : KPx E E34 f f34 := KPx.of hg34 hG34.po
      have hnv34 : E v34 = 0 := hQ34.new
      have hsv34 : ¬ E34 v34 = 0 := by rw [hQ34.so]; decide
      have hG34 := hG34.tr hg34 hzz34
      obtain ⟨ha34, hb34⟩ := hQ34.num
      have ha34 : p21 + 1 ≤ p34 := ha34
      have hb34 : p34 ≤ n := hb34
      rw [List.append_assoc] at hP hD
      have hP : va_P (dC, dI) classes ([(qr, .inr (5, [.ref h0, .int (nI o)])), (h0, .inr (8, [.ref qb, .ref qu, .int uc34, .int ln, .int (nI n), .int (nI p34), .int pl])), (qb, .inl (cB, 4096, .inl bf)), (qu, .inl (cI, 4096, .inl ug34))] ++ va_pl ((L ++ ([] ++ N34))) f34) H := hP
      have hD : va_D A ([(qr, .inr (5, [.ref h0, .int (nI o)])), (h0, .inr (8, [.ref qb, .ref qu, .int uc34, .int ln, .int (nI n), .int (nI p34), .int pl])), (qb, .inl (cB, 4096, .inl bf)), (qu, .inl (cI, 4096, .inl ug34))] ++ va_pl ((L ++ ([] ++ N34))) f34) := hD
      refine lv_astore_n (lv' := [(1, .ref v34), (0, .ref qr)]) hx hb d_QueryReader_basic_23 rfl hl (by decide) rfl (fun ls hl => ?_)
      refine lv_goto (tgt := 86) hx hb d_QueryReader_basic_24 (by decide) ?_
      refine lv_aload_n hx hb d_QueryReader_basic_86 rfl (lv_at hl 1 rfl) ?_
      refine va_get (D := (dC, dI)) (ci := 5) (v := .ref h0) (C := R_QueryReader) (T := F_QueryReader) (N := 2) hx hb hts in_QueryReader hown hK hP 0 rfl rfl 0 (by decide) (hts _ w_100) (fun _ h9 => h9) rfl d_QueryReader_basic_87 ?_
      have hPc := hP.sub (ws' := [(h0, .inr (8, [.ref qb, .ref qu, .int uc34, .int ln, .int (nI n), .int (nI p34), .int pl])), (qb, .inl (cB, 4096, .inl bf))]) [1, 2] rfl
      have hDc := hD.sub (ws' := [(h0, .inr (8, [.ref qb, .ref qu, .int uc34, .int ln, .int (nI n), .int (nI p34), .int pl])), (qb, .inl (cB, 4096, .inl bf))]) [1, 2] (by decide) rfl
      have hFc := va_free (wc := [(h0, .inr (8, [.ref qb, .ref qu, .int uc34, .int ln, .int (nI n), .int (nI p34), .int pl])), (qb, .inl (cB, 4096, .inl bf))]) hD hS hA [1, 2] rfl
      have hKc := hK.sub (tys' := [(cB, .byte)]) [0] rfl
      refine va_callv (va_runV (As := []) (rest := []) ⟨hx, hb, hml, hown, hts⟩ (c_Tape_skipBlanks l dC dI cB h0 qb H (.ref qu) uc34 ln pl bf n p34 hn0 (by omega)) (cwV 0 hts (gt_V (own := R_QueryReader) (C := R_Tape) (i := 39) (y := y_Tape_skipBlanks) i_Tape_skipBlanks z_563 z_299 z_300 w_2) rfl rfl rfl (by decide +kernel) ⟨by show 0 + 1 ≤ 12 * (16 - o) + 19; omega, by show 8 + (2 + 11) + (0) ≤ 360 * (16 - o) + 570; omega⟩) ⟨mp_blind, va_recv hK hP (ci := 8) (q0 := 1) rfl rfl, fun U hU hW => ⟨rfl, hU, by rw [hU]; exact hPc, va_K.moved hW.alike hKc, hDc.weaken (fun _ _ _ _ => trivial)⟩⟩ rfl rfl hl.1 rfl (lv_room (Nat.le_of_ble_eq_true rfl)) d_QueryReader_basic_90 ⟨by show (0 + (8 * (p34 - p21) + 0 - 6)) + (0) ≤ 8 * (n - i) + 20; omega, by show (0 + (64 * (p34 - p21) + 0 - 50)) + (0) ≤ 64 * (n - i) + 200; omega⟩) hS (fun q _ h => hFc q h) hFc (fun _u t9 H1 locs ht hvm hw hB hz1 hk1 hS => ?_)
      obtain ⟨hP1, hK1, hD1⟩ := hB
      rw [ht] at hP1
      obtain ⟨hP, hD⟩ := va_joinQ (wr := [(qr, .inr (5, [.ref h0, .int (nI o)])), (qu, .inl (cI, 4096, .inl ug34))]) (w1 := [(h0, .inr (8, [.ref qb, .ref qu, .int uc34, .int ln, .int (nI n), .int (nI (skipB bf n p34)), .int pl])), (qb, .inl (cB, 4096, .inl bf))]) hP hD [1, 2] [0, 3] rfl rfl (by decide) (by decide) hk1 hFc hP1 hD1
      generalize H1 = H at hP hS ⊢
      have hP : va_P (dC, dI) classes ([(qr, .inr (5, [.ref h0, .int (nI o)])), (qu, .inl (cI, 4096, .inl ug34)), (h0, .inr (8, [.ref qb, .ref qu, .int uc34, .int ln, .int (nI n), .int (nI (skipB bf n p34)), .int pl])), (qb, .inl (cB, 4096, .inl bf))] ++ va_pl ((L ++ ([] ++ N34))) f34) H := hP
      have hD : va_D A ([(qr, .inr (5, [.ref h0, .int (nI o)])), (qu, .inl (cI, 4096, .inl ug34)), (h0, .inr (8, [.ref qb, .ref qu, .int uc34, .int ln, .int (nI n), .int (nI (skipB bf n p34)), .int pl])), (qb, .inl (cB, 4096, .inl bf))] ++ va_pl ((L ++ ([] ++ N34))) f34) := hD
      have hP := hP.part (cx := [(qr, .inr (5, [.ref h0, .int (nI o)])), (h0, .inr (8, [.ref qb, .ref qu, .int uc34, .int ln, .int (nI n), .int (nI (skipB bf n p34)), .int pl])), (qb, .inl (cB, 4096, .inl bf)), (qu, .inl (cI, 4096, .inl ug34))]) [0, 2, 3, 1] rfl
      have hD := hD.part (cx := [(qr, .inr (5, [.ref h0, .int (nI o)])), (h0, .inr (8, [.ref qb, .ref qu, .int uc34, .int ln, .int (nI n), .int (nI (skipB bf n p34)), .int pl])), (qb, .inl (cB, 4096, .inl bf)), (qu, .inl (cI, 4096, .inl ug34))]) [0, 2, 3, 1] (by decide) rfl
      obtain ⟨p35, h_p35⟩ : ∃ z, z = skipB bf n p34 := ⟨_, rfl⟩
      have hb_p35 := skip_b (f := bf) (show p34 ≤ n by omega)
      rw [← h_p35] at hP hD hb_p35
      have hP : va_P (dC, dI) classes ([(qr, .inr (5, [.ref h0, .int (nI o)])), (h0, .inr (8, [.ref qb, .ref qu, .int uc34, .int ln, .int (nI n), .int (nI p35), .int pl])), (qb, .inl (cB, 4096, .inl bf)), (qu, .inl (cI, 4096, .inl ug34))] ++ va_pl ((L ++ ([] ++ N34))) f34) H := hP
      have hD : va_D A ([(qr, .inr (5, [.ref h0, .int (nI o)])), (h0, .inr (8, [.ref qb, .ref qu, .int uc34, .int ln, .int (nI n), .int (nI p35), .int pl])), (qb, .inl (cB, 4096, .inl bf)), (qu, .inl (cI, 4096, .inl ug34))] ++ va_pl ((L ++ ([] ++ N34))) f34) := hD
      refine lv_aload_n hx hb d_QueryReader_basic_93 rfl (lv_at hl 0 rfl) ?_
      have hQr : QPn cI cV E L f i n s.heap.size 10 (5 * (16 - o) + 2) 1 v34 p35 (([] ++ N34)) E34 f34 := (QPn.wk ((hQ34.up (dm2 := 0) (by omega) (by omega) hzz34 (by omega) (by omega)).mv (by omega) (by omega)) (by omega))
      have hfin : (baD bf n ok orL cmL qyL) i = some (p35, m34) := baD_1 h_p21 ((baD1_n (h_h22.symm.trans c16)).trans hf34) h_p35
      have hdn : DNx KD 2 E E34 f34 v34 m34 := hd34
      refine w_same (fun hq => ?_)
      refine W.widen (k := 8 * (n - i) + 20) (n := 64 * (n - i) + 200) (by show (0 + (8 * (p34 - p21) + 0 - 6)) ≤ 8 * (n - i) + 20; omega) (by show (0 + (64 * (p34 - p21) + 0 - 50)) ≤ 64 * (n - i) + 200; omega) ?_
      refine vx_ret ?_
      exact W.aret (v := .ref v34) hx hb hr (Or.inl ⟨_, rfl⟩) (Or.inr ⟨_, rfl⟩) (fun t9 ht hW => ⟨⟨(v34, p35, ([] ++ N34), E34, f34, uc34, ug34), v34, rfl, ⟨hQr, _, hfin, hdn⟩, ⟨by rw [ht]; exact hP, va_K.moved hW.alike hK, hD⟩, by rw [ht]; exact ⟨hq.mono (by show (0 + (8 * (p34 - p21) + 0 - 6)) ≤ 8 * (p35 - i) + 0 - 1; omega) (by show (0 + (64 * (p34 - p21) + 0 - 50)) ≤ 64 * (p35 - i) + 0 - 30; omega), rfl⟩⟩, hS.F ht⟩) hS.2.2 d_QueryReader_basic_94
