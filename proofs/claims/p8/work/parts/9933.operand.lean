theorem z_755 : (.methodLink "QueryBench$QueryReader" 218 ⟨"QueryBench$QueryReader", "lengthOperand", "()LQueryBench$Operand;"⟩ : Cond) ∈ gtbl := gt_in 755 (by decide +kernel) (by decide +kernel)
theorem z_757 : (.instanceMethod ⟨"QueryBench$QueryReader", "lengthOperand", "()LQueryBench$Operand;"⟩ : Cond) ∈ gtbl := gt_in 757 (by decide +kernel) (by decide +kernel)
theorem z_764 : (.methodLink "QueryBench$QueryReader" 226 ⟨"QueryBench$QueryReader", "queryOperand", "(Ljava/lang/String;LQueryBench$Operand;)LQueryBench$Operand;"⟩ : Cond) ∈ gtbl := gt_in 764 (by decide +kernel) (by decide +kernel)
theorem z_766 : (.instanceMethod ⟨"QueryBench$QueryReader", "queryOperand", "(Ljava/lang/String;LQueryBench$Operand;)LQueryBench$Operand;"⟩ : Cond) ∈ gtbl := gt_in 766 (by decide +kernel) (by decide +kernel)
theorem z_769 : (.methodLink "QueryBench$QueryReader" 232 ⟨"QueryBench$QueryReader", "written", "()LQueryBench$Value;"⟩ : Cond) ∈ gtbl := gt_in 769 (by decide +kernel) (by decide +kernel)
theorem z_771 : (.instanceMethod ⟨"QueryBench$QueryReader", "written", "()LQueryBench$Value;"⟩ : Cond) ∈ gtbl := gt_in 771 (by decide +kernel) (by decide +kernel)
set_option maxHeartbeats 4000000 in
set_option maxRecDepth 100000 in
/-- QueryReader.operand -/
theorem c_QR_operand (l : Launch) (hl9 : l.stackTraces = false) (K : Nat → Nat × Nat) (dC : Nat → ClassId) (dI : Nat → Nat → Nat) (cI cV : ClassId) (cB : ClassId) (h0 qb qu : Nat) (ln : Int32) (bf : Nat → Int32) (n qr : Nat) (hn0 : n ≤ 4096) (hbf : byR bf) (o : Nat) (ho : o ≤ 16) (ok : Bool) (orL : Nat → Option (Nat × CT)) (cmL : Nat → Option (Nat × OT)) (qyL : Nat → Option (Nat × Bool × QT)) (hok : ok = true ↔ o < 16) (HQ : ∀ nw : Int32, QCT l K dC dI cI cV cB h0 qb qu ln bf n qr y_QueryReader_query (k_QueryReader_query :: gtbl) [.ref qr, .int nw] o (12 * (16 - o) + 14) (360 * (16 - o) + 420) 4 50 0 7 0 60 7 (5 * (16 - o)) 1 1 (OKe QD 0 (qrD bf n ok orL (nwB nw)) sgQs) (NOd (qrD bf n ok orL (nwB nw)))) (HLn : QCT l K dC dI cI cV cB h0 qb qu ln bf n qr y_QueryReader_lengthOperand (k_QueryReader_lengthOperand :: gtbl) [.ref qr] o (12 * (16 - o) + 13) (360 * (16 - o) + 390) 4 60 0 0 0 0 11 (5 * (16 - o) + 1) 0 0 (OKd OD 0 (fun i9 => (fnD bf n 10 6 ok cmL i9).map (fun p9 => (p9.1, lenO p9.2)))) (NOd (fun i9 => (fnD bf n 10 6 ok cmL i9).map (fun p9 => (p9.1, lenO p9.2))))) (HA : o < 16 → QCT l K dC dI cI cV cB h0 qb qu ln bf n qr y_QueryReader_anyQuery (k_QueryReader_anyQuery :: gtbl) [.ref qr] ((o + 1)) (12 * (16 - (o + 1)) + 15) (360 * (16 - (o + 1)) + 450) 4 50 0 7 0 60 7 (5 * (16 - (o + 1))) 1 0 (OKd QD 0 (anyD bf n qyL)) (NOd (anyD bf n qyL))) (HWr : QCT l K dC dI cI cV cB h0 qb qu ln bf n qr y_QueryReader_written (k_QueryReader_written :: gtbl) [.ref qr] o (12 * (16 - o) + 12) (360 * (16 - o) + 360) 4 40 2 0 10 0 2 (5 * (16 - o)) 0 0 (OKd LTv 0 (wrD bf n)) (NOd (wrD bf n))) : QCT l K dC dI cI cV cB h0 qb qu ln bf n qr y_QueryReader_operand (k_QueryReader_operand :: gtbl) [.ref qr] o (12 * (16 - o) + 16) (360 * (16 - o) + 480) 8 80 3 0 14 0 11 (5 * (16 - o) + 1) 0 0 (OKd OD 0 (opD bf n ok orL cmL qyL)) (NOd (opD bf n ok orL cmL qyL)) := by
  intro sz E lv L f i uc pl ug hO hin
  refine vx_ofW (cc := b_QueryReader_operand) (maxL := 3) (ret := (some (.object "QueryBench$Operand"))) (by decide) rfl ?_
  intro p e s m args below meth c s₁ B hml hex hv
  obtain ⟨rfl, ⟨hsz, hP, hK, hD0⟩, hN, hZ, hC, hV⟩ := hv
  have hx := B.exec
  have hb := B.bytes
  have hr := B.returns
  have hts0 := atoms_spec (ws := k_QueryReader_operand :: gtbl) B.pre
  have hts := fun w h => hts0 w (List.mem_cons_of_mem _ h)
  have hown : s.vm.findClass R_QueryReader = some m.cls := findClass_of_methodNamed B.named
  have hlocks := B.notSynchronized
  subst hsz
  have hD := hD0.self (sz := s.heap.size)
  generalize hAe : va_A ([(qr, .inr (5, [.ref h0, .int (nI o)])), (h0, .inr (8, [.ref qb, .ref qu, .int uc, .int ln, .int (nI n), .int (nI i), .int pl])), (qb, .inl (cB, 4096, .inl bf)), (qu, .inl (cI, 4096, .inl ug))] ++ va_pl L f) s.heap.size = A at hD hZ hC ⊢
  have hA : ∀ q : Nat, s.heap.size ≤ q → A q := fun q h => by rw [← hAe]; exact Or.inr h
  have hS : va_S A s.heap s.heap [] := va_S.rf
  have hP : va_P (dC, dI) classes ([(qr, .inr (5, [.ref h0, .int (nI o)])), (h0, .inr (8, [.ref qb, .ref qu, .int uc, .int ln, .int (nI n), .int (nI i), .int pl])), (qb, .inl (cB, 4096, .inl bf)), (qu, .inl (cI, 4096, .inl ug))] ++ va_pl L f) s.heap := hP
  have hl := lv_entry ([.ref qr]) (n := 3) (Nat.le_of_ble_eq_true rfl)
  rw [lg_entry_eq]
  generalize (lg_sl ([.ref qr]) ++ List.replicate (3 - (lg_sl ([.ref qr])).length) Slot.unset).toArray = ls at hl ⊢
  have hl : lv_has ls 3 [(0, .ref qr)] := hl
  have hLz : ∀ a, a ∈ L → a < s.heap.size := fun a ha => va_pl_lt hP ha
  have hi9 : i ≤ n := by omega
  have hP : va_P (dC, dI) classes ([(qr, .inr (5, [.ref h0, .int (nI o)])), (h0, .inr (8, [.ref qb, .ref qu, .int uc, .int ln, .int (nI n), .int (nI i), .int pl])), (qb, .inl (cB, 4096, .inl bf)), (qu, .inl (cI, 4096, .inl ug))] ++ va_pl (L ++ []) f) s.heap := by rw [List.append_nil]; exact hP
  have hD : va_D A ([(qr, .inr (5, [.ref h0, .int (nI o)])), (h0, .inr (8, [.ref qb, .ref qu, .int uc, .int ln, .int (nI n), .int (nI i), .int pl])), (qb, .inl (cB, 4096, .inl bf)), (qu, .inl (cI, 4096, .inl ug))] ++ va_pl (L ++ []) f) := by rw [List.append_nil]; exact hD
  have hG0 : QG cI cV E lv L f i n i s.heap.size [] E lv f := QG.rf hO hi9
  refine lv_aload_n hx hb d_QueryReader_operand_0 rfl (lv_at hl 0 rfl) ?_
  refine va_get (D := (dC, dI)) (ci := 5) (v := .ref h0) (C := R_QueryReader) (T := F_QueryReader) (N := 2) hx hb hts in_QueryReader hown hK hP 0 rfl rfl 0 (by decide) (hts _ w_100) (fun _ h9 => h9) rfl d_QueryReader_operand_1 ?_
  have hPc := hP.sub (ws' := [(h0, .inr (8, [.ref qb, .ref qu, .int uc, .int ln, .int (nI n), .int (nI i), .int pl])), (qb, .inl (cB, 4096, .inl bf))]) [1, 2] rfl
  have hDc := hD.sub (ws' := [(h0, .inr (8, [.ref qb, .ref qu, .int uc, .int ln, .int (nI n), .int (nI i), .int pl])), (qb, .inl (cB, 4096, .inl bf))]) [1, 2] (by decide) rfl
  have hFc := va_free (wc := [(h0, .inr (8, [.ref qb, .ref qu, .int uc, .int ln, .int (nI n), .int (nI i), .int pl])), (qb, .inl (cB, 4096, .inl bf))]) hD hS hA [1, 2] rfl
  have hKc := hK.sub (tys' := [(cB, .byte)]) [0] rfl
  refine va_calli (va_runV (As := []) (rest := []) ⟨hx, hb, hml, hown, hts⟩ (c_Tape_here l dC dI cB h0 qb s.heap (.ref qu) uc ln pl bf n i hn0 (by omega)) (cwV 0 hts (gt_V (own := R_QueryReader) (C := R_Tape) (i := 19) (y := y_Tape_here) i_Tape_here z_534 w_363 w_364 w_2) rfl rfl rfl (by decide +kernel) ⟨by show 0 + 1 ≤ 12 * (16 - o) + 16; omega, by show 8 + (1 + 11) + (0) ≤ 360 * (16 - o) + 480; omega⟩) ⟨mp_blind, va_recv hK hP (ci := 8) (q0 := 1) rfl rfl, fun U hU hW => ⟨rfl, hU, by rw [hU]; exact hPc, va_K.moved hW.alike hKc, hDc.weaken (fun _ _ _ _ => trivial)⟩⟩ rfl rfl hl.1 rfl (lv_room (Nat.le_of_ble_eq_true rfl)) d_QueryReader_operand_4 ⟨by show 0 + (0) ≤ 8 * (n - i) + 8; omega, by show 0 + (0) ≤ 64 * (n - i) + 80; omega⟩) hS (fun q _ h => hFc q h) hFc (fun h21 _u t9 H1 locs ht hvm hw hB hz1 hk1 hS => ?_)
  obtain ⟨hP1, hK1, hD1⟩ := hB
  rw [ht] at hP1
  obtain ⟨hP, hD⟩ := va_joinQ (wr := [(qr, .inr (5, [.ref h0, .int (nI o)])), (qu, .inl (cI, 4096, .inl ug))]) (w1 := [(h0, .inr (8, [.ref qb, .ref qu, .int uc, .int ln, .int (nI n), .int (nI i), .int pl])), (qb, .inl (cB, 4096, .inl bf))]) hP hD [1, 2] [0, 3] rfl rfl (by decide) (by decide) hk1 hFc hP1 hD1
  generalize H1 = H at hP hS ⊢
  have hP : va_P (dC, dI) classes ([(qr, .inr (5, [.ref h0, .int (nI o)])), (qu, .inl (cI, 4096, .inl ug)), (h0, .inr (8, [.ref qb, .ref qu, .int uc, .int ln, .int (nI n), .int (nI i), .int pl])), (qb, .inl (cB, 4096, .inl bf))] ++ va_pl ((L ++ [])) f) H := hP
  have hD : va_D A ([(qr, .inr (5, [.ref h0, .int (nI o)])), (qu, .inl (cI, 4096, .inl ug)), (h0, .inr (8, [.ref qb, .ref qu, .int uc, .int ln, .int (nI n), .int (nI i), .int pl])), (qb, .inl (cB, 4096, .inl bf))] ++ va_pl ((L ++ [])) f) := hD
  have hP := hP.part (cx := [(qr, .inr (5, [.ref h0, .int (nI o)])), (h0, .inr (8, [.ref qb, .ref qu, .int uc, .int ln, .int (nI n), .int (nI i), .int pl])), (qb, .inl (cB, 4096, .inl bf)), (qu, .inl (cI, 4096, .inl ug))]) [0, 2, 3, 1] rfl
  have hD := hD.part (cx := [(qr, .inr (5, [.ref h0, .int (nI o)])), (h0, .inr (8, [.ref qb, .ref qu, .int uc, .int ln, .int (nI n), .int (nI i), .int pl])), (qb, .inl (cB, 4096, .inl bf)), (qu, .inl (cI, 4096, .inl ug))]) [0, 2, 3, 1] (by decide) rfl
  have h_h21 : h21 = hereV bf n i := hw
  refine lv_istore_n (lv' := [(1, .int h21), (0, .ref qr)]) hx hb d_QueryReader_operand_7 rfl hl (by decide) rfl (fun ls hl => ?_)
  refine lv_iload_n hx hb d_QueryReader_operand_8 rfl (lv_at hl 0 rfl) ?_
  refine vp_callSi (va_Run.run (va_runS (As := [.int h21]) (rest := []) ⟨hx, hb, hml, hown, hts⟩ (c_QueryReader_beginsQuery l dC dI H h21) (va_cwS 1 hts (gt_S (own := R_QueryReader) (i := 178) (y := y_QueryReader_beginsQuery) i_QueryReader_beginsQuery z_713 z_714 w_4) rfl rfl rfl (by decide +kernel) ⟨by show 0 + 1 ≤ 12 * (16 - o) + 16; omega, by show 8 + (1 + 11) + (0) ≤ 360 * (16 - o) + 480; omega⟩) ⟨mT_blind, fun U hU hW => ⟨rfl, hN.warm hW⟩⟩ rfl rfl hl.1 rfl (lv_room (Nat.le_of_ble_eq_true rfl)) d_QueryReader_operand_9 ⟨by show 0 + (0) ≤ 8 * (n - i) + 8; omega, by show 0 + (0) ≤ 64 * (n - i) + 80; omega⟩)) (fun r22 h_r22 => ?_)
  refine lv_if_eq (tgt := 36) hx hb d_QueryReader_operand_12 (by decide) (fun c12 => ?_) (fun c12 => ?_)
  · have hnot : ¬ (begC (hereV bf n i)) := by rw [← h_h21]; exact h_r22.2.2 c12
    refine lv_iload_n hx hb d_QueryReader_operand_36 rfl (lv_at hl 0 rfl) ?_
    by_cases hs37_0 : h21 = 99
    · refine lv_lookup (tgt := 77) (off := 40) hx hb d_QueryReader_operand_37 (by decide) (by rw [hs37_0]; decide) (by decide) ?_
      refine lv_aload_n hx hb d_QueryReader_operand_77 rfl (lv_at hl 1 rfl) ?_
      refine va_ldcS hx hb hown (hC 8 _ rfl).2 d_QueryReader_operand_78 ?_
      refine va_new (ci := 2) (fs := [.int 0, .null, .null, .null]) (C := R_Operand) (T := F_Operand) (N := 4) hx hb hts in_Operand t_Operand t_Operand_ok hown (hts _ z_720) (hts _ z_721) (hts _ z_27) hK hP hD hS hA rfl (fun j hj => by rcases (show j = 0 ∨ j = 1 ∨ j = 2 ∨ j = 3 by omega) with rfl | rfl | rfl | rfl <;> rfl) (by show 0 + 1 ≤ 8 * (n - i) + 8; omega) (by show 0 + 4 ≤ 64 * (n - i) + 80; omega) d_QueryReader_operand_80 (fun ov H hP hD hS => ?_)
      have hz_ov := newB (X := [(qr, .inr (5, [.ref h0, .int (nI o)])), (h0, .inr (8, [.ref qb, .ref qu, .int uc, .int ln, .int (nI n), .int (nI i), .int pl])), (qb, .inl (cB, 4096, .inl bf)), (qu, .inl (cI, 4096, .inl ug))]) hAe hD (fun k x hk => by rcases k with _ | _ | _ | _ | k; (· cases hk; exact ⟨0, _, rfl⟩); (· cases hk; exact ⟨1, _, rfl⟩); (· cases hk; exact ⟨2, _, rfl⟩); (· cases hk; exact ⟨3, _, rfl⟩); (· cases hk))
      have hP := hP.swap
      have hD := hD.swap
      have hP : va_P (dC, dI) classes ([(qr, .inr (5, [.ref h0, .int (nI o)])), (h0, .inr (8, [.ref qb, .ref qu, .int uc, .int ln, .int (nI n), .int (nI i), .int pl])), (qb, .inl (cB, 4096, .inl bf)), (qu, .inl (cI, 4096, .inl ug)), (ov, .inr (2, [.int 0, .null, .null, .null]))] ++ va_pl ((L ++ [])) f) H := hP
      have hD : va_D A ([(qr, .inr (5, [.ref h0, .int (nI o)])), (h0, .inr (8, [.ref qb, .ref qu, .int uc, .int ln, .int (nI n), .int (nI i), .int pl])), (qb, .inl (cB, 4096, .inl bf)), (qu, .inl (cI, 4096, .inl ug)), (ov, .inr (2, [.int 0, .null, .null, .null]))] ++ va_pl ((L ++ [])) f) := hD
      refine lv_dup hx hb d_QueryReader_operand_83 rfl ?_
      refine lv_iconst (v := 2) hx hb d_QueryReader_operand_84 (by decide) ?_
      refine va_new (ci := 9) (fs := [.int 0, .long 0, .null, .null, .null, .null, .int 0, .null, .null, .int 0]) (C := R_Value) (T := F_Value) (N := 10) hx hb hts in_Value t_Value t_Value_ok hown (hts _ z_761) (hts _ z_307) (hts _ z_14) hK hP hD hS hA rfl (fun j hj => by rcases (show j = 0 ∨ j = 1 ∨ j = 2 ∨ j = 3 ∨ j = 4 ∨ j = 5 ∨ j = 6 ∨ j = 7 ∨ j = 8 ∨ j = 9 by omega) with rfl | rfl | rfl | rfl | rfl | rfl | rfl | rfl | rfl | rfl <;> rfl) (by show (0 + 1) + 1 ≤ 8 * (n - i) + 8; omega) (by show (0 + 4) + 10 ≤ 64 * (n - i) + 80; omega) d_QueryReader_operand_85 (fun vv H hP hD hS => ?_)
      have hz_vv := newB (X := [(qr, .inr (5, [.ref h0, .int (nI o)])), (h0, .inr (8, [.ref qb, .ref qu, .int uc, .int ln, .int (nI n), .int (nI i), .int pl])), (qb, .inl (cB, 4096, .inl bf)), (qu, .inl (cI, 4096, .inl ug)), (ov, .inr (2, [.int 0, .null, .null, .null]))]) hAe hD (fun k x hk => by rcases k with _ | _ | _ | _ | k; (· cases hk; exact ⟨0, _, rfl⟩); (· cases hk; exact ⟨1, _, rfl⟩); (· cases hk; exact ⟨2, _, rfl⟩); (· cases hk; exact ⟨3, _, rfl⟩); (· cases hk))
      have hP := hP.swap
      have hD := hD.swap
      have hP : va_P (dC, dI) classes ([(qr, .inr (5, [.ref h0, .int (nI o)])), (h0, .inr (8, [.ref qb, .ref qu, .int uc, .int ln, .int (nI n), .int (nI i), .int pl])), (qb, .inl (cB, 4096, .inl bf)), (qu, .inl (cI, 4096, .inl ug)), (ov, .inr (2, [.int 0, .null, .null, .null])), (vv, .inr (9, [.int 0, .long 0, .null, .null, .null, .null, .int 0, .null, .null, .int 0]))] ++ va_pl ((L ++ [])) f) H := hP
      have hD : va_D A ([(qr, .inr (5, [.ref h0, .int (nI o)])), (h0, .inr (8, [.ref qb, .ref qu, .int uc, .int ln, .int (nI n), .int (nI i), .int pl])), (qb, .inl (cB, 4096, .inl bf)), (qu, .inl (cI, 4096, .inl ug)), (ov, .inr (2, [.int 0, .null, .null, .null])), (vv, .inr (9, [.int 0, .long 0, .null, .null, .null, .null, .int 0, .null, .null, .int 0]))] ++ va_pl ((L ++ [])) f) := hD
      refine lv_dup hx hb d_QueryReader_operand_88 rfl ?_
      refine lv_iconst (v := 3) hx hb d_QueryReader_operand_89 (by decide) ?_
      have hPc := hP.sub (ws' := [(vv, .inr (9, [.int 0, .long 0, .null, .null, .null, .null, .int 0, .null, .null, .int 0]))]) [5] rfl
      have hDc := hD.sub (ws' := [(vv, .inr (9, [.int 0, .long 0, .null, .null, .null, .null, .int 0, .null, .null, .int 0]))]) [5] (by decide) rfl
      have hFc := va_free (wc := [(vv, .inr (9, [.int 0, .long 0, .null, .null, .null, .null, .int 0, .null, .null, .int 0]))]) hD hS hA [5] rfl
      have hKc := hK.sub (tys' := []) [] rfl
      refine w_same (fun hq0 => ?_)
      refine va_callv (va_runI (As := [.int 3]) (rest := [.ref vv, .int 2, .ref ov, .ref ov, .ref (K 8).1, .ref qr]) ⟨hx, hb, hml, hown, hts⟩ (c_Value_init l dC dI H vv 3) (cwI 1 hts (gt_code i_Value_init) rfl rfl rfl (hts _ z_14) (hts _ z_762) (hts _ z_309) rfl (by decide +kernel) ⟨by show 1 + 1 ≤ 12 * (16 - o) + 16; omega, by show 8 + (2 + 11) + (20) ≤ 360 * (16 - o) + 480; omega⟩) ⟨mp_blind, fun U hU hW => ⟨rfl, hU, by rw [hU]; exact hPc, va_K.moved hW.alike hKc, hDc.weaken (fun _ _ _ _ => trivial)⟩⟩ rfl rfl hl.1 rfl (lv_room (Nat.le_of_ble_eq_true rfl)) d_QueryReader_operand_90 ⟨by show ((0 + 1) + 1) + (0) ≤ 8 * (n - i) + 8; omega, by show ((0 + 4) + 10) + (0) ≤ 64 * (n - i) + 80; omega⟩) hS (fun q _ h => hFc q h) hFc (fun _u t9 H1 locs ht hvm hw hB hz1 hk1 hS => ?_)
      obtain ⟨⟨hP1, hK1, hD1⟩, hz9⟩ := hB
      rw [ht] at hP1
      rw [ht] at hz9
      have hq0 : szk s.heap H1 (((0 + 1) + 1)) (((0 + 4) + 10)) := (hq0.trans hz9).mono (Nat.le_of_eq (Nat.add_zero _)) (Nat.le_of_eq (Nat.add_zero _))
      refine w_tight hq0 ?_
      obtain ⟨hP, hD⟩ := va_joinQ (wr := [(qr, .inr (5, [.ref h0, .int (nI o)])), (h0, .inr (8, [.ref qb, .ref qu, .int uc, .int ln, .int (nI n), .int (nI i), .int pl])), (qb, .inl (cB, 4096, .inl bf)), (qu, .inl (cI, 4096, .inl ug)), (ov, .inr (2, [.int 0, .null, .null, .null]))]) (w1 := [(vv, .inr (9, [.int 3, .long 0, .null, .null, .null, .null, .int 0, .null, .null, .int 0]))]) hP hD [5] [0, 1, 2, 3, 4] rfl rfl (by decide) (by decide) hk1 hFc hP1 hD1
      generalize H1 = H at hP hS hq0 ⊢
      have hP : va_P (dC, dI) classes ([(qr, .inr (5, [.ref h0, .int (nI o)])), (h0, .inr (8, [.ref qb, .ref qu, .int uc, .int ln, .int (nI n), .int (nI i), .int pl])), (qb, .inl (cB, 4096, .inl bf)), (qu, .inl (cI, 4096, .inl ug)), (ov, .inr (2, [.int 0, .null, .null, .null])), (vv, .inr (9, [.int 3, .long 0, .null, .null, .null, .null, .int 0, .null, .null, .int 0]))] ++ va_pl ((L ++ [])) f) H := hP
      have hD : va_D A ([(qr, .inr (5, [.ref h0, .int (nI o)])), (h0, .inr (8, [.ref qb, .ref qu, .int uc, .int ln, .int (nI n), .int (nI i), .int pl])), (qb, .inl (cB, 4096, .inl bf)), (qu, .inl (cI, 4096, .inl ug)), (ov, .inr (2, [.int 0, .null, .null, .null])), (vv, .inr (9, [.int 3, .long 0, .null, .null, .null, .null, .int 0, .null, .null, .int 0]))] ++ va_pl ((L ++ [])) f) := hD
      have hPc := hP.sub (ws' := [(ov, .inr (2, [.int 0, .null, .null, .null]))]) [4] rfl
      have hDc := hD.sub (ws' := [(ov, .inr (2, [.int 0, .null, .null, .null]))]) [4] (by decide) rfl
      have hFc := va_free (wc := [(ov, .inr (2, [.int 0, .null, .null, .null]))]) hD hS hA [4] rfl
      have hKc := hK.sub (tys' := []) [] rfl
      refine w_same (fun hq0 => ?_)
      refine va_callv (va_runI (As := [.int 2, .ref vv]) (rest := [.ref ov, .ref (K 8).1, .ref qr]) ⟨hx, hb, hml, hown, hts⟩ (c_Operand_init l dC dI H ov 2 (some vv)) (cwI 2 hts (gt_code i_Operand_init) rfl rfl rfl (hts _ z_27) (hts _ z_722) (hts _ z_723) rfl (by decide +kernel) ⟨by show 1 + 1 ≤ 12 * (16 - o) + 16; omega, by show 8 + (3 + 11) + (20) ≤ 360 * (16 - o) + 480; omega⟩) ⟨mp_blind, fun U hU hW => ⟨rfl, hU, by rw [hU]; exact hPc, va_K.moved hW.alike hKc, hDc.weaken (fun _ _ _ _ => trivial)⟩⟩ rfl rfl hl.1 rfl (lv_room (Nat.le_of_ble_eq_true rfl)) d_QueryReader_operand_93 ⟨by show ((0 + 1) + 1) + (0) ≤ 8 * (n - i) + 8; omega, by show ((0 + 4) + 10) + (0) ≤ 64 * (n - i) + 80; omega⟩) hS (fun q _ h => hFc q h) hFc (fun _u t9 H1 locs ht hvm hw hB hz1 hk1 hS => ?_)
      obtain ⟨⟨hP1, hK1, hD1⟩, hz9⟩ := hB
      rw [ht] at hP1
      rw [ht] at hz9
      have hq0 : szk s.heap H1 (((0 + 1) + 1)) (((0 + 4) + 10)) := (hq0.trans hz9).mono (Nat.le_of_eq (Nat.add_zero _)) (Nat.le_of_eq (Nat.add_zero _))
      refine w_tight hq0 ?_
      obtain ⟨hP, hD⟩ := va_joinQ (wr := [(qr, .inr (5, [.ref h0, .int (nI o)])), (h0, .inr (8, [.ref qb, .ref qu, .int uc, .int ln, .int (nI n), .int (nI i), .int pl])), (qb, .inl (cB, 4096, .inl bf)), (qu, .inl (cI, 4096, .inl ug)), (vv, .inr (9, [.int 3, .long 0, .null, .null, .null, .null, .int 0, .null, .null, .int 0]))]) (w1 := [(ov, .inr (2, [.int 2, .ref vv, .null, .null]))]) hP hD [4] [0, 1, 2, 3, 5] rfl rfl (by decide) (by decide) hk1 hFc hP1 hD1
      generalize H1 = H at hP hS hq0 ⊢
      have hP : va_P (dC, dI) classes ([(qr, .inr (5, [.ref h0, .int (nI o)])), (h0, .inr (8, [.ref qb, .ref qu, .int uc, .int ln, .int (nI n), .int (nI i), .int pl])), (qb, .inl (cB, 4096, .inl bf)), (qu, .inl (cI, 4096, .inl ug)), (vv, .inr (9, [.int 3, .long 0, .null, .null, .null, .null, .int 0, .null, .null, .int 0])), (ov, .inr (2, [.int 2, .ref vv, .null, .null]))] ++ va_pl ((L ++ [])) f) H := hP
      have hD : va_D A ([(qr, .inr (5, [.ref h0, .int (nI o)])), (h0, .inr (8, [.ref qb, .ref qu, .int uc, .int ln, .int (nI n), .int (nI i), .int pl])), (qb, .inl (cB, 4096, .inl bf)), (qu, .inl (cI, 4096, .inl ug)), (vv, .inr (9, [.int 3, .long 0, .null, .null, .null, .null, .int 0, .null, .null, .int 0])), (ov, .inr (2, [.int 2, .ref vv, .null, .null]))] ++ va_pl ((L ++ [])) f) := hD
      have hP := hP.part (cx := [(qr, .inr (5, [.ref h0, .int (nI o)])), (h0, .inr (8, [.ref qb, .ref qu, .int uc, .int ln, .int (nI n), .int (nI i), .int pl])), (qb, .inl (cB, 4096, .inl bf)), (qu, .inl (cI, 4096, .inl ug)), (ov, .inr (2, [.int 2, .ref vv, .null, .null])), (vv, .inr (9, [.int 3, .long 0, .null, .null, .null, .null, .int 0, .null, .null, .int 0]))]) [0, 1, 2, 3, 5, 4] rfl
      have hD := hD.part (cx := [(qr, .inr (5, [.ref h0, .int (nI o)])), (h0, .inr (8, [.ref qb, .ref qu, .int uc, .int ln, .int (nI n), .int (nI i), .int pl])), (qb, .inl (cB, 4096, .inl bf)), (qu, .inl (cI, 4096, .inl ug)), (ov, .inr (2, [.int 2, .ref vv, .null, .null])), (vv, .inr (9, [.int 3, .long 0, .null, .null, .null, .null, .int 0, .null, .null, .int 0]))]) [0, 1, 2, 3, 5, 4] (by decide) rfl
      have hL_vv := plD_new (X := [(qr, .inr (5, [.ref h0, .int (nI o)])), (h0, .inr (8, [.ref qb, .ref qu, .int uc, .int ln, .int (nI n), .int (nI i), .int pl])), (qb, .inl (cB, 4096, .inl bf)), (qu, .inl (cI, 4096, .inl ug)), (ov, .inr (2, [.int 2, .ref vv, .null, .null]))]) hD
      have h0_vv : E vv = 0 := Classical.byContradiction (fun h => hL_vv (hG0.po.inL h))
      have hP := plP_push (X := [(qr, .inr (5, [.ref h0, .int (nI o)])), (h0, .inr (8, [.ref qb, .ref qu, .int uc, .int ln, .int (nI n), .int (nI i), .int pl])), (qb, .inl (cB, 4096, .inl bf)), (qu, .inl (cI, 4096, .inl ug)), (ov, .inr (2, [.int 2, .ref vv, .null, .null]))]) hP hL_vv
      have hD := plD_push (X := [(qr, .inr (5, [.ref h0, .int (nI o)])), (h0, .inr (8, [.ref qb, .ref qu, .int uc, .int ln, .int (nI n), .int (nI i), .int pl])), (qb, .inl (cB, 4096, .inl bf)), (qu, .inl (cI, 4096, .inl ug)), (ov, .inr (2, [.int 2, .ref vv, .null, .null]))]) hD hL_vv
      rw [List.append_assoc] at hP hD
      have hG_vv := hG0.add (q := vv) (s := 2) (b := 0) (e := vE 3 0 none none none none 0 none none 0) h0_vv hL_vv hz_vv (by decide) (by decide) (CO.V (Or.inr (Or.inl (va_up_self _ _ _))) ⟨_, _, _, _, _, _, _, _, _, _, rfl, ⟨(fun b h => (nomatch h)), (fun b h => (nomatch h)), (fun b h => (nomatch h)), (fun b h => (nomatch h)), (fun b h => (nomatch h)), (fun b h => (nomatch h)), fun _ => ⟨fun h => absurd h (by decide), fun h => absurd h (by decide)⟩, fun h => absurd ((va_up_self _ _ _).symm.trans h) (by decide)⟩⟩)
      have hP : va_P (dC, dI) classes ([(qr, .inr (5, [.ref h0, .int (nI o)])), (h0, .inr (8, [.ref qb, .ref qu, .int uc, .int ln, .int (nI n), .int (nI i), .int pl])), (qb, .inl (cB, 4096, .inl bf)), (qu, .inl (cI, 4096, .inl ug)), (ov, .inr (2, [.int 2, .ref vv, .null, .null]))] ++ va_pl ((L ++ ([] ++ [vv]))) ((va_up f vv (vE 3 0 none none none none 0 none none 0)))) H := hP
      have hD : va_D A ([(qr, .inr (5, [.ref h0, .int (nI o)])), (h0, .inr (8, [.ref qb, .ref qu, .int uc, .int ln, .int (nI n), .int (nI i), .int pl])), (qb, .inl (cB, 4096, .inl bf)), (qu, .inl (cI, 4096, .inl ug)), (ov, .inr (2, [.int 2, .ref vv, .null, .null]))] ++ va_pl ((L ++ ([] ++ [vv]))) ((va_up f vv (vE 3 0 none none none none 0 none none 0)))) := hD
      have hzz23 : s.heap.size ≤ H.size := hS.1
      have hPc := hP.part (cx := [(qr, .inr (5, [.ref h0, .int (nI o)])), (h0, .inr (8, [.ref qb, .ref qu, .int uc, .int ln, .int (nI n), .int (nI i), .int pl])), (qb, .inl (cB, 4096, .inl bf)), (qu, .inl (cI, 4096, .inl ug)), (ov, .inr (2, [.int 2, .ref vv, .null, .null]))]) [0, 1, 2, 3, 4] rfl
      have hDc := hD.part (cx := [(qr, .inr (5, [.ref h0, .int (nI o)])), (h0, .inr (8, [.ref qb, .ref qu, .int uc, .int ln, .int (nI n), .int (nI i), .int pl])), (qb, .inl (cB, 4096, .inl bf)), (qu, .inl (cI, 4096, .inl ug)), (ov, .inr (2, [.int 2, .ref vv, .null, .null]))]) [0, 1, 2, 3, 4] (by decide) rfl
      have hFc := va_freeP (cx := [(qr, .inr (5, [.ref h0, .int (nI o)])), (h0, .inr (8, [.ref qb, .ref qu, .int uc, .int ln, .int (nI n), .int (nI i), .int pl])), (qb, .inl (cB, 4096, .inl bf)), (qu, .inl (cI, 4096, .inl ug)), (ov, .inr (2, [.int 2, .ref vv, .null, .null]))]) hD hS hA [0, 1, 2, 3, 4] rfl
      have hKc := hK.sub (tys' := [(cB, .byte), (cI, .int), (cV, .object "QueryBench$Value")]) [0, 1, 2] rfl
      refine w_same (fun hq0 => ?_)
      refine vx_callr (vx_runV (As := [.ref (K 8).1, .ref ov]) (rest := []) ⟨hx, hb, hml, hown, hts⟩ (c_QR_queryOperand8 l hl9 K dC dI cI cV cB h0 qb qu ln bf n qr hn0 hbf o ho ok orL cmL qyL hok HA H ((va_up E vv 2)) ((va_up lv vv 0)) (L ++ ([] ++ [vv])) ((va_up f vv (vE 3 0 none none none none 0 none none 0))) i uc pl ug hG_vv.po (by omega) ov 2 (some vv)) (cwV 2 hts (gt_V (own := R_QueryReader) (C := R_QueryReader) (i := 226) (y := y_QueryReader_queryOperand) i_QueryReader_queryOperand z_764 z_766 (gt_sel (y := y_QueryReader_queryOperand) (n := 2) (by decide +kernel)) w_4) rfl rfl rfl (by decide +kernel) ⟨by show 12 * (16 - o) + 13 + 1 ≤ 12 * (16 - o) + 16; omega, by show 8 + (3 + 11) + (360 * (16 - o) + 390) ≤ 360 * (16 - o) + 480; omega⟩) ⟨ml_blind, va_recv hK hP (ci := 5) (q0 := 0) rfl rfl, fun U hU hW => ⟨rfl, ⟨hU, by rw [hU]; exact hPc, va_K.moved hW.alike hKc, hDc.weaken (fun _ _ _ _ => trivial)⟩, hN.warm hW, by rw [hU]; exact ZX.moved' hW.alike (ZX.narrow' (ZX.kept' hZ hS.2.1) hFc), by rw [hU]; exact CE.call hC hS.2.1 hFc hW, va_AO.moved hW.alike hV⟩⟩ rfl rfl hl.1 rfl (lv_room (Nat.le_of_ble_eq_true rfl)) d_QueryReader_operand_96 ⟨by show ((0 + 1) + 1) + (8 * (n - i) + 4) ≤ 8 * (n - i) + 8; omega, by show ((0 + 4) + 10) + (64 * (n - i) + 60) ≤ 64 * (n - i) + 80; omega⟩) hS (fun q _ h => hFc q h) hFc (fun q _ h => hFc q h) (fun En ce q9 ⟨ax, cx, px, gx, ox⟩ t9 H1 locs ht hvm hw hB hz1 hk1 hS hce hcv hcl => ?_) (fun ⟨v23, p23, N23, E23, f23, uc23, ug23⟩ rr t9 H1 locs ht hvm hw hB hz1 hk1 hS => ?_)
      · obtain ⟨hEn, hP1, hK1, hD1⟩ := hB
        rw [ht] at hP1
        obtain ⟨hP, hD⟩ := va_joinP (wr := []) (rx := [(qr, .inr (5, [.ref h0, .int ox])), (h0, .inr (8, [.ref qb, .ref qu, .int cx, .int ln, .int (nI n), .int ax, .int px])), (qb, .inl (cB, 4096, .inl bf)), (qu, .inl (cI, 4096, .inl gx))]) (pl1 := va_pl ((L ++ ([] ++ [vv]))) ((va_up f vv (vE 3 0 none none none none 0 none none 0)))) hP hD [0, 1, 2, 3, 4] [] rfl rfl (by decide) (by decide) hk1 hFc hP1 hD1
        generalize H1 = H at hP hS hce ⊢
        have hP : va_P (dC, dI) classes ([(qr, .inr (5, [.ref h0, .int ox])), (h0, .inr (8, [.ref qb, .ref qu, .int cx, .int ln, .int (nI n), .int ax, .int px])), (qb, .inl (cB, 4096, .inl bf)), (qu, .inl (cI, 4096, .inl gx))] ++ va_pl ((L ++ ([] ++ [vv]))) ((va_up f vv (vE 3 0 none none none none 0 none none 0)))) H := hP
        have hD : va_D A ([(qr, .inr (5, [.ref h0, .int ox])), (h0, .inr (8, [.ref qb, .ref qu, .int cx, .int ln, .int (nI n), .int ax, .int px])), (qb, .inl (cB, 4096, .inl bf)), (qu, .inl (cI, 4096, .inl gx))] ++ va_pl ((L ++ ([] ++ [vv]))) ((va_up f vv (vE 3 0 none none none none 0 none none 0)))) := hD
        have hP := plP_cut (hP.part (cx := [(qr, .inr (5, [.ref h0, .int ox])), (h0, .inr (8, [.ref qb, .ref qu, .int cx, .int ln, .int (nI n), .int ax, .int px])), (qb, .inl (cB, 4096, .inl bf)), (qu, .inl (cI, 4096, .inl gx))]) [0, 1, 2, 3] rfl) hG_vv.on
        have hD := plD_cut (hD.part (cx := [(qr, .inr (5, [.ref h0, .int ox])), (h0, .inr (8, [.ref qb, .ref qu, .int cx, .int ln, .int (nI n), .int ax, .int px])), (qb, .inl (cB, 4096, .inl bf)), (qu, .inl (cI, 4096, .inl gx))]) [0, 1, 2, 3] (by decide) rfl) hG_vv.on
        have hno : (opD bf n ok orL cmL qyL) i = none := (opD_c (h_h21.symm.trans hs37_0)).trans (mp_none hw)
        exact vx_out (fun x hx => (hex x hx).elim) hlocks hce hcv hcl (fun t9 ht2 ha => ⟨(ax, cx, px, gx, ox), hno, ⟨hEn, by rw [ht2]; exact hP, va_K.moved ha hK, hD⟩, hS.F ht2⟩) hS.2.2 (by show ((0 + 1) + 1) + (8 * (n - i) + 4) ≤ 8 * (n - i) + 8; omega) (by show ((0 + 4) + 10) + (64 * (n - i) + 60) ≤ 64 * (n - i) + 80; omega)
      · obtain ⟨⟨hP1, hK1, hD1⟩, hz9, ha9⟩ := hB
        rw [ht] at hP1
        rw [ht] at hz9
        have ha9 : ov = rr := ha9.symm
        subst ha9
        have hq0 : szk s.heap H1 (((0 + 1) + 1) + 8 * (p23 - i)) (((0 + 4) + 10) + 64 * (p23 - i)) := (hq0.trans hz9).mono (Nat.le_refl _) (Nat.le_refl _)
        refine w_tight hq0 ?_
        obtain ⟨hP, hD⟩ := va_joinP (wr := []) (rx := [(qr, .inr (5, [.ref h0, .int (nI o)])), (h0, .inr (8, [.ref qb, .ref qu, .int uc23, .int ln, .int (nI n), .int (nI p23), .int pl])), (qb, .inl (cB, 4096, .inl bf)), (qu, .inl (cI, 4096, .inl ug23)), (ov, .inr (2, [.int 2, .ref vv, .ref v23, .null]))]) (pl1 := va_pl (((L ++ ([] ++ [vv])) ++ N23)) f23) hP hD [0, 1, 2, 3, 4] [] rfl rfl (by decide) (by decide) hk1 hFc hP1 hD1
        generalize H1 = H at hP hS hq0 ⊢
        have hP : va_P (dC, dI) classes ([(qr, .inr (5, [.ref h0, .int (nI o)])), (h0, .inr (8, [.ref qb, .ref qu, .int uc23, .int ln, .int (nI n), .int (nI p23), .int pl])), (qb, .inl (cB, 4096, .inl bf)), (qu, .inl (cI, 4096, .inl ug23)), (ov, .inr (2, [.int 2, .ref vv, .ref v23, .null]))] ++ va_pl (((L ++ ([] ++ [vv])) ++ N23)) f23) H := hP
        have hD : va_D A ([(qr, .inr (5, [.ref h0, .int (nI o)])), (h0, .inr (8, [.ref qb, .ref qu, .int uc23, .int ln, .int (nI n), .int (nI p23), .int pl])), (qb, .inl (cB, 4096, .inl bf)), (qu, .inl (cI, 4096, .inl ug23)), (ov, .inr (2, [.int 2, .ref vv, .ref v23, .null]))] ++ va_pl (((L ++ ([] ++ [vv])) ++ N23)) f23) := hD
        obtain ⟨hw, m23, hf23, hd23⟩ := hw
        have hf23 : fnD bf n 8 5 ok (anyD bf n qyL) i = some (p23, m23) := hf23
        have hd23 : DNx QD 0 ((va_up E vv 2)) E23 f23 v23 m23 := hd23
        have hQ23 : QPn cI cV ((va_up E vv 2)) (L ++ ([] ++ [vv])) ((va_up f vv (vE 3 0 none none none none 0 none none 0))) i n _ 7 (5 * (16 - o)) 0 v23 p23 N23 E23 f23 := hw
        obtain ⟨lv23, hg23, hlv23⟩ := hQ23.x ((va_up lv vv 0)) hG_vv.po _ (Nat.le_refl _)
        have hkp23 : KPx ((va_up E vv 2)) E23 ((va_up f vv (vE 3 0 none none none none 0 none none 0))) f23 := KPx.of hg23 hG_vv.po
        have hnv23 : ((va_up E vv 2)) v23 = 0 := hQ23.new
        have hsv23 : ¬ E23 v23 = 0 := by rw [hQ23.so]; decide
        have hG23 := hG_vv.tr hg23 hzz23
        have hex23 := hg23.ex
        obtain ⟨ha23, hb23⟩ := hQ23.num
        have ha23 : i + 0 ≤ p23 := ha23
        have hb23 : p23 ≤ n := hb23
        rw [List.append_assoc] at hP hD
        have hP : va_P (dC, dI) classes ([(qr, .inr (5, [.ref h0, .int (nI o)])), (h0, .inr (8, [.ref qb, .ref qu, .int uc23, .int ln, .int (nI n), .int (nI p23), .int pl])), (qb, .inl (cB, 4096, .inl bf)), (qu, .inl (cI, 4096, .inl ug23)), (ov, .inr (2, [.int 2, .ref vv, .ref v23, .null]))] ++ va_pl ((L ++ (([] ++ [vv]) ++ N23))) f23) H := hP
        have hD : va_D A ([(qr, .inr (5, [.ref h0, .int (nI o)])), (h0, .inr (8, [.ref qb, .ref qu, .int uc23, .int ln, .int (nI n), .int (nI p23), .int pl])), (qb, .inl (cB, 4096, .inl bf)), (qu, .inl (cI, 4096, .inl ug23)), (ov, .inr (2, [.int 2, .ref vv, .ref v23, .null]))] ++ va_pl ((L ++ (([] ++ [vv]) ++ N23))) f23) := hD
        have hL_ov := plD_new (X := [(qr, .inr (5, [.ref h0, .int (nI o)])), (h0, .inr (8, [.ref qb, .ref qu, .int uc23, .int ln, .int (nI n), .int (nI p23), .int pl])), (qb, .inl (cB, 4096, .inl bf)), (qu, .inl (cI, 4096, .inl ug23))]) hD
        have h0_ov : E23 ov = 0 := Classical.byContradiction (fun h => hL_ov (hG23.po.inL h))
        have hE_ov : E ov = 0 := hG23.ex.z h0_ov
        have hP := plP_push (X := [(qr, .inr (5, [.ref h0, .int (nI o)])), (h0, .inr (8, [.ref qb, .ref qu, .int uc23, .int ln, .int (nI n), .int (nI p23), .int pl])), (qb, .inl (cB, 4096, .inl bf)), (qu, .inl (cI, 4096, .inl ug23))]) hP hL_ov
        have hD := plD_push (X := [(qr, .inr (5, [.ref h0, .int (nI o)])), (h0, .inr (8, [.ref qb, .ref qu, .int uc23, .int ln, .int (nI n), .int (nI p23), .int pl])), (qb, .inl (cB, 4096, .inl bf)), (qu, .inl (cI, 4096, .inl ug23))]) hD hL_ov
        rw [List.append_assoc] at hP hD
        have hQ_ov : QPn cI cV E L f i n s.heap.size 11 (5 * (16 - o) + 1) 0 ov p23 ((([] ++ [vv]) ++ N23) ++ [ov]) (va_up E23 ov 11) (va_up f23 ov (oE 2 (some vv) (some v23) none)) := by
          refine ⟨hE_ov, va_up_self _ _ _, by omega, by omega, fun lv hO b hb => ?_⟩
          have g0 : QG cI cV E lv L f i n i s.heap.size [] E lv f := (QG.rf hO hi9).mv (by omega) (by omega)
          have g0 := g0.add (q := vv) (s := 2) (b := 0) (e := vE 3 0 none none none none 0 none none 0) h0_vv hL_vv hz_vv (by decide) (by decide) (CO.V (Or.inr (Or.inl (va_up_self _ _ _))) ⟨_, _, _, _, _, _, _, _, _, _, rfl, ⟨(fun b h => (nomatch h)), (fun b h => (nomatch h)), (fun b h => (nomatch h)), (fun b h => (nomatch h)), (fun b h => (nomatch h)), (fun b h => (nomatch h)), fun _ => ⟨fun h => absurd h (by decide), fun h => absurd h (by decide)⟩, fun h => absurd ((va_up_self _ _ _).symm.trans h) (by decide)⟩⟩)
          obtain ⟨lv1, g1, c1⟩ := hQ23.x _ g0.po (b - 1) (by omega)
          have g1 := g0.tr g1 hzz23
          have hvs23 : v23 ≠ ov := fun e => by have h9 := hQ23.so; rw [e, h0_ov] at h9; cases h9
          have hE1 : E23 vv = 2 := (hex23 vv (by rw [va_up_self]; decide)).trans (va_up_self _ _ _)
          have hvv : vv ≠ ov := fun e => by rw [e, h0_ov] at hE1; cases hE1
          exact ⟨va_up lv1 ov b, g1.add (q := ov) (s := 11) (b := b) (e := oE 2 (some vv) (some v23) none) h0_ov hL_ov hz_ov (by decide) (by decide) (CO.O (va_up_self _ _ _) ⟨_, _, _, _, rfl, ⟨(fun b9 h => by cases h; exact Or.inl ((va_up_ne _ _ hvv).trans hE1)), (fun b9 h => by cases h; exact ⟨(va_up_ne _ _ hvs23).trans hQ23.so, by rw [va_up_ne _ _ hvs23, va_up_self]; have := c1; omega⟩), (fun b h => (nomatch h)), fun h => absurd h (by decide), fun _ => ⟨(fun h => by cases h), (fun h => by cases h)⟩, fun h => absurd h (by decide)⟩⟩), va_up_self _ _ _⟩
        have hP : va_P (dC, dI) classes ([(qr, .inr (5, [.ref h0, .int (nI o)])), (h0, .inr (8, [.ref qb, .ref qu, .int uc23, .int ln, .int (nI n), .int (nI p23), .int pl])), (qb, .inl (cB, 4096, .inl bf)), (qu, .inl (cI, 4096, .inl ug23))] ++ va_pl ((L ++ ((([] ++ [vv]) ++ N23) ++ [ov]))) ((va_up f23 ov (oE 2 (some vv) (some v23) none)))) H := hP
        have hD : va_D A ([(qr, .inr (5, [.ref h0, .int (nI o)])), (h0, .inr (8, [.ref qb, .ref qu, .int uc23, .int ln, .int (nI n), .int (nI p23), .int pl])), (qb, .inl (cB, 4096, .inl bf)), (qu, .inl (cI, 4096, .inl ug23))] ++ va_pl ((L ++ ((([] ++ [vv]) ++ N23) ++ [ov]))) ((va_up f23 ov (oE 2 (some vv) (some v23) none)))) := hD
        have hQr : QPn cI cV E L f i n s.heap.size 11 (5 * (16 - o) + 1) 0 ov p23 (((([] ++ [vv]) ++ N23) ++ [ov])) ((va_up E23 ov 11)) ((va_up f23 ov (oE 2 (some vv) (some v23) none))) := hQ_ov
        have hfin : (opD bf n ok orL cmL qyL) i = some (p23, cntO m23) := (opD_c (h_h21.symm.trans hs37_0)).trans (mp_some hf23)
        have hdn : DNx OD 0 E ((va_up E23 ov 11)) ((va_up f23 ov (oE 2 (some vv) (some v23) none))) ov (cntO m23) := DNx.cnt hd23 (KPx.up (f1 := f) (s := 2) (e := vE 3 0 none none none none 0 none none 0) h0_vv).ex hnv23 hsv23 h0_ov h0_vv (by rw [va_up_self]; decide) (hkp23.ex vv (by rw [va_up_self]; decide)) ⟨0, none, none, none, 0, none, none, 0, by rw [(hkp23 vv (by rw [va_up_self]; decide)).1]; exact va_up_self _ _ _⟩
        refine w_same (fun hq => ?_)
        refine W.widen (k := 8 * (n - i) + 8) (n := 64 * (n - i) + 80) (by show (((0 + 1) + 1) + 8 * (p23 - i)) ≤ 8 * (n - i) + 8; omega) (by show (((0 + 4) + 10) + 64 * (p23 - i)) ≤ 64 * (n - i) + 80; omega) ?_
        refine vx_ret ?_
        exact W.aret (v := .ref ov) hx hb hr (Or.inl ⟨_, rfl⟩) (Or.inr ⟨_, rfl⟩) (fun t9 ht hW => ⟨⟨(ov, p23, ((([] ++ [vv]) ++ N23) ++ [ov]), (va_up E23 ov 11), (va_up f23 ov (oE 2 (some vv) (some v23) none)), uc23, ug23), ov, rfl, ⟨hQr, _, hfin, hdn⟩, ⟨by rw [ht]; exact hP, va_K.moved hW.alike hK, hD⟩, by rw [ht]; exact ⟨hq.mono (by show (((0 + 1) + 1) + 8 * (p23 - i)) ≤ 8 * (p23 - i) + 3 - 0; omega) (by show (((0 + 4) + 10) + 64 * (p23 - i)) ≤ 64 * (p23 - i) + 14 - 0; omega), rfl⟩⟩, hS.F ht⟩) hS.2.2 d_QueryReader_operand_99
    · by_cases hs37_1 : h21 = 108
      · refine lv_lookup (tgt := 72) (off := 35) hx hb d_QueryReader_operand_37 (by decide) (by rw [hs37_1]; decide) (by decide) ?_
        refine lv_aload_n hx hb d_QueryReader_operand_72 rfl (lv_at hl 1 rfl) ?_
        have hG24 := hG0.mv (show i ≤ i by omega) (show i ≤ n by omega)
        have hzz24 : s.heap.size ≤ H.size := hS.1
        have hPc := hP.part (cx := [(qr, .inr (5, [.ref h0, .int (nI o)])), (h0, .inr (8, [.ref qb, .ref qu, .int uc, .int ln, .int (nI n), .int (nI i), .int pl])), (qb, .inl (cB, 4096, .inl bf)), (qu, .inl (cI, 4096, .inl ug))]) [0, 1, 2, 3] rfl
        have hDc := hD.part (cx := [(qr, .inr (5, [.ref h0, .int (nI o)])), (h0, .inr (8, [.ref qb, .ref qu, .int uc, .int ln, .int (nI n), .int (nI i), .int pl])), (qb, .inl (cB, 4096, .inl bf)), (qu, .inl (cI, 4096, .inl ug))]) [0, 1, 2, 3] (by decide) rfl
        have hFc := va_freeP (cx := [(qr, .inr (5, [.ref h0, .int (nI o)])), (h0, .inr (8, [.ref qb, .ref qu, .int uc, .int ln, .int (nI n), .int (nI i), .int pl])), (qb, .inl (cB, 4096, .inl bf)), (qu, .inl (cI, 4096, .inl ug))]) hD hS hA [0, 1, 2, 3] rfl
        have hKc := hK.sub (tys' := [(cB, .byte), (cI, .int), (cV, .object "QueryBench$Value")]) [0, 1, 2] rfl
        refine w_same (fun hq0 => ?_)
        refine vx_callr (vx_runV (As := []) (rest := []) ⟨hx, hb, hml, hown, hts⟩ (HLn H E lv (L ++ []) f i uc pl ug hG24.po (by omega)) (cwV 0 hts (gt_V (own := R_QueryReader) (C := R_QueryReader) (i := 218) (y := y_QueryReader_lengthOperand) i_QueryReader_lengthOperand z_755 z_757 (gt_sel (y := y_QueryReader_lengthOperand) (n := 2) (by decide +kernel)) w_4) rfl rfl rfl (by decide +kernel) ⟨by show 12 * (16 - o) + 13 + 1 ≤ 12 * (16 - o) + 16; omega, by show 8 + (2 + 11) + (360 * (16 - o) + 390) ≤ 360 * (16 - o) + 480; omega⟩) ⟨ml_blind, va_recv hK hP (ci := 5) (q0 := 0) rfl rfl, fun U hU hW => ⟨rfl, ⟨hU, by rw [hU]; exact hPc, va_K.moved hW.alike hKc, hDc.weaken (fun _ _ _ _ => trivial)⟩, hN.warm hW, by rw [hU]; exact ZX.moved' hW.alike (ZX.narrow' (ZX.kept' hZ hS.2.1) hFc), by rw [hU]; exact CE.call hC hS.2.1 hFc hW, va_AO.moved hW.alike hV⟩⟩ rfl rfl hl.1 rfl (lv_room (Nat.le_of_ble_eq_true rfl)) d_QueryReader_operand_73 ⟨by show 0 + (8 * (n - i) + 4) ≤ 8 * (n - i) + 8; omega, by show 0 + (64 * (n - i) + 60) ≤ 64 * (n - i) + 80; omega⟩) hS (fun q _ h => hFc q h) hFc (fun q _ h => hFc q h) (fun En ce q9 ⟨ax, cx, px, gx, ox⟩ t9 H1 locs ht hvm hw hB hz1 hk1 hS hce hcv hcl => ?_) (fun ⟨w24, p24, N24, E24, f24, uc24, ug24⟩ v24 t9 H1 locs ht hvm hw hB hz1 hk1 hS => ?_)
        · obtain ⟨hEn, hP1, hK1, hD1⟩ := hB
          rw [ht] at hP1
          obtain ⟨hP, hD⟩ := va_joinP (wr := []) (rx := [(qr, .inr (5, [.ref h0, .int ox])), (h0, .inr (8, [.ref qb, .ref qu, .int cx, .int ln, .int (nI n), .int ax, .int px])), (qb, .inl (cB, 4096, .inl bf)), (qu, .inl (cI, 4096, .inl gx))]) (pl1 := va_pl ((L ++ [])) f) hP hD [0, 1, 2, 3] [] rfl rfl (by decide) (by decide) hk1 hFc hP1 hD1
          generalize H1 = H at hP hS hce ⊢
          have hP : va_P (dC, dI) classes ([(qr, .inr (5, [.ref h0, .int ox])), (h0, .inr (8, [.ref qb, .ref qu, .int cx, .int ln, .int (nI n), .int ax, .int px])), (qb, .inl (cB, 4096, .inl bf)), (qu, .inl (cI, 4096, .inl gx))] ++ va_pl ((L ++ [])) f) H := hP
          have hD : va_D A ([(qr, .inr (5, [.ref h0, .int ox])), (h0, .inr (8, [.ref qb, .ref qu, .int cx, .int ln, .int (nI n), .int ax, .int px])), (qb, .inl (cB, 4096, .inl bf)), (qu, .inl (cI, 4096, .inl gx))] ++ va_pl ((L ++ [])) f) := hD
          have hP := plP_cut (hP.part (cx := [(qr, .inr (5, [.ref h0, .int ox])), (h0, .inr (8, [.ref qb, .ref qu, .int cx, .int ln, .int (nI n), .int ax, .int px])), (qb, .inl (cB, 4096, .inl bf)), (qu, .inl (cI, 4096, .inl gx))]) [0, 1, 2, 3] rfl) hG24.on
          have hD := plD_cut (hD.part (cx := [(qr, .inr (5, [.ref h0, .int ox])), (h0, .inr (8, [.ref qb, .ref qu, .int cx, .int ln, .int (nI n), .int ax, .int px])), (qb, .inl (cB, 4096, .inl bf)), (qu, .inl (cI, 4096, .inl gx))]) [0, 1, 2, 3] (by decide) rfl) hG24.on
          have hno : (opD bf n ok orL cmL qyL) i = none := (opD_l (h_h21.symm.trans hs37_1)).trans hw
          exact vx_out (fun x hx => (hex x hx).elim) hlocks hce hcv hcl (fun t9 ht2 ha => ⟨(ax, cx, px, gx, ox), hno, ⟨hEn, by rw [ht2]; exact hP, va_K.moved ha hK, hD⟩, hS.F ht2⟩) hS.2.2 (by show 0 + (8 * (n - i) + 4) ≤ 8 * (n - i) + 8; omega) (by show 0 + (64 * (n - i) + 60) ≤ 64 * (n - i) + 80; omega)
        · obtain ⟨⟨hP1, hK1, hD1⟩, hz9, ha9⟩ := hB
          rw [ht] at hP1
          rw [ht] at hz9
          have ha9 : v24 = w24 := ha9
          subst ha9
          have hq0 : szk s.heap H1 (0 + (8 * (p24 - i) + 0 - 0)) (0 + (64 * (p24 - i) + 0 - 0)) := (hq0.trans hz9).mono (Nat.le_refl _) (Nat.le_refl _)
          refine w_tight hq0 ?_
          obtain ⟨hP, hD⟩ := va_joinP (wr := []) (rx := [(qr, .inr (5, [.ref h0, .int (nI o)])), (h0, .inr (8, [.ref qb, .ref qu, .int uc24, .int ln, .int (nI n), .int (nI p24), .int pl])), (qb, .inl (cB, 4096, .inl bf)), (qu, .inl (cI, 4096, .inl ug24))]) (pl1 := va_pl (((L ++ []) ++ N24)) f24) hP hD [0, 1, 2, 3] [] rfl rfl (by decide) (by decide) hk1 hFc hP1 hD1
          generalize H1 = H at hP hS hq0 ⊢
          have hP : va_P (dC, dI) classes ([(qr, .inr (5, [.ref h0, .int (nI o)])), (h0, .inr (8, [.ref qb, .ref qu, .int uc24, .int ln, .int (nI n), .int (nI p24), .int pl])), (qb, .inl (cB, 4096, .inl bf)), (qu, .inl (cI, 4096, .inl ug24))] ++ va_pl (((L ++ []) ++ N24)) f24) H := hP
          have hD : va_D A ([(qr, .inr (5, [.ref h0, .int (nI o)])), (h0, .inr (8, [.ref qb, .ref qu, .int uc24, .int ln, .int (nI n), .int (nI p24), .int pl])), (qb, .inl (cB, 4096, .inl bf)), (qu, .inl (cI, 4096, .inl ug24))] ++ va_pl (((L ++ []) ++ N24)) f24) := hD
          obtain ⟨hw, m24, hf24, hd24⟩ := hw
          have hf24 : (fun i9 => (fnD bf n 10 6 ok cmL i9).map (fun p9 => (p9.1, lenO p9.2))) i = some (p24, m24) := hf24
          have hd24 : DNx OD 0 E E24 f24 v24 m24 := hd24
          have hQ24 : QPn cI cV E (L ++ []) f i n _ 11 (5 * (16 - o) + 1) 0 v24 p24 N24 E24 f24 := hw
          obtain ⟨lv24, hg24, hlv24⟩ := hQ24.x lv hG24.po _ (Nat.le_refl _)
          have hex24 := hg24.ex
          have hge24 := hg24.ge hQ24.new (by rw [hQ24.so]; decide)
          have hkp24 : KPx E E24 f f24 := KPx.of hg24 hG24.po
          have hnv24 : E v24 = 0 := hQ24.new
          have hsv24 : ¬ E24 v24 = 0 := by rw [hQ24.so]; decide
          have hG24 := hG24.tr hg24 hzz24
          obtain ⟨ha24, hb24⟩ := hQ24.num
          have ha24 : i + 0 ≤ p24 := ha24
          have hb24 : p24 ≤ n := hb24
          rw [List.append_assoc] at hP hD
          have hP : va_P (dC, dI) classes ([(qr, .inr (5, [.ref h0, .int (nI o)])), (h0, .inr (8, [.ref qb, .ref qu, .int uc24, .int ln, .int (nI n), .int (nI p24), .int pl])), (qb, .inl (cB, 4096, .inl bf)), (qu, .inl (cI, 4096, .inl ug24))] ++ va_pl ((L ++ ([] ++ N24))) f24) H := hP
          have hD : va_D A ([(qr, .inr (5, [.ref h0, .int (nI o)])), (h0, .inr (8, [.ref qb, .ref qu, .int uc24, .int ln, .int (nI n), .int (nI p24), .int pl])), (qb, .inl (cB, 4096, .inl bf)), (qu, .inl (cI, 4096, .inl ug24))] ++ va_pl ((L ++ ([] ++ N24))) f24) := hD
          have hQr : QPn cI cV E L f i n s.heap.size 11 (5 * (16 - o) + 1) 0 v24 p24 (([] ++ N24)) E24 f24 := (hQ24.up (by omega) (by omega) hzz24 (by omega) (by omega))
          have hfin : (opD bf n ok orL cmL qyL) i = some (p24, m24) := (opD_l (h_h21.symm.trans hs37_1)).trans hf24
          have hdn : DNx OD 0 E E24 f24 v24 m24 := hd24
          refine w_same (fun hq => ?_)
          refine W.widen (k := 8 * (n - i) + 8) (n := 64 * (n - i) + 80) (by show (0 + (8 * (p24 - i) + 0 - 0)) ≤ 8 * (n - i) + 8; omega) (by show (0 + (64 * (p24 - i) + 0 - 0)) ≤ 64 * (n - i) + 80; omega) ?_
          refine vx_ret ?_
          exact W.aret (v := .ref v24) hx hb hr (Or.inl ⟨_, rfl⟩) (Or.inr ⟨_, rfl⟩) (fun t9 ht hW => ⟨⟨(v24, p24, ([] ++ N24), E24, f24, uc24, ug24), v24, rfl, ⟨hQr, _, hfin, hdn⟩, ⟨by rw [ht]; exact hP, va_K.moved hW.alike hK, hD⟩, by rw [ht]; exact ⟨hq.mono (by show (0 + (8 * (p24 - i) + 0 - 0)) ≤ 8 * (p24 - i) + 3 - 0; omega) (by show (0 + (64 * (p24 - i) + 0 - 0)) ≤ 64 * (p24 - i) + 14 - 0; omega), rfl⟩⟩, hS.F ht⟩) hS.2.2 d_QueryReader_operand_76
      · by_cases hs37_2 : h21 = 118
        · refine lv_lookup (tgt := 100) (off := 63) hx hb d_QueryReader_operand_37 (by decide) (by rw [hs37_2]; decide) (by decide) ?_
          refine lv_aload_n hx hb d_QueryReader_operand_100 rfl (lv_at hl 1 rfl) ?_
          refine va_ldcS hx hb hown (hC 9 _ rfl).2 d_QueryReader_operand_101 ?_
          refine va_new (ci := 2) (fs := [.int 0, .null, .null, .null]) (C := R_Operand) (T := F_Operand) (N := 4) hx hb hts in_Operand t_Operand t_Operand_ok hown (hts _ z_720) (hts _ z_721) (hts _ z_27) hK hP hD hS hA rfl (fun j hj => by rcases (show j = 0 ∨ j = 1 ∨ j = 2 ∨ j = 3 by omega) with rfl | rfl | rfl | rfl <;> rfl) (by show 0 + 1 ≤ 8 * (n - i) + 8; omega) (by show 0 + 4 ≤ 64 * (n - i) + 80; omega) d_QueryReader_operand_103 (fun ov H hP hD hS => ?_)
          have hz_ov := newB (X := [(qr, .inr (5, [.ref h0, .int (nI o)])), (h0, .inr (8, [.ref qb, .ref qu, .int uc, .int ln, .int (nI n), .int (nI i), .int pl])), (qb, .inl (cB, 4096, .inl bf)), (qu, .inl (cI, 4096, .inl ug))]) hAe hD (fun k x hk => by rcases k with _ | _ | _ | _ | k; (· cases hk; exact ⟨0, _, rfl⟩); (· cases hk; exact ⟨1, _, rfl⟩); (· cases hk; exact ⟨2, _, rfl⟩); (· cases hk; exact ⟨3, _, rfl⟩); (· cases hk))
          have hP := hP.swap
          have hD := hD.swap
          have hP : va_P (dC, dI) classes ([(qr, .inr (5, [.ref h0, .int (nI o)])), (h0, .inr (8, [.ref qb, .ref qu, .int uc, .int ln, .int (nI n), .int (nI i), .int pl])), (qb, .inl (cB, 4096, .inl bf)), (qu, .inl (cI, 4096, .inl ug)), (ov, .inr (2, [.int 0, .null, .null, .null]))] ++ va_pl ((L ++ [])) f) H := hP
          have hD : va_D A ([(qr, .inr (5, [.ref h0, .int (nI o)])), (h0, .inr (8, [.ref qb, .ref qu, .int uc, .int ln, .int (nI n), .int (nI i), .int pl])), (qb, .inl (cB, 4096, .inl bf)), (qu, .inl (cI, 4096, .inl ug)), (ov, .inr (2, [.int 0, .null, .null, .null]))] ++ va_pl ((L ++ [])) f) := hD
          refine lv_dup hx hb d_QueryReader_operand_106 rfl ?_
          refine lv_iconst (v := 1) hx hb d_QueryReader_operand_107 (by decide) ?_
          refine lv_null hx hb d_QueryReader_operand_108 ?_
          have hPc := hP.sub (ws' := [(ov, .inr (2, [.int 0, .null, .null, .null]))]) [4] rfl
          have hDc := hD.sub (ws' := [(ov, .inr (2, [.int 0, .null, .null, .null]))]) [4] (by decide) rfl
          have hFc := va_free (wc := [(ov, .inr (2, [.int 0, .null, .null, .null]))]) hD hS hA [4] rfl
          have hKc := hK.sub (tys' := []) [] rfl
          refine w_same (fun hq0 => ?_)
          refine va_callv (va_runI (As := [.int 1, .null]) (rest := [.ref ov, .ref (K 9).1, .ref qr]) ⟨hx, hb, hml, hown, hts⟩ (c_Operand_init l dC dI H ov 1 none) (cwI 2 hts (gt_code i_Operand_init) rfl rfl rfl (hts _ z_27) (hts _ z_722) (hts _ z_723) rfl (by decide +kernel) ⟨by show 1 + 1 ≤ 12 * (16 - o) + 16; omega, by show 8 + (3 + 11) + (20) ≤ 360 * (16 - o) + 480; omega⟩) ⟨mp_blind, fun U hU hW => ⟨rfl, hU, by rw [hU]; exact hPc, va_K.moved hW.alike hKc, hDc.weaken (fun _ _ _ _ => trivial)⟩⟩ rfl rfl hl.1 rfl (lv_room (Nat.le_of_ble_eq_true rfl)) d_QueryReader_operand_109 ⟨by show (0 + 1) + (0) ≤ 8 * (n - i) + 8; omega, by show (0 + 4) + (0) ≤ 64 * (n - i) + 80; omega⟩) hS (fun q _ h => hFc q h) hFc (fun _u t9 H1 locs ht hvm hw hB hz1 hk1 hS => ?_)
          obtain ⟨⟨hP1, hK1, hD1⟩, hz9⟩ := hB
          rw [ht] at hP1
          rw [ht] at hz9
          have hq0 : szk s.heap H1 ((0 + 1)) ((0 + 4)) := (hq0.trans hz9).mono (Nat.le_of_eq (Nat.add_zero _)) (Nat.le_of_eq (Nat.add_zero _))
          refine w_tight hq0 ?_
          obtain ⟨hP, hD⟩ := va_joinQ (wr := [(qr, .inr (5, [.ref h0, .int (nI o)])), (h0, .inr (8, [.ref qb, .ref qu, .int uc, .int ln, .int (nI n), .int (nI i), .int pl])), (qb, .inl (cB, 4096, .inl bf)), (qu, .inl (cI, 4096, .inl ug))]) (w1 := [(ov, .inr (2, [.int 1, .null, .null, .null]))]) hP hD [4] [0, 1, 2, 3] rfl rfl (by decide) (by decide) hk1 hFc hP1 hD1
          generalize H1 = H at hP hS hq0 ⊢
          have hP : va_P (dC, dI) classes ([(qr, .inr (5, [.ref h0, .int (nI o)])), (h0, .inr (8, [.ref qb, .ref qu, .int uc, .int ln, .int (nI n), .int (nI i), .int pl])), (qb, .inl (cB, 4096, .inl bf)), (qu, .inl (cI, 4096, .inl ug)), (ov, .inr (2, [.int 1, .null, .null, .null]))] ++ va_pl ((L ++ [])) f) H := hP
          have hD : va_D A ([(qr, .inr (5, [.ref h0, .int (nI o)])), (h0, .inr (8, [.ref qb, .ref qu, .int uc, .int ln, .int (nI n), .int (nI i), .int pl])), (qb, .inl (cB, 4096, .inl bf)), (qu, .inl (cI, 4096, .inl ug)), (ov, .inr (2, [.int 1, .null, .null, .null]))] ++ va_pl ((L ++ [])) f) := hD
          have hzz25 : s.heap.size ≤ H.size := hS.1
          have hPc := hP.part (cx := [(qr, .inr (5, [.ref h0, .int (nI o)])), (h0, .inr (8, [.ref qb, .ref qu, .int uc, .int ln, .int (nI n), .int (nI i), .int pl])), (qb, .inl (cB, 4096, .inl bf)), (qu, .inl (cI, 4096, .inl ug)), (ov, .inr (2, [.int 1, .null, .null, .null]))]) [0, 1, 2, 3, 4] rfl
          have hDc := hD.part (cx := [(qr, .inr (5, [.ref h0, .int (nI o)])), (h0, .inr (8, [.ref qb, .ref qu, .int uc, .int ln, .int (nI n), .int (nI i), .int pl])), (qb, .inl (cB, 4096, .inl bf)), (qu, .inl (cI, 4096, .inl ug)), (ov, .inr (2, [.int 1, .null, .null, .null]))]) [0, 1, 2, 3, 4] (by decide) rfl
          have hFc := va_freeP (cx := [(qr, .inr (5, [.ref h0, .int (nI o)])), (h0, .inr (8, [.ref qb, .ref qu, .int uc, .int ln, .int (nI n), .int (nI i), .int pl])), (qb, .inl (cB, 4096, .inl bf)), (qu, .inl (cI, 4096, .inl ug)), (ov, .inr (2, [.int 1, .null, .null, .null]))]) hD hS hA [0, 1, 2, 3, 4] rfl
          have hKc := hK.sub (tys' := [(cB, .byte), (cI, .int), (cV, .object "QueryBench$Value")]) [0, 1, 2] rfl
          refine w_same (fun hq0 => ?_)
          refine vx_callr (vx_runV (As := [.ref (K 9).1, .ref ov]) (rest := []) ⟨hx, hb, hml, hown, hts⟩ (c_QR_queryOperand9 l hl9 K dC dI cI cV cB h0 qb qu ln bf n qr hn0 hbf o ho ok orL cmL qyL hok HA H E lv (L ++ []) f i uc pl ug hG0.po (by omega) ov 1 none) (cwV 2 hts (gt_V (own := R_QueryReader) (C := R_QueryReader) (i := 226) (y := y_QueryReader_queryOperand) i_QueryReader_queryOperand z_764 z_766 (gt_sel (y := y_QueryReader_queryOperand) (n := 2) (by decide +kernel)) w_4) rfl rfl rfl (by decide +kernel) ⟨by show 12 * (16 - o) + 13 + 1 ≤ 12 * (16 - o) + 16; omega, by show 8 + (3 + 11) + (360 * (16 - o) + 390) ≤ 360 * (16 - o) + 480; omega⟩) ⟨ml_blind, va_recv hK hP (ci := 5) (q0 := 0) rfl rfl, fun U hU hW => ⟨rfl, ⟨hU, by rw [hU]; exact hPc, va_K.moved hW.alike hKc, hDc.weaken (fun _ _ _ _ => trivial)⟩, hN.warm hW, by rw [hU]; exact ZX.moved' hW.alike (ZX.narrow' (ZX.kept' hZ hS.2.1) hFc), by rw [hU]; exact CE.call hC hS.2.1 hFc hW, va_AO.moved hW.alike hV⟩⟩ rfl rfl hl.1 rfl (lv_room (Nat.le_of_ble_eq_true rfl)) d_QueryReader_operand_112 ⟨by show (0 + 1) + (8 * (n - i) + 4) ≤ 8 * (n - i) + 8; omega, by show (0 + 4) + (64 * (n - i) + 60) ≤ 64 * (n - i) + 80; omega⟩) hS (fun q _ h => hFc q h) hFc (fun q _ h => hFc q h) (fun En ce q9 ⟨ax, cx, px, gx, ox⟩ t9 H1 locs ht hvm hw hB hz1 hk1 hS hce hcv hcl => ?_) (fun ⟨v25, p25, N25, E25, f25, uc25, ug25⟩ rr t9 H1 locs ht hvm hw hB hz1 hk1 hS => ?_)
          · obtain ⟨hEn, hP1, hK1, hD1⟩ := hB
            rw [ht] at hP1
            obtain ⟨hP, hD⟩ := va_joinP (wr := []) (rx := [(qr, .inr (5, [.ref h0, .int ox])), (h0, .inr (8, [.ref qb, .ref qu, .int cx, .int ln, .int (nI n), .int ax, .int px])), (qb, .inl (cB, 4096, .inl bf)), (qu, .inl (cI, 4096, .inl gx))]) (pl1 := va_pl ((L ++ [])) f) hP hD [0, 1, 2, 3, 4] [] rfl rfl (by decide) (by decide) hk1 hFc hP1 hD1
            generalize H1 = H at hP hS hce ⊢
            have hP : va_P (dC, dI) classes ([(qr, .inr (5, [.ref h0, .int ox])), (h0, .inr (8, [.ref qb, .ref qu, .int cx, .int ln, .int (nI n), .int ax, .int px])), (qb, .inl (cB, 4096, .inl bf)), (qu, .inl (cI, 4096, .inl gx))] ++ va_pl ((L ++ [])) f) H := hP
            have hD : va_D A ([(qr, .inr (5, [.ref h0, .int ox])), (h0, .inr (8, [.ref qb, .ref qu, .int cx, .int ln, .int (nI n), .int ax, .int px])), (qb, .inl (cB, 4096, .inl bf)), (qu, .inl (cI, 4096, .inl gx))] ++ va_pl ((L ++ [])) f) := hD
            have hP := plP_cut (hP.part (cx := [(qr, .inr (5, [.ref h0, .int ox])), (h0, .inr (8, [.ref qb, .ref qu, .int cx, .int ln, .int (nI n), .int ax, .int px])), (qb, .inl (cB, 4096, .inl bf)), (qu, .inl (cI, 4096, .inl gx))]) [0, 1, 2, 3] rfl) hG0.on
            have hD := plD_cut (hD.part (cx := [(qr, .inr (5, [.ref h0, .int ox])), (h0, .inr (8, [.ref qb, .ref qu, .int cx, .int ln, .int (nI n), .int ax, .int px])), (qb, .inl (cB, 4096, .inl bf)), (qu, .inl (cI, 4096, .inl gx))]) [0, 1, 2, 3] (by decide) rfl) hG0.on
            have hno : (opD bf n ok orL cmL qyL) i = none := (opD_v (h_h21.symm.trans hs37_2)).trans (mp_none hw)
            exact vx_out (fun x hx => (hex x hx).elim) hlocks hce hcv hcl (fun t9 ht2 ha => ⟨(ax, cx, px, gx, ox), hno, ⟨hEn, by rw [ht2]; exact hP, va_K.moved ha hK, hD⟩, hS.F ht2⟩) hS.2.2 (by show (0 + 1) + (8 * (n - i) + 4) ≤ 8 * (n - i) + 8; omega) (by show (0 + 4) + (64 * (n - i) + 60) ≤ 64 * (n - i) + 80; omega)
          · obtain ⟨⟨hP1, hK1, hD1⟩, hz9, ha9⟩ := hB
            rw [ht] at hP1
            rw [ht] at hz9
            have ha9 : ov = rr := ha9.symm
            subst ha9
            have hq0 : szk s.heap H1 ((0 + 1) + 8 * (p25 - i)) ((0 + 4) + 64 * (p25 - i)) := (hq0.trans hz9).mono (Nat.le_refl _) (Nat.le_refl _)
            refine w_tight hq0 ?_
            obtain ⟨hP, hD⟩ := va_joinP (wr := []) (rx := [(qr, .inr (5, [.ref h0, .int (nI o)])), (h0, .inr (8, [.ref qb, .ref qu, .int uc25, .int ln, .int (nI n), .int (nI p25), .int pl])), (qb, .inl (cB, 4096, .inl bf)), (qu, .inl (cI, 4096, .inl ug25)), (ov, .inr (2, [.int 1, .null, .ref v25, .null]))]) (pl1 := va_pl (((L ++ []) ++ N25)) f25) hP hD [0, 1, 2, 3, 4] [] rfl rfl (by decide) (by decide) hk1 hFc hP1 hD1
            generalize H1 = H at hP hS hq0 ⊢
            have hP : va_P (dC, dI) classes ([(qr, .inr (5, [.ref h0, .int (nI o)])), (h0, .inr (8, [.ref qb, .ref qu, .int uc25, .int ln, .int (nI n), .int (nI p25), .int pl])), (qb, .inl (cB, 4096, .inl bf)), (qu, .inl (cI, 4096, .inl ug25)), (ov, .inr (2, [.int 1, .null, .ref v25, .null]))] ++ va_pl (((L ++ []) ++ N25)) f25) H := hP
            have hD : va_D A ([(qr, .inr (5, [.ref h0, .int (nI o)])), (h0, .inr (8, [.ref qb, .ref qu, .int uc25, .int ln, .int (nI n), .int (nI p25), .int pl])), (qb, .inl (cB, 4096, .inl bf)), (qu, .inl (cI, 4096, .inl ug25)), (ov, .inr (2, [.int 1, .null, .ref v25, .null]))] ++ va_pl (((L ++ []) ++ N25)) f25) := hD
            obtain ⟨hw, m25, hf25, hd25⟩ := hw
            have hf25 : fnD bf n 9 5 ok (anyD bf n qyL) i = some (p25, m25) := hf25
            have hd25 : DNx QD 0 E E25 f25 v25 m25 := hd25
            have hQ25 : QPn cI cV E (L ++ []) f i n _ 7 (5 * (16 - o)) 0 v25 p25 N25 E25 f25 := hw
            obtain ⟨lv25, hg25, hlv25⟩ := hQ25.x lv hG0.po _ (Nat.le_refl _)
            have hkp25 : KPx E E25 f f25 := KPx.of hg25 hG0.po
            have hnv25 : E v25 = 0 := hQ25.new
            have hsv25 : ¬ E25 v25 = 0 := by rw [hQ25.so]; decide
            have hG25 := hG0.tr hg25 hzz25
            have hex25 := hg25.ex
            obtain ⟨ha25, hb25⟩ := hQ25.num
            have ha25 : i + 0 ≤ p25 := ha25
            have hb25 : p25 ≤ n := hb25
            rw [List.append_assoc] at hP hD
            have hP : va_P (dC, dI) classes ([(qr, .inr (5, [.ref h0, .int (nI o)])), (h0, .inr (8, [.ref qb, .ref qu, .int uc25, .int ln, .int (nI n), .int (nI p25), .int pl])), (qb, .inl (cB, 4096, .inl bf)), (qu, .inl (cI, 4096, .inl ug25)), (ov, .inr (2, [.int 1, .null, .ref v25, .null]))] ++ va_pl ((L ++ ([] ++ N25))) f25) H := hP
            have hD : va_D A ([(qr, .inr (5, [.ref h0, .int (nI o)])), (h0, .inr (8, [.ref qb, .ref qu, .int uc25, .int ln, .int (nI n), .int (nI p25), .int pl])), (qb, .inl (cB, 4096, .inl bf)), (qu, .inl (cI, 4096, .inl ug25)), (ov, .inr (2, [.int 1, .null, .ref v25, .null]))] ++ va_pl ((L ++ ([] ++ N25))) f25) := hD
            have hL_ov := plD_new (X := [(qr, .inr (5, [.ref h0, .int (nI o)])), (h0, .inr (8, [.ref qb, .ref qu, .int uc25, .int ln, .int (nI n), .int (nI p25), .int pl])), (qb, .inl (cB, 4096, .inl bf)), (qu, .inl (cI, 4096, .inl ug25))]) hD
            have h0_ov : E25 ov = 0 := Classical.byContradiction (fun h => hL_ov (hG25.po.inL h))
            have hE_ov : E ov = 0 := hG25.ex.z h0_ov
            have hP := plP_push (X := [(qr, .inr (5, [.ref h0, .int (nI o)])), (h0, .inr (8, [.ref qb, .ref qu, .int uc25, .int ln, .int (nI n), .int (nI p25), .int pl])), (qb, .inl (cB, 4096, .inl bf)), (qu, .inl (cI, 4096, .inl ug25))]) hP hL_ov
            have hD := plD_push (X := [(qr, .inr (5, [.ref h0, .int (nI o)])), (h0, .inr (8, [.ref qb, .ref qu, .int uc25, .int ln, .int (nI n), .int (nI p25), .int pl])), (qb, .inl (cB, 4096, .inl bf)), (qu, .inl (cI, 4096, .inl ug25))]) hD hL_ov
            rw [List.append_assoc] at hP hD
            have hQ_ov : QPn cI cV E L f i n s.heap.size 11 (5 * (16 - o) + 1) 0 ov p25 (([] ++ N25) ++ [ov]) (va_up E25 ov 11) (va_up f25 ov (oE 1 none (some v25) none)) := by
              refine ⟨hE_ov, va_up_self _ _ _, by omega, by omega, fun lv hO b hb => ?_⟩
              have g0 : QG cI cV E lv L f i n i s.heap.size [] E lv f := (QG.rf hO hi9).mv (by omega) (by omega)
              obtain ⟨lv1, g1, c1⟩ := hQ25.x lv g0.po (b - 1) (by omega)
              have g1 := g0.tr g1 hzz25
              have hvs25 : v25 ≠ ov := fun e => by have h9 := hQ25.so; rw [e, h0_ov] at h9; cases h9
              exact ⟨va_up lv1 ov b, g1.add (q := ov) (s := 11) (b := b) (e := oE 1 none (some v25) none) h0_ov hL_ov hz_ov (by decide) (by decide) (CO.O (va_up_self _ _ _) ⟨_, _, _, _, rfl, ⟨(fun b h => (nomatch h)), (fun b9 h => by cases h; exact ⟨(va_up_ne _ _ hvs25).trans hQ25.so, by rw [va_up_ne _ _ hvs25, va_up_self]; have := c1; omega⟩), (fun b h => (nomatch h)), (fun _ h => by cases h), fun h => absurd h (by decide), fun h => absurd h (by decide)⟩⟩), va_up_self _ _ _⟩
            have hP : va_P (dC, dI) classes ([(qr, .inr (5, [.ref h0, .int (nI o)])), (h0, .inr (8, [.ref qb, .ref qu, .int uc25, .int ln, .int (nI n), .int (nI p25), .int pl])), (qb, .inl (cB, 4096, .inl bf)), (qu, .inl (cI, 4096, .inl ug25))] ++ va_pl ((L ++ (([] ++ N25) ++ [ov]))) ((va_up f25 ov (oE 1 none (some v25) none)))) H := hP
            have hD : va_D A ([(qr, .inr (5, [.ref h0, .int (nI o)])), (h0, .inr (8, [.ref qb, .ref qu, .int uc25, .int ln, .int (nI n), .int (nI p25), .int pl])), (qb, .inl (cB, 4096, .inl bf)), (qu, .inl (cI, 4096, .inl ug25))] ++ va_pl ((L ++ (([] ++ N25) ++ [ov]))) ((va_up f25 ov (oE 1 none (some v25) none)))) := hD
            have hQr : QPn cI cV E L f i n s.heap.size 11 (5 * (16 - o) + 1) 0 ov p25 ((([] ++ N25) ++ [ov])) ((va_up E25 ov 11)) ((va_up f25 ov (oE 1 none (some v25) none))) := hQ_ov
            have hfin : (opD bf n ok orL cmL qyL) i = some (p25, onlO m25) := (opD_v (h_h21.symm.trans hs37_2)).trans (mp_some hf25)
            have hdn : DNx OD 0 E ((va_up E25 ov 11)) ((va_up f25 ov (oE 1 none (some v25) none))) ov (onlO m25) := DNx.onl hd25 hnv25 hsv25 h0_ov
            refine w_same (fun hq => ?_)
            refine W.widen (k := 8 * (n - i) + 8) (n := 64 * (n - i) + 80) (by show ((0 + 1) + 8 * (p25 - i)) ≤ 8 * (n - i) + 8; omega) (by show ((0 + 4) + 64 * (p25 - i)) ≤ 64 * (n - i) + 80; omega) ?_
            refine vx_ret ?_
            exact W.aret (v := .ref ov) hx hb hr (Or.inl ⟨_, rfl⟩) (Or.inr ⟨_, rfl⟩) (fun t9 ht hW => ⟨⟨(ov, p25, (([] ++ N25) ++ [ov]), (va_up E25 ov 11), (va_up f25 ov (oE 1 none (some v25) none)), uc25, ug25), ov, rfl, ⟨hQr, _, hfin, hdn⟩, ⟨by rw [ht]; exact hP, va_K.moved hW.alike hK, hD⟩, by rw [ht]; exact ⟨hq.mono (by show ((0 + 1) + 8 * (p25 - i)) ≤ 8 * (p25 - i) + 3 - 0; omega) (by show ((0 + 4) + 64 * (p25 - i)) ≤ 64 * (p25 - i) + 14 - 0; omega), rfl⟩⟩, hS.F ht⟩) hS.2.2 d_QueryReader_operand_115
        · have hk37_0 := i_neN 99 rfl hs37_0
          have hk37_1 := i_neN 108 rfl hs37_1
          have hk37_2 := i_neN 118 rfl hs37_2
          refine lv_lookup (tgt := 116) (off := 79) hx hb d_QueryReader_operand_37 (by decide) (by simp [Op.lookupswitch.offset, Ne.symm hk37_0, hk37_0, Ne.symm hk37_1, hk37_1, Ne.symm hk37_2, hk37_2]) (by decide) ?_
          refine va_new (ci := 2) (fs := [.int 0, .null, .null, .null]) (C := R_Operand) (T := F_Operand) (N := 4) hx hb hts in_Operand t_Operand t_Operand_ok hown (hts _ z_720) (hts _ z_721) (hts _ z_27) hK hP hD hS hA rfl (fun j hj => by rcases (show j = 0 ∨ j = 1 ∨ j = 2 ∨ j = 3 by omega) with rfl | rfl | rfl | rfl <;> rfl) (by show 0 + 1 ≤ 8 * (n - i) + 8; omega) (by show 0 + 4 ≤ 64 * (n - i) + 80; omega) d_QueryReader_operand_116 (fun ov H hP hD hS => ?_)
          have hz_ov := newB (X := [(qr, .inr (5, [.ref h0, .int (nI o)])), (h0, .inr (8, [.ref qb, .ref qu, .int uc, .int ln, .int (nI n), .int (nI i), .int pl])), (qb, .inl (cB, 4096, .inl bf)), (qu, .inl (cI, 4096, .inl ug))]) hAe hD (fun k x hk => by rcases k with _ | _ | _ | _ | k; (· cases hk; exact ⟨0, _, rfl⟩); (· cases hk; exact ⟨1, _, rfl⟩); (· cases hk; exact ⟨2, _, rfl⟩); (· cases hk; exact ⟨3, _, rfl⟩); (· cases hk))
          have hP := hP.swap
          have hD := hD.swap
          have hP : va_P (dC, dI) classes ([(qr, .inr (5, [.ref h0, .int (nI o)])), (h0, .inr (8, [.ref qb, .ref qu, .int uc, .int ln, .int (nI n), .int (nI i), .int pl])), (qb, .inl (cB, 4096, .inl bf)), (qu, .inl (cI, 4096, .inl ug)), (ov, .inr (2, [.int 0, .null, .null, .null]))] ++ va_pl ((L ++ [])) f) H := hP
          have hD : va_D A ([(qr, .inr (5, [.ref h0, .int (nI o)])), (h0, .inr (8, [.ref qb, .ref qu, .int uc, .int ln, .int (nI n), .int (nI i), .int pl])), (qb, .inl (cB, 4096, .inl bf)), (qu, .inl (cI, 4096, .inl ug)), (ov, .inr (2, [.int 0, .null, .null, .null]))] ++ va_pl ((L ++ [])) f) := hD
          refine lv_dup hx hb d_QueryReader_operand_119 rfl ?_
          refine lv_iconst (v := 0) hx hb d_QueryReader_operand_120 (by decide) ?_
          refine lv_aload_n hx hb d_QueryReader_operand_121 rfl (lv_at hl 1 rfl) ?_
          have hG26 := hG0.mv (show i ≤ i by omega) (show i ≤ n by omega)
          have hzz26 : s.heap.size ≤ H.size := hS.1
          have hPc := hP.part (cx := [(qr, .inr (5, [.ref h0, .int (nI o)])), (h0, .inr (8, [.ref qb, .ref qu, .int uc, .int ln, .int (nI n), .int (nI i), .int pl])), (qb, .inl (cB, 4096, .inl bf)), (qu, .inl (cI, 4096, .inl ug))]) [0, 1, 2, 3] rfl
          have hDc := hD.part (cx := [(qr, .inr (5, [.ref h0, .int (nI o)])), (h0, .inr (8, [.ref qb, .ref qu, .int uc, .int ln, .int (nI n), .int (nI i), .int pl])), (qb, .inl (cB, 4096, .inl bf)), (qu, .inl (cI, 4096, .inl ug))]) [0, 1, 2, 3] (by decide) rfl
          have hFc := va_freeP (cx := [(qr, .inr (5, [.ref h0, .int (nI o)])), (h0, .inr (8, [.ref qb, .ref qu, .int uc, .int ln, .int (nI n), .int (nI i), .int pl])), (qb, .inl (cB, 4096, .inl bf)), (qu, .inl (cI, 4096, .inl ug))]) hD hS hA [0, 1, 2, 3] rfl
          have hKc := hK.sub (tys' := [(cB, .byte), (cI, .int), (cV, .object "QueryBench$Value")]) [0, 1, 2] rfl
          refine w_same (fun hq0 => ?_)
          refine vx_callr (vx_runV (As := []) (rest := [.int 0, .ref ov, .ref ov]) ⟨hx, hb, hml, hown, hts⟩ (HWr H E lv (L ++ []) f i uc pl ug hG26.po (by omega)) (cwV 0 hts (gt_V (own := R_QueryReader) (C := R_QueryReader) (i := 232) (y := y_QueryReader_written) i_QueryReader_written z_769 z_771 (gt_sel (y := y_QueryReader_written) (n := 2) (by decide +kernel)) w_4) rfl rfl rfl (by decide +kernel) ⟨by show 12 * (16 - o) + 12 + 1 ≤ 12 * (16 - o) + 16; omega, by show 8 + (3 + 11) + (360 * (16 - o) + 360) ≤ 360 * (16 - o) + 480; omega⟩) ⟨ml_blind, va_recv hK hP (ci := 5) (q0 := 0) rfl rfl, fun U hU hW => ⟨rfl, ⟨hU, by rw [hU]; exact hPc, va_K.moved hW.alike hKc, hDc.weaken (fun _ _ _ _ => trivial)⟩, hN.warm hW, by rw [hU]; exact ZX.moved' hW.alike (ZX.narrow' (ZX.kept' hZ hS.2.1) hFc), by rw [hU]; exact CE.call hC hS.2.1 hFc hW, va_AO.moved hW.alike hV⟩⟩ rfl rfl hl.1 rfl (lv_room (Nat.le_of_ble_eq_true rfl)) d_QueryReader_operand_122 ⟨by show (0 + 1) + (8 * (n - i) + 4) ≤ 8 * (n - i) + 8; omega, by show (0 + 4) + (64 * (n - i) + 40) ≤ 64 * (n - i) + 80; omega⟩) hS (fun q _ h => hFc q h) hFc (fun q _ h => hFc q h) (fun En ce q9 ⟨ax, cx, px, gx, ox⟩ t9 H1 locs ht hvm hw hB hz1 hk1 hS hce hcv hcl => ?_) (fun ⟨w26, p26, N26, E26, f26, uc26, ug26⟩ v26 t9 H1 locs ht hvm hw hB hz1 hk1 hS => ?_)
          · obtain ⟨hEn, hP1, hK1, hD1⟩ := hB
            rw [ht] at hP1
            obtain ⟨hP, hD⟩ := va_joinP (wr := [(ov, .inr (2, [.int 0, .null, .null, .null]))]) (rx := [(qr, .inr (5, [.ref h0, .int ox])), (h0, .inr (8, [.ref qb, .ref qu, .int cx, .int ln, .int (nI n), .int ax, .int px])), (qb, .inl (cB, 4096, .inl bf)), (qu, .inl (cI, 4096, .inl gx))]) (pl1 := va_pl ((L ++ [])) f) hP hD [0, 1, 2, 3] [4] rfl rfl (by decide) (by decide) hk1 hFc hP1 hD1
            generalize H1 = H at hP hS hce ⊢
            have hP : va_P (dC, dI) classes ([(ov, .inr (2, [.int 0, .null, .null, .null])), (qr, .inr (5, [.ref h0, .int ox])), (h0, .inr (8, [.ref qb, .ref qu, .int cx, .int ln, .int (nI n), .int ax, .int px])), (qb, .inl (cB, 4096, .inl bf)), (qu, .inl (cI, 4096, .inl gx))] ++ va_pl ((L ++ [])) f) H := hP
            have hD : va_D A ([(ov, .inr (2, [.int 0, .null, .null, .null])), (qr, .inr (5, [.ref h0, .int ox])), (h0, .inr (8, [.ref qb, .ref qu, .int cx, .int ln, .int (nI n), .int ax, .int px])), (qb, .inl (cB, 4096, .inl bf)), (qu, .inl (cI, 4096, .inl gx))] ++ va_pl ((L ++ [])) f) := hD
            have hP := hP.part (cx := [(qr, .inr (5, [.ref h0, .int ox])), (h0, .inr (8, [.ref qb, .ref qu, .int cx, .int ln, .int (nI n), .int ax, .int px])), (qb, .inl (cB, 4096, .inl bf)), (qu, .inl (cI, 4096, .inl gx)), (ov, .inr (2, [.int 0, .null, .null, .null]))]) [1, 2, 3, 4, 0] rfl
            have hD := hD.part (cx := [(qr, .inr (5, [.ref h0, .int ox])), (h0, .inr (8, [.ref qb, .ref qu, .int cx, .int ln, .int (nI n), .int ax, .int px])), (qb, .inl (cB, 4096, .inl bf)), (qu, .inl (cI, 4096, .inl gx)), (ov, .inr (2, [.int 0, .null, .null, .null]))]) [1, 2, 3, 4, 0] (by decide) rfl
            have hP := plP_cut (hP.part (cx := [(qr, .inr (5, [.ref h0, .int ox])), (h0, .inr (8, [.ref qb, .ref qu, .int cx, .int ln, .int (nI n), .int ax, .int px])), (qb, .inl (cB, 4096, .inl bf)), (qu, .inl (cI, 4096, .inl gx))]) [0, 1, 2, 3] rfl) hG26.on
            have hD := plD_cut (hD.part (cx := [(qr, .inr (5, [.ref h0, .int ox])), (h0, .inr (8, [.ref qb, .ref qu, .int cx, .int ln, .int (nI n), .int ax, .int px])), (qb, .inl (cB, 4096, .inl bf)), (qu, .inl (cI, 4096, .inl gx))]) [0, 1, 2, 3] (by decide) rfl) hG26.on
            have hno : (opD bf n ok orL cmL qyL) i = none := (opD_w hnot (fun q => hs37_1 (h_h21.trans q)) (fun q => hs37_0 (h_h21.trans q)) (fun q => hs37_2 (h_h21.trans q))).trans (mp_none hw)
            exact vx_out (fun x hx => (hex x hx).elim) hlocks hce hcv hcl (fun t9 ht2 ha => ⟨(ax, cx, px, gx, ox), hno, ⟨hEn, by rw [ht2]; exact hP, va_K.moved ha hK, hD⟩, hS.F ht2⟩) hS.2.2 (by show (0 + 1) + (8 * (n - i) + 4) ≤ 8 * (n - i) + 8; omega) (by show (0 + 4) + (64 * (n - i) + 40) ≤ 64 * (n - i) + 80; omega)
          · obtain ⟨⟨hP1, hK1, hD1⟩, hz9, ha9⟩ := hB
            rw [ht] at hP1
            rw [ht] at hz9
            have ha9 : v26 = w26 := ha9
            subst ha9
            have hq0 : szk s.heap H1 ((0 + 1) + (8 * (p26 - i) + 2 - 0)) ((0 + 4) + (64 * (p26 - i) + 10 - 0)) := (hq0.trans hz9).mono (Nat.le_refl _) (Nat.le_refl _)
            refine w_tight hq0 ?_
            obtain ⟨hP, hD⟩ := va_joinP (wr := [(ov, .inr (2, [.int 0, .null, .null, .null]))]) (rx := [(qr, .inr (5, [.ref h0, .int (nI o)])), (h0, .inr (8, [.ref qb, .ref qu, .int uc26, .int ln, .int (nI n), .int (nI p26), .int pl])), (qb, .inl (cB, 4096, .inl bf)), (qu, .inl (cI, 4096, .inl ug26))]) (pl1 := va_pl (((L ++ []) ++ N26)) f26) hP hD [0, 1, 2, 3] [4] rfl rfl (by decide) (by decide) hk1 hFc hP1 hD1
            generalize H1 = H at hP hS hq0 ⊢
            have hP : va_P (dC, dI) classes ([(ov, .inr (2, [.int 0, .null, .null, .null])), (qr, .inr (5, [.ref h0, .int (nI o)])), (h0, .inr (8, [.ref qb, .ref qu, .int uc26, .int ln, .int (nI n), .int (nI p26), .int pl])), (qb, .inl (cB, 4096, .inl bf)), (qu, .inl (cI, 4096, .inl ug26))] ++ va_pl (((L ++ []) ++ N26)) f26) H := hP
            have hD : va_D A ([(ov, .inr (2, [.int 0, .null, .null, .null])), (qr, .inr (5, [.ref h0, .int (nI o)])), (h0, .inr (8, [.ref qb, .ref qu, .int uc26, .int ln, .int (nI n), .int (nI p26), .int pl])), (qb, .inl (cB, 4096, .inl bf)), (qu, .inl (cI, 4096, .inl ug26))] ++ va_pl (((L ++ []) ++ N26)) f26) := hD
            have hP := hP.part (cx := [(qr, .inr (5, [.ref h0, .int (nI o)])), (h0, .inr (8, [.ref qb, .ref qu, .int uc26, .int ln, .int (nI n), .int (nI p26), .int pl])), (qb, .inl (cB, 4096, .inl bf)), (qu, .inl (cI, 4096, .inl ug26)), (ov, .inr (2, [.int 0, .null, .null, .null]))]) [1, 2, 3, 4, 0] rfl
            have hD := hD.part (cx := [(qr, .inr (5, [.ref h0, .int (nI o)])), (h0, .inr (8, [.ref qb, .ref qu, .int uc26, .int ln, .int (nI n), .int (nI p26), .int pl])), (qb, .inl (cB, 4096, .inl bf)), (qu, .inl (cI, 4096, .inl ug26)), (ov, .inr (2, [.int 0, .null, .null, .null]))]) [1, 2, 3, 4, 0] (by decide) rfl
            obtain ⟨hw, m26, hf26, hd26⟩ := hw
            have hf26 : (wrD bf n) i = some (p26, m26) := hf26
            have hd26 : DNx LTv 0 E E26 f26 v26 m26 := hd26
            have hQ26 : QPn cI cV E (L ++ []) f i n _ 2 (5 * (16 - o)) 0 v26 p26 N26 E26 f26 := hw
            obtain ⟨lv26, hg26, hlv26⟩ := hQ26.x lv hG26.po _ (Nat.le_refl _)
            have hex26 := hg26.ex
            have hge26 := hg26.ge hQ26.new (by rw [hQ26.so]; decide)
            have hkp26 : KPx E E26 f f26 := KPx.of hg26 hG26.po
            have hnv26 : E v26 = 0 := hQ26.new
            have hsv26 : ¬ E26 v26 = 0 := by rw [hQ26.so]; decide
            have hG26 := hG26.tr hg26 hzz26
            obtain ⟨ha26, hb26⟩ := hQ26.num
            have ha26 : i + 0 ≤ p26 := ha26
            have hb26 : p26 ≤ n := hb26
            rw [List.append_assoc] at hP hD
            have hP : va_P (dC, dI) classes ([(qr, .inr (5, [.ref h0, .int (nI o)])), (h0, .inr (8, [.ref qb, .ref qu, .int uc26, .int ln, .int (nI n), .int (nI p26), .int pl])), (qb, .inl (cB, 4096, .inl bf)), (qu, .inl (cI, 4096, .inl ug26)), (ov, .inr (2, [.int 0, .null, .null, .null]))] ++ va_pl ((L ++ ([] ++ N26))) f26) H := hP
            have hD : va_D A ([(qr, .inr (5, [.ref h0, .int (nI o)])), (h0, .inr (8, [.ref qb, .ref qu, .int uc26, .int ln, .int (nI n), .int (nI p26), .int pl])), (qb, .inl (cB, 4096, .inl bf)), (qu, .inl (cI, 4096, .inl ug26)), (ov, .inr (2, [.int 0, .null, .null, .null]))] ++ va_pl ((L ++ ([] ++ N26))) f26) := hD
            have hPc := hP.sub (ws' := [(ov, .inr (2, [.int 0, .null, .null, .null]))]) [4] rfl
            have hDc := hD.sub (ws' := [(ov, .inr (2, [.int 0, .null, .null, .null]))]) [4] (by decide) rfl
            have hFc := va_free (wc := [(ov, .inr (2, [.int 0, .null, .null, .null]))]) hD hS hA [4] rfl
            have hKc := hK.sub (tys' := []) [] rfl
            refine w_same (fun hq0 => ?_)
            refine va_callv (va_runI (As := [.int 0, .ref v26]) (rest := [.ref ov]) ⟨hx, hb, hml, hown, hts⟩ (c_Operand_init l dC dI H ov 0 (some v26)) (cwI 2 hts (gt_code i_Operand_init) rfl rfl rfl (hts _ z_27) (hts _ z_722) (hts _ z_723) rfl (by decide +kernel) ⟨by show 1 + 1 ≤ 12 * (16 - o) + 16; omega, by show 8 + (3 + 11) + (20) ≤ 360 * (16 - o) + 480; omega⟩) ⟨mp_blind, fun U hU hW => ⟨rfl, hU, by rw [hU]; exact hPc, va_K.moved hW.alike hKc, hDc.weaken (fun _ _ _ _ => trivial)⟩⟩ rfl rfl hl.1 rfl (lv_room (Nat.le_of_ble_eq_true rfl)) d_QueryReader_operand_125 ⟨by show ((0 + 1) + (8 * (p26 - i) + 2 - 0)) + (0) ≤ 8 * (n - i) + 8; omega, by show ((0 + 4) + (64 * (p26 - i) + 10 - 0)) + (0) ≤ 64 * (n - i) + 80; omega⟩) hS (fun q _ h => hFc q h) hFc (fun _u t9 H1 locs ht hvm hw hB hz1 hk1 hS => ?_)
            obtain ⟨⟨hP1, hK1, hD1⟩, hz9⟩ := hB
            rw [ht] at hP1
            rw [ht] at hz9
            have hq0 : szk s.heap H1 (((0 + 1) + (8 * (p26 - i) + 2 - 0))) (((0 + 4) + (64 * (p26 - i) + 10 - 0))) := (hq0.trans hz9).mono (Nat.le_of_eq (Nat.add_zero _)) (Nat.le_of_eq (Nat.add_zero _))
            refine w_tight hq0 ?_
            obtain ⟨hP, hD⟩ := va_joinQ (wr := [(qr, .inr (5, [.ref h0, .int (nI o)])), (h0, .inr (8, [.ref qb, .ref qu, .int uc26, .int ln, .int (nI n), .int (nI p26), .int pl])), (qb, .inl (cB, 4096, .inl bf)), (qu, .inl (cI, 4096, .inl ug26))]) (w1 := [(ov, .inr (2, [.int 0, .ref v26, .null, .null]))]) hP hD [4] [0, 1, 2, 3] rfl rfl (by decide) (by decide) hk1 hFc hP1 hD1
            generalize H1 = H at hP hS hq0 ⊢
            have hP : va_P (dC, dI) classes ([(qr, .inr (5, [.ref h0, .int (nI o)])), (h0, .inr (8, [.ref qb, .ref qu, .int uc26, .int ln, .int (nI n), .int (nI p26), .int pl])), (qb, .inl (cB, 4096, .inl bf)), (qu, .inl (cI, 4096, .inl ug26)), (ov, .inr (2, [.int 0, .ref v26, .null, .null]))] ++ va_pl ((L ++ ([] ++ N26))) f26) H := hP
            have hD : va_D A ([(qr, .inr (5, [.ref h0, .int (nI o)])), (h0, .inr (8, [.ref qb, .ref qu, .int uc26, .int ln, .int (nI n), .int (nI p26), .int pl])), (qb, .inl (cB, 4096, .inl bf)), (qu, .inl (cI, 4096, .inl ug26)), (ov, .inr (2, [.int 0, .ref v26, .null, .null]))] ++ va_pl ((L ++ ([] ++ N26))) f26) := hD
            have hL_ov := plD_new (X := [(qr, .inr (5, [.ref h0, .int (nI o)])), (h0, .inr (8, [.ref qb, .ref qu, .int uc26, .int ln, .int (nI n), .int (nI p26), .int pl])), (qb, .inl (cB, 4096, .inl bf)), (qu, .inl (cI, 4096, .inl ug26))]) hD
            have h0_ov : E26 ov = 0 := Classical.byContradiction (fun h => hL_ov (hG26.po.inL h))
            have hE_ov : E ov = 0 := hG26.ex.z h0_ov
            have hP := plP_push (X := [(qr, .inr (5, [.ref h0, .int (nI o)])), (h0, .inr (8, [.ref qb, .ref qu, .int uc26, .int ln, .int (nI n), .int (nI p26), .int pl])), (qb, .inl (cB, 4096, .inl bf)), (qu, .inl (cI, 4096, .inl ug26))]) hP hL_ov
            have hD := plD_push (X := [(qr, .inr (5, [.ref h0, .int (nI o)])), (h0, .inr (8, [.ref qb, .ref qu, .int uc26, .int ln, .int (nI n), .int (nI p26), .int pl])), (qb, .inl (cB, 4096, .inl bf)), (qu, .inl (cI, 4096, .inl ug26))]) hD hL_ov
            rw [List.append_assoc] at hP hD
            have hQ_ov : QPn cI cV E L f i n s.heap.size 11 (5 * (16 - o) + 1) 0 ov p26 (([] ++ N26) ++ [ov]) (va_up E26 ov 11) (va_up f26 ov (oE 0 (some v26) none none)) := by
              refine ⟨hE_ov, va_up_self _ _ _, by omega, by omega, fun lv hO b hb => ?_⟩
              have g0 : QG cI cV E lv L f i n i s.heap.size [] E lv f := (QG.rf hO hi9).mv (by omega) (by omega)
              obtain ⟨lv1, g1, c1⟩ := hQ26.x lv g0.po (b) (by omega)
              have g1 := g0.tr g1 hzz26
              have hvs26 : v26 ≠ ov := fun e => by have h9 := hQ26.so; rw [e, h0_ov] at h9; cases h9
              exact ⟨va_up lv1 ov b, g1.add (q := ov) (s := 11) (b := b) (e := oE 0 (some v26) none none) h0_ov hL_ov hz_ov (by decide) (by decide) (CO.O (va_up_self _ _ _) ⟨_, _, _, _, rfl, ⟨(fun b9 h => by cases h; exact Or.inl ((va_up_ne _ _ hvs26).trans hQ26.so)), (fun b h => (nomatch h)), (fun b h => (nomatch h)), fun h => absurd h (by decide), fun h => absurd h (by decide), fun h => absurd h (by decide)⟩⟩), va_up_self _ _ _⟩
            have hP : va_P (dC, dI) classes ([(qr, .inr (5, [.ref h0, .int (nI o)])), (h0, .inr (8, [.ref qb, .ref qu, .int uc26, .int ln, .int (nI n), .int (nI p26), .int pl])), (qb, .inl (cB, 4096, .inl bf)), (qu, .inl (cI, 4096, .inl ug26))] ++ va_pl ((L ++ (([] ++ N26) ++ [ov]))) ((va_up f26 ov (oE 0 (some v26) none none)))) H := hP
            have hD : va_D A ([(qr, .inr (5, [.ref h0, .int (nI o)])), (h0, .inr (8, [.ref qb, .ref qu, .int uc26, .int ln, .int (nI n), .int (nI p26), .int pl])), (qb, .inl (cB, 4096, .inl bf)), (qu, .inl (cI, 4096, .inl ug26))] ++ va_pl ((L ++ (([] ++ N26) ++ [ov]))) ((va_up f26 ov (oE 0 (some v26) none none)))) := hD
            have hQr : QPn cI cV E L f i n s.heap.size 11 (5 * (16 - o) + 1) 0 ov p26 ((([] ++ N26) ++ [ov])) ((va_up E26 ov 11)) ((va_up f26 ov (oE 0 (some v26) none none))) := hQ_ov
            have hfin : (opD bf n ok orL cmL qyL) i = some (p26, litO m26) := (opD_w hnot (fun q => hs37_1 (h_h21.trans q)) (fun q => hs37_0 (h_h21.trans q)) (fun q => hs37_2 (h_h21.trans q))).trans (mp_some hf26)
            have hdn : DNx OD 0 E ((va_up E26 ov 11)) ((va_up f26 ov (oE 0 (some v26) none none))) ov (litO m26) := DNx.lit hd26 hnv26 hsv26 h0_ov
            refine w_same (fun hq => ?_)
            refine W.widen (k := 8 * (n - i) + 8) (n := 64 * (n - i) + 80) (by show ((0 + 1) + (8 * (p26 - i) + 2 - 0)) ≤ 8 * (n - i) + 8; omega) (by show ((0 + 4) + (64 * (p26 - i) + 10 - 0)) ≤ 64 * (n - i) + 80; omega) ?_
            refine vx_ret ?_
            exact W.aret (v := .ref ov) hx hb hr (Or.inl ⟨_, rfl⟩) (Or.inr ⟨_, rfl⟩) (fun t9 ht hW => ⟨⟨(ov, p26, (([] ++ N26) ++ [ov]), (va_up E26 ov 11), (va_up f26 ov (oE 0 (some v26) none none)), uc26, ug26), ov, rfl, ⟨hQr, _, hfin, hdn⟩, ⟨by rw [ht]; exact hP, va_K.moved hW.alike hK, hD⟩, by rw [ht]; exact ⟨hq.mono (by show ((0 + 1) + (8 * (p26 - i) + 2 - 0)) ≤ 8 * (p26 - i) + 3 - 0; omega) (by show ((0 + 4) + (64 * (p26 - i) + 10 - 0)) ≤ 64 * (p26 - i) + 14 - 0; omega), rfl⟩⟩, hS.F ht⟩) hS.2.2 d_QueryReader_operand_128
  · have hyes : begC (hereV bf n i) := by rw [← h_h21]; exact h_r22.2.1 c12
    have hbq : i < n := by rcases hyes with h | h <;> exact here_lc h (by decide)
    refine va_new (ci := 2) (fs := [.int 0, .null, .null, .null]) (C := R_Operand) (T := F_Operand) (N := 4) hx hb hts in_Operand t_Operand t_Operand_ok hown (hts _ z_720) (hts _ z_721) (hts _ z_27) hK hP hD hS hA rfl (fun j hj => by rcases (show j = 0 ∨ j = 1 ∨ j = 2 ∨ j = 3 by omega) with rfl | rfl | rfl | rfl <;> rfl) (by show 0 + 1 ≤ 8 * (n - i) + 8; omega) (by show 0 + 4 ≤ 64 * (n - i) + 80; omega) d_QueryReader_operand_15 (fun ov H hP hD hS => ?_)
    have hz_ov := newB (X := [(qr, .inr (5, [.ref h0, .int (nI o)])), (h0, .inr (8, [.ref qb, .ref qu, .int uc, .int ln, .int (nI n), .int (nI i), .int pl])), (qb, .inl (cB, 4096, .inl bf)), (qu, .inl (cI, 4096, .inl ug))]) hAe hD (fun k x hk => by rcases k with _ | _ | _ | _ | k; (· cases hk; exact ⟨0, _, rfl⟩); (· cases hk; exact ⟨1, _, rfl⟩); (· cases hk; exact ⟨2, _, rfl⟩); (· cases hk; exact ⟨3, _, rfl⟩); (· cases hk))
    have hP := hP.swap
    have hD := hD.swap
    have hP : va_P (dC, dI) classes ([(qr, .inr (5, [.ref h0, .int (nI o)])), (h0, .inr (8, [.ref qb, .ref qu, .int uc, .int ln, .int (nI n), .int (nI i), .int pl])), (qb, .inl (cB, 4096, .inl bf)), (qu, .inl (cI, 4096, .inl ug)), (ov, .inr (2, [.int 0, .null, .null, .null]))] ++ va_pl ((L ++ [])) f) H := hP
    have hD : va_D A ([(qr, .inr (5, [.ref h0, .int (nI o)])), (h0, .inr (8, [.ref qb, .ref qu, .int uc, .int ln, .int (nI n), .int (nI i), .int pl])), (qb, .inl (cB, 4096, .inl bf)), (qu, .inl (cI, 4096, .inl ug)), (ov, .inr (2, [.int 0, .null, .null, .null]))] ++ va_pl ((L ++ [])) f) := hD
    refine lv_dup hx hb d_QueryReader_operand_18 rfl ?_
    refine lv_iconst (v := 1) hx hb d_QueryReader_operand_19 (by decide) ?_
    refine lv_null hx hb d_QueryReader_operand_20 ?_
    have hPc := hP.sub (ws' := [(ov, .inr (2, [.int 0, .null, .null, .null]))]) [4] rfl
    have hDc := hD.sub (ws' := [(ov, .inr (2, [.int 0, .null, .null, .null]))]) [4] (by decide) rfl
    have hFc := va_free (wc := [(ov, .inr (2, [.int 0, .null, .null, .null]))]) hD hS hA [4] rfl
    have hKc := hK.sub (tys' := []) [] rfl
    refine w_same (fun hq0 => ?_)
    refine va_callv (va_runI (As := [.int 1, .null]) (rest := [.ref ov]) ⟨hx, hb, hml, hown, hts⟩ (c_Operand_init l dC dI H ov 1 none) (cwI 2 hts (gt_code i_Operand_init) rfl rfl rfl (hts _ z_27) (hts _ z_722) (hts _ z_723) rfl (by decide +kernel) ⟨by show 1 + 1 ≤ 12 * (16 - o) + 16; omega, by show 8 + (3 + 11) + (20) ≤ 360 * (16 - o) + 480; omega⟩) ⟨mp_blind, fun U hU hW => ⟨rfl, hU, by rw [hU]; exact hPc, va_K.moved hW.alike hKc, hDc.weaken (fun _ _ _ _ => trivial)⟩⟩ rfl rfl hl.1 rfl (lv_room (Nat.le_of_ble_eq_true rfl)) d_QueryReader_operand_21 ⟨by show (0 + 1) + (0) ≤ 8 * (n - i) + 8; omega, by show (0 + 4) + (0) ≤ 64 * (n - i) + 80; omega⟩) hS (fun q _ h => hFc q h) hFc (fun _u t9 H1 locs ht hvm hw hB hz1 hk1 hS => ?_)
    obtain ⟨⟨hP1, hK1, hD1⟩, hz9⟩ := hB
    rw [ht] at hP1
    rw [ht] at hz9
    have hq0 : szk s.heap H1 ((0 + 1)) ((0 + 4)) := (hq0.trans hz9).mono (Nat.le_of_eq (Nat.add_zero _)) (Nat.le_of_eq (Nat.add_zero _))
    refine w_tight hq0 ?_
    obtain ⟨hP, hD⟩ := va_joinQ (wr := [(qr, .inr (5, [.ref h0, .int (nI o)])), (h0, .inr (8, [.ref qb, .ref qu, .int uc, .int ln, .int (nI n), .int (nI i), .int pl])), (qb, .inl (cB, 4096, .inl bf)), (qu, .inl (cI, 4096, .inl ug))]) (w1 := [(ov, .inr (2, [.int 1, .null, .null, .null]))]) hP hD [4] [0, 1, 2, 3] rfl rfl (by decide) (by decide) hk1 hFc hP1 hD1
    generalize H1 = H at hP hS hq0 ⊢
    have hP : va_P (dC, dI) classes ([(qr, .inr (5, [.ref h0, .int (nI o)])), (h0, .inr (8, [.ref qb, .ref qu, .int uc, .int ln, .int (nI n), .int (nI i), .int pl])), (qb, .inl (cB, 4096, .inl bf)), (qu, .inl (cI, 4096, .inl ug)), (ov, .inr (2, [.int 1, .null, .null, .null]))] ++ va_pl ((L ++ [])) f) H := hP
    have hD : va_D A ([(qr, .inr (5, [.ref h0, .int (nI o)])), (h0, .inr (8, [.ref qb, .ref qu, .int uc, .int ln, .int (nI n), .int (nI i), .int pl])), (qb, .inl (cB, 4096, .inl bf)), (qu, .inl (cI, 4096, .inl ug)), (ov, .inr (2, [.int 1, .null, .null, .null]))] ++ va_pl ((L ++ [])) f) := hD
    refine lv_astore_n (lv' := [(2, .ref ov), (1, .int h21), (0, .ref qr)]) hx hb d_QueryReader_operand_24 rfl hl (by decide) rfl (fun ls hl => ?_)
    refine lv_aload_n hx hb d_QueryReader_operand_25 rfl (lv_at hl 0 rfl) ?_
    refine lv_aload_n hx hb d_QueryReader_operand_26 rfl (lv_at hl 2 rfl) ?_
    refine lv_iconst (v := 1) hx hb d_QueryReader_operand_27 (by decide) ?_
    have hG27 := hG0.mv (show i ≤ i by omega) (show i ≤ n by omega)
    have hzz27 : s.heap.size ≤ H.size := hS.1
    have hPc := hP.part (cx := [(qr, .inr (5, [.ref h0, .int (nI o)])), (h0, .inr (8, [.ref qb, .ref qu, .int uc, .int ln, .int (nI n), .int (nI i), .int pl])), (qb, .inl (cB, 4096, .inl bf)), (qu, .inl (cI, 4096, .inl ug))]) [0, 1, 2, 3] rfl
    have hDc := hD.part (cx := [(qr, .inr (5, [.ref h0, .int (nI o)])), (h0, .inr (8, [.ref qb, .ref qu, .int uc, .int ln, .int (nI n), .int (nI i), .int pl])), (qb, .inl (cB, 4096, .inl bf)), (qu, .inl (cI, 4096, .inl ug))]) [0, 1, 2, 3] (by decide) rfl
    have hFc := va_freeP (cx := [(qr, .inr (5, [.ref h0, .int (nI o)])), (h0, .inr (8, [.ref qb, .ref qu, .int uc, .int ln, .int (nI n), .int (nI i), .int pl])), (qb, .inl (cB, 4096, .inl bf)), (qu, .inl (cI, 4096, .inl ug))]) hD hS hA [0, 1, 2, 3] rfl
    have hKc := hK.sub (tys' := [(cB, .byte), (cI, .int), (cV, .object "QueryBench$Value")]) [0, 1, 2] rfl
    refine w_same (fun hq0 => ?_)
    refine vx_callr (vx_runV (As := [.int 1]) (rest := [.ref ov]) ⟨hx, hb, hml, hown, hts⟩ ((HQ 1) H E lv (L ++ []) f i uc pl ug hG27.po (by omega)) (cwV 1 hts (gt_V (own := R_QueryReader) (C := R_QueryReader) (i := 32) (y := y_QueryReader_query) i_QueryReader_query z_536 z_538 (gt_sel (y := y_QueryReader_query) (n := 2) (by decide +kernel)) w_4) rfl rfl rfl (by decide +kernel) ⟨by show 12 * (16 - o) + 14 + 1 ≤ 12 * (16 - o) + 16; omega, by show 8 + (5 + 11) + (360 * (16 - o) + 420) ≤ 360 * (16 - o) + 480; omega⟩) ⟨ml_blind, va_recv hK hP (ci := 5) (q0 := 0) rfl rfl, fun U hU hW => ⟨rfl, ⟨hU, by rw [hU]; exact hPc, va_K.moved hW.alike hKc, hDc.weaken (fun _ _ _ _ => trivial)⟩, hN.warm hW, by rw [hU]; exact ZX.moved' hW.alike (ZX.narrow' (ZX.kept' hZ hS.2.1) hFc), by rw [hU]; exact CE.call hC hS.2.1 hFc hW, va_AO.moved hW.alike hV⟩⟩ rfl rfl hl.1 rfl (lv_room (Nat.le_of_ble_eq_true rfl)) d_QueryReader_operand_28 ⟨by show (0 + 1) + (8 * (n - i) + 4) ≤ 8 * (n - i) + 8; omega, by show (0 + 4) + (64 * (n - i) + 50) ≤ 64 * (n - i) + 80; omega⟩) hS (fun q _ h => hFc q h) hFc (fun q _ h => hFc q h) (fun En ce q9 ⟨ax, cx, px, gx, ox⟩ t9 H1 locs ht hvm hw hB hz1 hk1 hS hce hcv hcl => ?_) (fun ⟨w27, p27, N27, E27, f27, uc27, ug27⟩ v27 t9 H1 locs ht hvm hw hB hz1 hk1 hS => ?_)
    · obtain ⟨hEn, hP1, hK1, hD1⟩ := hB
      rw [ht] at hP1
      obtain ⟨hP, hD⟩ := va_joinP (wr := [(ov, .inr (2, [.int 1, .null, .null, .null]))]) (rx := [(qr, .inr (5, [.ref h0, .int ox])), (h0, .inr (8, [.ref qb, .ref qu, .int cx, .int ln, .int (nI n), .int ax, .int px])), (qb, .inl (cB, 4096, .inl bf)), (qu, .inl (cI, 4096, .inl gx))]) (pl1 := va_pl ((L ++ [])) f) hP hD [0, 1, 2, 3] [4] rfl rfl (by decide) (by decide) hk1 hFc hP1 hD1
      generalize H1 = H at hP hS hce ⊢
      have hP : va_P (dC, dI) classes ([(ov, .inr (2, [.int 1, .null, .null, .null])), (qr, .inr (5, [.ref h0, .int ox])), (h0, .inr (8, [.ref qb, .ref qu, .int cx, .int ln, .int (nI n), .int ax, .int px])), (qb, .inl (cB, 4096, .inl bf)), (qu, .inl (cI, 4096, .inl gx))] ++ va_pl ((L ++ [])) f) H := hP
      have hD : va_D A ([(ov, .inr (2, [.int 1, .null, .null, .null])), (qr, .inr (5, [.ref h0, .int ox])), (h0, .inr (8, [.ref qb, .ref qu, .int cx, .int ln, .int (nI n), .int ax, .int px])), (qb, .inl (cB, 4096, .inl bf)), (qu, .inl (cI, 4096, .inl gx))] ++ va_pl ((L ++ [])) f) := hD
      have hP := hP.part (cx := [(qr, .inr (5, [.ref h0, .int ox])), (h0, .inr (8, [.ref qb, .ref qu, .int cx, .int ln, .int (nI n), .int ax, .int px])), (qb, .inl (cB, 4096, .inl bf)), (qu, .inl (cI, 4096, .inl gx)), (ov, .inr (2, [.int 1, .null, .null, .null]))]) [1, 2, 3, 4, 0] rfl
      have hD := hD.part (cx := [(qr, .inr (5, [.ref h0, .int ox])), (h0, .inr (8, [.ref qb, .ref qu, .int cx, .int ln, .int (nI n), .int ax, .int px])), (qb, .inl (cB, 4096, .inl bf)), (qu, .inl (cI, 4096, .inl gx)), (ov, .inr (2, [.int 1, .null, .null, .null]))]) [1, 2, 3, 4, 0] (by decide) rfl
      have hP := plP_cut (hP.part (cx := [(qr, .inr (5, [.ref h0, .int ox])), (h0, .inr (8, [.ref qb, .ref qu, .int cx, .int ln, .int (nI n), .int ax, .int px])), (qb, .inl (cB, 4096, .inl bf)), (qu, .inl (cI, 4096, .inl gx))]) [0, 1, 2, 3] rfl) hG27.on
      have hD := plD_cut (hD.part (cx := [(qr, .inr (5, [.ref h0, .int ox])), (h0, .inr (8, [.ref qb, .ref qu, .int cx, .int ln, .int (nI n), .int ax, .int px])), (qb, .inl (cB, 4096, .inl bf)), (qu, .inl (cI, 4096, .inl gx))]) [0, 1, 2, 3] (by decide) rfl) hG27.on
      have hno : (opD bf n ok orL cmL qyL) i = none := (opD_q hyes).trans (mp_none (qrD_nw1 hw))
      exact vx_out (fun x hx => (hex x hx).elim) hlocks hce hcv hcl (fun t9 ht2 ha => ⟨(ax, cx, px, gx, ox), hno, ⟨hEn, by rw [ht2]; exact hP, va_K.moved ha hK, hD⟩, hS.F ht2⟩) hS.2.2 (by show (0 + 1) + (8 * (n - i) + 4) ≤ 8 * (n - i) + 8; omega) (by show (0 + 4) + (64 * (n - i) + 50) ≤ 64 * (n - i) + 80; omega)
    · obtain ⟨⟨hP1, hK1, hD1⟩, hz9, ha9⟩ := hB
      rw [ht] at hP1
      rw [ht] at hz9
      have ha9 : v27 = w27 := ha9
      subst ha9
      have hq0 : szk s.heap H1 ((0 + 1) + (8 * (p27 - i) + 0 - 7)) ((0 + 4) + (64 * (p27 - i) + 0 - 60)) := (hq0.trans hz9).mono (Nat.le_refl _) (Nat.le_refl _)
      refine w_tight hq0 ?_
      obtain ⟨hP, hD⟩ := va_joinP (wr := [(ov, .inr (2, [.int 1, .null, .null, .null]))]) (rx := [(qr, .inr (5, [.ref h0, .int (nI o)])), (h0, .inr (8, [.ref qb, .ref qu, .int uc27, .int ln, .int (nI n), .int (nI p27), .int pl])), (qb, .inl (cB, 4096, .inl bf)), (qu, .inl (cI, 4096, .inl ug27))]) (pl1 := va_pl (((L ++ []) ++ N27)) f27) hP hD [0, 1, 2, 3] [4] rfl rfl (by decide) (by decide) hk1 hFc hP1 hD1
      generalize H1 = H at hP hS hq0 ⊢
      have hP : va_P (dC, dI) classes ([(ov, .inr (2, [.int 1, .null, .null, .null])), (qr, .inr (5, [.ref h0, .int (nI o)])), (h0, .inr (8, [.ref qb, .ref qu, .int uc27, .int ln, .int (nI n), .int (nI p27), .int pl])), (qb, .inl (cB, 4096, .inl bf)), (qu, .inl (cI, 4096, .inl ug27))] ++ va_pl (((L ++ []) ++ N27)) f27) H := hP
      have hD : va_D A ([(ov, .inr (2, [.int 1, .null, .null, .null])), (qr, .inr (5, [.ref h0, .int (nI o)])), (h0, .inr (8, [.ref qb, .ref qu, .int uc27, .int ln, .int (nI n), .int (nI p27), .int pl])), (qb, .inl (cB, 4096, .inl bf)), (qu, .inl (cI, 4096, .inl ug27))] ++ va_pl (((L ++ []) ++ N27)) f27) := hD
      have hP := hP.part (cx := [(qr, .inr (5, [.ref h0, .int (nI o)])), (h0, .inr (8, [.ref qb, .ref qu, .int uc27, .int ln, .int (nI n), .int (nI p27), .int pl])), (qb, .inl (cB, 4096, .inl bf)), (qu, .inl (cI, 4096, .inl ug27)), (ov, .inr (2, [.int 1, .null, .null, .null]))]) [1, 2, 3, 4, 0] rfl
      have hD := hD.part (cx := [(qr, .inr (5, [.ref h0, .int (nI o)])), (h0, .inr (8, [.ref qb, .ref qu, .int uc27, .int ln, .int (nI n), .int (nI p27), .int pl])), (qb, .inl (cB, 4096, .inl bf)), (qu, .inl (cI, 4096, .inl ug27)), (ov, .inr (2, [.int 1, .null, .null, .null]))]) [1, 2, 3, 4, 0] (by decide) rfl
      obtain ⟨hw, m27, hf27, hd27⟩ := hw
      have hf27 : (qrD bf n ok orL (nwB 1)) i = some (p27, sgQ (f27 v27), m27) := hf27
      have hd27 : DNx QD 0 E E27 f27 v27 m27 := hd27
      have hQ27 : QPn cI cV E (L ++ []) f i n _ 7 (5 * (16 - o)) 1 v27 p27 N27 E27 f27 := hw
      obtain ⟨lv27, hg27, hlv27⟩ := hQ27.x lv hG27.po _ (Nat.le_refl _)
      have hex27 := hg27.ex
      have hge27 := hg27.ge hQ27.new (by rw [hQ27.so]; decide)
      have hkp27 : KPx E E27 f f27 := KPx.of hg27 hG27.po
      have hnv27 : E v27 = 0 := hQ27.new
      have hsv27 : ¬ E27 v27 = 0 := by rw [hQ27.so]; decide
      have hG27 := hG27.tr hg27 hzz27
      obtain ⟨ha27, hb27⟩ := hQ27.num
      have ha27 : i + 1 ≤ p27 := ha27
      have hb27 : p27 ≤ n := hb27
      rw [List.append_assoc] at hP hD
      have hP : va_P (dC, dI) classes ([(qr, .inr (5, [.ref h0, .int (nI o)])), (h0, .inr (8, [.ref qb, .ref qu, .int uc27, .int ln, .int (nI n), .int (nI p27), .int pl])), (qb, .inl (cB, 4096, .inl bf)), (qu, .inl (cI, 4096, .inl ug27)), (ov, .inr (2, [.int 1, .null, .null, .null]))] ++ va_pl ((L ++ ([] ++ N27))) f27) H := hP
      have hD : va_D A ([(qr, .inr (5, [.ref h0, .int (nI o)])), (h0, .inr (8, [.ref qb, .ref qu, .int uc27, .int ln, .int (nI n), .int (nI p27), .int pl])), (qb, .inl (cB, 4096, .inl bf)), (qu, .inl (cI, 4096, .inl ug27)), (ov, .inr (2, [.int 1, .null, .null, .null]))] ++ va_pl ((L ++ ([] ++ N27))) f27) := hD
      refine va_put (D := (dC, dI)) (ci := 2) (v := .ref v27) (ty := .object "QueryBench$Query") (C := R_Operand) (T := F_Operand) (N := 4) hx hb hts in_Operand t_Operand t_Operand_ok n_Operand hown hK hP hD hS 4 rfl rfl 2 (by decide) (hts _ z_730) (fun _ h9 => h9) rfl (by decide +kernel) rfl rfl (Nat.le_of_ble_eq_true rfl) d_QueryReader_operand_31 (fun H locs hP hD hS => ?_)
      have hP : va_P (dC, dI) classes ([(qr, .inr (5, [.ref h0, .int (nI o)])), (h0, .inr (8, [.ref qb, .ref qu, .int uc27, .int ln, .int (nI n), .int (nI p27), .int pl])), (qb, .inl (cB, 4096, .inl bf)), (qu, .inl (cI, 4096, .inl ug27)), (ov, .inr (2, [.int 1, .null, .ref v27, .null]))] ++ va_pl ((L ++ ([] ++ N27))) f27) H := hP
      have hD : va_D A ([(qr, .inr (5, [.ref h0, .int (nI o)])), (h0, .inr (8, [.ref qb, .ref qu, .int uc27, .int ln, .int (nI n), .int (nI p27), .int pl])), (qb, .inl (cB, 4096, .inl bf)), (qu, .inl (cI, 4096, .inl ug27)), (ov, .inr (2, [.int 1, .null, .ref v27, .null]))] ++ va_pl ((L ++ ([] ++ N27))) f27) := hD
      refine lv_aload_n hx hb d_QueryReader_operand_34 rfl (lv_at hl 0 rfl) ?_
      have hL_ov := plD_new (X := [(qr, .inr (5, [.ref h0, .int (nI o)])), (h0, .inr (8, [.ref qb, .ref qu, .int uc27, .int ln, .int (nI n), .int (nI p27), .int pl])), (qb, .inl (cB, 4096, .inl bf)), (qu, .inl (cI, 4096, .inl ug27))]) hD
      have h0_ov : E27 ov = 0 := Classical.byContradiction (fun h => hL_ov (hG27.po.inL h))
      have hE_ov : E ov = 0 := hG27.ex.z h0_ov
      have hP := plP_push (X := [(qr, .inr (5, [.ref h0, .int (nI o)])), (h0, .inr (8, [.ref qb, .ref qu, .int uc27, .int ln, .int (nI n), .int (nI p27), .int pl])), (qb, .inl (cB, 4096, .inl bf)), (qu, .inl (cI, 4096, .inl ug27))]) hP hL_ov
      have hD := plD_push (X := [(qr, .inr (5, [.ref h0, .int (nI o)])), (h0, .inr (8, [.ref qb, .ref qu, .int uc27, .int ln, .int (nI n), .int (nI p27), .int pl])), (qb, .inl (cB, 4096, .inl bf)), (qu, .inl (cI, 4096, .inl ug27))]) hD hL_ov
      rw [List.append_assoc] at hP hD
      have hQ_ov : QPn cI cV E L f i n s.heap.size 11 (5 * (16 - o) + 1) 0 ov p27 (([] ++ N27) ++ [ov]) (va_up E27 ov 11) (va_up f27 ov (oE 1 none (some v27) none)) := by
        refine ⟨hE_ov, va_up_self _ _ _, by omega, by omega, fun lv hO b hb => ?_⟩
        have g0 : QG cI cV E lv L f i n i s.heap.size [] E lv f := (QG.rf hO hi9).mv (by omega) (by omega)
        obtain ⟨lv1, g1, c1⟩ := hQ27.x lv g0.po (b - 1) (by omega)
        have g1 := g0.tr g1 hzz27
        have hvs27 : v27 ≠ ov := fun e => by have h9 := hQ27.so; rw [e, h0_ov] at h9; cases h9
        exact ⟨va_up lv1 ov b, g1.add (q := ov) (s := 11) (b := b) (e := oE 1 none (some v27) none) h0_ov hL_ov hz_ov (by decide) (by decide) (CO.O (va_up_self _ _ _) ⟨_, _, _, _, rfl, ⟨(fun b h => (nomatch h)), (fun b9 h => by cases h; exact ⟨(va_up_ne _ _ hvs27).trans hQ27.so, by rw [va_up_ne _ _ hvs27, va_up_self]; have := c1; omega⟩), (fun b h => (nomatch h)), (fun _ h => by cases h), fun h => absurd h (by decide), fun h => absurd h (by decide)⟩⟩), va_up_self _ _ _⟩
      have hP : va_P (dC, dI) classes ([(qr, .inr (5, [.ref h0, .int (nI o)])), (h0, .inr (8, [.ref qb, .ref qu, .int uc27, .int ln, .int (nI n), .int (nI p27), .int pl])), (qb, .inl (cB, 4096, .inl bf)), (qu, .inl (cI, 4096, .inl ug27))] ++ va_pl ((L ++ (([] ++ N27) ++ [ov]))) ((va_up f27 ov (oE 1 none (some v27) none)))) H := hP
      have hD : va_D A ([(qr, .inr (5, [.ref h0, .int (nI o)])), (h0, .inr (8, [.ref qb, .ref qu, .int uc27, .int ln, .int (nI n), .int (nI p27), .int pl])), (qb, .inl (cB, 4096, .inl bf)), (qu, .inl (cI, 4096, .inl ug27))] ++ va_pl ((L ++ (([] ++ N27) ++ [ov]))) ((va_up f27 ov (oE 1 none (some v27) none)))) := hD
      have hQr : QPn cI cV E L f i n s.heap.size 11 (5 * (16 - o) + 1) 0 ov p27 ((([] ++ N27) ++ [ov])) ((va_up E27 ov 11)) ((va_up f27 ov (oE 1 none (some v27) none))) := hQ_ov
      have hfin : (opD bf n ok orL cmL qyL) i = some (p27, onlO m27) := (opD_q hyes).trans (mp_some (qrD_nw1 hf27))
      have hdn : DNx OD 0 E ((va_up E27 ov 11)) ((va_up f27 ov (oE 1 none (some v27) none))) ov (onlO m27) := DNx.onl hd27 hnv27 hsv27 h0_ov
      refine w_same (fun hq => ?_)
      refine W.widen (k := 8 * (n - i) + 8) (n := 64 * (n - i) + 80) (by show ((0 + 1) + (8 * (p27 - i) + 0 - 7)) ≤ 8 * (n - i) + 8; omega) (by show ((0 + 4) + (64 * (p27 - i) + 0 - 60)) ≤ 64 * (n - i) + 80; omega) ?_
      refine vx_ret ?_
      exact W.aret (v := .ref ov) hx hb hr (Or.inl ⟨_, rfl⟩) (Or.inr ⟨_, rfl⟩) (fun t9 ht hW => ⟨⟨(ov, p27, (([] ++ N27) ++ [ov]), (va_up E27 ov 11), (va_up f27 ov (oE 1 none (some v27) none)), uc27, ug27), ov, rfl, ⟨hQr, _, hfin, hdn⟩, ⟨by rw [ht]; exact hP, va_K.moved hW.alike hK, hD⟩, by rw [ht]; exact ⟨hq.mono (by show ((0 + 1) + (8 * (p27 - i) + 0 - 7)) ≤ 8 * (p27 - i) + 3 - 0; omega) (by show ((0 + 4) + (64 * (p27 - i) + 0 - 60)) ≤ 64 * (p27 - i) + 14 - 0; omega), rfl⟩⟩, hS.F ht⟩) hS.2.2 d_QueryReader_operand_35
