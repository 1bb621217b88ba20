theorem z_23 : (.initialized "QueryBench$Query" : Cond) ∈ gtbl := gt_in 23 (by decide +kernel) (by decide +kernel)
theorem z_536 : (.methodLink "QueryBench$QueryReader" 32 ⟨"QueryBench$QueryReader", "query", "(Z)LQueryBench$Query;"⟩ : Cond) ∈ gtbl := gt_in 536 (by decide +kernel) (by decide +kernel)
theorem z_538 : (.instanceMethod ⟨"QueryBench$QueryReader", "query", "(Z)LQueryBench$Query;"⟩ : Cond) ∈ gtbl := gt_in 538 (by decide +kernel) (by decide +kernel)
theorem z_540 : (.classLink "QueryBench$QueryReader" 42 "QueryBench$Query" : Cond) ∈ gtbl := gt_in 540 (by decide +kernel) (by decide +kernel)
theorem z_541 : (.instantiable "QueryBench$Query" 4 : Cond) ∈ gtbl := gt_in 541 (by decide +kernel) (by decide +kernel)
theorem z_542 : (.methodLink "QueryBench$QueryReader" 44 ⟨"QueryBench$Query", "<init>", "(Z)V"⟩ : Cond) ∈ gtbl := gt_in 542 (by decide +kernel) (by decide +kernel)
theorem z_543 : (.instanceMethod ⟨"QueryBench$Query", "<init>", "(Z)V"⟩ : Cond) ∈ gtbl := gt_in 543 (by decide +kernel) (by decide +kernel)
theorem z_564 : (.methodLink "QueryBench$QueryReader" 47 ⟨"QueryBench$QueryReader", "segment", "(Z)LQueryBench$Segment;"⟩ : Cond) ∈ gtbl := gt_in 564 (by decide +kernel) (by decide +kernel)
theorem z_566 : (.instanceMethod ⟨"QueryBench$QueryReader", "segment", "(Z)LQueryBench$Segment;"⟩ : Cond) ∈ gtbl := gt_in 566 (by decide +kernel) (by decide +kernel)
theorem z_713 : (.methodLink "QueryBench$QueryReader" 178 ⟨"QueryBench$QueryReader", "beginsQuery", "(I)Z"⟩ : Cond) ∈ gtbl := gt_in 713 (by decide +kernel) (by decide +kernel)
theorem z_714 : (.static ⟨"QueryBench$QueryReader", "beginsQuery", "(I)Z"⟩ : Cond) ∈ gtbl := gt_in 714 (by decide +kernel) (by decide +kernel)
theorem z_796 : (.methodLink "QueryBench$QueryReader" 51 ⟨"QueryBench$Query", "add", "(LQueryBench$Segment;)V"⟩ : Cond) ∈ gtbl := gt_in 796 (by decide +kernel) (by decide +kernel)
theorem z_797 : (.instanceMethod ⟨"QueryBench$Query", "add", "(LQueryBench$Segment;)V"⟩ : Cond) ∈ gtbl := gt_in 797 (by decide +kernel) (by decide +kernel)
theorem z_798 : (.selects "QueryBench$Query" ⟨"QueryBench$Query", "add", "(LQueryBench$Segment;)V"⟩ ⟨"QueryBench$Query", "add", "(LQueryBench$Segment;)V"⟩ : Cond) ∈ gtbl := gt_in 798 (by decide +kernel) (by decide +kernel)
set_option maxHeartbeats 4000000 in
set_option maxRecDepth 100000 in
/-- QueryReader.query -/
theorem c_QR_query (l : Launch) (hl9 : l.stackTraces = false) (K : Nat → Nat × Nat) (dC : Nat → ClassId) (dI : Nat → Nat → Nat) (cI cV : ClassId) (cB : ClassId) (h0 qb qu : Nat) (ln : Int32) (bf : Nat → Int32) (n qr : Nat) (hn0 : n ≤ 4096) (hbf : byR bf) (o : Nat) (ho : o ≤ 16) (ok : Bool) (orL : Nat → Option (Nat × CT)) (cmL : Nat → Option (Nat × OT)) (qyL : Nat → Option (Nat × Bool × QT)) (hok : ok = true ↔ o < 16) (HG : ∀ nw : Int32, QCT l K dC dI cI cV cB h0 qb qu ln bf n qr y_QueryReader_segment (k_QueryReader_segment :: gtbl) [.ref qr, .int nw] o (12 * (16 - o) + 13) (360 * (16 - o) + 390) 7 100 0 5 0 51 8 (5 * (16 - o)) 1 0 (OKe GD 2 (segD bf n ok orL (nwB nw)) sgG) (NOd (segD bf n ok orL (nwB nw)))) (nw : Int32) : QCT l K dC dI cI cV cB h0 qb qu ln bf n qr y_QueryReader_query (k_QueryReader_query :: gtbl) [.ref qr, .int nw] o (12 * (16 - o) + 14) (360 * (16 - o) + 420) 4 50 0 7 0 60 7 (5 * (16 - o)) 1 1 (OKe QD 0 (qrD bf n ok orL (nwB nw)) sgQs) (NOd (qrD bf n ok orL (nwB nw))) := by
  intro sz E lv L f i uc pl ug hO hin
  refine vx_ofW (cc := b_QueryReader_query) (maxL := 5) (ret := (some (.object "QueryBench$Query"))) (by decide) rfl ?_
  intro p e s m args below meth c s₁ B hml hex hv
  obtain ⟨rfl, ⟨hsz, hP, hK, hD0⟩, hN, hZ, hC, hV⟩ := hv
  have hx := B.exec
  have hb := B.bytes
  have hr := B.returns
  have hts0 := atoms_spec (ws := k_QueryReader_query :: gtbl) B.pre
  have hts := fun w h => hts0 w (List.mem_cons_of_mem _ h)
  have hown : s.vm.findClass R_QueryReader = some m.cls := findClass_of_methodNamed B.named
  have hlocks := B.notSynchronized
  subst hsz
  have hD := hD0.self (sz := s.heap.size)
  generalize hAe : va_A ([(qr, .inr (5, [.ref h0, .int (nI o)])), (h0, .inr (8, [.ref qb, .ref qu, .int uc, .int ln, .int (nI n), .int (nI i), .int pl])), (qb, .inl (cB, 4096, .inl bf)), (qu, .inl (cI, 4096, .inl ug))] ++ va_pl L f) s.heap.size = A at hD hZ hC ⊢
  have hA : ∀ q : Nat, s.heap.size ≤ q → A q := fun q h => by rw [← hAe]; exact Or.inr h
  have hS : va_S A s.heap s.heap [] := va_S.rf
  have hP : va_P (dC, dI) classes ([(qr, .inr (5, [.ref h0, .int (nI o)])), (h0, .inr (8, [.ref qb, .ref qu, .int uc, .int ln, .int (nI n), .int (nI i), .int pl])), (qb, .inl (cB, 4096, .inl bf)), (qu, .inl (cI, 4096, .inl ug))] ++ va_pl L f) s.heap := hP
  have hl := lv_entry ([.ref qr, .int nw]) (n := 5) (Nat.le_of_ble_eq_true rfl)
  rw [lg_entry_eq]
  generalize (lg_sl ([.ref qr, .int nw]) ++ List.replicate (5 - (lg_sl ([.ref qr, .int nw])).length) Slot.unset).toArray = ls at hl ⊢
  have hl : lv_has ls 5 [(0, .ref qr), (1, .int nw)] := hl
  have hLz : ∀ a, a ∈ L → a < s.heap.size := fun a ha => va_pl_lt hP ha
  have hi9 : i ≤ n := by omega
  have hP : va_P (dC, dI) classes ([(qr, .inr (5, [.ref h0, .int (nI o)])), (h0, .inr (8, [.ref qb, .ref qu, .int uc, .int ln, .int (nI n), .int (nI i), .int pl])), (qb, .inl (cB, 4096, .inl bf)), (qu, .inl (cI, 4096, .inl ug))] ++ va_pl (L ++ []) f) s.heap := by rw [List.append_nil]; exact hP
  have hD : va_D A ([(qr, .inr (5, [.ref h0, .int (nI o)])), (h0, .inr (8, [.ref qb, .ref qu, .int uc, .int ln, .int (nI n), .int (nI i), .int pl])), (qb, .inl (cB, 4096, .inl bf)), (qu, .inl (cI, 4096, .inl ug))] ++ va_pl (L ++ []) f) := by rw [List.append_nil]; exact hD
  have hG0 : QG cI cV E lv L f i n i s.heap.size [] E lv f := QG.rf hO hi9
  refine va_new (ci := 4) (fs := [.int 0, .int 0, .null, .null]) (C := R_Query) (T := F_Query) (N := 4) hx hb hts in_Query t_Query t_Query_ok hown (hts _ z_540) (hts _ z_541) (hts _ z_23) hK hP hD hS hA rfl (fun j hj => by rcases (show j = 0 ∨ j = 1 ∨ j = 2 ∨ j = 3 by omega) with rfl | rfl | rfl | rfl <;> rfl) (by show 0 + 1 ≤ 8 * (n - i) + 4; omega) (by show 0 + 4 ≤ 64 * (n - i) + 50; omega) d_QueryReader_query_0 (fun q H hP hD hS => ?_)
  have hz_q := newB (X := [(qr, .inr (5, [.ref h0, .int (nI o)])), (h0, .inr (8, [.ref qb, .ref qu, .int uc, .int ln, .int (nI n), .int (nI i), .int pl])), (qb, .inl (cB, 4096, .inl bf)), (qu, .inl (cI, 4096, .inl ug))]) hAe hD (fun k x hk => by rcases k with _ | _ | _ | _ | k; (· cases hk; exact ⟨0, _, rfl⟩); (· cases hk; exact ⟨1, _, rfl⟩); (· cases hk; exact ⟨2, _, rfl⟩); (· cases hk; exact ⟨3, _, rfl⟩); (· cases hk))
  have hP := hP.swap
  have hD := hD.swap
  have hP : va_P (dC, dI) classes ([(qr, .inr (5, [.ref h0, .int (nI o)])), (h0, .inr (8, [.ref qb, .ref qu, .int uc, .int ln, .int (nI n), .int (nI i), .int pl])), (qb, .inl (cB, 4096, .inl bf)), (qu, .inl (cI, 4096, .inl ug)), (q, .inr (4, [.int 0, .int 0, .null, .null]))] ++ va_pl ((L ++ [])) f) H := hP
  have hD : va_D A ([(qr, .inr (5, [.ref h0, .int (nI o)])), (h0, .inr (8, [.ref qb, .ref qu, .int uc, .int ln, .int (nI n), .int (nI i), .int pl])), (qb, .inl (cB, 4096, .inl bf)), (qu, .inl (cI, 4096, .inl ug)), (q, .inr (4, [.int 0, .int 0, .null, .null]))] ++ va_pl ((L ++ [])) f) := hD
  refine lv_dup hx hb d_QueryReader_query_3 rfl ?_
  refine lv_aload_n hx hb d_QueryReader_query_4 rfl (lv_at hl 0 rfl) ?_
  refine va_get (D := (dC, dI)) (ci := 5) (v := .ref h0) (C := R_QueryReader) (T := F_QueryReader) (N := 2) hx hb hts in_QueryReader hown hK hP 0 rfl rfl 0 (by decide) (hts _ w_100) (fun _ h9 => h9) rfl d_QueryReader_query_5 ?_
  have hPc := hP.sub (ws' := [(h0, .inr (8, [.ref qb, .ref qu, .int uc, .int ln, .int (nI n), .int (nI i), .int pl])), (qb, .inl (cB, 4096, .inl bf))]) [1, 2] rfl
  have hDc := hD.sub (ws' := [(h0, .inr (8, [.ref qb, .ref qu, .int uc, .int ln, .int (nI n), .int (nI i), .int pl])), (qb, .inl (cB, 4096, .inl bf))]) [1, 2] (by decide) rfl
  have hFc := va_free (wc := [(h0, .inr (8, [.ref qb, .ref qu, .int uc, .int ln, .int (nI n), .int (nI i), .int pl])), (qb, .inl (cB, 4096, .inl bf))]) hD hS hA [1, 2] rfl
  have hKc := hK.sub (tys' := [(cB, .byte)]) [0] rfl
  refine va_calli (va_runV (As := []) (rest := [.ref q, .ref q]) ⟨hx, hb, hml, hown, hts⟩ (c_Tape_here l dC dI cB h0 qb H (.ref qu) uc ln pl bf n i hn0 (by omega)) (cwV 0 hts (gt_V (own := R_QueryReader) (C := R_Tape) (i := 19) (y := y_Tape_here) i_Tape_here z_534 w_363 w_364 w_2) rfl rfl rfl (by decide +kernel) ⟨by show 0 + 1 ≤ 12 * (16 - o) + 14; omega, by show 8 + (1 + 11) + (0) ≤ 360 * (16 - o) + 420; omega⟩) ⟨mp_blind, va_recv hK hP (ci := 8) (q0 := 1) rfl rfl, fun U hU hW => ⟨rfl, hU, by rw [hU]; exact hPc, va_K.moved hW.alike hKc, hDc.weaken (fun _ _ _ _ => trivial)⟩⟩ rfl rfl hl.1 rfl (lv_room (Nat.le_of_ble_eq_true rfl)) d_QueryReader_query_8 ⟨by show (0 + 1) + (0) ≤ 8 * (n - i) + 4; omega, by show (0 + 4) + (0) ≤ 64 * (n - i) + 50; omega⟩) hS (fun q _ h => hFc q h) hFc (fun h21 _u t9 H1 locs ht hvm hw hB hz1 hk1 hS => ?_)
  obtain ⟨hP1, hK1, hD1⟩ := hB
  rw [ht] at hP1
  obtain ⟨hP, hD⟩ := va_joinQ (wr := [(qr, .inr (5, [.ref h0, .int (nI o)])), (qu, .inl (cI, 4096, .inl ug)), (q, .inr (4, [.int 0, .int 0, .null, .null]))]) (w1 := [(h0, .inr (8, [.ref qb, .ref qu, .int uc, .int ln, .int (nI n), .int (nI i), .int pl])), (qb, .inl (cB, 4096, .inl bf))]) hP hD [1, 2] [0, 3, 4] rfl rfl (by decide) (by decide) hk1 hFc hP1 hD1
  generalize H1 = H at hP hS ⊢
  have hP : va_P (dC, dI) classes ([(qr, .inr (5, [.ref h0, .int (nI o)])), (qu, .inl (cI, 4096, .inl ug)), (q, .inr (4, [.int 0, .int 0, .null, .null])), (h0, .inr (8, [.ref qb, .ref qu, .int uc, .int ln, .int (nI n), .int (nI i), .int pl])), (qb, .inl (cB, 4096, .inl bf))] ++ va_pl ((L ++ [])) f) H := hP
  have hD : va_D A ([(qr, .inr (5, [.ref h0, .int (nI o)])), (qu, .inl (cI, 4096, .inl ug)), (q, .inr (4, [.int 0, .int 0, .null, .null])), (h0, .inr (8, [.ref qb, .ref qu, .int uc, .int ln, .int (nI n), .int (nI i), .int pl])), (qb, .inl (cB, 4096, .inl bf))] ++ va_pl ((L ++ [])) f) := hD
  have hP := hP.part (cx := [(qr, .inr (5, [.ref h0, .int (nI o)])), (h0, .inr (8, [.ref qb, .ref qu, .int uc, .int ln, .int (nI n), .int (nI i), .int pl])), (qb, .inl (cB, 4096, .inl bf)), (qu, .inl (cI, 4096, .inl ug)), (q, .inr (4, [.int 0, .int 0, .null, .null]))]) [0, 3, 4, 1, 2] rfl
  have hD := hD.part (cx := [(qr, .inr (5, [.ref h0, .int (nI o)])), (h0, .inr (8, [.ref qb, .ref qu, .int uc, .int ln, .int (nI n), .int (nI i), .int pl])), (qb, .inl (cB, 4096, .inl bf)), (qu, .inl (cI, 4096, .inl ug)), (q, .inr (4, [.int 0, .int 0, .null, .null]))]) [0, 3, 4, 1, 2] (by decide) rfl
  have h_h21 : h21 = hereV bf n i := hw
  refine lv_bipush (v := 36) hx hb d_QueryReader_query_11 (by decide) ?_
  refine lv_icmp_ne (tgt := 20) hx hb d_QueryReader_query_13 (by decide) (fun c13 => ?_) (fun c13 => ?_)
  · refine lv_iconst (v := 0) hx hb d_QueryReader_query_20 (by decide) ?_
    have hPc := hP.sub (ws' := [(q, .inr (4, [.int 0, .int 0, .null, .null]))]) [4] rfl
    have hDc := hD.sub (ws' := [(q, .inr (4, [.int 0, .int 0, .null, .null]))]) [4] (by decide) rfl
    have hFc := va_free (wc := [(q, .inr (4, [.int 0, .int 0, .null, .null]))]) hD hS hA [4] rfl
    have hKc := hK.sub (tys' := []) [] rfl
    refine w_same (fun hq0 => ?_)
    refine va_callv (va_runI (As := [.int 0]) (rest := [.ref q]) ⟨hx, hb, hml, hown, hts⟩ (c_Query_init l dC dI H q 0 (Or.inl rfl)) (cwI 1 hts (gt_code i_Query_init) rfl rfl rfl (hts _ z_23) (hts _ z_542) (hts _ z_543) rfl (by decide +kernel) ⟨by show 1 + 1 ≤ 12 * (16 - o) + 14; omega, by show 8 + (2 + 11) + (20) ≤ 360 * (16 - o) + 420; omega⟩) ⟨mp_blind, fun U hU hW => ⟨rfl, hU, by rw [hU]; exact hPc, va_K.moved hW.alike hKc, hDc.weaken (fun _ _ _ _ => trivial)⟩⟩ rfl rfl hl.1 rfl (lv_room (Nat.le_of_ble_eq_true rfl)) d_QueryReader_query_21 ⟨by show (0 + 1) + (0) ≤ 8 * (n - i) + 4; omega, by show (0 + 4) + (0) ≤ 64 * (n - i) + 50; omega⟩) hS (fun q _ h => hFc q h) hFc (fun _u t9 H1 locs ht hvm hw hB hz1 hk1 hS => ?_)
    obtain ⟨⟨hP1, hK1, hD1⟩, hz9⟩ := hB
    rw [ht] at hP1
    rw [ht] at hz9
    have hq0 : szk s.heap H1 ((0 + 1)) ((0 + 4)) := (hq0.trans hz9).mono (Nat.le_of_eq (Nat.add_zero _)) (Nat.le_of_eq (Nat.add_zero _))
    refine w_tight hq0 ?_
    obtain ⟨hP, hD⟩ := va_joinQ (wr := [(qr, .inr (5, [.ref h0, .int (nI o)])), (h0, .inr (8, [.ref qb, .ref qu, .int uc, .int ln, .int (nI n), .int (nI i), .int pl])), (qb, .inl (cB, 4096, .inl bf)), (qu, .inl (cI, 4096, .inl ug))]) (w1 := [(q, .inr (4, [.int 0, .int 1, .null, .null]))]) hP hD [4] [0, 1, 2, 3] rfl rfl (by decide) (by decide) hk1 hFc hP1 hD1
    generalize H1 = H at hP hS hq0 ⊢
    have hP : va_P (dC, dI) classes ([(qr, .inr (5, [.ref h0, .int (nI o)])), (h0, .inr (8, [.ref qb, .ref qu, .int uc, .int ln, .int (nI n), .int (nI i), .int pl])), (qb, .inl (cB, 4096, .inl bf)), (qu, .inl (cI, 4096, .inl ug)), (q, .inr (4, [.int 0, .int 1, .null, .null]))] ++ va_pl ((L ++ [])) f) H := hP
    have hD : va_D A ([(qr, .inr (5, [.ref h0, .int (nI o)])), (h0, .inr (8, [.ref qb, .ref qu, .int uc, .int ln, .int (nI n), .int (nI i), .int pl])), (qb, .inl (cB, 4096, .inl bf)), (qu, .inl (cI, 4096, .inl ug)), (q, .inr (4, [.int 0, .int 1, .null, .null]))] ++ va_pl ((L ++ [])) f) := hD
    refine lv_astore_n (lv' := [(2, .ref q), (0, .ref qr), (1, .int nw)]) hx hb d_QueryReader_query_24 rfl hl (by decide) rfl (fun ls hl => ?_)
    refine lv_aload_n hx hb d_QueryReader_query_25 rfl (lv_at hl 1 rfl) ?_
    refine va_get (D := (dC, dI)) (ci := 5) (v := .ref h0) (C := R_QueryReader) (T := F_QueryReader) (N := 2) hx hb hts in_QueryReader hown hK hP 0 rfl rfl 0 (by decide) (hts _ w_100) (fun _ h9 => h9) rfl d_QueryReader_query_26 ?_
    refine lv_dup hx hb d_QueryReader_query_29 rfl ?_
    refine va_get (D := (dC, dI)) (ci := 8) (v := .int (nI i)) (C := R_Tape) (T := F_Tape) (N := 7) hx hb hts in_Tape hown hK hP 1 rfl rfl 5 (by decide) (hts _ z_53) (fun _ h9 => h9) rfl d_QueryReader_query_30 ?_
    refine lv_iconst (v := 1) hx hb d_QueryReader_query_33 (by decide) ?_
    refine lv_iadd hx hb d_QueryReader_query_34 ?_
    refine W.eq (g2 := F0 m 35 ls [.int (nI (i + 1)), .ref h0]) (by rw [show ((nI i) + 1) = (nI (i + 1)) from nI_1 _]) ?_
    refine va_put (D := (dC, dI)) (ci := 8) (v := .int (nI (i + 1))) (ty := .int) (C := R_Tape) (T := F_Tape) (N := 7) hx hb hts in_Tape t_Tape t_Tape_ok n_Tape hown hK hP hD hS 1 rfl rfl 5 (by decide) (hts _ z_53) (fun _ h9 => h9) rfl (by decide +kernel) rfl rfl (Nat.le_of_ble_eq_true rfl) d_QueryReader_query_35 (fun H locs hP hD hS => ?_)
    have hP : va_P (dC, dI) classes ([(qr, .inr (5, [.ref h0, .int (nI o)])), (h0, .inr (8, [.ref qb, .ref qu, .int uc, .int ln, .int (nI n), .int (nI (i + 1)), .int pl])), (qb, .inl (cB, 4096, .inl bf)), (qu, .inl (cI, 4096, .inl ug)), (q, .inr (4, [.int 0, .int 1, .null, .null]))] ++ va_pl ((L ++ [])) f) H := hP
    have hD : va_D A ([(qr, .inr (5, [.ref h0, .int (nI o)])), (h0, .inr (8, [.ref qb, .ref qu, .int uc, .int ln, .int (nI n), .int (nI (i + 1)), .int pl])), (qb, .inl (cB, 4096, .inl bf)), (qu, .inl (cI, 4096, .inl ug)), (q, .inr (4, [.int 0, .int 1, .null, .null]))] ++ va_pl ((L ++ [])) f) := hD
    have hP : va_P (dC, dI) classes ([(qr, .inr (5, [.ref h0, .int (nI o)])), (h0, .inr (8, [.ref qb, .ref qu, .int uc, .int ln, .int (nI n), .int (nI (i + 1)), .int pl])), (qb, .inl (cB, 4096, .inl bf)), (qu, .inl (cI, 4096, .inl ug)), (q, .inr (4, [.int 0, .int 1, .null, .null]))] ++ va_pl ((L ++ [])) f) H := hP
    have hD : va_D A ([(qr, .inr (5, [.ref h0, .int (nI o)])), (h0, .inr (8, [.ref qb, .ref qu, .int uc, .int ln, .int (nI n), .int (nI (i + 1)), .int pl])), (qb, .inl (cB, 4096, .inl bf)), (qu, .inl (cI, 4096, .inl ug)), (q, .inr (4, [.int 0, .int 1, .null, .null]))] ++ va_pl ((L ++ [])) f) := hD
    refine lv_iconst (v := 0) hx hb d_QueryReader_query_38 (by decide) ?_
    refine lv_istore_n (lv' := [(3, .int 0), (2, .ref q), (0, .ref qr), (1, .int nw)]) hx hb d_QueryReader_query_39 rfl hl (by decide) rfl (fun ls hl => ?_)
    refine w_same (fun hq => ?_)
    refine W.widen (k := 8 * (n - i) + 4) (n := 64 * (n - i) + 50) (by show (0 + 1) ≤ 8 * (n - i) + 4; omega) (by show (0 + 4) ≤ 64 * (n - i) + 50; omega) ?_
    refine w_loopG (D := (dC, dI)) (cl := classes) (A := A) (H0 := s.heap) (nL := 5) 40 (σ := Nat × Option Nat × Option Nat × Bool × Nat × List Nat × (Nat → Nat) × (Nat → va_E) × Int32 × (Nat → Int32) × List QT) (fun ⟨m9, fi, la, fl, p, N, E1, f1, uc, ug, l9⟩ H => m9 ≤ 4096 ∧ m9 + i + 1 ≤ p ∧ QQ cI cV E L f i n s.heap.size (5 * (16 - o)) fi la p N E1 f1 ∧ szk s.heap H (8 * (p - i) - 7) (64 * (p - i) - 60) ∧ qrD bf n ok orL (nwB nw) i = (qrLD bf n ok orL (nwB nw) (4097 - m9) p fl).map (fun q => (q.1, q.2.1, qryS (decide (hereV bf n i = 36)) (l9 ++ q.2.2))) ∧ QIx E E1 f1 fi la l9) (fun ⟨m9, fi, la, fl, p, N, E1, f1, uc, ug, l9⟩ => 4097 - m9) (fun ⟨m9, fi, la, fl, p, N, E1, f1, uc, ug, l9⟩ => [(qr, .inr (5, [.ref h0, .int (nI o)])), (h0, .inr (8, [.ref qb, .ref qu, .int uc, .int ln, .int (nI n), .int (nI p), .int pl])), (qb, .inl (cB, 4096, .inl bf)), (qu, .inl (cI, 4096, .inl ug)), (q, .inr (4, [.int 0, .int (bI fl), va_rf fi, va_rf la]))] ++ va_pl ((L ++ N)) f1) (fun ⟨m9, fi, la, fl, p, N, E1, f1, uc, ug, l9⟩ => [(0, .ref qr), (1, .int nw), (2, .ref q), (3, .int (nI m9))]) ?_ (0, none, none, true, i + 1, [], E, f, uc, ug, []) ⟨Nat.zero_le _, (by show 0 + i + 1 ≤ i + 1; omega), QQ.start (by omega) (by omega), hq.mono (by show (0 + 1) ≤ 8 * (i + 1 - i) - 7; omega) (by show (0 + 4) ≤ 64 * (i + 1 - i) - 60; omega), rfl, QIx.start⟩ hP hD hS (lv_sub hl [2, 3, 1, 0] rfl)
    rintro ⟨m9, fi, la, fl, p, N, E1, f1, uc, ug, l9⟩ H locs ls hI ih hP hD hS hl
    obtain ⟨hm9, hp1, hCh, hIz, hQf, hQI⟩ := hI
    have hm9 : m9 ≤ 4096 := hm9
    have hp1 : m9 + i + 1 ≤ p := hp1
    have hQf : qrD bf n ok orL (nwB nw) i = (qrLD bf n ok orL (nwB nw) (4097 - m9) p fl).map (fun q => (q.1, q.2.1, qryS (decide (hereV bf n i = 36)) (l9 ++ q.2.2))) := hQf
    have hQI : QIx E E1 f1 fi la l9 := hQI
    have hlaE : ∀ a, la = some a → E a = 0 ∧ ¬ E1 a = 0 := fun a ha => ⟨(hCh.2.1 a ha).1, by rw [(hCh.2.1 a ha).2]; decide⟩
    have hCh : QQ cI cV E L f i n s.heap.size (5 * (16 - o)) fi la p N E1 f1 := hCh
    have hp2 : p ≤ n := hCh.2.2.1
    have hmL : m9 ≤ 4095 := by omega
    have hIz : szk s.heap H (8 * (p - i) - 7) (64 * (p - i) - 60) := hIz
    refine w_tight hIz ?_
    obtain ⟨lv1, hG, hlx, hly⟩ := hCh.x lv hO _ (Nat.le_refl _)
    have hP : va_P (dC, dI) classes ([(qr, .inr (5, [.ref h0, .int (nI o)])), (h0, .inr (8, [.ref qb, .ref qu, .int uc, .int ln, .int (nI n), .int (nI p), .int pl])), (qb, .inl (cB, 4096, .inl bf)), (qu, .inl (cI, 4096, .inl ug)), (q, .inr (4, [.int 0, .int (bI fl), va_rf fi, va_rf la]))] ++ va_pl ((L ++ N)) f1) H := hP
    have hD : va_D A ([(qr, .inr (5, [.ref h0, .int (nI o)])), (h0, .inr (8, [.ref qb, .ref qu, .int uc, .int ln, .int (nI n), .int (nI p), .int pl])), (qb, .inl (cB, 4096, .inl bf)), (qu, .inl (cI, 4096, .inl ug)), (q, .inr (4, [.int 0, .int (bI fl), va_rf fi, va_rf la]))] ++ va_pl ((L ++ N)) f1) := hD
    have hl : lv_has ls 5 [(0, .ref qr), (1, .int nw), (2, .ref q), (3, .int (nI m9))] := hl
    refine lv_iload_n hx hb d_QueryReader_query_40 rfl (lv_at hl 3 rfl) ?_
    refine lv_sipush (v := 4096) hx hb d_QueryReader_query_41 (by decide) ?_
    refine lv_icmp_ge (tgt := 113) hx hb d_QueryReader_query_44 (by decide) (fun c44 => ?_) (fun c44 => ?_)
    · rw [show (4096 : Int32) = nI 4096 from rfl, nI_leI (by omega) (by omega)] at c44
      exact absurd c44 (by omega)
    · refine lv_aload_n hx hb d_QueryReader_query_47 rfl (lv_at hl 0 rfl) ?_
      refine va_get (D := (dC, dI)) (ci := 5) (v := .ref h0) (C := R_QueryReader) (T := F_QueryReader) (N := 2) hx hb hts in_QueryReader hown hK hP 0 rfl rfl 0 (by decide) (hts _ w_100) (fun _ h9 => h9) rfl d_QueryReader_query_48 ?_
      refine va_get (D := (dC, dI)) (ci := 8) (v := .int (nI p)) (C := R_Tape) (T := F_Tape) (N := 7) hx hb hts in_Tape hown hK hP 1 rfl rfl 5 (by decide) (hts _ z_53) (fun _ h9 => h9) rfl d_QueryReader_query_51 ?_
      refine lv_istore (lv' := [(4, .int (nI p)), (0, .ref qr), (1, .int nw), (2, .ref q), (3, .int (nI m9))]) hx hb d_QueryReader_query_54 hl (by decide) rfl (fun ls hl => ?_)
      refine lv_aload_n hx hb d_QueryReader_query_56 rfl (lv_at hl 1 rfl) ?_
      refine va_get (D := (dC, dI)) (ci := 5) (v := .ref h0) (C := R_QueryReader) (T := F_QueryReader) (N := 2) hx hb hts in_QueryReader hown hK hP 0 rfl rfl 0 (by decide) (hts _ w_100) (fun _ h9 => h9) rfl d_QueryReader_query_57 ?_
      have hPc := hP.sub (ws' := [(h0, .inr (8, [.ref qb, .ref qu, .int uc, .int ln, .int (nI n), .int (nI p), .int pl])), (qb, .inl (cB, 4096, .inl bf))]) [1, 2] rfl
      have hDc := hD.sub (ws' := [(h0, .inr (8, [.ref qb, .ref qu, .int uc, .int ln, .int (nI n), .int (nI p), .int pl])), (qb, .inl (cB, 4096, .inl bf))]) [1, 2] (by decide) rfl
      have hFc := va_free (wc := [(h0, .inr (8, [.ref qb, .ref qu, .int uc, .int ln, .int (nI n), .int (nI p), .int pl])), (qb, .inl (cB, 4096, .inl bf))]) hD hS hA [1, 2] rfl
      have hKc := hK.sub (tys' := [(cB, .byte)]) [0] rfl
      refine va_callv (va_runV (As := []) (rest := []) ⟨hx, hb, hml, hown, hts⟩ (c_Tape_skipBlanks l dC dI cB h0 qb H (.ref qu) uc ln pl bf n p hn0 (by omega)) (cwV 0 hts (gt_V (own := R_QueryReader) (C := R_Tape) (i := 39) (y := y_Tape_skipBlanks) i_Tape_skipBlanks z_563 z_299 z_300 w_2) rfl rfl rfl (by decide +kernel) ⟨by show 0 + 1 ≤ 12 * (16 - o) + 14; omega, by show 8 + (2 + 11) + (0) ≤ 360 * (16 - o) + 420; omega⟩) ⟨mp_blind, va_recv hK hP (ci := 8) (q0 := 1) rfl rfl, fun U hU hW => ⟨rfl, hU, by rw [hU]; exact hPc, va_K.moved hW.alike hKc, hDc.weaken (fun _ _ _ _ => trivial)⟩⟩ rfl rfl hl.1 rfl (lv_room (Nat.le_of_ble_eq_true rfl)) d_QueryReader_query_60 ⟨by show (8 * (p - i) - 7) + (0) ≤ 8 * (n - i) + 4; omega, by show (64 * (p - i) - 60) + (0) ≤ 64 * (n - i) + 50; omega⟩) hS (fun q _ h => hFc q h) hFc (fun _u t9 H1 locs ht hvm hw hB hz1 hk1 hS => ?_)
      obtain ⟨hP1, hK1, hD1⟩ := hB
      rw [ht] at hP1
      obtain ⟨hP, hD⟩ := va_joinQ (wr := [(qr, .inr (5, [.ref h0, .int (nI o)])), (qu, .inl (cI, 4096, .inl ug)), (q, .inr (4, [.int 0, .int (bI fl), va_rf fi, va_rf la]))]) (w1 := [(h0, .inr (8, [.ref qb, .ref qu, .int uc, .int ln, .int (nI n), .int (nI (skipB bf n p)), .int pl])), (qb, .inl (cB, 4096, .inl bf))]) hP hD [1, 2] [0, 3, 4] rfl rfl (by decide) (by decide) hk1 hFc hP1 hD1
      generalize H1 = H at hP hS ⊢
      have hP : va_P (dC, dI) classes ([(qr, .inr (5, [.ref h0, .int (nI o)])), (qu, .inl (cI, 4096, .inl ug)), (q, .inr (4, [.int 0, .int (bI fl), va_rf fi, va_rf la])), (h0, .inr (8, [.ref qb, .ref qu, .int uc, .int ln, .int (nI n), .int (nI (skipB bf n p)), .int pl])), (qb, .inl (cB, 4096, .inl bf))] ++ va_pl ((L ++ N)) f1) H := hP
      have hD : va_D A ([(qr, .inr (5, [.ref h0, .int (nI o)])), (qu, .inl (cI, 4096, .inl ug)), (q, .inr (4, [.int 0, .int (bI fl), va_rf fi, va_rf la])), (h0, .inr (8, [.ref qb, .ref qu, .int uc, .int ln, .int (nI n), .int (nI (skipB bf n p)), .int pl])), (qb, .inl (cB, 4096, .inl bf))] ++ va_pl ((L ++ N)) f1) := hD
      have hP := hP.part (cx := [(qr, .inr (5, [.ref h0, .int (nI o)])), (h0, .inr (8, [.ref qb, .ref qu, .int uc, .int ln, .int (nI n), .int (nI (skipB bf n p)), .int pl])), (qb, .inl (cB, 4096, .inl bf)), (qu, .inl (cI, 4096, .inl ug)), (q, .inr (4, [.int 0, .int (bI fl), va_rf fi, va_rf la]))]) [0, 3, 4, 1, 2] rfl
      have hD := hD.part (cx := [(qr, .inr (5, [.ref h0, .int (nI o)])), (h0, .inr (8, [.ref qb, .ref qu, .int uc, .int ln, .int (nI n), .int (nI (skipB bf n p)), .int pl])), (qb, .inl (cB, 4096, .inl bf)), (qu, .inl (cI, 4096, .inl ug)), (q, .inr (4, [.int 0, .int (bI fl), va_rf fi, va_rf la]))]) [0, 3, 4, 1, 2] (by decide) rfl
      obtain ⟨p22, h_p22⟩ : ∃ z, z = skipB bf n p := ⟨_, rfl⟩
      have hb_p22 := skip_b (f := bf) (show p ≤ n by omega)
      rw [← h_p22] at hP hD hb_p22
      have hP : va_P (dC, dI) classes ([(qr, .inr (5, [.ref h0, .int (nI o)])), (h0, .inr (8, [.ref qb, .ref qu, .int uc, .int ln, .int (nI n), .int (nI p22), .int pl])), (qb, .inl (cB, 4096, .inl bf)), (qu, .inl (cI, 4096, .inl ug)), (q, .inr (4, [.int 0, .int (bI fl), va_rf fi, va_rf la]))] ++ va_pl ((L ++ N)) f1) H := hP
      have hD : va_D A ([(qr, .inr (5, [.ref h0, .int (nI o)])), (h0, .inr (8, [.ref qb, .ref qu, .int uc, .int ln, .int (nI n), .int (nI p22), .int pl])), (qb, .inl (cB, 4096, .inl bf)), (qu, .inl (cI, 4096, .inl ug)), (q, .inr (4, [.int 0, .int (bI fl), va_rf fi, va_rf la]))] ++ va_pl ((L ++ N)) f1) := hD
      refine lv_aload_n hx hb d_QueryReader_query_63 rfl (lv_at hl 1 rfl) ?_
      refine va_get (D := (dC, dI)) (ci := 5) (v := .ref h0) (C := R_QueryReader) (T := F_QueryReader) (N := 2) hx hb hts in_QueryReader hown hK hP 0 rfl rfl 0 (by decide) (hts _ w_100) (fun _ h9 => h9) rfl d_QueryReader_query_64 ?_
      have hPc := hP.sub (ws' := [(h0, .inr (8, [.ref qb, .ref qu, .int uc, .int ln, .int (nI n), .int (nI p22), .int pl])), (qb, .inl (cB, 4096, .inl bf))]) [1, 2] rfl
      have hDc := hD.sub (ws' := [(h0, .inr (8, [.ref qb, .ref qu, .int uc, .int ln, .int (nI n), .int (nI p22), .int pl])), (qb, .inl (cB, 4096, .inl bf))]) [1, 2] (by decide) rfl
      have hFc := va_free (wc := [(h0, .inr (8, [.ref qb, .ref qu, .int uc, .int ln, .int (nI n), .int (nI p22), .int pl])), (qb, .inl (cB, 4096, .inl bf))]) hD hS hA [1, 2] rfl
      have hKc := hK.sub (tys' := [(cB, .byte)]) [0] rfl
      refine va_calli (va_runV (As := []) (rest := []) ⟨hx, hb, hml, hown, hts⟩ (c_Tape_here l dC dI cB h0 qb H (.ref qu) uc ln pl bf n p22 hn0 (by omega)) (cwV 0 hts (gt_V (own := R_QueryReader) (C := R_Tape) (i := 19) (y := y_Tape_here) i_Tape_here z_534 w_363 w_364 w_2) rfl rfl rfl (by decide +kernel) ⟨by show 0 + 1 ≤ 12 * (16 - o) + 14; omega, by show 8 + (1 + 11) + (0) ≤ 360 * (16 - o) + 420; omega⟩) ⟨mp_blind, va_recv hK hP (ci := 8) (q0 := 1) rfl rfl, fun U hU hW => ⟨rfl, hU, by rw [hU]; exact hPc, va_K.moved hW.alike hKc, hDc.weaken (fun _ _ _ _ => trivial)⟩⟩ rfl rfl hl.1 rfl (lv_room (Nat.le_of_ble_eq_true rfl)) d_QueryReader_query_67 ⟨by show (8 * (p - i) - 7) + (0) ≤ 8 * (n - i) + 4; omega, by show (64 * (p - i) - 60) + (0) ≤ 64 * (n - i) + 50; omega⟩) hS (fun q _ h => hFc q h) hFc (fun h23 _u t9 H1 locs ht hvm hw hB hz1 hk1 hS => ?_)
      obtain ⟨hP1, hK1, hD1⟩ := hB
      rw [ht] at hP1
      obtain ⟨hP, hD⟩ := va_joinQ (wr := [(qr, .inr (5, [.ref h0, .int (nI o)])), (qu, .inl (cI, 4096, .inl ug)), (q, .inr (4, [.int 0, .int (bI fl), va_rf fi, va_rf la]))]) (w1 := [(h0, .inr (8, [.ref qb, .ref qu, .int uc, .int ln, .int (nI n), .int (nI p22), .int pl])), (qb, .inl (cB, 4096, .inl bf))]) hP hD [1, 2] [0, 3, 4] rfl rfl (by decide) (by decide) hk1 hFc hP1 hD1
      generalize H1 = H at hP hS ⊢
      have hP : va_P (dC, dI) classes ([(qr, .inr (5, [.ref h0, .int (nI o)])), (qu, .inl (cI, 4096, .inl ug)), (q, .inr (4, [.int 0, .int (bI fl), va_rf fi, va_rf la])), (h0, .inr (8, [.ref qb, .ref qu, .int uc, .int ln, .int (nI n), .int (nI p22), .int pl])), (qb, .inl (cB, 4096, .inl bf))] ++ va_pl ((L ++ N)) f1) H := hP
      have hD : va_D A ([(qr, .inr (5, [.ref h0, .int (nI o)])), (qu, .inl (cI, 4096, .inl ug)), (q, .inr (4, [.int 0, .int (bI fl), va_rf fi, va_rf la])), (h0, .inr (8, [.ref qb, .ref qu, .int uc, .int ln, .int (nI n), .int (nI p22), .int pl])), (qb, .inl (cB, 4096, .inl bf))] ++ va_pl ((L ++ N)) f1) := hD
      have hP := hP.part (cx := [(qr, .inr (5, [.ref h0, .int (nI o)])), (h0, .inr (8, [.ref qb, .ref qu, .int uc, .int ln, .int (nI n), .int (nI p22), .int pl])), (qb, .inl (cB, 4096, .inl bf)), (qu, .inl (cI, 4096, .inl ug)), (q, .inr (4, [.int 0, .int (bI fl), va_rf fi, va_rf la]))]) [0, 3, 4, 1, 2] rfl
      have hD := hD.part (cx := [(qr, .inr (5, [.ref h0, .int (nI o)])), (h0, .inr (8, [.ref qb, .ref qu, .int uc, .int ln, .int (nI n), .int (nI p22), .int pl])), (qb, .inl (cB, 4096, .inl bf)), (qu, .inl (cI, 4096, .inl ug)), (q, .inr (4, [.int 0, .int (bI fl), va_rf fi, va_rf la]))]) [0, 3, 4, 1, 2] (by decide) rfl
      have h_h23 : h23 = hereV bf n p22 := hw
      refine lv_bipush (v := 46) hx hb d_QueryReader_query_70 (by decide) ?_
      refine lv_icmp_eq (tgt := 98) hx hb d_QueryReader_query_72 (by decide) (fun c72 => ?_) (fun c72 => ?_)
      · refine lv_aload_n hx hb d_QueryReader_query_98 rfl (lv_at hl 3 rfl) ?_
        refine lv_aload_n hx hb d_QueryReader_query_99 rfl (lv_at hl 1 rfl) ?_
        refine lv_iload_n hx hb d_QueryReader_query_100 rfl (lv_at hl 2 rfl) ?_
        have hyz : ∀ a, la = some a → a < H.size := fun a ha => va_pl_lt hP (hG.po.inL (by rw [(hCh.2.1 a ha).2]; decide))
        have hG24 := hG.mv (show p ≤ p22 by omega) (show p22 ≤ n by omega)
        have hzz24 : s.heap.size ≤ H.size := hS.1
        have hPc := hP.part (cx := [(qr, .inr (5, [.ref h0, .int (nI o)])), (h0, .inr (8, [.ref qb, .ref qu, .int uc, .int ln, .int (nI n), .int (nI p22), .int pl])), (qb, .inl (cB, 4096, .inl bf)), (qu, .inl (cI, 4096, .inl ug))]) [0, 1, 2, 3] rfl
        have hDc := hD.part (cx := [(qr, .inr (5, [.ref h0, .int (nI o)])), (h0, .inr (8, [.ref qb, .ref qu, .int uc, .int ln, .int (nI n), .int (nI p22), .int pl])), (qb, .inl (cB, 4096, .inl bf)), (qu, .inl (cI, 4096, .inl ug))]) [0, 1, 2, 3] (by decide) rfl
        have hFc := va_freeP (cx := [(qr, .inr (5, [.ref h0, .int (nI o)])), (h0, .inr (8, [.ref qb, .ref qu, .int uc, .int ln, .int (nI n), .int (nI p22), .int pl])), (qb, .inl (cB, 4096, .inl bf)), (qu, .inl (cI, 4096, .inl ug))]) hD hS hA [0, 1, 2, 3] rfl
        have hKc := hK.sub (tys' := [(cB, .byte), (cI, .int), (cV, .object "QueryBench$Value")]) [0, 1, 2] rfl
        refine w_same (fun hq0 => ?_)
        refine vx_callr (vx_runV (As := [.int nw]) (rest := [.ref q]) ⟨hx, hb, hml, hown, hts⟩ ((HG nw) H E1 lv1 (L ++ N) f1 p22 uc pl ug hG24.po (by omega)) (cwV 1 hts (gt_V (own := R_QueryReader) (C := R_QueryReader) (i := 47) (y := y_QueryReader_segment) i_QueryReader_segment z_564 z_566 (gt_sel (y := y_QueryReader_segment) (n := 2) (by decide +kernel)) w_4) rfl rfl rfl (by decide +kernel) ⟨by show 12 * (16 - o) + 13 + 1 ≤ 12 * (16 - o) + 14; omega, by show 8 + (5 + 11) + (360 * (16 - o) + 390) ≤ 360 * (16 - o) + 420; omega⟩) ⟨ml_blind, va_recv hK hP (ci := 5) (q0 := 0) rfl rfl, fun U hU hW => ⟨rfl, ⟨hU, by rw [hU]; exact hPc, va_K.moved hW.alike hKc, hDc.weaken (fun _ _ _ _ => trivial)⟩, hN.warm hW, by rw [hU]; exact ZX.moved' hW.alike (ZX.narrow' (ZX.kept' hZ hS.2.1) hFc), by rw [hU]; exact CE.call hC hS.2.1 hFc hW, va_AO.moved hW.alike hV⟩⟩ rfl rfl hl.1 rfl (lv_room (Nat.le_of_ble_eq_true rfl)) d_QueryReader_query_101 ⟨by show (8 * (p - i) - 7) + (8 * (n - p22) + 7) ≤ 8 * (n - i) + 4; omega, by show (64 * (p - i) - 60) + (64 * (n - p22) + 100) ≤ 64 * (n - i) + 50; omega⟩) hS (fun q _ h => hFc q h) hFc (fun q _ h => hFc q h) (fun En ce q9 ⟨ax, cx, px, gx, ox⟩ t9 H1 locs ht hvm hw hB hz1 hk1 hS hce hcv hcl => ?_) (fun ⟨w24, p24, N24, E24, f24, uc24, ug24⟩ v24 t9 H1 locs ht hvm hw hB hz1 hk1 hS => ?_)
        · obtain ⟨hEn, hP1, hK1, hD1⟩ := hB
          rw [ht] at hP1
          obtain ⟨hP, hD⟩ := va_joinP (wr := [(q, .inr (4, [.int 0, .int (bI fl), va_rf fi, va_rf la]))]) (rx := [(qr, .inr (5, [.ref h0, .int ox])), (h0, .inr (8, [.ref qb, .ref qu, .int cx, .int ln, .int (nI n), .int ax, .int px])), (qb, .inl (cB, 4096, .inl bf)), (qu, .inl (cI, 4096, .inl gx))]) (pl1 := va_pl ((L ++ N)) f1) hP hD [0, 1, 2, 3] [4] rfl rfl (by decide) (by decide) hk1 hFc hP1 hD1
          generalize H1 = H at hP hS hce ⊢
          have hP : va_P (dC, dI) classes ([(q, .inr (4, [.int 0, .int (bI fl), va_rf fi, va_rf la])), (qr, .inr (5, [.ref h0, .int ox])), (h0, .inr (8, [.ref qb, .ref qu, .int cx, .int ln, .int (nI n), .int ax, .int px])), (qb, .inl (cB, 4096, .inl bf)), (qu, .inl (cI, 4096, .inl gx))] ++ va_pl ((L ++ N)) f1) H := hP
          have hD : va_D A ([(q, .inr (4, [.int 0, .int (bI fl), va_rf fi, va_rf la])), (qr, .inr (5, [.ref h0, .int ox])), (h0, .inr (8, [.ref qb, .ref qu, .int cx, .int ln, .int (nI n), .int ax, .int px])), (qb, .inl (cB, 4096, .inl bf)), (qu, .inl (cI, 4096, .inl gx))] ++ va_pl ((L ++ N)) f1) := hD
          have hP := hP.part (cx := [(qr, .inr (5, [.ref h0, .int ox])), (h0, .inr (8, [.ref qb, .ref qu, .int cx, .int ln, .int (nI n), .int ax, .int px])), (qb, .inl (cB, 4096, .inl bf)), (qu, .inl (cI, 4096, .inl gx)), (q, .inr (4, [.int 0, .int (bI fl), va_rf fi, va_rf la]))]) [1, 2, 3, 4, 0] rfl
          have hD := hD.part (cx := [(qr, .inr (5, [.ref h0, .int ox])), (h0, .inr (8, [.ref qb, .ref qu, .int cx, .int ln, .int (nI n), .int ax, .int px])), (qb, .inl (cB, 4096, .inl bf)), (qu, .inl (cI, 4096, .inl gx)), (q, .inr (4, [.int 0, .int (bI fl), va_rf fi, va_rf la]))]) [1, 2, 3, 4, 0] (by decide) rfl
          have hP := plP_cut (hP.part (cx := [(qr, .inr (5, [.ref h0, .int ox])), (h0, .inr (8, [.ref qb, .ref qu, .int cx, .int ln, .int (nI n), .int ax, .int px])), (qb, .inl (cB, 4096, .inl bf)), (qu, .inl (cI, 4096, .inl gx))]) [0, 1, 2, 3] rfl) hG24.on
          have hD := plD_cut (hD.part (cx := [(qr, .inr (5, [.ref h0, .int ox])), (h0, .inr (8, [.ref qb, .ref qu, .int cx, .int ln, .int (nI n), .int ax, .int px])), (qb, .inl (cB, 4096, .inl bf)), (qu, .inl (cI, 4096, .inl gx))]) [0, 1, 2, 3] (by decide) rfl) hG24.on
          have hno : (qrD bf n ok orL (nwB nw)) i = none := hQf.trans (mp_none (qrLD_0 hmL h_p22 (Or.inl (h_h23.symm.trans c72)) hw))
          exact vx_out (fun x hx => (hex x hx).elim) hlocks hce hcv hcl (fun t9 ht2 ha => ⟨(ax, cx, px, gx, ox), hno, ⟨hEn, by rw [ht2]; exact hP, va_K.moved ha hK, hD⟩, hS.F ht2⟩) hS.2.2 (by show (8 * (p - i) - 7) + (8 * (n - p22) + 7) ≤ 8 * (n - i) + 4; omega) (by show (64 * (p - i) - 60) + (64 * (n - p22) + 100) ≤ 64 * (n - i) + 50; omega)
        · obtain ⟨⟨hP1, hK1, hD1⟩, hz9, ha9⟩ := hB
          rw [ht] at hP1
          rw [ht] at hz9
          have ha9 : v24 = w24 := ha9
          subst ha9
          have hq0 : szk s.heap H1 ((8 * (p - i) - 7) + (8 * (p24 - p22) + 0 - 5)) ((64 * (p - i) - 60) + (64 * (p24 - p22) + 0 - 51)) := (hq0.trans hz9).mono (Nat.le_refl _) (Nat.le_refl _)
          refine w_tight hq0 ?_
          obtain ⟨hP, hD⟩ := va_joinP (wr := [(q, .inr (4, [.int 0, .int (bI fl), va_rf fi, va_rf la]))]) (rx := [(qr, .inr (5, [.ref h0, .int (nI o)])), (h0, .inr (8, [.ref qb, .ref qu, .int uc24, .int ln, .int (nI n), .int (nI p24), .int pl])), (qb, .inl (cB, 4096, .inl bf)), (qu, .inl (cI, 4096, .inl ug24))]) (pl1 := va_pl (((L ++ N) ++ N24)) f24) hP hD [0, 1, 2, 3] [4] rfl rfl (by decide) (by decide) hk1 hFc hP1 hD1
          generalize H1 = H at hP hS hq0 ⊢
          have hP : va_P (dC, dI) classes ([(q, .inr (4, [.int 0, .int (bI fl), va_rf fi, va_rf la])), (qr, .inr (5, [.ref h0, .int (nI o)])), (h0, .inr (8, [.ref qb, .ref qu, .int uc24, .int ln, .int (nI n), .int (nI p24), .int pl])), (qb, .inl (cB, 4096, .inl bf)), (qu, .inl (cI, 4096, .inl ug24))] ++ va_pl (((L ++ N) ++ N24)) f24) H := hP
          have hD : va_D A ([(q, .inr (4, [.int 0, .int (bI fl), va_rf fi, va_rf la])), (qr, .inr (5, [.ref h0, .int (nI o)])), (h0, .inr (8, [.ref qb, .ref qu, .int uc24, .int ln, .int (nI n), .int (nI p24), .int pl])), (qb, .inl (cB, 4096, .inl bf)), (qu, .inl (cI, 4096, .inl ug24))] ++ va_pl (((L ++ N) ++ N24)) f24) := hD
          have hP := hP.part (cx := [(qr, .inr (5, [.ref h0, .int (nI o)])), (h0, .inr (8, [.ref qb, .ref qu, .int uc24, .int ln, .int (nI n), .int (nI p24), .int pl])), (qb, .inl (cB, 4096, .inl bf)), (qu, .inl (cI, 4096, .inl ug24)), (q, .inr (4, [.int 0, .int (bI fl), va_rf fi, va_rf la]))]) [1, 2, 3, 4, 0] rfl
          have hD := hD.part (cx := [(qr, .inr (5, [.ref h0, .int (nI o)])), (h0, .inr (8, [.ref qb, .ref qu, .int uc24, .int ln, .int (nI n), .int (nI p24), .int pl])), (qb, .inl (cB, 4096, .inl bf)), (qu, .inl (cI, 4096, .inl ug24)), (q, .inr (4, [.int 0, .int (bI fl), va_rf fi, va_rf la]))]) [1, 2, 3, 4, 0] (by decide) rfl
          obtain ⟨hw, m24, hf24, hd24⟩ := hw
          have hf24 : (segD bf n ok orL (nwB nw)) p22 = some (p24, sgG f24 v24, m24) := hf24
          have hd24 : DNx GD 2 E1 E24 f24 v24 m24 := hd24
          have hQ24 : QPn cI cV E1 (L ++ N) f1 p22 n _ 8 (5 * (16 - o)) 1 v24 p24 N24 E24 f24 := hw
          obtain ⟨lv24, hg24, hlv24⟩ := hQ24.x lv1 hG24.po _ (Nat.le_refl _)
          have hex24 := hg24.ex
          have hge24 := hg24.ge hQ24.new (by rw [hQ24.so]; decide)
          have hkp24 : KPx E1 E24 f1 f24 := KPx.of hg24 hG24.po
          have hnv24 : E1 v24 = 0 := hQ24.new
          have hsv24 : ¬ E24 v24 = 0 := by rw [hQ24.so]; decide
          have hG24 := hG24.tr hg24 hzz24
          obtain ⟨ha24, hb24⟩ := hQ24.num
          have ha24 : p22 + 1 ≤ p24 := ha24
          have hb24 : p24 ≤ n := hb24
          rw [List.append_assoc] at hP hD
          have hP : va_P (dC, dI) classes ([(qr, .inr (5, [.ref h0, .int (nI o)])), (h0, .inr (8, [.ref qb, .ref qu, .int uc24, .int ln, .int (nI n), .int (nI p24), .int pl])), (qb, .inl (cB, 4096, .inl bf)), (qu, .inl (cI, 4096, .inl ug24)), (q, .inr (4, [.int 0, .int (bI fl), va_rf fi, va_rf la]))] ++ va_pl ((L ++ (N ++ N24))) f24) H := hP
          have hD : va_D A ([(qr, .inr (5, [.ref h0, .int (nI o)])), (h0, .inr (8, [.ref qb, .ref qu, .int uc24, .int ln, .int (nI n), .int (nI p24), .int pl])), (qb, .inl (cB, 4096, .inl bf)), (qu, .inl (cI, 4096, .inl ug24)), (q, .inr (4, [.int 0, .int (bI fl), va_rf fi, va_rf la]))] ++ va_pl ((L ++ (N ++ N24))) f24) := hD
          have hQf2 : qrD bf n ok orL (nwB nw) i = (qrLD bf n ok orL (nwB nw) (4097 - (m9 + 1)) p24 (fl && sgG f24 v24)).map (fun q => (q.1, q.2.1, qryS (decide (hereV bf n i = 36)) ((l9 ++ [m24]) ++ q.2.2))) := qr_map (ok := ok) (f := bf) (n := n) (orL := orL) (nw := nwB nw) hQf (qrLD_s hmL h_p22 (Or.inl (h_h23.symm.trans c72)) hf24)
          have hsn := hQ24.so
          have hla : oR (fun z => E24 z = 8 ∧ lv24 v24 ≤ lv24 z ∧ z < v24) la := fun a ha => ⟨(hex24 a (by rw [(hCh.2.1 a ha).2]; decide)).trans (hCh.2.1 a ha).2, by rw [hg24.lve a (by rw [(hCh.2.1 a ha).2]; decide), hly a ha]; exact Nat.le_of_eq hlv24, Nat.lt_of_lt_of_le (hyz a ha) hge24⟩
          have hyL : ∀ a, la = some a → a < _ ∧ a ∉ L := fun a ha => ⟨hyz a ha, fun h => absurd (hLz a h) (Nat.not_lt.mpr (hG.ge (hCh.2.1 a ha).1 (by rw [(hCh.2.1 a ha).2]; decide)))⟩
          have hPc := hP.part (cx := [(q, .inr (4, [.int 0, .int (bI fl), va_rf fi, va_rf la]))]) [4] rfl
          have hDc := hD.part (cx := [(q, .inr (4, [.int 0, .int (bI fl), va_rf fi, va_rf la]))]) [4] (by decide) rfl
          have hFc := va_freeP (cx := [(q, .inr (4, [.int 0, .int (bI fl), va_rf fi, va_rf la]))]) hD hS hA [4] rfl
          have hKc := hK.sub (tys' := [(cI, .int), (cV, .object "QueryBench$Value")]) [1, 2] rfl
          refine w_same (fun hq0 => ?_)
          refine va_callv (va_runV (As := [.ref v24]) (rest := []) ⟨hx, hb, hml, hown, hts⟩ (c_Query_add l dC dI H cI cV E24 lv24 (L ++ (N ++ N24)) f24 hG24.po q 0 fl fi la v24 hsn hla) (cwV 1 hts (gt_V (own := R_QueryReader) (C := R_Query) (i := 51) (y := y_Query_add) i_Query_add z_796 z_797 z_798 z_23) rfl rfl rfl (by decide +kernel) ⟨by show 1 + 1 ≤ 12 * (16 - o) + 14; omega, by show 8 + (2 + 11) + (40) ≤ 360 * (16 - o) + 420; omega⟩) ⟨mn_blind, va_recv hK hP (ci := 4) (q0 := 4) rfl rfl, fun U hU hW => ⟨rfl, ⟨hU, by rw [hU]; exact hPc, va_K.moved hW.alike hKc, hDc.weaken (fun _ _ _ _ => trivial)⟩, hN.warm hW⟩⟩ rfl rfl hl.1 rfl (lv_room (Nat.le_of_ble_eq_true rfl)) d_QueryReader_query_104 ⟨by show ((8 * (p - i) - 7) + (8 * (p24 - p22) + 0 - 5)) + (0) ≤ 8 * (n - i) + 4; omega, by show ((64 * (p - i) - 60) + (64 * (p24 - p22) + 0 - 51)) + (0) ≤ 64 * (n - i) + 50; omega⟩) hS (fun q _ h => hFc q h) hFc (fun ⟨fi4, f4⟩ t9 H1 locs ht hvm hw hB hz1 hk1 hS => ?_)
          obtain ⟨⟨hP1, hK1, hD1⟩, hz9⟩ := hB
          rw [ht] at hP1
          rw [ht] at hz9
          have hq0 : szk s.heap H1 (((8 * (p - i) - 7) + (8 * (p24 - p22) + 0 - 5))) (((64 * (p - i) - 60) + (64 * (p24 - p22) + 0 - 51))) := (hq0.trans hz9).mono (Nat.le_of_eq (Nat.add_zero _)) (Nat.le_of_eq (Nat.add_zero _))
          refine w_tight hq0 ?_
          obtain ⟨hP, hD⟩ := va_joinP (wr := [(qr, .inr (5, [.ref h0, .int (nI o)])), (h0, .inr (8, [.ref qb, .ref qu, .int uc24, .int ln, .int (nI n), .int (nI p24), .int pl])), (qb, .inl (cB, 4096, .inl bf)), (qu, .inl (cI, 4096, .inl ug24))]) (rx := [(q, .inr (4, [.int 0, .int (bI (fl && sgG f24 v24)), va_rf fi4, .ref v24]))]) (pl1 := va_pl ((L ++ (N ++ N24))) f4) hP hD [4] [0, 1, 2, 3] rfl rfl (by decide) (by decide) hk1 hFc hP1 hD1
          generalize H1 = H at hP hS hq0 ⊢
          have hP : va_P (dC, dI) classes ([(qr, .inr (5, [.ref h0, .int (nI o)])), (h0, .inr (8, [.ref qb, .ref qu, .int uc24, .int ln, .int (nI n), .int (nI p24), .int pl])), (qb, .inl (cB, 4096, .inl bf)), (qu, .inl (cI, 4096, .inl ug24)), (q, .inr (4, [.int 0, .int (bI (fl && sgG f24 v24)), va_rf fi4, .ref v24]))] ++ va_pl ((L ++ (N ++ N24))) f4) H := hP
          have hD : va_D A ([(qr, .inr (5, [.ref h0, .int (nI o)])), (h0, .inr (8, [.ref qb, .ref qu, .int uc24, .int ln, .int (nI n), .int (nI p24), .int pl])), (qb, .inl (cB, 4096, .inl bf)), (qu, .inl (cI, 4096, .inl ug24)), (q, .inr (4, [.int 0, .int (bI (fl && sgG f24 v24)), va_rf fi4, .ref v24]))] ++ va_pl ((L ++ (N ++ N24))) f4) := hD
          obtain ⟨-, hw3, hw4⟩ := hw
          have hC2 := hCh.next hG.ex hQ24 (by omega) (by omega) hzz24 hyL (by omega) hex24 hw3 hw4
          have hQI2 := hQI.next hlaE hd24 hnv24 hkp24 hG.ex hw3 hw4
          refine lv_iinc (v := nI (m9 + 1)) (lv' := [(3, .int (nI (m9 + 1))), (4, .int (nI p)), (0, .ref qr), (1, .int nw), (2, .ref q)]) hx hb d_QueryReader_query_107 hl (k := 4) rfl (nI_1 _) (by decide) rfl (fun ls hl => ?_)
          refine lv_goto (tgt := 40) hx hb d_QueryReader_query_110 (by decide) ?_
          refine w_same (fun hq => ?_)
          refine W.widen (k := 8 * (n - i) + 4) (n := 64 * (n - i) + 50) (by show ((8 * (p - i) - 7) + (8 * (p24 - p22) + 0 - 5)) ≤ 8 * (n - i) + 4; omega) (by show ((64 * (p - i) - 60) + (64 * (p24 - p22) + 0 - 51)) ≤ 64 * (n - i) + 50; omega) ?_
          exact ih (m9 + 1, fi4, some v24, fl && sgG f24 v24, p24, (N ++ N24), E24, f4, uc24, ug24, l9 ++ [m24]) _ _ _ ⟨show m9 + 1 ≤ 4096 by omega, show m9 + 1 + i + 1 ≤ p24 by omega, hC2, hq.mono (by show ((8 * (p - i) - 7) + (8 * (p24 - p22) + 0 - 5)) ≤ 8 * (p24 - i) - 7; omega) (by show ((64 * (p - i) - 60) + (64 * (p24 - p22) + 0 - 51)) ≤ 64 * (p24 - i) - 60; omega), hQf2, hQI2⟩ (by show 4097 - (m9 + 1) < 4097 - m9; omega) hP hD hS (lv_sub hl [2, 3, 4, 0] rfl)
      · refine lv_aload_n hx hb d_QueryReader_query_75 rfl (lv_at hl 1 rfl) ?_
        refine va_get (D := (dC, dI)) (ci := 5) (v := .ref h0) (C := R_QueryReader) (T := F_QueryReader) (N := 2) hx hb hts in_QueryReader hown hK hP 0 rfl rfl 0 (by decide) (hts _ w_100) (fun _ h9 => h9) rfl d_QueryReader_query_76 ?_
        have hPc := hP.sub (ws' := [(h0, .inr (8, [.ref qb, .ref qu, .int uc, .int ln, .int (nI n), .int (nI p22), .int pl])), (qb, .inl (cB, 4096, .inl bf))]) [1, 2] rfl
        have hDc := hD.sub (ws' := [(h0, .inr (8, [.ref qb, .ref qu, .int uc, .int ln, .int (nI n), .int (nI p22), .int pl])), (qb, .inl (cB, 4096, .inl bf))]) [1, 2] (by decide) rfl
        have hFc := va_free (wc := [(h0, .inr (8, [.ref qb, .ref qu, .int uc, .int ln, .int (nI n), .int (nI p22), .int pl])), (qb, .inl (cB, 4096, .inl bf))]) hD hS hA [1, 2] rfl
        have hKc := hK.sub (tys' := [(cB, .byte)]) [0] rfl
        refine va_calli (va_runV (As := []) (rest := []) ⟨hx, hb, hml, hown, hts⟩ (c_Tape_here l dC dI cB h0 qb H (.ref qu) uc ln pl bf n p22 hn0 (by omega)) (cwV 0 hts (gt_V (own := R_QueryReader) (C := R_Tape) (i := 19) (y := y_Tape_here) i_Tape_here z_534 w_363 w_364 w_2) rfl rfl rfl (by decide +kernel) ⟨by show 0 + 1 ≤ 12 * (16 - o) + 14; omega, by show 8 + (1 + 11) + (0) ≤ 360 * (16 - o) + 420; omega⟩) ⟨mp_blind, va_recv hK hP (ci := 8) (q0 := 1) rfl rfl, fun U hU hW => ⟨rfl, hU, by rw [hU]; exact hPc, va_K.moved hW.alike hKc, hDc.weaken (fun _ _ _ _ => trivial)⟩⟩ rfl rfl hl.1 rfl (lv_room (Nat.le_of_ble_eq_true rfl)) d_QueryReader_query_79 ⟨by show (8 * (p - i) - 7) + (0) ≤ 8 * (n - i) + 4; omega, by show (64 * (p - i) - 60) + (0) ≤ 64 * (n - i) + 50; omega⟩) hS (fun q _ h => hFc q h) hFc (fun h25 _u t9 H1 locs ht hvm hw hB hz1 hk1 hS => ?_)
        obtain ⟨hP1, hK1, hD1⟩ := hB
        rw [ht] at hP1
        obtain ⟨hP, hD⟩ := va_joinQ (wr := [(qr, .inr (5, [.ref h0, .int (nI o)])), (qu, .inl (cI, 4096, .inl ug)), (q, .inr (4, [.int 0, .int (bI fl), va_rf fi, va_rf la]))]) (w1 := [(h0, .inr (8, [.ref qb, .ref qu, .int uc, .int ln, .int (nI n), .int (nI p22), .int pl])), (qb, .inl (cB, 4096, .inl bf))]) hP hD [1, 2] [0, 3, 4] rfl rfl (by decide) (by decide) hk1 hFc hP1 hD1
        generalize H1 = H at hP hS ⊢
        have hP : va_P (dC, dI) classes ([(qr, .inr (5, [.ref h0, .int (nI o)])), (qu, .inl (cI, 4096, .inl ug)), (q, .inr (4, [.int 0, .int (bI fl), va_rf fi, va_rf la])), (h0, .inr (8, [.ref qb, .ref qu, .int uc, .int ln, .int (nI n), .int (nI p22), .int pl])), (qb, .inl (cB, 4096, .inl bf))] ++ va_pl ((L ++ N)) f1) H := hP
        have hD : va_D A ([(qr, .inr (5, [.ref h0, .int (nI o)])), (qu, .inl (cI, 4096, .inl ug)), (q, .inr (4, [.int 0, .int (bI fl), va_rf fi, va_rf la])), (h0, .inr (8, [.ref qb, .ref qu, .int uc, .int ln, .int (nI n), .int (nI p22), .int pl])), (qb, .inl (cB, 4096, .inl bf))] ++ va_pl ((L ++ N)) f1) := hD
        have hP := hP.part (cx := [(qr, .inr (5, [.ref h0, .int (nI o)])), (h0, .inr (8, [.ref qb, .ref qu, .int uc, .int ln, .int (nI n), .int (nI p22), .int pl])), (qb, .inl (cB, 4096, .inl bf)), (qu, .inl (cI, 4096, .inl ug)), (q, .inr (4, [.int 0, .int (bI fl), va_rf fi, va_rf la]))]) [0, 3, 4, 1, 2] rfl
        have hD := hD.part (cx := [(qr, .inr (5, [.ref h0, .int (nI o)])), (h0, .inr (8, [.ref qb, .ref qu, .int uc, .int ln, .int (nI n), .int (nI p22), .int pl])), (qb, .inl (cB, 4096, .inl bf)), (qu, .inl (cI, 4096, .inl ug)), (q, .inr (4, [.int 0, .int (bI fl), va_rf fi, va_rf la]))]) [0, 3, 4, 1, 2] (by decide) rfl
        have h_h25 : h25 = hereV bf n p22 := hw
        refine lv_bipush (v := 91) hx hb d_QueryReader_query_82 (by decide) ?_
        refine lv_icmp_eq (tgt := 98) hx hb d_QueryReader_query_84 (by decide) (fun c84 => ?_) (fun c84 => ?_)
        · refine lv_aload_n hx hb d_QueryReader_query_98 rfl (lv_at hl 3 rfl) ?_
          refine lv_aload_n hx hb d_QueryReader_query_99 rfl (lv_at hl 1 rfl) ?_
          refine lv_iload_n hx hb d_QueryReader_query_100 rfl (lv_at hl 2 rfl) ?_
          have hyz : ∀ a, la = some a → a < H.size := fun a ha => va_pl_lt hP (hG.po.inL (by rw [(hCh.2.1 a ha).2]; decide))
          have hG26 := hG.mv (show p ≤ p22 by omega) (show p22 ≤ n by omega)
          have hzz26 : s.heap.size ≤ H.size := hS.1
          have hPc := hP.part (cx := [(qr, .inr (5, [.ref h0, .int (nI o)])), (h0, .inr (8, [.ref qb, .ref qu, .int uc, .int ln, .int (nI n), .int (nI p22), .int pl])), (qb, .inl (cB, 4096, .inl bf)), (qu, .inl (cI, 4096, .inl ug))]) [0, 1, 2, 3] rfl
          have hDc := hD.part (cx := [(qr, .inr (5, [.ref h0, .int (nI o)])), (h0, .inr (8, [.ref qb, .ref qu, .int uc, .int ln, .int (nI n), .int (nI p22), .int pl])), (qb, .inl (cB, 4096, .inl bf)), (qu, .inl (cI, 4096, .inl ug))]) [0, 1, 2, 3] (by decide) rfl
          have hFc := va_freeP (cx := [(qr, .inr (5, [.ref h0, .int (nI o)])), (h0, .inr (8, [.ref qb, .ref qu, .int uc, .int ln, .int (nI n), .int (nI p22), .int pl])), (qb, .inl (cB, 4096, .inl bf)), (qu, .inl (cI, 4096, .inl ug))]) hD hS hA [0, 1, 2, 3] rfl
          have hKc := hK.sub (tys' := [(cB, .byte), (cI, .int), (cV, .object "QueryBench$Value")]) [0, 1, 2] rfl
          refine w_same (fun hq0 => ?_)
          refine vx_callr (vx_runV (As := [.int nw]) (rest := [.ref q]) ⟨hx, hb, hml, hown, hts⟩ ((HG nw) H E1 lv1 (L ++ N) f1 p22 uc pl ug hG26.po (by omega)) (cwV 1 hts (gt_V (own := R_QueryReader) (C := R_QueryReader) (i := 47) (y := y_QueryReader_segment) i_QueryReader_segment z_564 z_566 (gt_sel (y := y_QueryReader_segment) (n := 2) (by decide +kernel)) w_4) rfl rfl rfl (by decide +kernel) ⟨by show 12 * (16 - o) + 13 + 1 ≤ 12 * (16 - o) + 14; omega, by show 8 + (5 + 11) + (360 * (16 - o) + 390) ≤ 360 * (16 - o) + 420; omega⟩) ⟨ml_blind, va_recv hK hP (ci := 5) (q0 := 0) rfl rfl, fun U hU hW => ⟨rfl, ⟨hU, by rw [hU]; exact hPc, va_K.moved hW.alike hKc, hDc.weaken (fun _ _ _ _ => trivial)⟩, hN.warm hW, by rw [hU]; exact ZX.moved' hW.alike (ZX.narrow' (ZX.kept' hZ hS.2.1) hFc), by rw [hU]; exact CE.call hC hS.2.1 hFc hW, va_AO.moved hW.alike hV⟩⟩ rfl rfl hl.1 rfl (lv_room (Nat.le_of_ble_eq_true rfl)) d_QueryReader_query_101 ⟨by show (8 * (p - i) - 7) + (8 * (n - p22) + 7) ≤ 8 * (n - i) + 4; omega, by show (64 * (p - i) - 60) + (64 * (n - p22) + 100) ≤ 64 * (n - i) + 50; omega⟩) hS (fun q _ h => hFc q h) hFc (fun q _ h => hFc q h) (fun En ce q9 ⟨ax, cx, px, gx, ox⟩ t9 H1 locs ht hvm hw hB hz1 hk1 hS hce hcv hcl => ?_) (fun ⟨w26, p26, N26, E26, f26, uc26, ug26⟩ v26 t9 H1 locs ht hvm hw hB hz1 hk1 hS => ?_)
          · obtain ⟨hEn, hP1, hK1, hD1⟩ := hB
            rw [ht] at hP1
            obtain ⟨hP, hD⟩ := va_joinP (wr := [(q, .inr (4, [.int 0, .int (bI fl), va_rf fi, va_rf la]))]) (rx := [(qr, .inr (5, [.ref h0, .int ox])), (h0, .inr (8, [.ref qb, .ref qu, .int cx, .int ln, .int (nI n), .int ax, .int px])), (qb, .inl (cB, 4096, .inl bf)), (qu, .inl (cI, 4096, .inl gx))]) (pl1 := va_pl ((L ++ N)) f1) hP hD [0, 1, 2, 3] [4] rfl rfl (by decide) (by decide) hk1 hFc hP1 hD1
            generalize H1 = H at hP hS hce ⊢
            have hP : va_P (dC, dI) classes ([(q, .inr (4, [.int 0, .int (bI fl), va_rf fi, va_rf la])), (qr, .inr (5, [.ref h0, .int ox])), (h0, .inr (8, [.ref qb, .ref qu, .int cx, .int ln, .int (nI n), .int ax, .int px])), (qb, .inl (cB, 4096, .inl bf)), (qu, .inl (cI, 4096, .inl gx))] ++ va_pl ((L ++ N)) f1) H := hP
            have hD : va_D A ([(q, .inr (4, [.int 0, .int (bI fl), va_rf fi, va_rf la])), (qr, .inr (5, [.ref h0, .int ox])), (h0, .inr (8, [.ref qb, .ref qu, .int cx, .int ln, .int (nI n), .int ax, .int px])), (qb, .inl (cB, 4096, .inl bf)), (qu, .inl (cI, 4096, .inl gx))] ++ va_pl ((L ++ N)) f1) := hD
            have hP := hP.part (cx := [(qr, .inr (5, [.ref h0, .int ox])), (h0, .inr (8, [.ref qb, .ref qu, .int cx, .int ln, .int (nI n), .int ax, .int px])), (qb, .inl (cB, 4096, .inl bf)), (qu, .inl (cI, 4096, .inl gx)), (q, .inr (4, [.int 0, .int (bI fl), va_rf fi, va_rf la]))]) [1, 2, 3, 4, 0] rfl
            have hD := hD.part (cx := [(qr, .inr (5, [.ref h0, .int ox])), (h0, .inr (8, [.ref qb, .ref qu, .int cx, .int ln, .int (nI n), .int ax, .int px])), (qb, .inl (cB, 4096, .inl bf)), (qu, .inl (cI, 4096, .inl gx)), (q, .inr (4, [.int 0, .int (bI fl), va_rf fi, va_rf la]))]) [1, 2, 3, 4, 0] (by decide) rfl
            have hP := plP_cut (hP.part (cx := [(qr, .inr (5, [.ref h0, .int ox])), (h0, .inr (8, [.ref qb, .ref qu, .int cx, .int ln, .int (nI n), .int ax, .int px])), (qb, .inl (cB, 4096, .inl bf)), (qu, .inl (cI, 4096, .inl gx))]) [0, 1, 2, 3] rfl) hG26.on
            have hD := plD_cut (hD.part (cx := [(qr, .inr (5, [.ref h0, .int ox])), (h0, .inr (8, [.ref qb, .ref qu, .int cx, .int ln, .int (nI n), .int ax, .int px])), (qb, .inl (cB, 4096, .inl bf)), (qu, .inl (cI, 4096, .inl gx))]) [0, 1, 2, 3] (by decide) rfl) hG26.on
            have hno : (qrD bf n ok orL (nwB nw)) i = none := hQf.trans (mp_none (qrLD_0 hmL h_p22 (Or.inr (h_h25.symm.trans c84)) hw))
            exact vx_out (fun x hx => (hex x hx).elim) hlocks hce hcv hcl (fun t9 ht2 ha => ⟨(ax, cx, px, gx, ox), hno, ⟨hEn, by rw [ht2]; exact hP, va_K.moved ha hK, hD⟩, hS.F ht2⟩) hS.2.2 (by show (8 * (p - i) - 7) + (8 * (n - p22) + 7) ≤ 8 * (n - i) + 4; omega) (by show (64 * (p - i) - 60) + (64 * (n - p22) + 100) ≤ 64 * (n - i) + 50; omega)
          · obtain ⟨⟨hP1, hK1, hD1⟩, hz9, ha9⟩ := hB
            rw [ht] at hP1
            rw [ht] at hz9
            have ha9 : v26 = w26 := ha9
            subst ha9
            have hq0 : szk s.heap H1 ((8 * (p - i) - 7) + (8 * (p26 - p22) + 0 - 5)) ((64 * (p - i) - 60) + (64 * (p26 - p22) + 0 - 51)) := (hq0.trans hz9).mono (Nat.le_refl _) (Nat.le_refl _)
            refine w_tight hq0 ?_
            obtain ⟨hP, hD⟩ := va_joinP (wr := [(q, .inr (4, [.int 0, .int (bI fl), va_rf fi, va_rf la]))]) (rx := [(qr, .inr (5, [.ref h0, .int (nI o)])), (h0, .inr (8, [.ref qb, .ref qu, .int uc26, .int ln, .int (nI n), .int (nI p26), .int pl])), (qb, .inl (cB, 4096, .inl bf)), (qu, .inl (cI, 4096, .inl ug26))]) (pl1 := va_pl (((L ++ N) ++ N26)) f26) hP hD [0, 1, 2, 3] [4] rfl rfl (by decide) (by decide) hk1 hFc hP1 hD1
            generalize H1 = H at hP hS hq0 ⊢
            have hP : va_P (dC, dI) classes ([(q, .inr (4, [.int 0, .int (bI fl), va_rf fi, va_rf la])), (qr, .inr (5, [.ref h0, .int (nI o)])), (h0, .inr (8, [.ref qb, .ref qu, .int uc26, .int ln, .int (nI n), .int (nI p26), .int pl])), (qb, .inl (cB, 4096, .inl bf)), (qu, .inl (cI, 4096, .inl ug26))] ++ va_pl (((L ++ N) ++ N26)) f26) H := hP
            have hD : va_D A ([(q, .inr (4, [.int 0, .int (bI fl), va_rf fi, va_rf la])), (qr, .inr (5, [.ref h0, .int (nI o)])), (h0, .inr (8, [.ref qb, .ref qu, .int uc26, .int ln, .int (nI n), .int (nI p26), .int pl])), (qb, .inl (cB, 4096, .inl bf)), (qu, .inl (cI, 4096, .inl ug26))] ++ va_pl (((L ++ N) ++ N26)) f26) := hD
            have hP := hP.part (cx := [(qr, .inr (5, [.ref h0, .int (nI o)])), (h0, .inr (8, [.ref qb, .ref qu, .int uc26, .int ln, .int (nI n), .int (nI p26), .int pl])), (qb, .inl (cB, 4096, .inl bf)), (qu, .inl (cI, 4096, .inl ug26)), (q, .inr (4, [.int 0, .int (bI fl), va_rf fi, va_rf la]))]) [1, 2, 3, 4, 0] rfl
            have hD := hD.part (cx := [(qr, .inr (5, [.ref h0, .int (nI o)])), (h0, .inr (8, [.ref qb, .ref qu, .int uc26, .int ln, .int (nI n), .int (nI p26), .int pl])), (qb, .inl (cB, 4096, .inl bf)), (qu, .inl (cI, 4096, .inl ug26)), (q, .inr (4, [.int 0, .int (bI fl), va_rf fi, va_rf la]))]) [1, 2, 3, 4, 0] (by decide) rfl
            obtain ⟨hw, m26, hf26, hd26⟩ := hw
            have hf26 : (segD bf n ok orL (nwB nw)) p22 = some (p26, sgG f26 v26, m26) := hf26
            have hd26 : DNx GD 2 E1 E26 f26 v26 m26 := hd26
            have hQ26 : QPn cI cV E1 (L ++ N) f1 p22 n _ 8 (5 * (16 - o)) 1 v26 p26 N26 E26 f26 := hw
            obtain ⟨lv26, hg26, hlv26⟩ := hQ26.x lv1 hG26.po _ (Nat.le_refl _)
            have hex26 := hg26.ex
            have hge26 := hg26.ge hQ26.new (by rw [hQ26.so]; decide)
            have hkp26 : KPx E1 E26 f1 f26 := KPx.of hg26 hG26.po
            have hnv26 : E1 v26 = 0 := hQ26.new
            have hsv26 : ¬ E26 v26 = 0 := by rw [hQ26.so]; decide
            have hG26 := hG26.tr hg26 hzz26
            obtain ⟨ha26, hb26⟩ := hQ26.num
            have ha26 : p22 + 1 ≤ p26 := ha26
            have hb26 : p26 ≤ n := hb26
            rw [List.append_assoc] at hP hD
            have hP : va_P (dC, dI) classes ([(qr, .inr (5, [.ref h0, .int (nI o)])), (h0, .inr (8, [.ref qb, .ref qu, .int uc26, .int ln, .int (nI n), .int (nI p26), .int pl])), (qb, .inl (cB, 4096, .inl bf)), (qu, .inl (cI, 4096, .inl ug26)), (q, .inr (4, [.int 0, .int (bI fl), va_rf fi, va_rf la]))] ++ va_pl ((L ++ (N ++ N26))) f26) H := hP
            have hD : va_D A ([(qr, .inr (5, [.ref h0, .int (nI o)])), (h0, .inr (8, [.ref qb, .ref qu, .int uc26, .int ln, .int (nI n), .int (nI p26), .int pl])), (qb, .inl (cB, 4096, .inl bf)), (qu, .inl (cI, 4096, .inl ug26)), (q, .inr (4, [.int 0, .int (bI fl), va_rf fi, va_rf la]))] ++ va_pl ((L ++ (N ++ N26))) f26) := hD
            have hQf2 : qrD bf n ok orL (nwB nw) i = (qrLD bf n ok orL (nwB nw) (4097 - (m9 + 1)) p26 (fl && sgG f26 v26)).map (fun q => (q.1, q.2.1, qryS (decide (hereV bf n i = 36)) ((l9 ++ [m26]) ++ q.2.2))) := qr_map (ok := ok) (f := bf) (n := n) (orL := orL) (nw := nwB nw) hQf (qrLD_s hmL h_p22 (Or.inr (h_h25.symm.trans c84)) hf26)
            have hsn := hQ26.so
            have hla : oR (fun z => E26 z = 8 ∧ lv26 v26 ≤ lv26 z ∧ z < v26) la := fun a ha => ⟨(hex26 a (by rw [(hCh.2.1 a ha).2]; decide)).trans (hCh.2.1 a ha).2, by rw [hg26.lve a (by rw [(hCh.2.1 a ha).2]; decide), hly a ha]; exact Nat.le_of_eq hlv26, Nat.lt_of_lt_of_le (hyz a ha) hge26⟩
            have hyL : ∀ a, la = some a → a < _ ∧ a ∉ L := fun a ha => ⟨hyz a ha, fun h => absurd (hLz a h) (Nat.not_lt.mpr (hG.ge (hCh.2.1 a ha).1 (by rw [(hCh.2.1 a ha).2]; decide)))⟩
            have hPc := hP.part (cx := [(q, .inr (4, [.int 0, .int (bI fl), va_rf fi, va_rf la]))]) [4] rfl
            have hDc := hD.part (cx := [(q, .inr (4, [.int 0, .int (bI fl), va_rf fi, va_rf la]))]) [4] (by decide) rfl
            have hFc := va_freeP (cx := [(q, .inr (4, [.int 0, .int (bI fl), va_rf fi, va_rf la]))]) hD hS hA [4] rfl
            have hKc := hK.sub (tys' := [(cI, .int), (cV, .object "QueryBench$Value")]) [1, 2] rfl
            refine w_same (fun hq0 => ?_)
            refine va_callv (va_runV (As := [.ref v26]) (rest := []) ⟨hx, hb, hml, hown, hts⟩ (c_Query_add l dC dI H cI cV E26 lv26 (L ++ (N ++ N26)) f26 hG26.po q 0 fl fi la v26 hsn hla) (cwV 1 hts (gt_V (own := R_QueryReader) (C := R_Query) (i := 51) (y := y_Query_add) i_Query_add z_796 z_797 z_798 z_23) rfl rfl rfl (by decide +kernel) ⟨by show 1 + 1 ≤ 12 * (16 - o) + 14; omega, by show 8 + (2 + 11) + (40) ≤ 360 * (16 - o) + 420; omega⟩) ⟨mn_blind, va_recv hK hP (ci := 4) (q0 := 4) rfl rfl, fun U hU hW => ⟨rfl, ⟨hU, by rw [hU]; exact hPc, va_K.moved hW.alike hKc, hDc.weaken (fun _ _ _ _ => trivial)⟩, hN.warm hW⟩⟩ rfl rfl hl.1 rfl (lv_room (Nat.le_of_ble_eq_true rfl)) d_QueryReader_query_104 ⟨by show ((8 * (p - i) - 7) + (8 * (p26 - p22) + 0 - 5)) + (0) ≤ 8 * (n - i) + 4; omega, by show ((64 * (p - i) - 60) + (64 * (p26 - p22) + 0 - 51)) + (0) ≤ 64 * (n - i) + 50; omega⟩) hS (fun q _ h => hFc q h) hFc (fun ⟨fi4, f4⟩ t9 H1 locs ht hvm hw hB hz1 hk1 hS => ?_)
            obtain ⟨⟨hP1, hK1, hD1⟩, hz9⟩ := hB
            rw [ht] at hP1
            rw [ht] at hz9
            have hq0 : szk s.heap H1 (((8 * (p - i) - 7) + (8 * (p26 - p22) + 0 - 5))) (((64 * (p - i) - 60) + (64 * (p26 - p22) + 0 - 51))) := (hq0.trans hz9).mono (Nat.le_of_eq (Nat.add_zero _)) (Nat.le_of_eq (Nat.add_zero _))
            refine w_tight hq0 ?_
            obtain ⟨hP, hD⟩ := va_joinP (wr := [(qr, .inr (5, [.ref h0, .int (nI o)])), (h0, .inr (8, [.ref qb, .ref qu, .int uc26, .int ln, .int (nI n), .int (nI p26), .int pl])), (qb, .inl (cB, 4096, .inl bf)), (qu, .inl (cI, 4096, .inl ug26))]) (rx := [(q, .inr (4, [.int 0, .int (bI (fl && sgG f26 v26)), va_rf fi4, .ref v26]))]) (pl1 := va_pl ((L ++ (N ++ N26))) f4) hP hD [4] [0, 1, 2, 3] rfl rfl (by decide) (by decide) hk1 hFc hP1 hD1
            generalize H1 = H at hP hS hq0 ⊢
            have hP : va_P (dC, dI) classes ([(qr, .inr (5, [.ref h0, .int (nI o)])), (h0, .inr (8, [.ref qb, .ref qu, .int uc26, .int ln, .int (nI n), .int (nI p26), .int pl])), (qb, .inl (cB, 4096, .inl bf)), (qu, .inl (cI, 4096, .inl ug26)), (q, .inr (4, [.int 0, .int (bI (fl && sgG f26 v26)), va_rf fi4, .ref v26]))] ++ va_pl ((L ++ (N ++ N26))) f4) H := hP
            have hD : va_D A ([(qr, .inr (5, [.ref h0, .int (nI o)])), (h0, .inr (8, [.ref qb, .ref qu, .int uc26, .int ln, .int (nI n), .int (nI p26), .int pl])), (qb, .inl (cB, 4096, .inl bf)), (qu, .inl (cI, 4096, .inl ug26)), (q, .inr (4, [.int 0, .int (bI (fl && sgG f26 v26)), va_rf fi4, .ref v26]))] ++ va_pl ((L ++ (N ++ N26))) f4) := hD
            obtain ⟨-, hw3, hw4⟩ := hw
            have hC2 := hCh.next hG.ex hQ26 (by omega) (by omega) hzz26 hyL (by omega) hex26 hw3 hw4
            have hQI2 := hQI.next hlaE hd26 hnv26 hkp26 hG.ex hw3 hw4
            refine lv_iinc (v := nI (m9 + 1)) (lv' := [(3, .int (nI (m9 + 1))), (4, .int (nI p)), (0, .ref qr), (1, .int nw), (2, .ref q)]) hx hb d_QueryReader_query_107 hl (k := 4) rfl (nI_1 _) (by decide) rfl (fun ls hl => ?_)
            refine lv_goto (tgt := 40) hx hb d_QueryReader_query_110 (by decide) ?_
            refine w_same (fun hq => ?_)
            refine W.widen (k := 8 * (n - i) + 4) (n := 64 * (n - i) + 50) (by show ((8 * (p - i) - 7) + (8 * (p26 - p22) + 0 - 5)) ≤ 8 * (n - i) + 4; omega) (by show ((64 * (p - i) - 60) + (64 * (p26 - p22) + 0 - 51)) ≤ 64 * (n - i) + 50; omega) ?_
            exact ih (m9 + 1, fi4, some v26, fl && sgG f26 v26, p26, (N ++ N26), E26, f4, uc26, ug26, l9 ++ [m26]) _ _ _ ⟨show m9 + 1 ≤ 4096 by omega, show m9 + 1 + i + 1 ≤ p26 by omega, hC2, hq.mono (by show ((8 * (p - i) - 7) + (8 * (p26 - p22) + 0 - 5)) ≤ 8 * (p26 - i) - 7; omega) (by show ((64 * (p - i) - 60) + (64 * (p26 - p22) + 0 - 51)) ≤ 64 * (p26 - i) - 60; omega), hQf2, hQI2⟩ (by show 4097 - (m9 + 1) < 4097 - m9; omega) hP hD hS (lv_sub hl [2, 3, 4, 0] rfl)
        · refine lv_aload_n hx hb d_QueryReader_query_87 rfl (lv_at hl 1 rfl) ?_
          refine va_get (D := (dC, dI)) (ci := 5) (v := .ref h0) (C := R_QueryReader) (T := F_QueryReader) (N := 2) hx hb hts in_QueryReader hown hK hP 0 rfl rfl 0 (by decide) (hts _ w_100) (fun _ h9 => h9) rfl d_QueryReader_query_88 ?_
          refine lv_iload hx hb d_QueryReader_query_91 (lv_at hl 0 rfl) ?_
          refine va_put (D := (dC, dI)) (ci := 8) (v := .int (nI p)) (ty := .int) (C := R_Tape) (T := F_Tape) (N := 7) hx hb hts in_Tape t_Tape t_Tape_ok n_Tape hown hK hP hD hS 1 rfl rfl 5 (by decide) (hts _ z_53) (fun _ h9 => h9) rfl (by decide +kernel) rfl rfl (Nat.le_of_ble_eq_true rfl) d_QueryReader_query_93 (fun H locs hP hD hS => ?_)
          have hP : va_P (dC, dI) classes ([(qr, .inr (5, [.ref h0, .int (nI o)])), (h0, .inr (8, [.ref qb, .ref qu, .int uc, .int ln, .int (nI n), .int (nI p), .int pl])), (qb, .inl (cB, 4096, .inl bf)), (qu, .inl (cI, 4096, .inl ug)), (q, .inr (4, [.int 0, .int (bI fl), va_rf fi, va_rf la]))] ++ va_pl ((L ++ N)) f1) H := hP
          have hD : va_D A ([(qr, .inr (5, [.ref h0, .int (nI o)])), (h0, .inr (8, [.ref qb, .ref qu, .int uc, .int ln, .int (nI n), .int (nI p), .int pl])), (qb, .inl (cB, 4096, .inl bf)), (qu, .inl (cI, 4096, .inl ug)), (q, .inr (4, [.int 0, .int (bI fl), va_rf fi, va_rf la]))] ++ va_pl ((L ++ N)) f1) := hD
          have hP : va_P (dC, dI) classes ([(qr, .inr (5, [.ref h0, .int (nI o)])), (h0, .inr (8, [.ref qb, .ref qu, .int uc, .int ln, .int (nI n), .int (nI p), .int pl])), (qb, .inl (cB, 4096, .inl bf)), (qu, .inl (cI, 4096, .inl ug)), (q, .inr (4, [.int 0, .int (bI fl), va_rf fi, va_rf la]))] ++ va_pl ((L ++ N)) f1) H := hP
          have hD : va_D A ([(qr, .inr (5, [.ref h0, .int (nI o)])), (h0, .inr (8, [.ref qb, .ref qu, .int uc, .int ln, .int (nI n), .int (nI p), .int pl])), (qb, .inl (cB, 4096, .inl bf)), (qu, .inl (cI, 4096, .inl ug)), (q, .inr (4, [.int 0, .int (bI fl), va_rf fi, va_rf la]))] ++ va_pl ((L ++ N)) f1) := hD
          refine lv_aload_n hx hb d_QueryReader_query_96 rfl (lv_at hl 3 rfl) ?_
          have hL_q := plD_new (X := [(qr, .inr (5, [.ref h0, .int (nI o)])), (h0, .inr (8, [.ref qb, .ref qu, .int uc, .int ln, .int (nI n), .int (nI p), .int pl])), (qb, .inl (cB, 4096, .inl bf)), (qu, .inl (cI, 4096, .inl ug))]) hD
          have h0_q : E1 q = 0 := Classical.byContradiction (fun h => hL_q (hG.po.inL h))
          have hE_q : E q = 0 := hG.ex.z h0_q
          have hP := plP_push (X := [(qr, .inr (5, [.ref h0, .int (nI o)])), (h0, .inr (8, [.ref qb, .ref qu, .int uc, .int ln, .int (nI n), .int (nI p), .int pl])), (qb, .inl (cB, 4096, .inl bf)), (qu, .inl (cI, 4096, .inl ug))]) hP hL_q
          have hD := plD_push (X := [(qr, .inr (5, [.ref h0, .int (nI o)])), (h0, .inr (8, [.ref qb, .ref qu, .int uc, .int ln, .int (nI n), .int (nI p), .int pl])), (qb, .inl (cB, 4096, .inl bf)), (qu, .inl (cI, 4096, .inl ug))]) hD hL_q
          rw [List.append_assoc] at hP hD
          have hQ_q : QPn cI cV E L f i n s.heap.size 7 (5 * (16 - o)) 1 q p (N ++ [q]) (va_up E1 q 7) (va_up f1 q (qE 0 (bI fl) fi la)) := by
            refine ⟨hE_q, va_up_self _ _ _, by omega, by omega, fun lv hO b hb => ?_⟩
            obtain ⟨lv1, g1, c1, c2⟩ := hCh.x lv hO b hb
            have hne : ∀ a, E1 a = 8 → a ≠ q := fun a ha e => by rw [e, h0_q] at ha; cases ha
            exact ⟨va_up lv1 q b, g1.add (q := q) (s := 7) (b := b) (e := qE 0 (bI fl) fi la) h0_q hL_q hz_q (by decide) (by decide) (CO.Q (va_up_self _ _ _) ⟨_, _, _, _, rfl, (fun a ha => ⟨(va_up_ne _ _ (hne a (hCh.1 a ha).2)).trans (hCh.1 a ha).2, by rw [va_up_ne _ _ (hne a (hCh.1 a ha).2), va_up_self]; exact Nat.le_of_eq (c1 a ha)⟩), (fun a ha => (va_up_ne _ _ (hne a (hCh.2.1 a ha).2)).trans (hCh.2.1 a ha).2)⟩), va_up_self _ _ _⟩
          have hP : va_P (dC, dI) classes ([(qr, .inr (5, [.ref h0, .int (nI o)])), (h0, .inr (8, [.ref qb, .ref qu, .int uc, .int ln, .int (nI n), .int (nI p), .int pl])), (qb, .inl (cB, 4096, .inl bf)), (qu, .inl (cI, 4096, .inl ug))] ++ va_pl ((L ++ (N ++ [q]))) ((va_up f1 q (qE 0 (bI fl) fi la)))) H := hP
          have hD : va_D A ([(qr, .inr (5, [.ref h0, .int (nI o)])), (h0, .inr (8, [.ref qb, .ref qu, .int uc, .int ln, .int (nI n), .int (nI p), .int pl])), (qb, .inl (cB, 4096, .inl bf)), (qu, .inl (cI, 4096, .inl ug))] ++ va_pl ((L ++ (N ++ [q]))) ((va_up f1 q (qE 0 (bI fl) fi la)))) := hD
          have hk36 : decide (hereV bf n i = 36) = decide (¬ (0 : Int32) = 0) := by rw [decide_eq_false (fun q => c13 (h_h21.trans q))]; rfl
          have hQr : QPn cI cV E L f i n s.heap.size 7 (5 * (16 - o)) 1 q p ((N ++ [q])) ((va_up E1 q 7)) ((va_up f1 q (qE 0 (bI fl) fi la))) := hQ_q
          have hfin : (qrD bf n ok orL (nwB nw)) i = some (p, sgQ (((va_up f1 q (qE 0 (bI fl) fi la))) q), qryS (decide (¬ (0 : Int32) = 0)) l9) := by rw [va_up_self, sgQ_b, ← hk36]; exact (hQf.trans (mp_some (qrLD_e hmL h_p22 (fun q => c72 (h_h23.trans q)) (fun q => c84 (h_h25.trans q))))).trans (by rw [List.append_nil])
          have hdn : DNx QD 0 E ((va_up E1 q 7)) ((va_up f1 q (qE 0 (bI fl) fi la))) q (qryS (decide (¬ (0 : Int32) = 0)) l9) := hQI.fin hlaE h0_q
          refine w_same (fun hq => ?_)
          refine W.widen (k := 8 * (n - i) + 4) (n := 64 * (n - i) + 50) (by show (8 * (p - i) - 7) ≤ 8 * (n - i) + 4; omega) (by show (64 * (p - i) - 60) ≤ 64 * (n - i) + 50; omega) ?_
          refine vx_ret ?_
          exact W.aret (v := .ref q) hx hb hr (Or.inl ⟨_, rfl⟩) (Or.inr ⟨_, rfl⟩) (fun t9 ht hW => ⟨⟨(q, p, (N ++ [q]), (va_up E1 q 7), (va_up f1 q (qE 0 (bI fl) fi la)), uc, ug), q, rfl, ⟨hQr, _, hfin, hdn⟩, ⟨by rw [ht]; exact hP, va_K.moved hW.alike hK, hD⟩, by rw [ht]; exact ⟨hq.mono (by show (8 * (p - i) - 7) ≤ 8 * (p - i) + 0 - 7; omega) (by show (64 * (p - i) - 60) ≤ 64 * (p - i) + 0 - 60; omega), rfl⟩⟩, hS.F ht⟩) hS.2.2 d_QueryReader_query_97
  · refine lv_iconst (v := 1) hx hb d_QueryReader_query_16 (by decide) ?_
    refine lv_goto (tgt := 21) hx hb d_QueryReader_query_17 (by decide) ?_
    have hPc := hP.sub (ws' := [(q, .inr (4, [.int 0, .int 0, .null, .null]))]) [4] rfl
    have hDc := hD.sub (ws' := [(q, .inr (4, [.int 0, .int 0, .null, .null]))]) [4] (by decide) rfl
    have hFc := va_free (wc := [(q, .inr (4, [.int 0, .int 0, .null, .null]))]) hD hS hA [4] rfl
    have hKc := hK.sub (tys' := []) [] rfl
    refine w_same (fun hq0 => ?_)
    refine va_callv (va_runI (As := [.int 1]) (rest := [.ref q]) ⟨hx, hb, hml, hown, hts⟩ (c_Query_init l dC dI H q 1 (Or.inr rfl)) (cwI 1 hts (gt_code i_Query_init) rfl rfl rfl (hts _ z_23) (hts _ z_542) (hts _ z_543) rfl (by decide +kernel) ⟨by show 1 + 1 ≤ 12 * (16 - o) + 14; omega, by show 8 + (2 + 11) + (20) ≤ 360 * (16 - o) + 420; omega⟩) ⟨mp_blind, fun U hU hW => ⟨rfl, hU, by rw [hU]; exact hPc, va_K.moved hW.alike hKc, hDc.weaken (fun _ _ _ _ => trivial)⟩⟩ rfl rfl hl.1 rfl (lv_room (Nat.le_of_ble_eq_true rfl)) d_QueryReader_query_21 ⟨by show (0 + 1) + (0) ≤ 8 * (n - i) + 4; omega, by show (0 + 4) + (0) ≤ 64 * (n - i) + 50; omega⟩) hS (fun q _ h => hFc q h) hFc (fun _u t9 H1 locs ht hvm hw hB hz1 hk1 hS => ?_)
    obtain ⟨⟨hP1, hK1, hD1⟩, hz9⟩ := hB
    rw [ht] at hP1
    rw [ht] at hz9
    have hq0 : szk s.heap H1 ((0 + 1)) ((0 + 4)) := (hq0.trans hz9).mono (Nat.le_of_eq (Nat.add_zero _)) (Nat.le_of_eq (Nat.add_zero _))
    refine w_tight hq0 ?_
    obtain ⟨hP, hD⟩ := va_joinQ (wr := [(qr, .inr (5, [.ref h0, .int (nI o)])), (h0, .inr (8, [.ref qb, .ref qu, .int uc, .int ln, .int (nI n), .int (nI i), .int pl])), (qb, .inl (cB, 4096, .inl bf)), (qu, .inl (cI, 4096, .inl ug))]) (w1 := [(q, .inr (4, [.int 1, .int 1, .null, .null]))]) hP hD [4] [0, 1, 2, 3] rfl rfl (by decide) (by decide) hk1 hFc hP1 hD1
    generalize H1 = H at hP hS hq0 ⊢
    have hP : va_P (dC, dI) classes ([(qr, .inr (5, [.ref h0, .int (nI o)])), (h0, .inr (8, [.ref qb, .ref qu, .int uc, .int ln, .int (nI n), .int (nI i), .int pl])), (qb, .inl (cB, 4096, .inl bf)), (qu, .inl (cI, 4096, .inl ug)), (q, .inr (4, [.int 1, .int 1, .null, .null]))] ++ va_pl ((L ++ [])) f) H := hP
    have hD : va_D A ([(qr, .inr (5, [.ref h0, .int (nI o)])), (h0, .inr (8, [.ref qb, .ref qu, .int uc, .int ln, .int (nI n), .int (nI i), .int pl])), (qb, .inl (cB, 4096, .inl bf)), (qu, .inl (cI, 4096, .inl ug)), (q, .inr (4, [.int 1, .int 1, .null, .null]))] ++ va_pl ((L ++ [])) f) := hD
    refine lv_astore_n (lv' := [(2, .ref q), (0, .ref qr), (1, .int nw)]) hx hb d_QueryReader_query_24 rfl hl (by decide) rfl (fun ls hl => ?_)
    refine lv_aload_n hx hb d_QueryReader_query_25 rfl (lv_at hl 1 rfl) ?_
    refine va_get (D := (dC, dI)) (ci := 5) (v := .ref h0) (C := R_QueryReader) (T := F_QueryReader) (N := 2) hx hb hts in_QueryReader hown hK hP 0 rfl rfl 0 (by decide) (hts _ w_100) (fun _ h9 => h9) rfl d_QueryReader_query_26 ?_
    refine lv_dup hx hb d_QueryReader_query_29 rfl ?_
    refine va_get (D := (dC, dI)) (ci := 8) (v := .int (nI i)) (C := R_Tape) (T := F_Tape) (N := 7) hx hb hts in_Tape hown hK hP 1 rfl rfl 5 (by decide) (hts _ z_53) (fun _ h9 => h9) rfl d_QueryReader_query_30 ?_
    refine lv_iconst (v := 1) hx hb d_QueryReader_query_33 (by decide) ?_
    refine lv_iadd hx hb d_QueryReader_query_34 ?_
    refine W.eq (g2 := F0 m 35 ls [.int (nI (i + 1)), .ref h0]) (by rw [show ((nI i) + 1) = (nI (i + 1)) from nI_1 _]) ?_
    refine va_put (D := (dC, dI)) (ci := 8) (v := .int (nI (i + 1))) (ty := .int) (C := R_Tape) (T := F_Tape) (N := 7) hx hb hts in_Tape t_Tape t_Tape_ok n_Tape hown hK hP hD hS 1 rfl rfl 5 (by decide) (hts _ z_53) (fun _ h9 => h9) rfl (by decide +kernel) rfl rfl (Nat.le_of_ble_eq_true rfl) d_QueryReader_query_35 (fun H locs hP hD hS => ?_)
    have hP : va_P (dC, dI) classes ([(qr, .inr (5, [.ref h0, .int (nI o)])), (h0, .inr (8, [.ref qb, .ref qu, .int uc, .int ln, .int (nI n), .int (nI (i + 1)), .int pl])), (qb, .inl (cB, 4096, .inl bf)), (qu, .inl (cI, 4096, .inl ug)), (q, .inr (4, [.int 1, .int 1, .null, .null]))] ++ va_pl ((L ++ [])) f) H := hP
    have hD : va_D A ([(qr, .inr (5, [.ref h0, .int (nI o)])), (h0, .inr (8, [.ref qb, .ref qu, .int uc, .int ln, .int (nI n), .int (nI (i + 1)), .int pl])), (qb, .inl (cB, 4096, .inl bf)), (qu, .inl (cI, 4096, .inl ug)), (q, .inr (4, [.int 1, .int 1, .null, .null]))] ++ va_pl ((L ++ [])) f) := hD
    have hP : va_P (dC, dI) classes ([(qr, .inr (5, [.ref h0, .int (nI o)])), (h0, .inr (8, [.ref qb, .ref qu, .int uc, .int ln, .int (nI n), .int (nI (i + 1)), .int pl])), (qb, .inl (cB, 4096, .inl bf)), (qu, .inl (cI, 4096, .inl ug)), (q, .inr (4, [.int 1, .int 1, .null, .null]))] ++ va_pl ((L ++ [])) f) H := hP
    have hD : va_D A ([(qr, .inr (5, [.ref h0, .int (nI o)])), (h0, .inr (8, [.ref qb, .ref qu, .int uc, .int ln, .int (nI n), .int (nI (i + 1)), .int pl])), (qb, .inl (cB, 4096, .inl bf)), (qu, .inl (cI, 4096, .inl ug)), (q, .inr (4, [.int 1, .int 1, .null, .null]))] ++ va_pl ((L ++ [])) f) := hD
    refine lv_iconst (v := 0) hx hb d_QueryReader_query_38 (by decide) ?_
    refine lv_istore_n (lv' := [(3, .int 0), (2, .ref q), (0, .ref qr), (1, .int nw)]) hx hb d_QueryReader_query_39 rfl hl (by decide) rfl (fun ls hl => ?_)
    refine w_same (fun hq => ?_)
    refine W.widen (k := 8 * (n - i) + 4) (n := 64 * (n - i) + 50) (by show (0 + 1) ≤ 8 * (n - i) + 4; omega) (by show (0 + 4) ≤ 64 * (n - i) + 50; omega) ?_
    refine w_loopG (D := (dC, dI)) (cl := classes) (A := A) (H0 := s.heap) (nL := 5) 40 (σ := Nat × Option Nat × Option Nat × Bool × Nat × List Nat × (Nat → Nat) × (Nat → va_E) × Int32 × (Nat → Int32) × List QT) (fun ⟨m9, fi, la, fl, p, N, E1, f1, uc, ug, l9⟩ H => m9 ≤ 4096 ∧ m9 + i + 1 ≤ p ∧ QQ cI cV E L f i n s.heap.size (5 * (16 - o)) fi la p N E1 f1 ∧ szk s.heap H (8 * (p - i) - 7) (64 * (p - i) - 60) ∧ qrD bf n ok orL (nwB nw) i = (qrLD bf n ok orL (nwB nw) (4097 - m9) p fl).map (fun q => (q.1, q.2.1, qryS (decide (hereV bf n i = 36)) (l9 ++ q.2.2))) ∧ QIx E E1 f1 fi la l9) (fun ⟨m9, fi, la, fl, p, N, E1, f1, uc, ug, l9⟩ => 4097 - m9) (fun ⟨m9, fi, la, fl, p, N, E1, f1, uc, ug, l9⟩ => [(qr, .inr (5, [.ref h0, .int (nI o)])), (h0, .inr (8, [.ref qb, .ref qu, .int uc, .int ln, .int (nI n), .int (nI p), .int pl])), (qb, .inl (cB, 4096, .inl bf)), (qu, .inl (cI, 4096, .inl ug)), (q, .inr (4, [.int 1, .int (bI fl), va_rf fi, va_rf la]))] ++ va_pl ((L ++ N)) f1) (fun ⟨m9, fi, la, fl, p, N, E1, f1, uc, ug, l9⟩ => [(0, .ref qr), (1, .int nw), (2, .ref q), (3, .int (nI m9))]) ?_ (0, none, none, true, i + 1, [], E, f, uc, ug, []) ⟨Nat.zero_le _, (by show 0 + i + 1 ≤ i + 1; omega), QQ.start (by omega) (by omega), hq.mono (by show (0 + 1) ≤ 8 * (i + 1 - i) - 7; omega) (by show (0 + 4) ≤ 64 * (i + 1 - i) - 60; omega), rfl, QIx.start⟩ hP hD hS (lv_sub hl [2, 3, 1, 0] rfl)
    rintro ⟨m9, fi, la, fl, p, N, E1, f1, uc, ug, l9⟩ H locs ls hI ih hP hD hS hl
    obtain ⟨hm9, hp1, hCh, hIz, hQf, hQI⟩ := hI
    have hm9 : m9 ≤ 4096 := hm9
    have hp1 : m9 + i + 1 ≤ p := hp1
    have hQf : qrD bf n ok orL (nwB nw) i = (qrLD bf n ok orL (nwB nw) (4097 - m9) p fl).map (fun q => (q.1, q.2.1, qryS (decide (hereV bf n i = 36)) (l9 ++ q.2.2))) := hQf
    have hQI : QIx E E1 f1 fi la l9 := hQI
    have hlaE : ∀ a, la = some a → E a = 0 ∧ ¬ E1 a = 0 := fun a ha => ⟨(hCh.2.1 a ha).1, by rw [(hCh.2.1 a ha).2]; decide⟩
    have hCh : QQ cI cV E L f i n s.heap.size (5 * (16 - o)) fi la p N E1 f1 := hCh
    have hp2 : p ≤ n := hCh.2.2.1
    have hmL : m9 ≤ 4095 := by omega
    have hIz : szk s.heap H (8 * (p - i) - 7) (64 * (p - i) - 60) := hIz
    refine w_tight hIz ?_
    obtain ⟨lv1, hG, hlx, hly⟩ := hCh.x lv hO _ (Nat.le_refl _)
    have hP : va_P (dC, dI) classes ([(qr, .inr (5, [.ref h0, .int (nI o)])), (h0, .inr (8, [.ref qb, .ref qu, .int uc, .int ln, .int (nI n), .int (nI p), .int pl])), (qb, .inl (cB, 4096, .inl bf)), (qu, .inl (cI, 4096, .inl ug)), (q, .inr (4, [.int 1, .int (bI fl), va_rf fi, va_rf la]))] ++ va_pl ((L ++ N)) f1) H := hP
    have hD : va_D A ([(qr, .inr (5, [.ref h0, .int (nI o)])), (h0, .inr (8, [.ref qb, .ref qu, .int uc, .int ln, .int (nI n), .int (nI p), .int pl])), (qb, .inl (cB, 4096, .inl bf)), (qu, .inl (cI, 4096, .inl ug)), (q, .inr (4, [.int 1, .int (bI fl), va_rf fi, va_rf la]))] ++ va_pl ((L ++ N)) f1) := hD
    have hl : lv_has ls 5 [(0, .ref qr), (1, .int nw), (2, .ref q), (3, .int (nI m9))] := hl
    refine lv_iload_n hx hb d_QueryReader_query_40 rfl (lv_at hl 3 rfl) ?_
    refine lv_sipush (v := 4096) hx hb d_QueryReader_query_41 (by decide) ?_
    refine lv_icmp_ge (tgt := 113) hx hb d_QueryReader_query_44 (by decide) (fun c44 => ?_) (fun c44 => ?_)
    · rw [show (4096 : Int32) = nI 4096 from rfl, nI_leI (by omega) (by omega)] at c44
      exact absurd c44 (by omega)
    · refine lv_aload_n hx hb d_QueryReader_query_47 rfl (lv_at hl 0 rfl) ?_
      refine va_get (D := (dC, dI)) (ci := 5) (v := .ref h0) (C := R_QueryReader) (T := F_QueryReader) (N := 2) hx hb hts in_QueryReader hown hK hP 0 rfl rfl 0 (by decide) (hts _ w_100) (fun _ h9 => h9) rfl d_QueryReader_query_48 ?_
      refine va_get (D := (dC, dI)) (ci := 8) (v := .int (nI p)) (C := R_Tape) (T := F_Tape) (N := 7) hx hb hts in_Tape hown hK hP 1 rfl rfl 5 (by decide) (hts _ z_53) (fun _ h9 => h9) rfl d_QueryReader_query_51 ?_
      refine lv_istore (lv' := [(4, .int (nI p)), (0, .ref qr), (1, .int nw), (2, .ref q), (3, .int (nI m9))]) hx hb d_QueryReader_query_54 hl (by decide) rfl (fun ls hl => ?_)
      refine lv_aload_n hx hb d_QueryReader_query_56 rfl (lv_at hl 1 rfl) ?_
      refine va_get (D := (dC, dI)) (ci := 5) (v := .ref h0) (C := R_QueryReader) (T := F_QueryReader) (N := 2) hx hb hts in_QueryReader hown hK hP 0 rfl rfl 0 (by decide) (hts _ w_100) (fun _ h9 => h9) rfl d_QueryReader_query_57 ?_
      have hPc := hP.sub (ws' := [(h0, .inr (8, [.ref qb, .ref qu, .int uc, .int ln, .int (nI n), .int (nI p), .int pl])), (qb, .inl (cB, 4096, .inl bf))]) [1, 2] rfl
      have hDc := hD.sub (ws' := [(h0, .inr (8, [.ref qb, .ref qu, .int uc, .int ln, .int (nI n), .int (nI p), .int pl])), (qb, .inl (cB, 4096, .inl bf))]) [1, 2] (by decide) rfl
      have hFc := va_free (wc := [(h0, .inr (8, [.ref qb, .ref qu, .int uc, .int ln, .int (nI n), .int (nI p), .int pl])), (qb, .inl (cB, 4096, .inl bf))]) hD hS hA [1, 2] rfl
      have hKc := hK.sub (tys' := [(cB, .byte)]) [0] rfl
      refine va_callv (va_runV (As := []) (rest := []) ⟨hx, hb, hml, hown, hts⟩ (c_Tape_skipBlanks l dC dI cB h0 qb H (.ref qu) uc ln pl bf n p hn0 (by omega)) (cwV 0 hts (gt_V (own := R_QueryReader) (C := R_Tape) (i := 39) (y := y_Tape_skipBlanks) i_Tape_skipBlanks z_563 z_299 z_300 w_2) rfl rfl rfl (by decide +kernel) ⟨by show 0 + 1 ≤ 12 * (16 - o) + 14; omega, by show 8 + (2 + 11) + (0) ≤ 360 * (16 - o) + 420; omega⟩) ⟨mp_blind, va_recv hK hP (ci := 8) (q0 := 1) rfl rfl, fun U hU hW => ⟨rfl, hU, by rw [hU]; exact hPc, va_K.moved hW.alike hKc, hDc.weaken (fun _ _ _ _ => trivial)⟩⟩ rfl rfl hl.1 rfl (lv_room (Nat.le_of_ble_eq_true rfl)) d_QueryReader_query_60 ⟨by show (8 * (p - i) - 7) + (0) ≤ 8 * (n - i) + 4; omega, by show (64 * (p - i) - 60) + (0) ≤ 64 * (n - i) + 50; omega⟩) hS (fun q _ h => hFc q h) hFc (fun _u t9 H1 locs ht hvm hw hB hz1 hk1 hS => ?_)
      obtain ⟨hP1, hK1, hD1⟩ := hB
      rw [ht] at hP1
      obtain ⟨hP, hD⟩ := va_joinQ (wr := [(qr, .inr (5, [.ref h0, .int (nI o)])), (qu, .inl (cI, 4096, .inl ug)), (q, .inr (4, [.int 1, .int (bI fl), va_rf fi, va_rf la]))]) (w1 := [(h0, .inr (8, [.ref qb, .ref qu, .int uc, .int ln, .int (nI n), .int (nI (skipB bf n p)), .int pl])), (qb, .inl (cB, 4096, .inl bf))]) hP hD [1, 2] [0, 3, 4] rfl rfl (by decide) (by decide) hk1 hFc hP1 hD1
      generalize H1 = H at hP hS ⊢
      have hP : va_P (dC, dI) classes ([(qr, .inr (5, [.ref h0, .int (nI o)])), (qu, .inl (cI, 4096, .inl ug)), (q, .inr (4, [.int 1, .int (bI fl), va_rf fi, va_rf la])), (h0, .inr (8, [.ref qb, .ref qu, .int uc, .int ln, .int (nI n), .int (nI (skipB bf n p)), .int pl])), (qb, .inl (cB, 4096, .inl bf))] ++ va_pl ((L ++ N)) f1) H := hP
      have hD : va_D A ([(qr, .inr (5, [.ref h0, .int (nI o)])), (qu, .inl (cI, 4096, .inl ug)), (q, .inr (4, [.int 1, .int (bI fl), va_rf fi, va_rf la])), (h0, .inr (8, [.ref qb, .ref qu, .int uc, .int ln, .int (nI n), .int (nI (skipB bf n p)), .int pl])), (qb, .inl (cB, 4096, .inl bf))] ++ va_pl ((L ++ N)) f1) := hD
      have hP := hP.part (cx := [(qr, .inr (5, [.ref h0, .int (nI o)])), (h0, .inr (8, [.ref qb, .ref qu, .int uc, .int ln, .int (nI n), .int (nI (skipB bf n p)), .int pl])), (qb, .inl (cB, 4096, .inl bf)), (qu, .inl (cI, 4096, .inl ug)), (q, .inr (4, [.int 1, .int (bI fl), va_rf fi, va_rf la]))]) [0, 3, 4, 1, 2] rfl
      have hD := hD.part (cx := [(qr, .inr (5, [.ref h0, .int (nI o)])), (h0, .inr (8, [.ref qb, .ref qu, .int uc, .int ln, .int (nI n), .int (nI (skipB bf n p)), .int pl])), (qb, .inl (cB, 4096, .inl bf)), (qu, .inl (cI, 4096, .inl ug)), (q, .inr (4, [.int 1, .int (bI fl), va_rf fi, va_rf la]))]) [0, 3, 4, 1, 2] (by decide) rfl
      obtain ⟨p27, h_p27⟩ : ∃ z, z = skipB bf n p := ⟨_, rfl⟩
      have hb_p27 := skip_b (f := bf) (show p ≤ n by omega)
      rw [← h_p27] at hP hD hb_p27
      have hP : va_P (dC, dI) classes ([(qr, .inr (5, [.ref h0, .int (nI o)])), (h0, .inr (8, [.ref qb, .ref qu, .int uc, .int ln, .int (nI n), .int (nI p27), .int pl])), (qb, .inl (cB, 4096, .inl bf)), (qu, .inl (cI, 4096, .inl ug)), (q, .inr (4, [.int 1, .int (bI fl), va_rf fi, va_rf la]))] ++ va_pl ((L ++ N)) f1) H := hP
      have hD : va_D A ([(qr, .inr (5, [.ref h0, .int (nI o)])), (h0, .inr (8, [.ref qb, .ref qu, .int uc, .int ln, .int (nI n), .int (nI p27), .int pl])), (qb, .inl (cB, 4096, .inl bf)), (qu, .inl (cI, 4096, .inl ug)), (q, .inr (4, [.int 1, .int (bI fl), va_rf fi, va_rf la]))] ++ va_pl ((L ++ N)) f1) := hD
      refine lv_aload_n hx hb d_QueryReader_query_63 rfl (lv_at hl 1 rfl) ?_
      refine va_get (D := (dC, dI)) (ci := 5) (v := .ref h0) (C := R_QueryReader) (T := F_QueryReader) (N := 2) hx hb hts in_QueryReader hown hK hP 0 rfl rfl 0 (by decide) (hts _ w_100) (fun _ h9 => h9) rfl d_QueryReader_query_64 ?_
      have hPc := hP.sub (ws' := [(h0, .inr (8, [.ref qb, .ref qu, .int uc, .int ln, .int (nI n), .int (nI p27), .int pl])), (qb, .inl (cB, 4096, .inl bf))]) [1, 2] rfl
      have hDc := hD.sub (ws' := [(h0, .inr (8, [.ref qb, .ref qu, .int uc, .int ln, .int (nI n), .int (nI p27), .int pl])), (qb, .inl (cB, 4096, .inl bf))]) [1, 2] (by decide) rfl
      have hFc := va_free (wc := [(h0, .inr (8, [.ref qb, .ref qu, .int uc, .int ln, .int (nI n), .int (nI p27), .int pl])), (qb, .inl (cB, 4096, .inl bf))]) hD hS hA [1, 2] rfl
      have hKc := hK.sub (tys' := [(cB, .byte)]) [0] rfl
      refine va_calli (va_runV (As := []) (rest := []) ⟨hx, hb, hml, hown, hts⟩ (c_Tape_here l dC dI cB h0 qb H (.ref qu) uc ln pl bf n p27 hn0 (by omega)) (cwV 0 hts (gt_V (own := R_QueryReader) (C := R_Tape) (i := 19) (y := y_Tape_here) i_Tape_here z_534 w_363 w_364 w_2) rfl rfl rfl (by decide +kernel) ⟨by show 0 + 1 ≤ 12 * (16 - o) + 14; omega, by show 8 + (1 + 11) + (0) ≤ 360 * (16 - o) + 420; omega⟩) ⟨mp_blind, va_recv hK hP (ci := 8) (q0 := 1) rfl rfl, fun U hU hW => ⟨rfl, hU, by rw [hU]; exact hPc, va_K.moved hW.alike hKc, hDc.weaken (fun _ _ _ _ => trivial)⟩⟩ rfl rfl hl.1 rfl (lv_room (Nat.le_of_ble_eq_true rfl)) d_QueryReader_query_67 ⟨by show (8 * (p - i) - 7) + (0) ≤ 8 * (n - i) + 4; omega, by show (64 * (p - i) - 60) + (0) ≤ 64 * (n - i) + 50; omega⟩) hS (fun q _ h => hFc q h) hFc (fun h28 _u t9 H1 locs ht hvm hw hB hz1 hk1 hS => ?_)
      obtain ⟨hP1, hK1, hD1⟩ := hB
      rw [ht] at hP1
      obtain ⟨hP, hD⟩ := va_joinQ (wr := [(qr, .inr (5, [.ref h0, .int (nI o)])), (qu, .inl (cI, 4096, .inl ug)), (q, .inr (4, [.int 1, .int (bI fl), va_rf fi, va_rf la]))]) (w1 := [(h0, .inr (8, [.ref qb, .ref qu, .int uc, .int ln, .int (nI n), .int (nI p27), .int pl])), (qb, .inl (cB, 4096, .inl bf))]) hP hD [1, 2] [0, 3, 4] rfl rfl (by decide) (by decide) hk1 hFc hP1 hD1
      generalize H1 = H at hP hS ⊢
      have hP : va_P (dC, dI) classes ([(qr, .inr (5, [.ref h0, .int (nI o)])), (qu, .inl (cI, 4096, .inl ug)), (q, .inr (4, [.int 1, .int (bI fl), va_rf fi, va_rf la])), (h0, .inr (8, [.ref qb, .ref qu, .int uc, .int ln, .int (nI n), .int (nI p27), .int pl])), (qb, .inl (cB, 4096, .inl bf))] ++ va_pl ((L ++ N)) f1) H := hP
      have hD : va_D A ([(qr, .inr (5, [.ref h0, .int (nI o)])), (qu, .inl (cI, 4096, .inl ug)), (q, .inr (4, [.int 1, .int (bI fl), va_rf fi, va_rf la])), (h0, .inr (8, [.ref qb, .ref qu, .int uc, .int ln, .int (nI n), .int (nI p27), .int pl])), (qb, .inl (cB, 4096, .inl bf))] ++ va_pl ((L ++ N)) f1) := hD
      have hP := hP.part (cx := [(qr, .inr (5, [.ref h0, .int (nI o)])), (h0, .inr (8, [.ref qb, .ref qu, .int uc, .int ln, .int (nI n), .int (nI p27), .int pl])), (qb, .inl (cB, 4096, .inl bf)), (qu, .inl (cI, 4096, .inl ug)), (q, .inr (4, [.int 1, .int (bI fl), va_rf fi, va_rf la]))]) [0, 3, 4, 1, 2] rfl
      have hD := hD.part (cx := [(qr, .inr (5, [.ref h0, .int (nI o)])), (h0, .inr (8, [.ref qb, .ref qu, .int uc, .int ln, .int (nI n), .int (nI p27), .int pl])), (qb, .inl (cB, 4096, .inl bf)), (qu, .inl (cI, 4096, .inl ug)), (q, .inr (4, [.int 1, .int (bI fl), va_rf fi, va_rf la]))]) [0, 3, 4, 1, 2] (by decide) rfl
      have h_h28 : h28 = hereV bf n p27 := hw
      refine lv_bipush (v := 46) hx hb d_QueryReader_query_70 (by decide) ?_
      refine lv_icmp_eq (tgt := 98) hx hb d_QueryReader_query_72 (by decide) (fun c72 => ?_) (fun c72 => ?_)
      · refine lv_aload_n hx hb d_QueryReader_query_98 rfl (lv_at hl 3 rfl) ?_
        refine lv_aload_n hx hb d_QueryReader_query_99 rfl (lv_at hl 1 rfl) ?_
        refine lv_iload_n hx hb d_QueryReader_query_100 rfl (lv_at hl 2 rfl) ?_
        have hyz : ∀ a, la = some a → a < H.size := fun a ha => va_pl_lt hP (hG.po.inL (by rw [(hCh.2.1 a ha).2]; decide))
        have hG29 := hG.mv (show p ≤ p27 by omega) (show p27 ≤ n by omega)
        have hzz29 : s.heap.size ≤ H.size := hS.1
        have hPc := hP.part (cx := [(qr, .inr (5, [.ref h0, .int (nI o)])), (h0, .inr (8, [.ref qb, .ref qu, .int uc, .int ln, .int (nI n), .int (nI p27), .int pl])), (qb, .inl (cB, 4096, .inl bf)), (qu, .inl (cI, 4096, .inl ug))]) [0, 1, 2, 3] rfl
        have hDc := hD.part (cx := [(qr, .inr (5, [.ref h0, .int (nI o)])), (h0, .inr (8, [.ref qb, .ref qu, .int uc, .int ln, .int (nI n), .int (nI p27), .int pl])), (qb, .inl (cB, 4096, .inl bf)), (qu, .inl (cI, 4096, .inl ug))]) [0, 1, 2, 3] (by decide) rfl
        have hFc := va_freeP (cx := [(qr, .inr (5, [.ref h0, .int (nI o)])), (h0, .inr (8, [.ref qb, .ref qu, .int uc, .int ln, .int (nI n), .int (nI p27), .int pl])), (qb, .inl (cB, 4096, .inl bf)), (qu, .inl (cI, 4096, .inl ug))]) hD hS hA [0, 1, 2, 3] rfl
        have hKc := hK.sub (tys' := [(cB, .byte), (cI, .int), (cV, .object "QueryBench$Value")]) [0, 1, 2] rfl
        refine w_same (fun hq0 => ?_)
        refine vx_callr (vx_runV (As := [.int nw]) (rest := [.ref q]) ⟨hx, hb, hml, hown, hts⟩ ((HG nw) H E1 lv1 (L ++ N) f1 p27 uc pl ug hG29.po (by omega)) (cwV 1 hts (gt_V (own := R_QueryReader) (C := R_QueryReader) (i := 47) (y := y_QueryReader_segment) i_QueryReader_segment z_564 z_566 (gt_sel (y := y_QueryReader_segment) (n := 2) (by decide +kernel)) w_4) rfl rfl rfl (by decide +kernel) ⟨by show 12 * (16 - o) + 13 + 1 ≤ 12 * (16 - o) + 14; omega, by show 8 + (5 + 11) + (360 * (16 - o) + 390) ≤ 360 * (16 - o) + 420; omega⟩) ⟨ml_blind, va_recv hK hP (ci := 5) (q0 := 0) rfl rfl, fun U hU hW => ⟨rfl, ⟨hU, by rw [hU]; exact hPc, va_K.moved hW.alike hKc, hDc.weaken (fun _ _ _ _ => trivial)⟩, hN.warm hW, by rw [hU]; exact ZX.moved' hW.alike (ZX.narrow' (ZX.kept' hZ hS.2.1) hFc), by rw [hU]; exact CE.call hC hS.2.1 hFc hW, va_AO.moved hW.alike hV⟩⟩ rfl rfl hl.1 rfl (lv_room (Nat.le_of_ble_eq_true rfl)) d_QueryReader_query_101 ⟨by show (8 * (p - i) - 7) + (8 * (n - p27) + 7) ≤ 8 * (n - i) + 4; omega, by show (64 * (p - i) - 60) + (64 * (n - p27) + 100) ≤ 64 * (n - i) + 50; omega⟩) hS (fun q _ h => hFc q h) hFc (fun q _ h => hFc q h) (fun En ce q9 ⟨ax, cx, px, gx, ox⟩ t9 H1 locs ht hvm hw hB hz1 hk1 hS hce hcv hcl => ?_) (fun ⟨w29, p29, N29, E29, f29, uc29, ug29⟩ v29 t9 H1 locs ht hvm hw hB hz1 hk1 hS => ?_)
        · obtain ⟨hEn, hP1, hK1, hD1⟩ := hB
          rw [ht] at hP1
          obtain ⟨hP, hD⟩ := va_joinP (wr := [(q, .inr (4, [.int 1, .int (bI fl), va_rf fi, va_rf la]))]) (rx := [(qr, .inr (5, [.ref h0, .int ox])), (h0, .inr (8, [.ref qb, .ref qu, .int cx, .int ln, .int (nI n), .int ax, .int px])), (qb, .inl (cB, 4096, .inl bf)), (qu, .inl (cI, 4096, .inl gx))]) (pl1 := va_pl ((L ++ N)) f1) hP hD [0, 1, 2, 3] [4] rfl rfl (by decide) (by decide) hk1 hFc hP1 hD1
          generalize H1 = H at hP hS hce ⊢
          have hP : va_P (dC, dI) classes ([(q, .inr (4, [.int 1, .int (bI fl), va_rf fi, va_rf la])), (qr, .inr (5, [.ref h0, .int ox])), (h0, .inr (8, [.ref qb, .ref qu, .int cx, .int ln, .int (nI n), .int ax, .int px])), (qb, .inl (cB, 4096, .inl bf)), (qu, .inl (cI, 4096, .inl gx))] ++ va_pl ((L ++ N)) f1) H := hP
          have hD : va_D A ([(q, .inr (4, [.int 1, .int (bI fl), va_rf fi, va_rf la])), (qr, .inr (5, [.ref h0, .int ox])), (h0, .inr (8, [.ref qb, .ref qu, .int cx, .int ln, .int (nI n), .int ax, .int px])), (qb, .inl (cB, 4096, .inl bf)), (qu, .inl (cI, 4096, .inl gx))] ++ va_pl ((L ++ N)) f1) := hD
          have hP := hP.part (cx := [(qr, .inr (5, [.ref h0, .int ox])), (h0, .inr (8, [.ref qb, .ref qu, .int cx, .int ln, .int (nI n), .int ax, .int px])), (qb, .inl (cB, 4096, .inl bf)), (qu, .inl (cI, 4096, .inl gx)), (q, .inr (4, [.int 1, .int (bI fl), va_rf fi, va_rf la]))]) [1, 2, 3, 4, 0] rfl
          have hD := hD.part (cx := [(qr, .inr (5, [.ref h0, .int ox])), (h0, .inr (8, [.ref qb, .ref qu, .int cx, .int ln, .int (nI n), .int ax, .int px])), (qb, .inl (cB, 4096, .inl bf)), (qu, .inl (cI, 4096, .inl gx)), (q, .inr (4, [.int 1, .int (bI fl), va_rf fi, va_rf la]))]) [1, 2, 3, 4, 0] (by decide) rfl
          have hP := plP_cut (hP.part (cx := [(qr, .inr (5, [.ref h0, .int ox])), (h0, .inr (8, [.ref qb, .ref qu, .int cx, .int ln, .int (nI n), .int ax, .int px])), (qb, .inl (cB, 4096, .inl bf)), (qu, .inl (cI, 4096, .inl gx))]) [0, 1, 2, 3] rfl) hG29.on
          have hD := plD_cut (hD.part (cx := [(qr, .inr (5, [.ref h0, .int ox])), (h0, .inr (8, [.ref qb, .ref qu, .int cx, .int ln, .int (nI n), .int ax, .int px])), (qb, .inl (cB, 4096, .inl bf)), (qu, .inl (cI, 4096, .inl gx))]) [0, 1, 2, 3] (by decide) rfl) hG29.on
          have hno : (qrD bf n ok orL (nwB nw)) i = none := hQf.trans (mp_none (qrLD_0 hmL h_p27 (Or.inl (h_h28.symm.trans c72)) hw))
          exact vx_out (fun x hx => (hex x hx).elim) hlocks hce hcv hcl (fun t9 ht2 ha => ⟨(ax, cx, px, gx, ox), hno, ⟨hEn, by rw [ht2]; exact hP, va_K.moved ha hK, hD⟩, hS.F ht2⟩) hS.2.2 (by show (8 * (p - i) - 7) + (8 * (n - p27) + 7) ≤ 8 * (n - i) + 4; omega) (by show (64 * (p - i) - 60) + (64 * (n - p27) + 100) ≤ 64 * (n - i) + 50; omega)
        · obtain ⟨⟨hP1, hK1, hD1⟩, hz9, ha9⟩ := hB
          rw [ht] at hP1
          rw [ht] at hz9
          have ha9 : v29 = w29 := ha9
          subst ha9
          have hq0 : szk s.heap H1 ((8 * (p - i) - 7) + (8 * (p29 - p27) + 0 - 5)) ((64 * (p - i) - 60) + (64 * (p29 - p27) + 0 - 51)) := (hq0.trans hz9).mono (Nat.le_refl _) (Nat.le_refl _)
          refine w_tight hq0 ?_
          obtain ⟨hP, hD⟩ := va_joinP (wr := [(q, .inr (4, [.int 1, .int (bI fl), va_rf fi, va_rf la]))]) (rx := [(qr, .inr (5, [.ref h0, .int (nI o)])), (h0, .inr (8, [.ref qb, .ref qu, .int uc29, .int ln, .int (nI n), .int (nI p29), .int pl])), (qb, .inl (cB, 4096, .inl bf)), (qu, .inl (cI, 4096, .inl ug29))]) (pl1 := va_pl (((L ++ N) ++ N29)) f29) hP hD [0, 1, 2, 3] [4] rfl rfl (by decide) (by decide) hk1 hFc hP1 hD1
          generalize H1 = H at hP hS hq0 ⊢
          have hP : va_P (dC, dI) classes ([(q, .inr (4, [.int 1, .int (bI fl), va_rf fi, va_rf la])), (qr, .inr (5, [.ref h0, .int (nI o)])), (h0, .inr (8, [.ref qb, .ref qu, .int uc29, .int ln, .int (nI n), .int (nI p29), .int pl])), (qb, .inl (cB, 4096, .inl bf)), (qu, .inl (cI, 4096, .inl ug29))] ++ va_pl (((L ++ N) ++ N29)) f29) H := hP
          have hD : va_D A ([(q, .inr (4, [.int 1, .int (bI fl), va_rf fi, va_rf la])), (qr, .inr (5, [.ref h0, .int (nI o)])), (h0, .inr (8, [.ref qb, .ref qu, .int uc29, .int ln, .int (nI n), .int (nI p29), .int pl])), (qb, .inl (cB, 4096, .inl bf)), (qu, .inl (cI, 4096, .inl ug29))] ++ va_pl (((L ++ N) ++ N29)) f29) := hD
          have hP := hP.part (cx := [(qr, .inr (5, [.ref h0, .int (nI o)])), (h0, .inr (8, [.ref qb, .ref qu, .int uc29, .int ln, .int (nI n), .int (nI p29), .int pl])), (qb, .inl (cB, 4096, .inl bf)), (qu, .inl (cI, 4096, .inl ug29)), (q, .inr (4, [.int 1, .int (bI fl), va_rf fi, va_rf la]))]) [1, 2, 3, 4, 0] rfl
          have hD := hD.part (cx := [(qr, .inr (5, [.ref h0, .int (nI o)])), (h0, .inr (8, [.ref qb, .ref qu, .int uc29, .int ln, .int (nI n), .int (nI p29), .int pl])), (qb, .inl (cB, 4096, .inl bf)), (qu, .inl (cI, 4096, .inl ug29)), (q, .inr (4, [.int 1, .int (bI fl), va_rf fi, va_rf la]))]) [1, 2, 3, 4, 0] (by decide) rfl
          obtain ⟨hw, m29, hf29, hd29⟩ := hw
          have hf29 : (segD bf n ok orL (nwB nw)) p27 = some (p29, sgG f29 v29, m29) := hf29
          have hd29 : DNx GD 2 E1 E29 f29 v29 m29 := hd29
          have hQ29 : QPn cI cV E1 (L ++ N) f1 p27 n _ 8 (5 * (16 - o)) 1 v29 p29 N29 E29 f29 := hw
          obtain ⟨lv29, hg29, hlv29⟩ := hQ29.x lv1 hG29.po _ (Nat.le_refl _)
          have hex29 := hg29.ex
          have hge29 := hg29.ge hQ29.new (by rw [hQ29.so]; decide)
          have hkp29 : KPx E1 E29 f1 f29 := KPx.of hg29 hG29.po
          have hnv29 : E1 v29 = 0 := hQ29.new
          have hsv29 : ¬ E29 v29 = 0 := by rw [hQ29.so]; decide
          have hG29 := hG29.tr hg29 hzz29
          obtain ⟨ha29, hb29⟩ := hQ29.num
          have ha29 : p27 + 1 ≤ p29 := ha29
          have hb29 : p29 ≤ n := hb29
          rw [List.append_assoc] at hP hD
          have hP : va_P (dC, dI) classes ([(qr, .inr (5, [.ref h0, .int (nI o)])), (h0, .inr (8, [.ref qb, .ref qu, .int uc29, .int ln, .int (nI n), .int (nI p29), .int pl])), (qb, .inl (cB, 4096, .inl bf)), (qu, .inl (cI, 4096, .inl ug29)), (q, .inr (4, [.int 1, .int (bI fl), va_rf fi, va_rf la]))] ++ va_pl ((L ++ (N ++ N29))) f29) H := hP
          have hD : va_D A ([(qr, .inr (5, [.ref h0, .int (nI o)])), (h0, .inr (8, [.ref qb, .ref qu, .int uc29, .int ln, .int (nI n), .int (nI p29), .int pl])), (qb, .inl (cB, 4096, .inl bf)), (qu, .inl (cI, 4096, .inl ug29)), (q, .inr (4, [.int 1, .int (bI fl), va_rf fi, va_rf la]))] ++ va_pl ((L ++ (N ++ N29))) f29) := hD
          have hQf2 : qrD bf n ok orL (nwB nw) i = (qrLD bf n ok orL (nwB nw) (4097 - (m9 + 1)) p29 (fl && sgG f29 v29)).map (fun q => (q.1, q.2.1, qryS (decide (hereV bf n i = 36)) ((l9 ++ [m29]) ++ q.2.2))) := qr_map (ok := ok) (f := bf) (n := n) (orL := orL) (nw := nwB nw) hQf (qrLD_s hmL h_p27 (Or.inl (h_h28.symm.trans c72)) hf29)
          have hsn := hQ29.so
          have hla : oR (fun z => E29 z = 8 ∧ lv29 v29 ≤ lv29 z ∧ z < v29) la := fun a ha => ⟨(hex29 a (by rw [(hCh.2.1 a ha).2]; decide)).trans (hCh.2.1 a ha).2, by rw [hg29.lve a (by rw [(hCh.2.1 a ha).2]; decide), hly a ha]; exact Nat.le_of_eq hlv29, Nat.lt_of_lt_of_le (hyz a ha) hge29⟩
          have hyL : ∀ a, la = some a → a < _ ∧ a ∉ L := fun a ha => ⟨hyz a ha, fun h => absurd (hLz a h) (Nat.not_lt.mpr (hG.ge (hCh.2.1 a ha).1 (by rw [(hCh.2.1 a ha).2]; decide)))⟩
          have hPc := hP.part (cx := [(q, .inr (4, [.int 1, .int (bI fl), va_rf fi, va_rf la]))]) [4] rfl
          have hDc := hD.part (cx := [(q, .inr (4, [.int 1, .int (bI fl), va_rf fi, va_rf la]))]) [4] (by decide) rfl
          have hFc := va_freeP (cx := [(q, .inr (4, [.int 1, .int (bI fl), va_rf fi, va_rf la]))]) hD hS hA [4] rfl
          have hKc := hK.sub (tys' := [(cI, .int), (cV, .object "QueryBench$Value")]) [1, 2] rfl
          refine w_same (fun hq0 => ?_)
          refine va_callv (va_runV (As := [.ref v29]) (rest := []) ⟨hx, hb, hml, hown, hts⟩ (c_Query_add l dC dI H cI cV E29 lv29 (L ++ (N ++ N29)) f29 hG29.po q 1 fl fi la v29 hsn hla) (cwV 1 hts (gt_V (own := R_QueryReader) (C := R_Query) (i := 51) (y := y_Query_add) i_Query_add z_796 z_797 z_798 z_23) rfl rfl rfl (by decide +kernel) ⟨by show 1 + 1 ≤ 12 * (16 - o) + 14; omega, by show 8 + (2 + 11) + (40) ≤ 360 * (16 - o) + 420; omega⟩) ⟨mn_blind, va_recv hK hP (ci := 4) (q0 := 4) rfl rfl, fun U hU hW => ⟨rfl, ⟨hU, by rw [hU]; exact hPc, va_K.moved hW.alike hKc, hDc.weaken (fun _ _ _ _ => trivial)⟩, hN.warm hW⟩⟩ rfl rfl hl.1 rfl (lv_room (Nat.le_of_ble_eq_true rfl)) d_QueryReader_query_104 ⟨by show ((8 * (p - i) - 7) + (8 * (p29 - p27) + 0 - 5)) + (0) ≤ 8 * (n - i) + 4; omega, by show ((64 * (p - i) - 60) + (64 * (p29 - p27) + 0 - 51)) + (0) ≤ 64 * (n - i) + 50; omega⟩) hS (fun q _ h => hFc q h) hFc (fun ⟨fi4, f4⟩ t9 H1 locs ht hvm hw hB hz1 hk1 hS => ?_)
          obtain ⟨⟨hP1, hK1, hD1⟩, hz9⟩ := hB
          rw [ht] at hP1
          rw [ht] at hz9
          have hq0 : szk s.heap H1 (((8 * (p - i) - 7) + (8 * (p29 - p27) + 0 - 5))) (((64 * (p - i) - 60) + (64 * (p29 - p27) + 0 - 51))) := (hq0.trans hz9).mono (Nat.le_of_eq (Nat.add_zero _)) (Nat.le_of_eq (Nat.add_zero _))
          refine w_tight hq0 ?_
          obtain ⟨hP, hD⟩ := va_joinP (wr := [(qr, .inr (5, [.ref h0, .int (nI o)])), (h0, .inr (8, [.ref qb, .ref qu, .int uc29, .int ln, .int (nI n), .int (nI p29), .int pl])), (qb, .inl (cB, 4096, .inl bf)), (qu, .inl (cI, 4096, .inl ug29))]) (rx := [(q, .inr (4, [.int 1, .int (bI (fl && sgG f29 v29)), va_rf fi4, .ref v29]))]) (pl1 := va_pl ((L ++ (N ++ N29))) f4) hP hD [4] [0, 1, 2, 3] rfl rfl (by decide) (by decide) hk1 hFc hP1 hD1
          generalize H1 = H at hP hS hq0 ⊢
          have hP : va_P (dC, dI) classes ([(qr, .inr (5, [.ref h0, .int (nI o)])), (h0, .inr (8, [.ref qb, .ref qu, .int uc29, .int ln, .int (nI n), .int (nI p29), .int pl])), (qb, .inl (cB, 4096, .inl bf)), (qu, .inl (cI, 4096, .inl ug29)), (q, .inr (4, [.int 1, .int (bI (fl && sgG f29 v29)), va_rf fi4, .ref v29]))] ++ va_pl ((L ++ (N ++ N29))) f4) H := hP
          have hD : va_D A ([(qr, .inr (5, [.ref h0, .int (nI o)])), (h0, .inr (8, [.ref qb, .ref qu, .int uc29, .int ln, .int (nI n), .int (nI p29), .int pl])), (qb, .inl (cB, 4096, .inl bf)), (qu, .inl (cI, 4096, .inl ug29)), (q, .inr (4, [.int 1, .int (bI (fl && sgG f29 v29)), va_rf fi4, .ref v29]))] ++ va_pl ((L ++ (N ++ N29))) f4) := hD
          obtain ⟨-, hw3, hw4⟩ := hw
          have hC2 := hCh.next hG.ex hQ29 (by omega) (by omega) hzz29 hyL (by omega) hex29 hw3 hw4
          have hQI2 := hQI.next hlaE hd29 hnv29 hkp29 hG.ex hw3 hw4
          refine lv_iinc (v := nI (m9 + 1)) (lv' := [(3, .int (nI (m9 + 1))), (4, .int (nI p)), (0, .ref qr), (1, .int nw), (2, .ref q)]) hx hb d_QueryReader_query_107 hl (k := 4) rfl (nI_1 _) (by decide) rfl (fun ls hl => ?_)
          refine lv_goto (tgt := 40) hx hb d_QueryReader_query_110 (by decide) ?_
          refine w_same (fun hq => ?_)
          refine W.widen (k := 8 * (n - i) + 4) (n := 64 * (n - i) + 50) (by show ((8 * (p - i) - 7) + (8 * (p29 - p27) + 0 - 5)) ≤ 8 * (n - i) + 4; omega) (by show ((64 * (p - i) - 60) + (64 * (p29 - p27) + 0 - 51)) ≤ 64 * (n - i) + 50; omega) ?_
          exact ih (m9 + 1, fi4, some v29, fl && sgG f29 v29, p29, (N ++ N29), E29, f4, uc29, ug29, l9 ++ [m29]) _ _ _ ⟨show m9 + 1 ≤ 4096 by omega, show m9 + 1 + i + 1 ≤ p29 by omega, hC2, hq.mono (by show ((8 * (p - i) - 7) + (8 * (p29 - p27) + 0 - 5)) ≤ 8 * (p29 - i) - 7; omega) (by show ((64 * (p - i) - 60) + (64 * (p29 - p27) + 0 - 51)) ≤ 64 * (p29 - i) - 60; omega), hQf2, hQI2⟩ (by show 4097 - (m9 + 1) < 4097 - m9; omega) hP hD hS (lv_sub hl [2, 3, 4, 0] rfl)
      · refine lv_aload_n hx hb d_QueryReader_query_75 rfl (lv_at hl 1 rfl) ?_
        refine va_get (D := (dC, dI)) (ci := 5) (v := .ref h0) (C := R_QueryReader) (T := F_QueryReader) (N := 2) hx hb hts in_QueryReader hown hK hP 0 rfl rfl 0 (by decide) (hts _ w_100) (fun _ h9 => h9) rfl d_QueryReader_query_76 ?_
        have hPc := hP.sub (ws' := [(h0, .inr (8, [.ref qb, .ref qu, .int uc, .int ln, .int (nI n), .int (nI p27), .int pl])), (qb, .inl (cB, 4096, .inl bf))]) [1, 2] rfl
        have hDc := hD.sub (ws' := [(h0, .inr (8, [.ref qb, .ref qu, .int uc, .int ln, .int (nI n), .int (nI p27), .int pl])), (qb, .inl (cB, 4096, .inl bf))]) [1, 2] (by decide) rfl
        have hFc := va_free (wc := [(h0, .inr (8, [.ref qb, .ref qu, .int uc, .int ln, .int (nI n), .int (nI p27), .int pl])), (qb, .inl (cB, 4096, .inl bf))]) hD hS hA [1, 2] rfl
        have hKc := hK.sub (tys' := [(cB, .byte)]) [0] rfl
        refine va_calli (va_runV (As := []) (rest := []) ⟨hx, hb, hml, hown, hts⟩ (c_Tape_here l dC dI cB h0 qb H (.ref qu) uc ln pl bf n p27 hn0 (by omega)) (cwV 0 hts (gt_V (own := R_QueryReader) (C := R_Tape) (i := 19) (y := y_Tape_here) i_Tape_here z_534 w_363 w_364 w_2) rfl rfl rfl (by decide +kernel) ⟨by show 0 + 1 ≤ 12 * (16 - o) + 14; omega, by show 8 + (1 + 11) + (0) ≤ 360 * (16 - o) + 420; omega⟩) ⟨mp_blind, va_recv hK hP (ci := 8) (q0 := 1) rfl rfl, fun U hU hW => ⟨rfl, hU, by rw [hU]; exact hPc, va_K.moved hW.alike hKc, hDc.weaken (fun _ _ _ _ => trivial)⟩⟩ rfl rfl hl.1 rfl (lv_room (Nat.le_of_ble_eq_true rfl)) d_QueryReader_query_79 ⟨by show (8 * (p - i) - 7) + (0) ≤ 8 * (n - i) + 4; omega, by show (64 * (p - i) - 60) + (0) ≤ 64 * (n - i) + 50; omega⟩) hS (fun q _ h => hFc q h) hFc (fun h30 _u t9 H1 locs ht hvm hw hB hz1 hk1 hS => ?_)
        obtain ⟨hP1, hK1, hD1⟩ := hB
        rw [ht] at hP1
        obtain ⟨hP, hD⟩ := va_joinQ (wr := [(qr, .inr (5, [.ref h0, .int (nI o)])), (qu, .inl (cI, 4096, .inl ug)), (q, .inr (4, [.int 1, .int (bI fl), va_rf fi, va_rf la]))]) (w1 := [(h0, .inr (8, [.ref qb, .ref qu, .int uc, .int ln, .int (nI n), .int (nI p27), .int pl])), (qb, .inl (cB, 4096, .inl bf))]) hP hD [1, 2] [0, 3, 4] rfl rfl (by decide) (by decide) hk1 hFc hP1 hD1
        generalize H1 = H at hP hS ⊢
        have hP : va_P (dC, dI) classes ([(qr, .inr (5, [.ref h0, .int (nI o)])), (qu, .inl (cI, 4096, .inl ug)), (q, .inr (4, [.int 1, .int (bI fl), va_rf fi, va_rf la])), (h0, .inr (8, [.ref qb, .ref qu, .int uc, .int ln, .int (nI n), .int (nI p27), .int pl])), (qb, .inl (cB, 4096, .inl bf))] ++ va_pl ((L ++ N)) f1) H := hP
        have hD : va_D A ([(qr, .inr (5, [.ref h0, .int (nI o)])), (qu, .inl (cI, 4096, .inl ug)), (q, .inr (4, [.int 1, .int (bI fl), va_rf fi, va_rf la])), (h0, .inr (8, [.ref qb, .ref qu, .int uc, .int ln, .int (nI n), .int (nI p27), .int pl])), (qb, .inl (cB, 4096, .inl bf))] ++ va_pl ((L ++ N)) f1) := hD
        have hP := hP.part (cx := [(qr, .inr (5, [.ref h0, .int (nI o)])), (h0, .inr (8, [.ref qb, .ref qu, .int uc, .int ln, .int (nI n), .int (nI p27), .int pl])), (qb, .inl (cB, 4096, .inl bf)), (qu, .inl (cI, 4096, .inl ug)), (q, .inr (4, [.int 1, .int (bI fl), va_rf fi, va_rf la]))]) [0, 3, 4, 1, 2] rfl
        have hD := hD.part (cx := [(qr, .inr (5, [.ref h0, .int (nI o)])), (h0, .inr (8, [.ref qb, .ref qu, .int uc, .int ln, .int (nI n), .int (nI p27), .int pl])), (qb, .inl (cB, 4096, .inl bf)), (qu, .inl (cI, 4096, .inl ug)), (q, .inr (4, [.int 1, .int (bI fl), va_rf fi, va_rf la]))]) [0, 3, 4, 1, 2] (by decide) rfl
        have h_h30 : h30 = hereV bf n p27 := hw
        refine lv_bipush (v := 91) hx hb d_QueryReader_query_82 (by decide) ?_
        refine lv_icmp_eq (tgt := 98) hx hb d_QueryReader_query_84 (by decide) (fun c84 => ?_) (fun c84 => ?_)
        · refine lv_aload_n hx hb d_QueryReader_query_98 rfl (lv_at hl 3 rfl) ?_
          refine lv_aload_n hx hb d_QueryReader_query_99 rfl (lv_at hl 1 rfl) ?_
          refine lv_iload_n hx hb d_QueryReader_query_100 rfl (lv_at hl 2 rfl) ?_
          have hyz : ∀ a, la = some a → a < H.size := fun a ha => va_pl_lt hP (hG.po.inL (by rw [(hCh.2.1 a ha).2]; decide))
          have hG31 := hG.mv (show p ≤ p27 by omega) (show p27 ≤ n by omega)
          have hzz31 : s.heap.size ≤ H.size := hS.1
          have hPc := hP.part (cx := [(qr, .inr (5, [.ref h0, .int (nI o)])), (h0, .inr (8, [.ref qb, .ref qu, .int uc, .int ln, .int (nI n), .int (nI p27), .int pl])), (qb, .inl (cB, 4096, .inl bf)), (qu, .inl (cI, 4096, .inl ug))]) [0, 1, 2, 3] rfl
          have hDc := hD.part (cx := [(qr, .inr (5, [.ref h0, .int (nI o)])), (h0, .inr (8, [.ref qb, .ref qu, .int uc, .int ln, .int (nI n), .int (nI p27), .int pl])), (qb, .inl (cB, 4096, .inl bf)), (qu, .inl (cI, 4096, .inl ug))]) [0, 1, 2, 3] (by decide) rfl
          have hFc := va_freeP (cx := [(qr, .inr (5, [.ref h0, .int (nI o)])), (h0, .inr (8, [.ref qb, .ref qu, .int uc, .int ln, .int (nI n), .int (nI p27), .int pl])), (qb, .inl (cB, 4096, .inl bf)), (qu, .inl (cI, 4096, .inl ug))]) hD hS hA [0, 1, 2, 3] rfl
          have hKc := hK.sub (tys' := [(cB, .byte), (cI, .int), (cV, .object "QueryBench$Value")]) [0, 1, 2] rfl
          refine w_same (fun hq0 => ?_)
          refine vx_callr (vx_runV (As := [.int nw]) (rest := [.ref q]) ⟨hx, hb, hml, hown, hts⟩ ((HG nw) H E1 lv1 (L ++ N) f1 p27 uc pl ug hG31.po (by omega)) (cwV 1 hts (gt_V (own := R_QueryReader) (C := R_QueryReader) (i := 47) (y := y_QueryReader_segment) i_QueryReader_segment z_564 z_566 (gt_sel (y := y_QueryReader_segment) (n := 2) (by decide +kernel)) w_4) rfl rfl rfl (by decide +kernel) ⟨by show 12 * (16 - o) + 13 + 1 ≤ 12 * (16 - o) + 14; omega, by show 8 + (5 + 11) + (360 * (16 - o) + 390) ≤ 360 * (16 - o) + 420; omega⟩) ⟨ml_blind, va_recv hK hP (ci := 5) (q0 := 0) rfl rfl, fun U hU hW => ⟨rfl, ⟨hU, by rw [hU]; exact hPc, va_K.moved hW.alike hKc, hDc.weaken (fun _ _ _ _ => trivial)⟩, hN.warm hW, by rw [hU]; exact ZX.moved' hW.alike (ZX.narrow' (ZX.kept' hZ hS.2.1) hFc), by rw [hU]; exact CE.call hC hS.2.1 hFc hW, va_AO.moved hW.alike hV⟩⟩ rfl rfl hl.1 rfl (lv_room (Nat.le_of_ble_eq_true rfl)) d_QueryReader_query_101 ⟨by show (8 * (p - i) - 7) + (8 * (n - p27) + 7) ≤ 8 * (n - i) + 4; omega, by show (64 * (p - i) - 60) + (64 * (n - p27) + 100) ≤ 64 * (n - i) + 50; omega⟩) hS (fun q _ h => hFc q h) hFc (fun q _ h => hFc q h) (fun En ce q9 ⟨ax, cx, px, gx, ox⟩ t9 H1 locs ht hvm hw hB hz1 hk1 hS hce hcv hcl => ?_) (fun ⟨w31, p31, N31, E31, f31, uc31, ug31⟩ v31 t9 H1 locs ht hvm hw hB hz1 hk1 hS => ?_)
          · obtain ⟨hEn, hP1, hK1, hD1⟩ := hB
            rw [ht] at hP1
            obtain ⟨hP, hD⟩ := va_joinP (wr := [(q, .inr (4, [.int 1, .int (bI fl), va_rf fi, va_rf la]))]) (rx := [(qr, .inr (5, [.ref h0, .int ox])), (h0, .inr (8, [.ref qb, .ref qu, .int cx, .int ln, .int (nI n), .int ax, .int px])), (qb, .inl (cB, 4096, .inl bf)), (qu, .inl (cI, 4096, .inl gx))]) (pl1 := va_pl ((L ++ N)) f1) hP hD [0, 1, 2, 3] [4] rfl rfl (by decide) (by decide) hk1 hFc hP1 hD1
            generalize H1 = H at hP hS hce ⊢
            have hP : va_P (dC, dI) classes ([(q, .inr (4, [.int 1, .int (bI fl), va_rf fi, va_rf la])), (qr, .inr (5, [.ref h0, .int ox])), (h0, .inr (8, [.ref qb, .ref qu, .int cx, .int ln, .int (nI n), .int ax, .int px])), (qb, .inl (cB, 4096, .inl bf)), (qu, .inl (cI, 4096, .inl gx))] ++ va_pl ((L ++ N)) f1) H := hP
            have hD : va_D A ([(q, .inr (4, [.int 1, .int (bI fl), va_rf fi, va_rf la])), (qr, .inr (5, [.ref h0, .int ox])), (h0, .inr (8, [.ref qb, .ref qu, .int cx, .int ln, .int (nI n), .int ax, .int px])), (qb, .inl (cB, 4096, .inl bf)), (qu, .inl (cI, 4096, .inl gx))] ++ va_pl ((L ++ N)) f1) := hD
            have hP := hP.part (cx := [(qr, .inr (5, [.ref h0, .int ox])), (h0, .inr (8, [.ref qb, .ref qu, .int cx, .int ln, .int (nI n), .int ax, .int px])), (qb, .inl (cB, 4096, .inl bf)), (qu, .inl (cI, 4096, .inl gx)), (q, .inr (4, [.int 1, .int (bI fl), va_rf fi, va_rf la]))]) [1, 2, 3, 4, 0] rfl
            have hD := hD.part (cx := [(qr, .inr (5, [.ref h0, .int ox])), (h0, .inr (8, [.ref qb, .ref qu, .int cx, .int ln, .int (nI n), .int ax, .int px])), (qb, .inl (cB, 4096, .inl bf)), (qu, .inl (cI, 4096, .inl gx)), (q, .inr (4, [.int 1, .int (bI fl), va_rf fi, va_rf la]))]) [1, 2, 3, 4, 0] (by decide) rfl
            have hP := plP_cut (hP.part (cx := [(qr, .inr (5, [.ref h0, .int ox])), (h0, .inr (8, [.ref qb, .ref qu, .int cx, .int ln, .int (nI n), .int ax, .int px])), (qb, .inl (cB, 4096, .inl bf)), (qu, .inl (cI, 4096, .inl gx))]) [0, 1, 2, 3] rfl) hG31.on
            have hD := plD_cut (hD.part (cx := [(qr, .inr (5, [.ref h0, .int ox])), (h0, .inr (8, [.ref qb, .ref qu, .int cx, .int ln, .int (nI n), .int ax, .int px])), (qb, .inl (cB, 4096, .inl bf)), (qu, .inl (cI, 4096, .inl gx))]) [0, 1, 2, 3] (by decide) rfl) hG31.on
            have hno : (qrD bf n ok orL (nwB nw)) i = none := hQf.trans (mp_none (qrLD_0 hmL h_p27 (Or.inr (h_h30.symm.trans c84)) hw))
            exact vx_out (fun x hx => (hex x hx).elim) hlocks hce hcv hcl (fun t9 ht2 ha => ⟨(ax, cx, px, gx, ox), hno, ⟨hEn, by rw [ht2]; exact hP, va_K.moved ha hK, hD⟩, hS.F ht2⟩) hS.2.2 (by show (8 * (p - i) - 7) + (8 * (n - p27) + 7) ≤ 8 * (n - i) + 4; omega) (by show (64 * (p - i) - 60) + (64 * (n - p27) + 100) ≤ 64 * (n - i) + 50; omega)
          · obtain ⟨⟨hP1, hK1, hD1⟩, hz9, ha9⟩ := hB
            rw [ht] at hP1
            rw [ht] at hz9
            have ha9 : v31 = w31 := ha9
            subst ha9
            have hq0 : szk s.heap H1 ((8 * (p - i) - 7) + (8 * (p31 - p27) + 0 - 5)) ((64 * (p - i) - 60) + (64 * (p31 - p27) + 0 - 51)) := (hq0.trans hz9).mono (Nat.le_refl _) (Nat.le_refl _)
            refine w_tight hq0 ?_
            obtain ⟨hP, hD⟩ := va_joinP (wr := [(q, .inr (4, [.int 1, .int (bI fl), va_rf fi, va_rf la]))]) (rx := [(qr, .inr (5, [.ref h0, .int (nI o)])), (h0, .inr (8, [.ref qb, .ref qu, .int uc31, .int ln, .int (nI n), .int (nI p31), .int pl])), (qb, .inl (cB, 4096, .inl bf)), (qu, .inl (cI, 4096, .inl ug31))]) (pl1 := va_pl (((L ++ N) ++ N31)) f31) hP hD [0, 1, 2, 3] [4] rfl rfl (by decide) (by decide) hk1 hFc hP1 hD1
            generalize H1 = H at hP hS hq0 ⊢
            have hP : va_P (dC, dI) classes ([(q, .inr (4, [.int 1, .int (bI fl), va_rf fi, va_rf la])), (qr, .inr (5, [.ref h0, .int (nI o)])), (h0, .inr (8, [.ref qb, .ref qu, .int uc31, .int ln, .int (nI n), .int (nI p31), .int pl])), (qb, .inl (cB, 4096, .inl bf)), (qu, .inl (cI, 4096, .inl ug31))] ++ va_pl (((L ++ N) ++ N31)) f31) H := hP
            have hD : va_D A ([(q, .inr (4, [.int 1, .int (bI fl), va_rf fi, va_rf la])), (qr, .inr (5, [.ref h0, .int (nI o)])), (h0, .inr (8, [.ref qb, .ref qu, .int uc31, .int ln, .int (nI n), .int (nI p31), .int pl])), (qb, .inl (cB, 4096, .inl bf)), (qu, .inl (cI, 4096, .inl ug31))] ++ va_pl (((L ++ N) ++ N31)) f31) := hD
            have hP := hP.part (cx := [(qr, .inr (5, [.ref h0, .int (nI o)])), (h0, .inr (8, [.ref qb, .ref qu, .int uc31, .int ln, .int (nI n), .int (nI p31), .int pl])), (qb, .inl (cB, 4096, .inl bf)), (qu, .inl (cI, 4096, .inl ug31)), (q, .inr (4, [.int 1, .int (bI fl), va_rf fi, va_rf la]))]) [1, 2, 3, 4, 0] rfl
            have hD := hD.part (cx := [(qr, .inr (5, [.ref h0, .int (nI o)])), (h0, .inr (8, [.ref qb, .ref qu, .int uc31, .int ln, .int (nI n), .int (nI p31), .int pl])), (qb, .inl (cB, 4096, .inl bf)), (qu, .inl (cI, 4096, .inl ug31)), (q, .inr (4, [.int 1, .int (bI fl), va_rf fi, va_rf la]))]) [1, 2, 3, 4, 0] (by decide) rfl
            obtain ⟨hw, m31, hf31, hd31⟩ := hw
            have hf31 : (segD bf n ok orL (nwB nw)) p27 = some (p31, sgG f31 v31, m31) := hf31
            have hd31 : DNx GD 2 E1 E31 f31 v31 m31 := hd31
            have hQ31 : QPn cI cV E1 (L ++ N) f1 p27 n _ 8 (5 * (16 - o)) 1 v31 p31 N31 E31 f31 := hw
            obtain ⟨lv31, hg31, hlv31⟩ := hQ31.x lv1 hG31.po _ (Nat.le_refl _)
            have hex31 := hg31.ex
            have hge31 := hg31.ge hQ31.new (by rw [hQ31.so]; decide)
            have hkp31 : KPx E1 E31 f1 f31 := KPx.of hg31 hG31.po
            have hnv31 : E1 v31 = 0 := hQ31.new
            have hsv31 : ¬ E31 v31 = 0 := by rw [hQ31.so]; decide
            have hG31 := hG31.tr hg31 hzz31
            obtain ⟨ha31, hb31⟩ := hQ31.num
            have ha31 : p27 + 1 ≤ p31 := ha31
            have hb31 : p31 ≤ n := hb31
            rw [List.append_assoc] at hP hD
            have hP : va_P (dC, dI) classes ([(qr, .inr (5, [.ref h0, .int (nI o)])), (h0, .inr (8, [.ref qb, .ref qu, .int uc31, .int ln, .int (nI n), .int (nI p31), .int pl])), (qb, .inl (cB, 4096, .inl bf)), (qu, .inl (cI, 4096, .inl ug31)), (q, .inr (4, [.int 1, .int (bI fl), va_rf fi, va_rf la]))] ++ va_pl ((L ++ (N ++ N31))) f31) H := hP
            have hD : va_D A ([(qr, .inr (5, [.ref h0, .int (nI o)])), (h0, .inr (8, [.ref qb, .ref qu, .int uc31, .int ln, .int (nI n), .int (nI p31), .int pl])), (qb, .inl (cB, 4096, .inl bf)), (qu, .inl (cI, 4096, .inl ug31)), (q, .inr (4, [.int 1, .int (bI fl), va_rf fi, va_rf la]))] ++ va_pl ((L ++ (N ++ N31))) f31) := hD
            have hQf2 : qrD bf n ok orL (nwB nw) i = (qrLD bf n ok orL (nwB nw) (4097 - (m9 + 1)) p31 (fl && sgG f31 v31)).map (fun q => (q.1, q.2.1, qryS (decide (hereV bf n i = 36)) ((l9 ++ [m31]) ++ q.2.2))) := qr_map (ok := ok) (f := bf) (n := n) (orL := orL) (nw := nwB nw) hQf (qrLD_s hmL h_p27 (Or.inr (h_h30.symm.trans c84)) hf31)
            have hsn := hQ31.so
            have hla : oR (fun z => E31 z = 8 ∧ lv31 v31 ≤ lv31 z ∧ z < v31) la := fun a ha => ⟨(hex31 a (by rw [(hCh.2.1 a ha).2]; decide)).trans (hCh.2.1 a ha).2, by rw [hg31.lve a (by rw [(hCh.2.1 a ha).2]; decide), hly a ha]; exact Nat.le_of_eq hlv31, Nat.lt_of_lt_of_le (hyz a ha) hge31⟩
            have hyL : ∀ a, la = some a → a < _ ∧ a ∉ L := fun a ha => ⟨hyz a ha, fun h => absurd (hLz a h) (Nat.not_lt.mpr (hG.ge (hCh.2.1 a ha).1 (by rw [(hCh.2.1 a ha).2]; decide)))⟩
            have hPc := hP.part (cx := [(q, .inr (4, [.int 1, .int (bI fl), va_rf fi, va_rf la]))]) [4] rfl
            have hDc := hD.part (cx := [(q, .inr (4, [.int 1, .int (bI fl), va_rf fi, va_rf la]))]) [4] (by decide) rfl
            have hFc := va_freeP (cx := [(q, .inr (4, [.int 1, .int (bI fl), va_rf fi, va_rf la]))]) hD hS hA [4] rfl
            have hKc := hK.sub (tys' := [(cI, .int), (cV, .object "QueryBench$Value")]) [1, 2] rfl
            refine w_same (fun hq0 => ?_)
            refine va_callv (va_runV (As := [.ref v31]) (rest := []) ⟨hx, hb, hml, hown, hts⟩ (c_Query_add l dC dI H cI cV E31 lv31 (L ++ (N ++ N31)) f31 hG31.po q 1 fl fi la v31 hsn hla) (cwV 1 hts (gt_V (own := R_QueryReader) (C := R_Query) (i := 51) (y := y_Query_add) i_Query_add z_796 z_797 z_798 z_23) rfl rfl rfl (by decide +kernel) ⟨by show 1 + 1 ≤ 12 * (16 - o) + 14; omega, by show 8 + (2 + 11) + (40) ≤ 360 * (16 - o) + 420; omega⟩) ⟨mn_blind, va_recv hK hP (ci := 4) (q0 := 4) rfl rfl, fun U hU hW => ⟨rfl, ⟨hU, by rw [hU]; exact hPc, va_K.moved hW.alike hKc, hDc.weaken (fun _ _ _ _ => trivial)⟩, hN.warm hW⟩⟩ rfl rfl hl.1 rfl (lv_room (Nat.le_of_ble_eq_true rfl)) d_QueryReader_query_104 ⟨by show ((8 * (p - i) - 7) + (8 * (p31 - p27) + 0 - 5)) + (0) ≤ 8 * (n - i) + 4; omega, by show ((64 * (p - i) - 60) + (64 * (p31 - p27) + 0 - 51)) + (0) ≤ 64 * (n - i) + 50; omega⟩) hS (fun q _ h => hFc q h) hFc (fun ⟨fi4, f4⟩ t9 H1 locs ht hvm hw hB hz1 hk1 hS => ?_)
            obtain ⟨⟨hP1, hK1, hD1⟩, hz9⟩ := hB
            rw [ht] at hP1
            rw [ht] at hz9
            have hq0 : szk s.heap H1 (((8 * (p - i) - 7) + (8 * (p31 - p27) + 0 - 5))) (((64 * (p - i) - 60) + (64 * (p31 - p27) + 0 - 51))) := (hq0.trans hz9).mono (Nat.le_of_eq (Nat.add_zero _)) (Nat.le_of_eq (Nat.add_zero _))
            refine w_tight hq0 ?_
            obtain ⟨hP, hD⟩ := va_joinP (wr := [(qr, .inr (5, [.ref h0, .int (nI o)])), (h0, .inr (8, [.ref qb, .ref qu, .int uc31, .int ln, .int (nI n), .int (nI p31), .int pl])), (qb, .inl (cB, 4096, .inl bf)), (qu, .inl (cI, 4096, .inl ug31))]) (rx := [(q, .inr (4, [.int 1, .int (bI (fl && sgG f31 v31)), va_rf fi4, .ref v31]))]) (pl1 := va_pl ((L ++ (N ++ N31))) f4) hP hD [4] [0, 1, 2, 3] rfl rfl (by decide) (by decide) hk1 hFc hP1 hD1
            generalize H1 = H at hP hS hq0 ⊢
            have hP : va_P (dC, dI) classes ([(qr, .inr (5, [.ref h0, .int (nI o)])), (h0, .inr (8, [.ref qb, .ref qu, .int uc31, .int ln, .int (nI n), .int (nI p31), .int pl])), (qb, .inl (cB, 4096, .inl bf)), (qu, .inl (cI, 4096, .inl ug31)), (q, .inr (4, [.int 1, .int (bI (fl && sgG f31 v31)), va_rf fi4, .ref v31]))] ++ va_pl ((L ++ (N ++ N31))) f4) H := hP
            have hD : va_D A ([(qr, .inr (5, [.ref h0, .int (nI o)])), (h0, .inr (8, [.ref qb, .ref qu, .int uc31, .int ln, .int (nI n), .int (nI p31), .int pl])), (qb, .inl (cB, 4096, .inl bf)), (qu, .inl (cI, 4096, .inl ug31)), (q, .inr (4, [.int 1, .int (bI (fl && sgG f31 v31)), va_rf fi4, .ref v31]))] ++ va_pl ((L ++ (N ++ N31))) f4) := hD
            obtain ⟨-, hw3, hw4⟩ := hw
            have hC2 := hCh.next hG.ex hQ31 (by omega) (by omega) hzz31 hyL (by omega) hex31 hw3 hw4
            have hQI2 := hQI.next hlaE hd31 hnv31 hkp31 hG.ex hw3 hw4
            refine lv_iinc (v := nI (m9 + 1)) (lv' := [(3, .int (nI (m9 + 1))), (4, .int (nI p)), (0, .ref qr), (1, .int nw), (2, .ref q)]) hx hb d_QueryReader_query_107 hl (k := 4) rfl (nI_1 _) (by decide) rfl (fun ls hl => ?_)
            refine lv_goto (tgt := 40) hx hb d_QueryReader_query_110 (by decide) ?_
            refine w_same (fun hq => ?_)
            refine W.widen (k := 8 * (n - i) + 4) (n := 64 * (n - i) + 50) (by show ((8 * (p - i) - 7) + (8 * (p31 - p27) + 0 - 5)) ≤ 8 * (n - i) + 4; omega) (by show ((64 * (p - i) - 60) + (64 * (p31 - p27) + 0 - 51)) ≤ 64 * (n - i) + 50; omega) ?_
            exact ih (m9 + 1, fi4, some v31, fl && sgG f31 v31, p31, (N ++ N31), E31, f4, uc31, ug31, l9 ++ [m31]) _ _ _ ⟨show m9 + 1 ≤ 4096 by omega, show m9 + 1 + i + 1 ≤ p31 by omega, hC2, hq.mono (by show ((8 * (p - i) - 7) + (8 * (p31 - p27) + 0 - 5)) ≤ 8 * (p31 - i) - 7; omega) (by show ((64 * (p - i) - 60) + (64 * (p31 - p27) + 0 - 51)) ≤ 64 * (p31 - i) - 60; omega), hQf2, hQI2⟩ (by show 4097 - (m9 + 1) < 4097 - m9; omega) hP hD hS (lv_sub hl [2, 3, 4, 0] rfl)
        · refine lv_aload_n hx hb d_QueryReader_query_87 rfl (lv_at hl 1 rfl) ?_
          refine va_get (D := (dC, dI)) (ci := 5) (v := .ref h0) (C := R_QueryReader) (T := F_QueryReader) (N := 2) hx hb hts in_QueryReader hown hK hP 0 rfl rfl 0 (by decide) (hts _ w_100) (fun _ h9 => h9) rfl d_QueryReader_query_88 ?_
          refine lv_iload hx hb d_QueryReader_query_91 (lv_at hl 0 rfl) ?_
          refine va_put (D := (dC, dI)) (ci := 8) (v := .int (nI p)) (ty := .int) (C := R_Tape) (T := F_Tape) (N := 7) hx hb hts in_Tape t_Tape t_Tape_ok n_Tape hown hK hP hD hS 1 rfl rfl 5 (by decide) (hts _ z_53) (fun _ h9 => h9) rfl (by decide +kernel) rfl rfl (Nat.le_of_ble_eq_true rfl) d_QueryReader_query_93 (fun H locs hP hD hS => ?_)
          have hP : va_P (dC, dI) classes ([(qr, .inr (5, [.ref h0, .int (nI o)])), (h0, .inr (8, [.ref qb, .ref qu, .int uc, .int ln, .int (nI n), .int (nI p), .int pl])), (qb, .inl (cB, 4096, .inl bf)), (qu, .inl (cI, 4096, .inl ug)), (q, .inr (4, [.int 1, .int (bI fl), va_rf fi, va_rf la]))] ++ va_pl ((L ++ N)) f1) H := hP
          have hD : va_D A ([(qr, .inr (5, [.ref h0, .int (nI o)])), (h0, .inr (8, [.ref qb, .ref qu, .int uc, .int ln, .int (nI n), .int (nI p), .int pl])), (qb, .inl (cB, 4096, .inl bf)), (qu, .inl (cI, 4096, .inl ug)), (q, .inr (4, [.int 1, .int (bI fl), va_rf fi, va_rf la]))] ++ va_pl ((L ++ N)) f1) := hD
          have hP : va_P (dC, dI) classes ([(qr, .inr (5, [.ref h0, .int (nI o)])), (h0, .inr (8, [.ref qb, .ref qu, .int uc, .int ln, .int (nI n), .int (nI p), .int pl])), (qb, .inl (cB, 4096, .inl bf)), (qu, .inl (cI, 4096, .inl ug)), (q, .inr (4, [.int 1, .int (bI fl), va_rf fi, va_rf la]))] ++ va_pl ((L ++ N)) f1) H := hP
          have hD : va_D A ([(qr, .inr (5, [.ref h0, .int (nI o)])), (h0, .inr (8, [.ref qb, .ref qu, .int uc, .int ln, .int (nI n), .int (nI p), .int pl])), (qb, .inl (cB, 4096, .inl bf)), (qu, .inl (cI, 4096, .inl ug)), (q, .inr (4, [.int 1, .int (bI fl), va_rf fi, va_rf la]))] ++ va_pl ((L ++ N)) f1) := hD
          refine lv_aload_n hx hb d_QueryReader_query_96 rfl (lv_at hl 3 rfl) ?_
          have hL_q := plD_new (X := [(qr, .inr (5, [.ref h0, .int (nI o)])), (h0, .inr (8, [.ref qb, .ref qu, .int uc, .int ln, .int (nI n), .int (nI p), .int pl])), (qb, .inl (cB, 4096, .inl bf)), (qu, .inl (cI, 4096, .inl ug))]) hD
          have h0_q : E1 q = 0 := Classical.byContradiction (fun h => hL_q (hG.po.inL h))
          have hE_q : E q = 0 := hG.ex.z h0_q
          have hP := plP_push (X := [(qr, .inr (5, [.ref h0, .int (nI o)])), (h0, .inr (8, [.ref qb, .ref qu, .int uc, .int ln, .int (nI n), .int (nI p), .int pl])), (qb, .inl (cB, 4096, .inl bf)), (qu, .inl (cI, 4096, .inl ug))]) hP hL_q
          have hD := plD_push (X := [(qr, .inr (5, [.ref h0, .int (nI o)])), (h0, .inr (8, [.ref qb, .ref qu, .int uc, .int ln, .int (nI n), .int (nI p), .int pl])), (qb, .inl (cB, 4096, .inl bf)), (qu, .inl (cI, 4096, .inl ug))]) hD hL_q
          rw [List.append_assoc] at hP hD
          have hQ_q : QPn cI cV E L f i n s.heap.size 7 (5 * (16 - o)) 1 q p (N ++ [q]) (va_up E1 q 7) (va_up f1 q (qE 1 (bI fl) fi la)) := by
            refine ⟨hE_q, va_up_self _ _ _, by omega, by omega, fun lv hO b hb => ?_⟩
            obtain ⟨lv1, g1, c1, c2⟩ := hCh.x lv hO b hb
            have hne : ∀ a, E1 a = 8 → a ≠ q := fun a ha e => by rw [e, h0_q] at ha; cases ha
            exact ⟨va_up lv1 q b, g1.add (q := q) (s := 7) (b := b) (e := qE 1 (bI fl) fi la) h0_q hL_q hz_q (by decide) (by decide) (CO.Q (va_up_self _ _ _) ⟨_, _, _, _, rfl, (fun a ha => ⟨(va_up_ne _ _ (hne a (hCh.1 a ha).2)).trans (hCh.1 a ha).2, by rw [va_up_ne _ _ (hne a (hCh.1 a ha).2), va_up_self]; exact Nat.le_of_eq (c1 a ha)⟩), (fun a ha => (va_up_ne _ _ (hne a (hCh.2.1 a ha).2)).trans (hCh.2.1 a ha).2)⟩), va_up_self _ _ _⟩
          have hP : va_P (dC, dI) classes ([(qr, .inr (5, [.ref h0, .int (nI o)])), (h0, .inr (8, [.ref qb, .ref qu, .int uc, .int ln, .int (nI n), .int (nI p), .int pl])), (qb, .inl (cB, 4096, .inl bf)), (qu, .inl (cI, 4096, .inl ug))] ++ va_pl ((L ++ (N ++ [q]))) ((va_up f1 q (qE 1 (bI fl) fi la)))) H := hP
          have hD : va_D A ([(qr, .inr (5, [.ref h0, .int (nI o)])), (h0, .inr (8, [.ref qb, .ref qu, .int uc, .int ln, .int (nI n), .int (nI p), .int pl])), (qb, .inl (cB, 4096, .inl bf)), (qu, .inl (cI, 4096, .inl ug))] ++ va_pl ((L ++ (N ++ [q]))) ((va_up f1 q (qE 1 (bI fl) fi la)))) := hD
          have hk36 : decide (hereV bf n i = 36) = decide (¬ (1 : Int32) = 0) := by rw [decide_eq_true (h_h21.symm.trans (by first | exact c13 | exact Classical.not_not.mp c13))]; rfl
          have hQr : QPn cI cV E L f i n s.heap.size 7 (5 * (16 - o)) 1 q p ((N ++ [q])) ((va_up E1 q 7)) ((va_up f1 q (qE 1 (bI fl) fi la))) := hQ_q
          have hfin : (qrD bf n ok orL (nwB nw)) i = some (p, sgQ (((va_up f1 q (qE 1 (bI fl) fi la))) q), qryS (decide (¬ (1 : Int32) = 0)) l9) := by rw [va_up_self, sgQ_b, ← hk36]; exact (hQf.trans (mp_some (qrLD_e hmL h_p27 (fun q => c72 (h_h28.trans q)) (fun q => c84 (h_h30.trans q))))).trans (by rw [List.append_nil])
          have hdn : DNx QD 0 E ((va_up E1 q 7)) ((va_up f1 q (qE 1 (bI fl) fi la))) q (qryS (decide (¬ (1 : Int32) = 0)) l9) := hQI.fin hlaE h0_q
          refine w_same (fun hq => ?_)
          refine W.widen (k := 8 * (n - i) + 4) (n := 64 * (n - i) + 50) (by show (8 * (p - i) - 7) ≤ 8 * (n - i) + 4; omega) (by show (64 * (p - i) - 60) ≤ 64 * (n - i) + 50; omega) ?_
          refine vx_ret ?_
          exact W.aret (v := .ref q) hx hb hr (Or.inl ⟨_, rfl⟩) (Or.inr ⟨_, rfl⟩) (fun t9 ht hW => ⟨⟨(q, p, (N ++ [q]), (va_up E1 q 7), (va_up f1 q (qE 1 (bI fl) fi la)), uc, ug), q, rfl, ⟨hQr, _, hfin, hdn⟩, ⟨by rw [ht]; exact hP, va_K.moved hW.alike hK, hD⟩, by rw [ht]; exact ⟨hq.mono (by show (8 * (p - i) - 7) ≤ 8 * (p - i) + 0 - 7; omega) (by show (64 * (p - i) - 60) ≤ 64 * (p - i) + 0 - 60; omega), rfl⟩⟩, hS.F ht⟩) hS.2.2 d_QueryReader_query_97
set_option maxHeartbeats 4000000 in
set_option maxRecDepth 100000 in
/-- QueryReader.anyQuery -/
theorem c_QR_anyQuery (l : Launch) (hl9 : l.stackTraces = false) (K : Nat → Nat × Nat) (dC : Nat → ClassId) (dI : Nat → Nat → Nat) (cI cV : ClassId) (cB : ClassId) (h0 qb qu : Nat) (ln : Int32) (bf : Nat → Int32) (n qr : Nat) (hn0 : n ≤ 4096) (hbf : byR bf) (o : Nat) (ho : o ≤ 16) (ok : Bool) (orL : Nat → Option (Nat × CT)) (cmL : Nat → Option (Nat × OT)) (qyL : Nat → Option (Nat × Bool × QT)) (hok : ok = true ↔ o < 16) (HQ : ∀ nw : Int32, QCT l K dC dI cI cV cB h0 qb qu ln bf n qr y_QueryReader_query (k_QueryReader_query :: gtbl) [.ref qr, .int nw] o (12 * (16 - o) + 14) (360 * (16 - o) + 420) 4 50 0 7 0 60 7 (5 * (16 - o)) 1 1 (OKe QD 0 (qrD bf n ok orL (nwB nw)) sgQs) (NOd (qrD bf n ok orL (nwB nw)))) : QCT l K dC dI cI cV cB h0 qb qu ln bf n qr y_QueryReader_anyQuery (k_QueryReader_anyQuery :: gtbl) [.ref qr] o (12 * (16 - o) + 15) (360 * (16 - o) + 450) 4 50 0 7 0 60 7 (5 * (16 - o)) 1 0 (OKd QD 0 (anyD bf n (qrD bf n ok orL false))) (NOd (anyD bf n (qrD bf n ok orL false))) := by
  intro sz E lv L f i uc pl ug hO hin
  refine vx_ofW (cc := b_QueryReader_anyQuery) (maxL := 1) (ret := (some (.object "QueryBench$Query"))) (by decide) rfl ?_
  intro p e s m args below meth c s₁ B hml hex hv
  obtain ⟨rfl, ⟨hsz, hP, hK, hD0⟩, hN, hZ, hC, hV⟩ := hv
  have hx := B.exec
  have hb := B.bytes
  have hr := B.returns
  have hts0 := atoms_spec (ws := k_QueryReader_anyQuery :: gtbl) B.pre
  have hts := fun w h => hts0 w (List.mem_cons_of_mem _ h)
  have hown : s.vm.findClass R_QueryReader = some m.cls := findClass_of_methodNamed B.named
  have hlocks := B.notSynchronized
  subst hsz
  have hD := hD0.self (sz := s.heap.size)
  generalize hAe : va_A ([(qr, .inr (5, [.ref h0, .int (nI o)])), (h0, .inr (8, [.ref qb, .ref qu, .int uc, .int ln, .int (nI n), .int (nI i), .int pl])), (qb, .inl (cB, 4096, .inl bf)), (qu, .inl (cI, 4096, .inl ug))] ++ va_pl L f) s.heap.size = A at hD hZ hC ⊢
  have hA : ∀ q : Nat, s.heap.size ≤ q → A q := fun q h => by rw [← hAe]; exact Or.inr h
  have hS : va_S A s.heap s.heap [] := va_S.rf
  have hP : va_P (dC, dI) classes ([(qr, .inr (5, [.ref h0, .int (nI o)])), (h0, .inr (8, [.ref qb, .ref qu, .int uc, .int ln, .int (nI n), .int (nI i), .int pl])), (qb, .inl (cB, 4096, .inl bf)), (qu, .inl (cI, 4096, .inl ug))] ++ va_pl L f) s.heap := hP
  have hl := lv_entry ([.ref qr]) (n := 1) (Nat.le_of_ble_eq_true rfl)
  rw [lg_entry_eq]
  generalize (lg_sl ([.ref qr]) ++ List.replicate (1 - (lg_sl ([.ref qr])).length) Slot.unset).toArray = ls at hl ⊢
  have hl : lv_has ls 1 [(0, .ref qr)] := hl
  have hLz : ∀ a, a ∈ L → a < s.heap.size := fun a ha => va_pl_lt hP ha
  have hi9 : i ≤ n := by omega
  have hP : va_P (dC, dI) classes ([(qr, .inr (5, [.ref h0, .int (nI o)])), (h0, .inr (8, [.ref qb, .ref qu, .int uc, .int ln, .int (nI n), .int (nI i), .int pl])), (qb, .inl (cB, 4096, .inl bf)), (qu, .inl (cI, 4096, .inl ug))] ++ va_pl (L ++ []) f) s.heap := by rw [List.append_nil]; exact hP
  have hD : va_D A ([(qr, .inr (5, [.ref h0, .int (nI o)])), (h0, .inr (8, [.ref qb, .ref qu, .int uc, .int ln, .int (nI n), .int (nI i), .int pl])), (qb, .inl (cB, 4096, .inl bf)), (qu, .inl (cI, 4096, .inl ug))] ++ va_pl (L ++ []) f) := by rw [List.append_nil]; exact hD
  have hG0 : QG cI cV E lv L f i n i s.heap.size [] E lv f := QG.rf hO hi9
  refine lv_aload_n hx hb d_QueryReader_anyQuery_0 rfl (lv_at hl 0 rfl) ?_
  refine va_get (D := (dC, dI)) (ci := 5) (v := .ref h0) (C := R_QueryReader) (T := F_QueryReader) (N := 2) hx hb hts in_QueryReader hown hK hP 0 rfl rfl 0 (by decide) (hts _ w_100) (fun _ h9 => h9) rfl d_QueryReader_anyQuery_1 ?_
  have hPc := hP.sub (ws' := [(h0, .inr (8, [.ref qb, .ref qu, .int uc, .int ln, .int (nI n), .int (nI i), .int pl])), (qb, .inl (cB, 4096, .inl bf))]) [1, 2] rfl
  have hDc := hD.sub (ws' := [(h0, .inr (8, [.ref qb, .ref qu, .int uc, .int ln, .int (nI n), .int (nI i), .int pl])), (qb, .inl (cB, 4096, .inl bf))]) [1, 2] (by decide) rfl
  have hFc := va_free (wc := [(h0, .inr (8, [.ref qb, .ref qu, .int uc, .int ln, .int (nI n), .int (nI i), .int pl])), (qb, .inl (cB, 4096, .inl bf))]) hD hS hA [1, 2] rfl
  have hKc := hK.sub (tys' := [(cB, .byte)]) [0] rfl
  refine va_calli (va_runV (As := []) (rest := []) ⟨hx, hb, hml, hown, hts⟩ (c_Tape_here l dC dI cB h0 qb s.heap (.ref qu) uc ln pl bf n i hn0 (by omega)) (cwV 0 hts (gt_V (own := R_QueryReader) (C := R_Tape) (i := 19) (y := y_Tape_here) i_Tape_here z_534 w_363 w_364 w_2) rfl rfl rfl (by decide +kernel) ⟨by show 0 + 1 ≤ 12 * (16 - o) + 15; omega, by show 8 + (1 + 11) + (0) ≤ 360 * (16 - o) + 450; omega⟩) ⟨mp_blind, va_recv hK hP (ci := 8) (q0 := 1) rfl rfl, fun U hU hW => ⟨rfl, hU, by rw [hU]; exact hPc, va_K.moved hW.alike hKc, hDc.weaken (fun _ _ _ _ => trivial)⟩⟩ rfl rfl hl.1 rfl (lv_room (Nat.le_of_ble_eq_true rfl)) d_QueryReader_anyQuery_4 ⟨by show 0 + (0) ≤ 8 * (n - i) + 4; omega, by show 0 + (0) ≤ 64 * (n - i) + 50; omega⟩) hS (fun q _ h => hFc q h) hFc (fun h21 _u t9 H1 locs ht hvm hw hB hz1 hk1 hS => ?_)
  obtain ⟨hP1, hK1, hD1⟩ := hB
  rw [ht] at hP1
  obtain ⟨hP, hD⟩ := va_joinQ (wr := [(qr, .inr (5, [.ref h0, .int (nI o)])), (qu, .inl (cI, 4096, .inl ug))]) (w1 := [(h0, .inr (8, [.ref qb, .ref qu, .int uc, .int ln, .int (nI n), .int (nI i), .int pl])), (qb, .inl (cB, 4096, .inl bf))]) hP hD [1, 2] [0, 3] rfl rfl (by decide) (by decide) hk1 hFc hP1 hD1
  generalize H1 = H at hP hS ⊢
  have hP : va_P (dC, dI) classes ([(qr, .inr (5, [.ref h0, .int (nI o)])), (qu, .inl (cI, 4096, .inl ug)), (h0, .inr (8, [.ref qb, .ref qu, .int uc, .int ln, .int (nI n), .int (nI i), .int pl])), (qb, .inl (cB, 4096, .inl bf))] ++ va_pl ((L ++ [])) f) H := hP
  have hD : va_D A ([(qr, .inr (5, [.ref h0, .int (nI o)])), (qu, .inl (cI, 4096, .inl ug)), (h0, .inr (8, [.ref qb, .ref qu, .int uc, .int ln, .int (nI n), .int (nI i), .int pl])), (qb, .inl (cB, 4096, .inl bf))] ++ va_pl ((L ++ [])) f) := hD
  have hP := hP.part (cx := [(qr, .inr (5, [.ref h0, .int (nI o)])), (h0, .inr (8, [.ref qb, .ref qu, .int uc, .int ln, .int (nI n), .int (nI i), .int pl])), (qb, .inl (cB, 4096, .inl bf)), (qu, .inl (cI, 4096, .inl ug))]) [0, 2, 3, 1] rfl
  have hD := hD.part (cx := [(qr, .inr (5, [.ref h0, .int (nI o)])), (h0, .inr (8, [.ref qb, .ref qu, .int uc, .int ln, .int (nI n), .int (nI i), .int pl])), (qb, .inl (cB, 4096, .inl bf)), (qu, .inl (cI, 4096, .inl ug))]) [0, 2, 3, 1] (by decide) rfl
  have h_h21 : h21 = hereV bf n i := hw
  refine vp_callSi (va_Run.run (va_runS (As := [.int h21]) (rest := []) ⟨hx, hb, hml, hown, hts⟩ (c_QueryReader_beginsQuery l dC dI H h21) (va_cwS 1 hts (gt_S (own := R_QueryReader) (i := 178) (y := y_QueryReader_beginsQuery) i_QueryReader_beginsQuery z_713 z_714 w_4) rfl rfl rfl (by decide +kernel) ⟨by show 0 + 1 ≤ 12 * (16 - o) + 15; omega, by show 8 + (1 + 11) + (0) ≤ 360 * (16 - o) + 450; omega⟩) ⟨mT_blind, fun U hU hW => ⟨rfl, hN.warm hW⟩⟩ rfl rfl hl.1 rfl (lv_room (Nat.le_of_ble_eq_true rfl)) d_QueryReader_anyQuery_7 ⟨by show 0 + (0) ≤ 8 * (n - i) + 4; omega, by show 0 + (0) ≤ 64 * (n - i) + 50; omega⟩)) (fun r22 h_r22 => ?_)
  refine lv_if_ne (tgt := 27) hx hb d_QueryReader_anyQuery_10 (by decide) (fun c10 => ?_) (fun c10 => ?_)
  · have hbg : begC (hereV bf n i) := by rw [← h_h21]; exact h_r22.2.1 c10
    have hbq : i < n := by rcases hbg with h | h <;> exact here_lc h (by decide)
    refine lv_aload_n hx hb d_QueryReader_anyQuery_27 rfl (lv_at hl 0 rfl) ?_
    refine lv_iconst (v := 0) hx hb d_QueryReader_anyQuery_28 (by decide) ?_
    have hG23 := hG0.mv (show i ≤ i by omega) (show i ≤ n by omega)
    have hzz23 : s.heap.size ≤ H.size := hS.1
    have hPc := hP.part (cx := [(qr, .inr (5, [.ref h0, .int (nI o)])), (h0, .inr (8, [.ref qb, .ref qu, .int uc, .int ln, .int (nI n), .int (nI i), .int pl])), (qb, .inl (cB, 4096, .inl bf)), (qu, .inl (cI, 4096, .inl ug))]) [0, 1, 2, 3] rfl
    have hDc := hD.part (cx := [(qr, .inr (5, [.ref h0, .int (nI o)])), (h0, .inr (8, [.ref qb, .ref qu, .int uc, .int ln, .int (nI n), .int (nI i), .int pl])), (qb, .inl (cB, 4096, .inl bf)), (qu, .inl (cI, 4096, .inl ug))]) [0, 1, 2, 3] (by decide) rfl
    have hFc := va_freeP (cx := [(qr, .inr (5, [.ref h0, .int (nI o)])), (h0, .inr (8, [.ref qb, .ref qu, .int uc, .int ln, .int (nI n), .int (nI i), .int pl])), (qb, .inl (cB, 4096, .inl bf)), (qu, .inl (cI, 4096, .inl ug))]) hD hS hA [0, 1, 2, 3] rfl
    have hKc := hK.sub (tys' := [(cB, .byte), (cI, .int), (cV, .object "QueryBench$Value")]) [0, 1, 2] rfl
    refine w_same (fun hq0 => ?_)
    refine vx_callr (vx_runV (As := [.int 0]) (rest := []) ⟨hx, hb, hml, hown, hts⟩ ((HQ 0) H E lv (L ++ []) f i uc pl ug hG23.po (by omega)) (cwV 1 hts (gt_V (own := R_QueryReader) (C := R_QueryReader) (i := 32) (y := y_QueryReader_query) i_QueryReader_query z_536 z_538 (gt_sel (y := y_QueryReader_query) (n := 2) (by decide +kernel)) w_4) rfl rfl rfl (by decide +kernel) ⟨by show 12 * (16 - o) + 14 + 1 ≤ 12 * (16 - o) + 15; omega, by show 8 + (5 + 11) + (360 * (16 - o) + 420) ≤ 360 * (16 - o) + 450; omega⟩) ⟨ml_blind, va_recv hK hP (ci := 5) (q0 := 0) rfl rfl, fun U hU hW => ⟨rfl, ⟨hU, by rw [hU]; exact hPc, va_K.moved hW.alike hKc, hDc.weaken (fun _ _ _ _ => trivial)⟩, hN.warm hW, by rw [hU]; exact ZX.moved' hW.alike (ZX.narrow' (ZX.kept' hZ hS.2.1) hFc), by rw [hU]; exact CE.call hC hS.2.1 hFc hW, va_AO.moved hW.alike hV⟩⟩ rfl rfl hl.1 rfl (lv_room (Nat.le_of_ble_eq_true rfl)) d_QueryReader_anyQuery_29 ⟨by show 0 + (8 * (n - i) + 4) ≤ 8 * (n - i) + 4; omega, by show 0 + (64 * (n - i) + 50) ≤ 64 * (n - i) + 50; omega⟩) hS (fun q _ h => hFc q h) hFc (fun q _ h => hFc q h) (fun En ce q9 ⟨ax, cx, px, gx, ox⟩ t9 H1 locs ht hvm hw hB hz1 hk1 hS hce hcv hcl => ?_) (fun ⟨w23, p23, N23, E23, f23, uc23, ug23⟩ v23 t9 H1 locs ht hvm hw hB hz1 hk1 hS => ?_)
    · obtain ⟨hEn, hP1, hK1, hD1⟩ := hB
      rw [ht] at hP1
      obtain ⟨hP, hD⟩ := va_joinP (wr := []) (rx := [(qr, .inr (5, [.ref h0, .int ox])), (h0, .inr (8, [.ref qb, .ref qu, .int cx, .int ln, .int (nI n), .int ax, .int px])), (qb, .inl (cB, 4096, .inl bf)), (qu, .inl (cI, 4096, .inl gx))]) (pl1 := va_pl ((L ++ [])) f) hP hD [0, 1, 2, 3] [] rfl rfl (by decide) (by decide) hk1 hFc hP1 hD1
      generalize H1 = H at hP hS hce ⊢
      have hP : va_P (dC, dI) classes ([(qr, .inr (5, [.ref h0, .int ox])), (h0, .inr (8, [.ref qb, .ref qu, .int cx, .int ln, .int (nI n), .int ax, .int px])), (qb, .inl (cB, 4096, .inl bf)), (qu, .inl (cI, 4096, .inl gx))] ++ va_pl ((L ++ [])) f) H := hP
      have hD : va_D A ([(qr, .inr (5, [.ref h0, .int ox])), (h0, .inr (8, [.ref qb, .ref qu, .int cx, .int ln, .int (nI n), .int ax, .int px])), (qb, .inl (cB, 4096, .inl bf)), (qu, .inl (cI, 4096, .inl gx))] ++ va_pl ((L ++ [])) f) := hD
      have hP := plP_cut (hP.part (cx := [(qr, .inr (5, [.ref h0, .int ox])), (h0, .inr (8, [.ref qb, .ref qu, .int cx, .int ln, .int (nI n), .int ax, .int px])), (qb, .inl (cB, 4096, .inl bf)), (qu, .inl (cI, 4096, .inl gx))]) [0, 1, 2, 3] rfl) hG23.on
      have hD := plD_cut (hD.part (cx := [(qr, .inr (5, [.ref h0, .int ox])), (h0, .inr (8, [.ref qb, .ref qu, .int cx, .int ln, .int (nI n), .int ax, .int px])), (qb, .inl (cB, 4096, .inl bf)), (qu, .inl (cI, 4096, .inl gx))]) [0, 1, 2, 3] (by decide) rfl) hG23.on
      have hno : (anyD bf n (qrD bf n ok orL false)) i = none := anyD_1 hbg (qrD_nw0 hw)
      exact vx_out (fun x hx => (hex x hx).elim) hlocks hce hcv hcl (fun t9 ht2 ha => ⟨(ax, cx, px, gx, ox), hno, ⟨hEn, by rw [ht2]; exact hP, va_K.moved ha hK, hD⟩, hS.F ht2⟩) hS.2.2 (by show 0 + (8 * (n - i) + 4) ≤ 8 * (n - i) + 4; omega) (by show 0 + (64 * (n - i) + 50) ≤ 64 * (n - i) + 50; omega)
    · obtain ⟨⟨hP1, hK1, hD1⟩, hz9, ha9⟩ := hB
      rw [ht] at hP1
      rw [ht] at hz9
      have ha9 : v23 = w23 := ha9
      subst ha9
      have hq0 : szk s.heap H1 (0 + (8 * (p23 - i) + 0 - 7)) (0 + (64 * (p23 - i) + 0 - 60)) := (hq0.trans hz9).mono (Nat.le_refl _) (Nat.le_refl _)
      refine w_tight hq0 ?_
      obtain ⟨hP, hD⟩ := va_joinP (wr := []) (rx := [(qr, .inr (5, [.ref h0, .int (nI o)])), (h0, .inr (8, [.ref qb, .ref qu, .int uc23, .int ln, .int (nI n), .int (nI p23), .int pl])), (qb, .inl (cB, 4096, .inl bf)), (qu, .inl (cI, 4096, .inl ug23))]) (pl1 := va_pl (((L ++ []) ++ N23)) f23) hP hD [0, 1, 2, 3] [] rfl rfl (by decide) (by decide) hk1 hFc hP1 hD1
      generalize H1 = H at hP hS hq0 ⊢
      have hP : va_P (dC, dI) classes ([(qr, .inr (5, [.ref h0, .int (nI o)])), (h0, .inr (8, [.ref qb, .ref qu, .int uc23, .int ln, .int (nI n), .int (nI p23), .int pl])), (qb, .inl (cB, 4096, .inl bf)), (qu, .inl (cI, 4096, .inl ug23))] ++ va_pl (((L ++ []) ++ N23)) f23) H := hP
      have hD : va_D A ([(qr, .inr (5, [.ref h0, .int (nI o)])), (h0, .inr (8, [.ref qb, .ref qu, .int uc23, .int ln, .int (nI n), .int (nI p23), .int pl])), (qb, .inl (cB, 4096, .inl bf)), (qu, .inl (cI, 4096, .inl ug23))] ++ va_pl (((L ++ []) ++ N23)) f23) := hD
      obtain ⟨hw, m23, hf23, hd23⟩ := hw
      have hf23 : (qrD bf n ok orL (nwB 0)) i = some (p23, sgQ (f23 v23), m23) := hf23
      have hd23 : DNx QD 0 E E23 f23 v23 m23 := hd23
      have hQ23 : QPn cI cV E (L ++ []) f i n _ 7 (5 * (16 - o)) 1 v23 p23 N23 E23 f23 := hw
      obtain ⟨lv23, hg23, hlv23⟩ := hQ23.x lv hG23.po _ (Nat.le_refl _)
      have hex23 := hg23.ex
      have hge23 := hg23.ge hQ23.new (by rw [hQ23.so]; decide)
      have hkp23 : KPx E E23 f f23 := KPx.of hg23 hG23.po
      have hnv23 : E v23 = 0 := hQ23.new
      have hsv23 : ¬ E23 v23 = 0 := by rw [hQ23.so]; decide
      have hG23 := hG23.tr hg23 hzz23
      obtain ⟨ha23, hb23⟩ := hQ23.num
      have ha23 : i + 1 ≤ p23 := ha23
      have hb23 : p23 ≤ n := hb23
      rw [List.append_assoc] at hP hD
      have hP : va_P (dC, dI) classes ([(qr, .inr (5, [.ref h0, .int (nI o)])), (h0, .inr (8, [.ref qb, .ref qu, .int uc23, .int ln, .int (nI n), .int (nI p23), .int pl])), (qb, .inl (cB, 4096, .inl bf)), (qu, .inl (cI, 4096, .inl ug23))] ++ va_pl ((L ++ ([] ++ N23))) f23) H := hP
      have hD : va_D A ([(qr, .inr (5, [.ref h0, .int (nI o)])), (h0, .inr (8, [.ref qb, .ref qu, .int uc23, .int ln, .int (nI n), .int (nI p23), .int pl])), (qb, .inl (cB, 4096, .inl bf)), (qu, .inl (cI, 4096, .inl ug23))] ++ va_pl ((L ++ ([] ++ N23))) f23) := hD
      have hQr : QPn cI cV E L f i n s.heap.size 7 (5 * (16 - o)) 1 v23 p23 (([] ++ N23)) E23 f23 := (hQ23.up (by omega) (by omega) hzz23 (by omega) (by omega))
      have hfin : (anyD bf n (qrD bf n ok orL false)) i = some (p23, m23) := anyD_2 hbg (qrD_nw0 hf23)
      have hdn : DNx QD 0 E E23 f23 v23 m23 := hd23
      refine w_same (fun hq => ?_)
      refine W.widen (k := 8 * (n - i) + 4) (n := 64 * (n - i) + 50) (by show (0 + (8 * (p23 - i) + 0 - 7)) ≤ 8 * (n - i) + 4; omega) (by show (0 + (64 * (p23 - i) + 0 - 60)) ≤ 64 * (n - i) + 50; omega) ?_
      refine vx_ret ?_
      exact W.aret (v := .ref v23) hx hb hr (Or.inl ⟨_, rfl⟩) (Or.inr ⟨_, rfl⟩) (fun t9 ht hW => ⟨⟨(v23, p23, ([] ++ N23), E23, f23, uc23, ug23), v23, rfl, ⟨hQr, _, hfin, hdn⟩, ⟨by rw [ht]; exact hP, va_K.moved hW.alike hK, hD⟩, by rw [ht]; exact ⟨hq.mono (by show (0 + (8 * (p23 - i) + 0 - 7)) ≤ 8 * (p23 - i) + 0 - 7; omega) (by show (0 + (64 * (p23 - i) + 0 - 60)) ≤ 64 * (p23 - i) + 0 - 60; omega), rfl⟩⟩, hS.F ht⟩) hS.2.2 d_QueryReader_anyQuery_32
  · refine lv_aload_n hx hb d_QueryReader_anyQuery_13 rfl (lv_at hl 0 rfl) ?_
    refine va_get (D := (dC, dI)) (ci := 5) (v := .ref h0) (C := R_QueryReader) (T := F_QueryReader) (N := 2) hx hb hts in_QueryReader hown hK hP 0 rfl rfl 0 (by decide) (hts _ w_100) (fun _ h9 => h9) rfl d_QueryReader_anyQuery_14 ?_
    refine lv_aload_n hx hb d_QueryReader_anyQuery_17 rfl (lv_at hl 0 rfl) ?_
    refine va_get (D := (dC, dI)) (ci := 5) (v := .ref h0) (C := R_QueryReader) (T := F_QueryReader) (N := 2) hx hb hts in_QueryReader hown hK hP 0 rfl rfl 0 (by decide) (hts _ w_100) (fun _ h9 => h9) rfl d_QueryReader_anyQuery_18 ?_
    refine va_get (D := (dC, dI)) (ci := 8) (v := .int (nI i)) (C := R_Tape) (T := F_Tape) (N := 7) hx hb hts in_Tape hown hK hP 1 rfl rfl 5 (by decide) (hts _ z_53) (fun _ h9 => h9) rfl d_QueryReader_anyQuery_21 ?_
    have hPc := hP.sub (ws' := [(h0, .inr (8, [.ref qb, .ref qu, .int uc, .int ln, .int (nI n), .int (nI i), .int pl])), (qb, .inl (cB, 4096, .inl bf))]) [1, 2] rfl
    have hDc := hD.sub (ws' := [(h0, .inr (8, [.ref qb, .ref qu, .int uc, .int ln, .int (nI n), .int (nI i), .int pl])), (qb, .inl (cB, 4096, .inl bf))]) [1, 2] (by decide) rfl
    have hFc := va_free (wc := [(h0, .inr (8, [.ref qb, .ref qu, .int uc, .int ln, .int (nI n), .int (nI i), .int pl])), (qb, .inl (cB, 4096, .inl bf))]) hD hS hA [1, 2] rfl
    have hKc := hK.sub (tys' := [(cB, .byte)]) [0] rfl
    refine w_same (fun hq0 => ?_)
    refine vx_callv (vx_runV (As := [.int (nI i)]) (rest := []) ⟨hx, hb, hml, hown, hts⟩ (c_Tape_fail l hl9 dC dI cB h0 qb H (.ref qu) uc ln (nI n) (nI i) pl bf ((nI i))) (cwV 1 hts (gt_V (own := R_QueryReader) (C := R_Tape) (i := 28) (y := y_Tape_fail) i_Tape_fail z_535 w_371 w_372 w_2) rfl rfl rfl (by decide +kernel) ⟨by show 8 + 1 ≤ 12 * (16 - o) + 15; omega, by show 8 + (2 + 11) + (110) ≤ 360 * (16 - o) + 450; omega⟩) ⟨mx_blind, va_recv hK hP (ci := 8) (q0 := 1) rfl rfl, fun U hU hW => ⟨rfl, ⟨hU, by rw [hU]; exact hPc, va_K.moved hW.alike hKc, hDc.weaken (fun _ _ _ _ => trivial)⟩, hN.warm hW, by rw [hU]; exact ZX.moved' hW.alike (ZX.narrow' (ZX.kept' hZ hS.2.1) hFc)⟩⟩ rfl rfl hl.1 rfl (lv_room (Nat.le_of_ble_eq_true rfl)) d_QueryReader_anyQuery_24 ⟨by show 0 + (1) ≤ 8 * (n - i) + 4; omega, by show 0 + (6) ≤ 64 * (n - i) + 50; omega⟩) hS (fun q _ h => hFc q h) hFc (fun q _ h => hFc q h) (fun En ce q9 _u t9 H1 locs ht hvm hw hB hz1 hk1 hS hce hcv hcl => ?_) (fun _u t9 H1 locs ht hvm hw hB hz1 hk1 hS => ?_)
    · obtain ⟨hEn, hP1, hK1, hD1⟩ := hB
      rw [ht] at hP1
      obtain ⟨hP, hD⟩ := va_joinQ (wr := [(qr, .inr (5, [.ref h0, .int (nI o)])), (qu, .inl (cI, 4096, .inl ug))]) (w1 := [(h0, .inr (8, [.ref qb, .ref qu, .int uc, .int ln, .int (nI n), .int (nI i), .int (nI i)])), (qb, .inl (cB, 4096, .inl bf))]) hP hD [1, 2] [0, 3] rfl rfl (by decide) (by decide) hk1 hFc hP1 hD1
      generalize H1 = H at hP hS hce ⊢
      have hP : va_P (dC, dI) classes ([(qr, .inr (5, [.ref h0, .int (nI o)])), (qu, .inl (cI, 4096, .inl ug)), (h0, .inr (8, [.ref qb, .ref qu, .int uc, .int ln, .int (nI n), .int (nI i), .int (nI i)])), (qb, .inl (cB, 4096, .inl bf))] ++ va_pl ((L ++ [])) f) H := hP
      have hD : va_D A ([(qr, .inr (5, [.ref h0, .int (nI o)])), (qu, .inl (cI, 4096, .inl ug)), (h0, .inr (8, [.ref qb, .ref qu, .int uc, .int ln, .int (nI n), .int (nI i), .int (nI i)])), (qb, .inl (cB, 4096, .inl bf))] ++ va_pl ((L ++ [])) f) := hD
      have hP := hP.part (cx := [(qr, .inr (5, [.ref h0, .int (nI o)])), (h0, .inr (8, [.ref qb, .ref qu, .int uc, .int ln, .int (nI n), .int (nI i), .int (nI i)])), (qb, .inl (cB, 4096, .inl bf)), (qu, .inl (cI, 4096, .inl ug))]) [0, 2, 3, 1] rfl
      have hD := hD.part (cx := [(qr, .inr (5, [.ref h0, .int (nI o)])), (h0, .inr (8, [.ref qb, .ref qu, .int uc, .int ln, .int (nI n), .int (nI i), .int (nI i)])), (qb, .inl (cB, 4096, .inl bf)), (qu, .inl (cI, 4096, .inl ug))]) [0, 2, 3, 1] (by decide) rfl
      have hP := plP_cut (hP.part (cx := [(qr, .inr (5, [.ref h0, .int (nI o)])), (h0, .inr (8, [.ref qb, .ref qu, .int uc, .int ln, .int (nI n), .int (nI i), .int (nI i)])), (qb, .inl (cB, 4096, .inl bf)), (qu, .inl (cI, 4096, .inl ug))]) [0, 1, 2, 3] rfl) hG0.on
      have hD := plD_cut (hD.part (cx := [(qr, .inr (5, [.ref h0, .int (nI o)])), (h0, .inr (8, [.ref qb, .ref qu, .int uc, .int ln, .int (nI n), .int (nI i), .int (nI i)])), (qb, .inl (cB, 4096, .inl bf)), (qu, .inl (cI, 4096, .inl ug))]) [0, 1, 2, 3] (by decide) rfl) hG0.on
      have hno : (anyD bf n (qrD bf n ok orL false)) i = none := anyD_0 (by rw [← h_h21]; exact h_r22.2.2 c10)
      exact vx_out (fun x hx => (hex x hx).elim) hlocks hce hcv hcl (fun t9 ht2 ha => ⟨(nI i, uc, (nI i), ug, nI o), hno, ⟨hEn, by rw [ht2]; exact hP, va_K.moved ha hK, hD⟩, hS.F ht2⟩) hS.2.2 (by show 0 + (1) ≤ 8 * (n - i) + 4; omega) (by show 0 + (6) ≤ 64 * (n - i) + 50; omega)
    · obtain ⟨⟨hP1, hK1, hD1⟩, hz9⟩ := hB
      rw [ht] at hP1
      rw [ht] at hz9
      refine w_tight (hq0.trans hz9) ?_
      have hq0 := hq0.trans hz9
      obtain ⟨hP, hD⟩ := va_joinQ (wr := [(qr, .inr (5, [.ref h0, .int (nI o)])), (qu, .inl (cI, 4096, .inl ug))]) (w1 := [(h0, .inr (8, [.ref qb, .ref qu, .int uc, .int ln, .int (nI n), .int (nI i), .int pl])), (qb, .inl (cB, 4096, .inl bf))]) hP hD [1, 2] [0, 3] rfl rfl (by decide) (by decide) hk1 hFc hP1 hD1
      generalize H1 = H at hP hS hq0 ⊢
      have hP : va_P (dC, dI) classes ([(qr, .inr (5, [.ref h0, .int (nI o)])), (qu, .inl (cI, 4096, .inl ug)), (h0, .inr (8, [.ref qb, .ref qu, .int uc, .int ln, .int (nI n), .int (nI i), .int pl])), (qb, .inl (cB, 4096, .inl bf))] ++ va_pl ((L ++ [])) f) H := hP
      have hD : va_D A ([(qr, .inr (5, [.ref h0, .int (nI o)])), (qu, .inl (cI, 4096, .inl ug)), (h0, .inr (8, [.ref qb, .ref qu, .int uc, .int ln, .int (nI n), .int (nI i), .int pl])), (qb, .inl (cB, 4096, .inl bf))] ++ va_pl ((L ++ [])) f) := hD
      have hP := hP.part (cx := [(qr, .inr (5, [.ref h0, .int (nI o)])), (h0, .inr (8, [.ref qb, .ref qu, .int uc, .int ln, .int (nI n), .int (nI i), .int pl])), (qb, .inl (cB, 4096, .inl bf)), (qu, .inl (cI, 4096, .inl ug))]) [0, 2, 3, 1] rfl
      have hD := hD.part (cx := [(qr, .inr (5, [.ref h0, .int (nI o)])), (h0, .inr (8, [.ref qb, .ref qu, .int uc, .int ln, .int (nI n), .int (nI i), .int pl])), (qb, .inl (cB, 4096, .inl bf)), (qu, .inl (cI, 4096, .inl ug))]) [0, 2, 3, 1] (by decide) rfl
      exact hw.elim
