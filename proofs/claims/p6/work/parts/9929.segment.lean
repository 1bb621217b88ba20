theorem z_568 : (.classLink "QueryBench$QueryReader" 55 "QueryBench$Segment" : Cond) ∈ gtbl := gt_in 568 (by decide +kernel) (by decide +kernel)
theorem z_569 : (.instantiable "QueryBench$Segment" 3 : Cond) ∈ gtbl := gt_in 569 (by decide +kernel) (by decide +kernel)
theorem z_571 : (.instanceMethod ⟨"QueryBench$Segment", "<init>", "()V"⟩ : Cond) ∈ gtbl := gt_in 571 (by decide +kernel) (by decide +kernel)
theorem z_575 : (.fieldLink "QueryBench$QueryReader" 62 "QueryBench$Segment" "descends" "Z" : Cond) ∈ gtbl := gt_in 575 (by decide +kernel) (by decide +kernel)
theorem z_578 : (.fieldLink "QueryBench$QueryReader" 73 "QueryBench$Segment" "first" "LQueryBench$Selector;" : Cond) ∈ gtbl := gt_in 578 (by decide +kernel) (by decide +kernel)
theorem z_590 : (.methodLink "QueryBench$QueryReader" 66 ⟨"QueryBench$QueryReader", "selectors", "(Z)LQueryBench$Selector;"⟩ : Cond) ∈ gtbl := gt_in 590 (by decide +kernel) (by decide +kernel)
theorem z_592 : (.instanceMethod ⟨"QueryBench$QueryReader", "selectors", "(Z)LQueryBench$Selector;"⟩ : Cond) ∈ gtbl := gt_in 592 (by decide +kernel) (by decide +kernel)
theorem z_789 : (.methodLink "QueryBench$QueryReader" 70 ⟨"QueryBench$QueryReader", "shortSelector", "(Z)LQueryBench$Selector;"⟩ : Cond) ∈ gtbl := gt_in 789 (by decide +kernel) (by decide +kernel)
theorem z_791 : (.instanceMethod ⟨"QueryBench$QueryReader", "shortSelector", "(Z)LQueryBench$Selector;"⟩ : Cond) ∈ gtbl := gt_in 791 (by decide +kernel) (by decide +kernel)
theorem nz_570 : (.methodLinkNest "QueryBench$QueryReader" 57 ⟨"QueryBench$Segment", "<init>", "()V"⟩ "QueryBench" : Cond) ∈ nwl := List.mem_filter.mpr ⟨List.mem_append_right _ (List.mem_of_getElem? (i := 570) (by decide +kernel)), rfl⟩
set_option maxHeartbeats 4000000 in
set_option maxRecDepth 100000 in
/-- QueryReader.segment -/
theorem c_QR_segment (l : Launch) (hl9 : l.stackTraces = false) (K : Nat → Nat × Nat) (dC : Nat → ClassId) (dI : Nat → Nat → Nat) (cI cV : ClassId) (cB : ClassId) (h0 qb qu : Nat) (ln : Int32) (bf : Nat → Int32) (n qr : Nat) (hn0 : n ≤ 4096) (hbf : byR bf) (o : Nat) (ho : o ≤ 16) (ok : Bool) (orL : Nat → Option (Nat × CT)) (cmL : Nat → Option (Nat × OT)) (qyL : Nat → Option (Nat × Bool × QT)) (hok : ok = true ↔ o < 16) (HL : ∀ nw : Int32, QCT l K dC dI cI cV cB h0 qb qu ln bf n qr y_QueryReader_selectors (k_QueryReader_selectors :: gtbl) [.ref qr, .int nw] o (12 * (16 - o) + 12) (360 * (16 - o) + 360) 6 90 0 6 0 54 9 (5 * (16 - o)) 2 0 (OKc LD 8 (slsD bf n ok orL (nwB nw)) sgLs) (NOd (slsD bf n ok orL (nwB nw)))) (nw : Int32) : QCT l K dC dI cI cV cB h0 qb qu ln bf n qr y_QueryReader_segment (k_QueryReader_segment :: gtbl) [.ref qr, .int nw] o (12 * (16 - o) + 13) (360 * (16 - o) + 390) 7 100 0 5 0 51 8 (5 * (16 - o)) 1 0 (OKe GD 2 (segD bf n ok orL (nwB nw)) sgG) (NOd (segD bf n ok orL (nwB nw))) := by
  intro sz E lv L f i uc pl ug hO hin
  refine vx_ofW (cc := b_QueryReader_segment) (maxL := 5) (ret := (some (.object "QueryBench$Segment"))) (by decide) rfl ?_
  intro p e s m args below meth c s₁ B hml hex hv
  obtain ⟨rfl, ⟨hsz, hP, hK, hD0⟩, hN, hZ, hC, hV⟩ := hv
  have hx := B.exec
  have hb := B.bytes
  have hr := B.returns
  have hts0 := atoms_spec (ws := k_QueryReader_segment :: gtbl) B.pre
  have hts := fun w h => hts0 w (List.mem_cons_of_mem _ h)
  have hown : s.vm.findClass R_QueryReader = some m.cls := findClass_of_methodNamed B.named
  have hlocks := B.notSynchronized
  subst hsz
  have hD := hD0.self (sz := s.heap.size)
  generalize hAe : va_A ([(qr, .inr (5, [.ref h0, .int (nI o)])), (h0, .inr (8, [.ref qb, .ref qu, .int uc, .int ln, .int (nI n), .int (nI i), .int pl])), (qb, .inl (cB, 4096, .inl bf)), (qu, .inl (cI, 4096, .inl ug))] ++ va_pl L f) s.heap.size = A at hD hZ hC ⊢
  have hA : ∀ q : Nat, s.heap.size ≤ q → A q := fun q h => by rw [← hAe]; exact Or.inr h
  have hS : va_S A s.heap s.heap [] := va_S.rf
  have hP : va_P (dC, dI) classes ([(qr, .inr (5, [.ref h0, .int (nI o)])), (h0, .inr (8, [.ref qb, .ref qu, .int uc, .int ln, .int (nI n), .int (nI i), .int pl])), (qb, .inl (cB, 4096, .inl bf)), (qu, .inl (cI, 4096, .inl ug))] ++ va_pl L f) s.heap := hP
  have hl := lv_entry ([.ref qr, .int nw]) (n := 5) (Nat.le_of_ble_eq_true rfl)
  rw [lg_entry_eq]
  generalize (lg_sl ([.ref qr, .int nw]) ++ List.replicate (5 - (lg_sl ([.ref qr, .int nw])).length) Slot.unset).toArray = ls at hl ⊢
  have hl : lv_has ls 5 [(0, .ref qr), (1, .int nw)] := hl
  have hLz : ∀ a, a ∈ L → a < s.heap.size := fun a ha => va_pl_lt hP ha
  have hi9 : i ≤ n := by omega
  have hP : va_P (dC, dI) classes ([(qr, .inr (5, [.ref h0, .int (nI o)])), (h0, .inr (8, [.ref qb, .ref qu, .int uc, .int ln, .int (nI n), .int (nI i), .int pl])), (qb, .inl (cB, 4096, .inl bf)), (qu, .inl (cI, 4096, .inl ug))] ++ va_pl (L ++ []) f) s.heap := by rw [List.append_nil]; exact hP
  have hD : va_D A ([(qr, .inr (5, [.ref h0, .int (nI o)])), (h0, .inr (8, [.ref qb, .ref qu, .int uc, .int ln, .int (nI n), .int (nI i), .int pl])), (qb, .inl (cB, 4096, .inl bf)), (qu, .inl (cI, 4096, .inl ug))] ++ va_pl (L ++ []) f) := by rw [List.append_nil]; exact hD
  have hG0 : QG cI cV E lv L f i n i s.heap.size [] E lv f := QG.rf hO hi9
  refine va_new (ci := 6) (fs := [.int 0, .null, .null]) (C := R_Segment) (T := F_Segment) (N := 3) hx hb hts in_Segment t_Segment t_Segment_ok hown (hts _ z_568) (hts _ z_569) (hts _ z_24) hK hP hD hS hA rfl (fun j hj => by rcases (show j = 0 ∨ j = 1 ∨ j = 2 by omega) with rfl | rfl | rfl <;> rfl) (by show 0 + 1 ≤ 8 * (n - i) + 7; omega) (by show 0 + 3 ≤ 64 * (n - i) + 100; omega) d_QueryReader_segment_0 (fun sg H hP hD hS => ?_)
  have hz_sg := newB (X := [(qr, .inr (5, [.ref h0, .int (nI o)])), (h0, .inr (8, [.ref qb, .ref qu, .int uc, .int ln, .int (nI n), .int (nI i), .int pl])), (qb, .inl (cB, 4096, .inl bf)), (qu, .inl (cI, 4096, .inl ug))]) hAe hD (fun k x hk => by rcases k with _ | _ | _ | _ | k; (· cases hk; exact ⟨0, _, rfl⟩); (· cases hk; exact ⟨1, _, rfl⟩); (· cases hk; exact ⟨2, _, rfl⟩); (· cases hk; exact ⟨3, _, rfl⟩); (· cases hk))
  have hP := hP.swap
  have hD := hD.swap
  have hP : va_P (dC, dI) classes ([(qr, .inr (5, [.ref h0, .int (nI o)])), (h0, .inr (8, [.ref qb, .ref qu, .int uc, .int ln, .int (nI n), .int (nI i), .int pl])), (qb, .inl (cB, 4096, .inl bf)), (qu, .inl (cI, 4096, .inl ug)), (sg, .inr (6, [.int 0, .null, .null]))] ++ va_pl ((L ++ [])) f) H := hP
  have hD : va_D A ([(qr, .inr (5, [.ref h0, .int (nI o)])), (h0, .inr (8, [.ref qb, .ref qu, .int uc, .int ln, .int (nI n), .int (nI i), .int pl])), (qb, .inl (cB, 4096, .inl bf)), (qu, .inl (cI, 4096, .inl ug)), (sg, .inr (6, [.int 0, .null, .null]))] ++ va_pl ((L ++ [])) f) := hD
  refine lv_dup hx hb d_QueryReader_segment_3 rfl ?_
  have hPc := hP.sub (ws' := [(sg, .inr (6, [.int 0, .null, .null]))]) [4] rfl
  have hDc := hD.sub (ws' := [(sg, .inr (6, [.int 0, .null, .null]))]) [4] (by decide) rfl
  have hFc := va_free (wc := [(sg, .inr (6, [.int 0, .null, .null]))]) hD hS hA [4] rfl
  have hKc := hK.sub (tys' := []) [] rfl
  refine w_same (fun hq0 => ?_)
  refine va_callv (va_runIN (As := []) (rest := [.ref sg]) ⟨hx, hb, hml, hown, hts⟩ (c_Segment_init l dC dI H sg) (⟨va_cnB (host := "QueryBench") 0 hts (gt_code i_Segment_init) rfl rfl rfl (hN _ nz_570) (hts _ z_24) (by decide +kernel) ⟨by show 1 + 1 ≤ 12 * (16 - o) + 13; omega, by show 8 + (1 + 11) + (20) ≤ 360 * (16 - o) + 390; omega⟩, rfl, hts _ z_571⟩) ⟨mp_blind, fun U hU hW => ⟨rfl, hU, by rw [hU]; exact hPc, va_K.moved hW.alike hKc, hDc.weaken (fun _ _ _ _ => trivial)⟩⟩ rfl rfl hl.1 rfl (lv_room (Nat.le_of_ble_eq_true rfl)) d_QueryReader_segment_4 ⟨by show (0 + 1) + (0) ≤ 8 * (n - i) + 7; omega, by show (0 + 3) + (0) ≤ 64 * (n - i) + 100; omega⟩) hS (fun q _ h => hFc q h) hFc (fun _u t9 H1 locs ht hvm hw hB hz1 hk1 hS => ?_)
  obtain ⟨⟨hP1, hK1, hD1⟩, hz9⟩ := hB
  rw [ht] at hP1
  rw [ht] at hz9
  have hq0 : szk s.heap H1 ((0 + 1)) ((0 + 3)) := (hq0.trans hz9).mono (Nat.le_of_eq (Nat.add_zero _)) (Nat.le_of_eq (Nat.add_zero _))
  refine w_tight hq0 ?_
  obtain ⟨hP, hD⟩ := va_joinQ (wr := [(qr, .inr (5, [.ref h0, .int (nI o)])), (h0, .inr (8, [.ref qb, .ref qu, .int uc, .int ln, .int (nI n), .int (nI i), .int pl])), (qb, .inl (cB, 4096, .inl bf)), (qu, .inl (cI, 4096, .inl ug))]) (w1 := [(sg, .inr (6, [.int 0, .null, .null]))]) hP hD [4] [0, 1, 2, 3] rfl rfl (by decide) (by decide) hk1 hFc hP1 hD1
  generalize H1 = H at hP hS hq0 ⊢
  have hP : va_P (dC, dI) classes ([(qr, .inr (5, [.ref h0, .int (nI o)])), (h0, .inr (8, [.ref qb, .ref qu, .int uc, .int ln, .int (nI n), .int (nI i), .int pl])), (qb, .inl (cB, 4096, .inl bf)), (qu, .inl (cI, 4096, .inl ug)), (sg, .inr (6, [.int 0, .null, .null]))] ++ va_pl ((L ++ [])) f) H := hP
  have hD : va_D A ([(qr, .inr (5, [.ref h0, .int (nI o)])), (h0, .inr (8, [.ref qb, .ref qu, .int uc, .int ln, .int (nI n), .int (nI i), .int pl])), (qb, .inl (cB, 4096, .inl bf)), (qu, .inl (cI, 4096, .inl ug)), (sg, .inr (6, [.int 0, .null, .null]))] ++ va_pl ((L ++ [])) f) := hD
  refine lv_astore_n (lv' := [(2, .ref sg), (0, .ref qr), (1, .int nw)]) hx hb d_QueryReader_segment_7 rfl hl (by decide) rfl (fun ls hl => ?_)
  refine lv_aload_n hx hb d_QueryReader_segment_8 rfl (lv_at hl 1 rfl) ?_
  refine va_get (D := (dC, dI)) (ci := 5) (v := .ref h0) (C := R_QueryReader) (T := F_QueryReader) (N := 2) hx hb hts in_QueryReader hown hK hP 0 rfl rfl 0 (by decide) (hts _ w_100) (fun _ h9 => h9) rfl d_QueryReader_segment_9 ?_
  refine lv_bipush (v := 46) hx hb d_QueryReader_segment_12 (by decide) ?_
  have hPc := hP.sub (ws' := [(h0, .inr (8, [.ref qb, .ref qu, .int uc, .int ln, .int (nI n), .int (nI i), .int pl])), (qb, .inl (cB, 4096, .inl bf))]) [1, 2] rfl
  have hDc := hD.sub (ws' := [(h0, .inr (8, [.ref qb, .ref qu, .int uc, .int ln, .int (nI n), .int (nI i), .int pl])), (qb, .inl (cB, 4096, .inl bf))]) [1, 2] (by decide) rfl
  have hFc := va_free (wc := [(h0, .inr (8, [.ref qb, .ref qu, .int uc, .int ln, .int (nI n), .int (nI i), .int pl])), (qb, .inl (cB, 4096, .inl bf))]) hD hS hA [1, 2] rfl
  have hKc := hK.sub (tys' := [(cB, .byte)]) [0] rfl
  refine va_calli (va_runV (As := [.int 46]) (rest := []) ⟨hx, hb, hml, hown, hts⟩ (c_Tape_takeIf l dC dI cB h0 qb H (.ref qu) uc ln pl bf n i 46 hn0 (by omega)) (cwV 1 hts (gt_V (own := R_QueryReader) (C := R_Tape) (i := 58) (y := y_Tape_takeIf) i_Tape_takeIf z_589 z_393 z_394 w_2) rfl rfl rfl (by decide +kernel) ⟨by show 1 + 1 ≤ 12 * (16 - o) + 13; omega, by show 8 + (2 + 11) + (20) ≤ 360 * (16 - o) + 390; omega⟩) ⟨mp_blind, va_recv hK hP (ci := 8) (q0 := 1) rfl rfl, fun U hU hW => ⟨rfl, hU, by rw [hU]; exact hPc, va_K.moved hW.alike hKc, hDc.weaken (fun _ _ _ _ => trivial)⟩⟩ rfl rfl hl.1 rfl (lv_room (Nat.le_of_ble_eq_true rfl)) d_QueryReader_segment_14 ⟨by show (0 + 1) + (0) ≤ 8 * (n - i) + 7; omega, by show (0 + 3) + (0) ≤ 64 * (n - i) + 100; omega⟩) hS (fun q _ h => hFc q h) hFc (fun r21 u21 t9 H1 locs ht hvm hw hB hz1 hk1 hS => ?_)
  obtain ⟨hP1, hK1, hD1⟩ := hB
  rw [ht] at hP1
  obtain ⟨hP, hD⟩ := va_joinQ (wr := [(qr, .inr (5, [.ref h0, .int (nI o)])), (qu, .inl (cI, 4096, .inl ug)), (sg, .inr (6, [.int 0, .null, .null]))]) (w1 := [(h0, .inr (8, [.ref qb, .ref qu, .int uc, .int ln, .int (nI n), .int (nI u21), .int pl])), (qb, .inl (cB, 4096, .inl bf))]) hP hD [1, 2] [0, 3, 4] rfl rfl (by decide) (by decide) hk1 hFc hP1 hD1
  generalize H1 = H at hP hS ⊢
  have hP : va_P (dC, dI) classes ([(qr, .inr (5, [.ref h0, .int (nI o)])), (qu, .inl (cI, 4096, .inl ug)), (sg, .inr (6, [.int 0, .null, .null])), (h0, .inr (8, [.ref qb, .ref qu, .int uc, .int ln, .int (nI n), .int (nI u21), .int pl])), (qb, .inl (cB, 4096, .inl bf))] ++ va_pl ((L ++ [])) f) H := hP
  have hD : va_D A ([(qr, .inr (5, [.ref h0, .int (nI o)])), (qu, .inl (cI, 4096, .inl ug)), (sg, .inr (6, [.int 0, .null, .null])), (h0, .inr (8, [.ref qb, .ref qu, .int uc, .int ln, .int (nI n), .int (nI u21), .int pl])), (qb, .inl (cB, 4096, .inl bf))] ++ va_pl ((L ++ [])) f) := hD
  have hP := hP.part (cx := [(qr, .inr (5, [.ref h0, .int (nI o)])), (h0, .inr (8, [.ref qb, .ref qu, .int uc, .int ln, .int (nI n), .int (nI u21), .int pl])), (qb, .inl (cB, 4096, .inl bf)), (qu, .inl (cI, 4096, .inl ug)), (sg, .inr (6, [.int 0, .null, .null]))]) [0, 3, 4, 1, 2] rfl
  have hD := hD.part (cx := [(qr, .inr (5, [.ref h0, .int (nI o)])), (h0, .inr (8, [.ref qb, .ref qu, .int uc, .int ln, .int (nI n), .int (nI u21), .int pl])), (qb, .inl (cB, 4096, .inl bf)), (qu, .inl (cI, 4096, .inl ug)), (sg, .inr (6, [.int 0, .null, .null]))]) [0, 3, 4, 1, 2] (by decide) rfl
  rcases hw with ⟨ht21, hr21, hu21⟩ | ⟨ht21, hr21, hu21⟩
  · have hu21 : u21 = i + 1 := hu21
    subst hr21
    rw [hu21] at hP hD
    have hl21 := here_lc ht21 (by decide)
    have hP : va_P (dC, dI) classes ([(qr, .inr (5, [.ref h0, .int (nI o)])), (h0, .inr (8, [.ref qb, .ref qu, .int uc, .int ln, .int (nI n), .int (nI (i + 1)), .int pl])), (qb, .inl (cB, 4096, .inl bf)), (qu, .inl (cI, 4096, .inl ug)), (sg, .inr (6, [.int 0, .null, .null]))] ++ va_pl ((L ++ [])) f) H := hP
    have hD : va_D A ([(qr, .inr (5, [.ref h0, .int (nI o)])), (h0, .inr (8, [.ref qb, .ref qu, .int uc, .int ln, .int (nI n), .int (nI (i + 1)), .int pl])), (qb, .inl (cB, 4096, .inl bf)), (qu, .inl (cI, 4096, .inl ug)), (sg, .inr (6, [.int 0, .null, .null]))] ++ va_pl ((L ++ [])) f) := hD
    refine lv_istore_n (lv' := [(3, .int 1), (2, .ref sg), (0, .ref qr), (1, .int nw)]) hx hb d_QueryReader_segment_17 rfl hl (by decide) rfl (fun ls hl => ?_)
    refine lv_aload_n hx hb d_QueryReader_segment_18 rfl (lv_at hl 1 rfl) ?_
    refine lv_iload_n hx hb d_QueryReader_segment_19 rfl (lv_at hl 0 rfl) ?_
    refine lv_if_eq (tgt := 43) hx hb d_QueryReader_segment_20 (by decide) (fun h => absurd h (by decide)) (fun _ => ?_)
    refine lv_iload_n hx hb d_QueryReader_segment_23 rfl (lv_at hl 3 rfl) ?_
    refine lv_if_ne (tgt := 43) hx hb d_QueryReader_segment_24 (by decide) (fun c24 => ?_) (fun c24 => ?_)
    · refine lv_iconst (v := 0) hx hb d_QueryReader_segment_43 (by decide) ?_
      refine va_put (D := (dC, dI)) (ci := 6) (v := .int 0) (ty := .boolean) (C := R_Segment) (T := F_Segment) (N := 3) hx hb hts in_Segment t_Segment t_Segment_ok n_Segment hown hK hP hD hS 4 rfl rfl 0 (by decide) (hts _ z_575) (fun _ h9 => h9) rfl (by decide +kernel) rfl rfl (Nat.le_of_ble_eq_true rfl) d_QueryReader_segment_44 (fun H locs hP hD hS => ?_)
      have hP : va_P (dC, dI) classes ([(qr, .inr (5, [.ref h0, .int (nI o)])), (h0, .inr (8, [.ref qb, .ref qu, .int uc, .int ln, .int (nI n), .int (nI (i + 1)), .int pl])), (qb, .inl (cB, 4096, .inl bf)), (qu, .inl (cI, 4096, .inl ug)), (sg, .inr (6, [.int 0, .null, .null]))] ++ va_pl ((L ++ [])) f) H := hP
      have hD : va_D A ([(qr, .inr (5, [.ref h0, .int (nI o)])), (h0, .inr (8, [.ref qb, .ref qu, .int uc, .int ln, .int (nI n), .int (nI (i + 1)), .int pl])), (qb, .inl (cB, 4096, .inl bf)), (qu, .inl (cI, 4096, .inl ug)), (sg, .inr (6, [.int 0, .null, .null]))] ++ va_pl ((L ++ [])) f) := hD
      refine lv_iload_n hx hb d_QueryReader_segment_47 rfl (lv_at hl 0 rfl) ?_
      refine lv_if_eq (tgt := 70) hx hb d_QueryReader_segment_48 (by decide) (fun h => absurd h (by decide)) (fun _ => ?_)
      refine lv_aload_n hx hb d_QueryReader_segment_51 rfl (lv_at hl 1 rfl) ?_
      refine va_get (D := (dC, dI)) (ci := 6) (v := .int 0) (C := R_Segment) (T := F_Segment) (N := 3) hx hb hts in_Segment hown hK hP 4 rfl rfl 0 (by decide) (hts _ z_575) (fun _ h9 => h9) rfl d_QueryReader_segment_52 ?_
      refine lv_if_eq (tgt := 74) hx hb d_QueryReader_segment_55 (by decide) (fun _ => ?_) (fun h => absurd (by decide) h)
      refine lv_iconst (v := 0) hx hb d_QueryReader_segment_74 (by decide) ?_
      refine lv_istore (lv' := [(4, .int 0), (3, .int 1), (2, .ref sg), (0, .ref qr), (1, .int nw)]) hx hb d_QueryReader_segment_75 hl (by decide) rfl (fun ls hl => ?_)
      refine lv_aload_n hx hb d_QueryReader_segment_77 rfl (lv_at hl 2 rfl) ?_
      refine lv_iload hx hb d_QueryReader_segment_78 (lv_at hl 0 rfl) ?_
      refine lv_if_eq (tgt := 91) hx hb d_QueryReader_segment_80 (by decide) (fun _ => ?_) (fun h => absurd (by decide) h)
      refine lv_aload_n hx hb d_QueryReader_segment_91 rfl (lv_at hl 3 rfl) ?_
      refine lv_iload_n hx hb d_QueryReader_segment_92 rfl (lv_at hl 4 rfl) ?_
      have hG22 := hG0.mv (show i ≤ (i + 1) by omega) (show (i + 1) ≤ n by omega)
      have hzz22 : s.heap.size ≤ H.size := hS.1
      have hPc := hP.part (cx := [(qr, .inr (5, [.ref h0, .int (nI o)])), (h0, .inr (8, [.ref qb, .ref qu, .int uc, .int ln, .int (nI n), .int (nI (i + 1)), .int pl])), (qb, .inl (cB, 4096, .inl bf)), (qu, .inl (cI, 4096, .inl ug))]) [0, 1, 2, 3] rfl
      have hDc := hD.part (cx := [(qr, .inr (5, [.ref h0, .int (nI o)])), (h0, .inr (8, [.ref qb, .ref qu, .int uc, .int ln, .int (nI n), .int (nI (i + 1)), .int pl])), (qb, .inl (cB, 4096, .inl bf)), (qu, .inl (cI, 4096, .inl ug))]) [0, 1, 2, 3] (by decide) rfl
      have hFc := va_freeP (cx := [(qr, .inr (5, [.ref h0, .int (nI o)])), (h0, .inr (8, [.ref qb, .ref qu, .int uc, .int ln, .int (nI n), .int (nI (i + 1)), .int pl])), (qb, .inl (cB, 4096, .inl bf)), (qu, .inl (cI, 4096, .inl ug))]) hD hS hA [0, 1, 2, 3] rfl
      have hKc := hK.sub (tys' := [(cB, .byte), (cI, .int), (cV, .object "QueryBench$Value")]) [0, 1, 2] rfl
      refine w_same (fun hq0 => ?_)
      refine vx_callr (vx_runV (As := [.int nw]) (rest := [.ref sg]) ⟨hx, hb, hml, hown, hts⟩ (c_QueryReader_shortSelector l hl9 dC dI H cI cV E lv (L ++ []) f hG22.po cB h0 qb qu uc ln pl bf ug n ((i + 1)) hn0 (by omega) qr o nw hbf) (cwV 1 hts (gt_V (own := R_QueryReader) (C := R_QueryReader) (i := 70) (y := y_QueryReader_shortSelector) i_QueryReader_shortSelector z_789 z_791 (gt_sel (y := y_QueryReader_shortSelector) (n := 2) (by decide +kernel)) w_4) rfl rfl rfl (by decide +kernel) ⟨by show 10 + 1 ≤ 12 * (16 - o) + 13; omega, by show 8 + (5 + 11) + (170) ≤ 360 * (16 - o) + 390; omega⟩) ⟨mx_blind, va_recv hK hP (ci := 5) (q0 := 0) rfl rfl, fun U hU hW => ⟨rfl, ⟨hU, by rw [hU]; exact hPc, va_K.moved hW.alike hKc, hDc.weaken (fun _ _ _ _ => trivial)⟩, hN.warm hW, by rw [hU]; exact ZX.moved' hW.alike (ZX.narrow' (ZX.kept' hZ hS.2.1) hFc)⟩⟩ rfl rfl hl.1 rfl (lv_room (Nat.le_of_ble_eq_true rfl)) d_QueryReader_segment_93 ⟨by show (0 + 1) + (3) ≤ 8 * (n - i) + 7; omega, by show (0 + 3) + (15 + (n - (i + 1))) ≤ 64 * (n - i) + 100; omega⟩) hS (fun q _ h => hFc q h) hFc (fun q _ h => hFc q h) (fun En ce q9 ⟨ax, cx, px, gx, ox⟩ t9 H1 locs ht hvm hw hB hz1 hk1 hS hce hcv hcl => ?_) (fun ⟨w22, p22, N22, E22, f22⟩ v22 t9 H1 locs ht hvm hw hB hz1 hk1 hS => ?_)
      · obtain ⟨hEn, hP1, hK1, hD1⟩ := hB
        rw [ht] at hP1
        obtain ⟨hP, hD⟩ := va_joinP (wr := [(sg, .inr (6, [.int 0, .null, .null]))]) (rx := [(qr, .inr (5, [.ref h0, .int ox])), (h0, .inr (8, [.ref qb, .ref qu, .int cx, .int ln, .int (nI n), .int ax, .int px])), (qb, .inl (cB, 4096, .inl bf)), (qu, .inl (cI, 4096, .inl gx))]) (pl1 := va_pl ((L ++ [])) f) hP hD [0, 1, 2, 3] [4] rfl rfl (by decide) (by decide) hk1 hFc hP1 hD1
        generalize H1 = H at hP hS hce ⊢
        have hP : va_P (dC, dI) classes ([(sg, .inr (6, [.int 0, .null, .null])), (qr, .inr (5, [.ref h0, .int ox])), (h0, .inr (8, [.ref qb, .ref qu, .int cx, .int ln, .int (nI n), .int ax, .int px])), (qb, .inl (cB, 4096, .inl bf)), (qu, .inl (cI, 4096, .inl gx))] ++ va_pl ((L ++ [])) f) H := hP
        have hD : va_D A ([(sg, .inr (6, [.int 0, .null, .null])), (qr, .inr (5, [.ref h0, .int ox])), (h0, .inr (8, [.ref qb, .ref qu, .int cx, .int ln, .int (nI n), .int ax, .int px])), (qb, .inl (cB, 4096, .inl bf)), (qu, .inl (cI, 4096, .inl gx))] ++ va_pl ((L ++ [])) f) := hD
        have hP := hP.part (cx := [(qr, .inr (5, [.ref h0, .int ox])), (h0, .inr (8, [.ref qb, .ref qu, .int cx, .int ln, .int (nI n), .int ax, .int px])), (qb, .inl (cB, 4096, .inl bf)), (qu, .inl (cI, 4096, .inl gx)), (sg, .inr (6, [.int 0, .null, .null]))]) [1, 2, 3, 4, 0] rfl
        have hD := hD.part (cx := [(qr, .inr (5, [.ref h0, .int ox])), (h0, .inr (8, [.ref qb, .ref qu, .int cx, .int ln, .int (nI n), .int ax, .int px])), (qb, .inl (cB, 4096, .inl bf)), (qu, .inl (cI, 4096, .inl gx)), (sg, .inr (6, [.int 0, .null, .null]))]) [1, 2, 3, 4, 0] (by decide) rfl
        have hP := plP_cut (hP.part (cx := [(qr, .inr (5, [.ref h0, .int ox])), (h0, .inr (8, [.ref qb, .ref qu, .int cx, .int ln, .int (nI n), .int ax, .int px])), (qb, .inl (cB, 4096, .inl bf)), (qu, .inl (cI, 4096, .inl gx))]) [0, 1, 2, 3] rfl) hG22.on
        have hD := plD_cut (hD.part (cx := [(qr, .inr (5, [.ref h0, .int ox])), (h0, .inr (8, [.ref qb, .ref qu, .int cx, .int ln, .int (nI n), .int ax, .int px])), (qb, .inl (cB, 4096, .inl bf)), (qu, .inl (cI, 4096, .inl gx))]) [0, 1, 2, 3] (by decide) rfl) hG22.on
        have hno : (segD bf n ok orL (nwB nw)) i = none := (segD_d ht21 (fun q => by rw [nwB_1 c24] at q; exact absurd q.1 (by decide))).trans (mp_none hw)
        exact vx_out (fun x hx => (hex x hx).elim) hlocks hce hcv hcl (fun t9 ht2 ha => ⟨(ax, cx, px, gx, ox), hno, ⟨hEn, by rw [ht2]; exact hP, va_K.moved ha hK, hD⟩, hS.F ht2⟩) hS.2.2 (by show (0 + 1) + (3) ≤ 8 * (n - i) + 7; omega) (by show (0 + 3) + (15 + (n - (i + 1))) ≤ 64 * (n - i) + 100; omega)
      · obtain ⟨⟨hP1, hK1, hD1⟩, hz9, ha9⟩ := hB
        rw [ht] at hP1
        rw [ht] at hz9
        have ha9 : v22 = w22 := ha9
        subst ha9
        have hq0 : szk s.heap H1 ((0 + 1) + 2) ((0 + 3) + (9 + (p22 - (i + 1)))) := (hq0.trans hz9).mono (Nat.le_refl _) (Nat.le_refl _)
        refine w_tight hq0 ?_
        obtain ⟨hP, hD⟩ := va_joinP (wr := [(sg, .inr (6, [.int 0, .null, .null]))]) (rx := [(qr, .inr (5, [.ref h0, .int (nI o)])), (h0, .inr (8, [.ref qb, .ref qu, .int uc, .int ln, .int (nI n), .int (nI p22), .int pl])), (qb, .inl (cB, 4096, .inl bf)), (qu, .inl (cI, 4096, .inl ug))]) (pl1 := va_pl (((L ++ []) ++ N22)) f22) hP hD [0, 1, 2, 3] [4] rfl rfl (by decide) (by decide) hk1 hFc hP1 hD1
        generalize H1 = H at hP hS hq0 ⊢
        have hP : va_P (dC, dI) classes ([(sg, .inr (6, [.int 0, .null, .null])), (qr, .inr (5, [.ref h0, .int (nI o)])), (h0, .inr (8, [.ref qb, .ref qu, .int uc, .int ln, .int (nI n), .int (nI p22), .int pl])), (qb, .inl (cB, 4096, .inl bf)), (qu, .inl (cI, 4096, .inl ug))] ++ va_pl (((L ++ []) ++ N22)) f22) H := hP
        have hD : va_D A ([(sg, .inr (6, [.int 0, .null, .null])), (qr, .inr (5, [.ref h0, .int (nI o)])), (h0, .inr (8, [.ref qb, .ref qu, .int uc, .int ln, .int (nI n), .int (nI p22), .int pl])), (qb, .inl (cB, 4096, .inl bf)), (qu, .inl (cI, 4096, .inl ug))] ++ va_pl (((L ++ []) ++ N22)) f22) := hD
        have hP := hP.part (cx := [(qr, .inr (5, [.ref h0, .int (nI o)])), (h0, .inr (8, [.ref qb, .ref qu, .int uc, .int ln, .int (nI n), .int (nI p22), .int pl])), (qb, .inl (cB, 4096, .inl bf)), (qu, .inl (cI, 4096, .inl ug)), (sg, .inr (6, [.int 0, .null, .null]))]) [1, 2, 3, 4, 0] rfl
        have hD := hD.part (cx := [(qr, .inr (5, [.ref h0, .int (nI o)])), (h0, .inr (8, [.ref qb, .ref qu, .int uc, .int ln, .int (nI n), .int (nI p22), .int pl])), (qb, .inl (cB, 4096, .inl bf)), (qu, .inl (cI, 4096, .inl ug)), (sg, .inr (6, [.int 0, .null, .null]))]) [1, 2, 3, 4, 0] (by decide) rfl
        obtain ⟨hw, m22, hf22, hd22⟩ := hw
        have hf22 : shD bf n (nwB nw) ((i + 1)) = some (p22, sgL (f22 v22), [m22]) := hf22
        have hd22 : DNx LD 8 E E22 f22 v22 m22 := hd22
        have hQ22 : QPn cI cV E (L ++ []) f ((i + 1)) n _ 9 0 0 v22 p22 N22 E22 f22 := hw
        obtain ⟨lv22, hg22, hlv22⟩ := hQ22.x lv hG22.po _ (Nat.le_refl _)
        have hd22 : DNc LD 8 E E22 f22 v22 [m22] := hd22.lone (by decide) LD_mo hQ22.new (by rw [hQ22.so]; decide)
        have hG22 := hG22.tr hg22 hzz22
        obtain ⟨ha22, hb22⟩ := hQ22.num
        have ha22 : (i + 1) + 0 ≤ p22 := ha22
        have hb22 : p22 ≤ n := hb22
        rw [List.append_assoc] at hP hD
        have hP : va_P (dC, dI) classes ([(qr, .inr (5, [.ref h0, .int (nI o)])), (h0, .inr (8, [.ref qb, .ref qu, .int uc, .int ln, .int (nI n), .int (nI p22), .int pl])), (qb, .inl (cB, 4096, .inl bf)), (qu, .inl (cI, 4096, .inl ug)), (sg, .inr (6, [.int 0, .null, .null]))] ++ va_pl ((L ++ ([] ++ N22))) f22) H := hP
        have hD : va_D A ([(qr, .inr (5, [.ref h0, .int (nI o)])), (h0, .inr (8, [.ref qb, .ref qu, .int uc, .int ln, .int (nI n), .int (nI p22), .int pl])), (qb, .inl (cB, 4096, .inl bf)), (qu, .inl (cI, 4096, .inl ug)), (sg, .inr (6, [.int 0, .null, .null]))] ++ va_pl ((L ++ ([] ++ N22))) f22) := hD
        refine va_put (D := (dC, dI)) (ci := 6) (v := .ref v22) (ty := .object "QueryBench$Selector") (C := R_Segment) (T := F_Segment) (N := 3) hx hb hts in_Segment t_Segment t_Segment_ok n_Segment hown hK hP hD hS 4 rfl rfl 1 (by decide) (hts _ z_578) (fun _ h9 => h9) rfl (by decide +kernel) rfl rfl (Nat.le_of_ble_eq_true rfl) d_QueryReader_segment_96 (fun H locs hP hD hS => ?_)
        have hP : va_P (dC, dI) classes ([(qr, .inr (5, [.ref h0, .int (nI o)])), (h0, .inr (8, [.ref qb, .ref qu, .int uc, .int ln, .int (nI n), .int (nI p22), .int pl])), (qb, .inl (cB, 4096, .inl bf)), (qu, .inl (cI, 4096, .inl ug)), (sg, .inr (6, [.int 0, .ref v22, .null]))] ++ va_pl ((L ++ ([] ++ N22))) f22) H := hP
        have hD : va_D A ([(qr, .inr (5, [.ref h0, .int (nI o)])), (h0, .inr (8, [.ref qb, .ref qu, .int uc, .int ln, .int (nI n), .int (nI p22), .int pl])), (qb, .inl (cB, 4096, .inl bf)), (qu, .inl (cI, 4096, .inl ug)), (sg, .inr (6, [.int 0, .ref v22, .null]))] ++ va_pl ((L ++ ([] ++ N22))) f22) := hD
        refine lv_aload_n hx hb d_QueryReader_segment_99 rfl (lv_at hl 2 rfl) ?_
        have hL_sg := plD_new (X := [(qr, .inr (5, [.ref h0, .int (nI o)])), (h0, .inr (8, [.ref qb, .ref qu, .int uc, .int ln, .int (nI n), .int (nI p22), .int pl])), (qb, .inl (cB, 4096, .inl bf)), (qu, .inl (cI, 4096, .inl ug))]) hD
        have h0_sg : E22 sg = 0 := Classical.byContradiction (fun h => hL_sg (hG22.po.inL h))
        have hE_sg : E sg = 0 := hG22.ex.z h0_sg
        have hP := plP_push (X := [(qr, .inr (5, [.ref h0, .int (nI o)])), (h0, .inr (8, [.ref qb, .ref qu, .int uc, .int ln, .int (nI n), .int (nI p22), .int pl])), (qb, .inl (cB, 4096, .inl bf)), (qu, .inl (cI, 4096, .inl ug))]) hP hL_sg
        have hD := plD_push (X := [(qr, .inr (5, [.ref h0, .int (nI o)])), (h0, .inr (8, [.ref qb, .ref qu, .int uc, .int ln, .int (nI n), .int (nI p22), .int pl])), (qb, .inl (cB, 4096, .inl bf)), (qu, .inl (cI, 4096, .inl ug))]) hD hL_sg
        rw [List.append_assoc] at hP hD
        have hQ_sg : QPn cI cV E L f i n s.heap.size 8 (5 * (16 - o)) 1 sg p22 (([] ++ N22) ++ [sg]) (va_up E22 sg 8) (va_up f22 sg (gE 0 (some v22) none)) := by
          refine ⟨hE_sg, va_up_self _ _ _, by omega, by omega, fun lv hO b hb => ?_⟩
          have g0 : QG cI cV E lv L f i n ((i + 1)) s.heap.size [] E lv f := (QG.rf hO hi9).mv (by omega) (by omega)
          obtain ⟨lv1, g1, c1⟩ := hQ22.x lv g0.po (b) (by omega)
          have g1 := g0.tr g1 hzz22
          have hvs22 : v22 ≠ sg := fun e => by have h9 := hQ22.so; rw [e, h0_sg] at h9; cases h9
          exact ⟨va_up lv1 sg b, g1.add (q := sg) (s := 8) (b := b) (e := gE 0 (some v22) none) h0_sg hL_sg hz_sg (by decide) (by decide) (CO.G (va_up_self _ _ _) ⟨_, _, _, rfl, ⟨v22, rfl, (va_up_ne _ _ hvs22).trans hQ22.so, by rw [va_up_ne _ _ hvs22, va_up_self]; exact Nat.le_of_eq c1⟩, fun b h => (nomatch h)⟩), va_up_self _ _ _⟩
        have hP : va_P (dC, dI) classes ([(qr, .inr (5, [.ref h0, .int (nI o)])), (h0, .inr (8, [.ref qb, .ref qu, .int uc, .int ln, .int (nI n), .int (nI p22), .int pl])), (qb, .inl (cB, 4096, .inl bf)), (qu, .inl (cI, 4096, .inl ug))] ++ va_pl ((L ++ (([] ++ N22) ++ [sg]))) ((va_up f22 sg (gE 0 (some v22) none)))) H := hP
        have hD : va_D A ([(qr, .inr (5, [.ref h0, .int (nI o)])), (h0, .inr (8, [.ref qb, .ref qu, .int uc, .int ln, .int (nI n), .int (nI p22), .int pl])), (qb, .inl (cB, 4096, .inl bf)), (qu, .inl (cI, 4096, .inl ug))] ++ va_pl ((L ++ (([] ++ N22) ++ [sg]))) ((va_up f22 sg (gE 0 (some v22) none)))) := hD
        have hvs22 : v22 ≠ sg := fun e => by have h9 := hQ22.so; rw [e, h0_sg] at h9; cases h9
        have hQr : QPn cI cV E L f i n s.heap.size 8 (5 * (16 - o)) 1 sg p22 ((([] ++ N22) ++ [sg])) ((va_up E22 sg 8)) ((va_up f22 sg (gE 0 (some v22) none))) := hQ_sg
        have hfin : (segD bf n ok orL (nwB nw)) i = some (p22, sgG ((va_up f22 sg (gE 0 (some v22) none))) sg, segS (decide (¬ (0 : Int32) = 0)) [m22]) := by rw [sgG_0 hvs22]; exact (segD_d ht21 (fun q => by rw [nwB_1 c24] at q; exact absurd q.1 (by decide))).trans (mp_some hf22)
        have hdn : DNx GD 2 E ((va_up E22 sg 8)) ((va_up f22 sg (gE 0 (some v22) none))) sg (segS (decide (¬ (0 : Int32) = 0)) [m22]) := DNx.seg hd22 h0_sg
        refine w_same (fun hq => ?_)
        refine W.widen (k := 8 * (n - i) + 7) (n := 64 * (n - i) + 100) (by show ((0 + 1) + 2) ≤ 8 * (n - i) + 7; omega) (by show ((0 + 3) + (9 + (p22 - (i + 1)))) ≤ 64 * (n - i) + 100; omega) ?_
        refine vx_ret ?_
        exact W.aret (v := .ref sg) hx hb hr (Or.inl ⟨_, rfl⟩) (Or.inr ⟨_, rfl⟩) (fun t9 ht hW => ⟨⟨(sg, p22, (([] ++ N22) ++ [sg]), (va_up E22 sg 8), (va_up f22 sg (gE 0 (some v22) none)), uc, ug), sg, rfl, ⟨hQr, _, hfin, hdn⟩, ⟨by rw [ht]; exact hP, va_K.moved hW.alike hK, hD⟩, by rw [ht]; exact ⟨hq.mono (by show ((0 + 1) + 2) ≤ 8 * (p22 - i) + 0 - 5; omega) (by show ((0 + 3) + (9 + (p22 - (i + 1)))) ≤ 64 * (p22 - i) + 0 - 51; omega), rfl⟩⟩, hS.F ht⟩) hS.2.2 d_QueryReader_segment_100
    · refine lv_aload_n hx hb d_QueryReader_segment_27 rfl (lv_at hl 2 rfl) ?_
      refine va_get (D := (dC, dI)) (ci := 5) (v := .ref h0) (C := R_QueryReader) (T := F_QueryReader) (N := 2) hx hb hts in_QueryReader hown hK hP 0 rfl rfl 0 (by decide) (hts _ w_100) (fun _ h9 => h9) rfl d_QueryReader_segment_28 ?_
      refine lv_bipush (v := 46) hx hb d_QueryReader_segment_31 (by decide) ?_
      have hPc := hP.sub (ws' := [(h0, .inr (8, [.ref qb, .ref qu, .int uc, .int ln, .int (nI n), .int (nI (i + 1)), .int pl])), (qb, .inl (cB, 4096, .inl bf))]) [1, 2] rfl
      have hDc := hD.sub (ws' := [(h0, .inr (8, [.ref qb, .ref qu, .int uc, .int ln, .int (nI n), .int (nI (i + 1)), .int pl])), (qb, .inl (cB, 4096, .inl bf))]) [1, 2] (by decide) rfl
      have hFc := va_free (wc := [(h0, .inr (8, [.ref qb, .ref qu, .int uc, .int ln, .int (nI n), .int (nI (i + 1)), .int pl])), (qb, .inl (cB, 4096, .inl bf))]) hD hS hA [1, 2] rfl
      have hKc := hK.sub (tys' := [(cB, .byte)]) [0] rfl
      refine va_calli (va_runV (As := [.int 46]) (rest := [.ref sg]) ⟨hx, hb, hml, hown, hts⟩ (c_Tape_takeIf l dC dI cB h0 qb H (.ref qu) uc ln pl bf n ((i + 1)) 46 hn0 (by omega)) (cwV 1 hts (gt_V (own := R_QueryReader) (C := R_Tape) (i := 58) (y := y_Tape_takeIf) i_Tape_takeIf z_589 z_393 z_394 w_2) rfl rfl rfl (by decide +kernel) ⟨by show 1 + 1 ≤ 12 * (16 - o) + 13; omega, by show 8 + (2 + 11) + (20) ≤ 360 * (16 - o) + 390; omega⟩) ⟨mp_blind, va_recv hK hP (ci := 8) (q0 := 1) rfl rfl, fun U hU hW => ⟨rfl, hU, by rw [hU]; exact hPc, va_K.moved hW.alike hKc, hDc.weaken (fun _ _ _ _ => trivial)⟩⟩ rfl rfl hl.1 rfl (lv_room (Nat.le_of_ble_eq_true rfl)) d_QueryReader_segment_33 ⟨by show (0 + 1) + (0) ≤ 8 * (n - i) + 7; omega, by show (0 + 3) + (0) ≤ 64 * (n - i) + 100; omega⟩) hS (fun q _ h => hFc q h) hFc (fun r23 u23 t9 H1 locs ht hvm hw hB hz1 hk1 hS => ?_)
      obtain ⟨hP1, hK1, hD1⟩ := hB
      rw [ht] at hP1
      obtain ⟨hP, hD⟩ := va_joinQ (wr := [(qr, .inr (5, [.ref h0, .int (nI o)])), (qu, .inl (cI, 4096, .inl ug)), (sg, .inr (6, [.int 0, .null, .null]))]) (w1 := [(h0, .inr (8, [.ref qb, .ref qu, .int uc, .int ln, .int (nI n), .int (nI u23), .int pl])), (qb, .inl (cB, 4096, .inl bf))]) hP hD [1, 2] [0, 3, 4] rfl rfl (by decide) (by decide) hk1 hFc hP1 hD1
      generalize H1 = H at hP hS ⊢
      have hP : va_P (dC, dI) classes ([(qr, .inr (5, [.ref h0, .int (nI o)])), (qu, .inl (cI, 4096, .inl ug)), (sg, .inr (6, [.int 0, .null, .null])), (h0, .inr (8, [.ref qb, .ref qu, .int uc, .int ln, .int (nI n), .int (nI u23), .int pl])), (qb, .inl (cB, 4096, .inl bf))] ++ va_pl ((L ++ [])) f) H := hP
      have hD : va_D A ([(qr, .inr (5, [.ref h0, .int (nI o)])), (qu, .inl (cI, 4096, .inl ug)), (sg, .inr (6, [.int 0, .null, .null])), (h0, .inr (8, [.ref qb, .ref qu, .int uc, .int ln, .int (nI n), .int (nI u23), .int pl])), (qb, .inl (cB, 4096, .inl bf))] ++ va_pl ((L ++ [])) f) := hD
      have hP := hP.part (cx := [(qr, .inr (5, [.ref h0, .int (nI o)])), (h0, .inr (8, [.ref qb, .ref qu, .int uc, .int ln, .int (nI n), .int (nI u23), .int pl])), (qb, .inl (cB, 4096, .inl bf)), (qu, .inl (cI, 4096, .inl ug)), (sg, .inr (6, [.int 0, .null, .null]))]) [0, 3, 4, 1, 2] rfl
      have hD := hD.part (cx := [(qr, .inr (5, [.ref h0, .int (nI o)])), (h0, .inr (8, [.ref qb, .ref qu, .int uc, .int ln, .int (nI n), .int (nI u23), .int pl])), (qb, .inl (cB, 4096, .inl bf)), (qu, .inl (cI, 4096, .inl ug)), (sg, .inr (6, [.int 0, .null, .null]))]) [0, 3, 4, 1, 2] (by decide) rfl
      rcases hw with ⟨ht23, hr23, hu23⟩ | ⟨ht23, hr23, hu23⟩
      · have hu23 : u23 = ((i + 1)) + 1 := hu23
        subst hr23
        rw [hu23] at hP hD
        have hl23 := here_lc ht23 (by decide)
        have hP : va_P (dC, dI) classes ([(qr, .inr (5, [.ref h0, .int (nI o)])), (h0, .inr (8, [.ref qb, .ref qu, .int uc, .int ln, .int (nI n), .int (nI ((i + 1) + 1)), .int pl])), (qb, .inl (cB, 4096, .inl bf)), (qu, .inl (cI, 4096, .inl ug)), (sg, .inr (6, [.int 0, .null, .null]))] ++ va_pl ((L ++ [])) f) H := hP
        have hD : va_D A ([(qr, .inr (5, [.ref h0, .int (nI o)])), (h0, .inr (8, [.ref qb, .ref qu, .int uc, .int ln, .int (nI n), .int (nI ((i + 1) + 1)), .int pl])), (qb, .inl (cB, 4096, .inl bf)), (qu, .inl (cI, 4096, .inl ug)), (sg, .inr (6, [.int 0, .null, .null]))] ++ va_pl ((L ++ [])) f) := hD
        refine lv_if_eq (tgt := 43) hx hb d_QueryReader_segment_36 (by decide) (fun h => absurd h (by decide)) (fun _ => ?_)
        refine lv_iconst (v := 1) hx hb d_QueryReader_segment_39 (by decide) ?_
        refine lv_goto (tgt := 44) hx hb d_QueryReader_segment_40 (by decide) ?_
        refine va_put (D := (dC, dI)) (ci := 6) (v := .int 1) (ty := .boolean) (C := R_Segment) (T := F_Segment) (N := 3) hx hb hts in_Segment t_Segment t_Segment_ok n_Segment hown hK hP hD hS 4 rfl rfl 0 (by decide) (hts _ z_575) (fun _ h9 => h9) rfl (by decide +kernel) rfl rfl (Nat.le_of_ble_eq_true rfl) d_QueryReader_segment_44 (fun H locs hP hD hS => ?_)
        have hP : va_P (dC, dI) classes ([(qr, .inr (5, [.ref h0, .int (nI o)])), (h0, .inr (8, [.ref qb, .ref qu, .int uc, .int ln, .int (nI n), .int (nI ((i + 1) + 1)), .int pl])), (qb, .inl (cB, 4096, .inl bf)), (qu, .inl (cI, 4096, .inl ug)), (sg, .inr (6, [.int 1, .null, .null]))] ++ va_pl ((L ++ [])) f) H := hP
        have hD : va_D A ([(qr, .inr (5, [.ref h0, .int (nI o)])), (h0, .inr (8, [.ref qb, .ref qu, .int uc, .int ln, .int (nI n), .int (nI ((i + 1) + 1)), .int pl])), (qb, .inl (cB, 4096, .inl bf)), (qu, .inl (cI, 4096, .inl ug)), (sg, .inr (6, [.int 1, .null, .null]))] ++ va_pl ((L ++ [])) f) := hD
        refine lv_iload_n hx hb d_QueryReader_segment_47 rfl (lv_at hl 0 rfl) ?_
        refine lv_if_eq (tgt := 70) hx hb d_QueryReader_segment_48 (by decide) (fun h => absurd h (by decide)) (fun _ => ?_)
        refine lv_aload_n hx hb d_QueryReader_segment_51 rfl (lv_at hl 1 rfl) ?_
        refine va_get (D := (dC, dI)) (ci := 6) (v := .int 1) (C := R_Segment) (T := F_Segment) (N := 3) hx hb hts in_Segment hown hK hP 4 rfl rfl 0 (by decide) (hts _ z_575) (fun _ h9 => h9) rfl d_QueryReader_segment_52 ?_
        refine lv_if_eq (tgt := 74) hx hb d_QueryReader_segment_55 (by decide) (fun h => absurd h (by decide)) (fun _ => ?_)
        refine lv_aload_n hx hb d_QueryReader_segment_58 rfl (lv_at hl 2 rfl) ?_
        refine va_get (D := (dC, dI)) (ci := 5) (v := .ref h0) (C := R_QueryReader) (T := F_QueryReader) (N := 2) hx hb hts in_QueryReader hown hK hP 0 rfl rfl 0 (by decide) (hts _ w_100) (fun _ h9 => h9) rfl d_QueryReader_segment_59 ?_
        have hPc := hP.sub (ws' := [(h0, .inr (8, [.ref qb, .ref qu, .int uc, .int ln, .int (nI n), .int (nI ((i + 1) + 1)), .int pl])), (qb, .inl (cB, 4096, .inl bf))]) [1, 2] rfl
        have hDc := hD.sub (ws' := [(h0, .inr (8, [.ref qb, .ref qu, .int uc, .int ln, .int (nI n), .int (nI ((i + 1) + 1)), .int pl])), (qb, .inl (cB, 4096, .inl bf))]) [1, 2] (by decide) rfl
        have hFc := va_free (wc := [(h0, .inr (8, [.ref qb, .ref qu, .int uc, .int ln, .int (nI n), .int (nI ((i + 1) + 1)), .int pl])), (qb, .inl (cB, 4096, .inl bf))]) hD hS hA [1, 2] rfl
        have hKc := hK.sub (tys' := [(cB, .byte)]) [0] rfl
        refine va_calli (va_runV (As := []) (rest := []) ⟨hx, hb, hml, hown, hts⟩ (c_Tape_here l dC dI cB h0 qb H (.ref qu) uc ln pl bf n (((i + 1) + 1)) hn0 (by omega)) (cwV 0 hts (gt_V (own := R_QueryReader) (C := R_Tape) (i := 19) (y := y_Tape_here) i_Tape_here z_534 w_363 w_364 w_2) rfl rfl rfl (by decide +kernel) ⟨by show 0 + 1 ≤ 12 * (16 - o) + 13; omega, by show 8 + (1 + 11) + (0) ≤ 360 * (16 - o) + 390; omega⟩) ⟨mp_blind, va_recv hK hP (ci := 8) (q0 := 1) rfl rfl, fun U hU hW => ⟨rfl, hU, by rw [hU]; exact hPc, va_K.moved hW.alike hKc, hDc.weaken (fun _ _ _ _ => trivial)⟩⟩ rfl rfl hl.1 rfl (lv_room (Nat.le_of_ble_eq_true rfl)) d_QueryReader_segment_62 ⟨by show (0 + 1) + (0) ≤ 8 * (n - i) + 7; omega, by show (0 + 3) + (0) ≤ 64 * (n - i) + 100; omega⟩) hS (fun q _ h => hFc q h) hFc (fun h24 _u t9 H1 locs ht hvm hw hB hz1 hk1 hS => ?_)
        obtain ⟨hP1, hK1, hD1⟩ := hB
        rw [ht] at hP1
        obtain ⟨hP, hD⟩ := va_joinQ (wr := [(qr, .inr (5, [.ref h0, .int (nI o)])), (qu, .inl (cI, 4096, .inl ug)), (sg, .inr (6, [.int 1, .null, .null]))]) (w1 := [(h0, .inr (8, [.ref qb, .ref qu, .int uc, .int ln, .int (nI n), .int (nI ((i + 1) + 1)), .int pl])), (qb, .inl (cB, 4096, .inl bf))]) hP hD [1, 2] [0, 3, 4] rfl rfl (by decide) (by decide) hk1 hFc hP1 hD1
        generalize H1 = H at hP hS ⊢
        have hP : va_P (dC, dI) classes ([(qr, .inr (5, [.ref h0, .int (nI o)])), (qu, .inl (cI, 4096, .inl ug)), (sg, .inr (6, [.int 1, .null, .null])), (h0, .inr (8, [.ref qb, .ref qu, .int uc, .int ln, .int (nI n), .int (nI ((i + 1) + 1)), .int pl])), (qb, .inl (cB, 4096, .inl bf))] ++ va_pl ((L ++ [])) f) H := hP
        have hD : va_D A ([(qr, .inr (5, [.ref h0, .int (nI o)])), (qu, .inl (cI, 4096, .inl ug)), (sg, .inr (6, [.int 1, .null, .null])), (h0, .inr (8, [.ref qb, .ref qu, .int uc, .int ln, .int (nI n), .int (nI ((i + 1) + 1)), .int pl])), (qb, .inl (cB, 4096, .inl bf))] ++ va_pl ((L ++ [])) f) := hD
        have hP := hP.part (cx := [(qr, .inr (5, [.ref h0, .int (nI o)])), (h0, .inr (8, [.ref qb, .ref qu, .int uc, .int ln, .int (nI n), .int (nI ((i + 1) + 1)), .int pl])), (qb, .inl (cB, 4096, .inl bf)), (qu, .inl (cI, 4096, .inl ug)), (sg, .inr (6, [.int 1, .null, .null]))]) [0, 3, 4, 1, 2] rfl
        have hD := hD.part (cx := [(qr, .inr (5, [.ref h0, .int (nI o)])), (h0, .inr (8, [.ref qb, .ref qu, .int uc, .int ln, .int (nI n), .int (nI ((i + 1) + 1)), .int pl])), (qb, .inl (cB, 4096, .inl bf)), (qu, .inl (cI, 4096, .inl ug)), (sg, .inr (6, [.int 1, .null, .null]))]) [0, 3, 4, 1, 2] (by decide) rfl
        have h_h24 : h24 = hereV bf n (((i + 1) + 1)) := hw
        refine lv_bipush (v := 91) hx hb d_QueryReader_segment_65 (by decide) ?_
        refine lv_icmp_ne (tgt := 74) hx hb d_QueryReader_segment_67 (by decide) (fun c67 => ?_) (fun c67 => ?_)
        · refine lv_iconst (v := 0) hx hb d_QueryReader_segment_74 (by decide) ?_
          refine lv_istore (lv' := [(4, .int 0), (3, .int 1), (2, .ref sg), (0, .ref qr), (1, .int nw)]) hx hb d_QueryReader_segment_75 hl (by decide) rfl (fun ls hl => ?_)
          refine lv_aload_n hx hb d_QueryReader_segment_77 rfl (lv_at hl 2 rfl) ?_
          refine lv_iload hx hb d_QueryReader_segment_78 (lv_at hl 0 rfl) ?_
          refine lv_if_eq (tgt := 91) hx hb d_QueryReader_segment_80 (by decide) (fun _ => ?_) (fun h => absurd (by decide) h)
          refine lv_aload_n hx hb d_QueryReader_segment_91 rfl (lv_at hl 3 rfl) ?_
          refine lv_iload_n hx hb d_QueryReader_segment_92 rfl (lv_at hl 4 rfl) ?_
          have hG25 := hG0.mv (show i ≤ ((i + 1) + 1) by omega) (show ((i + 1) + 1) ≤ n by omega)
          have hzz25 : s.heap.size ≤ H.size := hS.1
          have hPc := hP.part (cx := [(qr, .inr (5, [.ref h0, .int (nI o)])), (h0, .inr (8, [.ref qb, .ref qu, .int uc, .int ln, .int (nI n), .int (nI ((i + 1) + 1)), .int pl])), (qb, .inl (cB, 4096, .inl bf)), (qu, .inl (cI, 4096, .inl ug))]) [0, 1, 2, 3] rfl
          have hDc := hD.part (cx := [(qr, .inr (5, [.ref h0, .int (nI o)])), (h0, .inr (8, [.ref qb, .ref qu, .int uc, .int ln, .int (nI n), .int (nI ((i + 1) + 1)), .int pl])), (qb, .inl (cB, 4096, .inl bf)), (qu, .inl (cI, 4096, .inl ug))]) [0, 1, 2, 3] (by decide) rfl
          have hFc := va_freeP (cx := [(qr, .inr (5, [.ref h0, .int (nI o)])), (h0, .inr (8, [.ref qb, .ref qu, .int uc, .int ln, .int (nI n), .int (nI ((i + 1) + 1)), .int pl])), (qb, .inl (cB, 4096, .inl bf)), (qu, .inl (cI, 4096, .inl ug))]) hD hS hA [0, 1, 2, 3] rfl
          have hKc := hK.sub (tys' := [(cB, .byte), (cI, .int), (cV, .object "QueryBench$Value")]) [0, 1, 2] rfl
          refine w_same (fun hq0 => ?_)
          refine vx_callr (vx_runV (As := [.int nw]) (rest := [.ref sg]) ⟨hx, hb, hml, hown, hts⟩ (c_QueryReader_shortSelector l hl9 dC dI H cI cV E lv (L ++ []) f hG25.po cB h0 qb qu uc ln pl bf ug n (((i + 1) + 1)) hn0 (by omega) qr o nw hbf) (cwV 1 hts (gt_V (own := R_QueryReader) (C := R_QueryReader) (i := 70) (y := y_QueryReader_shortSelector) i_QueryReader_shortSelector z_789 z_791 (gt_sel (y := y_QueryReader_shortSelector) (n := 2) (by decide +kernel)) w_4) rfl rfl rfl (by decide +kernel) ⟨by show 10 + 1 ≤ 12 * (16 - o) + 13; omega, by show 8 + (5 + 11) + (170) ≤ 360 * (16 - o) + 390; omega⟩) ⟨mx_blind, va_recv hK hP (ci := 5) (q0 := 0) rfl rfl, fun U hU hW => ⟨rfl, ⟨hU, by rw [hU]; exact hPc, va_K.moved hW.alike hKc, hDc.weaken (fun _ _ _ _ => trivial)⟩, hN.warm hW, by rw [hU]; exact ZX.moved' hW.alike (ZX.narrow' (ZX.kept' hZ hS.2.1) hFc)⟩⟩ rfl rfl hl.1 rfl (lv_room (Nat.le_of_ble_eq_true rfl)) d_QueryReader_segment_93 ⟨by show (0 + 1) + (3) ≤ 8 * (n - i) + 7; omega, by show (0 + 3) + (15 + (n - ((i + 1) + 1))) ≤ 64 * (n - i) + 100; omega⟩) hS (fun q _ h => hFc q h) hFc (fun q _ h => hFc q h) (fun En ce q9 ⟨ax, cx, px, gx, ox⟩ t9 H1 locs ht hvm hw hB hz1 hk1 hS hce hcv hcl => ?_) (fun ⟨w25, p25, N25, E25, f25⟩ v25 t9 H1 locs ht hvm hw hB hz1 hk1 hS => ?_)
          · obtain ⟨hEn, hP1, hK1, hD1⟩ := hB
            rw [ht] at hP1
            obtain ⟨hP, hD⟩ := va_joinP (wr := [(sg, .inr (6, [.int 1, .null, .null]))]) (rx := [(qr, .inr (5, [.ref h0, .int ox])), (h0, .inr (8, [.ref qb, .ref qu, .int cx, .int ln, .int (nI n), .int ax, .int px])), (qb, .inl (cB, 4096, .inl bf)), (qu, .inl (cI, 4096, .inl gx))]) (pl1 := va_pl ((L ++ [])) f) hP hD [0, 1, 2, 3] [4] rfl rfl (by decide) (by decide) hk1 hFc hP1 hD1
            generalize H1 = H at hP hS hce ⊢
            have hP : va_P (dC, dI) classes ([(sg, .inr (6, [.int 1, .null, .null])), (qr, .inr (5, [.ref h0, .int ox])), (h0, .inr (8, [.ref qb, .ref qu, .int cx, .int ln, .int (nI n), .int ax, .int px])), (qb, .inl (cB, 4096, .inl bf)), (qu, .inl (cI, 4096, .inl gx))] ++ va_pl ((L ++ [])) f) H := hP
            have hD : va_D A ([(sg, .inr (6, [.int 1, .null, .null])), (qr, .inr (5, [.ref h0, .int ox])), (h0, .inr (8, [.ref qb, .ref qu, .int cx, .int ln, .int (nI n), .int ax, .int px])), (qb, .inl (cB, 4096, .inl bf)), (qu, .inl (cI, 4096, .inl gx))] ++ va_pl ((L ++ [])) f) := hD
            have hP := hP.part (cx := [(qr, .inr (5, [.ref h0, .int ox])), (h0, .inr (8, [.ref qb, .ref qu, .int cx, .int ln, .int (nI n), .int ax, .int px])), (qb, .inl (cB, 4096, .inl bf)), (qu, .inl (cI, 4096, .inl gx)), (sg, .inr (6, [.int 1, .null, .null]))]) [1, 2, 3, 4, 0] rfl
            have hD := hD.part (cx := [(qr, .inr (5, [.ref h0, .int ox])), (h0, .inr (8, [.ref qb, .ref qu, .int cx, .int ln, .int (nI n), .int ax, .int px])), (qb, .inl (cB, 4096, .inl bf)), (qu, .inl (cI, 4096, .inl gx)), (sg, .inr (6, [.int 1, .null, .null]))]) [1, 2, 3, 4, 0] (by decide) rfl
            have hP := plP_cut (hP.part (cx := [(qr, .inr (5, [.ref h0, .int ox])), (h0, .inr (8, [.ref qb, .ref qu, .int cx, .int ln, .int (nI n), .int ax, .int px])), (qb, .inl (cB, 4096, .inl bf)), (qu, .inl (cI, 4096, .inl gx))]) [0, 1, 2, 3] rfl) hG25.on
            have hD := plD_cut (hD.part (cx := [(qr, .inr (5, [.ref h0, .int ox])), (h0, .inr (8, [.ref qb, .ref qu, .int cx, .int ln, .int (nI n), .int ax, .int px])), (qb, .inl (cB, 4096, .inl bf)), (qu, .inl (cI, 4096, .inl gx))]) [0, 1, 2, 3] (by decide) rfl) hG25.on
            have hno : (segD bf n ok orL (nwB nw)) i = none := (segD_h ht21 (nwB_0 c24) ht23 (by rw [← h_h24]; exact c67)).trans (mp_none hw)
            exact vx_out (fun x hx => (hex x hx).elim) hlocks hce hcv hcl (fun t9 ht2 ha => ⟨(ax, cx, px, gx, ox), hno, ⟨hEn, by rw [ht2]; exact hP, va_K.moved ha hK, hD⟩, hS.F ht2⟩) hS.2.2 (by show (0 + 1) + (3) ≤ 8 * (n - i) + 7; omega) (by show (0 + 3) + (15 + (n - ((i + 1) + 1))) ≤ 64 * (n - i) + 100; omega)
          · obtain ⟨⟨hP1, hK1, hD1⟩, hz9, ha9⟩ := hB
            rw [ht] at hP1
            rw [ht] at hz9
            have ha9 : v25 = w25 := ha9
            subst ha9
            have hq0 : szk s.heap H1 ((0 + 1) + 2) ((0 + 3) + (9 + (p25 - ((i + 1) + 1)))) := (hq0.trans hz9).mono (Nat.le_refl _) (Nat.le_refl _)
            refine w_tight hq0 ?_
            obtain ⟨hP, hD⟩ := va_joinP (wr := [(sg, .inr (6, [.int 1, .null, .null]))]) (rx := [(qr, .inr (5, [.ref h0, .int (nI o)])), (h0, .inr (8, [.ref qb, .ref qu, .int uc, .int ln, .int (nI n), .int (nI p25), .int pl])), (qb, .inl (cB, 4096, .inl bf)), (qu, .inl (cI, 4096, .inl ug))]) (pl1 := va_pl (((L ++ []) ++ N25)) f25) hP hD [0, 1, 2, 3] [4] rfl rfl (by decide) (by decide) hk1 hFc hP1 hD1
            generalize H1 = H at hP hS hq0 ⊢
            have hP : va_P (dC, dI) classes ([(sg, .inr (6, [.int 1, .null, .null])), (qr, .inr (5, [.ref h0, .int (nI o)])), (h0, .inr (8, [.ref qb, .ref qu, .int uc, .int ln, .int (nI n), .int (nI p25), .int pl])), (qb, .inl (cB, 4096, .inl bf)), (qu, .inl (cI, 4096, .inl ug))] ++ va_pl (((L ++ []) ++ N25)) f25) H := hP
            have hD : va_D A ([(sg, .inr (6, [.int 1, .null, .null])), (qr, .inr (5, [.ref h0, .int (nI o)])), (h0, .inr (8, [.ref qb, .ref qu, .int uc, .int ln, .int (nI n), .int (nI p25), .int pl])), (qb, .inl (cB, 4096, .inl bf)), (qu, .inl (cI, 4096, .inl ug))] ++ va_pl (((L ++ []) ++ N25)) f25) := hD
            have hP := hP.part (cx := [(qr, .inr (5, [.ref h0, .int (nI o)])), (h0, .inr (8, [.ref qb, .ref qu, .int uc, .int ln, .int (nI n), .int (nI p25), .int pl])), (qb, .inl (cB, 4096, .inl bf)), (qu, .inl (cI, 4096, .inl ug)), (sg, .inr (6, [.int 1, .null, .null]))]) [1, 2, 3, 4, 0] rfl
            have hD := hD.part (cx := [(qr, .inr (5, [.ref h0, .int (nI o)])), (h0, .inr (8, [.ref qb, .ref qu, .int uc, .int ln, .int (nI n), .int (nI p25), .int pl])), (qb, .inl (cB, 4096, .inl bf)), (qu, .inl (cI, 4096, .inl ug)), (sg, .inr (6, [.int 1, .null, .null]))]) [1, 2, 3, 4, 0] (by decide) rfl
            obtain ⟨hw, m25, hf25, hd25⟩ := hw
            have hf25 : shD bf n (nwB nw) (((i + 1) + 1)) = some (p25, sgL (f25 v25), [m25]) := hf25
            have hd25 : DNx LD 8 E E25 f25 v25 m25 := hd25
            have hQ25 : QPn cI cV E (L ++ []) f (((i + 1) + 1)) n _ 9 0 0 v25 p25 N25 E25 f25 := hw
            obtain ⟨lv25, hg25, hlv25⟩ := hQ25.x lv hG25.po _ (Nat.le_refl _)
            have hd25 : DNc LD 8 E E25 f25 v25 [m25] := hd25.lone (by decide) LD_mo hQ25.new (by rw [hQ25.so]; decide)
            have hG25 := hG25.tr hg25 hzz25
            obtain ⟨ha25, hb25⟩ := hQ25.num
            have ha25 : ((i + 1) + 1) + 0 ≤ p25 := ha25
            have hb25 : p25 ≤ n := hb25
            rw [List.append_assoc] at hP hD
            have hP : va_P (dC, dI) classes ([(qr, .inr (5, [.ref h0, .int (nI o)])), (h0, .inr (8, [.ref qb, .ref qu, .int uc, .int ln, .int (nI n), .int (nI p25), .int pl])), (qb, .inl (cB, 4096, .inl bf)), (qu, .inl (cI, 4096, .inl ug)), (sg, .inr (6, [.int 1, .null, .null]))] ++ va_pl ((L ++ ([] ++ N25))) f25) H := hP
            have hD : va_D A ([(qr, .inr (5, [.ref h0, .int (nI o)])), (h0, .inr (8, [.ref qb, .ref qu, .int uc, .int ln, .int (nI n), .int (nI p25), .int pl])), (qb, .inl (cB, 4096, .inl bf)), (qu, .inl (cI, 4096, .inl ug)), (sg, .inr (6, [.int 1, .null, .null]))] ++ va_pl ((L ++ ([] ++ N25))) f25) := hD
            refine va_put (D := (dC, dI)) (ci := 6) (v := .ref v25) (ty := .object "QueryBench$Selector") (C := R_Segment) (T := F_Segment) (N := 3) hx hb hts in_Segment t_Segment t_Segment_ok n_Segment hown hK hP hD hS 4 rfl rfl 1 (by decide) (hts _ z_578) (fun _ h9 => h9) rfl (by decide +kernel) rfl rfl (Nat.le_of_ble_eq_true rfl) d_QueryReader_segment_96 (fun H locs hP hD hS => ?_)
            have hP : va_P (dC, dI) classes ([(qr, .inr (5, [.ref h0, .int (nI o)])), (h0, .inr (8, [.ref qb, .ref qu, .int uc, .int ln, .int (nI n), .int (nI p25), .int pl])), (qb, .inl (cB, 4096, .inl bf)), (qu, .inl (cI, 4096, .inl ug)), (sg, .inr (6, [.int 1, .ref v25, .null]))] ++ va_pl ((L ++ ([] ++ N25))) f25) H := hP
            have hD : va_D A ([(qr, .inr (5, [.ref h0, .int (nI o)])), (h0, .inr (8, [.ref qb, .ref qu, .int uc, .int ln, .int (nI n), .int (nI p25), .int pl])), (qb, .inl (cB, 4096, .inl bf)), (qu, .inl (cI, 4096, .inl ug)), (sg, .inr (6, [.int 1, .ref v25, .null]))] ++ va_pl ((L ++ ([] ++ N25))) f25) := hD
            refine lv_aload_n hx hb d_QueryReader_segment_99 rfl (lv_at hl 2 rfl) ?_
            have hL_sg := plD_new (X := [(qr, .inr (5, [.ref h0, .int (nI o)])), (h0, .inr (8, [.ref qb, .ref qu, .int uc, .int ln, .int (nI n), .int (nI p25), .int pl])), (qb, .inl (cB, 4096, .inl bf)), (qu, .inl (cI, 4096, .inl ug))]) hD
            have h0_sg : E25 sg = 0 := Classical.byContradiction (fun h => hL_sg (hG25.po.inL h))
            have hE_sg : E sg = 0 := hG25.ex.z h0_sg
            have hP := plP_push (X := [(qr, .inr (5, [.ref h0, .int (nI o)])), (h0, .inr (8, [.ref qb, .ref qu, .int uc, .int ln, .int (nI n), .int (nI p25), .int pl])), (qb, .inl (cB, 4096, .inl bf)), (qu, .inl (cI, 4096, .inl ug))]) hP hL_sg
            have hD := plD_push (X := [(qr, .inr (5, [.ref h0, .int (nI o)])), (h0, .inr (8, [.ref qb, .ref qu, .int uc, .int ln, .int (nI n), .int (nI p25), .int pl])), (qb, .inl (cB, 4096, .inl bf)), (qu, .inl (cI, 4096, .inl ug))]) hD hL_sg
            rw [List.append_assoc] at hP hD
            have hQ_sg : QPn cI cV E L f i n s.heap.size 8 (5 * (16 - o)) 1 sg p25 (([] ++ N25) ++ [sg]) (va_up E25 sg 8) (va_up f25 sg (gE 1 (some v25) none)) := by
              refine ⟨hE_sg, va_up_self _ _ _, by omega, by omega, fun lv hO b hb => ?_⟩
              have g0 : QG cI cV E lv L f i n (((i + 1) + 1)) s.heap.size [] E lv f := (QG.rf hO hi9).mv (by omega) (by omega)
              obtain ⟨lv1, g1, c1⟩ := hQ25.x lv g0.po (b) (by omega)
              have g1 := g0.tr g1 hzz25
              have hvs25 : v25 ≠ sg := fun e => by have h9 := hQ25.so; rw [e, h0_sg] at h9; cases h9
              exact ⟨va_up lv1 sg b, g1.add (q := sg) (s := 8) (b := b) (e := gE 1 (some v25) none) h0_sg hL_sg hz_sg (by decide) (by decide) (CO.G (va_up_self _ _ _) ⟨_, _, _, rfl, ⟨v25, rfl, (va_up_ne _ _ hvs25).trans hQ25.so, by rw [va_up_ne _ _ hvs25, va_up_self]; exact Nat.le_of_eq c1⟩, fun b h => (nomatch h)⟩), va_up_self _ _ _⟩
            have hP : va_P (dC, dI) classes ([(qr, .inr (5, [.ref h0, .int (nI o)])), (h0, .inr (8, [.ref qb, .ref qu, .int uc, .int ln, .int (nI n), .int (nI p25), .int pl])), (qb, .inl (cB, 4096, .inl bf)), (qu, .inl (cI, 4096, .inl ug))] ++ va_pl ((L ++ (([] ++ N25) ++ [sg]))) ((va_up f25 sg (gE 1 (some v25) none)))) H := hP
            have hD : va_D A ([(qr, .inr (5, [.ref h0, .int (nI o)])), (h0, .inr (8, [.ref qb, .ref qu, .int uc, .int ln, .int (nI n), .int (nI p25), .int pl])), (qb, .inl (cB, 4096, .inl bf)), (qu, .inl (cI, 4096, .inl ug))] ++ va_pl ((L ++ (([] ++ N25) ++ [sg]))) ((va_up f25 sg (gE 1 (some v25) none)))) := hD
            have hvs25 : v25 ≠ sg := fun e => by have h9 := hQ25.so; rw [e, h0_sg] at h9; cases h9
            have hQr : QPn cI cV E L f i n s.heap.size 8 (5 * (16 - o)) 1 sg p25 ((([] ++ N25) ++ [sg])) ((va_up E25 sg 8)) ((va_up f25 sg (gE 1 (some v25) none))) := hQ_sg
            have hfin : (segD bf n ok orL (nwB nw)) i = some (p25, sgG ((va_up f25 sg (gE 1 (some v25) none))) sg, segS (decide (¬ (1 : Int32) = 0)) [m25]) := by rw [sgG_1]; exact (segD_h ht21 (nwB_0 c24) ht23 (by rw [← h_h24]; exact c67)).trans (mp_some hf25)
            have hdn : DNx GD 2 E ((va_up E25 sg 8)) ((va_up f25 sg (gE 1 (some v25) none))) sg (segS (decide (¬ (1 : Int32) = 0)) [m25]) := DNx.seg hd25 h0_sg
            refine w_same (fun hq => ?_)
            refine W.widen (k := 8 * (n - i) + 7) (n := 64 * (n - i) + 100) (by show ((0 + 1) + 2) ≤ 8 * (n - i) + 7; omega) (by show ((0 + 3) + (9 + (p25 - ((i + 1) + 1)))) ≤ 64 * (n - i) + 100; omega) ?_
            refine vx_ret ?_
            exact W.aret (v := .ref sg) hx hb hr (Or.inl ⟨_, rfl⟩) (Or.inr ⟨_, rfl⟩) (fun t9 ht hW => ⟨⟨(sg, p25, (([] ++ N25) ++ [sg]), (va_up E25 sg 8), (va_up f25 sg (gE 1 (some v25) none)), uc, ug), sg, rfl, ⟨hQr, _, hfin, hdn⟩, ⟨by rw [ht]; exact hP, va_K.moved hW.alike hK, hD⟩, by rw [ht]; exact ⟨hq.mono (by show ((0 + 1) + 2) ≤ 8 * (p25 - i) + 0 - 5; omega) (by show ((0 + 3) + (9 + (p25 - ((i + 1) + 1)))) ≤ 64 * (p25 - i) + 0 - 51; omega), rfl⟩⟩, hS.F ht⟩) hS.2.2 d_QueryReader_segment_100
        · refine lv_iconst (v := 1) hx hb d_QueryReader_segment_70 (by decide) ?_
          refine lv_goto (tgt := 75) hx hb d_QueryReader_segment_71 (by decide) ?_
          refine lv_istore (lv' := [(4, .int 1), (3, .int 1), (2, .ref sg), (0, .ref qr), (1, .int nw)]) hx hb d_QueryReader_segment_75 hl (by decide) rfl (fun ls hl => ?_)
          refine lv_aload_n hx hb d_QueryReader_segment_77 rfl (lv_at hl 2 rfl) ?_
          refine lv_iload hx hb d_QueryReader_segment_78 (lv_at hl 0 rfl) ?_
          refine lv_if_eq (tgt := 91) hx hb d_QueryReader_segment_80 (by decide) (fun h => absurd h (by decide)) (fun _ => ?_)
          refine lv_aload_n hx hb d_QueryReader_segment_83 rfl (lv_at hl 3 rfl) ?_
          refine lv_iload_n hx hb d_QueryReader_segment_84 rfl (lv_at hl 4 rfl) ?_
          have hG26 := hG0.mv (show i ≤ ((i + 1) + 1) by omega) (show ((i + 1) + 1) ≤ n by omega)
          have hzz26 : s.heap.size ≤ H.size := hS.1
          have hPc := hP.part (cx := [(qr, .inr (5, [.ref h0, .int (nI o)])), (h0, .inr (8, [.ref qb, .ref qu, .int uc, .int ln, .int (nI n), .int (nI ((i + 1) + 1)), .int pl])), (qb, .inl (cB, 4096, .inl bf)), (qu, .inl (cI, 4096, .inl ug))]) [0, 1, 2, 3] rfl
          have hDc := hD.part (cx := [(qr, .inr (5, [.ref h0, .int (nI o)])), (h0, .inr (8, [.ref qb, .ref qu, .int uc, .int ln, .int (nI n), .int (nI ((i + 1) + 1)), .int pl])), (qb, .inl (cB, 4096, .inl bf)), (qu, .inl (cI, 4096, .inl ug))]) [0, 1, 2, 3] (by decide) rfl
          have hFc := va_freeP (cx := [(qr, .inr (5, [.ref h0, .int (nI o)])), (h0, .inr (8, [.ref qb, .ref qu, .int uc, .int ln, .int (nI n), .int (nI ((i + 1) + 1)), .int pl])), (qb, .inl (cB, 4096, .inl bf)), (qu, .inl (cI, 4096, .inl ug))]) hD hS hA [0, 1, 2, 3] rfl
          have hKc := hK.sub (tys' := [(cB, .byte), (cI, .int), (cV, .object "QueryBench$Value")]) [0, 1, 2] rfl
          refine w_same (fun hq0 => ?_)
          refine vx_callr (vx_runV (As := [.int nw]) (rest := [.ref sg]) ⟨hx, hb, hml, hown, hts⟩ ((HL nw) H E lv (L ++ []) f (((i + 1) + 1)) uc pl ug hG26.po (by omega)) (cwV 1 hts (gt_V (own := R_QueryReader) (C := R_QueryReader) (i := 66) (y := y_QueryReader_selectors) i_QueryReader_selectors z_590 z_592 (gt_sel (y := y_QueryReader_selectors) (n := 2) (by decide +kernel)) w_4) rfl rfl rfl (by decide +kernel) ⟨by show 12 * (16 - o) + 12 + 1 ≤ 12 * (16 - o) + 13; omega, by show 8 + (5 + 11) + (360 * (16 - o) + 360) ≤ 360 * (16 - o) + 390; omega⟩) ⟨ml_blind, va_recv hK hP (ci := 5) (q0 := 0) rfl rfl, fun U hU hW => ⟨rfl, ⟨hU, by rw [hU]; exact hPc, va_K.moved hW.alike hKc, hDc.weaken (fun _ _ _ _ => trivial)⟩, hN.warm hW, by rw [hU]; exact ZX.moved' hW.alike (ZX.narrow' (ZX.kept' hZ hS.2.1) hFc), by rw [hU]; exact CE.call hC hS.2.1 hFc hW, va_AO.moved hW.alike hV⟩⟩ rfl rfl hl.1 rfl (lv_room (Nat.le_of_ble_eq_true rfl)) d_QueryReader_segment_85 ⟨by show (0 + 1) + (8 * (n - ((i + 1) + 1)) + 6) ≤ 8 * (n - i) + 7; omega, by show (0 + 3) + (64 * (n - ((i + 1) + 1)) + 90) ≤ 64 * (n - i) + 100; omega⟩) hS (fun q _ h => hFc q h) hFc (fun q _ h => hFc q h) (fun En ce q9 ⟨ax, cx, px, gx, ox⟩ t9 H1 locs ht hvm hw hB hz1 hk1 hS hce hcv hcl => ?_) (fun ⟨w26, p26, N26, E26, f26, uc26, ug26⟩ v26 t9 H1 locs ht hvm hw hB hz1 hk1 hS => ?_)
          · obtain ⟨hEn, hP1, hK1, hD1⟩ := hB
            rw [ht] at hP1
            obtain ⟨hP, hD⟩ := va_joinP (wr := [(sg, .inr (6, [.int 1, .null, .null]))]) (rx := [(qr, .inr (5, [.ref h0, .int ox])), (h0, .inr (8, [.ref qb, .ref qu, .int cx, .int ln, .int (nI n), .int ax, .int px])), (qb, .inl (cB, 4096, .inl bf)), (qu, .inl (cI, 4096, .inl gx))]) (pl1 := va_pl ((L ++ [])) f) hP hD [0, 1, 2, 3] [4] rfl rfl (by decide) (by decide) hk1 hFc hP1 hD1
            generalize H1 = H at hP hS hce ⊢
            have hP : va_P (dC, dI) classes ([(sg, .inr (6, [.int 1, .null, .null])), (qr, .inr (5, [.ref h0, .int ox])), (h0, .inr (8, [.ref qb, .ref qu, .int cx, .int ln, .int (nI n), .int ax, .int px])), (qb, .inl (cB, 4096, .inl bf)), (qu, .inl (cI, 4096, .inl gx))] ++ va_pl ((L ++ [])) f) H := hP
            have hD : va_D A ([(sg, .inr (6, [.int 1, .null, .null])), (qr, .inr (5, [.ref h0, .int ox])), (h0, .inr (8, [.ref qb, .ref qu, .int cx, .int ln, .int (nI n), .int ax, .int px])), (qb, .inl (cB, 4096, .inl bf)), (qu, .inl (cI, 4096, .inl gx))] ++ va_pl ((L ++ [])) f) := hD
            have hP := hP.part (cx := [(qr, .inr (5, [.ref h0, .int ox])), (h0, .inr (8, [.ref qb, .ref qu, .int cx, .int ln, .int (nI n), .int ax, .int px])), (qb, .inl (cB, 4096, .inl bf)), (qu, .inl (cI, 4096, .inl gx)), (sg, .inr (6, [.int 1, .null, .null]))]) [1, 2, 3, 4, 0] rfl
            have hD := hD.part (cx := [(qr, .inr (5, [.ref h0, .int ox])), (h0, .inr (8, [.ref qb, .ref qu, .int cx, .int ln, .int (nI n), .int ax, .int px])), (qb, .inl (cB, 4096, .inl bf)), (qu, .inl (cI, 4096, .inl gx)), (sg, .inr (6, [.int 1, .null, .null]))]) [1, 2, 3, 4, 0] (by decide) rfl
            have hP := plP_cut (hP.part (cx := [(qr, .inr (5, [.ref h0, .int ox])), (h0, .inr (8, [.ref qb, .ref qu, .int cx, .int ln, .int (nI n), .int ax, .int px])), (qb, .inl (cB, 4096, .inl bf)), (qu, .inl (cI, 4096, .inl gx))]) [0, 1, 2, 3] rfl) hG26.on
            have hD := plD_cut (hD.part (cx := [(qr, .inr (5, [.ref h0, .int ox])), (h0, .inr (8, [.ref qb, .ref qu, .int cx, .int ln, .int (nI n), .int ax, .int px])), (qb, .inl (cB, 4096, .inl bf)), (qu, .inl (cI, 4096, .inl gx))]) [0, 1, 2, 3] (by decide) rfl) hG26.on
            have hno : (segD bf n ok orL (nwB nw)) i = none := (segD_s ht21 (nwB_0 c24) ht23 (by rw [← h_h24]; exact c67)).trans (mp_none hw)
            exact vx_out (fun x hx => (hex x hx).elim) hlocks hce hcv hcl (fun t9 ht2 ha => ⟨(ax, cx, px, gx, ox), hno, ⟨hEn, by rw [ht2]; exact hP, va_K.moved ha hK, hD⟩, hS.F ht2⟩) hS.2.2 (by show (0 + 1) + (8 * (n - ((i + 1) + 1)) + 6) ≤ 8 * (n - i) + 7; omega) (by show (0 + 3) + (64 * (n - ((i + 1) + 1)) + 90) ≤ 64 * (n - i) + 100; omega)
          · obtain ⟨⟨hP1, hK1, hD1⟩, hz9, ha9⟩ := hB
            rw [ht] at hP1
            rw [ht] at hz9
            have ha9 : v26 = w26 := ha9
            subst ha9
            have hq0 : szk s.heap H1 ((0 + 1) + (8 * (p26 - ((i + 1) + 1)) + 0 - 6)) ((0 + 3) + (64 * (p26 - ((i + 1) + 1)) + 0 - 54)) := (hq0.trans hz9).mono (Nat.le_refl _) (Nat.le_refl _)
            refine w_tight hq0 ?_
            obtain ⟨hP, hD⟩ := va_joinP (wr := [(sg, .inr (6, [.int 1, .null, .null]))]) (rx := [(qr, .inr (5, [.ref h0, .int (nI o)])), (h0, .inr (8, [.ref qb, .ref qu, .int uc26, .int ln, .int (nI n), .int (nI p26), .int pl])), (qb, .inl (cB, 4096, .inl bf)), (qu, .inl (cI, 4096, .inl ug26))]) (pl1 := va_pl (((L ++ []) ++ N26)) f26) hP hD [0, 1, 2, 3] [4] rfl rfl (by decide) (by decide) hk1 hFc hP1 hD1
            generalize H1 = H at hP hS hq0 ⊢
            have hP : va_P (dC, dI) classes ([(sg, .inr (6, [.int 1, .null, .null])), (qr, .inr (5, [.ref h0, .int (nI o)])), (h0, .inr (8, [.ref qb, .ref qu, .int uc26, .int ln, .int (nI n), .int (nI p26), .int pl])), (qb, .inl (cB, 4096, .inl bf)), (qu, .inl (cI, 4096, .inl ug26))] ++ va_pl (((L ++ []) ++ N26)) f26) H := hP
            have hD : va_D A ([(sg, .inr (6, [.int 1, .null, .null])), (qr, .inr (5, [.ref h0, .int (nI o)])), (h0, .inr (8, [.ref qb, .ref qu, .int uc26, .int ln, .int (nI n), .int (nI p26), .int pl])), (qb, .inl (cB, 4096, .inl bf)), (qu, .inl (cI, 4096, .inl ug26))] ++ va_pl (((L ++ []) ++ N26)) f26) := hD
            have hP := hP.part (cx := [(qr, .inr (5, [.ref h0, .int (nI o)])), (h0, .inr (8, [.ref qb, .ref qu, .int uc26, .int ln, .int (nI n), .int (nI p26), .int pl])), (qb, .inl (cB, 4096, .inl bf)), (qu, .inl (cI, 4096, .inl ug26)), (sg, .inr (6, [.int 1, .null, .null]))]) [1, 2, 3, 4, 0] rfl
            have hD := hD.part (cx := [(qr, .inr (5, [.ref h0, .int (nI o)])), (h0, .inr (8, [.ref qb, .ref qu, .int uc26, .int ln, .int (nI n), .int (nI p26), .int pl])), (qb, .inl (cB, 4096, .inl bf)), (qu, .inl (cI, 4096, .inl ug26)), (sg, .inr (6, [.int 1, .null, .null]))]) [1, 2, 3, 4, 0] (by decide) rfl
            obtain ⟨hw, m26, hf26, hd26⟩ := hw
            have hf26 : (slsD bf n ok orL (nwB nw)) (((i + 1) + 1)) = some (p26, sgL (f26 v26), m26) := hf26
            have hd26 : DNc LD 8 E E26 f26 v26 m26 := hd26
            have hQ26 : QPn cI cV E (L ++ []) f (((i + 1) + 1)) n _ 9 (5 * (16 - o)) 2 v26 p26 N26 E26 f26 := hw
            obtain ⟨lv26, hg26, hlv26⟩ := hQ26.x lv hG26.po _ (Nat.le_refl _)
            have hex26 := hg26.ex
            have hge26 := hg26.ge hQ26.new (by rw [hQ26.so]; decide)
            have hkp26 : KPx E E26 f f26 := KPx.of hg26 hG26.po
            have hnv26 : E v26 = 0 := hQ26.new
            have hsv26 : ¬ E26 v26 = 0 := by rw [hQ26.so]; decide
            have hG26 := hG26.tr hg26 hzz26
            obtain ⟨ha26, hb26⟩ := hQ26.num
            have ha26 : ((i + 1) + 1) + 2 ≤ p26 := ha26
            have hb26 : p26 ≤ n := hb26
            rw [List.append_assoc] at hP hD
            have hP : va_P (dC, dI) classes ([(qr, .inr (5, [.ref h0, .int (nI o)])), (h0, .inr (8, [.ref qb, .ref qu, .int uc26, .int ln, .int (nI n), .int (nI p26), .int pl])), (qb, .inl (cB, 4096, .inl bf)), (qu, .inl (cI, 4096, .inl ug26)), (sg, .inr (6, [.int 1, .null, .null]))] ++ va_pl ((L ++ ([] ++ N26))) f26) H := hP
            have hD : va_D A ([(qr, .inr (5, [.ref h0, .int (nI o)])), (h0, .inr (8, [.ref qb, .ref qu, .int uc26, .int ln, .int (nI n), .int (nI p26), .int pl])), (qb, .inl (cB, 4096, .inl bf)), (qu, .inl (cI, 4096, .inl ug26)), (sg, .inr (6, [.int 1, .null, .null]))] ++ va_pl ((L ++ ([] ++ N26))) f26) := hD
            refine lv_goto (tgt := 96) hx hb d_QueryReader_segment_88 (by decide) ?_
            refine va_put (D := (dC, dI)) (ci := 6) (v := .ref v26) (ty := .object "QueryBench$Selector") (C := R_Segment) (T := F_Segment) (N := 3) hx hb hts in_Segment t_Segment t_Segment_ok n_Segment hown hK hP hD hS 4 rfl rfl 1 (by decide) (hts _ z_578) (fun _ h9 => h9) rfl (by decide +kernel) rfl rfl (Nat.le_of_ble_eq_true rfl) d_QueryReader_segment_96 (fun H locs hP hD hS => ?_)
            have hP : va_P (dC, dI) classes ([(qr, .inr (5, [.ref h0, .int (nI o)])), (h0, .inr (8, [.ref qb, .ref qu, .int uc26, .int ln, .int (nI n), .int (nI p26), .int pl])), (qb, .inl (cB, 4096, .inl bf)), (qu, .inl (cI, 4096, .inl ug26)), (sg, .inr (6, [.int 1, .ref v26, .null]))] ++ va_pl ((L ++ ([] ++ N26))) f26) H := hP
            have hD : va_D A ([(qr, .inr (5, [.ref h0, .int (nI o)])), (h0, .inr (8, [.ref qb, .ref qu, .int uc26, .int ln, .int (nI n), .int (nI p26), .int pl])), (qb, .inl (cB, 4096, .inl bf)), (qu, .inl (cI, 4096, .inl ug26)), (sg, .inr (6, [.int 1, .ref v26, .null]))] ++ va_pl ((L ++ ([] ++ N26))) f26) := hD
            refine lv_aload_n hx hb d_QueryReader_segment_99 rfl (lv_at hl 2 rfl) ?_
            have hL_sg := plD_new (X := [(qr, .inr (5, [.ref h0, .int (nI o)])), (h0, .inr (8, [.ref qb, .ref qu, .int uc26, .int ln, .int (nI n), .int (nI p26), .int pl])), (qb, .inl (cB, 4096, .inl bf)), (qu, .inl (cI, 4096, .inl ug26))]) hD
            have h0_sg : E26 sg = 0 := Classical.byContradiction (fun h => hL_sg (hG26.po.inL h))
            have hE_sg : E sg = 0 := hG26.ex.z h0_sg
            have hP := plP_push (X := [(qr, .inr (5, [.ref h0, .int (nI o)])), (h0, .inr (8, [.ref qb, .ref qu, .int uc26, .int ln, .int (nI n), .int (nI p26), .int pl])), (qb, .inl (cB, 4096, .inl bf)), (qu, .inl (cI, 4096, .inl ug26))]) hP hL_sg
            have hD := plD_push (X := [(qr, .inr (5, [.ref h0, .int (nI o)])), (h0, .inr (8, [.ref qb, .ref qu, .int uc26, .int ln, .int (nI n), .int (nI p26), .int pl])), (qb, .inl (cB, 4096, .inl bf)), (qu, .inl (cI, 4096, .inl ug26))]) hD hL_sg
            rw [List.append_assoc] at hP hD
            have hQ_sg : QPn cI cV E L f i n s.heap.size 8 (5 * (16 - o)) 1 sg p26 (([] ++ N26) ++ [sg]) (va_up E26 sg 8) (va_up f26 sg (gE 1 (some v26) none)) := by
              refine ⟨hE_sg, va_up_self _ _ _, by omega, by omega, fun lv hO b hb => ?_⟩
              have g0 : QG cI cV E lv L f i n (((i + 1) + 1)) s.heap.size [] E lv f := (QG.rf hO hi9).mv (by omega) (by omega)
              obtain ⟨lv1, g1, c1⟩ := hQ26.x lv g0.po (b) (by omega)
              have g1 := g0.tr g1 hzz26
              have hvs26 : v26 ≠ sg := fun e => by have h9 := hQ26.so; rw [e, h0_sg] at h9; cases h9
              exact ⟨va_up lv1 sg b, g1.add (q := sg) (s := 8) (b := b) (e := gE 1 (some v26) none) h0_sg hL_sg hz_sg (by decide) (by decide) (CO.G (va_up_self _ _ _) ⟨_, _, _, rfl, ⟨v26, rfl, (va_up_ne _ _ hvs26).trans hQ26.so, by rw [va_up_ne _ _ hvs26, va_up_self]; exact Nat.le_of_eq c1⟩, fun b h => (nomatch h)⟩), va_up_self _ _ _⟩
            have hP : va_P (dC, dI) classes ([(qr, .inr (5, [.ref h0, .int (nI o)])), (h0, .inr (8, [.ref qb, .ref qu, .int uc26, .int ln, .int (nI n), .int (nI p26), .int pl])), (qb, .inl (cB, 4096, .inl bf)), (qu, .inl (cI, 4096, .inl ug26))] ++ va_pl ((L ++ (([] ++ N26) ++ [sg]))) ((va_up f26 sg (gE 1 (some v26) none)))) H := hP
            have hD : va_D A ([(qr, .inr (5, [.ref h0, .int (nI o)])), (h0, .inr (8, [.ref qb, .ref qu, .int uc26, .int ln, .int (nI n), .int (nI p26), .int pl])), (qb, .inl (cB, 4096, .inl bf)), (qu, .inl (cI, 4096, .inl ug26))] ++ va_pl ((L ++ (([] ++ N26) ++ [sg]))) ((va_up f26 sg (gE 1 (some v26) none)))) := hD
            have hvs26 : v26 ≠ sg := fun e => by have h9 := hQ26.so; rw [e, h0_sg] at h9; cases h9
            have hQr : QPn cI cV E L f i n s.heap.size 8 (5 * (16 - o)) 1 sg p26 ((([] ++ N26) ++ [sg])) ((va_up E26 sg 8)) ((va_up f26 sg (gE 1 (some v26) none))) := hQ_sg
            have hfin : (segD bf n ok orL (nwB nw)) i = some (p26, sgG ((va_up f26 sg (gE 1 (some v26) none))) sg, segS (decide (¬ (1 : Int32) = 0)) m26) := by rw [sgG_1]; exact (segD_s ht21 (nwB_0 c24) ht23 (by rw [← h_h24]; exact c67)).trans (mp_some hf26)
            have hdn : DNx GD 2 E ((va_up E26 sg 8)) ((va_up f26 sg (gE 1 (some v26) none))) sg (segS (decide (¬ (1 : Int32) = 0)) m26) := DNx.seg hd26 h0_sg
            refine w_same (fun hq => ?_)
            refine W.widen (k := 8 * (n - i) + 7) (n := 64 * (n - i) + 100) (by show ((0 + 1) + (8 * (p26 - ((i + 1) + 1)) + 0 - 6)) ≤ 8 * (n - i) + 7; omega) (by show ((0 + 3) + (64 * (p26 - ((i + 1) + 1)) + 0 - 54)) ≤ 64 * (n - i) + 100; omega) ?_
            refine vx_ret ?_
            exact W.aret (v := .ref sg) hx hb hr (Or.inl ⟨_, rfl⟩) (Or.inr ⟨_, rfl⟩) (fun t9 ht hW => ⟨⟨(sg, p26, (([] ++ N26) ++ [sg]), (va_up E26 sg 8), (va_up f26 sg (gE 1 (some v26) none)), uc26, ug26), sg, rfl, ⟨hQr, _, hfin, hdn⟩, ⟨by rw [ht]; exact hP, va_K.moved hW.alike hK, hD⟩, by rw [ht]; exact ⟨hq.mono (by show ((0 + 1) + (8 * (p26 - ((i + 1) + 1)) + 0 - 6)) ≤ 8 * (p26 - i) + 0 - 5; omega) (by show ((0 + 3) + (64 * (p26 - ((i + 1) + 1)) + 0 - 54)) ≤ 64 * (p26 - i) + 0 - 51; omega), rfl⟩⟩, hS.F ht⟩) hS.2.2 d_QueryReader_segment_100
      · have hu23 : u23 = (i + 1) := hu23
        subst hr23
        rw [hu23] at hP hD
        have hP : va_P (dC, dI) classes ([(qr, .inr (5, [.ref h0, .int (nI o)])), (h0, .inr (8, [.ref qb, .ref qu, .int uc, .int ln, .int (nI n), .int (nI (i + 1)), .int pl])), (qb, .inl (cB, 4096, .inl bf)), (qu, .inl (cI, 4096, .inl ug)), (sg, .inr (6, [.int 0, .null, .null]))] ++ va_pl ((L ++ [])) f) H := hP
        have hD : va_D A ([(qr, .inr (5, [.ref h0, .int (nI o)])), (h0, .inr (8, [.ref qb, .ref qu, .int uc, .int ln, .int (nI n), .int (nI (i + 1)), .int pl])), (qb, .inl (cB, 4096, .inl bf)), (qu, .inl (cI, 4096, .inl ug)), (sg, .inr (6, [.int 0, .null, .null]))] ++ va_pl ((L ++ [])) f) := hD
        refine lv_if_eq (tgt := 43) hx hb d_QueryReader_segment_36 (by decide) (fun _ => ?_) (fun h => absurd (by decide) h)
        refine lv_iconst (v := 0) hx hb d_QueryReader_segment_43 (by decide) ?_
        refine va_put (D := (dC, dI)) (ci := 6) (v := .int 0) (ty := .boolean) (C := R_Segment) (T := F_Segment) (N := 3) hx hb hts in_Segment t_Segment t_Segment_ok n_Segment hown hK hP hD hS 4 rfl rfl 0 (by decide) (hts _ z_575) (fun _ h9 => h9) rfl (by decide +kernel) rfl rfl (Nat.le_of_ble_eq_true rfl) d_QueryReader_segment_44 (fun H locs hP hD hS => ?_)
        have hP : va_P (dC, dI) classes ([(qr, .inr (5, [.ref h0, .int (nI o)])), (h0, .inr (8, [.ref qb, .ref qu, .int uc, .int ln, .int (nI n), .int (nI (i + 1)), .int pl])), (qb, .inl (cB, 4096, .inl bf)), (qu, .inl (cI, 4096, .inl ug)), (sg, .inr (6, [.int 0, .null, .null]))] ++ va_pl ((L ++ [])) f) H := hP
        have hD : va_D A ([(qr, .inr (5, [.ref h0, .int (nI o)])), (h0, .inr (8, [.ref qb, .ref qu, .int uc, .int ln, .int (nI n), .int (nI (i + 1)), .int pl])), (qb, .inl (cB, 4096, .inl bf)), (qu, .inl (cI, 4096, .inl ug)), (sg, .inr (6, [.int 0, .null, .null]))] ++ va_pl ((L ++ [])) f) := hD
        refine lv_iload_n hx hb d_QueryReader_segment_47 rfl (lv_at hl 0 rfl) ?_
        refine lv_if_eq (tgt := 70) hx hb d_QueryReader_segment_48 (by decide) (fun h => absurd h (by decide)) (fun _ => ?_)
        refine lv_aload_n hx hb d_QueryReader_segment_51 rfl (lv_at hl 1 rfl) ?_
        refine va_get (D := (dC, dI)) (ci := 6) (v := .int 0) (C := R_Segment) (T := F_Segment) (N := 3) hx hb hts in_Segment hown hK hP 4 rfl rfl 0 (by decide) (hts _ z_575) (fun _ h9 => h9) rfl d_QueryReader_segment_52 ?_
        refine lv_if_eq (tgt := 74) hx hb d_QueryReader_segment_55 (by decide) (fun _ => ?_) (fun h => absurd (by decide) h)
        refine lv_iconst (v := 0) hx hb d_QueryReader_segment_74 (by decide) ?_
        refine lv_istore (lv' := [(4, .int 0), (3, .int 1), (2, .ref sg), (0, .ref qr), (1, .int nw)]) hx hb d_QueryReader_segment_75 hl (by decide) rfl (fun ls hl => ?_)
        refine lv_aload_n hx hb d_QueryReader_segment_77 rfl (lv_at hl 2 rfl) ?_
        refine lv_iload hx hb d_QueryReader_segment_78 (lv_at hl 0 rfl) ?_
        refine lv_if_eq (tgt := 91) hx hb d_QueryReader_segment_80 (by decide) (fun _ => ?_) (fun h => absurd (by decide) h)
        refine lv_aload_n hx hb d_QueryReader_segment_91 rfl (lv_at hl 3 rfl) ?_
        refine lv_iload_n hx hb d_QueryReader_segment_92 rfl (lv_at hl 4 rfl) ?_
        have hG27 := hG0.mv (show i ≤ (i + 1) by omega) (show (i + 1) ≤ n by omega)
        have hzz27 : s.heap.size ≤ H.size := hS.1
        have hPc := hP.part (cx := [(qr, .inr (5, [.ref h0, .int (nI o)])), (h0, .inr (8, [.ref qb, .ref qu, .int uc, .int ln, .int (nI n), .int (nI (i + 1)), .int pl])), (qb, .inl (cB, 4096, .inl bf)), (qu, .inl (cI, 4096, .inl ug))]) [0, 1, 2, 3] rfl
        have hDc := hD.part (cx := [(qr, .inr (5, [.ref h0, .int (nI o)])), (h0, .inr (8, [.ref qb, .ref qu, .int uc, .int ln, .int (nI n), .int (nI (i + 1)), .int pl])), (qb, .inl (cB, 4096, .inl bf)), (qu, .inl (cI, 4096, .inl ug))]) [0, 1, 2, 3] (by decide) rfl
        have hFc := va_freeP (cx := [(qr, .inr (5, [.ref h0, .int (nI o)])), (h0, .inr (8, [.ref qb, .ref qu, .int uc, .int ln, .int (nI n), .int (nI (i + 1)), .int pl])), (qb, .inl (cB, 4096, .inl bf)), (qu, .inl (cI, 4096, .inl ug))]) hD hS hA [0, 1, 2, 3] rfl
        have hKc := hK.sub (tys' := [(cB, .byte), (cI, .int), (cV, .object "QueryBench$Value")]) [0, 1, 2] rfl
        refine w_same (fun hq0 => ?_)
        refine vx_callr (vx_runV (As := [.int nw]) (rest := [.ref sg]) ⟨hx, hb, hml, hown, hts⟩ (c_QueryReader_shortSelector l hl9 dC dI H cI cV E lv (L ++ []) f hG27.po cB h0 qb qu uc ln pl bf ug n ((i + 1)) hn0 (by omega) qr o nw hbf) (cwV 1 hts (gt_V (own := R_QueryReader) (C := R_QueryReader) (i := 70) (y := y_QueryReader_shortSelector) i_QueryReader_shortSelector z_789 z_791 (gt_sel (y := y_QueryReader_shortSelector) (n := 2) (by decide +kernel)) w_4) rfl rfl rfl (by decide +kernel) ⟨by show 10 + 1 ≤ 12 * (16 - o) + 13; omega, by show 8 + (5 + 11) + (170) ≤ 360 * (16 - o) + 390; omega⟩) ⟨mx_blind, va_recv hK hP (ci := 5) (q0 := 0) rfl rfl, fun U hU hW => ⟨rfl, ⟨hU, by rw [hU]; exact hPc, va_K.moved hW.alike hKc, hDc.weaken (fun _ _ _ _ => trivial)⟩, hN.warm hW, by rw [hU]; exact ZX.moved' hW.alike (ZX.narrow' (ZX.kept' hZ hS.2.1) hFc)⟩⟩ rfl rfl hl.1 rfl (lv_room (Nat.le_of_ble_eq_true rfl)) d_QueryReader_segment_93 ⟨by show (0 + 1) + (3) ≤ 8 * (n - i) + 7; omega, by show (0 + 3) + (15 + (n - (i + 1))) ≤ 64 * (n - i) + 100; omega⟩) hS (fun q _ h => hFc q h) hFc (fun q _ h => hFc q h) (fun En ce q9 ⟨ax, cx, px, gx, ox⟩ t9 H1 locs ht hvm hw hB hz1 hk1 hS hce hcv hcl => ?_) (fun ⟨w27, p27, N27, E27, f27⟩ v27 t9 H1 locs ht hvm hw hB hz1 hk1 hS => ?_)
        · obtain ⟨hEn, hP1, hK1, hD1⟩ := hB
          rw [ht] at hP1
          obtain ⟨hP, hD⟩ := va_joinP (wr := [(sg, .inr (6, [.int 0, .null, .null]))]) (rx := [(qr, .inr (5, [.ref h0, .int ox])), (h0, .inr (8, [.ref qb, .ref qu, .int cx, .int ln, .int (nI n), .int ax, .int px])), (qb, .inl (cB, 4096, .inl bf)), (qu, .inl (cI, 4096, .inl gx))]) (pl1 := va_pl ((L ++ [])) f) hP hD [0, 1, 2, 3] [4] rfl rfl (by decide) (by decide) hk1 hFc hP1 hD1
          generalize H1 = H at hP hS hce ⊢
          have hP : va_P (dC, dI) classes ([(sg, .inr (6, [.int 0, .null, .null])), (qr, .inr (5, [.ref h0, .int ox])), (h0, .inr (8, [.ref qb, .ref qu, .int cx, .int ln, .int (nI n), .int ax, .int px])), (qb, .inl (cB, 4096, .inl bf)), (qu, .inl (cI, 4096, .inl gx))] ++ va_pl ((L ++ [])) f) H := hP
          have hD : va_D A ([(sg, .inr (6, [.int 0, .null, .null])), (qr, .inr (5, [.ref h0, .int ox])), (h0, .inr (8, [.ref qb, .ref qu, .int cx, .int ln, .int (nI n), .int ax, .int px])), (qb, .inl (cB, 4096, .inl bf)), (qu, .inl (cI, 4096, .inl gx))] ++ va_pl ((L ++ [])) f) := hD
          have hP := hP.part (cx := [(qr, .inr (5, [.ref h0, .int ox])), (h0, .inr (8, [.ref qb, .ref qu, .int cx, .int ln, .int (nI n), .int ax, .int px])), (qb, .inl (cB, 4096, .inl bf)), (qu, .inl (cI, 4096, .inl gx)), (sg, .inr (6, [.int 0, .null, .null]))]) [1, 2, 3, 4, 0] rfl
          have hD := hD.part (cx := [(qr, .inr (5, [.ref h0, .int ox])), (h0, .inr (8, [.ref qb, .ref qu, .int cx, .int ln, .int (nI n), .int ax, .int px])), (qb, .inl (cB, 4096, .inl bf)), (qu, .inl (cI, 4096, .inl gx)), (sg, .inr (6, [.int 0, .null, .null]))]) [1, 2, 3, 4, 0] (by decide) rfl
          have hP := plP_cut (hP.part (cx := [(qr, .inr (5, [.ref h0, .int ox])), (h0, .inr (8, [.ref qb, .ref qu, .int cx, .int ln, .int (nI n), .int ax, .int px])), (qb, .inl (cB, 4096, .inl bf)), (qu, .inl (cI, 4096, .inl gx))]) [0, 1, 2, 3] rfl) hG27.on
          have hD := plD_cut (hD.part (cx := [(qr, .inr (5, [.ref h0, .int ox])), (h0, .inr (8, [.ref qb, .ref qu, .int cx, .int ln, .int (nI n), .int ax, .int px])), (qb, .inl (cB, 4096, .inl bf)), (qu, .inl (cI, 4096, .inl gx))]) [0, 1, 2, 3] (by decide) rfl) hG27.on
          have hno : (segD bf n ok orL (nwB nw)) i = none := (segD_d ht21 (fun q => ht23 q.2)).trans (mp_none hw)
          exact vx_out (fun x hx => (hex x hx).elim) hlocks hce hcv hcl (fun t9 ht2 ha => ⟨(ax, cx, px, gx, ox), hno, ⟨hEn, by rw [ht2]; exact hP, va_K.moved ha hK, hD⟩, hS.F ht2⟩) hS.2.2 (by show (0 + 1) + (3) ≤ 8 * (n - i) + 7; omega) (by show (0 + 3) + (15 + (n - (i + 1))) ≤ 64 * (n - i) + 100; omega)
        · obtain ⟨⟨hP1, hK1, hD1⟩, hz9, ha9⟩ := hB
          rw [ht] at hP1
          rw [ht] at hz9
          have ha9 : v27 = w27 := ha9
          subst ha9
          have hq0 : szk s.heap H1 ((0 + 1) + 2) ((0 + 3) + (9 + (p27 - (i + 1)))) := (hq0.trans hz9).mono (Nat.le_refl _) (Nat.le_refl _)
          refine w_tight hq0 ?_
          obtain ⟨hP, hD⟩ := va_joinP (wr := [(sg, .inr (6, [.int 0, .null, .null]))]) (rx := [(qr, .inr (5, [.ref h0, .int (nI o)])), (h0, .inr (8, [.ref qb, .ref qu, .int uc, .int ln, .int (nI n), .int (nI p27), .int pl])), (qb, .inl (cB, 4096, .inl bf)), (qu, .inl (cI, 4096, .inl ug))]) (pl1 := va_pl (((L ++ []) ++ N27)) f27) hP hD [0, 1, 2, 3] [4] rfl rfl (by decide) (by decide) hk1 hFc hP1 hD1
          generalize H1 = H at hP hS hq0 ⊢
          have hP : va_P (dC, dI) classes ([(sg, .inr (6, [.int 0, .null, .null])), (qr, .inr (5, [.ref h0, .int (nI o)])), (h0, .inr (8, [.ref qb, .ref qu, .int uc, .int ln, .int (nI n), .int (nI p27), .int pl])), (qb, .inl (cB, 4096, .inl bf)), (qu, .inl (cI, 4096, .inl ug))] ++ va_pl (((L ++ []) ++ N27)) f27) H := hP
          have hD : va_D A ([(sg, .inr (6, [.int 0, .null, .null])), (qr, .inr (5, [.ref h0, .int (nI o)])), (h0, .inr (8, [.ref qb, .ref qu, .int uc, .int ln, .int (nI n), .int (nI p27), .int pl])), (qb, .inl (cB, 4096, .inl bf)), (qu, .inl (cI, 4096, .inl ug))] ++ va_pl (((L ++ []) ++ N27)) f27) := hD
          have hP := hP.part (cx := [(qr, .inr (5, [.ref h0, .int (nI o)])), (h0, .inr (8, [.ref qb, .ref qu, .int uc, .int ln, .int (nI n), .int (nI p27), .int pl])), (qb, .inl (cB, 4096, .inl bf)), (qu, .inl (cI, 4096, .inl ug)), (sg, .inr (6, [.int 0, .null, .null]))]) [1, 2, 3, 4, 0] rfl
          have hD := hD.part (cx := [(qr, .inr (5, [.ref h0, .int (nI o)])), (h0, .inr (8, [.ref qb, .ref qu, .int uc, .int ln, .int (nI n), .int (nI p27), .int pl])), (qb, .inl (cB, 4096, .inl bf)), (qu, .inl (cI, 4096, .inl ug)), (sg, .inr (6, [.int 0, .null, .null]))]) [1, 2, 3, 4, 0] (by decide) rfl
          obtain ⟨hw, m27, hf27, hd27⟩ := hw
          have hf27 : shD bf n (nwB nw) ((i + 1)) = some (p27, sgL (f27 v27), [m27]) := hf27
          have hd27 : DNx LD 8 E E27 f27 v27 m27 := hd27
          have hQ27 : QPn cI cV E (L ++ []) f ((i + 1)) n _ 9 0 0 v27 p27 N27 E27 f27 := hw
          obtain ⟨lv27, hg27, hlv27⟩ := hQ27.x lv hG27.po _ (Nat.le_refl _)
          have hd27 : DNc LD 8 E E27 f27 v27 [m27] := hd27.lone (by decide) LD_mo hQ27.new (by rw [hQ27.so]; decide)
          have hG27 := hG27.tr hg27 hzz27
          obtain ⟨ha27, hb27⟩ := hQ27.num
          have ha27 : (i + 1) + 0 ≤ p27 := ha27
          have hb27 : p27 ≤ n := hb27
          rw [List.append_assoc] at hP hD
          have hP : va_P (dC, dI) classes ([(qr, .inr (5, [.ref h0, .int (nI o)])), (h0, .inr (8, [.ref qb, .ref qu, .int uc, .int ln, .int (nI n), .int (nI p27), .int pl])), (qb, .inl (cB, 4096, .inl bf)), (qu, .inl (cI, 4096, .inl ug)), (sg, .inr (6, [.int 0, .null, .null]))] ++ va_pl ((L ++ ([] ++ N27))) f27) H := hP
          have hD : va_D A ([(qr, .inr (5, [.ref h0, .int (nI o)])), (h0, .inr (8, [.ref qb, .ref qu, .int uc, .int ln, .int (nI n), .int (nI p27), .int pl])), (qb, .inl (cB, 4096, .inl bf)), (qu, .inl (cI, 4096, .inl ug)), (sg, .inr (6, [.int 0, .null, .null]))] ++ va_pl ((L ++ ([] ++ N27))) f27) := hD
          refine va_put (D := (dC, dI)) (ci := 6) (v := .ref v27) (ty := .object "QueryBench$Selector") (C := R_Segment) (T := F_Segment) (N := 3) hx hb hts in_Segment t_Segment t_Segment_ok n_Segment hown hK hP hD hS 4 rfl rfl 1 (by decide) (hts _ z_578) (fun _ h9 => h9) rfl (by decide +kernel) rfl rfl (Nat.le_of_ble_eq_true rfl) d_QueryReader_segment_96 (fun H locs hP hD hS => ?_)
          have hP : va_P (dC, dI) classes ([(qr, .inr (5, [.ref h0, .int (nI o)])), (h0, .inr (8, [.ref qb, .ref qu, .int uc, .int ln, .int (nI n), .int (nI p27), .int pl])), (qb, .inl (cB, 4096, .inl bf)), (qu, .inl (cI, 4096, .inl ug)), (sg, .inr (6, [.int 0, .ref v27, .null]))] ++ va_pl ((L ++ ([] ++ N27))) f27) H := hP
          have hD : va_D A ([(qr, .inr (5, [.ref h0, .int (nI o)])), (h0, .inr (8, [.ref qb, .ref qu, .int uc, .int ln, .int (nI n), .int (nI p27), .int pl])), (qb, .inl (cB, 4096, .inl bf)), (qu, .inl (cI, 4096, .inl ug)), (sg, .inr (6, [.int 0, .ref v27, .null]))] ++ va_pl ((L ++ ([] ++ N27))) f27) := hD
          refine lv_aload_n hx hb d_QueryReader_segment_99 rfl (lv_at hl 2 rfl) ?_
          have hL_sg := plD_new (X := [(qr, .inr (5, [.ref h0, .int (nI o)])), (h0, .inr (8, [.ref qb, .ref qu, .int uc, .int ln, .int (nI n), .int (nI p27), .int pl])), (qb, .inl (cB, 4096, .inl bf)), (qu, .inl (cI, 4096, .inl ug))]) hD
          have h0_sg : E27 sg = 0 := Classical.byContradiction (fun h => hL_sg (hG27.po.inL h))
          have hE_sg : E sg = 0 := hG27.ex.z h0_sg
          have hP := plP_push (X := [(qr, .inr (5, [.ref h0, .int (nI o)])), (h0, .inr (8, [.ref qb, .ref qu, .int uc, .int ln, .int (nI n), .int (nI p27), .int pl])), (qb, .inl (cB, 4096, .inl bf)), (qu, .inl (cI, 4096, .inl ug))]) hP hL_sg
          have hD := plD_push (X := [(qr, .inr (5, [.ref h0, .int (nI o)])), (h0, .inr (8, [.ref qb, .ref qu, .int uc, .int ln, .int (nI n), .int (nI p27), .int pl])), (qb, .inl (cB, 4096, .inl bf)), (qu, .inl (cI, 4096, .inl ug))]) hD hL_sg
          rw [List.append_assoc] at hP hD
          have hQ_sg : QPn cI cV E L f i n s.heap.size 8 (5 * (16 - o)) 1 sg p27 (([] ++ N27) ++ [sg]) (va_up E27 sg 8) (va_up f27 sg (gE 0 (some v27) none)) := by
            refine ⟨hE_sg, va_up_self _ _ _, by omega, by omega, fun lv hO b hb => ?_⟩
            have g0 : QG cI cV E lv L f i n ((i + 1)) s.heap.size [] E lv f := (QG.rf hO hi9).mv (by omega) (by omega)
            obtain ⟨lv1, g1, c1⟩ := hQ27.x lv g0.po (b) (by omega)
            have g1 := g0.tr g1 hzz27
            have hvs27 : v27 ≠ sg := fun e => by have h9 := hQ27.so; rw [e, h0_sg] at h9; cases h9
            exact ⟨va_up lv1 sg b, g1.add (q := sg) (s := 8) (b := b) (e := gE 0 (some v27) none) h0_sg hL_sg hz_sg (by decide) (by decide) (CO.G (va_up_self _ _ _) ⟨_, _, _, rfl, ⟨v27, rfl, (va_up_ne _ _ hvs27).trans hQ27.so, by rw [va_up_ne _ _ hvs27, va_up_self]; exact Nat.le_of_eq c1⟩, fun b h => (nomatch h)⟩), va_up_self _ _ _⟩
          have hP : va_P (dC, dI) classes ([(qr, .inr (5, [.ref h0, .int (nI o)])), (h0, .inr (8, [.ref qb, .ref qu, .int uc, .int ln, .int (nI n), .int (nI p27), .int pl])), (qb, .inl (cB, 4096, .inl bf)), (qu, .inl (cI, 4096, .inl ug))] ++ va_pl ((L ++ (([] ++ N27) ++ [sg]))) ((va_up f27 sg (gE 0 (some v27) none)))) H := hP
          have hD : va_D A ([(qr, .inr (5, [.ref h0, .int (nI o)])), (h0, .inr (8, [.ref qb, .ref qu, .int uc, .int ln, .int (nI n), .int (nI p27), .int pl])), (qb, .inl (cB, 4096, .inl bf)), (qu, .inl (cI, 4096, .inl ug))] ++ va_pl ((L ++ (([] ++ N27) ++ [sg]))) ((va_up f27 sg (gE 0 (some v27) none)))) := hD
          have hvs27 : v27 ≠ sg := fun e => by have h9 := hQ27.so; rw [e, h0_sg] at h9; cases h9
          have hQr : QPn cI cV E L f i n s.heap.size 8 (5 * (16 - o)) 1 sg p27 ((([] ++ N27) ++ [sg])) ((va_up E27 sg 8)) ((va_up f27 sg (gE 0 (some v27) none))) := hQ_sg
          have hfin : (segD bf n ok orL (nwB nw)) i = some (p27, sgG ((va_up f27 sg (gE 0 (some v27) none))) sg, segS (decide (¬ (0 : Int32) = 0)) [m27]) := by rw [sgG_0 hvs27]; exact (segD_d ht21 (fun q => ht23 q.2)).trans (mp_some hf27)
          have hdn : DNx GD 2 E ((va_up E27 sg 8)) ((va_up f27 sg (gE 0 (some v27) none))) sg (segS (decide (¬ (0 : Int32) = 0)) [m27]) := DNx.seg hd27 h0_sg
          refine w_same (fun hq => ?_)
          refine W.widen (k := 8 * (n - i) + 7) (n := 64 * (n - i) + 100) (by show ((0 + 1) + 2) ≤ 8 * (n - i) + 7; omega) (by show ((0 + 3) + (9 + (p27 - (i + 1)))) ≤ 64 * (n - i) + 100; omega) ?_
          refine vx_ret ?_
          exact W.aret (v := .ref sg) hx hb hr (Or.inl ⟨_, rfl⟩) (Or.inr ⟨_, rfl⟩) (fun t9 ht hW => ⟨⟨(sg, p27, (([] ++ N27) ++ [sg]), (va_up E27 sg 8), (va_up f27 sg (gE 0 (some v27) none)), uc, ug), sg, rfl, ⟨hQr, _, hfin, hdn⟩, ⟨by rw [ht]; exact hP, va_K.moved hW.alike hK, hD⟩, by rw [ht]; exact ⟨hq.mono (by show ((0 + 1) + 2) ≤ 8 * (p27 - i) + 0 - 5; omega) (by show ((0 + 3) + (9 + (p27 - (i + 1)))) ≤ 64 * (p27 - i) + 0 - 51; omega), rfl⟩⟩, hS.F ht⟩) hS.2.2 d_QueryReader_segment_100
  · have hu21 : u21 = i := hu21
    subst hr21
    rw [hu21] at hP hD
    have hP : va_P (dC, dI) classes ([(qr, .inr (5, [.ref h0, .int (nI o)])), (h0, .inr (8, [.ref qb, .ref qu, .int uc, .int ln, .int (nI n), .int (nI i), .int pl])), (qb, .inl (cB, 4096, .inl bf)), (qu, .inl (cI, 4096, .inl ug)), (sg, .inr (6, [.int 0, .null, .null]))] ++ va_pl ((L ++ [])) f) H := hP
    have hD : va_D A ([(qr, .inr (5, [.ref h0, .int (nI o)])), (h0, .inr (8, [.ref qb, .ref qu, .int uc, .int ln, .int (nI n), .int (nI i), .int pl])), (qb, .inl (cB, 4096, .inl bf)), (qu, .inl (cI, 4096, .inl ug)), (sg, .inr (6, [.int 0, .null, .null]))] ++ va_pl ((L ++ [])) f) := hD
    refine lv_istore_n (lv' := [(3, .int 0), (2, .ref sg), (0, .ref qr), (1, .int nw)]) hx hb d_QueryReader_segment_17 rfl hl (by decide) rfl (fun ls hl => ?_)
    refine lv_aload_n hx hb d_QueryReader_segment_18 rfl (lv_at hl 1 rfl) ?_
    refine lv_iload_n hx hb d_QueryReader_segment_19 rfl (lv_at hl 0 rfl) ?_
    refine lv_if_eq (tgt := 43) hx hb d_QueryReader_segment_20 (by decide) (fun _ => ?_) (fun h => absurd (by decide) h)
    refine lv_iconst (v := 0) hx hb d_QueryReader_segment_43 (by decide) ?_
    refine va_put (D := (dC, dI)) (ci := 6) (v := .int 0) (ty := .boolean) (C := R_Segment) (T := F_Segment) (N := 3) hx hb hts in_Segment t_Segment t_Segment_ok n_Segment hown hK hP hD hS 4 rfl rfl 0 (by decide) (hts _ z_575) (fun _ h9 => h9) rfl (by decide +kernel) rfl rfl (Nat.le_of_ble_eq_true rfl) d_QueryReader_segment_44 (fun H locs hP hD hS => ?_)
    have hP : va_P (dC, dI) classes ([(qr, .inr (5, [.ref h0, .int (nI o)])), (h0, .inr (8, [.ref qb, .ref qu, .int uc, .int ln, .int (nI n), .int (nI i), .int pl])), (qb, .inl (cB, 4096, .inl bf)), (qu, .inl (cI, 4096, .inl ug)), (sg, .inr (6, [.int 0, .null, .null]))] ++ va_pl ((L ++ [])) f) H := hP
    have hD : va_D A ([(qr, .inr (5, [.ref h0, .int (nI o)])), (h0, .inr (8, [.ref qb, .ref qu, .int uc, .int ln, .int (nI n), .int (nI i), .int pl])), (qb, .inl (cB, 4096, .inl bf)), (qu, .inl (cI, 4096, .inl ug)), (sg, .inr (6, [.int 0, .null, .null]))] ++ va_pl ((L ++ [])) f) := hD
    refine lv_iload_n hx hb d_QueryReader_segment_47 rfl (lv_at hl 0 rfl) ?_
    refine lv_if_eq (tgt := 70) hx hb d_QueryReader_segment_48 (by decide) (fun _ => ?_) (fun h => absurd (by decide) h)
    refine lv_iconst (v := 1) hx hb d_QueryReader_segment_70 (by decide) ?_
    refine lv_goto (tgt := 75) hx hb d_QueryReader_segment_71 (by decide) ?_
    refine lv_istore (lv' := [(4, .int 1), (3, .int 0), (2, .ref sg), (0, .ref qr), (1, .int nw)]) hx hb d_QueryReader_segment_75 hl (by decide) rfl (fun ls hl => ?_)
    refine lv_aload_n hx hb d_QueryReader_segment_77 rfl (lv_at hl 2 rfl) ?_
    refine lv_iload hx hb d_QueryReader_segment_78 (lv_at hl 0 rfl) ?_
    refine lv_if_eq (tgt := 91) hx hb d_QueryReader_segment_80 (by decide) (fun h => absurd h (by decide)) (fun _ => ?_)
    refine lv_aload_n hx hb d_QueryReader_segment_83 rfl (lv_at hl 3 rfl) ?_
    refine lv_iload_n hx hb d_QueryReader_segment_84 rfl (lv_at hl 4 rfl) ?_
    have hG28 := hG0.mv (show i ≤ i by omega) (show i ≤ n by omega)
    have hzz28 : s.heap.size ≤ H.size := hS.1
    have hPc := hP.part (cx := [(qr, .inr (5, [.ref h0, .int (nI o)])), (h0, .inr (8, [.ref qb, .ref qu, .int uc, .int ln, .int (nI n), .int (nI i), .int pl])), (qb, .inl (cB, 4096, .inl bf)), (qu, .inl (cI, 4096, .inl ug))]) [0, 1, 2, 3] rfl
    have hDc := hD.part (cx := [(qr, .inr (5, [.ref h0, .int (nI o)])), (h0, .inr (8, [.ref qb, .ref qu, .int uc, .int ln, .int (nI n), .int (nI i), .int pl])), (qb, .inl (cB, 4096, .inl bf)), (qu, .inl (cI, 4096, .inl ug))]) [0, 1, 2, 3] (by decide) rfl
    have hFc := va_freeP (cx := [(qr, .inr (5, [.ref h0, .int (nI o)])), (h0, .inr (8, [.ref qb, .ref qu, .int uc, .int ln, .int (nI n), .int (nI i), .int pl])), (qb, .inl (cB, 4096, .inl bf)), (qu, .inl (cI, 4096, .inl ug))]) hD hS hA [0, 1, 2, 3] rfl
    have hKc := hK.sub (tys' := [(cB, .byte), (cI, .int), (cV, .object "QueryBench$Value")]) [0, 1, 2] rfl
    refine w_same (fun hq0 => ?_)
    refine vx_callr (vx_runV (As := [.int nw]) (rest := [.ref sg]) ⟨hx, hb, hml, hown, hts⟩ ((HL nw) H E lv (L ++ []) f i uc pl ug hG28.po (by omega)) (cwV 1 hts (gt_V (own := R_QueryReader) (C := R_QueryReader) (i := 66) (y := y_QueryReader_selectors) i_QueryReader_selectors z_590 z_592 (gt_sel (y := y_QueryReader_selectors) (n := 2) (by decide +kernel)) w_4) rfl rfl rfl (by decide +kernel) ⟨by show 12 * (16 - o) + 12 + 1 ≤ 12 * (16 - o) + 13; omega, by show 8 + (5 + 11) + (360 * (16 - o) + 360) ≤ 360 * (16 - o) + 390; omega⟩) ⟨ml_blind, va_recv hK hP (ci := 5) (q0 := 0) rfl rfl, fun U hU hW => ⟨rfl, ⟨hU, by rw [hU]; exact hPc, va_K.moved hW.alike hKc, hDc.weaken (fun _ _ _ _ => trivial)⟩, hN.warm hW, by rw [hU]; exact ZX.moved' hW.alike (ZX.narrow' (ZX.kept' hZ hS.2.1) hFc), by rw [hU]; exact CE.call hC hS.2.1 hFc hW, va_AO.moved hW.alike hV⟩⟩ rfl rfl hl.1 rfl (lv_room (Nat.le_of_ble_eq_true rfl)) d_QueryReader_segment_85 ⟨by show (0 + 1) + (8 * (n - i) + 6) ≤ 8 * (n - i) + 7; omega, by show (0 + 3) + (64 * (n - i) + 90) ≤ 64 * (n - i) + 100; omega⟩) hS (fun q _ h => hFc q h) hFc (fun q _ h => hFc q h) (fun En ce q9 ⟨ax, cx, px, gx, ox⟩ t9 H1 locs ht hvm hw hB hz1 hk1 hS hce hcv hcl => ?_) (fun ⟨w28, p28, N28, E28, f28, uc28, ug28⟩ v28 t9 H1 locs ht hvm hw hB hz1 hk1 hS => ?_)
    · obtain ⟨hEn, hP1, hK1, hD1⟩ := hB
      rw [ht] at hP1
      obtain ⟨hP, hD⟩ := va_joinP (wr := [(sg, .inr (6, [.int 0, .null, .null]))]) (rx := [(qr, .inr (5, [.ref h0, .int ox])), (h0, .inr (8, [.ref qb, .ref qu, .int cx, .int ln, .int (nI n), .int ax, .int px])), (qb, .inl (cB, 4096, .inl bf)), (qu, .inl (cI, 4096, .inl gx))]) (pl1 := va_pl ((L ++ [])) f) hP hD [0, 1, 2, 3] [4] rfl rfl (by decide) (by decide) hk1 hFc hP1 hD1
      generalize H1 = H at hP hS hce ⊢
      have hP : va_P (dC, dI) classes ([(sg, .inr (6, [.int 0, .null, .null])), (qr, .inr (5, [.ref h0, .int ox])), (h0, .inr (8, [.ref qb, .ref qu, .int cx, .int ln, .int (nI n), .int ax, .int px])), (qb, .inl (cB, 4096, .inl bf)), (qu, .inl (cI, 4096, .inl gx))] ++ va_pl ((L ++ [])) f) H := hP
      have hD : va_D A ([(sg, .inr (6, [.int 0, .null, .null])), (qr, .inr (5, [.ref h0, .int ox])), (h0, .inr (8, [.ref qb, .ref qu, .int cx, .int ln, .int (nI n), .int ax, .int px])), (qb, .inl (cB, 4096, .inl bf)), (qu, .inl (cI, 4096, .inl gx))] ++ va_pl ((L ++ [])) f) := hD
      have hP := hP.part (cx := [(qr, .inr (5, [.ref h0, .int ox])), (h0, .inr (8, [.ref qb, .ref qu, .int cx, .int ln, .int (nI n), .int ax, .int px])), (qb, .inl (cB, 4096, .inl bf)), (qu, .inl (cI, 4096, .inl gx)), (sg, .inr (6, [.int 0, .null, .null]))]) [1, 2, 3, 4, 0] rfl
      have hD := hD.part (cx := [(qr, .inr (5, [.ref h0, .int ox])), (h0, .inr (8, [.ref qb, .ref qu, .int cx, .int ln, .int (nI n), .int ax, .int px])), (qb, .inl (cB, 4096, .inl bf)), (qu, .inl (cI, 4096, .inl gx)), (sg, .inr (6, [.int 0, .null, .null]))]) [1, 2, 3, 4, 0] (by decide) rfl
      have hP := plP_cut (hP.part (cx := [(qr, .inr (5, [.ref h0, .int ox])), (h0, .inr (8, [.ref qb, .ref qu, .int cx, .int ln, .int (nI n), .int ax, .int px])), (qb, .inl (cB, 4096, .inl bf)), (qu, .inl (cI, 4096, .inl gx))]) [0, 1, 2, 3] rfl) hG28.on
      have hD := plD_cut (hD.part (cx := [(qr, .inr (5, [.ref h0, .int ox])), (h0, .inr (8, [.ref qb, .ref qu, .int cx, .int ln, .int (nI n), .int ax, .int px])), (qb, .inl (cB, 4096, .inl bf)), (qu, .inl (cI, 4096, .inl gx))]) [0, 1, 2, 3] (by decide) rfl) hG28.on
      have hno : (segD bf n ok orL (nwB nw)) i = none := (segD_b ht21).trans (mp_none hw)
      exact vx_out (fun x hx => (hex x hx).elim) hlocks hce hcv hcl (fun t9 ht2 ha => ⟨(ax, cx, px, gx, ox), hno, ⟨hEn, by rw [ht2]; exact hP, va_K.moved ha hK, hD⟩, hS.F ht2⟩) hS.2.2 (by show (0 + 1) + (8 * (n - i) + 6) ≤ 8 * (n - i) + 7; omega) (by show (0 + 3) + (64 * (n - i) + 90) ≤ 64 * (n - i) + 100; omega)
    · obtain ⟨⟨hP1, hK1, hD1⟩, hz9, ha9⟩ := hB
      rw [ht] at hP1
      rw [ht] at hz9
      have ha9 : v28 = w28 := ha9
      subst ha9
      have hq0 : szk s.heap H1 ((0 + 1) + (8 * (p28 - i) + 0 - 6)) ((0 + 3) + (64 * (p28 - i) + 0 - 54)) := (hq0.trans hz9).mono (Nat.le_refl _) (Nat.le_refl _)
      refine w_tight hq0 ?_
      obtain ⟨hP, hD⟩ := va_joinP (wr := [(sg, .inr (6, [.int 0, .null, .null]))]) (rx := [(qr, .inr (5, [.ref h0, .int (nI o)])), (h0, .inr (8, [.ref qb, .ref qu, .int uc28, .int ln, .int (nI n), .int (nI p28), .int pl])), (qb, .inl (cB, 4096, .inl bf)), (qu, .inl (cI, 4096, .inl ug28))]) (pl1 := va_pl (((L ++ []) ++ N28)) f28) hP hD [0, 1, 2, 3] [4] rfl rfl (by decide) (by decide) hk1 hFc hP1 hD1
      generalize H1 = H at hP hS hq0 ⊢
      have hP : va_P (dC, dI) classes ([(sg, .inr (6, [.int 0, .null, .null])), (qr, .inr (5, [.ref h0, .int (nI o)])), (h0, .inr (8, [.ref qb, .ref qu, .int uc28, .int ln, .int (nI n), .int (nI p28), .int pl])), (qb, .inl (cB, 4096, .inl bf)), (qu, .inl (cI, 4096, .inl ug28))] ++ va_pl (((L ++ []) ++ N28)) f28) H := hP
      have hD : va_D A ([(sg, .inr (6, [.int 0, .null, .null])), (qr, .inr (5, [.ref h0, .int (nI o)])), (h0, .inr (8, [.ref qb, .ref qu, .int uc28, .int ln, .int (nI n), .int (nI p28), .int pl])), (qb, .inl (cB, 4096, .inl bf)), (qu, .inl (cI, 4096, .inl ug28))] ++ va_pl (((L ++ []) ++ N28)) f28) := hD
      have hP := hP.part (cx := [(qr, .inr (5, [.ref h0, .int (nI o)])), (h0, .inr (8, [.ref qb, .ref qu, .int uc28, .int ln, .int (nI n), .int (nI p28), .int pl])), (qb, .inl (cB, 4096, .inl bf)), (qu, .inl (cI, 4096, .inl ug28)), (sg, .inr (6, [.int 0, .null, .null]))]) [1, 2, 3, 4, 0] rfl
      have hD := hD.part (cx := [(qr, .inr (5, [.ref h0, .int (nI o)])), (h0, .inr (8, [.ref qb, .ref qu, .int uc28, .int ln, .int (nI n), .int (nI p28), .int pl])), (qb, .inl (cB, 4096, .inl bf)), (qu, .inl (cI, 4096, .inl ug28)), (sg, .inr (6, [.int 0, .null, .null]))]) [1, 2, 3, 4, 0] (by decide) rfl
      obtain ⟨hw, m28, hf28, hd28⟩ := hw
      have hf28 : (slsD bf n ok orL (nwB nw)) i = some (p28, sgL (f28 v28), m28) := hf28
      have hd28 : DNc LD 8 E E28 f28 v28 m28 := hd28
      have hQ28 : QPn cI cV E (L ++ []) f i n _ 9 (5 * (16 - o)) 2 v28 p28 N28 E28 f28 := hw
      obtain ⟨lv28, hg28, hlv28⟩ := hQ28.x lv hG28.po _ (Nat.le_refl _)
      have hex28 := hg28.ex
      have hge28 := hg28.ge hQ28.new (by rw [hQ28.so]; decide)
      have hkp28 : KPx E E28 f f28 := KPx.of hg28 hG28.po
      have hnv28 : E v28 = 0 := hQ28.new
      have hsv28 : ¬ E28 v28 = 0 := by rw [hQ28.so]; decide
      have hG28 := hG28.tr hg28 hzz28
      obtain ⟨ha28, hb28⟩ := hQ28.num
      have ha28 : i + 2 ≤ p28 := ha28
      have hb28 : p28 ≤ n := hb28
      rw [List.append_assoc] at hP hD
      have hP : va_P (dC, dI) classes ([(qr, .inr (5, [.ref h0, .int (nI o)])), (h0, .inr (8, [.ref qb, .ref qu, .int uc28, .int ln, .int (nI n), .int (nI p28), .int pl])), (qb, .inl (cB, 4096, .inl bf)), (qu, .inl (cI, 4096, .inl ug28)), (sg, .inr (6, [.int 0, .null, .null]))] ++ va_pl ((L ++ ([] ++ N28))) f28) H := hP
      have hD : va_D A ([(qr, .inr (5, [.ref h0, .int (nI o)])), (h0, .inr (8, [.ref qb, .ref qu, .int uc28, .int ln, .int (nI n), .int (nI p28), .int pl])), (qb, .inl (cB, 4096, .inl bf)), (qu, .inl (cI, 4096, .inl ug28)), (sg, .inr (6, [.int 0, .null, .null]))] ++ va_pl ((L ++ ([] ++ N28))) f28) := hD
      refine lv_goto (tgt := 96) hx hb d_QueryReader_segment_88 (by decide) ?_
      refine va_put (D := (dC, dI)) (ci := 6) (v := .ref v28) (ty := .object "QueryBench$Selector") (C := R_Segment) (T := F_Segment) (N := 3) hx hb hts in_Segment t_Segment t_Segment_ok n_Segment hown hK hP hD hS 4 rfl rfl 1 (by decide) (hts _ z_578) (fun _ h9 => h9) rfl (by decide +kernel) rfl rfl (Nat.le_of_ble_eq_true rfl) d_QueryReader_segment_96 (fun H locs hP hD hS => ?_)
      have hP : va_P (dC, dI) classes ([(qr, .inr (5, [.ref h0, .int (nI o)])), (h0, .inr (8, [.ref qb, .ref qu, .int uc28, .int ln, .int (nI n), .int (nI p28), .int pl])), (qb, .inl (cB, 4096, .inl bf)), (qu, .inl (cI, 4096, .inl ug28)), (sg, .inr (6, [.int 0, .ref v28, .null]))] ++ va_pl ((L ++ ([] ++ N28))) f28) H := hP
      have hD : va_D A ([(qr, .inr (5, [.ref h0, .int (nI o)])), (h0, .inr (8, [.ref qb, .ref qu, .int uc28, .int ln, .int (nI n), .int (nI p28), .int pl])), (qb, .inl (cB, 4096, .inl bf)), (qu, .inl (cI, 4096, .inl ug28)), (sg, .inr (6, [.int 0, .ref v28, .null]))] ++ va_pl ((L ++ ([] ++ N28))) f28) := hD
      refine lv_aload_n hx hb d_QueryReader_segment_99 rfl (lv_at hl 2 rfl) ?_
      have hL_sg := plD_new (X := [(qr, .inr (5, [.ref h0, .int (nI o)])), (h0, .inr (8, [.ref qb, .ref qu, .int uc28, .int ln, .int (nI n), .int (nI p28), .int pl])), (qb, .inl (cB, 4096, .inl bf)), (qu, .inl (cI, 4096, .inl ug28))]) hD
      have h0_sg : E28 sg = 0 := Classical.byContradiction (fun h => hL_sg (hG28.po.inL h))
      have hE_sg : E sg = 0 := hG28.ex.z h0_sg
      have hP := plP_push (X := [(qr, .inr (5, [.ref h0, .int (nI o)])), (h0, .inr (8, [.ref qb, .ref qu, .int uc28, .int ln, .int (nI n), .int (nI p28), .int pl])), (qb, .inl (cB, 4096, .inl bf)), (qu, .inl (cI, 4096, .inl ug28))]) hP hL_sg
      have hD := plD_push (X := [(qr, .inr (5, [.ref h0, .int (nI o)])), (h0, .inr (8, [.ref qb, .ref qu, .int uc28, .int ln, .int (nI n), .int (nI p28), .int pl])), (qb, .inl (cB, 4096, .inl bf)), (qu, .inl (cI, 4096, .inl ug28))]) hD hL_sg
      rw [List.append_assoc] at hP hD
      have hQ_sg : QPn cI cV E L f i n s.heap.size 8 (5 * (16 - o)) 1 sg p28 (([] ++ N28) ++ [sg]) (va_up E28 sg 8) (va_up f28 sg (gE 0 (some v28) none)) := by
        refine ⟨hE_sg, va_up_self _ _ _, by omega, by omega, fun lv hO b hb => ?_⟩
        have g0 : QG cI cV E lv L f i n i s.heap.size [] E lv f := (QG.rf hO hi9).mv (by omega) (by omega)
        obtain ⟨lv1, g1, c1⟩ := hQ28.x lv g0.po (b) (by omega)
        have g1 := g0.tr g1 hzz28
        have hvs28 : v28 ≠ sg := fun e => by have h9 := hQ28.so; rw [e, h0_sg] at h9; cases h9
        exact ⟨va_up lv1 sg b, g1.add (q := sg) (s := 8) (b := b) (e := gE 0 (some v28) none) h0_sg hL_sg hz_sg (by decide) (by decide) (CO.G (va_up_self _ _ _) ⟨_, _, _, rfl, ⟨v28, rfl, (va_up_ne _ _ hvs28).trans hQ28.so, by rw [va_up_ne _ _ hvs28, va_up_self]; exact Nat.le_of_eq c1⟩, fun b h => (nomatch h)⟩), va_up_self _ _ _⟩
      have hP : va_P (dC, dI) classes ([(qr, .inr (5, [.ref h0, .int (nI o)])), (h0, .inr (8, [.ref qb, .ref qu, .int uc28, .int ln, .int (nI n), .int (nI p28), .int pl])), (qb, .inl (cB, 4096, .inl bf)), (qu, .inl (cI, 4096, .inl ug28))] ++ va_pl ((L ++ (([] ++ N28) ++ [sg]))) ((va_up f28 sg (gE 0 (some v28) none)))) H := hP
      have hD : va_D A ([(qr, .inr (5, [.ref h0, .int (nI o)])), (h0, .inr (8, [.ref qb, .ref qu, .int uc28, .int ln, .int (nI n), .int (nI p28), .int pl])), (qb, .inl (cB, 4096, .inl bf)), (qu, .inl (cI, 4096, .inl ug28))] ++ va_pl ((L ++ (([] ++ N28) ++ [sg]))) ((va_up f28 sg (gE 0 (some v28) none)))) := hD
      have hvs28 : v28 ≠ sg := fun e => by have h9 := hQ28.so; rw [e, h0_sg] at h9; cases h9
      have hQr : QPn cI cV E L f i n s.heap.size 8 (5 * (16 - o)) 1 sg p28 ((([] ++ N28) ++ [sg])) ((va_up E28 sg 8)) ((va_up f28 sg (gE 0 (some v28) none))) := hQ_sg
      have hfin : (segD bf n ok orL (nwB nw)) i = some (p28, sgG ((va_up f28 sg (gE 0 (some v28) none))) sg, segS (decide (¬ (0 : Int32) = 0)) m28) := by rw [sgG_0 hvs28]; exact (segD_b ht21).trans (mp_some hf28)
      have hdn : DNx GD 2 E ((va_up E28 sg 8)) ((va_up f28 sg (gE 0 (some v28) none))) sg (segS (decide (¬ (0 : Int32) = 0)) m28) := DNx.seg hd28 h0_sg
      refine w_same (fun hq => ?_)
      refine W.widen (k := 8 * (n - i) + 7) (n := 64 * (n - i) + 100) (by show ((0 + 1) + (8 * (p28 - i) + 0 - 6)) ≤ 8 * (n - i) + 7; omega) (by show ((0 + 3) + (64 * (p28 - i) + 0 - 54)) ≤ 64 * (n - i) + 100; omega) ?_
      refine vx_ret ?_
      exact W.aret (v := .ref sg) hx hb hr (Or.inl ⟨_, rfl⟩) (Or.inr ⟨_, rfl⟩) (fun t9 ht hW => ⟨⟨(sg, p28, (([] ++ N28) ++ [sg]), (va_up E28 sg 8), (va_up f28 sg (gE 0 (some v28) none)), uc28, ug28), sg, rfl, ⟨hQr, _, hfin, hdn⟩, ⟨by rw [ht]; exact hP, va_K.moved hW.alike hK, hD⟩, by rw [ht]; exact ⟨hq.mono (by show ((0 + 1) + (8 * (p28 - i) + 0 - 6)) ≤ 8 * (p28 - i) + 0 - 5; omega) (by show ((0 + 3) + (64 * (p28 - i) + 0 - 54)) ≤ 64 * (p28 - i) + 0 - 51; omega), rfl⟩⟩, hS.F ht⟩) hS.2.2 d_QueryReader_segment_100
