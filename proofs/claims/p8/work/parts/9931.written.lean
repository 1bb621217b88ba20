theorem z_320 : (.fieldLink "QueryBench$QueryReader" 254 "QueryBench$Value" "number" "J" : Cond) ∈ gtbl := gt_in 320 (by decide +kernel) (by decide +kernel)
theorem z_324 : (.fieldLink "QueryBench$QueryReader" 251 "QueryBench$Value" "text" "[I" : Cond) ∈ gtbl := gt_in 324 (by decide +kernel) (by decide +kernel)
theorem z_650 : (.methodLink "QueryBench$QueryReader" 107 ⟨"QueryBench$QueryReader", "isQuote", "(I)Z"⟩ : Cond) ∈ gtbl := gt_in 650 (by decide +kernel) (by decide +kernel)
theorem z_651 : (.static ⟨"QueryBench$QueryReader", "isQuote", "(I)Z"⟩ : Cond) ∈ gtbl := gt_in 651 (by decide +kernel) (by decide +kernel)
theorem z_653 : (.methodLink "QueryBench$QueryReader" 113 ⟨"QueryBench$Tape", "quoted", "()[I"⟩ : Cond) ∈ gtbl := gt_in 653 (by decide +kernel) (by decide +kernel)
theorem z_760 : (.methodLink "QueryBench$QueryReader" 238 ⟨"QueryBench$Tape", "takeLetters", "(Ljava/lang/String;)V"⟩ : Cond) ∈ gtbl := gt_in 760 (by decide +kernel) (by decide +kernel)
theorem z_761 : (.classLink "QueryBench$QueryReader" 223 "QueryBench$Value" : Cond) ∈ gtbl := gt_in 761 (by decide +kernel) (by decide +kernel)
theorem z_762 : (.methodLink "QueryBench$QueryReader" 225 ⟨"QueryBench$Value", "<init>", "(I)V"⟩ : Cond) ∈ gtbl := gt_in 762 (by decide +kernel) (by decide +kernel)
set_option maxHeartbeats 4000000 in
set_option maxRecDepth 100000 in
/-- QueryReader.written -/
theorem c_QR_written (l : Launch) (hl9 : l.stackTraces = false) (K : Nat → Nat × Nat) (dC : Nat → ClassId) (dI : Nat → Nat → Nat) (cI cV : ClassId) (cB : ClassId) (h0 qb qu : Nat) (ln : Int32) (bf : Nat → Int32) (n qr : Nat) (hn0 : n ≤ 4096) (hbf : byR bf) (o : Nat) (ho : o ≤ 16) (ok : Bool) (orL : Nat → Option (Nat × CT)) (cmL : Nat → Option (Nat × OT)) (qyL : Nat → Option (Nat × Bool × QT)) (hok : ok = true ↔ o < 16)  : QCT l K dC dI cI cV cB h0 qb qu ln bf n qr y_QueryReader_written (k_QueryReader_written :: gtbl) [.ref qr] o (12 * (16 - o) + 12) (360 * (16 - o) + 360) 4 40 2 0 10 0 2 (5 * (16 - o)) 0 0 (OKd LTv 0 (wrD bf n)) (NOd (wrD bf n)) := by
  intro sz E lv L f i uc pl ug hO hin
  refine vx_ofW (cc := b_QueryReader_written) (maxL := 3) (ret := (some (.object "QueryBench$Value"))) (by decide) rfl ?_
  intro p e s m args below meth c s₁ B hml hex hv
  obtain ⟨rfl, ⟨hsz, hP, hK, hD0⟩, hN, hZ, hC, hV⟩ := hv
  have hx := B.exec
  have hb := B.bytes
  have hr := B.returns
  have hts0 := atoms_spec (ws := k_QueryReader_written :: gtbl) B.pre
  have hts := fun w h => hts0 w (List.mem_cons_of_mem _ h)
  have hown : s.vm.findClass R_QueryReader = some m.cls := findClass_of_methodNamed B.named
  have hlocks := B.notSynchronized
  subst hsz
  have hD := hD0.self (sz := s.heap.size)
  generalize hAe : va_A ([(qr, .inr (5, [.ref h0, .int (nI o)])), (h0, .inr (8, [.ref qb, .ref qu, .int uc, .int ln, .int (nI n), .int (nI i), .int pl])), (qb, .inl (cB, 4096, .inl bf)), (qu, .inl (cI, 4096, .inl ug))] ++ va_pl L f) s.heap.size = A at hD hZ hC ⊢
  have hA : ∀ q : Nat, s.heap.size ≤ q → A q := fun q h => by rw [← hAe]; exact Or.inr h
  have hS : va_S A s.heap s.heap [] := va_S.rf
  have hP : va_P (dC, dI) classes ([(qr, .inr (5, [.ref h0, .int (nI o)])), (h0, .inr (8, [.ref qb, .ref qu, .int uc, .int ln, .int (nI n), .int (nI i), .int pl])), (qb, .inl (cB, 4096, .inl bf)), (qu, .inl (cI, 4096, .inl ug))] ++ va_pl L f) s.heap := hP
  have hl := lv_entry ([.ref qr]) (n := 3) (Nat.le_of_ble_eq_true rfl)
  rw [lg_entry_eq]
  generalize (lg_sl ([.ref qr]) ++ List.replicate (3 - (lg_sl ([.ref qr])).length) Slot.unset).toArray = ls at hl ⊢
  have hl : lv_has ls 3 [(0, .ref qr)] := hl
  have hLz : ∀ a, a ∈ L → a < s.heap.size := fun a ha => va_pl_lt hP ha
  have hi9 : i ≤ n := by omega
  have hP : va_P (dC, dI) classes ([(qr, .inr (5, [.ref h0, .int (nI o)])), (h0, .inr (8, [.ref qb, .ref qu, .int uc, .int ln, .int (nI n), .int (nI i), .int pl])), (qb, .inl (cB, 4096, .inl bf)), (qu, .inl (cI, 4096, .inl ug))] ++ va_pl (L ++ []) f) s.heap := by rw [List.append_nil]; exact hP
  have hD : va_D A ([(qr, .inr (5, [.ref h0, .int (nI o)])), (h0, .inr (8, [.ref qb, .ref qu, .int uc, .int ln, .int (nI n), .int (nI i), .int pl])), (qb, .inl (cB, 4096, .inl bf)), (qu, .inl (cI, 4096, .inl ug))] ++ va_pl (L ++ []) f) := by rw [List.append_nil]; exact hD
  have hG0 : QG cI cV E lv L f i n i s.heap.size [] E lv f := QG.rf hO hi9
  refine lv_aload_n hx hb d_QueryReader_written_0 rfl (lv_at hl 0 rfl) ?_
  refine va_get (D := (dC, dI)) (ci := 5) (v := .ref h0) (C := R_QueryReader) (T := F_QueryReader) (N := 2) hx hb hts in_QueryReader hown hK hP 0 rfl rfl 0 (by decide) (hts _ w_100) (fun _ h9 => h9) rfl d_QueryReader_written_1 ?_
  have hPc := hP.sub (ws' := [(h0, .inr (8, [.ref qb, .ref qu, .int uc, .int ln, .int (nI n), .int (nI i), .int pl])), (qb, .inl (cB, 4096, .inl bf))]) [1, 2] rfl
  have hDc := hD.sub (ws' := [(h0, .inr (8, [.ref qb, .ref qu, .int uc, .int ln, .int (nI n), .int (nI i), .int pl])), (qb, .inl (cB, 4096, .inl bf))]) [1, 2] (by decide) rfl
  have hFc := va_free (wc := [(h0, .inr (8, [.ref qb, .ref qu, .int uc, .int ln, .int (nI n), .int (nI i), .int pl])), (qb, .inl (cB, 4096, .inl bf))]) hD hS hA [1, 2] rfl
  have hKc := hK.sub (tys' := [(cB, .byte)]) [0] rfl
  refine va_calli (va_runV (As := []) (rest := []) ⟨hx, hb, hml, hown, hts⟩ (c_Tape_here l dC dI cB h0 qb s.heap (.ref qu) uc ln pl bf n i hn0 (by omega)) (cwV 0 hts (gt_V (own := R_QueryReader) (C := R_Tape) (i := 19) (y := y_Tape_here) i_Tape_here z_534 w_363 w_364 w_2) rfl rfl rfl (by decide +kernel) ⟨by show 0 + 1 ≤ 12 * (16 - o) + 12; omega, by show 8 + (1 + 11) + (0) ≤ 360 * (16 - o) + 360; omega⟩) ⟨mp_blind, va_recv hK hP (ci := 8) (q0 := 1) rfl rfl, fun U hU hW => ⟨rfl, hU, by rw [hU]; exact hPc, va_K.moved hW.alike hKc, hDc.weaken (fun _ _ _ _ => trivial)⟩⟩ rfl rfl hl.1 rfl (lv_room (Nat.le_of_ble_eq_true rfl)) d_QueryReader_written_4 ⟨by show 0 + (0) ≤ 8 * (n - i) + 4; omega, by show 0 + (0) ≤ 64 * (n - i) + 40; omega⟩) hS (fun q _ h => hFc q h) hFc (fun h21 _u t9 H1 locs ht hvm hw hB hz1 hk1 hS => ?_)
  obtain ⟨hP1, hK1, hD1⟩ := hB
  rw [ht] at hP1
  obtain ⟨hP, hD⟩ := va_joinQ (wr := [(qr, .inr (5, [.ref h0, .int (nI o)])), (qu, .inl (cI, 4096, .inl ug))]) (w1 := [(h0, .inr (8, [.ref qb, .ref qu, .int uc, .int ln, .int (nI n), .int (nI i), .int pl])), (qb, .inl (cB, 4096, .inl bf))]) hP hD [1, 2] [0, 3] rfl rfl (by decide) (by decide) hk1 hFc hP1 hD1
  generalize H1 = H at hP hS ⊢
  have hP : va_P (dC, dI) classes ([(qr, .inr (5, [.ref h0, .int (nI o)])), (qu, .inl (cI, 4096, .inl ug)), (h0, .inr (8, [.ref qb, .ref qu, .int uc, .int ln, .int (nI n), .int (nI i), .int pl])), (qb, .inl (cB, 4096, .inl bf))] ++ va_pl ((L ++ [])) f) H := hP
  have hD : va_D A ([(qr, .inr (5, [.ref h0, .int (nI o)])), (qu, .inl (cI, 4096, .inl ug)), (h0, .inr (8, [.ref qb, .ref qu, .int uc, .int ln, .int (nI n), .int (nI i), .int pl])), (qb, .inl (cB, 4096, .inl bf))] ++ va_pl ((L ++ [])) f) := hD
  have hP := hP.part (cx := [(qr, .inr (5, [.ref h0, .int (nI o)])), (h0, .inr (8, [.ref qb, .ref qu, .int uc, .int ln, .int (nI n), .int (nI i), .int pl])), (qb, .inl (cB, 4096, .inl bf)), (qu, .inl (cI, 4096, .inl ug))]) [0, 2, 3, 1] rfl
  have hD := hD.part (cx := [(qr, .inr (5, [.ref h0, .int (nI o)])), (h0, .inr (8, [.ref qb, .ref qu, .int uc, .int ln, .int (nI n), .int (nI i), .int pl])), (qb, .inl (cB, 4096, .inl bf)), (qu, .inl (cI, 4096, .inl ug))]) [0, 2, 3, 1] (by decide) rfl
  have h_h21 : h21 = hereV bf n i := hw
  refine lv_istore_n (lv' := [(1, .int h21), (0, .ref qr)]) hx hb d_QueryReader_written_7 rfl hl (by decide) rfl (fun ls hl => ?_)
  refine lv_iload_n hx hb d_QueryReader_written_8 rfl (lv_at hl 0 rfl) ?_
  refine lv_bipush (v := 116) hx hb d_QueryReader_written_9 (by decide) ?_
  refine lv_icmp_ne (tgt := 32) hx hb d_QueryReader_written_11 (by decide) (fun c11 => ?_) (fun c11 => ?_)
  · have hn116 : ¬ hereV bf n i = 116 := by rw [← h_h21]; exact c11
    refine lv_iload_n hx hb d_QueryReader_written_32 rfl (lv_at hl 0 rfl) ?_
    refine lv_bipush (v := 102) hx hb d_QueryReader_written_33 (by decide) ?_
    refine lv_icmp_ne (tgt := 56) hx hb d_QueryReader_written_35 (by decide) (fun c35 => ?_) (fun c35 => ?_)
    · have hn102 : ¬ hereV bf n i = 102 := by rw [← h_h21]; exact c35
      refine lv_iload_n hx hb d_QueryReader_written_56 rfl (lv_at hl 0 rfl) ?_
      refine lv_bipush (v := 110) hx hb d_QueryReader_written_57 (by decide) ?_
      refine lv_icmp_ne (tgt := 80) hx hb d_QueryReader_written_59 (by decide) (fun c59 => ?_) (fun c59 => ?_)
      · have hn110 : ¬ hereV bf n i = 110 := by rw [← h_h21]; exact c59
        refine lv_iload_n hx hb d_QueryReader_written_80 rfl (lv_at hl 0 rfl) ?_
        refine vp_callSi (va_Run.run (va_runS (As := [.int h21]) (rest := []) ⟨hx, hb, hml, hown, hts⟩ (c_QueryReader_isQuote l dC dI H h21) (va_cwS 1 hts (gt_S (own := R_QueryReader) (i := 107) (y := y_QueryReader_isQuote) i_QueryReader_isQuote z_650 z_651 w_4) rfl rfl rfl (by decide +kernel) ⟨by show 0 + 1 ≤ 12 * (16 - o) + 12; omega, by show 8 + (1 + 11) + (0) ≤ 360 * (16 - o) + 360; omega⟩) ⟨mT_blind, fun U hU hW => ⟨rfl, hN.warm hW⟩⟩ rfl rfl hl.1 rfl (lv_room (Nat.le_of_ble_eq_true rfl)) d_QueryReader_written_81 ⟨by show 0 + (0) ≤ 8 * (n - i) + 4; omega, by show 0 + (0) ≤ 64 * (n - i) + 40; omega⟩)) (fun r22 h_r22 => ?_)
        refine lv_if_eq (tgt := 109) hx hb d_QueryReader_written_84 (by decide) (fun c84 => ?_) (fun c84 => ?_)
        · have hnot : ¬ (hereV bf n i = 39 ∨ hereV bf n i = 34) := by rw [← h_h21]; exact h_r22.2.2 c84
          refine va_new (ci := 9) (fs := [.int 0, .long 0, .null, .null, .null, .null, .int 0, .null, .null, .int 0]) (C := R_Value) (T := F_Value) (N := 10) hx hb hts in_Value t_Value t_Value_ok hown (hts _ z_761) (hts _ z_307) (hts _ z_14) hK hP hD hS hA rfl (fun j hj => by rcases (show j = 0 ∨ j = 1 ∨ j = 2 ∨ j = 3 ∨ j = 4 ∨ j = 5 ∨ j = 6 ∨ j = 7 ∨ j = 8 ∨ j = 9 by omega) with rfl | rfl | rfl | rfl | rfl | rfl | rfl | rfl | rfl | rfl <;> rfl) (by show 0 + 1 ≤ 8 * (n - i) + 4; omega) (by show 0 + 10 ≤ 64 * (n - i) + 40; omega) d_QueryReader_written_109 (fun v H hP hD hS => ?_)
          have hz_v := newB (X := [(qr, .inr (5, [.ref h0, .int (nI o)])), (h0, .inr (8, [.ref qb, .ref qu, .int uc, .int ln, .int (nI n), .int (nI i), .int pl])), (qb, .inl (cB, 4096, .inl bf)), (qu, .inl (cI, 4096, .inl ug))]) hAe hD (fun k x hk => by rcases k with _ | _ | _ | _ | k; (· cases hk; exact ⟨0, _, rfl⟩); (· cases hk; exact ⟨1, _, rfl⟩); (· cases hk; exact ⟨2, _, rfl⟩); (· cases hk; exact ⟨3, _, rfl⟩); (· cases hk))
          have hP := hP.swap
          have hD := hD.swap
          have hP : va_P (dC, dI) classes ([(qr, .inr (5, [.ref h0, .int (nI o)])), (h0, .inr (8, [.ref qb, .ref qu, .int uc, .int ln, .int (nI n), .int (nI i), .int pl])), (qb, .inl (cB, 4096, .inl bf)), (qu, .inl (cI, 4096, .inl ug)), (v, .inr (9, [.int 0, .long 0, .null, .null, .null, .null, .int 0, .null, .null, .int 0]))] ++ va_pl ((L ++ [])) f) H := hP
          have hD : va_D A ([(qr, .inr (5, [.ref h0, .int (nI o)])), (h0, .inr (8, [.ref qb, .ref qu, .int uc, .int ln, .int (nI n), .int (nI i), .int pl])), (qb, .inl (cB, 4096, .inl bf)), (qu, .inl (cI, 4096, .inl ug)), (v, .inr (9, [.int 0, .long 0, .null, .null, .null, .null, .int 0, .null, .null, .int 0]))] ++ va_pl ((L ++ [])) f) := hD
          refine lv_dup hx hb d_QueryReader_written_112 rfl ?_
          refine lv_iconst (v := 3) hx hb d_QueryReader_written_113 (by decide) ?_
          have hPc := hP.sub (ws' := [(v, .inr (9, [.int 0, .long 0, .null, .null, .null, .null, .int 0, .null, .null, .int 0]))]) [4] rfl
          have hDc := hD.sub (ws' := [(v, .inr (9, [.int 0, .long 0, .null, .null, .null, .null, .int 0, .null, .null, .int 0]))]) [4] (by decide) rfl
          have hFc := va_free (wc := [(v, .inr (9, [.int 0, .long 0, .null, .null, .null, .null, .int 0, .null, .null, .int 0]))]) hD hS hA [4] rfl
          have hKc := hK.sub (tys' := []) [] rfl
          refine w_same (fun hq0 => ?_)
          refine va_callv (va_runI (As := [.int 3]) (rest := [.ref v]) ⟨hx, hb, hml, hown, hts⟩ (c_Value_init l dC dI H v 3) (cwI 1 hts (gt_code i_Value_init) rfl rfl rfl (hts _ z_14) (hts _ z_762) (hts _ z_309) rfl (by decide +kernel) ⟨by show 1 + 1 ≤ 12 * (16 - o) + 12; omega, by show 8 + (2 + 11) + (20) ≤ 360 * (16 - o) + 360; omega⟩) ⟨mp_blind, fun U hU hW => ⟨rfl, hU, by rw [hU]; exact hPc, va_K.moved hW.alike hKc, hDc.weaken (fun _ _ _ _ => trivial)⟩⟩ rfl rfl hl.1 rfl (lv_room (Nat.le_of_ble_eq_true rfl)) d_QueryReader_written_114 ⟨by show (0 + 1) + (0) ≤ 8 * (n - i) + 4; omega, by show (0 + 10) + (0) ≤ 64 * (n - i) + 40; omega⟩) hS (fun q _ h => hFc q h) hFc (fun _u t9 H1 locs ht hvm hw hB hz1 hk1 hS => ?_)
          obtain ⟨⟨hP1, hK1, hD1⟩, hz9⟩ := hB
          rw [ht] at hP1
          rw [ht] at hz9
          have hq0 : szk s.heap H1 ((0 + 1)) ((0 + 10)) := (hq0.trans hz9).mono (Nat.le_of_eq (Nat.add_zero _)) (Nat.le_of_eq (Nat.add_zero _))
          refine w_tight hq0 ?_
          obtain ⟨hP, hD⟩ := va_joinQ (wr := [(qr, .inr (5, [.ref h0, .int (nI o)])), (h0, .inr (8, [.ref qb, .ref qu, .int uc, .int ln, .int (nI n), .int (nI i), .int pl])), (qb, .inl (cB, 4096, .inl bf)), (qu, .inl (cI, 4096, .inl ug))]) (w1 := [(v, .inr (9, [.int 3, .long 0, .null, .null, .null, .null, .int 0, .null, .null, .int 0]))]) hP hD [4] [0, 1, 2, 3] rfl rfl (by decide) (by decide) hk1 hFc hP1 hD1
          generalize H1 = H at hP hS hq0 ⊢
          have hP : va_P (dC, dI) classes ([(qr, .inr (5, [.ref h0, .int (nI o)])), (h0, .inr (8, [.ref qb, .ref qu, .int uc, .int ln, .int (nI n), .int (nI i), .int pl])), (qb, .inl (cB, 4096, .inl bf)), (qu, .inl (cI, 4096, .inl ug)), (v, .inr (9, [.int 3, .long 0, .null, .null, .null, .null, .int 0, .null, .null, .int 0]))] ++ va_pl ((L ++ [])) f) H := hP
          have hD : va_D A ([(qr, .inr (5, [.ref h0, .int (nI o)])), (h0, .inr (8, [.ref qb, .ref qu, .int uc, .int ln, .int (nI n), .int (nI i), .int pl])), (qb, .inl (cB, 4096, .inl bf)), (qu, .inl (cI, 4096, .inl ug)), (v, .inr (9, [.int 3, .long 0, .null, .null, .null, .null, .int 0, .null, .null, .int 0]))] ++ va_pl ((L ++ [])) f) := hD
          refine lv_astore_n (lv' := [(2, .ref v), (1, .int h21), (0, .ref qr)]) hx hb d_QueryReader_written_117 rfl hl (by decide) rfl (fun ls hl => ?_)
          refine lv_aload_n hx hb d_QueryReader_written_118 rfl (lv_at hl 0 rfl) ?_
          refine lv_aload_n hx hb d_QueryReader_written_119 rfl (lv_at hl 2 rfl) ?_
          have hPc := hP.sub (ws' := [(qr, .inr (5, [.ref h0, .int (nI o)])), (h0, .inr (8, [.ref qb, .ref qu, .int uc, .int ln, .int (nI n), .int (nI i), .int pl])), (qb, .inl (cB, 4096, .inl bf)), (qu, .inl (cI, 4096, .inl ug))]) [0, 1, 2, 3] rfl
          have hDc := hD.sub (ws' := [(qr, .inr (5, [.ref h0, .int (nI o)])), (h0, .inr (8, [.ref qb, .ref qu, .int uc, .int ln, .int (nI n), .int (nI i), .int pl])), (qb, .inl (cB, 4096, .inl bf)), (qu, .inl (cI, 4096, .inl ug))]) [0, 1, 2, 3] (by decide) rfl
          have hFc := va_free (wc := [(qr, .inr (5, [.ref h0, .int (nI o)])), (h0, .inr (8, [.ref qb, .ref qu, .int uc, .int ln, .int (nI n), .int (nI i), .int pl])), (qb, .inl (cB, 4096, .inl bf)), (qu, .inl (cI, 4096, .inl ug))]) hD hS hA [0, 1, 2, 3] rfl
          have hKc := hK.sub (tys' := [(cB, .byte), (cI, .int)]) [0, 1] rfl
          refine w_same (fun hq0 => ?_)
          refine vx_calll (vx_runV (As := []) (rest := [.ref v]) ⟨hx, hb, hml, hown, hts⟩ (c_QueryReader_integer l hl9 dC dI H cB cI h0 qb qu uc ln pl bf ug n i hn0 (by omega) qr o) (cwV 0 hts (gt_V (own := R_QueryReader) (C := R_QueryReader) (i := 129) (y := y_QueryReader_integer) i_QueryReader_integer z_776 z_778 (gt_sel (y := y_QueryReader_integer) (n := 2) (by decide +kernel)) w_4) rfl rfl rfl (by decide +kernel) ⟨by show 10 + 1 ≤ 12 * (16 - o) + 12; omega, by show 8 + (5 + 11) + (170) ≤ 360 * (16 - o) + 360; omega⟩) ⟨mx_blind, va_recv hK hP (ci := 5) (q0 := 0) rfl rfl, fun U hU hW => ⟨rfl, ⟨hU, by rw [hU]; exact hPc, va_K.moved hW.alike hKc, hDc.weaken (fun _ _ _ _ => trivial)⟩, hN.warm hW, by rw [hU]; exact ZX.moved' hW.alike (ZX.narrow' (ZX.kept' hZ hS.2.1) hFc)⟩⟩ rfl rfl hl.1 rfl (lv_room (Nat.le_of_ble_eq_true rfl)) d_QueryReader_written_120 ⟨by show (0 + 1) + (1) ≤ 8 * (n - i) + 4; omega, by show (0 + 10) + (6) ≤ 64 * (n - i) + 40; omega⟩) hS (fun q _ h => hFc q h) hFc (fun q _ h => hFc q h) (fun En ce q9 ⟨ax, cx, px, gx, ox⟩ t9 H1 locs ht hvm hw hB hz1 hk1 hS hce hcv hcl => ?_) (fun r23 u23 t9 H1 locs ht hvm hw hB hz1 hk1 hS => ?_)
          · obtain ⟨hEn, hP1, hK1, hD1⟩ := hB
            rw [ht] at hP1
            obtain ⟨hP, hD⟩ := va_joinQ (wr := [(v, .inr (9, [.int 3, .long 0, .null, .null, .null, .null, .int 0, .null, .null, .int 0]))]) (w1 := [(qr, .inr (5, [.ref h0, .int ox])), (h0, .inr (8, [.ref qb, .ref qu, .int cx, .int ln, .int (nI n), .int ax, .int px])), (qb, .inl (cB, 4096, .inl bf)), (qu, .inl (cI, 4096, .inl gx))]) hP hD [0, 1, 2, 3] [4] rfl rfl (by decide) (by decide) hk1 hFc hP1 hD1
            generalize H1 = H at hP hS hce ⊢
            have hP : va_P (dC, dI) classes ([(v, .inr (9, [.int 3, .long 0, .null, .null, .null, .null, .int 0, .null, .null, .int 0])), (qr, .inr (5, [.ref h0, .int ox])), (h0, .inr (8, [.ref qb, .ref qu, .int cx, .int ln, .int (nI n), .int ax, .int px])), (qb, .inl (cB, 4096, .inl bf)), (qu, .inl (cI, 4096, .inl gx))] ++ va_pl ((L ++ [])) f) H := hP
            have hD : va_D A ([(v, .inr (9, [.int 3, .long 0, .null, .null, .null, .null, .int 0, .null, .null, .int 0])), (qr, .inr (5, [.ref h0, .int ox])), (h0, .inr (8, [.ref qb, .ref qu, .int cx, .int ln, .int (nI n), .int ax, .int px])), (qb, .inl (cB, 4096, .inl bf)), (qu, .inl (cI, 4096, .inl gx))] ++ va_pl ((L ++ [])) f) := hD
            have hP := hP.part (cx := [(qr, .inr (5, [.ref h0, .int ox])), (h0, .inr (8, [.ref qb, .ref qu, .int cx, .int ln, .int (nI n), .int ax, .int px])), (qb, .inl (cB, 4096, .inl bf)), (qu, .inl (cI, 4096, .inl gx)), (v, .inr (9, [.int 3, .long 0, .null, .null, .null, .null, .int 0, .null, .null, .int 0]))]) [1, 2, 3, 4, 0] rfl
            have hD := hD.part (cx := [(qr, .inr (5, [.ref h0, .int ox])), (h0, .inr (8, [.ref qb, .ref qu, .int cx, .int ln, .int (nI n), .int ax, .int px])), (qb, .inl (cB, 4096, .inl bf)), (qu, .inl (cI, 4096, .inl gx)), (v, .inr (9, [.int 3, .long 0, .null, .null, .null, .null, .int 0, .null, .null, .int 0]))]) [1, 2, 3, 4, 0] (by decide) rfl
            have hP := plP_cut (hP.part (cx := [(qr, .inr (5, [.ref h0, .int ox])), (h0, .inr (8, [.ref qb, .ref qu, .int cx, .int ln, .int (nI n), .int ax, .int px])), (qb, .inl (cB, 4096, .inl bf)), (qu, .inl (cI, 4096, .inl gx))]) [0, 1, 2, 3] rfl) hG0.on
            have hD := plD_cut (hD.part (cx := [(qr, .inr (5, [.ref h0, .int ox])), (h0, .inr (8, [.ref qb, .ref qu, .int cx, .int ln, .int (nI n), .int ax, .int px])), (qb, .inl (cB, 4096, .inl bf)), (qu, .inl (cI, 4096, .inl gx))]) [0, 1, 2, 3] (by decide) rfl) hG0.on
            have hno : (wrD bf n) i = none := wrD_i0 hn116 hn102 hn110 hnot hw
            exact vx_out (fun x hx => (hex x hx).elim) hlocks hce hcv hcl (fun t9 ht2 ha => ⟨(ax, cx, px, gx, ox), hno, ⟨hEn, by rw [ht2]; exact hP, va_K.moved ha hK, hD⟩, hS.F ht2⟩) hS.2.2 (by show (0 + 1) + (1) ≤ 8 * (n - i) + 4; omega) (by show (0 + 10) + (6) ≤ 64 * (n - i) + 40; omega)
          · obtain ⟨⟨hP1, hK1, hD1⟩, hz9⟩ := hB
            rw [ht] at hP1
            rw [ht] at hz9
            refine w_tight (hq0.trans hz9) ?_
            have hq0 := hq0.trans hz9
            obtain ⟨hP, hD⟩ := va_joinQ (wr := [(v, .inr (9, [.int 3, .long 0, .null, .null, .null, .null, .int 0, .null, .null, .int 0]))]) (w1 := [(qr, .inr (5, [.ref h0, .int (nI o)])), (h0, .inr (8, [.ref qb, .ref qu, .int uc, .int ln, .int (nI n), .int (nI u23), .int pl])), (qb, .inl (cB, 4096, .inl bf)), (qu, .inl (cI, 4096, .inl ug))]) hP hD [0, 1, 2, 3] [4] rfl rfl (by decide) (by decide) hk1 hFc hP1 hD1
            generalize H1 = H at hP hS hq0 ⊢
            have hP : va_P (dC, dI) classes ([(v, .inr (9, [.int 3, .long 0, .null, .null, .null, .null, .int 0, .null, .null, .int 0])), (qr, .inr (5, [.ref h0, .int (nI o)])), (h0, .inr (8, [.ref qb, .ref qu, .int uc, .int ln, .int (nI n), .int (nI u23), .int pl])), (qb, .inl (cB, 4096, .inl bf)), (qu, .inl (cI, 4096, .inl ug))] ++ va_pl ((L ++ [])) f) H := hP
            have hD : va_D A ([(v, .inr (9, [.int 3, .long 0, .null, .null, .null, .null, .int 0, .null, .null, .int 0])), (qr, .inr (5, [.ref h0, .int (nI o)])), (h0, .inr (8, [.ref qb, .ref qu, .int uc, .int ln, .int (nI n), .int (nI u23), .int pl])), (qb, .inl (cB, 4096, .inl bf)), (qu, .inl (cI, 4096, .inl ug))] ++ va_pl ((L ++ [])) f) := hD
            have hP := hP.part (cx := [(qr, .inr (5, [.ref h0, .int (nI o)])), (h0, .inr (8, [.ref qb, .ref qu, .int uc, .int ln, .int (nI n), .int (nI u23), .int pl])), (qb, .inl (cB, 4096, .inl bf)), (qu, .inl (cI, 4096, .inl ug)), (v, .inr (9, [.int 3, .long 0, .null, .null, .null, .null, .int 0, .null, .null, .int 0]))]) [1, 2, 3, 4, 0] rfl
            have hD := hD.part (cx := [(qr, .inr (5, [.ref h0, .int (nI o)])), (h0, .inr (8, [.ref qb, .ref qu, .int uc, .int ln, .int (nI n), .int (nI u23), .int pl])), (qb, .inl (cB, 4096, .inl bf)), (qu, .inl (cI, 4096, .inl ug)), (v, .inr (9, [.int 3, .long 0, .null, .null, .null, .null, .int 0, .null, .null, .int 0]))]) [1, 2, 3, 4, 0] (by decide) rfl
            obtain ⟨ha23, hb23, hc23, hi23⟩ := hw
            have hi23 : iCv bf n i = some (u23, r23) := hi23
            have ha23 : i ≤ u23 := ha23
            have hb23 : u23 ≤ n := hb23
            have hc23 : wi53 r23 := hc23
            refine va_put (D := (dC, dI)) (ci := 9) (v := .long r23) (ty := .long) (C := R_Value) (T := F_Value) (N := 10) hx hb hts in_Value t_Value t_Value_ok n_Value hown hK hP hD hS 4 rfl rfl 1 (by decide) (hts _ z_320) (fun _ h9 => h9) rfl (by decide +kernel) rfl rfl (Nat.le_of_ble_eq_true rfl) d_QueryReader_written_123 (fun H locs hP hD hS => ?_)
            have hP : va_P (dC, dI) classes ([(qr, .inr (5, [.ref h0, .int (nI o)])), (h0, .inr (8, [.ref qb, .ref qu, .int uc, .int ln, .int (nI n), .int (nI u23), .int pl])), (qb, .inl (cB, 4096, .inl bf)), (qu, .inl (cI, 4096, .inl ug)), (v, .inr (9, [.int 3, .long r23, .null, .null, .null, .null, .int 0, .null, .null, .int 0]))] ++ va_pl ((L ++ [])) f) H := hP
            have hD : va_D A ([(qr, .inr (5, [.ref h0, .int (nI o)])), (h0, .inr (8, [.ref qb, .ref qu, .int uc, .int ln, .int (nI n), .int (nI u23), .int pl])), (qb, .inl (cB, 4096, .inl bf)), (qu, .inl (cI, 4096, .inl ug)), (v, .inr (9, [.int 3, .long r23, .null, .null, .null, .null, .int 0, .null, .null, .int 0]))] ++ va_pl ((L ++ [])) f) := hD
            refine lv_aload_n hx hb d_QueryReader_written_126 rfl (lv_at hl 0 rfl) ?_
            have hG0 : QG cI cV E lv L f i n u23 s.heap.size [] E lv f := (QG.rf hO hi9).mv (by omega) (by omega)
            have hL_v := plD_new (X := [(qr, .inr (5, [.ref h0, .int (nI o)])), (h0, .inr (8, [.ref qb, .ref qu, .int uc, .int ln, .int (nI n), .int (nI u23), .int pl])), (qb, .inl (cB, 4096, .inl bf)), (qu, .inl (cI, 4096, .inl ug))]) hD
            have h0_v : E v = 0 := Classical.byContradiction (fun h => hL_v (hG0.po.inL h))
            have hE_v : E v = 0 := hG0.ex.z h0_v
            have hP := plP_push (X := [(qr, .inr (5, [.ref h0, .int (nI o)])), (h0, .inr (8, [.ref qb, .ref qu, .int uc, .int ln, .int (nI n), .int (nI u23), .int pl])), (qb, .inl (cB, 4096, .inl bf)), (qu, .inl (cI, 4096, .inl ug))]) hP hL_v
            have hD := plD_push (X := [(qr, .inr (5, [.ref h0, .int (nI o)])), (h0, .inr (8, [.ref qb, .ref qu, .int uc, .int ln, .int (nI n), .int (nI u23), .int pl])), (qb, .inl (cB, 4096, .inl bf)), (qu, .inl (cI, 4096, .inl ug))]) hD hL_v
            rw [List.append_assoc] at hP hD
            have hQ_v : QPn cI cV E L f i n s.heap.size 2 (5 * (16 - o)) 0 v u23 ([] ++ [v]) (va_up E v 2) (va_up f v (vE 3 r23 none none none none 0 none none 0)) := by
              refine ⟨hE_v, va_up_self _ _ _, by omega, by omega, fun lv hO b hb => ?_⟩
              have g0 : QG cI cV E lv L f i n u23 s.heap.size [] E lv f := (QG.rf hO hi9).mv (by omega) (by omega)
              exact ⟨va_up lv v b, g0.add (q := v) (s := 2) (b := b) (e := vE 3 r23 none none none none 0 none none 0) h0_v hL_v hz_v (by decide) (by decide) (CO.V (Or.inr (Or.inl (va_up_self _ _ _))) ⟨_, _, _, _, _, _, _, _, _, _, rfl, ⟨(fun b h => (nomatch h)), (fun b h => (nomatch h)), (fun b h => (nomatch h)), (fun b h => (nomatch h)), (fun b h => (nomatch h)), (fun b h => (nomatch h)), fun _ => ⟨fun h => absurd h (by decide), fun h => absurd h (by decide)⟩, fun h => absurd ((va_up_self _ _ _).symm.trans h) (by decide)⟩⟩), va_up_self _ _ _⟩
            have hP : va_P (dC, dI) classes ([(qr, .inr (5, [.ref h0, .int (nI o)])), (h0, .inr (8, [.ref qb, .ref qu, .int uc, .int ln, .int (nI n), .int (nI u23), .int pl])), (qb, .inl (cB, 4096, .inl bf)), (qu, .inl (cI, 4096, .inl ug))] ++ va_pl ((L ++ ([] ++ [v]))) ((va_up f v (vE 3 r23 none none none none 0 none none 0)))) H := hP
            have hD : va_D A ([(qr, .inr (5, [.ref h0, .int (nI o)])), (h0, .inr (8, [.ref qb, .ref qu, .int uc, .int ln, .int (nI n), .int (nI u23), .int pl])), (qb, .inl (cB, 4096, .inl bf)), (qu, .inl (cI, 4096, .inl ug))] ++ va_pl ((L ++ ([] ++ [v]))) ((va_up f v (vE 3 r23 none none none none 0 none none 0)))) := hD
            have hQr : QPn cI cV E L f i n s.heap.size 2 (5 * (16 - o)) 0 v u23 (([] ++ [v])) ((va_up E v 2)) ((va_up f v (vE 3 r23 none none none none 0 none none 0))) := hQ_v
            have hfin : (wrD bf n) i = some (u23, (3, r23, [])) := wrD_i hn116 hn102 hn110 hnot hi23
            have hdn : DNx LTv 0 E ((va_up E v 2)) ((va_up f v (vE 3 r23 none none none none 0 none none 0))) v ((3, r23, [])) := DNx.wr0 rfl (show (3 : Nat) < 5 by decide) (show ¬ (3 : Nat) = 4 by decide) (fun _ => rfl)
            refine w_same (fun hq => ?_)
            refine W.widen (k := 8 * (n - i) + 4) (n := 64 * (n - i) + 40) (by show (0 + 1) ≤ 8 * (n - i) + 4; omega) (by show (0 + 10) ≤ 64 * (n - i) + 40; omega) ?_
            refine vx_ret ?_
            exact W.aret (v := .ref v) hx hb hr (Or.inl ⟨_, rfl⟩) (Or.inr ⟨_, rfl⟩) (fun t9 ht hW => ⟨⟨(v, u23, ([] ++ [v]), (va_up E v 2), (va_up f v (vE 3 r23 none none none none 0 none none 0)), uc, ug), v, rfl, ⟨hQr, _, hfin, hdn⟩, ⟨by rw [ht]; exact hP, va_K.moved hW.alike hK, hD⟩, by rw [ht]; exact ⟨hq.mono (by show (0 + 1) ≤ 8 * (u23 - i) + 2 - 0; omega) (by show (0 + 10) ≤ 64 * (u23 - i) + 10 - 0; omega), rfl⟩⟩, hS.F ht⟩) hS.2.2 d_QueryReader_written_127
        · have hyes : hereV bf n i = 39 ∨ hereV bf n i = 34 := by rw [← h_h21]; exact h_r22.2.1 c84
          have hbq : i < n := by rcases hyes with h | h <;> exact here_lc h (by decide)
          refine va_new (ci := 9) (fs := [.int 0, .long 0, .null, .null, .null, .null, .int 0, .null, .null, .int 0]) (C := R_Value) (T := F_Value) (N := 10) hx hb hts in_Value t_Value t_Value_ok hown (hts _ z_761) (hts _ z_307) (hts _ z_14) hK hP hD hS hA rfl (fun j hj => by rcases (show j = 0 ∨ j = 1 ∨ j = 2 ∨ j = 3 ∨ j = 4 ∨ j = 5 ∨ j = 6 ∨ j = 7 ∨ j = 8 ∨ j = 9 by omega) with rfl | rfl | rfl | rfl | rfl | rfl | rfl | rfl | rfl | rfl <;> rfl) (by show 0 + 1 ≤ 8 * (n - i) + 4; omega) (by show 0 + 10 ≤ 64 * (n - i) + 40; omega) d_QueryReader_written_87 (fun v H hP hD hS => ?_)
          have hz_v := newB (X := [(qr, .inr (5, [.ref h0, .int (nI o)])), (h0, .inr (8, [.ref qb, .ref qu, .int uc, .int ln, .int (nI n), .int (nI i), .int pl])), (qb, .inl (cB, 4096, .inl bf)), (qu, .inl (cI, 4096, .inl ug))]) hAe hD (fun k x hk => by rcases k with _ | _ | _ | _ | k; (· cases hk; exact ⟨0, _, rfl⟩); (· cases hk; exact ⟨1, _, rfl⟩); (· cases hk; exact ⟨2, _, rfl⟩); (· cases hk; exact ⟨3, _, rfl⟩); (· cases hk))
          have hP := hP.swap
          have hD := hD.swap
          have hP : va_P (dC, dI) classes ([(qr, .inr (5, [.ref h0, .int (nI o)])), (h0, .inr (8, [.ref qb, .ref qu, .int uc, .int ln, .int (nI n), .int (nI i), .int pl])), (qb, .inl (cB, 4096, .inl bf)), (qu, .inl (cI, 4096, .inl ug)), (v, .inr (9, [.int 0, .long 0, .null, .null, .null, .null, .int 0, .null, .null, .int 0]))] ++ va_pl ((L ++ [])) f) H := hP
          have hD : va_D A ([(qr, .inr (5, [.ref h0, .int (nI o)])), (h0, .inr (8, [.ref qb, .ref qu, .int uc, .int ln, .int (nI n), .int (nI i), .int pl])), (qb, .inl (cB, 4096, .inl bf)), (qu, .inl (cI, 4096, .inl ug)), (v, .inr (9, [.int 0, .long 0, .null, .null, .null, .null, .int 0, .null, .null, .int 0]))] ++ va_pl ((L ++ [])) f) := hD
          refine lv_dup hx hb d_QueryReader_written_90 rfl ?_
          refine lv_iconst (v := 4) hx hb d_QueryReader_written_91 (by decide) ?_
          have hPc := hP.sub (ws' := [(v, .inr (9, [.int 0, .long 0, .null, .null, .null, .null, .int 0, .null, .null, .int 0]))]) [4] rfl
          have hDc := hD.sub (ws' := [(v, .inr (9, [.int 0, .long 0, .null, .null, .null, .null, .int 0, .null, .null, .int 0]))]) [4] (by decide) rfl
          have hFc := va_free (wc := [(v, .inr (9, [.int 0, .long 0, .null, .null, .null, .null, .int 0, .null, .null, .int 0]))]) hD hS hA [4] rfl
          have hKc := hK.sub (tys' := []) [] rfl
          refine w_same (fun hq0 => ?_)
          refine va_callv (va_runI (As := [.int 4]) (rest := [.ref v]) ⟨hx, hb, hml, hown, hts⟩ (c_Value_init l dC dI H v 4) (cwI 1 hts (gt_code i_Value_init) rfl rfl rfl (hts _ z_14) (hts _ z_762) (hts _ z_309) rfl (by decide +kernel) ⟨by show 1 + 1 ≤ 12 * (16 - o) + 12; omega, by show 8 + (2 + 11) + (20) ≤ 360 * (16 - o) + 360; omega⟩) ⟨mp_blind, fun U hU hW => ⟨rfl, hU, by rw [hU]; exact hPc, va_K.moved hW.alike hKc, hDc.weaken (fun _ _ _ _ => trivial)⟩⟩ rfl rfl hl.1 rfl (lv_room (Nat.le_of_ble_eq_true rfl)) d_QueryReader_written_92 ⟨by show (0 + 1) + (0) ≤ 8 * (n - i) + 4; omega, by show (0 + 10) + (0) ≤ 64 * (n - i) + 40; omega⟩) hS (fun q _ h => hFc q h) hFc (fun _u t9 H1 locs ht hvm hw hB hz1 hk1 hS => ?_)
          obtain ⟨⟨hP1, hK1, hD1⟩, hz9⟩ := hB
          rw [ht] at hP1
          rw [ht] at hz9
          have hq0 : szk s.heap H1 ((0 + 1)) ((0 + 10)) := (hq0.trans hz9).mono (Nat.le_of_eq (Nat.add_zero _)) (Nat.le_of_eq (Nat.add_zero _))
          refine w_tight hq0 ?_
          obtain ⟨hP, hD⟩ := va_joinQ (wr := [(qr, .inr (5, [.ref h0, .int (nI o)])), (h0, .inr (8, [.ref qb, .ref qu, .int uc, .int ln, .int (nI n), .int (nI i), .int pl])), (qb, .inl (cB, 4096, .inl bf)), (qu, .inl (cI, 4096, .inl ug))]) (w1 := [(v, .inr (9, [.int 4, .long 0, .null, .null, .null, .null, .int 0, .null, .null, .int 0]))]) hP hD [4] [0, 1, 2, 3] rfl rfl (by decide) (by decide) hk1 hFc hP1 hD1
          generalize H1 = H at hP hS hq0 ⊢
          have hP : va_P (dC, dI) classes ([(qr, .inr (5, [.ref h0, .int (nI o)])), (h0, .inr (8, [.ref qb, .ref qu, .int uc, .int ln, .int (nI n), .int (nI i), .int pl])), (qb, .inl (cB, 4096, .inl bf)), (qu, .inl (cI, 4096, .inl ug)), (v, .inr (9, [.int 4, .long 0, .null, .null, .null, .null, .int 0, .null, .null, .int 0]))] ++ va_pl ((L ++ [])) f) H := hP
          have hD : va_D A ([(qr, .inr (5, [.ref h0, .int (nI o)])), (h0, .inr (8, [.ref qb, .ref qu, .int uc, .int ln, .int (nI n), .int (nI i), .int pl])), (qb, .inl (cB, 4096, .inl bf)), (qu, .inl (cI, 4096, .inl ug)), (v, .inr (9, [.int 4, .long 0, .null, .null, .null, .null, .int 0, .null, .null, .int 0]))] ++ va_pl ((L ++ [])) f) := hD
          refine lv_astore_n (lv' := [(2, .ref v), (1, .int h21), (0, .ref qr)]) hx hb d_QueryReader_written_95 rfl hl (by decide) rfl (fun ls hl => ?_)
          refine lv_aload_n hx hb d_QueryReader_written_96 rfl (lv_at hl 0 rfl) ?_
          refine lv_aload_n hx hb d_QueryReader_written_97 rfl (lv_at hl 2 rfl) ?_
          refine va_get (D := (dC, dI)) (ci := 5) (v := .ref h0) (C := R_QueryReader) (T := F_QueryReader) (N := 2) hx hb hts in_QueryReader hown hK hP 0 rfl rfl 0 (by decide) (hts _ w_100) (fun _ h9 => h9) rfl d_QueryReader_written_98 ?_
          have hPc := hP.sub (ws' := [(h0, .inr (8, [.ref qb, .ref qu, .int uc, .int ln, .int (nI n), .int (nI i), .int pl])), (qb, .inl (cB, 4096, .inl bf)), (qu, .inl (cI, 4096, .inl ug))]) [1, 2, 3] rfl
          have hDc := hD.sub (ws' := [(h0, .inr (8, [.ref qb, .ref qu, .int uc, .int ln, .int (nI n), .int (nI i), .int pl])), (qb, .inl (cB, 4096, .inl bf)), (qu, .inl (cI, 4096, .inl ug))]) [1, 2, 3] (by decide) rfl
          have hFc := va_free (wc := [(h0, .inr (8, [.ref qb, .ref qu, .int uc, .int ln, .int (nI n), .int (nI i), .int pl])), (qb, .inl (cB, 4096, .inl bf)), (qu, .inl (cI, 4096, .inl ug))]) hD hS hA [1, 2, 3] rfl
          have hKc := hK.sub (tys' := [(cB, .byte), (cI, .int)]) [0, 1] rfl
          refine w_same (fun hq0 => ?_)
          refine vx_callr (vx_runV (As := []) (rest := [.ref v]) ⟨hx, hb, hml, hown, hts⟩ (c_Tape_quoted l hl9 dC dI cB cI h0 qb qu H uc ln pl bf ug n i hn0 hbq) (cwV 0 hts (gt_V (own := R_QueryReader) (C := R_Tape) (i := 113) (y := y_Tape_quoted) i_Tape_quoted z_653 z_406 z_407 w_2) rfl rfl rfl (by decide +kernel) ⟨by show 10 + 1 ≤ 12 * (16 - o) + 12; omega, by show 8 + (3 + 11) + (160) ≤ 360 * (16 - o) + 360; omega⟩) ⟨mx_blind, va_recv hK hP (ci := 8) (q0 := 1) rfl rfl, fun U hU hW => ⟨rfl, ⟨hU, by rw [hU]; exact hPc, va_K.moved hW.alike hKc, hDc.weaken (fun _ _ _ _ => trivial)⟩, hN.warm hW, by rw [hU]; exact ZX.moved' hW.alike (ZX.narrow' (ZX.kept' hZ hS.2.1) hFc)⟩⟩ rfl rfl hl.1 rfl (lv_room (Nat.le_of_ble_eq_true rfl)) d_QueryReader_written_101 ⟨by show (0 + 1) + 1 ≤ 8 * (n - i) + 4; omega, by show (0 + 10) + (6 + qtN bf n i) ≤ 64 * (n - i) + 40; have := qtN_le (f := bf) hbq; omega⟩) hS (fun q _ h => hFc q h) hFc (fun q _ h => hFc q h) (fun En ce q9 ⟨ax, cx, px, gx⟩ t9 H1 locs ht hvm hw hB hz1 hk1 hS hce hcv hcl => ?_) (fun ⟨j24, L24⟩ qn24 t9 H1 locs ht hvm hw hB hz1 hk1 hS => ?_)
          · obtain ⟨hEn, hP1, hK1, hD1⟩ := hB
            rw [ht] at hP1
            obtain ⟨hP, hD⟩ := va_joinQ (wr := [(qr, .inr (5, [.ref h0, .int (nI o)])), (v, .inr (9, [.int 4, .long 0, .null, .null, .null, .null, .int 0, .null, .null, .int 0]))]) (w1 := [(h0, .inr (8, [.ref qb, .ref qu, .int cx, .int ln, .int (nI n), .int ax, .int px])), (qb, .inl (cB, 4096, .inl bf)), (qu, .inl (cI, 4096, .inl gx))]) hP hD [1, 2, 3] [0, 4] rfl rfl (by decide) (by decide) hk1 hFc hP1 hD1
            generalize H1 = H at hP hS hce ⊢
            have hP : va_P (dC, dI) classes ([(qr, .inr (5, [.ref h0, .int (nI o)])), (v, .inr (9, [.int 4, .long 0, .null, .null, .null, .null, .int 0, .null, .null, .int 0])), (h0, .inr (8, [.ref qb, .ref qu, .int cx, .int ln, .int (nI n), .int ax, .int px])), (qb, .inl (cB, 4096, .inl bf)), (qu, .inl (cI, 4096, .inl gx))] ++ va_pl ((L ++ [])) f) H := hP
            have hD : va_D A ([(qr, .inr (5, [.ref h0, .int (nI o)])), (v, .inr (9, [.int 4, .long 0, .null, .null, .null, .null, .int 0, .null, .null, .int 0])), (h0, .inr (8, [.ref qb, .ref qu, .int cx, .int ln, .int (nI n), .int ax, .int px])), (qb, .inl (cB, 4096, .inl bf)), (qu, .inl (cI, 4096, .inl gx))] ++ va_pl ((L ++ [])) f) := hD
            have hP := hP.part (cx := [(qr, .inr (5, [.ref h0, .int (nI o)])), (h0, .inr (8, [.ref qb, .ref qu, .int cx, .int ln, .int (nI n), .int ax, .int px])), (qb, .inl (cB, 4096, .inl bf)), (qu, .inl (cI, 4096, .inl gx)), (v, .inr (9, [.int 4, .long 0, .null, .null, .null, .null, .int 0, .null, .null, .int 0]))]) [0, 2, 3, 4, 1] rfl
            have hD := hD.part (cx := [(qr, .inr (5, [.ref h0, .int (nI o)])), (h0, .inr (8, [.ref qb, .ref qu, .int cx, .int ln, .int (nI n), .int ax, .int px])), (qb, .inl (cB, 4096, .inl bf)), (qu, .inl (cI, 4096, .inl gx)), (v, .inr (9, [.int 4, .long 0, .null, .null, .null, .null, .int 0, .null, .null, .int 0]))]) [0, 2, 3, 4, 1] (by decide) rfl
            have hqn := qtN_le (f := bf) hbq
            have hP := plP_cut (hP.part (cx := [(qr, .inr (5, [.ref h0, .int (nI o)])), (h0, .inr (8, [.ref qb, .ref qu, .int cx, .int ln, .int (nI n), .int ax, .int px])), (qb, .inl (cB, 4096, .inl bf)), (qu, .inl (cI, 4096, .inl gx))]) [0, 1, 2, 3] rfl) hG0.on
            have hD := plD_cut (hD.part (cx := [(qr, .inr (5, [.ref h0, .int (nI o)])), (h0, .inr (8, [.ref qb, .ref qu, .int cx, .int ln, .int (nI n), .int ax, .int px])), (qb, .inl (cB, 4096, .inl bf)), (qu, .inl (cI, 4096, .inl gx))]) [0, 1, 2, 3] (by decide) rfl) hG0.on
            have hno : (wrD bf n) i = none := wrD_q0 hn116 hn102 hn110 hyes hw
            exact vx_out (fun x hx => (hex x hx).elim) hlocks hce hcv hcl (fun t9 ht2 ha => ⟨(ax, cx, px, gx, nI o), hno, ⟨hEn, by rw [ht2]; exact hP, va_K.moved ha hK, hD⟩, hS.F ht2⟩) hS.2.2 (by show (0 + 1) + (1) ≤ 8 * (n - i) + 4; omega) (by show (0 + 10) + (6 + qtN bf n i) ≤ 64 * (n - i) + 40; omega)
          · obtain ⟨⟨hP1, hK1, hD1⟩, hz9⟩ := hB
            rw [ht] at hP1
            rw [ht] at hz9
            have hq0 : szk s.heap H1 ((0 + 1) + 1) ((0 + 10) + L24.length) := (hq0.trans hz9).mono (Nat.le_refl _) (Nat.le_refl _)
            refine w_tight hq0 ?_
            obtain ⟨hP, hD⟩ := va_joinQ (wr := [(qr, .inr (5, [.ref h0, .int (nI o)])), (v, .inr (9, [.int 4, .long 0, .null, .null, .null, .null, .int 0, .null, .null, .int 0]))]) (w1 := [(h0, .inr (8, [.ref qb, .ref qu, .int (nI L24.length), .int ln, .int (nI n), .int (nI (j24 + 1)), .int pl])), (qb, .inl (cB, 4096, .inl bf)), (qu, .inl (cI, 4096, .inl ((wrL ug 0 L24)))), (qn24, .inl (cI, L24.length, .inl (va_cpy (wrL ug 0 L24) (fun _ => 0) 0 0 L24.length)))]) hP hD [1, 2, 3] [0, 4] rfl rfl (by decide) (by decide) hk1 hFc hP1 hD1
            generalize H1 = H at hP hS hq0 ⊢
            have hP : va_P (dC, dI) classes ([(qr, .inr (5, [.ref h0, .int (nI o)])), (v, .inr (9, [.int 4, .long 0, .null, .null, .null, .null, .int 0, .null, .null, .int 0])), (h0, .inr (8, [.ref qb, .ref qu, .int (nI L24.length), .int ln, .int (nI n), .int (nI (j24 + 1)), .int pl])), (qb, .inl (cB, 4096, .inl bf)), (qu, .inl (cI, 4096, .inl ((wrL ug 0 L24)))), (qn24, .inl (cI, L24.length, .inl (va_cpy (wrL ug 0 L24) (fun _ => 0) 0 0 L24.length)))] ++ va_pl ((L ++ [])) f) H := hP
            have hD : va_D A ([(qr, .inr (5, [.ref h0, .int (nI o)])), (v, .inr (9, [.int 4, .long 0, .null, .null, .null, .null, .int 0, .null, .null, .int 0])), (h0, .inr (8, [.ref qb, .ref qu, .int (nI L24.length), .int ln, .int (nI n), .int (nI (j24 + 1)), .int pl])), (qb, .inl (cB, 4096, .inl bf)), (qu, .inl (cI, 4096, .inl ((wrL ug 0 L24)))), (qn24, .inl (cI, L24.length, .inl (va_cpy (wrL ug 0 L24) (fun _ => 0) 0 0 L24.length)))] ++ va_pl ((L ++ [])) f) := hD
            have hP := hP.part (cx := [(qr, .inr (5, [.ref h0, .int (nI o)])), (h0, .inr (8, [.ref qb, .ref qu, .int (nI L24.length), .int ln, .int (nI n), .int (nI (j24 + 1)), .int pl])), (qb, .inl (cB, 4096, .inl bf)), (qu, .inl (cI, 4096, .inl ((wrL ug 0 L24)))), (v, .inr (9, [.int 4, .long 0, .null, .null, .null, .null, .int 0, .null, .null, .int 0])), (qn24, .inl (cI, L24.length, .inl (va_cpy (wrL ug 0 L24) (fun _ => 0) 0 0 L24.length)))]) [0, 2, 3, 4, 1, 5] rfl
            have hD := hD.part (cx := [(qr, .inr (5, [.ref h0, .int (nI o)])), (h0, .inr (8, [.ref qb, .ref qu, .int (nI L24.length), .int ln, .int (nI n), .int (nI (j24 + 1)), .int pl])), (qb, .inl (cB, 4096, .inl bf)), (qu, .inl (cI, 4096, .inl ((wrL ug 0 L24)))), (v, .inr (9, [.int 4, .long 0, .null, .null, .null, .null, .int 0, .null, .null, .int 0])), (qn24, .inl (cI, L24.length, .inl (va_cpy (wrL ug 0 L24) (fun _ => 0) 0 0 L24.length)))]) [0, 2, 3, 4, 1, 5] (by decide) rfl
            have hb24 := qtR_b hbq (show qtR bf n i = some (j24, L24) from hw)
            obtain ⟨ha24, he24⟩ := hb24
            have hqt : qtR bf n i = some (j24, L24) := hw
            have hz_qn24 := newB (X := [(qr, .inr (5, [.ref h0, .int (nI o)])), (h0, .inr (8, [.ref qb, .ref qu, .int (nI L24.length), .int ln, .int (nI n), .int (nI (j24 + 1)), .int pl])), (qb, .inl (cB, 4096, .inl bf)), (qu, .inl (cI, 4096, .inl ((wrL ug 0 L24)))), (v, .inr (9, [.int 4, .long 0, .null, .null, .null, .null, .int 0, .null, .null, .int 0]))]) hAe hD.swap (fun k x hk => by rcases k with _ | _ | _ | _ | k; (· cases hk; exact ⟨0, _, rfl⟩); (· cases hk; exact ⟨1, _, rfl⟩); (· cases hk; exact ⟨2, _, rfl⟩); (· cases hk; exact ⟨3, _, rfl⟩); (· cases hk))
            refine va_put (D := (dC, dI)) (ci := 9) (v := .ref qn24) (ty := .array .int) (C := R_Value) (T := F_Value) (N := 10) hx hb hts in_Value t_Value t_Value_ok n_Value hown hK hP hD hS 4 rfl rfl 2 (by decide) (hts _ z_324) (fun _ h9 => h9) rfl (by decide +kernel) rfl rfl (Nat.le_of_ble_eq_true rfl) d_QueryReader_written_104 (fun H locs hP hD hS => ?_)
            have hP : va_P (dC, dI) classes ([(qr, .inr (5, [.ref h0, .int (nI o)])), (h0, .inr (8, [.ref qb, .ref qu, .int (nI L24.length), .int ln, .int (nI n), .int (nI (j24 + 1)), .int pl])), (qb, .inl (cB, 4096, .inl bf)), (qu, .inl (cI, 4096, .inl ((wrL ug 0 L24)))), (v, .inr (9, [.int 4, .long 0, .ref qn24, .null, .null, .null, .int 0, .null, .null, .int 0])), (qn24, .inl (cI, L24.length, .inl (va_cpy (wrL ug 0 L24) (fun _ => 0) 0 0 L24.length)))] ++ va_pl ((L ++ [])) f) H := hP
            have hD : va_D A ([(qr, .inr (5, [.ref h0, .int (nI o)])), (h0, .inr (8, [.ref qb, .ref qu, .int (nI L24.length), .int ln, .int (nI n), .int (nI (j24 + 1)), .int pl])), (qb, .inl (cB, 4096, .inl bf)), (qu, .inl (cI, 4096, .inl ((wrL ug 0 L24)))), (v, .inr (9, [.int 4, .long 0, .ref qn24, .null, .null, .null, .int 0, .null, .null, .int 0])), (qn24, .inl (cI, L24.length, .inl (va_cpy (wrL ug 0 L24) (fun _ => 0) 0 0 L24.length)))] ++ va_pl ((L ++ [])) f) := hD
            refine lv_aload_n hx hb d_QueryReader_written_107 rfl (lv_at hl 0 rfl) ?_
            have hG0 : QG cI cV E lv L f i n ((j24 + 1)) s.heap.size [] E lv f := (QG.rf hO hi9).mv (by omega) (by omega)
            have hL_qn24 := plD_new (X := [(qr, .inr (5, [.ref h0, .int (nI o)])), (h0, .inr (8, [.ref qb, .ref qu, .int (nI L24.length), .int ln, .int (nI n), .int (nI (j24 + 1)), .int pl])), (qb, .inl (cB, 4096, .inl bf)), (qu, .inl (cI, 4096, .inl ((wrL ug 0 L24)))), (v, .inr (9, [.int 4, .long 0, .ref qn24, .null, .null, .null, .int 0, .null, .null, .int 0]))]) hD
            have h0_qn24 : E qn24 = 0 := Classical.byContradiction (fun h => hL_qn24 (hG0.po.inL h))
            have hP := plP_push (X := [(qr, .inr (5, [.ref h0, .int (nI o)])), (h0, .inr (8, [.ref qb, .ref qu, .int (nI L24.length), .int ln, .int (nI n), .int (nI (j24 + 1)), .int pl])), (qb, .inl (cB, 4096, .inl bf)), (qu, .inl (cI, 4096, .inl ((wrL ug 0 L24)))), (v, .inr (9, [.int 4, .long 0, .ref qn24, .null, .null, .null, .int 0, .null, .null, .int 0]))]) hP hL_qn24
            have hD := plD_push (X := [(qr, .inr (5, [.ref h0, .int (nI o)])), (h0, .inr (8, [.ref qb, .ref qu, .int (nI L24.length), .int ln, .int (nI n), .int (nI (j24 + 1)), .int pl])), (qb, .inl (cB, 4096, .inl bf)), (qu, .inl (cI, 4096, .inl ((wrL ug 0 L24)))), (v, .inr (9, [.int 4, .long 0, .ref qn24, .null, .null, .null, .int 0, .null, .null, .int 0]))]) hD hL_qn24
            rw [List.append_assoc] at hP hD
            have hG_qn24 := hG0.add (q := qn24) (s := 4) (b := 0) (e := tE cI L24.length (va_cpy (wrL ug 0 L24) (fun _ => 0) 0 0 L24.length)) h0_qn24 hL_qn24 hz_qn24 (by decide) (by decide) (CO.T (va_up_self _ _ _) ⟨_, _, rfl, by omega⟩)
            have hP : va_P (dC, dI) classes ([(qr, .inr (5, [.ref h0, .int (nI o)])), (h0, .inr (8, [.ref qb, .ref qu, .int (nI L24.length), .int ln, .int (nI n), .int (nI (j24 + 1)), .int pl])), (qb, .inl (cB, 4096, .inl bf)), (qu, .inl (cI, 4096, .inl ((wrL ug 0 L24)))), (v, .inr (9, [.int 4, .long 0, .ref qn24, .null, .null, .null, .int 0, .null, .null, .int 0]))] ++ va_pl ((L ++ ([] ++ [qn24]))) ((va_up f qn24 (tE cI L24.length (va_cpy (wrL ug 0 L24) (fun _ => 0) 0 0 L24.length))))) H := hP
            have hD : va_D A ([(qr, .inr (5, [.ref h0, .int (nI o)])), (h0, .inr (8, [.ref qb, .ref qu, .int (nI L24.length), .int ln, .int (nI n), .int (nI (j24 + 1)), .int pl])), (qb, .inl (cB, 4096, .inl bf)), (qu, .inl (cI, 4096, .inl ((wrL ug 0 L24)))), (v, .inr (9, [.int 4, .long 0, .ref qn24, .null, .null, .null, .int 0, .null, .null, .int 0]))] ++ va_pl ((L ++ ([] ++ [qn24]))) ((va_up f qn24 (tE cI L24.length (va_cpy (wrL ug 0 L24) (fun _ => 0) 0 0 L24.length))))) := hD
            have hL_v := plD_new (X := [(qr, .inr (5, [.ref h0, .int (nI o)])), (h0, .inr (8, [.ref qb, .ref qu, .int (nI L24.length), .int ln, .int (nI n), .int (nI (j24 + 1)), .int pl])), (qb, .inl (cB, 4096, .inl bf)), (qu, .inl (cI, 4096, .inl ((wrL ug 0 L24))))]) hD
            have h0_v : ((va_up E qn24 4)) v = 0 := Classical.byContradiction (fun h => hL_v (hG_qn24.po.inL h))
            have hE_v : E v = 0 := hG_qn24.ex.z h0_v
            have hP := plP_push (X := [(qr, .inr (5, [.ref h0, .int (nI o)])), (h0, .inr (8, [.ref qb, .ref qu, .int (nI L24.length), .int ln, .int (nI n), .int (nI (j24 + 1)), .int pl])), (qb, .inl (cB, 4096, .inl bf)), (qu, .inl (cI, 4096, .inl ((wrL ug 0 L24))))]) hP hL_v
            have hD := plD_push (X := [(qr, .inr (5, [.ref h0, .int (nI o)])), (h0, .inr (8, [.ref qb, .ref qu, .int (nI L24.length), .int ln, .int (nI n), .int (nI (j24 + 1)), .int pl])), (qb, .inl (cB, 4096, .inl bf)), (qu, .inl (cI, 4096, .inl ((wrL ug 0 L24))))]) hD hL_v
            rw [List.append_assoc] at hP hD
            have hQ_v : QPn cI cV E L f i n s.heap.size 2 (5 * (16 - o)) 0 v ((j24 + 1)) (([] ++ [qn24]) ++ [v]) (va_up ((va_up E qn24 4)) v 2) (va_up ((va_up f qn24 (tE cI L24.length (va_cpy (wrL ug 0 L24) (fun _ => 0) 0 0 L24.length)))) v (vE 4 0 (some qn24) none none none 0 none none 0)) := by
              refine ⟨hE_v, va_up_self _ _ _, by omega, by omega, fun lv hO b hb => ?_⟩
              have g0 : QG cI cV E lv L f i n ((j24 + 1)) s.heap.size [] E lv f := (QG.rf hO hi9).mv (by omega) (by omega)
              have g1 := g0.add (q := qn24) (s := 4) (b := 0) (e := tE cI L24.length (va_cpy (wrL ug 0 L24) (fun _ => 0) 0 0 L24.length)) h0_qn24 hL_qn24 hz_qn24 (by decide) (by decide) (CO.T (va_up_self _ _ _) ⟨_, _, rfl, by omega⟩)
              have hqv : qn24 ≠ v := fun e => by rw [← e, va_up_self] at h0_v; cases h0_v
              exact ⟨va_up (va_up lv qn24 0) v b, g1.add (q := v) (s := 2) (b := b) (e := vE 4 0 (some qn24) none none none 0 none none 0) h0_v hL_v hz_v (by decide) (by decide) (CO.V (Or.inr (Or.inl (va_up_self _ _ _))) ⟨_, _, _, _, _, _, _, _, _, _, rfl, ⟨(fun b h => by cases h; exact (va_up_ne _ _ hqv).trans (va_up_self _ _ _)), (fun b h => (nomatch h)), (fun b h => (nomatch h)), (fun b h => (nomatch h)), (fun b h => (nomatch h)), (fun b h => (nomatch h)), fun _ => ⟨(fun _ h => by cases h), fun h => absurd h (by decide)⟩, fun h => absurd ((va_up_self _ _ _).symm.trans h) (by decide)⟩⟩), va_up_self _ _ _⟩
            have hP : va_P (dC, dI) classes ([(qr, .inr (5, [.ref h0, .int (nI o)])), (h0, .inr (8, [.ref qb, .ref qu, .int (nI L24.length), .int ln, .int (nI n), .int (nI (j24 + 1)), .int pl])), (qb, .inl (cB, 4096, .inl bf)), (qu, .inl (cI, 4096, .inl ((wrL ug 0 L24))))] ++ va_pl ((L ++ (([] ++ [qn24]) ++ [v]))) ((va_up ((va_up f qn24 (tE cI L24.length (va_cpy (wrL ug 0 L24) (fun _ => 0) 0 0 L24.length)))) v (vE 4 0 (some qn24) none none none 0 none none 0)))) H := hP
            have hD : va_D A ([(qr, .inr (5, [.ref h0, .int (nI o)])), (h0, .inr (8, [.ref qb, .ref qu, .int (nI L24.length), .int ln, .int (nI n), .int (nI (j24 + 1)), .int pl])), (qb, .inl (cB, 4096, .inl bf)), (qu, .inl (cI, 4096, .inl ((wrL ug 0 L24))))] ++ va_pl ((L ++ (([] ++ [qn24]) ++ [v]))) ((va_up ((va_up f qn24 (tE cI L24.length (va_cpy (wrL ug 0 L24) (fun _ => 0) 0 0 L24.length)))) v (vE 4 0 (some qn24) none none none 0 none none 0)))) := hD
            have hQr : QPn cI cV E L f i n s.heap.size 2 (5 * (16 - o)) 0 v ((j24 + 1)) ((([] ++ [qn24]) ++ [v])) ((va_up ((va_up E qn24 4)) v 2)) ((va_up ((va_up f qn24 (tE cI L24.length (va_cpy (wrL ug 0 L24) (fun _ => 0) 0 0 L24.length)))) v (vE 4 0 (some qn24) none none none 0 none none 0))) := hQ_v
            have hfin : (wrD bf n) i = some ((j24 + 1), (4, 0, L24)) := wrD_q hn116 hn102 hn110 hyes hqt
            have hdn : DNx LTv 0 E ((va_up ((va_up E qn24 4)) v 2)) ((va_up ((va_up f qn24 (tE cI L24.length (va_cpy (wrL ug 0 L24) (fun _ => 0) 0 0 L24.length)))) v (vE 4 0 (some qn24) none none none 0 none none 0))) v ((4, 0, L24)) := DNx.wr4 h0_qn24 h0_qn24 h0_v tx_list
            refine w_same (fun hq => ?_)
            refine W.widen (k := 8 * (n - i) + 4) (n := 64 * (n - i) + 40) (by show ((0 + 1) + 1) ≤ 8 * (n - i) + 4; omega) (by show ((0 + 10) + L24.length) ≤ 64 * (n - i) + 40; omega) ?_
            refine vx_ret ?_
            exact W.aret (v := .ref v) hx hb hr (Or.inl ⟨_, rfl⟩) (Or.inr ⟨_, rfl⟩) (fun t9 ht hW => ⟨⟨(v, (j24 + 1), (([] ++ [qn24]) ++ [v]), (va_up ((va_up E qn24 4)) v 2), (va_up ((va_up f qn24 (tE cI L24.length (va_cpy (wrL ug 0 L24) (fun _ => 0) 0 0 L24.length)))) v (vE 4 0 (some qn24) none none none 0 none none 0)), (nI L24.length), (wrL ug 0 L24)), v, rfl, ⟨hQr, _, hfin, hdn⟩, ⟨by rw [ht]; exact hP, va_K.moved hW.alike hK, hD⟩, by rw [ht]; exact ⟨hq.mono (by show ((0 + 1) + 1) ≤ 8 * ((j24 + 1) - i) + 2 - 0; omega) (by show ((0 + 10) + L24.length) ≤ 64 * ((j24 + 1) - i) + 10 - 0; omega), rfl⟩⟩, hS.F ht⟩) hS.2.2 d_QueryReader_written_108
      · have hn110 : hereV bf n i = 110 := by rw [← h_h21]; exact c59
        refine lv_aload_n hx hb d_QueryReader_written_62 rfl (lv_at hl 1 rfl) ?_
        refine va_get (D := (dC, dI)) (ci := 5) (v := .ref h0) (C := R_QueryReader) (T := F_QueryReader) (N := 2) hx hb hts in_QueryReader hown hK hP 0 rfl rfl 0 (by decide) (hts _ w_100) (fun _ h9 => h9) rfl d_QueryReader_written_63 ?_
        refine va_ldcS hx hb hown (hC 13 _ rfl).2 d_QueryReader_written_66 ?_
        have hPc := hP.sub (ws' := [(h0, .inr (8, [.ref qb, .ref qu, .int uc, .int ln, .int (nI n), .int (nI i), .int pl])), (qb, .inl (cB, 4096, .inl bf))]) [1, 2] rfl
        have hDc := hD.sub (ws' := [(h0, .inr (8, [.ref qb, .ref qu, .int uc, .int ln, .int (nI n), .int (nI i), .int pl])), (qb, .inl (cB, 4096, .inl bf))]) [1, 2] (by decide) rfl
        have hFc := va_free (wc := [(h0, .inr (8, [.ref qb, .ref qu, .int uc, .int ln, .int (nI n), .int (nI i), .int pl])), (qb, .inl (cB, 4096, .inl bf))]) hD hS hA [1, 2] rfl
        have hKc := hK.sub (tys' := [(cB, .byte)]) [0] rfl
        refine w_same (fun hq0 => ?_)
        refine vx_callv (vx_runV (As := [.ref (K 13).1]) (rest := []) ⟨hx, hb, hml, hown, hts⟩ (c_Tape_takeLetters l hl9 dC dI cB h0 qb H (.ref qu) (K 13).1 (K 13).2 4 (ctx 13) uc ln pl bf n i hn0 (by omega) (by decide)) (cwV 1 hts (gt_V (own := R_QueryReader) (C := R_Tape) (i := 238) (y := y_Tape_takeLetters) i_Tape_takeLetters z_760 z_452 z_453 w_2) rfl rfl rfl (by decide +kernel) ⟨by show 10 + 1 ≤ 12 * (16 - o) + 12; omega, by show 8 + (3 + 11) + (152) ≤ 360 * (16 - o) + 360; omega⟩) ⟨mt_blind, va_recv hK hP (ci := 8) (q0 := 1) rfl rfl, fun U hU hW => ⟨rfl, ⟨hU, by rw [hU]; exact hPc, va_K.moved hW.alike hKc, hDc.weaken (fun _ _ _ _ => trivial)⟩, hN.warm hW, by rw [hU]; exact ZX.moved' hW.alike (ZX.narrow' (ZX.kept' hZ hS.2.1) hFc), by rw [hU]; exact SX.moved' hW.alike (SX.narrow' (SX.kept' (hC 13 _ rfl).1 hS.2.1) hFc)⟩⟩ rfl rfl hl.1 rfl (lv_room (Nat.le_of_ble_eq_true rfl)) d_QueryReader_written_68 ⟨by show 0 + (1) ≤ 8 * (n - i) + 4; omega, by show 0 + (6) ≤ 64 * (n - i) + 40; omega⟩) hS (fun q _ h => hFc q h) hFc (fun q _ h => hFc q h) (fun En ce q9 u25 t9 H1 locs ht hvm hw hB hz1 hk1 hS hce hcv hcl => ?_) (fun _u t9 H1 locs ht hvm hw hB hz1 hk1 hS => ?_)
        · obtain ⟨hEn, hP1, hK1, hD1⟩ := hB
          rw [ht] at hP1
          obtain ⟨hP, hD⟩ := va_joinQ (wr := [(qr, .inr (5, [.ref h0, .int (nI o)])), (qu, .inl (cI, 4096, .inl ug))]) (w1 := [(h0, .inr (8, [.ref qb, .ref qu, .int uc, .int ln, .int (nI n), .int (nI u25), .int (nI u25)])), (qb, .inl (cB, 4096, .inl bf))]) hP hD [1, 2] [0, 3] rfl rfl (by decide) (by decide) hk1 hFc hP1 hD1
          generalize H1 = H at hP hS hce ⊢
          have hP : va_P (dC, dI) classes ([(qr, .inr (5, [.ref h0, .int (nI o)])), (qu, .inl (cI, 4096, .inl ug)), (h0, .inr (8, [.ref qb, .ref qu, .int uc, .int ln, .int (nI n), .int (nI u25), .int (nI u25)])), (qb, .inl (cB, 4096, .inl bf))] ++ va_pl ((L ++ [])) f) H := hP
          have hD : va_D A ([(qr, .inr (5, [.ref h0, .int (nI o)])), (qu, .inl (cI, 4096, .inl ug)), (h0, .inr (8, [.ref qb, .ref qu, .int uc, .int ln, .int (nI n), .int (nI u25), .int (nI u25)])), (qb, .inl (cB, 4096, .inl bf))] ++ va_pl ((L ++ [])) f) := hD
          have hP := hP.part (cx := [(qr, .inr (5, [.ref h0, .int (nI o)])), (h0, .inr (8, [.ref qb, .ref qu, .int uc, .int ln, .int (nI n), .int (nI u25), .int (nI u25)])), (qb, .inl (cB, 4096, .inl bf)), (qu, .inl (cI, 4096, .inl ug))]) [0, 2, 3, 1] rfl
          have hD := hD.part (cx := [(qr, .inr (5, [.ref h0, .int (nI o)])), (h0, .inr (8, [.ref qb, .ref qu, .int uc, .int ln, .int (nI n), .int (nI u25), .int (nI u25)])), (qb, .inl (cB, 4096, .inl bf)), (qu, .inl (cI, 4096, .inl ug))]) [0, 2, 3, 1] (by decide) rfl
          have hP := plP_cut (hP.part (cx := [(qr, .inr (5, [.ref h0, .int (nI o)])), (h0, .inr (8, [.ref qb, .ref qu, .int uc, .int ln, .int (nI n), .int (nI u25), .int (nI u25)])), (qb, .inl (cB, 4096, .inl bf)), (qu, .inl (cI, 4096, .inl ug))]) [0, 1, 2, 3] rfl) hG0.on
          have hD := plD_cut (hD.part (cx := [(qr, .inr (5, [.ref h0, .int (nI o)])), (h0, .inr (8, [.ref qb, .ref qu, .int uc, .int ln, .int (nI n), .int (nI u25), .int (nI u25)])), (qb, .inl (cB, 4096, .inl bf)), (qu, .inl (cI, 4096, .inl ug))]) [0, 1, 2, 3] (by decide) rfl) hG0.on
          have hno : (wrD bf n) i = none := wrD_n0 hn110 hw
          exact vx_out (fun x hx => (hex x hx).elim) hlocks hce hcv hcl (fun t9 ht2 ha => ⟨(nI u25, uc, nI u25, ug, nI o), hno, ⟨hEn, by rw [ht2]; exact hP, va_K.moved ha hK, hD⟩, hS.F ht2⟩) hS.2.2 (by show 0 + (1) ≤ 8 * (n - i) + 4; omega) (by show 0 + (6) ≤ 64 * (n - i) + 40; omega)
        · obtain ⟨⟨hP1, hK1, hD1⟩, hz9⟩ := hB
          rw [ht] at hP1
          rw [ht] at hz9
          refine w_tight (hq0.trans hz9) ?_
          have hq0 := hq0.trans hz9
          obtain ⟨hP, hD⟩ := va_joinQ (wr := [(qr, .inr (5, [.ref h0, .int (nI o)])), (qu, .inl (cI, 4096, .inl ug))]) (w1 := [(h0, .inr (8, [.ref qb, .ref qu, .int uc, .int ln, .int (nI n), .int (nI (i + 4)), .int pl])), (qb, .inl (cB, 4096, .inl bf))]) hP hD [1, 2] [0, 3] rfl rfl (by decide) (by decide) hk1 hFc hP1 hD1
          generalize H1 = H at hP hS hq0 ⊢
          have hP : va_P (dC, dI) classes ([(qr, .inr (5, [.ref h0, .int (nI o)])), (qu, .inl (cI, 4096, .inl ug)), (h0, .inr (8, [.ref qb, .ref qu, .int uc, .int ln, .int (nI n), .int (nI (i + 4)), .int pl])), (qb, .inl (cB, 4096, .inl bf))] ++ va_pl ((L ++ [])) f) H := hP
          have hD : va_D A ([(qr, .inr (5, [.ref h0, .int (nI o)])), (qu, .inl (cI, 4096, .inl ug)), (h0, .inr (8, [.ref qb, .ref qu, .int uc, .int ln, .int (nI n), .int (nI (i + 4)), .int pl])), (qb, .inl (cB, 4096, .inl bf))] ++ va_pl ((L ++ [])) f) := hD
          have hP := hP.part (cx := [(qr, .inr (5, [.ref h0, .int (nI o)])), (h0, .inr (8, [.ref qb, .ref qu, .int uc, .int ln, .int (nI n), .int (nI (i + 4)), .int pl])), (qb, .inl (cB, 4096, .inl bf)), (qu, .inl (cI, 4096, .inl ug))]) [0, 2, 3, 1] rfl
          have hD := hD.part (cx := [(qr, .inr (5, [.ref h0, .int (nI o)])), (h0, .inr (8, [.ref qb, .ref qu, .int uc, .int ln, .int (nI n), .int (nI (i + 4)), .int pl])), (qb, .inl (cB, 4096, .inl bf)), (qu, .inl (cI, 4096, .inl ug))]) [0, 2, 3, 1] (by decide) rfl
          have hb25 := mtch_b (show mtch bf n i (ctx 13) 4 from hw) (by decide) (fun j => and255 _)
          have hm9 : mtch bf n i (ctx 13) 4 := hw
          refine va_new (ci := 9) (fs := [.int 0, .long 0, .null, .null, .null, .null, .int 0, .null, .null, .int 0]) (C := R_Value) (T := F_Value) (N := 10) hx hb hts in_Value t_Value t_Value_ok hown (hts _ z_761) (hts _ z_307) (hts _ z_14) hK hP hD hS hA rfl (fun j hj => by rcases (show j = 0 ∨ j = 1 ∨ j = 2 ∨ j = 3 ∨ j = 4 ∨ j = 5 ∨ j = 6 ∨ j = 7 ∨ j = 8 ∨ j = 9 by omega) with rfl | rfl | rfl | rfl | rfl | rfl | rfl | rfl | rfl | rfl <;> rfl) (by show 0 + 1 ≤ 8 * (n - i) + 4; omega) (by show 0 + 10 ≤ 64 * (n - i) + 40; omega) d_QueryReader_written_71 (fun v H hP hD hS => ?_)
          have hz_v := newB (X := [(qr, .inr (5, [.ref h0, .int (nI o)])), (h0, .inr (8, [.ref qb, .ref qu, .int uc, .int ln, .int (nI n), .int (nI (i + 4)), .int pl])), (qb, .inl (cB, 4096, .inl bf)), (qu, .inl (cI, 4096, .inl ug))]) hAe hD (fun k x hk => by rcases k with _ | _ | _ | _ | k; (· cases hk; exact ⟨0, _, rfl⟩); (· cases hk; exact ⟨1, _, rfl⟩); (· cases hk; exact ⟨2, _, rfl⟩); (· cases hk; exact ⟨3, _, rfl⟩); (· cases hk))
          have hP := hP.swap
          have hD := hD.swap
          have hP : va_P (dC, dI) classes ([(qr, .inr (5, [.ref h0, .int (nI o)])), (h0, .inr (8, [.ref qb, .ref qu, .int uc, .int ln, .int (nI n), .int (nI (i + 4)), .int pl])), (qb, .inl (cB, 4096, .inl bf)), (qu, .inl (cI, 4096, .inl ug)), (v, .inr (9, [.int 0, .long 0, .null, .null, .null, .null, .int 0, .null, .null, .int 0]))] ++ va_pl ((L ++ [])) f) H := hP
          have hD : va_D A ([(qr, .inr (5, [.ref h0, .int (nI o)])), (h0, .inr (8, [.ref qb, .ref qu, .int uc, .int ln, .int (nI n), .int (nI (i + 4)), .int pl])), (qb, .inl (cB, 4096, .inl bf)), (qu, .inl (cI, 4096, .inl ug)), (v, .inr (9, [.int 0, .long 0, .null, .null, .null, .null, .int 0, .null, .null, .int 0]))] ++ va_pl ((L ++ [])) f) := hD
          refine lv_dup hx hb d_QueryReader_written_74 rfl ?_
          refine lv_iconst (v := 0) hx hb d_QueryReader_written_75 (by decide) ?_
          have hPc := hP.sub (ws' := [(v, .inr (9, [.int 0, .long 0, .null, .null, .null, .null, .int 0, .null, .null, .int 0]))]) [4] rfl
          have hDc := hD.sub (ws' := [(v, .inr (9, [.int 0, .long 0, .null, .null, .null, .null, .int 0, .null, .null, .int 0]))]) [4] (by decide) rfl
          have hFc := va_free (wc := [(v, .inr (9, [.int 0, .long 0, .null, .null, .null, .null, .int 0, .null, .null, .int 0]))]) hD hS hA [4] rfl
          have hKc := hK.sub (tys' := []) [] rfl
          refine w_same (fun hq0 => ?_)
          refine va_callv (va_runI (As := [.int 0]) (rest := [.ref v]) ⟨hx, hb, hml, hown, hts⟩ (c_Value_init l dC dI H v 0) (cwI 1 hts (gt_code i_Value_init) rfl rfl rfl (hts _ z_14) (hts _ z_762) (hts _ z_309) rfl (by decide +kernel) ⟨by show 1 + 1 ≤ 12 * (16 - o) + 12; omega, by show 8 + (2 + 11) + (20) ≤ 360 * (16 - o) + 360; omega⟩) ⟨mp_blind, fun U hU hW => ⟨rfl, hU, by rw [hU]; exact hPc, va_K.moved hW.alike hKc, hDc.weaken (fun _ _ _ _ => trivial)⟩⟩ rfl rfl hl.1 rfl (lv_room (Nat.le_of_ble_eq_true rfl)) d_QueryReader_written_76 ⟨by show (0 + 1) + (0) ≤ 8 * (n - i) + 4; omega, by show (0 + 10) + (0) ≤ 64 * (n - i) + 40; omega⟩) hS (fun q _ h => hFc q h) hFc (fun _u t9 H1 locs ht hvm hw hB hz1 hk1 hS => ?_)
          obtain ⟨⟨hP1, hK1, hD1⟩, hz9⟩ := hB
          rw [ht] at hP1
          rw [ht] at hz9
          have hq0 : szk s.heap H1 ((0 + 1)) ((0 + 10)) := (hq0.trans hz9).mono (Nat.le_of_eq (Nat.add_zero _)) (Nat.le_of_eq (Nat.add_zero _))
          refine w_tight hq0 ?_
          obtain ⟨hP, hD⟩ := va_joinQ (wr := [(qr, .inr (5, [.ref h0, .int (nI o)])), (h0, .inr (8, [.ref qb, .ref qu, .int uc, .int ln, .int (nI n), .int (nI (i + 4)), .int pl])), (qb, .inl (cB, 4096, .inl bf)), (qu, .inl (cI, 4096, .inl ug))]) (w1 := [(v, .inr (9, [.int 0, .long 0, .null, .null, .null, .null, .int 0, .null, .null, .int 0]))]) hP hD [4] [0, 1, 2, 3] rfl rfl (by decide) (by decide) hk1 hFc hP1 hD1
          generalize H1 = H at hP hS hq0 ⊢
          have hP : va_P (dC, dI) classes ([(qr, .inr (5, [.ref h0, .int (nI o)])), (h0, .inr (8, [.ref qb, .ref qu, .int uc, .int ln, .int (nI n), .int (nI (i + 4)), .int pl])), (qb, .inl (cB, 4096, .inl bf)), (qu, .inl (cI, 4096, .inl ug)), (v, .inr (9, [.int 0, .long 0, .null, .null, .null, .null, .int 0, .null, .null, .int 0]))] ++ va_pl ((L ++ [])) f) H := hP
          have hD : va_D A ([(qr, .inr (5, [.ref h0, .int (nI o)])), (h0, .inr (8, [.ref qb, .ref qu, .int uc, .int ln, .int (nI n), .int (nI (i + 4)), .int pl])), (qb, .inl (cB, 4096, .inl bf)), (qu, .inl (cI, 4096, .inl ug)), (v, .inr (9, [.int 0, .long 0, .null, .null, .null, .null, .int 0, .null, .null, .int 0]))] ++ va_pl ((L ++ [])) f) := hD
          have hG0 : QG cI cV E lv L f i n ((i + 4)) s.heap.size [] E lv f := (QG.rf hO hi9).mv (by omega) (by omega)
          have hL_v := plD_new (X := [(qr, .inr (5, [.ref h0, .int (nI o)])), (h0, .inr (8, [.ref qb, .ref qu, .int uc, .int ln, .int (nI n), .int (nI (i + 4)), .int pl])), (qb, .inl (cB, 4096, .inl bf)), (qu, .inl (cI, 4096, .inl ug))]) hD
          have h0_v : E v = 0 := Classical.byContradiction (fun h => hL_v (hG0.po.inL h))
          have hE_v : E v = 0 := hG0.ex.z h0_v
          have hP := plP_push (X := [(qr, .inr (5, [.ref h0, .int (nI o)])), (h0, .inr (8, [.ref qb, .ref qu, .int uc, .int ln, .int (nI n), .int (nI (i + 4)), .int pl])), (qb, .inl (cB, 4096, .inl bf)), (qu, .inl (cI, 4096, .inl ug))]) hP hL_v
          have hD := plD_push (X := [(qr, .inr (5, [.ref h0, .int (nI o)])), (h0, .inr (8, [.ref qb, .ref qu, .int uc, .int ln, .int (nI n), .int (nI (i + 4)), .int pl])), (qb, .inl (cB, 4096, .inl bf)), (qu, .inl (cI, 4096, .inl ug))]) hD hL_v
          rw [List.append_assoc] at hP hD
          have hQ_v : QPn cI cV E L f i n s.heap.size 2 (5 * (16 - o)) 0 v ((i + 4)) ([] ++ [v]) (va_up E v 2) (va_up f v (vE 0 0 none none none none 0 none none 0)) := by
            refine ⟨hE_v, va_up_self _ _ _, by omega, by omega, fun lv hO b hb => ?_⟩
            have g0 : QG cI cV E lv L f i n ((i + 4)) s.heap.size [] E lv f := (QG.rf hO hi9).mv (by omega) (by omega)
            exact ⟨va_up lv v b, g0.add (q := v) (s := 2) (b := b) (e := vE 0 0 none none none none 0 none none 0) h0_v hL_v hz_v (by decide) (by decide) (CO.V (Or.inr (Or.inl (va_up_self _ _ _))) ⟨_, _, _, _, _, _, _, _, _, _, rfl, ⟨(fun b h => (nomatch h)), (fun b h => (nomatch h)), (fun b h => (nomatch h)), (fun b h => (nomatch h)), (fun b h => (nomatch h)), (fun b h => (nomatch h)), fun _ => ⟨fun h => absurd h (by decide), fun h => absurd h (by decide)⟩, fun h => absurd ((va_up_self _ _ _).symm.trans h) (by decide)⟩⟩), va_up_self _ _ _⟩
          have hP : va_P (dC, dI) classes ([(qr, .inr (5, [.ref h0, .int (nI o)])), (h0, .inr (8, [.ref qb, .ref qu, .int uc, .int ln, .int (nI n), .int (nI (i + 4)), .int pl])), (qb, .inl (cB, 4096, .inl bf)), (qu, .inl (cI, 4096, .inl ug))] ++ va_pl ((L ++ ([] ++ [v]))) ((va_up f v (vE 0 0 none none none none 0 none none 0)))) H := hP
          have hD : va_D A ([(qr, .inr (5, [.ref h0, .int (nI o)])), (h0, .inr (8, [.ref qb, .ref qu, .int uc, .int ln, .int (nI n), .int (nI (i + 4)), .int pl])), (qb, .inl (cB, 4096, .inl bf)), (qu, .inl (cI, 4096, .inl ug))] ++ va_pl ((L ++ ([] ++ [v]))) ((va_up f v (vE 0 0 none none none none 0 none none 0)))) := hD
          have hQr : QPn cI cV E L f i n s.heap.size 2 (5 * (16 - o)) 0 v ((i + 4)) (([] ++ [v])) ((va_up E v 2)) ((va_up f v (vE 0 0 none none none none 0 none none 0))) := hQ_v
          have hfin : (wrD bf n) i = some ((i + 4), (0, 0, [])) := wrD_n hn110 hm9
          have hdn : DNx LTv 0 E ((va_up E v 2)) ((va_up f v (vE 0 0 none none none none 0 none none 0))) v ((0, 0, [])) := DNx.wr0 rfl (by decide) (by decide) (fun h => absurd h (by decide))
          refine w_same (fun hq => ?_)
          refine W.widen (k := 8 * (n - i) + 4) (n := 64 * (n - i) + 40) (by show (0 + 1) ≤ 8 * (n - i) + 4; omega) (by show (0 + 10) ≤ 64 * (n - i) + 40; omega) ?_
          refine vx_ret ?_
          exact W.aret (v := .ref v) hx hb hr (Or.inl ⟨_, rfl⟩) (Or.inr ⟨_, rfl⟩) (fun t9 ht hW => ⟨⟨(v, (i + 4), ([] ++ [v]), (va_up E v 2), (va_up f v (vE 0 0 none none none none 0 none none 0)), uc, ug), v, rfl, ⟨hQr, _, hfin, hdn⟩, ⟨by rw [ht]; exact hP, va_K.moved hW.alike hK, hD⟩, by rw [ht]; exact ⟨hq.mono (by show (0 + 1) ≤ 8 * ((i + 4) - i) + 2 - 0; omega) (by show (0 + 10) ≤ 64 * ((i + 4) - i) + 10 - 0; omega), rfl⟩⟩, hS.F ht⟩) hS.2.2 d_QueryReader_written_79
    · have hn102 : hereV bf n i = 102 := by rw [← h_h21]; exact c35
      refine lv_aload_n hx hb d_QueryReader_written_38 rfl (lv_at hl 1 rfl) ?_
      refine va_get (D := (dC, dI)) (ci := 5) (v := .ref h0) (C := R_QueryReader) (T := F_QueryReader) (N := 2) hx hb hts in_QueryReader hown hK hP 0 rfl rfl 0 (by decide) (hts _ w_100) (fun _ h9 => h9) rfl d_QueryReader_written_39 ?_
      refine va_ldcS hx hb hown (hC 12 _ rfl).2 d_QueryReader_written_42 ?_
      have hPc := hP.sub (ws' := [(h0, .inr (8, [.ref qb, .ref qu, .int uc, .int ln, .int (nI n), .int (nI i), .int pl])), (qb, .inl (cB, 4096, .inl bf))]) [1, 2] rfl
      have hDc := hD.sub (ws' := [(h0, .inr (8, [.ref qb, .ref qu, .int uc, .int ln, .int (nI n), .int (nI i), .int pl])), (qb, .inl (cB, 4096, .inl bf))]) [1, 2] (by decide) rfl
      have hFc := va_free (wc := [(h0, .inr (8, [.ref qb, .ref qu, .int uc, .int ln, .int (nI n), .int (nI i), .int pl])), (qb, .inl (cB, 4096, .inl bf))]) hD hS hA [1, 2] rfl
      have hKc := hK.sub (tys' := [(cB, .byte)]) [0] rfl
      refine w_same (fun hq0 => ?_)
      refine vx_callv (vx_runV (As := [.ref (K 12).1]) (rest := []) ⟨hx, hb, hml, hown, hts⟩ (c_Tape_takeLetters l hl9 dC dI cB h0 qb H (.ref qu) (K 12).1 (K 12).2 5 (ctx 12) uc ln pl bf n i hn0 (by omega) (by decide)) (cwV 1 hts (gt_V (own := R_QueryReader) (C := R_Tape) (i := 238) (y := y_Tape_takeLetters) i_Tape_takeLetters z_760 z_452 z_453 w_2) rfl rfl rfl (by decide +kernel) ⟨by show 10 + 1 ≤ 12 * (16 - o) + 12; omega, by show 8 + (3 + 11) + (152) ≤ 360 * (16 - o) + 360; omega⟩) ⟨mt_blind, va_recv hK hP (ci := 8) (q0 := 1) rfl rfl, fun U hU hW => ⟨rfl, ⟨hU, by rw [hU]; exact hPc, va_K.moved hW.alike hKc, hDc.weaken (fun _ _ _ _ => trivial)⟩, hN.warm hW, by rw [hU]; exact ZX.moved' hW.alike (ZX.narrow' (ZX.kept' hZ hS.2.1) hFc), by rw [hU]; exact SX.moved' hW.alike (SX.narrow' (SX.kept' (hC 12 _ rfl).1 hS.2.1) hFc)⟩⟩ rfl rfl hl.1 rfl (lv_room (Nat.le_of_ble_eq_true rfl)) d_QueryReader_written_44 ⟨by show 0 + (1) ≤ 8 * (n - i) + 4; omega, by show 0 + (6) ≤ 64 * (n - i) + 40; omega⟩) hS (fun q _ h => hFc q h) hFc (fun q _ h => hFc q h) (fun En ce q9 u26 t9 H1 locs ht hvm hw hB hz1 hk1 hS hce hcv hcl => ?_) (fun _u t9 H1 locs ht hvm hw hB hz1 hk1 hS => ?_)
      · obtain ⟨hEn, hP1, hK1, hD1⟩ := hB
        rw [ht] at hP1
        obtain ⟨hP, hD⟩ := va_joinQ (wr := [(qr, .inr (5, [.ref h0, .int (nI o)])), (qu, .inl (cI, 4096, .inl ug))]) (w1 := [(h0, .inr (8, [.ref qb, .ref qu, .int uc, .int ln, .int (nI n), .int (nI u26), .int (nI u26)])), (qb, .inl (cB, 4096, .inl bf))]) hP hD [1, 2] [0, 3] rfl rfl (by decide) (by decide) hk1 hFc hP1 hD1
        generalize H1 = H at hP hS hce ⊢
        have hP : va_P (dC, dI) classes ([(qr, .inr (5, [.ref h0, .int (nI o)])), (qu, .inl (cI, 4096, .inl ug)), (h0, .inr (8, [.ref qb, .ref qu, .int uc, .int ln, .int (nI n), .int (nI u26), .int (nI u26)])), (qb, .inl (cB, 4096, .inl bf))] ++ va_pl ((L ++ [])) f) H := hP
        have hD : va_D A ([(qr, .inr (5, [.ref h0, .int (nI o)])), (qu, .inl (cI, 4096, .inl ug)), (h0, .inr (8, [.ref qb, .ref qu, .int uc, .int ln, .int (nI n), .int (nI u26), .int (nI u26)])), (qb, .inl (cB, 4096, .inl bf))] ++ va_pl ((L ++ [])) f) := hD
        have hP := hP.part (cx := [(qr, .inr (5, [.ref h0, .int (nI o)])), (h0, .inr (8, [.ref qb, .ref qu, .int uc, .int ln, .int (nI n), .int (nI u26), .int (nI u26)])), (qb, .inl (cB, 4096, .inl bf)), (qu, .inl (cI, 4096, .inl ug))]) [0, 2, 3, 1] rfl
        have hD := hD.part (cx := [(qr, .inr (5, [.ref h0, .int (nI o)])), (h0, .inr (8, [.ref qb, .ref qu, .int uc, .int ln, .int (nI n), .int (nI u26), .int (nI u26)])), (qb, .inl (cB, 4096, .inl bf)), (qu, .inl (cI, 4096, .inl ug))]) [0, 2, 3, 1] (by decide) rfl
        have hP := plP_cut (hP.part (cx := [(qr, .inr (5, [.ref h0, .int (nI o)])), (h0, .inr (8, [.ref qb, .ref qu, .int uc, .int ln, .int (nI n), .int (nI u26), .int (nI u26)])), (qb, .inl (cB, 4096, .inl bf)), (qu, .inl (cI, 4096, .inl ug))]) [0, 1, 2, 3] rfl) hG0.on
        have hD := plD_cut (hD.part (cx := [(qr, .inr (5, [.ref h0, .int (nI o)])), (h0, .inr (8, [.ref qb, .ref qu, .int uc, .int ln, .int (nI n), .int (nI u26), .int (nI u26)])), (qb, .inl (cB, 4096, .inl bf)), (qu, .inl (cI, 4096, .inl ug))]) [0, 1, 2, 3] (by decide) rfl) hG0.on
        have hno : (wrD bf n) i = none := wrD_f0 hn102 hw
        exact vx_out (fun x hx => (hex x hx).elim) hlocks hce hcv hcl (fun t9 ht2 ha => ⟨(nI u26, uc, nI u26, ug, nI o), hno, ⟨hEn, by rw [ht2]; exact hP, va_K.moved ha hK, hD⟩, hS.F ht2⟩) hS.2.2 (by show 0 + (1) ≤ 8 * (n - i) + 4; omega) (by show 0 + (6) ≤ 64 * (n - i) + 40; omega)
      · obtain ⟨⟨hP1, hK1, hD1⟩, hz9⟩ := hB
        rw [ht] at hP1
        rw [ht] at hz9
        refine w_tight (hq0.trans hz9) ?_
        have hq0 := hq0.trans hz9
        obtain ⟨hP, hD⟩ := va_joinQ (wr := [(qr, .inr (5, [.ref h0, .int (nI o)])), (qu, .inl (cI, 4096, .inl ug))]) (w1 := [(h0, .inr (8, [.ref qb, .ref qu, .int uc, .int ln, .int (nI n), .int (nI (i + 5)), .int pl])), (qb, .inl (cB, 4096, .inl bf))]) hP hD [1, 2] [0, 3] rfl rfl (by decide) (by decide) hk1 hFc hP1 hD1
        generalize H1 = H at hP hS hq0 ⊢
        have hP : va_P (dC, dI) classes ([(qr, .inr (5, [.ref h0, .int (nI o)])), (qu, .inl (cI, 4096, .inl ug)), (h0, .inr (8, [.ref qb, .ref qu, .int uc, .int ln, .int (nI n), .int (nI (i + 5)), .int pl])), (qb, .inl (cB, 4096, .inl bf))] ++ va_pl ((L ++ [])) f) H := hP
        have hD : va_D A ([(qr, .inr (5, [.ref h0, .int (nI o)])), (qu, .inl (cI, 4096, .inl ug)), (h0, .inr (8, [.ref qb, .ref qu, .int uc, .int ln, .int (nI n), .int (nI (i + 5)), .int pl])), (qb, .inl (cB, 4096, .inl bf))] ++ va_pl ((L ++ [])) f) := hD
        have hP := hP.part (cx := [(qr, .inr (5, [.ref h0, .int (nI o)])), (h0, .inr (8, [.ref qb, .ref qu, .int uc, .int ln, .int (nI n), .int (nI (i + 5)), .int pl])), (qb, .inl (cB, 4096, .inl bf)), (qu, .inl (cI, 4096, .inl ug))]) [0, 2, 3, 1] rfl
        have hD := hD.part (cx := [(qr, .inr (5, [.ref h0, .int (nI o)])), (h0, .inr (8, [.ref qb, .ref qu, .int uc, .int ln, .int (nI n), .int (nI (i + 5)), .int pl])), (qb, .inl (cB, 4096, .inl bf)), (qu, .inl (cI, 4096, .inl ug))]) [0, 2, 3, 1] (by decide) rfl
        have hb26 := mtch_b (show mtch bf n i (ctx 12) 5 from hw) (by decide) (fun j => and255 _)
        have hm9 : mtch bf n i (ctx 12) 5 := hw
        refine va_new (ci := 9) (fs := [.int 0, .long 0, .null, .null, .null, .null, .int 0, .null, .null, .int 0]) (C := R_Value) (T := F_Value) (N := 10) hx hb hts in_Value t_Value t_Value_ok hown (hts _ z_761) (hts _ z_307) (hts _ z_14) hK hP hD hS hA rfl (fun j hj => by rcases (show j = 0 ∨ j = 1 ∨ j = 2 ∨ j = 3 ∨ j = 4 ∨ j = 5 ∨ j = 6 ∨ j = 7 ∨ j = 8 ∨ j = 9 by omega) with rfl | rfl | rfl | rfl | rfl | rfl | rfl | rfl | rfl | rfl <;> rfl) (by show 0 + 1 ≤ 8 * (n - i) + 4; omega) (by show 0 + 10 ≤ 64 * (n - i) + 40; omega) d_QueryReader_written_47 (fun v H hP hD hS => ?_)
        have hz_v := newB (X := [(qr, .inr (5, [.ref h0, .int (nI o)])), (h0, .inr (8, [.ref qb, .ref qu, .int uc, .int ln, .int (nI n), .int (nI (i + 5)), .int pl])), (qb, .inl (cB, 4096, .inl bf)), (qu, .inl (cI, 4096, .inl ug))]) hAe hD (fun k x hk => by rcases k with _ | _ | _ | _ | k; (· cases hk; exact ⟨0, _, rfl⟩); (· cases hk; exact ⟨1, _, rfl⟩); (· cases hk; exact ⟨2, _, rfl⟩); (· cases hk; exact ⟨3, _, rfl⟩); (· cases hk))
        have hP := hP.swap
        have hD := hD.swap
        have hP : va_P (dC, dI) classes ([(qr, .inr (5, [.ref h0, .int (nI o)])), (h0, .inr (8, [.ref qb, .ref qu, .int uc, .int ln, .int (nI n), .int (nI (i + 5)), .int pl])), (qb, .inl (cB, 4096, .inl bf)), (qu, .inl (cI, 4096, .inl ug)), (v, .inr (9, [.int 0, .long 0, .null, .null, .null, .null, .int 0, .null, .null, .int 0]))] ++ va_pl ((L ++ [])) f) H := hP
        have hD : va_D A ([(qr, .inr (5, [.ref h0, .int (nI o)])), (h0, .inr (8, [.ref qb, .ref qu, .int uc, .int ln, .int (nI n), .int (nI (i + 5)), .int pl])), (qb, .inl (cB, 4096, .inl bf)), (qu, .inl (cI, 4096, .inl ug)), (v, .inr (9, [.int 0, .long 0, .null, .null, .null, .null, .int 0, .null, .null, .int 0]))] ++ va_pl ((L ++ [])) f) := hD
        refine lv_dup hx hb d_QueryReader_written_50 rfl ?_
        refine lv_iconst (v := 1) hx hb d_QueryReader_written_51 (by decide) ?_
        have hPc := hP.sub (ws' := [(v, .inr (9, [.int 0, .long 0, .null, .null, .null, .null, .int 0, .null, .null, .int 0]))]) [4] rfl
        have hDc := hD.sub (ws' := [(v, .inr (9, [.int 0, .long 0, .null, .null, .null, .null, .int 0, .null, .null, .int 0]))]) [4] (by decide) rfl
        have hFc := va_free (wc := [(v, .inr (9, [.int 0, .long 0, .null, .null, .null, .null, .int 0, .null, .null, .int 0]))]) hD hS hA [4] rfl
        have hKc := hK.sub (tys' := []) [] rfl
        refine w_same (fun hq0 => ?_)
        refine va_callv (va_runI (As := [.int 1]) (rest := [.ref v]) ⟨hx, hb, hml, hown, hts⟩ (c_Value_init l dC dI H v 1) (cwI 1 hts (gt_code i_Value_init) rfl rfl rfl (hts _ z_14) (hts _ z_762) (hts _ z_309) rfl (by decide +kernel) ⟨by show 1 + 1 ≤ 12 * (16 - o) + 12; omega, by show 8 + (2 + 11) + (20) ≤ 360 * (16 - o) + 360; omega⟩) ⟨mp_blind, fun U hU hW => ⟨rfl, hU, by rw [hU]; exact hPc, va_K.moved hW.alike hKc, hDc.weaken (fun _ _ _ _ => trivial)⟩⟩ rfl rfl hl.1 rfl (lv_room (Nat.le_of_ble_eq_true rfl)) d_QueryReader_written_52 ⟨by show (0 + 1) + (0) ≤ 8 * (n - i) + 4; omega, by show (0 + 10) + (0) ≤ 64 * (n - i) + 40; omega⟩) hS (fun q _ h => hFc q h) hFc (fun _u t9 H1 locs ht hvm hw hB hz1 hk1 hS => ?_)
        obtain ⟨⟨hP1, hK1, hD1⟩, hz9⟩ := hB
        rw [ht] at hP1
        rw [ht] at hz9
        have hq0 : szk s.heap H1 ((0 + 1)) ((0 + 10)) := (hq0.trans hz9).mono (Nat.le_of_eq (Nat.add_zero _)) (Nat.le_of_eq (Nat.add_zero _))
        refine w_tight hq0 ?_
        obtain ⟨hP, hD⟩ := va_joinQ (wr := [(qr, .inr (5, [.ref h0, .int (nI o)])), (h0, .inr (8, [.ref qb, .ref qu, .int uc, .int ln, .int (nI n), .int (nI (i + 5)), .int pl])), (qb, .inl (cB, 4096, .inl bf)), (qu, .inl (cI, 4096, .inl ug))]) (w1 := [(v, .inr (9, [.int 1, .long 0, .null, .null, .null, .null, .int 0, .null, .null, .int 0]))]) hP hD [4] [0, 1, 2, 3] rfl rfl (by decide) (by decide) hk1 hFc hP1 hD1
        generalize H1 = H at hP hS hq0 ⊢
        have hP : va_P (dC, dI) classes ([(qr, .inr (5, [.ref h0, .int (nI o)])), (h0, .inr (8, [.ref qb, .ref qu, .int uc, .int ln, .int (nI n), .int (nI (i + 5)), .int pl])), (qb, .inl (cB, 4096, .inl bf)), (qu, .inl (cI, 4096, .inl ug)), (v, .inr (9, [.int 1, .long 0, .null, .null, .null, .null, .int 0, .null, .null, .int 0]))] ++ va_pl ((L ++ [])) f) H := hP
        have hD : va_D A ([(qr, .inr (5, [.ref h0, .int (nI o)])), (h0, .inr (8, [.ref qb, .ref qu, .int uc, .int ln, .int (nI n), .int (nI (i + 5)), .int pl])), (qb, .inl (cB, 4096, .inl bf)), (qu, .inl (cI, 4096, .inl ug)), (v, .inr (9, [.int 1, .long 0, .null, .null, .null, .null, .int 0, .null, .null, .int 0]))] ++ va_pl ((L ++ [])) f) := hD
        have hG0 : QG cI cV E lv L f i n ((i + 5)) s.heap.size [] E lv f := (QG.rf hO hi9).mv (by omega) (by omega)
        have hL_v := plD_new (X := [(qr, .inr (5, [.ref h0, .int (nI o)])), (h0, .inr (8, [.ref qb, .ref qu, .int uc, .int ln, .int (nI n), .int (nI (i + 5)), .int pl])), (qb, .inl (cB, 4096, .inl bf)), (qu, .inl (cI, 4096, .inl ug))]) hD
        have h0_v : E v = 0 := Classical.byContradiction (fun h => hL_v (hG0.po.inL h))
        have hE_v : E v = 0 := hG0.ex.z h0_v
        have hP := plP_push (X := [(qr, .inr (5, [.ref h0, .int (nI o)])), (h0, .inr (8, [.ref qb, .ref qu, .int uc, .int ln, .int (nI n), .int (nI (i + 5)), .int pl])), (qb, .inl (cB, 4096, .inl bf)), (qu, .inl (cI, 4096, .inl ug))]) hP hL_v
        have hD := plD_push (X := [(qr, .inr (5, [.ref h0, .int (nI o)])), (h0, .inr (8, [.ref qb, .ref qu, .int uc, .int ln, .int (nI n), .int (nI (i + 5)), .int pl])), (qb, .inl (cB, 4096, .inl bf)), (qu, .inl (cI, 4096, .inl ug))]) hD hL_v
        rw [List.append_assoc] at hP hD
        have hQ_v : QPn cI cV E L f i n s.heap.size 2 (5 * (16 - o)) 0 v ((i + 5)) ([] ++ [v]) (va_up E v 2) (va_up f v (vE 1 0 none none none none 0 none none 0)) := by
          refine ⟨hE_v, va_up_self _ _ _, by omega, by omega, fun lv hO b hb => ?_⟩
          have g0 : QG cI cV E lv L f i n ((i + 5)) s.heap.size [] E lv f := (QG.rf hO hi9).mv (by omega) (by omega)
          exact ⟨va_up lv v b, g0.add (q := v) (s := 2) (b := b) (e := vE 1 0 none none none none 0 none none 0) h0_v hL_v hz_v (by decide) (by decide) (CO.V (Or.inr (Or.inl (va_up_self _ _ _))) ⟨_, _, _, _, _, _, _, _, _, _, rfl, ⟨(fun b h => (nomatch h)), (fun b h => (nomatch h)), (fun b h => (nomatch h)), (fun b h => (nomatch h)), (fun b h => (nomatch h)), (fun b h => (nomatch h)), fun _ => ⟨fun h => absurd h (by decide), fun h => absurd h (by decide)⟩, fun h => absurd ((va_up_self _ _ _).symm.trans h) (by decide)⟩⟩), va_up_self _ _ _⟩
        have hP : va_P (dC, dI) classes ([(qr, .inr (5, [.ref h0, .int (nI o)])), (h0, .inr (8, [.ref qb, .ref qu, .int uc, .int ln, .int (nI n), .int (nI (i + 5)), .int pl])), (qb, .inl (cB, 4096, .inl bf)), (qu, .inl (cI, 4096, .inl ug))] ++ va_pl ((L ++ ([] ++ [v]))) ((va_up f v (vE 1 0 none none none none 0 none none 0)))) H := hP
        have hD : va_D A ([(qr, .inr (5, [.ref h0, .int (nI o)])), (h0, .inr (8, [.ref qb, .ref qu, .int uc, .int ln, .int (nI n), .int (nI (i + 5)), .int pl])), (qb, .inl (cB, 4096, .inl bf)), (qu, .inl (cI, 4096, .inl ug))] ++ va_pl ((L ++ ([] ++ [v]))) ((va_up f v (vE 1 0 none none none none 0 none none 0)))) := hD
        have hQr : QPn cI cV E L f i n s.heap.size 2 (5 * (16 - o)) 0 v ((i + 5)) (([] ++ [v])) ((va_up E v 2)) ((va_up f v (vE 1 0 none none none none 0 none none 0))) := hQ_v
        have hfin : (wrD bf n) i = some ((i + 5), (2, 0, [])) := wrD_f hn102 hm9
        have hdn : DNx LTv 0 E ((va_up E v 2)) ((va_up f v (vE 1 0 none none none none 0 none none 0))) v ((2, 0, [])) := DNx.wr0 rfl (by decide) (by decide) (fun h => absurd h (by decide))
        refine w_same (fun hq => ?_)
        refine W.widen (k := 8 * (n - i) + 4) (n := 64 * (n - i) + 40) (by show (0 + 1) ≤ 8 * (n - i) + 4; omega) (by show (0 + 10) ≤ 64 * (n - i) + 40; omega) ?_
        refine vx_ret ?_
        exact W.aret (v := .ref v) hx hb hr (Or.inl ⟨_, rfl⟩) (Or.inr ⟨_, rfl⟩) (fun t9 ht hW => ⟨⟨(v, (i + 5), ([] ++ [v]), (va_up E v 2), (va_up f v (vE 1 0 none none none none 0 none none 0)), uc, ug), v, rfl, ⟨hQr, _, hfin, hdn⟩, ⟨by rw [ht]; exact hP, va_K.moved hW.alike hK, hD⟩, by rw [ht]; exact ⟨hq.mono (by show (0 + 1) ≤ 8 * ((i + 5) - i) + 2 - 0; omega) (by show (0 + 10) ≤ 64 * ((i + 5) - i) + 10 - 0; omega), rfl⟩⟩, hS.F ht⟩) hS.2.2 d_QueryReader_written_55
  · have hn116 : hereV bf n i = 116 := by rw [← h_h21]; exact c11
    refine lv_aload_n hx hb d_QueryReader_written_14 rfl (lv_at hl 1 rfl) ?_
    refine va_get (D := (dC, dI)) (ci := 5) (v := .ref h0) (C := R_QueryReader) (T := F_QueryReader) (N := 2) hx hb hts in_QueryReader hown hK hP 0 rfl rfl 0 (by decide) (hts _ w_100) (fun _ h9 => h9) rfl d_QueryReader_written_15 ?_
    refine va_ldcS hx hb hown (hC 11 _ rfl).2 d_QueryReader_written_18 ?_
    have hPc := hP.sub (ws' := [(h0, .inr (8, [.ref qb, .ref qu, .int uc, .int ln, .int (nI n), .int (nI i), .int pl])), (qb, .inl (cB, 4096, .inl bf))]) [1, 2] rfl
    have hDc := hD.sub (ws' := [(h0, .inr (8, [.ref qb, .ref qu, .int uc, .int ln, .int (nI n), .int (nI i), .int pl])), (qb, .inl (cB, 4096, .inl bf))]) [1, 2] (by decide) rfl
    have hFc := va_free (wc := [(h0, .inr (8, [.ref qb, .ref qu, .int uc, .int ln, .int (nI n), .int (nI i), .int pl])), (qb, .inl (cB, 4096, .inl bf))]) hD hS hA [1, 2] rfl
    have hKc := hK.sub (tys' := [(cB, .byte)]) [0] rfl
    refine w_same (fun hq0 => ?_)
    refine vx_callv (vx_runV (As := [.ref (K 11).1]) (rest := []) ⟨hx, hb, hml, hown, hts⟩ (c_Tape_takeLetters l hl9 dC dI cB h0 qb H (.ref qu) (K 11).1 (K 11).2 4 (ctx 11) uc ln pl bf n i hn0 (by omega) (by decide)) (cwV 1 hts (gt_V (own := R_QueryReader) (C := R_Tape) (i := 238) (y := y_Tape_takeLetters) i_Tape_takeLetters z_760 z_452 z_453 w_2) rfl rfl rfl (by decide +kernel) ⟨by show 10 + 1 ≤ 12 * (16 - o) + 12; omega, by show 8 + (3 + 11) + (152) ≤ 360 * (16 - o) + 360; omega⟩) ⟨mt_blind, va_recv hK hP (ci := 8) (q0 := 1) rfl rfl, fun U hU hW => ⟨rfl, ⟨hU, by rw [hU]; exact hPc, va_K.moved hW.alike hKc, hDc.weaken (fun _ _ _ _ => trivial)⟩, hN.warm hW, by rw [hU]; exact ZX.moved' hW.alike (ZX.narrow' (ZX.kept' hZ hS.2.1) hFc), by rw [hU]; exact SX.moved' hW.alike (SX.narrow' (SX.kept' (hC 11 _ rfl).1 hS.2.1) hFc)⟩⟩ rfl rfl hl.1 rfl (lv_room (Nat.le_of_ble_eq_true rfl)) d_QueryReader_written_20 ⟨by show 0 + (1) ≤ 8 * (n - i) + 4; omega, by show 0 + (6) ≤ 64 * (n - i) + 40; omega⟩) hS (fun q _ h => hFc q h) hFc (fun q _ h => hFc q h) (fun En ce q9 u27 t9 H1 locs ht hvm hw hB hz1 hk1 hS hce hcv hcl => ?_) (fun _u t9 H1 locs ht hvm hw hB hz1 hk1 hS => ?_)
    · obtain ⟨hEn, hP1, hK1, hD1⟩ := hB
      rw [ht] at hP1
      obtain ⟨hP, hD⟩ := va_joinQ (wr := [(qr, .inr (5, [.ref h0, .int (nI o)])), (qu, .inl (cI, 4096, .inl ug))]) (w1 := [(h0, .inr (8, [.ref qb, .ref qu, .int uc, .int ln, .int (nI n), .int (nI u27), .int (nI u27)])), (qb, .inl (cB, 4096, .inl bf))]) hP hD [1, 2] [0, 3] rfl rfl (by decide) (by decide) hk1 hFc hP1 hD1
      generalize H1 = H at hP hS hce ⊢
      have hP : va_P (dC, dI) classes ([(qr, .inr (5, [.ref h0, .int (nI o)])), (qu, .inl (cI, 4096, .inl ug)), (h0, .inr (8, [.ref qb, .ref qu, .int uc, .int ln, .int (nI n), .int (nI u27), .int (nI u27)])), (qb, .inl (cB, 4096, .inl bf))] ++ va_pl ((L ++ [])) f) H := hP
      have hD : va_D A ([(qr, .inr (5, [.ref h0, .int (nI o)])), (qu, .inl (cI, 4096, .inl ug)), (h0, .inr (8, [.ref qb, .ref qu, .int uc, .int ln, .int (nI n), .int (nI u27), .int (nI u27)])), (qb, .inl (cB, 4096, .inl bf))] ++ va_pl ((L ++ [])) f) := hD
      have hP := hP.part (cx := [(qr, .inr (5, [.ref h0, .int (nI o)])), (h0, .inr (8, [.ref qb, .ref qu, .int uc, .int ln, .int (nI n), .int (nI u27), .int (nI u27)])), (qb, .inl (cB, 4096, .inl bf)), (qu, .inl (cI, 4096, .inl ug))]) [0, 2, 3, 1] rfl
      have hD := hD.part (cx := [(qr, .inr (5, [.ref h0, .int (nI o)])), (h0, .inr (8, [.ref qb, .ref qu, .int uc, .int ln, .int (nI n), .int (nI u27), .int (nI u27)])), (qb, .inl (cB, 4096, .inl bf)), (qu, .inl (cI, 4096, .inl ug))]) [0, 2, 3, 1] (by decide) rfl
      have hP := plP_cut (hP.part (cx := [(qr, .inr (5, [.ref h0, .int (nI o)])), (h0, .inr (8, [.ref qb, .ref qu, .int uc, .int ln, .int (nI n), .int (nI u27), .int (nI u27)])), (qb, .inl (cB, 4096, .inl bf)), (qu, .inl (cI, 4096, .inl ug))]) [0, 1, 2, 3] rfl) hG0.on
      have hD := plD_cut (hD.part (cx := [(qr, .inr (5, [.ref h0, .int (nI o)])), (h0, .inr (8, [.ref qb, .ref qu, .int uc, .int ln, .int (nI n), .int (nI u27), .int (nI u27)])), (qb, .inl (cB, 4096, .inl bf)), (qu, .inl (cI, 4096, .inl ug))]) [0, 1, 2, 3] (by decide) rfl) hG0.on
      have hno : (wrD bf n) i = none := wrD_t0 hn116 hw
      exact vx_out (fun x hx => (hex x hx).elim) hlocks hce hcv hcl (fun t9 ht2 ha => ⟨(nI u27, uc, nI u27, ug, nI o), hno, ⟨hEn, by rw [ht2]; exact hP, va_K.moved ha hK, hD⟩, hS.F ht2⟩) hS.2.2 (by show 0 + (1) ≤ 8 * (n - i) + 4; omega) (by show 0 + (6) ≤ 64 * (n - i) + 40; omega)
    · obtain ⟨⟨hP1, hK1, hD1⟩, hz9⟩ := hB
      rw [ht] at hP1
      rw [ht] at hz9
      refine w_tight (hq0.trans hz9) ?_
      have hq0 := hq0.trans hz9
      obtain ⟨hP, hD⟩ := va_joinQ (wr := [(qr, .inr (5, [.ref h0, .int (nI o)])), (qu, .inl (cI, 4096, .inl ug))]) (w1 := [(h0, .inr (8, [.ref qb, .ref qu, .int uc, .int ln, .int (nI n), .int (nI (i + 4)), .int pl])), (qb, .inl (cB, 4096, .inl bf))]) hP hD [1, 2] [0, 3] rfl rfl (by decide) (by decide) hk1 hFc hP1 hD1
      generalize H1 = H at hP hS hq0 ⊢
      have hP : va_P (dC, dI) classes ([(qr, .inr (5, [.ref h0, .int (nI o)])), (qu, .inl (cI, 4096, .inl ug)), (h0, .inr (8, [.ref qb, .ref qu, .int uc, .int ln, .int (nI n), .int (nI (i + 4)), .int pl])), (qb, .inl (cB, 4096, .inl bf))] ++ va_pl ((L ++ [])) f) H := hP
      have hD : va_D A ([(qr, .inr (5, [.ref h0, .int (nI o)])), (qu, .inl (cI, 4096, .inl ug)), (h0, .inr (8, [.ref qb, .ref qu, .int uc, .int ln, .int (nI n), .int (nI (i + 4)), .int pl])), (qb, .inl (cB, 4096, .inl bf))] ++ va_pl ((L ++ [])) f) := hD
      have hP := hP.part (cx := [(qr, .inr (5, [.ref h0, .int (nI o)])), (h0, .inr (8, [.ref qb, .ref qu, .int uc, .int ln, .int (nI n), .int (nI (i + 4)), .int pl])), (qb, .inl (cB, 4096, .inl bf)), (qu, .inl (cI, 4096, .inl ug))]) [0, 2, 3, 1] rfl
      have hD := hD.part (cx := [(qr, .inr (5, [.ref h0, .int (nI o)])), (h0, .inr (8, [.ref qb, .ref qu, .int uc, .int ln, .int (nI n), .int (nI (i + 4)), .int pl])), (qb, .inl (cB, 4096, .inl bf)), (qu, .inl (cI, 4096, .inl ug))]) [0, 2, 3, 1] (by decide) rfl
      have hb27 := mtch_b (show mtch bf n i (ctx 11) 4 from hw) (by decide) (fun j => and255 _)
      have hm9 : mtch bf n i (ctx 11) 4 := hw
      refine va_new (ci := 9) (fs := [.int 0, .long 0, .null, .null, .null, .null, .int 0, .null, .null, .int 0]) (C := R_Value) (T := F_Value) (N := 10) hx hb hts in_Value t_Value t_Value_ok hown (hts _ z_761) (hts _ z_307) (hts _ z_14) hK hP hD hS hA rfl (fun j hj => by rcases (show j = 0 ∨ j = 1 ∨ j = 2 ∨ j = 3 ∨ j = 4 ∨ j = 5 ∨ j = 6 ∨ j = 7 ∨ j = 8 ∨ j = 9 by omega) with rfl | rfl | rfl | rfl | rfl | rfl | rfl | rfl | rfl | rfl <;> rfl) (by show 0 + 1 ≤ 8 * (n - i) + 4; omega) (by show 0 + 10 ≤ 64 * (n - i) + 40; omega) d_QueryReader_written_23 (fun v H hP hD hS => ?_)
      have hz_v := newB (X := [(qr, .inr (5, [.ref h0, .int (nI o)])), (h0, .inr (8, [.ref qb, .ref qu, .int uc, .int ln, .int (nI n), .int (nI (i + 4)), .int pl])), (qb, .inl (cB, 4096, .inl bf)), (qu, .inl (cI, 4096, .inl ug))]) hAe hD (fun k x hk => by rcases k with _ | _ | _ | _ | k; (· cases hk; exact ⟨0, _, rfl⟩); (· cases hk; exact ⟨1, _, rfl⟩); (· cases hk; exact ⟨2, _, rfl⟩); (· cases hk; exact ⟨3, _, rfl⟩); (· cases hk))
      have hP := hP.swap
      have hD := hD.swap
      have hP : va_P (dC, dI) classes ([(qr, .inr (5, [.ref h0, .int (nI o)])), (h0, .inr (8, [.ref qb, .ref qu, .int uc, .int ln, .int (nI n), .int (nI (i + 4)), .int pl])), (qb, .inl (cB, 4096, .inl bf)), (qu, .inl (cI, 4096, .inl ug)), (v, .inr (9, [.int 0, .long 0, .null, .null, .null, .null, .int 0, .null, .null, .int 0]))] ++ va_pl ((L ++ [])) f) H := hP
      have hD : va_D A ([(qr, .inr (5, [.ref h0, .int (nI o)])), (h0, .inr (8, [.ref qb, .ref qu, .int uc, .int ln, .int (nI n), .int (nI (i + 4)), .int pl])), (qb, .inl (cB, 4096, .inl bf)), (qu, .inl (cI, 4096, .inl ug)), (v, .inr (9, [.int 0, .long 0, .null, .null, .null, .null, .int 0, .null, .null, .int 0]))] ++ va_pl ((L ++ [])) f) := hD
      refine lv_dup hx hb d_QueryReader_written_26 rfl ?_
      refine lv_iconst (v := 2) hx hb d_QueryReader_written_27 (by decide) ?_
      have hPc := hP.sub (ws' := [(v, .inr (9, [.int 0, .long 0, .null, .null, .null, .null, .int 0, .null, .null, .int 0]))]) [4] rfl
      have hDc := hD.sub (ws' := [(v, .inr (9, [.int 0, .long 0, .null, .null, .null, .null, .int 0, .null, .null, .int 0]))]) [4] (by decide) rfl
      have hFc := va_free (wc := [(v, .inr (9, [.int 0, .long 0, .null, .null, .null, .null, .int 0, .null, .null, .int 0]))]) hD hS hA [4] rfl
      have hKc := hK.sub (tys' := []) [] rfl
      refine w_same (fun hq0 => ?_)
      refine va_callv (va_runI (As := [.int 2]) (rest := [.ref v]) ⟨hx, hb, hml, hown, hts⟩ (c_Value_init l dC dI H v 2) (cwI 1 hts (gt_code i_Value_init) rfl rfl rfl (hts _ z_14) (hts _ z_762) (hts _ z_309) rfl (by decide +kernel) ⟨by show 1 + 1 ≤ 12 * (16 - o) + 12; omega, by show 8 + (2 + 11) + (20) ≤ 360 * (16 - o) + 360; omega⟩) ⟨mp_blind, fun U hU hW => ⟨rfl, hU, by rw [hU]; exact hPc, va_K.moved hW.alike hKc, hDc.weaken (fun _ _ _ _ => trivial)⟩⟩ rfl rfl hl.1 rfl (lv_room (Nat.le_of_ble_eq_true rfl)) d_QueryReader_written_28 ⟨by show (0 + 1) + (0) ≤ 8 * (n - i) + 4; omega, by show (0 + 10) + (0) ≤ 64 * (n - i) + 40; omega⟩) hS (fun q _ h => hFc q h) hFc (fun _u t9 H1 locs ht hvm hw hB hz1 hk1 hS => ?_)
      obtain ⟨⟨hP1, hK1, hD1⟩, hz9⟩ := hB
      rw [ht] at hP1
      rw [ht] at hz9
      have hq0 : szk s.heap H1 ((0 + 1)) ((0 + 10)) := (hq0.trans hz9).mono (Nat.le_of_eq (Nat.add_zero _)) (Nat.le_of_eq (Nat.add_zero _))
      refine w_tight hq0 ?_
      obtain ⟨hP, hD⟩ := va_joinQ (wr := [(qr, .inr (5, [.ref h0, .int (nI o)])), (h0, .inr (8, [.ref qb, .ref qu, .int uc, .int ln, .int (nI n), .int (nI (i + 4)), .int pl])), (qb, .inl (cB, 4096, .inl bf)), (qu, .inl (cI, 4096, .inl ug))]) (w1 := [(v, .inr (9, [.int 2, .long 0, .null, .null, .null, .null, .int 0, .null, .null, .int 0]))]) hP hD [4] [0, 1, 2, 3] rfl rfl (by decide) (by decide) hk1 hFc hP1 hD1
      generalize H1 = H at hP hS hq0 ⊢
      have hP : va_P (dC, dI) classes ([(qr, .inr (5, [.ref h0, .int (nI o)])), (h0, .inr (8, [.ref qb, .ref qu, .int uc, .int ln, .int (nI n), .int (nI (i + 4)), .int pl])), (qb, .inl (cB, 4096, .inl bf)), (qu, .inl (cI, 4096, .inl ug)), (v, .inr (9, [.int 2, .long 0, .null, .null, .null, .null, .int 0, .null, .null, .int 0]))] ++ va_pl ((L ++ [])) f) H := hP
      have hD : va_D A ([(qr, .inr (5, [.ref h0, .int (nI o)])), (h0, .inr (8, [.ref qb, .ref qu, .int uc, .int ln, .int (nI n), .int (nI (i + 4)), .int pl])), (qb, .inl (cB, 4096, .inl bf)), (qu, .inl (cI, 4096, .inl ug)), (v, .inr (9, [.int 2, .long 0, .null, .null, .null, .null, .int 0, .null, .null, .int 0]))] ++ va_pl ((L ++ [])) f) := hD
      have hG0 : QG cI cV E lv L f i n ((i + 4)) s.heap.size [] E lv f := (QG.rf hO hi9).mv (by omega) (by omega)
      have hL_v := plD_new (X := [(qr, .inr (5, [.ref h0, .int (nI o)])), (h0, .inr (8, [.ref qb, .ref qu, .int uc, .int ln, .int (nI n), .int (nI (i + 4)), .int pl])), (qb, .inl (cB, 4096, .inl bf)), (qu, .inl (cI, 4096, .inl ug))]) hD
      have h0_v : E v = 0 := Classical.byContradiction (fun h => hL_v (hG0.po.inL h))
      have hE_v : E v = 0 := hG0.ex.z h0_v
      have hP := plP_push (X := [(qr, .inr (5, [.ref h0, .int (nI o)])), (h0, .inr (8, [.ref qb, .ref qu, .int uc, .int ln, .int (nI n), .int (nI (i + 4)), .int pl])), (qb, .inl (cB, 4096, .inl bf)), (qu, .inl (cI, 4096, .inl ug))]) hP hL_v
      have hD := plD_push (X := [(qr, .inr (5, [.ref h0, .int (nI o)])), (h0, .inr (8, [.ref qb, .ref qu, .int uc, .int ln, .int (nI n), .int (nI (i + 4)), .int pl])), (qb, .inl (cB, 4096, .inl bf)), (qu, .inl (cI, 4096, .inl ug))]) hD hL_v
      rw [List.append_assoc] at hP hD
      have hQ_v : QPn cI cV E L f i n s.heap.size 2 (5 * (16 - o)) 0 v ((i + 4)) ([] ++ [v]) (va_up E v 2) (va_up f v (vE 2 0 none none none none 0 none none 0)) := by
        refine ⟨hE_v, va_up_self _ _ _, by omega, by omega, fun lv hO b hb => ?_⟩
        have g0 : QG cI cV E lv L f i n ((i + 4)) s.heap.size [] E lv f := (QG.rf hO hi9).mv (by omega) (by omega)
        exact ⟨va_up lv v b, g0.add (q := v) (s := 2) (b := b) (e := vE 2 0 none none none none 0 none none 0) h0_v hL_v hz_v (by decide) (by decide) (CO.V (Or.inr (Or.inl (va_up_self _ _ _))) ⟨_, _, _, _, _, _, _, _, _, _, rfl, ⟨(fun b h => (nomatch h)), (fun b h => (nomatch h)), (fun b h => (nomatch h)), (fun b h => (nomatch h)), (fun b h => (nomatch h)), (fun b h => (nomatch h)), fun _ => ⟨fun h => absurd h (by decide), fun h => absurd h (by decide)⟩, fun h => absurd ((va_up_self _ _ _).symm.trans h) (by decide)⟩⟩), va_up_self _ _ _⟩
      have hP : va_P (dC, dI) classes ([(qr, .inr (5, [.ref h0, .int (nI o)])), (h0, .inr (8, [.ref qb, .ref qu, .int uc, .int ln, .int (nI n), .int (nI (i + 4)), .int pl])), (qb, .inl (cB, 4096, .inl bf)), (qu, .inl (cI, 4096, .inl ug))] ++ va_pl ((L ++ ([] ++ [v]))) ((va_up f v (vE 2 0 none none none none 0 none none 0)))) H := hP
      have hD : va_D A ([(qr, .inr (5, [.ref h0, .int (nI o)])), (h0, .inr (8, [.ref qb, .ref qu, .int uc, .int ln, .int (nI n), .int (nI (i + 4)), .int pl])), (qb, .inl (cB, 4096, .inl bf)), (qu, .inl (cI, 4096, .inl ug))] ++ va_pl ((L ++ ([] ++ [v]))) ((va_up f v (vE 2 0 none none none none 0 none none 0)))) := hD
      have hQr : QPn cI cV E L f i n s.heap.size 2 (5 * (16 - o)) 0 v ((i + 4)) (([] ++ [v])) ((va_up E v 2)) ((va_up f v (vE 2 0 none none none none 0 none none 0))) := hQ_v
      have hfin : (wrD bf n) i = some ((i + 4), (1, 0, [])) := wrD_t hn116 hm9
      have hdn : DNx LTv 0 E ((va_up E v 2)) ((va_up f v (vE 2 0 none none none none 0 none none 0))) v ((1, 0, [])) := DNx.wr0 rfl (by decide) (by decide) (fun h => absurd h (by decide))
      refine w_same (fun hq => ?_)
      refine W.widen (k := 8 * (n - i) + 4) (n := 64 * (n - i) + 40) (by show (0 + 1) ≤ 8 * (n - i) + 4; omega) (by show (0 + 10) ≤ 64 * (n - i) + 40; omega) ?_
      refine vx_ret ?_
      exact W.aret (v := .ref v) hx hb hr (Or.inl ⟨_, rfl⟩) (Or.inr ⟨_, rfl⟩) (fun t9 ht hW => ⟨⟨(v, (i + 4), ([] ++ [v]), (va_up E v 2), (va_up f v (vE 2 0 none none none none 0 none none 0)), uc, ug), v, rfl, ⟨hQr, _, hfin, hdn⟩, ⟨by rw [ht]; exact hP, va_K.moved hW.alike hK, hD⟩, by rw [ht]; exact ⟨hq.mono (by show (0 + 1) ≤ 8 * ((i + 4) - i) + 2 - 0; omega) (by show (0 + 10) ≤ 64 * ((i + 4) - i) + 10 - 0; omega), rfl⟩⟩, hS.F ht⟩) hS.2.2 d_QueryReader_written_31
