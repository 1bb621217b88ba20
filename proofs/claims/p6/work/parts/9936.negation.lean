theorem z_654 : (.methodLink "QueryBench$QueryReader" 117 ⟨"QueryBench$QueryReader", "or", "()LQueryBench$Condition;"⟩ : Cond) ∈ gtbl := gt_in 654 (by decide +kernel) (by decide +kernel)
theorem z_656 : (.instanceMethod ⟨"QueryBench$QueryReader", "or", "()LQueryBench$Condition;"⟩ : Cond) ∈ gtbl := gt_in 656 (by decide +kernel) (by decide +kernel)
theorem z_678 : (.fieldLink "QueryBench$QueryReader" 162 "QueryBench$Condition" "first" "LQueryBench$Condition;" : Cond) ∈ gtbl := gt_in 678 (by decide +kernel) (by decide +kernel)
theorem z_701 : (.methodLink "QueryBench$QueryReader" 175 ⟨"QueryBench$QueryReader", "group", "()LQueryBench$Condition;"⟩ : Cond) ∈ gtbl := gt_in 701 (by decide +kernel) (by decide +kernel)
theorem z_703 : (.instanceMethod ⟨"QueryBench$QueryReader", "group", "()LQueryBench$Condition;"⟩ : Cond) ∈ gtbl := gt_in 703 (by decide +kernel) (by decide +kernel)
theorem QPn.wk {cI cV : ClassId} {E E1 : Nat → Nat} {L N : List Nat} {f f1 : Nat → va_E} {i n z s bd dm dm2 r p : Nat} (h : QPn cI cV E L f i n z s bd dm r p N E1 f1) (hd : i + dm2 ≤ p) : QPn cI cV E L f i n z s bd dm2 r p N E1 f1 := ⟨h.1, h.2.1, hd, h.2.2.2⟩
set_option maxHeartbeats 4000000 in
set_option maxRecDepth 100000 in
/-- QueryReader.group -/
theorem c_QR_group (l : Launch) (hl9 : l.stackTraces = false) (K : Nat → Nat × Nat) (dC : Nat → ClassId) (dI : Nat → Nat → Nat) (cI cV : ClassId) (cB : ClassId) (h0 qb qu : Nat) (ln : Int32) (bf : Nat → Int32) (n qr : Nat) (hn0 : n ≤ 4096) (hbf : byR bf) (o : Nat) (ho : o ≤ 16) (ok : Bool) (orL : Nat → Option (Nat × CT)) (cmL : Nat → Option (Nat × OT)) (qyL : Nat → Option (Nat × Bool × QT)) (hok : ok = true ↔ o < 16) (HOr : o < 16 → QCT l K dC dI cI cV cB h0 qb qu ln bf n qr y_QueryReader_or (k_QueryReader_or :: gtbl) [.ref qr] ((o + 1)) (12 * (16 - (o + 1)) + 21) (360 * (16 - (o + 1)) + 630) 20 200 1 0 0 18 10 (5 * (16 - (o + 1)) + 4) 1 0 (OKd KD 2 orL) (NOd orL)) : QCT l K dC dI cI cV cB h0 qb qu ln bf n qr y_QueryReader_group (k_QueryReader_group :: gtbl) [.ref qr] o (12 * (16 - o) + 17) (360 * (16 - o) + 510) 12 150 0 7 0 60 10 (5 * (16 - o)) 2 0 (OKd KD 2 (gpD bf n ok orL)) (NOd (gpD bf n ok orL)) := by
  intro sz E lv L f i uc pl ug hO hin
  refine vx_ofW (cc := b_QueryReader_group) (maxL := 2) (ret := (some (.object "QueryBench$Condition"))) (by decide) rfl ?_
  intro p e s m args below meth c s₁ B hml hex hv
  obtain ⟨rfl, ⟨hsz, hP, hK, hD0⟩, hN, hZ, hC, hV⟩ := hv
  have hx := B.exec
  have hb := B.bytes
  have hr := B.returns
  have hts0 := atoms_spec (ws := k_QueryReader_group :: gtbl) B.pre
  have hts := fun w h => hts0 w (List.mem_cons_of_mem _ h)
  have hown : s.vm.findClass R_QueryReader = some m.cls := findClass_of_methodNamed B.named
  have hlocks := B.notSynchronized
  subst hsz
  have hD := hD0.self (sz := s.heap.size)
  generalize hAe : va_A ([(qr, .inr (5, [.ref h0, .int (nI o)])), (h0, .inr (8, [.ref qb, .ref qu, .int uc, .int ln, .int (nI n), .int (nI i), .int pl])), (qb, .inl (cB, 4096, .inl bf)), (qu, .inl (cI, 4096, .inl ug))] ++ va_pl L f) s.heap.size = A at hD hZ hC ⊢
  have hA : ∀ q : Nat, s.heap.size ≤ q → A q := fun q h => by rw [← hAe]; exact Or.inr h
  have hS : va_S A s.heap s.heap [] := va_S.rf
  have hP : va_P (dC, dI) classes ([(qr, .inr (5, [.ref h0, .int (nI o)])), (h0, .inr (8, [.ref qb, .ref qu, .int uc, .int ln, .int (nI n), .int (nI i), .int pl])), (qb, .inl (cB, 4096, .inl bf)), (qu, .inl (cI, 4096, .inl ug))] ++ va_pl L f) s.heap := hP
  have hl := lv_entry ([.ref qr]) (n := 2) (Nat.le_of_ble_eq_true rfl)
  rw [lg_entry_eq]
  generalize (lg_sl ([.ref qr]) ++ List.replicate (2 - (lg_sl ([.ref qr])).length) Slot.unset).toArray = ls at hl ⊢
  have hl : lv_has ls 2 [(0, .ref qr)] := hl
  have hLz : ∀ a, a ∈ L → a < s.heap.size := fun a ha => va_pl_lt hP ha
  have hi9 : i ≤ n := by omega
  have hP : va_P (dC, dI) classes ([(qr, .inr (5, [.ref h0, .int (nI o)])), (h0, .inr (8, [.ref qb, .ref qu, .int uc, .int ln, .int (nI n), .int (nI i), .int pl])), (qb, .inl (cB, 4096, .inl bf)), (qu, .inl (cI, 4096, .inl ug))] ++ va_pl (L ++ []) f) s.heap := by rw [List.append_nil]; exact hP
  have hD : va_D A ([(qr, .inr (5, [.ref h0, .int (nI o)])), (h0, .inr (8, [.ref qb, .ref qu, .int uc, .int ln, .int (nI n), .int (nI i), .int pl])), (qb, .inl (cB, 4096, .inl bf)), (qu, .inl (cI, 4096, .inl ug))] ++ va_pl (L ++ []) f) := by rw [List.append_nil]; exact hD
  have hG0 : QG cI cV E lv L f i n i s.heap.size [] E lv f := QG.rf hO hi9
  refine lv_aload_n hx hb d_QueryReader_group_0 rfl (lv_at hl 0 rfl) ?_
  refine lv_bipush (v := 40) hx hb d_QueryReader_group_1 (by decide) ?_
  have hPc := hP.sub (ws' := [(qr, .inr (5, [.ref h0, .int (nI o)])), (h0, .inr (8, [.ref qb, .ref qu, .int uc, .int ln, .int (nI n), .int (nI i), .int pl])), (qb, .inl (cB, 4096, .inl bf)), (qu, .inl (cI, 4096, .inl ug))]) [0, 1, 2, 3] rfl
  have hDc := hD.sub (ws' := [(qr, .inr (5, [.ref h0, .int (nI o)])), (h0, .inr (8, [.ref qb, .ref qu, .int uc, .int ln, .int (nI n), .int (nI i), .int pl])), (qb, .inl (cB, 4096, .inl bf)), (qu, .inl (cI, 4096, .inl ug))]) [0, 1, 2, 3] (by decide) rfl
  have hFc := va_free (wc := [(qr, .inr (5, [.ref h0, .int (nI o)])), (h0, .inr (8, [.ref qb, .ref qu, .int uc, .int ln, .int (nI n), .int (nI i), .int pl])), (qb, .inl (cB, 4096, .inl bf)), (qu, .inl (cI, 4096, .inl ug))]) hD hS hA [0, 1, 2, 3] rfl
  have hKc := hK.sub (tys' := [(cB, .byte), (cI, .int)]) [0, 1] rfl
  refine w_same (fun hq0 => ?_)
  refine vx_callv (vx_runV (As := [.int 40]) (rest := []) ⟨hx, hb, hml, hown, hts⟩ (c_QueryReader_takeOpening l hl9 dC dI s.heap cB cI h0 qb qu uc ln pl bf ug n i hn0 (by omega) qr o (by omega) 40 (by decide)) (cwV 1 hts (gt_V (own := R_QueryReader) (C := R_QueryReader) (i := 95) (y := y_QueryReader_takeOpening) i_QueryReader_takeOpening z_594 z_596 (gt_sel (y := y_QueryReader_takeOpening) (n := 2) (by decide +kernel)) w_4) rfl rfl rfl (by decide +kernel) ⟨by show 10 + 1 ≤ 12 * (16 - o) + 17; omega, by show 8 + (2 + 11) + (170) ≤ 360 * (16 - o) + 510; omega⟩) ⟨mx_blind, va_recv hK hP (ci := 5) (q0 := 0) rfl rfl, fun U hU hW => ⟨rfl, ⟨hU, by rw [hU]; exact hPc, va_K.moved hW.alike hKc, hDc.weaken (fun _ _ _ _ => trivial)⟩, hN.warm hW, by rw [hU]; exact ZX.moved' hW.alike (ZX.narrow' (ZX.kept' hZ hS.2.1) hFc)⟩⟩ rfl rfl hl.1 rfl (lv_room (Nat.le_of_ble_eq_true rfl)) d_QueryReader_group_3 ⟨by show 0 + (1) ≤ 8 * (n - i) + 12; omega, by show 0 + (6) ≤ 64 * (n - i) + 150; omega⟩) hS (fun q _ h => hFc q h) hFc (fun q _ h => hFc q h) (fun En ce q9 ⟨ax, cx, px, gx, ox⟩ t9 H1 locs ht hvm hw hB hz1 hk1 hS hce hcv hcl => ?_) (fun _u t9 H1 locs ht hvm hw hB hz1 hk1 hS => ?_)
  · obtain ⟨hEn, hP1, hK1, hD1⟩ := hB
    rw [ht] at hP1
    obtain ⟨hP, hD⟩ := va_joinQ (wr := []) (w1 := [(qr, .inr (5, [.ref h0, .int ox])), (h0, .inr (8, [.ref qb, .ref qu, .int cx, .int ln, .int (nI n), .int ax, .int px])), (qb, .inl (cB, 4096, .inl bf)), (qu, .inl (cI, 4096, .inl gx))]) hP hD [0, 1, 2, 3] [] rfl rfl (by decide) (by decide) hk1 hFc hP1 hD1
    generalize H1 = H at hP hS hce ⊢
    have hP : va_P (dC, dI) classes ([(qr, .inr (5, [.ref h0, .int ox])), (h0, .inr (8, [.ref qb, .ref qu, .int cx, .int ln, .int (nI n), .int ax, .int px])), (qb, .inl (cB, 4096, .inl bf)), (qu, .inl (cI, 4096, .inl gx))] ++ va_pl ((L ++ [])) f) H := hP
    have hD : va_D A ([(qr, .inr (5, [.ref h0, .int ox])), (h0, .inr (8, [.ref qb, .ref qu, .int cx, .int ln, .int (nI n), .int ax, .int px])), (qb, .inl (cB, 4096, .inl bf)), (qu, .inl (cI, 4096, .inl gx))] ++ va_pl ((L ++ [])) f) := hD
    have hP := plP_cut (hP.part (cx := [(qr, .inr (5, [.ref h0, .int ox])), (h0, .inr (8, [.ref qb, .ref qu, .int cx, .int ln, .int (nI n), .int ax, .int px])), (qb, .inl (cB, 4096, .inl bf)), (qu, .inl (cI, 4096, .inl gx))]) [0, 1, 2, 3] rfl) hG0.on
    have hD := plD_cut (hD.part (cx := [(qr, .inr (5, [.ref h0, .int ox])), (h0, .inr (8, [.ref qb, .ref qu, .int cx, .int ln, .int (nI n), .int ax, .int px])), (qb, .inl (cB, 4096, .inl bf)), (qu, .inl (cI, 4096, .inl gx))]) [0, 1, 2, 3] (by decide) rfl) hG0.on
    have hno : (gpD bf n ok orL) i = none := gpD_0 (fun q => hw (hok.mp q.1) q.2)
    exact vx_out (fun x hx => (hex x hx).elim) hlocks hce hcv hcl (fun t9 ht2 ha => ⟨(ax, cx, px, gx, ox), hno, ⟨hEn, by rw [ht2]; exact hP, va_K.moved ha hK, hD⟩, hS.F ht2⟩) hS.2.2 (by show 0 + (1) ≤ 8 * (n - i) + 12; omega) (by show 0 + (6) ≤ 64 * (n - i) + 150; omega)
  · obtain ⟨⟨hP1, hK1, hD1⟩, hz9⟩ := hB
    rw [ht] at hP1
    rw [ht] at hz9
    refine w_tight (hq0.trans hz9) ?_
    have hq0 := hq0.trans hz9
    obtain ⟨hP, hD⟩ := va_joinQ (wr := []) (w1 := [(qr, .inr (5, [.ref h0, .int (nI (o + 1))])), (h0, .inr (8, [.ref qb, .ref qu, .int uc, .int ln, .int (nI n), .int (nI (i + 1)), .int pl])), (qb, .inl (cB, 4096, .inl bf)), (qu, .inl (cI, 4096, .inl ug))]) hP hD [0, 1, 2, 3] [] rfl rfl (by decide) (by decide) hk1 hFc hP1 hD1
    generalize H1 = H at hP hS hq0 ⊢
    have hP : va_P (dC, dI) classes ([(qr, .inr (5, [.ref h0, .int (nI (o + 1))])), (h0, .inr (8, [.ref qb, .ref qu, .int uc, .int ln, .int (nI n), .int (nI (i + 1)), .int pl])), (qb, .inl (cB, 4096, .inl bf)), (qu, .inl (cI, 4096, .inl ug))] ++ va_pl ((L ++ [])) f) H := hP
    have hD : va_D A ([(qr, .inr (5, [.ref h0, .int (nI (o + 1))])), (h0, .inr (8, [.ref qb, .ref qu, .int uc, .int ln, .int (nI n), .int (nI (i + 1)), .int pl])), (qb, .inl (cB, 4096, .inl bf)), (qu, .inl (cI, 4096, .inl ug))] ++ va_pl ((L ++ [])) f) := hD
    obtain ⟨ho21, hl21, hto21⟩ := hw
    have hto21 : hereV bf n i = 40 := hto21
    have ho1 : o < 16 := ho21
    have hl21 : i < n := hl21
    refine lv_aload_n hx hb d_QueryReader_group_6 rfl (lv_at hl 0 rfl) ?_
    have hG22 := hG0.mv (show i ≤ (i + 1) by omega) (show (i + 1) ≤ n by omega)
    have hzz22 : s.heap.size ≤ H.size := hS.1
    have hPc := hP.part (cx := [(qr, .inr (5, [.ref h0, .int (nI (o + 1))])), (h0, .inr (8, [.ref qb, .ref qu, .int uc, .int ln, .int (nI n), .int (nI (i + 1)), .int pl])), (qb, .inl (cB, 4096, .inl bf)), (qu, .inl (cI, 4096, .inl ug))]) [0, 1, 2, 3] rfl
    have hDc := hD.part (cx := [(qr, .inr (5, [.ref h0, .int (nI (o + 1))])), (h0, .inr (8, [.ref qb, .ref qu, .int uc, .int ln, .int (nI n), .int (nI (i + 1)), .int pl])), (qb, .inl (cB, 4096, .inl bf)), (qu, .inl (cI, 4096, .inl ug))]) [0, 1, 2, 3] (by decide) rfl
    have hFc := va_freeP (cx := [(qr, .inr (5, [.ref h0, .int (nI (o + 1))])), (h0, .inr (8, [.ref qb, .ref qu, .int uc, .int ln, .int (nI n), .int (nI (i + 1)), .int pl])), (qb, .inl (cB, 4096, .inl bf)), (qu, .inl (cI, 4096, .inl ug))]) hD hS hA [0, 1, 2, 3] rfl
    have hKc := hK.sub (tys' := [(cB, .byte), (cI, .int), (cV, .object "QueryBench$Value")]) [0, 1, 2] rfl
    refine w_same (fun hq0 => ?_)
    refine vx_callr (vx_runV (As := []) (rest := []) ⟨hx, hb, hml, hown, hts⟩ ((HOr ho1) H E lv (L ++ []) f ((i + 1)) uc pl ug hG22.po (by omega)) (cwV 0 hts (gt_V (own := R_QueryReader) (C := R_QueryReader) (i := 117) (y := y_QueryReader_or) i_QueryReader_or z_654 z_656 (gt_sel (y := y_QueryReader_or) (n := 2) (by decide +kernel)) w_4) rfl rfl rfl (by decide +kernel) ⟨by show 12 * (16 - (o + 1)) + 21 + 1 ≤ 12 * (16 - o) + 17; omega, by show 8 + (5 + 11) + (360 * (16 - (o + 1)) + 630) ≤ 360 * (16 - o) + 510; omega⟩) ⟨ml_blind, va_recv hK hP (ci := 5) (q0 := 0) rfl rfl, fun U hU hW => ⟨rfl, ⟨hU, by rw [hU]; exact hPc, va_K.moved hW.alike hKc, hDc.weaken (fun _ _ _ _ => trivial)⟩, hN.warm hW, by rw [hU]; exact ZX.moved' hW.alike (ZX.narrow' (ZX.kept' hZ hS.2.1) hFc), by rw [hU]; exact CE.call hC hS.2.1 hFc hW, va_AO.moved hW.alike hV⟩⟩ rfl rfl hl.1 rfl (lv_room (Nat.le_of_ble_eq_true rfl)) d_QueryReader_group_7 ⟨by show 0 + (8 * (n - (i + 1)) + 20) ≤ 8 * (n - i) + 12; omega, by show 0 + (64 * (n - (i + 1)) + 200) ≤ 64 * (n - i) + 150; omega⟩) hS (fun q _ h => hFc q h) hFc (fun q _ h => hFc q h) (fun En ce q9 ⟨ax, cx, px, gx, ox⟩ t9 H1 locs ht hvm hw hB hz1 hk1 hS hce hcv hcl => ?_) (fun ⟨w22, p22, N22, E22, f22, uc22, ug22⟩ v22 t9 H1 locs ht hvm hw hB hz1 hk1 hS => ?_)
    · obtain ⟨hEn, hP1, hK1, hD1⟩ := hB
      rw [ht] at hP1
      obtain ⟨hP, hD⟩ := va_joinP (wr := []) (rx := [(qr, .inr (5, [.ref h0, .int ox])), (h0, .inr (8, [.ref qb, .ref qu, .int cx, .int ln, .int (nI n), .int ax, .int px])), (qb, .inl (cB, 4096, .inl bf)), (qu, .inl (cI, 4096, .inl gx))]) (pl1 := va_pl ((L ++ [])) f) hP hD [0, 1, 2, 3] [] rfl rfl (by decide) (by decide) hk1 hFc hP1 hD1
      generalize H1 = H at hP hS hce ⊢
      have hP : va_P (dC, dI) classes ([(qr, .inr (5, [.ref h0, .int ox])), (h0, .inr (8, [.ref qb, .ref qu, .int cx, .int ln, .int (nI n), .int ax, .int px])), (qb, .inl (cB, 4096, .inl bf)), (qu, .inl (cI, 4096, .inl gx))] ++ va_pl ((L ++ [])) f) H := hP
      have hD : va_D A ([(qr, .inr (5, [.ref h0, .int ox])), (h0, .inr (8, [.ref qb, .ref qu, .int cx, .int ln, .int (nI n), .int ax, .int px])), (qb, .inl (cB, 4096, .inl bf)), (qu, .inl (cI, 4096, .inl gx))] ++ va_pl ((L ++ [])) f) := hD
      have hP := plP_cut (hP.part (cx := [(qr, .inr (5, [.ref h0, .int ox])), (h0, .inr (8, [.ref qb, .ref qu, .int cx, .int ln, .int (nI n), .int ax, .int px])), (qb, .inl (cB, 4096, .inl bf)), (qu, .inl (cI, 4096, .inl gx))]) [0, 1, 2, 3] rfl) hG22.on
      have hD := plD_cut (hD.part (cx := [(qr, .inr (5, [.ref h0, .int ox])), (h0, .inr (8, [.ref qb, .ref qu, .int cx, .int ln, .int (nI n), .int ax, .int px])), (qb, .inl (cB, 4096, .inl bf)), (qu, .inl (cI, 4096, .inl gx))]) [0, 1, 2, 3] (by decide) rfl) hG22.on
      have hno : (gpD bf n ok orL) i = none := gpD_1 (hok.mpr ho1) hto21 hw
      exact vx_out (fun x hx => (hex x hx).elim) hlocks hce hcv hcl (fun t9 ht2 ha => ⟨(ax, cx, px, gx, ox), hno, ⟨hEn, by rw [ht2]; exact hP, va_K.moved ha hK, hD⟩, hS.F ht2⟩) hS.2.2 (by show 0 + (8 * (n - (i + 1)) + 20) ≤ 8 * (n - i) + 12; omega) (by show 0 + (64 * (n - (i + 1)) + 200) ≤ 64 * (n - i) + 150; omega)
    · obtain ⟨⟨hP1, hK1, hD1⟩, hz9, ha9⟩ := hB
      rw [ht] at hP1
      rw [ht] at hz9
      have ha9 : v22 = w22 := ha9
      subst ha9
      have hq0 : szk s.heap H1 (0 + (8 * (p22 - (i + 1)) + 1 - 0)) (0 + (64 * (p22 - (i + 1)) + 0 - 18)) := (hq0.trans hz9).mono (Nat.le_refl _) (Nat.le_refl _)
      refine w_tight hq0 ?_
      obtain ⟨hP, hD⟩ := va_joinP (wr := []) (rx := [(qr, .inr (5, [.ref h0, .int (nI (o + 1))])), (h0, .inr (8, [.ref qb, .ref qu, .int uc22, .int ln, .int (nI n), .int (nI p22), .int pl])), (qb, .inl (cB, 4096, .inl bf)), (qu, .inl (cI, 4096, .inl ug22))]) (pl1 := va_pl (((L ++ []) ++ N22)) f22) hP hD [0, 1, 2, 3] [] rfl rfl (by decide) (by decide) hk1 hFc hP1 hD1
      generalize H1 = H at hP hS hq0 ⊢
      have hP : va_P (dC, dI) classes ([(qr, .inr (5, [.ref h0, .int (nI (o + 1))])), (h0, .inr (8, [.ref qb, .ref qu, .int uc22, .int ln, .int (nI n), .int (nI p22), .int pl])), (qb, .inl (cB, 4096, .inl bf)), (qu, .inl (cI, 4096, .inl ug22))] ++ va_pl (((L ++ []) ++ N22)) f22) H := hP
      have hD : va_D A ([(qr, .inr (5, [.ref h0, .int (nI (o + 1))])), (h0, .inr (8, [.ref qb, .ref qu, .int uc22, .int ln, .int (nI n), .int (nI p22), .int pl])), (qb, .inl (cB, 4096, .inl bf)), (qu, .inl (cI, 4096, .inl ug22))] ++ va_pl (((L ++ []) ++ N22)) f22) := hD
      obtain ⟨hw, m22, hf22, hd22⟩ := hw
      have hf22 : orL ((i + 1)) = some (p22, m22) := hf22
      have hd22 : DNx KD 2 E E22 f22 v22 m22 := hd22
      have hQ22 : QPn cI cV E (L ++ []) f ((i + 1)) n _ 10 (5 * (16 - (o + 1)) + 4) 1 v22 p22 N22 E22 f22 := hw
      obtain ⟨lv22, hg22, hlv22⟩ := hQ22.x lv hG22.po _ (Nat.le_refl _)
      have hex22 := hg22.ex
      have hge22 := hg22.ge hQ22.new (by rw [hQ22.so]; decide)
      have hkp22 : KPx E E22 f f22 := KPx.of hg22 hG22.po
      have hnv22 : E v22 = 0 := hQ22.new
      have hsv22 : ¬ E22 v22 = 0 := by rw [hQ22.so]; decide
      have hG22 := hG22.tr hg22 hzz22
      obtain ⟨ha22, hb22⟩ := hQ22.num
      have ha22 : (i + 1) + 1 ≤ p22 := ha22
      have hb22 : p22 ≤ n := hb22
      rw [List.append_assoc] at hP hD
      have hP : va_P (dC, dI) classes ([(qr, .inr (5, [.ref h0, .int (nI (o + 1))])), (h0, .inr (8, [.ref qb, .ref qu, .int uc22, .int ln, .int (nI n), .int (nI p22), .int pl])), (qb, .inl (cB, 4096, .inl bf)), (qu, .inl (cI, 4096, .inl ug22))] ++ va_pl ((L ++ ([] ++ N22))) f22) H := hP
      have hD : va_D A ([(qr, .inr (5, [.ref h0, .int (nI (o + 1))])), (h0, .inr (8, [.ref qb, .ref qu, .int uc22, .int ln, .int (nI n), .int (nI p22), .int pl])), (qb, .inl (cB, 4096, .inl bf)), (qu, .inl (cI, 4096, .inl ug22))] ++ va_pl ((L ++ ([] ++ N22))) f22) := hD
      refine lv_astore_n (lv' := [(1, .ref v22), (0, .ref qr)]) hx hb d_QueryReader_group_10 rfl hl (by decide) rfl (fun ls hl => ?_)
      refine lv_aload_n hx hb d_QueryReader_group_11 rfl (lv_at hl 1 rfl) ?_
      refine lv_bipush (v := 41) hx hb d_QueryReader_group_12 (by decide) ?_
      have hPc := hP.sub (ws' := [(qr, .inr (5, [.ref h0, .int (nI (o + 1))])), (h0, .inr (8, [.ref qb, .ref qu, .int uc22, .int ln, .int (nI n), .int (nI p22), .int pl])), (qb, .inl (cB, 4096, .inl bf)), (qu, .inl (cI, 4096, .inl ug22))]) [0, 1, 2, 3] rfl
      have hDc := hD.sub (ws' := [(qr, .inr (5, [.ref h0, .int (nI (o + 1))])), (h0, .inr (8, [.ref qb, .ref qu, .int uc22, .int ln, .int (nI n), .int (nI p22), .int pl])), (qb, .inl (cB, 4096, .inl bf)), (qu, .inl (cI, 4096, .inl ug22))]) [0, 1, 2, 3] (by decide) rfl
      have hFc := va_free (wc := [(qr, .inr (5, [.ref h0, .int (nI (o + 1))])), (h0, .inr (8, [.ref qb, .ref qu, .int uc22, .int ln, .int (nI n), .int (nI p22), .int pl])), (qb, .inl (cB, 4096, .inl bf)), (qu, .inl (cI, 4096, .inl ug22))]) hD hS hA [0, 1, 2, 3] rfl
      have hKc := hK.sub (tys' := [(cB, .byte), (cI, .int)]) [0, 1] rfl
      refine w_same (fun hq0 => ?_)
      refine vx_callv (vx_runV (As := [.int 41]) (rest := []) ⟨hx, hb, hml, hown, hts⟩ (c_QueryReader_takeClosing l hl9 dC dI H cB cI h0 qb qu uc22 ln pl bf ug22 n p22 hn0 (by omega) qr o 41 (by decide)) (cwV 1 hts (gt_V (own := R_QueryReader) (C := R_QueryReader) (i := 104) (y := y_QueryReader_takeClosing) i_QueryReader_takeClosing z_705 z_707 (gt_sel (y := y_QueryReader_takeClosing) (n := 2) (by decide +kernel)) w_4) rfl rfl rfl (by decide +kernel) ⟨by show 10 + 1 ≤ 12 * (16 - o) + 17; omega, by show 8 + (2 + 11) + (170) ≤ 360 * (16 - o) + 510; omega⟩) ⟨mx_blind, va_recv hK hP (ci := 5) (q0 := 0) rfl rfl, fun U hU hW => ⟨rfl, ⟨hU, by rw [hU]; exact hPc, va_K.moved hW.alike hKc, hDc.weaken (fun _ _ _ _ => trivial)⟩, hN.warm hW, by rw [hU]; exact ZX.moved' hW.alike (ZX.narrow' (ZX.kept' hZ hS.2.1) hFc)⟩⟩ rfl rfl hl.1 rfl (lv_room (Nat.le_of_ble_eq_true rfl)) d_QueryReader_group_14 ⟨by show (0 + (8 * (p22 - (i + 1)) + 1 - 0)) + (1) ≤ 8 * (n - i) + 12; omega, by show (0 + (64 * (p22 - (i + 1)) + 0 - 18)) + (6) ≤ 64 * (n - i) + 150; omega⟩) hS (fun q _ h => hFc q h) hFc (fun q _ h => hFc q h) (fun En ce q9 ⟨ax, cx, px, gx, ox⟩ t9 H1 locs ht hvm hw hB hz1 hk1 hS hce hcv hcl => ?_) (fun _u t9 H1 locs ht hvm hw hB hz1 hk1 hS => ?_)
      · obtain ⟨hEn, hP1, hK1, hD1⟩ := hB
        rw [ht] at hP1
        obtain ⟨hP, hD⟩ := va_joinQ (wr := []) (w1 := [(qr, .inr (5, [.ref h0, .int ox])), (h0, .inr (8, [.ref qb, .ref qu, .int cx, .int ln, .int (nI n), .int ax, .int px])), (qb, .inl (cB, 4096, .inl bf)), (qu, .inl (cI, 4096, .inl gx))]) hP hD [0, 1, 2, 3] [] rfl rfl (by decide) (by decide) hk1 hFc hP1 hD1
        generalize H1 = H at hP hS hce ⊢
        have hP : va_P (dC, dI) classes ([(qr, .inr (5, [.ref h0, .int ox])), (h0, .inr (8, [.ref qb, .ref qu, .int cx, .int ln, .int (nI n), .int ax, .int px])), (qb, .inl (cB, 4096, .inl bf)), (qu, .inl (cI, 4096, .inl gx))] ++ va_pl ((L ++ ([] ++ N22))) f22) H := hP
        have hD : va_D A ([(qr, .inr (5, [.ref h0, .int ox])), (h0, .inr (8, [.ref qb, .ref qu, .int cx, .int ln, .int (nI n), .int ax, .int px])), (qb, .inl (cB, 4096, .inl bf)), (qu, .inl (cI, 4096, .inl gx))] ++ va_pl ((L ++ ([] ++ N22))) f22) := hD
        have hP := plP_cut (hP.part (cx := [(qr, .inr (5, [.ref h0, .int ox])), (h0, .inr (8, [.ref qb, .ref qu, .int cx, .int ln, .int (nI n), .int ax, .int px])), (qb, .inl (cB, 4096, .inl bf)), (qu, .inl (cI, 4096, .inl gx))]) [0, 1, 2, 3] rfl) hG22.on
        have hD := plD_cut (hD.part (cx := [(qr, .inr (5, [.ref h0, .int ox])), (h0, .inr (8, [.ref qb, .ref qu, .int cx, .int ln, .int (nI n), .int ax, .int px])), (qb, .inl (cB, 4096, .inl bf)), (qu, .inl (cI, 4096, .inl gx))]) [0, 1, 2, 3] (by decide) rfl) hG22.on
        have hno : (gpD bf n ok orL) i = none := gpD_2 (hok.mpr ho1) hto21 hf22 hw
        exact vx_out (fun x hx => (hex x hx).elim) hlocks hce hcv hcl (fun t9 ht2 ha => ⟨(ax, cx, px, gx, ox), hno, ⟨hEn, by rw [ht2]; exact hP, va_K.moved ha hK, hD⟩, hS.F ht2⟩) hS.2.2 (by show (0 + (8 * (p22 - (i + 1)) + 1 - 0)) + (1) ≤ 8 * (n - i) + 12; omega) (by show (0 + (64 * (p22 - (i + 1)) + 0 - 18)) + (6) ≤ 64 * (n - i) + 150; omega)
      · obtain ⟨⟨hP1, hK1, hD1⟩, hz9⟩ := hB
        rw [ht] at hP1
        rw [ht] at hz9
        refine w_tight (hq0.trans hz9) ?_
        have hq0 := hq0.trans hz9
        obtain ⟨hP, hD⟩ := va_joinQ (wr := []) (w1 := [(qr, .inr (5, [.ref h0, .int (nI o)])), (h0, .inr (8, [.ref qb, .ref qu, .int uc22, .int ln, .int (nI n), .int (nI (p22 + 1)), .int pl])), (qb, .inl (cB, 4096, .inl bf)), (qu, .inl (cI, 4096, .inl ug22))]) hP hD [0, 1, 2, 3] [] rfl rfl (by decide) (by decide) hk1 hFc hP1 hD1
        generalize H1 = H at hP hS hq0 ⊢
        have hP : va_P (dC, dI) classes ([(qr, .inr (5, [.ref h0, .int (nI o)])), (h0, .inr (8, [.ref qb, .ref qu, .int uc22, .int ln, .int (nI n), .int (nI (p22 + 1)), .int pl])), (qb, .inl (cB, 4096, .inl bf)), (qu, .inl (cI, 4096, .inl ug22))] ++ va_pl ((L ++ ([] ++ N22))) f22) H := hP
        have hD : va_D A ([(qr, .inr (5, [.ref h0, .int (nI o)])), (h0, .inr (8, [.ref qb, .ref qu, .int uc22, .int ln, .int (nI n), .int (nI (p22 + 1)), .int pl])), (qb, .inl (cB, 4096, .inl bf)), (qu, .inl (cI, 4096, .inl ug22))] ++ va_pl ((L ++ ([] ++ N22))) f22) := hD
        obtain ⟨hl23, htc23⟩ := hw
        have htc23 : hereV bf n p22 = 41 := htc23
        have hl23 : p22 < n := hl23
        refine lv_aload_n hx hb d_QueryReader_group_17 rfl (lv_at hl 0 rfl) ?_
        have hQr : QPn cI cV E L f i n s.heap.size 10 (5 * (16 - o)) 2 v22 ((p22 + 1)) (([] ++ N22)) E22 f22 := (QPn.wk ((hQ22.up (dm2 := 1) (by omega) (by omega) hzz22 (by omega) (by omega)).mv (by omega) (by omega)) (by omega))
        have hfin : (gpD bf n ok orL) i = some ((p22 + 1), m22) := gpD_ok (hok.mpr ho1) hto21 hf22 htc23
        have hdn : DNx KD 2 E E22 f22 v22 m22 := hd22
        refine w_same (fun hq => ?_)
        refine W.widen (k := 8 * (n - i) + 12) (n := 64 * (n - i) + 150) (by show (0 + (8 * (p22 - (i + 1)) + 1 - 0)) ≤ 8 * (n - i) + 12; omega) (by show (0 + (64 * (p22 - (i + 1)) + 0 - 18)) ≤ 64 * (n - i) + 150; omega) ?_
        refine vx_ret ?_
        exact W.aret (v := .ref v22) hx hb hr (Or.inl ⟨_, rfl⟩) (Or.inr ⟨_, rfl⟩) (fun t9 ht hW => ⟨⟨(v22, (p22 + 1), ([] ++ N22), E22, f22, uc22, ug22), v22, rfl, ⟨hQr, _, hfin, hdn⟩, ⟨by rw [ht]; exact hP, va_K.moved hW.alike hK, hD⟩, by rw [ht]; exact ⟨hq.mono (by show (0 + (8 * (p22 - (i + 1)) + 1 - 0)) ≤ 8 * ((p22 + 1) - i) + 0 - 7; omega) (by show (0 + (64 * (p22 - (i + 1)) + 0 - 18)) ≤ 64 * ((p22 + 1) - i) + 0 - 60; omega), rfl⟩⟩, hS.F ht⟩) hS.2.2 d_QueryReader_group_18
set_option maxHeartbeats 4000000 in
set_option maxRecDepth 100000 in
/-- QueryReader.negation -/
theorem c_QR_negation (l : Launch) (hl9 : l.stackTraces = false) (K : Nat → Nat × Nat) (dC : Nat → ClassId) (dI : Nat → Nat → Nat) (cI cV : ClassId) (cB : ClassId) (h0 qb qu : Nat) (ln : Int32) (bf : Nat → Int32) (n qr : Nat) (hn0 : n ≤ 4096) (hbf : byR bf) (o : Nat) (ho : o ≤ 16) (ok : Bool) (orL : Nat → Option (Nat × CT)) (cmL : Nat → Option (Nat × OT)) (qyL : Nat → Option (Nat × Bool × QT)) (hok : ok = true ↔ o < 16) (HGr : QCT l K dC dI cI cV cB h0 qb qu ln bf n qr y_QueryReader_group (k_QueryReader_group :: gtbl) [.ref qr] o (12 * (16 - o) + 17) (360 * (16 - o) + 510) 12 150 0 7 0 60 10 (5 * (16 - o)) 2 0 (OKd KD 2 (gpD bf n ok orL)) (NOd (gpD bf n ok orL))) (HAn : QCT l K dC dI cI cV cB h0 qb qu ln bf n qr y_QueryReader_anyQuery (k_QueryReader_anyQuery :: gtbl) [.ref qr] o (12 * (16 - o) + 15) (360 * (16 - o) + 450) 4 50 0 7 0 60 7 (5 * (16 - o)) 1 0 (OKd QD 0 (anyD bf n (qrD bf n ok orL false))) (NOd (anyD bf n (qrD bf n ok orL false)))) : QCT l K dC dI cI cV cB h0 qb qu ln bf n qr y_QueryReader_negation (k_QueryReader_negation :: gtbl) [.ref qr] o (12 * (16 - o) + 18) (360 * (16 - o) + 540) 16 160 0 6 0 50 10 (5 * (16 - o) + 2) 1 1 (OKd KD 2 (ngD bf n ok orL)) (NOd (ngD bf n ok orL)) := by
  intro sz E lv L f i uc pl ug hO hin
  refine vx_ofW (cc := b_QueryReader_negation) (maxL := 2) (ret := (some (.object "QueryBench$Condition"))) (by decide) rfl ?_
  intro p e s m args below meth c s₁ B hml hex hv
  obtain ⟨rfl, ⟨hsz, hP, hK, hD0⟩, hN, hZ, hC, hV⟩ := hv
  have hx := B.exec
  have hb := B.bytes
  have hr := B.returns
  have hts0 := atoms_spec (ws := k_QueryReader_negation :: gtbl) B.pre
  have hts := fun w h => hts0 w (List.mem_cons_of_mem _ h)
  have hown : s.vm.findClass R_QueryReader = some m.cls := findClass_of_methodNamed B.named
  have hlocks := B.notSynchronized
  subst hsz
  have hD := hD0.self (sz := s.heap.size)
  generalize hAe : va_A ([(qr, .inr (5, [.ref h0, .int (nI o)])), (h0, .inr (8, [.ref qb, .ref qu, .int uc, .int ln, .int (nI n), .int (nI i), .int pl])), (qb, .inl (cB, 4096, .inl bf)), (qu, .inl (cI, 4096, .inl ug))] ++ va_pl L f) s.heap.size = A at hD hZ hC ⊢
  have hA : ∀ q : Nat, s.heap.size ≤ q → A q := fun q h => by rw [← hAe]; exact Or.inr h
  have hS : va_S A s.heap s.heap [] := va_S.rf
  have hP : va_P (dC, dI) classes ([(qr, .inr (5, [.ref h0, .int (nI o)])), (h0, .inr (8, [.ref qb, .ref qu, .int uc, .int ln, .int (nI n), .int (nI i), .int pl])), (qb, .inl (cB, 4096, .inl bf)), (qu, .inl (cI, 4096, .inl ug))] ++ va_pl L f) s.heap := hP
  have hl := lv_entry ([.ref qr]) (n := 2) (Nat.le_of_ble_eq_true rfl)
  rw [lg_entry_eq]
  generalize (lg_sl ([.ref qr]) ++ List.replicate (2 - (lg_sl ([.ref qr])).length) Slot.unset).toArray = ls at hl ⊢
  have hl : lv_has ls 2 [(0, .ref qr)] := hl
  have hLz : ∀ a, a ∈ L → a < s.heap.size := fun a ha => va_pl_lt hP ha
  have hi9 : i ≤ n := by omega
  have hP : va_P (dC, dI) classes ([(qr, .inr (5, [.ref h0, .int (nI o)])), (h0, .inr (8, [.ref qb, .ref qu, .int uc, .int ln, .int (nI n), .int (nI i), .int pl])), (qb, .inl (cB, 4096, .inl bf)), (qu, .inl (cI, 4096, .inl ug))] ++ va_pl (L ++ []) f) s.heap := by rw [List.append_nil]; exact hP
  have hD : va_D A ([(qr, .inr (5, [.ref h0, .int (nI o)])), (h0, .inr (8, [.ref qb, .ref qu, .int uc, .int ln, .int (nI n), .int (nI i), .int pl])), (qb, .inl (cB, 4096, .inl bf)), (qu, .inl (cI, 4096, .inl ug))] ++ va_pl (L ++ []) f) := by rw [List.append_nil]; exact hD
  have hG0 : QG cI cV E lv L f i n i s.heap.size [] E lv f := QG.rf hO hi9
  refine lv_aload_n hx hb d_QueryReader_negation_0 rfl (lv_at hl 0 rfl) ?_
  refine va_get (D := (dC, dI)) (ci := 5) (v := .ref h0) (C := R_QueryReader) (T := F_QueryReader) (N := 2) hx hb hts in_QueryReader hown hK hP 0 rfl rfl 0 (by decide) (hts _ w_100) (fun _ h9 => h9) rfl d_QueryReader_negation_1 ?_
  refine lv_dup hx hb d_QueryReader_negation_4 rfl ?_
  refine va_get (D := (dC, dI)) (ci := 8) (v := .int (nI i)) (C := R_Tape) (T := F_Tape) (N := 7) hx hb hts in_Tape hown hK hP 1 rfl rfl 5 (by decide) (hts _ z_53) (fun _ h9 => h9) rfl d_QueryReader_negation_5 ?_
  refine lv_iconst (v := 1) hx hb d_QueryReader_negation_8 (by decide) ?_
  refine lv_iadd hx hb d_QueryReader_negation_9 ?_
  refine W.eq (g2 := F0 m 10 ls [.int (nI (i + 1)), .ref h0]) (by rw [show ((nI i) + 1) = (nI (i + 1)) from nI_1 _]) ?_
  refine va_put (D := (dC, dI)) (ci := 8) (v := .int (nI (i + 1))) (ty := .int) (C := R_Tape) (T := F_Tape) (N := 7) hx hb hts in_Tape t_Tape t_Tape_ok n_Tape hown hK hP hD hS 1 rfl rfl 5 (by decide) (hts _ z_53) (fun _ h9 => h9) rfl (by decide +kernel) rfl rfl (Nat.le_of_ble_eq_true rfl) d_QueryReader_negation_10 (fun H locs hP hD hS => ?_)
  have hP : va_P (dC, dI) classes ([(qr, .inr (5, [.ref h0, .int (nI o)])), (h0, .inr (8, [.ref qb, .ref qu, .int uc, .int ln, .int (nI n), .int (nI (i + 1)), .int pl])), (qb, .inl (cB, 4096, .inl bf)), (qu, .inl (cI, 4096, .inl ug))] ++ va_pl ((L ++ [])) f) H := hP
  have hD : va_D A ([(qr, .inr (5, [.ref h0, .int (nI o)])), (h0, .inr (8, [.ref qb, .ref qu, .int uc, .int ln, .int (nI n), .int (nI (i + 1)), .int pl])), (qb, .inl (cB, 4096, .inl bf)), (qu, .inl (cI, 4096, .inl ug))] ++ va_pl ((L ++ [])) f) := hD
  have hP : va_P (dC, dI) classes ([(qr, .inr (5, [.ref h0, .int (nI o)])), (h0, .inr (8, [.ref qb, .ref qu, .int uc, .int ln, .int (nI n), .int (nI (i + 1)), .int pl])), (qb, .inl (cB, 4096, .inl bf)), (qu, .inl (cI, 4096, .inl ug))] ++ va_pl ((L ++ [])) f) H := hP
  have hD : va_D A ([(qr, .inr (5, [.ref h0, .int (nI o)])), (h0, .inr (8, [.ref qb, .ref qu, .int uc, .int ln, .int (nI n), .int (nI (i + 1)), .int pl])), (qb, .inl (cB, 4096, .inl bf)), (qu, .inl (cI, 4096, .inl ug))] ++ va_pl ((L ++ [])) f) := hD
  refine lv_aload_n hx hb d_QueryReader_negation_13 rfl (lv_at hl 0 rfl) ?_
  refine va_get (D := (dC, dI)) (ci := 5) (v := .ref h0) (C := R_QueryReader) (T := F_QueryReader) (N := 2) hx hb hts in_QueryReader hown hK hP 0 rfl rfl 0 (by decide) (hts _ w_100) (fun _ h9 => h9) rfl d_QueryReader_negation_14 ?_
  have hPc := hP.sub (ws' := [(h0, .inr (8, [.ref qb, .ref qu, .int uc, .int ln, .int (nI n), .int (nI (i + 1)), .int pl])), (qb, .inl (cB, 4096, .inl bf))]) [1, 2] rfl
  have hDc := hD.sub (ws' := [(h0, .inr (8, [.ref qb, .ref qu, .int uc, .int ln, .int (nI n), .int (nI (i + 1)), .int pl])), (qb, .inl (cB, 4096, .inl bf))]) [1, 2] (by decide) rfl
  have hFc := va_free (wc := [(h0, .inr (8, [.ref qb, .ref qu, .int uc, .int ln, .int (nI n), .int (nI (i + 1)), .int pl])), (qb, .inl (cB, 4096, .inl bf))]) hD hS hA [1, 2] rfl
  have hKc := hK.sub (tys' := [(cB, .byte)]) [0] rfl
  refine va_callv (va_runV (As := []) (rest := []) ⟨hx, hb, hml, hown, hts⟩ (c_Tape_skipBlanks l dC dI cB h0 qb H (.ref qu) uc ln pl bf n ((i + 1)) hn0 (by omega)) (cwV 0 hts (gt_V (own := R_QueryReader) (C := R_Tape) (i := 39) (y := y_Tape_skipBlanks) i_Tape_skipBlanks z_563 z_299 z_300 w_2) rfl rfl rfl (by decide +kernel) ⟨by show 0 + 1 ≤ 12 * (16 - o) + 18; omega, by show 8 + (2 + 11) + (0) ≤ 360 * (16 - o) + 540; omega⟩) ⟨mp_blind, va_recv hK hP (ci := 8) (q0 := 1) rfl rfl, fun U hU hW => ⟨rfl, hU, by rw [hU]; exact hPc, va_K.moved hW.alike hKc, hDc.weaken (fun _ _ _ _ => trivial)⟩⟩ rfl rfl hl.1 rfl (lv_room (Nat.le_of_ble_eq_true rfl)) d_QueryReader_negation_17 ⟨by show 0 + (0) ≤ 8 * (n - i) + 16; omega, by show 0 + (0) ≤ 64 * (n - i) + 160; omega⟩) hS (fun q _ h => hFc q h) hFc (fun _u t9 H1 locs ht hvm hw hB hz1 hk1 hS => ?_)
  obtain ⟨hP1, hK1, hD1⟩ := hB
  rw [ht] at hP1
  obtain ⟨hP, hD⟩ := va_joinQ (wr := [(qr, .inr (5, [.ref h0, .int (nI o)])), (qu, .inl (cI, 4096, .inl ug))]) (w1 := [(h0, .inr (8, [.ref qb, .ref qu, .int uc, .int ln, .int (nI n), .int (nI (skipB bf n ((i + 1)))), .int pl])), (qb, .inl (cB, 4096, .inl bf))]) hP hD [1, 2] [0, 3] rfl rfl (by decide) (by decide) hk1 hFc hP1 hD1
  generalize H1 = H at hP hS ⊢
  have hP : va_P (dC, dI) classes ([(qr, .inr (5, [.ref h0, .int (nI o)])), (qu, .inl (cI, 4096, .inl ug)), (h0, .inr (8, [.ref qb, .ref qu, .int uc, .int ln, .int (nI n), .int (nI (skipB bf n ((i + 1)))), .int pl])), (qb, .inl (cB, 4096, .inl bf))] ++ va_pl ((L ++ [])) f) H := hP
  have hD : va_D A ([(qr, .inr (5, [.ref h0, .int (nI o)])), (qu, .inl (cI, 4096, .inl ug)), (h0, .inr (8, [.ref qb, .ref qu, .int uc, .int ln, .int (nI n), .int (nI (skipB bf n ((i + 1)))), .int pl])), (qb, .inl (cB, 4096, .inl bf))] ++ va_pl ((L ++ [])) f) := hD
  have hP := hP.part (cx := [(qr, .inr (5, [.ref h0, .int (nI o)])), (h0, .inr (8, [.ref qb, .ref qu, .int uc, .int ln, .int (nI n), .int (nI (skipB bf n ((i + 1)))), .int pl])), (qb, .inl (cB, 4096, .inl bf)), (qu, .inl (cI, 4096, .inl ug))]) [0, 2, 3, 1] rfl
  have hD := hD.part (cx := [(qr, .inr (5, [.ref h0, .int (nI o)])), (h0, .inr (8, [.ref qb, .ref qu, .int uc, .int ln, .int (nI n), .int (nI (skipB bf n ((i + 1)))), .int pl])), (qb, .inl (cB, 4096, .inl bf)), (qu, .inl (cI, 4096, .inl ug))]) [0, 2, 3, 1] (by decide) rfl
  obtain ⟨p21, h_p21⟩ : ∃ z, z = skipB bf n ((i + 1)) := ⟨_, rfl⟩
  have hb_p21 := skip_b (f := bf) (show ((i + 1)) ≤ n by omega)
  rw [← h_p21] at hP hD hb_p21
  have hP : va_P (dC, dI) classes ([(qr, .inr (5, [.ref h0, .int (nI o)])), (h0, .inr (8, [.ref qb, .ref qu, .int uc, .int ln, .int (nI n), .int (nI p21), .int pl])), (qb, .inl (cB, 4096, .inl bf)), (qu, .inl (cI, 4096, .inl ug))] ++ va_pl ((L ++ [])) f) H := hP
  have hD : va_D A ([(qr, .inr (5, [.ref h0, .int (nI o)])), (h0, .inr (8, [.ref qb, .ref qu, .int uc, .int ln, .int (nI n), .int (nI p21), .int pl])), (qb, .inl (cB, 4096, .inl bf)), (qu, .inl (cI, 4096, .inl ug))] ++ va_pl ((L ++ [])) f) := hD
  refine va_new (ci := 0) (fs := [.int 0, .null, .null, .null, .null, .null]) (C := R_Condition) (T := F_Condition) (N := 6) hx hb hts in_Condition t_Condition t_Condition_ok hown (hts _ z_670) (hts _ z_671) (hts _ z_26) hK hP hD hS hA rfl (fun j hj => by rcases (show j = 0 ∨ j = 1 ∨ j = 2 ∨ j = 3 ∨ j = 4 ∨ j = 5 by omega) with rfl | rfl | rfl | rfl | rfl | rfl <;> rfl) (by show 0 + 1 ≤ 8 * (n - i) + 16; omega) (by show 0 + 6 ≤ 64 * (n - i) + 160; omega) d_QueryReader_negation_20 (fun kc H hP hD hS => ?_)
  have hz_kc := newB (X := [(qr, .inr (5, [.ref h0, .int (nI o)])), (h0, .inr (8, [.ref qb, .ref qu, .int uc, .int ln, .int (nI n), .int (nI p21), .int pl])), (qb, .inl (cB, 4096, .inl bf)), (qu, .inl (cI, 4096, .inl ug))]) hAe hD (fun k x hk => by rcases k with _ | _ | _ | _ | k; (· cases hk; exact ⟨0, _, rfl⟩); (· cases hk; exact ⟨1, _, rfl⟩); (· cases hk; exact ⟨2, _, rfl⟩); (· cases hk; exact ⟨3, _, rfl⟩); (· cases hk))
  have hP := hP.swap
  have hD := hD.swap
  have hP : va_P (dC, dI) classes ([(qr, .inr (5, [.ref h0, .int (nI o)])), (h0, .inr (8, [.ref qb, .ref qu, .int uc, .int ln, .int (nI n), .int (nI p21), .int pl])), (qb, .inl (cB, 4096, .inl bf)), (qu, .inl (cI, 4096, .inl ug)), (kc, .inr (0, [.int 0, .null, .null, .null, .null, .null]))] ++ va_pl ((L ++ [])) f) H := hP
  have hD : va_D A ([(qr, .inr (5, [.ref h0, .int (nI o)])), (h0, .inr (8, [.ref qb, .ref qu, .int uc, .int ln, .int (nI n), .int (nI p21), .int pl])), (qb, .inl (cB, 4096, .inl bf)), (qu, .inl (cI, 4096, .inl ug)), (kc, .inr (0, [.int 0, .null, .null, .null, .null, .null]))] ++ va_pl ((L ++ [])) f) := hD
  refine lv_dup hx hb d_QueryReader_negation_23 rfl ?_
  refine lv_iconst (v := 2) hx hb d_QueryReader_negation_24 (by decide) ?_
  have hPc := hP.sub (ws' := [(kc, .inr (0, [.int 0, .null, .null, .null, .null, .null]))]) [4] rfl
  have hDc := hD.sub (ws' := [(kc, .inr (0, [.int 0, .null, .null, .null, .null, .null]))]) [4] (by decide) rfl
  have hFc := va_free (wc := [(kc, .inr (0, [.int 0, .null, .null, .null, .null, .null]))]) hD hS hA [4] rfl
  have hKc := hK.sub (tys' := []) [] rfl
  refine w_same (fun hq0 => ?_)
  refine va_callv (va_runI (As := [.int 2]) (rest := [.ref kc]) ⟨hx, hb, hml, hown, hts⟩ (c_Condition_init l dC dI H kc 2) (cwI 1 hts (gt_code i_Condition_init) rfl rfl rfl (hts _ z_26) (hts _ z_672) (hts _ z_673) rfl (by decide +kernel) ⟨by show 1 + 1 ≤ 12 * (16 - o) + 18; omega, by show 8 + (2 + 11) + (20) ≤ 360 * (16 - o) + 540; omega⟩) ⟨mp_blind, fun U hU hW => ⟨rfl, hU, by rw [hU]; exact hPc, va_K.moved hW.alike hKc, hDc.weaken (fun _ _ _ _ => trivial)⟩⟩ rfl rfl hl.1 rfl (lv_room (Nat.le_of_ble_eq_true rfl)) d_QueryReader_negation_25 ⟨by show (0 + 1) + (0) ≤ 8 * (n - i) + 16; omega, by show (0 + 6) + (0) ≤ 64 * (n - i) + 160; omega⟩) hS (fun q _ h => hFc q h) hFc (fun _u t9 H1 locs ht hvm hw hB hz1 hk1 hS => ?_)
  obtain ⟨⟨hP1, hK1, hD1⟩, hz9⟩ := hB
  rw [ht] at hP1
  rw [ht] at hz9
  have hq0 : szk s.heap H1 ((0 + 1)) ((0 + 6)) := (hq0.trans hz9).mono (Nat.le_of_eq (Nat.add_zero _)) (Nat.le_of_eq (Nat.add_zero _))
  refine w_tight hq0 ?_
  obtain ⟨hP, hD⟩ := va_joinQ (wr := [(qr, .inr (5, [.ref h0, .int (nI o)])), (h0, .inr (8, [.ref qb, .ref qu, .int uc, .int ln, .int (nI n), .int (nI p21), .int pl])), (qb, .inl (cB, 4096, .inl bf)), (qu, .inl (cI, 4096, .inl ug))]) (w1 := [(kc, .inr (0, [.int 2, .null, .null, .null, .null, .null]))]) hP hD [4] [0, 1, 2, 3] rfl rfl (by decide) (by decide) hk1 hFc hP1 hD1
  generalize H1 = H at hP hS hq0 ⊢
  have hP : va_P (dC, dI) classes ([(qr, .inr (5, [.ref h0, .int (nI o)])), (h0, .inr (8, [.ref qb, .ref qu, .int uc, .int ln, .int (nI n), .int (nI p21), .int pl])), (qb, .inl (cB, 4096, .inl bf)), (qu, .inl (cI, 4096, .inl ug)), (kc, .inr (0, [.int 2, .null, .null, .null, .null, .null]))] ++ va_pl ((L ++ [])) f) H := hP
  have hD : va_D A ([(qr, .inr (5, [.ref h0, .int (nI o)])), (h0, .inr (8, [.ref qb, .ref qu, .int uc, .int ln, .int (nI n), .int (nI p21), .int pl])), (qb, .inl (cB, 4096, .inl bf)), (qu, .inl (cI, 4096, .inl ug)), (kc, .inr (0, [.int 2, .null, .null, .null, .null, .null]))] ++ va_pl ((L ++ [])) f) := hD
  refine lv_astore_n (lv' := [(1, .ref kc), (0, .ref qr)]) hx hb d_QueryReader_negation_28 rfl hl (by decide) rfl (fun ls hl => ?_)
  refine lv_aload_n hx hb d_QueryReader_negation_29 rfl (lv_at hl 1 rfl) ?_
  refine va_get (D := (dC, dI)) (ci := 5) (v := .ref h0) (C := R_QueryReader) (T := F_QueryReader) (N := 2) hx hb hts in_QueryReader hown hK hP 0 rfl rfl 0 (by decide) (hts _ w_100) (fun _ h9 => h9) rfl d_QueryReader_negation_30 ?_
  have hPc := hP.sub (ws' := [(h0, .inr (8, [.ref qb, .ref qu, .int uc, .int ln, .int (nI n), .int (nI p21), .int pl])), (qb, .inl (cB, 4096, .inl bf))]) [1, 2] rfl
  have hDc := hD.sub (ws' := [(h0, .inr (8, [.ref qb, .ref qu, .int uc, .int ln, .int (nI n), .int (nI p21), .int pl])), (qb, .inl (cB, 4096, .inl bf))]) [1, 2] (by decide) rfl
  have hFc := va_free (wc := [(h0, .inr (8, [.ref qb, .ref qu, .int uc, .int ln, .int (nI n), .int (nI p21), .int pl])), (qb, .inl (cB, 4096, .inl bf))]) hD hS hA [1, 2] rfl
  have hKc := hK.sub (tys' := [(cB, .byte)]) [0] rfl
  refine va_calli (va_runV (As := []) (rest := []) ⟨hx, hb, hml, hown, hts⟩ (c_Tape_here l dC dI cB h0 qb H (.ref qu) uc ln pl bf n p21 hn0 (by omega)) (cwV 0 hts (gt_V (own := R_QueryReader) (C := R_Tape) (i := 19) (y := y_Tape_here) i_Tape_here z_534 w_363 w_364 w_2) rfl rfl rfl (by decide +kernel) ⟨by show 0 + 1 ≤ 12 * (16 - o) + 18; omega, by show 8 + (1 + 11) + (0) ≤ 360 * (16 - o) + 540; omega⟩) ⟨mp_blind, va_recv hK hP (ci := 8) (q0 := 1) rfl rfl, fun U hU hW => ⟨rfl, hU, by rw [hU]; exact hPc, va_K.moved hW.alike hKc, hDc.weaken (fun _ _ _ _ => trivial)⟩⟩ rfl rfl hl.1 rfl (lv_room (Nat.le_of_ble_eq_true rfl)) d_QueryReader_negation_33 ⟨by show (0 + 1) + (0) ≤ 8 * (n - i) + 16; omega, by show (0 + 6) + (0) ≤ 64 * (n - i) + 160; omega⟩) hS (fun q _ h => hFc q h) hFc (fun h22 _u t9 H1 locs ht hvm hw hB hz1 hk1 hS => ?_)
  obtain ⟨hP1, hK1, hD1⟩ := hB
  rw [ht] at hP1
  obtain ⟨hP, hD⟩ := va_joinQ (wr := [(qr, .inr (5, [.ref h0, .int (nI o)])), (qu, .inl (cI, 4096, .inl ug)), (kc, .inr (0, [.int 2, .null, .null, .null, .null, .null]))]) (w1 := [(h0, .inr (8, [.ref qb, .ref qu, .int uc, .int ln, .int (nI n), .int (nI p21), .int pl])), (qb, .inl (cB, 4096, .inl bf))]) hP hD [1, 2] [0, 3, 4] rfl rfl (by decide) (by decide) hk1 hFc hP1 hD1
  generalize H1 = H at hP hS ⊢
  have hP : va_P (dC, dI) classes ([(qr, .inr (5, [.ref h0, .int (nI o)])), (qu, .inl (cI, 4096, .inl ug)), (kc, .inr (0, [.int 2, .null, .null, .null, .null, .null])), (h0, .inr (8, [.ref qb, .ref qu, .int uc, .int ln, .int (nI n), .int (nI p21), .int pl])), (qb, .inl (cB, 4096, .inl bf))] ++ va_pl ((L ++ [])) f) H := hP
  have hD : va_D A ([(qr, .inr (5, [.ref h0, .int (nI o)])), (qu, .inl (cI, 4096, .inl ug)), (kc, .inr (0, [.int 2, .null, .null, .null, .null, .null])), (h0, .inr (8, [.ref qb, .ref qu, .int uc, .int ln, .int (nI n), .int (nI p21), .int pl])), (qb, .inl (cB, 4096, .inl bf))] ++ va_pl ((L ++ [])) f) := hD
  have hP := hP.part (cx := [(qr, .inr (5, [.ref h0, .int (nI o)])), (h0, .inr (8, [.ref qb, .ref qu, .int uc, .int ln, .int (nI n), .int (nI p21), .int pl])), (qb, .inl (cB, 4096, .inl bf)), (qu, .inl (cI, 4096, .inl ug)), (kc, .inr (0, [.int 2, .null, .null, .null, .null, .null]))]) [0, 3, 4, 1, 2] rfl
  have hD := hD.part (cx := [(qr, .inr (5, [.ref h0, .int (nI o)])), (h0, .inr (8, [.ref qb, .ref qu, .int uc, .int ln, .int (nI n), .int (nI p21), .int pl])), (qb, .inl (cB, 4096, .inl bf)), (qu, .inl (cI, 4096, .inl ug)), (kc, .inr (0, [.int 2, .null, .null, .null, .null, .null]))]) [0, 3, 4, 1, 2] (by decide) rfl
  have h_h22 : h22 = hereV bf n p21 := hw
  refine lv_bipush (v := 40) hx hb d_QueryReader_negation_36 (by decide) ?_
  refine lv_icmp_ne (tgt := 52) hx hb d_QueryReader_negation_38 (by decide) (fun c38 => ?_) (fun c38 => ?_)
  · refine lv_aload_n hx hb d_QueryReader_negation_52 rfl (lv_at hl 0 rfl) ?_
    refine va_new (ci := 0) (fs := [.int 0, .null, .null, .null, .null, .null]) (C := R_Condition) (T := F_Condition) (N := 6) hx hb hts in_Condition t_Condition t_Condition_ok hown (hts _ z_670) (hts _ z_671) (hts _ z_26) hK hP hD hS hA rfl (fun j hj => by rcases (show j = 0 ∨ j = 1 ∨ j = 2 ∨ j = 3 ∨ j = 4 ∨ j = 5 by omega) with rfl | rfl | rfl | rfl | rfl | rfl <;> rfl) (by show (0 + 1) + 1 ≤ 8 * (n - i) + 16; omega) (by show (0 + 6) + 6 ≤ 64 * (n - i) + 160; omega) d_QueryReader_negation_53 (fun kt H hP hD hS => ?_)
    have hz_kt := newB (X := [(qr, .inr (5, [.ref h0, .int (nI o)])), (h0, .inr (8, [.ref qb, .ref qu, .int uc, .int ln, .int (nI n), .int (nI p21), .int pl])), (qb, .inl (cB, 4096, .inl bf)), (qu, .inl (cI, 4096, .inl ug)), (kc, .inr (0, [.int 2, .null, .null, .null, .null, .null]))]) hAe hD (fun k x hk => by rcases k with _ | _ | _ | _ | k; (· cases hk; exact ⟨0, _, rfl⟩); (· cases hk; exact ⟨1, _, rfl⟩); (· cases hk; exact ⟨2, _, rfl⟩); (· cases hk; exact ⟨3, _, rfl⟩); (· cases hk))
    have hP := hP.swap
    have hD := hD.swap
    have hP : va_P (dC, dI) classes ([(qr, .inr (5, [.ref h0, .int (nI o)])), (h0, .inr (8, [.ref qb, .ref qu, .int uc, .int ln, .int (nI n), .int (nI p21), .int pl])), (qb, .inl (cB, 4096, .inl bf)), (qu, .inl (cI, 4096, .inl ug)), (kc, .inr (0, [.int 2, .null, .null, .null, .null, .null])), (kt, .inr (0, [.int 0, .null, .null, .null, .null, .null]))] ++ va_pl ((L ++ [])) f) H := hP
    have hD : va_D A ([(qr, .inr (5, [.ref h0, .int (nI o)])), (h0, .inr (8, [.ref qb, .ref qu, .int uc, .int ln, .int (nI n), .int (nI p21), .int pl])), (qb, .inl (cB, 4096, .inl bf)), (qu, .inl (cI, 4096, .inl ug)), (kc, .inr (0, [.int 2, .null, .null, .null, .null, .null])), (kt, .inr (0, [.int 0, .null, .null, .null, .null, .null]))] ++ va_pl ((L ++ [])) f) := hD
    refine lv_dup hx hb d_QueryReader_negation_56 rfl ?_
    refine lv_iconst (v := 3) hx hb d_QueryReader_negation_57 (by decide) ?_
    have hPc := hP.sub (ws' := [(kt, .inr (0, [.int 0, .null, .null, .null, .null, .null]))]) [5] rfl
    have hDc := hD.sub (ws' := [(kt, .inr (0, [.int 0, .null, .null, .null, .null, .null]))]) [5] (by decide) rfl
    have hFc := va_free (wc := [(kt, .inr (0, [.int 0, .null, .null, .null, .null, .null]))]) hD hS hA [5] rfl
    have hKc := hK.sub (tys' := []) [] rfl
    refine w_same (fun hq0 => ?_)
    refine va_callv (va_runI (As := [.int 3]) (rest := [.ref kt, .ref kc]) ⟨hx, hb, hml, hown, hts⟩ (c_Condition_init l dC dI H kt 3) (cwI 1 hts (gt_code i_Condition_init) rfl rfl rfl (hts _ z_26) (hts _ z_672) (hts _ z_673) rfl (by decide +kernel) ⟨by show 1 + 1 ≤ 12 * (16 - o) + 18; omega, by show 8 + (2 + 11) + (20) ≤ 360 * (16 - o) + 540; omega⟩) ⟨mp_blind, fun U hU hW => ⟨rfl, hU, by rw [hU]; exact hPc, va_K.moved hW.alike hKc, hDc.weaken (fun _ _ _ _ => trivial)⟩⟩ rfl rfl hl.1 rfl (lv_room (Nat.le_of_ble_eq_true rfl)) d_QueryReader_negation_58 ⟨by show ((0 + 1) + 1) + (0) ≤ 8 * (n - i) + 16; omega, by show ((0 + 6) + 6) + (0) ≤ 64 * (n - i) + 160; omega⟩) hS (fun q _ h => hFc q h) hFc (fun _u t9 H1 locs ht hvm hw hB hz1 hk1 hS => ?_)
    obtain ⟨⟨hP1, hK1, hD1⟩, hz9⟩ := hB
    rw [ht] at hP1
    rw [ht] at hz9
    have hq0 : szk s.heap H1 (((0 + 1) + 1)) (((0 + 6) + 6)) := (hq0.trans hz9).mono (Nat.le_of_eq (Nat.add_zero _)) (Nat.le_of_eq (Nat.add_zero _))
    refine w_tight hq0 ?_
    obtain ⟨hP, hD⟩ := va_joinQ (wr := [(qr, .inr (5, [.ref h0, .int (nI o)])), (h0, .inr (8, [.ref qb, .ref qu, .int uc, .int ln, .int (nI n), .int (nI p21), .int pl])), (qb, .inl (cB, 4096, .inl bf)), (qu, .inl (cI, 4096, .inl ug)), (kc, .inr (0, [.int 2, .null, .null, .null, .null, .null]))]) (w1 := [(kt, .inr (0, [.int 3, .null, .null, .null, .null, .null]))]) hP hD [5] [0, 1, 2, 3, 4] rfl rfl (by decide) (by decide) hk1 hFc hP1 hD1
    generalize H1 = H at hP hS hq0 ⊢
    have hP : va_P (dC, dI) classes ([(qr, .inr (5, [.ref h0, .int (nI o)])), (h0, .inr (8, [.ref qb, .ref qu, .int uc, .int ln, .int (nI n), .int (nI p21), .int pl])), (qb, .inl (cB, 4096, .inl bf)), (qu, .inl (cI, 4096, .inl ug)), (kc, .inr (0, [.int 2, .null, .null, .null, .null, .null])), (kt, .inr (0, [.int 3, .null, .null, .null, .null, .null]))] ++ va_pl ((L ++ [])) f) H := hP
    have hD : va_D A ([(qr, .inr (5, [.ref h0, .int (nI o)])), (h0, .inr (8, [.ref qb, .ref qu, .int uc, .int ln, .int (nI n), .int (nI p21), .int pl])), (qb, .inl (cB, 4096, .inl bf)), (qu, .inl (cI, 4096, .inl ug)), (kc, .inr (0, [.int 2, .null, .null, .null, .null, .null])), (kt, .inr (0, [.int 3, .null, .null, .null, .null, .null]))] ++ va_pl ((L ++ [])) f) := hD
    refine va_put (D := (dC, dI)) (ci := 0) (v := .ref kt) (ty := .object "QueryBench$Condition") (C := R_Condition) (T := F_Condition) (N := 6) hx hb hts in_Condition t_Condition t_Condition_ok n_Condition hown hK hP hD hS 4 rfl rfl 1 (by decide) (hts _ z_678) (fun _ h9 => h9) rfl (by decide +kernel) rfl rfl (Nat.le_of_ble_eq_true rfl) d_QueryReader_negation_61 (fun H locs hP hD hS => ?_)
    have hP : va_P (dC, dI) classes ([(qr, .inr (5, [.ref h0, .int (nI o)])), (h0, .inr (8, [.ref qb, .ref qu, .int uc, .int ln, .int (nI n), .int (nI p21), .int pl])), (qb, .inl (cB, 4096, .inl bf)), (qu, .inl (cI, 4096, .inl ug)), (kc, .inr (0, [.int 2, .ref kt, .null, .null, .null, .null])), (kt, .inr (0, [.int 3, .null, .null, .null, .null, .null]))] ++ va_pl ((L ++ [])) f) H := hP
    have hD : va_D A ([(qr, .inr (5, [.ref h0, .int (nI o)])), (h0, .inr (8, [.ref qb, .ref qu, .int uc, .int ln, .int (nI n), .int (nI p21), .int pl])), (qb, .inl (cB, 4096, .inl bf)), (qu, .inl (cI, 4096, .inl ug)), (kc, .inr (0, [.int 2, .ref kt, .null, .null, .null, .null])), (kt, .inr (0, [.int 3, .null, .null, .null, .null, .null]))] ++ va_pl ((L ++ [])) f) := hD
    refine lv_aload_n hx hb d_QueryReader_negation_64 rfl (lv_at hl 0 rfl) ?_
    refine va_get (D := (dC, dI)) (ci := 0) (v := .ref kt) (C := R_Condition) (T := F_Condition) (N := 6) hx hb hts in_Condition hown hK hP 4 rfl rfl 1 (by decide) (hts _ z_678) (fun _ h9 => h9) rfl d_QueryReader_negation_65 ?_
    refine lv_aload_n hx hb d_QueryReader_negation_68 rfl (lv_at hl 1 rfl) ?_
    have hG23 := hG0.mv (show i ≤ p21 by omega) (show p21 ≤ n by omega)
    have hzz23 : s.heap.size ≤ H.size := hS.1
    have hPc := hP.part (cx := [(qr, .inr (5, [.ref h0, .int (nI o)])), (h0, .inr (8, [.ref qb, .ref qu, .int uc, .int ln, .int (nI n), .int (nI p21), .int pl])), (qb, .inl (cB, 4096, .inl bf)), (qu, .inl (cI, 4096, .inl ug))]) [0, 1, 2, 3] rfl
    have hDc := hD.part (cx := [(qr, .inr (5, [.ref h0, .int (nI o)])), (h0, .inr (8, [.ref qb, .ref qu, .int uc, .int ln, .int (nI n), .int (nI p21), .int pl])), (qb, .inl (cB, 4096, .inl bf)), (qu, .inl (cI, 4096, .inl ug))]) [0, 1, 2, 3] (by decide) rfl
    have hFc := va_freeP (cx := [(qr, .inr (5, [.ref h0, .int (nI o)])), (h0, .inr (8, [.ref qb, .ref qu, .int uc, .int ln, .int (nI n), .int (nI p21), .int pl])), (qb, .inl (cB, 4096, .inl bf)), (qu, .inl (cI, 4096, .inl ug))]) hD hS hA [0, 1, 2, 3] rfl
    have hKc := hK.sub (tys' := [(cB, .byte), (cI, .int), (cV, .object "QueryBench$Value")]) [0, 1, 2] rfl
    refine w_same (fun hq0 => ?_)
    refine vx_callr (vx_runV (As := []) (rest := [.ref kt]) ⟨hx, hb, hml, hown, hts⟩ (HAn H E lv (L ++ []) f p21 uc pl ug hG23.po (by omega)) (cwV 0 hts (gt_V (own := R_QueryReader) (C := R_QueryReader) (i := 192) (y := y_QueryReader_anyQuery) i_QueryReader_anyQuery z_709 z_711 (gt_sel (y := y_QueryReader_anyQuery) (n := 2) (by decide +kernel)) w_4) rfl rfl rfl (by decide +kernel) ⟨by show 12 * (16 - o) + 15 + 1 ≤ 12 * (16 - o) + 18; omega, by show 8 + (1 + 11) + (360 * (16 - o) + 450) ≤ 360 * (16 - o) + 540; omega⟩) ⟨ml_blind, va_recv hK hP (ci := 5) (q0 := 0) rfl rfl, fun U hU hW => ⟨rfl, ⟨hU, by rw [hU]; exact hPc, va_K.moved hW.alike hKc, hDc.weaken (fun _ _ _ _ => trivial)⟩, hN.warm hW, by rw [hU]; exact ZX.moved' hW.alike (ZX.narrow' (ZX.kept' hZ hS.2.1) hFc), by rw [hU]; exact CE.call hC hS.2.1 hFc hW, va_AO.moved hW.alike hV⟩⟩ rfl rfl hl.1 rfl (lv_room (Nat.le_of_ble_eq_true rfl)) d_QueryReader_negation_69 ⟨by show ((0 + 1) + 1) + (8 * (n - p21) + 4) ≤ 8 * (n - i) + 16; omega, by show ((0 + 6) + 6) + (64 * (n - p21) + 50) ≤ 64 * (n - i) + 160; omega⟩) hS (fun q _ h => hFc q h) hFc (fun q _ h => hFc q h) (fun En ce q9 ⟨ax, cx, px, gx, ox⟩ t9 H1 locs ht hvm hw hB hz1 hk1 hS hce hcv hcl => ?_) (fun ⟨w23, p23, N23, E23, f23, uc23, ug23⟩ v23 t9 H1 locs ht hvm hw hB hz1 hk1 hS => ?_)
    · obtain ⟨hEn, hP1, hK1, hD1⟩ := hB
      rw [ht] at hP1
      obtain ⟨hP, hD⟩ := va_joinP (wr := [(kc, .inr (0, [.int 2, .ref kt, .null, .null, .null, .null])), (kt, .inr (0, [.int 3, .null, .null, .null, .null, .null]))]) (rx := [(qr, .inr (5, [.ref h0, .int ox])), (h0, .inr (8, [.ref qb, .ref qu, .int cx, .int ln, .int (nI n), .int ax, .int px])), (qb, .inl (cB, 4096, .inl bf)), (qu, .inl (cI, 4096, .inl gx))]) (pl1 := va_pl ((L ++ [])) f) hP hD [0, 1, 2, 3] [4, 5] rfl rfl (by decide) (by decide) hk1 hFc hP1 hD1
      generalize H1 = H at hP hS hce ⊢
      have hP : va_P (dC, dI) classes ([(kc, .inr (0, [.int 2, .ref kt, .null, .null, .null, .null])), (kt, .inr (0, [.int 3, .null, .null, .null, .null, .null])), (qr, .inr (5, [.ref h0, .int ox])), (h0, .inr (8, [.ref qb, .ref qu, .int cx, .int ln, .int (nI n), .int ax, .int px])), (qb, .inl (cB, 4096, .inl bf)), (qu, .inl (cI, 4096, .inl gx))] ++ va_pl ((L ++ [])) f) H := hP
      have hD : va_D A ([(kc, .inr (0, [.int 2, .ref kt, .null, .null, .null, .null])), (kt, .inr (0, [.int 3, .null, .null, .null, .null, .null])), (qr, .inr (5, [.ref h0, .int ox])), (h0, .inr (8, [.ref qb, .ref qu, .int cx, .int ln, .int (nI n), .int ax, .int px])), (qb, .inl (cB, 4096, .inl bf)), (qu, .inl (cI, 4096, .inl gx))] ++ va_pl ((L ++ [])) f) := hD
      have hP := hP.part (cx := [(qr, .inr (5, [.ref h0, .int ox])), (h0, .inr (8, [.ref qb, .ref qu, .int cx, .int ln, .int (nI n), .int ax, .int px])), (qb, .inl (cB, 4096, .inl bf)), (qu, .inl (cI, 4096, .inl gx)), (kc, .inr (0, [.int 2, .ref kt, .null, .null, .null, .null])), (kt, .inr (0, [.int 3, .null, .null, .null, .null, .null]))]) [2, 3, 4, 5, 0, 1] rfl
      have hD := hD.part (cx := [(qr, .inr (5, [.ref h0, .int ox])), (h0, .inr (8, [.ref qb, .ref qu, .int cx, .int ln, .int (nI n), .int ax, .int px])), (qb, .inl (cB, 4096, .inl bf)), (qu, .inl (cI, 4096, .inl gx)), (kc, .inr (0, [.int 2, .ref kt, .null, .null, .null, .null])), (kt, .inr (0, [.int 3, .null, .null, .null, .null, .null]))]) [2, 3, 4, 5, 0, 1] (by decide) rfl
      have hP := plP_cut (hP.part (cx := [(qr, .inr (5, [.ref h0, .int ox])), (h0, .inr (8, [.ref qb, .ref qu, .int cx, .int ln, .int (nI n), .int ax, .int px])), (qb, .inl (cB, 4096, .inl bf)), (qu, .inl (cI, 4096, .inl gx))]) [0, 1, 2, 3] rfl) hG23.on
      have hD := plD_cut (hD.part (cx := [(qr, .inr (5, [.ref h0, .int ox])), (h0, .inr (8, [.ref qb, .ref qu, .int cx, .int ln, .int (nI n), .int ax, .int px])), (qb, .inl (cB, 4096, .inl bf)), (qu, .inl (cI, 4096, .inl gx))]) [0, 1, 2, 3] (by decide) rfl) hG23.on
      have hno : (ngD bf n ok orL) i = none := ngD_0 h_p21 (fun q => c38 (h_h22.trans q)) hw
      exact vx_out (fun x hx => (hex x hx).elim) hlocks hce hcv hcl (fun t9 ht2 ha => ⟨(ax, cx, px, gx, ox), hno, ⟨hEn, by rw [ht2]; exact hP, va_K.moved ha hK, hD⟩, hS.F ht2⟩) hS.2.2 (by show ((0 + 1) + 1) + (8 * (n - p21) + 4) ≤ 8 * (n - i) + 16; omega) (by show ((0 + 6) + 6) + (64 * (n - p21) + 50) ≤ 64 * (n - i) + 160; omega)
    · obtain ⟨⟨hP1, hK1, hD1⟩, hz9, ha9⟩ := hB
      rw [ht] at hP1
      rw [ht] at hz9
      have ha9 : v23 = w23 := ha9
      subst ha9
      have hq0 : szk s.heap H1 (((0 + 1) + 1) + (8 * (p23 - p21) + 0 - 7)) (((0 + 6) + 6) + (64 * (p23 - p21) + 0 - 60)) := (hq0.trans hz9).mono (Nat.le_refl _) (Nat.le_refl _)
      refine w_tight hq0 ?_
      obtain ⟨hP, hD⟩ := va_joinP (wr := [(kc, .inr (0, [.int 2, .ref kt, .null, .null, .null, .null])), (kt, .inr (0, [.int 3, .null, .null, .null, .null, .null]))]) (rx := [(qr, .inr (5, [.ref h0, .int (nI o)])), (h0, .inr (8, [.ref qb, .ref qu, .int uc23, .int ln, .int (nI n), .int (nI p23), .int pl])), (qb, .inl (cB, 4096, .inl bf)), (qu, .inl (cI, 4096, .inl ug23))]) (pl1 := va_pl (((L ++ []) ++ N23)) f23) hP hD [0, 1, 2, 3] [4, 5] rfl rfl (by decide) (by decide) hk1 hFc hP1 hD1
      generalize H1 = H at hP hS hq0 ⊢
      have hP : va_P (dC, dI) classes ([(kc, .inr (0, [.int 2, .ref kt, .null, .null, .null, .null])), (kt, .inr (0, [.int 3, .null, .null, .null, .null, .null])), (qr, .inr (5, [.ref h0, .int (nI o)])), (h0, .inr (8, [.ref qb, .ref qu, .int uc23, .int ln, .int (nI n), .int (nI p23), .int pl])), (qb, .inl (cB, 4096, .inl bf)), (qu, .inl (cI, 4096, .inl ug23))] ++ va_pl (((L ++ []) ++ N23)) f23) H := hP
      have hD : va_D A ([(kc, .inr (0, [.int 2, .ref kt, .null, .null, .null, .null])), (kt, .inr (0, [.int 3, .null, .null, .null, .null, .null])), (qr, .inr (5, [.ref h0, .int (nI o)])), (h0, .inr (8, [.ref qb, .ref qu, .int uc23, .int ln, .int (nI n), .int (nI p23), .int pl])), (qb, .inl (cB, 4096, .inl bf)), (qu, .inl (cI, 4096, .inl ug23))] ++ va_pl (((L ++ []) ++ N23)) f23) := hD
      have hP := hP.part (cx := [(qr, .inr (5, [.ref h0, .int (nI o)])), (h0, .inr (8, [.ref qb, .ref qu, .int uc23, .int ln, .int (nI n), .int (nI p23), .int pl])), (qb, .inl (cB, 4096, .inl bf)), (qu, .inl (cI, 4096, .inl ug23)), (kc, .inr (0, [.int 2, .ref kt, .null, .null, .null, .null])), (kt, .inr (0, [.int 3, .null, .null, .null, .null, .null]))]) [2, 3, 4, 5, 0, 1] rfl
      have hD := hD.part (cx := [(qr, .inr (5, [.ref h0, .int (nI o)])), (h0, .inr (8, [.ref qb, .ref qu, .int uc23, .int ln, .int (nI n), .int (nI p23), .int pl])), (qb, .inl (cB, 4096, .inl bf)), (qu, .inl (cI, 4096, .inl ug23)), (kc, .inr (0, [.int 2, .ref kt, .null, .null, .null, .null])), (kt, .inr (0, [.int 3, .null, .null, .null, .null, .null]))]) [2, 3, 4, 5, 0, 1] (by decide) rfl
      obtain ⟨hw, m23, hf23, hd23⟩ := hw
      have hf23 : (anyD bf n (qrD bf n ok orL false)) p21 = some (p23, m23) := hf23
      have hd23 : DNx QD 0 E E23 f23 v23 m23 := hd23
      have hQ23 : QPn cI cV E (L ++ []) f p21 n _ 7 (5 * (16 - o)) 1 v23 p23 N23 E23 f23 := hw
      obtain ⟨lv23, hg23, hlv23⟩ := hQ23.x lv hG23.po _ (Nat.le_refl _)
      have hex23 := hg23.ex
      have hge23 := hg23.ge hQ23.new (by rw [hQ23.so]; decide)
      have hkp23 : KPx E E23 f f23 := KPx.of hg23 hG23.po
      have hnv23 : E v23 = 0 := hQ23.new
      have hsv23 : ¬ E23 v23 = 0 := by rw [hQ23.so]; decide
      have hG23 := hG23.tr hg23 hzz23
      obtain ⟨ha23, hb23⟩ := hQ23.num
      have ha23 : p21 + 1 ≤ p23 := ha23
      have hb23 : p23 ≤ n := hb23
      rw [List.append_assoc] at hP hD
      have hP : va_P (dC, dI) classes ([(qr, .inr (5, [.ref h0, .int (nI o)])), (h0, .inr (8, [.ref qb, .ref qu, .int uc23, .int ln, .int (nI n), .int (nI p23), .int pl])), (qb, .inl (cB, 4096, .inl bf)), (qu, .inl (cI, 4096, .inl ug23)), (kc, .inr (0, [.int 2, .ref kt, .null, .null, .null, .null])), (kt, .inr (0, [.int 3, .null, .null, .null, .null, .null]))] ++ va_pl ((L ++ ([] ++ N23))) f23) H := hP
      have hD : va_D A ([(qr, .inr (5, [.ref h0, .int (nI o)])), (h0, .inr (8, [.ref qb, .ref qu, .int uc23, .int ln, .int (nI n), .int (nI p23), .int pl])), (qb, .inl (cB, 4096, .inl bf)), (qu, .inl (cI, 4096, .inl ug23)), (kc, .inr (0, [.int 2, .ref kt, .null, .null, .null, .null])), (kt, .inr (0, [.int 3, .null, .null, .null, .null, .null]))] ++ va_pl ((L ++ ([] ++ N23))) f23) := hD
      refine va_put (D := (dC, dI)) (ci := 0) (v := .ref v23) (ty := .object "QueryBench$Query") (C := R_Condition) (T := F_Condition) (N := 6) hx hb hts in_Condition t_Condition t_Condition_ok n_Condition hown hK hP hD hS 5 rfl rfl 3 (by decide) (hts _ z_682) (fun _ h9 => h9) rfl (by decide +kernel) rfl rfl (Nat.le_of_ble_eq_true rfl) d_QueryReader_negation_72 (fun H locs hP hD hS => ?_)
      have hP : va_P (dC, dI) classes ([(qr, .inr (5, [.ref h0, .int (nI o)])), (h0, .inr (8, [.ref qb, .ref qu, .int uc23, .int ln, .int (nI n), .int (nI p23), .int pl])), (qb, .inl (cB, 4096, .inl bf)), (qu, .inl (cI, 4096, .inl ug23)), (kc, .inr (0, [.int 2, .ref kt, .null, .null, .null, .null])), (kt, .inr (0, [.int 3, .null, .null, .ref v23, .null, .null]))] ++ va_pl ((L ++ ([] ++ N23))) f23) H := hP
      have hD : va_D A ([(qr, .inr (5, [.ref h0, .int (nI o)])), (h0, .inr (8, [.ref qb, .ref qu, .int uc23, .int ln, .int (nI n), .int (nI p23), .int pl])), (qb, .inl (cB, 4096, .inl bf)), (qu, .inl (cI, 4096, .inl ug23)), (kc, .inr (0, [.int 2, .ref kt, .null, .null, .null, .null])), (kt, .inr (0, [.int 3, .null, .null, .ref v23, .null, .null]))] ++ va_pl ((L ++ ([] ++ N23))) f23) := hD
      refine lv_aload_n hx hb d_QueryReader_negation_75 rfl (lv_at hl 0 rfl) ?_
      have hG8 := hG23.mv (show p23 ≤ p23 by omega) (show p23 ≤ n by omega)
      have hL_kt := plD_new (X := [(qr, .inr (5, [.ref h0, .int (nI o)])), (h0, .inr (8, [.ref qb, .ref qu, .int uc23, .int ln, .int (nI n), .int (nI p23), .int pl])), (qb, .inl (cB, 4096, .inl bf)), (qu, .inl (cI, 4096, .inl ug23)), (kc, .inr (0, [.int 2, .ref kt, .null, .null, .null, .null]))]) hD
      have h0_kt : E23 kt = 0 := Classical.byContradiction (fun h => hL_kt (hG8.po.inL h))
      have hP := plP_push (X := [(qr, .inr (5, [.ref h0, .int (nI o)])), (h0, .inr (8, [.ref qb, .ref qu, .int uc23, .int ln, .int (nI n), .int (nI p23), .int pl])), (qb, .inl (cB, 4096, .inl bf)), (qu, .inl (cI, 4096, .inl ug23)), (kc, .inr (0, [.int 2, .ref kt, .null, .null, .null, .null]))]) hP hL_kt
      have hD := plD_push (X := [(qr, .inr (5, [.ref h0, .int (nI o)])), (h0, .inr (8, [.ref qb, .ref qu, .int uc23, .int ln, .int (nI n), .int (nI p23), .int pl])), (qb, .inl (cB, 4096, .inl bf)), (qu, .inl (cI, 4096, .inl ug23)), (kc, .inr (0, [.int 2, .ref kt, .null, .null, .null, .null]))]) hD hL_kt
      rw [List.append_assoc] at hP hD
      have hvs23 : v23 ≠ kt := fun e => by have h9 := hQ23.so; rw [e, h0_kt] at h9; cases h9
      have hG_kt := hG8.add (q := kt) (s := 10) (b := 5 * (16 - o) + 1) (e := kE 3 none none (some v23) none none) h0_kt hL_kt hz_kt (by decide) (by decide) (CO.K (va_up_self _ _ _) ⟨_, _, _, _, _, _, rfl, (fun b h => (nomatch h)), (fun b h => (nomatch h)), (fun b9 h => by cases h; exact ⟨(va_up_ne _ _ hvs23).trans hQ23.so, by rw [va_up_ne _ _ hvs23, va_up_self]; have := hlv23; omega⟩), (fun b h => (nomatch h)), (fun b h => (nomatch h)), fun h => absurd h (by decide), (fun _ h => by cases h), fun _ _ _ h3 => absurd rfl h3⟩)
      have hP : va_P (dC, dI) classes ([(qr, .inr (5, [.ref h0, .int (nI o)])), (h0, .inr (8, [.ref qb, .ref qu, .int uc23, .int ln, .int (nI n), .int (nI p23), .int pl])), (qb, .inl (cB, 4096, .inl bf)), (qu, .inl (cI, 4096, .inl ug23)), (kc, .inr (0, [.int 2, .ref kt, .null, .null, .null, .null]))] ++ va_pl ((L ++ (([] ++ N23) ++ [kt]))) ((va_up f23 kt (kE 3 none none (some v23) none none)))) H := hP
      have hD : va_D A ([(qr, .inr (5, [.ref h0, .int (nI o)])), (h0, .inr (8, [.ref qb, .ref qu, .int uc23, .int ln, .int (nI n), .int (nI p23), .int pl])), (qb, .inl (cB, 4096, .inl bf)), (qu, .inl (cI, 4096, .inl ug23)), (kc, .inr (0, [.int 2, .ref kt, .null, .null, .null, .null]))] ++ va_pl ((L ++ (([] ++ N23) ++ [kt]))) ((va_up f23 kt (kE 3 none none (some v23) none none)))) := hD
      have hL_kc := plD_new (X := [(qr, .inr (5, [.ref h0, .int (nI o)])), (h0, .inr (8, [.ref qb, .ref qu, .int uc23, .int ln, .int (nI n), .int (nI p23), .int pl])), (qb, .inl (cB, 4096, .inl bf)), (qu, .inl (cI, 4096, .inl ug23))]) hD
      have h0_kc : ((va_up E23 kt 10)) kc = 0 := Classical.byContradiction (fun h => hL_kc (hG_kt.po.inL h))
      have hE_kc : E kc = 0 := hG_kt.ex.z h0_kc
      have hP := plP_push (X := [(qr, .inr (5, [.ref h0, .int (nI o)])), (h0, .inr (8, [.ref qb, .ref qu, .int uc23, .int ln, .int (nI n), .int (nI p23), .int pl])), (qb, .inl (cB, 4096, .inl bf)), (qu, .inl (cI, 4096, .inl ug23))]) hP hL_kc
      have hD := plD_push (X := [(qr, .inr (5, [.ref h0, .int (nI o)])), (h0, .inr (8, [.ref qb, .ref qu, .int uc23, .int ln, .int (nI n), .int (nI p23), .int pl])), (qb, .inl (cB, 4096, .inl bf)), (qu, .inl (cI, 4096, .inl ug23))]) hD hL_kc
      rw [List.append_assoc] at hP hD
      have hQ_kc : QPn cI cV E L f i n s.heap.size 10 (5 * (16 - o) + 2) 1 kc p23 ((([] ++ N23) ++ [kt]) ++ [kc]) (va_up ((va_up E23 kt 10)) kc 10) (va_up ((va_up f23 kt (kE 3 none none (some v23) none none))) kc (kE 2 (some kt) none none none none)) := by
        refine ⟨hE_kc, va_up_self _ _ _, by omega, by omega, fun lv hO b hb => ?_⟩
        have g0 : QG cI cV E lv L f i n p21 s.heap.size [] E lv f := (QG.rf hO hi9).mv (by omega) (by omega)
        obtain ⟨lv1, g1, c1⟩ := hQ23.x lv g0.po (b - 2) (by omega)
        have g1 := g0.tr g1 hzz23
        have g2 := g1.add (q := kt) (s := 10) (b := b - 1) (e := kE 3 none none (some v23) none none) h0_kt hL_kt hz_kt (by decide) (by decide) (CO.K (va_up_self _ _ _) ⟨_, _, _, _, _, _, rfl, (fun b h => (nomatch h)), (fun b h => (nomatch h)), (fun b9 h => by cases h; exact ⟨(va_up_ne _ _ hvs23).trans hQ23.so, by rw [va_up_ne _ _ hvs23, va_up_self]; have := c1; omega⟩), (fun b h => (nomatch h)), (fun b h => (nomatch h)), fun h => absurd h (by decide), (fun _ h => by cases h), fun _ _ _ h3 => absurd rfl h3⟩)
        have hkt : kt ≠ kc := fun e => by rw [← e, va_up_self] at h0_kc; cases h0_kc
        exact ⟨va_up (va_up lv1 kt (b - 1)) kc b, g2.add (q := kc) (s := 10) (b := b) (e := kE 2 (some kt) none none none none) h0_kc hL_kc hz_kc (by decide) (by decide) (CO.K (va_up_self _ _ _) ⟨_, _, _, _, _, _, rfl, ⟨(fun b9 h => by cases h; exact ⟨(va_up_ne _ _ hkt).trans (va_up_self _ _ _), by rw [va_up_ne _ _ hkt, va_up_self, va_up_self]; omega⟩), (fun b h => (nomatch h)), (fun b h => (nomatch h)), (fun b h => (nomatch h)), (fun b h => (nomatch h)), (fun _ h => by cases h), fun h => absurd h (by decide), fun _ _ h2 _ => absurd rfl h2⟩⟩), va_up_self _ _ _⟩
      have hP : va_P (dC, dI) classes ([(qr, .inr (5, [.ref h0, .int (nI o)])), (h0, .inr (8, [.ref qb, .ref qu, .int uc23, .int ln, .int (nI n), .int (nI p23), .int pl])), (qb, .inl (cB, 4096, .inl bf)), (qu, .inl (cI, 4096, .inl ug23))] ++ va_pl ((L ++ ((([] ++ N23) ++ [kt]) ++ [kc]))) ((va_up ((va_up f23 kt (kE 3 none none (some v23) none none))) kc (kE 2 (some kt) none none none none)))) H := hP
      have hD : va_D A ([(qr, .inr (5, [.ref h0, .int (nI o)])), (h0, .inr (8, [.ref qb, .ref qu, .int uc23, .int ln, .int (nI n), .int (nI p23), .int pl])), (qb, .inl (cB, 4096, .inl bf)), (qu, .inl (cI, 4096, .inl ug23))] ++ va_pl ((L ++ ((([] ++ N23) ++ [kt]) ++ [kc]))) ((va_up ((va_up f23 kt (kE 3 none none (some v23) none none))) kc (kE 2 (some kt) none none none none)))) := hD
      have hQr : QPn cI cV E L f i n s.heap.size 10 (5 * (16 - o) + 2) 1 kc p23 (((([] ++ N23) ++ [kt]) ++ [kc])) ((va_up ((va_up E23 kt 10)) kc 10)) ((va_up ((va_up f23 kt (kE 3 none none (some v23) none none))) kc (kE 2 (some kt) none none none none))) := hQ_kc
      have hfin : (ngD bf n ok orL) i = some (p23, notC (tstC m23)) := ngD_a h_p21 (fun q => c38 (h_h22.trans q)) hf23
      have hdn : DNx KD 2 E ((va_up ((va_up E23 kt 10)) kc 10)) ((va_up ((va_up f23 kt (kE 3 none none (some v23) none none))) kc (kE 2 (some kt) none none none none))) kc (notC (tstC m23)) := DNx.not (DNx.tst hd23 hnv23 hsv23 h0_kt) (hG23.ex.z h0_kt) (by rw [va_up_self]; decide) h0_kc
      refine w_same (fun hq => ?_)
      refine W.widen (k := 8 * (n - i) + 16) (n := 64 * (n - i) + 160) (by show (((0 + 1) + 1) + (8 * (p23 - p21) + 0 - 7)) ≤ 8 * (n - i) + 16; omega) (by show (((0 + 6) + 6) + (64 * (p23 - p21) + 0 - 60)) ≤ 64 * (n - i) + 160; omega) ?_
      refine vx_ret ?_
      exact W.aret (v := .ref kc) hx hb hr (Or.inl ⟨_, rfl⟩) (Or.inr ⟨_, rfl⟩) (fun t9 ht hW => ⟨⟨(kc, p23, ((([] ++ N23) ++ [kt]) ++ [kc]), (va_up ((va_up E23 kt 10)) kc 10), (va_up ((va_up f23 kt (kE 3 none none (some v23) none none))) kc (kE 2 (some kt) none none none none)), uc23, ug23), kc, rfl, ⟨hQr, _, hfin, hdn⟩, ⟨by rw [ht]; exact hP, va_K.moved hW.alike hK, hD⟩, by rw [ht]; exact ⟨hq.mono (by show (((0 + 1) + 1) + (8 * (p23 - p21) + 0 - 7)) ≤ 8 * (p23 - i) + 0 - 6; omega) (by show (((0 + 6) + 6) + (64 * (p23 - p21) + 0 - 60)) ≤ 64 * (p23 - i) + 0 - 50; omega), rfl⟩⟩, hS.F ht⟩) hS.2.2 d_QueryReader_negation_76
  · refine lv_aload_n hx hb d_QueryReader_negation_41 rfl (lv_at hl 0 rfl) ?_
    refine lv_aload_n hx hb d_QueryReader_negation_42 rfl (lv_at hl 1 rfl) ?_
    have hG24 := hG0.mv (show i ≤ p21 by omega) (show p21 ≤ n by omega)
    have hzz24 : s.heap.size ≤ H.size := hS.1
    have hPc := hP.part (cx := [(qr, .inr (5, [.ref h0, .int (nI o)])), (h0, .inr (8, [.ref qb, .ref qu, .int uc, .int ln, .int (nI n), .int (nI p21), .int pl])), (qb, .inl (cB, 4096, .inl bf)), (qu, .inl (cI, 4096, .inl ug))]) [0, 1, 2, 3] rfl
    have hDc := hD.part (cx := [(qr, .inr (5, [.ref h0, .int (nI o)])), (h0, .inr (8, [.ref qb, .ref qu, .int uc, .int ln, .int (nI n), .int (nI p21), .int pl])), (qb, .inl (cB, 4096, .inl bf)), (qu, .inl (cI, 4096, .inl ug))]) [0, 1, 2, 3] (by decide) rfl
    have hFc := va_freeP (cx := [(qr, .inr (5, [.ref h0, .int (nI o)])), (h0, .inr (8, [.ref qb, .ref qu, .int uc, .int ln, .int (nI n), .int (nI p21), .int pl])), (qb, .inl (cB, 4096, .inl bf)), (qu, .inl (cI, 4096, .inl ug))]) hD hS hA [0, 1, 2, 3] rfl
    have hKc := hK.sub (tys' := [(cB, .byte), (cI, .int), (cV, .object "QueryBench$Value")]) [0, 1, 2] rfl
    refine w_same (fun hq0 => ?_)
    refine vx_callr (vx_runV (As := []) (rest := [.ref kc]) ⟨hx, hb, hml, hown, hts⟩ (HGr H E lv (L ++ []) f p21 uc pl ug hG24.po (by omega)) (cwV 0 hts (gt_V (own := R_QueryReader) (C := R_QueryReader) (i := 175) (y := y_QueryReader_group) i_QueryReader_group z_701 z_703 (gt_sel (y := y_QueryReader_group) (n := 2) (by decide +kernel)) w_4) rfl rfl rfl (by decide +kernel) ⟨by show 12 * (16 - o) + 17 + 1 ≤ 12 * (16 - o) + 18; omega, by show 8 + (2 + 11) + (360 * (16 - o) + 510) ≤ 360 * (16 - o) + 540; omega⟩) ⟨ml_blind, va_recv hK hP (ci := 5) (q0 := 0) rfl rfl, fun U hU hW => ⟨rfl, ⟨hU, by rw [hU]; exact hPc, va_K.moved hW.alike hKc, hDc.weaken (fun _ _ _ _ => trivial)⟩, hN.warm hW, by rw [hU]; exact ZX.moved' hW.alike (ZX.narrow' (ZX.kept' hZ hS.2.1) hFc), by rw [hU]; exact CE.call hC hS.2.1 hFc hW, va_AO.moved hW.alike hV⟩⟩ rfl rfl hl.1 rfl (lv_room (Nat.le_of_ble_eq_true rfl)) d_QueryReader_negation_43 ⟨by show (0 + 1) + (8 * (n - p21) + 12) ≤ 8 * (n - i) + 16; omega, by show (0 + 6) + (64 * (n - p21) + 150) ≤ 64 * (n - i) + 160; omega⟩) hS (fun q _ h => hFc q h) hFc (fun q _ h => hFc q h) (fun En ce q9 ⟨ax, cx, px, gx, ox⟩ t9 H1 locs ht hvm hw hB hz1 hk1 hS hce hcv hcl => ?_) (fun ⟨w24, p24, N24, E24, f24, uc24, ug24⟩ v24 t9 H1 locs ht hvm hw hB hz1 hk1 hS => ?_)
    · obtain ⟨hEn, hP1, hK1, hD1⟩ := hB
      rw [ht] at hP1
      obtain ⟨hP, hD⟩ := va_joinP (wr := [(kc, .inr (0, [.int 2, .null, .null, .null, .null, .null]))]) (rx := [(qr, .inr (5, [.ref h0, .int ox])), (h0, .inr (8, [.ref qb, .ref qu, .int cx, .int ln, .int (nI n), .int ax, .int px])), (qb, .inl (cB, 4096, .inl bf)), (qu, .inl (cI, 4096, .inl gx))]) (pl1 := va_pl ((L ++ [])) f) hP hD [0, 1, 2, 3] [4] rfl rfl (by decide) (by decide) hk1 hFc hP1 hD1
      generalize H1 = H at hP hS hce ⊢
      have hP : va_P (dC, dI) classes ([(kc, .inr (0, [.int 2, .null, .null, .null, .null, .null])), (qr, .inr (5, [.ref h0, .int ox])), (h0, .inr (8, [.ref qb, .ref qu, .int cx, .int ln, .int (nI n), .int ax, .int px])), (qb, .inl (cB, 4096, .inl bf)), (qu, .inl (cI, 4096, .inl gx))] ++ va_pl ((L ++ [])) f) H := hP
      have hD : va_D A ([(kc, .inr (0, [.int 2, .null, .null, .null, .null, .null])), (qr, .inr (5, [.ref h0, .int ox])), (h0, .inr (8, [.ref qb, .ref qu, .int cx, .int ln, .int (nI n), .int ax, .int px])), (qb, .inl (cB, 4096, .inl bf)), (qu, .inl (cI, 4096, .inl gx))] ++ va_pl ((L ++ [])) f) := hD
      have hP := hP.part (cx := [(qr, .inr (5, [.ref h0, .int ox])), (h0, .inr (8, [.ref qb, .ref qu, .int cx, .int ln, .int (nI n), .int ax, .int px])), (qb, .inl (cB, 4096, .inl bf)), (qu, .inl (cI, 4096, .inl gx)), (kc, .inr (0, [.int 2, .null, .null, .null, .null, .null]))]) [1, 2, 3, 4, 0] rfl
      have hD := hD.part (cx := [(qr, .inr (5, [.ref h0, .int ox])), (h0, .inr (8, [.ref qb, .ref qu, .int cx, .int ln, .int (nI n), .int ax, .int px])), (qb, .inl (cB, 4096, .inl bf)), (qu, .inl (cI, 4096, .inl gx)), (kc, .inr (0, [.int 2, .null, .null, .null, .null, .null]))]) [1, 2, 3, 4, 0] (by decide) rfl
      have hP := plP_cut (hP.part (cx := [(qr, .inr (5, [.ref h0, .int ox])), (h0, .inr (8, [.ref qb, .ref qu, .int cx, .int ln, .int (nI n), .int ax, .int px])), (qb, .inl (cB, 4096, .inl bf)), (qu, .inl (cI, 4096, .inl gx))]) [0, 1, 2, 3] rfl) hG24.on
      have hD := plD_cut (hD.part (cx := [(qr, .inr (5, [.ref h0, .int ox])), (h0, .inr (8, [.ref qb, .ref qu, .int cx, .int ln, .int (nI n), .int ax, .int px])), (qb, .inl (cB, 4096, .inl bf)), (qu, .inl (cI, 4096, .inl gx))]) [0, 1, 2, 3] (by decide) rfl) hG24.on
      have hno : (ngD bf n ok orL) i = none := (ngD_g h_p21 (h_h22.symm.trans c38)).trans (mp_none hw)
      exact vx_out (fun x hx => (hex x hx).elim) hlocks hce hcv hcl (fun t9 ht2 ha => ⟨(ax, cx, px, gx, ox), hno, ⟨hEn, by rw [ht2]; exact hP, va_K.moved ha hK, hD⟩, hS.F ht2⟩) hS.2.2 (by show (0 + 1) + (8 * (n - p21) + 12) ≤ 8 * (n - i) + 16; omega) (by show (0 + 6) + (64 * (n - p21) + 150) ≤ 64 * (n - i) + 160; omega)
    · obtain ⟨⟨hP1, hK1, hD1⟩, hz9, ha9⟩ := hB
      rw [ht] at hP1
      rw [ht] at hz9
      have ha9 : v24 = w24 := ha9
      subst ha9
      have hq0 : szk s.heap H1 ((0 + 1) + (8 * (p24 - p21) + 0 - 7)) ((0 + 6) + (64 * (p24 - p21) + 0 - 60)) := (hq0.trans hz9).mono (Nat.le_refl _) (Nat.le_refl _)
      refine w_tight hq0 ?_
      obtain ⟨hP, hD⟩ := va_joinP (wr := [(kc, .inr (0, [.int 2, .null, .null, .null, .null, .null]))]) (rx := [(qr, .inr (5, [.ref h0, .int (nI o)])), (h0, .inr (8, [.ref qb, .ref qu, .int uc24, .int ln, .int (nI n), .int (nI p24), .int pl])), (qb, .inl (cB, 4096, .inl bf)), (qu, .inl (cI, 4096, .inl ug24))]) (pl1 := va_pl (((L ++ []) ++ N24)) f24) hP hD [0, 1, 2, 3] [4] rfl rfl (by decide) (by decide) hk1 hFc hP1 hD1
      generalize H1 = H at hP hS hq0 ⊢
      have hP : va_P (dC, dI) classes ([(kc, .inr (0, [.int 2, .null, .null, .null, .null, .null])), (qr, .inr (5, [.ref h0, .int (nI o)])), (h0, .inr (8, [.ref qb, .ref qu, .int uc24, .int ln, .int (nI n), .int (nI p24), .int pl])), (qb, .inl (cB, 4096, .inl bf)), (qu, .inl (cI, 4096, .inl ug24))] ++ va_pl (((L ++ []) ++ N24)) f24) H := hP
      have hD : va_D A ([(kc, .inr (0, [.int 2, .null, .null, .null, .null, .null])), (qr, .inr (5, [.ref h0, .int (nI o)])), (h0, .inr (8, [.ref qb, .ref qu, .int uc24, .int ln, .int (nI n), .int (nI p24), .int pl])), (qb, .inl (cB, 4096, .inl bf)), (qu, .inl (cI, 4096, .inl ug24))] ++ va_pl (((L ++ []) ++ N24)) f24) := hD
      have hP := hP.part (cx := [(qr, .inr (5, [.ref h0, .int (nI o)])), (h0, .inr (8, [.ref qb, .ref qu, .int uc24, .int ln, .int (nI n), .int (nI p24), .int pl])), (qb, .inl (cB, 4096, .inl bf)), (qu, .inl (cI, 4096, .inl ug24)), (kc, .inr (0, [.int 2, .null, .null, .null, .null, .null]))]) [1, 2, 3, 4, 0] rfl
      have hD := hD.part (cx := [(qr, .inr (5, [.ref h0, .int (nI o)])), (h0, .inr (8, [.ref qb, .ref qu, .int uc24, .int ln, .int (nI n), .int (nI p24), .int pl])), (qb, .inl (cB, 4096, .inl bf)), (qu, .inl (cI, 4096, .inl ug24)), (kc, .inr (0, [.int 2, .null, .null, .null, .null, .null]))]) [1, 2, 3, 4, 0] (by decide) rfl
      obtain ⟨hw, m24, hf24, hd24⟩ := hw
      have hf24 : (gpD bf n ok orL) p21 = some (p24, m24) := hf24
      have hd24 : DNx KD 2 E E24 f24 v24 m24 := hd24
      have hQ24 : QPn cI cV E (L ++ []) f p21 n _ 10 (5 * (16 - o)) 2 v24 p24 N24 E24 f24 := hw
      obtain ⟨lv24, hg24, hlv24⟩ := hQ24.x lv hG24.po _ (Nat.le_refl _)
      have hex24 := hg24.ex
      have hge24 := hg24.ge hQ24.new (by rw [hQ24.so]; decide)
      have hkp24 : KPx E E24 f f24 := KPx.of hg24 hG24.po
      have hnv24 : E v24 = 0 := hQ24.new
      have hsv24 : ¬ E24 v24 = 0 := by rw [hQ24.so]; decide
      have hG24 := hG24.tr hg24 hzz24
      obtain ⟨ha24, hb24⟩ := hQ24.num
      have ha24 : p21 + 2 ≤ p24 := ha24
      have hb24 : p24 ≤ n := hb24
      rw [List.append_assoc] at hP hD
      have hP : va_P (dC, dI) classes ([(qr, .inr (5, [.ref h0, .int (nI o)])), (h0, .inr (8, [.ref qb, .ref qu, .int uc24, .int ln, .int (nI n), .int (nI p24), .int pl])), (qb, .inl (cB, 4096, .inl bf)), (qu, .inl (cI, 4096, .inl ug24)), (kc, .inr (0, [.int 2, .null, .null, .null, .null, .null]))] ++ va_pl ((L ++ ([] ++ N24))) f24) H := hP
      have hD : va_D A ([(qr, .inr (5, [.ref h0, .int (nI o)])), (h0, .inr (8, [.ref qb, .ref qu, .int uc24, .int ln, .int (nI n), .int (nI p24), .int pl])), (qb, .inl (cB, 4096, .inl bf)), (qu, .inl (cI, 4096, .inl ug24)), (kc, .inr (0, [.int 2, .null, .null, .null, .null, .null]))] ++ va_pl ((L ++ ([] ++ N24))) f24) := hD
      refine va_put (D := (dC, dI)) (ci := 0) (v := .ref v24) (ty := .object "QueryBench$Condition") (C := R_Condition) (T := F_Condition) (N := 6) hx hb hts in_Condition t_Condition t_Condition_ok n_Condition hown hK hP hD hS 4 rfl rfl 1 (by decide) (hts _ z_678) (fun _ h9 => h9) rfl (by decide +kernel) rfl rfl (Nat.le_of_ble_eq_true rfl) d_QueryReader_negation_46 (fun H locs hP hD hS => ?_)
      have hP : va_P (dC, dI) classes ([(qr, .inr (5, [.ref h0, .int (nI o)])), (h0, .inr (8, [.ref qb, .ref qu, .int uc24, .int ln, .int (nI n), .int (nI p24), .int pl])), (qb, .inl (cB, 4096, .inl bf)), (qu, .inl (cI, 4096, .inl ug24)), (kc, .inr (0, [.int 2, .ref v24, .null, .null, .null, .null]))] ++ va_pl ((L ++ ([] ++ N24))) f24) H := hP
      have hD : va_D A ([(qr, .inr (5, [.ref h0, .int (nI o)])), (h0, .inr (8, [.ref qb, .ref qu, .int uc24, .int ln, .int (nI n), .int (nI p24), .int pl])), (qb, .inl (cB, 4096, .inl bf)), (qu, .inl (cI, 4096, .inl ug24)), (kc, .inr (0, [.int 2, .ref v24, .null, .null, .null, .null]))] ++ va_pl ((L ++ ([] ++ N24))) f24) := hD
      refine lv_goto (tgt := 75) hx hb d_QueryReader_negation_49 (by decide) ?_
      refine lv_aload_n hx hb d_QueryReader_negation_75 rfl (lv_at hl 0 rfl) ?_
      have hG8 := hG24.mv (show p24 ≤ p24 by omega) (show p24 ≤ n by omega)
      have hL_kc := plD_new (X := [(qr, .inr (5, [.ref h0, .int (nI o)])), (h0, .inr (8, [.ref qb, .ref qu, .int uc24, .int ln, .int (nI n), .int (nI p24), .int pl])), (qb, .inl (cB, 4096, .inl bf)), (qu, .inl (cI, 4096, .inl ug24))]) hD
      have h0_kc : E24 kc = 0 := Classical.byContradiction (fun h => hL_kc (hG8.po.inL h))
      have hE_kc : E kc = 0 := hG8.ex.z h0_kc
      have hP := plP_push (X := [(qr, .inr (5, [.ref h0, .int (nI o)])), (h0, .inr (8, [.ref qb, .ref qu, .int uc24, .int ln, .int (nI n), .int (nI p24), .int pl])), (qb, .inl (cB, 4096, .inl bf)), (qu, .inl (cI, 4096, .inl ug24))]) hP hL_kc
      have hD := plD_push (X := [(qr, .inr (5, [.ref h0, .int (nI o)])), (h0, .inr (8, [.ref qb, .ref qu, .int uc24, .int ln, .int (nI n), .int (nI p24), .int pl])), (qb, .inl (cB, 4096, .inl bf)), (qu, .inl (cI, 4096, .inl ug24))]) hD hL_kc
      rw [List.append_assoc] at hP hD
      have hQ_kc : QPn cI cV E L f i n s.heap.size 10 (5 * (16 - o) + 2) 1 kc p24 (([] ++ N24) ++ [kc]) (va_up E24 kc 10) (va_up f24 kc (kE 2 (some v24) none none none none)) := by
        refine ⟨hE_kc, va_up_self _ _ _, by omega, by omega, fun lv hO b hb => ?_⟩
        have g0 : QG cI cV E lv L f i n p21 s.heap.size [] E lv f := (QG.rf hO hi9).mv (by omega) (by omega)
        obtain ⟨lv1, g1, c1⟩ := hQ24.x lv g0.po (b - 1) (by omega)
        have g1 := g0.tr g1 hzz24
        have hvs24 : v24 ≠ kc := fun e => by have h9 := hQ24.so; rw [e, h0_kc] at h9; cases h9
        exact ⟨va_up lv1 kc b, g1.add (q := kc) (s := 10) (b := b) (e := kE 2 (some v24) none none none none) h0_kc hL_kc hz_kc (by decide) (by decide) (CO.K (va_up_self _ _ _) ⟨_, _, _, _, _, _, rfl, ⟨(fun b9 h => by cases h; exact ⟨(va_up_ne _ _ hvs24).trans hQ24.so, by rw [va_up_ne _ _ hvs24, va_up_self]; have := c1; omega⟩), (fun b h => (nomatch h)), (fun b h => (nomatch h)), (fun b h => (nomatch h)), (fun b h => (nomatch h)), (fun _ h => by cases h), fun h => absurd h (by decide), fun _ _ h2 _ => absurd rfl h2⟩⟩), va_up_self _ _ _⟩
      have hP : va_P (dC, dI) classes ([(qr, .inr (5, [.ref h0, .int (nI o)])), (h0, .inr (8, [.ref qb, .ref qu, .int uc24, .int ln, .int (nI n), .int (nI p24), .int pl])), (qb, .inl (cB, 4096, .inl bf)), (qu, .inl (cI, 4096, .inl ug24))] ++ va_pl ((L ++ (([] ++ N24) ++ [kc]))) ((va_up f24 kc (kE 2 (some v24) none none none none)))) H := hP
      have hD : va_D A ([(qr, .inr (5, [.ref h0, .int (nI o)])), (h0, .inr (8, [.ref qb, .ref qu, .int uc24, .int ln, .int (nI n), .int (nI p24), .int pl])), (qb, .inl (cB, 4096, .inl bf)), (qu, .inl (cI, 4096, .inl ug24))] ++ va_pl ((L ++ (([] ++ N24) ++ [kc]))) ((va_up f24 kc (kE 2 (some v24) none none none none)))) := hD
      have hQr : QPn cI cV E L f i n s.heap.size 10 (5 * (16 - o) + 2) 1 kc p24 ((([] ++ N24) ++ [kc])) ((va_up E24 kc 10)) ((va_up f24 kc (kE 2 (some v24) none none none none))) := hQ_kc
      have hfin : (ngD bf n ok orL) i = some (p24, notC m24) := (ngD_g h_p21 (h_h22.symm.trans c38)).trans (mp_some hf24)
      have hdn : DNx KD 2 E ((va_up E24 kc 10)) ((va_up f24 kc (kE 2 (some v24) none none none none))) kc (notC m24) := DNx.not hd24 hnv24 hsv24 h0_kc
      refine w_same (fun hq => ?_)
      refine W.widen (k := 8 * (n - i) + 16) (n := 64 * (n - i) + 160) (by show ((0 + 1) + (8 * (p24 - p21) + 0 - 7)) ≤ 8 * (n - i) + 16; omega) (by show ((0 + 6) + (64 * (p24 - p21) + 0 - 60)) ≤ 64 * (n - i) + 160; omega) ?_
      refine vx_ret ?_
      exact W.aret (v := .ref kc) hx hb hr (Or.inl ⟨_, rfl⟩) (Or.inr ⟨_, rfl⟩) (fun t9 ht hW => ⟨⟨(kc, p24, (([] ++ N24) ++ [kc]), (va_up E24 kc 10), (va_up f24 kc (kE 2 (some v24) none none none none)), uc24, ug24), kc, rfl, ⟨hQr, _, hfin, hdn⟩, ⟨by rw [ht]; exact hP, va_K.moved hW.alike hK, hD⟩, by rw [ht]; exact ⟨hq.mono (by show ((0 + 1) + (8 * (p24 - p21) + 0 - 7)) ≤ 8 * (p24 - i) + 0 - 6; omega) (by show ((0 + 6) + (64 * (p24 - p21) + 0 - 60)) ≤ 64 * (p24 - i) + 0 - 50; omega), rfl⟩⟩, hS.F ht⟩) hS.2.2 d_QueryReader_negation_76
