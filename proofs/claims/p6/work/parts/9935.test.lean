theorem z_550 : (.fieldLink "QueryBench$QueryReader" 199 "QueryBench$Query" "singular" "Z" : Cond) ∈ gtbl := gt_in 550 (by decide +kernel) (by decide +kernel)
theorem z_682 : (.fieldLink "QueryBench$QueryReader" 196 "QueryBench$Condition" "query" "LQueryBench$Query;" : Cond) ∈ gtbl := gt_in 682 (by decide +kernel) (by decide +kernel)
theorem z_743 : (.methodLink "QueryBench$QueryReader" 188 ⟨"QueryBench$QueryReader", "comparison", "(LQueryBench$Operand;)LQueryBench$Condition;"⟩ : Cond) ∈ gtbl := gt_in 743 (by decide +kernel) (by decide +kernel)
theorem z_745 : (.instanceMethod ⟨"QueryBench$QueryReader", "comparison", "(LQueryBench$Operand;)LQueryBench$Condition;"⟩ : Cond) ∈ gtbl := gt_in 745 (by decide +kernel) (by decide +kernel)
set_option maxHeartbeats 4000000 in
set_option maxRecDepth 100000 in
/-- QueryReader.testOrComparison -/
theorem c_QR_testOrComparison (l : Launch) (hl9 : l.stackTraces = false) (K : Nat → Nat × Nat) (dC : Nat → ClassId) (dI : Nat → Nat → Nat) (cI cV : ClassId) (cB : ClassId) (h0 qb qu : Nat) (ln : Int32) (bf : Nat → Int32) (n qr : Nat) (hn0 : n ≤ 4096) (hbf : byR bf) (o : Nat) (ho : o ≤ 16) (ok : Bool) (orL : Nat → Option (Nat × CT)) (cmL : Nat → Option (Nat × OT)) (qyL : Nat → Option (Nat × Bool × QT)) (hok : ok = true ↔ o < 16) (HQ : ∀ nw : Int32, QCT l K dC dI cI cV cB h0 qb qu ln bf n qr y_QueryReader_query (k_QueryReader_query :: gtbl) [.ref qr, .int nw] o (12 * (16 - o) + 14) (360 * (16 - o) + 420) 4 50 0 7 0 60 7 (5 * (16 - o)) 1 1 (OKe QD 0 (qrD bf n ok orL (nwB nw)) sgQs) (NOd (qrD bf n ok orL (nwB nw)))) (HP : QCT l K dC dI cI cV cB h0 qb qu ln bf n qr y_QueryReader_operand (k_QueryReader_operand :: gtbl) [.ref qr] o (12 * (16 - o) + 16) (360 * (16 - o) + 480) 8 80 3 0 14 0 11 (5 * (16 - o) + 1) 0 0 (OKd OD 0 (opD bf n ok orL cmL qyL)) (NOd (opD bf n ok orL cmL qyL))) : QCT l K dC dI cI cV cB h0 qb qu ln bf n qr y_QueryReader_testOrComparison (k_QueryReader_testOrComparison :: gtbl) [.ref qr] o (12 * (16 - o) + 18) (360 * (16 - o) + 540) 6 60 0 6 0 54 10 (5 * (16 - o) + 2) 1 1 (OKd KD 2 (tcD bf n ok orL (opD bf n ok orL cmL qyL))) (NOd (tcD bf n ok orL (opD bf n ok orL cmL qyL))) := by
  intro sz E lv L f i uc pl ug hO hin
  refine vx_ofW (cc := b_QueryReader_testOrComparison) (maxL := 4) (ret := (some (.object "QueryBench$Condition"))) (by decide) rfl ?_
  intro p e s m args below meth c s₁ B hml hex hv
  obtain ⟨rfl, ⟨hsz, hP, hK, hD0⟩, hN, hZ, hC, hV⟩ := hv
  have hx := B.exec
  have hb := B.bytes
  have hr := B.returns
  have hts0 := atoms_spec (ws := k_QueryReader_testOrComparison :: gtbl) B.pre
  have hts := fun w h => hts0 w (List.mem_cons_of_mem _ h)
  have hown : s.vm.findClass R_QueryReader = some m.cls := findClass_of_methodNamed B.named
  have hlocks := B.notSynchronized
  subst hsz
  have hD := hD0.self (sz := s.heap.size)
  generalize hAe : va_A ([(qr, .inr (5, [.ref h0, .int (nI o)])), (h0, .inr (8, [.ref qb, .ref qu, .int uc, .int ln, .int (nI n), .int (nI i), .int pl])), (qb, .inl (cB, 4096, .inl bf)), (qu, .inl (cI, 4096, .inl ug))] ++ va_pl L f) s.heap.size = A at hD hZ hC ⊢
  have hA : ∀ q : Nat, s.heap.size ≤ q → A q := fun q h => by rw [← hAe]; exact Or.inr h
  have hS : va_S A s.heap s.heap [] := va_S.rf
  have hP : va_P (dC, dI) classes ([(qr, .inr (5, [.ref h0, .int (nI o)])), (h0, .inr (8, [.ref qb, .ref qu, .int uc, .int ln, .int (nI n), .int (nI i), .int pl])), (qb, .inl (cB, 4096, .inl bf)), (qu, .inl (cI, 4096, .inl ug))] ++ va_pl L f) s.heap := hP
  have hl := lv_entry ([.ref qr]) (n := 4) (Nat.le_of_ble_eq_true rfl)
  rw [lg_entry_eq]
  generalize (lg_sl ([.ref qr]) ++ List.replicate (4 - (lg_sl ([.ref qr])).length) Slot.unset).toArray = ls at hl ⊢
  have hl : lv_has ls 4 [(0, .ref qr)] := hl
  have hLz : ∀ a, a ∈ L → a < s.heap.size := fun a ha => va_pl_lt hP ha
  have hi9 : i ≤ n := by omega
  have hP : va_P (dC, dI) classes ([(qr, .inr (5, [.ref h0, .int (nI o)])), (h0, .inr (8, [.ref qb, .ref qu, .int uc, .int ln, .int (nI n), .int (nI i), .int pl])), (qb, .inl (cB, 4096, .inl bf)), (qu, .inl (cI, 4096, .inl ug))] ++ va_pl (L ++ []) f) s.heap := by rw [List.append_nil]; exact hP
  have hD : va_D A ([(qr, .inr (5, [.ref h0, .int (nI o)])), (h0, .inr (8, [.ref qb, .ref qu, .int uc, .int ln, .int (nI n), .int (nI i), .int pl])), (qb, .inl (cB, 4096, .inl bf)), (qu, .inl (cI, 4096, .inl ug))] ++ va_pl (L ++ []) f) := by rw [List.append_nil]; exact hD
  have hG0 : QG cI cV E lv L f i n i s.heap.size [] E lv f := QG.rf hO hi9
  refine lv_aload_n hx hb d_QueryReader_testOrComparison_0 rfl (lv_at hl 0 rfl) ?_
  refine lv_iconst (v := 0) hx hb d_QueryReader_testOrComparison_1 (by decide) ?_
  have hG21 := hG0.mv (show i ≤ i by omega) (show i ≤ n by omega)
  have hzz21 : s.heap.size ≤ s.heap.size := hS.1
  have hPc := hP.part (cx := [(qr, .inr (5, [.ref h0, .int (nI o)])), (h0, .inr (8, [.ref qb, .ref qu, .int uc, .int ln, .int (nI n), .int (nI i), .int pl])), (qb, .inl (cB, 4096, .inl bf)), (qu, .inl (cI, 4096, .inl ug))]) [0, 1, 2, 3] rfl
  have hDc := hD.part (cx := [(qr, .inr (5, [.ref h0, .int (nI o)])), (h0, .inr (8, [.ref qb, .ref qu, .int uc, .int ln, .int (nI n), .int (nI i), .int pl])), (qb, .inl (cB, 4096, .inl bf)), (qu, .inl (cI, 4096, .inl ug))]) [0, 1, 2, 3] (by decide) rfl
  have hFc := va_freeP (cx := [(qr, .inr (5, [.ref h0, .int (nI o)])), (h0, .inr (8, [.ref qb, .ref qu, .int uc, .int ln, .int (nI n), .int (nI i), .int pl])), (qb, .inl (cB, 4096, .inl bf)), (qu, .inl (cI, 4096, .inl ug))]) hD hS hA [0, 1, 2, 3] rfl
  have hKc := hK.sub (tys' := [(cB, .byte), (cI, .int), (cV, .object "QueryBench$Value")]) [0, 1, 2] rfl
  refine w_same (fun hq0 => ?_)
  refine vx_callr (vx_runV (As := [.int 0]) (rest := []) ⟨hx, hb, hml, hown, hts⟩ ((HQ 0) s.heap E lv (L ++ []) f i uc pl ug hG21.po (by omega)) (cwV 1 hts (gt_V (own := R_QueryReader) (C := R_QueryReader) (i := 32) (y := y_QueryReader_query) i_QueryReader_query z_536 z_538 (gt_sel (y := y_QueryReader_query) (n := 2) (by decide +kernel)) w_4) rfl rfl rfl (by decide +kernel) ⟨by show 12 * (16 - o) + 14 + 1 ≤ 12 * (16 - o) + 18; omega, by show 8 + (5 + 11) + (360 * (16 - o) + 420) ≤ 360 * (16 - o) + 540; omega⟩) ⟨ml_blind, va_recv hK hP (ci := 5) (q0 := 0) rfl rfl, fun U hU hW => ⟨rfl, ⟨hU, by rw [hU]; exact hPc, va_K.moved hW.alike hKc, hDc.weaken (fun _ _ _ _ => trivial)⟩, hN.warm hW, by rw [hU]; exact ZX.moved' hW.alike (ZX.narrow' (ZX.kept' hZ hS.2.1) hFc), by rw [hU]; exact CE.call hC hS.2.1 hFc hW, va_AO.moved hW.alike hV⟩⟩ rfl rfl hl.1 rfl (lv_room (Nat.le_of_ble_eq_true rfl)) d_QueryReader_testOrComparison_2 ⟨by show 0 + (8 * (n - i) + 4) ≤ 8 * (n - i) + 6; omega, by show 0 + (64 * (n - i) + 50) ≤ 64 * (n - i) + 60; omega⟩) hS (fun q _ h => hFc q h) hFc (fun q _ h => hFc q h) (fun En ce q9 ⟨ax, cx, px, gx, ox⟩ t9 H1 locs ht hvm hw hB hz1 hk1 hS hce hcv hcl => ?_) (fun ⟨w21, p21, N21, E21, f21, uc21, ug21⟩ v21 t9 H1 locs ht hvm hw hB hz1 hk1 hS => ?_)
  · obtain ⟨hEn, hP1, hK1, hD1⟩ := hB
    rw [ht] at hP1
    obtain ⟨hP, hD⟩ := va_joinP (wr := []) (rx := [(qr, .inr (5, [.ref h0, .int ox])), (h0, .inr (8, [.ref qb, .ref qu, .int cx, .int ln, .int (nI n), .int ax, .int px])), (qb, .inl (cB, 4096, .inl bf)), (qu, .inl (cI, 4096, .inl gx))]) (pl1 := va_pl ((L ++ [])) f) hP hD [0, 1, 2, 3] [] rfl rfl (by decide) (by decide) hk1 hFc hP1 hD1
    generalize H1 = H at hP hS hce ⊢
    have hP : va_P (dC, dI) classes ([(qr, .inr (5, [.ref h0, .int ox])), (h0, .inr (8, [.ref qb, .ref qu, .int cx, .int ln, .int (nI n), .int ax, .int px])), (qb, .inl (cB, 4096, .inl bf)), (qu, .inl (cI, 4096, .inl gx))] ++ va_pl ((L ++ [])) f) H := hP
    have hD : va_D A ([(qr, .inr (5, [.ref h0, .int ox])), (h0, .inr (8, [.ref qb, .ref qu, .int cx, .int ln, .int (nI n), .int ax, .int px])), (qb, .inl (cB, 4096, .inl bf)), (qu, .inl (cI, 4096, .inl gx))] ++ va_pl ((L ++ [])) f) := hD
    have hP := plP_cut (hP.part (cx := [(qr, .inr (5, [.ref h0, .int ox])), (h0, .inr (8, [.ref qb, .ref qu, .int cx, .int ln, .int (nI n), .int ax, .int px])), (qb, .inl (cB, 4096, .inl bf)), (qu, .inl (cI, 4096, .inl gx))]) [0, 1, 2, 3] rfl) hG21.on
    have hD := plD_cut (hD.part (cx := [(qr, .inr (5, [.ref h0, .int ox])), (h0, .inr (8, [.ref qb, .ref qu, .int cx, .int ln, .int (nI n), .int ax, .int px])), (qb, .inl (cB, 4096, .inl bf)), (qu, .inl (cI, 4096, .inl gx))]) [0, 1, 2, 3] (by decide) rfl) hG21.on
    have hno : (tcD bf n ok orL (opD bf n ok orL cmL qyL)) i = none := tcD_0 (qrD_nw0 hw)
    exact vx_out (fun x hx => (hex x hx).elim) hlocks hce hcv hcl (fun t9 ht2 ha => ⟨(ax, cx, px, gx, ox), hno, ⟨hEn, by rw [ht2]; exact hP, va_K.moved ha hK, hD⟩, hS.F ht2⟩) hS.2.2 (by show 0 + (8 * (n - i) + 4) ≤ 8 * (n - i) + 6; omega) (by show 0 + (64 * (n - i) + 50) ≤ 64 * (n - i) + 60; omega)
  · obtain ⟨⟨hP1, hK1, hD1⟩, hz9, ha9⟩ := hB
    rw [ht] at hP1
    rw [ht] at hz9
    have ha9 : v21 = w21 := ha9
    subst ha9
    have hq0 : szk s.heap H1 (0 + (8 * (p21 - i) + 0 - 7)) (0 + (64 * (p21 - i) + 0 - 60)) := (hq0.trans hz9).mono (Nat.le_refl _) (Nat.le_refl _)
    refine w_tight hq0 ?_
    obtain ⟨hP, hD⟩ := va_joinP (wr := []) (rx := [(qr, .inr (5, [.ref h0, .int (nI o)])), (h0, .inr (8, [.ref qb, .ref qu, .int uc21, .int ln, .int (nI n), .int (nI p21), .int pl])), (qb, .inl (cB, 4096, .inl bf)), (qu, .inl (cI, 4096, .inl ug21))]) (pl1 := va_pl (((L ++ []) ++ N21)) f21) hP hD [0, 1, 2, 3] [] rfl rfl (by decide) (by decide) hk1 hFc hP1 hD1
    generalize H1 = H at hP hS hq0 ⊢
    have hP : va_P (dC, dI) classes ([(qr, .inr (5, [.ref h0, .int (nI o)])), (h0, .inr (8, [.ref qb, .ref qu, .int uc21, .int ln, .int (nI n), .int (nI p21), .int pl])), (qb, .inl (cB, 4096, .inl bf)), (qu, .inl (cI, 4096, .inl ug21))] ++ va_pl (((L ++ []) ++ N21)) f21) H := hP
    have hD : va_D A ([(qr, .inr (5, [.ref h0, .int (nI o)])), (h0, .inr (8, [.ref qb, .ref qu, .int uc21, .int ln, .int (nI n), .int (nI p21), .int pl])), (qb, .inl (cB, 4096, .inl bf)), (qu, .inl (cI, 4096, .inl ug21))] ++ va_pl (((L ++ []) ++ N21)) f21) := hD
    obtain ⟨hw, m21, hf21, hd21⟩ := hw
    have hf21 : (qrD bf n ok orL (nwB 0)) i = some (p21, sgQ (f21 v21), m21) := hf21
    have hd21 : DNx QD 0 E E21 f21 v21 m21 := hd21
    have hQ21 : QPn cI cV E (L ++ []) f i n _ 7 (5 * (16 - o)) 1 v21 p21 N21 E21 f21 := hw
    obtain ⟨lv21, hg21, hlv21⟩ := hQ21.x lv hG21.po _ (Nat.le_refl _)
    have hex21 := hg21.ex
    have hge21 := hg21.ge hQ21.new (by rw [hQ21.so]; decide)
    have hkp21 : KPx E E21 f f21 := KPx.of hg21 hG21.po
    have hnv21 : E v21 = 0 := hQ21.new
    have hsv21 : ¬ E21 v21 = 0 := by rw [hQ21.so]; decide
    have hG21 := hG21.tr hg21 hzz21
    obtain ⟨ha21, hb21⟩ := hQ21.num
    have ha21 : i + 1 ≤ p21 := ha21
    have hb21 : p21 ≤ n := hb21
    rw [List.append_assoc] at hP hD
    have hP : va_P (dC, dI) classes ([(qr, .inr (5, [.ref h0, .int (nI o)])), (h0, .inr (8, [.ref qb, .ref qu, .int uc21, .int ln, .int (nI n), .int (nI p21), .int pl])), (qb, .inl (cB, 4096, .inl bf)), (qu, .inl (cI, 4096, .inl ug21))] ++ va_pl ((L ++ ([] ++ N21))) f21) H := hP
    have hD : va_D A ([(qr, .inr (5, [.ref h0, .int (nI o)])), (h0, .inr (8, [.ref qb, .ref qu, .int uc21, .int ln, .int (nI n), .int (nI p21), .int pl])), (qb, .inl (cB, 4096, .inl bf)), (qu, .inl (cI, 4096, .inl ug21))] ++ va_pl ((L ++ ([] ++ N21))) f21) := hD
    have hqr := qrD_nw0 hf21
    refine lv_astore_n (lv' := [(1, .ref v21), (0, .ref qr)]) hx hb d_QueryReader_testOrComparison_5 rfl hl (by decide) rfl (fun ls hl => ?_)
    refine lv_aload_n hx hb d_QueryReader_testOrComparison_6 rfl (lv_at hl 1 rfl) ?_
    refine va_get (D := (dC, dI)) (ci := 5) (v := .ref h0) (C := R_QueryReader) (T := F_QueryReader) (N := 2) hx hb hts in_QueryReader hown hK hP 0 rfl rfl 0 (by decide) (hts _ w_100) (fun _ h9 => h9) rfl d_QueryReader_testOrComparison_7 ?_
    have hPc := hP.sub (ws' := [(h0, .inr (8, [.ref qb, .ref qu, .int uc21, .int ln, .int (nI n), .int (nI p21), .int pl])), (qb, .inl (cB, 4096, .inl bf))]) [1, 2] rfl
    have hDc := hD.sub (ws' := [(h0, .inr (8, [.ref qb, .ref qu, .int uc21, .int ln, .int (nI n), .int (nI p21), .int pl])), (qb, .inl (cB, 4096, .inl bf))]) [1, 2] (by decide) rfl
    have hFc := va_free (wc := [(h0, .inr (8, [.ref qb, .ref qu, .int uc21, .int ln, .int (nI n), .int (nI p21), .int pl])), (qb, .inl (cB, 4096, .inl bf))]) hD hS hA [1, 2] rfl
    have hKc := hK.sub (tys' := [(cB, .byte)]) [0] rfl
    refine va_callv (va_runV (As := []) (rest := []) ⟨hx, hb, hml, hown, hts⟩ (c_Tape_skipBlanks l dC dI cB h0 qb H (.ref qu) uc21 ln pl bf n p21 hn0 (by omega)) (cwV 0 hts (gt_V (own := R_QueryReader) (C := R_Tape) (i := 39) (y := y_Tape_skipBlanks) i_Tape_skipBlanks z_563 z_299 z_300 w_2) rfl rfl rfl (by decide +kernel) ⟨by show 0 + 1 ≤ 12 * (16 - o) + 18; omega, by show 8 + (2 + 11) + (0) ≤ 360 * (16 - o) + 540; omega⟩) ⟨mp_blind, va_recv hK hP (ci := 8) (q0 := 1) rfl rfl, fun U hU hW => ⟨rfl, hU, by rw [hU]; exact hPc, va_K.moved hW.alike hKc, hDc.weaken (fun _ _ _ _ => trivial)⟩⟩ rfl rfl hl.1 rfl (lv_room (Nat.le_of_ble_eq_true rfl)) d_QueryReader_testOrComparison_10 ⟨by show (0 + (8 * (p21 - i) + 0 - 7)) + (0) ≤ 8 * (n - i) + 6; omega, by show (0 + (64 * (p21 - i) + 0 - 60)) + (0) ≤ 64 * (n - i) + 60; omega⟩) hS (fun q _ h => hFc q h) hFc (fun _u t9 H1 locs ht hvm hw hB hz1 hk1 hS => ?_)
    obtain ⟨hP1, hK1, hD1⟩ := hB
    rw [ht] at hP1
    obtain ⟨hP, hD⟩ := va_joinQ (wr := [(qr, .inr (5, [.ref h0, .int (nI o)])), (qu, .inl (cI, 4096, .inl ug21))]) (w1 := [(h0, .inr (8, [.ref qb, .ref qu, .int uc21, .int ln, .int (nI n), .int (nI (skipB bf n p21)), .int pl])), (qb, .inl (cB, 4096, .inl bf))]) hP hD [1, 2] [0, 3] rfl rfl (by decide) (by decide) hk1 hFc hP1 hD1
    generalize H1 = H at hP hS ⊢
    have hP : va_P (dC, dI) classes ([(qr, .inr (5, [.ref h0, .int (nI o)])), (qu, .inl (cI, 4096, .inl ug21)), (h0, .inr (8, [.ref qb, .ref qu, .int uc21, .int ln, .int (nI n), .int (nI (skipB bf n p21)), .int pl])), (qb, .inl (cB, 4096, .inl bf))] ++ va_pl ((L ++ ([] ++ N21))) f21) H := hP
    have hD : va_D A ([(qr, .inr (5, [.ref h0, .int (nI o)])), (qu, .inl (cI, 4096, .inl ug21)), (h0, .inr (8, [.ref qb, .ref qu, .int uc21, .int ln, .int (nI n), .int (nI (skipB bf n p21)), .int pl])), (qb, .inl (cB, 4096, .inl bf))] ++ va_pl ((L ++ ([] ++ N21))) f21) := hD
    have hP := hP.part (cx := [(qr, .inr (5, [.ref h0, .int (nI o)])), (h0, .inr (8, [.ref qb, .ref qu, .int uc21, .int ln, .int (nI n), .int (nI (skipB bf n p21)), .int pl])), (qb, .inl (cB, 4096, .inl bf)), (qu, .inl (cI, 4096, .inl ug21))]) [0, 2, 3, 1] rfl
    have hD := hD.part (cx := [(qr, .inr (5, [.ref h0, .int (nI o)])), (h0, .inr (8, [.ref qb, .ref qu, .int uc21, .int ln, .int (nI n), .int (nI (skipB bf n p21)), .int pl])), (qb, .inl (cB, 4096, .inl bf)), (qu, .inl (cI, 4096, .inl ug21))]) [0, 2, 3, 1] (by decide) rfl
    obtain ⟨p22, h_p22⟩ : ∃ z, z = skipB bf n p21 := ⟨_, rfl⟩
    have hb_p22 := skip_b (f := bf) (show p21 ≤ n by omega)
    rw [← h_p22] at hP hD hb_p22
    have hP : va_P (dC, dI) classes ([(qr, .inr (5, [.ref h0, .int (nI o)])), (h0, .inr (8, [.ref qb, .ref qu, .int uc21, .int ln, .int (nI n), .int (nI p22), .int pl])), (qb, .inl (cB, 4096, .inl bf)), (qu, .inl (cI, 4096, .inl ug21))] ++ va_pl ((L ++ ([] ++ N21))) f21) H := hP
    have hD : va_D A ([(qr, .inr (5, [.ref h0, .int (nI o)])), (h0, .inr (8, [.ref qb, .ref qu, .int uc21, .int ln, .int (nI n), .int (nI p22), .int pl])), (qb, .inl (cB, 4096, .inl bf)), (qu, .inl (cI, 4096, .inl ug21))] ++ va_pl ((L ++ ([] ++ N21))) f21) := hD
    refine lv_aload_n hx hb d_QueryReader_testOrComparison_13 rfl (lv_at hl 1 rfl) ?_
    refine va_get (D := (dC, dI)) (ci := 5) (v := .ref h0) (C := R_QueryReader) (T := F_QueryReader) (N := 2) hx hb hts in_QueryReader hown hK hP 0 rfl rfl 0 (by decide) (hts _ w_100) (fun _ h9 => h9) rfl d_QueryReader_testOrComparison_14 ?_
    have hPc := hP.sub (ws' := [(h0, .inr (8, [.ref qb, .ref qu, .int uc21, .int ln, .int (nI n), .int (nI p22), .int pl])), (qb, .inl (cB, 4096, .inl bf))]) [1, 2] rfl
    have hDc := hD.sub (ws' := [(h0, .inr (8, [.ref qb, .ref qu, .int uc21, .int ln, .int (nI n), .int (nI p22), .int pl])), (qb, .inl (cB, 4096, .inl bf))]) [1, 2] (by decide) rfl
    have hFc := va_free (wc := [(h0, .inr (8, [.ref qb, .ref qu, .int uc21, .int ln, .int (nI n), .int (nI p22), .int pl])), (qb, .inl (cB, 4096, .inl bf))]) hD hS hA [1, 2] rfl
    have hKc := hK.sub (tys' := [(cB, .byte)]) [0] rfl
    refine va_calli (va_runV (As := []) (rest := []) ⟨hx, hb, hml, hown, hts⟩ (c_Tape_here l dC dI cB h0 qb H (.ref qu) uc21 ln pl bf n p22 hn0 (by omega)) (cwV 0 hts (gt_V (own := R_QueryReader) (C := R_Tape) (i := 19) (y := y_Tape_here) i_Tape_here z_534 w_363 w_364 w_2) rfl rfl rfl (by decide +kernel) ⟨by show 0 + 1 ≤ 12 * (16 - o) + 18; omega, by show 8 + (1 + 11) + (0) ≤ 360 * (16 - o) + 540; omega⟩) ⟨mp_blind, va_recv hK hP (ci := 8) (q0 := 1) rfl rfl, fun U hU hW => ⟨rfl, hU, by rw [hU]; exact hPc, va_K.moved hW.alike hKc, hDc.weaken (fun _ _ _ _ => trivial)⟩⟩ rfl rfl hl.1 rfl (lv_room (Nat.le_of_ble_eq_true rfl)) d_QueryReader_testOrComparison_17 ⟨by show (0 + (8 * (p21 - i) + 0 - 7)) + (0) ≤ 8 * (n - i) + 6; omega, by show (0 + (64 * (p21 - i) + 0 - 60)) + (0) ≤ 64 * (n - i) + 60; omega⟩) hS (fun q _ h => hFc q h) hFc (fun h23 _u t9 H1 locs ht hvm hw hB hz1 hk1 hS => ?_)
    obtain ⟨hP1, hK1, hD1⟩ := hB
    rw [ht] at hP1
    obtain ⟨hP, hD⟩ := va_joinQ (wr := [(qr, .inr (5, [.ref h0, .int (nI o)])), (qu, .inl (cI, 4096, .inl ug21))]) (w1 := [(h0, .inr (8, [.ref qb, .ref qu, .int uc21, .int ln, .int (nI n), .int (nI p22), .int pl])), (qb, .inl (cB, 4096, .inl bf))]) hP hD [1, 2] [0, 3] rfl rfl (by decide) (by decide) hk1 hFc hP1 hD1
    generalize H1 = H at hP hS ⊢
    have hP : va_P (dC, dI) classes ([(qr, .inr (5, [.ref h0, .int (nI o)])), (qu, .inl (cI, 4096, .inl ug21)), (h0, .inr (8, [.ref qb, .ref qu, .int uc21, .int ln, .int (nI n), .int (nI p22), .int pl])), (qb, .inl (cB, 4096, .inl bf))] ++ va_pl ((L ++ ([] ++ N21))) f21) H := hP
    have hD : va_D A ([(qr, .inr (5, [.ref h0, .int (nI o)])), (qu, .inl (cI, 4096, .inl ug21)), (h0, .inr (8, [.ref qb, .ref qu, .int uc21, .int ln, .int (nI n), .int (nI p22), .int pl])), (qb, .inl (cB, 4096, .inl bf))] ++ va_pl ((L ++ ([] ++ N21))) f21) := hD
    have hP := hP.part (cx := [(qr, .inr (5, [.ref h0, .int (nI o)])), (h0, .inr (8, [.ref qb, .ref qu, .int uc21, .int ln, .int (nI n), .int (nI p22), .int pl])), (qb, .inl (cB, 4096, .inl bf)), (qu, .inl (cI, 4096, .inl ug21))]) [0, 2, 3, 1] rfl
    have hD := hD.part (cx := [(qr, .inr (5, [.ref h0, .int (nI o)])), (h0, .inr (8, [.ref qb, .ref qu, .int uc21, .int ln, .int (nI n), .int (nI p22), .int pl])), (qb, .inl (cB, 4096, .inl bf)), (qu, .inl (cI, 4096, .inl ug21))]) [0, 2, 3, 1] (by decide) rfl
    have h_h23 : h23 = hereV bf n p22 := hw
    refine lv_istore_n (lv' := [(2, .int h23), (1, .ref v21), (0, .ref qr)]) hx hb d_QueryReader_testOrComparison_20 rfl hl (by decide) rfl (fun ls hl => ?_)
    refine lv_iload_n hx hb d_QueryReader_testOrComparison_21 rfl (lv_at hl 0 rfl) ?_
    refine lv_bipush (v := 61) hx hb d_QueryReader_testOrComparison_22 (by decide) ?_
    refine lv_icmp_eq (tgt := 61) hx hb d_QueryReader_testOrComparison_24 (by decide) (fun c24 => ?_) (fun c24 => ?_)
    · have hop : opH (hereV bf n p22) := by rw [← h_h23]; exact Or.inl c24
      refine lv_aload_n hx hb d_QueryReader_testOrComparison_61 rfl (lv_at hl 1 rfl) ?_
      obtain ⟨fr24, sg24, fi24, la24, ef24, hv24⟩ := hG21.po.qry hQ21.so
      refine vq_get (D := (dC, dI)) (ci := 4) (v := .int sg24) (C := R_Query) (T := F_Query) (N := 4) hx hb hts in_Query hown hK hP (hG21.po.inL (a := v21) (by rw [hQ21.so]; decide)) ef24 rfl 1 (by decide) (hts _ z_550) (fun _ h9 => h9) rfl d_QueryReader_testOrComparison_62 ?_
      have hsq : sgQ (f21 v21) = decide (¬ sg24 = 0) := by rw [ef24]; rfl
      refine lv_if_ne (tgt := 82) hx hb d_QueryReader_testOrComparison_65 (by decide) (fun c65 => ?_) (fun c65 => ?_)
      · have hsq1 := (bI_q hsq).1 c65
        refine va_new (ci := 2) (fs := [.int 0, .null, .null, .null]) (C := R_Operand) (T := F_Operand) (N := 4) hx hb hts in_Operand t_Operand t_Operand_ok hown (hts _ z_720) (hts _ z_721) (hts _ z_27) hK hP hD hS hA rfl (fun j hj => by rcases (show j = 0 ∨ j = 1 ∨ j = 2 ∨ j = 3 by omega) with rfl | rfl | rfl | rfl <;> rfl) (by show (0 + (8 * (p21 - i) + 0 - 7)) + 1 ≤ 8 * (n - i) + 6; omega) (by show (0 + (64 * (p21 - i) + 0 - 60)) + 4 ≤ 64 * (n - i) + 60; omega) d_QueryReader_testOrComparison_82 (fun ov H hP hD hS => ?_)
        have hz_ov := newB (X := [(qr, .inr (5, [.ref h0, .int (nI o)])), (h0, .inr (8, [.ref qb, .ref qu, .int uc21, .int ln, .int (nI n), .int (nI p22), .int pl])), (qb, .inl (cB, 4096, .inl bf)), (qu, .inl (cI, 4096, .inl ug21))]) hAe hD (fun k x hk => by rcases k with _ | _ | _ | _ | k; (· cases hk; exact ⟨0, _, rfl⟩); (· cases hk; exact ⟨1, _, rfl⟩); (· cases hk; exact ⟨2, _, rfl⟩); (· cases hk; exact ⟨3, _, rfl⟩); (· cases hk))
        have hP := hP.swap
        have hD := hD.swap
        have hP : va_P (dC, dI) classes ([(qr, .inr (5, [.ref h0, .int (nI o)])), (h0, .inr (8, [.ref qb, .ref qu, .int uc21, .int ln, .int (nI n), .int (nI p22), .int pl])), (qb, .inl (cB, 4096, .inl bf)), (qu, .inl (cI, 4096, .inl ug21)), (ov, .inr (2, [.int 0, .null, .null, .null]))] ++ va_pl ((L ++ ([] ++ N21))) f21) H := hP
        have hD : va_D A ([(qr, .inr (5, [.ref h0, .int (nI o)])), (h0, .inr (8, [.ref qb, .ref qu, .int uc21, .int ln, .int (nI n), .int (nI p22), .int pl])), (qb, .inl (cB, 4096, .inl bf)), (qu, .inl (cI, 4096, .inl ug21)), (ov, .inr (2, [.int 0, .null, .null, .null]))] ++ va_pl ((L ++ ([] ++ N21))) f21) := hD
        refine lv_dup hx hb d_QueryReader_testOrComparison_85 rfl ?_
        refine lv_iconst (v := 1) hx hb d_QueryReader_testOrComparison_86 (by decide) ?_
        refine lv_null hx hb d_QueryReader_testOrComparison_87 ?_
        have hPc := hP.sub (ws' := [(ov, .inr (2, [.int 0, .null, .null, .null]))]) [4] rfl
        have hDc := hD.sub (ws' := [(ov, .inr (2, [.int 0, .null, .null, .null]))]) [4] (by decide) rfl
        have hFc := va_free (wc := [(ov, .inr (2, [.int 0, .null, .null, .null]))]) hD hS hA [4] rfl
        have hKc := hK.sub (tys' := []) [] rfl
        refine w_same (fun hq0 => ?_)
        refine va_callv (va_runI (As := [.int 1, .null]) (rest := [.ref ov]) ⟨hx, hb, hml, hown, hts⟩ (c_Operand_init l dC dI H ov 1 none) (cwI 2 hts (gt_code i_Operand_init) rfl rfl rfl (hts _ z_27) (hts _ z_722) (hts _ z_723) rfl (by decide +kernel) ⟨by show 1 + 1 ≤ 12 * (16 - o) + 18; omega, by show 8 + (3 + 11) + (20) ≤ 360 * (16 - o) + 540; omega⟩) ⟨mp_blind, fun U hU hW => ⟨rfl, hU, by rw [hU]; exact hPc, va_K.moved hW.alike hKc, hDc.weaken (fun _ _ _ _ => trivial)⟩⟩ rfl rfl hl.1 rfl (lv_room (Nat.le_of_ble_eq_true rfl)) d_QueryReader_testOrComparison_88 ⟨by show ((0 + (8 * (p21 - i) + 0 - 7)) + 1) + (0) ≤ 8 * (n - i) + 6; omega, by show ((0 + (64 * (p21 - i) + 0 - 60)) + 4) + (0) ≤ 64 * (n - i) + 60; omega⟩) hS (fun q _ h => hFc q h) hFc (fun _u t9 H1 locs ht hvm hw hB hz1 hk1 hS => ?_)
        obtain ⟨⟨hP1, hK1, hD1⟩, hz9⟩ := hB
        rw [ht] at hP1
        rw [ht] at hz9
        have hq0 : szk s.heap H1 (((0 + (8 * (p21 - i) + 0 - 7)) + 1)) (((0 + (64 * (p21 - i) + 0 - 60)) + 4)) := (hq0.trans hz9).mono (Nat.le_of_eq (Nat.add_zero _)) (Nat.le_of_eq (Nat.add_zero _))
        refine w_tight hq0 ?_
        obtain ⟨hP, hD⟩ := va_joinQ (wr := [(qr, .inr (5, [.ref h0, .int (nI o)])), (h0, .inr (8, [.ref qb, .ref qu, .int uc21, .int ln, .int (nI n), .int (nI p22), .int pl])), (qb, .inl (cB, 4096, .inl bf)), (qu, .inl (cI, 4096, .inl ug21))]) (w1 := [(ov, .inr (2, [.int 1, .null, .null, .null]))]) hP hD [4] [0, 1, 2, 3] rfl rfl (by decide) (by decide) hk1 hFc hP1 hD1
        generalize H1 = H at hP hS hq0 ⊢
        have hP : va_P (dC, dI) classes ([(qr, .inr (5, [.ref h0, .int (nI o)])), (h0, .inr (8, [.ref qb, .ref qu, .int uc21, .int ln, .int (nI n), .int (nI p22), .int pl])), (qb, .inl (cB, 4096, .inl bf)), (qu, .inl (cI, 4096, .inl ug21)), (ov, .inr (2, [.int 1, .null, .null, .null]))] ++ va_pl ((L ++ ([] ++ N21))) f21) H := hP
        have hD : va_D A ([(qr, .inr (5, [.ref h0, .int (nI o)])), (h0, .inr (8, [.ref qb, .ref qu, .int uc21, .int ln, .int (nI n), .int (nI p22), .int pl])), (qb, .inl (cB, 4096, .inl bf)), (qu, .inl (cI, 4096, .inl ug21)), (ov, .inr (2, [.int 1, .null, .null, .null]))] ++ va_pl ((L ++ ([] ++ N21))) f21) := hD
        refine lv_astore_n (lv' := [(3, .ref ov), (2, .int h23), (1, .ref v21), (0, .ref qr)]) hx hb d_QueryReader_testOrComparison_91 rfl hl (by decide) rfl (fun ls hl => ?_)
        refine lv_aload_n hx hb d_QueryReader_testOrComparison_92 rfl (lv_at hl 0 rfl) ?_
        refine lv_aload_n hx hb d_QueryReader_testOrComparison_93 rfl (lv_at hl 2 rfl) ?_
        refine va_put (D := (dC, dI)) (ci := 2) (v := .ref v21) (ty := .object "QueryBench$Query") (C := R_Operand) (T := F_Operand) (N := 4) hx hb hts in_Operand t_Operand t_Operand_ok n_Operand hown hK hP hD hS 4 rfl rfl 2 (by decide) (hts _ z_730) (fun _ h9 => h9) rfl (by decide +kernel) rfl rfl (Nat.le_of_ble_eq_true rfl) d_QueryReader_testOrComparison_94 (fun H locs hP hD hS => ?_)
        have hP : va_P (dC, dI) classes ([(qr, .inr (5, [.ref h0, .int (nI o)])), (h0, .inr (8, [.ref qb, .ref qu, .int uc21, .int ln, .int (nI n), .int (nI p22), .int pl])), (qb, .inl (cB, 4096, .inl bf)), (qu, .inl (cI, 4096, .inl ug21)), (ov, .inr (2, [.int 1, .null, .ref v21, .null]))] ++ va_pl ((L ++ ([] ++ N21))) f21) H := hP
        have hD : va_D A ([(qr, .inr (5, [.ref h0, .int (nI o)])), (h0, .inr (8, [.ref qb, .ref qu, .int uc21, .int ln, .int (nI n), .int (nI p22), .int pl])), (qb, .inl (cB, 4096, .inl bf)), (qu, .inl (cI, 4096, .inl ug21)), (ov, .inr (2, [.int 1, .null, .ref v21, .null]))] ++ va_pl ((L ++ ([] ++ N21))) f21) := hD
        refine lv_aload_n hx hb d_QueryReader_testOrComparison_97 rfl (lv_at hl 3 rfl) ?_
        refine lv_aload_n hx hb d_QueryReader_testOrComparison_98 rfl (lv_at hl 0 rfl) ?_
        have hG8 := hG21.mv (show p21 ≤ p22 by omega) (show p22 ≤ n by omega)
        have hL_ov := plD_new (X := [(qr, .inr (5, [.ref h0, .int (nI o)])), (h0, .inr (8, [.ref qb, .ref qu, .int uc21, .int ln, .int (nI n), .int (nI p22), .int pl])), (qb, .inl (cB, 4096, .inl bf)), (qu, .inl (cI, 4096, .inl ug21))]) hD
        have h0_ov : E21 ov = 0 := Classical.byContradiction (fun h => hL_ov (hG8.po.inL h))
        have hP := plP_push (X := [(qr, .inr (5, [.ref h0, .int (nI o)])), (h0, .inr (8, [.ref qb, .ref qu, .int uc21, .int ln, .int (nI n), .int (nI p22), .int pl])), (qb, .inl (cB, 4096, .inl bf)), (qu, .inl (cI, 4096, .inl ug21))]) hP hL_ov
        have hD := plD_push (X := [(qr, .inr (5, [.ref h0, .int (nI o)])), (h0, .inr (8, [.ref qb, .ref qu, .int uc21, .int ln, .int (nI n), .int (nI p22), .int pl])), (qb, .inl (cB, 4096, .inl bf)), (qu, .inl (cI, 4096, .inl ug21))]) hD hL_ov
        rw [List.append_assoc] at hP hD
        have hvs21 : v21 ≠ ov := fun e => by have h9 := hQ21.so; rw [e, h0_ov] at h9; cases h9
        have hG_ov := hG8.add (q := ov) (s := 11) (b := 5 * (16 - o) + 1) (e := oE 1 none (some v21) none) h0_ov hL_ov hz_ov (by decide) (by decide) (CO.O (va_up_self _ _ _) ⟨_, _, _, _, rfl, (fun b h => (nomatch h)), (fun b9 h => by cases h; exact ⟨(va_up_ne _ _ hvs21).trans hQ21.so, by rw [va_up_ne _ _ hvs21, va_up_self]; have := hlv21; omega⟩), (fun b h => (nomatch h)), (fun _ h => by cases h), fun h => absurd h (by decide), fun h => absurd h (by decide)⟩)
        have hP : va_P (dC, dI) classes ([(qr, .inr (5, [.ref h0, .int (nI o)])), (h0, .inr (8, [.ref qb, .ref qu, .int uc21, .int ln, .int (nI n), .int (nI p22), .int pl])), (qb, .inl (cB, 4096, .inl bf)), (qu, .inl (cI, 4096, .inl ug21))] ++ va_pl ((L ++ (([] ++ N21) ++ [ov]))) ((va_up f21 ov (oE 1 none (some v21) none)))) H := hP
        have hD : va_D A ([(qr, .inr (5, [.ref h0, .int (nI o)])), (h0, .inr (8, [.ref qb, .ref qu, .int uc21, .int ln, .int (nI n), .int (nI p22), .int pl])), (qb, .inl (cB, 4096, .inl bf)), (qu, .inl (cI, 4096, .inl ug21))] ++ va_pl ((L ++ (([] ++ N21) ++ [ov]))) ((va_up f21 ov (oE 1 none (some v21) none)))) := hD
        have hG25 := hG_ov.mv (show p22 ≤ p22 by omega) (show p22 ≤ n by omega)
        have hzz25 : s.heap.size ≤ H.size := hS.1
        have hPc := hP.part (cx := [(qr, .inr (5, [.ref h0, .int (nI o)])), (h0, .inr (8, [.ref qb, .ref qu, .int uc21, .int ln, .int (nI n), .int (nI p22), .int pl])), (qb, .inl (cB, 4096, .inl bf)), (qu, .inl (cI, 4096, .inl ug21))]) [0, 1, 2, 3] rfl
        have hDc := hD.part (cx := [(qr, .inr (5, [.ref h0, .int (nI o)])), (h0, .inr (8, [.ref qb, .ref qu, .int uc21, .int ln, .int (nI n), .int (nI p22), .int pl])), (qb, .inl (cB, 4096, .inl bf)), (qu, .inl (cI, 4096, .inl ug21))]) [0, 1, 2, 3] (by decide) rfl
        have hFc := va_freeP (cx := [(qr, .inr (5, [.ref h0, .int (nI o)])), (h0, .inr (8, [.ref qb, .ref qu, .int uc21, .int ln, .int (nI n), .int (nI p22), .int pl])), (qb, .inl (cB, 4096, .inl bf)), (qu, .inl (cI, 4096, .inl ug21))]) hD hS hA [0, 1, 2, 3] rfl
        have hKc := hK.sub (tys' := [(cB, .byte), (cI, .int), (cV, .object "QueryBench$Value")]) [0, 1, 2] rfl
        refine w_same (fun hq0 => ?_)
        refine vx_callr (vx_runV (As := [.ref ov]) (rest := []) ⟨hx, hb, hml, hown, hts⟩ (c_QR_comparison l hl9 K dC dI cI cV cB h0 qb qu ln bf n qr hn0 hbf o ho ok orL cmL qyL hok HP H ((va_up E21 ov 11)) ((va_up lv21 ov (5 * (16 - o) + 1))) (L ++ (([] ++ N21) ++ [ov])) ((va_up f21 ov (oE 1 none (some v21) none))) p22 uc21 pl ug21 hG25.po (by omega) ov (va_up_self _ _ _) E (onlO m21) hG_ov.ex (hG21.ex.z h0_ov) (DNx.onl hd21 hnv21 hsv21 h0_ov)) (cwV 1 hts (gt_V (own := R_QueryReader) (C := R_QueryReader) (i := 188) (y := y_QueryReader_comparison) i_QueryReader_comparison z_743 z_745 (gt_sel (y := y_QueryReader_comparison) (n := 2) (by decide +kernel)) w_4) rfl rfl rfl (by decide +kernel) ⟨by show 12 * (16 - o) + 17 + 1 ≤ 12 * (16 - o) + 18; omega, by show 8 + (3 + 11) + (360 * (16 - o) + 510) ≤ 360 * (16 - o) + 540; omega⟩) ⟨ml_blind, va_recv hK hP (ci := 5) (q0 := 0) rfl rfl, fun U hU hW => ⟨rfl, ⟨hU, by rw [hU]; exact hPc, va_K.moved hW.alike hKc, hDc.weaken (fun _ _ _ _ => trivial)⟩, hN.warm hW, by rw [hU]; exact ZX.moved' hW.alike (ZX.narrow' (ZX.kept' hZ hS.2.1) hFc), by rw [hU]; exact CE.call hC hS.2.1 hFc hW, va_AO.moved hW.alike hV⟩⟩ rfl rfl hl.1 rfl (lv_room (Nat.le_of_ble_eq_true rfl)) d_QueryReader_testOrComparison_99 ⟨by show ((0 + (8 * (p21 - i) + 0 - 7)) + 1) + (8 * (n - p22) + 4) ≤ 8 * (n - i) + 6; omega, by show ((0 + (64 * (p21 - i) + 0 - 60)) + 4) + (64 * (n - p22) + 60) ≤ 64 * (n - i) + 60; omega⟩) hS (fun q _ h => hFc q h) hFc (fun q _ h => hFc q h) (fun En ce q9 ⟨ax, cx, px, gx, ox⟩ t9 H1 locs ht hvm hw hB hz1 hk1 hS hce hcv hcl => ?_) (fun ⟨w25, p25, N25, E25, f25, uc25, ug25⟩ v25 t9 H1 locs ht hvm hw hB hz1 hk1 hS => ?_)
        · obtain ⟨hEn, hP1, hK1, hD1⟩ := hB
          rw [ht] at hP1
          obtain ⟨hP, hD⟩ := va_joinP (wr := []) (rx := [(qr, .inr (5, [.ref h0, .int ox])), (h0, .inr (8, [.ref qb, .ref qu, .int cx, .int ln, .int (nI n), .int ax, .int px])), (qb, .inl (cB, 4096, .inl bf)), (qu, .inl (cI, 4096, .inl gx))]) (pl1 := va_pl ((L ++ (([] ++ N21) ++ [ov]))) ((va_up f21 ov (oE 1 none (some v21) none)))) hP hD [0, 1, 2, 3] [] rfl rfl (by decide) (by decide) hk1 hFc hP1 hD1
          generalize H1 = H at hP hS hce ⊢
          have hP : va_P (dC, dI) classes ([(qr, .inr (5, [.ref h0, .int ox])), (h0, .inr (8, [.ref qb, .ref qu, .int cx, .int ln, .int (nI n), .int ax, .int px])), (qb, .inl (cB, 4096, .inl bf)), (qu, .inl (cI, 4096, .inl gx))] ++ va_pl ((L ++ (([] ++ N21) ++ [ov]))) ((va_up f21 ov (oE 1 none (some v21) none)))) H := hP
          have hD : va_D A ([(qr, .inr (5, [.ref h0, .int ox])), (h0, .inr (8, [.ref qb, .ref qu, .int cx, .int ln, .int (nI n), .int ax, .int px])), (qb, .inl (cB, 4096, .inl bf)), (qu, .inl (cI, 4096, .inl gx))] ++ va_pl ((L ++ (([] ++ N21) ++ [ov]))) ((va_up f21 ov (oE 1 none (some v21) none)))) := hD
          have hP := plP_cut (hP.part (cx := [(qr, .inr (5, [.ref h0, .int ox])), (h0, .inr (8, [.ref qb, .ref qu, .int cx, .int ln, .int (nI n), .int ax, .int px])), (qb, .inl (cB, 4096, .inl bf)), (qu, .inl (cI, 4096, .inl gx))]) [0, 1, 2, 3] rfl) hG25.on
          have hD := plD_cut (hD.part (cx := [(qr, .inr (5, [.ref h0, .int ox])), (h0, .inr (8, [.ref qb, .ref qu, .int cx, .int ln, .int (nI n), .int ax, .int px])), (qb, .inl (cB, 4096, .inl bf)), (qu, .inl (cI, 4096, .inl gx))]) [0, 1, 2, 3] (by decide) rfl) hG25.on
          have hno : (tcD bf n ok orL (opD bf n ok orL cmL qyL)) i = none := (tcD_2 hqr h_p22 hop hsq1).trans hw
          exact vx_out (fun x hx => (hex x hx).elim) hlocks hce hcv hcl (fun t9 ht2 ha => ⟨(ax, cx, px, gx, ox), hno, ⟨hEn, by rw [ht2]; exact hP, va_K.moved ha hK, hD⟩, hS.F ht2⟩) hS.2.2 (by show ((0 + (8 * (p21 - i) + 0 - 7)) + 1) + (8 * (n - p22) + 4) ≤ 8 * (n - i) + 6; omega) (by show ((0 + (64 * (p21 - i) + 0 - 60)) + 4) + (64 * (n - p22) + 60) ≤ 64 * (n - i) + 60; omega)
        · obtain ⟨⟨hP1, hK1, hD1⟩, hz9, ha9⟩ := hB
          rw [ht] at hP1
          rw [ht] at hz9
          have ha9 : v25 = w25 := ha9
          subst ha9
          have hq0 : szk s.heap H1 (((0 + (8 * (p21 - i) + 0 - 7)) + 1) + (8 * (p25 - p22) - 4)) (((0 + (64 * (p21 - i) + 0 - 60)) + 4) + (64 * (p25 - p22) - 44)) := (hq0.trans hz9).mono (Nat.le_refl _) (Nat.le_refl _)
          refine w_tight hq0 ?_
          obtain ⟨hP, hD⟩ := va_joinP (wr := []) (rx := [(qr, .inr (5, [.ref h0, .int (nI o)])), (h0, .inr (8, [.ref qb, .ref qu, .int uc25, .int ln, .int (nI n), .int (nI p25), .int pl])), (qb, .inl (cB, 4096, .inl bf)), (qu, .inl (cI, 4096, .inl ug25))]) (pl1 := va_pl (((L ++ (([] ++ N21) ++ [ov])) ++ N25)) f25) hP hD [0, 1, 2, 3] [] rfl rfl (by decide) (by decide) hk1 hFc hP1 hD1
          generalize H1 = H at hP hS hq0 ⊢
          have hP : va_P (dC, dI) classes ([(qr, .inr (5, [.ref h0, .int (nI o)])), (h0, .inr (8, [.ref qb, .ref qu, .int uc25, .int ln, .int (nI n), .int (nI p25), .int pl])), (qb, .inl (cB, 4096, .inl bf)), (qu, .inl (cI, 4096, .inl ug25))] ++ va_pl (((L ++ (([] ++ N21) ++ [ov])) ++ N25)) f25) H := hP
          have hD : va_D A ([(qr, .inr (5, [.ref h0, .int (nI o)])), (h0, .inr (8, [.ref qb, .ref qu, .int uc25, .int ln, .int (nI n), .int (nI p25), .int pl])), (qb, .inl (cB, 4096, .inl bf)), (qu, .inl (cI, 4096, .inl ug25))] ++ va_pl (((L ++ (([] ++ N21) ++ [ov])) ++ N25)) f25) := hD
          obtain ⟨hw, m25, hf25, hd25⟩ := hw
          have hf25 : (cpD bf n (opD bf n ok orL cmL qyL) (onlO m21)) p22 = some (p25, m25) := hf25
          have hd25 : DNx KD 2 E E25 f25 v25 m25 := hd25
          have hQ25 : QK cI cV ((va_up E21 ov 11)) (L ++ (([] ++ N21) ++ [ov])) ((va_up f21 ov (oE 1 none (some v21) none))) p22 n _ ov (5 * (16 - o) + 2) v25 p25 N25 E25 f25 := hw
          obtain ⟨hn25, hs25, ha25, hb25, hx25⟩ := hQ25
          have ha25 : p22 + 1 ≤ p25 := ha25
          have hb25 : p25 ≤ n := hb25
          rw [List.append_assoc] at hP hD
          obtain ⟨lv25, hg25, hlv25⟩ := hx25 ((va_up lv21 ov (5 * (16 - o) + 1))) hG25.po (5 * (16 - o) + 2 + ((va_up lv21 ov (5 * (16 - o) + 1))) ov + 1) (by omega) (by omega)
          have hG25 := hG25.tr hg25 hzz25
          have hP : va_P (dC, dI) classes ([(qr, .inr (5, [.ref h0, .int (nI o)])), (h0, .inr (8, [.ref qb, .ref qu, .int uc25, .int ln, .int (nI n), .int (nI p25), .int pl])), (qb, .inl (cB, 4096, .inl bf)), (qu, .inl (cI, 4096, .inl ug25))] ++ va_pl ((L ++ ((([] ++ N21) ++ [ov]) ++ N25))) f25) H := hP
          have hD : va_D A ([(qr, .inr (5, [.ref h0, .int (nI o)])), (h0, .inr (8, [.ref qb, .ref qu, .int uc25, .int ln, .int (nI n), .int (nI p25), .int pl])), (qb, .inl (cB, 4096, .inl bf)), (qu, .inl (cI, 4096, .inl ug25))] ++ va_pl ((L ++ ((([] ++ N21) ++ [ov]) ++ N25))) f25) := hD
          have hQf : QPn cI cV E L f i n s.heap.size 10 (5 * (16 - o) + 2) 1 v25 p25 ((([] ++ N21) ++ [ov]) ++ N25) E25 f25 := by
            refine ⟨hG_ov.ex.z hn25, hs25, by omega, by omega, fun lv hO b hb => ?_⟩
            have g0 : QG cI cV E lv L f i n i s.heap.size [] E lv f := (QG.rf hO hi9).mv (by omega) (by omega)
            obtain ⟨lv1, g1, c1⟩ := hQ21.x lv g0.po (5 * (16 - o)) (by omega)
            have g1 := g0.tr g1 hzz21
            have g1 := g1.mv (show p21 ≤ p22 by omega) (show p22 ≤ n by omega)
            have g2 := g1.add (q := ov) (s := 11) (b := 5 * (16 - o) + 1) (e := oE 1 none (some v21) none) h0_ov hL_ov hz_ov (by decide) (by decide) (CO.O (va_up_self _ _ _) ⟨_, _, _, _, rfl, (fun b h => (nomatch h)), (fun b9 h => by cases h; exact ⟨(va_up_ne _ _ hvs21).trans hQ21.so, by rw [va_up_ne _ _ hvs21, va_up_self]; have := c1; omega⟩), (fun b h => (nomatch h)), (fun _ h => by cases h), fun h => absurd h (by decide), fun h => absurd h (by decide)⟩)
            obtain ⟨lv2, g3, c3⟩ := hx25 _ g2.po b (by omega) (by rw [va_up_self]; omega)
            exact ⟨lv2, g2.tr g3 hzz25, c3⟩
          have hQr : QPn cI cV E L f i n s.heap.size 10 (5 * (16 - o) + 2) 1 v25 p25 (((([] ++ N21) ++ [ov]) ++ N25)) E25 f25 := hQf
          have hfin : (tcD bf n ok orL (opD bf n ok orL cmL qyL)) i = some (p25, m25) := (tcD_2 hqr h_p22 hop hsq1).trans hf25
          have hdn : DNx KD 2 E E25 f25 v25 m25 := hd25
          refine w_same (fun hq => ?_)
          refine W.widen (k := 8 * (n - i) + 6) (n := 64 * (n - i) + 60) (by show (((0 + (8 * (p21 - i) + 0 - 7)) + 1) + (8 * (p25 - p22) - 4)) ≤ 8 * (n - i) + 6; omega) (by show (((0 + (64 * (p21 - i) + 0 - 60)) + 4) + (64 * (p25 - p22) - 44)) ≤ 64 * (n - i) + 60; omega) ?_
          refine vx_ret ?_
          exact W.aret (v := .ref v25) hx hb hr (Or.inl ⟨_, rfl⟩) (Or.inr ⟨_, rfl⟩) (fun t9 ht hW => ⟨⟨(v25, p25, ((([] ++ N21) ++ [ov]) ++ N25), E25, f25, uc25, ug25), v25, rfl, ⟨hQr, _, hfin, hdn⟩, ⟨by rw [ht]; exact hP, va_K.moved hW.alike hK, hD⟩, by rw [ht]; exact ⟨hq.mono (by show (((0 + (8 * (p21 - i) + 0 - 7)) + 1) + (8 * (p25 - p22) - 4)) ≤ 8 * (p25 - i) + 0 - 6; omega) (by show (((0 + (64 * (p21 - i) + 0 - 60)) + 4) + (64 * (p25 - p22) - 44)) ≤ 64 * (p25 - i) + 0 - 54; omega), rfl⟩⟩, hS.F ht⟩) hS.2.2 d_QueryReader_testOrComparison_102
      · refine lv_aload_n hx hb d_QueryReader_testOrComparison_68 rfl (lv_at hl 2 rfl) ?_
        refine va_get (D := (dC, dI)) (ci := 5) (v := .ref h0) (C := R_QueryReader) (T := F_QueryReader) (N := 2) hx hb hts in_QueryReader hown hK hP 0 rfl rfl 0 (by decide) (hts _ w_100) (fun _ h9 => h9) rfl d_QueryReader_testOrComparison_69 ?_
        refine lv_aload_n hx hb d_QueryReader_testOrComparison_72 rfl (lv_at hl 2 rfl) ?_
        refine va_get (D := (dC, dI)) (ci := 5) (v := .ref h0) (C := R_QueryReader) (T := F_QueryReader) (N := 2) hx hb hts in_QueryReader hown hK hP 0 rfl rfl 0 (by decide) (hts _ w_100) (fun _ h9 => h9) rfl d_QueryReader_testOrComparison_73 ?_
        refine va_get (D := (dC, dI)) (ci := 8) (v := .int (nI p22)) (C := R_Tape) (T := F_Tape) (N := 7) hx hb hts in_Tape hown hK hP 1 rfl rfl 5 (by decide) (hts _ z_53) (fun _ h9 => h9) rfl d_QueryReader_testOrComparison_76 ?_
        have hPc := hP.sub (ws' := [(h0, .inr (8, [.ref qb, .ref qu, .int uc21, .int ln, .int (nI n), .int (nI p22), .int pl])), (qb, .inl (cB, 4096, .inl bf))]) [1, 2] rfl
        have hDc := hD.sub (ws' := [(h0, .inr (8, [.ref qb, .ref qu, .int uc21, .int ln, .int (nI n), .int (nI p22), .int pl])), (qb, .inl (cB, 4096, .inl bf))]) [1, 2] (by decide) rfl
        have hFc := va_free (wc := [(h0, .inr (8, [.ref qb, .ref qu, .int uc21, .int ln, .int (nI n), .int (nI p22), .int pl])), (qb, .inl (cB, 4096, .inl bf))]) hD hS hA [1, 2] rfl
        have hKc := hK.sub (tys' := [(cB, .byte)]) [0] rfl
        refine w_same (fun hq0 => ?_)
        refine vx_callv (vx_runV (As := [.int (nI p22)]) (rest := []) ⟨hx, hb, hml, hown, hts⟩ (c_Tape_fail l hl9 dC dI cB h0 qb H (.ref qu) uc21 ln (nI n) (nI p22) pl bf ((nI p22))) (cwV 1 hts (gt_V (own := R_QueryReader) (C := R_Tape) (i := 28) (y := y_Tape_fail) i_Tape_fail z_535 w_371 w_372 w_2) rfl rfl rfl (by decide +kernel) ⟨by show 8 + 1 ≤ 12 * (16 - o) + 18; omega, by show 8 + (2 + 11) + (110) ≤ 360 * (16 - o) + 540; omega⟩) ⟨mx_blind, va_recv hK hP (ci := 8) (q0 := 1) rfl rfl, fun U hU hW => ⟨rfl, ⟨hU, by rw [hU]; exact hPc, va_K.moved hW.alike hKc, hDc.weaken (fun _ _ _ _ => trivial)⟩, hN.warm hW, by rw [hU]; exact ZX.moved' hW.alike (ZX.narrow' (ZX.kept' hZ hS.2.1) hFc)⟩⟩ rfl rfl hl.1 rfl (lv_room (Nat.le_of_ble_eq_true rfl)) d_QueryReader_testOrComparison_79 ⟨by show (0 + (8 * (p21 - i) + 0 - 7)) + (1) ≤ 8 * (n - i) + 6; omega, by show (0 + (64 * (p21 - i) + 0 - 60)) + (6) ≤ 64 * (n - i) + 60; omega⟩) hS (fun q _ h => hFc q h) hFc (fun q _ h => hFc q h) (fun En ce q9 _u t9 H1 locs ht hvm hw hB hz1 hk1 hS hce hcv hcl => ?_) (fun _u t9 H1 locs ht hvm hw hB hz1 hk1 hS => ?_)
        · obtain ⟨hEn, hP1, hK1, hD1⟩ := hB
          rw [ht] at hP1
          obtain ⟨hP, hD⟩ := va_joinQ (wr := [(qr, .inr (5, [.ref h0, .int (nI o)])), (qu, .inl (cI, 4096, .inl ug21))]) (w1 := [(h0, .inr (8, [.ref qb, .ref qu, .int uc21, .int ln, .int (nI n), .int (nI p22), .int (nI p22)])), (qb, .inl (cB, 4096, .inl bf))]) hP hD [1, 2] [0, 3] rfl rfl (by decide) (by decide) hk1 hFc hP1 hD1
          generalize H1 = H at hP hS hce ⊢
          have hP : va_P (dC, dI) classes ([(qr, .inr (5, [.ref h0, .int (nI o)])), (qu, .inl (cI, 4096, .inl ug21)), (h0, .inr (8, [.ref qb, .ref qu, .int uc21, .int ln, .int (nI n), .int (nI p22), .int (nI p22)])), (qb, .inl (cB, 4096, .inl bf))] ++ va_pl ((L ++ ([] ++ N21))) f21) H := hP
          have hD : va_D A ([(qr, .inr (5, [.ref h0, .int (nI o)])), (qu, .inl (cI, 4096, .inl ug21)), (h0, .inr (8, [.ref qb, .ref qu, .int uc21, .int ln, .int (nI n), .int (nI p22), .int (nI p22)])), (qb, .inl (cB, 4096, .inl bf))] ++ va_pl ((L ++ ([] ++ N21))) f21) := hD
          have hP := hP.part (cx := [(qr, .inr (5, [.ref h0, .int (nI o)])), (h0, .inr (8, [.ref qb, .ref qu, .int uc21, .int ln, .int (nI n), .int (nI p22), .int (nI p22)])), (qb, .inl (cB, 4096, .inl bf)), (qu, .inl (cI, 4096, .inl ug21))]) [0, 2, 3, 1] rfl
          have hD := hD.part (cx := [(qr, .inr (5, [.ref h0, .int (nI o)])), (h0, .inr (8, [.ref qb, .ref qu, .int uc21, .int ln, .int (nI n), .int (nI p22), .int (nI p22)])), (qb, .inl (cB, 4096, .inl bf)), (qu, .inl (cI, 4096, .inl ug21))]) [0, 2, 3, 1] (by decide) rfl
          have hP := plP_cut (hP.part (cx := [(qr, .inr (5, [.ref h0, .int (nI o)])), (h0, .inr (8, [.ref qb, .ref qu, .int uc21, .int ln, .int (nI n), .int (nI p22), .int (nI p22)])), (qb, .inl (cB, 4096, .inl bf)), (qu, .inl (cI, 4096, .inl ug21))]) [0, 1, 2, 3] rfl) hG21.on
          have hD := plD_cut (hD.part (cx := [(qr, .inr (5, [.ref h0, .int (nI o)])), (h0, .inr (8, [.ref qb, .ref qu, .int uc21, .int ln, .int (nI n), .int (nI p22), .int (nI p22)])), (qb, .inl (cB, 4096, .inl bf)), (qu, .inl (cI, 4096, .inl ug21))]) [0, 1, 2, 3] (by decide) rfl) hG21.on
          have hno : (tcD bf n ok orL (opD bf n ok orL cmL qyL)) i = none := tcD_1 hqr h_p22 hop ((bI_q hsq).2 c65)
          exact vx_out (fun x hx => (hex x hx).elim) hlocks hce hcv hcl (fun t9 ht2 ha => ⟨(nI p22, uc21, (nI p22), ug21, nI o), hno, ⟨hEn, by rw [ht2]; exact hP, va_K.moved ha hK, hD⟩, hS.F ht2⟩) hS.2.2 (by show (0 + (8 * (p21 - i) + 0 - 7)) + (1) ≤ 8 * (n - i) + 6; omega) (by show (0 + (64 * (p21 - i) + 0 - 60)) + (6) ≤ 64 * (n - i) + 60; omega)
        · obtain ⟨⟨hP1, hK1, hD1⟩, hz9⟩ := hB
          rw [ht] at hP1
          rw [ht] at hz9
          refine w_tight (hq0.trans hz9) ?_
          have hq0 := hq0.trans hz9
          obtain ⟨hP, hD⟩ := va_joinQ (wr := [(qr, .inr (5, [.ref h0, .int (nI o)])), (qu, .inl (cI, 4096, .inl ug21))]) (w1 := [(h0, .inr (8, [.ref qb, .ref qu, .int uc21, .int ln, .int (nI n), .int (nI p22), .int pl])), (qb, .inl (cB, 4096, .inl bf))]) hP hD [1, 2] [0, 3] rfl rfl (by decide) (by decide) hk1 hFc hP1 hD1
          generalize H1 = H at hP hS hq0 ⊢
          have hP : va_P (dC, dI) classes ([(qr, .inr (5, [.ref h0, .int (nI o)])), (qu, .inl (cI, 4096, .inl ug21)), (h0, .inr (8, [.ref qb, .ref qu, .int uc21, .int ln, .int (nI n), .int (nI p22), .int pl])), (qb, .inl (cB, 4096, .inl bf))] ++ va_pl ((L ++ ([] ++ N21))) f21) H := hP
          have hD : va_D A ([(qr, .inr (5, [.ref h0, .int (nI o)])), (qu, .inl (cI, 4096, .inl ug21)), (h0, .inr (8, [.ref qb, .ref qu, .int uc21, .int ln, .int (nI n), .int (nI p22), .int pl])), (qb, .inl (cB, 4096, .inl bf))] ++ va_pl ((L ++ ([] ++ N21))) f21) := hD
          have hP := hP.part (cx := [(qr, .inr (5, [.ref h0, .int (nI o)])), (h0, .inr (8, [.ref qb, .ref qu, .int uc21, .int ln, .int (nI n), .int (nI p22), .int pl])), (qb, .inl (cB, 4096, .inl bf)), (qu, .inl (cI, 4096, .inl ug21))]) [0, 2, 3, 1] rfl
          have hD := hD.part (cx := [(qr, .inr (5, [.ref h0, .int (nI o)])), (h0, .inr (8, [.ref qb, .ref qu, .int uc21, .int ln, .int (nI n), .int (nI p22), .int pl])), (qb, .inl (cB, 4096, .inl bf)), (qu, .inl (cI, 4096, .inl ug21))]) [0, 2, 3, 1] (by decide) rfl
          exact hw.elim
    · refine lv_iload_n hx hb d_QueryReader_testOrComparison_27 rfl (lv_at hl 0 rfl) ?_
      refine lv_bipush (v := 33) hx hb d_QueryReader_testOrComparison_28 (by decide) ?_
      refine lv_icmp_eq (tgt := 61) hx hb d_QueryReader_testOrComparison_30 (by decide) (fun c30 => ?_) (fun c30 => ?_)
      · have hop : opH (hereV bf n p22) := by rw [← h_h23]; exact Or.inr (Or.inl c30)
        refine lv_aload_n hx hb d_QueryReader_testOrComparison_61 rfl (lv_at hl 1 rfl) ?_
        obtain ⟨fr26, sg26, fi26, la26, ef26, hv26⟩ := hG21.po.qry hQ21.so
        refine vq_get (D := (dC, dI)) (ci := 4) (v := .int sg26) (C := R_Query) (T := F_Query) (N := 4) hx hb hts in_Query hown hK hP (hG21.po.inL (a := v21) (by rw [hQ21.so]; decide)) ef26 rfl 1 (by decide) (hts _ z_550) (fun _ h9 => h9) rfl d_QueryReader_testOrComparison_62 ?_
        have hsq : sgQ (f21 v21) = decide (¬ sg26 = 0) := by rw [ef26]; rfl
        refine lv_if_ne (tgt := 82) hx hb d_QueryReader_testOrComparison_65 (by decide) (fun c65 => ?_) (fun c65 => ?_)
        · have hsq1 := (bI_q hsq).1 c65
          refine va_new (ci := 2) (fs := [.int 0, .null, .null, .null]) (C := R_Operand) (T := F_Operand) (N := 4) hx hb hts in_Operand t_Operand t_Operand_ok hown (hts _ z_720) (hts _ z_721) (hts _ z_27) hK hP hD hS hA rfl (fun j hj => by rcases (show j = 0 ∨ j = 1 ∨ j = 2 ∨ j = 3 by omega) with rfl | rfl | rfl | rfl <;> rfl) (by show (0 + (8 * (p21 - i) + 0 - 7)) + 1 ≤ 8 * (n - i) + 6; omega) (by show (0 + (64 * (p21 - i) + 0 - 60)) + 4 ≤ 64 * (n - i) + 60; omega) d_QueryReader_testOrComparison_82 (fun ov H hP hD hS => ?_)
          have hz_ov := newB (X := [(qr, .inr (5, [.ref h0, .int (nI o)])), (h0, .inr (8, [.ref qb, .ref qu, .int uc21, .int ln, .int (nI n), .int (nI p22), .int pl])), (qb, .inl (cB, 4096, .inl bf)), (qu, .inl (cI, 4096, .inl ug21))]) hAe hD (fun k x hk => by rcases k with _ | _ | _ | _ | k; (· cases hk; exact ⟨0, _, rfl⟩); (· cases hk; exact ⟨1, _, rfl⟩); (· cases hk; exact ⟨2, _, rfl⟩); (· cases hk; exact ⟨3, _, rfl⟩); (· cases hk))
          have hP := hP.swap
          have hD := hD.swap
          have hP : va_P (dC, dI) classes ([(qr, .inr (5, [.ref h0, .int (nI o)])), (h0, .inr (8, [.ref qb, .ref qu, .int uc21, .int ln, .int (nI n), .int (nI p22), .int pl])), (qb, .inl (cB, 4096, .inl bf)), (qu, .inl (cI, 4096, .inl ug21)), (ov, .inr (2, [.int 0, .null, .null, .null]))] ++ va_pl ((L ++ ([] ++ N21))) f21) H := hP
          have hD : va_D A ([(qr, .inr (5, [.ref h0, .int (nI o)])), (h0, .inr (8, [.ref qb, .ref qu, .int uc21, .int ln, .int (nI n), .int (nI p22), .int pl])), (qb, .inl (cB, 4096, .inl bf)), (qu, .inl (cI, 4096, .inl ug21)), (ov, .inr (2, [.int 0, .null, .null, .null]))] ++ va_pl ((L ++ ([] ++ N21))) f21) := hD
          refine lv_dup hx hb d_QueryReader_testOrComparison_85 rfl ?_
          refine lv_iconst (v := 1) hx hb d_QueryReader_testOrComparison_86 (by decide) ?_
          refine lv_null hx hb d_QueryReader_testOrComparison_87 ?_
          have hPc := hP.sub (ws' := [(ov, .inr (2, [.int 0, .null, .null, .null]))]) [4] rfl
          have hDc := hD.sub (ws' := [(ov, .inr (2, [.int 0, .null, .null, .null]))]) [4] (by decide) rfl
          have hFc := va_free (wc := [(ov, .inr (2, [.int 0, .null, .null, .null]))]) hD hS hA [4] rfl
          have hKc := hK.sub (tys' := []) [] rfl
          refine w_same (fun hq0 => ?_)
          refine va_callv (va_runI (As := [.int 1, .null]) (rest := [.ref ov]) ⟨hx, hb, hml, hown, hts⟩ (c_Operand_init l dC dI H ov 1 none) (cwI 2 hts (gt_code i_Operand_init) rfl rfl rfl (hts _ z_27) (hts _ z_722) (hts _ z_723) rfl (by decide +kernel) ⟨by show 1 + 1 ≤ 12 * (16 - o) + 18; omega, by show 8 + (3 + 11) + (20) ≤ 360 * (16 - o) + 540; omega⟩) ⟨mp_blind, fun U hU hW => ⟨rfl, hU, by rw [hU]; exact hPc, va_K.moved hW.alike hKc, hDc.weaken (fun _ _ _ _ => trivial)⟩⟩ rfl rfl hl.1 rfl (lv_room (Nat.le_of_ble_eq_true rfl)) d_QueryReader_testOrComparison_88 ⟨by show ((0 + (8 * (p21 - i) + 0 - 7)) + 1) + (0) ≤ 8 * (n - i) + 6; omega, by show ((0 + (64 * (p21 - i) + 0 - 60)) + 4) + (0) ≤ 64 * (n - i) + 60; omega⟩) hS (fun q _ h => hFc q h) hFc (fun _u t9 H1 locs ht hvm hw hB hz1 hk1 hS => ?_)
          obtain ⟨⟨hP1, hK1, hD1⟩, hz9⟩ := hB
          rw [ht] at hP1
          rw [ht] at hz9
          have hq0 : szk s.heap H1 (((0 + (8 * (p21 - i) + 0 - 7)) + 1)) (((0 + (64 * (p21 - i) + 0 - 60)) + 4)) := (hq0.trans hz9).mono (Nat.le_of_eq (Nat.add_zero _)) (Nat.le_of_eq (Nat.add_zero _))
          refine w_tight hq0 ?_
          obtain ⟨hP, hD⟩ := va_joinQ (wr := [(qr, .inr (5, [.ref h0, .int (nI o)])), (h0, .inr (8, [.ref qb, .ref qu, .int uc21, .int ln, .int (nI n), .int (nI p22), .int pl])), (qb, .inl (cB, 4096, .inl bf)), (qu, .inl (cI, 4096, .inl ug21))]) (w1 := [(ov, .inr (2, [.int 1, .null, .null, .null]))]) hP hD [4] [0, 1, 2, 3] rfl rfl (by decide) (by decide) hk1 hFc hP1 hD1
          generalize H1 = H at hP hS hq0 ⊢
          have hP : va_P (dC, dI) classes ([(qr, .inr (5, [.ref h0, .int (nI o)])), (h0, .inr (8, [.ref qb, .ref qu, .int uc21, .int ln, .int (nI n), .int (nI p22), .int pl])), (qb, .inl (cB, 4096, .inl bf)), (qu, .inl (cI, 4096, .inl ug21)), (ov, .inr (2, [.int 1, .null, .null, .null]))] ++ va_pl ((L ++ ([] ++ N21))) f21) H := hP
          have hD : va_D A ([(qr, .inr (5, [.ref h0, .int (nI o)])), (h0, .inr (8, [.ref qb, .ref qu, .int uc21, .int ln, .int (nI n), .int (nI p22), .int pl])), (qb, .inl (cB, 4096, .inl bf)), (qu, .inl (cI, 4096, .inl ug21)), (ov, .inr (2, [.int 1, .null, .null, .null]))] ++ va_pl ((L ++ ([] ++ N21))) f21) := hD
          refine lv_astore_n (lv' := [(3, .ref ov), (2, .int h23), (1, .ref v21), (0, .ref qr)]) hx hb d_QueryReader_testOrComparison_91 rfl hl (by decide) rfl (fun ls hl => ?_)
          refine lv_aload_n hx hb d_QueryReader_testOrComparison_92 rfl (lv_at hl 0 rfl) ?_
          refine lv_aload_n hx hb d_QueryReader_testOrComparison_93 rfl (lv_at hl 2 rfl) ?_
          refine va_put (D := (dC, dI)) (ci := 2) (v := .ref v21) (ty := .object "QueryBench$Query") (C := R_Operand) (T := F_Operand) (N := 4) hx hb hts in_Operand t_Operand t_Operand_ok n_Operand hown hK hP hD hS 4 rfl rfl 2 (by decide) (hts _ z_730) (fun _ h9 => h9) rfl (by decide +kernel) rfl rfl (Nat.le_of_ble_eq_true rfl) d_QueryReader_testOrComparison_94 (fun H locs hP hD hS => ?_)
          have hP : va_P (dC, dI) classes ([(qr, .inr (5, [.ref h0, .int (nI o)])), (h0, .inr (8, [.ref qb, .ref qu, .int uc21, .int ln, .int (nI n), .int (nI p22), .int pl])), (qb, .inl (cB, 4096, .inl bf)), (qu, .inl (cI, 4096, .inl ug21)), (ov, .inr (2, [.int 1, .null, .ref v21, .null]))] ++ va_pl ((L ++ ([] ++ N21))) f21) H := hP
          have hD : va_D A ([(qr, .inr (5, [.ref h0, .int (nI o)])), (h0, .inr (8, [.ref qb, .ref qu, .int uc21, .int ln, .int (nI n), .int (nI p22), .int pl])), (qb, .inl (cB, 4096, .inl bf)), (qu, .inl (cI, 4096, .inl ug21)), (ov, .inr (2, [.int 1, .null, .ref v21, .null]))] ++ va_pl ((L ++ ([] ++ N21))) f21) := hD
          refine lv_aload_n hx hb d_QueryReader_testOrComparison_97 rfl (lv_at hl 3 rfl) ?_
          refine lv_aload_n hx hb d_QueryReader_testOrComparison_98 rfl (lv_at hl 0 rfl) ?_
          have hG8 := hG21.mv (show p21 ≤ p22 by omega) (show p22 ≤ n by omega)
          have hL_ov := plD_new (X := [(qr, .inr (5, [.ref h0, .int (nI o)])), (h0, .inr (8, [.ref qb, .ref qu, .int uc21, .int ln, .int (nI n), .int (nI p22), .int pl])), (qb, .inl (cB, 4096, .inl bf)), (qu, .inl (cI, 4096, .inl ug21))]) hD
          have h0_ov : E21 ov = 0 := Classical.byContradiction (fun h => hL_ov (hG8.po.inL h))
          have hP := plP_push (X := [(qr, .inr (5, [.ref h0, .int (nI o)])), (h0, .inr (8, [.ref qb, .ref qu, .int uc21, .int ln, .int (nI n), .int (nI p22), .int pl])), (qb, .inl (cB, 4096, .inl bf)), (qu, .inl (cI, 4096, .inl ug21))]) hP hL_ov
          have hD := plD_push (X := [(qr, .inr (5, [.ref h0, .int (nI o)])), (h0, .inr (8, [.ref qb, .ref qu, .int uc21, .int ln, .int (nI n), .int (nI p22), .int pl])), (qb, .inl (cB, 4096, .inl bf)), (qu, .inl (cI, 4096, .inl ug21))]) hD hL_ov
          rw [List.append_assoc] at hP hD
          have hvs21 : v21 ≠ ov := fun e => by have h9 := hQ21.so; rw [e, h0_ov] at h9; cases h9
          have hG_ov := hG8.add (q := ov) (s := 11) (b := 5 * (16 - o) + 1) (e := oE 1 none (some v21) none) h0_ov hL_ov hz_ov (by decide) (by decide) (CO.O (va_up_self _ _ _) ⟨_, _, _, _, rfl, (fun b h => (nomatch h)), (fun b9 h => by cases h; exact ⟨(va_up_ne _ _ hvs21).trans hQ21.so, by rw [va_up_ne _ _ hvs21, va_up_self]; have := hlv21; omega⟩), (fun b h => (nomatch h)), (fun _ h => by cases h), fun h => absurd h (by decide), fun h => absurd h (by decide)⟩)
          have hP : va_P (dC, dI) classes ([(qr, .inr (5, [.ref h0, .int (nI o)])), (h0, .inr (8, [.ref qb, .ref qu, .int uc21, .int ln, .int (nI n), .int (nI p22), .int pl])), (qb, .inl (cB, 4096, .inl bf)), (qu, .inl (cI, 4096, .inl ug21))] ++ va_pl ((L ++ (([] ++ N21) ++ [ov]))) ((va_up f21 ov (oE 1 none (some v21) none)))) H := hP
          have hD : va_D A ([(qr, .inr (5, [.ref h0, .int (nI o)])), (h0, .inr (8, [.ref qb, .ref qu, .int uc21, .int ln, .int (nI n), .int (nI p22), .int pl])), (qb, .inl (cB, 4096, .inl bf)), (qu, .inl (cI, 4096, .inl ug21))] ++ va_pl ((L ++ (([] ++ N21) ++ [ov]))) ((va_up f21 ov (oE 1 none (some v21) none)))) := hD
          have hG27 := hG_ov.mv (show p22 ≤ p22 by omega) (show p22 ≤ n by omega)
          have hzz27 : s.heap.size ≤ H.size := hS.1
          have hPc := hP.part (cx := [(qr, .inr (5, [.ref h0, .int (nI o)])), (h0, .inr (8, [.ref qb, .ref qu, .int uc21, .int ln, .int (nI n), .int (nI p22), .int pl])), (qb, .inl (cB, 4096, .inl bf)), (qu, .inl (cI, 4096, .inl ug21))]) [0, 1, 2, 3] rfl
          have hDc := hD.part (cx := [(qr, .inr (5, [.ref h0, .int (nI o)])), (h0, .inr (8, [.ref qb, .ref qu, .int uc21, .int ln, .int (nI n), .int (nI p22), .int pl])), (qb, .inl (cB, 4096, .inl bf)), (qu, .inl (cI, 4096, .inl ug21))]) [0, 1, 2, 3] (by decide) rfl
          have hFc := va_freeP (cx := [(qr, .inr (5, [.ref h0, .int (nI o)])), (h0, .inr (8, [.ref qb, .ref qu, .int uc21, .int ln, .int (nI n), .int (nI p22), .int pl])), (qb, .inl (cB, 4096, .inl bf)), (qu, .inl (cI, 4096, .inl ug21))]) hD hS hA [0, 1, 2, 3] rfl
          have hKc := hK.sub (tys' := [(cB, .byte), (cI, .int), (cV, .object "QueryBench$Value")]) [0, 1, 2] rfl
          refine w_same (fun hq0 => ?_)
          refine vx_callr (vx_runV (As := [.ref ov]) (rest := []) ⟨hx, hb, hml, hown, hts⟩ (c_QR_comparison l hl9 K dC dI cI cV cB h0 qb qu ln bf n qr hn0 hbf o ho ok orL cmL qyL hok HP H ((va_up E21 ov 11)) ((va_up lv21 ov (5 * (16 - o) + 1))) (L ++ (([] ++ N21) ++ [ov])) ((va_up f21 ov (oE 1 none (some v21) none))) p22 uc21 pl ug21 hG27.po (by omega) ov (va_up_self _ _ _) E (onlO m21) hG_ov.ex (hG21.ex.z h0_ov) (DNx.onl hd21 hnv21 hsv21 h0_ov)) (cwV 1 hts (gt_V (own := R_QueryReader) (C := R_QueryReader) (i := 188) (y := y_QueryReader_comparison) i_QueryReader_comparison z_743 z_745 (gt_sel (y := y_QueryReader_comparison) (n := 2) (by decide +kernel)) w_4) rfl rfl rfl (by decide +kernel) ⟨by show 12 * (16 - o) + 17 + 1 ≤ 12 * (16 - o) + 18; omega, by show 8 + (3 + 11) + (360 * (16 - o) + 510) ≤ 360 * (16 - o) + 540; omega⟩) ⟨ml_blind, va_recv hK hP (ci := 5) (q0 := 0) rfl rfl, fun U hU hW => ⟨rfl, ⟨hU, by rw [hU]; exact hPc, va_K.moved hW.alike hKc, hDc.weaken (fun _ _ _ _ => trivial)⟩, hN.warm hW, by rw [hU]; exact ZX.moved' hW.alike (ZX.narrow' (ZX.kept' hZ hS.2.1) hFc), by rw [hU]; exact CE.call hC hS.2.1 hFc hW, va_AO.moved hW.alike hV⟩⟩ rfl rfl hl.1 rfl (lv_room (Nat.le_of_ble_eq_true rfl)) d_QueryReader_testOrComparison_99 ⟨by show ((0 + (8 * (p21 - i) + 0 - 7)) + 1) + (8 * (n - p22) + 4) ≤ 8 * (n - i) + 6; omega, by show ((0 + (64 * (p21 - i) + 0 - 60)) + 4) + (64 * (n - p22) + 60) ≤ 64 * (n - i) + 60; omega⟩) hS (fun q _ h => hFc q h) hFc (fun q _ h => hFc q h) (fun En ce q9 ⟨ax, cx, px, gx, ox⟩ t9 H1 locs ht hvm hw hB hz1 hk1 hS hce hcv hcl => ?_) (fun ⟨w27, p27, N27, E27, f27, uc27, ug27⟩ v27 t9 H1 locs ht hvm hw hB hz1 hk1 hS => ?_)
          · obtain ⟨hEn, hP1, hK1, hD1⟩ := hB
            rw [ht] at hP1
            obtain ⟨hP, hD⟩ := va_joinP (wr := []) (rx := [(qr, .inr (5, [.ref h0, .int ox])), (h0, .inr (8, [.ref qb, .ref qu, .int cx, .int ln, .int (nI n), .int ax, .int px])), (qb, .inl (cB, 4096, .inl bf)), (qu, .inl (cI, 4096, .inl gx))]) (pl1 := va_pl ((L ++ (([] ++ N21) ++ [ov]))) ((va_up f21 ov (oE 1 none (some v21) none)))) hP hD [0, 1, 2, 3] [] rfl rfl (by decide) (by decide) hk1 hFc hP1 hD1
            generalize H1 = H at hP hS hce ⊢
            have hP : va_P (dC, dI) classes ([(qr, .inr (5, [.ref h0, .int ox])), (h0, .inr (8, [.ref qb, .ref qu, .int cx, .int ln, .int (nI n), .int ax, .int px])), (qb, .inl (cB, 4096, .inl bf)), (qu, .inl (cI, 4096, .inl gx))] ++ va_pl ((L ++ (([] ++ N21) ++ [ov]))) ((va_up f21 ov (oE 1 none (some v21) none)))) H := hP
            have hD : va_D A ([(qr, .inr (5, [.ref h0, .int ox])), (h0, .inr (8, [.ref qb, .ref qu, .int cx, .int ln, .int (nI n), .int ax, .int px])), (qb, .inl (cB, 4096, .inl bf)), (qu, .inl (cI, 4096, .inl gx))] ++ va_pl ((L ++ (([] ++ N21) ++ [ov]))) ((va_up f21 ov (oE 1 none (some v21) none)))) := hD
            have hP := plP_cut (hP.part (cx := [(qr, .inr (5, [.ref h0, .int ox])), (h0, .inr (8, [.ref qb, .ref qu, .int cx, .int ln, .int (nI n), .int ax, .int px])), (qb, .inl (cB, 4096, .inl bf)), (qu, .inl (cI, 4096, .inl gx))]) [0, 1, 2, 3] rfl) hG27.on
            have hD := plD_cut (hD.part (cx := [(qr, .inr (5, [.ref h0, .int ox])), (h0, .inr (8, [.ref qb, .ref qu, .int cx, .int ln, .int (nI n), .int ax, .int px])), (qb, .inl (cB, 4096, .inl bf)), (qu, .inl (cI, 4096, .inl gx))]) [0, 1, 2, 3] (by decide) rfl) hG27.on
            have hno : (tcD bf n ok orL (opD bf n ok orL cmL qyL)) i = none := (tcD_2 hqr h_p22 hop hsq1).trans hw
            exact vx_out (fun x hx => (hex x hx).elim) hlocks hce hcv hcl (fun t9 ht2 ha => ⟨(ax, cx, px, gx, ox), hno, ⟨hEn, by rw [ht2]; exact hP, va_K.moved ha hK, hD⟩, hS.F ht2⟩) hS.2.2 (by show ((0 + (8 * (p21 - i) + 0 - 7)) + 1) + (8 * (n - p22) + 4) ≤ 8 * (n - i) + 6; omega) (by show ((0 + (64 * (p21 - i) + 0 - 60)) + 4) + (64 * (n - p22) + 60) ≤ 64 * (n - i) + 60; omega)
          · obtain ⟨⟨hP1, hK1, hD1⟩, hz9, ha9⟩ := hB
            rw [ht] at hP1
            rw [ht] at hz9
            have ha9 : v27 = w27 := ha9
            subst ha9
            have hq0 : szk s.heap H1 (((0 + (8 * (p21 - i) + 0 - 7)) + 1) + (8 * (p27 - p22) - 4)) (((0 + (64 * (p21 - i) + 0 - 60)) + 4) + (64 * (p27 - p22) - 44)) := (hq0.trans hz9).mono (Nat.le_refl _) (Nat.le_refl _)
            refine w_tight hq0 ?_
            obtain ⟨hP, hD⟩ := va_joinP (wr := []) (rx := [(qr, .inr (5, [.ref h0, .int (nI o)])), (h0, .inr (8, [.ref qb, .ref qu, .int uc27, .int ln, .int (nI n), .int (nI p27), .int pl])), (qb, .inl (cB, 4096, .inl bf)), (qu, .inl (cI, 4096, .inl ug27))]) (pl1 := va_pl (((L ++ (([] ++ N21) ++ [ov])) ++ N27)) f27) hP hD [0, 1, 2, 3] [] rfl rfl (by decide) (by decide) hk1 hFc hP1 hD1
            generalize H1 = H at hP hS hq0 ⊢
            have hP : va_P (dC, dI) classes ([(qr, .inr (5, [.ref h0, .int (nI o)])), (h0, .inr (8, [.ref qb, .ref qu, .int uc27, .int ln, .int (nI n), .int (nI p27), .int pl])), (qb, .inl (cB, 4096, .inl bf)), (qu, .inl (cI, 4096, .inl ug27))] ++ va_pl (((L ++ (([] ++ N21) ++ [ov])) ++ N27)) f27) H := hP
            have hD : va_D A ([(qr, .inr (5, [.ref h0, .int (nI o)])), (h0, .inr (8, [.ref qb, .ref qu, .int uc27, .int ln, .int (nI n), .int (nI p27), .int pl])), (qb, .inl (cB, 4096, .inl bf)), (qu, .inl (cI, 4096, .inl ug27))] ++ va_pl (((L ++ (([] ++ N21) ++ [ov])) ++ N27)) f27) := hD
            obtain ⟨hw, m27, hf27, hd27⟩ := hw
            have hf27 : (cpD bf n (opD bf n ok orL cmL qyL) (onlO m21)) p22 = some (p27, m27) := hf27
            have hd27 : DNx KD 2 E E27 f27 v27 m27 := hd27
            have hQ27 : QK cI cV ((va_up E21 ov 11)) (L ++ (([] ++ N21) ++ [ov])) ((va_up f21 ov (oE 1 none (some v21) none))) p22 n _ ov (5 * (16 - o) + 2) v27 p27 N27 E27 f27 := hw
            obtain ⟨hn27, hs27, ha27, hb27, hx27⟩ := hQ27
            have ha27 : p22 + 1 ≤ p27 := ha27
            have hb27 : p27 ≤ n := hb27
            rw [List.append_assoc] at hP hD
            obtain ⟨lv27, hg27, hlv27⟩ := hx27 ((va_up lv21 ov (5 * (16 - o) + 1))) hG27.po (5 * (16 - o) + 2 + ((va_up lv21 ov (5 * (16 - o) + 1))) ov + 1) (by omega) (by omega)
            have hG27 := hG27.tr hg27 hzz27
            have hP : va_P (dC, dI) classes ([(qr, .inr (5, [.ref h0, .int (nI o)])), (h0, .inr (8, [.ref qb, .ref qu, .int uc27, .int ln, .int (nI n), .int (nI p27), .int pl])), (qb, .inl (cB, 4096, .inl bf)), (qu, .inl (cI, 4096, .inl ug27))] ++ va_pl ((L ++ ((([] ++ N21) ++ [ov]) ++ N27))) f27) H := hP
            have hD : va_D A ([(qr, .inr (5, [.ref h0, .int (nI o)])), (h0, .inr (8, [.ref qb, .ref qu, .int uc27, .int ln, .int (nI n), .int (nI p27), .int pl])), (qb, .inl (cB, 4096, .inl bf)), (qu, .inl (cI, 4096, .inl ug27))] ++ va_pl ((L ++ ((([] ++ N21) ++ [ov]) ++ N27))) f27) := hD
            have hQf : QPn cI cV E L f i n s.heap.size 10 (5 * (16 - o) + 2) 1 v27 p27 ((([] ++ N21) ++ [ov]) ++ N27) E27 f27 := by
              refine ⟨hG_ov.ex.z hn27, hs27, by omega, by omega, fun lv hO b hb => ?_⟩
              have g0 : QG cI cV E lv L f i n i s.heap.size [] E lv f := (QG.rf hO hi9).mv (by omega) (by omega)
              obtain ⟨lv1, g1, c1⟩ := hQ21.x lv g0.po (5 * (16 - o)) (by omega)
              have g1 := g0.tr g1 hzz21
              have g1 := g1.mv (show p21 ≤ p22 by omega) (show p22 ≤ n by omega)
              have g2 := g1.add (q := ov) (s := 11) (b := 5 * (16 - o) + 1) (e := oE 1 none (some v21) none) h0_ov hL_ov hz_ov (by decide) (by decide) (CO.O (va_up_self _ _ _) ⟨_, _, _, _, rfl, (fun b h => (nomatch h)), (fun b9 h => by cases h; exact ⟨(va_up_ne _ _ hvs21).trans hQ21.so, by rw [va_up_ne _ _ hvs21, va_up_self]; have := c1; omega⟩), (fun b h => (nomatch h)), (fun _ h => by cases h), fun h => absurd h (by decide), fun h => absurd h (by decide)⟩)
              obtain ⟨lv2, g3, c3⟩ := hx27 _ g2.po b (by omega) (by rw [va_up_self]; omega)
              exact ⟨lv2, g2.tr g3 hzz27, c3⟩
            have hQr : QPn cI cV E L f i n s.heap.size 10 (5 * (16 - o) + 2) 1 v27 p27 (((([] ++ N21) ++ [ov]) ++ N27)) E27 f27 := hQf
            have hfin : (tcD bf n ok orL (opD bf n ok orL cmL qyL)) i = some (p27, m27) := (tcD_2 hqr h_p22 hop hsq1).trans hf27
            have hdn : DNx KD 2 E E27 f27 v27 m27 := hd27
            refine w_same (fun hq => ?_)
            refine W.widen (k := 8 * (n - i) + 6) (n := 64 * (n - i) + 60) (by show (((0 + (8 * (p21 - i) + 0 - 7)) + 1) + (8 * (p27 - p22) - 4)) ≤ 8 * (n - i) + 6; omega) (by show (((0 + (64 * (p21 - i) + 0 - 60)) + 4) + (64 * (p27 - p22) - 44)) ≤ 64 * (n - i) + 60; omega) ?_
            refine vx_ret ?_
            exact W.aret (v := .ref v27) hx hb hr (Or.inl ⟨_, rfl⟩) (Or.inr ⟨_, rfl⟩) (fun t9 ht hW => ⟨⟨(v27, p27, ((([] ++ N21) ++ [ov]) ++ N27), E27, f27, uc27, ug27), v27, rfl, ⟨hQr, _, hfin, hdn⟩, ⟨by rw [ht]; exact hP, va_K.moved hW.alike hK, hD⟩, by rw [ht]; exact ⟨hq.mono (by show (((0 + (8 * (p21 - i) + 0 - 7)) + 1) + (8 * (p27 - p22) - 4)) ≤ 8 * (p27 - i) + 0 - 6; omega) (by show (((0 + (64 * (p21 - i) + 0 - 60)) + 4) + (64 * (p27 - p22) - 44)) ≤ 64 * (p27 - i) + 0 - 54; omega), rfl⟩⟩, hS.F ht⟩) hS.2.2 d_QueryReader_testOrComparison_102
        · refine lv_aload_n hx hb d_QueryReader_testOrComparison_68 rfl (lv_at hl 2 rfl) ?_
          refine va_get (D := (dC, dI)) (ci := 5) (v := .ref h0) (C := R_QueryReader) (T := F_QueryReader) (N := 2) hx hb hts in_QueryReader hown hK hP 0 rfl rfl 0 (by decide) (hts _ w_100) (fun _ h9 => h9) rfl d_QueryReader_testOrComparison_69 ?_
          refine lv_aload_n hx hb d_QueryReader_testOrComparison_72 rfl (lv_at hl 2 rfl) ?_
          refine va_get (D := (dC, dI)) (ci := 5) (v := .ref h0) (C := R_QueryReader) (T := F_QueryReader) (N := 2) hx hb hts in_QueryReader hown hK hP 0 rfl rfl 0 (by decide) (hts _ w_100) (fun _ h9 => h9) rfl d_QueryReader_testOrComparison_73 ?_
          refine va_get (D := (dC, dI)) (ci := 8) (v := .int (nI p22)) (C := R_Tape) (T := F_Tape) (N := 7) hx hb hts in_Tape hown hK hP 1 rfl rfl 5 (by decide) (hts _ z_53) (fun _ h9 => h9) rfl d_QueryReader_testOrComparison_76 ?_
          have hPc := hP.sub (ws' := [(h0, .inr (8, [.ref qb, .ref qu, .int uc21, .int ln, .int (nI n), .int (nI p22), .int pl])), (qb, .inl (cB, 4096, .inl bf))]) [1, 2] rfl
          have hDc := hD.sub (ws' := [(h0, .inr (8, [.ref qb, .ref qu, .int uc21, .int ln, .int (nI n), .int (nI p22), .int pl])), (qb, .inl (cB, 4096, .inl bf))]) [1, 2] (by decide) rfl
          have hFc := va_free (wc := [(h0, .inr (8, [.ref qb, .ref qu, .int uc21, .int ln, .int (nI n), .int (nI p22), .int pl])), (qb, .inl (cB, 4096, .inl bf))]) hD hS hA [1, 2] rfl
          have hKc := hK.sub (tys' := [(cB, .byte)]) [0] rfl
          refine w_same (fun hq0 => ?_)
          refine vx_callv (vx_runV (As := [.int (nI p22)]) (rest := []) ⟨hx, hb, hml, hown, hts⟩ (c_Tape_fail l hl9 dC dI cB h0 qb H (.ref qu) uc21 ln (nI n) (nI p22) pl bf ((nI p22))) (cwV 1 hts (gt_V (own := R_QueryReader) (C := R_Tape) (i := 28) (y := y_Tape_fail) i_Tape_fail z_535 w_371 w_372 w_2) rfl rfl rfl (by decide +kernel) ⟨by show 8 + 1 ≤ 12 * (16 - o) + 18; omega, by show 8 + (2 + 11) + (110) ≤ 360 * (16 - o) + 540; omega⟩) ⟨mx_blind, va_recv hK hP (ci := 8) (q0 := 1) rfl rfl, fun U hU hW => ⟨rfl, ⟨hU, by rw [hU]; exact hPc, va_K.moved hW.alike hKc, hDc.weaken (fun _ _ _ _ => trivial)⟩, hN.warm hW, by rw [hU]; exact ZX.moved' hW.alike (ZX.narrow' (ZX.kept' hZ hS.2.1) hFc)⟩⟩ rfl rfl hl.1 rfl (lv_room (Nat.le_of_ble_eq_true rfl)) d_QueryReader_testOrComparison_79 ⟨by show (0 + (8 * (p21 - i) + 0 - 7)) + (1) ≤ 8 * (n - i) + 6; omega, by show (0 + (64 * (p21 - i) + 0 - 60)) + (6) ≤ 64 * (n - i) + 60; omega⟩) hS (fun q _ h => hFc q h) hFc (fun q _ h => hFc q h) (fun En ce q9 _u t9 H1 locs ht hvm hw hB hz1 hk1 hS hce hcv hcl => ?_) (fun _u t9 H1 locs ht hvm hw hB hz1 hk1 hS => ?_)
          · obtain ⟨hEn, hP1, hK1, hD1⟩ := hB
            rw [ht] at hP1
            obtain ⟨hP, hD⟩ := va_joinQ (wr := [(qr, .inr (5, [.ref h0, .int (nI o)])), (qu, .inl (cI, 4096, .inl ug21))]) (w1 := [(h0, .inr (8, [.ref qb, .ref qu, .int uc21, .int ln, .int (nI n), .int (nI p22), .int (nI p22)])), (qb, .inl (cB, 4096, .inl bf))]) hP hD [1, 2] [0, 3] rfl rfl (by decide) (by decide) hk1 hFc hP1 hD1
            generalize H1 = H at hP hS hce ⊢
            have hP : va_P (dC, dI) classes ([(qr, .inr (5, [.ref h0, .int (nI o)])), (qu, .inl (cI, 4096, .inl ug21)), (h0, .inr (8, [.ref qb, .ref qu, .int uc21, .int ln, .int (nI n), .int (nI p22), .int (nI p22)])), (qb, .inl (cB, 4096, .inl bf))] ++ va_pl ((L ++ ([] ++ N21))) f21) H := hP
            have hD : va_D A ([(qr, .inr (5, [.ref h0, .int (nI o)])), (qu, .inl (cI, 4096, .inl ug21)), (h0, .inr (8, [.ref qb, .ref qu, .int uc21, .int ln, .int (nI n), .int (nI p22), .int (nI p22)])), (qb, .inl (cB, 4096, .inl bf))] ++ va_pl ((L ++ ([] ++ N21))) f21) := hD
            have hP := hP.part (cx := [(qr, .inr (5, [.ref h0, .int (nI o)])), (h0, .inr (8, [.ref qb, .ref qu, .int uc21, .int ln, .int (nI n), .int (nI p22), .int (nI p22)])), (qb, .inl (cB, 4096, .inl bf)), (qu, .inl (cI, 4096, .inl ug21))]) [0, 2, 3, 1] rfl
            have hD := hD.part (cx := [(qr, .inr (5, [.ref h0, .int (nI o)])), (h0, .inr (8, [.ref qb, .ref qu, .int uc21, .int ln, .int (nI n), .int (nI p22), .int (nI p22)])), (qb, .inl (cB, 4096, .inl bf)), (qu, .inl (cI, 4096, .inl ug21))]) [0, 2, 3, 1] (by decide) rfl
            have hP := plP_cut (hP.part (cx := [(qr, .inr (5, [.ref h0, .int (nI o)])), (h0, .inr (8, [.ref qb, .ref qu, .int uc21, .int ln, .int (nI n), .int (nI p22), .int (nI p22)])), (qb, .inl (cB, 4096, .inl bf)), (qu, .inl (cI, 4096, .inl ug21))]) [0, 1, 2, 3] rfl) hG21.on
            have hD := plD_cut (hD.part (cx := [(qr, .inr (5, [.ref h0, .int (nI o)])), (h0, .inr (8, [.ref qb, .ref qu, .int uc21, .int ln, .int (nI n), .int (nI p22), .int (nI p22)])), (qb, .inl (cB, 4096, .inl bf)), (qu, .inl (cI, 4096, .inl ug21))]) [0, 1, 2, 3] (by decide) rfl) hG21.on
            have hno : (tcD bf n ok orL (opD bf n ok orL cmL qyL)) i = none := tcD_1 hqr h_p22 hop ((bI_q hsq).2 c65)
            exact vx_out (fun x hx => (hex x hx).elim) hlocks hce hcv hcl (fun t9 ht2 ha => ⟨(nI p22, uc21, (nI p22), ug21, nI o), hno, ⟨hEn, by rw [ht2]; exact hP, va_K.moved ha hK, hD⟩, hS.F ht2⟩) hS.2.2 (by show (0 + (8 * (p21 - i) + 0 - 7)) + (1) ≤ 8 * (n - i) + 6; omega) (by show (0 + (64 * (p21 - i) + 0 - 60)) + (6) ≤ 64 * (n - i) + 60; omega)
          · obtain ⟨⟨hP1, hK1, hD1⟩, hz9⟩ := hB
            rw [ht] at hP1
            rw [ht] at hz9
            refine w_tight (hq0.trans hz9) ?_
            have hq0 := hq0.trans hz9
            obtain ⟨hP, hD⟩ := va_joinQ (wr := [(qr, .inr (5, [.ref h0, .int (nI o)])), (qu, .inl (cI, 4096, .inl ug21))]) (w1 := [(h0, .inr (8, [.ref qb, .ref qu, .int uc21, .int ln, .int (nI n), .int (nI p22), .int pl])), (qb, .inl (cB, 4096, .inl bf))]) hP hD [1, 2] [0, 3] rfl rfl (by decide) (by decide) hk1 hFc hP1 hD1
            generalize H1 = H at hP hS hq0 ⊢
            have hP : va_P (dC, dI) classes ([(qr, .inr (5, [.ref h0, .int (nI o)])), (qu, .inl (cI, 4096, .inl ug21)), (h0, .inr (8, [.ref qb, .ref qu, .int uc21, .int ln, .int (nI n), .int (nI p22), .int pl])), (qb, .inl (cB, 4096, .inl bf))] ++ va_pl ((L ++ ([] ++ N21))) f21) H := hP
            have hD : va_D A ([(qr, .inr (5, [.ref h0, .int (nI o)])), (qu, .inl (cI, 4096, .inl ug21)), (h0, .inr (8, [.ref qb, .ref qu, .int uc21, .int ln, .int (nI n), .int (nI p22), .int pl])), (qb, .inl (cB, 4096, .inl bf))] ++ va_pl ((L ++ ([] ++ N21))) f21) := hD
            have hP := hP.part (cx := [(qr, .inr (5, [.ref h0, .int (nI o)])), (h0, .inr (8, [.ref qb, .ref qu, .int uc21, .int ln, .int (nI n), .int (nI p22), .int pl])), (qb, .inl (cB, 4096, .inl bf)), (qu, .inl (cI, 4096, .inl ug21))]) [0, 2, 3, 1] rfl
            have hD := hD.part (cx := [(qr, .inr (5, [.ref h0, .int (nI o)])), (h0, .inr (8, [.ref qb, .ref qu, .int uc21, .int ln, .int (nI n), .int (nI p22), .int pl])), (qb, .inl (cB, 4096, .inl bf)), (qu, .inl (cI, 4096, .inl ug21))]) [0, 2, 3, 1] (by decide) rfl
            exact hw.elim
      · refine lv_iload_n hx hb d_QueryReader_testOrComparison_33 rfl (lv_at hl 0 rfl) ?_
        refine lv_bipush (v := 60) hx hb d_QueryReader_testOrComparison_34 (by decide) ?_
        refine lv_icmp_eq (tgt := 61) hx hb d_QueryReader_testOrComparison_36 (by decide) (fun c36 => ?_) (fun c36 => ?_)
        · have hop : opH (hereV bf n p22) := by rw [← h_h23]; exact Or.inr (Or.inr (Or.inl c36))
          refine lv_aload_n hx hb d_QueryReader_testOrComparison_61 rfl (lv_at hl 1 rfl) ?_
          obtain ⟨fr28, sg28, fi28, la28, ef28, hv28⟩ := hG21.po.qry hQ21.so
          refine vq_get (D := (dC, dI)) (ci := 4) (v := .int sg28) (C := R_Query) (T := F_Query) (N := 4) hx hb hts in_Query hown hK hP (hG21.po.inL (a := v21) (by rw [hQ21.so]; decide)) ef28 rfl 1 (by decide) (hts _ z_550) (fun _ h9 => h9) rfl d_QueryReader_testOrComparison_62 ?_
          have hsq : sgQ (f21 v21) = decide (¬ sg28 = 0) := by rw [ef28]; rfl
          refine lv_if_ne (tgt := 82) hx hb d_QueryReader_testOrComparison_65 (by decide) (fun c65 => ?_) (fun c65 => ?_)
          · have hsq1 := (bI_q hsq).1 c65
            refine va_new (ci := 2) (fs := [.int 0, .null, .null, .null]) (C := R_Operand) (T := F_Operand) (N := 4) hx hb hts in_Operand t_Operand t_Operand_ok hown (hts _ z_720) (hts _ z_721) (hts _ z_27) hK hP hD hS hA rfl (fun j hj => by rcases (show j = 0 ∨ j = 1 ∨ j = 2 ∨ j = 3 by omega) with rfl | rfl | rfl | rfl <;> rfl) (by show (0 + (8 * (p21 - i) + 0 - 7)) + 1 ≤ 8 * (n - i) + 6; omega) (by show (0 + (64 * (p21 - i) + 0 - 60)) + 4 ≤ 64 * (n - i) + 60; omega) d_QueryReader_testOrComparison_82 (fun ov H hP hD hS => ?_)
            have hz_ov := newB (X := [(qr, .inr (5, [.ref h0, .int (nI o)])), (h0, .inr (8, [.ref qb, .ref qu, .int uc21, .int ln, .int (nI n), .int (nI p22), .int pl])), (qb, .inl (cB, 4096, .inl bf)), (qu, .inl (cI, 4096, .inl ug21))]) hAe hD (fun k x hk => by rcases k with _ | _ | _ | _ | k; (· cases hk; exact ⟨0, _, rfl⟩); (· cases hk; exact ⟨1, _, rfl⟩); (· cases hk; exact ⟨2, _, rfl⟩); (· cases hk; exact ⟨3, _, rfl⟩); (· cases hk))
            have hP := hP.swap
            have hD := hD.swap
            have hP : va_P (dC, dI) classes ([(qr, .inr (5, [.ref h0, .int (nI o)])), (h0, .inr (8, [.ref qb, .ref qu, .int uc21, .int ln, .int (nI n), .int (nI p22), .int pl])), (qb, .inl (cB, 4096, .inl bf)), (qu, .inl (cI, 4096, .inl ug21)), (ov, .inr (2, [.int 0, .null, .null, .null]))] ++ va_pl ((L ++ ([] ++ N21))) f21) H := hP
            have hD : va_D A ([(qr, .inr (5, [.ref h0, .int (nI o)])), (h0, .inr (8, [.ref qb, .ref qu, .int uc21, .int ln, .int (nI n), .int (nI p22), .int pl])), (qb, .inl (cB, 4096, .inl bf)), (qu, .inl (cI, 4096, .inl ug21)), (ov, .inr (2, [.int 0, .null, .null, .null]))] ++ va_pl ((L ++ ([] ++ N21))) f21) := hD
            refine lv_dup hx hb d_QueryReader_testOrComparison_85 rfl ?_
            refine lv_iconst (v := 1) hx hb d_QueryReader_testOrComparison_86 (by decide) ?_
            refine lv_null hx hb d_QueryReader_testOrComparison_87 ?_
            have hPc := hP.sub (ws' := [(ov, .inr (2, [.int 0, .null, .null, .null]))]) [4] rfl
            have hDc := hD.sub (ws' := [(ov, .inr (2, [.int 0, .null, .null, .null]))]) [4] (by decide) rfl
            have hFc := va_free (wc := [(ov, .inr (2, [.int 0, .null, .null, .null]))]) hD hS hA [4] rfl
            have hKc := hK.sub (tys' := []) [] rfl
            refine w_same (fun hq0 => ?_)
            refine va_callv (va_runI (As := [.int 1, .null]) (rest := [.ref ov]) ⟨hx, hb, hml, hown, hts⟩ (c_Operand_init l dC dI H ov 1 none) (cwI 2 hts (gt_code i_Operand_init) rfl rfl rfl (hts _ z_27) (hts _ z_722) (hts _ z_723) rfl (by decide +kernel) ⟨by show 1 + 1 ≤ 12 * (16 - o) + 18; omega, by show 8 + (3 + 11) + (20) ≤ 360 * (16 - o) + 540; omega⟩) ⟨mp_blind, fun U hU hW => ⟨rfl, hU, by rw [hU]; exact hPc, va_K.moved hW.alike hKc, hDc.weaken (fun _ _ _ _ => trivial)⟩⟩ rfl rfl hl.1 rfl (lv_room (Nat.le_of_ble_eq_true rfl)) d_QueryReader_testOrComparison_88 ⟨by show ((0 + (8 * (p21 - i) + 0 - 7)) + 1) + (0) ≤ 8 * (n - i) + 6; omega, by show ((0 + (64 * (p21 - i) + 0 - 60)) + 4) + (0) ≤ 64 * (n - i) + 60; omega⟩) hS (fun q _ h => hFc q h) hFc (fun _u t9 H1 locs ht hvm hw hB hz1 hk1 hS => ?_)
            obtain ⟨⟨hP1, hK1, hD1⟩, hz9⟩ := hB
            rw [ht] at hP1
            rw [ht] at hz9
            have hq0 : szk s.heap H1 (((0 + (8 * (p21 - i) + 0 - 7)) + 1)) (((0 + (64 * (p21 - i) + 0 - 60)) + 4)) := (hq0.trans hz9).mono (Nat.le_of_eq (Nat.add_zero _)) (Nat.le_of_eq (Nat.add_zero _))
            refine w_tight hq0 ?_
            obtain ⟨hP, hD⟩ := va_joinQ (wr := [(qr, .inr (5, [.ref h0, .int (nI o)])), (h0, .inr (8, [.ref qb, .ref qu, .int uc21, .int ln, .int (nI n), .int (nI p22), .int pl])), (qb, .inl (cB, 4096, .inl bf)), (qu, .inl (cI, 4096, .inl ug21))]) (w1 := [(ov, .inr (2, [.int 1, .null, .null, .null]))]) hP hD [4] [0, 1, 2, 3] rfl rfl (by decide) (by decide) hk1 hFc hP1 hD1
            generalize H1 = H at hP hS hq0 ⊢
            have hP : va_P (dC, dI) classes ([(qr, .inr (5, [.ref h0, .int (nI o)])), (h0, .inr (8, [.ref qb, .ref qu, .int uc21, .int ln, .int (nI n), .int (nI p22), .int pl])), (qb, .inl (cB, 4096, .inl bf)), (qu, .inl (cI, 4096, .inl ug21)), (ov, .inr (2, [.int 1, .null, .null, .null]))] ++ va_pl ((L ++ ([] ++ N21))) f21) H := hP
            have hD : va_D A ([(qr, .inr (5, [.ref h0, .int (nI o)])), (h0, .inr (8, [.ref qb, .ref qu, .int uc21, .int ln, .int (nI n), .int (nI p22), .int pl])), (qb, .inl (cB, 4096, .inl bf)), (qu, .inl (cI, 4096, .inl ug21)), (ov, .inr (2, [.int 1, .null, .null, .null]))] ++ va_pl ((L ++ ([] ++ N21))) f21) := hD
            refine lv_astore_n (lv' := [(3, .ref ov), (2, .int h23), (1, .ref v21), (0, .ref qr)]) hx hb d_QueryReader_testOrComparison_91 rfl hl (by decide) rfl (fun ls hl => ?_)
            refine lv_aload_n hx hb d_QueryReader_testOrComparison_92 rfl (lv_at hl 0 rfl) ?_
            refine lv_aload_n hx hb d_QueryReader_testOrComparison_93 rfl (lv_at hl 2 rfl) ?_
            refine va_put (D := (dC, dI)) (ci := 2) (v := .ref v21) (ty := .object "QueryBench$Query") (C := R_Operand) (T := F_Operand) (N := 4) hx hb hts in_Operand t_Operand t_Operand_ok n_Operand hown hK hP hD hS 4 rfl rfl 2 (by decide) (hts _ z_730) (fun _ h9 => h9) rfl (by decide +kernel) rfl rfl (Nat.le_of_ble_eq_true rfl) d_QueryReader_testOrComparison_94 (fun H locs hP hD hS => ?_)
            have hP : va_P (dC, dI) classes ([(qr, .inr (5, [.ref h0, .int (nI o)])), (h0, .inr (8, [.ref qb, .ref qu, .int uc21, .int ln, .int (nI n), .int (nI p22), .int pl])), (qb, .inl (cB, 4096, .inl bf)), (qu, .inl (cI, 4096, .inl ug21)), (ov, .inr (2, [.int 1, .null, .ref v21, .null]))] ++ va_pl ((L ++ ([] ++ N21))) f21) H := hP
            have hD : va_D A ([(qr, .inr (5, [.ref h0, .int (nI o)])), (h0, .inr (8, [.ref qb, .ref qu, .int uc21, .int ln, .int (nI n), .int (nI p22), .int pl])), (qb, .inl (cB, 4096, .inl bf)), (qu, .inl (cI, 4096, .inl ug21)), (ov, .inr (2, [.int 1, .null, .ref v21, .null]))] ++ va_pl ((L ++ ([] ++ N21))) f21) := hD
            refine lv_aload_n hx hb d_QueryReader_testOrComparison_97 rfl (lv_at hl 3 rfl) ?_
            refine lv_aload_n hx hb d_QueryReader_testOrComparison_98 rfl (lv_at hl 0 rfl) ?_
            have hG8 := hG21.mv (show p21 ≤ p22 by omega) (show p22 ≤ n by omega)
            have hL_ov := plD_new (X := [(qr, .inr (5, [.ref h0, .int (nI o)])), (h0, .inr (8, [.ref qb, .ref qu, .int uc21, .int ln, .int (nI n), .int (nI p22), .int pl])), (qb, .inl (cB, 4096, .inl bf)), (qu, .inl (cI, 4096, .inl ug21))]) hD
            have h0_ov : E21 ov = 0 := Classical.byContradiction (fun h => hL_ov (hG8.po.inL h))
            have hP := plP_push (X := [(qr, .inr (5, [.ref h0, .int (nI o)])), (h0, .inr (8, [.ref qb, .ref qu, .int uc21, .int ln, .int (nI n), .int (nI p22), .int pl])), (qb, .inl (cB, 4096, .inl bf)), (qu, .inl (cI, 4096, .inl ug21))]) hP hL_ov
            have hD := plD_push (X := [(qr, .inr (5, [.ref h0, .int (nI o)])), (h0, .inr (8, [.ref qb, .ref qu, .int uc21, .int ln, .int (nI n), .int (nI p22), .int pl])), (qb, .inl (cB, 4096, .inl bf)), (qu, .inl (cI, 4096, .inl ug21))]) hD hL_ov
            rw [List.append_assoc] at hP hD
            have hvs21 : v21 ≠ ov := fun e => by have h9 := hQ21.so; rw [e, h0_ov] at h9; cases h9
            have hG_ov := hG8.add (q := ov) (s := 11) (b := 5 * (16 - o) + 1) (e := oE 1 none (some v21) none) h0_ov hL_ov hz_ov (by decide) (by decide) (CO.O (va_up_self _ _ _) ⟨_, _, _, _, rfl, (fun b h => (nomatch h)), (fun b9 h => by cases h; exact ⟨(va_up_ne _ _ hvs21).trans hQ21.so, by rw [va_up_ne _ _ hvs21, va_up_self]; have := hlv21; omega⟩), (fun b h => (nomatch h)), (fun _ h => by cases h), fun h => absurd h (by decide), fun h => absurd h (by decide)⟩)
            have hP : va_P (dC, dI) classes ([(qr, .inr (5, [.ref h0, .int (nI o)])), (h0, .inr (8, [.ref qb, .ref qu, .int uc21, .int ln, .int (nI n), .int (nI p22), .int pl])), (qb, .inl (cB, 4096, .inl bf)), (qu, .inl (cI, 4096, .inl ug21))] ++ va_pl ((L ++ (([] ++ N21) ++ [ov]))) ((va_up f21 ov (oE 1 none (some v21) none)))) H := hP
            have hD : va_D A ([(qr, .inr (5, [.ref h0, .int (nI o)])), (h0, .inr (8, [.ref qb, .ref qu, .int uc21, .int ln, .int (nI n), .int (nI p22), .int pl])), (qb, .inl (cB, 4096, .inl bf)), (qu, .inl (cI, 4096, .inl ug21))] ++ va_pl ((L ++ (([] ++ N21) ++ [ov]))) ((va_up f21 ov (oE 1 none (some v21) none)))) := hD
            have hG29 := hG_ov.mv (show p22 ≤ p22 by omega) (show p22 ≤ n by omega)
            have hzz29 : s.heap.size ≤ H.size := hS.1
            have hPc := hP.part (cx := [(qr, .inr (5, [.ref h0, .int (nI o)])), (h0, .inr (8, [.ref qb, .ref qu, .int uc21, .int ln, .int (nI n), .int (nI p22), .int pl])), (qb, .inl (cB, 4096, .inl bf)), (qu, .inl (cI, 4096, .inl ug21))]) [0, 1, 2, 3] rfl
            have hDc := hD.part (cx := [(qr, .inr (5, [.ref h0, .int (nI o)])), (h0, .inr (8, [.ref qb, .ref qu, .int uc21, .int ln, .int (nI n), .int (nI p22), .int pl])), (qb, .inl (cB, 4096, .inl bf)), (qu, .inl (cI, 4096, .inl ug21))]) [0, 1, 2, 3] (by decide) rfl
            have hFc := va_freeP (cx := [(qr, .inr (5, [.ref h0, .int (nI o)])), (h0, .inr (8, [.ref qb, .ref qu, .int uc21, .int ln, .int (nI n), .int (nI p22), .int pl])), (qb, .inl (cB, 4096, .inl bf)), (qu, .inl (cI, 4096, .inl ug21))]) hD hS hA [0, 1, 2, 3] rfl
            have hKc := hK.sub (tys' := [(cB, .byte), (cI, .int), (cV, .object "QueryBench$Value")]) [0, 1, 2] rfl
            refine w_same (fun hq0 => ?_)
            refine vx_callr (vx_runV (As := [.ref ov]) (rest := []) ⟨hx, hb, hml, hown, hts⟩ (c_QR_comparison l hl9 K dC dI cI cV cB h0 qb qu ln bf n qr hn0 hbf o ho ok orL cmL qyL hok HP H ((va_up E21 ov 11)) ((va_up lv21 ov (5 * (16 - o) + 1))) (L ++ (([] ++ N21) ++ [ov])) ((va_up f21 ov (oE 1 none (some v21) none))) p22 uc21 pl ug21 hG29.po (by omega) ov (va_up_self _ _ _) E (onlO m21) hG_ov.ex (hG21.ex.z h0_ov) (DNx.onl hd21 hnv21 hsv21 h0_ov)) (cwV 1 hts (gt_V (own := R_QueryReader) (C := R_QueryReader) (i := 188) (y := y_QueryReader_comparison) i_QueryReader_comparison z_743 z_745 (gt_sel (y := y_QueryReader_comparison) (n := 2) (by decide +kernel)) w_4) rfl rfl rfl (by decide +kernel) ⟨by show 12 * (16 - o) + 17 + 1 ≤ 12 * (16 - o) + 18; omega, by show 8 + (3 + 11) + (360 * (16 - o) + 510) ≤ 360 * (16 - o) + 540; omega⟩) ⟨ml_blind, va_recv hK hP (ci := 5) (q0 := 0) rfl rfl, fun U hU hW => ⟨rfl, ⟨hU, by rw [hU]; exact hPc, va_K.moved hW.alike hKc, hDc.weaken (fun _ _ _ _ => trivial)⟩, hN.warm hW, by rw [hU]; exact ZX.moved' hW.alike (ZX.narrow' (ZX.kept' hZ hS.2.1) hFc), by rw [hU]; exact CE.call hC hS.2.1 hFc hW, va_AO.moved hW.alike hV⟩⟩ rfl rfl hl.1 rfl (lv_room (Nat.le_of_ble_eq_true rfl)) d_QueryReader_testOrComparison_99 ⟨by show ((0 + (8 * (p21 - i) + 0 - 7)) + 1) + (8 * (n - p22) + 4) ≤ 8 * (n - i) + 6; omega, by show ((0 + (64 * (p21 - i) + 0 - 60)) + 4) + (64 * (n - p22) + 60) ≤ 64 * (n - i) + 60; omega⟩) hS (fun q _ h => hFc q h) hFc (fun q _ h => hFc q h) (fun En ce q9 ⟨ax, cx, px, gx, ox⟩ t9 H1 locs ht hvm hw hB hz1 hk1 hS hce hcv hcl => ?_) (fun ⟨w29, p29, N29, E29, f29, uc29, ug29⟩ v29 t9 H1 locs ht hvm hw hB hz1 hk1 hS => ?_)
            · obtain ⟨hEn, hP1, hK1, hD1⟩ := hB
              rw [ht] at hP1
              obtain ⟨hP, hD⟩ := va_joinP (wr := []) (rx := [(qr, .inr (5, [.ref h0, .int ox])), (h0, .inr (8, [.ref qb, .ref qu, .int cx, .int ln, .int (nI n), .int ax, .int px])), (qb, .inl (cB, 4096, .inl bf)), (qu, .inl (cI, 4096, .inl gx))]) (pl1 := va_pl ((L ++ (([] ++ N21) ++ [ov]))) ((va_up f21 ov (oE 1 none (some v21) none)))) hP hD [0, 1, 2, 3] [] rfl rfl (by decide) (by decide) hk1 hFc hP1 hD1
              generalize H1 = H at hP hS hce ⊢
              have hP : va_P (dC, dI) classes ([(qr, .inr (5, [.ref h0, .int ox])), (h0, .inr (8, [.ref qb, .ref qu, .int cx, .int ln, .int (nI n), .int ax, .int px])), (qb, .inl (cB, 4096, .inl bf)), (qu, .inl (cI, 4096, .inl gx))] ++ va_pl ((L ++ (([] ++ N21) ++ [ov]))) ((va_up f21 ov (oE 1 none (some v21) none)))) H := hP
              have hD : va_D A ([(qr, .inr (5, [.ref h0, .int ox])), (h0, .inr (8, [.ref qb, .ref qu, .int cx, .int ln, .int (nI n), .int ax, .int px])), (qb, .inl (cB, 4096, .inl bf)), (qu, .inl (cI, 4096, .inl gx))] ++ va_pl ((L ++ (([] ++ N21) ++ [ov]))) ((va_up f21 ov (oE 1 none (some v21) none)))) := hD
              have hP := plP_cut (hP.part (cx := [(qr, .inr (5, [.ref h0, .int ox])), (h0, .inr (8, [.ref qb, .ref qu, .int cx, .int ln, .int (nI n), .int ax, .int px])), (qb, .inl (cB, 4096, .inl bf)), (qu, .inl (cI, 4096, .inl gx))]) [0, 1, 2, 3] rfl) hG29.on
              have hD := plD_cut (hD.part (cx := [(qr, .inr (5, [.ref h0, .int ox])), (h0, .inr (8, [.ref qb, .ref qu, .int cx, .int ln, .int (nI n), .int ax, .int px])), (qb, .inl (cB, 4096, .inl bf)), (qu, .inl (cI, 4096, .inl gx))]) [0, 1, 2, 3] (by decide) rfl) hG29.on
              have hno : (tcD bf n ok orL (opD bf n ok orL cmL qyL)) i = none := (tcD_2 hqr h_p22 hop hsq1).trans hw
              exact vx_out (fun x hx => (hex x hx).elim) hlocks hce hcv hcl (fun t9 ht2 ha => ⟨(ax, cx, px, gx, ox), hno, ⟨hEn, by rw [ht2]; exact hP, va_K.moved ha hK, hD⟩, hS.F ht2⟩) hS.2.2 (by show ((0 + (8 * (p21 - i) + 0 - 7)) + 1) + (8 * (n - p22) + 4) ≤ 8 * (n - i) + 6; omega) (by show ((0 + (64 * (p21 - i) + 0 - 60)) + 4) + (64 * (n - p22) + 60) ≤ 64 * (n - i) + 60; omega)
            · obtain ⟨⟨hP1, hK1, hD1⟩, hz9, ha9⟩ := hB
              rw [ht] at hP1
              rw [ht] at hz9
              have ha9 : v29 = w29 := ha9
              subst ha9
              have hq0 : szk s.heap H1 (((0 + (8 * (p21 - i) + 0 - 7)) + 1) + (8 * (p29 - p22) - 4)) (((0 + (64 * (p21 - i) + 0 - 60)) + 4) + (64 * (p29 - p22) - 44)) := (hq0.trans hz9).mono (Nat.le_refl _) (Nat.le_refl _)
              refine w_tight hq0 ?_
              obtain ⟨hP, hD⟩ := va_joinP (wr := []) (rx := [(qr, .inr (5, [.ref h0, .int (nI o)])), (h0, .inr (8, [.ref qb, .ref qu, .int uc29, .int ln, .int (nI n), .int (nI p29), .int pl])), (qb, .inl (cB, 4096, .inl bf)), (qu, .inl (cI, 4096, .inl ug29))]) (pl1 := va_pl (((L ++ (([] ++ N21) ++ [ov])) ++ N29)) f29) hP hD [0, 1, 2, 3] [] rfl rfl (by decide) (by decide) hk1 hFc hP1 hD1
              generalize H1 = H at hP hS hq0 ⊢
              have hP : va_P (dC, dI) classes ([(qr, .inr (5, [.ref h0, .int (nI o)])), (h0, .inr (8, [.ref qb, .ref qu, .int uc29, .int ln, .int (nI n), .int (nI p29), .int pl])), (qb, .inl (cB, 4096, .inl bf)), (qu, .inl (cI, 4096, .inl ug29))] ++ va_pl (((L ++ (([] ++ N21) ++ [ov])) ++ N29)) f29) H := hP
              have hD : va_D A ([(qr, .inr (5, [.ref h0, .int (nI o)])), (h0, .inr (8, [.ref qb, .ref qu, .int uc29, .int ln, .int (nI n), .int (nI p29), .int pl])), (qb, .inl (cB, 4096, .inl bf)), (qu, .inl (cI, 4096, .inl ug29))] ++ va_pl (((L ++ (([] ++ N21) ++ [ov])) ++ N29)) f29) := hD
              obtain ⟨hw, m29, hf29, hd29⟩ := hw
              have hf29 : (cpD bf n (opD bf n ok orL cmL qyL) (onlO m21)) p22 = some (p29, m29) := hf29
              have hd29 : DNx KD 2 E E29 f29 v29 m29 := hd29
              have hQ29 : QK cI cV ((va_up E21 ov 11)) (L ++ (([] ++ N21) ++ [ov])) ((va_up f21 ov (oE 1 none (some v21) none))) p22 n _ ov (5 * (16 - o) + 2) v29 p29 N29 E29 f29 := hw
              obtain ⟨hn29, hs29, ha29, hb29, hx29⟩ := hQ29
              have ha29 : p22 + 1 ≤ p29 := ha29
              have hb29 : p29 ≤ n := hb29
              rw [List.append_assoc] at hP hD
              obtain ⟨lv29, hg29, hlv29⟩ := hx29 ((va_up lv21 ov (5 * (16 - o) + 1))) hG29.po (5 * (16 - o) + 2 + ((va_up lv21 ov (5 * (16 - o) + 1))) ov + 1) (by omega) (by omega)
              have hG29 := hG29.tr hg29 hzz29
              have hP : va_P (dC, dI) classes ([(qr, .inr (5, [.ref h0, .int (nI o)])), (h0, .inr (8, [.ref qb, .ref qu, .int uc29, .int ln, .int (nI n), .int (nI p29), .int pl])), (qb, .inl (cB, 4096, .inl bf)), (qu, .inl (cI, 4096, .inl ug29))] ++ va_pl ((L ++ ((([] ++ N21) ++ [ov]) ++ N29))) f29) H := hP
              have hD : va_D A ([(qr, .inr (5, [.ref h0, .int (nI o)])), (h0, .inr (8, [.ref qb, .ref qu, .int uc29, .int ln, .int (nI n), .int (nI p29), .int pl])), (qb, .inl (cB, 4096, .inl bf)), (qu, .inl (cI, 4096, .inl ug29))] ++ va_pl ((L ++ ((([] ++ N21) ++ [ov]) ++ N29))) f29) := hD
              have hQf : QPn cI cV E L f i n s.heap.size 10 (5 * (16 - o) + 2) 1 v29 p29 ((([] ++ N21) ++ [ov]) ++ N29) E29 f29 := by
                refine ⟨hG_ov.ex.z hn29, hs29, by omega, by omega, fun lv hO b hb => ?_⟩
                have g0 : QG cI cV E lv L f i n i s.heap.size [] E lv f := (QG.rf hO hi9).mv (by omega) (by omega)
                obtain ⟨lv1, g1, c1⟩ := hQ21.x lv g0.po (5 * (16 - o)) (by omega)
                have g1 := g0.tr g1 hzz21
                have g1 := g1.mv (show p21 ≤ p22 by omega) (show p22 ≤ n by omega)
                have g2 := g1.add (q := ov) (s := 11) (b := 5 * (16 - o) + 1) (e := oE 1 none (some v21) none) h0_ov hL_ov hz_ov (by decide) (by decide) (CO.O (va_up_self _ _ _) ⟨_, _, _, _, rfl, (fun b h => (nomatch h)), (fun b9 h => by cases h; exact ⟨(va_up_ne _ _ hvs21).trans hQ21.so, by rw [va_up_ne _ _ hvs21, va_up_self]; have := c1; omega⟩), (fun b h => (nomatch h)), (fun _ h => by cases h), fun h => absurd h (by decide), fun h => absurd h (by decide)⟩)
                obtain ⟨lv2, g3, c3⟩ := hx29 _ g2.po b (by omega) (by rw [va_up_self]; omega)
                exact ⟨lv2, g2.tr g3 hzz29, c3⟩
              have hQr : QPn cI cV E L f i n s.heap.size 10 (5 * (16 - o) + 2) 1 v29 p29 (((([] ++ N21) ++ [ov]) ++ N29)) E29 f29 := hQf
              have hfin : (tcD bf n ok orL (opD bf n ok orL cmL qyL)) i = some (p29, m29) := (tcD_2 hqr h_p22 hop hsq1).trans hf29
              have hdn : DNx KD 2 E E29 f29 v29 m29 := hd29
              refine w_same (fun hq => ?_)
              refine W.widen (k := 8 * (n - i) + 6) (n := 64 * (n - i) + 60) (by show (((0 + (8 * (p21 - i) + 0 - 7)) + 1) + (8 * (p29 - p22) - 4)) ≤ 8 * (n - i) + 6; omega) (by show (((0 + (64 * (p21 - i) + 0 - 60)) + 4) + (64 * (p29 - p22) - 44)) ≤ 64 * (n - i) + 60; omega) ?_
              refine vx_ret ?_
              exact W.aret (v := .ref v29) hx hb hr (Or.inl ⟨_, rfl⟩) (Or.inr ⟨_, rfl⟩) (fun t9 ht hW => ⟨⟨(v29, p29, ((([] ++ N21) ++ [ov]) ++ N29), E29, f29, uc29, ug29), v29, rfl, ⟨hQr, _, hfin, hdn⟩, ⟨by rw [ht]; exact hP, va_K.moved hW.alike hK, hD⟩, by rw [ht]; exact ⟨hq.mono (by show (((0 + (8 * (p21 - i) + 0 - 7)) + 1) + (8 * (p29 - p22) - 4)) ≤ 8 * (p29 - i) + 0 - 6; omega) (by show (((0 + (64 * (p21 - i) + 0 - 60)) + 4) + (64 * (p29 - p22) - 44)) ≤ 64 * (p29 - i) + 0 - 54; omega), rfl⟩⟩, hS.F ht⟩) hS.2.2 d_QueryReader_testOrComparison_102
          · refine lv_aload_n hx hb d_QueryReader_testOrComparison_68 rfl (lv_at hl 2 rfl) ?_
            refine va_get (D := (dC, dI)) (ci := 5) (v := .ref h0) (C := R_QueryReader) (T := F_QueryReader) (N := 2) hx hb hts in_QueryReader hown hK hP 0 rfl rfl 0 (by decide) (hts _ w_100) (fun _ h9 => h9) rfl d_QueryReader_testOrComparison_69 ?_
            refine lv_aload_n hx hb d_QueryReader_testOrComparison_72 rfl (lv_at hl 2 rfl) ?_
            refine va_get (D := (dC, dI)) (ci := 5) (v := .ref h0) (C := R_QueryReader) (T := F_QueryReader) (N := 2) hx hb hts in_QueryReader hown hK hP 0 rfl rfl 0 (by decide) (hts _ w_100) (fun _ h9 => h9) rfl d_QueryReader_testOrComparison_73 ?_
            refine va_get (D := (dC, dI)) (ci := 8) (v := .int (nI p22)) (C := R_Tape) (T := F_Tape) (N := 7) hx hb hts in_Tape hown hK hP 1 rfl rfl 5 (by decide) (hts _ z_53) (fun _ h9 => h9) rfl d_QueryReader_testOrComparison_76 ?_
            have hPc := hP.sub (ws' := [(h0, .inr (8, [.ref qb, .ref qu, .int uc21, .int ln, .int (nI n), .int (nI p22), .int pl])), (qb, .inl (cB, 4096, .inl bf))]) [1, 2] rfl
            have hDc := hD.sub (ws' := [(h0, .inr (8, [.ref qb, .ref qu, .int uc21, .int ln, .int (nI n), .int (nI p22), .int pl])), (qb, .inl (cB, 4096, .inl bf))]) [1, 2] (by decide) rfl
            have hFc := va_free (wc := [(h0, .inr (8, [.ref qb, .ref qu, .int uc21, .int ln, .int (nI n), .int (nI p22), .int pl])), (qb, .inl (cB, 4096, .inl bf))]) hD hS hA [1, 2] rfl
            have hKc := hK.sub (tys' := [(cB, .byte)]) [0] rfl
            refine w_same (fun hq0 => ?_)
            refine vx_callv (vx_runV (As := [.int (nI p22)]) (rest := []) ⟨hx, hb, hml, hown, hts⟩ (c_Tape_fail l hl9 dC dI cB h0 qb H (.ref qu) uc21 ln (nI n) (nI p22) pl bf ((nI p22))) (cwV 1 hts (gt_V (own := R_QueryReader) (C := R_Tape) (i := 28) (y := y_Tape_fail) i_Tape_fail z_535 w_371 w_372 w_2) rfl rfl rfl (by decide +kernel) ⟨by show 8 + 1 ≤ 12 * (16 - o) + 18; omega, by show 8 + (2 + 11) + (110) ≤ 360 * (16 - o) + 540; omega⟩) ⟨mx_blind, va_recv hK hP (ci := 8) (q0 := 1) rfl rfl, fun U hU hW => ⟨rfl, ⟨hU, by rw [hU]; exact hPc, va_K.moved hW.alike hKc, hDc.weaken (fun _ _ _ _ => trivial)⟩, hN.warm hW, by rw [hU]; exact ZX.moved' hW.alike (ZX.narrow' (ZX.kept' hZ hS.2.1) hFc)⟩⟩ rfl rfl hl.1 rfl (lv_room (Nat.le_of_ble_eq_true rfl)) d_QueryReader_testOrComparison_79 ⟨by show (0 + (8 * (p21 - i) + 0 - 7)) + (1) ≤ 8 * (n - i) + 6; omega, by show (0 + (64 * (p21 - i) + 0 - 60)) + (6) ≤ 64 * (n - i) + 60; omega⟩) hS (fun q _ h => hFc q h) hFc (fun q _ h => hFc q h) (fun En ce q9 _u t9 H1 locs ht hvm hw hB hz1 hk1 hS hce hcv hcl => ?_) (fun _u t9 H1 locs ht hvm hw hB hz1 hk1 hS => ?_)
            · obtain ⟨hEn, hP1, hK1, hD1⟩ := hB
              rw [ht] at hP1
              obtain ⟨hP, hD⟩ := va_joinQ (wr := [(qr, .inr (5, [.ref h0, .int (nI o)])), (qu, .inl (cI, 4096, .inl ug21))]) (w1 := [(h0, .inr (8, [.ref qb, .ref qu, .int uc21, .int ln, .int (nI n), .int (nI p22), .int (nI p22)])), (qb, .inl (cB, 4096, .inl bf))]) hP hD [1, 2] [0, 3] rfl rfl (by decide) (by decide) hk1 hFc hP1 hD1
              generalize H1 = H at hP hS hce ⊢
              have hP : va_P (dC, dI) classes ([(qr, .inr (5, [.ref h0, .int (nI o)])), (qu, .inl (cI, 4096, .inl ug21)), (h0, .inr (8, [.ref qb, .ref qu, .int uc21, .int ln, .int (nI n), .int (nI p22), .int (nI p22)])), (qb, .inl (cB, 4096, .inl bf))] ++ va_pl ((L ++ ([] ++ N21))) f21) H := hP
              have hD : va_D A ([(qr, .inr (5, [.ref h0, .int (nI o)])), (qu, .inl (cI, 4096, .inl ug21)), (h0, .inr (8, [.ref qb, .ref qu, .int uc21, .int ln, .int (nI n), .int (nI p22), .int (nI p22)])), (qb, .inl (cB, 4096, .inl bf))] ++ va_pl ((L ++ ([] ++ N21))) f21) := hD
              have hP := hP.part (cx := [(qr, .inr (5, [.ref h0, .int (nI o)])), (h0, .inr (8, [.ref qb, .ref qu, .int uc21, .int ln, .int (nI n), .int (nI p22), .int (nI p22)])), (qb, .inl (cB, 4096, .inl bf)), (qu, .inl (cI, 4096, .inl ug21))]) [0, 2, 3, 1] rfl
              have hD := hD.part (cx := [(qr, .inr (5, [.ref h0, .int (nI o)])), (h0, .inr (8, [.ref qb, .ref qu, .int uc21, .int ln, .int (nI n), .int (nI p22), .int (nI p22)])), (qb, .inl (cB, 4096, .inl bf)), (qu, .inl (cI, 4096, .inl ug21))]) [0, 2, 3, 1] (by decide) rfl
              have hP := plP_cut (hP.part (cx := [(qr, .inr (5, [.ref h0, .int (nI o)])), (h0, .inr (8, [.ref qb, .ref qu, .int uc21, .int ln, .int (nI n), .int (nI p22), .int (nI p22)])), (qb, .inl (cB, 4096, .inl bf)), (qu, .inl (cI, 4096, .inl ug21))]) [0, 1, 2, 3] rfl) hG21.on
              have hD := plD_cut (hD.part (cx := [(qr, .inr (5, [.ref h0, .int (nI o)])), (h0, .inr (8, [.ref qb, .ref qu, .int uc21, .int ln, .int (nI n), .int (nI p22), .int (nI p22)])), (qb, .inl (cB, 4096, .inl bf)), (qu, .inl (cI, 4096, .inl ug21))]) [0, 1, 2, 3] (by decide) rfl) hG21.on
              have hno : (tcD bf n ok orL (opD bf n ok orL cmL qyL)) i = none := tcD_1 hqr h_p22 hop ((bI_q hsq).2 c65)
              exact vx_out (fun x hx => (hex x hx).elim) hlocks hce hcv hcl (fun t9 ht2 ha => ⟨(nI p22, uc21, (nI p22), ug21, nI o), hno, ⟨hEn, by rw [ht2]; exact hP, va_K.moved ha hK, hD⟩, hS.F ht2⟩) hS.2.2 (by show (0 + (8 * (p21 - i) + 0 - 7)) + (1) ≤ 8 * (n - i) + 6; omega) (by show (0 + (64 * (p21 - i) + 0 - 60)) + (6) ≤ 64 * (n - i) + 60; omega)
            · obtain ⟨⟨hP1, hK1, hD1⟩, hz9⟩ := hB
              rw [ht] at hP1
              rw [ht] at hz9
              refine w_tight (hq0.trans hz9) ?_
              have hq0 := hq0.trans hz9
              obtain ⟨hP, hD⟩ := va_joinQ (wr := [(qr, .inr (5, [.ref h0, .int (nI o)])), (qu, .inl (cI, 4096, .inl ug21))]) (w1 := [(h0, .inr (8, [.ref qb, .ref qu, .int uc21, .int ln, .int (nI n), .int (nI p22), .int pl])), (qb, .inl (cB, 4096, .inl bf))]) hP hD [1, 2] [0, 3] rfl rfl (by decide) (by decide) hk1 hFc hP1 hD1
              generalize H1 = H at hP hS hq0 ⊢
              have hP : va_P (dC, dI) classes ([(qr, .inr (5, [.ref h0, .int (nI o)])), (qu, .inl (cI, 4096, .inl ug21)), (h0, .inr (8, [.ref qb, .ref qu, .int uc21, .int ln, .int (nI n), .int (nI p22), .int pl])), (qb, .inl (cB, 4096, .inl bf))] ++ va_pl ((L ++ ([] ++ N21))) f21) H := hP
              have hD : va_D A ([(qr, .inr (5, [.ref h0, .int (nI o)])), (qu, .inl (cI, 4096, .inl ug21)), (h0, .inr (8, [.ref qb, .ref qu, .int uc21, .int ln, .int (nI n), .int (nI p22), .int pl])), (qb, .inl (cB, 4096, .inl bf))] ++ va_pl ((L ++ ([] ++ N21))) f21) := hD
              have hP := hP.part (cx := [(qr, .inr (5, [.ref h0, .int (nI o)])), (h0, .inr (8, [.ref qb, .ref qu, .int uc21, .int ln, .int (nI n), .int (nI p22), .int pl])), (qb, .inl (cB, 4096, .inl bf)), (qu, .inl (cI, 4096, .inl ug21))]) [0, 2, 3, 1] rfl
              have hD := hD.part (cx := [(qr, .inr (5, [.ref h0, .int (nI o)])), (h0, .inr (8, [.ref qb, .ref qu, .int uc21, .int ln, .int (nI n), .int (nI p22), .int pl])), (qb, .inl (cB, 4096, .inl bf)), (qu, .inl (cI, 4096, .inl ug21))]) [0, 2, 3, 1] (by decide) rfl
              exact hw.elim
        · refine lv_iload_n hx hb d_QueryReader_testOrComparison_39 rfl (lv_at hl 0 rfl) ?_
          refine lv_bipush (v := 62) hx hb d_QueryReader_testOrComparison_40 (by decide) ?_
          refine lv_icmp_eq (tgt := 61) hx hb d_QueryReader_testOrComparison_42 (by decide) (fun c42 => ?_) (fun c42 => ?_)
          · have hop : opH (hereV bf n p22) := by rw [← h_h23]; exact Or.inr (Or.inr (Or.inr c42))
            refine lv_aload_n hx hb d_QueryReader_testOrComparison_61 rfl (lv_at hl 1 rfl) ?_
            obtain ⟨fr30, sg30, fi30, la30, ef30, hv30⟩ := hG21.po.qry hQ21.so
            refine vq_get (D := (dC, dI)) (ci := 4) (v := .int sg30) (C := R_Query) (T := F_Query) (N := 4) hx hb hts in_Query hown hK hP (hG21.po.inL (a := v21) (by rw [hQ21.so]; decide)) ef30 rfl 1 (by decide) (hts _ z_550) (fun _ h9 => h9) rfl d_QueryReader_testOrComparison_62 ?_
            have hsq : sgQ (f21 v21) = decide (¬ sg30 = 0) := by rw [ef30]; rfl
            refine lv_if_ne (tgt := 82) hx hb d_QueryReader_testOrComparison_65 (by decide) (fun c65 => ?_) (fun c65 => ?_)
            · have hsq1 := (bI_q hsq).1 c65
              refine va_new (ci := 2) (fs := [.int 0, .null, .null, .null]) (C := R_Operand) (T := F_Operand) (N := 4) hx hb hts in_Operand t_Operand t_Operand_ok hown (hts _ z_720) (hts _ z_721) (hts _ z_27) hK hP hD hS hA rfl (fun j hj => by rcases (show j = 0 ∨ j = 1 ∨ j = 2 ∨ j = 3 by omega) with rfl | rfl | rfl | rfl <;> rfl) (by show (0 + (8 * (p21 - i) + 0 - 7)) + 1 ≤ 8 * (n - i) + 6; omega) (by show (0 + (64 * (p21 - i) + 0 - 60)) + 4 ≤ 64 * (n - i) + 60; omega) d_QueryReader_testOrComparison_82 (fun ov H hP hD hS => ?_)
              have hz_ov := newB (X := [(qr, .inr (5, [.ref h0, .int (nI o)])), (h0, .inr (8, [.ref qb, .ref qu, .int uc21, .int ln, .int (nI n), .int (nI p22), .int pl])), (qb, .inl (cB, 4096, .inl bf)), (qu, .inl (cI, 4096, .inl ug21))]) hAe hD (fun k x hk => by rcases k with _ | _ | _ | _ | k; (· cases hk; exact ⟨0, _, rfl⟩); (· cases hk; exact ⟨1, _, rfl⟩); (· cases hk; exact ⟨2, _, rfl⟩); (· cases hk; exact ⟨3, _, rfl⟩); (· cases hk))
              have hP := hP.swap
              have hD := hD.swap
              have hP : va_P (dC, dI) classes ([(qr, .inr (5, [.ref h0, .int (nI o)])), (h0, .inr (8, [.ref qb, .ref qu, .int uc21, .int ln, .int (nI n), .int (nI p22), .int pl])), (qb, .inl (cB, 4096, .inl bf)), (qu, .inl (cI, 4096, .inl ug21)), (ov, .inr (2, [.int 0, .null, .null, .null]))] ++ va_pl ((L ++ ([] ++ N21))) f21) H := hP
              have hD : va_D A ([(qr, .inr (5, [.ref h0, .int (nI o)])), (h0, .inr (8, [.ref qb, .ref qu, .int uc21, .int ln, .int (nI n), .int (nI p22), .int pl])), (qb, .inl (cB, 4096, .inl bf)), (qu, .inl (cI, 4096, .inl ug21)), (ov, .inr (2, [.int 0, .null, .null, .null]))] ++ va_pl ((L ++ ([] ++ N21))) f21) := hD
              refine lv_dup hx hb d_QueryReader_testOrComparison_85 rfl ?_
              refine lv_iconst (v := 1) hx hb d_QueryReader_testOrComparison_86 (by decide) ?_
              refine lv_null hx hb d_QueryReader_testOrComparison_87 ?_
              have hPc := hP.sub (ws' := [(ov, .inr (2, [.int 0, .null, .null, .null]))]) [4] rfl
              have hDc := hD.sub (ws' := [(ov, .inr (2, [.int 0, .null, .null, .null]))]) [4] (by decide) rfl
              have hFc := va_free (wc := [(ov, .inr (2, [.int 0, .null, .null, .null]))]) hD hS hA [4] rfl
              have hKc := hK.sub (tys' := []) [] rfl
              refine w_same (fun hq0 => ?_)
              refine va_callv (va_runI (As := [.int 1, .null]) (rest := [.ref ov]) ⟨hx, hb, hml, hown, hts⟩ (c_Operand_init l dC dI H ov 1 none) (cwI 2 hts (gt_code i_Operand_init) rfl rfl rfl (hts _ z_27) (hts _ z_722) (hts _ z_723) rfl (by decide +kernel) ⟨by show 1 + 1 ≤ 12 * (16 - o) + 18; omega, by show 8 + (3 + 11) + (20) ≤ 360 * (16 - o) + 540; omega⟩) ⟨mp_blind, fun U hU hW => ⟨rfl, hU, by rw [hU]; exact hPc, va_K.moved hW.alike hKc, hDc.weaken (fun _ _ _ _ => trivial)⟩⟩ rfl rfl hl.1 rfl (lv_room (Nat.le_of_ble_eq_true rfl)) d_QueryReader_testOrComparison_88 ⟨by show ((0 + (8 * (p21 - i) + 0 - 7)) + 1) + (0) ≤ 8 * (n - i) + 6; omega, by show ((0 + (64 * (p21 - i) + 0 - 60)) + 4) + (0) ≤ 64 * (n - i) + 60; omega⟩) hS (fun q _ h => hFc q h) hFc (fun _u t9 H1 locs ht hvm hw hB hz1 hk1 hS => ?_)
              obtain ⟨⟨hP1, hK1, hD1⟩, hz9⟩ := hB
              rw [ht] at hP1
              rw [ht] at hz9
              have hq0 : szk s.heap H1 (((0 + (8 * (p21 - i) + 0 - 7)) + 1)) (((0 + (64 * (p21 - i) + 0 - 60)) + 4)) := (hq0.trans hz9).mono (Nat.le_of_eq (Nat.add_zero _)) (Nat.le_of_eq (Nat.add_zero _))
              refine w_tight hq0 ?_
              obtain ⟨hP, hD⟩ := va_joinQ (wr := [(qr, .inr (5, [.ref h0, .int (nI o)])), (h0, .inr (8, [.ref qb, .ref qu, .int uc21, .int ln, .int (nI n), .int (nI p22), .int pl])), (qb, .inl (cB, 4096, .inl bf)), (qu, .inl (cI, 4096, .inl ug21))]) (w1 := [(ov, .inr (2, [.int 1, .null, .null, .null]))]) hP hD [4] [0, 1, 2, 3] rfl rfl (by decide) (by decide) hk1 hFc hP1 hD1
              generalize H1 = H at hP hS hq0 ⊢
              have hP : va_P (dC, dI) classes ([(qr, .inr (5, [.ref h0, .int (nI o)])), (h0, .inr (8, [.ref qb, .ref qu, .int uc21, .int ln, .int (nI n), .int (nI p22), .int pl])), (qb, .inl (cB, 4096, .inl bf)), (qu, .inl (cI, 4096, .inl ug21)), (ov, .inr (2, [.int 1, .null, .null, .null]))] ++ va_pl ((L ++ ([] ++ N21))) f21) H := hP
              have hD : va_D A ([(qr, .inr (5, [.ref h0, .int (nI o)])), (h0, .inr (8, [.ref qb, .ref qu, .int uc21, .int ln, .int (nI n), .int (nI p22), .int pl])), (qb, .inl (cB, 4096, .inl bf)), (qu, .inl (cI, 4096, .inl ug21)), (ov, .inr (2, [.int 1, .null, .null, .null]))] ++ va_pl ((L ++ ([] ++ N21))) f21) := hD
              refine lv_astore_n (lv' := [(3, .ref ov), (2, .int h23), (1, .ref v21), (0, .ref qr)]) hx hb d_QueryReader_testOrComparison_91 rfl hl (by decide) rfl (fun ls hl => ?_)
              refine lv_aload_n hx hb d_QueryReader_testOrComparison_92 rfl (lv_at hl 0 rfl) ?_
              refine lv_aload_n hx hb d_QueryReader_testOrComparison_93 rfl (lv_at hl 2 rfl) ?_
              refine va_put (D := (dC, dI)) (ci := 2) (v := .ref v21) (ty := .object "QueryBench$Query") (C := R_Operand) (T := F_Operand) (N := 4) hx hb hts in_Operand t_Operand t_Operand_ok n_Operand hown hK hP hD hS 4 rfl rfl 2 (by decide) (hts _ z_730) (fun _ h9 => h9) rfl (by decide +kernel) rfl rfl (Nat.le_of_ble_eq_true rfl) d_QueryReader_testOrComparison_94 (fun H locs hP hD hS => ?_)
              have hP : va_P (dC, dI) classes ([(qr, .inr (5, [.ref h0, .int (nI o)])), (h0, .inr (8, [.ref qb, .ref qu, .int uc21, .int ln, .int (nI n), .int (nI p22), .int pl])), (qb, .inl (cB, 4096, .inl bf)), (qu, .inl (cI, 4096, .inl ug21)), (ov, .inr (2, [.int 1, .null, .ref v21, .null]))] ++ va_pl ((L ++ ([] ++ N21))) f21) H := hP
              have hD : va_D A ([(qr, .inr (5, [.ref h0, .int (nI o)])), (h0, .inr (8, [.ref qb, .ref qu, .int uc21, .int ln, .int (nI n), .int (nI p22), .int pl])), (qb, .inl (cB, 4096, .inl bf)), (qu, .inl (cI, 4096, .inl ug21)), (ov, .inr (2, [.int 1, .null, .ref v21, .null]))] ++ va_pl ((L ++ ([] ++ N21))) f21) := hD
              refine lv_aload_n hx hb d_QueryReader_testOrComparison_97 rfl (lv_at hl 3 rfl) ?_
              refine lv_aload_n hx hb d_QueryReader_testOrComparison_98 rfl (lv_at hl 0 rfl) ?_
              have hG8 := hG21.mv (show p21 ≤ p22 by omega) (show p22 ≤ n by omega)
              have hL_ov := plD_new (X := [(qr, .inr (5, [.ref h0, .int (nI o)])), (h0, .inr (8, [.ref qb, .ref qu, .int uc21, .int ln, .int (nI n), .int (nI p22), .int pl])), (qb, .inl (cB, 4096, .inl bf)), (qu, .inl (cI, 4096, .inl ug21))]) hD
              have h0_ov : E21 ov = 0 := Classical.byContradiction (fun h => hL_ov (hG8.po.inL h))
              have hP := plP_push (X := [(qr, .inr (5, [.ref h0, .int (nI o)])), (h0, .inr (8, [.ref qb, .ref qu, .int uc21, .int ln, .int (nI n), .int (nI p22), .int pl])), (qb, .inl (cB, 4096, .inl bf)), (qu, .inl (cI, 4096, .inl ug21))]) hP hL_ov
              have hD := plD_push (X := [(qr, .inr (5, [.ref h0, .int (nI o)])), (h0, .inr (8, [.ref qb, .ref qu, .int uc21, .int ln, .int (nI n), .int (nI p22), .int pl])), (qb, .inl (cB, 4096, .inl bf)), (qu, .inl (cI, 4096, .inl ug21))]) hD hL_ov
              rw [List.append_assoc] at hP hD
              have hvs21 : v21 ≠ ov := fun e => by have h9 := hQ21.so; rw [e, h0_ov] at h9; cases h9
              have hG_ov := hG8.add (q := ov) (s := 11) (b := 5 * (16 - o) + 1) (e := oE 1 none (some v21) none) h0_ov hL_ov hz_ov (by decide) (by decide) (CO.O (va_up_self _ _ _) ⟨_, _, _, _, rfl, (fun b h => (nomatch h)), (fun b9 h => by cases h; exact ⟨(va_up_ne _ _ hvs21).trans hQ21.so, by rw [va_up_ne _ _ hvs21, va_up_self]; have := hlv21; omega⟩), (fun b h => (nomatch h)), (fun _ h => by cases h), fun h => absurd h (by decide), fun h => absurd h (by decide)⟩)
              have hP : va_P (dC, dI) classes ([(qr, .inr (5, [.ref h0, .int (nI o)])), (h0, .inr (8, [.ref qb, .ref qu, .int uc21, .int ln, .int (nI n), .int (nI p22), .int pl])), (qb, .inl (cB, 4096, .inl bf)), (qu, .inl (cI, 4096, .inl ug21))] ++ va_pl ((L ++ (([] ++ N21) ++ [ov]))) ((va_up f21 ov (oE 1 none (some v21) none)))) H := hP
              have hD : va_D A ([(qr, .inr (5, [.ref h0, .int (nI o)])), (h0, .inr (8, [.ref qb, .ref qu, .int uc21, .int ln, .int (nI n), .int (nI p22), .int pl])), (qb, .inl (cB, 4096, .inl bf)), (qu, .inl (cI, 4096, .inl ug21))] ++ va_pl ((L ++ (([] ++ N21) ++ [ov]))) ((va_up f21 ov (oE 1 none (some v21) none)))) := hD
              have hG31 := hG_ov.mv (show p22 ≤ p22 by omega) (show p22 ≤ n by omega)
              have hzz31 : s.heap.size ≤ H.size := hS.1
              have hPc := hP.part (cx := [(qr, .inr (5, [.ref h0, .int (nI o)])), (h0, .inr (8, [.ref qb, .ref qu, .int uc21, .int ln, .int (nI n), .int (nI p22), .int pl])), (qb, .inl (cB, 4096, .inl bf)), (qu, .inl (cI, 4096, .inl ug21))]) [0, 1, 2, 3] rfl
              have hDc := hD.part (cx := [(qr, .inr (5, [.ref h0, .int (nI o)])), (h0, .inr (8, [.ref qb, .ref qu, .int uc21, .int ln, .int (nI n), .int (nI p22), .int pl])), (qb, .inl (cB, 4096, .inl bf)), (qu, .inl (cI, 4096, .inl ug21))]) [0, 1, 2, 3] (by decide) rfl
              have hFc := va_freeP (cx := [(qr, .inr (5, [.ref h0, .int (nI o)])), (h0, .inr (8, [.ref qb, .ref qu, .int uc21, .int ln, .int (nI n), .int (nI p22), .int pl])), (qb, .inl (cB, 4096, .inl bf)), (qu, .inl (cI, 4096, .inl ug21))]) hD hS hA [0, 1, 2, 3] rfl
              have hKc := hK.sub (tys' := [(cB, .byte), (cI, .int), (cV, .object "QueryBench$Value")]) [0, 1, 2] rfl
              refine w_same (fun hq0 => ?_)
              refine vx_callr (vx_runV (As := [.ref ov]) (rest := []) ⟨hx, hb, hml, hown, hts⟩ (c_QR_comparison l hl9 K dC dI cI cV cB h0 qb qu ln bf n qr hn0 hbf o ho ok orL cmL qyL hok HP H ((va_up E21 ov 11)) ((va_up lv21 ov (5 * (16 - o) + 1))) (L ++ (([] ++ N21) ++ [ov])) ((va_up f21 ov (oE 1 none (some v21) none))) p22 uc21 pl ug21 hG31.po (by omega) ov (va_up_self _ _ _) E (onlO m21) hG_ov.ex (hG21.ex.z h0_ov) (DNx.onl hd21 hnv21 hsv21 h0_ov)) (cwV 1 hts (gt_V (own := R_QueryReader) (C := R_QueryReader) (i := 188) (y := y_QueryReader_comparison) i_QueryReader_comparison z_743 z_745 (gt_sel (y := y_QueryReader_comparison) (n := 2) (by decide +kernel)) w_4) rfl rfl rfl (by decide +kernel) ⟨by show 12 * (16 - o) + 17 + 1 ≤ 12 * (16 - o) + 18; omega, by show 8 + (3 + 11) + (360 * (16 - o) + 510) ≤ 360 * (16 - o) + 540; omega⟩) ⟨ml_blind, va_recv hK hP (ci := 5) (q0 := 0) rfl rfl, fun U hU hW => ⟨rfl, ⟨hU, by rw [hU]; exact hPc, va_K.moved hW.alike hKc, hDc.weaken (fun _ _ _ _ => trivial)⟩, hN.warm hW, by rw [hU]; exact ZX.moved' hW.alike (ZX.narrow' (ZX.kept' hZ hS.2.1) hFc), by rw [hU]; exact CE.call hC hS.2.1 hFc hW, va_AO.moved hW.alike hV⟩⟩ rfl rfl hl.1 rfl (lv_room (Nat.le_of_ble_eq_true rfl)) d_QueryReader_testOrComparison_99 ⟨by show ((0 + (8 * (p21 - i) + 0 - 7)) + 1) + (8 * (n - p22) + 4) ≤ 8 * (n - i) + 6; omega, by show ((0 + (64 * (p21 - i) + 0 - 60)) + 4) + (64 * (n - p22) + 60) ≤ 64 * (n - i) + 60; omega⟩) hS (fun q _ h => hFc q h) hFc (fun q _ h => hFc q h) (fun En ce q9 ⟨ax, cx, px, gx, ox⟩ t9 H1 locs ht hvm hw hB hz1 hk1 hS hce hcv hcl => ?_) (fun ⟨w31, p31, N31, E31, f31, uc31, ug31⟩ v31 t9 H1 locs ht hvm hw hB hz1 hk1 hS => ?_)
              · obtain ⟨hEn, hP1, hK1, hD1⟩ := hB
                rw [ht] at hP1
                obtain ⟨hP, hD⟩ := va_joinP (wr := []) (rx := [(qr, .inr (5, [.ref h0, .int ox])), (h0, .inr (8, [.ref qb, .ref qu, .int cx, .int ln, .int (nI n), .int ax, .int px])), (qb, .inl (cB, 4096, .inl bf)), (qu, .inl (cI, 4096, .inl gx))]) (pl1 := va_pl ((L ++ (([] ++ N21) ++ [ov]))) ((va_up f21 ov (oE 1 none (some v21) none)))) hP hD [0, 1, 2, 3] [] rfl rfl (by decide) (by decide) hk1 hFc hP1 hD1
                generalize H1 = H at hP hS hce ⊢
                have hP : va_P (dC, dI) classes ([(qr, .inr (5, [.ref h0, .int ox])), (h0, .inr (8, [.ref qb, .ref qu, .int cx, .int ln, .int (nI n), .int ax, .int px])), (qb, .inl (cB, 4096, .inl bf)), (qu, .inl (cI, 4096, .inl gx))] ++ va_pl ((L ++ (([] ++ N21) ++ [ov]))) ((va_up f21 ov (oE 1 none (some v21) none)))) H := hP
                have hD : va_D A ([(qr, .inr (5, [.ref h0, .int ox])), (h0, .inr (8, [.ref qb, .ref qu, .int cx, .int ln, .int (nI n), .int ax, .int px])), (qb, .inl (cB, 4096, .inl bf)), (qu, .inl (cI, 4096, .inl gx))] ++ va_pl ((L ++ (([] ++ N21) ++ [ov]))) ((va_up f21 ov (oE 1 none (some v21) none)))) := hD
                have hP := plP_cut (hP.part (cx := [(qr, .inr (5, [.ref h0, .int ox])), (h0, .inr (8, [.ref qb, .ref qu, .int cx, .int ln, .int (nI n), .int ax, .int px])), (qb, .inl (cB, 4096, .inl bf)), (qu, .inl (cI, 4096, .inl gx))]) [0, 1, 2, 3] rfl) hG31.on
                have hD := plD_cut (hD.part (cx := [(qr, .inr (5, [.ref h0, .int ox])), (h0, .inr (8, [.ref qb, .ref qu, .int cx, .int ln, .int (nI n), .int ax, .int px])), (qb, .inl (cB, 4096, .inl bf)), (qu, .inl (cI, 4096, .inl gx))]) [0, 1, 2, 3] (by decide) rfl) hG31.on
                have hno : (tcD bf n ok orL (opD bf n ok orL cmL qyL)) i = none := (tcD_2 hqr h_p22 hop hsq1).trans hw
                exact vx_out (fun x hx => (hex x hx).elim) hlocks hce hcv hcl (fun t9 ht2 ha => ⟨(ax, cx, px, gx, ox), hno, ⟨hEn, by rw [ht2]; exact hP, va_K.moved ha hK, hD⟩, hS.F ht2⟩) hS.2.2 (by show ((0 + (8 * (p21 - i) + 0 - 7)) + 1) + (8 * (n - p22) + 4) ≤ 8 * (n - i) + 6; omega) (by show ((0 + (64 * (p21 - i) + 0 - 60)) + 4) + (64 * (n - p22) + 60) ≤ 64 * (n - i) + 60; omega)
              · obtain ⟨⟨hP1, hK1, hD1⟩, hz9, ha9⟩ := hB
                rw [ht] at hP1
                rw [ht] at hz9
                have ha9 : v31 = w31 := ha9
                subst ha9
                have hq0 : szk s.heap H1 (((0 + (8 * (p21 - i) + 0 - 7)) + 1) + (8 * (p31 - p22) - 4)) (((0 + (64 * (p21 - i) + 0 - 60)) + 4) + (64 * (p31 - p22) - 44)) := (hq0.trans hz9).mono (Nat.le_refl _) (Nat.le_refl _)
                refine w_tight hq0 ?_
                obtain ⟨hP, hD⟩ := va_joinP (wr := []) (rx := [(qr, .inr (5, [.ref h0, .int (nI o)])), (h0, .inr (8, [.ref qb, .ref qu, .int uc31, .int ln, .int (nI n), .int (nI p31), .int pl])), (qb, .inl (cB, 4096, .inl bf)), (qu, .inl (cI, 4096, .inl ug31))]) (pl1 := va_pl (((L ++ (([] ++ N21) ++ [ov])) ++ N31)) f31) hP hD [0, 1, 2, 3] [] rfl rfl (by decide) (by decide) hk1 hFc hP1 hD1
                generalize H1 = H at hP hS hq0 ⊢
                have hP : va_P (dC, dI) classes ([(qr, .inr (5, [.ref h0, .int (nI o)])), (h0, .inr (8, [.ref qb, .ref qu, .int uc31, .int ln, .int (nI n), .int (nI p31), .int pl])), (qb, .inl (cB, 4096, .inl bf)), (qu, .inl (cI, 4096, .inl ug31))] ++ va_pl (((L ++ (([] ++ N21) ++ [ov])) ++ N31)) f31) H := hP
                have hD : va_D A ([(qr, .inr (5, [.ref h0, .int (nI o)])), (h0, .inr (8, [.ref qb, .ref qu, .int uc31, .int ln, .int (nI n), .int (nI p31), .int pl])), (qb, .inl (cB, 4096, .inl bf)), (qu, .inl (cI, 4096, .inl ug31))] ++ va_pl (((L ++ (([] ++ N21) ++ [ov])) ++ N31)) f31) := hD
                obtain ⟨hw, m31, hf31, hd31⟩ := hw
                have hf31 : (cpD bf n (opD bf n ok orL cmL qyL) (onlO m21)) p22 = some (p31, m31) := hf31
                have hd31 : DNx KD 2 E E31 f31 v31 m31 := hd31
                have hQ31 : QK cI cV ((va_up E21 ov 11)) (L ++ (([] ++ N21) ++ [ov])) ((va_up f21 ov (oE 1 none (some v21) none))) p22 n _ ov (5 * (16 - o) + 2) v31 p31 N31 E31 f31 := hw
                obtain ⟨hn31, hs31, ha31, hb31, hx31⟩ := hQ31
                have ha31 : p22 + 1 ≤ p31 := ha31
                have hb31 : p31 ≤ n := hb31
                rw [List.append_assoc] at hP hD
                obtain ⟨lv31, hg31, hlv31⟩ := hx31 ((va_up lv21 ov (5 * (16 - o) + 1))) hG31.po (5 * (16 - o) + 2 + ((va_up lv21 ov (5 * (16 - o) + 1))) ov + 1) (by omega) (by omega)
                have hG31 := hG31.tr hg31 hzz31
                have hP : va_P (dC, dI) classes ([(qr, .inr (5, [.ref h0, .int (nI o)])), (h0, .inr (8, [.ref qb, .ref qu, .int uc31, .int ln, .int (nI n), .int (nI p31), .int pl])), (qb, .inl (cB, 4096, .inl bf)), (qu, .inl (cI, 4096, .inl ug31))] ++ va_pl ((L ++ ((([] ++ N21) ++ [ov]) ++ N31))) f31) H := hP
                have hD : va_D A ([(qr, .inr (5, [.ref h0, .int (nI o)])), (h0, .inr (8, [.ref qb, .ref qu, .int uc31, .int ln, .int (nI n), .int (nI p31), .int pl])), (qb, .inl (cB, 4096, .inl bf)), (qu, .inl (cI, 4096, .inl ug31))] ++ va_pl ((L ++ ((([] ++ N21) ++ [ov]) ++ N31))) f31) := hD
                have hQf : QPn cI cV E L f i n s.heap.size 10 (5 * (16 - o) + 2) 1 v31 p31 ((([] ++ N21) ++ [ov]) ++ N31) E31 f31 := by
                  refine ⟨hG_ov.ex.z hn31, hs31, by omega, by omega, fun lv hO b hb => ?_⟩
                  have g0 : QG cI cV E lv L f i n i s.heap.size [] E lv f := (QG.rf hO hi9).mv (by omega) (by omega)
                  obtain ⟨lv1, g1, c1⟩ := hQ21.x lv g0.po (5 * (16 - o)) (by omega)
                  have g1 := g0.tr g1 hzz21
                  have g1 := g1.mv (show p21 ≤ p22 by omega) (show p22 ≤ n by omega)
                  have g2 := g1.add (q := ov) (s := 11) (b := 5 * (16 - o) + 1) (e := oE 1 none (some v21) none) h0_ov hL_ov hz_ov (by decide) (by decide) (CO.O (va_up_self _ _ _) ⟨_, _, _, _, rfl, (fun b h => (nomatch h)), (fun b9 h => by cases h; exact ⟨(va_up_ne _ _ hvs21).trans hQ21.so, by rw [va_up_ne _ _ hvs21, va_up_self]; have := c1; omega⟩), (fun b h => (nomatch h)), (fun _ h => by cases h), fun h => absurd h (by decide), fun h => absurd h (by decide)⟩)
                  obtain ⟨lv2, g3, c3⟩ := hx31 _ g2.po b (by omega) (by rw [va_up_self]; omega)
                  exact ⟨lv2, g2.tr g3 hzz31, c3⟩
                have hQr : QPn cI cV E L f i n s.heap.size 10 (5 * (16 - o) + 2) 1 v31 p31 (((([] ++ N21) ++ [ov]) ++ N31)) E31 f31 := hQf
                have hfin : (tcD bf n ok orL (opD bf n ok orL cmL qyL)) i = some (p31, m31) := (tcD_2 hqr h_p22 hop hsq1).trans hf31
                have hdn : DNx KD 2 E E31 f31 v31 m31 := hd31
                refine w_same (fun hq => ?_)
                refine W.widen (k := 8 * (n - i) + 6) (n := 64 * (n - i) + 60) (by show (((0 + (8 * (p21 - i) + 0 - 7)) + 1) + (8 * (p31 - p22) - 4)) ≤ 8 * (n - i) + 6; omega) (by show (((0 + (64 * (p21 - i) + 0 - 60)) + 4) + (64 * (p31 - p22) - 44)) ≤ 64 * (n - i) + 60; omega) ?_
                refine vx_ret ?_
                exact W.aret (v := .ref v31) hx hb hr (Or.inl ⟨_, rfl⟩) (Or.inr ⟨_, rfl⟩) (fun t9 ht hW => ⟨⟨(v31, p31, ((([] ++ N21) ++ [ov]) ++ N31), E31, f31, uc31, ug31), v31, rfl, ⟨hQr, _, hfin, hdn⟩, ⟨by rw [ht]; exact hP, va_K.moved hW.alike hK, hD⟩, by rw [ht]; exact ⟨hq.mono (by show (((0 + (8 * (p21 - i) + 0 - 7)) + 1) + (8 * (p31 - p22) - 4)) ≤ 8 * (p31 - i) + 0 - 6; omega) (by show (((0 + (64 * (p21 - i) + 0 - 60)) + 4) + (64 * (p31 - p22) - 44)) ≤ 64 * (p31 - i) + 0 - 54; omega), rfl⟩⟩, hS.F ht⟩) hS.2.2 d_QueryReader_testOrComparison_102
            · refine lv_aload_n hx hb d_QueryReader_testOrComparison_68 rfl (lv_at hl 2 rfl) ?_
              refine va_get (D := (dC, dI)) (ci := 5) (v := .ref h0) (C := R_QueryReader) (T := F_QueryReader) (N := 2) hx hb hts in_QueryReader hown hK hP 0 rfl rfl 0 (by decide) (hts _ w_100) (fun _ h9 => h9) rfl d_QueryReader_testOrComparison_69 ?_
              refine lv_aload_n hx hb d_QueryReader_testOrComparison_72 rfl (lv_at hl 2 rfl) ?_
              refine va_get (D := (dC, dI)) (ci := 5) (v := .ref h0) (C := R_QueryReader) (T := F_QueryReader) (N := 2) hx hb hts in_QueryReader hown hK hP 0 rfl rfl 0 (by decide) (hts _ w_100) (fun _ h9 => h9) rfl d_QueryReader_testOrComparison_73 ?_
              refine va_get (D := (dC, dI)) (ci := 8) (v := .int (nI p22)) (C := R_Tape) (T := F_Tape) (N := 7) hx hb hts in_Tape hown hK hP 1 rfl rfl 5 (by decide) (hts _ z_53) (fun _ h9 => h9) rfl d_QueryReader_testOrComparison_76 ?_
              have hPc := hP.sub (ws' := [(h0, .inr (8, [.ref qb, .ref qu, .int uc21, .int ln, .int (nI n), .int (nI p22), .int pl])), (qb, .inl (cB, 4096, .inl bf))]) [1, 2] rfl
              have hDc := hD.sub (ws' := [(h0, .inr (8, [.ref qb, .ref qu, .int uc21, .int ln, .int (nI n), .int (nI p22), .int pl])), (qb, .inl (cB, 4096, .inl bf))]) [1, 2] (by decide) rfl
              have hFc := va_free (wc := [(h0, .inr (8, [.ref qb, .ref qu, .int uc21, .int ln, .int (nI n), .int (nI p22), .int pl])), (qb, .inl (cB, 4096, .inl bf))]) hD hS hA [1, 2] rfl
              have hKc := hK.sub (tys' := [(cB, .byte)]) [0] rfl
              refine w_same (fun hq0 => ?_)
              refine vx_callv (vx_runV (As := [.int (nI p22)]) (rest := []) ⟨hx, hb, hml, hown, hts⟩ (c_Tape_fail l hl9 dC dI cB h0 qb H (.ref qu) uc21 ln (nI n) (nI p22) pl bf ((nI p22))) (cwV 1 hts (gt_V (own := R_QueryReader) (C := R_Tape) (i := 28) (y := y_Tape_fail) i_Tape_fail z_535 w_371 w_372 w_2) rfl rfl rfl (by decide +kernel) ⟨by show 8 + 1 ≤ 12 * (16 - o) + 18; omega, by show 8 + (2 + 11) + (110) ≤ 360 * (16 - o) + 540; omega⟩) ⟨mx_blind, va_recv hK hP (ci := 8) (q0 := 1) rfl rfl, fun U hU hW => ⟨rfl, ⟨hU, by rw [hU]; exact hPc, va_K.moved hW.alike hKc, hDc.weaken (fun _ _ _ _ => trivial)⟩, hN.warm hW, by rw [hU]; exact ZX.moved' hW.alike (ZX.narrow' (ZX.kept' hZ hS.2.1) hFc)⟩⟩ rfl rfl hl.1 rfl (lv_room (Nat.le_of_ble_eq_true rfl)) d_QueryReader_testOrComparison_79 ⟨by show (0 + (8 * (p21 - i) + 0 - 7)) + (1) ≤ 8 * (n - i) + 6; omega, by show (0 + (64 * (p21 - i) + 0 - 60)) + (6) ≤ 64 * (n - i) + 60; omega⟩) hS (fun q _ h => hFc q h) hFc (fun q _ h => hFc q h) (fun En ce q9 _u t9 H1 locs ht hvm hw hB hz1 hk1 hS hce hcv hcl => ?_) (fun _u t9 H1 locs ht hvm hw hB hz1 hk1 hS => ?_)
              · obtain ⟨hEn, hP1, hK1, hD1⟩ := hB
                rw [ht] at hP1
                obtain ⟨hP, hD⟩ := va_joinQ (wr := [(qr, .inr (5, [.ref h0, .int (nI o)])), (qu, .inl (cI, 4096, .inl ug21))]) (w1 := [(h0, .inr (8, [.ref qb, .ref qu, .int uc21, .int ln, .int (nI n), .int (nI p22), .int (nI p22)])), (qb, .inl (cB, 4096, .inl bf))]) hP hD [1, 2] [0, 3] rfl rfl (by decide) (by decide) hk1 hFc hP1 hD1
                generalize H1 = H at hP hS hce ⊢
                have hP : va_P (dC, dI) classes ([(qr, .inr (5, [.ref h0, .int (nI o)])), (qu, .inl (cI, 4096, .inl ug21)), (h0, .inr (8, [.ref qb, .ref qu, .int uc21, .int ln, .int (nI n), .int (nI p22), .int (nI p22)])), (qb, .inl (cB, 4096, .inl bf))] ++ va_pl ((L ++ ([] ++ N21))) f21) H := hP
                have hD : va_D A ([(qr, .inr (5, [.ref h0, .int (nI o)])), (qu, .inl (cI, 4096, .inl ug21)), (h0, .inr (8, [.ref qb, .ref qu, .int uc21, .int ln, .int (nI n), .int (nI p22), .int (nI p22)])), (qb, .inl (cB, 4096, .inl bf))] ++ va_pl ((L ++ ([] ++ N21))) f21) := hD
                have hP := hP.part (cx := [(qr, .inr (5, [.ref h0, .int (nI o)])), (h0, .inr (8, [.ref qb, .ref qu, .int uc21, .int ln, .int (nI n), .int (nI p22), .int (nI p22)])), (qb, .inl (cB, 4096, .inl bf)), (qu, .inl (cI, 4096, .inl ug21))]) [0, 2, 3, 1] rfl
                have hD := hD.part (cx := [(qr, .inr (5, [.ref h0, .int (nI o)])), (h0, .inr (8, [.ref qb, .ref qu, .int uc21, .int ln, .int (nI n), .int (nI p22), .int (nI p22)])), (qb, .inl (cB, 4096, .inl bf)), (qu, .inl (cI, 4096, .inl ug21))]) [0, 2, 3, 1] (by decide) rfl
                have hP := plP_cut (hP.part (cx := [(qr, .inr (5, [.ref h0, .int (nI o)])), (h0, .inr (8, [.ref qb, .ref qu, .int uc21, .int ln, .int (nI n), .int (nI p22), .int (nI p22)])), (qb, .inl (cB, 4096, .inl bf)), (qu, .inl (cI, 4096, .inl ug21))]) [0, 1, 2, 3] rfl) hG21.on
                have hD := plD_cut (hD.part (cx := [(qr, .inr (5, [.ref h0, .int (nI o)])), (h0, .inr (8, [.ref qb, .ref qu, .int uc21, .int ln, .int (nI n), .int (nI p22), .int (nI p22)])), (qb, .inl (cB, 4096, .inl bf)), (qu, .inl (cI, 4096, .inl ug21))]) [0, 1, 2, 3] (by decide) rfl) hG21.on
                have hno : (tcD bf n ok orL (opD bf n ok orL cmL qyL)) i = none := tcD_1 hqr h_p22 hop ((bI_q hsq).2 c65)
                exact vx_out (fun x hx => (hex x hx).elim) hlocks hce hcv hcl (fun t9 ht2 ha => ⟨(nI p22, uc21, (nI p22), ug21, nI o), hno, ⟨hEn, by rw [ht2]; exact hP, va_K.moved ha hK, hD⟩, hS.F ht2⟩) hS.2.2 (by show (0 + (8 * (p21 - i) + 0 - 7)) + (1) ≤ 8 * (n - i) + 6; omega) (by show (0 + (64 * (p21 - i) + 0 - 60)) + (6) ≤ 64 * (n - i) + 60; omega)
              · obtain ⟨⟨hP1, hK1, hD1⟩, hz9⟩ := hB
                rw [ht] at hP1
                rw [ht] at hz9
                refine w_tight (hq0.trans hz9) ?_
                have hq0 := hq0.trans hz9
                obtain ⟨hP, hD⟩ := va_joinQ (wr := [(qr, .inr (5, [.ref h0, .int (nI o)])), (qu, .inl (cI, 4096, .inl ug21))]) (w1 := [(h0, .inr (8, [.ref qb, .ref qu, .int uc21, .int ln, .int (nI n), .int (nI p22), .int pl])), (qb, .inl (cB, 4096, .inl bf))]) hP hD [1, 2] [0, 3] rfl rfl (by decide) (by decide) hk1 hFc hP1 hD1
                generalize H1 = H at hP hS hq0 ⊢
                have hP : va_P (dC, dI) classes ([(qr, .inr (5, [.ref h0, .int (nI o)])), (qu, .inl (cI, 4096, .inl ug21)), (h0, .inr (8, [.ref qb, .ref qu, .int uc21, .int ln, .int (nI n), .int (nI p22), .int pl])), (qb, .inl (cB, 4096, .inl bf))] ++ va_pl ((L ++ ([] ++ N21))) f21) H := hP
                have hD : va_D A ([(qr, .inr (5, [.ref h0, .int (nI o)])), (qu, .inl (cI, 4096, .inl ug21)), (h0, .inr (8, [.ref qb, .ref qu, .int uc21, .int ln, .int (nI n), .int (nI p22), .int pl])), (qb, .inl (cB, 4096, .inl bf))] ++ va_pl ((L ++ ([] ++ N21))) f21) := hD
                have hP := hP.part (cx := [(qr, .inr (5, [.ref h0, .int (nI o)])), (h0, .inr (8, [.ref qb, .ref qu, .int uc21, .int ln, .int (nI n), .int (nI p22), .int pl])), (qb, .inl (cB, 4096, .inl bf)), (qu, .inl (cI, 4096, .inl ug21))]) [0, 2, 3, 1] rfl
                have hD := hD.part (cx := [(qr, .inr (5, [.ref h0, .int (nI o)])), (h0, .inr (8, [.ref qb, .ref qu, .int uc21, .int ln, .int (nI n), .int (nI p22), .int pl])), (qb, .inl (cB, 4096, .inl bf)), (qu, .inl (cI, 4096, .inl ug21))]) [0, 2, 3, 1] (by decide) rfl
                exact hw.elim
          · have hop : ¬ opH (hereV bf n p22) := by rw [← h_h23]; exact fun q => by rcases q with q | q | q | q; (· exact c24 q); (· exact c30 q); (· exact c36 q); (· exact c42 q)
            refine va_new (ci := 0) (fs := [.int 0, .null, .null, .null, .null, .null]) (C := R_Condition) (T := F_Condition) (N := 6) hx hb hts in_Condition t_Condition t_Condition_ok hown (hts _ z_670) (hts _ z_671) (hts _ z_26) hK hP hD hS hA rfl (fun j hj => by rcases (show j = 0 ∨ j = 1 ∨ j = 2 ∨ j = 3 ∨ j = 4 ∨ j = 5 by omega) with rfl | rfl | rfl | rfl | rfl | rfl <;> rfl) (by show (0 + (8 * (p21 - i) + 0 - 7)) + 1 ≤ 8 * (n - i) + 6; omega) (by show (0 + (64 * (p21 - i) + 0 - 60)) + 6 ≤ 64 * (n - i) + 60; omega) d_QueryReader_testOrComparison_45 (fun kc H hP hD hS => ?_)
            have hz_kc := newB (X := [(qr, .inr (5, [.ref h0, .int (nI o)])), (h0, .inr (8, [.ref qb, .ref qu, .int uc21, .int ln, .int (nI n), .int (nI p22), .int pl])), (qb, .inl (cB, 4096, .inl bf)), (qu, .inl (cI, 4096, .inl ug21))]) hAe hD (fun k x hk => by rcases k with _ | _ | _ | _ | k; (· cases hk; exact ⟨0, _, rfl⟩); (· cases hk; exact ⟨1, _, rfl⟩); (· cases hk; exact ⟨2, _, rfl⟩); (· cases hk; exact ⟨3, _, rfl⟩); (· cases hk))
            have hP := hP.swap
            have hD := hD.swap
            have hP : va_P (dC, dI) classes ([(qr, .inr (5, [.ref h0, .int (nI o)])), (h0, .inr (8, [.ref qb, .ref qu, .int uc21, .int ln, .int (nI n), .int (nI p22), .int pl])), (qb, .inl (cB, 4096, .inl bf)), (qu, .inl (cI, 4096, .inl ug21)), (kc, .inr (0, [.int 0, .null, .null, .null, .null, .null]))] ++ va_pl ((L ++ ([] ++ N21))) f21) H := hP
            have hD : va_D A ([(qr, .inr (5, [.ref h0, .int (nI o)])), (h0, .inr (8, [.ref qb, .ref qu, .int uc21, .int ln, .int (nI n), .int (nI p22), .int pl])), (qb, .inl (cB, 4096, .inl bf)), (qu, .inl (cI, 4096, .inl ug21)), (kc, .inr (0, [.int 0, .null, .null, .null, .null, .null]))] ++ va_pl ((L ++ ([] ++ N21))) f21) := hD
            refine lv_dup hx hb d_QueryReader_testOrComparison_48 rfl ?_
            refine lv_iconst (v := 3) hx hb d_QueryReader_testOrComparison_49 (by decide) ?_
            have hPc := hP.sub (ws' := [(kc, .inr (0, [.int 0, .null, .null, .null, .null, .null]))]) [4] rfl
            have hDc := hD.sub (ws' := [(kc, .inr (0, [.int 0, .null, .null, .null, .null, .null]))]) [4] (by decide) rfl
            have hFc := va_free (wc := [(kc, .inr (0, [.int 0, .null, .null, .null, .null, .null]))]) hD hS hA [4] rfl
            have hKc := hK.sub (tys' := []) [] rfl
            refine w_same (fun hq0 => ?_)
            refine va_callv (va_runI (As := [.int 3]) (rest := [.ref kc]) ⟨hx, hb, hml, hown, hts⟩ (c_Condition_init l dC dI H kc 3) (cwI 1 hts (gt_code i_Condition_init) rfl rfl rfl (hts _ z_26) (hts _ z_672) (hts _ z_673) rfl (by decide +kernel) ⟨by show 1 + 1 ≤ 12 * (16 - o) + 18; omega, by show 8 + (2 + 11) + (20) ≤ 360 * (16 - o) + 540; omega⟩) ⟨mp_blind, fun U hU hW => ⟨rfl, hU, by rw [hU]; exact hPc, va_K.moved hW.alike hKc, hDc.weaken (fun _ _ _ _ => trivial)⟩⟩ rfl rfl hl.1 rfl (lv_room (Nat.le_of_ble_eq_true rfl)) d_QueryReader_testOrComparison_50 ⟨by show ((0 + (8 * (p21 - i) + 0 - 7)) + 1) + (0) ≤ 8 * (n - i) + 6; omega, by show ((0 + (64 * (p21 - i) + 0 - 60)) + 6) + (0) ≤ 64 * (n - i) + 60; omega⟩) hS (fun q _ h => hFc q h) hFc (fun _u t9 H1 locs ht hvm hw hB hz1 hk1 hS => ?_)
            obtain ⟨⟨hP1, hK1, hD1⟩, hz9⟩ := hB
            rw [ht] at hP1
            rw [ht] at hz9
            have hq0 : szk s.heap H1 (((0 + (8 * (p21 - i) + 0 - 7)) + 1)) (((0 + (64 * (p21 - i) + 0 - 60)) + 6)) := (hq0.trans hz9).mono (Nat.le_of_eq (Nat.add_zero _)) (Nat.le_of_eq (Nat.add_zero _))
            refine w_tight hq0 ?_
            obtain ⟨hP, hD⟩ := va_joinQ (wr := [(qr, .inr (5, [.ref h0, .int (nI o)])), (h0, .inr (8, [.ref qb, .ref qu, .int uc21, .int ln, .int (nI n), .int (nI p22), .int pl])), (qb, .inl (cB, 4096, .inl bf)), (qu, .inl (cI, 4096, .inl ug21))]) (w1 := [(kc, .inr (0, [.int 3, .null, .null, .null, .null, .null]))]) hP hD [4] [0, 1, 2, 3] rfl rfl (by decide) (by decide) hk1 hFc hP1 hD1
            generalize H1 = H at hP hS hq0 ⊢
            have hP : va_P (dC, dI) classes ([(qr, .inr (5, [.ref h0, .int (nI o)])), (h0, .inr (8, [.ref qb, .ref qu, .int uc21, .int ln, .int (nI n), .int (nI p22), .int pl])), (qb, .inl (cB, 4096, .inl bf)), (qu, .inl (cI, 4096, .inl ug21)), (kc, .inr (0, [.int 3, .null, .null, .null, .null, .null]))] ++ va_pl ((L ++ ([] ++ N21))) f21) H := hP
            have hD : va_D A ([(qr, .inr (5, [.ref h0, .int (nI o)])), (h0, .inr (8, [.ref qb, .ref qu, .int uc21, .int ln, .int (nI n), .int (nI p22), .int pl])), (qb, .inl (cB, 4096, .inl bf)), (qu, .inl (cI, 4096, .inl ug21)), (kc, .inr (0, [.int 3, .null, .null, .null, .null, .null]))] ++ va_pl ((L ++ ([] ++ N21))) f21) := hD
            refine lv_astore_n (lv' := [(3, .ref kc), (2, .int h23), (1, .ref v21), (0, .ref qr)]) hx hb d_QueryReader_testOrComparison_53 rfl hl (by decide) rfl (fun ls hl => ?_)
            refine lv_aload_n hx hb d_QueryReader_testOrComparison_54 rfl (lv_at hl 0 rfl) ?_
            refine lv_aload_n hx hb d_QueryReader_testOrComparison_55 rfl (lv_at hl 2 rfl) ?_
            refine va_put (D := (dC, dI)) (ci := 0) (v := .ref v21) (ty := .object "QueryBench$Query") (C := R_Condition) (T := F_Condition) (N := 6) hx hb hts in_Condition t_Condition t_Condition_ok n_Condition hown hK hP hD hS 4 rfl rfl 3 (by decide) (hts _ z_682) (fun _ h9 => h9) rfl (by decide +kernel) rfl rfl (Nat.le_of_ble_eq_true rfl) d_QueryReader_testOrComparison_56 (fun H locs hP hD hS => ?_)
            have hP : va_P (dC, dI) classes ([(qr, .inr (5, [.ref h0, .int (nI o)])), (h0, .inr (8, [.ref qb, .ref qu, .int uc21, .int ln, .int (nI n), .int (nI p22), .int pl])), (qb, .inl (cB, 4096, .inl bf)), (qu, .inl (cI, 4096, .inl ug21)), (kc, .inr (0, [.int 3, .null, .null, .ref v21, .null, .null]))] ++ va_pl ((L ++ ([] ++ N21))) f21) H := hP
            have hD : va_D A ([(qr, .inr (5, [.ref h0, .int (nI o)])), (h0, .inr (8, [.ref qb, .ref qu, .int uc21, .int ln, .int (nI n), .int (nI p22), .int pl])), (qb, .inl (cB, 4096, .inl bf)), (qu, .inl (cI, 4096, .inl ug21)), (kc, .inr (0, [.int 3, .null, .null, .ref v21, .null, .null]))] ++ va_pl ((L ++ ([] ++ N21))) f21) := hD
            refine lv_aload_n hx hb d_QueryReader_testOrComparison_59 rfl (lv_at hl 0 rfl) ?_
            have hG8 := hG21.mv (show p21 ≤ p22 by omega) (show p22 ≤ n by omega)
            have hL_kc := plD_new (X := [(qr, .inr (5, [.ref h0, .int (nI o)])), (h0, .inr (8, [.ref qb, .ref qu, .int uc21, .int ln, .int (nI n), .int (nI p22), .int pl])), (qb, .inl (cB, 4096, .inl bf)), (qu, .inl (cI, 4096, .inl ug21))]) hD
            have h0_kc : E21 kc = 0 := Classical.byContradiction (fun h => hL_kc (hG8.po.inL h))
            have hE_kc : E kc = 0 := hG8.ex.z h0_kc
            have hP := plP_push (X := [(qr, .inr (5, [.ref h0, .int (nI o)])), (h0, .inr (8, [.ref qb, .ref qu, .int uc21, .int ln, .int (nI n), .int (nI p22), .int pl])), (qb, .inl (cB, 4096, .inl bf)), (qu, .inl (cI, 4096, .inl ug21))]) hP hL_kc
            have hD := plD_push (X := [(qr, .inr (5, [.ref h0, .int (nI o)])), (h0, .inr (8, [.ref qb, .ref qu, .int uc21, .int ln, .int (nI n), .int (nI p22), .int pl])), (qb, .inl (cB, 4096, .inl bf)), (qu, .inl (cI, 4096, .inl ug21))]) hD hL_kc
            rw [List.append_assoc] at hP hD
            have hQ_kc : QPn cI cV E L f i n s.heap.size 10 (5 * (16 - o) + 2) 1 kc p22 (([] ++ N21) ++ [kc]) (va_up E21 kc 10) (va_up f21 kc (kE 3 none none (some v21) none none)) := by
              refine ⟨hE_kc, va_up_self _ _ _, by omega, by omega, fun lv hO b hb => ?_⟩
              have g0 : QG cI cV E lv L f i n i s.heap.size [] E lv f := (QG.rf hO hi9).mv (by omega) (by omega)
              obtain ⟨lv1, g1, c1⟩ := hQ21.x lv g0.po (b - 1) (by omega)
              have g1 := g0.tr g1 hzz21
              have g1 := g1.mv (show p21 ≤ p22 by omega) (show p22 ≤ n by omega)
              have hvs21 : v21 ≠ kc := fun e => by have h9 := hQ21.so; rw [e, h0_kc] at h9; cases h9
              exact ⟨va_up lv1 kc b, g1.add (q := kc) (s := 10) (b := b) (e := kE 3 none none (some v21) none none) h0_kc hL_kc hz_kc (by decide) (by decide) (CO.K (va_up_self _ _ _) ⟨_, _, _, _, _, _, rfl, ⟨(fun b h => (nomatch h)), (fun b h => (nomatch h)), (fun b9 h => by cases h; exact ⟨(va_up_ne _ _ hvs21).trans hQ21.so, by rw [va_up_ne _ _ hvs21, va_up_self]; have := c1; omega⟩), (fun b h => (nomatch h)), (fun b h => (nomatch h)), fun h => absurd h (by decide), (fun _ h => by cases h), fun _ _ _ h3 => absurd rfl h3⟩⟩), va_up_self _ _ _⟩
            have hP : va_P (dC, dI) classes ([(qr, .inr (5, [.ref h0, .int (nI o)])), (h0, .inr (8, [.ref qb, .ref qu, .int uc21, .int ln, .int (nI n), .int (nI p22), .int pl])), (qb, .inl (cB, 4096, .inl bf)), (qu, .inl (cI, 4096, .inl ug21))] ++ va_pl ((L ++ (([] ++ N21) ++ [kc]))) ((va_up f21 kc (kE 3 none none (some v21) none none)))) H := hP
            have hD : va_D A ([(qr, .inr (5, [.ref h0, .int (nI o)])), (h0, .inr (8, [.ref qb, .ref qu, .int uc21, .int ln, .int (nI n), .int (nI p22), .int pl])), (qb, .inl (cB, 4096, .inl bf)), (qu, .inl (cI, 4096, .inl ug21))] ++ va_pl ((L ++ (([] ++ N21) ++ [kc]))) ((va_up f21 kc (kE 3 none none (some v21) none none)))) := hD
            have hQr : QPn cI cV E L f i n s.heap.size 10 (5 * (16 - o) + 2) 1 kc p22 ((([] ++ N21) ++ [kc])) ((va_up E21 kc 10)) ((va_up f21 kc (kE 3 none none (some v21) none none))) := hQ_kc
            have hfin : (tcD bf n ok orL (opD bf n ok orL cmL qyL)) i = some (p22, tstC m21) := tcD_t hqr h_p22 hop
            have hdn : DNx KD 2 E ((va_up E21 kc 10)) ((va_up f21 kc (kE 3 none none (some v21) none none))) kc (tstC m21) := DNx.tst hd21 hnv21 hsv21 h0_kc
            refine w_same (fun hq => ?_)
            refine W.widen (k := 8 * (n - i) + 6) (n := 64 * (n - i) + 60) (by show ((0 + (8 * (p21 - i) + 0 - 7)) + 1) ≤ 8 * (n - i) + 6; omega) (by show ((0 + (64 * (p21 - i) + 0 - 60)) + 6) ≤ 64 * (n - i) + 60; omega) ?_
            refine vx_ret ?_
            exact W.aret (v := .ref kc) hx hb hr (Or.inl ⟨_, rfl⟩) (Or.inr ⟨_, rfl⟩) (fun t9 ht hW => ⟨⟨(kc, p22, (([] ++ N21) ++ [kc]), (va_up E21 kc 10), (va_up f21 kc (kE 3 none none (some v21) none none)), uc21, ug21), kc, rfl, ⟨hQr, _, hfin, hdn⟩, ⟨by rw [ht]; exact hP, va_K.moved hW.alike hK, hD⟩, by rw [ht]; exact ⟨hq.mono (by show ((0 + (8 * (p21 - i) + 0 - 7)) + 1) ≤ 8 * (p22 - i) + 0 - 6; omega) (by show ((0 + (64 * (p21 - i) + 0 - 60)) + 6) ≤ 64 * (p22 - i) + 0 - 54; omega), rfl⟩⟩, hS.F ht⟩) hS.2.2 d_QueryReader_testOrComparison_60
