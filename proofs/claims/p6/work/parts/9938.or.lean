theorem z_658 : (.methodLink "QueryBench$QueryReader" 156 ⟨"QueryBench$QueryReader", "and", "()LQueryBench$Condition;"⟩ : Cond) ∈ gtbl := gt_in 658 (by decide +kernel) (by decide +kernel)
theorem z_660 : (.instanceMethod ⟨"QueryBench$QueryReader", "and", "()LQueryBench$Condition;"⟩ : Cond) ∈ gtbl := gt_in 660 (by decide +kernel) (by decide +kernel)
theorem z_662 : (.methodLink "QueryBench$QueryReader" 169 ⟨"QueryBench$QueryReader", "basic", "()LQueryBench$Condition;"⟩ : Cond) ∈ gtbl := gt_in 662 (by decide +kernel) (by decide +kernel)
theorem z_664 : (.instanceMethod ⟨"QueryBench$QueryReader", "basic", "()LQueryBench$Condition;"⟩ : Cond) ∈ gtbl := gt_in 664 (by decide +kernel) (by decide +kernel)
theorem z_680 : (.fieldLink "QueryBench$QueryReader" 167 "QueryBench$Condition" "next" "LQueryBench$Condition;" : Cond) ∈ gtbl := gt_in 680 (by decide +kernel) (by decide +kernel)
set_option maxHeartbeats 4000000 in
set_option maxRecDepth 100000 in
/-- QueryReader.and -/
theorem c_QR_and (l : Launch) (hl9 : l.stackTraces = false) (K : Nat → Nat × Nat) (dC : Nat → ClassId) (dI : Nat → Nat → Nat) (cI cV : ClassId) (cB : ClassId) (h0 qb qu : Nat) (ln : Int32) (bf : Nat → Int32) (n qr : Nat) (hn0 : n ≤ 4096) (hbf : byR bf) (o : Nat) (ho : o ≤ 16) (ok : Bool) (orL : Nat → Option (Nat × CT)) (cmL : Nat → Option (Nat × OT)) (qyL : Nat → Option (Nat × Bool × QT)) (hok : ok = true ↔ o < 16) (HB : QCT l K dC dI cI cV cB h0 qb qu ln bf n qr y_QueryReader_basic (k_QueryReader_basic :: gtbl) [.ref qr] o (12 * (16 - o) + 19) (360 * (16 - o) + 570) 20 200 0 1 0 30 10 (5 * (16 - o) + 2) 1 0 (OKd KD 2 (baD bf n ok orL cmL qyL)) (NOd (baD bf n ok orL cmL qyL))) : QCT l K dC dI cI cV cB h0 qb qu ln bf n qr y_QueryReader_and (k_QueryReader_and :: gtbl) [.ref qr] o (12 * (16 - o) + 20) (360 * (16 - o) + 600) 20 200 0 0 0 24 10 (5 * (16 - o) + 3) 1 0 (OKd KD 2 (anD bf n ok orL cmL qyL)) (NOd (anD bf n ok orL cmL qyL)) := by
  intro sz E lv L f i uc pl ug hO hin
  refine vx_ofW (cc := b_QueryReader_and) (maxL := 5) (ret := (some (.object "QueryBench$Condition"))) (by decide) rfl ?_
  intro p e s m args below meth c s₁ B hml hex hv
  obtain ⟨rfl, ⟨hsz, hP, hK, hD0⟩, hN, hZ, hC, hV⟩ := hv
  have hx := B.exec
  have hb := B.bytes
  have hr := B.returns
  have hts0 := atoms_spec (ws := k_QueryReader_and :: gtbl) B.pre
  have hts := fun w h => hts0 w (List.mem_cons_of_mem _ h)
  have hown : s.vm.findClass R_QueryReader = some m.cls := findClass_of_methodNamed B.named
  have hlocks := B.notSynchronized
  subst hsz
  have hD := hD0.self (sz := s.heap.size)
  generalize hAe : va_A ([(qr, .inr (5, [.ref h0, .int (nI o)])), (h0, .inr (8, [.ref qb, .ref qu, .int uc, .int ln, .int (nI n), .int (nI i), .int pl])), (qb, .inl (cB, 4096, .inl bf)), (qu, .inl (cI, 4096, .inl ug))] ++ va_pl L f) s.heap.size = A at hD hZ hC ⊢
  have hA : ∀ q : Nat, s.heap.size ≤ q → A q := fun q h => by rw [← hAe]; exact Or.inr h
  have hS : va_S A s.heap s.heap [] := va_S.rf
  have hP : va_P (dC, dI) classes ([(qr, .inr (5, [.ref h0, .int (nI o)])), (h0, .inr (8, [.ref qb, .ref qu, .int uc, .int ln, .int (nI n), .int (nI i), .int pl])), (qb, .inl (cB, 4096, .inl bf)), (qu, .inl (cI, 4096, .inl ug))] ++ va_pl L f) s.heap := hP
  have hl := lv_entry ([.ref qr]) (n := 5) (Nat.le_of_ble_eq_true rfl)
  rw [lg_entry_eq]
  generalize (lg_sl ([.ref qr]) ++ List.replicate (5 - (lg_sl ([.ref qr])).length) Slot.unset).toArray = ls at hl ⊢
  have hl : lv_has ls 5 [(0, .ref qr)] := hl
  have hLz : ∀ a, a ∈ L → a < s.heap.size := fun a ha => va_pl_lt hP ha
  have hi9 : i ≤ n := by omega
  have hP : va_P (dC, dI) classes ([(qr, .inr (5, [.ref h0, .int (nI o)])), (h0, .inr (8, [.ref qb, .ref qu, .int uc, .int ln, .int (nI n), .int (nI i), .int pl])), (qb, .inl (cB, 4096, .inl bf)), (qu, .inl (cI, 4096, .inl ug))] ++ va_pl (L ++ []) f) s.heap := by rw [List.append_nil]; exact hP
  have hD : va_D A ([(qr, .inr (5, [.ref h0, .int (nI o)])), (h0, .inr (8, [.ref qb, .ref qu, .int uc, .int ln, .int (nI n), .int (nI i), .int pl])), (qb, .inl (cB, 4096, .inl bf)), (qu, .inl (cI, 4096, .inl ug))] ++ va_pl (L ++ []) f) := by rw [List.append_nil]; exact hD
  have hG0 : QG cI cV E lv L f i n i s.heap.size [] E lv f := QG.rf hO hi9
  refine lv_aload_n hx hb d_QueryReader_and_0 rfl (lv_at hl 0 rfl) ?_
  have hG21 := hG0.mv (show i ≤ i by omega) (show i ≤ n by omega)
  have hzz21 : s.heap.size ≤ s.heap.size := hS.1
  have hPc := hP.part (cx := [(qr, .inr (5, [.ref h0, .int (nI o)])), (h0, .inr (8, [.ref qb, .ref qu, .int uc, .int ln, .int (nI n), .int (nI i), .int pl])), (qb, .inl (cB, 4096, .inl bf)), (qu, .inl (cI, 4096, .inl ug))]) [0, 1, 2, 3] rfl
  have hDc := hD.part (cx := [(qr, .inr (5, [.ref h0, .int (nI o)])), (h0, .inr (8, [.ref qb, .ref qu, .int uc, .int ln, .int (nI n), .int (nI i), .int pl])), (qb, .inl (cB, 4096, .inl bf)), (qu, .inl (cI, 4096, .inl ug))]) [0, 1, 2, 3] (by decide) rfl
  have hFc := va_freeP (cx := [(qr, .inr (5, [.ref h0, .int (nI o)])), (h0, .inr (8, [.ref qb, .ref qu, .int uc, .int ln, .int (nI n), .int (nI i), .int pl])), (qb, .inl (cB, 4096, .inl bf)), (qu, .inl (cI, 4096, .inl ug))]) hD hS hA [0, 1, 2, 3] rfl
  have hKc := hK.sub (tys' := [(cB, .byte), (cI, .int), (cV, .object "QueryBench$Value")]) [0, 1, 2] rfl
  refine w_same (fun hq0 => ?_)
  refine vx_callr (vx_runV (As := []) (rest := []) ⟨hx, hb, hml, hown, hts⟩ (HB s.heap E lv (L ++ []) f i uc pl ug hG21.po (by omega)) (cwV 0 hts (gt_V (own := R_QueryReader) (C := R_QueryReader) (i := 169) (y := y_QueryReader_basic) i_QueryReader_basic z_662 z_664 (gt_sel (y := y_QueryReader_basic) (n := 2) (by decide +kernel)) w_4) rfl rfl rfl (by decide +kernel) ⟨by show 12 * (16 - o) + 19 + 1 ≤ 12 * (16 - o) + 20; omega, by show 8 + (3 + 11) + (360 * (16 - o) + 570) ≤ 360 * (16 - o) + 600; omega⟩) ⟨ml_blind, va_recv hK hP (ci := 5) (q0 := 0) rfl rfl, fun U hU hW => ⟨rfl, ⟨hU, by rw [hU]; exact hPc, va_K.moved hW.alike hKc, hDc.weaken (fun _ _ _ _ => trivial)⟩, hN.warm hW, by rw [hU]; exact ZX.moved' hW.alike (ZX.narrow' (ZX.kept' hZ hS.2.1) hFc), by rw [hU]; exact CE.call hC hS.2.1 hFc hW, va_AO.moved hW.alike hV⟩⟩ rfl rfl hl.1 rfl (lv_room (Nat.le_of_ble_eq_true rfl)) d_QueryReader_and_1 ⟨by show 0 + (8 * (n - i) + 20) ≤ 8 * (n - i) + 20; omega, by show 0 + (64 * (n - i) + 200) ≤ 64 * (n - i) + 200; omega⟩) hS (fun q _ h => hFc q h) hFc (fun q _ h => hFc q h) (fun En ce q9 ⟨ax, cx, px, gx, ox⟩ t9 H1 locs ht hvm hw hB hz1 hk1 hS hce hcv hcl => ?_) (fun ⟨w21, p21, N21, E21, f21, uc21, ug21⟩ v21 t9 H1 locs ht hvm hw hB hz1 hk1 hS => ?_)
  · obtain ⟨hEn, hP1, hK1, hD1⟩ := hB
    rw [ht] at hP1
    obtain ⟨hP, hD⟩ := va_joinP (wr := []) (rx := [(qr, .inr (5, [.ref h0, .int ox])), (h0, .inr (8, [.ref qb, .ref qu, .int cx, .int ln, .int (nI n), .int ax, .int px])), (qb, .inl (cB, 4096, .inl bf)), (qu, .inl (cI, 4096, .inl gx))]) (pl1 := va_pl ((L ++ [])) f) hP hD [0, 1, 2, 3] [] rfl rfl (by decide) (by decide) hk1 hFc hP1 hD1
    generalize H1 = H at hP hS hce ⊢
    have hP : va_P (dC, dI) classes ([(qr, .inr (5, [.ref h0, .int ox])), (h0, .inr (8, [.ref qb, .ref qu, .int cx, .int ln, .int (nI n), .int ax, .int px])), (qb, .inl (cB, 4096, .inl bf)), (qu, .inl (cI, 4096, .inl gx))] ++ va_pl ((L ++ [])) f) H := hP
    have hD : va_D A ([(qr, .inr (5, [.ref h0, .int ox])), (h0, .inr (8, [.ref qb, .ref qu, .int cx, .int ln, .int (nI n), .int ax, .int px])), (qb, .inl (cB, 4096, .inl bf)), (qu, .inl (cI, 4096, .inl gx))] ++ va_pl ((L ++ [])) f) := hD
    have hP := plP_cut (hP.part (cx := [(qr, .inr (5, [.ref h0, .int ox])), (h0, .inr (8, [.ref qb, .ref qu, .int cx, .int ln, .int (nI n), .int ax, .int px])), (qb, .inl (cB, 4096, .inl bf)), (qu, .inl (cI, 4096, .inl gx))]) [0, 1, 2, 3] rfl) hG21.on
    have hD := plD_cut (hD.part (cx := [(qr, .inr (5, [.ref h0, .int ox])), (h0, .inr (8, [.ref qb, .ref qu, .int cx, .int ln, .int (nI n), .int ax, .int px])), (qb, .inl (cB, 4096, .inl bf)), (qu, .inl (cI, 4096, .inl gx))]) [0, 1, 2, 3] (by decide) rfl) hG21.on
    have hno : (anD bf n ok orL cmL qyL) i = none := anD_0 hw
    exact vx_out (fun x hx => (hex x hx).elim) hlocks hce hcv hcl (fun t9 ht2 ha => ⟨(ax, cx, px, gx, ox), hno, ⟨hEn, by rw [ht2]; exact hP, va_K.moved ha hK, hD⟩, hS.F ht2⟩) hS.2.2 (by show 0 + (8 * (n - i) + 20) ≤ 8 * (n - i) + 20; omega) (by show 0 + (64 * (n - i) + 200) ≤ 64 * (n - i) + 200; omega)
  · obtain ⟨⟨hP1, hK1, hD1⟩, hz9, ha9⟩ := hB
    rw [ht] at hP1
    rw [ht] at hz9
    have ha9 : v21 = w21 := ha9
    subst ha9
    have hq0 : szk s.heap H1 (0 + (8 * (p21 - i) + 0 - 1)) (0 + (64 * (p21 - i) + 0 - 30)) := (hq0.trans hz9).mono (Nat.le_refl _) (Nat.le_refl _)
    refine w_tight hq0 ?_
    obtain ⟨hP, hD⟩ := va_joinP (wr := []) (rx := [(qr, .inr (5, [.ref h0, .int (nI o)])), (h0, .inr (8, [.ref qb, .ref qu, .int uc21, .int ln, .int (nI n), .int (nI p21), .int pl])), (qb, .inl (cB, 4096, .inl bf)), (qu, .inl (cI, 4096, .inl ug21))]) (pl1 := va_pl (((L ++ []) ++ N21)) f21) hP hD [0, 1, 2, 3] [] rfl rfl (by decide) (by decide) hk1 hFc hP1 hD1
    generalize H1 = H at hP hS hq0 ⊢
    have hP : va_P (dC, dI) classes ([(qr, .inr (5, [.ref h0, .int (nI o)])), (h0, .inr (8, [.ref qb, .ref qu, .int uc21, .int ln, .int (nI n), .int (nI p21), .int pl])), (qb, .inl (cB, 4096, .inl bf)), (qu, .inl (cI, 4096, .inl ug21))] ++ va_pl (((L ++ []) ++ N21)) f21) H := hP
    have hD : va_D A ([(qr, .inr (5, [.ref h0, .int (nI o)])), (h0, .inr (8, [.ref qb, .ref qu, .int uc21, .int ln, .int (nI n), .int (nI p21), .int pl])), (qb, .inl (cB, 4096, .inl bf)), (qu, .inl (cI, 4096, .inl ug21))] ++ va_pl (((L ++ []) ++ N21)) f21) := hD
    obtain ⟨hw, m21, hf21, hd21⟩ := hw
    have hf21 : (baD bf n ok orL cmL qyL) i = some (p21, m21) := hf21
    have hd21 : DNx KD 2 E E21 f21 v21 m21 := hd21
    have hQ21 : QPn cI cV E (L ++ []) f i n _ 10 (5 * (16 - o) + 2) 1 v21 p21 N21 E21 f21 := hw
    obtain ⟨lv21, hg21, hlv21⟩ := hQ21.x lv hG21.po _ (Nat.le_refl _)
    have hex21 := hg21.ex
    have hge21 := hg21.ge hQ21.new (by rw [hQ21.so]; decide)
    have hkp21 : KPx E E21 f f21 := KPx.of hg21 hG21.po
    have hnv21 : E v21 = 0 := hQ21.new
    have hsv21 : ¬ E21 v21 = 0 := by rw [hQ21.so]; decide
    have hG21 := hG21.tr hg21 hzz21
    obtain ⟨ha21, hb21⟩ := hQ21.num
    have ha21 : i + 1 ≤ p21 := ha21
    have hb21 : p21 ≤ n := hb21
    rw [List.append_assoc] at hP hD
    have hP : va_P (dC, dI) classes ([(qr, .inr (5, [.ref h0, .int (nI o)])), (h0, .inr (8, [.ref qb, .ref qu, .int uc21, .int ln, .int (nI n), .int (nI p21), .int pl])), (qb, .inl (cB, 4096, .inl bf)), (qu, .inl (cI, 4096, .inl ug21))] ++ va_pl ((L ++ ([] ++ N21))) f21) H := hP
    have hD : va_D A ([(qr, .inr (5, [.ref h0, .int (nI o)])), (h0, .inr (8, [.ref qb, .ref qu, .int uc21, .int ln, .int (nI n), .int (nI p21), .int pl])), (qb, .inl (cB, 4096, .inl bf)), (qu, .inl (cI, 4096, .inl ug21))] ++ va_pl ((L ++ ([] ++ N21))) f21) := hD
    have hl0 : (anD bf n ok orL cmL qyL) i = (liD bf n (baD bf n ok orL cmL qyL) 38 (4098 - 0) p21).map (fun r => (r.1, allC (m21 :: r.2))) := anD_b hf21
    refine lv_astore_n (lv' := [(1, .ref v21), (0, .ref qr)]) hx hb d_QueryReader_and_4 rfl hl (by decide) rfl (fun ls hl => ?_)
    refine lv_aload_n hx hb d_QueryReader_and_5 rfl (lv_at hl 1 rfl) ?_
    refine va_get (D := (dC, dI)) (ci := 5) (v := .ref h0) (C := R_QueryReader) (T := F_QueryReader) (N := 2) hx hb hts in_QueryReader hown hK hP 0 rfl rfl 0 (by decide) (hts _ w_100) (fun _ h9 => h9) rfl d_QueryReader_and_6 ?_
    have hPc := hP.sub (ws' := [(h0, .inr (8, [.ref qb, .ref qu, .int uc21, .int ln, .int (nI n), .int (nI p21), .int pl])), (qb, .inl (cB, 4096, .inl bf))]) [1, 2] rfl
    have hDc := hD.sub (ws' := [(h0, .inr (8, [.ref qb, .ref qu, .int uc21, .int ln, .int (nI n), .int (nI p21), .int pl])), (qb, .inl (cB, 4096, .inl bf))]) [1, 2] (by decide) rfl
    have hFc := va_free (wc := [(h0, .inr (8, [.ref qb, .ref qu, .int uc21, .int ln, .int (nI n), .int (nI p21), .int pl])), (qb, .inl (cB, 4096, .inl bf))]) hD hS hA [1, 2] rfl
    have hKc := hK.sub (tys' := [(cB, .byte)]) [0] rfl
    refine va_calli (va_runV (As := []) (rest := []) ⟨hx, hb, hml, hown, hts⟩ (c_Tape_here l dC dI cB h0 qb H (.ref qu) uc21 ln pl bf n p21 hn0 (by omega)) (cwV 0 hts (gt_V (own := R_QueryReader) (C := R_Tape) (i := 19) (y := y_Tape_here) i_Tape_here z_534 w_363 w_364 w_2) rfl rfl rfl (by decide +kernel) ⟨by show 0 + 1 ≤ 12 * (16 - o) + 20; omega, by show 8 + (1 + 11) + (0) ≤ 360 * (16 - o) + 600; omega⟩) ⟨mp_blind, va_recv hK hP (ci := 8) (q0 := 1) rfl rfl, fun U hU hW => ⟨rfl, hU, by rw [hU]; exact hPc, va_K.moved hW.alike hKc, hDc.weaken (fun _ _ _ _ => trivial)⟩⟩ rfl rfl hl.1 rfl (lv_room (Nat.le_of_ble_eq_true rfl)) d_QueryReader_and_9 ⟨by show (0 + (8 * (p21 - i) + 0 - 1)) + (0) ≤ 8 * (n - i) + 20; omega, by show (0 + (64 * (p21 - i) + 0 - 30)) + (0) ≤ 64 * (n - i) + 200; omega⟩) hS (fun q _ h => hFc q h) hFc (fun h22 _u t9 H1 locs ht hvm hw hB hz1 hk1 hS => ?_)
    obtain ⟨hP1, hK1, hD1⟩ := hB
    rw [ht] at hP1
    obtain ⟨hP, hD⟩ := va_joinQ (wr := [(qr, .inr (5, [.ref h0, .int (nI o)])), (qu, .inl (cI, 4096, .inl ug21))]) (w1 := [(h0, .inr (8, [.ref qb, .ref qu, .int uc21, .int ln, .int (nI n), .int (nI p21), .int pl])), (qb, .inl (cB, 4096, .inl bf))]) hP hD [1, 2] [0, 3] rfl rfl (by decide) (by decide) hk1 hFc hP1 hD1
    generalize H1 = H at hP hS ⊢
    have hP : va_P (dC, dI) classes ([(qr, .inr (5, [.ref h0, .int (nI o)])), (qu, .inl (cI, 4096, .inl ug21)), (h0, .inr (8, [.ref qb, .ref qu, .int uc21, .int ln, .int (nI n), .int (nI p21), .int pl])), (qb, .inl (cB, 4096, .inl bf))] ++ va_pl ((L ++ ([] ++ N21))) f21) H := hP
    have hD : va_D A ([(qr, .inr (5, [.ref h0, .int (nI o)])), (qu, .inl (cI, 4096, .inl ug21)), (h0, .inr (8, [.ref qb, .ref qu, .int uc21, .int ln, .int (nI n), .int (nI p21), .int pl])), (qb, .inl (cB, 4096, .inl bf))] ++ va_pl ((L ++ ([] ++ N21))) f21) := hD
    have hP := hP.part (cx := [(qr, .inr (5, [.ref h0, .int (nI o)])), (h0, .inr (8, [.ref qb, .ref qu, .int uc21, .int ln, .int (nI n), .int (nI p21), .int pl])), (qb, .inl (cB, 4096, .inl bf)), (qu, .inl (cI, 4096, .inl ug21))]) [0, 2, 3, 1] rfl
    have hD := hD.part (cx := [(qr, .inr (5, [.ref h0, .int (nI o)])), (h0, .inr (8, [.ref qb, .ref qu, .int uc21, .int ln, .int (nI n), .int (nI p21), .int pl])), (qb, .inl (cB, 4096, .inl bf)), (qu, .inl (cI, 4096, .inl ug21))]) [0, 2, 3, 1] (by decide) rfl
    have h_h22 : h22 = hereV bf n p21 := hw
    refine lv_bipush (v := 38) hx hb d_QueryReader_and_12 (by decide) ?_
    refine lv_icmp_eq (tgt := 19) hx hb d_QueryReader_and_14 (by decide) (fun c14 => ?_) (fun c14 => ?_)
    · have hC0 : CI cI cV E L f i n s.heap.size 10 (5 * (16 - o) + 2) v21 v21 p21 ([] ++ N21) E21 f21 := CI.start (hQ21.up (dm2 := 1) (by omega) (by omega) hzz21 (by omega) (by omega))
      refine va_new (ci := 0) (fs := [.int 0, .null, .null, .null, .null, .null]) (C := R_Condition) (T := F_Condition) (N := 6) hx hb hts in_Condition t_Condition t_Condition_ok hown (hts _ z_670) (hts _ z_671) (hts _ z_26) hK hP hD hS hA rfl (fun j hj => by rcases (show j = 0 ∨ j = 1 ∨ j = 2 ∨ j = 3 ∨ j = 4 ∨ j = 5 by omega) with rfl | rfl | rfl | rfl | rfl | rfl <;> rfl) (by show (0 + (8 * (p21 - i) + 0 - 1)) + 1 ≤ 8 * (n - i) + 20; omega) (by show (0 + (64 * (p21 - i) + 0 - 30)) + 6 ≤ 64 * (n - i) + 200; omega) d_QueryReader_and_19 (fun kc H hP hD hS => ?_)
      have hz_kc := newB (X := [(qr, .inr (5, [.ref h0, .int (nI o)])), (h0, .inr (8, [.ref qb, .ref qu, .int uc21, .int ln, .int (nI n), .int (nI p21), .int pl])), (qb, .inl (cB, 4096, .inl bf)), (qu, .inl (cI, 4096, .inl ug21))]) hAe hD (fun k x hk => by rcases k with _ | _ | _ | _ | k; (· cases hk; exact ⟨0, _, rfl⟩); (· cases hk; exact ⟨1, _, rfl⟩); (· cases hk; exact ⟨2, _, rfl⟩); (· cases hk; exact ⟨3, _, rfl⟩); (· cases hk))
      have hP := hP.swap
      have hD := hD.swap
      have hP : va_P (dC, dI) classes ([(qr, .inr (5, [.ref h0, .int (nI o)])), (h0, .inr (8, [.ref qb, .ref qu, .int uc21, .int ln, .int (nI n), .int (nI p21), .int pl])), (qb, .inl (cB, 4096, .inl bf)), (qu, .inl (cI, 4096, .inl ug21)), (kc, .inr (0, [.int 0, .null, .null, .null, .null, .null]))] ++ va_pl ((L ++ ([] ++ N21))) f21) H := hP
      have hD : va_D A ([(qr, .inr (5, [.ref h0, .int (nI o)])), (h0, .inr (8, [.ref qb, .ref qu, .int uc21, .int ln, .int (nI n), .int (nI p21), .int pl])), (qb, .inl (cB, 4096, .inl bf)), (qu, .inl (cI, 4096, .inl ug21)), (kc, .inr (0, [.int 0, .null, .null, .null, .null, .null]))] ++ va_pl ((L ++ ([] ++ N21))) f21) := hD
      refine lv_dup hx hb d_QueryReader_and_22 rfl ?_
      refine lv_iconst (v := 1) hx hb d_QueryReader_and_23 (by decide) ?_
      have hPc := hP.sub (ws' := [(kc, .inr (0, [.int 0, .null, .null, .null, .null, .null]))]) [4] rfl
      have hDc := hD.sub (ws' := [(kc, .inr (0, [.int 0, .null, .null, .null, .null, .null]))]) [4] (by decide) rfl
      have hFc := va_free (wc := [(kc, .inr (0, [.int 0, .null, .null, .null, .null, .null]))]) hD hS hA [4] rfl
      have hKc := hK.sub (tys' := []) [] rfl
      refine w_same (fun hq0 => ?_)
      refine va_callv (va_runI (As := [.int 1]) (rest := [.ref kc]) ⟨hx, hb, hml, hown, hts⟩ (c_Condition_init l dC dI H kc 1) (cwI 1 hts (gt_code i_Condition_init) rfl rfl rfl (hts _ z_26) (hts _ z_672) (hts _ z_673) rfl (by decide +kernel) ⟨by show 1 + 1 ≤ 12 * (16 - o) + 20; omega, by show 8 + (2 + 11) + (20) ≤ 360 * (16 - o) + 600; omega⟩) ⟨mp_blind, fun U hU hW => ⟨rfl, hU, by rw [hU]; exact hPc, va_K.moved hW.alike hKc, hDc.weaken (fun _ _ _ _ => trivial)⟩⟩ rfl rfl hl.1 rfl (lv_room (Nat.le_of_ble_eq_true rfl)) d_QueryReader_and_24 ⟨by show ((0 + (8 * (p21 - i) + 0 - 1)) + 1) + (0) ≤ 8 * (n - i) + 20; omega, by show ((0 + (64 * (p21 - i) + 0 - 30)) + 6) + (0) ≤ 64 * (n - i) + 200; omega⟩) hS (fun q _ h => hFc q h) hFc (fun _u t9 H1 locs ht hvm hw hB hz1 hk1 hS => ?_)
      obtain ⟨⟨hP1, hK1, hD1⟩, hz9⟩ := hB
      rw [ht] at hP1
      rw [ht] at hz9
      have hq0 : szk s.heap H1 (((0 + (8 * (p21 - i) + 0 - 1)) + 1)) (((0 + (64 * (p21 - i) + 0 - 30)) + 6)) := (hq0.trans hz9).mono (Nat.le_of_eq (Nat.add_zero _)) (Nat.le_of_eq (Nat.add_zero _))
      refine w_tight hq0 ?_
      obtain ⟨hP, hD⟩ := va_joinQ (wr := [(qr, .inr (5, [.ref h0, .int (nI o)])), (h0, .inr (8, [.ref qb, .ref qu, .int uc21, .int ln, .int (nI n), .int (nI p21), .int pl])), (qb, .inl (cB, 4096, .inl bf)), (qu, .inl (cI, 4096, .inl ug21))]) (w1 := [(kc, .inr (0, [.int 1, .null, .null, .null, .null, .null]))]) hP hD [4] [0, 1, 2, 3] rfl rfl (by decide) (by decide) hk1 hFc hP1 hD1
      generalize H1 = H at hP hS hq0 ⊢
      have hP : va_P (dC, dI) classes ([(qr, .inr (5, [.ref h0, .int (nI o)])), (h0, .inr (8, [.ref qb, .ref qu, .int uc21, .int ln, .int (nI n), .int (nI p21), .int pl])), (qb, .inl (cB, 4096, .inl bf)), (qu, .inl (cI, 4096, .inl ug21)), (kc, .inr (0, [.int 1, .null, .null, .null, .null, .null]))] ++ va_pl ((L ++ ([] ++ N21))) f21) H := hP
      have hD : va_D A ([(qr, .inr (5, [.ref h0, .int (nI o)])), (h0, .inr (8, [.ref qb, .ref qu, .int uc21, .int ln, .int (nI n), .int (nI p21), .int pl])), (qb, .inl (cB, 4096, .inl bf)), (qu, .inl (cI, 4096, .inl ug21)), (kc, .inr (0, [.int 1, .null, .null, .null, .null, .null]))] ++ va_pl ((L ++ ([] ++ N21))) f21) := hD
      refine lv_astore_n (lv' := [(2, .ref kc), (1, .ref v21), (0, .ref qr)]) hx hb d_QueryReader_and_27 rfl hl (by decide) rfl (fun ls hl => ?_)
      refine lv_aload_n hx hb d_QueryReader_and_28 rfl (lv_at hl 0 rfl) ?_
      refine lv_aload_n hx hb d_QueryReader_and_29 rfl (lv_at hl 1 rfl) ?_
      refine va_put (D := (dC, dI)) (ci := 0) (v := .ref v21) (ty := .object "QueryBench$Condition") (C := R_Condition) (T := F_Condition) (N := 6) hx hb hts in_Condition t_Condition t_Condition_ok n_Condition hown hK hP hD hS 4 rfl rfl 1 (by decide) (hts _ z_678) (fun _ h9 => h9) rfl (by decide +kernel) rfl rfl (Nat.le_of_ble_eq_true rfl) d_QueryReader_and_30 (fun H locs hP hD hS => ?_)
      have hP : va_P (dC, dI) classes ([(qr, .inr (5, [.ref h0, .int (nI o)])), (h0, .inr (8, [.ref qb, .ref qu, .int uc21, .int ln, .int (nI n), .int (nI p21), .int pl])), (qb, .inl (cB, 4096, .inl bf)), (qu, .inl (cI, 4096, .inl ug21)), (kc, .inr (0, [.int 1, .ref v21, .null, .null, .null, .null]))] ++ va_pl ((L ++ ([] ++ N21))) f21) H := hP
      have hD : va_D A ([(qr, .inr (5, [.ref h0, .int (nI o)])), (h0, .inr (8, [.ref qb, .ref qu, .int uc21, .int ln, .int (nI n), .int (nI p21), .int pl])), (qb, .inl (cB, 4096, .inl bf)), (qu, .inl (cI, 4096, .inl ug21)), (kc, .inr (0, [.int 1, .ref v21, .null, .null, .null, .null]))] ++ va_pl ((L ++ ([] ++ N21))) f21) := hD
      refine lv_aload_n hx hb d_QueryReader_and_33 rfl (lv_at hl 1 rfl) ?_
      refine lv_astore_n (lv' := [(3, .ref v21), (2, .ref kc), (1, .ref v21), (0, .ref qr)]) hx hb d_QueryReader_and_34 rfl hl (by decide) rfl (fun ls hl => ?_)
      refine lv_iconst (v := 0) hx hb d_QueryReader_and_35 (by decide) ?_
      refine lv_istore (lv' := [(4, .int 0), (3, .ref v21), (2, .ref kc), (1, .ref v21), (0, .ref qr)]) hx hb d_QueryReader_and_36 hl (by decide) rfl (fun ls hl => ?_)
      refine w_same (fun hq => ?_)
      refine W.widen (k := 8 * (n - i) + 20) (n := 64 * (n - i) + 200) (by show ((0 + (8 * (p21 - i) + 0 - 1)) + 1) ≤ 8 * (n - i) + 20; omega) (by show ((0 + (64 * (p21 - i) + 0 - 30)) + 6) ≤ 64 * (n - i) + 200; omega) ?_
      refine w_loopG (D := (dC, dI)) (cl := classes) (A := A) (H0 := s.heap) (nL := 5) 38 (σ := Nat × Nat × Nat × List Nat × (Nat → Nat) × (Nat → va_E) × Int32 × (Nat → Int32)) (fun ⟨m9, y, p, N, E1, f1, uc, ug⟩ H => m9 ≤ 4096 ∧ m9 + i + 1 ≤ p ∧ CI cI cV E L f i n s.heap.size 10 (5 * (16 - o) + 2) v21 y p N E1 f1 ∧ szk s.heap H (8 * (p - i)) (64 * (p - i) - 24) ∧ SLd KD 2 (liD bf n (baD bf n ok orL cmL qyL) 38 (4098 - 0) p21) (liD bf n (baD bf n ok orL cmL qyL) 38 (4098 - m9) p) E E1 f1 v21 y m21 m9) (fun ⟨m9, y, p, N, E1, f1, uc, ug⟩ => 4097 - m9) (fun ⟨m9, y, p, N, E1, f1, uc, ug⟩ => [(qr, .inr (5, [.ref h0, .int (nI o)])), (h0, .inr (8, [.ref qb, .ref qu, .int uc, .int ln, .int (nI n), .int (nI p), .int pl])), (qb, .inl (cB, 4096, .inl bf)), (qu, .inl (cI, 4096, .inl ug)), (kc, .inr (0, [.int 1, .ref v21, .null, .null, .null, .null]))] ++ va_pl ((L ++ N)) f1) (fun ⟨m9, y, p, N, E1, f1, uc, ug⟩ => [(0, .ref qr), (1, .ref v21), (2, .ref kc), (3, .ref y), (4, .int (nI m9))]) ?_ (0, v21, p21, ([] ++ N21), E21, f21, uc21, ug21) ⟨Nat.zero_le _, (by show 0 + i + 1 ≤ p21; omega), hC0, hq.mono (by show ((0 + (8 * (p21 - i) + 0 - 1)) + 1) ≤ 8 * (p21 - i); omega) (by show ((0 + (64 * (p21 - i) + 0 - 30)) + 6) ≤ 64 * (p21 - i) - 24; omega), SLd.start hd21 (by decide)⟩ hP hD hS (lv_sub hl [4, 3, 2, 1, 0] rfl)
      rintro ⟨m9, y, p, N, E1, f1, uc, ug⟩ H locs ls hI ih hP hD hS hl
      obtain ⟨hm9, hp1, hCh, hIz, hLf⟩ := hI
      have hm9 : m9 ≤ 4096 := hm9
      have hp1 : m9 + i + 1 ≤ p := hp1
      have hLf : SLd KD 2 (liD bf n (baD bf n ok orL cmL qyL) 38 (4098 - 0) p21) (liD bf n (baD bf n ok orL cmL qyL) 38 (4098 - m9) p) E E1 f1 v21 y m21 m9 := hLf
      have hCh : CI cI cV E L f i n s.heap.size 10 (5 * (16 - o) + 2) v21 y p N E1 f1 := hCh
      have hp2 := hCh.le
      have hmL : m9 ≤ 4095 := by omega
      have hIz : szk s.heap H (8 * (p - i)) (64 * (p - i) - 24) := hIz
      refine w_tight hIz ?_
      obtain ⟨lv1, hG, hlx, hly⟩ := hCh.x lv hO _ (Nat.le_refl _)
      have hP : va_P (dC, dI) classes ([(qr, .inr (5, [.ref h0, .int (nI o)])), (h0, .inr (8, [.ref qb, .ref qu, .int uc, .int ln, .int (nI n), .int (nI p), .int pl])), (qb, .inl (cB, 4096, .inl bf)), (qu, .inl (cI, 4096, .inl ug)), (kc, .inr (0, [.int 1, .ref v21, .null, .null, .null, .null]))] ++ va_pl ((L ++ N)) f1) H := hP
      have hD : va_D A ([(qr, .inr (5, [.ref h0, .int (nI o)])), (h0, .inr (8, [.ref qb, .ref qu, .int uc, .int ln, .int (nI n), .int (nI p), .int pl])), (qb, .inl (cB, 4096, .inl bf)), (qu, .inl (cI, 4096, .inl ug)), (kc, .inr (0, [.int 1, .ref v21, .null, .null, .null, .null]))] ++ va_pl ((L ++ N)) f1) := hD
      have hl : lv_has ls 5 [(0, .ref qr), (1, .ref v21), (2, .ref kc), (3, .ref y), (4, .int (nI m9))] := hl
      refine lv_iload hx hb d_QueryReader_and_38 (lv_at hl 4 rfl) ?_
      refine lv_sipush (v := 4096) hx hb d_QueryReader_and_40 (by decide) ?_
      refine lv_icmp_ge (tgt := 86) hx hb d_QueryReader_and_43 (by decide) (fun c43 => ?_) (fun c43 => ?_)
      · rw [show (4096 : Int32) = nI 4096 from rfl, nI_leI (by omega) (by omega)] at c43
        exact absurd c43 (by omega)
      · refine lv_aload_n hx hb d_QueryReader_and_46 rfl (lv_at hl 0 rfl) ?_
        refine va_get (D := (dC, dI)) (ci := 5) (v := .ref h0) (C := R_QueryReader) (T := F_QueryReader) (N := 2) hx hb hts in_QueryReader hown hK hP 0 rfl rfl 0 (by decide) (hts _ w_100) (fun _ h9 => h9) rfl d_QueryReader_and_47 ?_
        refine lv_bipush (v := 38) hx hb d_QueryReader_and_50 (by decide) ?_
        have hPc := hP.sub (ws' := [(h0, .inr (8, [.ref qb, .ref qu, .int uc, .int ln, .int (nI n), .int (nI p), .int pl])), (qb, .inl (cB, 4096, .inl bf))]) [1, 2] rfl
        have hDc := hD.sub (ws' := [(h0, .inr (8, [.ref qb, .ref qu, .int uc, .int ln, .int (nI n), .int (nI p), .int pl])), (qb, .inl (cB, 4096, .inl bf))]) [1, 2] (by decide) rfl
        have hFc := va_free (wc := [(h0, .inr (8, [.ref qb, .ref qu, .int uc, .int ln, .int (nI n), .int (nI p), .int pl])), (qb, .inl (cB, 4096, .inl bf))]) hD hS hA [1, 2] rfl
        have hKc := hK.sub (tys' := [(cB, .byte)]) [0] rfl
        refine va_calli (va_runV (As := [.int 38]) (rest := []) ⟨hx, hb, hml, hown, hts⟩ (c_Tape_takeIf l dC dI cB h0 qb H (.ref qu) uc ln pl bf n p 38 hn0 (by omega)) (cwV 1 hts (gt_V (own := R_QueryReader) (C := R_Tape) (i := 58) (y := y_Tape_takeIf) i_Tape_takeIf z_589 z_393 z_394 w_2) rfl rfl rfl (by decide +kernel) ⟨by show 1 + 1 ≤ 12 * (16 - o) + 20; omega, by show 8 + (2 + 11) + (20) ≤ 360 * (16 - o) + 600; omega⟩) ⟨mp_blind, va_recv hK hP (ci := 8) (q0 := 1) rfl rfl, fun U hU hW => ⟨rfl, hU, by rw [hU]; exact hPc, va_K.moved hW.alike hKc, hDc.weaken (fun _ _ _ _ => trivial)⟩⟩ rfl rfl hl.1 rfl (lv_room (Nat.le_of_ble_eq_true rfl)) d_QueryReader_and_52 ⟨by show (8 * (p - i)) + (0) ≤ 8 * (n - i) + 20; omega, by show (64 * (p - i) - 24) + (0) ≤ 64 * (n - i) + 200; omega⟩) hS (fun q _ h => hFc q h) hFc (fun r23 u23 t9 H1 locs ht hvm hw hB hz1 hk1 hS => ?_)
        obtain ⟨hP1, hK1, hD1⟩ := hB
        rw [ht] at hP1
        obtain ⟨hP, hD⟩ := va_joinQ (wr := [(qr, .inr (5, [.ref h0, .int (nI o)])), (qu, .inl (cI, 4096, .inl ug)), (kc, .inr (0, [.int 1, .ref v21, .null, .null, .null, .null]))]) (w1 := [(h0, .inr (8, [.ref qb, .ref qu, .int uc, .int ln, .int (nI n), .int (nI u23), .int pl])), (qb, .inl (cB, 4096, .inl bf))]) hP hD [1, 2] [0, 3, 4] rfl rfl (by decide) (by decide) hk1 hFc hP1 hD1
        generalize H1 = H at hP hS ⊢
        have hP : va_P (dC, dI) classes ([(qr, .inr (5, [.ref h0, .int (nI o)])), (qu, .inl (cI, 4096, .inl ug)), (kc, .inr (0, [.int 1, .ref v21, .null, .null, .null, .null])), (h0, .inr (8, [.ref qb, .ref qu, .int uc, .int ln, .int (nI n), .int (nI u23), .int pl])), (qb, .inl (cB, 4096, .inl bf))] ++ va_pl ((L ++ N)) f1) H := hP
        have hD : va_D A ([(qr, .inr (5, [.ref h0, .int (nI o)])), (qu, .inl (cI, 4096, .inl ug)), (kc, .inr (0, [.int 1, .ref v21, .null, .null, .null, .null])), (h0, .inr (8, [.ref qb, .ref qu, .int uc, .int ln, .int (nI n), .int (nI u23), .int pl])), (qb, .inl (cB, 4096, .inl bf))] ++ va_pl ((L ++ N)) f1) := hD
        have hP := hP.part (cx := [(qr, .inr (5, [.ref h0, .int (nI o)])), (h0, .inr (8, [.ref qb, .ref qu, .int uc, .int ln, .int (nI n), .int (nI u23), .int pl])), (qb, .inl (cB, 4096, .inl bf)), (qu, .inl (cI, 4096, .inl ug)), (kc, .inr (0, [.int 1, .ref v21, .null, .null, .null, .null]))]) [0, 3, 4, 1, 2] rfl
        have hD := hD.part (cx := [(qr, .inr (5, [.ref h0, .int (nI o)])), (h0, .inr (8, [.ref qb, .ref qu, .int uc, .int ln, .int (nI n), .int (nI u23), .int pl])), (qb, .inl (cB, 4096, .inl bf)), (qu, .inl (cI, 4096, .inl ug)), (kc, .inr (0, [.int 1, .ref v21, .null, .null, .null, .null]))]) [0, 3, 4, 1, 2] (by decide) rfl
        rcases hw with ⟨ht23, hr23, hu23⟩ | ⟨ht23, hr23, hu23⟩
        · have hu23 : u23 = p + 1 := hu23
          subst hr23
          rw [hu23] at hP hD
          have hl23 := here_lc ht23 (by decide)
          have hP : va_P (dC, dI) classes ([(qr, .inr (5, [.ref h0, .int (nI o)])), (h0, .inr (8, [.ref qb, .ref qu, .int uc, .int ln, .int (nI n), .int (nI (p + 1)), .int pl])), (qb, .inl (cB, 4096, .inl bf)), (qu, .inl (cI, 4096, .inl ug)), (kc, .inr (0, [.int 1, .ref v21, .null, .null, .null, .null]))] ++ va_pl ((L ++ N)) f1) H := hP
          have hD : va_D A ([(qr, .inr (5, [.ref h0, .int (nI o)])), (h0, .inr (8, [.ref qb, .ref qu, .int uc, .int ln, .int (nI n), .int (nI (p + 1)), .int pl])), (qb, .inl (cB, 4096, .inl bf)), (qu, .inl (cI, 4096, .inl ug)), (kc, .inr (0, [.int 1, .ref v21, .null, .null, .null, .null]))] ++ va_pl ((L ++ N)) f1) := hD
          refine lv_if_eq (tgt := 86) hx hb d_QueryReader_and_55 (by decide) (fun h => absurd h (by decide)) (fun _ => ?_)
          refine lv_aload_n hx hb d_QueryReader_and_58 rfl (lv_at hl 0 rfl) ?_
          refine va_get (D := (dC, dI)) (ci := 5) (v := .ref h0) (C := R_QueryReader) (T := F_QueryReader) (N := 2) hx hb hts in_QueryReader hown hK hP 0 rfl rfl 0 (by decide) (hts _ w_100) (fun _ h9 => h9) rfl d_QueryReader_and_59 ?_
          refine lv_bipush (v := 38) hx hb d_QueryReader_and_62 (by decide) ?_
          have hPc := hP.sub (ws' := [(h0, .inr (8, [.ref qb, .ref qu, .int uc, .int ln, .int (nI n), .int (nI (p + 1)), .int pl])), (qb, .inl (cB, 4096, .inl bf))]) [1, 2] rfl
          have hDc := hD.sub (ws' := [(h0, .inr (8, [.ref qb, .ref qu, .int uc, .int ln, .int (nI n), .int (nI (p + 1)), .int pl])), (qb, .inl (cB, 4096, .inl bf))]) [1, 2] (by decide) rfl
          have hFc := va_free (wc := [(h0, .inr (8, [.ref qb, .ref qu, .int uc, .int ln, .int (nI n), .int (nI (p + 1)), .int pl])), (qb, .inl (cB, 4096, .inl bf))]) hD hS hA [1, 2] rfl
          have hKc := hK.sub (tys' := [(cB, .byte)]) [0] rfl
          refine w_same (fun hq0 => ?_)
          refine vx_callv (vx_runV (As := [.int 38]) (rest := []) ⟨hx, hb, hml, hown, hts⟩ (c_Tape_take l hl9 dC dI cB h0 qb H (.ref qu) uc ln pl bf n ((p + 1)) 38 hn0 (by omega)) (cwV 1 hts (gt_V (own := R_QueryReader) (C := R_Tape) (i := 164) (y := y_Tape_take) i_Tape_take z_598 w_437 w_438 w_2) rfl rfl rfl (by decide +kernel) ⟨by show 9 + 1 ≤ 12 * (16 - o) + 20; omega, by show 8 + (2 + 11) + (131) ≤ 360 * (16 - o) + 600; omega⟩) ⟨mx_blind, va_recv hK hP (ci := 8) (q0 := 1) rfl rfl, fun U hU hW => ⟨rfl, ⟨hU, by rw [hU]; exact hPc, va_K.moved hW.alike hKc, hDc.weaken (fun _ _ _ _ => trivial)⟩, hN.warm hW, by rw [hU]; exact ZX.moved' hW.alike (ZX.narrow' (ZX.kept' hZ hS.2.1) hFc)⟩⟩ rfl rfl hl.1 rfl (lv_room (Nat.le_of_ble_eq_true rfl)) d_QueryReader_and_64 ⟨by show (8 * (p - i)) + (1) ≤ 8 * (n - i) + 20; omega, by show (64 * (p - i) - 24) + (6) ≤ 64 * (n - i) + 200; omega⟩) hS (fun q _ h => hFc q h) hFc (fun q _ h => hFc q h) (fun En ce q9 _u t9 H1 locs ht hvm hw hB hz1 hk1 hS hce hcv hcl => ?_) (fun _u t9 H1 locs ht hvm hw hB hz1 hk1 hS => ?_)
          · obtain ⟨hEn, hP1, hK1, hD1⟩ := hB
            rw [ht] at hP1
            obtain ⟨hP, hD⟩ := va_joinQ (wr := [(qr, .inr (5, [.ref h0, .int (nI o)])), (qu, .inl (cI, 4096, .inl ug)), (kc, .inr (0, [.int 1, .ref v21, .null, .null, .null, .null]))]) (w1 := [(h0, .inr (8, [.ref qb, .ref qu, .int uc, .int ln, .int (nI n), .int (nI (p + 1)), .int (nI (p + 1))])), (qb, .inl (cB, 4096, .inl bf))]) hP hD [1, 2] [0, 3, 4] rfl rfl (by decide) (by decide) hk1 hFc hP1 hD1
            generalize H1 = H at hP hS hce ⊢
            have hP : va_P (dC, dI) classes ([(qr, .inr (5, [.ref h0, .int (nI o)])), (qu, .inl (cI, 4096, .inl ug)), (kc, .inr (0, [.int 1, .ref v21, .null, .null, .null, .null])), (h0, .inr (8, [.ref qb, .ref qu, .int uc, .int ln, .int (nI n), .int (nI (p + 1)), .int (nI (p + 1))])), (qb, .inl (cB, 4096, .inl bf))] ++ va_pl ((L ++ N)) f1) H := hP
            have hD : va_D A ([(qr, .inr (5, [.ref h0, .int (nI o)])), (qu, .inl (cI, 4096, .inl ug)), (kc, .inr (0, [.int 1, .ref v21, .null, .null, .null, .null])), (h0, .inr (8, [.ref qb, .ref qu, .int uc, .int ln, .int (nI n), .int (nI (p + 1)), .int (nI (p + 1))])), (qb, .inl (cB, 4096, .inl bf))] ++ va_pl ((L ++ N)) f1) := hD
            have hP := hP.part (cx := [(qr, .inr (5, [.ref h0, .int (nI o)])), (h0, .inr (8, [.ref qb, .ref qu, .int uc, .int ln, .int (nI n), .int (nI (p + 1)), .int (nI (p + 1))])), (qb, .inl (cB, 4096, .inl bf)), (qu, .inl (cI, 4096, .inl ug)), (kc, .inr (0, [.int 1, .ref v21, .null, .null, .null, .null]))]) [0, 3, 4, 1, 2] rfl
            have hD := hD.part (cx := [(qr, .inr (5, [.ref h0, .int (nI o)])), (h0, .inr (8, [.ref qb, .ref qu, .int uc, .int ln, .int (nI n), .int (nI (p + 1)), .int (nI (p + 1))])), (qb, .inl (cB, 4096, .inl bf)), (qu, .inl (cI, 4096, .inl ug)), (kc, .inr (0, [.int 1, .ref v21, .null, .null, .null, .null]))]) [0, 3, 4, 1, 2] (by decide) rfl
            have hP := plP_cut (hP.part (cx := [(qr, .inr (5, [.ref h0, .int (nI o)])), (h0, .inr (8, [.ref qb, .ref qu, .int uc, .int ln, .int (nI n), .int (nI (p + 1)), .int (nI (p + 1))])), (qb, .inl (cB, 4096, .inl bf)), (qu, .inl (cI, 4096, .inl ug))]) [0, 1, 2, 3] rfl) hG.on
            have hD := plD_cut (hD.part (cx := [(qr, .inr (5, [.ref h0, .int (nI o)])), (h0, .inr (8, [.ref qb, .ref qu, .int uc, .int ln, .int (nI n), .int (nI (p + 1)), .int (nI (p + 1))])), (qb, .inl (cB, 4096, .inl bf)), (qu, .inl (cI, 4096, .inl ug))]) [0, 1, 2, 3] (by decide) rfl) hG.on
            have hno : (anD bf n ok orL cmL qyL) i = none := hl0.trans (mp_none (hLf.n (liD_0 hmL ht23 hw)))
            exact vx_out (fun x hx => (hex x hx).elim) hlocks hce hcv hcl (fun t9 ht2 ha => ⟨(nI (p + 1), uc, nI (p + 1), ug, nI o), hno, ⟨hEn, by rw [ht2]; exact hP, va_K.moved ha hK, hD⟩, hS.F ht2⟩) hS.2.2 (by show (8 * (p - i)) + (1) ≤ 8 * (n - i) + 20; omega) (by show (64 * (p - i) - 24) + (6) ≤ 64 * (n - i) + 200; omega)
          · obtain ⟨⟨hP1, hK1, hD1⟩, hz9⟩ := hB
            rw [ht] at hP1
            rw [ht] at hz9
            refine w_tight (hq0.trans hz9) ?_
            have hq0 := hq0.trans hz9
            obtain ⟨hP, hD⟩ := va_joinQ (wr := [(qr, .inr (5, [.ref h0, .int (nI o)])), (qu, .inl (cI, 4096, .inl ug)), (kc, .inr (0, [.int 1, .ref v21, .null, .null, .null, .null]))]) (w1 := [(h0, .inr (8, [.ref qb, .ref qu, .int uc, .int ln, .int (nI n), .int (nI ((p + 1) + 1)), .int pl])), (qb, .inl (cB, 4096, .inl bf))]) hP hD [1, 2] [0, 3, 4] rfl rfl (by decide) (by decide) hk1 hFc hP1 hD1
            generalize H1 = H at hP hS hq0 ⊢
            have hP : va_P (dC, dI) classes ([(qr, .inr (5, [.ref h0, .int (nI o)])), (qu, .inl (cI, 4096, .inl ug)), (kc, .inr (0, [.int 1, .ref v21, .null, .null, .null, .null])), (h0, .inr (8, [.ref qb, .ref qu, .int uc, .int ln, .int (nI n), .int (nI ((p + 1) + 1)), .int pl])), (qb, .inl (cB, 4096, .inl bf))] ++ va_pl ((L ++ N)) f1) H := hP
            have hD : va_D A ([(qr, .inr (5, [.ref h0, .int (nI o)])), (qu, .inl (cI, 4096, .inl ug)), (kc, .inr (0, [.int 1, .ref v21, .null, .null, .null, .null])), (h0, .inr (8, [.ref qb, .ref qu, .int uc, .int ln, .int (nI n), .int (nI ((p + 1) + 1)), .int pl])), (qb, .inl (cB, 4096, .inl bf))] ++ va_pl ((L ++ N)) f1) := hD
            have hP := hP.part (cx := [(qr, .inr (5, [.ref h0, .int (nI o)])), (h0, .inr (8, [.ref qb, .ref qu, .int uc, .int ln, .int (nI n), .int (nI ((p + 1) + 1)), .int pl])), (qb, .inl (cB, 4096, .inl bf)), (qu, .inl (cI, 4096, .inl ug)), (kc, .inr (0, [.int 1, .ref v21, .null, .null, .null, .null]))]) [0, 3, 4, 1, 2] rfl
            have hD := hD.part (cx := [(qr, .inr (5, [.ref h0, .int (nI o)])), (h0, .inr (8, [.ref qb, .ref qu, .int uc, .int ln, .int (nI n), .int (nI ((p + 1) + 1)), .int pl])), (qb, .inl (cB, 4096, .inl bf)), (qu, .inl (cI, 4096, .inl ug)), (kc, .inr (0, [.int 1, .ref v21, .null, .null, .null, .null]))]) [0, 3, 4, 1, 2] (by decide) rfl
            have ht24 : hereV bf n ((p + 1)) = 38 := hw
            have hl24 := here_lc ht24 (by decide)
            refine lv_aload_n hx hb d_QueryReader_and_67 rfl (lv_at hl 3 rfl) ?_
            refine lv_aload_n hx hb d_QueryReader_and_68 rfl (lv_at hl 0 rfl) ?_
            have hyz : y < H.size := va_pl_lt hP (hG.po.inL (by rw [hCh.2.2.2.1]; decide))
            have hG25 := hG.mv (show p ≤ ((p + 1) + 1) by omega) (show ((p + 1) + 1) ≤ n by omega)
            have hzz25 : s.heap.size ≤ H.size := hS.1
            have hPc := hP.part (cx := [(qr, .inr (5, [.ref h0, .int (nI o)])), (h0, .inr (8, [.ref qb, .ref qu, .int uc, .int ln, .int (nI n), .int (nI ((p + 1) + 1)), .int pl])), (qb, .inl (cB, 4096, .inl bf)), (qu, .inl (cI, 4096, .inl ug))]) [0, 1, 2, 3] rfl
            have hDc := hD.part (cx := [(qr, .inr (5, [.ref h0, .int (nI o)])), (h0, .inr (8, [.ref qb, .ref qu, .int uc, .int ln, .int (nI n), .int (nI ((p + 1) + 1)), .int pl])), (qb, .inl (cB, 4096, .inl bf)), (qu, .inl (cI, 4096, .inl ug))]) [0, 1, 2, 3] (by decide) rfl
            have hFc := va_freeP (cx := [(qr, .inr (5, [.ref h0, .int (nI o)])), (h0, .inr (8, [.ref qb, .ref qu, .int uc, .int ln, .int (nI n), .int (nI ((p + 1) + 1)), .int pl])), (qb, .inl (cB, 4096, .inl bf)), (qu, .inl (cI, 4096, .inl ug))]) hD hS hA [0, 1, 2, 3] rfl
            have hKc := hK.sub (tys' := [(cB, .byte), (cI, .int), (cV, .object "QueryBench$Value")]) [0, 1, 2] rfl
            refine w_same (fun hq0 => ?_)
            refine vx_callr (vx_runV (As := []) (rest := [.ref y]) ⟨hx, hb, hml, hown, hts⟩ (HB H E1 lv1 (L ++ N) f1 (((p + 1) + 1)) uc pl ug hG25.po (by omega)) (cwV 0 hts (gt_V (own := R_QueryReader) (C := R_QueryReader) (i := 169) (y := y_QueryReader_basic) i_QueryReader_basic z_662 z_664 (gt_sel (y := y_QueryReader_basic) (n := 2) (by decide +kernel)) w_4) rfl rfl rfl (by decide +kernel) ⟨by show 12 * (16 - o) + 19 + 1 ≤ 12 * (16 - o) + 20; omega, by show 8 + (3 + 11) + (360 * (16 - o) + 570) ≤ 360 * (16 - o) + 600; omega⟩) ⟨ml_blind, va_recv hK hP (ci := 5) (q0 := 0) rfl rfl, fun U hU hW => ⟨rfl, ⟨hU, by rw [hU]; exact hPc, va_K.moved hW.alike hKc, hDc.weaken (fun _ _ _ _ => trivial)⟩, hN.warm hW, by rw [hU]; exact ZX.moved' hW.alike (ZX.narrow' (ZX.kept' hZ hS.2.1) hFc), by rw [hU]; exact CE.call hC hS.2.1 hFc hW, va_AO.moved hW.alike hV⟩⟩ rfl rfl hl.1 rfl (lv_room (Nat.le_of_ble_eq_true rfl)) d_QueryReader_and_69 ⟨by show (8 * (p - i)) + (8 * (n - ((p + 1) + 1)) + 20) ≤ 8 * (n - i) + 20; omega, by show (64 * (p - i) - 24) + (64 * (n - ((p + 1) + 1)) + 200) ≤ 64 * (n - i) + 200; omega⟩) hS (fun q _ h => hFc q h) hFc (fun q _ h => hFc q h) (fun En ce q9 ⟨ax, cx, px, gx, ox⟩ t9 H1 locs ht hvm hw hB hz1 hk1 hS hce hcv hcl => ?_) (fun ⟨w25, p25, N25, E25, f25, uc25, ug25⟩ v25 t9 H1 locs ht hvm hw hB hz1 hk1 hS => ?_)
            · obtain ⟨hEn, hP1, hK1, hD1⟩ := hB
              rw [ht] at hP1
              obtain ⟨hP, hD⟩ := va_joinP (wr := [(kc, .inr (0, [.int 1, .ref v21, .null, .null, .null, .null]))]) (rx := [(qr, .inr (5, [.ref h0, .int ox])), (h0, .inr (8, [.ref qb, .ref qu, .int cx, .int ln, .int (nI n), .int ax, .int px])), (qb, .inl (cB, 4096, .inl bf)), (qu, .inl (cI, 4096, .inl gx))]) (pl1 := va_pl ((L ++ N)) f1) hP hD [0, 1, 2, 3] [4] rfl rfl (by decide) (by decide) hk1 hFc hP1 hD1
              generalize H1 = H at hP hS hce ⊢
              have hP : va_P (dC, dI) classes ([(kc, .inr (0, [.int 1, .ref v21, .null, .null, .null, .null])), (qr, .inr (5, [.ref h0, .int ox])), (h0, .inr (8, [.ref qb, .ref qu, .int cx, .int ln, .int (nI n), .int ax, .int px])), (qb, .inl (cB, 4096, .inl bf)), (qu, .inl (cI, 4096, .inl gx))] ++ va_pl ((L ++ N)) f1) H := hP
              have hD : va_D A ([(kc, .inr (0, [.int 1, .ref v21, .null, .null, .null, .null])), (qr, .inr (5, [.ref h0, .int ox])), (h0, .inr (8, [.ref qb, .ref qu, .int cx, .int ln, .int (nI n), .int ax, .int px])), (qb, .inl (cB, 4096, .inl bf)), (qu, .inl (cI, 4096, .inl gx))] ++ va_pl ((L ++ N)) f1) := hD
              have hP := hP.part (cx := [(qr, .inr (5, [.ref h0, .int ox])), (h0, .inr (8, [.ref qb, .ref qu, .int cx, .int ln, .int (nI n), .int ax, .int px])), (qb, .inl (cB, 4096, .inl bf)), (qu, .inl (cI, 4096, .inl gx)), (kc, .inr (0, [.int 1, .ref v21, .null, .null, .null, .null]))]) [1, 2, 3, 4, 0] rfl
              have hD := hD.part (cx := [(qr, .inr (5, [.ref h0, .int ox])), (h0, .inr (8, [.ref qb, .ref qu, .int cx, .int ln, .int (nI n), .int ax, .int px])), (qb, .inl (cB, 4096, .inl bf)), (qu, .inl (cI, 4096, .inl gx)), (kc, .inr (0, [.int 1, .ref v21, .null, .null, .null, .null]))]) [1, 2, 3, 4, 0] (by decide) rfl
              have hP := plP_cut (hP.part (cx := [(qr, .inr (5, [.ref h0, .int ox])), (h0, .inr (8, [.ref qb, .ref qu, .int cx, .int ln, .int (nI n), .int ax, .int px])), (qb, .inl (cB, 4096, .inl bf)), (qu, .inl (cI, 4096, .inl gx))]) [0, 1, 2, 3] rfl) hG25.on
              have hD := plD_cut (hD.part (cx := [(qr, .inr (5, [.ref h0, .int ox])), (h0, .inr (8, [.ref qb, .ref qu, .int cx, .int ln, .int (nI n), .int ax, .int px])), (qb, .inl (cB, 4096, .inl bf)), (qu, .inl (cI, 4096, .inl gx))]) [0, 1, 2, 3] (by decide) rfl) hG25.on
              have hno : (anD bf n ok orL cmL qyL) i = none := hl0.trans (mp_none (hLf.n (liD_1 hmL ht23 ht24 hw)))
              exact vx_out (fun x hx => (hex x hx).elim) hlocks hce hcv hcl (fun t9 ht2 ha => ⟨(ax, cx, px, gx, ox), hno, ⟨hEn, by rw [ht2]; exact hP, va_K.moved ha hK, hD⟩, hS.F ht2⟩) hS.2.2 (by show (8 * (p - i)) + (8 * (n - ((p + 1) + 1)) + 20) ≤ 8 * (n - i) + 20; omega) (by show (64 * (p - i) - 24) + (64 * (n - ((p + 1) + 1)) + 200) ≤ 64 * (n - i) + 200; omega)
            · obtain ⟨⟨hP1, hK1, hD1⟩, hz9, ha9⟩ := hB
              rw [ht] at hP1
              rw [ht] at hz9
              have ha9 : v25 = w25 := ha9
              subst ha9
              have hq0 : szk s.heap H1 ((8 * (p - i)) + (8 * (p25 - ((p + 1) + 1)) + 0 - 1)) ((64 * (p - i) - 24) + (64 * (p25 - ((p + 1) + 1)) + 0 - 30)) := (hq0.trans hz9).mono (Nat.le_refl _) (Nat.le_refl _)
              refine w_tight hq0 ?_
              obtain ⟨hP, hD⟩ := va_joinP (wr := [(kc, .inr (0, [.int 1, .ref v21, .null, .null, .null, .null]))]) (rx := [(qr, .inr (5, [.ref h0, .int (nI o)])), (h0, .inr (8, [.ref qb, .ref qu, .int uc25, .int ln, .int (nI n), .int (nI p25), .int pl])), (qb, .inl (cB, 4096, .inl bf)), (qu, .inl (cI, 4096, .inl ug25))]) (pl1 := va_pl (((L ++ N) ++ N25)) f25) hP hD [0, 1, 2, 3] [4] rfl rfl (by decide) (by decide) hk1 hFc hP1 hD1
              generalize H1 = H at hP hS hq0 ⊢
              have hP : va_P (dC, dI) classes ([(kc, .inr (0, [.int 1, .ref v21, .null, .null, .null, .null])), (qr, .inr (5, [.ref h0, .int (nI o)])), (h0, .inr (8, [.ref qb, .ref qu, .int uc25, .int ln, .int (nI n), .int (nI p25), .int pl])), (qb, .inl (cB, 4096, .inl bf)), (qu, .inl (cI, 4096, .inl ug25))] ++ va_pl (((L ++ N) ++ N25)) f25) H := hP
              have hD : va_D A ([(kc, .inr (0, [.int 1, .ref v21, .null, .null, .null, .null])), (qr, .inr (5, [.ref h0, .int (nI o)])), (h0, .inr (8, [.ref qb, .ref qu, .int uc25, .int ln, .int (nI n), .int (nI p25), .int pl])), (qb, .inl (cB, 4096, .inl bf)), (qu, .inl (cI, 4096, .inl ug25))] ++ va_pl (((L ++ N) ++ N25)) f25) := hD
              have hP := hP.part (cx := [(qr, .inr (5, [.ref h0, .int (nI o)])), (h0, .inr (8, [.ref qb, .ref qu, .int uc25, .int ln, .int (nI n), .int (nI p25), .int pl])), (qb, .inl (cB, 4096, .inl bf)), (qu, .inl (cI, 4096, .inl ug25)), (kc, .inr (0, [.int 1, .ref v21, .null, .null, .null, .null]))]) [1, 2, 3, 4, 0] rfl
              have hD := hD.part (cx := [(qr, .inr (5, [.ref h0, .int (nI o)])), (h0, .inr (8, [.ref qb, .ref qu, .int uc25, .int ln, .int (nI n), .int (nI p25), .int pl])), (qb, .inl (cB, 4096, .inl bf)), (qu, .inl (cI, 4096, .inl ug25)), (kc, .inr (0, [.int 1, .ref v21, .null, .null, .null, .null]))]) [1, 2, 3, 4, 0] (by decide) rfl
              obtain ⟨hw, m25, hf25, hd25⟩ := hw
              have hf25 : (baD bf n ok orL cmL qyL) (((p + 1) + 1)) = some (p25, m25) := hf25
              have hd25 : DNx KD 2 E1 E25 f25 v25 m25 := hd25
              have hQ25 : QPn cI cV E1 (L ++ N) f1 (((p + 1) + 1)) n _ 10 (5 * (16 - o) + 2) 1 v25 p25 N25 E25 f25 := hw
              obtain ⟨lv25, hg25, hlv25⟩ := hQ25.x lv1 hG25.po _ (Nat.le_refl _)
              have hex25 := hg25.ex
              have hge25 := hg25.ge hQ25.new (by rw [hQ25.so]; decide)
              have hkp25 : KPx E1 E25 f1 f25 := KPx.of hg25 hG25.po
              have hnv25 : E1 v25 = 0 := hQ25.new
              have hsv25 : ¬ E25 v25 = 0 := by rw [hQ25.so]; decide
              have hG25 := hG25.tr hg25 hzz25
              obtain ⟨ha25, hb25⟩ := hQ25.num
              have ha25 : ((p + 1) + 1) + 1 ≤ p25 := ha25
              have hb25 : p25 ≤ n := hb25
              rw [List.append_assoc] at hP hD
              have hP : va_P (dC, dI) classes ([(qr, .inr (5, [.ref h0, .int (nI o)])), (h0, .inr (8, [.ref qb, .ref qu, .int uc25, .int ln, .int (nI n), .int (nI p25), .int pl])), (qb, .inl (cB, 4096, .inl bf)), (qu, .inl (cI, 4096, .inl ug25)), (kc, .inr (0, [.int 1, .ref v21, .null, .null, .null, .null]))] ++ va_pl ((L ++ (N ++ N25))) f25) H := hP
              have hD : va_D A ([(qr, .inr (5, [.ref h0, .int (nI o)])), (h0, .inr (8, [.ref qb, .ref qu, .int uc25, .int ln, .int (nI n), .int (nI p25), .int pl])), (qb, .inl (cB, 4096, .inl bf)), (qu, .inl (cI, 4096, .inl ug25)), (kc, .inr (0, [.int 1, .ref v21, .null, .null, .null, .null]))] ++ va_pl ((L ++ (N ++ N25))) f25) := hD
              have hy3 : E25 y = 10 := (hex25 y (by rw [hCh.2.2.2.1]; decide)).trans hCh.2.2.2.1
              obtain ⟨kdz, fiz, nxz, quz, lez, riz, efy, -⟩ := hG25.po.con hy3
              have hyi : y ∈ (L ++ (N ++ N25)) := hG25.po.inL (by rw [hy3]; decide)
              have hyL : y ∉ L := fun h => absurd (hLz y h) (Nat.not_lt.mpr (hG.ge hCh.2.1 (by rw [hCh.2.2.2.1]; decide)))
              have hC2 := hCh.next10 hG.ex hQ25 (by omega) (by omega) hzz25 hyz (by omega) hyL efy hex25
              refine vq_put (D := (dC, dI)) (ci := 0) (v := .ref v25) (ty := .object "QueryBench$Condition") (C := R_Condition) (T := F_Condition) (N := 6) hx hb hts in_Condition t_Condition t_Condition_ok n_Condition hown hK hP hD hS hyi efy rfl 2 (by decide) (hts _ z_680) (fun _ h9 => h9) rfl (by decide +kernel) rfl rfl (Nat.le_of_ble_eq_true rfl) d_QueryReader_and_72 (fun H locs hP hD hS => ?_)
              have hP : va_P (dC, dI) classes ([(qr, .inr (5, [.ref h0, .int (nI o)])), (h0, .inr (8, [.ref qb, .ref qu, .int uc25, .int ln, .int (nI n), .int (nI p25), .int pl])), (qb, .inl (cB, 4096, .inl bf)), (qu, .inl (cI, 4096, .inl ug25)), (kc, .inr (0, [.int 1, .ref v21, .null, .null, .null, .null]))] ++ va_pl ((L ++ (N ++ N25))) ((va_up f25 y (kE kdz fiz (some v25) quz lez riz)))) H := hP
              have hD : va_D A ([(qr, .inr (5, [.ref h0, .int (nI o)])), (h0, .inr (8, [.ref qb, .ref qu, .int uc25, .int ln, .int (nI n), .int (nI p25), .int pl])), (qb, .inl (cB, 4096, .inl bf)), (qu, .inl (cI, 4096, .inl ug25)), (kc, .inr (0, [.int 1, .ref v21, .null, .null, .null, .null]))] ++ va_pl ((L ++ (N ++ N25))) ((va_up f25 y (kE kdz fiz (some v25) quz lez riz)))) := hD
              have hLf2 : SLd KD 2 (liD bf n (baD bf n ok orL cmL qyL) 38 (4098 - 0) p21) (liD bf n (baD bf n ok orL cmL qyL) 38 (4098 - (m9 + 1)) p25) E E25 ((va_up f25 y (kE kdz fiz (some v25) quz lez riz))) v21 v25 m21 (m9 + 1) := hLf.next KD_mo KD_fr (by decide) hCh.2.1 (by rw [hCh.2.2.2.1]; decide) hd25 hnv25 hkp25 hG.ex (fun b hb => va_up_ne _ _ hb) (by rw [va_up_self]; exact Or.inr ⟨_, _, some v25, efy, rfl⟩) (by rw [va_up_self]; exact refE_rf (o := some v25) rfl) (liD_s hmL ht23 ht24 hf25)
              refine lv_aload_n hx hb d_QueryReader_and_75 rfl (lv_at hl 3 rfl) ?_
              refine vq_get (D := (dC, dI)) (ci := 0) (v := .ref v25) (C := R_Condition) (T := F_Condition) (N := 6) hx hb hts in_Condition hown hK hP hyi (va_up_self _ _ _) rfl 2 (by decide) (hts _ z_680) (fun _ h9 => h9) rfl d_QueryReader_and_76 ?_
              refine lv_astore_n (lv' := [(3, .ref v25), (0, .ref qr), (1, .ref v21), (2, .ref kc), (4, .int (nI m9))]) hx hb d_QueryReader_and_79 rfl hl (by decide) rfl (fun ls hl => ?_)
              refine lv_iinc (v := nI (m9 + 1)) (lv' := [(4, .int (nI (m9 + 1))), (3, .ref v25), (0, .ref qr), (1, .ref v21), (2, .ref kc)]) hx hb d_QueryReader_and_80 hl (k := 4) rfl (nI_1 _) (by decide) rfl (fun ls hl => ?_)
              refine lv_goto (tgt := 38) hx hb d_QueryReader_and_83 (by decide) ?_
              refine w_same (fun hq => ?_)
              refine W.widen (k := 8 * (n - i) + 20) (n := 64 * (n - i) + 200) (by show ((8 * (p - i)) + (8 * (p25 - ((p + 1) + 1)) + 0 - 1)) ≤ 8 * (n - i) + 20; omega) (by show ((64 * (p - i) - 24) + (64 * (p25 - ((p + 1) + 1)) + 0 - 30)) ≤ 64 * (n - i) + 200; omega) ?_
              exact ih (m9 + 1, v25, p25, (N ++ N25), E25, (va_up f25 y (kE kdz fiz (some v25) quz lez riz)), uc25, ug25) _ _ _ ⟨show m9 + 1 ≤ 4096 by omega, show m9 + 1 + i + 1 ≤ p25 by omega, hC2, hq.mono (by show ((8 * (p - i)) + (8 * (p25 - ((p + 1) + 1)) + 0 - 1)) ≤ 8 * (p25 - i); omega) (by show ((64 * (p - i) - 24) + (64 * (p25 - ((p + 1) + 1)) + 0 - 30)) ≤ 64 * (p25 - i) - 24; omega), hLf2⟩ (by show 4097 - (m9 + 1) < 4097 - m9; omega) hP hD hS (lv_sub hl [2, 3, 4, 1, 0] rfl)
        · have hu23 : u23 = p := hu23
          subst hr23
          rw [hu23] at hP hD
          have hP : va_P (dC, dI) classes ([(qr, .inr (5, [.ref h0, .int (nI o)])), (h0, .inr (8, [.ref qb, .ref qu, .int uc, .int ln, .int (nI n), .int (nI p), .int pl])), (qb, .inl (cB, 4096, .inl bf)), (qu, .inl (cI, 4096, .inl ug)), (kc, .inr (0, [.int 1, .ref v21, .null, .null, .null, .null]))] ++ va_pl ((L ++ N)) f1) H := hP
          have hD : va_D A ([(qr, .inr (5, [.ref h0, .int (nI o)])), (h0, .inr (8, [.ref qb, .ref qu, .int uc, .int ln, .int (nI n), .int (nI p), .int pl])), (qb, .inl (cB, 4096, .inl bf)), (qu, .inl (cI, 4096, .inl ug)), (kc, .inr (0, [.int 1, .ref v21, .null, .null, .null, .null]))] ++ va_pl ((L ++ N)) f1) := hD
          refine lv_if_eq (tgt := 86) hx hb d_QueryReader_and_55 (by decide) (fun _ => ?_) (fun h => absurd (by decide) h)
          refine lv_aload_n hx hb d_QueryReader_and_86 rfl (lv_at hl 2 rfl) ?_
          obtain ⟨tl9, hXe, hln9, hDch9⟩ := hLf.fin (p := p) KD_mo hCh.2.1 (by rw [hCh.2.2.2.1]; decide) (liD_e hmL ht23)
          have hL_kc := plD_new (X := [(qr, .inr (5, [.ref h0, .int (nI o)])), (h0, .inr (8, [.ref qb, .ref qu, .int uc, .int ln, .int (nI n), .int (nI p), .int pl])), (qb, .inl (cB, 4096, .inl bf)), (qu, .inl (cI, 4096, .inl ug))]) hD
          have h0_kc : E1 kc = 0 := Classical.byContradiction (fun h => hL_kc (hG.po.inL h))
          have hE_kc : E kc = 0 := hG.ex.z h0_kc
          have hP := plP_push (X := [(qr, .inr (5, [.ref h0, .int (nI o)])), (h0, .inr (8, [.ref qb, .ref qu, .int uc, .int ln, .int (nI n), .int (nI p), .int pl])), (qb, .inl (cB, 4096, .inl bf)), (qu, .inl (cI, 4096, .inl ug))]) hP hL_kc
          have hD := plD_push (X := [(qr, .inr (5, [.ref h0, .int (nI o)])), (h0, .inr (8, [.ref qb, .ref qu, .int uc, .int ln, .int (nI n), .int (nI p), .int pl])), (qb, .inl (cB, 4096, .inl bf)), (qu, .inl (cI, 4096, .inl ug))]) hD hL_kc
          rw [List.append_assoc] at hP hD
          have hQ_kc : QPn cI cV E L f i n s.heap.size 10 (5 * (16 - o) + 3) 1 kc p (N ++ [kc]) (va_up E1 kc 10) (va_up f1 kc (kE 1 (some v21) none none none none)) := by
            refine ⟨hE_kc, va_up_self _ _ _, by omega, by omega, fun lv hO b hb => ?_⟩
            obtain ⟨lv1, g1, c1, c2⟩ := hCh.x lv hO (b - 1) (by omega)
            have hfk : v21 ≠ kc := fun e => by have h9 := hCh.2.2.1; rw [e, h0_kc] at h9; cases h9
            exact ⟨va_up lv1 kc b, g1.add (q := kc) (s := 10) (b := b) (e := kE 1 (some v21) none none none none) h0_kc hL_kc hz_kc (by decide) (by decide) (CO.K (va_up_self _ _ _) ⟨_, _, _, _, _, _, rfl, ⟨(fun b9 h => by cases h; exact ⟨(va_up_ne _ _ hfk).trans hCh.2.2.1, by rw [va_up_ne _ _ hfk, va_up_self]; have := c1; omega⟩), (fun b h => (nomatch h)), (fun b h => (nomatch h)), (fun b h => (nomatch h)), (fun b h => (nomatch h)), fun h => absurd h (by decide), fun h => absurd h (by decide), fun _ h1 _ _ => absurd rfl h1⟩⟩), va_up_self _ _ _⟩
          have hP : va_P (dC, dI) classes ([(qr, .inr (5, [.ref h0, .int (nI o)])), (h0, .inr (8, [.ref qb, .ref qu, .int uc, .int ln, .int (nI n), .int (nI p), .int pl])), (qb, .inl (cB, 4096, .inl bf)), (qu, .inl (cI, 4096, .inl ug))] ++ va_pl ((L ++ (N ++ [kc]))) ((va_up f1 kc (kE 1 (some v21) none none none none)))) H := hP
          have hD : va_D A ([(qr, .inr (5, [.ref h0, .int (nI o)])), (h0, .inr (8, [.ref qb, .ref qu, .int uc, .int ln, .int (nI n), .int (nI p), .int pl])), (qb, .inl (cB, 4096, .inl bf)), (qu, .inl (cI, 4096, .inl ug))] ++ va_pl ((L ++ (N ++ [kc]))) ((va_up f1 kc (kE 1 (some v21) none none none none)))) := hD
          have hQr : QPn cI cV E L f i n s.heap.size 10 (5 * (16 - o) + 3) 1 kc p ((N ++ [kc])) ((va_up E1 kc 10)) ((va_up f1 kc (kE 1 (some v21) none none none none))) := hQ_kc
          have hfin : (anD bf n ok orL cmL qyL) i = some (p, allC (m21 :: tl9)) := hl0.trans (mp_some hXe)
          have hdn : DNx KD 2 E ((va_up E1 kc 10)) ((va_up f1 kc (kE 1 (some v21) none none none none))) kc (allC (m21 :: tl9)) := DNx.all hDch9 h0_kc
          refine w_same (fun hq => ?_)
          refine W.widen (k := 8 * (n - i) + 20) (n := 64 * (n - i) + 200) (by show (8 * (p - i)) ≤ 8 * (n - i) + 20; omega) (by show (64 * (p - i) - 24) ≤ 64 * (n - i) + 200; omega) ?_
          refine vx_ret ?_
          exact W.aret (v := .ref kc) hx hb hr (Or.inl ⟨_, rfl⟩) (Or.inr ⟨_, rfl⟩) (fun t9 ht hW => ⟨⟨(kc, p, (N ++ [kc]), (va_up E1 kc 10), (va_up f1 kc (kE 1 (some v21) none none none none)), uc, ug), kc, rfl, ⟨hQr, _, hfin, hdn⟩, ⟨by rw [ht]; exact hP, va_K.moved hW.alike hK, hD⟩, by rw [ht]; exact ⟨hq.mono (by show (8 * (p - i)) ≤ 8 * (p - i) + 0 - 0; omega) (by show (64 * (p - i) - 24) ≤ 64 * (p - i) + 0 - 24; omega), rfl⟩⟩, hS.F ht⟩) hS.2.2 d_QueryReader_and_87
    · refine lv_aload_n hx hb d_QueryReader_and_17 rfl (lv_at hl 0 rfl) ?_
      have hQr : QPn cI cV E L f i n s.heap.size 10 (5 * (16 - o) + 3) 1 v21 p21 (([] ++ N21)) E21 f21 := (hQ21.up (by omega) (by omega) hzz21 (by omega) (by omega))
      have hfin : (anD bf n ok orL cmL qyL) i = some (p21, m21) := (hl0.trans (mp_some (liD_e (by omega) (fun q => c14 (h_h22.trans q))))).trans (by rw [show allC (m21 :: []) = m21 from allC_1 _])
      have hdn : DNx KD 2 E E21 f21 v21 m21 := hd21
      refine w_same (fun hq => ?_)
      refine W.widen (k := 8 * (n - i) + 20) (n := 64 * (n - i) + 200) (by show (0 + (8 * (p21 - i) + 0 - 1)) ≤ 8 * (n - i) + 20; omega) (by show (0 + (64 * (p21 - i) + 0 - 30)) ≤ 64 * (n - i) + 200; omega) ?_
      refine vx_ret ?_
      exact W.aret (v := .ref v21) hx hb hr (Or.inl ⟨_, rfl⟩) (Or.inr ⟨_, rfl⟩) (fun t9 ht hW => ⟨⟨(v21, p21, ([] ++ N21), E21, f21, uc21, ug21), v21, rfl, ⟨hQr, _, hfin, hdn⟩, ⟨by rw [ht]; exact hP, va_K.moved hW.alike hK, hD⟩, by rw [ht]; exact ⟨hq.mono (by show (0 + (8 * (p21 - i) + 0 - 1)) ≤ 8 * (p21 - i) + 0 - 0; omega) (by show (0 + (64 * (p21 - i) + 0 - 30)) ≤ 64 * (p21 - i) + 0 - 24; omega), rfl⟩⟩, hS.F ht⟩) hS.2.2 d_QueryReader_and_18
set_option maxHeartbeats 4000000 in
set_option maxRecDepth 100000 in
/-- QueryReader.or -/
theorem c_QR_or (l : Launch) (hl9 : l.stackTraces = false) (K : Nat → Nat × Nat) (dC : Nat → ClassId) (dI : Nat → Nat → Nat) (cI cV : ClassId) (cB : ClassId) (h0 qb qu : Nat) (ln : Int32) (bf : Nat → Int32) (n qr : Nat) (hn0 : n ≤ 4096) (hbf : byR bf) (o : Nat) (ho : o ≤ 16) (ok : Bool) (orL : Nat → Option (Nat × CT)) (cmL : Nat → Option (Nat × OT)) (qyL : Nat → Option (Nat × Bool × QT)) (hok : ok = true ↔ o < 16) (HN : QCT l K dC dI cI cV cB h0 qb qu ln bf n qr y_QueryReader_and (k_QueryReader_and :: gtbl) [.ref qr] o (12 * (16 - o) + 20) (360 * (16 - o) + 600) 20 200 0 0 0 24 10 (5 * (16 - o) + 3) 1 0 (OKd KD 2 (anD bf n ok orL cmL qyL)) (NOd (anD bf n ok orL cmL qyL))) : QCT l K dC dI cI cV cB h0 qb qu ln bf n qr y_QueryReader_or (k_QueryReader_or :: gtbl) [.ref qr] o (12 * (16 - o) + 21) (360 * (16 - o) + 630) 20 200 1 0 0 18 10 (5 * (16 - o) + 4) 1 0 (OKd KD 2 (orD bf n ok orL cmL qyL)) (NOd (orD bf n ok orL cmL qyL)) := by
  intro sz E lv L f i uc pl ug hO hin
  refine vx_ofW (cc := b_QueryReader_or) (maxL := 5) (ret := (some (.object "QueryBench$Condition"))) (by decide) rfl ?_
  intro p e s m args below meth c s₁ B hml hex hv
  obtain ⟨rfl, ⟨hsz, hP, hK, hD0⟩, hN, hZ, hC, hV⟩ := hv
  have hx := B.exec
  have hb := B.bytes
  have hr := B.returns
  have hts0 := atoms_spec (ws := k_QueryReader_or :: gtbl) B.pre
  have hts := fun w h => hts0 w (List.mem_cons_of_mem _ h)
  have hown : s.vm.findClass R_QueryReader = some m.cls := findClass_of_methodNamed B.named
  have hlocks := B.notSynchronized
  subst hsz
  have hD := hD0.self (sz := s.heap.size)
  generalize hAe : va_A ([(qr, .inr (5, [.ref h0, .int (nI o)])), (h0, .inr (8, [.ref qb, .ref qu, .int uc, .int ln, .int (nI n), .int (nI i), .int pl])), (qb, .inl (cB, 4096, .inl bf)), (qu, .inl (cI, 4096, .inl ug))] ++ va_pl L f) s.heap.size = A at hD hZ hC ⊢
  have hA : ∀ q : Nat, s.heap.size ≤ q → A q := fun q h => by rw [← hAe]; exact Or.inr h
  have hS : va_S A s.heap s.heap [] := va_S.rf
  have hP : va_P (dC, dI) classes ([(qr, .inr (5, [.ref h0, .int (nI o)])), (h0, .inr (8, [.ref qb, .ref qu, .int uc, .int ln, .int (nI n), .int (nI i), .int pl])), (qb, .inl (cB, 4096, .inl bf)), (qu, .inl (cI, 4096, .inl ug))] ++ va_pl L f) s.heap := hP
  have hl := lv_entry ([.ref qr]) (n := 5) (Nat.le_of_ble_eq_true rfl)
  rw [lg_entry_eq]
  generalize (lg_sl ([.ref qr]) ++ List.replicate (5 - (lg_sl ([.ref qr])).length) Slot.unset).toArray = ls at hl ⊢
  have hl : lv_has ls 5 [(0, .ref qr)] := hl
  have hLz : ∀ a, a ∈ L → a < s.heap.size := fun a ha => va_pl_lt hP ha
  have hi9 : i ≤ n := by omega
  have hP : va_P (dC, dI) classes ([(qr, .inr (5, [.ref h0, .int (nI o)])), (h0, .inr (8, [.ref qb, .ref qu, .int uc, .int ln, .int (nI n), .int (nI i), .int pl])), (qb, .inl (cB, 4096, .inl bf)), (qu, .inl (cI, 4096, .inl ug))] ++ va_pl (L ++ []) f) s.heap := by rw [List.append_nil]; exact hP
  have hD : va_D A ([(qr, .inr (5, [.ref h0, .int (nI o)])), (h0, .inr (8, [.ref qb, .ref qu, .int uc, .int ln, .int (nI n), .int (nI i), .int pl])), (qb, .inl (cB, 4096, .inl bf)), (qu, .inl (cI, 4096, .inl ug))] ++ va_pl (L ++ []) f) := by rw [List.append_nil]; exact hD
  have hG0 : QG cI cV E lv L f i n i s.heap.size [] E lv f := QG.rf hO hi9
  refine lv_aload_n hx hb d_QueryReader_or_0 rfl (lv_at hl 0 rfl) ?_
  have hG21 := hG0.mv (show i ≤ i by omega) (show i ≤ n by omega)
  have hzz21 : s.heap.size ≤ s.heap.size := hS.1
  have hPc := hP.part (cx := [(qr, .inr (5, [.ref h0, .int (nI o)])), (h0, .inr (8, [.ref qb, .ref qu, .int uc, .int ln, .int (nI n), .int (nI i), .int pl])), (qb, .inl (cB, 4096, .inl bf)), (qu, .inl (cI, 4096, .inl ug))]) [0, 1, 2, 3] rfl
  have hDc := hD.part (cx := [(qr, .inr (5, [.ref h0, .int (nI o)])), (h0, .inr (8, [.ref qb, .ref qu, .int uc, .int ln, .int (nI n), .int (nI i), .int pl])), (qb, .inl (cB, 4096, .inl bf)), (qu, .inl (cI, 4096, .inl ug))]) [0, 1, 2, 3] (by decide) rfl
  have hFc := va_freeP (cx := [(qr, .inr (5, [.ref h0, .int (nI o)])), (h0, .inr (8, [.ref qb, .ref qu, .int uc, .int ln, .int (nI n), .int (nI i), .int pl])), (qb, .inl (cB, 4096, .inl bf)), (qu, .inl (cI, 4096, .inl ug))]) hD hS hA [0, 1, 2, 3] rfl
  have hKc := hK.sub (tys' := [(cB, .byte), (cI, .int), (cV, .object "QueryBench$Value")]) [0, 1, 2] rfl
  refine w_same (fun hq0 => ?_)
  refine vx_callr (vx_runV (As := []) (rest := []) ⟨hx, hb, hml, hown, hts⟩ (HN s.heap E lv (L ++ []) f i uc pl ug hG21.po (by omega)) (cwV 0 hts (gt_V (own := R_QueryReader) (C := R_QueryReader) (i := 156) (y := y_QueryReader_and) i_QueryReader_and z_658 z_660 (gt_sel (y := y_QueryReader_and) (n := 2) (by decide +kernel)) w_4) rfl rfl rfl (by decide +kernel) ⟨by show 12 * (16 - o) + 20 + 1 ≤ 12 * (16 - o) + 21; omega, by show 8 + (5 + 11) + (360 * (16 - o) + 600) ≤ 360 * (16 - o) + 630; omega⟩) ⟨ml_blind, va_recv hK hP (ci := 5) (q0 := 0) rfl rfl, fun U hU hW => ⟨rfl, ⟨hU, by rw [hU]; exact hPc, va_K.moved hW.alike hKc, hDc.weaken (fun _ _ _ _ => trivial)⟩, hN.warm hW, by rw [hU]; exact ZX.moved' hW.alike (ZX.narrow' (ZX.kept' hZ hS.2.1) hFc), by rw [hU]; exact CE.call hC hS.2.1 hFc hW, va_AO.moved hW.alike hV⟩⟩ rfl rfl hl.1 rfl (lv_room (Nat.le_of_ble_eq_true rfl)) d_QueryReader_or_1 ⟨by show 0 + (8 * (n - i) + 20) ≤ 8 * (n - i) + 20; omega, by show 0 + (64 * (n - i) + 200) ≤ 64 * (n - i) + 200; omega⟩) hS (fun q _ h => hFc q h) hFc (fun q _ h => hFc q h) (fun En ce q9 ⟨ax, cx, px, gx, ox⟩ t9 H1 locs ht hvm hw hB hz1 hk1 hS hce hcv hcl => ?_) (fun ⟨w21, p21, N21, E21, f21, uc21, ug21⟩ v21 t9 H1 locs ht hvm hw hB hz1 hk1 hS => ?_)
  · obtain ⟨hEn, hP1, hK1, hD1⟩ := hB
    rw [ht] at hP1
    obtain ⟨hP, hD⟩ := va_joinP (wr := []) (rx := [(qr, .inr (5, [.ref h0, .int ox])), (h0, .inr (8, [.ref qb, .ref qu, .int cx, .int ln, .int (nI n), .int ax, .int px])), (qb, .inl (cB, 4096, .inl bf)), (qu, .inl (cI, 4096, .inl gx))]) (pl1 := va_pl ((L ++ [])) f) hP hD [0, 1, 2, 3] [] rfl rfl (by decide) (by decide) hk1 hFc hP1 hD1
    generalize H1 = H at hP hS hce ⊢
    have hP : va_P (dC, dI) classes ([(qr, .inr (5, [.ref h0, .int ox])), (h0, .inr (8, [.ref qb, .ref qu, .int cx, .int ln, .int (nI n), .int ax, .int px])), (qb, .inl (cB, 4096, .inl bf)), (qu, .inl (cI, 4096, .inl gx))] ++ va_pl ((L ++ [])) f) H := hP
    have hD : va_D A ([(qr, .inr (5, [.ref h0, .int ox])), (h0, .inr (8, [.ref qb, .ref qu, .int cx, .int ln, .int (nI n), .int ax, .int px])), (qb, .inl (cB, 4096, .inl bf)), (qu, .inl (cI, 4096, .inl gx))] ++ va_pl ((L ++ [])) f) := hD
    have hP := plP_cut (hP.part (cx := [(qr, .inr (5, [.ref h0, .int ox])), (h0, .inr (8, [.ref qb, .ref qu, .int cx, .int ln, .int (nI n), .int ax, .int px])), (qb, .inl (cB, 4096, .inl bf)), (qu, .inl (cI, 4096, .inl gx))]) [0, 1, 2, 3] rfl) hG21.on
    have hD := plD_cut (hD.part (cx := [(qr, .inr (5, [.ref h0, .int ox])), (h0, .inr (8, [.ref qb, .ref qu, .int cx, .int ln, .int (nI n), .int ax, .int px])), (qb, .inl (cB, 4096, .inl bf)), (qu, .inl (cI, 4096, .inl gx))]) [0, 1, 2, 3] (by decide) rfl) hG21.on
    have hno : (orD bf n ok orL cmL qyL) i = none := orD_0 hw
    exact vx_out (fun x hx => (hex x hx).elim) hlocks hce hcv hcl (fun t9 ht2 ha => ⟨(ax, cx, px, gx, ox), hno, ⟨hEn, by rw [ht2]; exact hP, va_K.moved ha hK, hD⟩, hS.F ht2⟩) hS.2.2 (by show 0 + (8 * (n - i) + 20) ≤ 8 * (n - i) + 20; omega) (by show 0 + (64 * (n - i) + 200) ≤ 64 * (n - i) + 200; omega)
  · obtain ⟨⟨hP1, hK1, hD1⟩, hz9, ha9⟩ := hB
    rw [ht] at hP1
    rw [ht] at hz9
    have ha9 : v21 = w21 := ha9
    subst ha9
    have hq0 : szk s.heap H1 (0 + (8 * (p21 - i) + 0 - 0)) (0 + (64 * (p21 - i) + 0 - 24)) := (hq0.trans hz9).mono (Nat.le_refl _) (Nat.le_refl _)
    refine w_tight hq0 ?_
    obtain ⟨hP, hD⟩ := va_joinP (wr := []) (rx := [(qr, .inr (5, [.ref h0, .int (nI o)])), (h0, .inr (8, [.ref qb, .ref qu, .int uc21, .int ln, .int (nI n), .int (nI p21), .int pl])), (qb, .inl (cB, 4096, .inl bf)), (qu, .inl (cI, 4096, .inl ug21))]) (pl1 := va_pl (((L ++ []) ++ N21)) f21) hP hD [0, 1, 2, 3] [] rfl rfl (by decide) (by decide) hk1 hFc hP1 hD1
    generalize H1 = H at hP hS hq0 ⊢
    have hP : va_P (dC, dI) classes ([(qr, .inr (5, [.ref h0, .int (nI o)])), (h0, .inr (8, [.ref qb, .ref qu, .int uc21, .int ln, .int (nI n), .int (nI p21), .int pl])), (qb, .inl (cB, 4096, .inl bf)), (qu, .inl (cI, 4096, .inl ug21))] ++ va_pl (((L ++ []) ++ N21)) f21) H := hP
    have hD : va_D A ([(qr, .inr (5, [.ref h0, .int (nI o)])), (h0, .inr (8, [.ref qb, .ref qu, .int uc21, .int ln, .int (nI n), .int (nI p21), .int pl])), (qb, .inl (cB, 4096, .inl bf)), (qu, .inl (cI, 4096, .inl ug21))] ++ va_pl (((L ++ []) ++ N21)) f21) := hD
    obtain ⟨hw, m21, hf21, hd21⟩ := hw
    have hf21 : (anD bf n ok orL cmL qyL) i = some (p21, m21) := hf21
    have hd21 : DNx KD 2 E E21 f21 v21 m21 := hd21
    have hQ21 : QPn cI cV E (L ++ []) f i n _ 10 (5 * (16 - o) + 3) 1 v21 p21 N21 E21 f21 := hw
    obtain ⟨lv21, hg21, hlv21⟩ := hQ21.x lv hG21.po _ (Nat.le_refl _)
    have hex21 := hg21.ex
    have hge21 := hg21.ge hQ21.new (by rw [hQ21.so]; decide)
    have hkp21 : KPx E E21 f f21 := KPx.of hg21 hG21.po
    have hnv21 : E v21 = 0 := hQ21.new
    have hsv21 : ¬ E21 v21 = 0 := by rw [hQ21.so]; decide
    have hG21 := hG21.tr hg21 hzz21
    obtain ⟨ha21, hb21⟩ := hQ21.num
    have ha21 : i + 1 ≤ p21 := ha21
    have hb21 : p21 ≤ n := hb21
    rw [List.append_assoc] at hP hD
    have hP : va_P (dC, dI) classes ([(qr, .inr (5, [.ref h0, .int (nI o)])), (h0, .inr (8, [.ref qb, .ref qu, .int uc21, .int ln, .int (nI n), .int (nI p21), .int pl])), (qb, .inl (cB, 4096, .inl bf)), (qu, .inl (cI, 4096, .inl ug21))] ++ va_pl ((L ++ ([] ++ N21))) f21) H := hP
    have hD : va_D A ([(qr, .inr (5, [.ref h0, .int (nI o)])), (h0, .inr (8, [.ref qb, .ref qu, .int uc21, .int ln, .int (nI n), .int (nI p21), .int pl])), (qb, .inl (cB, 4096, .inl bf)), (qu, .inl (cI, 4096, .inl ug21))] ++ va_pl ((L ++ ([] ++ N21))) f21) := hD
    have hl0 : (orD bf n ok orL cmL qyL) i = (liD bf n (anD bf n ok orL cmL qyL) 124 (4098 - 0) p21).map (fun r => (r.1, anyC_ (m21 :: r.2))) := orD_b hf21
    refine lv_astore_n (lv' := [(1, .ref v21), (0, .ref qr)]) hx hb d_QueryReader_or_4 rfl hl (by decide) rfl (fun ls hl => ?_)
    refine lv_aload_n hx hb d_QueryReader_or_5 rfl (lv_at hl 1 rfl) ?_
    refine va_get (D := (dC, dI)) (ci := 5) (v := .ref h0) (C := R_QueryReader) (T := F_QueryReader) (N := 2) hx hb hts in_QueryReader hown hK hP 0 rfl rfl 0 (by decide) (hts _ w_100) (fun _ h9 => h9) rfl d_QueryReader_or_6 ?_
    have hPc := hP.sub (ws' := [(h0, .inr (8, [.ref qb, .ref qu, .int uc21, .int ln, .int (nI n), .int (nI p21), .int pl])), (qb, .inl (cB, 4096, .inl bf))]) [1, 2] rfl
    have hDc := hD.sub (ws' := [(h0, .inr (8, [.ref qb, .ref qu, .int uc21, .int ln, .int (nI n), .int (nI p21), .int pl])), (qb, .inl (cB, 4096, .inl bf))]) [1, 2] (by decide) rfl
    have hFc := va_free (wc := [(h0, .inr (8, [.ref qb, .ref qu, .int uc21, .int ln, .int (nI n), .int (nI p21), .int pl])), (qb, .inl (cB, 4096, .inl bf))]) hD hS hA [1, 2] rfl
    have hKc := hK.sub (tys' := [(cB, .byte)]) [0] rfl
    refine va_calli (va_runV (As := []) (rest := []) ⟨hx, hb, hml, hown, hts⟩ (c_Tape_here l dC dI cB h0 qb H (.ref qu) uc21 ln pl bf n p21 hn0 (by omega)) (cwV 0 hts (gt_V (own := R_QueryReader) (C := R_Tape) (i := 19) (y := y_Tape_here) i_Tape_here z_534 w_363 w_364 w_2) rfl rfl rfl (by decide +kernel) ⟨by show 0 + 1 ≤ 12 * (16 - o) + 21; omega, by show 8 + (1 + 11) + (0) ≤ 360 * (16 - o) + 630; omega⟩) ⟨mp_blind, va_recv hK hP (ci := 8) (q0 := 1) rfl rfl, fun U hU hW => ⟨rfl, hU, by rw [hU]; exact hPc, va_K.moved hW.alike hKc, hDc.weaken (fun _ _ _ _ => trivial)⟩⟩ rfl rfl hl.1 rfl (lv_room (Nat.le_of_ble_eq_true rfl)) d_QueryReader_or_9 ⟨by show (0 + (8 * (p21 - i) + 0 - 0)) + (0) ≤ 8 * (n - i) + 20; omega, by show (0 + (64 * (p21 - i) + 0 - 24)) + (0) ≤ 64 * (n - i) + 200; omega⟩) hS (fun q _ h => hFc q h) hFc (fun h22 _u t9 H1 locs ht hvm hw hB hz1 hk1 hS => ?_)
    obtain ⟨hP1, hK1, hD1⟩ := hB
    rw [ht] at hP1
    obtain ⟨hP, hD⟩ := va_joinQ (wr := [(qr, .inr (5, [.ref h0, .int (nI o)])), (qu, .inl (cI, 4096, .inl ug21))]) (w1 := [(h0, .inr (8, [.ref qb, .ref qu, .int uc21, .int ln, .int (nI n), .int (nI p21), .int pl])), (qb, .inl (cB, 4096, .inl bf))]) hP hD [1, 2] [0, 3] rfl rfl (by decide) (by decide) hk1 hFc hP1 hD1
    generalize H1 = H at hP hS ⊢
    have hP : va_P (dC, dI) classes ([(qr, .inr (5, [.ref h0, .int (nI o)])), (qu, .inl (cI, 4096, .inl ug21)), (h0, .inr (8, [.ref qb, .ref qu, .int uc21, .int ln, .int (nI n), .int (nI p21), .int pl])), (qb, .inl (cB, 4096, .inl bf))] ++ va_pl ((L ++ ([] ++ N21))) f21) H := hP
    have hD : va_D A ([(qr, .inr (5, [.ref h0, .int (nI o)])), (qu, .inl (cI, 4096, .inl ug21)), (h0, .inr (8, [.ref qb, .ref qu, .int uc21, .int ln, .int (nI n), .int (nI p21), .int pl])), (qb, .inl (cB, 4096, .inl bf))] ++ va_pl ((L ++ ([] ++ N21))) f21) := hD
    have hP := hP.part (cx := [(qr, .inr (5, [.ref h0, .int (nI o)])), (h0, .inr (8, [.ref qb, .ref qu, .int uc21, .int ln, .int (nI n), .int (nI p21), .int pl])), (qb, .inl (cB, 4096, .inl bf)), (qu, .inl (cI, 4096, .inl ug21))]) [0, 2, 3, 1] rfl
    have hD := hD.part (cx := [(qr, .inr (5, [.ref h0, .int (nI o)])), (h0, .inr (8, [.ref qb, .ref qu, .int uc21, .int ln, .int (nI n), .int (nI p21), .int pl])), (qb, .inl (cB, 4096, .inl bf)), (qu, .inl (cI, 4096, .inl ug21))]) [0, 2, 3, 1] (by decide) rfl
    have h_h22 : h22 = hereV bf n p21 := hw
    refine lv_bipush (v := 124) hx hb d_QueryReader_or_12 (by decide) ?_
    refine lv_icmp_eq (tgt := 19) hx hb d_QueryReader_or_14 (by decide) (fun c14 => ?_) (fun c14 => ?_)
    · have hC0 : CI cI cV E L f i n s.heap.size 10 (5 * (16 - o) + 3) v21 v21 p21 ([] ++ N21) E21 f21 := CI.start (hQ21.up (dm2 := 1) (by omega) (by omega) hzz21 (by omega) (by omega))
      refine va_new (ci := 0) (fs := [.int 0, .null, .null, .null, .null, .null]) (C := R_Condition) (T := F_Condition) (N := 6) hx hb hts in_Condition t_Condition t_Condition_ok hown (hts _ z_670) (hts _ z_671) (hts _ z_26) hK hP hD hS hA rfl (fun j hj => by rcases (show j = 0 ∨ j = 1 ∨ j = 2 ∨ j = 3 ∨ j = 4 ∨ j = 5 by omega) with rfl | rfl | rfl | rfl | rfl | rfl <;> rfl) (by show (0 + (8 * (p21 - i) + 0 - 0)) + 1 ≤ 8 * (n - i) + 20; omega) (by show (0 + (64 * (p21 - i) + 0 - 24)) + 6 ≤ 64 * (n - i) + 200; omega) d_QueryReader_or_19 (fun kc H hP hD hS => ?_)
      have hz_kc := newB (X := [(qr, .inr (5, [.ref h0, .int (nI o)])), (h0, .inr (8, [.ref qb, .ref qu, .int uc21, .int ln, .int (nI n), .int (nI p21), .int pl])), (qb, .inl (cB, 4096, .inl bf)), (qu, .inl (cI, 4096, .inl ug21))]) hAe hD (fun k x hk => by rcases k with _ | _ | _ | _ | k; (· cases hk; exact ⟨0, _, rfl⟩); (· cases hk; exact ⟨1, _, rfl⟩); (· cases hk; exact ⟨2, _, rfl⟩); (· cases hk; exact ⟨3, _, rfl⟩); (· cases hk))
      have hP := hP.swap
      have hD := hD.swap
      have hP : va_P (dC, dI) classes ([(qr, .inr (5, [.ref h0, .int (nI o)])), (h0, .inr (8, [.ref qb, .ref qu, .int uc21, .int ln, .int (nI n), .int (nI p21), .int pl])), (qb, .inl (cB, 4096, .inl bf)), (qu, .inl (cI, 4096, .inl ug21)), (kc, .inr (0, [.int 0, .null, .null, .null, .null, .null]))] ++ va_pl ((L ++ ([] ++ N21))) f21) H := hP
      have hD : va_D A ([(qr, .inr (5, [.ref h0, .int (nI o)])), (h0, .inr (8, [.ref qb, .ref qu, .int uc21, .int ln, .int (nI n), .int (nI p21), .int pl])), (qb, .inl (cB, 4096, .inl bf)), (qu, .inl (cI, 4096, .inl ug21)), (kc, .inr (0, [.int 0, .null, .null, .null, .null, .null]))] ++ va_pl ((L ++ ([] ++ N21))) f21) := hD
      refine lv_dup hx hb d_QueryReader_or_22 rfl ?_
      refine lv_iconst (v := 0) hx hb d_QueryReader_or_23 (by decide) ?_
      have hPc := hP.sub (ws' := [(kc, .inr (0, [.int 0, .null, .null, .null, .null, .null]))]) [4] rfl
      have hDc := hD.sub (ws' := [(kc, .inr (0, [.int 0, .null, .null, .null, .null, .null]))]) [4] (by decide) rfl
      have hFc := va_free (wc := [(kc, .inr (0, [.int 0, .null, .null, .null, .null, .null]))]) hD hS hA [4] rfl
      have hKc := hK.sub (tys' := []) [] rfl
      refine w_same (fun hq0 => ?_)
      refine va_callv (va_runI (As := [.int 0]) (rest := [.ref kc]) ⟨hx, hb, hml, hown, hts⟩ (c_Condition_init l dC dI H kc 0) (cwI 1 hts (gt_code i_Condition_init) rfl rfl rfl (hts _ z_26) (hts _ z_672) (hts _ z_673) rfl (by decide +kernel) ⟨by show 1 + 1 ≤ 12 * (16 - o) + 21; omega, by show 8 + (2 + 11) + (20) ≤ 360 * (16 - o) + 630; omega⟩) ⟨mp_blind, fun U hU hW => ⟨rfl, hU, by rw [hU]; exact hPc, va_K.moved hW.alike hKc, hDc.weaken (fun _ _ _ _ => trivial)⟩⟩ rfl rfl hl.1 rfl (lv_room (Nat.le_of_ble_eq_true rfl)) d_QueryReader_or_24 ⟨by show ((0 + (8 * (p21 - i) + 0 - 0)) + 1) + (0) ≤ 8 * (n - i) + 20; omega, by show ((0 + (64 * (p21 - i) + 0 - 24)) + 6) + (0) ≤ 64 * (n - i) + 200; omega⟩) hS (fun q _ h => hFc q h) hFc (fun _u t9 H1 locs ht hvm hw hB hz1 hk1 hS => ?_)
      obtain ⟨⟨hP1, hK1, hD1⟩, hz9⟩ := hB
      rw [ht] at hP1
      rw [ht] at hz9
      have hq0 : szk s.heap H1 (((0 + (8 * (p21 - i) + 0 - 0)) + 1)) (((0 + (64 * (p21 - i) + 0 - 24)) + 6)) := (hq0.trans hz9).mono (Nat.le_of_eq (Nat.add_zero _)) (Nat.le_of_eq (Nat.add_zero _))
      refine w_tight hq0 ?_
      obtain ⟨hP, hD⟩ := va_joinQ (wr := [(qr, .inr (5, [.ref h0, .int (nI o)])), (h0, .inr (8, [.ref qb, .ref qu, .int uc21, .int ln, .int (nI n), .int (nI p21), .int pl])), (qb, .inl (cB, 4096, .inl bf)), (qu, .inl (cI, 4096, .inl ug21))]) (w1 := [(kc, .inr (0, [.int 0, .null, .null, .null, .null, .null]))]) hP hD [4] [0, 1, 2, 3] rfl rfl (by decide) (by decide) hk1 hFc hP1 hD1
      generalize H1 = H at hP hS hq0 ⊢
      have hP : va_P (dC, dI) classes ([(qr, .inr (5, [.ref h0, .int (nI o)])), (h0, .inr (8, [.ref qb, .ref qu, .int uc21, .int ln, .int (nI n), .int (nI p21), .int pl])), (qb, .inl (cB, 4096, .inl bf)), (qu, .inl (cI, 4096, .inl ug21)), (kc, .inr (0, [.int 0, .null, .null, .null, .null, .null]))] ++ va_pl ((L ++ ([] ++ N21))) f21) H := hP
      have hD : va_D A ([(qr, .inr (5, [.ref h0, .int (nI o)])), (h0, .inr (8, [.ref qb, .ref qu, .int uc21, .int ln, .int (nI n), .int (nI p21), .int pl])), (qb, .inl (cB, 4096, .inl bf)), (qu, .inl (cI, 4096, .inl ug21)), (kc, .inr (0, [.int 0, .null, .null, .null, .null, .null]))] ++ va_pl ((L ++ ([] ++ N21))) f21) := hD
      refine lv_astore_n (lv' := [(2, .ref kc), (1, .ref v21), (0, .ref qr)]) hx hb d_QueryReader_or_27 rfl hl (by decide) rfl (fun ls hl => ?_)
      refine lv_aload_n hx hb d_QueryReader_or_28 rfl (lv_at hl 0 rfl) ?_
      refine lv_aload_n hx hb d_QueryReader_or_29 rfl (lv_at hl 1 rfl) ?_
      refine va_put (D := (dC, dI)) (ci := 0) (v := .ref v21) (ty := .object "QueryBench$Condition") (C := R_Condition) (T := F_Condition) (N := 6) hx hb hts in_Condition t_Condition t_Condition_ok n_Condition hown hK hP hD hS 4 rfl rfl 1 (by decide) (hts _ z_678) (fun _ h9 => h9) rfl (by decide +kernel) rfl rfl (Nat.le_of_ble_eq_true rfl) d_QueryReader_or_30 (fun H locs hP hD hS => ?_)
      have hP : va_P (dC, dI) classes ([(qr, .inr (5, [.ref h0, .int (nI o)])), (h0, .inr (8, [.ref qb, .ref qu, .int uc21, .int ln, .int (nI n), .int (nI p21), .int pl])), (qb, .inl (cB, 4096, .inl bf)), (qu, .inl (cI, 4096, .inl ug21)), (kc, .inr (0, [.int 0, .ref v21, .null, .null, .null, .null]))] ++ va_pl ((L ++ ([] ++ N21))) f21) H := hP
      have hD : va_D A ([(qr, .inr (5, [.ref h0, .int (nI o)])), (h0, .inr (8, [.ref qb, .ref qu, .int uc21, .int ln, .int (nI n), .int (nI p21), .int pl])), (qb, .inl (cB, 4096, .inl bf)), (qu, .inl (cI, 4096, .inl ug21)), (kc, .inr (0, [.int 0, .ref v21, .null, .null, .null, .null]))] ++ va_pl ((L ++ ([] ++ N21))) f21) := hD
      refine lv_aload_n hx hb d_QueryReader_or_33 rfl (lv_at hl 1 rfl) ?_
      refine lv_astore_n (lv' := [(3, .ref v21), (2, .ref kc), (1, .ref v21), (0, .ref qr)]) hx hb d_QueryReader_or_34 rfl hl (by decide) rfl (fun ls hl => ?_)
      refine lv_iconst (v := 0) hx hb d_QueryReader_or_35 (by decide) ?_
      refine lv_istore (lv' := [(4, .int 0), (3, .ref v21), (2, .ref kc), (1, .ref v21), (0, .ref qr)]) hx hb d_QueryReader_or_36 hl (by decide) rfl (fun ls hl => ?_)
      refine w_same (fun hq => ?_)
      refine W.widen (k := 8 * (n - i) + 20) (n := 64 * (n - i) + 200) (by show ((0 + (8 * (p21 - i) + 0 - 0)) + 1) ≤ 8 * (n - i) + 20; omega) (by show ((0 + (64 * (p21 - i) + 0 - 24)) + 6) ≤ 64 * (n - i) + 200; omega) ?_
      refine w_loopG (D := (dC, dI)) (cl := classes) (A := A) (H0 := s.heap) (nL := 5) 38 (σ := Nat × Nat × Nat × List Nat × (Nat → Nat) × (Nat → va_E) × Int32 × (Nat → Int32)) (fun ⟨m9, y, p, N, E1, f1, uc, ug⟩ H => m9 ≤ 4096 ∧ m9 + i + 1 ≤ p ∧ CI cI cV E L f i n s.heap.size 10 (5 * (16 - o) + 3) v21 y p N E1 f1 ∧ szk s.heap H (8 * (p - i) + 1) (64 * (p - i) - 18) ∧ SLd KD 2 (liD bf n (anD bf n ok orL cmL qyL) 124 (4098 - 0) p21) (liD bf n (anD bf n ok orL cmL qyL) 124 (4098 - m9) p) E E1 f1 v21 y m21 m9) (fun ⟨m9, y, p, N, E1, f1, uc, ug⟩ => 4097 - m9) (fun ⟨m9, y, p, N, E1, f1, uc, ug⟩ => [(qr, .inr (5, [.ref h0, .int (nI o)])), (h0, .inr (8, [.ref qb, .ref qu, .int uc, .int ln, .int (nI n), .int (nI p), .int pl])), (qb, .inl (cB, 4096, .inl bf)), (qu, .inl (cI, 4096, .inl ug)), (kc, .inr (0, [.int 0, .ref v21, .null, .null, .null, .null]))] ++ va_pl ((L ++ N)) f1) (fun ⟨m9, y, p, N, E1, f1, uc, ug⟩ => [(0, .ref qr), (1, .ref v21), (2, .ref kc), (3, .ref y), (4, .int (nI m9))]) ?_ (0, v21, p21, ([] ++ N21), E21, f21, uc21, ug21) ⟨Nat.zero_le _, (by show 0 + i + 1 ≤ p21; omega), hC0, hq.mono (by show ((0 + (8 * (p21 - i) + 0 - 0)) + 1) ≤ 8 * (p21 - i) + 1; omega) (by show ((0 + (64 * (p21 - i) + 0 - 24)) + 6) ≤ 64 * (p21 - i) - 18; omega), SLd.start hd21 (by decide)⟩ hP hD hS (lv_sub hl [4, 3, 2, 1, 0] rfl)
      rintro ⟨m9, y, p, N, E1, f1, uc, ug⟩ H locs ls hI ih hP hD hS hl
      obtain ⟨hm9, hp1, hCh, hIz, hLf⟩ := hI
      have hm9 : m9 ≤ 4096 := hm9
      have hp1 : m9 + i + 1 ≤ p := hp1
      have hLf : SLd KD 2 (liD bf n (anD bf n ok orL cmL qyL) 124 (4098 - 0) p21) (liD bf n (anD bf n ok orL cmL qyL) 124 (4098 - m9) p) E E1 f1 v21 y m21 m9 := hLf
      have hCh : CI cI cV E L f i n s.heap.size 10 (5 * (16 - o) + 3) v21 y p N E1 f1 := hCh
      have hp2 := hCh.le
      have hmL : m9 ≤ 4095 := by omega
      have hIz : szk s.heap H (8 * (p - i) + 1) (64 * (p - i) - 18) := hIz
      refine w_tight hIz ?_
      obtain ⟨lv1, hG, hlx, hly⟩ := hCh.x lv hO _ (Nat.le_refl _)
      have hP : va_P (dC, dI) classes ([(qr, .inr (5, [.ref h0, .int (nI o)])), (h0, .inr (8, [.ref qb, .ref qu, .int uc, .int ln, .int (nI n), .int (nI p), .int pl])), (qb, .inl (cB, 4096, .inl bf)), (qu, .inl (cI, 4096, .inl ug)), (kc, .inr (0, [.int 0, .ref v21, .null, .null, .null, .null]))] ++ va_pl ((L ++ N)) f1) H := hP
      have hD : va_D A ([(qr, .inr (5, [.ref h0, .int (nI o)])), (h0, .inr (8, [.ref qb, .ref qu, .int uc, .int ln, .int (nI n), .int (nI p), .int pl])), (qb, .inl (cB, 4096, .inl bf)), (qu, .inl (cI, 4096, .inl ug)), (kc, .inr (0, [.int 0, .ref v21, .null, .null, .null, .null]))] ++ va_pl ((L ++ N)) f1) := hD
      have hl : lv_has ls 5 [(0, .ref qr), (1, .ref v21), (2, .ref kc), (3, .ref y), (4, .int (nI m9))] := hl
      refine lv_iload hx hb d_QueryReader_or_38 (lv_at hl 4 rfl) ?_
      refine lv_sipush (v := 4096) hx hb d_QueryReader_or_40 (by decide) ?_
      refine lv_icmp_ge (tgt := 86) hx hb d_QueryReader_or_43 (by decide) (fun c43 => ?_) (fun c43 => ?_)
      · rw [show (4096 : Int32) = nI 4096 from rfl, nI_leI (by omega) (by omega)] at c43
        exact absurd c43 (by omega)
      · refine lv_aload_n hx hb d_QueryReader_or_46 rfl (lv_at hl 0 rfl) ?_
        refine va_get (D := (dC, dI)) (ci := 5) (v := .ref h0) (C := R_QueryReader) (T := F_QueryReader) (N := 2) hx hb hts in_QueryReader hown hK hP 0 rfl rfl 0 (by decide) (hts _ w_100) (fun _ h9 => h9) rfl d_QueryReader_or_47 ?_
        refine lv_bipush (v := 124) hx hb d_QueryReader_or_50 (by decide) ?_
        have hPc := hP.sub (ws' := [(h0, .inr (8, [.ref qb, .ref qu, .int uc, .int ln, .int (nI n), .int (nI p), .int pl])), (qb, .inl (cB, 4096, .inl bf))]) [1, 2] rfl
        have hDc := hD.sub (ws' := [(h0, .inr (8, [.ref qb, .ref qu, .int uc, .int ln, .int (nI n), .int (nI p), .int pl])), (qb, .inl (cB, 4096, .inl bf))]) [1, 2] (by decide) rfl
        have hFc := va_free (wc := [(h0, .inr (8, [.ref qb, .ref qu, .int uc, .int ln, .int (nI n), .int (nI p), .int pl])), (qb, .inl (cB, 4096, .inl bf))]) hD hS hA [1, 2] rfl
        have hKc := hK.sub (tys' := [(cB, .byte)]) [0] rfl
        refine va_calli (va_runV (As := [.int 124]) (rest := []) ⟨hx, hb, hml, hown, hts⟩ (c_Tape_takeIf l dC dI cB h0 qb H (.ref qu) uc ln pl bf n p 124 hn0 (by omega)) (cwV 1 hts (gt_V (own := R_QueryReader) (C := R_Tape) (i := 58) (y := y_Tape_takeIf) i_Tape_takeIf z_589 z_393 z_394 w_2) rfl rfl rfl (by decide +kernel) ⟨by show 1 + 1 ≤ 12 * (16 - o) + 21; omega, by show 8 + (2 + 11) + (20) ≤ 360 * (16 - o) + 630; omega⟩) ⟨mp_blind, va_recv hK hP (ci := 8) (q0 := 1) rfl rfl, fun U hU hW => ⟨rfl, hU, by rw [hU]; exact hPc, va_K.moved hW.alike hKc, hDc.weaken (fun _ _ _ _ => trivial)⟩⟩ rfl rfl hl.1 rfl (lv_room (Nat.le_of_ble_eq_true rfl)) d_QueryReader_or_52 ⟨by show (8 * (p - i) + 1) + (0) ≤ 8 * (n - i) + 20; omega, by show (64 * (p - i) - 18) + (0) ≤ 64 * (n - i) + 200; omega⟩) hS (fun q _ h => hFc q h) hFc (fun r23 u23 t9 H1 locs ht hvm hw hB hz1 hk1 hS => ?_)
        obtain ⟨hP1, hK1, hD1⟩ := hB
        rw [ht] at hP1
        obtain ⟨hP, hD⟩ := va_joinQ (wr := [(qr, .inr (5, [.ref h0, .int (nI o)])), (qu, .inl (cI, 4096, .inl ug)), (kc, .inr (0, [.int 0, .ref v21, .null, .null, .null, .null]))]) (w1 := [(h0, .inr (8, [.ref qb, .ref qu, .int uc, .int ln, .int (nI n), .int (nI u23), .int pl])), (qb, .inl (cB, 4096, .inl bf))]) hP hD [1, 2] [0, 3, 4] rfl rfl (by decide) (by decide) hk1 hFc hP1 hD1
        generalize H1 = H at hP hS ⊢
        have hP : va_P (dC, dI) classes ([(qr, .inr (5, [.ref h0, .int (nI o)])), (qu, .inl (cI, 4096, .inl ug)), (kc, .inr (0, [.int 0, .ref v21, .null, .null, .null, .null])), (h0, .inr (8, [.ref qb, .ref qu, .int uc, .int ln, .int (nI n), .int (nI u23), .int pl])), (qb, .inl (cB, 4096, .inl bf))] ++ va_pl ((L ++ N)) f1) H := hP
        have hD : va_D A ([(qr, .inr (5, [.ref h0, .int (nI o)])), (qu, .inl (cI, 4096, .inl ug)), (kc, .inr (0, [.int 0, .ref v21, .null, .null, .null, .null])), (h0, .inr (8, [.ref qb, .ref qu, .int uc, .int ln, .int (nI n), .int (nI u23), .int pl])), (qb, .inl (cB, 4096, .inl bf))] ++ va_pl ((L ++ N)) f1) := hD
        have hP := hP.part (cx := [(qr, .inr (5, [.ref h0, .int (nI o)])), (h0, .inr (8, [.ref qb, .ref qu, .int uc, .int ln, .int (nI n), .int (nI u23), .int pl])), (qb, .inl (cB, 4096, .inl bf)), (qu, .inl (cI, 4096, .inl ug)), (kc, .inr (0, [.int 0, .ref v21, .null, .null, .null, .null]))]) [0, 3, 4, 1, 2] rfl
        have hD := hD.part (cx := [(qr, .inr (5, [.ref h0, .int (nI o)])), (h0, .inr (8, [.ref qb, .ref qu, .int uc, .int ln, .int (nI n), .int (nI u23), .int pl])), (qb, .inl (cB, 4096, .inl bf)), (qu, .inl (cI, 4096, .inl ug)), (kc, .inr (0, [.int 0, .ref v21, .null, .null, .null, .null]))]) [0, 3, 4, 1, 2] (by decide) rfl
        rcases hw with ⟨ht23, hr23, hu23⟩ | ⟨ht23, hr23, hu23⟩
        · have hu23 : u23 = p + 1 := hu23
          subst hr23
          rw [hu23] at hP hD
          have hl23 := here_lc ht23 (by decide)
          have hP : va_P (dC, dI) classes ([(qr, .inr (5, [.ref h0, .int (nI o)])), (h0, .inr (8, [.ref qb, .ref qu, .int uc, .int ln, .int (nI n), .int (nI (p + 1)), .int pl])), (qb, .inl (cB, 4096, .inl bf)), (qu, .inl (cI, 4096, .inl ug)), (kc, .inr (0, [.int 0, .ref v21, .null, .null, .null, .null]))] ++ va_pl ((L ++ N)) f1) H := hP
          have hD : va_D A ([(qr, .inr (5, [.ref h0, .int (nI o)])), (h0, .inr (8, [.ref qb, .ref qu, .int uc, .int ln, .int (nI n), .int (nI (p + 1)), .int pl])), (qb, .inl (cB, 4096, .inl bf)), (qu, .inl (cI, 4096, .inl ug)), (kc, .inr (0, [.int 0, .ref v21, .null, .null, .null, .null]))] ++ va_pl ((L ++ N)) f1) := hD
          refine lv_if_eq (tgt := 86) hx hb d_QueryReader_or_55 (by decide) (fun h => absurd h (by decide)) (fun _ => ?_)
          refine lv_aload_n hx hb d_QueryReader_or_58 rfl (lv_at hl 0 rfl) ?_
          refine va_get (D := (dC, dI)) (ci := 5) (v := .ref h0) (C := R_QueryReader) (T := F_QueryReader) (N := 2) hx hb hts in_QueryReader hown hK hP 0 rfl rfl 0 (by decide) (hts _ w_100) (fun _ h9 => h9) rfl d_QueryReader_or_59 ?_
          refine lv_bipush (v := 124) hx hb d_QueryReader_or_62 (by decide) ?_
          have hPc := hP.sub (ws' := [(h0, .inr (8, [.ref qb, .ref qu, .int uc, .int ln, .int (nI n), .int (nI (p + 1)), .int pl])), (qb, .inl (cB, 4096, .inl bf))]) [1, 2] rfl
          have hDc := hD.sub (ws' := [(h0, .inr (8, [.ref qb, .ref qu, .int uc, .int ln, .int (nI n), .int (nI (p + 1)), .int pl])), (qb, .inl (cB, 4096, .inl bf))]) [1, 2] (by decide) rfl
          have hFc := va_free (wc := [(h0, .inr (8, [.ref qb, .ref qu, .int uc, .int ln, .int (nI n), .int (nI (p + 1)), .int pl])), (qb, .inl (cB, 4096, .inl bf))]) hD hS hA [1, 2] rfl
          have hKc := hK.sub (tys' := [(cB, .byte)]) [0] rfl
          refine w_same (fun hq0 => ?_)
          refine vx_callv (vx_runV (As := [.int 124]) (rest := []) ⟨hx, hb, hml, hown, hts⟩ (c_Tape_take l hl9 dC dI cB h0 qb H (.ref qu) uc ln pl bf n ((p + 1)) 124 hn0 (by omega)) (cwV 1 hts (gt_V (own := R_QueryReader) (C := R_Tape) (i := 164) (y := y_Tape_take) i_Tape_take z_598 w_437 w_438 w_2) rfl rfl rfl (by decide +kernel) ⟨by show 9 + 1 ≤ 12 * (16 - o) + 21; omega, by show 8 + (2 + 11) + (131) ≤ 360 * (16 - o) + 630; omega⟩) ⟨mx_blind, va_recv hK hP (ci := 8) (q0 := 1) rfl rfl, fun U hU hW => ⟨rfl, ⟨hU, by rw [hU]; exact hPc, va_K.moved hW.alike hKc, hDc.weaken (fun _ _ _ _ => trivial)⟩, hN.warm hW, by rw [hU]; exact ZX.moved' hW.alike (ZX.narrow' (ZX.kept' hZ hS.2.1) hFc)⟩⟩ rfl rfl hl.1 rfl (lv_room (Nat.le_of_ble_eq_true rfl)) d_QueryReader_or_64 ⟨by show (8 * (p - i) + 1) + (1) ≤ 8 * (n - i) + 20; omega, by show (64 * (p - i) - 18) + (6) ≤ 64 * (n - i) + 200; omega⟩) hS (fun q _ h => hFc q h) hFc (fun q _ h => hFc q h) (fun En ce q9 _u t9 H1 locs ht hvm hw hB hz1 hk1 hS hce hcv hcl => ?_) (fun _u t9 H1 locs ht hvm hw hB hz1 hk1 hS => ?_)
          · obtain ⟨hEn, hP1, hK1, hD1⟩ := hB
            rw [ht] at hP1
            obtain ⟨hP, hD⟩ := va_joinQ (wr := [(qr, .inr (5, [.ref h0, .int (nI o)])), (qu, .inl (cI, 4096, .inl ug)), (kc, .inr (0, [.int 0, .ref v21, .null, .null, .null, .null]))]) (w1 := [(h0, .inr (8, [.ref qb, .ref qu, .int uc, .int ln, .int (nI n), .int (nI (p + 1)), .int (nI (p + 1))])), (qb, .inl (cB, 4096, .inl bf))]) hP hD [1, 2] [0, 3, 4] rfl rfl (by decide) (by decide) hk1 hFc hP1 hD1
            generalize H1 = H at hP hS hce ⊢
            have hP : va_P (dC, dI) classes ([(qr, .inr (5, [.ref h0, .int (nI o)])), (qu, .inl (cI, 4096, .inl ug)), (kc, .inr (0, [.int 0, .ref v21, .null, .null, .null, .null])), (h0, .inr (8, [.ref qb, .ref qu, .int uc, .int ln, .int (nI n), .int (nI (p + 1)), .int (nI (p + 1))])), (qb, .inl (cB, 4096, .inl bf))] ++ va_pl ((L ++ N)) f1) H := hP
            have hD : va_D A ([(qr, .inr (5, [.ref h0, .int (nI o)])), (qu, .inl (cI, 4096, .inl ug)), (kc, .inr (0, [.int 0, .ref v21, .null, .null, .null, .null])), (h0, .inr (8, [.ref qb, .ref qu, .int uc, .int ln, .int (nI n), .int (nI (p + 1)), .int (nI (p + 1))])), (qb, .inl (cB, 4096, .inl bf))] ++ va_pl ((L ++ N)) f1) := hD
            have hP := hP.part (cx := [(qr, .inr (5, [.ref h0, .int (nI o)])), (h0, .inr (8, [.ref qb, .ref qu, .int uc, .int ln, .int (nI n), .int (nI (p + 1)), .int (nI (p + 1))])), (qb, .inl (cB, 4096, .inl bf)), (qu, .inl (cI, 4096, .inl ug)), (kc, .inr (0, [.int 0, .ref v21, .null, .null, .null, .null]))]) [0, 3, 4, 1, 2] rfl
            have hD := hD.part (cx := [(qr, .inr (5, [.ref h0, .int (nI o)])), (h0, .inr (8, [.ref qb, .ref qu, .int uc, .int ln, .int (nI n), .int (nI (p + 1)), .int (nI (p + 1))])), (qb, .inl (cB, 4096, .inl bf)), (qu, .inl (cI, 4096, .inl ug)), (kc, .inr (0, [.int 0, .ref v21, .null, .null, .null, .null]))]) [0, 3, 4, 1, 2] (by decide) rfl
            have hP := plP_cut (hP.part (cx := [(qr, .inr (5, [.ref h0, .int (nI o)])), (h0, .inr (8, [.ref qb, .ref qu, .int uc, .int ln, .int (nI n), .int (nI (p + 1)), .int (nI (p + 1))])), (qb, .inl (cB, 4096, .inl bf)), (qu, .inl (cI, 4096, .inl ug))]) [0, 1, 2, 3] rfl) hG.on
            have hD := plD_cut (hD.part (cx := [(qr, .inr (5, [.ref h0, .int (nI o)])), (h0, .inr (8, [.ref qb, .ref qu, .int uc, .int ln, .int (nI n), .int (nI (p + 1)), .int (nI (p + 1))])), (qb, .inl (cB, 4096, .inl bf)), (qu, .inl (cI, 4096, .inl ug))]) [0, 1, 2, 3] (by decide) rfl) hG.on
            have hno : (orD bf n ok orL cmL qyL) i = none := hl0.trans (mp_none (hLf.n (liD_0 hmL ht23 hw)))
            exact vx_out (fun x hx => (hex x hx).elim) hlocks hce hcv hcl (fun t9 ht2 ha => ⟨(nI (p + 1), uc, nI (p + 1), ug, nI o), hno, ⟨hEn, by rw [ht2]; exact hP, va_K.moved ha hK, hD⟩, hS.F ht2⟩) hS.2.2 (by show (8 * (p - i) + 1) + (1) ≤ 8 * (n - i) + 20; omega) (by show (64 * (p - i) - 18) + (6) ≤ 64 * (n - i) + 200; omega)
          · obtain ⟨⟨hP1, hK1, hD1⟩, hz9⟩ := hB
            rw [ht] at hP1
            rw [ht] at hz9
            refine w_tight (hq0.trans hz9) ?_
            have hq0 := hq0.trans hz9
            obtain ⟨hP, hD⟩ := va_joinQ (wr := [(qr, .inr (5, [.ref h0, .int (nI o)])), (qu, .inl (cI, 4096, .inl ug)), (kc, .inr (0, [.int 0, .ref v21, .null, .null, .null, .null]))]) (w1 := [(h0, .inr (8, [.ref qb, .ref qu, .int uc, .int ln, .int (nI n), .int (nI ((p + 1) + 1)), .int pl])), (qb, .inl (cB, 4096, .inl bf))]) hP hD [1, 2] [0, 3, 4] rfl rfl (by decide) (by decide) hk1 hFc hP1 hD1
            generalize H1 = H at hP hS hq0 ⊢
            have hP : va_P (dC, dI) classes ([(qr, .inr (5, [.ref h0, .int (nI o)])), (qu, .inl (cI, 4096, .inl ug)), (kc, .inr (0, [.int 0, .ref v21, .null, .null, .null, .null])), (h0, .inr (8, [.ref qb, .ref qu, .int uc, .int ln, .int (nI n), .int (nI ((p + 1) + 1)), .int pl])), (qb, .inl (cB, 4096, .inl bf))] ++ va_pl ((L ++ N)) f1) H := hP
            have hD : va_D A ([(qr, .inr (5, [.ref h0, .int (nI o)])), (qu, .inl (cI, 4096, .inl ug)), (kc, .inr (0, [.int 0, .ref v21, .null, .null, .null, .null])), (h0, .inr (8, [.ref qb, .ref qu, .int uc, .int ln, .int (nI n), .int (nI ((p + 1) + 1)), .int pl])), (qb, .inl (cB, 4096, .inl bf))] ++ va_pl ((L ++ N)) f1) := hD
            have hP := hP.part (cx := [(qr, .inr (5, [.ref h0, .int (nI o)])), (h0, .inr (8, [.ref qb, .ref qu, .int uc, .int ln, .int (nI n), .int (nI ((p + 1) + 1)), .int pl])), (qb, .inl (cB, 4096, .inl bf)), (qu, .inl (cI, 4096, .inl ug)), (kc, .inr (0, [.int 0, .ref v21, .null, .null, .null, .null]))]) [0, 3, 4, 1, 2] rfl
            have hD := hD.part (cx := [(qr, .inr (5, [.ref h0, .int (nI o)])), (h0, .inr (8, [.ref qb, .ref qu, .int uc, .int ln, .int (nI n), .int (nI ((p + 1) + 1)), .int pl])), (qb, .inl (cB, 4096, .inl bf)), (qu, .inl (cI, 4096, .inl ug)), (kc, .inr (0, [.int 0, .ref v21, .null, .null, .null, .null]))]) [0, 3, 4, 1, 2] (by decide) rfl
            have ht24 : hereV bf n ((p + 1)) = 124 := hw
            have hl24 := here_lc ht24 (by decide)
            refine lv_aload_n hx hb d_QueryReader_or_67 rfl (lv_at hl 3 rfl) ?_
            refine lv_aload_n hx hb d_QueryReader_or_68 rfl (lv_at hl 0 rfl) ?_
            have hyz : y < H.size := va_pl_lt hP (hG.po.inL (by rw [hCh.2.2.2.1]; decide))
            have hG25 := hG.mv (show p ≤ ((p + 1) + 1) by omega) (show ((p + 1) + 1) ≤ n by omega)
            have hzz25 : s.heap.size ≤ H.size := hS.1
            have hPc := hP.part (cx := [(qr, .inr (5, [.ref h0, .int (nI o)])), (h0, .inr (8, [.ref qb, .ref qu, .int uc, .int ln, .int (nI n), .int (nI ((p + 1) + 1)), .int pl])), (qb, .inl (cB, 4096, .inl bf)), (qu, .inl (cI, 4096, .inl ug))]) [0, 1, 2, 3] rfl
            have hDc := hD.part (cx := [(qr, .inr (5, [.ref h0, .int (nI o)])), (h0, .inr (8, [.ref qb, .ref qu, .int uc, .int ln, .int (nI n), .int (nI ((p + 1) + 1)), .int pl])), (qb, .inl (cB, 4096, .inl bf)), (qu, .inl (cI, 4096, .inl ug))]) [0, 1, 2, 3] (by decide) rfl
            have hFc := va_freeP (cx := [(qr, .inr (5, [.ref h0, .int (nI o)])), (h0, .inr (8, [.ref qb, .ref qu, .int uc, .int ln, .int (nI n), .int (nI ((p + 1) + 1)), .int pl])), (qb, .inl (cB, 4096, .inl bf)), (qu, .inl (cI, 4096, .inl ug))]) hD hS hA [0, 1, 2, 3] rfl
            have hKc := hK.sub (tys' := [(cB, .byte), (cI, .int), (cV, .object "QueryBench$Value")]) [0, 1, 2] rfl
            refine w_same (fun hq0 => ?_)
            refine vx_callr (vx_runV (As := []) (rest := [.ref y]) ⟨hx, hb, hml, hown, hts⟩ (HN H E1 lv1 (L ++ N) f1 (((p + 1) + 1)) uc pl ug hG25.po (by omega)) (cwV 0 hts (gt_V (own := R_QueryReader) (C := R_QueryReader) (i := 156) (y := y_QueryReader_and) i_QueryReader_and z_658 z_660 (gt_sel (y := y_QueryReader_and) (n := 2) (by decide +kernel)) w_4) rfl rfl rfl (by decide +kernel) ⟨by show 12 * (16 - o) + 20 + 1 ≤ 12 * (16 - o) + 21; omega, by show 8 + (5 + 11) + (360 * (16 - o) + 600) ≤ 360 * (16 - o) + 630; omega⟩) ⟨ml_blind, va_recv hK hP (ci := 5) (q0 := 0) rfl rfl, fun U hU hW => ⟨rfl, ⟨hU, by rw [hU]; exact hPc, va_K.moved hW.alike hKc, hDc.weaken (fun _ _ _ _ => trivial)⟩, hN.warm hW, by rw [hU]; exact ZX.moved' hW.alike (ZX.narrow' (ZX.kept' hZ hS.2.1) hFc), by rw [hU]; exact CE.call hC hS.2.1 hFc hW, va_AO.moved hW.alike hV⟩⟩ rfl rfl hl.1 rfl (lv_room (Nat.le_of_ble_eq_true rfl)) d_QueryReader_or_69 ⟨by show (8 * (p - i) + 1) + (8 * (n - ((p + 1) + 1)) + 20) ≤ 8 * (n - i) + 20; omega, by show (64 * (p - i) - 18) + (64 * (n - ((p + 1) + 1)) + 200) ≤ 64 * (n - i) + 200; omega⟩) hS (fun q _ h => hFc q h) hFc (fun q _ h => hFc q h) (fun En ce q9 ⟨ax, cx, px, gx, ox⟩ t9 H1 locs ht hvm hw hB hz1 hk1 hS hce hcv hcl => ?_) (fun ⟨w25, p25, N25, E25, f25, uc25, ug25⟩ v25 t9 H1 locs ht hvm hw hB hz1 hk1 hS => ?_)
            · obtain ⟨hEn, hP1, hK1, hD1⟩ := hB
              rw [ht] at hP1
              obtain ⟨hP, hD⟩ := va_joinP (wr := [(kc, .inr (0, [.int 0, .ref v21, .null, .null, .null, .null]))]) (rx := [(qr, .inr (5, [.ref h0, .int ox])), (h0, .inr (8, [.ref qb, .ref qu, .int cx, .int ln, .int (nI n), .int ax, .int px])), (qb, .inl (cB, 4096, .inl bf)), (qu, .inl (cI, 4096, .inl gx))]) (pl1 := va_pl ((L ++ N)) f1) hP hD [0, 1, 2, 3] [4] rfl rfl (by decide) (by decide) hk1 hFc hP1 hD1
              generalize H1 = H at hP hS hce ⊢
              have hP : va_P (dC, dI) classes ([(kc, .inr (0, [.int 0, .ref v21, .null, .null, .null, .null])), (qr, .inr (5, [.ref h0, .int ox])), (h0, .inr (8, [.ref qb, .ref qu, .int cx, .int ln, .int (nI n), .int ax, .int px])), (qb, .inl (cB, 4096, .inl bf)), (qu, .inl (cI, 4096, .inl gx))] ++ va_pl ((L ++ N)) f1) H := hP
              have hD : va_D A ([(kc, .inr (0, [.int 0, .ref v21, .null, .null, .null, .null])), (qr, .inr (5, [.ref h0, .int ox])), (h0, .inr (8, [.ref qb, .ref qu, .int cx, .int ln, .int (nI n), .int ax, .int px])), (qb, .inl (cB, 4096, .inl bf)), (qu, .inl (cI, 4096, .inl gx))] ++ va_pl ((L ++ N)) f1) := hD
              have hP := hP.part (cx := [(qr, .inr (5, [.ref h0, .int ox])), (h0, .inr (8, [.ref qb, .ref qu, .int cx, .int ln, .int (nI n), .int ax, .int px])), (qb, .inl (cB, 4096, .inl bf)), (qu, .inl (cI, 4096, .inl gx)), (kc, .inr (0, [.int 0, .ref v21, .null, .null, .null, .null]))]) [1, 2, 3, 4, 0] rfl
              have hD := hD.part (cx := [(qr, .inr (5, [.ref h0, .int ox])), (h0, .inr (8, [.ref qb, .ref qu, .int cx, .int ln, .int (nI n), .int ax, .int px])), (qb, .inl (cB, 4096, .inl bf)), (qu, .inl (cI, 4096, .inl gx)), (kc, .inr (0, [.int 0, .ref v21, .null, .null, .null, .null]))]) [1, 2, 3, 4, 0] (by decide) rfl
              have hP := plP_cut (hP.part (cx := [(qr, .inr (5, [.ref h0, .int ox])), (h0, .inr (8, [.ref qb, .ref qu, .int cx, .int ln, .int (nI n), .int ax, .int px])), (qb, .inl (cB, 4096, .inl bf)), (qu, .inl (cI, 4096, .inl gx))]) [0, 1, 2, 3] rfl) hG25.on
              have hD := plD_cut (hD.part (cx := [(qr, .inr (5, [.ref h0, .int ox])), (h0, .inr (8, [.ref qb, .ref qu, .int cx, .int ln, .int (nI n), .int ax, .int px])), (qb, .inl (cB, 4096, .inl bf)), (qu, .inl (cI, 4096, .inl gx))]) [0, 1, 2, 3] (by decide) rfl) hG25.on
              have hno : (orD bf n ok orL cmL qyL) i = none := hl0.trans (mp_none (hLf.n (liD_1 hmL ht23 ht24 hw)))
              exact vx_out (fun x hx => (hex x hx).elim) hlocks hce hcv hcl (fun t9 ht2 ha => ⟨(ax, cx, px, gx, ox), hno, ⟨hEn, by rw [ht2]; exact hP, va_K.moved ha hK, hD⟩, hS.F ht2⟩) hS.2.2 (by show (8 * (p - i) + 1) + (8 * (n - ((p + 1) + 1)) + 20) ≤ 8 * (n - i) + 20; omega) (by show (64 * (p - i) - 18) + (64 * (n - ((p + 1) + 1)) + 200) ≤ 64 * (n - i) + 200; omega)
            · obtain ⟨⟨hP1, hK1, hD1⟩, hz9, ha9⟩ := hB
              rw [ht] at hP1
              rw [ht] at hz9
              have ha9 : v25 = w25 := ha9
              subst ha9
              have hq0 : szk s.heap H1 ((8 * (p - i) + 1) + (8 * (p25 - ((p + 1) + 1)) + 0 - 0)) ((64 * (p - i) - 18) + (64 * (p25 - ((p + 1) + 1)) + 0 - 24)) := (hq0.trans hz9).mono (Nat.le_refl _) (Nat.le_refl _)
              refine w_tight hq0 ?_
              obtain ⟨hP, hD⟩ := va_joinP (wr := [(kc, .inr (0, [.int 0, .ref v21, .null, .null, .null, .null]))]) (rx := [(qr, .inr (5, [.ref h0, .int (nI o)])), (h0, .inr (8, [.ref qb, .ref qu, .int uc25, .int ln, .int (nI n), .int (nI p25), .int pl])), (qb, .inl (cB, 4096, .inl bf)), (qu, .inl (cI, 4096, .inl ug25))]) (pl1 := va_pl (((L ++ N) ++ N25)) f25) hP hD [0, 1, 2, 3] [4] rfl rfl (by decide) (by decide) hk1 hFc hP1 hD1
              generalize H1 = H at hP hS hq0 ⊢
              have hP : va_P (dC, dI) classes ([(kc, .inr (0, [.int 0, .ref v21, .null, .null, .null, .null])), (qr, .inr (5, [.ref h0, .int (nI o)])), (h0, .inr (8, [.ref qb, .ref qu, .int uc25, .int ln, .int (nI n), .int (nI p25), .int pl])), (qb, .inl (cB, 4096, .inl bf)), (qu, .inl (cI, 4096, .inl ug25))] ++ va_pl (((L ++ N) ++ N25)) f25) H := hP
              have hD : va_D A ([(kc, .inr (0, [.int 0, .ref v21, .null, .null, .null, .null])), (qr, .inr (5, [.ref h0, .int (nI o)])), (h0, .inr (8, [.ref qb, .ref qu, .int uc25, .int ln, .int (nI n), .int (nI p25), .int pl])), (qb, .inl (cB, 4096, .inl bf)), (qu, .inl (cI, 4096, .inl ug25))] ++ va_pl (((L ++ N) ++ N25)) f25) := hD
              have hP := hP.part (cx := [(qr, .inr (5, [.ref h0, .int (nI o)])), (h0, .inr (8, [.ref qb, .ref qu, .int uc25, .int ln, .int (nI n), .int (nI p25), .int pl])), (qb, .inl (cB, 4096, .inl bf)), (qu, .inl (cI, 4096, .inl ug25)), (kc, .inr (0, [.int 0, .ref v21, .null, .null, .null, .null]))]) [1, 2, 3, 4, 0] rfl
              have hD := hD.part (cx := [(qr, .inr (5, [.ref h0, .int (nI o)])), (h0, .inr (8, [.ref qb, .ref qu, .int uc25, .int ln, .int (nI n), .int (nI p25), .int pl])), (qb, .inl (cB, 4096, .inl bf)), (qu, .inl (cI, 4096, .inl ug25)), (kc, .inr (0, [.int 0, .ref v21, .null, .null, .null, .null]))]) [1, 2, 3, 4, 0] (by decide) rfl
              obtain ⟨hw, m25, hf25, hd25⟩ := hw
              have hf25 : (anD bf n ok orL cmL qyL) (((p + 1) + 1)) = some (p25, m25) := hf25
              have hd25 : DNx KD 2 E1 E25 f25 v25 m25 := hd25
              have hQ25 : QPn cI cV E1 (L ++ N) f1 (((p + 1) + 1)) n _ 10 (5 * (16 - o) + 3) 1 v25 p25 N25 E25 f25 := hw
              obtain ⟨lv25, hg25, hlv25⟩ := hQ25.x lv1 hG25.po _ (Nat.le_refl _)
              have hex25 := hg25.ex
              have hge25 := hg25.ge hQ25.new (by rw [hQ25.so]; decide)
              have hkp25 : KPx E1 E25 f1 f25 := KPx.of hg25 hG25.po
              have hnv25 : E1 v25 = 0 := hQ25.new
              have hsv25 : ¬ E25 v25 = 0 := by rw [hQ25.so]; decide
              have hG25 := hG25.tr hg25 hzz25
              obtain ⟨ha25, hb25⟩ := hQ25.num
              have ha25 : ((p + 1) + 1) + 1 ≤ p25 := ha25
              have hb25 : p25 ≤ n := hb25
              rw [List.append_assoc] at hP hD
              have hP : va_P (dC, dI) classes ([(qr, .inr (5, [.ref h0, .int (nI o)])), (h0, .inr (8, [.ref qb, .ref qu, .int uc25, .int ln, .int (nI n), .int (nI p25), .int pl])), (qb, .inl (cB, 4096, .inl bf)), (qu, .inl (cI, 4096, .inl ug25)), (kc, .inr (0, [.int 0, .ref v21, .null, .null, .null, .null]))] ++ va_pl ((L ++ (N ++ N25))) f25) H := hP
              have hD : va_D A ([(qr, .inr (5, [.ref h0, .int (nI o)])), (h0, .inr (8, [.ref qb, .ref qu, .int uc25, .int ln, .int (nI n), .int (nI p25), .int pl])), (qb, .inl (cB, 4096, .inl bf)), (qu, .inl (cI, 4096, .inl ug25)), (kc, .inr (0, [.int 0, .ref v21, .null, .null, .null, .null]))] ++ va_pl ((L ++ (N ++ N25))) f25) := hD
              have hy3 : E25 y = 10 := (hex25 y (by rw [hCh.2.2.2.1]; decide)).trans hCh.2.2.2.1
              obtain ⟨kdz, fiz, nxz, quz, lez, riz, efy, -⟩ := hG25.po.con hy3
              have hyi : y ∈ (L ++ (N ++ N25)) := hG25.po.inL (by rw [hy3]; decide)
              have hyL : y ∉ L := fun h => absurd (hLz y h) (Nat.not_lt.mpr (hG.ge hCh.2.1 (by rw [hCh.2.2.2.1]; decide)))
              have hC2 := hCh.next10 hG.ex hQ25 (by omega) (by omega) hzz25 hyz (by omega) hyL efy hex25
              refine vq_put (D := (dC, dI)) (ci := 0) (v := .ref v25) (ty := .object "QueryBench$Condition") (C := R_Condition) (T := F_Condition) (N := 6) hx hb hts in_Condition t_Condition t_Condition_ok n_Condition hown hK hP hD hS hyi efy rfl 2 (by decide) (hts _ z_680) (fun _ h9 => h9) rfl (by decide +kernel) rfl rfl (Nat.le_of_ble_eq_true rfl) d_QueryReader_or_72 (fun H locs hP hD hS => ?_)
              have hP : va_P (dC, dI) classes ([(qr, .inr (5, [.ref h0, .int (nI o)])), (h0, .inr (8, [.ref qb, .ref qu, .int uc25, .int ln, .int (nI n), .int (nI p25), .int pl])), (qb, .inl (cB, 4096, .inl bf)), (qu, .inl (cI, 4096, .inl ug25)), (kc, .inr (0, [.int 0, .ref v21, .null, .null, .null, .null]))] ++ va_pl ((L ++ (N ++ N25))) ((va_up f25 y (kE kdz fiz (some v25) quz lez riz)))) H := hP
              have hD : va_D A ([(qr, .inr (5, [.ref h0, .int (nI o)])), (h0, .inr (8, [.ref qb, .ref qu, .int uc25, .int ln, .int (nI n), .int (nI p25), .int pl])), (qb, .inl (cB, 4096, .inl bf)), (qu, .inl (cI, 4096, .inl ug25)), (kc, .inr (0, [.int 0, .ref v21, .null, .null, .null, .null]))] ++ va_pl ((L ++ (N ++ N25))) ((va_up f25 y (kE kdz fiz (some v25) quz lez riz)))) := hD
              have hLf2 : SLd KD 2 (liD bf n (anD bf n ok orL cmL qyL) 124 (4098 - 0) p21) (liD bf n (anD bf n ok orL cmL qyL) 124 (4098 - (m9 + 1)) p25) E E25 ((va_up f25 y (kE kdz fiz (some v25) quz lez riz))) v21 v25 m21 (m9 + 1) := hLf.next KD_mo KD_fr (by decide) hCh.2.1 (by rw [hCh.2.2.2.1]; decide) hd25 hnv25 hkp25 hG.ex (fun b hb => va_up_ne _ _ hb) (by rw [va_up_self]; exact Or.inr ⟨_, _, some v25, efy, rfl⟩) (by rw [va_up_self]; exact refE_rf (o := some v25) rfl) (liD_s hmL ht23 ht24 hf25)
              refine lv_aload_n hx hb d_QueryReader_or_75 rfl (lv_at hl 3 rfl) ?_
              refine vq_get (D := (dC, dI)) (ci := 0) (v := .ref v25) (C := R_Condition) (T := F_Condition) (N := 6) hx hb hts in_Condition hown hK hP hyi (va_up_self _ _ _) rfl 2 (by decide) (hts _ z_680) (fun _ h9 => h9) rfl d_QueryReader_or_76 ?_
              refine lv_astore_n (lv' := [(3, .ref v25), (0, .ref qr), (1, .ref v21), (2, .ref kc), (4, .int (nI m9))]) hx hb d_QueryReader_or_79 rfl hl (by decide) rfl (fun ls hl => ?_)
              refine lv_iinc (v := nI (m9 + 1)) (lv' := [(4, .int (nI (m9 + 1))), (3, .ref v25), (0, .ref qr), (1, .ref v21), (2, .ref kc)]) hx hb d_QueryReader_or_80 hl (k := 4) rfl (nI_1 _) (by decide) rfl (fun ls hl => ?_)
              refine lv_goto (tgt := 38) hx hb d_QueryReader_or_83 (by decide) ?_
              refine w_same (fun hq => ?_)
              refine W.widen (k := 8 * (n - i) + 20) (n := 64 * (n - i) + 200) (by show ((8 * (p - i) + 1) + (8 * (p25 - ((p + 1) + 1)) + 0 - 0)) ≤ 8 * (n - i) + 20; omega) (by show ((64 * (p - i) - 18) + (64 * (p25 - ((p + 1) + 1)) + 0 - 24)) ≤ 64 * (n - i) + 200; omega) ?_
              exact ih (m9 + 1, v25, p25, (N ++ N25), E25, (va_up f25 y (kE kdz fiz (some v25) quz lez riz)), uc25, ug25) _ _ _ ⟨show m9 + 1 ≤ 4096 by omega, show m9 + 1 + i + 1 ≤ p25 by omega, hC2, hq.mono (by show ((8 * (p - i) + 1) + (8 * (p25 - ((p + 1) + 1)) + 0 - 0)) ≤ 8 * (p25 - i) + 1; omega) (by show ((64 * (p - i) - 18) + (64 * (p25 - ((p + 1) + 1)) + 0 - 24)) ≤ 64 * (p25 - i) - 18; omega), hLf2⟩ (by show 4097 - (m9 + 1) < 4097 - m9; omega) hP hD hS (lv_sub hl [2, 3, 4, 1, 0] rfl)
        · have hu23 : u23 = p := hu23
          subst hr23
          rw [hu23] at hP hD
          have hP : va_P (dC, dI) classes ([(qr, .inr (5, [.ref h0, .int (nI o)])), (h0, .inr (8, [.ref qb, .ref qu, .int uc, .int ln, .int (nI n), .int (nI p), .int pl])), (qb, .inl (cB, 4096, .inl bf)), (qu, .inl (cI, 4096, .inl ug)), (kc, .inr (0, [.int 0, .ref v21, .null, .null, .null, .null]))] ++ va_pl ((L ++ N)) f1) H := hP
          have hD : va_D A ([(qr, .inr (5, [.ref h0, .int (nI o)])), (h0, .inr (8, [.ref qb, .ref qu, .int uc, .int ln, .int (nI n), .int (nI p), .int pl])), (qb, .inl (cB, 4096, .inl bf)), (qu, .inl (cI, 4096, .inl ug)), (kc, .inr (0, [.int 0, .ref v21, .null, .null, .null, .null]))] ++ va_pl ((L ++ N)) f1) := hD
          refine lv_if_eq (tgt := 86) hx hb d_QueryReader_or_55 (by decide) (fun _ => ?_) (fun h => absurd (by decide) h)
          refine lv_aload_n hx hb d_QueryReader_or_86 rfl (lv_at hl 2 rfl) ?_
          obtain ⟨tl9, hXe, hln9, hDch9⟩ := hLf.fin (p := p) KD_mo hCh.2.1 (by rw [hCh.2.2.2.1]; decide) (liD_e hmL ht23)
          have hL_kc := plD_new (X := [(qr, .inr (5, [.ref h0, .int (nI o)])), (h0, .inr (8, [.ref qb, .ref qu, .int uc, .int ln, .int (nI n), .int (nI p), .int pl])), (qb, .inl (cB, 4096, .inl bf)), (qu, .inl (cI, 4096, .inl ug))]) hD
          have h0_kc : E1 kc = 0 := Classical.byContradiction (fun h => hL_kc (hG.po.inL h))
          have hE_kc : E kc = 0 := hG.ex.z h0_kc
          have hP := plP_push (X := [(qr, .inr (5, [.ref h0, .int (nI o)])), (h0, .inr (8, [.ref qb, .ref qu, .int uc, .int ln, .int (nI n), .int (nI p), .int pl])), (qb, .inl (cB, 4096, .inl bf)), (qu, .inl (cI, 4096, .inl ug))]) hP hL_kc
          have hD := plD_push (X := [(qr, .inr (5, [.ref h0, .int (nI o)])), (h0, .inr (8, [.ref qb, .ref qu, .int uc, .int ln, .int (nI n), .int (nI p), .int pl])), (qb, .inl (cB, 4096, .inl bf)), (qu, .inl (cI, 4096, .inl ug))]) hD hL_kc
          rw [List.append_assoc] at hP hD
          have hQ_kc : QPn cI cV E L f i n s.heap.size 10 (5 * (16 - o) + 4) 1 kc p (N ++ [kc]) (va_up E1 kc 10) (va_up f1 kc (kE 0 (some v21) none none none none)) := by
            refine ⟨hE_kc, va_up_self _ _ _, by omega, by omega, fun lv hO b hb => ?_⟩
            obtain ⟨lv1, g1, c1, c2⟩ := hCh.x lv hO (b - 1) (by omega)
            have hfk : v21 ≠ kc := fun e => by have h9 := hCh.2.2.1; rw [e, h0_kc] at h9; cases h9
            exact ⟨va_up lv1 kc b, g1.add (q := kc) (s := 10) (b := b) (e := kE 0 (some v21) none none none none) h0_kc hL_kc hz_kc (by decide) (by decide) (CO.K (va_up_self _ _ _) ⟨_, _, _, _, _, _, rfl, ⟨(fun b9 h => by cases h; exact ⟨(va_up_ne _ _ hfk).trans hCh.2.2.1, by rw [va_up_ne _ _ hfk, va_up_self]; have := c1; omega⟩), (fun b h => (nomatch h)), (fun b h => (nomatch h)), (fun b h => (nomatch h)), (fun b h => (nomatch h)), fun h => absurd h (by decide), fun h => absurd h (by decide), fun h0 _ _ _ => absurd rfl h0⟩⟩), va_up_self _ _ _⟩
          have hP : va_P (dC, dI) classes ([(qr, .inr (5, [.ref h0, .int (nI o)])), (h0, .inr (8, [.ref qb, .ref qu, .int uc, .int ln, .int (nI n), .int (nI p), .int pl])), (qb, .inl (cB, 4096, .inl bf)), (qu, .inl (cI, 4096, .inl ug))] ++ va_pl ((L ++ (N ++ [kc]))) ((va_up f1 kc (kE 0 (some v21) none none none none)))) H := hP
          have hD : va_D A ([(qr, .inr (5, [.ref h0, .int (nI o)])), (h0, .inr (8, [.ref qb, .ref qu, .int uc, .int ln, .int (nI n), .int (nI p), .int pl])), (qb, .inl (cB, 4096, .inl bf)), (qu, .inl (cI, 4096, .inl ug))] ++ va_pl ((L ++ (N ++ [kc]))) ((va_up f1 kc (kE 0 (some v21) none none none none)))) := hD
          have hQr : QPn cI cV E L f i n s.heap.size 10 (5 * (16 - o) + 4) 1 kc p ((N ++ [kc])) ((va_up E1 kc 10)) ((va_up f1 kc (kE 0 (some v21) none none none none))) := hQ_kc
          have hfin : (orD bf n ok orL cmL qyL) i = some (p, anyC_ (m21 :: tl9)) := hl0.trans (mp_some hXe)
          have hdn : DNx KD 2 E ((va_up E1 kc 10)) ((va_up f1 kc (kE 0 (some v21) none none none none))) kc (anyC_ (m21 :: tl9)) := DNx.any hDch9 h0_kc
          refine w_same (fun hq => ?_)
          refine W.widen (k := 8 * (n - i) + 20) (n := 64 * (n - i) + 200) (by show (8 * (p - i) + 1) ≤ 8 * (n - i) + 20; omega) (by show (64 * (p - i) - 18) ≤ 64 * (n - i) + 200; omega) ?_
          refine vx_ret ?_
          exact W.aret (v := .ref kc) hx hb hr (Or.inl ⟨_, rfl⟩) (Or.inr ⟨_, rfl⟩) (fun t9 ht hW => ⟨⟨(kc, p, (N ++ [kc]), (va_up E1 kc 10), (va_up f1 kc (kE 0 (some v21) none none none none)), uc, ug), kc, rfl, ⟨hQr, _, hfin, hdn⟩, ⟨by rw [ht]; exact hP, va_K.moved hW.alike hK, hD⟩, by rw [ht]; exact ⟨hq.mono (by show (8 * (p - i) + 1) ≤ 8 * (p - i) + 1 - 0; omega) (by show (64 * (p - i) - 18) ≤ 64 * (p - i) + 0 - 18; omega), rfl⟩⟩, hS.F ht⟩) hS.2.2 d_QueryReader_or_87
    · refine lv_aload_n hx hb d_QueryReader_or_17 rfl (lv_at hl 0 rfl) ?_
      have hQr : QPn cI cV E L f i n s.heap.size 10 (5 * (16 - o) + 4) 1 v21 p21 (([] ++ N21)) E21 f21 := (hQ21.up (by omega) (by omega) hzz21 (by omega) (by omega))
      have hfin : (orD bf n ok orL cmL qyL) i = some (p21, m21) := (hl0.trans (mp_some (liD_e (by omega) (fun q => c14 (h_h22.trans q))))).trans (by rw [show anyC_ (m21 :: []) = m21 from anyC_1 _])
      have hdn : DNx KD 2 E E21 f21 v21 m21 := hd21
      refine w_same (fun hq => ?_)
      refine W.widen (k := 8 * (n - i) + 20) (n := 64 * (n - i) + 200) (by show (0 + (8 * (p21 - i) + 0 - 0)) ≤ 8 * (n - i) + 20; omega) (by show (0 + (64 * (p21 - i) + 0 - 24)) ≤ 64 * (n - i) + 200; omega) ?_
      refine vx_ret ?_
      exact W.aret (v := .ref v21) hx hb hr (Or.inl ⟨_, rfl⟩) (Or.inr ⟨_, rfl⟩) (fun t9 ht hW => ⟨⟨(v21, p21, ([] ++ N21), E21, f21, uc21, ug21), v21, rfl, ⟨hQr, _, hfin, hdn⟩, ⟨by rw [ht]; exact hP, va_K.moved hW.alike hK, hD⟩, by rw [ht]; exact ⟨hq.mono (by show (0 + (8 * (p21 - i) + 0 - 0)) ≤ 8 * (p21 - i) + 1 - 0; omega) (by show (0 + (64 * (p21 - i) + 0 - 24)) ≤ 64 * (p21 - i) + 0 - 18; omega), rfl⟩⟩, hS.F ht⟩) hS.2.2 d_QueryReader_or_18
