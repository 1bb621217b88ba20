theorem z_302 : (.methodLink "QueryBench$JsonReader" 45 ⟨"QueryBench$JsonReader", "fresh", "()LQueryBench$Value;"⟩ : Cond) ∈ gtbl := gt_in 302 (by decide +kernel) (by decide +kernel)
theorem z_304 : (.instanceMethod ⟨"QueryBench$JsonReader", "fresh", "()LQueryBench$Value;"⟩ : Cond) ∈ gtbl := gt_in 304 (by decide +kernel) (by decide +kernel)
theorem z_316 : (.fieldLink "QueryBench$JsonReader" 84 "QueryBench$Value" "number" "J" : Cond) ∈ gtbl := gt_in 316 (by decide +kernel) (by decide +kernel)
theorem z_321 : (.fieldLink "QueryBench$JsonReader" 66 "QueryBench$Value" "text" "[I" : Cond) ∈ gtbl := gt_in 321 (by decide +kernel) (by decide +kernel)
theorem z_339 : (.fieldLink "QueryBench$JsonReader" 87 "QueryBench$Value" "span" "I" : Cond) ∈ gtbl := gt_in 339 (by decide +kernel) (by decide +kernel)
theorem z_366 : (.methodLink "QueryBench$JsonReader" 55 ⟨"QueryBench$JsonReader", "container", "(LQueryBench$Value;II)V"⟩ : Cond) ∈ gtbl := gt_in 366 (by decide +kernel) (by decide +kernel)
theorem z_368 : (.instanceMethod ⟨"QueryBench$JsonReader", "container", "(LQueryBench$Value;II)V"⟩ : Cond) ∈ gtbl := gt_in 368 (by decide +kernel) (by decide +kernel)
theorem z_451 : (.methodLink "QueryBench$JsonReader" 72 ⟨"QueryBench$Tape", "takeLetters", "(Ljava/lang/String;)V"⟩ : Cond) ∈ gtbl := gt_in 451 (by decide +kernel) (by decide +kernel)
theorem z_452 : (.instanceMethod ⟨"QueryBench$Tape", "takeLetters", "(Ljava/lang/String;)V"⟩ : Cond) ∈ gtbl := gt_in 452 (by decide +kernel) (by decide +kernel)
theorem z_453 : (.selects "QueryBench$Tape" ⟨"QueryBench$Tape", "takeLetters", "(Ljava/lang/String;)V"⟩ ⟨"QueryBench$Tape", "takeLetters", "(Ljava/lang/String;)V"⟩ : Cond) ∈ gtbl := gt_in 453 (by decide +kernel) (by decide +kernel)
theorem z_505 : (.methodLink "QueryBench$JsonReader" 80 ⟨"QueryBench$JsonReader", "number", "()J"⟩ : Cond) ∈ gtbl := gt_in 505 (by decide +kernel) (by decide +kernel)
theorem z_507 : (.instanceMethod ⟨"QueryBench$JsonReader", "number", "()J"⟩ : Cond) ∈ gtbl := gt_in 507 (by decide +kernel) (by decide +kernel)
theorem PO.vo {cI cV : ClassId} {E lv : Nat → Nat} {L : List Nat} {f : Nat → va_E} {a : Nat} (h : PO cI cV E lv L f) (ha : isV E a) {kd : Int32} {nu : Int64} {tx me pa na : Option Nat} {ix : Int32} {nm no : Option Nat} {sp : Int32} (ef : f a = vE kd nu tx me pa na ix nm no sp) : VO E a kd tx me pa na nm no := by
  obtain ⟨kd', nu', tx', me', pa', na2, ix2, nm', no', sp', e1, e2⟩ := h.val ha
  obtain ⟨x1, x2, x3, x4, x5, x6, x7, x8, x9, x10⟩ := vE_inj (ef.symm.trans e1)
  subst x1; subst x3; subst x4; subst x5; subst x6; subst x8; subst x9
  exact e2
set_option maxHeartbeats 4000000 in
set_option maxRecDepth 100000 in
theorem c_JV (l : Launch) (hl9 : l.stackTraces = false) (K : Nat → Nat × Nat) (dC : Nat → ClassId) (dI : Nat → Nat → Nat) (cI cV : ClassId) (lv : Nat → Nat) (cB : ClassId) (h0 qb qu : Nat) (ln : Int32) (bf : Nat → Int32) (n jr : Nat) (hn0 : n ≤ 4096) (hbf : byR bf) (k d : Nat) (hkd9 : d + k = 32) (HV : 0 < k → JVC l K dC dI cI cV lv cB h0 qb qu ln bf n jr (k - 1) (d + 1)) : JVC l K dC dI cI cV lv cB h0 qb qu ln bf n jr k d := by
  intro sz E L f i uc pl ug dp md la D hO hla hin hdp hDd hD32
  refine vx_ofW (cc := b_JsonReader_value) (maxL := 4) (ret := (some (.object "QueryBench$Value"))) (by decide) rfl ?_
  intro p e s m args below meth c s₁ B hml hex hv
  obtain ⟨rfl, ⟨hsz, hP, hK, hD0⟩, hN, hZ, hC, hV⟩ := hv
  have hx := B.exec
  have hb := B.bytes
  have hr := B.returns
  have hts0 := atoms_spec (ws := k_JsonReader_value :: gtbl) B.pre
  have hts := fun w h => hts0 w (List.mem_cons_of_mem _ h)
  have hown : s.vm.findClass R_JsonReader = some m.cls := findClass_of_methodNamed B.named
  have hlocks := B.notSynchronized
  subst hsz
  have hD := hD0.self (sz := s.heap.size)
  generalize hAe : va_A ([(jr, .inr (1, [.ref h0, .int dp, .int md, va_rf la])), (h0, .inr (8, [.ref qb, .ref qu, .int uc, .int ln, .int (nI n), .int (nI i), .int pl])), (qb, .inl (cB, 4096, .inl bf)), (qu, .inl (cI, 4096, .inl ug))] ++ va_pl L f) s.heap.size = A at hD hZ hC ⊢
  have hA : ∀ q : Nat, s.heap.size ≤ q → A q := fun q h => by rw [← hAe]; exact Or.inr h
  have hS : va_S A s.heap s.heap [] := va_S.rf
  have hP : va_P (dC, dI) classes ([(jr, .inr (1, [.ref h0, .int dp, .int md, va_rf la])), (h0, .inr (8, [.ref qb, .ref qu, .int uc, .int ln, .int (nI n), .int (nI i), .int pl])), (qb, .inl (cB, 4096, .inl bf)), (qu, .inl (cI, 4096, .inl ug))] ++ va_pl L f) s.heap := hP
  have hl := lv_entry ([.ref jr, .int (nI d)]) (n := 4) (Nat.le_of_ble_eq_true rfl)
  rw [lg_entry_eq]
  generalize (lg_sl ([.ref jr, .int (nI d)]) ++ List.replicate (4 - (lg_sl ([.ref jr, .int (nI d)])).length) Slot.unset).toArray = ls at hl ⊢
  have hl : lv_has ls 4 [(0, .ref jr), (1, .int (nI d))] := hl
  refine lv_aload_n hx hb d_JsonReader_value_0 rfl (lv_at hl 0 rfl) ?_
  refine va_get (D := (dC, dI)) (ci := 1) (v := .ref h0) (C := R_JsonReader) (T := F_JsonReader) (N := 4) hx hb hts in_JsonReader hown hK hP 0 rfl rfl 0 (by decide) (hts _ w_80) (fun _ h9 => h9) rfl d_JsonReader_value_1 ?_
  have hPc := hP.sub (ws' := [(h0, .inr (8, [.ref qb, .ref qu, .int uc, .int ln, .int (nI n), .int (nI i), .int pl])), (qb, .inl (cB, 4096, .inl bf))]) [1, 2] rfl
  have hDc := hD.sub (ws' := [(h0, .inr (8, [.ref qb, .ref qu, .int uc, .int ln, .int (nI n), .int (nI i), .int pl])), (qb, .inl (cB, 4096, .inl bf))]) [1, 2] (by decide) rfl
  have hFc := va_free (wc := [(h0, .inr (8, [.ref qb, .ref qu, .int uc, .int ln, .int (nI n), .int (nI i), .int pl])), (qb, .inl (cB, 4096, .inl bf))]) hD hS hA [1, 2] rfl
  have hKc := hK.sub (tys' := [(cB, .byte)]) [0] rfl
  refine va_callv (va_runV (As := []) (rest := []) ⟨hx, hb, hml, hown, hts⟩ (c_Tape_skipBlanks l dC dI cB h0 qb s.heap (.ref qu) uc ln pl bf n i hn0 (by omega)) (cwV 0 hts (gt_V (own := R_JsonReader) (C := R_Tape) (i := 42) (y := y_Tape_skipBlanks) i_Tape_skipBlanks z_298 z_299 z_300 w_2) rfl rfl rfl (by decide +kernel) ⟨by show 0 + 1 ≤ 16 + 3 * k; omega, by show 8 + (2 + 11) + (0) ≤ 350 + 90 * k; omega⟩) ⟨mp_blind, va_recv hK hP (ci := 8) (q0 := 1) rfl rfl, fun U hU hW => ⟨rfl, hU, by rw [hU]; exact hPc, va_K.moved hW.alike hKc, hDc.weaken (fun _ _ _ _ => trivial)⟩⟩ rfl rfl hl.1 rfl (lv_room (Nat.le_of_ble_eq_true rfl)) d_JsonReader_value_4 ⟨by show 0 + (0) ≤ 2 * (n - i) + 4; omega, by show 0 + (0) ≤ 16 * (n - i) + 40; omega⟩) hS (fun q _ h => hFc q h) hFc (fun _u t9 H1 locs ht hvm hw hB hz1 hk1 hS => ?_)
  obtain ⟨hP1, hK1, hD1⟩ := hB
  rw [ht] at hP1
  obtain ⟨hP, hD⟩ := va_joinQ (wr := [(jr, .inr (1, [.ref h0, .int dp, .int md, va_rf la])), (qu, .inl (cI, 4096, .inl ug))]) (w1 := [(h0, .inr (8, [.ref qb, .ref qu, .int uc, .int ln, .int (nI n), .int (nI (skipB bf n i)), .int pl])), (qb, .inl (cB, 4096, .inl bf))]) hP hD [1, 2] [0, 3] rfl rfl (by decide) (by decide) hk1 hFc hP1 hD1
  generalize H1 = H at hP hS ⊢
  have hP : va_P (dC, dI) classes ([(jr, .inr (1, [.ref h0, .int dp, .int md, va_rf la])), (qu, .inl (cI, 4096, .inl ug)), (h0, .inr (8, [.ref qb, .ref qu, .int uc, .int ln, .int (nI n), .int (nI (skipB bf n i)), .int pl])), (qb, .inl (cB, 4096, .inl bf))] ++ va_pl L f) H := hP
  have hD : va_D A ([(jr, .inr (1, [.ref h0, .int dp, .int md, va_rf la])), (qu, .inl (cI, 4096, .inl ug)), (h0, .inr (8, [.ref qb, .ref qu, .int uc, .int ln, .int (nI n), .int (nI (skipB bf n i)), .int pl])), (qb, .inl (cB, 4096, .inl bf))] ++ va_pl L f) := hD
  have hP := hP.part (cx := [(jr, .inr (1, [.ref h0, .int dp, .int md, va_rf la])), (h0, .inr (8, [.ref qb, .ref qu, .int uc, .int ln, .int (nI n), .int (nI (skipB bf n i)), .int pl])), (qb, .inl (cB, 4096, .inl bf)), (qu, .inl (cI, 4096, .inl ug))]) [0, 2, 3, 1] rfl
  have hD := hD.part (cx := [(jr, .inr (1, [.ref h0, .int dp, .int md, va_rf la])), (h0, .inr (8, [.ref qb, .ref qu, .int uc, .int ln, .int (nI n), .int (nI (skipB bf n i)), .int pl])), (qb, .inl (cB, 4096, .inl bf)), (qu, .inl (cI, 4096, .inl ug))]) [0, 2, 3, 1] (by decide) rfl
  obtain ⟨p21, h_p21⟩ : ∃ z, z = skipB bf n i := ⟨_, rfl⟩
  have hb_p21 := skip_b (f := bf) (show i ≤ n by omega)
  rw [← h_p21] at hP hD hb_p21
  have hP : va_P (dC, dI) classes ([(jr, .inr (1, [.ref h0, .int dp, .int md, va_rf la])), (h0, .inr (8, [.ref qb, .ref qu, .int uc, .int ln, .int (nI n), .int (nI p21), .int pl])), (qb, .inl (cB, 4096, .inl bf)), (qu, .inl (cI, 4096, .inl ug))] ++ va_pl L f) H := hP
  have hD : va_D A ([(jr, .inr (1, [.ref h0, .int dp, .int md, va_rf la])), (h0, .inr (8, [.ref qb, .ref qu, .int uc, .int ln, .int (nI n), .int (nI p21), .int pl])), (qb, .inl (cB, 4096, .inl bf)), (qu, .inl (cI, 4096, .inl ug))] ++ va_pl L f) := hD
  refine lv_aload_n hx hb d_JsonReader_value_7 rfl (lv_at hl 0 rfl) ?_
  refine va_get (D := (dC, dI)) (ci := 1) (v := .int md) (C := R_JsonReader) (T := F_JsonReader) (N := 4) hx hb hts in_JsonReader hown hK hP 0 rfl rfl 2 (by decide) (hts _ z_83) (fun _ h9 => h9) rfl d_JsonReader_value_8 ?_
  refine lv_istore_n (lv' := [(2, .int md), (0, .ref jr), (1, .int (nI d))]) hx hb d_JsonReader_value_11 rfl hl (by decide) rfl (fun ls hl => ?_)
  refine lv_aload_n hx hb d_JsonReader_value_12 rfl (lv_at hl 1 rfl) ?_
  have hPc := hP.part (cx := [(jr, .inr (1, [.ref h0, .int dp, .int md, va_rf la]))]) [0] rfl
  have hDc := hD.part (cx := [(jr, .inr (1, [.ref h0, .int dp, .int md, va_rf la]))]) [0] (by decide) rfl
  have hFc := va_freeP (cx := [(jr, .inr (1, [.ref h0, .int dp, .int md, va_rf la]))]) hD hS hA [0] rfl
  have hKc := hK.sub (tys' := [(cI, .int), (cV, .object "QueryBench$Value")]) [1, 2] rfl
  refine w_same (fun hq0 => ?_)
  refine va_callr (va_runV (As := []) (rest := []) ⟨hx, hb, hml, hown, hts⟩ (c_JsonReader_fresh l K dC dI H cI cV E lv L f hO jr h0 dp md la hla) (cwV 0 hts (gt_V (own := R_JsonReader) (C := R_JsonReader) (i := 45) (y := y_JsonReader_fresh) i_JsonReader_fresh z_302 z_304 (gt_sel (y := y_JsonReader_fresh) (n := 4) (by decide +kernel)) w_3) rfl rfl rfl (by decide +kernel) ⟨by show 2 + 1 ≤ 16 + 3 * k; omega, by show 8 + (2 + 11) + (60) ≤ 350 + 90 * k; omega⟩) ⟨ml_blind, va_recv hK hP (ci := 1) (q0 := 0) rfl rfl, fun U hU hW => ⟨rfl, ⟨hU, by rw [hU]; exact hPc, va_K.moved hW.alike hKc, hDc.weaken (fun _ _ _ _ => trivial)⟩, hN.warm hW, by rw [hU]; exact ZX.moved' hW.alike (ZX.narrow' (ZX.kept' hZ hS.2.1) hFc), by rw [hU]; exact CE.call hC hS.2.1 hFc hW, va_AO.moved hW.alike hV⟩⟩ rfl rfl hl.1 rfl (lv_room (Nat.le_of_ble_eq_true rfl)) d_JsonReader_value_13 ⟨by show 0 + (1) ≤ 2 * (n - i) + 4; omega, by show 0 + (10) ≤ 16 * (n - i) + 40; omega⟩) hS (fun q _ h => hFc q h) hFc (fun ⟨q, f1⟩ qv t9 H1 locs ht hvm hw hB hz1 hk1 hS => ?_)
  obtain ⟨⟨hP1, hK1, hD1⟩, hz9, ha9⟩ := hB
  rw [ht] at hP1
  rw [ht] at hz9
  have ha9 : qv = q := ha9
  subst ha9
  have hq0 : szk s.heap H1 (1) (10) := (hq0.trans hz9).mono (by show 0 + 1 ≤ 1; omega) (by show 0 + 10 ≤ 10; omega)
  refine w_tight hq0 ?_
  obtain ⟨hP, hD⟩ := va_joinP (wr := [(h0, .inr (8, [.ref qb, .ref qu, .int uc, .int ln, .int (nI n), .int (nI p21), .int pl])), (qb, .inl (cB, 4096, .inl bf)), (qu, .inl (cI, 4096, .inl ug))]) (rx := [(jr, .inr (1, [.ref h0, .int dp, .int (md + 1), .ref qv]))]) (pl1 := va_pl ((L ++ [qv])) f1) hP hD [0] [1, 2, 3] rfl rfl (by decide) (by decide) hk1 hFc hP1 hD1
  generalize H1 = H at hP hS hq0 ⊢
  have hP : va_P (dC, dI) classes ([(h0, .inr (8, [.ref qb, .ref qu, .int uc, .int ln, .int (nI n), .int (nI p21), .int pl])), (qb, .inl (cB, 4096, .inl bf)), (qu, .inl (cI, 4096, .inl ug)), (jr, .inr (1, [.ref h0, .int dp, .int (md + 1), .ref qv]))] ++ va_pl ((L ++ [qv])) f1) H := hP
  have hD : va_D A ([(h0, .inr (8, [.ref qb, .ref qu, .int uc, .int ln, .int (nI n), .int (nI p21), .int pl])), (qb, .inl (cB, 4096, .inl bf)), (qu, .inl (cI, 4096, .inl ug)), (jr, .inr (1, [.ref h0, .int dp, .int (md + 1), .ref qv]))] ++ va_pl ((L ++ [qv])) f1) := hD
  have hP := hP.part (cx := [(jr, .inr (1, [.ref h0, .int dp, .int (md + 1), .ref qv])), (h0, .inr (8, [.ref qb, .ref qu, .int uc, .int ln, .int (nI n), .int (nI p21), .int pl])), (qb, .inl (cB, 4096, .inl bf)), (qu, .inl (cI, 4096, .inl ug))]) [3, 0, 1, 2] rfl
  have hD := hD.part (cx := [(jr, .inr (1, [.ref h0, .int dp, .int (md + 1), .ref qv])), (h0, .inr (8, [.ref qb, .ref qu, .int uc, .int ln, .int (nI n), .int (nI p21), .int pl])), (qb, .inl (cB, 4096, .inl bf)), (qu, .inl (cI, 4096, .inl ug))]) [3, 0, 1, 2] (by decide) rfl
  obtain ⟨hO1, hqz, efq, hKX, hlk1⟩ := hw
  have hlk1 : ∀ z, la = some z → refE 8 (f1 z) = some qv := hlk1
  have hqz : E qv = 0 := hqz
  have efq : f1 qv = vE 0 0 none none none none 0 none none 0 := efq
  have hKX : KX E la f f1 := hKX
  obtain ⟨E1, hE1⟩ : ∃ z, z = va_up E qv 1 := ⟨_, rfl⟩
  have hO1 : PO cI cV E1 lv (L ++ [qv]) f1 := by rw [hE1]; exact hO1
  have hq1 : E1 qv = 1 := by rw [hE1]; exact va_up_self _ _ _
  have hqin : qv ∈ L ++ [qv] := List.mem_append_right _ (List.mem_singleton.mpr rfl)
  have hne : ∀ a, E a ≠ 0 → a ≠ qv := fun a ha e => ha (e ▸ hqz)
  refine lv_astore_n (lv' := [(3, .ref qv), (2, .int md), (0, .ref jr), (1, .int (nI d))]) hx hb d_JsonReader_value_16 rfl hl (by decide) rfl (fun ls hl => ?_)
  refine lv_aload_n hx hb d_JsonReader_value_17 rfl (lv_at hl 2 rfl) ?_
  refine va_get (D := (dC, dI)) (ci := 1) (v := .ref h0) (C := R_JsonReader) (T := F_JsonReader) (N := 4) hx hb hts in_JsonReader hown hK hP 0 rfl rfl 0 (by decide) (hts _ w_80) (fun _ h9 => h9) rfl d_JsonReader_value_18 ?_
  have hPc := hP.sub (ws' := [(h0, .inr (8, [.ref qb, .ref qu, .int uc, .int ln, .int (nI n), .int (nI p21), .int pl])), (qb, .inl (cB, 4096, .inl bf))]) [1, 2] rfl
  have hDc := hD.sub (ws' := [(h0, .inr (8, [.ref qb, .ref qu, .int uc, .int ln, .int (nI n), .int (nI p21), .int pl])), (qb, .inl (cB, 4096, .inl bf))]) [1, 2] (by decide) rfl
  have hFc := va_free (wc := [(h0, .inr (8, [.ref qb, .ref qu, .int uc, .int ln, .int (nI n), .int (nI p21), .int pl])), (qb, .inl (cB, 4096, .inl bf))]) hD hS hA [1, 2] rfl
  have hKc := hK.sub (tys' := [(cB, .byte)]) [0] rfl
  refine va_calli (va_runV (As := []) (rest := []) ⟨hx, hb, hml, hown, hts⟩ (c_Tape_here l dC dI cB h0 qb H (.ref qu) uc ln pl bf n p21 hn0 (by omega)) (cwV 0 hts (gt_V (own := R_JsonReader) (C := R_Tape) (i := 49) (y := y_Tape_here) i_Tape_here z_362 w_363 w_364 w_2) rfl rfl rfl (by decide +kernel) ⟨by show 0 + 1 ≤ 16 + 3 * k; omega, by show 8 + (1 + 11) + (0) ≤ 350 + 90 * k; omega⟩) ⟨mp_blind, va_recv hK hP (ci := 8) (q0 := 1) rfl rfl, fun U hU hW => ⟨rfl, hU, by rw [hU]; exact hPc, va_K.moved hW.alike hKc, hDc.weaken (fun _ _ _ _ => trivial)⟩⟩ rfl rfl hl.1 rfl (lv_room (Nat.le_of_ble_eq_true rfl)) d_JsonReader_value_21 ⟨by show 1 + (0) ≤ 2 * (n - i) + 4; omega, by show 10 + (0) ≤ 16 * (n - i) + 40; omega⟩) hS (fun q _ h => hFc q h) hFc (fun h22 _u t9 H1 locs ht hvm hw hB hz1 hk1 hS => ?_)
  obtain ⟨hP1, hK1, hD1⟩ := hB
  rw [ht] at hP1
  obtain ⟨hP, hD⟩ := va_joinQ (wr := [(jr, .inr (1, [.ref h0, .int dp, .int (md + 1), .ref qv])), (qu, .inl (cI, 4096, .inl ug))]) (w1 := [(h0, .inr (8, [.ref qb, .ref qu, .int uc, .int ln, .int (nI n), .int (nI p21), .int pl])), (qb, .inl (cB, 4096, .inl bf))]) hP hD [1, 2] [0, 3] rfl rfl (by decide) (by decide) hk1 hFc hP1 hD1
  generalize H1 = H at hP hS ⊢
  have hP : va_P (dC, dI) classes ([(jr, .inr (1, [.ref h0, .int dp, .int (md + 1), .ref qv])), (qu, .inl (cI, 4096, .inl ug)), (h0, .inr (8, [.ref qb, .ref qu, .int uc, .int ln, .int (nI n), .int (nI p21), .int pl])), (qb, .inl (cB, 4096, .inl bf))] ++ va_pl ((L ++ [qv])) f1) H := hP
  have hD : va_D A ([(jr, .inr (1, [.ref h0, .int dp, .int (md + 1), .ref qv])), (qu, .inl (cI, 4096, .inl ug)), (h0, .inr (8, [.ref qb, .ref qu, .int uc, .int ln, .int (nI n), .int (nI p21), .int pl])), (qb, .inl (cB, 4096, .inl bf))] ++ va_pl ((L ++ [qv])) f1) := hD
  have hP := hP.part (cx := [(jr, .inr (1, [.ref h0, .int dp, .int (md + 1), .ref qv])), (h0, .inr (8, [.ref qb, .ref qu, .int uc, .int ln, .int (nI n), .int (nI p21), .int pl])), (qb, .inl (cB, 4096, .inl bf)), (qu, .inl (cI, 4096, .inl ug))]) [0, 2, 3, 1] rfl
  have hD := hD.part (cx := [(jr, .inr (1, [.ref h0, .int dp, .int (md + 1), .ref qv])), (h0, .inr (8, [.ref qb, .ref qu, .int uc, .int ln, .int (nI n), .int (nI p21), .int pl])), (qb, .inl (cB, 4096, .inl bf)), (qu, .inl (cI, 4096, .inl ug))]) [0, 2, 3, 1] (by decide) rfl
  have h_h22 : h22 = hereV bf n p21 := hw
  by_cases hs24_0 : h22 = 34
  · refine lv_lookup (tgt := 105) (off := 81) hx hb d_JsonReader_value_24 (by decide) (by rw [hs24_0]; decide) (by decide) ?_
    have hlt := here_lc (h_h22.symm.trans hs24_0) (by decide)
    have hc0 : hereV bf n (skipB bf n i) = 34 := by rw [← h_p21, ← h_h22]; exact hs24_0
    have hnb := nb_of hc0 (by decide) (by decide)
    refine lv_aload_n hx hb d_JsonReader_value_105 rfl (lv_at hl 0 rfl) ?_
    refine lv_iconst (v := 4) hx hb d_JsonReader_value_106 (by decide) ?_
    refine vq_put (D := (dC, dI)) (ci := 9) (v := .int 4) (ty := .int) (C := R_Value) (T := F_Value) (N := 10) hx hb hts in_Value t_Value t_Value_ok n_Value hown hK hP hD hS hqin efq rfl 0 (by decide) (hts _ z_313) (fun _ h9 => h9) rfl (by decide +kernel) rfl rfl (Nat.le_of_ble_eq_true rfl) d_JsonReader_value_107 (fun H locs hP hD hS => ?_)
    have hP : va_P (dC, dI) classes ([(jr, .inr (1, [.ref h0, .int dp, .int (md + 1), .ref qv])), (h0, .inr (8, [.ref qb, .ref qu, .int uc, .int ln, .int (nI n), .int (nI p21), .int pl])), (qb, .inl (cB, 4096, .inl bf)), (qu, .inl (cI, 4096, .inl ug))] ++ va_pl ((L ++ [qv])) ((va_up f1 qv (vE 4 0 none none none none 0 none none 0)))) H := hP
    have hD : va_D A ([(jr, .inr (1, [.ref h0, .int dp, .int (md + 1), .ref qv])), (h0, .inr (8, [.ref qb, .ref qu, .int uc, .int ln, .int (nI n), .int (nI p21), .int pl])), (qb, .inl (cB, 4096, .inl bf)), (qu, .inl (cI, 4096, .inl ug))] ++ va_pl ((L ++ [qv])) ((va_up f1 qv (vE 4 0 none none none none 0 none none 0)))) := hD
    refine lv_aload_n hx hb d_JsonReader_value_110 rfl (lv_at hl 0 rfl) ?_
    refine lv_aload_n hx hb d_JsonReader_value_111 rfl (lv_at hl 2 rfl) ?_
    refine va_get (D := (dC, dI)) (ci := 1) (v := .ref h0) (C := R_JsonReader) (T := F_JsonReader) (N := 4) hx hb hts in_JsonReader hown hK hP 0 rfl rfl 0 (by decide) (hts _ w_80) (fun _ h9 => h9) rfl d_JsonReader_value_112 ?_
    have hPc := hP.sub (ws' := [(h0, .inr (8, [.ref qb, .ref qu, .int uc, .int ln, .int (nI n), .int (nI p21), .int pl])), (qb, .inl (cB, 4096, .inl bf)), (qu, .inl (cI, 4096, .inl ug))]) [1, 2, 3] rfl
    have hDc := hD.sub (ws' := [(h0, .inr (8, [.ref qb, .ref qu, .int uc, .int ln, .int (nI n), .int (nI p21), .int pl])), (qb, .inl (cB, 4096, .inl bf)), (qu, .inl (cI, 4096, .inl ug))]) [1, 2, 3] (by decide) rfl
    have hFc := va_free (wc := [(h0, .inr (8, [.ref qb, .ref qu, .int uc, .int ln, .int (nI n), .int (nI p21), .int pl])), (qb, .inl (cB, 4096, .inl bf)), (qu, .inl (cI, 4096, .inl ug))]) hD hS hA [1, 2, 3] rfl
    have hKc := hK.sub (tys' := [(cB, .byte), (cI, .int)]) [0, 1] rfl
    refine w_same (fun hq0 => ?_)
    refine vx_callr (vx_runV (As := []) (rest := [.ref qv]) ⟨hx, hb, hml, hown, hts⟩ (c_Tape_quoted l hl9 dC dI cB cI h0 qb qu H uc ln pl bf ug n p21 hn0 hlt) (cwV 0 hts (gt_V (own := R_JsonReader) (C := R_Tape) (i := 62) (y := y_Tape_quoted) i_Tape_quoted z_405 z_406 z_407 w_2) rfl rfl rfl (by decide +kernel) ⟨by show 10 + 1 ≤ 16 + 3 * k; omega, by show 8 + (3 + 11) + (160) ≤ 350 + 90 * k; omega⟩) ⟨mx_blind, va_recv hK hP (ci := 8) (q0 := 1) rfl rfl, fun U hU hW => ⟨rfl, ⟨hU, by rw [hU]; exact hPc, va_K.moved hW.alike hKc, hDc.weaken (fun _ _ _ _ => trivial)⟩, hN.warm hW, by rw [hU]; exact ZX.moved' hW.alike (ZX.narrow' (ZX.kept' hZ hS.2.1) hFc)⟩⟩ rfl rfl hl.1 rfl (lv_room (Nat.le_of_ble_eq_true rfl)) d_JsonReader_value_115 ⟨by show 1 + 1 ≤ 2 * (n - i) + 4; omega, by show 10 + (6 + qtN bf n p21) ≤ 16 * (n - i) + 40; have := qtN_le (f := bf) hlt; omega⟩) hS (fun q _ h => hFc q h) hFc (fun q _ h => hFc q h) (fun En ce q9 ⟨ax, cx, px, gx⟩ t9 H1 locs ht hvm hw hB hz1 hk1 hS hce hcv hcl => ?_) (fun ⟨j23, L23⟩ qn23 t9 H1 locs ht hvm hw hB hz1 hk1 hS => ?_)
    · obtain ⟨hEn, hP1, hK1, hD1⟩ := hB
      rw [ht] at hP1
      obtain ⟨hP, hD⟩ := va_joinQ (wr := [(jr, .inr (1, [.ref h0, .int dp, .int (md + 1), .ref qv]))]) (w1 := [(h0, .inr (8, [.ref qb, .ref qu, .int cx, .int ln, .int (nI n), .int ax, .int px])), (qb, .inl (cB, 4096, .inl bf)), (qu, .inl (cI, 4096, .inl gx))]) hP hD [1, 2, 3] [0] rfl rfl (by decide) (by decide) hk1 hFc hP1 hD1
      generalize H1 = H at hP hS hce ⊢
      have hP : va_P (dC, dI) classes ([(jr, .inr (1, [.ref h0, .int dp, .int (md + 1), .ref qv])), (h0, .inr (8, [.ref qb, .ref qu, .int cx, .int ln, .int (nI n), .int ax, .int px])), (qb, .inl (cB, 4096, .inl bf)), (qu, .inl (cI, 4096, .inl gx))] ++ va_pl ((L ++ [qv])) ((va_up f1 qv (vE 4 0 none none none none 0 none none 0)))) H := hP
      have hD : va_D A ([(jr, .inr (1, [.ref h0, .int dp, .int (md + 1), .ref qv])), (h0, .inr (8, [.ref qb, .ref qu, .int cx, .int ln, .int (nI n), .int ax, .int px])), (qb, .inl (cB, 4096, .inl bf)), (qu, .inl (cI, 4096, .inl gx))] ++ va_pl ((L ++ [qv])) ((va_up f1 qv (vE 4 0 none none none none 0 none none 0)))) := hD
      have hqn := qtN_le (f := bf) hlt
      have hP := plP_pre hP
      have hD := plD_pre hD
      have hkx : ∀ a, E a ≠ 0 → la ≠ some a → (va_up f1 qv (vE 4 0 none none none none 0 none none 0)) a = f a := fun a ha hl9 => (va_up_ne _ _ (hne a ha)).trans (hKX.2 a ha hl9)
      have hno : jV bf n k i = none := jV_lf0 hnb (jL_text0 hc0 (by rw [← h_p21]; exact hw))
      exact vx_out (fun x hx => (hex x hx).elim) hlocks hce hcv hcl (fun t9 ht2 ha => ⟨(ax, cx, px, gx, dp, (md + 1), some qv, (va_up f1 qv (vE 4 0 none none none none 0 none none 0))), ⟨hkx, hno⟩, ⟨hEn, by rw [ht2]; exact hP, va_K.moved ha hK, hD⟩, hS.F ht2⟩) hS.2.2 (by show 1 + (1) ≤ 2 * (n - i) + 4; omega) (by show 10 + (6 + qtN bf n p21) ≤ 16 * (n - i) + 40; omega)
    · obtain ⟨⟨hP1, hK1, hD1⟩, hz9⟩ := hB
      rw [ht] at hP1
      rw [ht] at hz9
      have hq0 : szk s.heap H1 (1 + 1) (10 + L23.length) := (hq0.trans hz9).mono (Nat.le_refl _) (Nat.le_refl _)
      refine w_tight hq0 ?_
      obtain ⟨hP, hD⟩ := va_joinQ (wr := [(jr, .inr (1, [.ref h0, .int dp, .int (md + 1), .ref qv]))]) (w1 := [(h0, .inr (8, [.ref qb, .ref qu, .int (nI L23.length), .int ln, .int (nI n), .int (nI (j23 + 1)), .int pl])), (qb, .inl (cB, 4096, .inl bf)), (qu, .inl (cI, 4096, .inl ((wrL ug 0 L23)))), (qn23, .inl (cI, L23.length, .inl (va_cpy (wrL ug 0 L23) (fun _ => 0) 0 0 L23.length)))]) hP hD [1, 2, 3] [0] rfl rfl (by decide) (by decide) hk1 hFc hP1 hD1
      generalize H1 = H at hP hS hq0 ⊢
      have hP : va_P (dC, dI) classes ([(jr, .inr (1, [.ref h0, .int dp, .int (md + 1), .ref qv])), (h0, .inr (8, [.ref qb, .ref qu, .int (nI L23.length), .int ln, .int (nI n), .int (nI (j23 + 1)), .int pl])), (qb, .inl (cB, 4096, .inl bf)), (qu, .inl (cI, 4096, .inl ((wrL ug 0 L23)))), (qn23, .inl (cI, L23.length, .inl (va_cpy (wrL ug 0 L23) (fun _ => 0) 0 0 L23.length)))] ++ va_pl ((L ++ [qv])) ((va_up f1 qv (vE 4 0 none none none none 0 none none 0)))) H := hP
      have hD : va_D A ([(jr, .inr (1, [.ref h0, .int dp, .int (md + 1), .ref qv])), (h0, .inr (8, [.ref qb, .ref qu, .int (nI L23.length), .int ln, .int (nI n), .int (nI (j23 + 1)), .int pl])), (qb, .inl (cB, 4096, .inl bf)), (qu, .inl (cI, 4096, .inl ((wrL ug 0 L23)))), (qn23, .inl (cI, L23.length, .inl (va_cpy (wrL ug 0 L23) (fun _ => 0) 0 0 L23.length)))] ++ va_pl ((L ++ [qv])) ((va_up f1 qv (vE 4 0 none none none none 0 none none 0)))) := hD
      have hb23 := qtR_b hlt (show qtR bf n p21 = some (j23, L23) from hw)
      obtain ⟨ha23, he23⟩ := hb23
      have hlf : jLeaf bf n (skipB bf n i) = some ((4, 0, L23), j23 + 1) := jL_text hc0 (by rw [← h_p21]; exact hw)
      refine vq_put (D := (dC, dI)) (ci := 9) (v := .ref qn23) (ty := .array .int) (C := R_Value) (T := F_Value) (N := 10) hx hb hts in_Value t_Value t_Value_ok n_Value hown hK hP hD hS hqin (va_up_self _ _ _) rfl 2 (by decide) (hts _ z_321) (fun _ h9 => h9) rfl (by decide +kernel) rfl rfl (Nat.le_of_ble_eq_true rfl) d_JsonReader_value_118 (fun H locs hP hD hS => ?_)
      rw [bx_uu] at hP hD
      have hP : va_P (dC, dI) classes ([(jr, .inr (1, [.ref h0, .int dp, .int (md + 1), .ref qv])), (h0, .inr (8, [.ref qb, .ref qu, .int (nI L23.length), .int ln, .int (nI n), .int (nI (j23 + 1)), .int pl])), (qb, .inl (cB, 4096, .inl bf)), (qu, .inl (cI, 4096, .inl ((wrL ug 0 L23)))), (qn23, .inl (cI, L23.length, .inl (va_cpy (wrL ug 0 L23) (fun _ => 0) 0 0 L23.length)))] ++ va_pl ((L ++ [qv])) ((va_up f1 qv (vE 4 0 (some qn23) none none none 0 none none 0)))) H := hP
      have hD : va_D A ([(jr, .inr (1, [.ref h0, .int dp, .int (md + 1), .ref qv])), (h0, .inr (8, [.ref qb, .ref qu, .int (nI L23.length), .int ln, .int (nI n), .int (nI (j23 + 1)), .int pl])), (qb, .inl (cB, 4096, .inl bf)), (qu, .inl (cI, 4096, .inl ((wrL ug 0 L23)))), (qn23, .inl (cI, L23.length, .inl (va_cpy (wrL ug 0 L23) (fun _ => 0) 0 0 L23.length)))] ++ va_pl ((L ++ [qv])) ((va_up f1 qv (vE 4 0 (some qn23) none none none 0 none none 0)))) := hD
      refine lv_goto (tgt := 183) hx hb d_JsonReader_value_121 (by decide) ?_
      refine lv_aload_n hx hb d_JsonReader_value_183 rfl (lv_at hl 0 rfl) ?_
      refine lv_aload_n hx hb d_JsonReader_value_184 rfl (lv_at hl 2 rfl) ?_
      refine va_get (D := (dC, dI)) (ci := 1) (v := .int (md + 1)) (C := R_JsonReader) (T := F_JsonReader) (N := 4) hx hb hts in_JsonReader hown hK hP 0 rfl rfl 2 (by decide) (hts _ z_83) (fun _ h9 => h9) rfl d_JsonReader_value_185 ?_
      refine lv_iload_n hx hb d_JsonReader_value_188 rfl (lv_at hl 1 rfl) ?_
      refine lv_isub hx hb d_JsonReader_value_189 ?_
      refine vq_put (D := (dC, dI)) (ci := 9) (v := .int ((md + 1) - md)) (ty := .int) (C := R_Value) (T := F_Value) (N := 10) hx hb hts in_Value t_Value t_Value_ok n_Value hown hK hP hD hS hqin (va_up_self _ _ _) rfl 9 (by decide) (hts _ z_339) (fun _ h9 => h9) rfl (by decide +kernel) rfl rfl (Nat.le_of_ble_eq_true rfl) d_JsonReader_value_190 (fun H locs hP hD hS => ?_)
      rw [bx_uu] at hP hD
      have hP : va_P (dC, dI) classes ([(jr, .inr (1, [.ref h0, .int dp, .int (md + 1), .ref qv])), (h0, .inr (8, [.ref qb, .ref qu, .int (nI L23.length), .int ln, .int (nI n), .int (nI (j23 + 1)), .int pl])), (qb, .inl (cB, 4096, .inl bf)), (qu, .inl (cI, 4096, .inl ((wrL ug 0 L23)))), (qn23, .inl (cI, L23.length, .inl (va_cpy (wrL ug 0 L23) (fun _ => 0) 0 0 L23.length)))] ++ va_pl ((L ++ [qv])) ((va_up f1 qv (vE 4 0 (some qn23) none none none 0 none none (((md + 1) - md)))))) H := hP
      have hD : va_D A ([(jr, .inr (1, [.ref h0, .int dp, .int (md + 1), .ref qv])), (h0, .inr (8, [.ref qb, .ref qu, .int (nI L23.length), .int ln, .int (nI n), .int (nI (j23 + 1)), .int pl])), (qb, .inl (cB, 4096, .inl bf)), (qu, .inl (cI, 4096, .inl ((wrL ug 0 L23)))), (qn23, .inl (cI, L23.length, .inl (va_cpy (wrL ug 0 L23) (fun _ => 0) 0 0 L23.length)))] ++ va_pl ((L ++ [qv])) ((va_up f1 qv (vE 4 0 (some qn23) none none none 0 none none (((md + 1) - md)))))) := hD
      refine lv_aload_n hx hb d_JsonReader_value_193 rfl (lv_at hl 2 rfl) ?_
      refine va_get (D := (dC, dI)) (ci := 1) (v := .ref h0) (C := R_JsonReader) (T := F_JsonReader) (N := 4) hx hb hts in_JsonReader hown hK hP 0 rfl rfl 0 (by decide) (hts _ w_80) (fun _ h9 => h9) rfl d_JsonReader_value_194 ?_
      have hPc := hP.sub (ws' := [(h0, .inr (8, [.ref qb, .ref qu, .int (nI L23.length), .int ln, .int (nI n), .int (nI (j23 + 1)), .int pl])), (qb, .inl (cB, 4096, .inl bf))]) [1, 2] rfl
      have hDc := hD.sub (ws' := [(h0, .inr (8, [.ref qb, .ref qu, .int (nI L23.length), .int ln, .int (nI n), .int (nI (j23 + 1)), .int pl])), (qb, .inl (cB, 4096, .inl bf))]) [1, 2] (by decide) rfl
      have hFc := va_free (wc := [(h0, .inr (8, [.ref qb, .ref qu, .int (nI L23.length), .int ln, .int (nI n), .int (nI (j23 + 1)), .int pl])), (qb, .inl (cB, 4096, .inl bf))]) hD hS hA [1, 2] rfl
      have hKc := hK.sub (tys' := [(cB, .byte)]) [0] rfl
      refine va_callv (va_runV (As := []) (rest := []) ⟨hx, hb, hml, hown, hts⟩ (c_Tape_skipBlanks l dC dI cB h0 qb H (.ref qu) ((nI L23.length)) ln pl bf n ((j23 + 1)) hn0 (by omega)) (cwV 0 hts (gt_V (own := R_JsonReader) (C := R_Tape) (i := 42) (y := y_Tape_skipBlanks) i_Tape_skipBlanks z_298 z_299 z_300 w_2) rfl rfl rfl (by decide +kernel) ⟨by show 0 + 1 ≤ 16 + 3 * k; omega, by show 8 + (2 + 11) + (0) ≤ 350 + 90 * k; omega⟩) ⟨mp_blind, va_recv hK hP (ci := 8) (q0 := 1) rfl rfl, fun U hU hW => ⟨rfl, hU, by rw [hU]; exact hPc, va_K.moved hW.alike hKc, hDc.weaken (fun _ _ _ _ => trivial)⟩⟩ rfl rfl hl.1 rfl (lv_room (Nat.le_of_ble_eq_true rfl)) d_JsonReader_value_197 ⟨by show (1 + 1) + (0) ≤ 2 * (n - i) + 4; omega, by show (10 + L23.length) + (0) ≤ 16 * (n - i) + 40; omega⟩) hS (fun q _ h => hFc q h) hFc (fun _u t9 H1 locs ht hvm hw hB hz1 hk1 hS => ?_)
      obtain ⟨hP1, hK1, hD1⟩ := hB
      rw [ht] at hP1
      obtain ⟨hP, hD⟩ := va_joinQ (wr := [(jr, .inr (1, [.ref h0, .int dp, .int (md + 1), .ref qv])), (qu, .inl (cI, 4096, .inl ((wrL ug 0 L23)))), (qn23, .inl (cI, L23.length, .inl (va_cpy (wrL ug 0 L23) (fun _ => 0) 0 0 L23.length)))]) (w1 := [(h0, .inr (8, [.ref qb, .ref qu, .int (nI L23.length), .int ln, .int (nI n), .int (nI (skipB bf n ((j23 + 1)))), .int pl])), (qb, .inl (cB, 4096, .inl bf))]) hP hD [1, 2] [0, 3, 4] rfl rfl (by decide) (by decide) hk1 hFc hP1 hD1
      generalize H1 = H at hP hS ⊢
      have hP : va_P (dC, dI) classes ([(jr, .inr (1, [.ref h0, .int dp, .int (md + 1), .ref qv])), (qu, .inl (cI, 4096, .inl ((wrL ug 0 L23)))), (qn23, .inl (cI, L23.length, .inl (va_cpy (wrL ug 0 L23) (fun _ => 0) 0 0 L23.length))), (h0, .inr (8, [.ref qb, .ref qu, .int (nI L23.length), .int ln, .int (nI n), .int (nI (skipB bf n ((j23 + 1)))), .int pl])), (qb, .inl (cB, 4096, .inl bf))] ++ va_pl ((L ++ [qv])) ((va_up f1 qv (vE 4 0 (some qn23) none none none 0 none none (((md + 1) - md)))))) H := hP
      have hD : va_D A ([(jr, .inr (1, [.ref h0, .int dp, .int (md + 1), .ref qv])), (qu, .inl (cI, 4096, .inl ((wrL ug 0 L23)))), (qn23, .inl (cI, L23.length, .inl (va_cpy (wrL ug 0 L23) (fun _ => 0) 0 0 L23.length))), (h0, .inr (8, [.ref qb, .ref qu, .int (nI L23.length), .int ln, .int (nI n), .int (nI (skipB bf n ((j23 + 1)))), .int pl])), (qb, .inl (cB, 4096, .inl bf))] ++ va_pl ((L ++ [qv])) ((va_up f1 qv (vE 4 0 (some qn23) none none none 0 none none (((md + 1) - md)))))) := hD
      have hP := hP.part (cx := [(jr, .inr (1, [.ref h0, .int dp, .int (md + 1), .ref qv])), (h0, .inr (8, [.ref qb, .ref qu, .int (nI L23.length), .int ln, .int (nI n), .int (nI (skipB bf n ((j23 + 1)))), .int pl])), (qb, .inl (cB, 4096, .inl bf)), (qu, .inl (cI, 4096, .inl ((wrL ug 0 L23)))), (qn23, .inl (cI, L23.length, .inl (va_cpy (wrL ug 0 L23) (fun _ => 0) 0 0 L23.length)))]) [0, 3, 4, 1, 2] rfl
      have hD := hD.part (cx := [(jr, .inr (1, [.ref h0, .int dp, .int (md + 1), .ref qv])), (h0, .inr (8, [.ref qb, .ref qu, .int (nI L23.length), .int ln, .int (nI n), .int (nI (skipB bf n ((j23 + 1)))), .int pl])), (qb, .inl (cB, 4096, .inl bf)), (qu, .inl (cI, 4096, .inl ((wrL ug 0 L23)))), (qn23, .inl (cI, L23.length, .inl (va_cpy (wrL ug 0 L23) (fun _ => 0) 0 0 L23.length)))]) [0, 3, 4, 1, 2] (by decide) rfl
      obtain ⟨p24, h_p24⟩ : ∃ z, z = skipB bf n ((j23 + 1)) := ⟨_, rfl⟩
      have hb_p24 := skip_b (f := bf) (show ((j23 + 1)) ≤ n by omega)
      rw [← h_p24] at hP hD hb_p24
      have hP : va_P (dC, dI) classes ([(jr, .inr (1, [.ref h0, .int dp, .int (md + 1), .ref qv])), (h0, .inr (8, [.ref qb, .ref qu, .int (nI L23.length), .int ln, .int (nI n), .int (nI p24), .int pl])), (qb, .inl (cB, 4096, .inl bf)), (qu, .inl (cI, 4096, .inl ((wrL ug 0 L23)))), (qn23, .inl (cI, L23.length, .inl (va_cpy (wrL ug 0 L23) (fun _ => 0) 0 0 L23.length)))] ++ va_pl ((L ++ [qv])) ((va_up f1 qv (vE 4 0 (some qn23) none none none 0 none none (((md + 1) - md)))))) H := hP
      have hD : va_D A ([(jr, .inr (1, [.ref h0, .int dp, .int (md + 1), .ref qv])), (h0, .inr (8, [.ref qb, .ref qu, .int (nI L23.length), .int ln, .int (nI n), .int (nI p24), .int pl])), (qb, .inl (cB, 4096, .inl bf)), (qu, .inl (cI, 4096, .inl ((wrL ug 0 L23)))), (qn23, .inl (cI, L23.length, .inl (va_cpy (wrL ug 0 L23) (fun _ => 0) 0 0 L23.length)))] ++ va_pl ((L ++ [qv])) ((va_up f1 qv (vE 4 0 (some qn23) none none none 0 none none (((md + 1) - md)))))) := hD
      refine lv_aload_n hx hb d_JsonReader_value_200 rfl (lv_at hl 0 rfl) ?_
      have hqn0 : E1 qn23 = 0 := Classical.byContradiction (fun h => plD_new (X := [(jr, .inr (1, [.ref h0, .int dp, .int (md + 1), .ref qv])), (h0, .inr (8, [.ref qb, .ref qu, .int (nI L23.length), .int ln, .int (nI n), .int (nI p24), .int pl])), (qb, .inl (cB, 4096, .inl bf)), (qu, .inl (cI, 4096, .inl ((wrL ug 0 L23))))]) hD (hO1.inL h))
      have hqnL := plD_new (X := [(jr, .inr (1, [.ref h0, .int dp, .int (md + 1), .ref qv])), (h0, .inr (8, [.ref qb, .ref qu, .int (nI L23.length), .int ln, .int (nI n), .int (nI p24), .int pl])), (qb, .inl (cB, 4096, .inl bf)), (qu, .inl (cI, 4096, .inl ((wrL ug 0 L23))))]) hD
      have hP := plP_push (X := [(jr, .inr (1, [.ref h0, .int dp, .int (md + 1), .ref qv])), (h0, .inr (8, [.ref qb, .ref qu, .int (nI L23.length), .int ln, .int (nI n), .int (nI p24), .int pl])), (qb, .inl (cB, 4096, .inl bf)), (qu, .inl (cI, 4096, .inl ((wrL ug 0 L23))))]) hP hqnL
      have hD := plD_push (X := [(jr, .inr (1, [.ref h0, .int dp, .int (md + 1), .ref qv])), (h0, .inr (8, [.ref qb, .ref qu, .int (nI L23.length), .int ln, .int (nI n), .int (nI p24), .int pl])), (qb, .inl (cB, 4096, .inl bf)), (qu, .inl (cI, 4096, .inl ((wrL ug 0 L23))))]) hD hqnL
      rw [List.append_assoc] at hP hD
      have hP : va_P (dC, dI) classes ([(jr, .inr (1, [.ref h0, .int dp, .int (md + 1), .ref qv])), (h0, .inr (8, [.ref qb, .ref qu, .int (nI L23.length), .int ln, .int (nI n), .int (nI p24), .int pl])), (qb, .inl (cB, 4096, .inl bf)), (qu, .inl (cI, 4096, .inl ((wrL ug 0 L23))))] ++ va_pl ((L ++ ([qv] ++ [qn23]))) ((va_up (va_up f1 qv (vE 4 0 (some qn23) none none none 0 none none (((md + 1) - md)))) qn23 (tE cI L23.length (va_cpy (wrL ug 0 L23) (fun _ => 0) 0 0 L23.length))))) H := hP
      have hD : va_D A ([(jr, .inr (1, [.ref h0, .int dp, .int (md + 1), .ref qv])), (h0, .inr (8, [.ref qb, .ref qu, .int (nI L23.length), .int ln, .int (nI n), .int (nI p24), .int pl])), (qb, .inl (cB, 4096, .inl bf)), (qu, .inl (cI, 4096, .inl ((wrL ug 0 L23))))] ++ va_pl ((L ++ ([qv] ++ [qn23]))) ((va_up (va_up f1 qv (vE 4 0 (some qn23) none none none 0 none none (((md + 1) - md)))) qn23 (tE cI L23.length (va_cpy (wrL ug 0 L23) (fun _ => 0) 0 0 L23.length))))) := hD
      have hqq : qv ≠ qn23 := fun e => by rw [← e, hq1] at hqn0; cases hqn0
      have hOa := hO1.addT (g := va_cpy (wrL ug 0 L23) (fun _ => 0) 0 0 L23.length) hqn0 (show L23.length ≤ 4096 by omega)
      have hqa : va_up E1 qn23 4 qv = 1 := (va_up_ne _ _ hqq).trans hq1
      have hO2 := PO.upd1 (kd := 4) (nu := 0) (tx := some qn23) (me := none) (pa := none) (na := none) (ix := 0) (nm := none) (no := none) (sp := (((md + 1) - md))) hOa hqa (fun b h => by cases h; exact va_up_self _ _ _) (fun b h => (nomatch h)) (fun b h => (nomatch h)) (fun b h => (nomatch h)) (fun b h => (nomatch h)) (fun b h => (nomatch h))
      rw [← va_up_comm f1 _ _ hqq, List.append_assoc] at hO2
      have hJ : JP cI cV E lv L f la i n qv p24 ([qv] ++ [qn23]) (va_up (va_up E1 qn23 4) qv 2) (va_up (va_up f1 qv (vE 4 0 (some qn23) none none none 0 none none (((md + 1) - md)))) qn23 (tE cI L23.length (va_cpy (wrL ug 0 L23) (fun _ => 0) 0 0 L23.length))) qv := JP.mk hqz hE1 hKX hO2 (EX.new hqn0) (fun a ha => by by_cases e : a = qn23; (· rw [e, va_up_self]; decide); (· rw [va_up_ne _ _ e, ha]; decide)) (fun a ha hn9 => by rw [va_up_ne _ _ (show a ≠ qn23 from fun e => ha (e ▸ hqn0)), va_up_ne _ _ hn9]) (Or.inl hqa) (Or.inl rfl) ((va_up_ne _ _ hqq).trans (va_up_self _ _ _)) (fun _ h => by cases h) (fun h => absurd h (by decide)) (by omega) (by omega)
      have hlaz : ∀ z, la = some z → E z ≠ 0 ∧ z ≠ qv := fun z hz => ⟨by rcases hla z hz with h9 | h9 | h9 <;> omega, fun e => by rcases hla z hz with h9 | h9 | h9 <;> (rw [e, hqz] at h9; omega)⟩
      have hx1z : ∀ z, z = qn23 → E z = 0 := fun z e9 => by rw [e9]; exact (show EX E E1 by rw [hE1]; exact EX.new hqz).z hqn0
      have hOBJ : OBJ E (va_up (va_up E1 qn23 4) qv 2) la (va_up (va_up f1 qv (vE 4 0 (some qn23) none none none 0 none none (((md + 1) - md)))) qn23 (tE cI L23.length (va_cpy (wrL ug 0 L23) (fun _ => 0) 0 0 L23.length))) qv qv 1 k (jleaf k (4, 0, L23)) := OBJ.leaf ((va_up_ne _ _ hqq).trans (va_up_self _ _ _)) rfl (show (4 : Nat) < 5 by decide) (fun h9 => absurd h9 (show ¬ (4 : Nat) = 3 by decide)) (fun _ => ⟨qn23, rfl, (txL_t (va_up_self _ _ _)).trans tx_list⟩) (by rw [show ((((md + 1) - md)) : Int32) = (md + 1 + nI 0) - md by rw [show nI 0 = 0 from rfl, Int32.add_zero]]; exact md_span) hqz (Or.inl (va_up_self _ _ _)) (fun z hz => by rw [va_up_ne _ _ (show z ≠ qn23 from fun e9 => (hlaz z hz).1 (hx1z z e9)), va_up_ne _ _ (hlaz z hz).2]; exact hlk1 z hz)
      have hJFx : JFx bf n k d i p24 D dp (jleaf k (4, 0, L23)) := JFx.leaf hnb hlf (show (4 : Nat) < 5 by decide) (by first | exact h_p24 | (rw [← h_p21]; exact h_p24)) hDd hdp
      refine w_same (fun hq => ?_)
      refine W.widen (k := 2 * (n - i) + 4) (n := 16 * (n - i) + 40) (by show (1 + 1) ≤ 2 * (n - i) + 4; omega) (by show (10 + L23.length) ≤ 16 * (n - i) + 40; omega) ?_
      refine vx_ret ?_
      exact W.aret (v := .ref qv) hx hb hr (Or.inl ⟨_, rfl⟩) (Or.inr ⟨_, rfl⟩) (fun t9 ht hW => ⟨⟨(qv, p24, [qv] ++ [qn23], va_up (va_up E1 qn23 4) qv 2, (va_up (va_up f1 qv (vE 4 0 (some qn23) none none none 0 none none (((md + 1) - md)))) qn23 (tE cI L23.length (va_cpy (wrL ug 0 L23) (fun _ => 0) 0 0 L23.length))), (nI L23.length), (wrL ug 0 L23), dp, (md + 1), qv), qv, rfl, ⟨hJ, ⟨_, 1, hJFx, hOBJ, rfl⟩⟩, ⟨by rw [ht]; exact hP, va_K.moved hW.alike hK, hD⟩, by rw [ht]; exact ⟨hq.mono (by show (1 + 1) ≤ 2 * (p24 - i); omega) (by show (10 + L23.length) ≤ 16 * (p24 - i) - 1; omega), rfl⟩⟩, hS.F ht⟩) hS.2.2 d_JsonReader_value_201
  · by_cases hs24_1 : h22 = 91
    · refine lv_lookup (tgt := 84) (off := 60) hx hb d_JsonReader_value_24 (by decide) (by rw [hs24_1]; decide) (by decide) ?_
      have hlt := here_lc (h_h22.symm.trans hs24_1) (by decide)
      have hc0 : hereV bf n (skipB bf n i) = 91 := by rw [← h_p21, ← h_h22]; exact hs24_1
      refine lv_aload_n hx hb d_JsonReader_value_84 rfl (lv_at hl 2 rfl) ?_
      refine lv_aload_n hx hb d_JsonReader_value_85 rfl (lv_at hl 0 rfl) ?_
      refine lv_iconst (v := 5) hx hb d_JsonReader_value_86 (by decide) ?_
      refine lv_iload_n hx hb d_JsonReader_value_87 rfl (lv_at hl 3 rfl) ?_
      have hPc := hP.part (cx := [(jr, .inr (1, [.ref h0, .int dp, .int (md + 1), .ref qv])), (h0, .inr (8, [.ref qb, .ref qu, .int uc, .int ln, .int (nI n), .int (nI p21), .int pl])), (qb, .inl (cB, 4096, .inl bf)), (qu, .inl (cI, 4096, .inl ug))]) [0, 1, 2, 3] rfl
      have hDc := hD.part (cx := [(jr, .inr (1, [.ref h0, .int dp, .int (md + 1), .ref qv])), (h0, .inr (8, [.ref qb, .ref qu, .int uc, .int ln, .int (nI n), .int (nI p21), .int pl])), (qb, .inl (cB, 4096, .inl bf)), (qu, .inl (cI, 4096, .inl ug))]) [0, 1, 2, 3] (by decide) rfl
      have hFc := va_freeP (cx := [(jr, .inr (1, [.ref h0, .int dp, .int (md + 1), .ref qv])), (h0, .inr (8, [.ref qb, .ref qu, .int uc, .int ln, .int (nI n), .int (nI p21), .int pl])), (qb, .inl (cB, 4096, .inl bf)), (qu, .inl (cI, 4096, .inl ug))]) hD hS hA [0, 1, 2, 3] rfl
      have hKc := hK.sub (tys' := [(cB, .byte), (cI, .int), (cV, .object "QueryBench$Value")]) [0, 1, 2] rfl
      refine w_same (fun hq0 => ?_)
      refine vx_callv (vx_runV (As := [.ref qv, .int 5, .int (nI d)]) (rest := []) ⟨hx, hb, hml, hown, hts⟩ (c_JsonReader_container l hl9 K dC dI cI cV lv cB h0 qb qu ln bf n jr hn0 k d hkd9 HV H E1 (L ++ [qv]) f1 hO1 p21 uc pl ug dp (md + 1) qv 5 (Or.inl rfl) hq1 efq hlt D hdp hDd hD32) (cwV 3 hts (gt_V (own := R_JsonReader) (C := R_JsonReader) (i := 55) (y := y_JsonReader_container) i_JsonReader_container z_366 z_368 (gt_sel (y := y_JsonReader_container) (n := 4) (by decide +kernel)) w_3) rfl rfl rfl (by decide +kernel) ⟨by show 15 + 3 * k + 1 ≤ 16 + 3 * k; omega, by show 8 + (5 + 11) + (320 + 90 * k) ≤ 350 + 90 * k; omega⟩) ⟨ml_blind, va_recv hK hP (ci := 1) (q0 := 0) rfl rfl, fun U hU hW => ⟨rfl, ⟨hU, by rw [hU]; exact hPc, va_K.moved hW.alike hKc, hDc.weaken (fun _ _ _ _ => trivial)⟩, hN.warm hW, by rw [hU]; exact ZX.moved' hW.alike (ZX.narrow' (ZX.kept' hZ hS.2.1) hFc), by rw [hU]; exact CE.call hC hS.2.1 hFc hW, va_AO.moved hW.alike hV⟩⟩ rfl rfl hl.1 rfl (lv_room (Nat.le_of_ble_eq_true rfl)) d_JsonReader_value_88 ⟨by show 1 + (2 * (n - p21) + 2) ≤ 2 * (n - i) + 4; omega, by show 10 + (16 * (n - p21) + 24) ≤ 16 * (n - i) + 40; omega⟩) hS (fun q _ h => hFc q h) hFc (fun q _ h => hFc q h) (fun En ce q9 ⟨ax, cx, px, gx, dx, mx, lx, fx⟩ t9 H1 locs ht hvm hw hB hz1 hk1 hS hce hcv hcl => ?_) (fun ⟨p3, N3, E3, f3, uc3, ug3, dp3, md3, lb3⟩ t9 H1 locs ht hvm hw hB hz1 hk1 hS => ?_)
      · obtain ⟨hEn, hP1, hK1, hD1⟩ := hB
        rw [ht] at hP1
        obtain ⟨hP, hD⟩ := va_joinP (wr := []) (rx := [(jr, .inr (1, [.ref h0, .int dx, .int mx, va_rf lx])), (h0, .inr (8, [.ref qb, .ref qu, .int cx, .int ln, .int (nI n), .int ax, .int px])), (qb, .inl (cB, 4096, .inl bf)), (qu, .inl (cI, 4096, .inl gx))]) (pl1 := va_pl ((L ++ [qv])) fx) hP hD [0, 1, 2, 3] [] rfl rfl (by decide) (by decide) hk1 hFc hP1 hD1
        generalize H1 = H at hP hS hce ⊢
        have hP : va_P (dC, dI) classes ([(jr, .inr (1, [.ref h0, .int dx, .int mx, va_rf lx])), (h0, .inr (8, [.ref qb, .ref qu, .int cx, .int ln, .int (nI n), .int ax, .int px])), (qb, .inl (cB, 4096, .inl bf)), (qu, .inl (cI, 4096, .inl gx))] ++ va_pl ((L ++ [qv])) fx) H := hP
        have hD : va_D A ([(jr, .inr (1, [.ref h0, .int dx, .int mx, va_rf lx])), (h0, .inr (8, [.ref qb, .ref qu, .int cx, .int ln, .int (nI n), .int ax, .int px])), (qb, .inl (cB, 4096, .inl bf)), (qu, .inl (cI, 4096, .inl gx))] ++ va_pl ((L ++ [qv])) fx) := hD
        have hP := plP_pre hP
        have hD := plD_pre hD
        have hkx : ∀ a, E a ≠ 0 → la ≠ some a → fx a = f a := fun a ha hl9 => ((show ∀ a, E1 a ≠ 0 → a ≠ qv → fx a = f1 a from hw.1) a (by rw [hE1, va_up_ne _ _ (hne a ha)]; exact ha) (hne a ha)).trans (hKX.2 a ha hl9)
        have hno : jV bf n k i = none := CNn.jv (kd := 5) (by rw [← h_p21]; exact hw.2) (Or.inl ⟨rfl, hc0⟩)
        exact vx_out (fun x hx => (hex x hx).elim) hlocks hce hcv hcl (fun t9 ht2 ha => ⟨(ax, cx, px, gx, dx, mx, lx, fx), ⟨hkx, hno⟩, ⟨hEn, by rw [ht2]; exact hP, va_K.moved ha hK, hD⟩, hS.F ht2⟩) hS.2.2 (by show 1 + (2 * (n - p21) + 2) ≤ 2 * (n - i) + 4; omega) (by show 10 + (16 * (n - p21) + 24) ≤ 16 * (n - i) + 40; omega)
      · obtain ⟨⟨hP1, hK1, hD1⟩, hz9⟩ := hB
        rw [ht] at hP1
        rw [ht] at hz9
        have hq0 : szk s.heap H1 (1 + (2 * (p3 - p21) - 3)) (10 + (16 * (p3 - p21) - 32)) := (hq0.trans hz9).mono (Nat.le_refl _) (Nat.le_refl _)
        refine w_tight hq0 ?_
        obtain ⟨hP, hD⟩ := va_joinP (wr := []) (rx := [(jr, .inr (1, [.ref h0, .int dp3, .int md3, .ref lb3])), (h0, .inr (8, [.ref qb, .ref qu, .int uc3, .int ln, .int (nI n), .int (nI p3), .int pl])), (qb, .inl (cB, 4096, .inl bf)), (qu, .inl (cI, 4096, .inl ug3))]) (pl1 := va_pl (((L ++ [qv]) ++ N3)) f3) hP hD [0, 1, 2, 3] [] rfl rfl (by decide) (by decide) hk1 hFc hP1 hD1
        generalize H1 = H at hP hS hq0 ⊢
        have hP : va_P (dC, dI) classes ([(jr, .inr (1, [.ref h0, .int dp3, .int md3, .ref lb3])), (h0, .inr (8, [.ref qb, .ref qu, .int uc3, .int ln, .int (nI n), .int (nI p3), .int pl])), (qb, .inl (cB, 4096, .inl bf)), (qu, .inl (cI, 4096, .inl ug3))] ++ va_pl (((L ++ [qv]) ++ N3)) f3) H := hP
        have hD : va_D A ([(jr, .inr (1, [.ref h0, .int dp3, .int md3, .ref lb3])), (h0, .inr (8, [.ref qb, .ref qu, .int uc3, .int ln, .int (nI n), .int (nI p3), .int pl])), (qb, .inl (cB, 4096, .inl bf)), (qu, .inl (cI, 4096, .inl ug3))] ++ va_pl (((L ++ [qv]) ++ N3)) f3) := hD
        obtain ⟨hp3, hM, hCF⟩ := hw
        have hCF : CFx cV bf n k d (skipB bf n i) p3 D 5 dp3 E1 E3 f3 qv lb3 (md + 1) md3 := by rw [← h_p21]; exact hCF
        have hp3 : p21 + 2 ≤ p3 := hp3
        have hM : MP cI cV E1 lv (L ++ [qv]) f1 qv p21 n p3 5 N3 E3 f3 lb3 := hM
        have hp4 := hM.2.1
        obtain ⟨me3, no3, efq3, hk6⟩ := hM.2.2.2.2.2.2.2.2
        have hO3 := hM.2.2.1
        rw [List.append_assoc] at hP hD hO3
        have hq3 : E3 qv = 1 := (hM.2.2.2.1 qv (by rw [hq1]; decide)).trans hq1
        have hq3in : qv ∈ L ++ ([qv] ++ N3) := hO3.inL (by rw [hq3]; decide)
        have hP : va_P (dC, dI) classes ([(jr, .inr (1, [.ref h0, .int dp3, .int md3, .ref lb3])), (h0, .inr (8, [.ref qb, .ref qu, .int uc3, .int ln, .int (nI n), .int (nI p3), .int pl])), (qb, .inl (cB, 4096, .inl bf)), (qu, .inl (cI, 4096, .inl ug3))] ++ va_pl ((L ++ ([qv] ++ N3))) f3) H := hP
        have hD : va_D A ([(jr, .inr (1, [.ref h0, .int dp3, .int md3, .ref lb3])), (h0, .inr (8, [.ref qb, .ref qu, .int uc3, .int ln, .int (nI n), .int (nI p3), .int pl])), (qb, .inl (cB, 4096, .inl bf)), (qu, .inl (cI, 4096, .inl ug3))] ++ va_pl ((L ++ ([qv] ++ N3))) f3) := hD
        refine lv_goto (tgt := 183) hx hb d_JsonReader_value_91 (by decide) ?_
        refine lv_aload_n hx hb d_JsonReader_value_183 rfl (lv_at hl 0 rfl) ?_
        refine lv_aload_n hx hb d_JsonReader_value_184 rfl (lv_at hl 2 rfl) ?_
        refine va_get (D := (dC, dI)) (ci := 1) (v := .int md3) (C := R_JsonReader) (T := F_JsonReader) (N := 4) hx hb hts in_JsonReader hown hK hP 0 rfl rfl 2 (by decide) (hts _ z_83) (fun _ h9 => h9) rfl d_JsonReader_value_185 ?_
        refine lv_iload_n hx hb d_JsonReader_value_188 rfl (lv_at hl 1 rfl) ?_
        refine lv_isub hx hb d_JsonReader_value_189 ?_
        refine vq_put (D := (dC, dI)) (ci := 9) (v := .int (md3 - md)) (ty := .int) (C := R_Value) (T := F_Value) (N := 10) hx hb hts in_Value t_Value t_Value_ok n_Value hown hK hP hD hS hq3in efq3 rfl 9 (by decide) (hts _ z_339) (fun _ h9 => h9) rfl (by decide +kernel) rfl rfl (Nat.le_of_ble_eq_true rfl) d_JsonReader_value_190 (fun H locs hP hD hS => ?_)
        have hP : va_P (dC, dI) classes ([(jr, .inr (1, [.ref h0, .int dp3, .int md3, .ref lb3])), (h0, .inr (8, [.ref qb, .ref qu, .int uc3, .int ln, .int (nI n), .int (nI p3), .int pl])), (qb, .inl (cB, 4096, .inl bf)), (qu, .inl (cI, 4096, .inl ug3))] ++ va_pl ((L ++ ([qv] ++ N3))) ((va_up f3 qv (vE 5 0 none me3 none none 0 none no3 ((md3 - md)))))) H := hP
        have hD : va_D A ([(jr, .inr (1, [.ref h0, .int dp3, .int md3, .ref lb3])), (h0, .inr (8, [.ref qb, .ref qu, .int uc3, .int ln, .int (nI n), .int (nI p3), .int pl])), (qb, .inl (cB, 4096, .inl bf)), (qu, .inl (cI, 4096, .inl ug3))] ++ va_pl ((L ++ ([qv] ++ N3))) ((va_up f3 qv (vE 5 0 none me3 none none 0 none no3 ((md3 - md)))))) := hD
        refine lv_aload_n hx hb d_JsonReader_value_193 rfl (lv_at hl 2 rfl) ?_
        refine va_get (D := (dC, dI)) (ci := 1) (v := .ref h0) (C := R_JsonReader) (T := F_JsonReader) (N := 4) hx hb hts in_JsonReader hown hK hP 0 rfl rfl 0 (by decide) (hts _ w_80) (fun _ h9 => h9) rfl d_JsonReader_value_194 ?_
        have hPc := hP.sub (ws' := [(h0, .inr (8, [.ref qb, .ref qu, .int uc3, .int ln, .int (nI n), .int (nI p3), .int pl])), (qb, .inl (cB, 4096, .inl bf))]) [1, 2] rfl
        have hDc := hD.sub (ws' := [(h0, .inr (8, [.ref qb, .ref qu, .int uc3, .int ln, .int (nI n), .int (nI p3), .int pl])), (qb, .inl (cB, 4096, .inl bf))]) [1, 2] (by decide) rfl
        have hFc := va_free (wc := [(h0, .inr (8, [.ref qb, .ref qu, .int uc3, .int ln, .int (nI n), .int (nI p3), .int pl])), (qb, .inl (cB, 4096, .inl bf))]) hD hS hA [1, 2] rfl
        have hKc := hK.sub (tys' := [(cB, .byte)]) [0] rfl
        refine va_callv (va_runV (As := []) (rest := []) ⟨hx, hb, hml, hown, hts⟩ (c_Tape_skipBlanks l dC dI cB h0 qb H (.ref qu) uc3 ln pl bf n p3 hn0 (by omega)) (cwV 0 hts (gt_V (own := R_JsonReader) (C := R_Tape) (i := 42) (y := y_Tape_skipBlanks) i_Tape_skipBlanks z_298 z_299 z_300 w_2) rfl rfl rfl (by decide +kernel) ⟨by show 0 + 1 ≤ 16 + 3 * k; omega, by show 8 + (2 + 11) + (0) ≤ 350 + 90 * k; omega⟩) ⟨mp_blind, va_recv hK hP (ci := 8) (q0 := 1) rfl rfl, fun U hU hW => ⟨rfl, hU, by rw [hU]; exact hPc, va_K.moved hW.alike hKc, hDc.weaken (fun _ _ _ _ => trivial)⟩⟩ rfl rfl hl.1 rfl (lv_room (Nat.le_of_ble_eq_true rfl)) d_JsonReader_value_197 ⟨by show (1 + (2 * (p3 - p21) - 3)) + (0) ≤ 2 * (n - i) + 4; omega, by show (10 + (16 * (p3 - p21) - 32)) + (0) ≤ 16 * (n - i) + 40; omega⟩) hS (fun q _ h => hFc q h) hFc (fun _u t9 H1 locs ht hvm hw hB hz1 hk1 hS => ?_)
        obtain ⟨hP1, hK1, hD1⟩ := hB
        rw [ht] at hP1
        obtain ⟨hP, hD⟩ := va_joinQ (wr := [(jr, .inr (1, [.ref h0, .int dp3, .int md3, .ref lb3])), (qu, .inl (cI, 4096, .inl ug3))]) (w1 := [(h0, .inr (8, [.ref qb, .ref qu, .int uc3, .int ln, .int (nI n), .int (nI (skipB bf n p3)), .int pl])), (qb, .inl (cB, 4096, .inl bf))]) hP hD [1, 2] [0, 3] rfl rfl (by decide) (by decide) hk1 hFc hP1 hD1
        generalize H1 = H at hP hS ⊢
        have hP : va_P (dC, dI) classes ([(jr, .inr (1, [.ref h0, .int dp3, .int md3, .ref lb3])), (qu, .inl (cI, 4096, .inl ug3)), (h0, .inr (8, [.ref qb, .ref qu, .int uc3, .int ln, .int (nI n), .int (nI (skipB bf n p3)), .int pl])), (qb, .inl (cB, 4096, .inl bf))] ++ va_pl ((L ++ ([qv] ++ N3))) ((va_up f3 qv (vE 5 0 none me3 none none 0 none no3 ((md3 - md)))))) H := hP
        have hD : va_D A ([(jr, .inr (1, [.ref h0, .int dp3, .int md3, .ref lb3])), (qu, .inl (cI, 4096, .inl ug3)), (h0, .inr (8, [.ref qb, .ref qu, .int uc3, .int ln, .int (nI n), .int (nI (skipB bf n p3)), .int pl])), (qb, .inl (cB, 4096, .inl bf))] ++ va_pl ((L ++ ([qv] ++ N3))) ((va_up f3 qv (vE 5 0 none me3 none none 0 none no3 ((md3 - md)))))) := hD
        have hP := hP.part (cx := [(jr, .inr (1, [.ref h0, .int dp3, .int md3, .ref lb3])), (h0, .inr (8, [.ref qb, .ref qu, .int uc3, .int ln, .int (nI n), .int (nI (skipB bf n p3)), .int pl])), (qb, .inl (cB, 4096, .inl bf)), (qu, .inl (cI, 4096, .inl ug3))]) [0, 2, 3, 1] rfl
        have hD := hD.part (cx := [(jr, .inr (1, [.ref h0, .int dp3, .int md3, .ref lb3])), (h0, .inr (8, [.ref qb, .ref qu, .int uc3, .int ln, .int (nI n), .int (nI (skipB bf n p3)), .int pl])), (qb, .inl (cB, 4096, .inl bf)), (qu, .inl (cI, 4096, .inl ug3))]) [0, 2, 3, 1] (by decide) rfl
        obtain ⟨p25, h_p25⟩ : ∃ z, z = skipB bf n p3 := ⟨_, rfl⟩
        have hb_p25 := skip_b (f := bf) (show p3 ≤ n by omega)
        rw [← h_p25] at hP hD hb_p25
        have hP : va_P (dC, dI) classes ([(jr, .inr (1, [.ref h0, .int dp3, .int md3, .ref lb3])), (h0, .inr (8, [.ref qb, .ref qu, .int uc3, .int ln, .int (nI n), .int (nI p25), .int pl])), (qb, .inl (cB, 4096, .inl bf)), (qu, .inl (cI, 4096, .inl ug3))] ++ va_pl ((L ++ ([qv] ++ N3))) ((va_up f3 qv (vE 5 0 none me3 none none 0 none no3 ((md3 - md)))))) H := hP
        have hD : va_D A ([(jr, .inr (1, [.ref h0, .int dp3, .int md3, .ref lb3])), (h0, .inr (8, [.ref qb, .ref qu, .int uc3, .int ln, .int (nI n), .int (nI p25), .int pl])), (qb, .inl (cB, 4096, .inl bf)), (qu, .inl (cI, 4096, .inl ug3))] ++ va_pl ((L ++ ([qv] ++ N3))) ((va_up f3 qv (vE 5 0 none me3 none none 0 none no3 ((md3 - md)))))) := hD
        refine lv_aload_n hx hb d_JsonReader_value_200 rfl (lv_at hl 0 rfl) ?_
        have hvo := hO3.vo (Or.inl hq3) efq3
        have hO2 := PO.upd1 (kd := 5) (nu := 0) (tx := none) (me := me3) (pa := none) (na := none) (ix := 0) (nm := none) (no := no3) (sp := ((md3 - md))) hO3 hq3 (fun b h => (nomatch h)) hvo.2.1 (fun b h => (nomatch h)) (fun b h => (nomatch h)) (fun b h => (nomatch h)) hvo.2.2.2.2.2.1
        have hJ : JP cI cV E lv L f la i n qv p25 ([qv] ++ N3) (va_up E3 qv 2) (va_up f3 qv (vE 5 0 none me3 none none 0 none no3 ((md3 - md)))) lb3 := JP.mk hqz hE1 hKX hO2 hM.2.2.2.1 hM.2.2.2.2.1 (fun a ha hn9 => by rw [va_up_ne _ _ hn9]; exact hM.2.2.2.2.2.1 a ha hn9) hM.2.2.2.2.2.2.1 hM.2.2.2.2.2.2.2.1 (va_up_self _ _ _) (fun h => absurd h (by decide)) hk6 (by omega) (by omega)
        have hlaz : ∀ z, la = some z → E z ≠ 0 ∧ z ≠ qv := fun z hz => ⟨by rcases hla z hz with h9 | h9 | h9 <;> omega, fun e => by rcases hla z hz with h9 | h9 | h9 <;> (rw [e, hqz] at h9; omega)⟩
        have hOBJ := CFx.obj (E0 := E) (E5 := va_up E3 qv 2) (la := la) (f5 := (va_up f3 qv (vE 5 0 none me3 none none 0 none no3 ((md3 - md))))) (sp := (((md3 - md)))) (s := p25) hCF (Or.inl ⟨rfl, hc0⟩) h_p25 hO3 (Or.inl hq3) (fun me9 no9 e9 => by obtain ⟨x1, x2, x3, x4, x5, x6, x7, x8, x9, x10⟩ := vE_inj (efq3.symm.trans e9); rw [← x4, ← x9]; exact va_up_self _ _ _) (fun a _ hn9 => va_up_ne _ _ hn9) rfl (by rw [hE1]; exact EX.new hqz) hqz (fun a ha => by show va_up E3 qv 2 a = 2 ∨ va_up E3 qv 2 a = 3; by_cases e9 : a = qv; (· rw [e9, va_up_self]; exact Or.inl rfl); (· rw [va_up_ne _ _ e9]; exact ha)) (Or.inl (va_up_self _ _ _)) (fun z hz => by rw [va_up_ne _ _ (hlaz z hz).2, hM.2.2.2.2.2.1 z (by rw [hE1, va_up_ne _ _ (hlaz z hz).2]; exact (hlaz z hz).1) (hlaz z hz).2]; exact hlk1 z hz)
        refine w_same (fun hq => ?_)
        refine W.widen (k := 2 * (n - i) + 4) (n := 16 * (n - i) + 40) (by show (1 + (2 * (p3 - p21) - 3)) ≤ 2 * (n - i) + 4; omega) (by show (10 + (16 * (p3 - p21) - 32)) ≤ 16 * (n - i) + 40; omega) ?_
        refine vx_ret ?_
        exact W.aret (v := .ref qv) hx hb hr (Or.inl ⟨_, rfl⟩) (Or.inr ⟨_, rfl⟩) (fun t9 ht hW => ⟨⟨(qv, p25, [qv] ++ N3, va_up E3 qv 2, (va_up f3 qv (vE 5 0 none me3 none none 0 none no3 ((md3 - md)))), uc3, ug3, dp3, md3, lb3), qv, rfl, ⟨hJ, hOBJ⟩, ⟨by rw [ht]; exact hP, va_K.moved hW.alike hK, hD⟩, by rw [ht]; exact ⟨hq.mono (by show (1 + (2 * (p3 - p21) - 3)) ≤ 2 * (p25 - i); omega) (by show (10 + (16 * (p3 - p21) - 32)) ≤ 16 * (p25 - i) - 1; omega), rfl⟩⟩, hS.F ht⟩) hS.2.2 d_JsonReader_value_201
    · by_cases hs24_2 : h22 = 102
      · refine lv_lookup (tgt := 136) (off := 112) hx hb d_JsonReader_value_24 (by decide) (by rw [hs24_2]; decide) (by decide) ?_
        have hlt := here_lc (h_h22.symm.trans hs24_2) (by decide)
        have hc0 : hereV bf n (skipB bf n i) = 102 := by rw [← h_p21, ← h_h22]; exact hs24_2
        have hnb := nb_of hc0 (by decide) (by decide)
        refine lv_aload_n hx hb d_JsonReader_value_136 rfl (lv_at hl 2 rfl) ?_
        refine va_get (D := (dC, dI)) (ci := 1) (v := .ref h0) (C := R_JsonReader) (T := F_JsonReader) (N := 4) hx hb hts in_JsonReader hown hK hP 0 rfl rfl 0 (by decide) (hts _ w_80) (fun _ h9 => h9) rfl d_JsonReader_value_137 ?_
        refine va_ldcS hx hb hown (hC 6 _ rfl).2 d_JsonReader_value_140 ?_
        have hPc := hP.sub (ws' := [(h0, .inr (8, [.ref qb, .ref qu, .int uc, .int ln, .int (nI n), .int (nI p21), .int pl])), (qb, .inl (cB, 4096, .inl bf))]) [1, 2] rfl
        have hDc := hD.sub (ws' := [(h0, .inr (8, [.ref qb, .ref qu, .int uc, .int ln, .int (nI n), .int (nI p21), .int pl])), (qb, .inl (cB, 4096, .inl bf))]) [1, 2] (by decide) rfl
        have hFc := va_free (wc := [(h0, .inr (8, [.ref qb, .ref qu, .int uc, .int ln, .int (nI n), .int (nI p21), .int pl])), (qb, .inl (cB, 4096, .inl bf))]) hD hS hA [1, 2] rfl
        have hKc := hK.sub (tys' := [(cB, .byte)]) [0] rfl
        refine w_same (fun hq0 => ?_)
        refine vx_callv (vx_runV (As := [.ref (K 6).1]) (rest := []) ⟨hx, hb, hml, hown, hts⟩ (c_Tape_takeLetters l hl9 dC dI cB h0 qb H (.ref qu) (K 6).1 (K 6).2 5 (ctx 6) uc ln pl bf n p21 hn0 (by omega) (by decide)) (cwV 1 hts (gt_V (own := R_JsonReader) (C := R_Tape) (i := 72) (y := y_Tape_takeLetters) i_Tape_takeLetters z_451 z_452 z_453 w_2) rfl rfl rfl (by decide +kernel) ⟨by show 10 + 1 ≤ 16 + 3 * k; omega, by show 8 + (3 + 11) + (152) ≤ 350 + 90 * k; omega⟩) ⟨mt_blind, va_recv hK hP (ci := 8) (q0 := 1) rfl rfl, fun U hU hW => ⟨rfl, ⟨hU, by rw [hU]; exact hPc, va_K.moved hW.alike hKc, hDc.weaken (fun _ _ _ _ => trivial)⟩, hN.warm hW, by rw [hU]; exact ZX.moved' hW.alike (ZX.narrow' (ZX.kept' hZ hS.2.1) hFc), by rw [hU]; exact SX.moved' hW.alike (SX.narrow' (SX.kept' (hC 6 _ rfl).1 hS.2.1) hFc)⟩⟩ rfl rfl hl.1 rfl (lv_room (Nat.le_of_ble_eq_true rfl)) d_JsonReader_value_142 ⟨by show 1 + (1) ≤ 2 * (n - i) + 4; omega, by show 10 + (6) ≤ 16 * (n - i) + 40; omega⟩) hS (fun q _ h => hFc q h) hFc (fun q _ h => hFc q h) (fun En ce q9 u26 t9 H1 locs ht hvm hw hB hz1 hk1 hS hce hcv hcl => ?_) (fun _u t9 H1 locs ht hvm hw hB hz1 hk1 hS => ?_)
        · obtain ⟨hEn, hP1, hK1, hD1⟩ := hB
          rw [ht] at hP1
          obtain ⟨hP, hD⟩ := va_joinQ (wr := [(jr, .inr (1, [.ref h0, .int dp, .int (md + 1), .ref qv])), (qu, .inl (cI, 4096, .inl ug))]) (w1 := [(h0, .inr (8, [.ref qb, .ref qu, .int uc, .int ln, .int (nI n), .int (nI u26), .int (nI u26)])), (qb, .inl (cB, 4096, .inl bf))]) hP hD [1, 2] [0, 3] rfl rfl (by decide) (by decide) hk1 hFc hP1 hD1
          generalize H1 = H at hP hS hce ⊢
          have hP : va_P (dC, dI) classes ([(jr, .inr (1, [.ref h0, .int dp, .int (md + 1), .ref qv])), (qu, .inl (cI, 4096, .inl ug)), (h0, .inr (8, [.ref qb, .ref qu, .int uc, .int ln, .int (nI n), .int (nI u26), .int (nI u26)])), (qb, .inl (cB, 4096, .inl bf))] ++ va_pl ((L ++ [qv])) f1) H := hP
          have hD : va_D A ([(jr, .inr (1, [.ref h0, .int dp, .int (md + 1), .ref qv])), (qu, .inl (cI, 4096, .inl ug)), (h0, .inr (8, [.ref qb, .ref qu, .int uc, .int ln, .int (nI n), .int (nI u26), .int (nI u26)])), (qb, .inl (cB, 4096, .inl bf))] ++ va_pl ((L ++ [qv])) f1) := hD
          have hP := hP.part (cx := [(jr, .inr (1, [.ref h0, .int dp, .int (md + 1), .ref qv])), (h0, .inr (8, [.ref qb, .ref qu, .int uc, .int ln, .int (nI n), .int (nI u26), .int (nI u26)])), (qb, .inl (cB, 4096, .inl bf)), (qu, .inl (cI, 4096, .inl ug))]) [0, 2, 3, 1] rfl
          have hD := hD.part (cx := [(jr, .inr (1, [.ref h0, .int dp, .int (md + 1), .ref qv])), (h0, .inr (8, [.ref qb, .ref qu, .int uc, .int ln, .int (nI n), .int (nI u26), .int (nI u26)])), (qb, .inl (cB, 4096, .inl bf)), (qu, .inl (cI, 4096, .inl ug))]) [0, 2, 3, 1] (by decide) rfl
          have hP := plP_pre hP
          have hD := plD_pre hD
          have hkx : ∀ a, E a ≠ 0 → la ≠ some a → f1 a = f a := fun a ha hl9 => hKX.2 a ha hl9
          have hno : jV bf n k i = none := jV_lf0 hnb (jL_false0 hc0 (by rw [← h_p21]; exact hw))
          exact vx_out (fun x hx => (hex x hx).elim) hlocks hce hcv hcl (fun t9 ht2 ha => ⟨(nI u26, uc, nI u26, ug, dp, (md + 1), some qv, f1), ⟨hkx, hno⟩, ⟨hEn, by rw [ht2]; exact hP, va_K.moved ha hK, hD⟩, hS.F ht2⟩) hS.2.2 (by show 1 + (1) ≤ 2 * (n - i) + 4; omega) (by show 10 + (6) ≤ 16 * (n - i) + 40; omega)
        · obtain ⟨⟨hP1, hK1, hD1⟩, hz9⟩ := hB
          rw [ht] at hP1
          rw [ht] at hz9
          refine w_tight (hq0.trans hz9) ?_
          have hq0 := hq0.trans hz9
          obtain ⟨hP, hD⟩ := va_joinQ (wr := [(jr, .inr (1, [.ref h0, .int dp, .int (md + 1), .ref qv])), (qu, .inl (cI, 4096, .inl ug))]) (w1 := [(h0, .inr (8, [.ref qb, .ref qu, .int uc, .int ln, .int (nI n), .int (nI (p21 + 5)), .int pl])), (qb, .inl (cB, 4096, .inl bf))]) hP hD [1, 2] [0, 3] rfl rfl (by decide) (by decide) hk1 hFc hP1 hD1
          generalize H1 = H at hP hS hq0 ⊢
          have hP : va_P (dC, dI) classes ([(jr, .inr (1, [.ref h0, .int dp, .int (md + 1), .ref qv])), (qu, .inl (cI, 4096, .inl ug)), (h0, .inr (8, [.ref qb, .ref qu, .int uc, .int ln, .int (nI n), .int (nI (p21 + 5)), .int pl])), (qb, .inl (cB, 4096, .inl bf))] ++ va_pl ((L ++ [qv])) f1) H := hP
          have hD : va_D A ([(jr, .inr (1, [.ref h0, .int dp, .int (md + 1), .ref qv])), (qu, .inl (cI, 4096, .inl ug)), (h0, .inr (8, [.ref qb, .ref qu, .int uc, .int ln, .int (nI n), .int (nI (p21 + 5)), .int pl])), (qb, .inl (cB, 4096, .inl bf))] ++ va_pl ((L ++ [qv])) f1) := hD
          have hP := hP.part (cx := [(jr, .inr (1, [.ref h0, .int dp, .int (md + 1), .ref qv])), (h0, .inr (8, [.ref qb, .ref qu, .int uc, .int ln, .int (nI n), .int (nI (p21 + 5)), .int pl])), (qb, .inl (cB, 4096, .inl bf)), (qu, .inl (cI, 4096, .inl ug))]) [0, 2, 3, 1] rfl
          have hD := hD.part (cx := [(jr, .inr (1, [.ref h0, .int dp, .int (md + 1), .ref qv])), (h0, .inr (8, [.ref qb, .ref qu, .int uc, .int ln, .int (nI n), .int (nI (p21 + 5)), .int pl])), (qb, .inl (cB, 4096, .inl bf)), (qu, .inl (cI, 4096, .inl ug))]) [0, 2, 3, 1] (by decide) rfl
          have hb26 := mtch_b (show mtch bf n p21 (ctx 6) 5 from hw) (by decide) (fun j => and255 _)
          have hlf : jLeaf bf n (skipB bf n i) = some ((2, 0, []), skipB bf n i + 5) := jL_false hc0 (by rw [← h_p21]; exact hw)
          refine lv_aload_n hx hb d_JsonReader_value_145 rfl (lv_at hl 0 rfl) ?_
          refine lv_iconst (v := 1) hx hb d_JsonReader_value_146 (by decide) ?_
          refine vq_put (D := (dC, dI)) (ci := 9) (v := .int 1) (ty := .int) (C := R_Value) (T := F_Value) (N := 10) hx hb hts in_Value t_Value t_Value_ok n_Value hown hK hP hD hS hqin efq rfl 0 (by decide) (hts _ z_313) (fun _ h9 => h9) rfl (by decide +kernel) rfl rfl (Nat.le_of_ble_eq_true rfl) d_JsonReader_value_147 (fun H locs hP hD hS => ?_)
          have hP : va_P (dC, dI) classes ([(jr, .inr (1, [.ref h0, .int dp, .int (md + 1), .ref qv])), (h0, .inr (8, [.ref qb, .ref qu, .int uc, .int ln, .int (nI n), .int (nI (p21 + 5)), .int pl])), (qb, .inl (cB, 4096, .inl bf)), (qu, .inl (cI, 4096, .inl ug))] ++ va_pl ((L ++ [qv])) ((va_up f1 qv (vE 1 0 none none none none 0 none none 0)))) H := hP
          have hD : va_D A ([(jr, .inr (1, [.ref h0, .int dp, .int (md + 1), .ref qv])), (h0, .inr (8, [.ref qb, .ref qu, .int uc, .int ln, .int (nI n), .int (nI (p21 + 5)), .int pl])), (qb, .inl (cB, 4096, .inl bf)), (qu, .inl (cI, 4096, .inl ug))] ++ va_pl ((L ++ [qv])) ((va_up f1 qv (vE 1 0 none none none none 0 none none 0)))) := hD
          refine lv_goto (tgt := 183) hx hb d_JsonReader_value_150 (by decide) ?_
          refine lv_aload_n hx hb d_JsonReader_value_183 rfl (lv_at hl 0 rfl) ?_
          refine lv_aload_n hx hb d_JsonReader_value_184 rfl (lv_at hl 2 rfl) ?_
          refine va_get (D := (dC, dI)) (ci := 1) (v := .int (md + 1)) (C := R_JsonReader) (T := F_JsonReader) (N := 4) hx hb hts in_JsonReader hown hK hP 0 rfl rfl 2 (by decide) (hts _ z_83) (fun _ h9 => h9) rfl d_JsonReader_value_185 ?_
          refine lv_iload_n hx hb d_JsonReader_value_188 rfl (lv_at hl 1 rfl) ?_
          refine lv_isub hx hb d_JsonReader_value_189 ?_
          refine vq_put (D := (dC, dI)) (ci := 9) (v := .int ((md + 1) - md)) (ty := .int) (C := R_Value) (T := F_Value) (N := 10) hx hb hts in_Value t_Value t_Value_ok n_Value hown hK hP hD hS hqin (va_up_self _ _ _) rfl 9 (by decide) (hts _ z_339) (fun _ h9 => h9) rfl (by decide +kernel) rfl rfl (Nat.le_of_ble_eq_true rfl) d_JsonReader_value_190 (fun H locs hP hD hS => ?_)
          rw [bx_uu] at hP hD
          have hP : va_P (dC, dI) classes ([(jr, .inr (1, [.ref h0, .int dp, .int (md + 1), .ref qv])), (h0, .inr (8, [.ref qb, .ref qu, .int uc, .int ln, .int (nI n), .int (nI (p21 + 5)), .int pl])), (qb, .inl (cB, 4096, .inl bf)), (qu, .inl (cI, 4096, .inl ug))] ++ va_pl ((L ++ [qv])) ((va_up f1 qv (vE 1 0 none none none none 0 none none (((md + 1) - md)))))) H := hP
          have hD : va_D A ([(jr, .inr (1, [.ref h0, .int dp, .int (md + 1), .ref qv])), (h0, .inr (8, [.ref qb, .ref qu, .int uc, .int ln, .int (nI n), .int (nI (p21 + 5)), .int pl])), (qb, .inl (cB, 4096, .inl bf)), (qu, .inl (cI, 4096, .inl ug))] ++ va_pl ((L ++ [qv])) ((va_up f1 qv (vE 1 0 none none none none 0 none none (((md + 1) - md)))))) := hD
          refine lv_aload_n hx hb d_JsonReader_value_193 rfl (lv_at hl 2 rfl) ?_
          refine va_get (D := (dC, dI)) (ci := 1) (v := .ref h0) (C := R_JsonReader) (T := F_JsonReader) (N := 4) hx hb hts in_JsonReader hown hK hP 0 rfl rfl 0 (by decide) (hts _ w_80) (fun _ h9 => h9) rfl d_JsonReader_value_194 ?_
          have hPc := hP.sub (ws' := [(h0, .inr (8, [.ref qb, .ref qu, .int uc, .int ln, .int (nI n), .int (nI (p21 + 5)), .int pl])), (qb, .inl (cB, 4096, .inl bf))]) [1, 2] rfl
          have hDc := hD.sub (ws' := [(h0, .inr (8, [.ref qb, .ref qu, .int uc, .int ln, .int (nI n), .int (nI (p21 + 5)), .int pl])), (qb, .inl (cB, 4096, .inl bf))]) [1, 2] (by decide) rfl
          have hFc := va_free (wc := [(h0, .inr (8, [.ref qb, .ref qu, .int uc, .int ln, .int (nI n), .int (nI (p21 + 5)), .int pl])), (qb, .inl (cB, 4096, .inl bf))]) hD hS hA [1, 2] rfl
          have hKc := hK.sub (tys' := [(cB, .byte)]) [0] rfl
          refine va_callv (va_runV (As := []) (rest := []) ⟨hx, hb, hml, hown, hts⟩ (c_Tape_skipBlanks l dC dI cB h0 qb H (.ref qu) uc ln pl bf n ((p21 + 5)) hn0 (by omega)) (cwV 0 hts (gt_V (own := R_JsonReader) (C := R_Tape) (i := 42) (y := y_Tape_skipBlanks) i_Tape_skipBlanks z_298 z_299 z_300 w_2) rfl rfl rfl (by decide +kernel) ⟨by show 0 + 1 ≤ 16 + 3 * k; omega, by show 8 + (2 + 11) + (0) ≤ 350 + 90 * k; omega⟩) ⟨mp_blind, va_recv hK hP (ci := 8) (q0 := 1) rfl rfl, fun U hU hW => ⟨rfl, hU, by rw [hU]; exact hPc, va_K.moved hW.alike hKc, hDc.weaken (fun _ _ _ _ => trivial)⟩⟩ rfl rfl hl.1 rfl (lv_room (Nat.le_of_ble_eq_true rfl)) d_JsonReader_value_197 ⟨by show 1 + (0) ≤ 2 * (n - i) + 4; omega, by show 10 + (0) ≤ 16 * (n - i) + 40; omega⟩) hS (fun q _ h => hFc q h) hFc (fun _u t9 H1 locs ht hvm hw hB hz1 hk1 hS => ?_)
          obtain ⟨hP1, hK1, hD1⟩ := hB
          rw [ht] at hP1
          obtain ⟨hP, hD⟩ := va_joinQ (wr := [(jr, .inr (1, [.ref h0, .int dp, .int (md + 1), .ref qv])), (qu, .inl (cI, 4096, .inl ug))]) (w1 := [(h0, .inr (8, [.ref qb, .ref qu, .int uc, .int ln, .int (nI n), .int (nI (skipB bf n ((p21 + 5)))), .int pl])), (qb, .inl (cB, 4096, .inl bf))]) hP hD [1, 2] [0, 3] rfl rfl (by decide) (by decide) hk1 hFc hP1 hD1
          generalize H1 = H at hP hS ⊢
          have hP : va_P (dC, dI) classes ([(jr, .inr (1, [.ref h0, .int dp, .int (md + 1), .ref qv])), (qu, .inl (cI, 4096, .inl ug)), (h0, .inr (8, [.ref qb, .ref qu, .int uc, .int ln, .int (nI n), .int (nI (skipB bf n ((p21 + 5)))), .int pl])), (qb, .inl (cB, 4096, .inl bf))] ++ va_pl ((L ++ [qv])) ((va_up f1 qv (vE 1 0 none none none none 0 none none (((md + 1) - md)))))) H := hP
          have hD : va_D A ([(jr, .inr (1, [.ref h0, .int dp, .int (md + 1), .ref qv])), (qu, .inl (cI, 4096, .inl ug)), (h0, .inr (8, [.ref qb, .ref qu, .int uc, .int ln, .int (nI n), .int (nI (skipB bf n ((p21 + 5)))), .int pl])), (qb, .inl (cB, 4096, .inl bf))] ++ va_pl ((L ++ [qv])) ((va_up f1 qv (vE 1 0 none none none none 0 none none (((md + 1) - md)))))) := hD
          have hP := hP.part (cx := [(jr, .inr (1, [.ref h0, .int dp, .int (md + 1), .ref qv])), (h0, .inr (8, [.ref qb, .ref qu, .int uc, .int ln, .int (nI n), .int (nI (skipB bf n ((p21 + 5)))), .int pl])), (qb, .inl (cB, 4096, .inl bf)), (qu, .inl (cI, 4096, .inl ug))]) [0, 2, 3, 1] rfl
          have hD := hD.part (cx := [(jr, .inr (1, [.ref h0, .int dp, .int (md + 1), .ref qv])), (h0, .inr (8, [.ref qb, .ref qu, .int uc, .int ln, .int (nI n), .int (nI (skipB bf n ((p21 + 5)))), .int pl])), (qb, .inl (cB, 4096, .inl bf)), (qu, .inl (cI, 4096, .inl ug))]) [0, 2, 3, 1] (by decide) rfl
          obtain ⟨p27, h_p27⟩ : ∃ z, z = skipB bf n ((p21 + 5)) := ⟨_, rfl⟩
          have hb_p27 := skip_b (f := bf) (show ((p21 + 5)) ≤ n by omega)
          rw [← h_p27] at hP hD hb_p27
          have hP : va_P (dC, dI) classes ([(jr, .inr (1, [.ref h0, .int dp, .int (md + 1), .ref qv])), (h0, .inr (8, [.ref qb, .ref qu, .int uc, .int ln, .int (nI n), .int (nI p27), .int pl])), (qb, .inl (cB, 4096, .inl bf)), (qu, .inl (cI, 4096, .inl ug))] ++ va_pl ((L ++ [qv])) ((va_up f1 qv (vE 1 0 none none none none 0 none none (((md + 1) - md)))))) H := hP
          have hD : va_D A ([(jr, .inr (1, [.ref h0, .int dp, .int (md + 1), .ref qv])), (h0, .inr (8, [.ref qb, .ref qu, .int uc, .int ln, .int (nI n), .int (nI p27), .int pl])), (qb, .inl (cB, 4096, .inl bf)), (qu, .inl (cI, 4096, .inl ug))] ++ va_pl ((L ++ [qv])) ((va_up f1 qv (vE 1 0 none none none none 0 none none (((md + 1) - md)))))) := hD
          refine lv_aload_n hx hb d_JsonReader_value_200 rfl (lv_at hl 0 rfl) ?_
          have hO2 := PO.upd1 (kd := 1) (nu := 0) (tx := none) (me := none) (pa := none) (na := none) (ix := 0) (nm := none) (no := none) (sp := (((md + 1) - md))) hO1 hq1 (fun b h => (nomatch h)) (fun b h => (nomatch h)) (fun b h => (nomatch h)) (fun b h => (nomatch h)) (fun b h => (nomatch h)) (fun b h => (nomatch h))
          have hJ : JP cI cV E lv L f la i n qv p27 [qv] (va_up E1 qv 2) (va_up f1 qv (vE 1 0 none none none none 0 none none (((md + 1) - md)))) qv := JP.mk hqz hE1 hKX hO2 EX.rf (fun a ha => by rw [ha]; decide) (fun a _ hn9 => va_up_ne _ _ hn9) (Or.inl hq1) (Or.inl rfl) (va_up_self _ _ _) (fun h => absurd h (by decide)) (fun h => absurd h (by decide)) (by omega) (by omega)
          have hlaz : ∀ z, la = some z → E z ≠ 0 ∧ z ≠ qv := fun z hz => ⟨by rcases hla z hz with h9 | h9 | h9 <;> omega, fun e => by rcases hla z hz with h9 | h9 | h9 <;> (rw [e, hqz] at h9; omega)⟩
          have hOBJ : OBJ E (va_up E1 qv 2) la (va_up f1 qv (vE 1 0 none none none none 0 none none (((md + 1) - md)))) qv qv 1 k (jleaf k (2, 0, [])) := OBJ.leaf (va_up_self _ _ _) rfl (show (2 : Nat) < 5 by decide) (fun h9 => absurd h9 (show ¬ (2 : Nat) = 3 by decide)) (fun h9 => absurd h9 (show ¬ (2 : Nat) = 4 by decide)) (by rw [show ((((md + 1) - md)) : Int32) = (md + 1 + nI 0) - md by rw [show nI 0 = 0 from rfl, Int32.add_zero]]; exact md_span) hqz (Or.inl (va_up_self _ _ _)) (fun z hz => by rw [va_up_ne _ _ (hlaz z hz).2]; exact hlk1 z hz)
          have hJFx : JFx bf n k d i p27 D dp (jleaf k (2, 0, [])) := JFx.leaf hnb hlf (show (2 : Nat) < 5 by decide) (by first | exact h_p27 | (rw [← h_p21]; exact h_p27)) hDd hdp
          refine w_same (fun hq => ?_)
          refine W.widen (k := 2 * (n - i) + 4) (n := 16 * (n - i) + 40) (by show 1 ≤ 2 * (n - i) + 4; omega) (by show 10 ≤ 16 * (n - i) + 40; omega) ?_
          refine vx_ret ?_
          exact W.aret (v := .ref qv) hx hb hr (Or.inl ⟨_, rfl⟩) (Or.inr ⟨_, rfl⟩) (fun t9 ht hW => ⟨⟨(qv, p27, [qv], va_up E1 qv 2, (va_up f1 qv (vE 1 0 none none none none 0 none none (((md + 1) - md)))), uc, ug, dp, (md + 1), qv), qv, rfl, ⟨hJ, ⟨_, 1, hJFx, hOBJ, rfl⟩⟩, ⟨by rw [ht]; exact hP, va_K.moved hW.alike hK, hD⟩, by rw [ht]; exact ⟨hq.mono (by show 1 ≤ 2 * (p27 - i); omega) (by show 10 ≤ 16 * (p27 - i) - 1; omega), rfl⟩⟩, hS.F ht⟩) hS.2.2 d_JsonReader_value_201
      · by_cases hs24_3 : h22 = 110
        · refine lv_lookup (tgt := 124) (off := 100) hx hb d_JsonReader_value_24 (by decide) (by rw [hs24_3]; decide) (by decide) ?_
          have hlt := here_lc (h_h22.symm.trans hs24_3) (by decide)
          have hc0 : hereV bf n (skipB bf n i) = 110 := by rw [← h_p21, ← h_h22]; exact hs24_3
          have hnb := nb_of hc0 (by decide) (by decide)
          refine lv_aload_n hx hb d_JsonReader_value_124 rfl (lv_at hl 2 rfl) ?_
          refine va_get (D := (dC, dI)) (ci := 1) (v := .ref h0) (C := R_JsonReader) (T := F_JsonReader) (N := 4) hx hb hts in_JsonReader hown hK hP 0 rfl rfl 0 (by decide) (hts _ w_80) (fun _ h9 => h9) rfl d_JsonReader_value_125 ?_
          refine va_ldcS hx hb hown (hC 5 _ rfl).2 d_JsonReader_value_128 ?_
          have hPc := hP.sub (ws' := [(h0, .inr (8, [.ref qb, .ref qu, .int uc, .int ln, .int (nI n), .int (nI p21), .int pl])), (qb, .inl (cB, 4096, .inl bf))]) [1, 2] rfl
          have hDc := hD.sub (ws' := [(h0, .inr (8, [.ref qb, .ref qu, .int uc, .int ln, .int (nI n), .int (nI p21), .int pl])), (qb, .inl (cB, 4096, .inl bf))]) [1, 2] (by decide) rfl
          have hFc := va_free (wc := [(h0, .inr (8, [.ref qb, .ref qu, .int uc, .int ln, .int (nI n), .int (nI p21), .int pl])), (qb, .inl (cB, 4096, .inl bf))]) hD hS hA [1, 2] rfl
          have hKc := hK.sub (tys' := [(cB, .byte)]) [0] rfl
          refine w_same (fun hq0 => ?_)
          refine vx_callv (vx_runV (As := [.ref (K 5).1]) (rest := []) ⟨hx, hb, hml, hown, hts⟩ (c_Tape_takeLetters l hl9 dC dI cB h0 qb H (.ref qu) (K 5).1 (K 5).2 4 (ctx 5) uc ln pl bf n p21 hn0 (by omega) (by decide)) (cwV 1 hts (gt_V (own := R_JsonReader) (C := R_Tape) (i := 72) (y := y_Tape_takeLetters) i_Tape_takeLetters z_451 z_452 z_453 w_2) rfl rfl rfl (by decide +kernel) ⟨by show 10 + 1 ≤ 16 + 3 * k; omega, by show 8 + (3 + 11) + (152) ≤ 350 + 90 * k; omega⟩) ⟨mt_blind, va_recv hK hP (ci := 8) (q0 := 1) rfl rfl, fun U hU hW => ⟨rfl, ⟨hU, by rw [hU]; exact hPc, va_K.moved hW.alike hKc, hDc.weaken (fun _ _ _ _ => trivial)⟩, hN.warm hW, by rw [hU]; exact ZX.moved' hW.alike (ZX.narrow' (ZX.kept' hZ hS.2.1) hFc), by rw [hU]; exact SX.moved' hW.alike (SX.narrow' (SX.kept' (hC 5 _ rfl).1 hS.2.1) hFc)⟩⟩ rfl rfl hl.1 rfl (lv_room (Nat.le_of_ble_eq_true rfl)) d_JsonReader_value_130 ⟨by show 1 + (1) ≤ 2 * (n - i) + 4; omega, by show 10 + (6) ≤ 16 * (n - i) + 40; omega⟩) hS (fun q _ h => hFc q h) hFc (fun q _ h => hFc q h) (fun En ce q9 u28 t9 H1 locs ht hvm hw hB hz1 hk1 hS hce hcv hcl => ?_) (fun _u t9 H1 locs ht hvm hw hB hz1 hk1 hS => ?_)
          · obtain ⟨hEn, hP1, hK1, hD1⟩ := hB
            rw [ht] at hP1
            obtain ⟨hP, hD⟩ := va_joinQ (wr := [(jr, .inr (1, [.ref h0, .int dp, .int (md + 1), .ref qv])), (qu, .inl (cI, 4096, .inl ug))]) (w1 := [(h0, .inr (8, [.ref qb, .ref qu, .int uc, .int ln, .int (nI n), .int (nI u28), .int (nI u28)])), (qb, .inl (cB, 4096, .inl bf))]) hP hD [1, 2] [0, 3] rfl rfl (by decide) (by decide) hk1 hFc hP1 hD1
            generalize H1 = H at hP hS hce ⊢
            have hP : va_P (dC, dI) classes ([(jr, .inr (1, [.ref h0, .int dp, .int (md + 1), .ref qv])), (qu, .inl (cI, 4096, .inl ug)), (h0, .inr (8, [.ref qb, .ref qu, .int uc, .int ln, .int (nI n), .int (nI u28), .int (nI u28)])), (qb, .inl (cB, 4096, .inl bf))] ++ va_pl ((L ++ [qv])) f1) H := hP
            have hD : va_D A ([(jr, .inr (1, [.ref h0, .int dp, .int (md + 1), .ref qv])), (qu, .inl (cI, 4096, .inl ug)), (h0, .inr (8, [.ref qb, .ref qu, .int uc, .int ln, .int (nI n), .int (nI u28), .int (nI u28)])), (qb, .inl (cB, 4096, .inl bf))] ++ va_pl ((L ++ [qv])) f1) := hD
            have hP := hP.part (cx := [(jr, .inr (1, [.ref h0, .int dp, .int (md + 1), .ref qv])), (h0, .inr (8, [.ref qb, .ref qu, .int uc, .int ln, .int (nI n), .int (nI u28), .int (nI u28)])), (qb, .inl (cB, 4096, .inl bf)), (qu, .inl (cI, 4096, .inl ug))]) [0, 2, 3, 1] rfl
            have hD := hD.part (cx := [(jr, .inr (1, [.ref h0, .int dp, .int (md + 1), .ref qv])), (h0, .inr (8, [.ref qb, .ref qu, .int uc, .int ln, .int (nI n), .int (nI u28), .int (nI u28)])), (qb, .inl (cB, 4096, .inl bf)), (qu, .inl (cI, 4096, .inl ug))]) [0, 2, 3, 1] (by decide) rfl
            have hP := plP_pre hP
            have hD := plD_pre hD
            have hkx : ∀ a, E a ≠ 0 → la ≠ some a → f1 a = f a := fun a ha hl9 => hKX.2 a ha hl9
            have hno : jV bf n k i = none := jV_lf0 hnb (jL_null0 hc0 (by rw [← h_p21]; exact hw))
            exact vx_out (fun x hx => (hex x hx).elim) hlocks hce hcv hcl (fun t9 ht2 ha => ⟨(nI u28, uc, nI u28, ug, dp, (md + 1), some qv, f1), ⟨hkx, hno⟩, ⟨hEn, by rw [ht2]; exact hP, va_K.moved ha hK, hD⟩, hS.F ht2⟩) hS.2.2 (by show 1 + (1) ≤ 2 * (n - i) + 4; omega) (by show 10 + (6) ≤ 16 * (n - i) + 40; omega)
          · obtain ⟨⟨hP1, hK1, hD1⟩, hz9⟩ := hB
            rw [ht] at hP1
            rw [ht] at hz9
            refine w_tight (hq0.trans hz9) ?_
            have hq0 := hq0.trans hz9
            obtain ⟨hP, hD⟩ := va_joinQ (wr := [(jr, .inr (1, [.ref h0, .int dp, .int (md + 1), .ref qv])), (qu, .inl (cI, 4096, .inl ug))]) (w1 := [(h0, .inr (8, [.ref qb, .ref qu, .int uc, .int ln, .int (nI n), .int (nI (p21 + 4)), .int pl])), (qb, .inl (cB, 4096, .inl bf))]) hP hD [1, 2] [0, 3] rfl rfl (by decide) (by decide) hk1 hFc hP1 hD1
            generalize H1 = H at hP hS hq0 ⊢
            have hP : va_P (dC, dI) classes ([(jr, .inr (1, [.ref h0, .int dp, .int (md + 1), .ref qv])), (qu, .inl (cI, 4096, .inl ug)), (h0, .inr (8, [.ref qb, .ref qu, .int uc, .int ln, .int (nI n), .int (nI (p21 + 4)), .int pl])), (qb, .inl (cB, 4096, .inl bf))] ++ va_pl ((L ++ [qv])) f1) H := hP
            have hD : va_D A ([(jr, .inr (1, [.ref h0, .int dp, .int (md + 1), .ref qv])), (qu, .inl (cI, 4096, .inl ug)), (h0, .inr (8, [.ref qb, .ref qu, .int uc, .int ln, .int (nI n), .int (nI (p21 + 4)), .int pl])), (qb, .inl (cB, 4096, .inl bf))] ++ va_pl ((L ++ [qv])) f1) := hD
            have hP := hP.part (cx := [(jr, .inr (1, [.ref h0, .int dp, .int (md + 1), .ref qv])), (h0, .inr (8, [.ref qb, .ref qu, .int uc, .int ln, .int (nI n), .int (nI (p21 + 4)), .int pl])), (qb, .inl (cB, 4096, .inl bf)), (qu, .inl (cI, 4096, .inl ug))]) [0, 2, 3, 1] rfl
            have hD := hD.part (cx := [(jr, .inr (1, [.ref h0, .int dp, .int (md + 1), .ref qv])), (h0, .inr (8, [.ref qb, .ref qu, .int uc, .int ln, .int (nI n), .int (nI (p21 + 4)), .int pl])), (qb, .inl (cB, 4096, .inl bf)), (qu, .inl (cI, 4096, .inl ug))]) [0, 2, 3, 1] (by decide) rfl
            have hb28 := mtch_b (show mtch bf n p21 (ctx 5) 4 from hw) (by decide) (fun j => and255 _)
            have hlf : jLeaf bf n (skipB bf n i) = some ((0, 0, []), skipB bf n i + 4) := jL_null hc0 (by rw [← h_p21]; exact hw)
            refine lv_goto (tgt := 183) hx hb d_JsonReader_value_133 (by decide) ?_
            refine lv_aload_n hx hb d_JsonReader_value_183 rfl (lv_at hl 0 rfl) ?_
            refine lv_aload_n hx hb d_JsonReader_value_184 rfl (lv_at hl 2 rfl) ?_
            refine va_get (D := (dC, dI)) (ci := 1) (v := .int (md + 1)) (C := R_JsonReader) (T := F_JsonReader) (N := 4) hx hb hts in_JsonReader hown hK hP 0 rfl rfl 2 (by decide) (hts _ z_83) (fun _ h9 => h9) rfl d_JsonReader_value_185 ?_
            refine lv_iload_n hx hb d_JsonReader_value_188 rfl (lv_at hl 1 rfl) ?_
            refine lv_isub hx hb d_JsonReader_value_189 ?_
            refine vq_put (D := (dC, dI)) (ci := 9) (v := .int ((md + 1) - md)) (ty := .int) (C := R_Value) (T := F_Value) (N := 10) hx hb hts in_Value t_Value t_Value_ok n_Value hown hK hP hD hS hqin efq rfl 9 (by decide) (hts _ z_339) (fun _ h9 => h9) rfl (by decide +kernel) rfl rfl (Nat.le_of_ble_eq_true rfl) d_JsonReader_value_190 (fun H locs hP hD hS => ?_)
            have hP : va_P (dC, dI) classes ([(jr, .inr (1, [.ref h0, .int dp, .int (md + 1), .ref qv])), (h0, .inr (8, [.ref qb, .ref qu, .int uc, .int ln, .int (nI n), .int (nI (p21 + 4)), .int pl])), (qb, .inl (cB, 4096, .inl bf)), (qu, .inl (cI, 4096, .inl ug))] ++ va_pl ((L ++ [qv])) ((va_up f1 qv (vE 0 0 none none none none 0 none none (((md + 1) - md)))))) H := hP
            have hD : va_D A ([(jr, .inr (1, [.ref h0, .int dp, .int (md + 1), .ref qv])), (h0, .inr (8, [.ref qb, .ref qu, .int uc, .int ln, .int (nI n), .int (nI (p21 + 4)), .int pl])), (qb, .inl (cB, 4096, .inl bf)), (qu, .inl (cI, 4096, .inl ug))] ++ va_pl ((L ++ [qv])) ((va_up f1 qv (vE 0 0 none none none none 0 none none (((md + 1) - md)))))) := hD
            refine lv_aload_n hx hb d_JsonReader_value_193 rfl (lv_at hl 2 rfl) ?_
            refine va_get (D := (dC, dI)) (ci := 1) (v := .ref h0) (C := R_JsonReader) (T := F_JsonReader) (N := 4) hx hb hts in_JsonReader hown hK hP 0 rfl rfl 0 (by decide) (hts _ w_80) (fun _ h9 => h9) rfl d_JsonReader_value_194 ?_
            have hPc := hP.sub (ws' := [(h0, .inr (8, [.ref qb, .ref qu, .int uc, .int ln, .int (nI n), .int (nI (p21 + 4)), .int pl])), (qb, .inl (cB, 4096, .inl bf))]) [1, 2] rfl
            have hDc := hD.sub (ws' := [(h0, .inr (8, [.ref qb, .ref qu, .int uc, .int ln, .int (nI n), .int (nI (p21 + 4)), .int pl])), (qb, .inl (cB, 4096, .inl bf))]) [1, 2] (by decide) rfl
            have hFc := va_free (wc := [(h0, .inr (8, [.ref qb, .ref qu, .int uc, .int ln, .int (nI n), .int (nI (p21 + 4)), .int pl])), (qb, .inl (cB, 4096, .inl bf))]) hD hS hA [1, 2] rfl
            have hKc := hK.sub (tys' := [(cB, .byte)]) [0] rfl
            refine va_callv (va_runV (As := []) (rest := []) ⟨hx, hb, hml, hown, hts⟩ (c_Tape_skipBlanks l dC dI cB h0 qb H (.ref qu) uc ln pl bf n ((p21 + 4)) hn0 (by omega)) (cwV 0 hts (gt_V (own := R_JsonReader) (C := R_Tape) (i := 42) (y := y_Tape_skipBlanks) i_Tape_skipBlanks z_298 z_299 z_300 w_2) rfl rfl rfl (by decide +kernel) ⟨by show 0 + 1 ≤ 16 + 3 * k; omega, by show 8 + (2 + 11) + (0) ≤ 350 + 90 * k; omega⟩) ⟨mp_blind, va_recv hK hP (ci := 8) (q0 := 1) rfl rfl, fun U hU hW => ⟨rfl, hU, by rw [hU]; exact hPc, va_K.moved hW.alike hKc, hDc.weaken (fun _ _ _ _ => trivial)⟩⟩ rfl rfl hl.1 rfl (lv_room (Nat.le_of_ble_eq_true rfl)) d_JsonReader_value_197 ⟨by show 1 + (0) ≤ 2 * (n - i) + 4; omega, by show 10 + (0) ≤ 16 * (n - i) + 40; omega⟩) hS (fun q _ h => hFc q h) hFc (fun _u t9 H1 locs ht hvm hw hB hz1 hk1 hS => ?_)
            obtain ⟨hP1, hK1, hD1⟩ := hB
            rw [ht] at hP1
            obtain ⟨hP, hD⟩ := va_joinQ (wr := [(jr, .inr (1, [.ref h0, .int dp, .int (md + 1), .ref qv])), (qu, .inl (cI, 4096, .inl ug))]) (w1 := [(h0, .inr (8, [.ref qb, .ref qu, .int uc, .int ln, .int (nI n), .int (nI (skipB bf n ((p21 + 4)))), .int pl])), (qb, .inl (cB, 4096, .inl bf))]) hP hD [1, 2] [0, 3] rfl rfl (by decide) (by decide) hk1 hFc hP1 hD1
            generalize H1 = H at hP hS ⊢
            have hP : va_P (dC, dI) classes ([(jr, .inr (1, [.ref h0, .int dp, .int (md + 1), .ref qv])), (qu, .inl (cI, 4096, .inl ug)), (h0, .inr (8, [.ref qb, .ref qu, .int uc, .int ln, .int (nI n), .int (nI (skipB bf n ((p21 + 4)))), .int pl])), (qb, .inl (cB, 4096, .inl bf))] ++ va_pl ((L ++ [qv])) ((va_up f1 qv (vE 0 0 none none none none 0 none none (((md + 1) - md)))))) H := hP
            have hD : va_D A ([(jr, .inr (1, [.ref h0, .int dp, .int (md + 1), .ref qv])), (qu, .inl (cI, 4096, .inl ug)), (h0, .inr (8, [.ref qb, .ref qu, .int uc, .int ln, .int (nI n), .int (nI (skipB bf n ((p21 + 4)))), .int pl])), (qb, .inl (cB, 4096, .inl bf))] ++ va_pl ((L ++ [qv])) ((va_up f1 qv (vE 0 0 none none none none 0 none none (((md + 1) - md)))))) := hD
            have hP := hP.part (cx := [(jr, .inr (1, [.ref h0, .int dp, .int (md + 1), .ref qv])), (h0, .inr (8, [.ref qb, .ref qu, .int uc, .int ln, .int (nI n), .int (nI (skipB bf n ((p21 + 4)))), .int pl])), (qb, .inl (cB, 4096, .inl bf)), (qu, .inl (cI, 4096, .inl ug))]) [0, 2, 3, 1] rfl
            have hD := hD.part (cx := [(jr, .inr (1, [.ref h0, .int dp, .int (md + 1), .ref qv])), (h0, .inr (8, [.ref qb, .ref qu, .int uc, .int ln, .int (nI n), .int (nI (skipB bf n ((p21 + 4)))), .int pl])), (qb, .inl (cB, 4096, .inl bf)), (qu, .inl (cI, 4096, .inl ug))]) [0, 2, 3, 1] (by decide) rfl
            obtain ⟨p29, h_p29⟩ : ∃ z, z = skipB bf n ((p21 + 4)) := ⟨_, rfl⟩
            have hb_p29 := skip_b (f := bf) (show ((p21 + 4)) ≤ n by omega)
            rw [← h_p29] at hP hD hb_p29
            have hP : va_P (dC, dI) classes ([(jr, .inr (1, [.ref h0, .int dp, .int (md + 1), .ref qv])), (h0, .inr (8, [.ref qb, .ref qu, .int uc, .int ln, .int (nI n), .int (nI p29), .int pl])), (qb, .inl (cB, 4096, .inl bf)), (qu, .inl (cI, 4096, .inl ug))] ++ va_pl ((L ++ [qv])) ((va_up f1 qv (vE 0 0 none none none none 0 none none (((md + 1) - md)))))) H := hP
            have hD : va_D A ([(jr, .inr (1, [.ref h0, .int dp, .int (md + 1), .ref qv])), (h0, .inr (8, [.ref qb, .ref qu, .int uc, .int ln, .int (nI n), .int (nI p29), .int pl])), (qb, .inl (cB, 4096, .inl bf)), (qu, .inl (cI, 4096, .inl ug))] ++ va_pl ((L ++ [qv])) ((va_up f1 qv (vE 0 0 none none none none 0 none none (((md + 1) - md)))))) := hD
            refine lv_aload_n hx hb d_JsonReader_value_200 rfl (lv_at hl 0 rfl) ?_
            have hO2 := PO.upd1 (kd := 0) (nu := 0) (tx := none) (me := none) (pa := none) (na := none) (ix := 0) (nm := none) (no := none) (sp := (((md + 1) - md))) hO1 hq1 (fun b h => (nomatch h)) (fun b h => (nomatch h)) (fun b h => (nomatch h)) (fun b h => (nomatch h)) (fun b h => (nomatch h)) (fun b h => (nomatch h))
            have hJ : JP cI cV E lv L f la i n qv p29 [qv] (va_up E1 qv 2) (va_up f1 qv (vE 0 0 none none none none 0 none none (((md + 1) - md)))) qv := JP.mk hqz hE1 hKX hO2 EX.rf (fun a ha => by rw [ha]; decide) (fun a _ hn9 => va_up_ne _ _ hn9) (Or.inl hq1) (Or.inl rfl) (va_up_self _ _ _) (fun h => absurd h (by decide)) (fun h => absurd h (by decide)) (by omega) (by omega)
            have hlaz : ∀ z, la = some z → E z ≠ 0 ∧ z ≠ qv := fun z hz => ⟨by rcases hla z hz with h9 | h9 | h9 <;> omega, fun e => by rcases hla z hz with h9 | h9 | h9 <;> (rw [e, hqz] at h9; omega)⟩
            have hOBJ : OBJ E (va_up E1 qv 2) la (va_up f1 qv (vE 0 0 none none none none 0 none none (((md + 1) - md)))) qv qv 1 k (jleaf k (0, 0, [])) := OBJ.leaf (va_up_self _ _ _) rfl (show (0 : Nat) < 5 by decide) (fun h9 => absurd h9 (show ¬ (0 : Nat) = 3 by decide)) (fun h9 => absurd h9 (show ¬ (0 : Nat) = 4 by decide)) (by rw [show ((((md + 1) - md)) : Int32) = (md + 1 + nI 0) - md by rw [show nI 0 = 0 from rfl, Int32.add_zero]]; exact md_span) hqz (Or.inl (va_up_self _ _ _)) (fun z hz => by rw [va_up_ne _ _ (hlaz z hz).2]; exact hlk1 z hz)
            have hJFx : JFx bf n k d i p29 D dp (jleaf k (0, 0, [])) := JFx.leaf hnb hlf (show (0 : Nat) < 5 by decide) (by first | exact h_p29 | (rw [← h_p21]; exact h_p29)) hDd hdp
            refine w_same (fun hq => ?_)
            refine W.widen (k := 2 * (n - i) + 4) (n := 16 * (n - i) + 40) (by show 1 ≤ 2 * (n - i) + 4; omega) (by show 10 ≤ 16 * (n - i) + 40; omega) ?_
            refine vx_ret ?_
            exact W.aret (v := .ref qv) hx hb hr (Or.inl ⟨_, rfl⟩) (Or.inr ⟨_, rfl⟩) (fun t9 ht hW => ⟨⟨(qv, p29, [qv], va_up E1 qv 2, (va_up f1 qv (vE 0 0 none none none none 0 none none (((md + 1) - md)))), uc, ug, dp, (md + 1), qv), qv, rfl, ⟨hJ, ⟨_, 1, hJFx, hOBJ, rfl⟩⟩, ⟨by rw [ht]; exact hP, va_K.moved hW.alike hK, hD⟩, by rw [ht]; exact ⟨hq.mono (by show 1 ≤ 2 * (p29 - i); omega) (by show 10 ≤ 16 * (p29 - i) - 1; omega), rfl⟩⟩, hS.F ht⟩) hS.2.2 d_JsonReader_value_201
        · by_cases hs24_4 : h22 = 116
          · refine lv_lookup (tgt := 153) (off := 129) hx hb d_JsonReader_value_24 (by decide) (by rw [hs24_4]; decide) (by decide) ?_
            have hlt := here_lc (h_h22.symm.trans hs24_4) (by decide)
            have hc0 : hereV bf n (skipB bf n i) = 116 := by rw [← h_p21, ← h_h22]; exact hs24_4
            have hnb := nb_of hc0 (by decide) (by decide)
            refine lv_aload_n hx hb d_JsonReader_value_153 rfl (lv_at hl 2 rfl) ?_
            refine va_get (D := (dC, dI)) (ci := 1) (v := .ref h0) (C := R_JsonReader) (T := F_JsonReader) (N := 4) hx hb hts in_JsonReader hown hK hP 0 rfl rfl 0 (by decide) (hts _ w_80) (fun _ h9 => h9) rfl d_JsonReader_value_154 ?_
            refine va_ldcS hx hb hown (hC 7 _ rfl).2 d_JsonReader_value_157 ?_
            have hPc := hP.sub (ws' := [(h0, .inr (8, [.ref qb, .ref qu, .int uc, .int ln, .int (nI n), .int (nI p21), .int pl])), (qb, .inl (cB, 4096, .inl bf))]) [1, 2] rfl
            have hDc := hD.sub (ws' := [(h0, .inr (8, [.ref qb, .ref qu, .int uc, .int ln, .int (nI n), .int (nI p21), .int pl])), (qb, .inl (cB, 4096, .inl bf))]) [1, 2] (by decide) rfl
            have hFc := va_free (wc := [(h0, .inr (8, [.ref qb, .ref qu, .int uc, .int ln, .int (nI n), .int (nI p21), .int pl])), (qb, .inl (cB, 4096, .inl bf))]) hD hS hA [1, 2] rfl
            have hKc := hK.sub (tys' := [(cB, .byte)]) [0] rfl
            refine w_same (fun hq0 => ?_)
            refine vx_callv (vx_runV (As := [.ref (K 7).1]) (rest := []) ⟨hx, hb, hml, hown, hts⟩ (c_Tape_takeLetters l hl9 dC dI cB h0 qb H (.ref qu) (K 7).1 (K 7).2 4 (ctx 7) uc ln pl bf n p21 hn0 (by omega) (by decide)) (cwV 1 hts (gt_V (own := R_JsonReader) (C := R_Tape) (i := 72) (y := y_Tape_takeLetters) i_Tape_takeLetters z_451 z_452 z_453 w_2) rfl rfl rfl (by decide +kernel) ⟨by show 10 + 1 ≤ 16 + 3 * k; omega, by show 8 + (3 + 11) + (152) ≤ 350 + 90 * k; omega⟩) ⟨mt_blind, va_recv hK hP (ci := 8) (q0 := 1) rfl rfl, fun U hU hW => ⟨rfl, ⟨hU, by rw [hU]; exact hPc, va_K.moved hW.alike hKc, hDc.weaken (fun _ _ _ _ => trivial)⟩, hN.warm hW, by rw [hU]; exact ZX.moved' hW.alike (ZX.narrow' (ZX.kept' hZ hS.2.1) hFc), by rw [hU]; exact SX.moved' hW.alike (SX.narrow' (SX.kept' (hC 7 _ rfl).1 hS.2.1) hFc)⟩⟩ rfl rfl hl.1 rfl (lv_room (Nat.le_of_ble_eq_true rfl)) d_JsonReader_value_159 ⟨by show 1 + (1) ≤ 2 * (n - i) + 4; omega, by show 10 + (6) ≤ 16 * (n - i) + 40; omega⟩) hS (fun q _ h => hFc q h) hFc (fun q _ h => hFc q h) (fun En ce q9 u30 t9 H1 locs ht hvm hw hB hz1 hk1 hS hce hcv hcl => ?_) (fun _u t9 H1 locs ht hvm hw hB hz1 hk1 hS => ?_)
            · obtain ⟨hEn, hP1, hK1, hD1⟩ := hB
              rw [ht] at hP1
              obtain ⟨hP, hD⟩ := va_joinQ (wr := [(jr, .inr (1, [.ref h0, .int dp, .int (md + 1), .ref qv])), (qu, .inl (cI, 4096, .inl ug))]) (w1 := [(h0, .inr (8, [.ref qb, .ref qu, .int uc, .int ln, .int (nI n), .int (nI u30), .int (nI u30)])), (qb, .inl (cB, 4096, .inl bf))]) hP hD [1, 2] [0, 3] rfl rfl (by decide) (by decide) hk1 hFc hP1 hD1
              generalize H1 = H at hP hS hce ⊢
              have hP : va_P (dC, dI) classes ([(jr, .inr (1, [.ref h0, .int dp, .int (md + 1), .ref qv])), (qu, .inl (cI, 4096, .inl ug)), (h0, .inr (8, [.ref qb, .ref qu, .int uc, .int ln, .int (nI n), .int (nI u30), .int (nI u30)])), (qb, .inl (cB, 4096, .inl bf))] ++ va_pl ((L ++ [qv])) f1) H := hP
              have hD : va_D A ([(jr, .inr (1, [.ref h0, .int dp, .int (md + 1), .ref qv])), (qu, .inl (cI, 4096, .inl ug)), (h0, .inr (8, [.ref qb, .ref qu, .int uc, .int ln, .int (nI n), .int (nI u30), .int (nI u30)])), (qb, .inl (cB, 4096, .inl bf))] ++ va_pl ((L ++ [qv])) f1) := hD
              have hP := hP.part (cx := [(jr, .inr (1, [.ref h0, .int dp, .int (md + 1), .ref qv])), (h0, .inr (8, [.ref qb, .ref qu, .int uc, .int ln, .int (nI n), .int (nI u30), .int (nI u30)])), (qb, .inl (cB, 4096, .inl bf)), (qu, .inl (cI, 4096, .inl ug))]) [0, 2, 3, 1] rfl
              have hD := hD.part (cx := [(jr, .inr (1, [.ref h0, .int dp, .int (md + 1), .ref qv])), (h0, .inr (8, [.ref qb, .ref qu, .int uc, .int ln, .int (nI n), .int (nI u30), .int (nI u30)])), (qb, .inl (cB, 4096, .inl bf)), (qu, .inl (cI, 4096, .inl ug))]) [0, 2, 3, 1] (by decide) rfl
              have hP := plP_pre hP
              have hD := plD_pre hD
              have hkx : ∀ a, E a ≠ 0 → la ≠ some a → f1 a = f a := fun a ha hl9 => hKX.2 a ha hl9
              have hno : jV bf n k i = none := jV_lf0 hnb (jL_true0 hc0 (by rw [← h_p21]; exact hw))
              exact vx_out (fun x hx => (hex x hx).elim) hlocks hce hcv hcl (fun t9 ht2 ha => ⟨(nI u30, uc, nI u30, ug, dp, (md + 1), some qv, f1), ⟨hkx, hno⟩, ⟨hEn, by rw [ht2]; exact hP, va_K.moved ha hK, hD⟩, hS.F ht2⟩) hS.2.2 (by show 1 + (1) ≤ 2 * (n - i) + 4; omega) (by show 10 + (6) ≤ 16 * (n - i) + 40; omega)
            · obtain ⟨⟨hP1, hK1, hD1⟩, hz9⟩ := hB
              rw [ht] at hP1
              rw [ht] at hz9
              refine w_tight (hq0.trans hz9) ?_
              have hq0 := hq0.trans hz9
              obtain ⟨hP, hD⟩ := va_joinQ (wr := [(jr, .inr (1, [.ref h0, .int dp, .int (md + 1), .ref qv])), (qu, .inl (cI, 4096, .inl ug))]) (w1 := [(h0, .inr (8, [.ref qb, .ref qu, .int uc, .int ln, .int (nI n), .int (nI (p21 + 4)), .int pl])), (qb, .inl (cB, 4096, .inl bf))]) hP hD [1, 2] [0, 3] rfl rfl (by decide) (by decide) hk1 hFc hP1 hD1
              generalize H1 = H at hP hS hq0 ⊢
              have hP : va_P (dC, dI) classes ([(jr, .inr (1, [.ref h0, .int dp, .int (md + 1), .ref qv])), (qu, .inl (cI, 4096, .inl ug)), (h0, .inr (8, [.ref qb, .ref qu, .int uc, .int ln, .int (nI n), .int (nI (p21 + 4)), .int pl])), (qb, .inl (cB, 4096, .inl bf))] ++ va_pl ((L ++ [qv])) f1) H := hP
              have hD : va_D A ([(jr, .inr (1, [.ref h0, .int dp, .int (md + 1), .ref qv])), (qu, .inl (cI, 4096, .inl ug)), (h0, .inr (8, [.ref qb, .ref qu, .int uc, .int ln, .int (nI n), .int (nI (p21 + 4)), .int pl])), (qb, .inl (cB, 4096, .inl bf))] ++ va_pl ((L ++ [qv])) f1) := hD
              have hP := hP.part (cx := [(jr, .inr (1, [.ref h0, .int dp, .int (md + 1), .ref qv])), (h0, .inr (8, [.ref qb, .ref qu, .int uc, .int ln, .int (nI n), .int (nI (p21 + 4)), .int pl])), (qb, .inl (cB, 4096, .inl bf)), (qu, .inl (cI, 4096, .inl ug))]) [0, 2, 3, 1] rfl
              have hD := hD.part (cx := [(jr, .inr (1, [.ref h0, .int dp, .int (md + 1), .ref qv])), (h0, .inr (8, [.ref qb, .ref qu, .int uc, .int ln, .int (nI n), .int (nI (p21 + 4)), .int pl])), (qb, .inl (cB, 4096, .inl bf)), (qu, .inl (cI, 4096, .inl ug))]) [0, 2, 3, 1] (by decide) rfl
              have hb30 := mtch_b (show mtch bf n p21 (ctx 7) 4 from hw) (by decide) (fun j => and255 _)
              have hlf : jLeaf bf n (skipB bf n i) = some ((1, 0, []), skipB bf n i + 4) := jL_true hc0 (by rw [← h_p21]; exact hw)
              refine lv_aload_n hx hb d_JsonReader_value_162 rfl (lv_at hl 0 rfl) ?_
              refine lv_iconst (v := 2) hx hb d_JsonReader_value_163 (by decide) ?_
              refine vq_put (D := (dC, dI)) (ci := 9) (v := .int 2) (ty := .int) (C := R_Value) (T := F_Value) (N := 10) hx hb hts in_Value t_Value t_Value_ok n_Value hown hK hP hD hS hqin efq rfl 0 (by decide) (hts _ z_313) (fun _ h9 => h9) rfl (by decide +kernel) rfl rfl (Nat.le_of_ble_eq_true rfl) d_JsonReader_value_164 (fun H locs hP hD hS => ?_)
              have hP : va_P (dC, dI) classes ([(jr, .inr (1, [.ref h0, .int dp, .int (md + 1), .ref qv])), (h0, .inr (8, [.ref qb, .ref qu, .int uc, .int ln, .int (nI n), .int (nI (p21 + 4)), .int pl])), (qb, .inl (cB, 4096, .inl bf)), (qu, .inl (cI, 4096, .inl ug))] ++ va_pl ((L ++ [qv])) ((va_up f1 qv (vE 2 0 none none none none 0 none none 0)))) H := hP
              have hD : va_D A ([(jr, .inr (1, [.ref h0, .int dp, .int (md + 1), .ref qv])), (h0, .inr (8, [.ref qb, .ref qu, .int uc, .int ln, .int (nI n), .int (nI (p21 + 4)), .int pl])), (qb, .inl (cB, 4096, .inl bf)), (qu, .inl (cI, 4096, .inl ug))] ++ va_pl ((L ++ [qv])) ((va_up f1 qv (vE 2 0 none none none none 0 none none 0)))) := hD
              refine lv_goto (tgt := 183) hx hb d_JsonReader_value_167 (by decide) ?_
              refine lv_aload_n hx hb d_JsonReader_value_183 rfl (lv_at hl 0 rfl) ?_
              refine lv_aload_n hx hb d_JsonReader_value_184 rfl (lv_at hl 2 rfl) ?_
              refine va_get (D := (dC, dI)) (ci := 1) (v := .int (md + 1)) (C := R_JsonReader) (T := F_JsonReader) (N := 4) hx hb hts in_JsonReader hown hK hP 0 rfl rfl 2 (by decide) (hts _ z_83) (fun _ h9 => h9) rfl d_JsonReader_value_185 ?_
              refine lv_iload_n hx hb d_JsonReader_value_188 rfl (lv_at hl 1 rfl) ?_
              refine lv_isub hx hb d_JsonReader_value_189 ?_
              refine vq_put (D := (dC, dI)) (ci := 9) (v := .int ((md + 1) - md)) (ty := .int) (C := R_Value) (T := F_Value) (N := 10) hx hb hts in_Value t_Value t_Value_ok n_Value hown hK hP hD hS hqin (va_up_self _ _ _) rfl 9 (by decide) (hts _ z_339) (fun _ h9 => h9) rfl (by decide +kernel) rfl rfl (Nat.le_of_ble_eq_true rfl) d_JsonReader_value_190 (fun H locs hP hD hS => ?_)
              rw [bx_uu] at hP hD
              have hP : va_P (dC, dI) classes ([(jr, .inr (1, [.ref h0, .int dp, .int (md + 1), .ref qv])), (h0, .inr (8, [.ref qb, .ref qu, .int uc, .int ln, .int (nI n), .int (nI (p21 + 4)), .int pl])), (qb, .inl (cB, 4096, .inl bf)), (qu, .inl (cI, 4096, .inl ug))] ++ va_pl ((L ++ [qv])) ((va_up f1 qv (vE 2 0 none none none none 0 none none (((md + 1) - md)))))) H := hP
              have hD : va_D A ([(jr, .inr (1, [.ref h0, .int dp, .int (md + 1), .ref qv])), (h0, .inr (8, [.ref qb, .ref qu, .int uc, .int ln, .int (nI n), .int (nI (p21 + 4)), .int pl])), (qb, .inl (cB, 4096, .inl bf)), (qu, .inl (cI, 4096, .inl ug))] ++ va_pl ((L ++ [qv])) ((va_up f1 qv (vE 2 0 none none none none 0 none none (((md + 1) - md)))))) := hD
              refine lv_aload_n hx hb d_JsonReader_value_193 rfl (lv_at hl 2 rfl) ?_
              refine va_get (D := (dC, dI)) (ci := 1) (v := .ref h0) (C := R_JsonReader) (T := F_JsonReader) (N := 4) hx hb hts in_JsonReader hown hK hP 0 rfl rfl 0 (by decide) (hts _ w_80) (fun _ h9 => h9) rfl d_JsonReader_value_194 ?_
              have hPc := hP.sub (ws' := [(h0, .inr (8, [.ref qb, .ref qu, .int uc, .int ln, .int (nI n), .int (nI (p21 + 4)), .int pl])), (qb, .inl (cB, 4096, .inl bf))]) [1, 2] rfl
              have hDc := hD.sub (ws' := [(h0, .inr (8, [.ref qb, .ref qu, .int uc, .int ln, .int (nI n), .int (nI (p21 + 4)), .int pl])), (qb, .inl (cB, 4096, .inl bf))]) [1, 2] (by decide) rfl
              have hFc := va_free (wc := [(h0, .inr (8, [.ref qb, .ref qu, .int uc, .int ln, .int (nI n), .int (nI (p21 + 4)), .int pl])), (qb, .inl (cB, 4096, .inl bf))]) hD hS hA [1, 2] rfl
              have hKc := hK.sub (tys' := [(cB, .byte)]) [0] rfl
              refine va_callv (va_runV (As := []) (rest := []) ⟨hx, hb, hml, hown, hts⟩ (c_Tape_skipBlanks l dC dI cB h0 qb H (.ref qu) uc ln pl bf n ((p21 + 4)) hn0 (by omega)) (cwV 0 hts (gt_V (own := R_JsonReader) (C := R_Tape) (i := 42) (y := y_Tape_skipBlanks) i_Tape_skipBlanks z_298 z_299 z_300 w_2) rfl rfl rfl (by decide +kernel) ⟨by show 0 + 1 ≤ 16 + 3 * k; omega, by show 8 + (2 + 11) + (0) ≤ 350 + 90 * k; omega⟩) ⟨mp_blind, va_recv hK hP (ci := 8) (q0 := 1) rfl rfl, fun U hU hW => ⟨rfl, hU, by rw [hU]; exact hPc, va_K.moved hW.alike hKc, hDc.weaken (fun _ _ _ _ => trivial)⟩⟩ rfl rfl hl.1 rfl (lv_room (Nat.le_of_ble_eq_true rfl)) d_JsonReader_value_197 ⟨by show 1 + (0) ≤ 2 * (n - i) + 4; omega, by show 10 + (0) ≤ 16 * (n - i) + 40; omega⟩) hS (fun q _ h => hFc q h) hFc (fun _u t9 H1 locs ht hvm hw hB hz1 hk1 hS => ?_)
              obtain ⟨hP1, hK1, hD1⟩ := hB
              rw [ht] at hP1
              obtain ⟨hP, hD⟩ := va_joinQ (wr := [(jr, .inr (1, [.ref h0, .int dp, .int (md + 1), .ref qv])), (qu, .inl (cI, 4096, .inl ug))]) (w1 := [(h0, .inr (8, [.ref qb, .ref qu, .int uc, .int ln, .int (nI n), .int (nI (skipB bf n ((p21 + 4)))), .int pl])), (qb, .inl (cB, 4096, .inl bf))]) hP hD [1, 2] [0, 3] rfl rfl (by decide) (by decide) hk1 hFc hP1 hD1
              generalize H1 = H at hP hS ⊢
              have hP : va_P (dC, dI) classes ([(jr, .inr (1, [.ref h0, .int dp, .int (md + 1), .ref qv])), (qu, .inl (cI, 4096, .inl ug)), (h0, .inr (8, [.ref qb, .ref qu, .int uc, .int ln, .int (nI n), .int (nI (skipB bf n ((p21 + 4)))), .int pl])), (qb, .inl (cB, 4096, .inl bf))] ++ va_pl ((L ++ [qv])) ((va_up f1 qv (vE 2 0 none none none none 0 none none (((md + 1) - md)))))) H := hP
              have hD : va_D A ([(jr, .inr (1, [.ref h0, .int dp, .int (md + 1), .ref qv])), (qu, .inl (cI, 4096, .inl ug)), (h0, .inr (8, [.ref qb, .ref qu, .int uc, .int ln, .int (nI n), .int (nI (skipB bf n ((p21 + 4)))), .int pl])), (qb, .inl (cB, 4096, .inl bf))] ++ va_pl ((L ++ [qv])) ((va_up f1 qv (vE 2 0 none none none none 0 none none (((md + 1) - md)))))) := hD
              have hP := hP.part (cx := [(jr, .inr (1, [.ref h0, .int dp, .int (md + 1), .ref qv])), (h0, .inr (8, [.ref qb, .ref qu, .int uc, .int ln, .int (nI n), .int (nI (skipB bf n ((p21 + 4)))), .int pl])), (qb, .inl (cB, 4096, .inl bf)), (qu, .inl (cI, 4096, .inl ug))]) [0, 2, 3, 1] rfl
              have hD := hD.part (cx := [(jr, .inr (1, [.ref h0, .int dp, .int (md + 1), .ref qv])), (h0, .inr (8, [.ref qb, .ref qu, .int uc, .int ln, .int (nI n), .int (nI (skipB bf n ((p21 + 4)))), .int pl])), (qb, .inl (cB, 4096, .inl bf)), (qu, .inl (cI, 4096, .inl ug))]) [0, 2, 3, 1] (by decide) rfl
              obtain ⟨p31, h_p31⟩ : ∃ z, z = skipB bf n ((p21 + 4)) := ⟨_, rfl⟩
              have hb_p31 := skip_b (f := bf) (show ((p21 + 4)) ≤ n by omega)
              rw [← h_p31] at hP hD hb_p31
              have hP : va_P (dC, dI) classes ([(jr, .inr (1, [.ref h0, .int dp, .int (md + 1), .ref qv])), (h0, .inr (8, [.ref qb, .ref qu, .int uc, .int ln, .int (nI n), .int (nI p31), .int pl])), (qb, .inl (cB, 4096, .inl bf)), (qu, .inl (cI, 4096, .inl ug))] ++ va_pl ((L ++ [qv])) ((va_up f1 qv (vE 2 0 none none none none 0 none none (((md + 1) - md)))))) H := hP
              have hD : va_D A ([(jr, .inr (1, [.ref h0, .int dp, .int (md + 1), .ref qv])), (h0, .inr (8, [.ref qb, .ref qu, .int uc, .int ln, .int (nI n), .int (nI p31), .int pl])), (qb, .inl (cB, 4096, .inl bf)), (qu, .inl (cI, 4096, .inl ug))] ++ va_pl ((L ++ [qv])) ((va_up f1 qv (vE 2 0 none none none none 0 none none (((md + 1) - md)))))) := hD
              refine lv_aload_n hx hb d_JsonReader_value_200 rfl (lv_at hl 0 rfl) ?_
              have hO2 := PO.upd1 (kd := 2) (nu := 0) (tx := none) (me := none) (pa := none) (na := none) (ix := 0) (nm := none) (no := none) (sp := (((md + 1) - md))) hO1 hq1 (fun b h => (nomatch h)) (fun b h => (nomatch h)) (fun b h => (nomatch h)) (fun b h => (nomatch h)) (fun b h => (nomatch h)) (fun b h => (nomatch h))
              have hJ : JP cI cV E lv L f la i n qv p31 [qv] (va_up E1 qv 2) (va_up f1 qv (vE 2 0 none none none none 0 none none (((md + 1) - md)))) qv := JP.mk hqz hE1 hKX hO2 EX.rf (fun a ha => by rw [ha]; decide) (fun a _ hn9 => va_up_ne _ _ hn9) (Or.inl hq1) (Or.inl rfl) (va_up_self _ _ _) (fun h => absurd h (by decide)) (fun h => absurd h (by decide)) (by omega) (by omega)
              have hlaz : ∀ z, la = some z → E z ≠ 0 ∧ z ≠ qv := fun z hz => ⟨by rcases hla z hz with h9 | h9 | h9 <;> omega, fun e => by rcases hla z hz with h9 | h9 | h9 <;> (rw [e, hqz] at h9; omega)⟩
              have hOBJ : OBJ E (va_up E1 qv 2) la (va_up f1 qv (vE 2 0 none none none none 0 none none (((md + 1) - md)))) qv qv 1 k (jleaf k (1, 0, [])) := OBJ.leaf (va_up_self _ _ _) rfl (show (1 : Nat) < 5 by decide) (fun h9 => absurd h9 (show ¬ (1 : Nat) = 3 by decide)) (fun h9 => absurd h9 (show ¬ (1 : Nat) = 4 by decide)) (by rw [show ((((md + 1) - md)) : Int32) = (md + 1 + nI 0) - md by rw [show nI 0 = 0 from rfl, Int32.add_zero]]; exact md_span) hqz (Or.inl (va_up_self _ _ _)) (fun z hz => by rw [va_up_ne _ _ (hlaz z hz).2]; exact hlk1 z hz)
              have hJFx : JFx bf n k d i p31 D dp (jleaf k (1, 0, [])) := JFx.leaf hnb hlf (show (1 : Nat) < 5 by decide) (by first | exact h_p31 | (rw [← h_p21]; exact h_p31)) hDd hdp
              refine w_same (fun hq => ?_)
              refine W.widen (k := 2 * (n - i) + 4) (n := 16 * (n - i) + 40) (by show 1 ≤ 2 * (n - i) + 4; omega) (by show 10 ≤ 16 * (n - i) + 40; omega) ?_
              refine vx_ret ?_
              exact W.aret (v := .ref qv) hx hb hr (Or.inl ⟨_, rfl⟩) (Or.inr ⟨_, rfl⟩) (fun t9 ht hW => ⟨⟨(qv, p31, [qv], va_up E1 qv 2, (va_up f1 qv (vE 2 0 none none none none 0 none none (((md + 1) - md)))), uc, ug, dp, (md + 1), qv), qv, rfl, ⟨hJ, ⟨_, 1, hJFx, hOBJ, rfl⟩⟩, ⟨by rw [ht]; exact hP, va_K.moved hW.alike hK, hD⟩, by rw [ht]; exact ⟨hq.mono (by show 1 ≤ 2 * (p31 - i); omega) (by show 10 ≤ 16 * (p31 - i) - 1; omega), rfl⟩⟩, hS.F ht⟩) hS.2.2 d_JsonReader_value_201
          · by_cases hs24_5 : h22 = 123
            · refine lv_lookup (tgt := 94) (off := 70) hx hb d_JsonReader_value_24 (by decide) (by rw [hs24_5]; decide) (by decide) ?_
              have hlt := here_lc (h_h22.symm.trans hs24_5) (by decide)
              have hc0 : hereV bf n (skipB bf n i) = 123 := by rw [← h_p21, ← h_h22]; exact hs24_5
              refine lv_aload_n hx hb d_JsonReader_value_94 rfl (lv_at hl 2 rfl) ?_
              refine lv_aload_n hx hb d_JsonReader_value_95 rfl (lv_at hl 0 rfl) ?_
              refine lv_bipush (v := 6) hx hb d_JsonReader_value_96 (by decide) ?_
              refine lv_iload_n hx hb d_JsonReader_value_98 rfl (lv_at hl 3 rfl) ?_
              have hPc := hP.part (cx := [(jr, .inr (1, [.ref h0, .int dp, .int (md + 1), .ref qv])), (h0, .inr (8, [.ref qb, .ref qu, .int uc, .int ln, .int (nI n), .int (nI p21), .int pl])), (qb, .inl (cB, 4096, .inl bf)), (qu, .inl (cI, 4096, .inl ug))]) [0, 1, 2, 3] rfl
              have hDc := hD.part (cx := [(jr, .inr (1, [.ref h0, .int dp, .int (md + 1), .ref qv])), (h0, .inr (8, [.ref qb, .ref qu, .int uc, .int ln, .int (nI n), .int (nI p21), .int pl])), (qb, .inl (cB, 4096, .inl bf)), (qu, .inl (cI, 4096, .inl ug))]) [0, 1, 2, 3] (by decide) rfl
              have hFc := va_freeP (cx := [(jr, .inr (1, [.ref h0, .int dp, .int (md + 1), .ref qv])), (h0, .inr (8, [.ref qb, .ref qu, .int uc, .int ln, .int (nI n), .int (nI p21), .int pl])), (qb, .inl (cB, 4096, .inl bf)), (qu, .inl (cI, 4096, .inl ug))]) hD hS hA [0, 1, 2, 3] rfl
              have hKc := hK.sub (tys' := [(cB, .byte), (cI, .int), (cV, .object "QueryBench$Value")]) [0, 1, 2] rfl
              refine w_same (fun hq0 => ?_)
              refine vx_callv (vx_runV (As := [.ref qv, .int 6, .int (nI d)]) (rest := []) ⟨hx, hb, hml, hown, hts⟩ (c_JsonReader_container l hl9 K dC dI cI cV lv cB h0 qb qu ln bf n jr hn0 k d hkd9 HV H E1 (L ++ [qv]) f1 hO1 p21 uc pl ug dp (md + 1) qv 6 (Or.inr rfl) hq1 efq hlt D hdp hDd hD32) (cwV 3 hts (gt_V (own := R_JsonReader) (C := R_JsonReader) (i := 55) (y := y_JsonReader_container) i_JsonReader_container z_366 z_368 (gt_sel (y := y_JsonReader_container) (n := 4) (by decide +kernel)) w_3) rfl rfl rfl (by decide +kernel) ⟨by show 15 + 3 * k + 1 ≤ 16 + 3 * k; omega, by show 8 + (5 + 11) + (320 + 90 * k) ≤ 350 + 90 * k; omega⟩) ⟨ml_blind, va_recv hK hP (ci := 1) (q0 := 0) rfl rfl, fun U hU hW => ⟨rfl, ⟨hU, by rw [hU]; exact hPc, va_K.moved hW.alike hKc, hDc.weaken (fun _ _ _ _ => trivial)⟩, hN.warm hW, by rw [hU]; exact ZX.moved' hW.alike (ZX.narrow' (ZX.kept' hZ hS.2.1) hFc), by rw [hU]; exact CE.call hC hS.2.1 hFc hW, va_AO.moved hW.alike hV⟩⟩ rfl rfl hl.1 rfl (lv_room (Nat.le_of_ble_eq_true rfl)) d_JsonReader_value_99 ⟨by show 1 + (2 * (n - p21) + 2) ≤ 2 * (n - i) + 4; omega, by show 10 + (16 * (n - p21) + 24) ≤ 16 * (n - i) + 40; omega⟩) hS (fun q _ h => hFc q h) hFc (fun q _ h => hFc q h) (fun En ce q9 ⟨ax, cx, px, gx, dx, mx, lx, fx⟩ t9 H1 locs ht hvm hw hB hz1 hk1 hS hce hcv hcl => ?_) (fun ⟨p3, N3, E3, f3, uc3, ug3, dp3, md3, lb3⟩ t9 H1 locs ht hvm hw hB hz1 hk1 hS => ?_)
              · obtain ⟨hEn, hP1, hK1, hD1⟩ := hB
                rw [ht] at hP1
                obtain ⟨hP, hD⟩ := va_joinP (wr := []) (rx := [(jr, .inr (1, [.ref h0, .int dx, .int mx, va_rf lx])), (h0, .inr (8, [.ref qb, .ref qu, .int cx, .int ln, .int (nI n), .int ax, .int px])), (qb, .inl (cB, 4096, .inl bf)), (qu, .inl (cI, 4096, .inl gx))]) (pl1 := va_pl ((L ++ [qv])) fx) hP hD [0, 1, 2, 3] [] rfl rfl (by decide) (by decide) hk1 hFc hP1 hD1
                generalize H1 = H at hP hS hce ⊢
                have hP : va_P (dC, dI) classes ([(jr, .inr (1, [.ref h0, .int dx, .int mx, va_rf lx])), (h0, .inr (8, [.ref qb, .ref qu, .int cx, .int ln, .int (nI n), .int ax, .int px])), (qb, .inl (cB, 4096, .inl bf)), (qu, .inl (cI, 4096, .inl gx))] ++ va_pl ((L ++ [qv])) fx) H := hP
                have hD : va_D A ([(jr, .inr (1, [.ref h0, .int dx, .int mx, va_rf lx])), (h0, .inr (8, [.ref qb, .ref qu, .int cx, .int ln, .int (nI n), .int ax, .int px])), (qb, .inl (cB, 4096, .inl bf)), (qu, .inl (cI, 4096, .inl gx))] ++ va_pl ((L ++ [qv])) fx) := hD
                have hP := plP_pre hP
                have hD := plD_pre hD
                have hkx : ∀ a, E a ≠ 0 → la ≠ some a → fx a = f a := fun a ha hl9 => ((show ∀ a, E1 a ≠ 0 → a ≠ qv → fx a = f1 a from hw.1) a (by rw [hE1, va_up_ne _ _ (hne a ha)]; exact ha) (hne a ha)).trans (hKX.2 a ha hl9)
                have hno : jV bf n k i = none := CNn.jv (kd := 6) (by rw [← h_p21]; exact hw.2) (Or.inr ⟨rfl, hc0⟩)
                exact vx_out (fun x hx => (hex x hx).elim) hlocks hce hcv hcl (fun t9 ht2 ha => ⟨(ax, cx, px, gx, dx, mx, lx, fx), ⟨hkx, hno⟩, ⟨hEn, by rw [ht2]; exact hP, va_K.moved ha hK, hD⟩, hS.F ht2⟩) hS.2.2 (by show 1 + (2 * (n - p21) + 2) ≤ 2 * (n - i) + 4; omega) (by show 10 + (16 * (n - p21) + 24) ≤ 16 * (n - i) + 40; omega)
              · obtain ⟨⟨hP1, hK1, hD1⟩, hz9⟩ := hB
                rw [ht] at hP1
                rw [ht] at hz9
                have hq0 : szk s.heap H1 (1 + (2 * (p3 - p21) - 3)) (10 + (16 * (p3 - p21) - 32)) := (hq0.trans hz9).mono (Nat.le_refl _) (Nat.le_refl _)
                refine w_tight hq0 ?_
                obtain ⟨hP, hD⟩ := va_joinP (wr := []) (rx := [(jr, .inr (1, [.ref h0, .int dp3, .int md3, .ref lb3])), (h0, .inr (8, [.ref qb, .ref qu, .int uc3, .int ln, .int (nI n), .int (nI p3), .int pl])), (qb, .inl (cB, 4096, .inl bf)), (qu, .inl (cI, 4096, .inl ug3))]) (pl1 := va_pl (((L ++ [qv]) ++ N3)) f3) hP hD [0, 1, 2, 3] [] rfl rfl (by decide) (by decide) hk1 hFc hP1 hD1
                generalize H1 = H at hP hS hq0 ⊢
                have hP : va_P (dC, dI) classes ([(jr, .inr (1, [.ref h0, .int dp3, .int md3, .ref lb3])), (h0, .inr (8, [.ref qb, .ref qu, .int uc3, .int ln, .int (nI n), .int (nI p3), .int pl])), (qb, .inl (cB, 4096, .inl bf)), (qu, .inl (cI, 4096, .inl ug3))] ++ va_pl (((L ++ [qv]) ++ N3)) f3) H := hP
                have hD : va_D A ([(jr, .inr (1, [.ref h0, .int dp3, .int md3, .ref lb3])), (h0, .inr (8, [.ref qb, .ref qu, .int uc3, .int ln, .int (nI n), .int (nI p3), .int pl])), (qb, .inl (cB, 4096, .inl bf)), (qu, .inl (cI, 4096, .inl ug3))] ++ va_pl (((L ++ [qv]) ++ N3)) f3) := hD
                obtain ⟨hp3, hM, hCF⟩ := hw
                have hCF : CFx cV bf n k d (skipB bf n i) p3 D 6 dp3 E1 E3 f3 qv lb3 (md + 1) md3 := by rw [← h_p21]; exact hCF
                have hp3 : p21 + 2 ≤ p3 := hp3
                have hM : MP cI cV E1 lv (L ++ [qv]) f1 qv p21 n p3 6 N3 E3 f3 lb3 := hM
                have hp4 := hM.2.1
                obtain ⟨me3, no3, efq3, hk6⟩ := hM.2.2.2.2.2.2.2.2
                have hO3 := hM.2.2.1
                rw [List.append_assoc] at hP hD hO3
                have hq3 : E3 qv = 1 := (hM.2.2.2.1 qv (by rw [hq1]; decide)).trans hq1
                have hq3in : qv ∈ L ++ ([qv] ++ N3) := hO3.inL (by rw [hq3]; decide)
                have hP : va_P (dC, dI) classes ([(jr, .inr (1, [.ref h0, .int dp3, .int md3, .ref lb3])), (h0, .inr (8, [.ref qb, .ref qu, .int uc3, .int ln, .int (nI n), .int (nI p3), .int pl])), (qb, .inl (cB, 4096, .inl bf)), (qu, .inl (cI, 4096, .inl ug3))] ++ va_pl ((L ++ ([qv] ++ N3))) f3) H := hP
                have hD : va_D A ([(jr, .inr (1, [.ref h0, .int dp3, .int md3, .ref lb3])), (h0, .inr (8, [.ref qb, .ref qu, .int uc3, .int ln, .int (nI n), .int (nI p3), .int pl])), (qb, .inl (cB, 4096, .inl bf)), (qu, .inl (cI, 4096, .inl ug3))] ++ va_pl ((L ++ ([qv] ++ N3))) f3) := hD
                refine lv_goto (tgt := 183) hx hb d_JsonReader_value_102 (by decide) ?_
                refine lv_aload_n hx hb d_JsonReader_value_183 rfl (lv_at hl 0 rfl) ?_
                refine lv_aload_n hx hb d_JsonReader_value_184 rfl (lv_at hl 2 rfl) ?_
                refine va_get (D := (dC, dI)) (ci := 1) (v := .int md3) (C := R_JsonReader) (T := F_JsonReader) (N := 4) hx hb hts in_JsonReader hown hK hP 0 rfl rfl 2 (by decide) (hts _ z_83) (fun _ h9 => h9) rfl d_JsonReader_value_185 ?_
                refine lv_iload_n hx hb d_JsonReader_value_188 rfl (lv_at hl 1 rfl) ?_
                refine lv_isub hx hb d_JsonReader_value_189 ?_
                refine vq_put (D := (dC, dI)) (ci := 9) (v := .int (md3 - md)) (ty := .int) (C := R_Value) (T := F_Value) (N := 10) hx hb hts in_Value t_Value t_Value_ok n_Value hown hK hP hD hS hq3in efq3 rfl 9 (by decide) (hts _ z_339) (fun _ h9 => h9) rfl (by decide +kernel) rfl rfl (Nat.le_of_ble_eq_true rfl) d_JsonReader_value_190 (fun H locs hP hD hS => ?_)
                have hP : va_P (dC, dI) classes ([(jr, .inr (1, [.ref h0, .int dp3, .int md3, .ref lb3])), (h0, .inr (8, [.ref qb, .ref qu, .int uc3, .int ln, .int (nI n), .int (nI p3), .int pl])), (qb, .inl (cB, 4096, .inl bf)), (qu, .inl (cI, 4096, .inl ug3))] ++ va_pl ((L ++ ([qv] ++ N3))) ((va_up f3 qv (vE 6 0 none me3 none none 0 none no3 ((md3 - md)))))) H := hP
                have hD : va_D A ([(jr, .inr (1, [.ref h0, .int dp3, .int md3, .ref lb3])), (h0, .inr (8, [.ref qb, .ref qu, .int uc3, .int ln, .int (nI n), .int (nI p3), .int pl])), (qb, .inl (cB, 4096, .inl bf)), (qu, .inl (cI, 4096, .inl ug3))] ++ va_pl ((L ++ ([qv] ++ N3))) ((va_up f3 qv (vE 6 0 none me3 none none 0 none no3 ((md3 - md)))))) := hD
                refine lv_aload_n hx hb d_JsonReader_value_193 rfl (lv_at hl 2 rfl) ?_
                refine va_get (D := (dC, dI)) (ci := 1) (v := .ref h0) (C := R_JsonReader) (T := F_JsonReader) (N := 4) hx hb hts in_JsonReader hown hK hP 0 rfl rfl 0 (by decide) (hts _ w_80) (fun _ h9 => h9) rfl d_JsonReader_value_194 ?_
                have hPc := hP.sub (ws' := [(h0, .inr (8, [.ref qb, .ref qu, .int uc3, .int ln, .int (nI n), .int (nI p3), .int pl])), (qb, .inl (cB, 4096, .inl bf))]) [1, 2] rfl
                have hDc := hD.sub (ws' := [(h0, .inr (8, [.ref qb, .ref qu, .int uc3, .int ln, .int (nI n), .int (nI p3), .int pl])), (qb, .inl (cB, 4096, .inl bf))]) [1, 2] (by decide) rfl
                have hFc := va_free (wc := [(h0, .inr (8, [.ref qb, .ref qu, .int uc3, .int ln, .int (nI n), .int (nI p3), .int pl])), (qb, .inl (cB, 4096, .inl bf))]) hD hS hA [1, 2] rfl
                have hKc := hK.sub (tys' := [(cB, .byte)]) [0] rfl
                refine va_callv (va_runV (As := []) (rest := []) ⟨hx, hb, hml, hown, hts⟩ (c_Tape_skipBlanks l dC dI cB h0 qb H (.ref qu) uc3 ln pl bf n p3 hn0 (by omega)) (cwV 0 hts (gt_V (own := R_JsonReader) (C := R_Tape) (i := 42) (y := y_Tape_skipBlanks) i_Tape_skipBlanks z_298 z_299 z_300 w_2) rfl rfl rfl (by decide +kernel) ⟨by show 0 + 1 ≤ 16 + 3 * k; omega, by show 8 + (2 + 11) + (0) ≤ 350 + 90 * k; omega⟩) ⟨mp_blind, va_recv hK hP (ci := 8) (q0 := 1) rfl rfl, fun U hU hW => ⟨rfl, hU, by rw [hU]; exact hPc, va_K.moved hW.alike hKc, hDc.weaken (fun _ _ _ _ => trivial)⟩⟩ rfl rfl hl.1 rfl (lv_room (Nat.le_of_ble_eq_true rfl)) d_JsonReader_value_197 ⟨by show (1 + (2 * (p3 - p21) - 3)) + (0) ≤ 2 * (n - i) + 4; omega, by show (10 + (16 * (p3 - p21) - 32)) + (0) ≤ 16 * (n - i) + 40; omega⟩) hS (fun q _ h => hFc q h) hFc (fun _u t9 H1 locs ht hvm hw hB hz1 hk1 hS => ?_)
                obtain ⟨hP1, hK1, hD1⟩ := hB
                rw [ht] at hP1
                obtain ⟨hP, hD⟩ := va_joinQ (wr := [(jr, .inr (1, [.ref h0, .int dp3, .int md3, .ref lb3])), (qu, .inl (cI, 4096, .inl ug3))]) (w1 := [(h0, .inr (8, [.ref qb, .ref qu, .int uc3, .int ln, .int (nI n), .int (nI (skipB bf n p3)), .int pl])), (qb, .inl (cB, 4096, .inl bf))]) hP hD [1, 2] [0, 3] rfl rfl (by decide) (by decide) hk1 hFc hP1 hD1
                generalize H1 = H at hP hS ⊢
                have hP : va_P (dC, dI) classes ([(jr, .inr (1, [.ref h0, .int dp3, .int md3, .ref lb3])), (qu, .inl (cI, 4096, .inl ug3)), (h0, .inr (8, [.ref qb, .ref qu, .int uc3, .int ln, .int (nI n), .int (nI (skipB bf n p3)), .int pl])), (qb, .inl (cB, 4096, .inl bf))] ++ va_pl ((L ++ ([qv] ++ N3))) ((va_up f3 qv (vE 6 0 none me3 none none 0 none no3 ((md3 - md)))))) H := hP
                have hD : va_D A ([(jr, .inr (1, [.ref h0, .int dp3, .int md3, .ref lb3])), (qu, .inl (cI, 4096, .inl ug3)), (h0, .inr (8, [.ref qb, .ref qu, .int uc3, .int ln, .int (nI n), .int (nI (skipB bf n p3)), .int pl])), (qb, .inl (cB, 4096, .inl bf))] ++ va_pl ((L ++ ([qv] ++ N3))) ((va_up f3 qv (vE 6 0 none me3 none none 0 none no3 ((md3 - md)))))) := hD
                have hP := hP.part (cx := [(jr, .inr (1, [.ref h0, .int dp3, .int md3, .ref lb3])), (h0, .inr (8, [.ref qb, .ref qu, .int uc3, .int ln, .int (nI n), .int (nI (skipB bf n p3)), .int pl])), (qb, .inl (cB, 4096, .inl bf)), (qu, .inl (cI, 4096, .inl ug3))]) [0, 2, 3, 1] rfl
                have hD := hD.part (cx := [(jr, .inr (1, [.ref h0, .int dp3, .int md3, .ref lb3])), (h0, .inr (8, [.ref qb, .ref qu, .int uc3, .int ln, .int (nI n), .int (nI (skipB bf n p3)), .int pl])), (qb, .inl (cB, 4096, .inl bf)), (qu, .inl (cI, 4096, .inl ug3))]) [0, 2, 3, 1] (by decide) rfl
                obtain ⟨p32, h_p32⟩ : ∃ z, z = skipB bf n p3 := ⟨_, rfl⟩
                have hb_p32 := skip_b (f := bf) (show p3 ≤ n by omega)
                rw [← h_p32] at hP hD hb_p32
                have hP : va_P (dC, dI) classes ([(jr, .inr (1, [.ref h0, .int dp3, .int md3, .ref lb3])), (h0, .inr (8, [.ref qb, .ref qu, .int uc3, .int ln, .int (nI n), .int (nI p32), .int pl])), (qb, .inl (cB, 4096, .inl bf)), (qu, .inl (cI, 4096, .inl ug3))] ++ va_pl ((L ++ ([qv] ++ N3))) ((va_up f3 qv (vE 6 0 none me3 none none 0 none no3 ((md3 - md)))))) H := hP
                have hD : va_D A ([(jr, .inr (1, [.ref h0, .int dp3, .int md3, .ref lb3])), (h0, .inr (8, [.ref qb, .ref qu, .int uc3, .int ln, .int (nI n), .int (nI p32), .int pl])), (qb, .inl (cB, 4096, .inl bf)), (qu, .inl (cI, 4096, .inl ug3))] ++ va_pl ((L ++ ([qv] ++ N3))) ((va_up f3 qv (vE 6 0 none me3 none none 0 none no3 ((md3 - md)))))) := hD
                refine lv_aload_n hx hb d_JsonReader_value_200 rfl (lv_at hl 0 rfl) ?_
                have hvo := hO3.vo (Or.inl hq3) efq3
                have hO2 := PO.upd1 (kd := 6) (nu := 0) (tx := none) (me := me3) (pa := none) (na := none) (ix := 0) (nm := none) (no := no3) (sp := ((md3 - md))) hO3 hq3 (fun b h => (nomatch h)) hvo.2.1 (fun b h => (nomatch h)) (fun b h => (nomatch h)) (fun b h => (nomatch h)) hvo.2.2.2.2.2.1
                have hJ : JP cI cV E lv L f la i n qv p32 ([qv] ++ N3) (va_up E3 qv 2) (va_up f3 qv (vE 6 0 none me3 none none 0 none no3 ((md3 - md)))) lb3 := JP.mk hqz hE1 hKX hO2 hM.2.2.2.1 hM.2.2.2.2.1 (fun a ha hn9 => by rw [va_up_ne _ _ hn9]; exact hM.2.2.2.2.2.1 a ha hn9) hM.2.2.2.2.2.2.1 hM.2.2.2.2.2.2.2.1 (va_up_self _ _ _) (fun h => absurd h (by decide)) hk6 (by omega) (by omega)
                have hlaz : ∀ z, la = some z → E z ≠ 0 ∧ z ≠ qv := fun z hz => ⟨by rcases hla z hz with h9 | h9 | h9 <;> omega, fun e => by rcases hla z hz with h9 | h9 | h9 <;> (rw [e, hqz] at h9; omega)⟩
                have hOBJ := CFx.obj (E0 := E) (E5 := va_up E3 qv 2) (la := la) (f5 := (va_up f3 qv (vE 6 0 none me3 none none 0 none no3 ((md3 - md))))) (sp := (((md3 - md)))) (s := p32) hCF (Or.inr ⟨rfl, hc0⟩) h_p32 hO3 (Or.inl hq3) (fun me9 no9 e9 => by obtain ⟨x1, x2, x3, x4, x5, x6, x7, x8, x9, x10⟩ := vE_inj (efq3.symm.trans e9); rw [← x4, ← x9]; exact va_up_self _ _ _) (fun a _ hn9 => va_up_ne _ _ hn9) rfl (by rw [hE1]; exact EX.new hqz) hqz (fun a ha => by show va_up E3 qv 2 a = 2 ∨ va_up E3 qv 2 a = 3; by_cases e9 : a = qv; (· rw [e9, va_up_self]; exact Or.inl rfl); (· rw [va_up_ne _ _ e9]; exact ha)) (Or.inl (va_up_self _ _ _)) (fun z hz => by rw [va_up_ne _ _ (hlaz z hz).2, hM.2.2.2.2.2.1 z (by rw [hE1, va_up_ne _ _ (hlaz z hz).2]; exact (hlaz z hz).1) (hlaz z hz).2]; exact hlk1 z hz)
                refine w_same (fun hq => ?_)
                refine W.widen (k := 2 * (n - i) + 4) (n := 16 * (n - i) + 40) (by show (1 + (2 * (p3 - p21) - 3)) ≤ 2 * (n - i) + 4; omega) (by show (10 + (16 * (p3 - p21) - 32)) ≤ 16 * (n - i) + 40; omega) ?_
                refine vx_ret ?_
                exact W.aret (v := .ref qv) hx hb hr (Or.inl ⟨_, rfl⟩) (Or.inr ⟨_, rfl⟩) (fun t9 ht hW => ⟨⟨(qv, p32, [qv] ++ N3, va_up E3 qv 2, (va_up f3 qv (vE 6 0 none me3 none none 0 none no3 ((md3 - md)))), uc3, ug3, dp3, md3, lb3), qv, rfl, ⟨hJ, hOBJ⟩, ⟨by rw [ht]; exact hP, va_K.moved hW.alike hK, hD⟩, by rw [ht]; exact ⟨hq.mono (by show (1 + (2 * (p3 - p21) - 3)) ≤ 2 * (p32 - i); omega) (by show (10 + (16 * (p3 - p21) - 32)) ≤ 16 * (p32 - i) - 1; omega), rfl⟩⟩, hS.F ht⟩) hS.2.2 d_JsonReader_value_201
            · have hk24_0 := i_neN 34 rfl hs24_0
              have hk24_1 := i_neN 91 rfl hs24_1
              have hk24_2 := i_neN 102 rfl hs24_2
              have hk24_3 := i_neN 110 rfl hs24_3
              have hk24_4 := i_neN 116 rfl hs24_4
              have hk24_5 := i_neN 123 rfl hs24_5
              refine lv_lookup (tgt := 170) (off := 146) hx hb d_JsonReader_value_24 (by decide) (by simp [Op.lookupswitch.offset, Ne.symm hk24_0, hk24_0, Ne.symm hk24_1, hk24_1, Ne.symm hk24_2, hk24_2, Ne.symm hk24_3, hk24_3, Ne.symm hk24_4, hk24_4, Ne.symm hk24_5, hk24_5]) (by decide) ?_
              have hn34 : ¬ hereV bf n (skipB bf n i) = 34 := by rw [← h_p21, ← h_h22]; exact hs24_0
              have hn91 : ¬ hereV bf n (skipB bf n i) = 91 := by rw [← h_p21, ← h_h22]; exact hs24_1
              have hn102 : ¬ hereV bf n (skipB bf n i) = 102 := by rw [← h_p21, ← h_h22]; exact hs24_2
              have hn110 : ¬ hereV bf n (skipB bf n i) = 110 := by rw [← h_p21, ← h_h22]; exact hs24_3
              have hn116 : ¬ hereV bf n (skipB bf n i) = 116 := by rw [← h_p21, ← h_h22]; exact hs24_4
              have hn123 : ¬ hereV bf n (skipB bf n i) = 123 := by rw [← h_p21, ← h_h22]; exact hs24_5
              have hnb : ¬ (hereV bf n (skipB bf n i) = 91 ∨ hereV bf n (skipB bf n i) = 123) := fun q => q.elim hn91 hn123
              refine lv_aload_n hx hb d_JsonReader_value_170 rfl (lv_at hl 0 rfl) ?_
              refine lv_iconst (v := 3) hx hb d_JsonReader_value_171 (by decide) ?_
              refine vq_put (D := (dC, dI)) (ci := 9) (v := .int 3) (ty := .int) (C := R_Value) (T := F_Value) (N := 10) hx hb hts in_Value t_Value t_Value_ok n_Value hown hK hP hD hS hqin efq rfl 0 (by decide) (hts _ z_313) (fun _ h9 => h9) rfl (by decide +kernel) rfl rfl (Nat.le_of_ble_eq_true rfl) d_JsonReader_value_172 (fun H locs hP hD hS => ?_)
              have hP : va_P (dC, dI) classes ([(jr, .inr (1, [.ref h0, .int dp, .int (md + 1), .ref qv])), (h0, .inr (8, [.ref qb, .ref qu, .int uc, .int ln, .int (nI n), .int (nI p21), .int pl])), (qb, .inl (cB, 4096, .inl bf)), (qu, .inl (cI, 4096, .inl ug))] ++ va_pl ((L ++ [qv])) ((va_up f1 qv (vE 3 0 none none none none 0 none none 0)))) H := hP
              have hD : va_D A ([(jr, .inr (1, [.ref h0, .int dp, .int (md + 1), .ref qv])), (h0, .inr (8, [.ref qb, .ref qu, .int uc, .int ln, .int (nI n), .int (nI p21), .int pl])), (qb, .inl (cB, 4096, .inl bf)), (qu, .inl (cI, 4096, .inl ug))] ++ va_pl ((L ++ [qv])) ((va_up f1 qv (vE 3 0 none none none none 0 none none 0)))) := hD
              refine lv_aload_n hx hb d_JsonReader_value_175 rfl (lv_at hl 0 rfl) ?_
              refine lv_aload_n hx hb d_JsonReader_value_176 rfl (lv_at hl 2 rfl) ?_
              have hPc := hP.sub (ws' := [(jr, .inr (1, [.ref h0, .int dp, .int (md + 1), .ref qv])), (h0, .inr (8, [.ref qb, .ref qu, .int uc, .int ln, .int (nI n), .int (nI p21), .int pl])), (qb, .inl (cB, 4096, .inl bf)), (qu, .inl (cI, 4096, .inl ug))]) [0, 1, 2, 3] rfl
              have hDc := hD.sub (ws' := [(jr, .inr (1, [.ref h0, .int dp, .int (md + 1), .ref qv])), (h0, .inr (8, [.ref qb, .ref qu, .int uc, .int ln, .int (nI n), .int (nI p21), .int pl])), (qb, .inl (cB, 4096, .inl bf)), (qu, .inl (cI, 4096, .inl ug))]) [0, 1, 2, 3] (by decide) rfl
              have hFc := va_free (wc := [(jr, .inr (1, [.ref h0, .int dp, .int (md + 1), .ref qv])), (h0, .inr (8, [.ref qb, .ref qu, .int uc, .int ln, .int (nI n), .int (nI p21), .int pl])), (qb, .inl (cB, 4096, .inl bf)), (qu, .inl (cI, 4096, .inl ug))]) hD hS hA [0, 1, 2, 3] rfl
              have hKc := hK.sub (tys' := [(cB, .byte), (cI, .int)]) [0, 1] rfl
              refine w_same (fun hq0 => ?_)
              refine vx_calll (vx_runV (As := []) (rest := [.ref qv]) ⟨hx, hb, hml, hown, hts⟩ (c_JsonReader_number l hl9 dC dI H cB cI h0 qb qu uc ln pl bf ug n p21 hn0 (by omega) hbf jr dp (md + 1) (some qv)) (cwV 0 hts (gt_V (own := R_JsonReader) (C := R_JsonReader) (i := 80) (y := y_JsonReader_number) i_JsonReader_number z_505 z_507 (gt_sel (y := y_JsonReader_number) (n := 4) (by decide +kernel)) w_3) rfl rfl rfl (by decide +kernel) ⟨by show 10 + 1 ≤ 16 + 3 * k; omega, by show 8 + (6 + 11) + (170) ≤ 350 + 90 * k; omega⟩) ⟨mx_blind, va_recv hK hP (ci := 1) (q0 := 0) rfl rfl, fun U hU hW => ⟨rfl, ⟨hU, by rw [hU]; exact hPc, va_K.moved hW.alike hKc, hDc.weaken (fun _ _ _ _ => trivial)⟩, hN.warm hW, by rw [hU]; exact ZX.moved' hW.alike (ZX.narrow' (ZX.kept' hZ hS.2.1) hFc)⟩⟩ rfl rfl hl.1 rfl (lv_room (Nat.le_of_ble_eq_true rfl)) d_JsonReader_value_177 ⟨by show 1 + (1) ≤ 2 * (n - i) + 4; omega, by show 10 + (6) ≤ 16 * (n - i) + 40; omega⟩) hS (fun q _ h => hFc q h) hFc (fun q _ h => hFc q h) (fun En ce q9 ⟨ax, cx, px, gx⟩ t9 H1 locs ht hvm hw hB hz1 hk1 hS hce hcv hcl => ?_) (fun nu3 p3 t9 H1 locs ht hvm hw hB hz1 hk1 hS => ?_)
              · obtain ⟨hEn, hP1, hK1, hD1⟩ := hB
                rw [ht] at hP1
                obtain ⟨hP, hD⟩ := va_joinQ (wr := []) (w1 := [(jr, .inr (1, [.ref h0, .int dp, .int (md + 1), .ref qv])), (h0, .inr (8, [.ref qb, .ref qu, .int cx, .int ln, .int (nI n), .int ax, .int px])), (qb, .inl (cB, 4096, .inl bf)), (qu, .inl (cI, 4096, .inl gx))]) hP hD [0, 1, 2, 3] [] rfl rfl (by decide) (by decide) hk1 hFc hP1 hD1
                generalize H1 = H at hP hS hce ⊢
                have hP : va_P (dC, dI) classes ([(jr, .inr (1, [.ref h0, .int dp, .int (md + 1), .ref qv])), (h0, .inr (8, [.ref qb, .ref qu, .int cx, .int ln, .int (nI n), .int ax, .int px])), (qb, .inl (cB, 4096, .inl bf)), (qu, .inl (cI, 4096, .inl gx))] ++ va_pl ((L ++ [qv])) ((va_up f1 qv (vE 3 0 none none none none 0 none none 0)))) H := hP
                have hD : va_D A ([(jr, .inr (1, [.ref h0, .int dp, .int (md + 1), .ref qv])), (h0, .inr (8, [.ref qb, .ref qu, .int cx, .int ln, .int (nI n), .int ax, .int px])), (qb, .inl (cB, 4096, .inl bf)), (qu, .inl (cI, 4096, .inl gx))] ++ va_pl ((L ++ [qv])) ((va_up f1 qv (vE 3 0 none none none none 0 none none 0)))) := hD
                have hP := plP_pre hP
                have hD := plD_pre hD
                have hkx : ∀ a, E a ≠ 0 → la ≠ some a → (va_up f1 qv (vE 3 0 none none none none 0 none none 0)) a = f a := fun a ha hl9 => (va_up_ne _ _ (hne a ha)).trans (hKX.2 a ha hl9)
                have hno : jV bf n k i = none := jV_lf0 hnb (jL_num0 hn110 hn116 hn102 hn34 (by rw [← h_p21]; exact hw))
                exact vx_out (fun x hx => (hex x hx).elim) hlocks hce hcv hcl (fun t9 ht2 ha => ⟨(ax, cx, px, gx, dp, (md + 1), some qv, (va_up f1 qv (vE 3 0 none none none none 0 none none 0))), ⟨hkx, hno⟩, ⟨hEn, by rw [ht2]; exact hP, va_K.moved ha hK, hD⟩, hS.F ht2⟩) hS.2.2 (by show 1 + (1) ≤ 2 * (n - i) + 4; omega) (by show 10 + (6) ≤ 16 * (n - i) + 40; omega)
              · obtain ⟨⟨hP1, hK1, hD1⟩, hz9⟩ := hB
                rw [ht] at hP1
                rw [ht] at hz9
                refine w_tight (hq0.trans hz9) ?_
                have hq0 := hq0.trans hz9
                obtain ⟨hP, hD⟩ := va_joinQ (wr := []) (w1 := [(jr, .inr (1, [.ref h0, .int dp, .int (md + 1), .ref qv])), (h0, .inr (8, [.ref qb, .ref qu, .int uc, .int ln, .int (nI n), .int (nI p3), .int pl])), (qb, .inl (cB, 4096, .inl bf)), (qu, .inl (cI, 4096, .inl ug))]) hP hD [0, 1, 2, 3] [] rfl rfl (by decide) (by decide) hk1 hFc hP1 hD1
                generalize H1 = H at hP hS hq0 ⊢
                have hP : va_P (dC, dI) classes ([(jr, .inr (1, [.ref h0, .int dp, .int (md + 1), .ref qv])), (h0, .inr (8, [.ref qb, .ref qu, .int uc, .int ln, .int (nI n), .int (nI p3), .int pl])), (qb, .inl (cB, 4096, .inl bf)), (qu, .inl (cI, 4096, .inl ug))] ++ va_pl ((L ++ [qv])) ((va_up f1 qv (vE 3 0 none none none none 0 none none 0)))) H := hP
                have hD : va_D A ([(jr, .inr (1, [.ref h0, .int dp, .int (md + 1), .ref qv])), (h0, .inr (8, [.ref qb, .ref qu, .int uc, .int ln, .int (nI n), .int (nI p3), .int pl])), (qb, .inl (cB, 4096, .inl bf)), (qu, .inl (cI, 4096, .inl ug))] ++ va_pl ((L ++ [qv])) ((va_up f1 qv (vE 3 0 none none none none 0 none none 0)))) := hD
                obtain ⟨hp3, hp4, hjn⟩ := hw
                have hlf : jLeaf bf n (skipB bf n i) = some ((3, nu3, []), p3) := jL_num hn110 hn116 hn102 hn34 (by rw [← h_p21]; exact hjn)
                have hp3 : p21 < p3 := hp3
                have hp4 : p3 ≤ n := hp4
                refine vq_put (D := (dC, dI)) (ci := 9) (v := .long nu3) (ty := .long) (C := R_Value) (T := F_Value) (N := 10) hx hb hts in_Value t_Value t_Value_ok n_Value hown hK hP hD hS hqin (va_up_self _ _ _) rfl 1 (by decide) (hts _ z_316) (fun _ h9 => h9) rfl (by decide +kernel) rfl rfl (Nat.le_of_ble_eq_true rfl) d_JsonReader_value_180 (fun H locs hP hD hS => ?_)
                rw [bx_uu] at hP hD
                have hP : va_P (dC, dI) classes ([(jr, .inr (1, [.ref h0, .int dp, .int (md + 1), .ref qv])), (h0, .inr (8, [.ref qb, .ref qu, .int uc, .int ln, .int (nI n), .int (nI p3), .int pl])), (qb, .inl (cB, 4096, .inl bf)), (qu, .inl (cI, 4096, .inl ug))] ++ va_pl ((L ++ [qv])) ((va_up f1 qv (vE 3 nu3 none none none none 0 none none 0)))) H := hP
                have hD : va_D A ([(jr, .inr (1, [.ref h0, .int dp, .int (md + 1), .ref qv])), (h0, .inr (8, [.ref qb, .ref qu, .int uc, .int ln, .int (nI n), .int (nI p3), .int pl])), (qb, .inl (cB, 4096, .inl bf)), (qu, .inl (cI, 4096, .inl ug))] ++ va_pl ((L ++ [qv])) ((va_up f1 qv (vE 3 nu3 none none none none 0 none none 0)))) := hD
                refine lv_aload_n hx hb d_JsonReader_value_183 rfl (lv_at hl 0 rfl) ?_
                refine lv_aload_n hx hb d_JsonReader_value_184 rfl (lv_at hl 2 rfl) ?_
                refine va_get (D := (dC, dI)) (ci := 1) (v := .int (md + 1)) (C := R_JsonReader) (T := F_JsonReader) (N := 4) hx hb hts in_JsonReader hown hK hP 0 rfl rfl 2 (by decide) (hts _ z_83) (fun _ h9 => h9) rfl d_JsonReader_value_185 ?_
                refine lv_iload_n hx hb d_JsonReader_value_188 rfl (lv_at hl 1 rfl) ?_
                refine lv_isub hx hb d_JsonReader_value_189 ?_
                refine vq_put (D := (dC, dI)) (ci := 9) (v := .int ((md + 1) - md)) (ty := .int) (C := R_Value) (T := F_Value) (N := 10) hx hb hts in_Value t_Value t_Value_ok n_Value hown hK hP hD hS hqin (va_up_self _ _ _) rfl 9 (by decide) (hts _ z_339) (fun _ h9 => h9) rfl (by decide +kernel) rfl rfl (Nat.le_of_ble_eq_true rfl) d_JsonReader_value_190 (fun H locs hP hD hS => ?_)
                rw [bx_uu] at hP hD
                have hP : va_P (dC, dI) classes ([(jr, .inr (1, [.ref h0, .int dp, .int (md + 1), .ref qv])), (h0, .inr (8, [.ref qb, .ref qu, .int uc, .int ln, .int (nI n), .int (nI p3), .int pl])), (qb, .inl (cB, 4096, .inl bf)), (qu, .inl (cI, 4096, .inl ug))] ++ va_pl ((L ++ [qv])) ((va_up f1 qv (vE 3 nu3 none none none none 0 none none (((md + 1) - md)))))) H := hP
                have hD : va_D A ([(jr, .inr (1, [.ref h0, .int dp, .int (md + 1), .ref qv])), (h0, .inr (8, [.ref qb, .ref qu, .int uc, .int ln, .int (nI n), .int (nI p3), .int pl])), (qb, .inl (cB, 4096, .inl bf)), (qu, .inl (cI, 4096, .inl ug))] ++ va_pl ((L ++ [qv])) ((va_up f1 qv (vE 3 nu3 none none none none 0 none none (((md + 1) - md)))))) := hD
                refine lv_aload_n hx hb d_JsonReader_value_193 rfl (lv_at hl 2 rfl) ?_
                refine va_get (D := (dC, dI)) (ci := 1) (v := .ref h0) (C := R_JsonReader) (T := F_JsonReader) (N := 4) hx hb hts in_JsonReader hown hK hP 0 rfl rfl 0 (by decide) (hts _ w_80) (fun _ h9 => h9) rfl d_JsonReader_value_194 ?_
                have hPc := hP.sub (ws' := [(h0, .inr (8, [.ref qb, .ref qu, .int uc, .int ln, .int (nI n), .int (nI p3), .int pl])), (qb, .inl (cB, 4096, .inl bf))]) [1, 2] rfl
                have hDc := hD.sub (ws' := [(h0, .inr (8, [.ref qb, .ref qu, .int uc, .int ln, .int (nI n), .int (nI p3), .int pl])), (qb, .inl (cB, 4096, .inl bf))]) [1, 2] (by decide) rfl
                have hFc := va_free (wc := [(h0, .inr (8, [.ref qb, .ref qu, .int uc, .int ln, .int (nI n), .int (nI p3), .int pl])), (qb, .inl (cB, 4096, .inl bf))]) hD hS hA [1, 2] rfl
                have hKc := hK.sub (tys' := [(cB, .byte)]) [0] rfl
                refine va_callv (va_runV (As := []) (rest := []) ⟨hx, hb, hml, hown, hts⟩ (c_Tape_skipBlanks l dC dI cB h0 qb H (.ref qu) uc ln pl bf n p3 hn0 (by omega)) (cwV 0 hts (gt_V (own := R_JsonReader) (C := R_Tape) (i := 42) (y := y_Tape_skipBlanks) i_Tape_skipBlanks z_298 z_299 z_300 w_2) rfl rfl rfl (by decide +kernel) ⟨by show 0 + 1 ≤ 16 + 3 * k; omega, by show 8 + (2 + 11) + (0) ≤ 350 + 90 * k; omega⟩) ⟨mp_blind, va_recv hK hP (ci := 8) (q0 := 1) rfl rfl, fun U hU hW => ⟨rfl, hU, by rw [hU]; exact hPc, va_K.moved hW.alike hKc, hDc.weaken (fun _ _ _ _ => trivial)⟩⟩ rfl rfl hl.1 rfl (lv_room (Nat.le_of_ble_eq_true rfl)) d_JsonReader_value_197 ⟨by show 1 + (0) ≤ 2 * (n - i) + 4; omega, by show 10 + (0) ≤ 16 * (n - i) + 40; omega⟩) hS (fun q _ h => hFc q h) hFc (fun _u t9 H1 locs ht hvm hw hB hz1 hk1 hS => ?_)
                obtain ⟨hP1, hK1, hD1⟩ := hB
                rw [ht] at hP1
                obtain ⟨hP, hD⟩ := va_joinQ (wr := [(jr, .inr (1, [.ref h0, .int dp, .int (md + 1), .ref qv])), (qu, .inl (cI, 4096, .inl ug))]) (w1 := [(h0, .inr (8, [.ref qb, .ref qu, .int uc, .int ln, .int (nI n), .int (nI (skipB bf n p3)), .int pl])), (qb, .inl (cB, 4096, .inl bf))]) hP hD [1, 2] [0, 3] rfl rfl (by decide) (by decide) hk1 hFc hP1 hD1
                generalize H1 = H at hP hS ⊢
                have hP : va_P (dC, dI) classes ([(jr, .inr (1, [.ref h0, .int dp, .int (md + 1), .ref qv])), (qu, .inl (cI, 4096, .inl ug)), (h0, .inr (8, [.ref qb, .ref qu, .int uc, .int ln, .int (nI n), .int (nI (skipB bf n p3)), .int pl])), (qb, .inl (cB, 4096, .inl bf))] ++ va_pl ((L ++ [qv])) ((va_up f1 qv (vE 3 nu3 none none none none 0 none none (((md + 1) - md)))))) H := hP
                have hD : va_D A ([(jr, .inr (1, [.ref h0, .int dp, .int (md + 1), .ref qv])), (qu, .inl (cI, 4096, .inl ug)), (h0, .inr (8, [.ref qb, .ref qu, .int uc, .int ln, .int (nI n), .int (nI (skipB bf n p3)), .int pl])), (qb, .inl (cB, 4096, .inl bf))] ++ va_pl ((L ++ [qv])) ((va_up f1 qv (vE 3 nu3 none none none none 0 none none (((md + 1) - md)))))) := hD
                have hP := hP.part (cx := [(jr, .inr (1, [.ref h0, .int dp, .int (md + 1), .ref qv])), (h0, .inr (8, [.ref qb, .ref qu, .int uc, .int ln, .int (nI n), .int (nI (skipB bf n p3)), .int pl])), (qb, .inl (cB, 4096, .inl bf)), (qu, .inl (cI, 4096, .inl ug))]) [0, 2, 3, 1] rfl
                have hD := hD.part (cx := [(jr, .inr (1, [.ref h0, .int dp, .int (md + 1), .ref qv])), (h0, .inr (8, [.ref qb, .ref qu, .int uc, .int ln, .int (nI n), .int (nI (skipB bf n p3)), .int pl])), (qb, .inl (cB, 4096, .inl bf)), (qu, .inl (cI, 4096, .inl ug))]) [0, 2, 3, 1] (by decide) rfl
                obtain ⟨p33, h_p33⟩ : ∃ z, z = skipB bf n p3 := ⟨_, rfl⟩
                have hb_p33 := skip_b (f := bf) (show p3 ≤ n by omega)
                rw [← h_p33] at hP hD hb_p33
                have hP : va_P (dC, dI) classes ([(jr, .inr (1, [.ref h0, .int dp, .int (md + 1), .ref qv])), (h0, .inr (8, [.ref qb, .ref qu, .int uc, .int ln, .int (nI n), .int (nI p33), .int pl])), (qb, .inl (cB, 4096, .inl bf)), (qu, .inl (cI, 4096, .inl ug))] ++ va_pl ((L ++ [qv])) ((va_up f1 qv (vE 3 nu3 none none none none 0 none none (((md + 1) - md)))))) H := hP
                have hD : va_D A ([(jr, .inr (1, [.ref h0, .int dp, .int (md + 1), .ref qv])), (h0, .inr (8, [.ref qb, .ref qu, .int uc, .int ln, .int (nI n), .int (nI p33), .int pl])), (qb, .inl (cB, 4096, .inl bf)), (qu, .inl (cI, 4096, .inl ug))] ++ va_pl ((L ++ [qv])) ((va_up f1 qv (vE 3 nu3 none none none none 0 none none (((md + 1) - md)))))) := hD
                refine lv_aload_n hx hb d_JsonReader_value_200 rfl (lv_at hl 0 rfl) ?_
                have hO2 := PO.upd1 (kd := 3) (nu := nu3) (tx := none) (me := none) (pa := none) (na := none) (ix := 0) (nm := none) (no := none) (sp := (((md + 1) - md))) hO1 hq1 (fun b h => (nomatch h)) (fun b h => (nomatch h)) (fun b h => (nomatch h)) (fun b h => (nomatch h)) (fun b h => (nomatch h)) (fun b h => (nomatch h))
                have hJ : JP cI cV E lv L f la i n qv p33 [qv] (va_up E1 qv 2) (va_up f1 qv (vE 3 nu3 none none none none 0 none none (((md + 1) - md)))) qv := JP.mk hqz hE1 hKX hO2 EX.rf (fun a ha => by rw [ha]; decide) (fun a _ hn9 => va_up_ne _ _ hn9) (Or.inl hq1) (Or.inl rfl) (va_up_self _ _ _) (fun h => absurd h (by decide)) (fun h => absurd h (by decide)) (by omega) (by omega)
                have hlaz : ∀ z, la = some z → E z ≠ 0 ∧ z ≠ qv := fun z hz => ⟨by rcases hla z hz with h9 | h9 | h9 <;> omega, fun e => by rcases hla z hz with h9 | h9 | h9 <;> (rw [e, hqz] at h9; omega)⟩
                have hOBJ : OBJ E (va_up E1 qv 2) la (va_up f1 qv (vE 3 nu3 none none none none 0 none none (((md + 1) - md)))) qv qv 1 k (jleaf k (3, nu3, [])) := OBJ.leaf (va_up_self _ _ _) rfl (show (3 : Nat) < 5 by decide) (fun h9 => rfl) (fun h9 => absurd h9 (show ¬ (3 : Nat) = 4 by decide)) (by rw [show ((((md + 1) - md)) : Int32) = (md + 1 + nI 0) - md by rw [show nI 0 = 0 from rfl, Int32.add_zero]]; exact md_span) hqz (Or.inl (va_up_self _ _ _)) (fun z hz => by rw [va_up_ne _ _ (hlaz z hz).2]; exact hlk1 z hz)
                have hJFx : JFx bf n k d i p33 D dp (jleaf k (3, nu3, [])) := JFx.leaf hnb hlf (show (3 : Nat) < 5 by decide) (by first | exact h_p33 | (rw [← h_p21]; exact h_p33)) hDd hdp
                refine w_same (fun hq => ?_)
                refine W.widen (k := 2 * (n - i) + 4) (n := 16 * (n - i) + 40) (by show 1 ≤ 2 * (n - i) + 4; omega) (by show 10 ≤ 16 * (n - i) + 40; omega) ?_
                refine vx_ret ?_
                exact W.aret (v := .ref qv) hx hb hr (Or.inl ⟨_, rfl⟩) (Or.inr ⟨_, rfl⟩) (fun t9 ht hW => ⟨⟨(qv, p33, [qv], va_up E1 qv 2, (va_up f1 qv (vE 3 nu3 none none none none 0 none none (((md + 1) - md)))), uc, ug, dp, (md + 1), qv), qv, rfl, ⟨hJ, ⟨_, 1, hJFx, hOBJ, rfl⟩⟩, ⟨by rw [ht]; exact hP, va_K.moved hW.alike hK, hD⟩, by rw [ht]; exact ⟨hq.mono (by show 1 ≤ 2 * (p33 - i); omega) (by show 10 ≤ 16 * (p33 - i) - 1; omega), rfl⟩⟩, hS.F ht⟩) hS.2.2 d_JsonReader_value_201
theorem c_JVall (l : Launch) (hl9 : l.stackTraces = false) (K : Nat → Nat × Nat) (dC : Nat → ClassId) (dI : Nat → Nat → Nat) (cI cV : ClassId) (lv : Nat → Nat) (cB : ClassId) (h0 qb qu : Nat) (ln : Int32) (bf : Nat → Int32) (n jr : Nat) (hn0 : n ≤ 4096) (hbf : byR bf) : ∀ k d, d + k = 32 → JVC l K dC dI cI cV lv cB h0 qb qu ln bf n jr k d := by
  intro k
  induction k with
  | zero => exact fun d hd => c_JV l hl9 K dC dI cI cV lv cB h0 qb qu ln bf n jr hn0 hbf 0 d hd (fun h => absurd h (by omega))
  | succ k ih => exact fun d hd => c_JV l hl9 K dC dI cI cV lv cB h0 qb qu ln bf n jr hn0 hbf (k + 1) d hd (fun _ => ih (d + 1) (by omega))
