theorem z_530 : (.methodLink "QueryBench" 82 ⟨"QueryBench$QueryReader", "whole", "()LQueryBench$Query;"⟩ : Cond) ∈ gtbl := gt_in 530 (by decide +kernel) (by decide +kernel)
theorem z_531 : (.instanceMethod ⟨"QueryBench$QueryReader", "whole", "()LQueryBench$Query;"⟩ : Cond) ∈ gtbl := gt_in 531 (by decide +kernel) (by decide +kernel)
theorem z_532 : (.selects "QueryBench$QueryReader" ⟨"QueryBench$QueryReader", "whole", "()LQueryBench$Query;"⟩ ⟨"QueryBench$QueryReader", "whole", "()LQueryBench$Query;"⟩ : Cond) ∈ gtbl := gt_in 532 (by decide +kernel) (by decide +kernel)
theorem z_549 : (.fieldLink "QueryBench" 90 "QueryBench$Query" "singular" "Z" : Cond) ∈ gtbl := gt_in 549 (by decide +kernel) (by decide +kernel)
set_option maxHeartbeats 4000000 in
set_option maxRecDepth 100000 in
/-- QueryReader.whole -/
theorem c_QR_whole (l : Launch) (hl9 : l.stackTraces = false) (K : Nat → Nat × Nat) (dC : Nat → ClassId) (dI : Nat → Nat → Nat) (cI cV : ClassId) (cB : ClassId) (h0 qb qu : Nat) (ln : Int32) (bf : Nat → Int32) (n qr : Nat) (hn0 : n ≤ 4096) (hbf : byR bf) (sz : Heap) (E lv : Nat → Nat) (L : List Nat) (f : Nat → va_E) (i : Nat) (uc pl : Int32) (ug : Nat → Int32) (hO : PO cI cV E lv L f) (hin : i ≤ n) (hi0 : i = 0) (o0 : Int32) : vx_Met l y_QueryReader_whole (k_QueryReader_whole :: gtbl) ({ frames := 220, cells := 8 * (n - i) + 6, slots := 64 * (n - i) + 60, locals := 6600 }) (va_Pc [.ref qr] (ml K dC dI ([(qr, .inr (5, [.ref h0, .int o0])), (h0, .inr (8, [.ref qb, .ref qu, .int uc, .int ln, .int (nI n), .int (nI i), .int pl])), (qb, .inl (cB, 4096, .inl bf)), (qu, .inl (cI, 4096, .inl ug))] ++ va_pl L f) [(cB, .byte), (cI, .int), (cV, .object "QueryBench$Value")] sz)) (va_Qr (fun (u : Nat × Nat × List Nat × (Nat → Nat) × (Nat → va_E) × Int32 × (Nat → Int32)) => QPn cI cV E L f i n sz.size 7 80 1 u.1 u.2.1 u.2.2.1 u.2.2.2.1 u.2.2.2.2.1 ∧ ∃ m : QT, jQD bf n = some (sgQ (u.2.2.2.2.1 u.1), m) ∧ DNx QD 0 E u.2.2.2.1 u.2.2.2.2.1 u.1 m) (fun u a9 t9 => mz dC dI ([(qr, .inr (5, [.ref h0, .int (nI 0)])), (h0, .inr (8, [.ref qb, .ref qu, .int u.2.2.2.2.2.1, .int ln, .int (nI n), .int (nI u.2.1), .int pl])), (qb, .inl (cB, 4096, .inl bf)), (qu, .inl (cI, 4096, .inl u.2.2.2.2.2.2))] ++ va_pl ((L ++ u.2.2.1)) u.2.2.2.2.1) [(cB, .byte), (cI, .int), (cV, .object "QueryBench$Value")] (va_A ([(qr, .inr (5, [.ref h0, .int o0])), (h0, .inr (8, [.ref qb, .ref qu, .int uc, .int ln, .int (nI n), .int (nI i), .int pl])), (qb, .inl (cB, 4096, .inl bf)), (qu, .inl (cI, 4096, .inl ug))] ++ va_pl L f) sz.size) t9 ∧ szk sz t9.heap (8 * (u.2.1 - i)) (64 * (u.2.1 - i)) ∧ a9 = u.1) (va_A ([(qr, .inr (5, [.ref h0, .int o0])), (h0, .inr (8, [.ref qb, .ref qu, .int uc, .int ln, .int (nI n), .int (nI i), .int pl])), (qb, .inl (cB, 4096, .inl bf)), (qu, .inl (cI, 4096, .inl ug))] ++ va_pl L f) sz.size)) (vx_X (fun (u : Int32 × Int32 × Int32 × (Nat → Int32) × Int32) => jQD bf n = none) (fun En u t9 => En = UOX ∧ mz dC dI ([(qr, .inr (5, [.ref h0, .int u.2.2.2.2])), (h0, .inr (8, [.ref qb, .ref qu, .int u.2.1, .int ln, .int (nI n), .int u.1, .int u.2.2.1])), (qb, .inl (cB, 4096, .inl bf)), (qu, .inl (cI, 4096, .inl u.2.2.2.1))] ++ va_pl L f) [(cB, .byte), (cI, .int), (cV, .object "QueryBench$Value")] (va_A ([(qr, .inr (5, [.ref h0, .int o0])), (h0, .inr (8, [.ref qb, .ref qu, .int uc, .int ln, .int (nI n), .int (nI i), .int pl])), (qb, .inl (cB, 4096, .inl bf)), (qu, .inl (cI, 4096, .inl ug))] ++ va_pl L f) sz.size) t9) (va_A ([(qr, .inr (5, [.ref h0, .int o0])), (h0, .inr (8, [.ref qb, .ref qu, .int uc, .int ln, .int (nI n), .int (nI i), .int pl])), (qb, .inl (cB, 4096, .inl bf)), (qu, .inl (cI, 4096, .inl ug))] ++ va_pl L f) sz.size)) (8 * (n - i) + 6) (64 * (n - i) + 60) (va_A ([(qr, .inr (5, [.ref h0, .int o0])), (h0, .inr (8, [.ref qb, .ref qu, .int uc, .int ln, .int (nI n), .int (nI i), .int pl])), (qb, .inl (cB, 4096, .inl bf)), (qu, .inl (cI, 4096, .inl ug))] ++ va_pl L f) sz.size) := by
  refine vx_ofW (cc := b_QueryReader_whole) (maxL := 2) (ret := (some (.object "QueryBench$Query"))) (by decide) rfl ?_
  intro p e s m args below meth c s₁ B hml hex hv
  obtain ⟨rfl, ⟨hsz, hP, hK, hD0⟩, hN, hZ, hC, hV⟩ := hv
  have hx := B.exec
  have hb := B.bytes
  have hr := B.returns
  have hts0 := atoms_spec (ws := k_QueryReader_whole :: gtbl) B.pre
  have hts := fun w h => hts0 w (List.mem_cons_of_mem _ h)
  have hown : s.vm.findClass R_QueryReader = some m.cls := findClass_of_methodNamed B.named
  have hlocks := B.notSynchronized
  subst hsz
  have hD := hD0.self (sz := s.heap.size)
  generalize hAe : va_A ([(qr, .inr (5, [.ref h0, .int o0])), (h0, .inr (8, [.ref qb, .ref qu, .int uc, .int ln, .int (nI n), .int (nI i), .int pl])), (qb, .inl (cB, 4096, .inl bf)), (qu, .inl (cI, 4096, .inl ug))] ++ va_pl L f) s.heap.size = A at hD hZ hC ⊢
  have hA : ∀ q : Nat, s.heap.size ≤ q → A q := fun q h => by rw [← hAe]; exact Or.inr h
  have hS : va_S A s.heap s.heap [] := va_S.rf
  have hP : va_P (dC, dI) classes ([(qr, .inr (5, [.ref h0, .int o0])), (h0, .inr (8, [.ref qb, .ref qu, .int uc, .int ln, .int (nI n), .int (nI i), .int pl])), (qb, .inl (cB, 4096, .inl bf)), (qu, .inl (cI, 4096, .inl ug))] ++ va_pl L f) s.heap := hP
  have hl := lv_entry ([.ref qr]) (n := 2) (Nat.le_of_ble_eq_true rfl)
  rw [lg_entry_eq]
  generalize (lg_sl ([.ref qr]) ++ List.replicate (2 - (lg_sl ([.ref qr])).length) Slot.unset).toArray = ls at hl ⊢
  have hl : lv_has ls 2 [(0, .ref qr)] := hl
  have hLz : ∀ a, a ∈ L → a < s.heap.size := fun a ha => va_pl_lt hP ha
  have hi9 : i ≤ n := by omega
  have hP : va_P (dC, dI) classes ([(qr, .inr (5, [.ref h0, .int o0])), (h0, .inr (8, [.ref qb, .ref qu, .int uc, .int ln, .int (nI n), .int (nI i), .int pl])), (qb, .inl (cB, 4096, .inl bf)), (qu, .inl (cI, 4096, .inl ug))] ++ va_pl (L ++ []) f) s.heap := by rw [List.append_nil]; exact hP
  have hD : va_D A ([(qr, .inr (5, [.ref h0, .int o0])), (h0, .inr (8, [.ref qb, .ref qu, .int uc, .int ln, .int (nI n), .int (nI i), .int pl])), (qb, .inl (cB, 4096, .inl bf)), (qu, .inl (cI, 4096, .inl ug))] ++ va_pl (L ++ []) f) := by rw [List.append_nil]; exact hD
  have hG0 : QG cI cV E lv L f i n i s.heap.size [] E lv f := QG.rf hO hi9
  refine lv_aload_n hx hb d_QueryReader_whole_0 rfl (lv_at hl 0 rfl) ?_
  refine lv_iconst (v := 0) hx hb d_QueryReader_whole_1 (by decide) ?_
  refine va_put (D := (dC, dI)) (ci := 5) (v := .int 0) (ty := .int) (C := R_QueryReader) (T := F_QueryReader) (N := 2) hx hb hts in_QueryReader t_QueryReader t_QueryReader_ok n_QueryReader hown hK hP hD hS 0 rfl rfl 1 (by decide) (hts _ z_101) (fun _ h9 => h9) rfl (by decide +kernel) rfl rfl (Nat.le_of_ble_eq_true rfl) d_QueryReader_whole_2 (fun H locs hP hD hS => ?_)
  have hP : va_P (dC, dI) classes ([(qr, .inr (5, [.ref h0, .int 0])), (h0, .inr (8, [.ref qb, .ref qu, .int uc, .int ln, .int (nI n), .int (nI i), .int pl])), (qb, .inl (cB, 4096, .inl bf)), (qu, .inl (cI, 4096, .inl ug))] ++ va_pl ((L ++ [])) f) H := hP
  have hD : va_D A ([(qr, .inr (5, [.ref h0, .int 0])), (h0, .inr (8, [.ref qb, .ref qu, .int uc, .int ln, .int (nI n), .int (nI i), .int pl])), (qb, .inl (cB, 4096, .inl bf)), (qu, .inl (cI, 4096, .inl ug))] ++ va_pl ((L ++ [])) f) := hD
  have hP : va_P (dC, dI) classes ([(qr, .inr (5, [.ref h0, .int (nI 0)])), (h0, .inr (8, [.ref qb, .ref qu, .int uc, .int ln, .int (nI n), .int (nI i), .int pl])), (qb, .inl (cB, 4096, .inl bf)), (qu, .inl (cI, 4096, .inl ug))] ++ va_pl ((L ++ [])) f) H := hP
  have hD : va_D A ([(qr, .inr (5, [.ref h0, .int (nI 0)])), (h0, .inr (8, [.ref qb, .ref qu, .int uc, .int ln, .int (nI n), .int (nI i), .int pl])), (qb, .inl (cB, 4096, .inl bf)), (qu, .inl (cI, 4096, .inl ug))] ++ va_pl ((L ++ [])) f) := hD
  refine lv_aload_n hx hb d_QueryReader_whole_5 rfl (lv_at hl 0 rfl) ?_
  refine va_get (D := (dC, dI)) (ci := 5) (v := .ref h0) (C := R_QueryReader) (T := F_QueryReader) (N := 2) hx hb hts in_QueryReader hown hK hP 0 rfl rfl 0 (by decide) (hts _ w_100) (fun _ h9 => h9) rfl d_QueryReader_whole_6 ?_
  have hPc := hP.sub (ws' := [(h0, .inr (8, [.ref qb, .ref qu, .int uc, .int ln, .int (nI n), .int (nI i), .int pl])), (qb, .inl (cB, 4096, .inl bf))]) [1, 2] rfl
  have hDc := hD.sub (ws' := [(h0, .inr (8, [.ref qb, .ref qu, .int uc, .int ln, .int (nI n), .int (nI i), .int pl])), (qb, .inl (cB, 4096, .inl bf))]) [1, 2] (by decide) rfl
  have hFc := va_free (wc := [(h0, .inr (8, [.ref qb, .ref qu, .int uc, .int ln, .int (nI n), .int (nI i), .int pl])), (qb, .inl (cB, 4096, .inl bf))]) hD hS hA [1, 2] rfl
  have hKc := hK.sub (tys' := [(cB, .byte)]) [0] rfl
  refine va_calli (va_runV (As := []) (rest := []) ⟨hx, hb, hml, hown, hts⟩ (c_Tape_here l dC dI cB h0 qb H (.ref qu) uc ln pl bf n i hn0 (by omega)) (cwV 0 hts (gt_V (own := R_QueryReader) (C := R_Tape) (i := 19) (y := y_Tape_here) i_Tape_here z_534 w_363 w_364 w_2) rfl rfl rfl (by decide +kernel) ⟨by show 0 + 1 ≤ 220; omega, by show 8 + (1 + 11) + (0) ≤ 6600; omega⟩) ⟨mp_blind, va_recv hK hP (ci := 8) (q0 := 1) rfl rfl, fun U hU hW => ⟨rfl, hU, by rw [hU]; exact hPc, va_K.moved hW.alike hKc, hDc.weaken (fun _ _ _ _ => trivial)⟩⟩ rfl rfl hl.1 rfl (lv_room (Nat.le_of_ble_eq_true rfl)) d_QueryReader_whole_9 ⟨by show 0 + (0) ≤ 8 * (n - i) + 6; omega, by show 0 + (0) ≤ 64 * (n - i) + 60; omega⟩) hS (fun q _ h => hFc q h) hFc (fun h21 _u t9 H1 locs ht hvm hw hB hz1 hk1 hS => ?_)
  obtain ⟨hP1, hK1, hD1⟩ := hB
  rw [ht] at hP1
  obtain ⟨hP, hD⟩ := va_joinQ (wr := [(qr, .inr (5, [.ref h0, .int (nI 0)])), (qu, .inl (cI, 4096, .inl ug))]) (w1 := [(h0, .inr (8, [.ref qb, .ref qu, .int uc, .int ln, .int (nI n), .int (nI i), .int pl])), (qb, .inl (cB, 4096, .inl bf))]) hP hD [1, 2] [0, 3] rfl rfl (by decide) (by decide) hk1 hFc hP1 hD1
  generalize H1 = H at hP hS ⊢
  have hP : va_P (dC, dI) classes ([(qr, .inr (5, [.ref h0, .int (nI 0)])), (qu, .inl (cI, 4096, .inl ug)), (h0, .inr (8, [.ref qb, .ref qu, .int uc, .int ln, .int (nI n), .int (nI i), .int pl])), (qb, .inl (cB, 4096, .inl bf))] ++ va_pl ((L ++ [])) f) H := hP
  have hD : va_D A ([(qr, .inr (5, [.ref h0, .int (nI 0)])), (qu, .inl (cI, 4096, .inl ug)), (h0, .inr (8, [.ref qb, .ref qu, .int uc, .int ln, .int (nI n), .int (nI i), .int pl])), (qb, .inl (cB, 4096, .inl bf))] ++ va_pl ((L ++ [])) f) := hD
  have hP := hP.part (cx := [(qr, .inr (5, [.ref h0, .int (nI 0)])), (h0, .inr (8, [.ref qb, .ref qu, .int uc, .int ln, .int (nI n), .int (nI i), .int pl])), (qb, .inl (cB, 4096, .inl bf)), (qu, .inl (cI, 4096, .inl ug))]) [0, 2, 3, 1] rfl
  have hD := hD.part (cx := [(qr, .inr (5, [.ref h0, .int (nI 0)])), (h0, .inr (8, [.ref qb, .ref qu, .int uc, .int ln, .int (nI n), .int (nI i), .int pl])), (qb, .inl (cB, 4096, .inl bf)), (qu, .inl (cI, 4096, .inl ug))]) [0, 2, 3, 1] (by decide) rfl
  have h_h21 : h21 = hereV bf n i := hw
  refine lv_bipush (v := 36) hx hb d_QueryReader_whole_12 (by decide) ?_
  refine lv_icmp_eq (tgt := 31) hx hb d_QueryReader_whole_14 (by decide) (fun c14 => ?_) (fun c14 => ?_)
  · have h36 : hereV bf n 0 = 36 := by rw [← hi0]; exact h_h21.symm.trans c14
    have hlt : i < n := here_lc (h_h21.symm.trans c14) (by decide)
    refine lv_aload_n hx hb d_QueryReader_whole_31 rfl (lv_at hl 0 rfl) ?_
    refine lv_iconst (v := 0) hx hb d_QueryReader_whole_32 (by decide) ?_
    have hG22 := hG0.mv (show i ≤ i by omega) (show i ≤ n by omega)
    have hzz22 : s.heap.size ≤ H.size := hS.1
    have hPc := hP.part (cx := [(qr, .inr (5, [.ref h0, .int (nI 0)])), (h0, .inr (8, [.ref qb, .ref qu, .int uc, .int ln, .int (nI n), .int (nI i), .int pl])), (qb, .inl (cB, 4096, .inl bf)), (qu, .inl (cI, 4096, .inl ug))]) [0, 1, 2, 3] rfl
    have hDc := hD.part (cx := [(qr, .inr (5, [.ref h0, .int (nI 0)])), (h0, .inr (8, [.ref qb, .ref qu, .int uc, .int ln, .int (nI n), .int (nI i), .int pl])), (qb, .inl (cB, 4096, .inl bf)), (qu, .inl (cI, 4096, .inl ug))]) [0, 1, 2, 3] (by decide) rfl
    have hFc := va_freeP (cx := [(qr, .inr (5, [.ref h0, .int (nI 0)])), (h0, .inr (8, [.ref qb, .ref qu, .int uc, .int ln, .int (nI n), .int (nI i), .int pl])), (qb, .inl (cB, 4096, .inl bf)), (qu, .inl (cI, 4096, .inl ug))]) hD hS hA [0, 1, 2, 3] rfl
    have hKc := hK.sub (tys' := [(cB, .byte), (cI, .int), (cV, .object "QueryBench$Value")]) [0, 1, 2] rfl
    refine w_same (fun hq0 => ?_)
    refine vx_callr (vx_runV (As := [.int 0]) (rest := []) ⟨hx, hb, hml, hown, hts⟩ (((c_QLall l hl9 K dC dI cI cV cB h0 qb qu ln bf n qr hn0 hbf 16 0 rfl).2.1) H E lv (L ++ []) f i uc pl ug hG22.po (by omega)) (cwV 1 hts (gt_V (own := R_QueryReader) (C := R_QueryReader) (i := 32) (y := y_QueryReader_query) i_QueryReader_query z_536 z_538 (gt_sel (y := y_QueryReader_query) (n := 2) (by decide +kernel)) w_4) rfl rfl rfl (by decide +kernel) ⟨by show 12 * (16 - 0) + 14 + 1 ≤ 220; omega, by show 8 + (5 + 11) + (360 * (16 - 0) + 420) ≤ 6600; omega⟩) ⟨ml_blind, va_recv hK hP (ci := 5) (q0 := 0) rfl rfl, fun U hU hW => ⟨rfl, ⟨hU, by rw [hU]; exact hPc, va_K.moved hW.alike hKc, hDc.weaken (fun _ _ _ _ => trivial)⟩, hN.warm hW, by rw [hU]; exact ZX.moved' hW.alike (ZX.narrow' (ZX.kept' hZ hS.2.1) hFc), by rw [hU]; exact CE.call hC hS.2.1 hFc hW, va_AO.moved hW.alike hV⟩⟩ rfl rfl hl.1 rfl (lv_room (Nat.le_of_ble_eq_true rfl)) d_QueryReader_whole_33 ⟨by show 0 + (8 * (n - i) + 4) ≤ 8 * (n - i) + 6; omega, by show 0 + (64 * (n - i) + 50) ≤ 64 * (n - i) + 60; omega⟩) hS (fun q _ h => hFc q h) hFc (fun q _ h => hFc q h) (fun En ce q9 ⟨ax, cx, px, gx, ox⟩ t9 H1 locs ht hvm hw hB hz1 hk1 hS hce hcv hcl => ?_) (fun ⟨w22, p22, N22, E22, f22, uc22, ug22⟩ v22 t9 H1 locs ht hvm hw hB hz1 hk1 hS => ?_)
    · obtain ⟨hEn, hP1, hK1, hD1⟩ := hB
      rw [ht] at hP1
      obtain ⟨hP, hD⟩ := va_joinP (wr := []) (rx := [(qr, .inr (5, [.ref h0, .int ox])), (h0, .inr (8, [.ref qb, .ref qu, .int cx, .int ln, .int (nI n), .int ax, .int px])), (qb, .inl (cB, 4096, .inl bf)), (qu, .inl (cI, 4096, .inl gx))]) (pl1 := va_pl ((L ++ [])) f) hP hD [0, 1, 2, 3] [] rfl rfl (by decide) (by decide) hk1 hFc hP1 hD1
      generalize H1 = H at hP hS hce ⊢
      have hP : va_P (dC, dI) classes ([(qr, .inr (5, [.ref h0, .int ox])), (h0, .inr (8, [.ref qb, .ref qu, .int cx, .int ln, .int (nI n), .int ax, .int px])), (qb, .inl (cB, 4096, .inl bf)), (qu, .inl (cI, 4096, .inl gx))] ++ va_pl ((L ++ [])) f) H := hP
      have hD : va_D A ([(qr, .inr (5, [.ref h0, .int ox])), (h0, .inr (8, [.ref qb, .ref qu, .int cx, .int ln, .int (nI n), .int ax, .int px])), (qb, .inl (cB, 4096, .inl bf)), (qu, .inl (cI, 4096, .inl gx))] ++ va_pl ((L ++ [])) f) := hD
      have hP := plP_cut (hP.part (cx := [(qr, .inr (5, [.ref h0, .int ox])), (h0, .inr (8, [.ref qb, .ref qu, .int cx, .int ln, .int (nI n), .int ax, .int px])), (qb, .inl (cB, 4096, .inl bf)), (qu, .inl (cI, 4096, .inl gx))]) [0, 1, 2, 3] rfl) hG22.on
      have hD := plD_cut (hD.part (cx := [(qr, .inr (5, [.ref h0, .int ox])), (h0, .inr (8, [.ref qb, .ref qu, .int cx, .int ln, .int (nI n), .int ax, .int px])), (qb, .inl (cB, 4096, .inl bf)), (qu, .inl (cI, 4096, .inl gx))]) [0, 1, 2, 3] (by decide) rfl) hG22.on
      have hno : (fun _ : Nat => jQD bf n) i = none := jQD_1 h36 (by rw [← hi0]; exact hw)
      exact vx_out (fun x hx => (hex x hx).elim) hlocks hce hcv hcl (fun t9 ht2 ha => ⟨(ax, cx, px, gx, ox), hno, ⟨hEn, by rw [ht2]; exact hP, va_K.moved ha hK, hD⟩, hS.F ht2⟩) hS.2.2 (by show 0 + (8 * (n - i) + 4) ≤ 8 * (n - i) + 6; omega) (by show 0 + (64 * (n - i) + 50) ≤ 64 * (n - i) + 60; omega)
    · obtain ⟨⟨hP1, hK1, hD1⟩, hz9, ha9⟩ := hB
      rw [ht] at hP1
      rw [ht] at hz9
      have ha9 : v22 = w22 := ha9
      subst ha9
      have hq0 : szk s.heap H1 (0 + (8 * (p22 - i) + 0 - 7)) (0 + (64 * (p22 - i) + 0 - 60)) := (hq0.trans hz9).mono (Nat.le_refl _) (Nat.le_refl _)
      refine w_tight hq0 ?_
      obtain ⟨hP, hD⟩ := va_joinP (wr := []) (rx := [(qr, .inr (5, [.ref h0, .int (nI 0)])), (h0, .inr (8, [.ref qb, .ref qu, .int uc22, .int ln, .int (nI n), .int (nI p22), .int pl])), (qb, .inl (cB, 4096, .inl bf)), (qu, .inl (cI, 4096, .inl ug22))]) (pl1 := va_pl (((L ++ []) ++ N22)) f22) hP hD [0, 1, 2, 3] [] rfl rfl (by decide) (by decide) hk1 hFc hP1 hD1
      generalize H1 = H at hP hS hq0 ⊢
      have hP : va_P (dC, dI) classes ([(qr, .inr (5, [.ref h0, .int (nI 0)])), (h0, .inr (8, [.ref qb, .ref qu, .int uc22, .int ln, .int (nI n), .int (nI p22), .int pl])), (qb, .inl (cB, 4096, .inl bf)), (qu, .inl (cI, 4096, .inl ug22))] ++ va_pl (((L ++ []) ++ N22)) f22) H := hP
      have hD : va_D A ([(qr, .inr (5, [.ref h0, .int (nI 0)])), (h0, .inr (8, [.ref qb, .ref qu, .int uc22, .int ln, .int (nI n), .int (nI p22), .int pl])), (qb, .inl (cB, 4096, .inl bf)), (qu, .inl (cI, 4096, .inl ug22))] ++ va_pl (((L ++ []) ++ N22)) f22) := hD
      obtain ⟨hw, m22, hf22, hd22⟩ := hw
      have hf22 : (DDd bf n 16).2.2 i = some (p22, sgQ (f22 v22), m22) := hf22
      have hd22 : DNx QD 0 E E22 f22 v22 m22 := hd22
      have hQ22 : QPn cI cV E (L ++ []) f i n _ 7 (5 * (16 - 0)) 1 v22 p22 N22 E22 f22 := hw
      obtain ⟨lv22, hg22, hlv22⟩ := hQ22.x lv hG22.po _ (Nat.le_refl _)
      have hex22 := hg22.ex
      have hge22 := hg22.ge hQ22.new (by rw [hQ22.so]; decide)
      have hkp22 : KPx E E22 f f22 := KPx.of hg22 hG22.po
      have hnv22 : E v22 = 0 := hQ22.new
      have hsv22 : ¬ E22 v22 = 0 := by rw [hQ22.so]; decide
      have hG22 := hG22.tr hg22 hzz22
      obtain ⟨ha22, hb22⟩ := hQ22.num
      have ha22 : i + 1 ≤ p22 := ha22
      have hb22 : p22 ≤ n := hb22
      rw [List.append_assoc] at hP hD
      have hP : va_P (dC, dI) classes ([(qr, .inr (5, [.ref h0, .int (nI 0)])), (h0, .inr (8, [.ref qb, .ref qu, .int uc22, .int ln, .int (nI n), .int (nI p22), .int pl])), (qb, .inl (cB, 4096, .inl bf)), (qu, .inl (cI, 4096, .inl ug22))] ++ va_pl ((L ++ ([] ++ N22))) f22) H := hP
      have hD : va_D A ([(qr, .inr (5, [.ref h0, .int (nI 0)])), (h0, .inr (8, [.ref qb, .ref qu, .int uc22, .int ln, .int (nI n), .int (nI p22), .int pl])), (qb, .inl (cB, 4096, .inl bf)), (qu, .inl (cI, 4096, .inl ug22))] ++ va_pl ((L ++ ([] ++ N22))) f22) := hD
      rw [hi0] at hf22
      refine lv_astore_n (lv' := [(1, .ref v22), (0, .ref qr)]) hx hb d_QueryReader_whole_36 rfl hl (by decide) rfl (fun ls hl => ?_)
      refine lv_aload_n hx hb d_QueryReader_whole_37 rfl (lv_at hl 1 rfl) ?_
      refine va_get (D := (dC, dI)) (ci := 5) (v := .ref h0) (C := R_QueryReader) (T := F_QueryReader) (N := 2) hx hb hts in_QueryReader hown hK hP 0 rfl rfl 0 (by decide) (hts _ w_100) (fun _ h9 => h9) rfl d_QueryReader_whole_38 ?_
      refine va_get (D := (dC, dI)) (ci := 8) (v := .int (nI p22)) (C := R_Tape) (T := F_Tape) (N := 7) hx hb hts in_Tape hown hK hP 1 rfl rfl 5 (by decide) (hts _ z_53) (fun _ h9 => h9) rfl d_QueryReader_whole_41 ?_
      refine lv_aload_n hx hb d_QueryReader_whole_44 rfl (lv_at hl 1 rfl) ?_
      refine va_get (D := (dC, dI)) (ci := 5) (v := .ref h0) (C := R_QueryReader) (T := F_QueryReader) (N := 2) hx hb hts in_QueryReader hown hK hP 0 rfl rfl 0 (by decide) (hts _ w_100) (fun _ h9 => h9) rfl d_QueryReader_whole_45 ?_
      refine va_get (D := (dC, dI)) (ci := 8) (v := .int (nI n)) (C := R_Tape) (T := F_Tape) (N := 7) hx hb hts in_Tape hown hK hP 1 rfl rfl 4 (by decide) (hts _ z_50) (fun _ h9 => h9) rfl d_QueryReader_whole_48 ?_
      refine lv_icmp_ge (tgt := 75) hx hb d_QueryReader_whole_51 (by decide) (fun c51 => ?_) (fun c51 => ?_)
      · have hjq : jQD bf n = some (sgQ (f22 v22), m22) := jQD_ok h36 hf22 (by rw [nI_leI (by omega) (by omega)] at c51; omega)
        refine lv_aload_n hx hb d_QueryReader_whole_75 rfl (lv_at hl 0 rfl) ?_
        have hQr : QPn cI cV E L f i n s.heap.size 7 80 1 v22 p22 (([] ++ N22)) E22 f22 := ((hQ22.up (by omega) (by omega) hzz22 (by omega) (by omega)).mv (by omega) (by omega))
        refine w_same (fun hq => ?_)
        refine W.widen (k := 8 * (n - i) + 6) (n := 64 * (n - i) + 60) (by show (0 + (8 * (p22 - i) + 0 - 7)) ≤ 8 * (n - i) + 6; omega) (by show (0 + (64 * (p22 - i) + 0 - 60)) ≤ 64 * (n - i) + 60; omega) ?_
        refine vx_ret ?_
        exact W.aret (v := .ref v22) hx hb hr (Or.inl ⟨_, rfl⟩) (Or.inr ⟨_, rfl⟩) (fun t9 ht hW => ⟨⟨(v22, p22, ([] ++ N22), E22, f22, uc22, ug22), v22, rfl, ⟨hQr, _, hjq, hd22⟩, ⟨by rw [ht]; exact hP, va_K.moved hW.alike hK, hD⟩, by rw [ht]; exact ⟨hq.mono (by show (0 + (8 * (p22 - i) + 0 - 7)) ≤ 8 * (p22 - i); omega) (by show (0 + (64 * (p22 - i) + 0 - 60)) ≤ 64 * (p22 - i); omega), rfl⟩⟩, hS.F ht⟩) hS.2.2 d_QueryReader_whole_76
      · refine lv_aload_n hx hb d_QueryReader_whole_54 rfl (lv_at hl 1 rfl) ?_
        refine va_get (D := (dC, dI)) (ci := 5) (v := .ref h0) (C := R_QueryReader) (T := F_QueryReader) (N := 2) hx hb hts in_QueryReader hown hK hP 0 rfl rfl 0 (by decide) (hts _ w_100) (fun _ h9 => h9) rfl d_QueryReader_whole_55 ?_
        have hPc := hP.sub (ws' := [(h0, .inr (8, [.ref qb, .ref qu, .int uc22, .int ln, .int (nI n), .int (nI p22), .int pl])), (qb, .inl (cB, 4096, .inl bf))]) [1, 2] rfl
        have hDc := hD.sub (ws' := [(h0, .inr (8, [.ref qb, .ref qu, .int uc22, .int ln, .int (nI n), .int (nI p22), .int pl])), (qb, .inl (cB, 4096, .inl bf))]) [1, 2] (by decide) rfl
        have hFc := va_free (wc := [(h0, .inr (8, [.ref qb, .ref qu, .int uc22, .int ln, .int (nI n), .int (nI p22), .int pl])), (qb, .inl (cB, 4096, .inl bf))]) hD hS hA [1, 2] rfl
        have hKc := hK.sub (tys' := [(cB, .byte)]) [0] rfl
        refine va_callv (va_runV (As := []) (rest := []) ⟨hx, hb, hml, hown, hts⟩ (c_Tape_skipBlanks l dC dI cB h0 qb H (.ref qu) uc22 ln pl bf n p22 hn0 (by omega)) (cwV 0 hts (gt_V (own := R_QueryReader) (C := R_Tape) (i := 39) (y := y_Tape_skipBlanks) i_Tape_skipBlanks z_563 z_299 z_300 w_2) rfl rfl rfl (by decide +kernel) ⟨by show 0 + 1 ≤ 220; omega, by show 8 + (2 + 11) + (0) ≤ 6600; omega⟩) ⟨mp_blind, va_recv hK hP (ci := 8) (q0 := 1) rfl rfl, fun U hU hW => ⟨rfl, hU, by rw [hU]; exact hPc, va_K.moved hW.alike hKc, hDc.weaken (fun _ _ _ _ => trivial)⟩⟩ rfl rfl hl.1 rfl (lv_room (Nat.le_of_ble_eq_true rfl)) d_QueryReader_whole_58 ⟨by show (0 + (8 * (p22 - i) + 0 - 7)) + (0) ≤ 8 * (n - i) + 6; omega, by show (0 + (64 * (p22 - i) + 0 - 60)) + (0) ≤ 64 * (n - i) + 60; omega⟩) hS (fun q _ h => hFc q h) hFc (fun _u t9 H1 locs ht hvm hw hB hz1 hk1 hS => ?_)
        obtain ⟨hP1, hK1, hD1⟩ := hB
        rw [ht] at hP1
        obtain ⟨hP, hD⟩ := va_joinQ (wr := [(qr, .inr (5, [.ref h0, .int (nI 0)])), (qu, .inl (cI, 4096, .inl ug22))]) (w1 := [(h0, .inr (8, [.ref qb, .ref qu, .int uc22, .int ln, .int (nI n), .int (nI (skipB bf n p22)), .int pl])), (qb, .inl (cB, 4096, .inl bf))]) hP hD [1, 2] [0, 3] rfl rfl (by decide) (by decide) hk1 hFc hP1 hD1
        generalize H1 = H at hP hS ⊢
        have hP : va_P (dC, dI) classes ([(qr, .inr (5, [.ref h0, .int (nI 0)])), (qu, .inl (cI, 4096, .inl ug22)), (h0, .inr (8, [.ref qb, .ref qu, .int uc22, .int ln, .int (nI n), .int (nI (skipB bf n p22)), .int pl])), (qb, .inl (cB, 4096, .inl bf))] ++ va_pl ((L ++ ([] ++ N22))) f22) H := hP
        have hD : va_D A ([(qr, .inr (5, [.ref h0, .int (nI 0)])), (qu, .inl (cI, 4096, .inl ug22)), (h0, .inr (8, [.ref qb, .ref qu, .int uc22, .int ln, .int (nI n), .int (nI (skipB bf n p22)), .int pl])), (qb, .inl (cB, 4096, .inl bf))] ++ va_pl ((L ++ ([] ++ N22))) f22) := hD
        have hP := hP.part (cx := [(qr, .inr (5, [.ref h0, .int (nI 0)])), (h0, .inr (8, [.ref qb, .ref qu, .int uc22, .int ln, .int (nI n), .int (nI (skipB bf n p22)), .int pl])), (qb, .inl (cB, 4096, .inl bf)), (qu, .inl (cI, 4096, .inl ug22))]) [0, 2, 3, 1] rfl
        have hD := hD.part (cx := [(qr, .inr (5, [.ref h0, .int (nI 0)])), (h0, .inr (8, [.ref qb, .ref qu, .int uc22, .int ln, .int (nI n), .int (nI (skipB bf n p22)), .int pl])), (qb, .inl (cB, 4096, .inl bf)), (qu, .inl (cI, 4096, .inl ug22))]) [0, 2, 3, 1] (by decide) rfl
        obtain ⟨p23, h_p23⟩ : ∃ z, z = skipB bf n p22 := ⟨_, rfl⟩
        have hb_p23 := skip_b (f := bf) (show p22 ≤ n by omega)
        rw [← h_p23] at hP hD hb_p23
        have hP : va_P (dC, dI) classes ([(qr, .inr (5, [.ref h0, .int (nI 0)])), (h0, .inr (8, [.ref qb, .ref qu, .int uc22, .int ln, .int (nI n), .int (nI p23), .int pl])), (qb, .inl (cB, 4096, .inl bf)), (qu, .inl (cI, 4096, .inl ug22))] ++ va_pl ((L ++ ([] ++ N22))) f22) H := hP
        have hD : va_D A ([(qr, .inr (5, [.ref h0, .int (nI 0)])), (h0, .inr (8, [.ref qb, .ref qu, .int uc22, .int ln, .int (nI n), .int (nI p23), .int pl])), (qb, .inl (cB, 4096, .inl bf)), (qu, .inl (cI, 4096, .inl ug22))] ++ va_pl ((L ++ ([] ++ N22))) f22) := hD
        refine lv_aload_n hx hb d_QueryReader_whole_61 rfl (lv_at hl 1 rfl) ?_
        refine va_get (D := (dC, dI)) (ci := 5) (v := .ref h0) (C := R_QueryReader) (T := F_QueryReader) (N := 2) hx hb hts in_QueryReader hown hK hP 0 rfl rfl 0 (by decide) (hts _ w_100) (fun _ h9 => h9) rfl d_QueryReader_whole_62 ?_
        refine lv_aload_n hx hb d_QueryReader_whole_65 rfl (lv_at hl 1 rfl) ?_
        refine va_get (D := (dC, dI)) (ci := 5) (v := .ref h0) (C := R_QueryReader) (T := F_QueryReader) (N := 2) hx hb hts in_QueryReader hown hK hP 0 rfl rfl 0 (by decide) (hts _ w_100) (fun _ h9 => h9) rfl d_QueryReader_whole_66 ?_
        refine va_get (D := (dC, dI)) (ci := 8) (v := .int (nI p23)) (C := R_Tape) (T := F_Tape) (N := 7) hx hb hts in_Tape hown hK hP 1 rfl rfl 5 (by decide) (hts _ z_53) (fun _ h9 => h9) rfl d_QueryReader_whole_69 ?_
        have hPc := hP.sub (ws' := [(h0, .inr (8, [.ref qb, .ref qu, .int uc22, .int ln, .int (nI n), .int (nI p23), .int pl])), (qb, .inl (cB, 4096, .inl bf))]) [1, 2] rfl
        have hDc := hD.sub (ws' := [(h0, .inr (8, [.ref qb, .ref qu, .int uc22, .int ln, .int (nI n), .int (nI p23), .int pl])), (qb, .inl (cB, 4096, .inl bf))]) [1, 2] (by decide) rfl
        have hFc := va_free (wc := [(h0, .inr (8, [.ref qb, .ref qu, .int uc22, .int ln, .int (nI n), .int (nI p23), .int pl])), (qb, .inl (cB, 4096, .inl bf))]) hD hS hA [1, 2] rfl
        have hKc := hK.sub (tys' := [(cB, .byte)]) [0] rfl
        refine w_same (fun hq0 => ?_)
        refine vx_callv (vx_runV (As := [.int (nI p23)]) (rest := []) ⟨hx, hb, hml, hown, hts⟩ (c_Tape_fail l hl9 dC dI cB h0 qb H (.ref qu) uc22 ln (nI n) (nI p23) pl bf ((nI p23))) (cwV 1 hts (gt_V (own := R_QueryReader) (C := R_Tape) (i := 28) (y := y_Tape_fail) i_Tape_fail z_535 w_371 w_372 w_2) rfl rfl rfl (by decide +kernel) ⟨by show 8 + 1 ≤ 220; omega, by show 8 + (2 + 11) + (110) ≤ 6600; omega⟩) ⟨mx_blind, va_recv hK hP (ci := 8) (q0 := 1) rfl rfl, fun U hU hW => ⟨rfl, ⟨hU, by rw [hU]; exact hPc, va_K.moved hW.alike hKc, hDc.weaken (fun _ _ _ _ => trivial)⟩, hN.warm hW, by rw [hU]; exact ZX.moved' hW.alike (ZX.narrow' (ZX.kept' hZ hS.2.1) hFc)⟩⟩ rfl rfl hl.1 rfl (lv_room (Nat.le_of_ble_eq_true rfl)) d_QueryReader_whole_72 ⟨by show (0 + (8 * (p22 - i) + 0 - 7)) + (1) ≤ 8 * (n - i) + 6; omega, by show (0 + (64 * (p22 - i) + 0 - 60)) + (6) ≤ 64 * (n - i) + 60; omega⟩) hS (fun q _ h => hFc q h) hFc (fun q _ h => hFc q h) (fun En ce q9 _u t9 H1 locs ht hvm hw hB hz1 hk1 hS hce hcv hcl => ?_) (fun _u t9 H1 locs ht hvm hw hB hz1 hk1 hS => ?_)
        · obtain ⟨hEn, hP1, hK1, hD1⟩ := hB
          rw [ht] at hP1
          obtain ⟨hP, hD⟩ := va_joinQ (wr := [(qr, .inr (5, [.ref h0, .int (nI 0)])), (qu, .inl (cI, 4096, .inl ug22))]) (w1 := [(h0, .inr (8, [.ref qb, .ref qu, .int uc22, .int ln, .int (nI n), .int (nI p23), .int (nI p23)])), (qb, .inl (cB, 4096, .inl bf))]) hP hD [1, 2] [0, 3] rfl rfl (by decide) (by decide) hk1 hFc hP1 hD1
          generalize H1 = H at hP hS hce ⊢
          have hP : va_P (dC, dI) classes ([(qr, .inr (5, [.ref h0, .int (nI 0)])), (qu, .inl (cI, 4096, .inl ug22)), (h0, .inr (8, [.ref qb, .ref qu, .int uc22, .int ln, .int (nI n), .int (nI p23), .int (nI p23)])), (qb, .inl (cB, 4096, .inl bf))] ++ va_pl ((L ++ ([] ++ N22))) f22) H := hP
          have hD : va_D A ([(qr, .inr (5, [.ref h0, .int (nI 0)])), (qu, .inl (cI, 4096, .inl ug22)), (h0, .inr (8, [.ref qb, .ref qu, .int uc22, .int ln, .int (nI n), .int (nI p23), .int (nI p23)])), (qb, .inl (cB, 4096, .inl bf))] ++ va_pl ((L ++ ([] ++ N22))) f22) := hD
          have hP := hP.part (cx := [(qr, .inr (5, [.ref h0, .int (nI 0)])), (h0, .inr (8, [.ref qb, .ref qu, .int uc22, .int ln, .int (nI n), .int (nI p23), .int (nI p23)])), (qb, .inl (cB, 4096, .inl bf)), (qu, .inl (cI, 4096, .inl ug22))]) [0, 2, 3, 1] rfl
          have hD := hD.part (cx := [(qr, .inr (5, [.ref h0, .int (nI 0)])), (h0, .inr (8, [.ref qb, .ref qu, .int uc22, .int ln, .int (nI n), .int (nI p23), .int (nI p23)])), (qb, .inl (cB, 4096, .inl bf)), (qu, .inl (cI, 4096, .inl ug22))]) [0, 2, 3, 1] (by decide) rfl
          have hP := plP_cut (hP.part (cx := [(qr, .inr (5, [.ref h0, .int (nI 0)])), (h0, .inr (8, [.ref qb, .ref qu, .int uc22, .int ln, .int (nI n), .int (nI p23), .int (nI p23)])), (qb, .inl (cB, 4096, .inl bf)), (qu, .inl (cI, 4096, .inl ug22))]) [0, 1, 2, 3] rfl) hG22.on
          have hD := plD_cut (hD.part (cx := [(qr, .inr (5, [.ref h0, .int (nI 0)])), (h0, .inr (8, [.ref qb, .ref qu, .int uc22, .int ln, .int (nI n), .int (nI p23), .int (nI p23)])), (qb, .inl (cB, 4096, .inl bf)), (qu, .inl (cI, 4096, .inl ug22))]) [0, 1, 2, 3] (by decide) rfl) hG22.on
          have hno : (fun _ : Nat => jQD bf n) i = none := jQD_2 h36 hf22 (by rw [nI_leI (by omega) (by omega)] at c51; omega)
          exact vx_out (fun x hx => (hex x hx).elim) hlocks hce hcv hcl (fun t9 ht2 ha => ⟨(nI p23, uc22, (nI p23), ug22, nI 0), hno, ⟨hEn, by rw [ht2]; exact hP, va_K.moved ha hK, hD⟩, hS.F ht2⟩) hS.2.2 (by show (0 + (8 * (p22 - i) + 0 - 7)) + (1) ≤ 8 * (n - i) + 6; omega) (by show (0 + (64 * (p22 - i) + 0 - 60)) + (6) ≤ 64 * (n - i) + 60; omega)
        · obtain ⟨⟨hP1, hK1, hD1⟩, hz9⟩ := hB
          rw [ht] at hP1
          rw [ht] at hz9
          refine w_tight (hq0.trans hz9) ?_
          have hq0 := hq0.trans hz9
          obtain ⟨hP, hD⟩ := va_joinQ (wr := [(qr, .inr (5, [.ref h0, .int (nI 0)])), (qu, .inl (cI, 4096, .inl ug22))]) (w1 := [(h0, .inr (8, [.ref qb, .ref qu, .int uc22, .int ln, .int (nI n), .int (nI p23), .int pl])), (qb, .inl (cB, 4096, .inl bf))]) hP hD [1, 2] [0, 3] rfl rfl (by decide) (by decide) hk1 hFc hP1 hD1
          generalize H1 = H at hP hS hq0 ⊢
          have hP : va_P (dC, dI) classes ([(qr, .inr (5, [.ref h0, .int (nI 0)])), (qu, .inl (cI, 4096, .inl ug22)), (h0, .inr (8, [.ref qb, .ref qu, .int uc22, .int ln, .int (nI n), .int (nI p23), .int pl])), (qb, .inl (cB, 4096, .inl bf))] ++ va_pl ((L ++ ([] ++ N22))) f22) H := hP
          have hD : va_D A ([(qr, .inr (5, [.ref h0, .int (nI 0)])), (qu, .inl (cI, 4096, .inl ug22)), (h0, .inr (8, [.ref qb, .ref qu, .int uc22, .int ln, .int (nI n), .int (nI p23), .int pl])), (qb, .inl (cB, 4096, .inl bf))] ++ va_pl ((L ++ ([] ++ N22))) f22) := hD
          have hP := hP.part (cx := [(qr, .inr (5, [.ref h0, .int (nI 0)])), (h0, .inr (8, [.ref qb, .ref qu, .int uc22, .int ln, .int (nI n), .int (nI p23), .int pl])), (qb, .inl (cB, 4096, .inl bf)), (qu, .inl (cI, 4096, .inl ug22))]) [0, 2, 3, 1] rfl
          have hD := hD.part (cx := [(qr, .inr (5, [.ref h0, .int (nI 0)])), (h0, .inr (8, [.ref qb, .ref qu, .int uc22, .int ln, .int (nI n), .int (nI p23), .int pl])), (qb, .inl (cB, 4096, .inl bf)), (qu, .inl (cI, 4096, .inl ug22))]) [0, 2, 3, 1] (by decide) rfl
          exact hw.elim
  · refine lv_aload_n hx hb d_QueryReader_whole_17 rfl (lv_at hl 0 rfl) ?_
    refine va_get (D := (dC, dI)) (ci := 5) (v := .ref h0) (C := R_QueryReader) (T := F_QueryReader) (N := 2) hx hb hts in_QueryReader hown hK hP 0 rfl rfl 0 (by decide) (hts _ w_100) (fun _ h9 => h9) rfl d_QueryReader_whole_18 ?_
    refine lv_aload_n hx hb d_QueryReader_whole_21 rfl (lv_at hl 0 rfl) ?_
    refine va_get (D := (dC, dI)) (ci := 5) (v := .ref h0) (C := R_QueryReader) (T := F_QueryReader) (N := 2) hx hb hts in_QueryReader hown hK hP 0 rfl rfl 0 (by decide) (hts _ w_100) (fun _ h9 => h9) rfl d_QueryReader_whole_22 ?_
    refine va_get (D := (dC, dI)) (ci := 8) (v := .int (nI i)) (C := R_Tape) (T := F_Tape) (N := 7) hx hb hts in_Tape hown hK hP 1 rfl rfl 5 (by decide) (hts _ z_53) (fun _ h9 => h9) rfl d_QueryReader_whole_25 ?_
    have hPc := hP.sub (ws' := [(h0, .inr (8, [.ref qb, .ref qu, .int uc, .int ln, .int (nI n), .int (nI i), .int pl])), (qb, .inl (cB, 4096, .inl bf))]) [1, 2] rfl
    have hDc := hD.sub (ws' := [(h0, .inr (8, [.ref qb, .ref qu, .int uc, .int ln, .int (nI n), .int (nI i), .int pl])), (qb, .inl (cB, 4096, .inl bf))]) [1, 2] (by decide) rfl
    have hFc := va_free (wc := [(h0, .inr (8, [.ref qb, .ref qu, .int uc, .int ln, .int (nI n), .int (nI i), .int pl])), (qb, .inl (cB, 4096, .inl bf))]) hD hS hA [1, 2] rfl
    have hKc := hK.sub (tys' := [(cB, .byte)]) [0] rfl
    refine w_same (fun hq0 => ?_)
    refine vx_callv (vx_runV (As := [.int (nI i)]) (rest := []) ⟨hx, hb, hml, hown, hts⟩ (c_Tape_fail l hl9 dC dI cB h0 qb H (.ref qu) uc ln (nI n) (nI i) pl bf ((nI i))) (cwV 1 hts (gt_V (own := R_QueryReader) (C := R_Tape) (i := 28) (y := y_Tape_fail) i_Tape_fail z_535 w_371 w_372 w_2) rfl rfl rfl (by decide +kernel) ⟨by show 8 + 1 ≤ 220; omega, by show 8 + (2 + 11) + (110) ≤ 6600; omega⟩) ⟨mx_blind, va_recv hK hP (ci := 8) (q0 := 1) rfl rfl, fun U hU hW => ⟨rfl, ⟨hU, by rw [hU]; exact hPc, va_K.moved hW.alike hKc, hDc.weaken (fun _ _ _ _ => trivial)⟩, hN.warm hW, by rw [hU]; exact ZX.moved' hW.alike (ZX.narrow' (ZX.kept' hZ hS.2.1) hFc)⟩⟩ rfl rfl hl.1 rfl (lv_room (Nat.le_of_ble_eq_true rfl)) d_QueryReader_whole_28 ⟨by show 0 + (1) ≤ 8 * (n - i) + 6; omega, by show 0 + (6) ≤ 64 * (n - i) + 60; omega⟩) hS (fun q _ h => hFc q h) hFc (fun q _ h => hFc q h) (fun En ce q9 _u t9 H1 locs ht hvm hw hB hz1 hk1 hS hce hcv hcl => ?_) (fun _u t9 H1 locs ht hvm hw hB hz1 hk1 hS => ?_)
    · obtain ⟨hEn, hP1, hK1, hD1⟩ := hB
      rw [ht] at hP1
      obtain ⟨hP, hD⟩ := va_joinQ (wr := [(qr, .inr (5, [.ref h0, .int (nI 0)])), (qu, .inl (cI, 4096, .inl ug))]) (w1 := [(h0, .inr (8, [.ref qb, .ref qu, .int uc, .int ln, .int (nI n), .int (nI i), .int (nI i)])), (qb, .inl (cB, 4096, .inl bf))]) hP hD [1, 2] [0, 3] rfl rfl (by decide) (by decide) hk1 hFc hP1 hD1
      generalize H1 = H at hP hS hce ⊢
      have hP : va_P (dC, dI) classes ([(qr, .inr (5, [.ref h0, .int (nI 0)])), (qu, .inl (cI, 4096, .inl ug)), (h0, .inr (8, [.ref qb, .ref qu, .int uc, .int ln, .int (nI n), .int (nI i), .int (nI i)])), (qb, .inl (cB, 4096, .inl bf))] ++ va_pl ((L ++ [])) f) H := hP
      have hD : va_D A ([(qr, .inr (5, [.ref h0, .int (nI 0)])), (qu, .inl (cI, 4096, .inl ug)), (h0, .inr (8, [.ref qb, .ref qu, .int uc, .int ln, .int (nI n), .int (nI i), .int (nI i)])), (qb, .inl (cB, 4096, .inl bf))] ++ va_pl ((L ++ [])) f) := hD
      have hP := hP.part (cx := [(qr, .inr (5, [.ref h0, .int (nI 0)])), (h0, .inr (8, [.ref qb, .ref qu, .int uc, .int ln, .int (nI n), .int (nI i), .int (nI i)])), (qb, .inl (cB, 4096, .inl bf)), (qu, .inl (cI, 4096, .inl ug))]) [0, 2, 3, 1] rfl
      have hD := hD.part (cx := [(qr, .inr (5, [.ref h0, .int (nI 0)])), (h0, .inr (8, [.ref qb, .ref qu, .int uc, .int ln, .int (nI n), .int (nI i), .int (nI i)])), (qb, .inl (cB, 4096, .inl bf)), (qu, .inl (cI, 4096, .inl ug))]) [0, 2, 3, 1] (by decide) rfl
      have hP := plP_cut (hP.part (cx := [(qr, .inr (5, [.ref h0, .int (nI 0)])), (h0, .inr (8, [.ref qb, .ref qu, .int uc, .int ln, .int (nI n), .int (nI i), .int (nI i)])), (qb, .inl (cB, 4096, .inl bf)), (qu, .inl (cI, 4096, .inl ug))]) [0, 1, 2, 3] rfl) hG0.on
      have hD := plD_cut (hD.part (cx := [(qr, .inr (5, [.ref h0, .int (nI 0)])), (h0, .inr (8, [.ref qb, .ref qu, .int uc, .int ln, .int (nI n), .int (nI i), .int (nI i)])), (qb, .inl (cB, 4096, .inl bf)), (qu, .inl (cI, 4096, .inl ug))]) [0, 1, 2, 3] (by decide) rfl) hG0.on
      have hno : (fun _ : Nat => jQD bf n) i = none := jQD_0 (fun q => c14 (h_h21.trans (by rw [hi0]; exact q)))
      exact vx_out (fun x hx => (hex x hx).elim) hlocks hce hcv hcl (fun t9 ht2 ha => ⟨(nI i, uc, (nI i), ug, nI 0), hno, ⟨hEn, by rw [ht2]; exact hP, va_K.moved ha hK, hD⟩, hS.F ht2⟩) hS.2.2 (by show 0 + (1) ≤ 8 * (n - i) + 6; omega) (by show 0 + (6) ≤ 64 * (n - i) + 60; omega)
    · obtain ⟨⟨hP1, hK1, hD1⟩, hz9⟩ := hB
      rw [ht] at hP1
      rw [ht] at hz9
      refine w_tight (hq0.trans hz9) ?_
      have hq0 := hq0.trans hz9
      obtain ⟨hP, hD⟩ := va_joinQ (wr := [(qr, .inr (5, [.ref h0, .int (nI 0)])), (qu, .inl (cI, 4096, .inl ug))]) (w1 := [(h0, .inr (8, [.ref qb, .ref qu, .int uc, .int ln, .int (nI n), .int (nI i), .int pl])), (qb, .inl (cB, 4096, .inl bf))]) hP hD [1, 2] [0, 3] rfl rfl (by decide) (by decide) hk1 hFc hP1 hD1
      generalize H1 = H at hP hS hq0 ⊢
      have hP : va_P (dC, dI) classes ([(qr, .inr (5, [.ref h0, .int (nI 0)])), (qu, .inl (cI, 4096, .inl ug)), (h0, .inr (8, [.ref qb, .ref qu, .int uc, .int ln, .int (nI n), .int (nI i), .int pl])), (qb, .inl (cB, 4096, .inl bf))] ++ va_pl ((L ++ [])) f) H := hP
      have hD : va_D A ([(qr, .inr (5, [.ref h0, .int (nI 0)])), (qu, .inl (cI, 4096, .inl ug)), (h0, .inr (8, [.ref qb, .ref qu, .int uc, .int ln, .int (nI n), .int (nI i), .int pl])), (qb, .inl (cB, 4096, .inl bf))] ++ va_pl ((L ++ [])) f) := hD
      have hP := hP.part (cx := [(qr, .inr (5, [.ref h0, .int (nI 0)])), (h0, .inr (8, [.ref qb, .ref qu, .int uc, .int ln, .int (nI n), .int (nI i), .int pl])), (qb, .inl (cB, 4096, .inl bf)), (qu, .inl (cI, 4096, .inl ug))]) [0, 2, 3, 1] rfl
      have hD := hD.part (cx := [(qr, .inr (5, [.ref h0, .int (nI 0)])), (h0, .inr (8, [.ref qb, .ref qu, .int uc, .int ln, .int (nI n), .int (nI i), .int pl])), (qb, .inl (cB, 4096, .inl bf)), (qu, .inl (cI, 4096, .inl ug))]) [0, 2, 3, 1] (by decide) rfl
      exact hw.elim
abbrev b_QB_read : ByteArray := prog_1_method_5_code
def y_QB_read : MethodName := ⟨"QueryBench", "read", "()I"⟩
abbrev k_QB_read : Cond := .code y_QB_read b_QB_read 1 (some .int)
theorem i_QB_read : k_QB_read ∈ gtbl := gt_in 529 (by decide +kernel) (by decide +kernel)
theorem d_QB_read_0 : decode b_QB_read 0 = .ok (.aload_n 0, 1) := by decide +kernel
theorem d_QB_read_1 : decode b_QB_read 1 = .ok (.getfield 10, 3) := by decide +kernel
theorem d_QB_read_4 : decode b_QB_read 4 = .ok (.invokevirtual 72, 3) := by decide +kernel
theorem d_QB_read_7 : decode b_QB_read 7 = .ok (.aload_n 0, 1) := by decide +kernel
theorem d_QB_read_8 : decode b_QB_read 8 = .ok (.aload_n 0, 1) := by decide +kernel
theorem d_QB_read_9 : decode b_QB_read 9 = .ok (.getfield 28, 3) := by decide +kernel
theorem d_QB_read_12 : decode b_QB_read 12 = .ok (.invokevirtual 82, 3) := by decide +kernel
theorem d_QB_read_15 : decode b_QB_read 15 = .ok (.putfield 86, 3) := by decide +kernel
theorem d_QB_read_18 : decode b_QB_read 18 = .ok (.aload_n 0, 1) := by decide +kernel
theorem d_QB_read_19 : decode b_QB_read 19 = .ok (.getfield 86, 3) := by decide +kernel
theorem d_QB_read_22 : decode b_QB_read 22 = .ok (.getfield 90, 3) := by decide +kernel
theorem d_QB_read_25 : decode b_QB_read 25 = .ok (.ifCond .eq 7, 3) := by decide +kernel
theorem d_QB_read_28 : decode b_QB_read 28 = .ok (.iconst 1, 1) := by decide +kernel
theorem d_QB_read_29 : decode b_QB_read 29 = .ok (.goto 4, 3) := by decide +kernel
theorem d_QB_read_32 : decode b_QB_read 32 = .ok (.iconst 0, 1) := by decide +kernel
theorem d_QB_read_33 : decode b_QB_read 33 = .ok (.ireturn, 1) := by decide +kernel
theorem QG.zle {cI cV : ClassId} {E lv E1 lv1 : Nat → Nat} {L N : List Nat} {f f1 : Nat → va_E} {i n p z z2 : Nat} (h : QG cI cV E lv L f i n p z2 N E1 lv1 f1) (hz : z ≤ z2) : QG cI cV E lv L f i n p z N E1 lv1 f1 := ⟨h.1, h.2.1, h.2.2.1, h.2.2.2.1, h.2.2.2.2.1, h.2.2.2.2.2.1, h.2.2.2.2.2.2.1, fun a ha hb => Nat.le_trans hz (h.2.2.2.2.2.2.2 a ha hb)⟩
set_option maxHeartbeats 4000000 in
set_option maxRecDepth 100000 in
/-- QueryBench.read -/
theorem c_QB_read (l : Launch) (hl9 : l.stackTraces = false) (K : Nat → Nat × Nat) (dC : Nat → ClassId) (dI : Nat → Nat → Nat) (cI cV : ClassId) (cB : ClassId) (h0 qb qu : Nat) (bf : Nat → Int32) (n qr : Nat) (hn0 : n ≤ 4096) (hbf : byR bf) (sz : Heap) (E lv : Nat → Nat) (L : List Nat) (f : Nat → va_E) (hO : PO cI cV E lv L f) (q0 : Nat) (r1 r3 r4 r5 r6 r7 : Value) (o0 en at0 uc pl : Int32) (ug : Nat → Int32) : vx_Met l y_QB_read (k_QB_read :: gtbl) ({ frames := 230, cells := 8 * n + 6, slots := 64 * n + 60, locals := 6700 }) (va_Pc [.ref q0] (ml K dC dI ([(q0, .inr (11, [.ref h0, r1, .ref qr, r3, r4, r5, r6, r7])), (qr, .inr (5, [.ref h0, .int o0])), (h0, .inr (8, [.ref qb, .ref qu, .int uc, .int (nI n), .int en, .int at0, .int pl])), (qb, .inl (cB, 4096, .inl bf)), (qu, .inl (cI, 4096, .inl ug))] ++ va_pl L f) [(cB, .byte), (cI, .int), (cV, .object "QueryBench$Value")] sz)) (va_Qi (fun (r : Int32) (u : Nat × Nat × List Nat × (Nat → Nat) × (Nat → va_E) × Int32 × (Nat → Int32)) => QPn cI cV E L f 0 n sz.size 7 80 1 u.1 u.2.1 u.2.2.1 u.2.2.2.1 u.2.2.2.2.1 ∧ ∃ (b : Bool) (m : QT), jQD bf n = some (b, m) ∧ r = bI b ∧ DNx QD 0 E u.2.2.2.1 u.2.2.2.2.1 u.1 m) (fun u t9 => mz dC dI ([(q0, .inr (11, [.ref h0, r1, .ref qr, r3, r4, .ref u.1, r6, r7])), (qr, .inr (5, [.ref h0, .int (nI 0)])), (h0, .inr (8, [.ref qb, .ref qu, .int u.2.2.2.2.2.1, .int 0, .int (nI n), .int (nI u.2.1), .int (-1)])), (qb, .inl (cB, 4096, .inl bf)), (qu, .inl (cI, 4096, .inl u.2.2.2.2.2.2))] ++ va_pl ((L ++ u.2.2.1)) u.2.2.2.2.1) [(cB, .byte), (cI, .int), (cV, .object "QueryBench$Value")] (va_A ([(q0, .inr (11, [.ref h0, r1, .ref qr, r3, r4, r5, r6, r7])), (qr, .inr (5, [.ref h0, .int o0])), (h0, .inr (8, [.ref qb, .ref qu, .int uc, .int (nI n), .int en, .int at0, .int pl])), (qb, .inl (cB, 4096, .inl bf)), (qu, .inl (cI, 4096, .inl ug))] ++ va_pl L f) sz.size) t9 ∧ szk sz t9.heap (8 * n) (64 * n)) (va_A ([(q0, .inr (11, [.ref h0, r1, .ref qr, r3, r4, r5, r6, r7])), (qr, .inr (5, [.ref h0, .int o0])), (h0, .inr (8, [.ref qb, .ref qu, .int uc, .int (nI n), .int en, .int at0, .int pl])), (qb, .inl (cB, 4096, .inl bf)), (qu, .inl (cI, 4096, .inl ug))] ++ va_pl L f) sz.size)) (vx_X (fun (u : Int32 × Int32 × Int32 × (Nat → Int32) × Int32) => jQD bf n = none) (fun En u t9 => En = UOX ∧ mz dC dI ([(q0, .inr (11, [.ref h0, r1, .ref qr, r3, r4, r5, r6, r7])), (qr, .inr (5, [.ref h0, .int u.2.2.2.2])), (h0, .inr (8, [.ref qb, .ref qu, .int u.2.1, .int 0, .int (nI n), .int u.1, .int u.2.2.1])), (qb, .inl (cB, 4096, .inl bf)), (qu, .inl (cI, 4096, .inl u.2.2.2.1))] ++ va_pl L f) [(cB, .byte), (cI, .int), (cV, .object "QueryBench$Value")] (va_A ([(q0, .inr (11, [.ref h0, r1, .ref qr, r3, r4, r5, r6, r7])), (qr, .inr (5, [.ref h0, .int o0])), (h0, .inr (8, [.ref qb, .ref qu, .int uc, .int (nI n), .int en, .int at0, .int pl])), (qb, .inl (cB, 4096, .inl bf)), (qu, .inl (cI, 4096, .inl ug))] ++ va_pl L f) sz.size) t9) (va_A ([(q0, .inr (11, [.ref h0, r1, .ref qr, r3, r4, r5, r6, r7])), (qr, .inr (5, [.ref h0, .int o0])), (h0, .inr (8, [.ref qb, .ref qu, .int uc, .int (nI n), .int en, .int at0, .int pl])), (qb, .inl (cB, 4096, .inl bf)), (qu, .inl (cI, 4096, .inl ug))] ++ va_pl L f) sz.size)) (8 * n + 6) (64 * n + 60) (va_A ([(q0, .inr (11, [.ref h0, r1, .ref qr, r3, r4, r5, r6, r7])), (qr, .inr (5, [.ref h0, .int o0])), (h0, .inr (8, [.ref qb, .ref qu, .int uc, .int (nI n), .int en, .int at0, .int pl])), (qb, .inl (cB, 4096, .inl bf)), (qu, .inl (cI, 4096, .inl ug))] ++ va_pl L f) sz.size) := by
  refine vx_ofW (cc := b_QB_read) (maxL := 1) (ret := (some .int)) (by decide) rfl ?_
  intro p e s m args below meth c s₁ B hml hex hv
  obtain ⟨rfl, ⟨hsz, hP, hK, hD0⟩, hN, hZ, hC, hV⟩ := hv
  have hx := B.exec
  have hb := B.bytes
  have hr := B.returns
  have hts0 := atoms_spec (ws := k_QB_read :: gtbl) B.pre
  have hts := fun w h => hts0 w (List.mem_cons_of_mem _ h)
  have hown : s.vm.findClass R_QB = some m.cls := findClass_of_methodNamed B.named
  have hlocks := B.notSynchronized
  subst hsz
  have hD := hD0.self (sz := s.heap.size)
  generalize hAe : va_A ([(q0, .inr (11, [.ref h0, r1, .ref qr, r3, r4, r5, r6, r7])), (qr, .inr (5, [.ref h0, .int o0])), (h0, .inr (8, [.ref qb, .ref qu, .int uc, .int (nI n), .int en, .int at0, .int pl])), (qb, .inl (cB, 4096, .inl bf)), (qu, .inl (cI, 4096, .inl ug))] ++ va_pl L f) s.heap.size = A at hD hZ hC ⊢
  have hA : ∀ q : Nat, s.heap.size ≤ q → A q := fun q h => by rw [← hAe]; exact Or.inr h
  have hS : va_S A s.heap s.heap [] := va_S.rf
  have hP : va_P (dC, dI) classes ([(q0, .inr (11, [.ref h0, r1, .ref qr, r3, r4, r5, r6, r7])), (qr, .inr (5, [.ref h0, .int o0])), (h0, .inr (8, [.ref qb, .ref qu, .int uc, .int (nI n), .int en, .int at0, .int pl])), (qb, .inl (cB, 4096, .inl bf)), (qu, .inl (cI, 4096, .inl ug))] ++ va_pl L f) s.heap := hP
  have hl := lv_entry ([.ref q0]) (n := 1) (Nat.le_of_ble_eq_true rfl)
  rw [lg_entry_eq]
  generalize (lg_sl ([.ref q0]) ++ List.replicate (1 - (lg_sl ([.ref q0])).length) Slot.unset).toArray = ls at hl ⊢
  have hl : lv_has ls 1 [(0, .ref q0)] := hl
  refine lv_aload_n hx hb d_QB_read_0 rfl (lv_at hl 0 rfl) ?_
  refine va_get (D := (dC, dI)) (ci := 11) (v := .ref h0) (C := R_QB) (T := F_QB) (N := 8) hx hb hts in_QB hown hK hP 0 rfl rfl 0 (by decide) (hts _ w_151) (fun _ h9 => h9) rfl d_QB_read_1 ?_
  have hPc := hP.sub (ws' := [(h0, .inr (8, [.ref qb, .ref qu, .int uc, .int (nI n), .int en, .int at0, .int pl])), (qb, .inl (cB, 4096, .inl bf))]) [2, 3] rfl
  have hDc := hD.sub (ws' := [(h0, .inr (8, [.ref qb, .ref qu, .int uc, .int (nI n), .int en, .int at0, .int pl])), (qb, .inl (cB, 4096, .inl bf))]) [2, 3] (by decide) rfl
  have hFc := va_free (wc := [(h0, .inr (8, [.ref qb, .ref qu, .int uc, .int (nI n), .int en, .int at0, .int pl])), (qb, .inl (cB, 4096, .inl bf))]) hD hS hA [2, 3] rfl
  have hKc := hK.sub (tys' := [(cB, .byte)]) [0] rfl
  refine va_callv (va_runV (As := []) (rest := []) ⟨hx, hb, hml, hown, hts⟩ (c_Tape_beginReading l dC dI cB h0 qb s.heap (.ref qu) uc (nI n) en at0 pl bf) (cwV 0 hts (gt_V (own := R_QB) (C := R_Tape) (i := 72) (y := y_Tape_beginReading) i_Tape_beginReading z_286 z_287 z_288 w_2) rfl rfl rfl (by decide +kernel) ⟨by show 0 + 1 ≤ 230; omega, by show 8 + (1 + 11) + 0 ≤ 6700; omega⟩) ⟨mp_blind, va_recv hK hP (ci := 8) (q0 := 2) rfl rfl, fun U hU hW => ⟨rfl, hU, by rw [hU]; exact hPc, va_K.moved hW.alike hKc, hDc.weaken (fun _ _ _ _ => trivial)⟩⟩ rfl rfl hl.1 rfl (lv_room (Nat.le_of_ble_eq_true rfl)) d_QB_read_4 ⟨by show 0 + (0) ≤ 8 * n + 6; omega, by show 0 + (0) ≤ 64 * n + 60; omega⟩) hS (fun q _ h => hFc q h) hFc (fun _u t9 H1 locs ht hvm hw hB hz1 hk1 hS => ?_)
  obtain ⟨hP1, hK1, hD1⟩ := hB
  rw [ht] at hP1
  obtain ⟨hP, hD⟩ := va_joinQ (wr := [(q0, .inr (11, [.ref h0, r1, .ref qr, r3, r4, r5, r6, r7])), (qr, .inr (5, [.ref h0, .int o0])), (qu, .inl (cI, 4096, .inl ug))]) (w1 := [(h0, .inr (8, [.ref qb, .ref qu, .int uc, .int 0, .int (nI n), .int 0, .int (-1)])), (qb, .inl (cB, 4096, .inl bf))]) hP hD [2, 3] [0, 1, 4] rfl rfl (by decide) (by decide) hk1 hFc hP1 hD1
  generalize H1 = H at hP hS ⊢
  have hP : va_P (dC, dI) classes ([(q0, .inr (11, [.ref h0, r1, .ref qr, r3, r4, r5, r6, r7])), (qr, .inr (5, [.ref h0, .int o0])), (qu, .inl (cI, 4096, .inl ug)), (h0, .inr (8, [.ref qb, .ref qu, .int uc, .int 0, .int (nI n), .int 0, .int (-1)])), (qb, .inl (cB, 4096, .inl bf))] ++ va_pl L f) H := hP
  have hD : va_D A ([(q0, .inr (11, [.ref h0, r1, .ref qr, r3, r4, r5, r6, r7])), (qr, .inr (5, [.ref h0, .int o0])), (qu, .inl (cI, 4096, .inl ug)), (h0, .inr (8, [.ref qb, .ref qu, .int uc, .int 0, .int (nI n), .int 0, .int (-1)])), (qb, .inl (cB, 4096, .inl bf))] ++ va_pl L f) := hD
  have hP := hP.part (cx := [(q0, .inr (11, [.ref h0, r1, .ref qr, r3, r4, r5, r6, r7])), (qr, .inr (5, [.ref h0, .int o0])), (h0, .inr (8, [.ref qb, .ref qu, .int uc, .int 0, .int (nI n), .int 0, .int (-1)])), (qb, .inl (cB, 4096, .inl bf)), (qu, .inl (cI, 4096, .inl ug))]) [0, 1, 3, 4, 2] rfl
  have hD := hD.part (cx := [(q0, .inr (11, [.ref h0, r1, .ref qr, r3, r4, r5, r6, r7])), (qr, .inr (5, [.ref h0, .int o0])), (h0, .inr (8, [.ref qb, .ref qu, .int uc, .int 0, .int (nI n), .int 0, .int (-1)])), (qb, .inl (cB, 4096, .inl bf)), (qu, .inl (cI, 4096, .inl ug))]) [0, 1, 3, 4, 2] (by decide) rfl
  have hP : va_P (dC, dI) classes ([(q0, .inr (11, [.ref h0, r1, .ref qr, r3, r4, r5, r6, r7])), (qr, .inr (5, [.ref h0, .int o0])), (h0, .inr (8, [.ref qb, .ref qu, .int uc, .int 0, .int (nI n), .int (nI 0), .int (-1)])), (qb, .inl (cB, 4096, .inl bf)), (qu, .inl (cI, 4096, .inl ug))] ++ va_pl L f) H := hP
  have hD : va_D A ([(q0, .inr (11, [.ref h0, r1, .ref qr, r3, r4, r5, r6, r7])), (qr, .inr (5, [.ref h0, .int o0])), (h0, .inr (8, [.ref qb, .ref qu, .int uc, .int 0, .int (nI n), .int (nI 0), .int (-1)])), (qb, .inl (cB, 4096, .inl bf)), (qu, .inl (cI, 4096, .inl ug))] ++ va_pl L f) := hD
  refine lv_aload_n hx hb d_QB_read_7 rfl (lv_at hl 0 rfl) ?_
  refine lv_aload_n hx hb d_QB_read_8 rfl (lv_at hl 0 rfl) ?_
  refine va_get (D := (dC, dI)) (ci := 11) (v := .ref qr) (C := R_QB) (T := F_QB) (N := 8) hx hb hts in_QB hown hK hP 0 rfl rfl 2 (by decide) (hts _ w_153) (fun _ h9 => h9) rfl d_QB_read_9 ?_
  have hzz : s.heap.size ≤ H.size := hS.1
  have hPc := hP.part (cx := [(qr, .inr (5, [.ref h0, .int o0])), (h0, .inr (8, [.ref qb, .ref qu, .int uc, .int 0, .int (nI n), .int (nI 0), .int (-1)])), (qb, .inl (cB, 4096, .inl bf)), (qu, .inl (cI, 4096, .inl ug))]) [1, 2, 3, 4] rfl
  have hDc := hD.part (cx := [(qr, .inr (5, [.ref h0, .int o0])), (h0, .inr (8, [.ref qb, .ref qu, .int uc, .int 0, .int (nI n), .int (nI 0), .int (-1)])), (qb, .inl (cB, 4096, .inl bf)), (qu, .inl (cI, 4096, .inl ug))]) [1, 2, 3, 4] (by decide) rfl
  have hFc := va_freeP (cx := [(qr, .inr (5, [.ref h0, .int o0])), (h0, .inr (8, [.ref qb, .ref qu, .int uc, .int 0, .int (nI n), .int (nI 0), .int (-1)])), (qb, .inl (cB, 4096, .inl bf)), (qu, .inl (cI, 4096, .inl ug))]) hD hS hA [1, 2, 3, 4] rfl
  have hKc := hK.sub (tys' := [(cB, .byte), (cI, .int), (cV, .object "QueryBench$Value")]) [0, 1, 2] rfl
  refine w_same (fun hq0 => ?_)
  refine vx_callr (vx_runV (As := []) (rest := [.ref q0]) ⟨hx, hb, hml, hown, hts⟩ (c_QR_whole l hl9 K dC dI cI cV cB h0 qb qu 0 bf n qr hn0 hbf H E lv L f 0 uc (-1) ug hO (Nat.zero_le _) rfl o0) (cwV 0 hts (gt_V (own := R_QB) (C := R_QueryReader) (i := 82) (y := y_QueryReader_whole) i_QueryReader_whole z_530 z_531 z_532 w_4) rfl rfl rfl (by decide +kernel) ⟨by show 220 + 1 ≤ 230; omega, by show 8 + (2 + 11) + 6600 ≤ 6700; omega⟩) ⟨ml_blind, va_recv hK hP (ci := 5) (q0 := 1) rfl rfl, fun U hU hW => ⟨rfl, ⟨hU, by rw [hU]; exact hPc, va_K.moved hW.alike hKc, hDc.weaken (fun _ _ _ _ => trivial)⟩, hN.warm hW, by rw [hU]; exact ZX.moved' hW.alike (ZX.narrow' (ZX.kept' hZ hS.2.1) hFc), by rw [hU]; exact CE.call hC hS.2.1 hFc hW, va_AO.moved hW.alike hV⟩⟩ rfl rfl hl.1 rfl (lv_room (Nat.le_of_ble_eq_true rfl)) d_QB_read_12 ⟨by show 0 + (8 * (n - 0) + 6) ≤ 8 * n + 6; omega, by show 0 + (64 * (n - 0) + 60) ≤ 64 * n + 60; omega⟩) hS (fun q _ h => hFc q h) hFc (fun q _ h => hFc q h) (fun En ce q9 ⟨ax, cx, px, gx, ox⟩ t9 H1 locs ht hvm hw hB hz1 hk1 hS hce hcv hcl => ?_) (fun ⟨w3, p3, N3, E3, f3, uc3, ug3⟩ v3 t9 H1 locs ht hvm hw hB hz1 hk1 hS => ?_)
  · obtain ⟨hEn, hP1, hK1, hD1⟩ := hB
    rw [ht] at hP1
    obtain ⟨hP, hD⟩ := va_joinP (wr := [(q0, .inr (11, [.ref h0, r1, .ref qr, r3, r4, r5, r6, r7]))]) (rx := [(qr, .inr (5, [.ref h0, .int ox])), (h0, .inr (8, [.ref qb, .ref qu, .int cx, .int 0, .int (nI n), .int ax, .int px])), (qb, .inl (cB, 4096, .inl bf)), (qu, .inl (cI, 4096, .inl gx))]) (pl1 := va_pl L f) hP hD [1, 2, 3, 4] [0] rfl rfl (by decide) (by decide) hk1 hFc hP1 hD1
    generalize H1 = H at hP hS hce ⊢
    have hP : va_P (dC, dI) classes ([(q0, .inr (11, [.ref h0, r1, .ref qr, r3, r4, r5, r6, r7])), (qr, .inr (5, [.ref h0, .int ox])), (h0, .inr (8, [.ref qb, .ref qu, .int cx, .int 0, .int (nI n), .int ax, .int px])), (qb, .inl (cB, 4096, .inl bf)), (qu, .inl (cI, 4096, .inl gx))] ++ va_pl L f) H := hP
    have hD : va_D A ([(q0, .inr (11, [.ref h0, r1, .ref qr, r3, r4, r5, r6, r7])), (qr, .inr (5, [.ref h0, .int ox])), (h0, .inr (8, [.ref qb, .ref qu, .int cx, .int 0, .int (nI n), .int ax, .int px])), (qb, .inl (cB, 4096, .inl bf)), (qu, .inl (cI, 4096, .inl gx))] ++ va_pl L f) := hD
    exact vx_out (fun x hx => (hex x hx).elim) hlocks hce hcv hcl (fun t9 ht2 ha => ⟨(ax, cx, px, gx, ox), hw, ⟨hEn, by rw [ht2]; exact hP, va_K.moved ha hK, hD⟩, hS.F ht2⟩) hS.2.2 (by show 0 + (8 * (n - 0) + 6) ≤ 8 * n + 6; omega) (by show 0 + (64 * (n - 0) + 60) ≤ 64 * n + 60; omega)
  · obtain ⟨⟨hP1, hK1, hD1⟩, hz9, ha9⟩ := hB
    rw [ht] at hP1
    rw [ht] at hz9
    have ha9 : v3 = w3 := ha9
    subst ha9
    have hq0 : szk s.heap H1 (0 + 8 * (p3 - 0)) (0 + 64 * (p3 - 0)) := (hq0.trans hz9).mono (Nat.le_refl _) (Nat.le_refl _)
    refine w_tight hq0 ?_
    obtain ⟨hP, hD⟩ := va_joinP (wr := [(q0, .inr (11, [.ref h0, r1, .ref qr, r3, r4, r5, r6, r7]))]) (rx := [(qr, .inr (5, [.ref h0, .int (nI 0)])), (h0, .inr (8, [.ref qb, .ref qu, .int uc3, .int 0, .int (nI n), .int (nI p3), .int (-1)])), (qb, .inl (cB, 4096, .inl bf)), (qu, .inl (cI, 4096, .inl ug3))]) (pl1 := va_pl ((L ++ N3)) f3) hP hD [1, 2, 3, 4] [0] rfl rfl (by decide) (by decide) hk1 hFc hP1 hD1
    generalize H1 = H at hP hS hq0 ⊢
    have hP : va_P (dC, dI) classes ([(q0, .inr (11, [.ref h0, r1, .ref qr, r3, r4, r5, r6, r7])), (qr, .inr (5, [.ref h0, .int (nI 0)])), (h0, .inr (8, [.ref qb, .ref qu, .int uc3, .int 0, .int (nI n), .int (nI p3), .int (-1)])), (qb, .inl (cB, 4096, .inl bf)), (qu, .inl (cI, 4096, .inl ug3))] ++ va_pl ((L ++ N3)) f3) H := hP
    have hD : va_D A ([(q0, .inr (11, [.ref h0, r1, .ref qr, r3, r4, r5, r6, r7])), (qr, .inr (5, [.ref h0, .int (nI 0)])), (h0, .inr (8, [.ref qb, .ref qu, .int uc3, .int 0, .int (nI n), .int (nI p3), .int (-1)])), (qb, .inl (cB, 4096, .inl bf)), (qu, .inl (cI, 4096, .inl ug3))] ++ va_pl ((L ++ N3)) f3) := hD
    obtain ⟨hw, m3, hjq, hd3⟩ := hw
    have hjq : jQD bf n = some (sgQ (f3 v3), m3) := hjq
    have hd3 : DNx QD 0 E E3 f3 v3 m3 := hd3
    have hQ3 : QPn cI cV E L f 0 n _ 7 80 1 v3 p3 N3 E3 f3 := hw
    have hQ4 : QPn cI cV E L f 0 n s.heap.size 7 80 1 v3 p3 N3 E3 f3 := ⟨hQ3.1, hQ3.2.1, hQ3.2.2.1, hQ3.2.2.2.1, fun lv hO b hb => by obtain ⟨lv9, g9, e9⟩ := hQ3.x lv hO b hb; exact ⟨lv9, g9.zle hzz, e9⟩⟩
    obtain ⟨lv3, hg3⟩ := hQ3.x.g hO
    obtain ⟨hp3, hp4⟩ := hQ3.num
    have hp4 : p3 ≤ n := hp4
    refine va_put (D := (dC, dI)) (ci := 11) (v := .ref v3) (ty := .object "QueryBench$Query") (C := R_QB) (T := F_QB) (N := 8) hx hb hts in_QB t_QB t_QB_ok n_QB hown hK hP hD hS 0 rfl rfl 5 (by decide) (hts _ z_156) (fun _ h9 => h9) rfl (by decide +kernel) rfl rfl (Nat.le_of_ble_eq_true rfl) d_QB_read_15 (fun H locs hP hD hS => ?_)
    have hP : va_P (dC, dI) classes ([(q0, .inr (11, [.ref h0, r1, .ref qr, r3, r4, .ref v3, r6, r7])), (qr, .inr (5, [.ref h0, .int (nI 0)])), (h0, .inr (8, [.ref qb, .ref qu, .int uc3, .int 0, .int (nI n), .int (nI p3), .int (-1)])), (qb, .inl (cB, 4096, .inl bf)), (qu, .inl (cI, 4096, .inl ug3))] ++ va_pl ((L ++ N3)) f3) H := hP
    have hD : va_D A ([(q0, .inr (11, [.ref h0, r1, .ref qr, r3, r4, .ref v3, r6, r7])), (qr, .inr (5, [.ref h0, .int (nI 0)])), (h0, .inr (8, [.ref qb, .ref qu, .int uc3, .int 0, .int (nI n), .int (nI p3), .int (-1)])), (qb, .inl (cB, 4096, .inl bf)), (qu, .inl (cI, 4096, .inl ug3))] ++ va_pl ((L ++ N3)) f3) := hD
    refine lv_aload_n hx hb d_QB_read_18 rfl (lv_at hl 0 rfl) ?_
    refine va_get (D := (dC, dI)) (ci := 11) (v := .ref v3) (C := R_QB) (T := F_QB) (N := 8) hx hb hts in_QB hown hK hP 0 rfl rfl 5 (by decide) (hts _ z_156) (fun _ h9 => h9) rfl d_QB_read_19 ?_
    obtain ⟨fr21, sg21, fi21, la21, ef21, hv21⟩ := hg3.po.qry hQ3.so
    refine vq_get (D := (dC, dI)) (ci := 4) (v := .int sg21) (C := R_Query) (T := F_Query) (N := 4) hx hb hts in_Query hown hK hP (hg3.po.inL (a := v3) (by rw [hQ3.so]; decide)) ef21 rfl 1 (by decide) (hts _ z_549) (fun _ h9 => h9) rfl d_QB_read_22 ?_
    have hsq : sgQ (f3 v3) = decide (¬ sg21 = 0) := by rw [ef21]; rfl
    refine lv_if_eq (tgt := 32) hx hb d_QB_read_25 (by decide) (fun c25 => ?_) (fun c25 => ?_)
    · have hrb : (0 : Int32) = bI (sgQ (f3 v3)) := by rw [(bI_q hsq).2 c25]; rfl
      refine lv_iconst (v := 0) hx hb d_QB_read_32 (by decide) ?_
      refine w_same (fun hq => ?_)
      refine W.widen (k := 8 * n + 6) (n := 64 * n + 60) (by show (0 + 8 * (p3 - 0)) ≤ 8 * n + 6; omega) (by show (0 + 64 * (p3 - 0)) ≤ 64 * n + 60; omega) ?_
      refine vx_ret ?_
      exact W.iret (v := 0) hx hb hr (fun t9 ht hW => ⟨⟨0, (v3, p3, N3, E3, f3, uc3, ug3), rfl, ⟨hQ4, sgQ (f3 v3), m3, hjq, hrb, hd3⟩, ⟨by rw [ht]; exact hP, va_K.moved hW.alike hK, hD⟩, by rw [ht]; exact hq.mono (by show (0 + 8 * (p3 - 0)) ≤ 8 * n; omega) (by show (0 + 64 * (p3 - 0)) ≤ 64 * n; omega)⟩, hS.F ht⟩) hS.2.2 d_QB_read_33
    · have hrb : (1 : Int32) = bI (sgQ (f3 v3)) := by rw [(bI_q hsq).1 c25]; rfl
      refine lv_iconst (v := 1) hx hb d_QB_read_28 (by decide) ?_
      refine lv_goto (tgt := 33) hx hb d_QB_read_29 (by decide) ?_
      refine w_same (fun hq => ?_)
      refine W.widen (k := 8 * n + 6) (n := 64 * n + 60) (by show (0 + 8 * (p3 - 0)) ≤ 8 * n + 6; omega) (by show (0 + 64 * (p3 - 0)) ≤ 64 * n + 60; omega) ?_
      refine vx_ret ?_
      exact W.iret (v := 1) hx hb hr (fun t9 ht hW => ⟨⟨1, (v3, p3, N3, E3, f3, uc3, ug3), rfl, ⟨hQ4, sgQ (f3 v3), m3, hjq, hrb, hd3⟩, ⟨by rw [ht]; exact hP, va_K.moved hW.alike hK, hD⟩, by rw [ht]; exact hq.mono (by show (0 + 8 * (p3 - 0)) ≤ 8 * n; omega) (by show (0 + 64 * (p3 - 0)) ≤ 64 * n; omega)⟩, hS.F ht⟩) hS.2.2 d_QB_read_33
