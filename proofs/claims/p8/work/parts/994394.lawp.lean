set_option maxHeartbeats 4000000 in
set_option maxRecDepth 100000 in
/-- the law: read -/
theorem c_Law_read (l : Launch) (hl9 : l.stackTraces = false) (K : Nat → Nat × Nat) (dC : Nat → ClassId) (dI : Nat → Nat → Nat) (cI cV cB cJ : ClassId) (sz : Heap) (E lv : Nat → Nat) (L : List Nat) (f : Nat → va_E) (qo : Nat) (g : Nat → Int64) (h0 qb qu qr n : Nat) (hn0 : n ≤ 4096) (bf : Nat → Int32) (hbf : byR bf) (q0 : Nat) (r1 r3 r4 r6 r7 : Value) (dg : Nat → Option Nat) (qy : Option Nat) (hI : CIn cI cV E lv L f dg qy) (o0 en at0 uc pl : Int32) (ug : Nat → Int32) (S : Nat → Nat) (X : Nat → Option (JVt 32)) (Y : Option QT) (hDQ : DQv E f S dg X qy Y) : Met l y_Law_read (k_Law_read :: gtbl) ({ frames := 240, cells := 8 * n + 6, slots := 64 * n + 60, locals := 6800 }) (va_Pc [.ref q0, .ref qo] (mw K dC dI ([(q0, .inr (11, [.ref h0, r1, .ref qr, r3, r4, va_rf qy, r6, r7])), (qr, .inr (5, [.ref h0, .int o0])), (h0, .inr (8, [.ref qb, .ref qu, .int uc, .int (nI n), .int en, .int at0, .int pl])), (qb, .inl (cB, 4096, .inl bf)), (qu, .inl (cI, 4096, .inl ug)), (qo, .inl (cJ, 1, .inr (.inl g)))] ++ va_pl L f) [(cB, .byte), (cI, .int), (cV, .object "QueryBench$Value"), (cJ, .long)] sz)) (va_Qi (fun (r : Int32) (u : List Nat × (Nat → Nat) × (Nat → Nat) × (Nat → va_E) × Option Nat × Int32 × (Nat → Int32) × Int32 × Int32 × Int32 × Int32 × (Nat → Int64)) => CIn cI cV u.2.1 u.2.2.1 u.1 u.2.2.2.1 dg u.2.2.2.2.1 ∧ ((r = 0 ∧ ∃ (b : Bool) (m : QT), jQD bf n = some (b, m) ∧ u.2.2.2.2.2.2.2.2.2.2.2 0 = (bI b).toInt64 ∧ ∃ S2, DQv u.2.1 u.2.2.2.1 S2 dg X u.2.2.2.2.1 (some m)) ∨ (r = 1 ∧ jQD bf n = none ∧ DQv u.2.1 u.2.2.2.1 S dg X u.2.2.2.2.1 Y))) (fun u t9 => mz dC dI ([(q0, .inr (11, [.ref h0, r1, .ref qr, r3, r4, va_rf u.2.2.2.2.1, r6, r7])), (qr, .inr (5, [.ref h0, .int u.2.2.2.2.2.2.2.2.2.2.1])), (h0, .inr (8, [.ref qb, .ref qu, .int u.2.2.2.2.2.1, .int (nI 0), .int u.2.2.2.2.2.2.2.1, .int u.2.2.2.2.2.2.2.2.1, .int u.2.2.2.2.2.2.2.2.2.1])), (qb, .inl (cB, 4096, .inl bf)), (qu, .inl (cI, 4096, .inl u.2.2.2.2.2.2.1)), (qo, .inl (cJ, 1, .inr (.inl u.2.2.2.2.2.2.2.2.2.2.2)))] ++ va_pl u.1 u.2.2.2.1) [(cB, .byte), (cI, .int), (cV, .object "QueryBench$Value"), (cJ, .long)] (va_A ([(q0, .inr (11, [.ref h0, r1, .ref qr, r3, r4, va_rf qy, r6, r7])), (qr, .inr (5, [.ref h0, .int o0])), (h0, .inr (8, [.ref qb, .ref qu, .int uc, .int (nI n), .int en, .int at0, .int pl])), (qb, .inl (cB, 4096, .inl bf)), (qu, .inl (cI, 4096, .inl ug)), (qo, .inl (cJ, 1, .inr (.inl g)))] ++ va_pl L f) sz.size) t9 ∧ szk sz t9.heap (8 * n + 6) (64 * n + 60)) (va_A ([(q0, .inr (11, [.ref h0, r1, .ref qr, r3, r4, va_rf qy, r6, r7])), (qr, .inr (5, [.ref h0, .int o0])), (h0, .inr (8, [.ref qb, .ref qu, .int uc, .int (nI n), .int en, .int at0, .int pl])), (qb, .inl (cB, 4096, .inl bf)), (qu, .inl (cI, 4096, .inl ug)), (qo, .inl (cJ, 1, .inr (.inl g)))] ++ va_pl L f) sz.size)) (8 * n + 6) (64 * n + 60) (va_A ([(q0, .inr (11, [.ref h0, r1, .ref qr, r3, r4, va_rf qy, r6, r7])), (qr, .inr (5, [.ref h0, .int o0])), (h0, .inr (8, [.ref qb, .ref qu, .int uc, .int (nI n), .int en, .int at0, .int pl])), (qb, .inl (cB, 4096, .inl bf)), (qu, .inl (cI, 4096, .inl ug)), (qo, .inl (cJ, 1, .inr (.inl g)))] ++ va_pl L f) sz.size) := by
  refine met_ofWH (cc := b_Law_read) (maxL := 3) (ret := (some .int)) (by decide) rfl ?_
  intro p e s m args below meth c s₁ B hml htab hv
  obtain ⟨rfl, ⟨⟨hsz, hP, hK, hD0⟩, hN, hZ, hC, hV⟩, hNC⟩ := hv
  have hx := B.exec
  have hb := B.bytes
  have hr := B.returns
  have hts0 := atoms_spec (ws := k_Law_read :: gtbl) B.pre
  have hts := fun w h => hts0 w (List.mem_cons_of_mem _ h)
  have hown : s.vm.findClass R_Law = some m.cls := findClass_of_methodNamed B.named
  have hlocks := B.notSynchronized
  subst hsz
  have hD := hD0.self (sz := s.heap.size)
  generalize hAe : va_A ([(q0, .inr (11, [.ref h0, r1, .ref qr, r3, r4, va_rf qy, r6, r7])), (qr, .inr (5, [.ref h0, .int o0])), (h0, .inr (8, [.ref qb, .ref qu, .int uc, .int (nI n), .int en, .int at0, .int pl])), (qb, .inl (cB, 4096, .inl bf)), (qu, .inl (cI, 4096, .inl ug)), (qo, .inl (cJ, 1, .inr (.inl g)))] ++ va_pl L f) s.heap.size = A at hD hZ hC ⊢
  have hA : ∀ q : Nat, s.heap.size ≤ q → A q := fun q h => by rw [← hAe]; exact Or.inr h
  have hS : va_S A s.heap s.heap [] := va_S.rf
  have hP : va_P (dC, dI) classes ([(q0, .inr (11, [.ref h0, r1, .ref qr, r3, r4, va_rf qy, r6, r7])), (qr, .inr (5, [.ref h0, .int o0])), (h0, .inr (8, [.ref qb, .ref qu, .int uc, .int (nI n), .int en, .int at0, .int pl])), (qb, .inl (cB, 4096, .inl bf)), (qu, .inl (cI, 4096, .inl ug)), (qo, .inl (cJ, 1, .inr (.inl g)))] ++ va_pl L f) s.heap := hP
  have hl := lv_entry ([.ref q0, .ref qo]) (n := 3) (Nat.le_of_ble_eq_true rfl)
  rw [lg_entry_eq]
  generalize (lg_sl ([.ref q0, .ref qo]) ++ List.replicate (3 - (lg_sl ([.ref q0, .ref qo])).length) Slot.unset).toArray = ls at hl ⊢
  have hl : lv_has ls 3 [(0, .ref q0), (1, .ref qo)] := hl
  refine lv_aload_n hx hb d_Law_read_0 rfl (lv_at hl 1 rfl) ?_
  refine lv_iconst (v := 0) hx hb d_Law_read_1 (by decide) ?_
  refine lv_aload_n hx hb d_Law_read_2 rfl (lv_at hl 0 rfl) ?_
  have hPc := hP.part (cx := [(q0, .inr (11, [.ref h0, r1, .ref qr, r3, r4, va_rf qy, r6, r7])), (qr, .inr (5, [.ref h0, .int o0])), (h0, .inr (8, [.ref qb, .ref qu, .int uc, .int (nI n), .int en, .int at0, .int pl])), (qb, .inl (cB, 4096, .inl bf)), (qu, .inl (cI, 4096, .inl ug))]) [0, 1, 2, 3, 4] rfl
  have hDc := hD.part (cx := [(q0, .inr (11, [.ref h0, r1, .ref qr, r3, r4, va_rf qy, r6, r7])), (qr, .inr (5, [.ref h0, .int o0])), (h0, .inr (8, [.ref qb, .ref qu, .int uc, .int (nI n), .int en, .int at0, .int pl])), (qb, .inl (cB, 4096, .inl bf)), (qu, .inl (cI, 4096, .inl ug))]) [0, 1, 2, 3, 4] (by decide) rfl
  have hFc := va_freeP (cx := [(q0, .inr (11, [.ref h0, r1, .ref qr, r3, r4, va_rf qy, r6, r7])), (qr, .inr (5, [.ref h0, .int o0])), (h0, .inr (8, [.ref qb, .ref qu, .int uc, .int (nI n), .int en, .int at0, .int pl])), (qb, .inl (cB, 4096, .inl bf)), (qu, .inl (cI, 4096, .inl ug))]) hD hS hA [0, 1, 2, 3, 4] rfl
  have hKc := hK.sub (tys' := [(cB, .byte), (cI, .int), (cV, .object "QueryBench$Value")]) [0, 1, 2] rfl
  refine w_same (fun hq0 => ?_)
  refine vx_calli (vx_runV (As := []) (rest := [.int 0, .ref qo]) ⟨hx, hb, hml, hown, hts⟩ (c_QB_read l hl9 K dC dI cI cV cB h0 qb qu bf n qr hn0 hbf s.heap E lv L f hI.po q0 r1 r3 r4 (va_rf qy) r6 r7 o0 en at0 uc pl ug) (cwV 0 hts (gt_V (own := R_Law) (C := R_QB) (i := 26) (y := y_QB_read) i_QB_read z_526 z_527 z_528 w_1) rfl rfl rfl (by decide +kernel) ⟨by show 230 + 1 ≤ 240; omega, by show 8 + (1 + 11) + 6700 ≤ 6800; omega⟩) ⟨ml_blind, va_recv hK hP (ci := 11) (q0 := 0) rfl rfl, fun U hU hW => ⟨rfl, ⟨hU, by rw [hU]; exact hPc, va_K.moved hW.alike hKc, hDc.weaken (fun _ _ _ _ => trivial)⟩, hN.warm hW, by rw [hU]; exact ZX.moved' hW.alike (ZX.narrow' (ZX.kept' hZ hS.2.1) hFc), by rw [hU]; exact CE.call hC hS.2.1 hFc hW, va_AO.moved hW.alike hV⟩⟩ rfl rfl hl.1 rfl (lv_room (Nat.le_of_ble_eq_true rfl)) d_Law_read_3 ⟨by show 0 + (8 * n + 6) ≤ 8 * n + 6; omega, by show 0 + (64 * n + 60) ≤ 64 * n + 60; omega⟩) hS (fun q _ h => hFc q h) hFc (fun q _ h => hFc q h) (fun En ce q9 ⟨ax, cx, px, gx, ox⟩ t9 H1 locs ht hvm hw hB hz1 hk1 hS hce hcv hcl => ?_) (fun r9 ⟨v3, p3, N3, E3, f3, uc3, ug3⟩ t9 H1 locs ht hvm hw hB hz1 hk1 hS => ?_)
  · obtain ⟨hEn, hP1, hK1, hD1⟩ := hB
    rw [ht] at hP1
    obtain ⟨hP, hD⟩ := va_joinP (wr := [(qo, .inl (cJ, 1, .inr (.inl g)))]) (rx := [(q0, .inr (11, [.ref h0, r1, .ref qr, r3, r4, va_rf qy, r6, r7])), (qr, .inr (5, [.ref h0, .int ox])), (h0, .inr (8, [.ref qb, .ref qu, .int cx, .int 0, .int (nI n), .int ax, .int px])), (qb, .inl (cB, 4096, .inl bf)), (qu, .inl (cI, 4096, .inl gx))]) (pl1 := va_pl L f) hP hD [0, 1, 2, 3, 4] [5] rfl rfl (by decide) (by decide) hk1 hFc hP1 hD1
    generalize H1 = H at hP hS hce ⊢
    have hP : va_P (dC, dI) classes ([(qo, .inl (cJ, 1, .inr (.inl g))), (q0, .inr (11, [.ref h0, r1, .ref qr, r3, r4, va_rf qy, r6, r7])), (qr, .inr (5, [.ref h0, .int ox])), (h0, .inr (8, [.ref qb, .ref qu, .int cx, .int 0, .int (nI n), .int ax, .int px])), (qb, .inl (cB, 4096, .inl bf)), (qu, .inl (cI, 4096, .inl gx))] ++ va_pl L f) H := hP
    have hD : va_D A ([(qo, .inl (cJ, 1, .inr (.inl g))), (q0, .inr (11, [.ref h0, r1, .ref qr, r3, r4, va_rf qy, r6, r7])), (qr, .inr (5, [.ref h0, .int ox])), (h0, .inr (8, [.ref qb, .ref qu, .int cx, .int 0, .int (nI n), .int ax, .int px])), (qb, .inl (cB, 4096, .inl bf)), (qu, .inl (cI, 4096, .inl gx))] ++ va_pl L f) := hD
    have hP := hP.part (cx := [(q0, .inr (11, [.ref h0, r1, .ref qr, r3, r4, va_rf qy, r6, r7])), (qr, .inr (5, [.ref h0, .int ox])), (h0, .inr (8, [.ref qb, .ref qu, .int cx, .int 0, .int (nI n), .int ax, .int px])), (qb, .inl (cB, 4096, .inl bf)), (qu, .inl (cI, 4096, .inl gx)), (qo, .inl (cJ, 1, .inr (.inl g)))]) [1, 2, 3, 4, 5, 0] rfl
    have hD := hD.part (cx := [(q0, .inr (11, [.ref h0, r1, .ref qr, r3, r4, va_rf qy, r6, r7])), (qr, .inr (5, [.ref h0, .int ox])), (h0, .inr (8, [.ref qb, .ref qu, .int cx, .int 0, .int (nI n), .int ax, .int px])), (qb, .inl (cB, 4096, .inl bf)), (qu, .inl (cI, 4096, .inl gx)), (qo, .inl (cJ, 1, .inr (.inl g)))]) [1, 2, 3, 4, 5, 0] (by decide) rfl
    have hjn : jQD bf n = none := hw
    subst hEn
    refine vx_catch (own := R_Law) (name := "java/lang/UnsupportedOperationException") hown [] ⟨0, 8, 11, 24⟩ [] htab (fun z hz => nomatch hz) (by decide) (by decide) (hts _ z_278) (va_Nw.use rfl (hN _ nz_376)) hce hcv hcl ?_
    refine lv_astore_n (lv' := [(2, .ref q9), (0, .ref q0), (1, .ref qo)]) hx hb d_Law_read_11 rfl hl (by decide) rfl (fun ls hl => ?_)
    refine lv_iconst (v := 1) hx hb d_Law_read_12 (by decide) ?_
    refine w_same (fun hq => ?_)
    refine W.widen (k := 8 * n + 6) (n := 64 * n + 60) (by show (0 + (8 * n + 6)) ≤ 8 * n + 6; omega) (by show (0 + (64 * n + 60)) ≤ 64 * n + 60; omega) ?_
    exact W.iret (v := 1) hx hb hr (fun t9 ht hW => ⟨⟨1, (L, E, lv, f, qy, cx, gx, nI n, ax, px, ox, g), rfl, ⟨hI, Or.inr ⟨rfl, hjn, hDQ⟩⟩, ⟨by rw [ht]; exact hP, va_K.moved hW.alike hK, hD⟩, by rw [ht]; exact hq.mono (by show (0 + (8 * n + 6)) ≤ 8 * n + 6; omega) (by show (0 + (64 * n + 60)) ≤ 64 * n + 60; omega)⟩, hS.F ht⟩) hS.2.2 d_Law_read_13
  · obtain ⟨⟨hP1, hK1, hD1⟩, hz9⟩ := hB
    rw [ht] at hP1
    rw [ht] at hz9
    have hq0 : szk s.heap H1 (0 + 8 * n) (0 + 64 * n) := (hq0.trans hz9).mono (Nat.le_refl _) (Nat.le_refl _)
    refine w_tight hq0 ?_
    obtain ⟨hP, hD⟩ := va_joinP (wr := [(qo, .inl (cJ, 1, .inr (.inl g)))]) (rx := [(q0, .inr (11, [.ref h0, r1, .ref qr, r3, r4, .ref v3, r6, r7])), (qr, .inr (5, [.ref h0, .int (nI 0)])), (h0, .inr (8, [.ref qb, .ref qu, .int uc3, .int 0, .int (nI n), .int (nI p3), .int (-1)])), (qb, .inl (cB, 4096, .inl bf)), (qu, .inl (cI, 4096, .inl ug3))]) (pl1 := va_pl ((L ++ N3)) f3) hP hD [0, 1, 2, 3, 4] [5] rfl rfl (by decide) (by decide) hk1 hFc hP1 hD1
    generalize H1 = H at hP hS hq0 ⊢
    have hP : va_P (dC, dI) classes ([(qo, .inl (cJ, 1, .inr (.inl g))), (q0, .inr (11, [.ref h0, r1, .ref qr, r3, r4, .ref v3, r6, r7])), (qr, .inr (5, [.ref h0, .int (nI 0)])), (h0, .inr (8, [.ref qb, .ref qu, .int uc3, .int 0, .int (nI n), .int (nI p3), .int (-1)])), (qb, .inl (cB, 4096, .inl bf)), (qu, .inl (cI, 4096, .inl ug3))] ++ va_pl ((L ++ N3)) f3) H := hP
    have hD : va_D A ([(qo, .inl (cJ, 1, .inr (.inl g))), (q0, .inr (11, [.ref h0, r1, .ref qr, r3, r4, .ref v3, r6, r7])), (qr, .inr (5, [.ref h0, .int (nI 0)])), (h0, .inr (8, [.ref qb, .ref qu, .int uc3, .int 0, .int (nI n), .int (nI p3), .int (-1)])), (qb, .inl (cB, 4096, .inl bf)), (qu, .inl (cI, 4096, .inl ug3))] ++ va_pl ((L ++ N3)) f3) := hD
    have hP := hP.part (cx := [(q0, .inr (11, [.ref h0, r1, .ref qr, r3, r4, .ref v3, r6, r7])), (qr, .inr (5, [.ref h0, .int (nI 0)])), (h0, .inr (8, [.ref qb, .ref qu, .int uc3, .int 0, .int (nI n), .int (nI p3), .int (-1)])), (qb, .inl (cB, 4096, .inl bf)), (qu, .inl (cI, 4096, .inl ug3)), (qo, .inl (cJ, 1, .inr (.inl g)))]) [1, 2, 3, 4, 5, 0] rfl
    have hD := hD.part (cx := [(q0, .inr (11, [.ref h0, r1, .ref qr, r3, r4, .ref v3, r6, r7])), (qr, .inr (5, [.ref h0, .int (nI 0)])), (h0, .inr (8, [.ref qb, .ref qu, .int uc3, .int 0, .int (nI n), .int (nI p3), .int (-1)])), (qb, .inl (cB, 4096, .inl bf)), (qu, .inl (cI, 4096, .inl ug3)), (qo, .inl (cJ, 1, .inr (.inl g)))]) [1, 2, 3, 4, 5, 0] (by decide) rfl
    obtain ⟨hw, bq9, mq9, hjq, hr9, hDN⟩ := hw
    have hr9 : r9 = bI bq9 := hr9
    have hjq : jQD bf n = some (bq9, mq9) := hjq
    have hDN : DNx QD 0 E E3 f3 v3 mq9 := hDN
    have hQ3 : QPn cI cV E L f 0 n _ 7 80 1 v3 p3 N3 E3 f3 := hw
    obtain ⟨lv3, hI3⟩ := hI.read hQ3
    obtain ⟨S3, hDQ3⟩ := hDQ.read hI hQ3 hDN
    refine lv_i2l (v := r9.toInt64) hx hb d_Law_read_6 rfl ?_
    refine va_last hx hb hK hP hD hS 5 3 rfl rfl (vp_in_nI (n := 0) (by decide) (by decide)) d_Law_read_7 (fun H locs hP hD hS => ?_)
    have hP : va_P (dC, dI) classes ([(q0, .inr (11, [.ref h0, r1, .ref qr, r3, r4, .ref v3, r6, r7])), (qr, .inr (5, [.ref h0, .int (nI 0)])), (h0, .inr (8, [.ref qb, .ref qu, .int uc3, .int 0, .int (nI n), .int (nI p3), .int (-1)])), (qb, .inl (cB, 4096, .inl bf)), (qu, .inl (cI, 4096, .inl ug3)), (qo, .inl (cJ, 1, .inr (.inl (vp_updL g 0 (r9.toInt64)))))] ++ va_pl ((L ++ N3)) f3) H := hP
    have hD : va_D A ([(q0, .inr (11, [.ref h0, r1, .ref qr, r3, r4, .ref v3, r6, r7])), (qr, .inr (5, [.ref h0, .int (nI 0)])), (h0, .inr (8, [.ref qb, .ref qu, .int uc3, .int 0, .int (nI n), .int (nI p3), .int (-1)])), (qb, .inl (cB, 4096, .inl bf)), (qu, .inl (cI, 4096, .inl ug3)), (qo, .inl (cJ, 1, .inr (.inl (vp_updL g 0 (r9.toInt64)))))] ++ va_pl ((L ++ N3)) f3) := hD
    refine lv_goto (tgt := 14) hx hb d_Law_read_8 (by decide) ?_
    refine lv_iconst (v := 0) hx hb d_Law_read_14 (by decide) ?_
    refine w_same (fun hq => ?_)
    refine W.widen (k := 8 * n + 6) (n := 64 * n + 60) (by show (0 + 8 * n) ≤ 8 * n + 6; omega) (by show (0 + 64 * n) ≤ 64 * n + 60; omega) ?_
    exact W.iret (v := 0) hx hb hr (fun t9 ht hW => ⟨⟨0, (L ++ N3, E3, lv3, f3, some v3, uc3, ug3, nI n, nI p3, -1, nI 0, vp_updL g 0 (r9.toInt64)), rfl, ⟨hI3, Or.inl ⟨rfl, bq9, mq9, hjq, by rw [← hr9]; rfl, S3, hDQ3⟩⟩, ⟨by rw [ht]; exact hP, va_K.moved hW.alike hK, hD⟩, by rw [ht]; exact hq.mono (by show (0 + 8 * n) ≤ 8 * n + 6; omega) (by show (0 + 64 * n) ≤ 64 * n + 60; omega)⟩, hS.F ht⟩) hS.2.2 d_Law_read_15
set_option maxHeartbeats 4000000 in
set_option maxRecDepth 100000 in
/-- the law: work -/
theorem c_Law_work (l : Launch) (hl9 : l.stackTraces = false) (K : Nat → Nat × Nat) (dC : Nat → ClassId) (dI : Nat → Nat → Nat) (cI cV cJ : ClassId) (sz : Heap) (E lv : Nat → Nat) (L : List Nat) (f : Nat → va_E) (qo : Nat) (g : Nat → Int64) (q0 ds wk wl : Nat) (r0 r1 r2 : Value) (p1 p2 : Nat) (wa wb : Int32) (wr : Option Nat) (g0 : Nat → Option Nat) (dg : Nat → Option Nat) (qy : Option Nat) (hI : CIn cI cV E lv L f dg qy) (d : Int32) (S : Nat → Nat) (X : Nat → Option (JVt 32)) (Y : Option QT) (hDQ : DQv E f S dg X qy Y) : Met l y_Law_work (k_Law_work :: gtbl) ({ frames := 500, cells := 1, slots := 6, locals := 18800 }) (va_Pc [.ref q0, .int d, .ref qo] (mw K dC dI ([(q0, .inr (11, [r0, r1, r2, .ref wk, .ref ds, va_rf qy, .ref p1, .ref p2])), (ds, .inl (cV, 4, .inr (.inr (.inr (.inr dg))))), (wk, .inr (10, [.ref wl, .int wa, .int wb, va_rf wr])), (wl, .inl (cV, 10000, .inr (.inr (.inr (.inr g0))))), (qo, .inl (cJ, 1, .inr (.inl g)))] ++ va_pl L f) [(cI, .int), (cV, .object "QueryBench$Value"), (cJ, .long)] sz)) (va_Qi (fun (r : Int32) (u : (Nat → va_E) × Int32 × Int32 × (Nat → Option Nat) × Option Nat × (Nat → Int64)) => CIn cI cV E lv L u.1 dg qy ∧ DQv E u.1 S dg X qy Y ∧ LWK X Y d r (u.2.2.2.2.2 0)) (fun u t9 => mz dC dI ([(q0, .inr (11, [r0, r1, r2, .ref wk, .ref ds, va_rf qy, .ref p1, .ref p2])), (ds, .inl (cV, 4, .inr (.inr (.inr (.inr dg))))), (wk, .inr (10, [.ref wl, .int u.2.1, .int u.2.2.1, va_rf u.2.2.2.2.1])), (wl, .inl (cV, 10000, .inr (.inr (.inr (.inr u.2.2.2.1))))), (qo, .inl (cJ, 1, .inr (.inl u.2.2.2.2.2)))] ++ va_pl L u.1) [(cI, .int), (cV, .object "QueryBench$Value"), (cJ, .long)] (va_A ([(q0, .inr (11, [r0, r1, r2, .ref wk, .ref ds, va_rf qy, .ref p1, .ref p2])), (ds, .inl (cV, 4, .inr (.inr (.inr (.inr dg))))), (wk, .inr (10, [.ref wl, .int wa, .int wb, va_rf wr])), (wl, .inl (cV, 10000, .inr (.inr (.inr (.inr g0))))), (qo, .inl (cJ, 1, .inr (.inl g)))] ++ va_pl L f) sz.size) t9 ∧ szk sz t9.heap (1) (6)) (va_A ([(q0, .inr (11, [r0, r1, r2, .ref wk, .ref ds, va_rf qy, .ref p1, .ref p2])), (ds, .inl (cV, 4, .inr (.inr (.inr (.inr dg))))), (wk, .inr (10, [.ref wl, .int wa, .int wb, va_rf wr])), (wl, .inl (cV, 10000, .inr (.inr (.inr (.inr g0))))), (qo, .inl (cJ, 1, .inr (.inl g)))] ++ va_pl L f) sz.size)) (1) (6) (va_A ([(q0, .inr (11, [r0, r1, r2, .ref wk, .ref ds, va_rf qy, .ref p1, .ref p2])), (ds, .inl (cV, 4, .inr (.inr (.inr (.inr dg))))), (wk, .inr (10, [.ref wl, .int wa, .int wb, va_rf wr])), (wl, .inl (cV, 10000, .inr (.inr (.inr (.inr g0))))), (qo, .inl (cJ, 1, .inr (.inl g)))] ++ va_pl L f) sz.size) := by
  refine met_ofWH (cc := b_Law_work) (maxL := 4) (ret := (some .int)) (by decide) rfl ?_
  intro p e s m args below meth c s₁ B hml htab hv
  obtain ⟨rfl, ⟨⟨hsz, hP, hK, hD0⟩, hN, hZ, hC, hV⟩, hNC⟩ := hv
  have hx := B.exec
  have hb := B.bytes
  have hr := B.returns
  have hts0 := atoms_spec (ws := k_Law_work :: gtbl) B.pre
  have hts := fun w h => hts0 w (List.mem_cons_of_mem _ h)
  have hown : s.vm.findClass R_Law = some m.cls := findClass_of_methodNamed B.named
  have hlocks := B.notSynchronized
  subst hsz
  have hD := hD0.self (sz := s.heap.size)
  generalize hAe : va_A ([(q0, .inr (11, [r0, r1, r2, .ref wk, .ref ds, va_rf qy, .ref p1, .ref p2])), (ds, .inl (cV, 4, .inr (.inr (.inr (.inr dg))))), (wk, .inr (10, [.ref wl, .int wa, .int wb, va_rf wr])), (wl, .inl (cV, 10000, .inr (.inr (.inr (.inr g0))))), (qo, .inl (cJ, 1, .inr (.inl g)))] ++ va_pl L f) s.heap.size = A at hD hZ hC ⊢
  have hA : ∀ q : Nat, s.heap.size ≤ q → A q := fun q h => by rw [← hAe]; exact Or.inr h
  have hS : va_S A s.heap s.heap [] := va_S.rf
  have hP : va_P (dC, dI) classes ([(q0, .inr (11, [r0, r1, r2, .ref wk, .ref ds, va_rf qy, .ref p1, .ref p2])), (ds, .inl (cV, 4, .inr (.inr (.inr (.inr dg))))), (wk, .inr (10, [.ref wl, .int wa, .int wb, va_rf wr])), (wl, .inl (cV, 10000, .inr (.inr (.inr (.inr g0))))), (qo, .inl (cJ, 1, .inr (.inl g)))] ++ va_pl L f) s.heap := hP
  have hl := lv_entry ([.ref q0, .int d, .ref qo]) (n := 4) (Nat.le_of_ble_eq_true rfl)
  rw [lg_entry_eq]
  generalize (lg_sl ([.ref q0, .int d, .ref qo]) ++ List.replicate (4 - (lg_sl ([.ref q0, .int d, .ref qo])).length) Slot.unset).toArray = ls at hl ⊢
  have hl : lv_has ls 4 [(0, .ref q0), (1, .int d), (2, .ref qo)] := hl
  refine lv_aload_n hx hb d_Law_work_0 rfl (lv_at hl 2 rfl) ?_
  refine lv_iconst (v := 0) hx hb d_Law_work_1 (by decide) ?_
  refine lv_aload_n hx hb d_Law_work_2 rfl (lv_at hl 0 rfl) ?_
  refine lv_iload_n hx hb d_Law_work_3 rfl (lv_at hl 1 rfl) ?_
  have hP : va_P (dC, dI) classes ([(q0, .inr (11, [r0, r1, r2, .ref wk, .ref ds, va_rf qy, .ref p1, .ref p2])), (ds, .inl (cV, 4, .inr (.inr (.inr (.inr dg))))), (wk, .inr (10, [.ref wl, .int wa, .int wb, va_rf wr])), (wl, .inl (cV, 10000, .inr (.inr (.inr (.inr g0))))), (qo, .inl (cJ, 1, .inr (.inl g)))] ++ va_pl L (pf f (nuF f))) s.heap := by rw [pf_self]; exact hP
  have hD : va_D A ([(q0, .inr (11, [r0, r1, r2, .ref wk, .ref ds, va_rf qy, .ref p1, .ref p2])), (ds, .inl (cV, 4, .inr (.inr (.inr (.inr dg))))), (wk, .inr (10, [.ref wl, .int wa, .int wb, va_rf wr])), (wl, .inl (cV, 10000, .inr (.inr (.inr (.inr g0))))), (qo, .inl (cJ, 1, .inr (.inl g)))] ++ va_pl L (pf f (nuF f))) := by rw [pf_self]; exact hD
  have hPc := hP.part (cx := [(q0, .inr (11, [r0, r1, r2, .ref wk, .ref ds, va_rf qy, .ref p1, .ref p2])), (ds, .inl (cV, 4, .inr (.inr (.inr (.inr dg))))), (wk, .inr (10, [.ref wl, .int wa, .int wb, va_rf wr])), (wl, .inl (cV, 10000, .inr (.inr (.inr (.inr g0)))))]) [0, 1, 2, 3] rfl
  have hDc := hD.part (cx := [(q0, .inr (11, [r0, r1, r2, .ref wk, .ref ds, va_rf qy, .ref p1, .ref p2])), (ds, .inl (cV, 4, .inr (.inr (.inr (.inr dg))))), (wk, .inr (10, [.ref wl, .int wa, .int wb, va_rf wr])), (wl, .inl (cV, 10000, .inr (.inr (.inr (.inr g0)))))]) [0, 1, 2, 3] (by decide) rfl
  have hFc := va_freeP (cx := [(q0, .inr (11, [r0, r1, r2, .ref wk, .ref ds, va_rf qy, .ref p1, .ref p2])), (ds, .inl (cV, 4, .inr (.inr (.inr (.inr dg))))), (wk, .inr (10, [.ref wl, .int wa, .int wb, va_rf wr])), (wl, .inl (cV, 10000, .inr (.inr (.inr (.inr g0)))))]) hD hS hA [0, 1, 2, 3] rfl
  have hKc := hK.sub (tys' := [(cI, .int), (cV, .object "QueryBench$Value")]) [0, 1] rfl
  refine w_same (fun hq0 => ?_)
  refine vx_calli (vx_runV (As := [.int d]) (rest := [.int 0, .ref qo]) ⟨hx, hb, hml, hown, hts⟩ (p_QB_work l hl9 K dC dI s.heap cI cV E lv L f hI.po hI.2.1 q0 ds wk wl r0 r1 r2 p1 p2 wa wb wr g0 (nuF f) 80 qy hI.2.2.2 dg hI.2.2.1 d S X Y (hDQ.x hI.po)) (cwV 1 hts (gt_V (own := R_Law) (C := R_QB) (i := 35) (y := y_QB_work) i_QB_work z_1002 z_1003 z_1004 w_1) rfl rfl rfl (by decide +kernel) ⟨by show 90 + 5 * 80 + 1 ≤ 500; omega, by show 8 + (2 + 11) + (2700 + 200 * 80) ≤ 18800; omega⟩) ⟨ml_blind, va_recv hK hP (ci := 11) (q0 := 0) rfl rfl, fun U hU hW => ⟨rfl, ⟨hU, by rw [hU]; exact hPc, va_K.moved hW.alike hKc, hDc.weaken (fun _ _ _ _ => trivial)⟩, hN.warm hW, by rw [hU]; exact ZX.moved' hW.alike (ZX.narrow' (ZX.kept' hZ hS.2.1) hFc), by rw [hU]; exact CE.call hC hS.2.1 hFc hW, va_AO.moved hW.alike hV⟩⟩ rfl rfl hl.1 rfl (lv_room (Nat.le_of_ble_eq_true rfl)) d_Law_work_4 ⟨Nat.le_of_ble_eq_true rfl, Nat.le_of_ble_eq_true rfl⟩) hS (fun q _ h => hFc q h) hFc (fun q _ h => hFc q h) (fun En ce q9 ⟨wax, wbx, gx, wrx, nx⟩ t9 H1 locs ht hvm hw hB hz1 hk1 hS hce hcv hcl => ?_) (fun r9 ⟨wa3, wb3, g3, wr3, n3⟩ t9 H1 locs ht hvm hw hB hz1 hk1 hS => ?_)
  · obtain ⟨hEn, hP1, hK1, hD1⟩ := hB
    rw [ht] at hP1
    obtain ⟨hP, hD⟩ := va_joinP (wr := [(qo, .inl (cJ, 1, .inr (.inl g)))]) (rx := [(q0, .inr (11, [r0, r1, r2, .ref wk, .ref ds, va_rf qy, .ref p1, .ref p2])), (ds, .inl (cV, 4, .inr (.inr (.inr (.inr dg))))), (wk, .inr (10, [.ref wl, .int wax, .int wbx, va_rf wrx])), (wl, .inl (cV, 10000, .inr (.inr (.inr (.inr gx)))))]) (pl1 := va_pl L (pf f nx)) hP hD [0, 1, 2, 3] [4] rfl rfl (by decide) (by decide) hk1 hFc hP1 hD1
    generalize H1 = H at hP hS hce ⊢
    have hP : va_P (dC, dI) classes ([(qo, .inl (cJ, 1, .inr (.inl g))), (q0, .inr (11, [r0, r1, r2, .ref wk, .ref ds, va_rf qy, .ref p1, .ref p2])), (ds, .inl (cV, 4, .inr (.inr (.inr (.inr dg))))), (wk, .inr (10, [.ref wl, .int wax, .int wbx, va_rf wrx])), (wl, .inl (cV, 10000, .inr (.inr (.inr (.inr gx)))))] ++ va_pl L (pf f nx)) H := hP
    have hD : va_D A ([(qo, .inl (cJ, 1, .inr (.inl g))), (q0, .inr (11, [r0, r1, r2, .ref wk, .ref ds, va_rf qy, .ref p1, .ref p2])), (ds, .inl (cV, 4, .inr (.inr (.inr (.inr dg))))), (wk, .inr (10, [.ref wl, .int wax, .int wbx, va_rf wrx])), (wl, .inl (cV, 10000, .inr (.inr (.inr (.inr gx)))))] ++ va_pl L (pf f nx)) := hD
    have hP := hP.part (cx := [(q0, .inr (11, [r0, r1, r2, .ref wk, .ref ds, va_rf qy, .ref p1, .ref p2])), (ds, .inl (cV, 4, .inr (.inr (.inr (.inr dg))))), (wk, .inr (10, [.ref wl, .int wax, .int wbx, va_rf wrx])), (wl, .inl (cV, 10000, .inr (.inr (.inr (.inr gx))))), (qo, .inl (cJ, 1, .inr (.inl g)))]) [1, 2, 3, 4, 0] rfl
    have hD := hD.part (cx := [(q0, .inr (11, [r0, r1, r2, .ref wk, .ref ds, va_rf qy, .ref p1, .ref p2])), (ds, .inl (cV, 4, .inr (.inr (.inr (.inr dg))))), (wk, .inr (10, [.ref wl, .int wax, .int wbx, va_rf wrx])), (wl, .inl (cV, 10000, .inr (.inr (.inr (.inr gx))))), (qo, .inl (cJ, 1, .inr (.inl g)))]) [1, 2, 3, 4, 0] (by decide) rfl
    have hnu : NUg S (nuF f) nx := hw
    rcases hEn with ⟨hEn, hno⟩ | ⟨hEn, hno⟩ | ⟨hEn, hno⟩
    · subst hEn
      refine vx_catch (own := R_Law) (name := "java/lang/IllegalArgumentException") hown [] ⟨0, 9, 12, 19⟩ [⟨0, 9, 15, 33⟩, ⟨0, 9, 18, 13⟩] htab (fun z hz => nomatch hz) (by decide) (by decide) (hts _ w_255) (va_Nw.use rfl (hN _ nl_262)) hce hcv hcl ?_
      refine lv_astore_n (lv' := [(3, .ref q9), (0, .ref q0), (1, .int d), (2, .ref qo)]) hx hb d_Law_work_12 rfl hl (by decide) rfl (fun ls hl => ?_)
      refine lv_iconst (v := 1) hx hb d_Law_work_13 (by decide) ?_
      refine w_same (fun hq => ?_)
      refine W.widen (k := 1) (n := 6) (by show 1 ≤ 1; omega) (by show 6 ≤ 6; omega) ?_
      exact W.iret (v := 1) hx hb hr (fun t9 ht hW => ⟨⟨1, (pf f nx, wax, wbx, gx, wrx, g), rfl, ⟨hI.num nx, hDQ.num hI hnu, Or.inr (Or.inl ⟨rfl, hno⟩)⟩, ⟨by rw [ht]; exact hP, va_K.moved hW.alike hK, hD⟩, by rw [ht]; exact hq.mono (by show 1 ≤ 1; omega) (by show 6 ≤ 6; omega)⟩, hS.F ht⟩) hS.2.2 d_Law_work_14
    · subst hEn
      refine vx_catch (own := R_Law) (name := "java/lang/IllegalStateException") hown [⟨0, 9, 12, 19⟩] ⟨0, 9, 15, 33⟩ [⟨0, 9, 18, 13⟩] htab (List.forall_mem_cons.mpr ⟨Or.inr ⟨by decide, "java/lang/IllegalArgumentException", hts _ w_255, hNC.2.1⟩, (fun _ h => nomatch h)⟩) (by decide) (by decide) (hts _ z_807) (va_Nw.use rfl (hN _ nz_818)) hce hcv hcl ?_
      refine lv_astore_n (lv' := [(3, .ref q9), (0, .ref q0), (1, .int d), (2, .ref qo)]) hx hb d_Law_work_15 rfl hl (by decide) rfl (fun ls hl => ?_)
      refine lv_iconst (v := 2) hx hb d_Law_work_16 (by decide) ?_
      refine w_same (fun hq => ?_)
      refine W.widen (k := 1) (n := 6) (by show 1 ≤ 1; omega) (by show 6 ≤ 6; omega) ?_
      exact W.iret (v := 2) hx hb hr (fun t9 ht hW => ⟨⟨2, (pf f nx, wax, wbx, gx, wrx, g), rfl, ⟨hI.num nx, hDQ.num hI hnu, Or.inr (Or.inr (Or.inl ⟨rfl, hno⟩))⟩, ⟨by rw [ht]; exact hP, va_K.moved hW.alike hK, hD⟩, by rw [ht]; exact hq.mono (by show 1 ≤ 1; omega) (by show 6 ≤ 6; omega)⟩, hS.F ht⟩) hS.2.2 d_Law_work_17
    · subst hEn
      refine vx_catch (own := R_Law) (name := "java/lang/IndexOutOfBoundsException") hown [⟨0, 9, 12, 19⟩, ⟨0, 9, 15, 33⟩] ⟨0, 9, 18, 13⟩ [] htab (List.forall_mem_cons.mpr ⟨Or.inr ⟨by decide, "java/lang/IllegalArgumentException", hts _ w_255, hNC.2.2.1⟩, List.forall_mem_cons.mpr ⟨Or.inr ⟨by decide, "java/lang/IllegalStateException", hts _ z_807, hNC.2.2.2⟩, (fun _ h => nomatch h)⟩⟩) (by decide) (by decide) (hts _ w_179) (va_Nw.use rfl (hN _ nl_186)) hce hcv hcl ?_
      refine lv_astore_n (lv' := [(3, .ref q9), (0, .ref q0), (1, .int d), (2, .ref qo)]) hx hb d_Law_work_18 rfl hl (by decide) rfl (fun ls hl => ?_)
      refine lv_iconst (v := 3) hx hb d_Law_work_19 (by decide) ?_
      refine w_same (fun hq => ?_)
      refine W.widen (k := 1) (n := 6) (by show 1 ≤ 1; omega) (by show 6 ≤ 6; omega) ?_
      exact W.iret (v := 3) hx hb hr (fun t9 ht hW => ⟨⟨3, (pf f nx, wax, wbx, gx, wrx, g), rfl, ⟨hI.num nx, hDQ.num hI hnu, Or.inr (Or.inr (Or.inr ⟨rfl, hno⟩))⟩, ⟨by rw [ht]; exact hP, va_K.moved hW.alike hK, hD⟩, by rw [ht]; exact hq.mono (by show 1 ≤ 1; omega) (by show 6 ≤ 6; omega)⟩, hS.F ht⟩) hS.2.2 d_Law_work_20
  · obtain ⟨⟨hP1, hK1, hD1⟩, hz9⟩ := hB
    rw [ht] at hP1
    rw [ht] at hz9
    have hq0 : szk s.heap H1 (0) (0) := (hq0.trans hz9).mono (Nat.le_refl _) (Nat.le_refl _)
    refine w_tight hq0 ?_
    obtain ⟨hP, hD⟩ := va_joinP (wr := [(qo, .inl (cJ, 1, .inr (.inl g)))]) (rx := [(q0, .inr (11, [r0, r1, r2, .ref wk, .ref ds, va_rf qy, .ref p1, .ref p2])), (ds, .inl (cV, 4, .inr (.inr (.inr (.inr dg))))), (wk, .inr (10, [.ref wl, .int wa3, .int wb3, va_rf wr3])), (wl, .inl (cV, 10000, .inr (.inr (.inr (.inr g3)))))]) (pl1 := va_pl L (pf f n3)) hP hD [0, 1, 2, 3] [4] rfl rfl (by decide) (by decide) hk1 hFc hP1 hD1
    generalize H1 = H at hP hS hq0 ⊢
    have hP : va_P (dC, dI) classes ([(qo, .inl (cJ, 1, .inr (.inl g))), (q0, .inr (11, [r0, r1, r2, .ref wk, .ref ds, va_rf qy, .ref p1, .ref p2])), (ds, .inl (cV, 4, .inr (.inr (.inr (.inr dg))))), (wk, .inr (10, [.ref wl, .int wa3, .int wb3, va_rf wr3])), (wl, .inl (cV, 10000, .inr (.inr (.inr (.inr g3)))))] ++ va_pl L (pf f n3)) H := hP
    have hD : va_D A ([(qo, .inl (cJ, 1, .inr (.inl g))), (q0, .inr (11, [r0, r1, r2, .ref wk, .ref ds, va_rf qy, .ref p1, .ref p2])), (ds, .inl (cV, 4, .inr (.inr (.inr (.inr dg))))), (wk, .inr (10, [.ref wl, .int wa3, .int wb3, va_rf wr3])), (wl, .inl (cV, 10000, .inr (.inr (.inr (.inr g3)))))] ++ va_pl L (pf f n3)) := hD
    have hP := hP.part (cx := [(q0, .inr (11, [r0, r1, r2, .ref wk, .ref ds, va_rf qy, .ref p1, .ref p2])), (ds, .inl (cV, 4, .inr (.inr (.inr (.inr dg))))), (wk, .inr (10, [.ref wl, .int wa3, .int wb3, va_rf wr3])), (wl, .inl (cV, 10000, .inr (.inr (.inr (.inr g3))))), (qo, .inl (cJ, 1, .inr (.inl g)))]) [1, 2, 3, 4, 0] rfl
    have hD := hD.part (cx := [(q0, .inr (11, [r0, r1, r2, .ref wk, .ref ds, va_rf qy, .ref p1, .ref p2])), (ds, .inl (cV, 4, .inr (.inr (.inr (.inr dg))))), (wk, .inr (10, [.ref wl, .int wa3, .int wb3, va_rf wr3])), (wl, .inl (cV, 10000, .inr (.inr (.inr (.inr g3))))), (qo, .inl (cJ, 1, .inr (.inl g)))]) [1, 2, 3, 4, 0] (by decide) rfl
    obtain ⟨⟨j7, x7, m7, hj7, hd7, hX7, hY7, hle7, hr9⟩, hnu⟩ := hw
    have hnu : NUg S (nuF f) n3 := hnu
    have hr9 : r9 = nI (m7 (rtN x7) (rtN x7)).2 := hr9
    refine lv_i2l (v := r9.toInt64) hx hb d_Law_work_7 rfl ?_
    refine va_last hx hb hK hP hD hS 4 2 rfl rfl (vp_in_nI (n := 0) (by decide) (by decide)) d_Law_work_8 (fun H locs hP hD hS => ?_)
    have hP : va_P (dC, dI) classes ([(q0, .inr (11, [r0, r1, r2, .ref wk, .ref ds, va_rf qy, .ref p1, .ref p2])), (ds, .inl (cV, 4, .inr (.inr (.inr (.inr dg))))), (wk, .inr (10, [.ref wl, .int wa3, .int wb3, va_rf wr3])), (wl, .inl (cV, 10000, .inr (.inr (.inr (.inr g3))))), (qo, .inl (cJ, 1, .inr (.inl (vp_updL g 0 (r9.toInt64)))))] ++ va_pl L (pf f n3)) H := hP
    have hD : va_D A ([(q0, .inr (11, [r0, r1, r2, .ref wk, .ref ds, va_rf qy, .ref p1, .ref p2])), (ds, .inl (cV, 4, .inr (.inr (.inr (.inr dg))))), (wk, .inr (10, [.ref wl, .int wa3, .int wb3, va_rf wr3])), (wl, .inl (cV, 10000, .inr (.inr (.inr (.inr g3))))), (qo, .inl (cJ, 1, .inr (.inl (vp_updL g 0 (r9.toInt64)))))] ++ va_pl L (pf f n3)) := hD
    refine lv_goto (tgt := 21) hx hb d_Law_work_9 (by decide) ?_
    refine lv_iconst (v := 0) hx hb d_Law_work_21 (by decide) ?_
    refine w_same (fun hq => ?_)
    refine W.widen (k := 1) (n := 6) (by show 0 ≤ 1; omega) (by show 0 ≤ 6; omega) ?_
    exact W.iret (v := 0) hx hb hr (fun t9 ht hW => ⟨⟨0, (pf f n3, wa3, wb3, g3, wr3, vp_updL g 0 (r9.toInt64)), rfl, ⟨hI.num n3, hDQ.num hI hnu, Or.inl ⟨rfl, j7, x7, m7, hj7, hd7, hX7, hY7, hle7, by rw [← hr9]; rfl⟩⟩, ⟨by rw [ht]; exact hP, va_K.moved hW.alike hK, hD⟩, by rw [ht]; exact hq.mono (by show 0 ≤ 1; omega) (by show 0 ≤ 6; omega)⟩, hS.F ht⟩) hS.2.2 d_Law_work_22
