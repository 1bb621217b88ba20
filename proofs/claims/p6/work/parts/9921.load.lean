theorem z_49 : (.fieldLink "QueryBench$JsonReader" 35 "QueryBench$Tape" "end" "I" : Cond) ∈ gtbl := gt_in 49 (by decide +kernel) (by decide +kernel)
theorem z_82 : (.fieldLink "QueryBench" 79 "QueryBench$JsonReader" "deepest" "I" : Cond) ∈ gtbl := gt_in 82 (by decide +kernel) (by decide +kernel)
theorem z_286 : (.methodLink "QueryBench" 72 ⟨"QueryBench$Tape", "beginReading", "()V"⟩ : Cond) ∈ gtbl := gt_in 286 (by decide +kernel) (by decide +kernel)
theorem z_287 : (.instanceMethod ⟨"QueryBench$Tape", "beginReading", "()V"⟩ : Cond) ∈ gtbl := gt_in 287 (by decide +kernel) (by decide +kernel)
theorem z_288 : (.selects "QueryBench$Tape" ⟨"QueryBench$Tape", "beginReading", "()V"⟩ ⟨"QueryBench$Tape", "beginReading", "()V"⟩ : Cond) ∈ gtbl := gt_in 288 (by decide +kernel) (by decide +kernel)
theorem z_290 : (.methodLink "QueryBench" 75 ⟨"QueryBench$JsonReader", "document", "()LQueryBench$Value;"⟩ : Cond) ∈ gtbl := gt_in 290 (by decide +kernel) (by decide +kernel)
theorem z_291 : (.instanceMethod ⟨"QueryBench$JsonReader", "document", "()LQueryBench$Value;"⟩ : Cond) ∈ gtbl := gt_in 291 (by decide +kernel) (by decide +kernel)
theorem z_292 : (.selects "QueryBench$JsonReader" ⟨"QueryBench$JsonReader", "document", "()LQueryBench$Value;"⟩ ⟨"QueryBench$JsonReader", "document", "()LQueryBench$Value;"⟩ : Cond) ∈ gtbl := gt_in 292 (by decide +kernel) (by decide +kernel)
abbrev b_JsonReader_document : ByteArray := prog_3_method_2_code
def y_JsonReader_document : MethodName := ⟨"QueryBench$JsonReader", "document", "()LQueryBench$Value;"⟩
abbrev k_JsonReader_document : Cond := .code y_JsonReader_document b_JsonReader_document 2 (some (.object "QueryBench$Value"))
theorem i_JsonReader_document : k_JsonReader_document ∈ gtbl := gt_in 293 (by decide +kernel) (by decide +kernel)
theorem d_JsonReader_document_0 : decode b_JsonReader_document 0 = .ok (.aload_n 0, 1) := by decide +kernel
theorem d_JsonReader_document_1 : decode b_JsonReader_document 1 = .ok (.iconst 0, 1) := by decide +kernel
theorem d_JsonReader_document_2 : decode b_JsonReader_document 2 = .ok (.putfield 15, 3) := by decide +kernel
theorem d_JsonReader_document_5 : decode b_JsonReader_document 5 = .ok (.aload_n 0, 1) := by decide +kernel
theorem d_JsonReader_document_6 : decode b_JsonReader_document 6 = .ok (.iconst 0, 1) := by decide +kernel
theorem d_JsonReader_document_7 : decode b_JsonReader_document 7 = .ok (.putfield 19, 3) := by decide +kernel
theorem d_JsonReader_document_10 : decode b_JsonReader_document 10 = .ok (.aload_n 0, 1) := by decide +kernel
theorem d_JsonReader_document_11 : decode b_JsonReader_document 11 = .ok (.aconst_null, 1) := by decide +kernel
theorem d_JsonReader_document_12 : decode b_JsonReader_document 12 = .ok (.putfield 22, 3) := by decide +kernel
theorem d_JsonReader_document_15 : decode b_JsonReader_document 15 = .ok (.aload_n 0, 1) := by decide +kernel
theorem d_JsonReader_document_16 : decode b_JsonReader_document 16 = .ok (.iconst 0, 1) := by decide +kernel
theorem d_JsonReader_document_17 : decode b_JsonReader_document 17 = .ok (.invokevirtual 26, 3) := by decide +kernel
theorem d_JsonReader_document_20 : decode b_JsonReader_document 20 = .ok (.astore_n 1, 1) := by decide +kernel
theorem d_JsonReader_document_21 : decode b_JsonReader_document 21 = .ok (.aload_n 0, 1) := by decide +kernel
theorem d_JsonReader_document_22 : decode b_JsonReader_document 22 = .ok (.getfield 9, 3) := by decide +kernel
theorem d_JsonReader_document_25 : decode b_JsonReader_document 25 = .ok (.getfield 30, 3) := by decide +kernel
theorem d_JsonReader_document_28 : decode b_JsonReader_document 28 = .ok (.aload_n 0, 1) := by decide +kernel
theorem d_JsonReader_document_29 : decode b_JsonReader_document 29 = .ok (.getfield 9, 3) := by decide +kernel
theorem d_JsonReader_document_32 : decode b_JsonReader_document 32 = .ok (.getfield 35, 3) := by decide +kernel
theorem d_JsonReader_document_35 : decode b_JsonReader_document 35 = .ok (.if_icmp .ge 17, 3) := by decide +kernel
theorem d_JsonReader_document_38 : decode b_JsonReader_document 38 = .ok (.aload_n 0, 1) := by decide +kernel
theorem d_JsonReader_document_39 : decode b_JsonReader_document 39 = .ok (.getfield 9, 3) := by decide +kernel
theorem d_JsonReader_document_42 : decode b_JsonReader_document 42 = .ok (.aload_n 0, 1) := by decide +kernel
theorem d_JsonReader_document_43 : decode b_JsonReader_document 43 = .ok (.getfield 9, 3) := by decide +kernel
theorem d_JsonReader_document_46 : decode b_JsonReader_document 46 = .ok (.getfield 30, 3) := by decide +kernel
theorem d_JsonReader_document_49 : decode b_JsonReader_document 49 = .ok (.invokevirtual 38, 3) := by decide +kernel
theorem d_JsonReader_document_52 : decode b_JsonReader_document 52 = .ok (.aload_n 1, 1) := by decide +kernel
theorem d_JsonReader_document_53 : decode b_JsonReader_document 53 = .ok (.areturn, 1) := by decide +kernel
set_option maxHeartbeats 4000000 in
set_option maxRecDepth 100000 in
/-- JsonReader.document -/
theorem c_JsonReader_document (l : Launch) (hl9 : l.stackTraces = false) (K : Nat → Nat × Nat) (dC : Nat → ClassId) (dI : Nat → Nat → Nat) (cI cV : ClassId) (lv : Nat → Nat) (cB : ClassId) (h0 qb qu : Nat) (ln : Int32) (bf : Nat → Int32) (n jr : Nat) (hn0 : n ≤ 4096) (hbf : byR bf) (sz : Heap) (E : Nat → Nat) (L : List Nat) (f : Nat → va_E) (hO : PO cI cV E lv L f) (i : Nat) (uc pl : Int32) (ug : Nat → Int32) (dp md : Int32) (la : Option Nat) (hin : i ≤ n) (hi0 : i = 0) : vx_Met l y_JsonReader_document (k_JsonReader_document :: gtbl) ({ frames := 120, cells := 2 * (n - i) + 4, slots := 16 * (n - i) + 40, locals := 3300 }) (va_Pc [.ref jr] (ml K dC dI ([(jr, .inr (1, [.ref h0, .int dp, .int md, va_rf la])), (h0, .inr (8, [.ref qb, .ref qu, .int uc, .int ln, .int (nI n), .int (nI i), .int pl])), (qb, .inl (cB, 4096, .inl bf)), (qu, .inl (cI, 4096, .inl ug))] ++ va_pl L f) [(cB, .byte), (cI, .int), (cV, .object "QueryBench$Value")] sz)) (va_Qr (fun (u : Nat × Nat × List Nat × (Nat → Nat) × (Nat → va_E) × Int32 × (Nat → Int32) × Int32 × Int32 × Nat) => JP cI cV E lv L f none i n u.1 u.2.1 u.2.2.1 u.2.2.2.1 u.2.2.2.2.1 u.2.2.2.2.2.2.2.2.2 ∧ ∃ x, jR bf n = some x ∧ u.2.2.2.2.2.2.2.1 = nI (dpJ 32 x) ∧ DCx E u.2.2.2.1 u.2.2.2.2.1 u.1 x) (fun u a9 t9 => mz dC dI ([(jr, .inr (1, [.ref h0, .int u.2.2.2.2.2.2.2.1, .int u.2.2.2.2.2.2.2.2.1, .ref u.2.2.2.2.2.2.2.2.2])), (h0, .inr (8, [.ref qb, .ref qu, .int u.2.2.2.2.2.1, .int ln, .int (nI n), .int (nI u.2.1), .int pl])), (qb, .inl (cB, 4096, .inl bf)), (qu, .inl (cI, 4096, .inl u.2.2.2.2.2.2.1))] ++ va_pl ((L ++ u.2.2.1)) u.2.2.2.2.1) [(cB, .byte), (cI, .int), (cV, .object "QueryBench$Value")] (va_A ([(jr, .inr (1, [.ref h0, .int dp, .int md, va_rf la])), (h0, .inr (8, [.ref qb, .ref qu, .int uc, .int ln, .int (nI n), .int (nI i), .int pl])), (qb, .inl (cB, 4096, .inl bf)), (qu, .inl (cI, 4096, .inl ug))] ++ va_pl L f) sz.size) t9 ∧ szk sz t9.heap (2 * (u.2.1 - i)) (16 * (u.2.1 - i)) ∧ a9 = u.1) (va_A ([(jr, .inr (1, [.ref h0, .int dp, .int md, va_rf la])), (h0, .inr (8, [.ref qb, .ref qu, .int uc, .int ln, .int (nI n), .int (nI i), .int pl])), (qb, .inl (cB, 4096, .inl bf)), (qu, .inl (cI, 4096, .inl ug))] ++ va_pl L f) sz.size)) (vx_X (fun (u : Int32 × Int32 × Int32 × (Nat → Int32) × Int32 × Int32 × Option Nat × (Nat → va_E)) => (∀ a, E a ≠ 0 → u.2.2.2.2.2.2.2 a = f a) ∧ jR bf n = none) (fun En u t9 => En = UOX ∧ mz dC dI ([(jr, .inr (1, [.ref h0, .int u.2.2.2.2.1, .int u.2.2.2.2.2.1, va_rf u.2.2.2.2.2.2.1])), (h0, .inr (8, [.ref qb, .ref qu, .int u.2.1, .int ln, .int (nI n), .int u.1, .int u.2.2.1])), (qb, .inl (cB, 4096, .inl bf)), (qu, .inl (cI, 4096, .inl u.2.2.2.1))] ++ va_pl L u.2.2.2.2.2.2.2) [(cB, .byte), (cI, .int), (cV, .object "QueryBench$Value")] (va_A ([(jr, .inr (1, [.ref h0, .int dp, .int md, va_rf la])), (h0, .inr (8, [.ref qb, .ref qu, .int uc, .int ln, .int (nI n), .int (nI i), .int pl])), (qb, .inl (cB, 4096, .inl bf)), (qu, .inl (cI, 4096, .inl ug))] ++ va_pl L f) sz.size) t9) (va_A ([(jr, .inr (1, [.ref h0, .int dp, .int md, va_rf la])), (h0, .inr (8, [.ref qb, .ref qu, .int uc, .int ln, .int (nI n), .int (nI i), .int pl])), (qb, .inl (cB, 4096, .inl bf)), (qu, .inl (cI, 4096, .inl ug))] ++ va_pl L f) sz.size)) (2 * (n - i) + 4) (16 * (n - i) + 40) (va_A ([(jr, .inr (1, [.ref h0, .int dp, .int md, va_rf la])), (h0, .inr (8, [.ref qb, .ref qu, .int uc, .int ln, .int (nI n), .int (nI i), .int pl])), (qb, .inl (cB, 4096, .inl bf)), (qu, .inl (cI, 4096, .inl ug))] ++ va_pl L f) sz.size) := by
  refine vx_ofW (cc := b_JsonReader_document) (maxL := 2) (ret := (some (.object "QueryBench$Value"))) (by decide) rfl ?_
  intro p e s m args below meth c s₁ B hml hex hv
  obtain ⟨rfl, ⟨hsz, hP, hK, hD0⟩, hN, hZ, hC, hV⟩ := hv
  have hx := B.exec
  have hb := B.bytes
  have hr := B.returns
  have hts0 := atoms_spec (ws := k_JsonReader_document :: gtbl) B.pre
  have hts := fun w h => hts0 w (List.mem_cons_of_mem _ h)
  have hown : s.vm.findClass R_JsonReader = some m.cls := findClass_of_methodNamed B.named
  have hlocks := B.notSynchronized
  subst hsz
  have hD := hD0.self (sz := s.heap.size)
  generalize hAe : va_A ([(jr, .inr (1, [.ref h0, .int dp, .int md, va_rf la])), (h0, .inr (8, [.ref qb, .ref qu, .int uc, .int ln, .int (nI n), .int (nI i), .int pl])), (qb, .inl (cB, 4096, .inl bf)), (qu, .inl (cI, 4096, .inl ug))] ++ va_pl L f) s.heap.size = A at hD hZ hC ⊢
  have hA : ∀ q : Nat, s.heap.size ≤ q → A q := fun q h => by rw [← hAe]; exact Or.inr h
  have hS : va_S A s.heap s.heap [] := va_S.rf
  have hP : va_P (dC, dI) classes ([(jr, .inr (1, [.ref h0, .int dp, .int md, va_rf la])), (h0, .inr (8, [.ref qb, .ref qu, .int uc, .int ln, .int (nI n), .int (nI i), .int pl])), (qb, .inl (cB, 4096, .inl bf)), (qu, .inl (cI, 4096, .inl ug))] ++ va_pl L f) s.heap := hP
  have hl := lv_entry ([.ref jr]) (n := 2) (Nat.le_of_ble_eq_true rfl)
  rw [lg_entry_eq]
  generalize (lg_sl ([.ref jr]) ++ List.replicate (2 - (lg_sl ([.ref jr])).length) Slot.unset).toArray = ls at hl ⊢
  have hl : lv_has ls 2 [(0, .ref jr)] := hl
  refine lv_aload_n hx hb d_JsonReader_document_0 rfl (lv_at hl 0 rfl) ?_
  refine lv_iconst (v := 0) hx hb d_JsonReader_document_1 (by decide) ?_
  refine va_put (D := (dC, dI)) (ci := 1) (v := .int 0) (ty := .int) (C := R_JsonReader) (T := F_JsonReader) (N := 4) hx hb hts in_JsonReader t_JsonReader t_JsonReader_ok n_JsonReader hown hK hP hD hS 0 rfl rfl 1 (by decide) (hts _ z_81) (fun _ h9 => h9) rfl (by decide +kernel) rfl rfl (Nat.le_of_ble_eq_true rfl) d_JsonReader_document_2 (fun H locs hP hD hS => ?_)
  have hP : va_P (dC, dI) classes ([(jr, .inr (1, [.ref h0, .int 0, .int md, va_rf la])), (h0, .inr (8, [.ref qb, .ref qu, .int uc, .int ln, .int (nI n), .int (nI i), .int pl])), (qb, .inl (cB, 4096, .inl bf)), (qu, .inl (cI, 4096, .inl ug))] ++ va_pl L f) H := hP
  have hD : va_D A ([(jr, .inr (1, [.ref h0, .int 0, .int md, va_rf la])), (h0, .inr (8, [.ref qb, .ref qu, .int uc, .int ln, .int (nI n), .int (nI i), .int pl])), (qb, .inl (cB, 4096, .inl bf)), (qu, .inl (cI, 4096, .inl ug))] ++ va_pl L f) := hD
  refine lv_aload_n hx hb d_JsonReader_document_5 rfl (lv_at hl 0 rfl) ?_
  refine lv_iconst (v := 0) hx hb d_JsonReader_document_6 (by decide) ?_
  refine va_put (D := (dC, dI)) (ci := 1) (v := .int 0) (ty := .int) (C := R_JsonReader) (T := F_JsonReader) (N := 4) hx hb hts in_JsonReader t_JsonReader t_JsonReader_ok n_JsonReader hown hK hP hD hS 0 rfl rfl 2 (by decide) (hts _ z_83) (fun _ h9 => h9) rfl (by decide +kernel) rfl rfl (Nat.le_of_ble_eq_true rfl) d_JsonReader_document_7 (fun H locs hP hD hS => ?_)
  have hP : va_P (dC, dI) classes ([(jr, .inr (1, [.ref h0, .int 0, .int 0, va_rf la])), (h0, .inr (8, [.ref qb, .ref qu, .int uc, .int ln, .int (nI n), .int (nI i), .int pl])), (qb, .inl (cB, 4096, .inl bf)), (qu, .inl (cI, 4096, .inl ug))] ++ va_pl L f) H := hP
  have hD : va_D A ([(jr, .inr (1, [.ref h0, .int 0, .int 0, va_rf la])), (h0, .inr (8, [.ref qb, .ref qu, .int uc, .int ln, .int (nI n), .int (nI i), .int pl])), (qb, .inl (cB, 4096, .inl bf)), (qu, .inl (cI, 4096, .inl ug))] ++ va_pl L f) := hD
  refine lv_aload_n hx hb d_JsonReader_document_10 rfl (lv_at hl 0 rfl) ?_
  refine lv_null hx hb d_JsonReader_document_11 ?_
  refine va_put (D := (dC, dI)) (ci := 1) (v := .null) (ty := .object "QueryBench$Value") (C := R_JsonReader) (T := F_JsonReader) (N := 4) hx hb hts in_JsonReader t_JsonReader t_JsonReader_ok n_JsonReader hown hK hP hD hS 0 rfl rfl 3 (by decide) (hts _ z_84) (fun _ h9 => h9) rfl (by decide +kernel) rfl rfl (Nat.le_of_ble_eq_true rfl) d_JsonReader_document_12 (fun H locs hP hD hS => ?_)
  have hP : va_P (dC, dI) classes ([(jr, .inr (1, [.ref h0, .int 0, .int 0, .null])), (h0, .inr (8, [.ref qb, .ref qu, .int uc, .int ln, .int (nI n), .int (nI i), .int pl])), (qb, .inl (cB, 4096, .inl bf)), (qu, .inl (cI, 4096, .inl ug))] ++ va_pl L f) H := hP
  have hD : va_D A ([(jr, .inr (1, [.ref h0, .int 0, .int 0, .null])), (h0, .inr (8, [.ref qb, .ref qu, .int uc, .int ln, .int (nI n), .int (nI i), .int pl])), (qb, .inl (cB, 4096, .inl bf)), (qu, .inl (cI, 4096, .inl ug))] ++ va_pl L f) := hD
  refine lv_aload_n hx hb d_JsonReader_document_15 rfl (lv_at hl 0 rfl) ?_
  refine lv_iconst (v := 0) hx hb d_JsonReader_document_16 (by decide) ?_
  have hPc := hP.part (cx := [(jr, .inr (1, [.ref h0, .int 0, .int 0, .null])), (h0, .inr (8, [.ref qb, .ref qu, .int uc, .int ln, .int (nI n), .int (nI i), .int pl])), (qb, .inl (cB, 4096, .inl bf)), (qu, .inl (cI, 4096, .inl ug))]) [0, 1, 2, 3] rfl
  have hDc := hD.part (cx := [(jr, .inr (1, [.ref h0, .int 0, .int 0, .null])), (h0, .inr (8, [.ref qb, .ref qu, .int uc, .int ln, .int (nI n), .int (nI i), .int pl])), (qb, .inl (cB, 4096, .inl bf)), (qu, .inl (cI, 4096, .inl ug))]) [0, 1, 2, 3] (by decide) rfl
  have hFc := va_freeP (cx := [(jr, .inr (1, [.ref h0, .int 0, .int 0, .null])), (h0, .inr (8, [.ref qb, .ref qu, .int uc, .int ln, .int (nI n), .int (nI i), .int pl])), (qb, .inl (cB, 4096, .inl bf)), (qu, .inl (cI, 4096, .inl ug))]) hD hS hA [0, 1, 2, 3] rfl
  have hKc := hK.sub (tys' := [(cB, .byte), (cI, .int), (cV, .object "QueryBench$Value")]) [0, 1, 2] rfl
  refine w_same (fun hq0 => ?_)
  refine vx_callr (vx_runV (As := [.int 0]) (rest := []) ⟨hx, hb, hml, hown, hts⟩ ((c_JVall l hl9 K dC dI cI cV lv cB h0 qb qu ln bf n jr hn0 hbf 32 0 rfl) H E L f i uc pl ug 0 0 none 0 hO (fun b h => (nomatch h)) hin rfl (Nat.le_refl 0) (Nat.zero_le _)) (cwV 1 hts (gt_V (own := R_JsonReader) (C := R_JsonReader) (i := 26) (y := y_JsonReader_value) i_JsonReader_value z_294 z_296 (gt_sel (y := y_JsonReader_value) (n := 4) (by decide +kernel)) w_3) rfl rfl rfl (by decide +kernel) ⟨by show 16 + 3 * 32 + 1 ≤ 120; omega, by show 8 + (4 + 11) + (350 + 90 * 32) ≤ 3300; omega⟩) ⟨ml_blind, va_recv hK hP (ci := 1) (q0 := 0) rfl rfl, fun U hU hW => ⟨rfl, ⟨hU, by rw [hU]; exact hPc, va_K.moved hW.alike hKc, hDc.weaken (fun _ _ _ _ => trivial)⟩, hN.warm hW, by rw [hU]; exact ZX.moved' hW.alike (ZX.narrow' (ZX.kept' hZ hS.2.1) hFc), by rw [hU]; exact CE.call hC hS.2.1 hFc hW, va_AO.moved hW.alike hV⟩⟩ rfl rfl hl.1 rfl (lv_room (Nat.le_of_ble_eq_true rfl)) d_JsonReader_document_17 ⟨by show 0 + (2 * (n - i) + 4) ≤ 2 * (n - i) + 4; omega, by show 0 + (16 * (n - i) + 40) ≤ 16 * (n - i) + 40; omega⟩) hS (fun q _ h => hFc q h) hFc (fun q _ h => hFc q h) (fun En ce q9 ⟨ax, cx, px, gx, dx, mx, lx, fx⟩ t9 H1 locs ht hvm hw hB hz1 hk1 hS hce hcv hcl => ?_) (fun ⟨v3, p3, N3, E3, f3, uc3, ug3, dp3, md3, lb3⟩ v9 t9 H1 locs ht hvm hw hB hz1 hk1 hS => ?_)
  · obtain ⟨hEn, hP1, hK1, hD1⟩ := hB
    rw [ht] at hP1
    obtain ⟨hP, hD⟩ := va_joinP (wr := []) (rx := [(jr, .inr (1, [.ref h0, .int dx, .int mx, va_rf lx])), (h0, .inr (8, [.ref qb, .ref qu, .int cx, .int ln, .int (nI n), .int ax, .int px])), (qb, .inl (cB, 4096, .inl bf)), (qu, .inl (cI, 4096, .inl gx))]) (pl1 := va_pl L fx) hP hD [0, 1, 2, 3] [] rfl rfl (by decide) (by decide) hk1 hFc hP1 hD1
    generalize H1 = H at hP hS hce ⊢
    have hP : va_P (dC, dI) classes ([(jr, .inr (1, [.ref h0, .int dx, .int mx, va_rf lx])), (h0, .inr (8, [.ref qb, .ref qu, .int cx, .int ln, .int (nI n), .int ax, .int px])), (qb, .inl (cB, 4096, .inl bf)), (qu, .inl (cI, 4096, .inl gx))] ++ va_pl L fx) H := hP
    have hD : va_D A ([(jr, .inr (1, [.ref h0, .int dx, .int mx, va_rf lx])), (h0, .inr (8, [.ref qb, .ref qu, .int cx, .int ln, .int (nI n), .int ax, .int px])), (qb, .inl (cB, 4096, .inl bf)), (qu, .inl (cI, 4096, .inl gx))] ++ va_pl L fx) := hD
    have hkx : ∀ a, E a ≠ 0 → fx a = f a := fun a ha => (show ∀ a, E a ≠ 0 → none ≠ some a → fx a = f a from hw.1) a ha (fun h => by cases h)
    have hno : jR bf n = none := jR_0 (by rw [← hi0]; exact hw.2)
    exact vx_out (fun x hx => (hex x hx).elim) hlocks hce hcv hcl (fun t9 ht2 ha => ⟨(ax, cx, px, gx, dx, mx, lx, fx), ⟨hkx, hno⟩, ⟨hEn, by rw [ht2]; exact hP, va_K.moved ha hK, hD⟩, hS.F ht2⟩) hS.2.2 (by show 0 + (2 * (n - i) + 4) ≤ 2 * (n - i) + 4; omega) (by show 0 + (16 * (n - i) + 40) ≤ 16 * (n - i) + 40; omega)
  · obtain ⟨⟨hP1, hK1, hD1⟩, hz9, ha9⟩ := hB
    rw [ht] at hP1
    rw [ht] at hz9
    have ha9 : v9 = v3 := ha9
    subst ha9
    have hq0 : szk s.heap H1 (0 + 2 * (p3 - i)) (0 + (16 * (p3 - i) - 1)) := (hq0.trans hz9).mono (Nat.le_refl _) (Nat.le_refl _)
    refine w_tight hq0 ?_
    obtain ⟨hP, hD⟩ := va_joinP (wr := []) (rx := [(jr, .inr (1, [.ref h0, .int dp3, .int md3, .ref lb3])), (h0, .inr (8, [.ref qb, .ref qu, .int uc3, .int ln, .int (nI n), .int (nI p3), .int pl])), (qb, .inl (cB, 4096, .inl bf)), (qu, .inl (cI, 4096, .inl ug3))]) (pl1 := va_pl ((L ++ N3)) f3) hP hD [0, 1, 2, 3] [] rfl rfl (by decide) (by decide) hk1 hFc hP1 hD1
    generalize H1 = H at hP hS hq0 ⊢
    have hP : va_P (dC, dI) classes ([(jr, .inr (1, [.ref h0, .int dp3, .int md3, .ref lb3])), (h0, .inr (8, [.ref qb, .ref qu, .int uc3, .int ln, .int (nI n), .int (nI p3), .int pl])), (qb, .inl (cB, 4096, .inl bf)), (qu, .inl (cI, 4096, .inl ug3))] ++ va_pl ((L ++ N3)) f3) H := hP
    have hD : va_D A ([(jr, .inr (1, [.ref h0, .int dp3, .int md3, .ref lb3])), (h0, .inr (8, [.ref qb, .ref qu, .int uc3, .int ln, .int (nI n), .int (nI p3), .int pl])), (qb, .inl (cB, 4096, .inl bf)), (qu, .inl (cI, 4096, .inl ug3))] ++ va_pl ((L ++ N3)) f3) := hD
    obtain ⟨hw, xv, ct3, hJF, hOB, -⟩ := hw
    have hJF : JFx bf n 32 0 i p3 0 dp3 xv := hJF
    have hOB : OBJ E E3 none f3 v9 lb3 ct3 32 xv := hOB
    obtain ⟨hjv, hdp3⟩ := hJF
    rw [hi0] at hjv
    have hJ : JP cI cV E lv L f none i n v9 p3 N3 E3 f3 lb3 := hw
    obtain ⟨hp3, hp4⟩ := hJ.num
    refine lv_astore_n (lv' := [(1, .ref v9), (0, .ref jr)]) hx hb d_JsonReader_document_20 rfl hl (by decide) rfl (fun ls hl => ?_)
    refine lv_aload_n hx hb d_JsonReader_document_21 rfl (lv_at hl 1 rfl) ?_
    refine va_get (D := (dC, dI)) (ci := 1) (v := .ref h0) (C := R_JsonReader) (T := F_JsonReader) (N := 4) hx hb hts in_JsonReader hown hK hP 0 rfl rfl 0 (by decide) (hts _ w_80) (fun _ h9 => h9) rfl d_JsonReader_document_22 ?_
    refine va_get (D := (dC, dI)) (ci := 8) (v := .int (nI p3)) (C := R_Tape) (T := F_Tape) (N := 7) hx hb hts in_Tape hown hK hP 1 rfl rfl 5 (by decide) (hts _ z_52) (fun _ h9 => h9) rfl d_JsonReader_document_25 ?_
    refine lv_aload_n hx hb d_JsonReader_document_28 rfl (lv_at hl 1 rfl) ?_
    refine va_get (D := (dC, dI)) (ci := 1) (v := .ref h0) (C := R_JsonReader) (T := F_JsonReader) (N := 4) hx hb hts in_JsonReader hown hK hP 0 rfl rfl 0 (by decide) (hts _ w_80) (fun _ h9 => h9) rfl d_JsonReader_document_29 ?_
    refine va_get (D := (dC, dI)) (ci := 8) (v := .int (nI n)) (C := R_Tape) (T := F_Tape) (N := 7) hx hb hts in_Tape hown hK hP 1 rfl rfl 4 (by decide) (hts _ z_49) (fun _ h9 => h9) rfl d_JsonReader_document_32 ?_
    refine lv_icmp_ge (tgt := 52) hx hb d_JsonReader_document_35 (by decide) (fun c35 => ?_) (fun c35 => ?_)
    · refine lv_aload_n hx hb d_JsonReader_document_52 rfl (lv_at hl 0 rfl) ?_
      refine w_same (fun hq => ?_)
      refine W.widen (k := 2 * (n - i) + 4) (n := 16 * (n - i) + 40) (by show (0 + 2 * (p3 - i)) ≤ 2 * (n - i) + 4; omega) (by show (0 + (16 * (p3 - i) - 1)) ≤ 16 * (n - i) + 40; omega) ?_
      refine vx_ret ?_
      exact W.aret (v := .ref v9) hx hb hr (Or.inl ⟨_, rfl⟩) (Or.inr ⟨_, rfl⟩) (fun t9 ht hW => ⟨⟨(v9, p3, N3, E3, f3, uc3, ug3, dp3, md3, lb3), v9, rfl, ⟨hJ, xv, jR_ok hjv (by rw [nI_leI (by omega) (by omega)] at c35; omega), by show dp3 = nI (dpJ 32 xv); rw [hdp3, Nat.zero_add, Nat.max_eq_right (Nat.zero_le _)], by obtain ⟨w1, w2, w3⟩ := pR_ok (f := bf) (n := n) (x := xv) ((jR_pR hbf hn0).symm.trans (jR_ok hjv (by rw [nI_leI (by omega) (by omega)] at c35; omega))); exact hOB.dcx w1 w2 hn0⟩, ⟨by rw [ht]; exact hP, va_K.moved hW.alike hK, hD⟩, by rw [ht]; exact ⟨hq.mono (by show (0 + 2 * (p3 - i)) ≤ 2 * (p3 - i); omega) (by show (0 + (16 * (p3 - i) - 1)) ≤ 16 * (p3 - i); omega), rfl⟩⟩, hS.F ht⟩) hS.2.2 d_JsonReader_document_53
    · refine lv_aload_n hx hb d_JsonReader_document_38 rfl (lv_at hl 1 rfl) ?_
      refine va_get (D := (dC, dI)) (ci := 1) (v := .ref h0) (C := R_JsonReader) (T := F_JsonReader) (N := 4) hx hb hts in_JsonReader hown hK hP 0 rfl rfl 0 (by decide) (hts _ w_80) (fun _ h9 => h9) rfl d_JsonReader_document_39 ?_
      refine lv_aload_n hx hb d_JsonReader_document_42 rfl (lv_at hl 1 rfl) ?_
      refine va_get (D := (dC, dI)) (ci := 1) (v := .ref h0) (C := R_JsonReader) (T := F_JsonReader) (N := 4) hx hb hts in_JsonReader hown hK hP 0 rfl rfl 0 (by decide) (hts _ w_80) (fun _ h9 => h9) rfl d_JsonReader_document_43 ?_
      refine va_get (D := (dC, dI)) (ci := 8) (v := .int (nI p3)) (C := R_Tape) (T := F_Tape) (N := 7) hx hb hts in_Tape hown hK hP 1 rfl rfl 5 (by decide) (hts _ z_52) (fun _ h9 => h9) rfl d_JsonReader_document_46 ?_
      have hPc := hP.sub (ws' := [(h0, .inr (8, [.ref qb, .ref qu, .int uc3, .int ln, .int (nI n), .int (nI p3), .int pl])), (qb, .inl (cB, 4096, .inl bf))]) [1, 2] rfl
      have hDc := hD.sub (ws' := [(h0, .inr (8, [.ref qb, .ref qu, .int uc3, .int ln, .int (nI n), .int (nI p3), .int pl])), (qb, .inl (cB, 4096, .inl bf))]) [1, 2] (by decide) rfl
      have hFc := va_free (wc := [(h0, .inr (8, [.ref qb, .ref qu, .int uc3, .int ln, .int (nI n), .int (nI p3), .int pl])), (qb, .inl (cB, 4096, .inl bf))]) hD hS hA [1, 2] rfl
      have hKc := hK.sub (tys' := [(cB, .byte)]) [0] rfl
      refine w_same (fun hq0 => ?_)
      refine vx_callv (vx_runV (As := [.int (nI p3)]) (rest := []) ⟨hx, hb, hml, hown, hts⟩ (c_Tape_fail l hl9 dC dI cB h0 qb H (.ref qu) uc3 ln (nI n) (nI p3) pl bf ((nI p3))) (cwV 1 hts (gt_V (own := R_JsonReader) (C := R_Tape) (i := 38) (y := y_Tape_fail) i_Tape_fail z_370 w_371 w_372 w_2) rfl rfl rfl (by decide +kernel) ⟨by show 8 + 1 ≤ 120; omega, by show 8 + (2 + 11) + (110) ≤ 3300; omega⟩) ⟨mx_blind, va_recv hK hP (ci := 8) (q0 := 1) rfl rfl, fun U hU hW => ⟨rfl, ⟨hU, by rw [hU]; exact hPc, va_K.moved hW.alike hKc, hDc.weaken (fun _ _ _ _ => trivial)⟩, hN.warm hW, by rw [hU]; exact ZX.moved' hW.alike (ZX.narrow' (ZX.kept' hZ hS.2.1) hFc)⟩⟩ rfl rfl hl.1 rfl (lv_room (Nat.le_of_ble_eq_true rfl)) d_JsonReader_document_49 ⟨by show (0 + 2 * (p3 - i)) + (1) ≤ 2 * (n - i) + 4; omega, by show (0 + (16 * (p3 - i) - 1)) + (6) ≤ 16 * (n - i) + 40; omega⟩) hS (fun q _ h => hFc q h) hFc (fun q _ h => hFc q h) (fun En ce q9 _u t9 H1 locs ht hvm hw hB hz1 hk1 hS hce hcv hcl => ?_) (fun _u t9 H1 locs ht hvm hw hB hz1 hk1 hS => ?_)
      · obtain ⟨hEn, hP1, hK1, hD1⟩ := hB
        rw [ht] at hP1
        obtain ⟨hP, hD⟩ := va_joinQ (wr := [(jr, .inr (1, [.ref h0, .int dp3, .int md3, .ref lb3])), (qu, .inl (cI, 4096, .inl ug3))]) (w1 := [(h0, .inr (8, [.ref qb, .ref qu, .int uc3, .int ln, .int (nI n), .int (nI p3), .int (nI p3)])), (qb, .inl (cB, 4096, .inl bf))]) hP hD [1, 2] [0, 3] rfl rfl (by decide) (by decide) hk1 hFc hP1 hD1
        generalize H1 = H at hP hS hce ⊢
        have hP : va_P (dC, dI) classes ([(jr, .inr (1, [.ref h0, .int dp3, .int md3, .ref lb3])), (qu, .inl (cI, 4096, .inl ug3)), (h0, .inr (8, [.ref qb, .ref qu, .int uc3, .int ln, .int (nI n), .int (nI p3), .int (nI p3)])), (qb, .inl (cB, 4096, .inl bf))] ++ va_pl ((L ++ N3)) f3) H := hP
        have hD : va_D A ([(jr, .inr (1, [.ref h0, .int dp3, .int md3, .ref lb3])), (qu, .inl (cI, 4096, .inl ug3)), (h0, .inr (8, [.ref qb, .ref qu, .int uc3, .int ln, .int (nI n), .int (nI p3), .int (nI p3)])), (qb, .inl (cB, 4096, .inl bf))] ++ va_pl ((L ++ N3)) f3) := hD
        have hP := hP.part (cx := [(jr, .inr (1, [.ref h0, .int dp3, .int md3, .ref lb3])), (h0, .inr (8, [.ref qb, .ref qu, .int uc3, .int ln, .int (nI n), .int (nI p3), .int (nI p3)])), (qb, .inl (cB, 4096, .inl bf)), (qu, .inl (cI, 4096, .inl ug3))]) [0, 2, 3, 1] rfl
        have hD := hD.part (cx := [(jr, .inr (1, [.ref h0, .int dp3, .int md3, .ref lb3])), (h0, .inr (8, [.ref qb, .ref qu, .int uc3, .int ln, .int (nI n), .int (nI p3), .int (nI p3)])), (qb, .inl (cB, 4096, .inl bf)), (qu, .inl (cI, 4096, .inl ug3))]) [0, 2, 3, 1] (by decide) rfl
        have hP := plP_pre hP
        have hD := plD_pre hD
        have hkx : ∀ a, E a ≠ 0 → f3 a = f a := fun a ha => hJ.2.2.2.2.2.1.2 a ha (fun h => by cases h)
        have hno : jR bf n = none := jR_1 hjv (by rw [nI_leI (by omega) (by omega)] at c35; omega)
        exact vx_out (fun x hx => (hex x hx).elim) hlocks hce hcv hcl (fun t9 ht2 ha => ⟨(nI p3, uc3, (nI p3), ug3, dp3, md3, some lb3, f3), ⟨hkx, hno⟩, ⟨hEn, by rw [ht2]; exact hP, va_K.moved ha hK, hD⟩, hS.F ht2⟩) hS.2.2 (by show (0 + 2 * (p3 - i)) + (1) ≤ 2 * (n - i) + 4; omega) (by show (0 + (16 * (p3 - i) - 1)) + (6) ≤ 16 * (n - i) + 40; omega)
      · obtain ⟨⟨hP1, hK1, hD1⟩, hz9⟩ := hB
        rw [ht] at hP1
        rw [ht] at hz9
        refine w_tight (hq0.trans hz9) ?_
        have hq0 := hq0.trans hz9
        obtain ⟨hP, hD⟩ := va_joinQ (wr := [(jr, .inr (1, [.ref h0, .int dp3, .int md3, .ref lb3])), (qu, .inl (cI, 4096, .inl ug3))]) (w1 := [(h0, .inr (8, [.ref qb, .ref qu, .int uc3, .int ln, .int (nI n), .int (nI p3), .int pl])), (qb, .inl (cB, 4096, .inl bf))]) hP hD [1, 2] [0, 3] rfl rfl (by decide) (by decide) hk1 hFc hP1 hD1
        generalize H1 = H at hP hS hq0 ⊢
        have hP : va_P (dC, dI) classes ([(jr, .inr (1, [.ref h0, .int dp3, .int md3, .ref lb3])), (qu, .inl (cI, 4096, .inl ug3)), (h0, .inr (8, [.ref qb, .ref qu, .int uc3, .int ln, .int (nI n), .int (nI p3), .int pl])), (qb, .inl (cB, 4096, .inl bf))] ++ va_pl ((L ++ N3)) f3) H := hP
        have hD : va_D A ([(jr, .inr (1, [.ref h0, .int dp3, .int md3, .ref lb3])), (qu, .inl (cI, 4096, .inl ug3)), (h0, .inr (8, [.ref qb, .ref qu, .int uc3, .int ln, .int (nI n), .int (nI p3), .int pl])), (qb, .inl (cB, 4096, .inl bf))] ++ va_pl ((L ++ N3)) f3) := hD
        have hP := hP.part (cx := [(jr, .inr (1, [.ref h0, .int dp3, .int md3, .ref lb3])), (h0, .inr (8, [.ref qb, .ref qu, .int uc3, .int ln, .int (nI n), .int (nI p3), .int pl])), (qb, .inl (cB, 4096, .inl bf)), (qu, .inl (cI, 4096, .inl ug3))]) [0, 2, 3, 1] rfl
        have hD := hD.part (cx := [(jr, .inr (1, [.ref h0, .int dp3, .int md3, .ref lb3])), (h0, .inr (8, [.ref qb, .ref qu, .int uc3, .int ln, .int (nI n), .int (nI p3), .int pl])), (qb, .inl (cB, 4096, .inl bf)), (qu, .inl (cI, 4096, .inl ug3))]) [0, 2, 3, 1] (by decide) rfl
        exact hw.elim
abbrev b_QB_load : ByteArray := prog_1_method_4_code
def y_QB_load : MethodName := ⟨"QueryBench", "load", "(I)I"⟩
abbrev k_QB_load : Cond := .code y_QB_load b_QB_load 3 (some .int)
theorem i_QB_load : k_QB_load ∈ gtbl := gt_in 282 (by decide +kernel) (by decide +kernel)
theorem d_QB_load_0 : decode b_QB_load 0 = .ok (.iload_n 1, 1) := by decide +kernel
theorem d_QB_load_1 : decode b_QB_load 1 = .ok (.invokestatic 69, 3) := by decide +kernel
theorem d_QB_load_4 : decode b_QB_load 4 = .ok (.aload_n 0, 1) := by decide +kernel
theorem d_QB_load_5 : decode b_QB_load 5 = .ok (.getfield 10, 3) := by decide +kernel
theorem d_QB_load_8 : decode b_QB_load 8 = .ok (.invokevirtual 72, 3) := by decide +kernel
theorem d_QB_load_11 : decode b_QB_load 11 = .ok (.aload_n 0, 1) := by decide +kernel
theorem d_QB_load_12 : decode b_QB_load 12 = .ok (.getfield 21, 3) := by decide +kernel
theorem d_QB_load_15 : decode b_QB_load 15 = .ok (.invokevirtual 75, 3) := by decide +kernel
theorem d_QB_load_18 : decode b_QB_load 18 = .ok (.astore_n 2, 1) := by decide +kernel
theorem d_QB_load_19 : decode b_QB_load 19 = .ok (.aload_n 0, 1) := by decide +kernel
theorem d_QB_load_20 : decode b_QB_load 20 = .ok (.getfield 41, 3) := by decide +kernel
theorem d_QB_load_23 : decode b_QB_load 23 = .ok (.iload_n 1, 1) := by decide +kernel
theorem d_QB_load_24 : decode b_QB_load 24 = .ok (.aload_n 2, 1) := by decide +kernel
theorem d_QB_load_25 : decode b_QB_load 25 = .ok (.aastore, 1) := by decide +kernel
theorem d_QB_load_26 : decode b_QB_load 26 = .ok (.aload_n 0, 1) := by decide +kernel
theorem d_QB_load_27 : decode b_QB_load 27 = .ok (.getfield 21, 3) := by decide +kernel
theorem d_QB_load_30 : decode b_QB_load 30 = .ok (.getfield 79, 3) := by decide +kernel
theorem d_QB_load_33 : decode b_QB_load 33 = .ok (.ireturn, 1) := by decide +kernel
set_option maxHeartbeats 4000000 in
set_option maxRecDepth 100000 in
/-- QueryBench.load -/
theorem c_QB_load (l : Launch) (hl9 : l.stackTraces = false) (K : Nat → Nat × Nat) (dC : Nat → ClassId) (dI : Nat → Nat → Nat) (cI cV : ClassId) (lv : Nat → Nat) (cB : ClassId) (h0 qb qu : Nat) (bf : Nat → Int32) (n jr : Nat) (hn0 : n ≤ 4096) (hbf : byR bf) (sz : Heap) (E : Nat → Nat) (L : List Nat) (f : Nat → va_E) (hO : PO cI cV E lv L f) (q0 ds : Nat) (r2 r3 r5 r6 r7 : Value) (dg : Nat → Option Nat) (en at0 uc pl : Int32) (ug : Nat → Int32) (dp md : Int32) (la : Option Nat) (d : Int32) : vx_Met l y_QB_load (k_QB_load :: gtbl) ({ frames := 130, cells := 2 * n + 5, slots := 16 * n + 46, locals := 3400 }) (va_Pc [.ref q0, .int d] (ml K dC dI ([(q0, .inr (11, [.ref h0, .ref jr, r2, r3, .ref ds, r5, r6, r7])), (ds, .inl (cV, 4, .inr (.inr (.inr (.inr dg))))), (jr, .inr (1, [.ref h0, .int dp, .int md, va_rf la])), (h0, .inr (8, [.ref qb, .ref qu, .int uc, .int (nI n), .int en, .int at0, .int pl])), (qb, .inl (cB, 4096, .inl bf)), (qu, .inl (cI, 4096, .inl ug))] ++ va_pl L f) [(cB, .byte), (cI, .int), (cV, .object "QueryBench$Value")] sz)) (va_Qi (fun (r : Int32) (u : Nat × Nat × List Nat × (Nat → Nat) × (Nat → va_E) × Int32 × (Nat → Int32) × Int32 × Int32 × Nat × (Nat → Option Nat)) => (¬ d < 0 ∧ d < 4) ∧ JP cI cV E lv L f none 0 n u.1 u.2.1 u.2.2.1 u.2.2.2.1 u.2.2.2.2.1 u.2.2.2.2.2.2.2.2.2.1 ∧ (∃ x, jR bf n = some x ∧ r = nI (dpJ 32 x) ∧ DCx E u.2.2.2.1 u.2.2.2.2.1 u.1 x) ∧ ∃ j, j < 4 ∧ d = nI j ∧ u.2.2.2.2.2.2.2.2.2.2 = va_up dg j (some u.1)) (fun u t9 => mz dC dI ([(q0, .inr (11, [.ref h0, .ref jr, r2, r3, .ref ds, r5, r6, r7])), (ds, .inl (cV, 4, .inr (.inr (.inr (.inr u.2.2.2.2.2.2.2.2.2.2))))), (jr, .inr (1, [.ref h0, .int u.2.2.2.2.2.2.2.1, .int u.2.2.2.2.2.2.2.2.1, .ref u.2.2.2.2.2.2.2.2.2.1])), (h0, .inr (8, [.ref qb, .ref qu, .int u.2.2.2.2.2.1, .int 0, .int (nI n), .int (nI u.2.1), .int (-1)])), (qb, .inl (cB, 4096, .inl bf)), (qu, .inl (cI, 4096, .inl u.2.2.2.2.2.2.1))] ++ va_pl ((L ++ u.2.2.1)) u.2.2.2.2.1) [(cB, .byte), (cI, .int), (cV, .object "QueryBench$Value")] (va_A ([(q0, .inr (11, [.ref h0, .ref jr, r2, r3, .ref ds, r5, r6, r7])), (ds, .inl (cV, 4, .inr (.inr (.inr (.inr dg))))), (jr, .inr (1, [.ref h0, .int dp, .int md, va_rf la])), (h0, .inr (8, [.ref qb, .ref qu, .int uc, .int (nI n), .int en, .int at0, .int pl])), (qb, .inl (cB, 4096, .inl bf)), (qu, .inl (cI, 4096, .inl ug))] ++ va_pl L f) sz.size) t9 ∧ szk sz t9.heap (2 * n) (16 * n)) (va_A ([(q0, .inr (11, [.ref h0, .ref jr, r2, r3, .ref ds, r5, r6, r7])), (ds, .inl (cV, 4, .inr (.inr (.inr (.inr dg))))), (jr, .inr (1, [.ref h0, .int dp, .int md, va_rf la])), (h0, .inr (8, [.ref qb, .ref qu, .int uc, .int (nI n), .int en, .int at0, .int pl])), (qb, .inl (cB, 4096, .inl bf)), (qu, .inl (cI, 4096, .inl ug))] ++ va_pl L f) sz.size)) (vx_X (fun (u : Int32 × Int32 × Int32 × Int32 × Int32 × (Nat → Int32) × Int32 × Int32 × Option Nat × (Nat → va_E)) => u.1 = nI (if (¬ d < 0 ∧ d < 4) then 0 else n) ∧ ∀ a, E a ≠ 0 → u.2.2.2.2.2.2.2.2.2 a = f a) (fun En u t9 => ((En = IAX ∧ ¬ (¬ d < 0 ∧ d < 4)) ∨ (En = UOX ∧ (¬ d < 0 ∧ d < 4) ∧ jR bf n = none)) ∧ mz dC dI ([(q0, .inr (11, [.ref h0, .ref jr, r2, r3, .ref ds, r5, r6, r7])), (ds, .inl (cV, 4, .inr (.inr (.inr (.inr dg))))), (jr, .inr (1, [.ref h0, .int u.2.2.2.2.2.2.1, .int u.2.2.2.2.2.2.2.1, va_rf u.2.2.2.2.2.2.2.2.1])), (h0, .inr (8, [.ref qb, .ref qu, .int u.2.2.2.1, .int u.1, .int u.2.1, .int u.2.2.1, .int u.2.2.2.2.1])), (qb, .inl (cB, 4096, .inl bf)), (qu, .inl (cI, 4096, .inl u.2.2.2.2.2.1))] ++ va_pl L u.2.2.2.2.2.2.2.2.2) [(cB, .byte), (cI, .int), (cV, .object "QueryBench$Value")] (va_A ([(q0, .inr (11, [.ref h0, .ref jr, r2, r3, .ref ds, r5, r6, r7])), (ds, .inl (cV, 4, .inr (.inr (.inr (.inr dg))))), (jr, .inr (1, [.ref h0, .int dp, .int md, va_rf la])), (h0, .inr (8, [.ref qb, .ref qu, .int uc, .int (nI n), .int en, .int at0, .int pl])), (qb, .inl (cB, 4096, .inl bf)), (qu, .inl (cI, 4096, .inl ug))] ++ va_pl L f) sz.size) t9) (va_A ([(q0, .inr (11, [.ref h0, .ref jr, r2, r3, .ref ds, r5, r6, r7])), (ds, .inl (cV, 4, .inr (.inr (.inr (.inr dg))))), (jr, .inr (1, [.ref h0, .int dp, .int md, va_rf la])), (h0, .inr (8, [.ref qb, .ref qu, .int uc, .int (nI n), .int en, .int at0, .int pl])), (qb, .inl (cB, 4096, .inl bf)), (qu, .inl (cI, 4096, .inl ug))] ++ va_pl L f) sz.size)) (2 * n + 5) (16 * n + 46) (va_A ([(q0, .inr (11, [.ref h0, .ref jr, r2, r3, .ref ds, r5, r6, r7])), (ds, .inl (cV, 4, .inr (.inr (.inr (.inr dg))))), (jr, .inr (1, [.ref h0, .int dp, .int md, va_rf la])), (h0, .inr (8, [.ref qb, .ref qu, .int uc, .int (nI n), .int en, .int at0, .int pl])), (qb, .inl (cB, 4096, .inl bf)), (qu, .inl (cI, 4096, .inl ug))] ++ va_pl L f) sz.size) := by
  refine vx_ofW (cc := b_QB_load) (maxL := 3) (ret := (some .int)) (by decide) rfl ?_
  intro p e s m args below meth c s₁ B hml hex hv
  obtain ⟨rfl, ⟨hsz, hP, hK, hD0⟩, hN, hZ, hC, hV⟩ := hv
  have hx := B.exec
  have hb := B.bytes
  have hr := B.returns
  have hts0 := atoms_spec (ws := k_QB_load :: gtbl) B.pre
  have hts := fun w h => hts0 w (List.mem_cons_of_mem _ h)
  have hown : s.vm.findClass R_QB = some m.cls := findClass_of_methodNamed B.named
  have hlocks := B.notSynchronized
  subst hsz
  have hD := hD0.self (sz := s.heap.size)
  generalize hAe : va_A ([(q0, .inr (11, [.ref h0, .ref jr, r2, r3, .ref ds, r5, r6, r7])), (ds, .inl (cV, 4, .inr (.inr (.inr (.inr dg))))), (jr, .inr (1, [.ref h0, .int dp, .int md, va_rf la])), (h0, .inr (8, [.ref qb, .ref qu, .int uc, .int (nI n), .int en, .int at0, .int pl])), (qb, .inl (cB, 4096, .inl bf)), (qu, .inl (cI, 4096, .inl ug))] ++ va_pl L f) s.heap.size = A at hD hZ hC ⊢
  have hA : ∀ q : Nat, s.heap.size ≤ q → A q := fun q h => by rw [← hAe]; exact Or.inr h
  have hS : va_S A s.heap s.heap [] := va_S.rf
  have hP : va_P (dC, dI) classes ([(q0, .inr (11, [.ref h0, .ref jr, r2, r3, .ref ds, r5, r6, r7])), (ds, .inl (cV, 4, .inr (.inr (.inr (.inr dg))))), (jr, .inr (1, [.ref h0, .int dp, .int md, va_rf la])), (h0, .inr (8, [.ref qb, .ref qu, .int uc, .int (nI n), .int en, .int at0, .int pl])), (qb, .inl (cB, 4096, .inl bf)), (qu, .inl (cI, 4096, .inl ug))] ++ va_pl L f) s.heap := hP
  have hl := lv_entry ([.ref q0, .int d]) (n := 3) (Nat.le_of_ble_eq_true rfl)
  rw [lg_entry_eq]
  generalize (lg_sl ([.ref q0, .int d]) ++ List.replicate (3 - (lg_sl ([.ref q0, .int d])).length) Slot.unset).toArray = ls at hl ⊢
  have hl : lv_has ls 3 [(0, .ref q0), (1, .int d)] := hl
  refine lv_iload_n hx hb d_QB_load_0 rfl (lv_at hl 1 rfl) ?_
  have hPc := hP.sub (ws' := []) [] rfl
  have hDc := hD.sub (ws' := []) [] (by decide) rfl
  have hFc := va_free (wc := []) hD hS hA [] rfl
  have hKc := hK.sub (tys' := []) [] rfl
  refine w_same (fun hq0 => ?_)
  refine vx_callv (vx_runS (As := [.int d]) (rest := []) ⟨hx, hb, hml, hown, hts⟩ (c_QB_checkNumber l hl9 dC dI s.heap d) (va_cwS 1 hts (gt_S (own := R_QB) (i := 69) (y := y_QB_checkNumber) i_QB_checkNumber z_283 z_284 w_1) rfl rfl rfl (by decide +kernel) ⟨by show 8 + 1 ≤ 130; omega, by show 8 + (1 + 11) + 110 ≤ 3400; omega⟩) ⟨mx_blind, fun U hU hW => ⟨rfl, ⟨hU, by rw [hU]; exact hPc, va_K.moved hW.alike hKc, hDc.weaken (fun _ _ _ _ => trivial)⟩, hN.warm hW, by rw [hU]; exact ZX.moved' hW.alike (ZX.narrow' (ZX.kept' hZ hS.2.1) hFc)⟩⟩ rfl rfl hl.1 rfl (lv_room (Nat.le_of_ble_eq_true rfl)) d_QB_load_1 ⟨by show 0 + (1) ≤ 2 * n + 5; omega, by show 0 + (6) ≤ 16 * n + 46; omega⟩) hS (fun q _ h => hFc q h) hFc (fun q _ h => hFc q h) (fun En ce q9 _u t9 H1 locs ht hvm hw hB hz1 hk1 hS hce hcv hcl => ?_) (fun _u t9 H1 locs ht hvm hw hB hz1 hk1 hS => ?_)
  · obtain ⟨hEn, hP1, hK1, hD1⟩ := hB
    rw [ht] at hP1
    obtain ⟨hP, hD⟩ := va_joinQ (wr := [(q0, .inr (11, [.ref h0, .ref jr, r2, r3, .ref ds, r5, r6, r7])), (ds, .inl (cV, 4, .inr (.inr (.inr (.inr dg))))), (jr, .inr (1, [.ref h0, .int dp, .int md, va_rf la])), (h0, .inr (8, [.ref qb, .ref qu, .int uc, .int (nI n), .int en, .int at0, .int pl])), (qb, .inl (cB, 4096, .inl bf)), (qu, .inl (cI, 4096, .inl ug))]) (w1 := []) hP hD [] [0, 1, 2, 3, 4, 5] rfl rfl (by decide) (by decide) hk1 hFc hP1 hD1
    generalize H1 = H at hP hS hce ⊢
    have hP : va_P (dC, dI) classes ([(q0, .inr (11, [.ref h0, .ref jr, r2, r3, .ref ds, r5, r6, r7])), (ds, .inl (cV, 4, .inr (.inr (.inr (.inr dg))))), (jr, .inr (1, [.ref h0, .int dp, .int md, va_rf la])), (h0, .inr (8, [.ref qb, .ref qu, .int uc, .int (nI n), .int en, .int at0, .int pl])), (qb, .inl (cB, 4096, .inl bf)), (qu, .inl (cI, 4096, .inl ug))] ++ va_pl L f) H := hP
    have hD : va_D A ([(q0, .inr (11, [.ref h0, .ref jr, r2, r3, .ref ds, r5, r6, r7])), (ds, .inl (cV, 4, .inr (.inr (.inr (.inr dg))))), (jr, .inr (1, [.ref h0, .int dp, .int md, va_rf la])), (h0, .inr (8, [.ref qb, .ref qu, .int uc, .int (nI n), .int en, .int at0, .int pl])), (qb, .inl (cB, 4096, .inl bf)), (qu, .inl (cI, 4096, .inl ug))] ++ va_pl L f) := hD
    exact vx_out (fun x hx => (hex x hx).elim) hlocks hce hcv hcl (fun t9 ht2 ha => ⟨(nI n, en, at0, uc, pl, ug, dp, md, la, f), ⟨by show nI n = nI (if (¬ d < 0 ∧ d < 4) then 0 else n); rw [if_neg hw], fun _ _ => rfl⟩, ⟨Or.inl ⟨hEn, hw⟩, by rw [ht2]; exact hP, va_K.moved ha hK, hD⟩, hS.F ht2⟩) hS.2.2 (by show 0 + (1) ≤ 2 * n + 5; omega) (by show 0 + (6) ≤ 16 * n + 46; omega)
  · obtain ⟨⟨hP1, hK1, hD1⟩, hz9⟩ := hB
    rw [ht] at hP1
    rw [ht] at hz9
    refine w_tight (hq0.trans hz9) ?_
    have hq0 := hq0.trans hz9
    obtain ⟨hP, hD⟩ := va_joinQ (wr := [(q0, .inr (11, [.ref h0, .ref jr, r2, r3, .ref ds, r5, r6, r7])), (ds, .inl (cV, 4, .inr (.inr (.inr (.inr dg))))), (jr, .inr (1, [.ref h0, .int dp, .int md, va_rf la])), (h0, .inr (8, [.ref qb, .ref qu, .int uc, .int (nI n), .int en, .int at0, .int pl])), (qb, .inl (cB, 4096, .inl bf)), (qu, .inl (cI, 4096, .inl ug))]) (w1 := []) hP hD [] [0, 1, 2, 3, 4, 5] rfl rfl (by decide) (by decide) hk1 hFc hP1 hD1
    generalize H1 = H at hP hS hq0 ⊢
    have hP : va_P (dC, dI) classes ([(q0, .inr (11, [.ref h0, .ref jr, r2, r3, .ref ds, r5, r6, r7])), (ds, .inl (cV, 4, .inr (.inr (.inr (.inr dg))))), (jr, .inr (1, [.ref h0, .int dp, .int md, va_rf la])), (h0, .inr (8, [.ref qb, .ref qu, .int uc, .int (nI n), .int en, .int at0, .int pl])), (qb, .inl (cB, 4096, .inl bf)), (qu, .inl (cI, 4096, .inl ug))] ++ va_pl L f) H := hP
    have hD : va_D A ([(q0, .inr (11, [.ref h0, .ref jr, r2, r3, .ref ds, r5, r6, r7])), (ds, .inl (cV, 4, .inr (.inr (.inr (.inr dg))))), (jr, .inr (1, [.ref h0, .int dp, .int md, va_rf la])), (h0, .inr (8, [.ref qb, .ref qu, .int uc, .int (nI n), .int en, .int at0, .int pl])), (qb, .inl (cB, 4096, .inl bf)), (qu, .inl (cI, 4096, .inl ug))] ++ va_pl L f) := hD
    have hw : ¬ d < 0 ∧ d < 4 := hw
    have hdd := hw
    obtain ⟨j, hj, ej⟩ : ∃ j, j < 4 ∧ d = nI j := by
      rcases pk_ix d (n := 4) (by decide) with h9 | h9 | h9
      · exact absurd h9 hw.1
      · exact absurd hw.2 (Int32.not_lt.mpr h9)
      · exact h9
    refine lv_aload_n hx hb d_QB_load_4 rfl (lv_at hl 0 rfl) ?_
    refine va_get (D := (dC, dI)) (ci := 11) (v := .ref h0) (C := R_QB) (T := F_QB) (N := 8) hx hb hts in_QB hown hK hP 0 rfl rfl 0 (by decide) (hts _ w_151) (fun _ h9 => h9) rfl d_QB_load_5 ?_
    have hPc := hP.sub (ws' := [(h0, .inr (8, [.ref qb, .ref qu, .int uc, .int (nI n), .int en, .int at0, .int pl])), (qb, .inl (cB, 4096, .inl bf))]) [3, 4] rfl
    have hDc := hD.sub (ws' := [(h0, .inr (8, [.ref qb, .ref qu, .int uc, .int (nI n), .int en, .int at0, .int pl])), (qb, .inl (cB, 4096, .inl bf))]) [3, 4] (by decide) rfl
    have hFc := va_free (wc := [(h0, .inr (8, [.ref qb, .ref qu, .int uc, .int (nI n), .int en, .int at0, .int pl])), (qb, .inl (cB, 4096, .inl bf))]) hD hS hA [3, 4] rfl
    have hKc := hK.sub (tys' := [(cB, .byte)]) [0] rfl
    refine va_callv (va_runV (As := []) (rest := []) ⟨hx, hb, hml, hown, hts⟩ (c_Tape_beginReading l dC dI cB h0 qb H (.ref qu) uc (nI n) en at0 pl bf) (cwV 0 hts (gt_V (own := R_QB) (C := R_Tape) (i := 72) (y := y_Tape_beginReading) i_Tape_beginReading z_286 z_287 z_288 w_2) rfl rfl rfl (by decide +kernel) ⟨by show 0 + 1 ≤ 130; omega, by show 8 + (1 + 11) + 0 ≤ 3400; omega⟩) ⟨mp_blind, va_recv hK hP (ci := 8) (q0 := 3) rfl rfl, fun U hU hW => ⟨rfl, hU, by rw [hU]; exact hPc, va_K.moved hW.alike hKc, hDc.weaken (fun _ _ _ _ => trivial)⟩⟩ rfl rfl hl.1 rfl (lv_room (Nat.le_of_ble_eq_true rfl)) d_QB_load_8 ⟨by show 0 + (0) ≤ 2 * n + 5; omega, by show 0 + (0) ≤ 16 * n + 46; omega⟩) hS (fun q _ h => hFc q h) hFc (fun _u t9 H1 locs ht hvm hw hB hz1 hk1 hS => ?_)
    obtain ⟨hP1, hK1, hD1⟩ := hB
    rw [ht] at hP1
    obtain ⟨hP, hD⟩ := va_joinQ (wr := [(q0, .inr (11, [.ref h0, .ref jr, r2, r3, .ref ds, r5, r6, r7])), (ds, .inl (cV, 4, .inr (.inr (.inr (.inr dg))))), (jr, .inr (1, [.ref h0, .int dp, .int md, va_rf la])), (qu, .inl (cI, 4096, .inl ug))]) (w1 := [(h0, .inr (8, [.ref qb, .ref qu, .int uc, .int 0, .int (nI n), .int 0, .int (-1)])), (qb, .inl (cB, 4096, .inl bf))]) hP hD [3, 4] [0, 1, 2, 5] rfl rfl (by decide) (by decide) hk1 hFc hP1 hD1
    generalize H1 = H at hP hS ⊢
    have hP : va_P (dC, dI) classes ([(q0, .inr (11, [.ref h0, .ref jr, r2, r3, .ref ds, r5, r6, r7])), (ds, .inl (cV, 4, .inr (.inr (.inr (.inr dg))))), (jr, .inr (1, [.ref h0, .int dp, .int md, va_rf la])), (qu, .inl (cI, 4096, .inl ug)), (h0, .inr (8, [.ref qb, .ref qu, .int uc, .int 0, .int (nI n), .int 0, .int (-1)])), (qb, .inl (cB, 4096, .inl bf))] ++ va_pl L f) H := hP
    have hD : va_D A ([(q0, .inr (11, [.ref h0, .ref jr, r2, r3, .ref ds, r5, r6, r7])), (ds, .inl (cV, 4, .inr (.inr (.inr (.inr dg))))), (jr, .inr (1, [.ref h0, .int dp, .int md, va_rf la])), (qu, .inl (cI, 4096, .inl ug)), (h0, .inr (8, [.ref qb, .ref qu, .int uc, .int 0, .int (nI n), .int 0, .int (-1)])), (qb, .inl (cB, 4096, .inl bf))] ++ va_pl L f) := hD
    have hP := hP.part (cx := [(q0, .inr (11, [.ref h0, .ref jr, r2, r3, .ref ds, r5, r6, r7])), (ds, .inl (cV, 4, .inr (.inr (.inr (.inr dg))))), (jr, .inr (1, [.ref h0, .int dp, .int md, va_rf la])), (h0, .inr (8, [.ref qb, .ref qu, .int uc, .int 0, .int (nI n), .int 0, .int (-1)])), (qb, .inl (cB, 4096, .inl bf)), (qu, .inl (cI, 4096, .inl ug))]) [0, 1, 2, 4, 5, 3] rfl
    have hD := hD.part (cx := [(q0, .inr (11, [.ref h0, .ref jr, r2, r3, .ref ds, r5, r6, r7])), (ds, .inl (cV, 4, .inr (.inr (.inr (.inr dg))))), (jr, .inr (1, [.ref h0, .int dp, .int md, va_rf la])), (h0, .inr (8, [.ref qb, .ref qu, .int uc, .int 0, .int (nI n), .int 0, .int (-1)])), (qb, .inl (cB, 4096, .inl bf)), (qu, .inl (cI, 4096, .inl ug))]) [0, 1, 2, 4, 5, 3] (by decide) rfl
    have hP : va_P (dC, dI) classes ([(q0, .inr (11, [.ref h0, .ref jr, r2, r3, .ref ds, r5, r6, r7])), (ds, .inl (cV, 4, .inr (.inr (.inr (.inr dg))))), (jr, .inr (1, [.ref h0, .int dp, .int md, va_rf la])), (h0, .inr (8, [.ref qb, .ref qu, .int uc, .int 0, .int (nI n), .int (nI 0), .int (-1)])), (qb, .inl (cB, 4096, .inl bf)), (qu, .inl (cI, 4096, .inl ug))] ++ va_pl L f) H := hP
    have hD : va_D A ([(q0, .inr (11, [.ref h0, .ref jr, r2, r3, .ref ds, r5, r6, r7])), (ds, .inl (cV, 4, .inr (.inr (.inr (.inr dg))))), (jr, .inr (1, [.ref h0, .int dp, .int md, va_rf la])), (h0, .inr (8, [.ref qb, .ref qu, .int uc, .int 0, .int (nI n), .int (nI 0), .int (-1)])), (qb, .inl (cB, 4096, .inl bf)), (qu, .inl (cI, 4096, .inl ug))] ++ va_pl L f) := hD
    refine lv_aload_n hx hb d_QB_load_11 rfl (lv_at hl 0 rfl) ?_
    refine va_get (D := (dC, dI)) (ci := 11) (v := .ref jr) (C := R_QB) (T := F_QB) (N := 8) hx hb hts in_QB hown hK hP 0 rfl rfl 1 (by decide) (hts _ w_152) (fun _ h9 => h9) rfl d_QB_load_12 ?_
    have hPc := hP.part (cx := [(jr, .inr (1, [.ref h0, .int dp, .int md, va_rf la])), (h0, .inr (8, [.ref qb, .ref qu, .int uc, .int 0, .int (nI n), .int (nI 0), .int (-1)])), (qb, .inl (cB, 4096, .inl bf)), (qu, .inl (cI, 4096, .inl ug))]) [2, 3, 4, 5] rfl
    have hDc := hD.part (cx := [(jr, .inr (1, [.ref h0, .int dp, .int md, va_rf la])), (h0, .inr (8, [.ref qb, .ref qu, .int uc, .int 0, .int (nI n), .int (nI 0), .int (-1)])), (qb, .inl (cB, 4096, .inl bf)), (qu, .inl (cI, 4096, .inl ug))]) [2, 3, 4, 5] (by decide) rfl
    have hFc := va_freeP (cx := [(jr, .inr (1, [.ref h0, .int dp, .int md, va_rf la])), (h0, .inr (8, [.ref qb, .ref qu, .int uc, .int 0, .int (nI n), .int (nI 0), .int (-1)])), (qb, .inl (cB, 4096, .inl bf)), (qu, .inl (cI, 4096, .inl ug))]) hD hS hA [2, 3, 4, 5] rfl
    have hKc := hK.sub (tys' := [(cB, .byte), (cI, .int), (cV, .object "QueryBench$Value")]) [0, 1, 2] rfl
    refine w_same (fun hq0 => ?_)
    refine vx_callr (vx_runV (As := []) (rest := []) ⟨hx, hb, hml, hown, hts⟩ (c_JsonReader_document l hl9 K dC dI cI cV lv cB h0 qb qu 0 bf n jr hn0 hbf H E L f hO 0 uc (-1) ug dp md la (Nat.zero_le _) rfl) (cwV 0 hts (gt_V (own := R_QB) (C := R_JsonReader) (i := 75) (y := y_JsonReader_document) i_JsonReader_document z_290 z_291 z_292 w_3) rfl rfl rfl (by decide +kernel) ⟨by show 120 + 1 ≤ 130; omega, by show 8 + (2 + 11) + 3300 ≤ 3400; omega⟩) ⟨ml_blind, va_recv hK hP (ci := 1) (q0 := 2) rfl rfl, fun U hU hW => ⟨rfl, ⟨hU, by rw [hU]; exact hPc, va_K.moved hW.alike hKc, hDc.weaken (fun _ _ _ _ => trivial)⟩, hN.warm hW, by rw [hU]; exact ZX.moved' hW.alike (ZX.narrow' (ZX.kept' hZ hS.2.1) hFc), by rw [hU]; exact CE.call hC hS.2.1 hFc hW, va_AO.moved hW.alike hV⟩⟩ rfl rfl hl.1 rfl (lv_room (Nat.le_of_ble_eq_true rfl)) d_QB_load_15 ⟨by show 0 + (2 * (n - 0) + 4) ≤ 2 * n + 5; omega, by show 0 + (16 * (n - 0) + 40) ≤ 16 * n + 46; omega⟩) hS (fun q _ h => hFc q h) hFc (fun q _ h => hFc q h) (fun En ce q9 ⟨ax, cx, px, gx, dx, mx, lx, fx⟩ t9 H1 locs ht hvm hw hB hz1 hk1 hS hce hcv hcl => ?_) (fun ⟨v3, p3, N3, E3, f3, uc3, ug3, dp3, md3, lb3⟩ v9 t9 H1 locs ht hvm hw hB hz1 hk1 hS => ?_)
    · obtain ⟨hEn, hP1, hK1, hD1⟩ := hB
      rw [ht] at hP1
      obtain ⟨hP, hD⟩ := va_joinP (wr := [(q0, .inr (11, [.ref h0, .ref jr, r2, r3, .ref ds, r5, r6, r7])), (ds, .inl (cV, 4, .inr (.inr (.inr (.inr dg)))))]) (rx := [(jr, .inr (1, [.ref h0, .int dx, .int mx, va_rf lx])), (h0, .inr (8, [.ref qb, .ref qu, .int cx, .int 0, .int (nI n), .int ax, .int px])), (qb, .inl (cB, 4096, .inl bf)), (qu, .inl (cI, 4096, .inl gx))]) (pl1 := va_pl L fx) hP hD [2, 3, 4, 5] [0, 1] rfl rfl (by decide) (by decide) hk1 hFc hP1 hD1
      generalize H1 = H at hP hS hce ⊢
      have hP : va_P (dC, dI) classes ([(q0, .inr (11, [.ref h0, .ref jr, r2, r3, .ref ds, r5, r6, r7])), (ds, .inl (cV, 4, .inr (.inr (.inr (.inr dg))))), (jr, .inr (1, [.ref h0, .int dx, .int mx, va_rf lx])), (h0, .inr (8, [.ref qb, .ref qu, .int cx, .int 0, .int (nI n), .int ax, .int px])), (qb, .inl (cB, 4096, .inl bf)), (qu, .inl (cI, 4096, .inl gx))] ++ va_pl L fx) H := hP
      have hD : va_D A ([(q0, .inr (11, [.ref h0, .ref jr, r2, r3, .ref ds, r5, r6, r7])), (ds, .inl (cV, 4, .inr (.inr (.inr (.inr dg))))), (jr, .inr (1, [.ref h0, .int dx, .int mx, va_rf lx])), (h0, .inr (8, [.ref qb, .ref qu, .int cx, .int 0, .int (nI n), .int ax, .int px])), (qb, .inl (cB, 4096, .inl bf)), (qu, .inl (cI, 4096, .inl gx))] ++ va_pl L fx) := hD
      exact vx_out (fun x hx => (hex x hx).elim) hlocks hce hcv hcl (fun t9 ht2 ha => ⟨(0, nI n, ax, cx, px, gx, dx, mx, lx, fx), ⟨by show (0 : Int32) = nI (if (¬ d < 0 ∧ d < 4) then 0 else n); rw [if_pos hdd]; rfl, hw.1⟩, ⟨Or.inr ⟨hEn, hdd, hw.2⟩, by rw [ht2]; exact hP, va_K.moved ha hK, hD⟩, hS.F ht2⟩) hS.2.2 (by show 0 + (2 * (n - 0) + 4) ≤ 2 * n + 5; omega) (by show 0 + (16 * (n - 0) + 40) ≤ 16 * n + 46; omega)
    · obtain ⟨⟨hP1, hK1, hD1⟩, hz9, ha9⟩ := hB
      rw [ht] at hP1
      rw [ht] at hz9
      have ha9 : v9 = v3 := ha9
      subst ha9
      have hq0 : szk s.heap H1 (0 + 2 * (p3 - 0)) (0 + 16 * (p3 - 0)) := (hq0.trans hz9).mono (Nat.le_refl _) (Nat.le_refl _)
      refine w_tight hq0 ?_
      obtain ⟨hP, hD⟩ := va_joinP (wr := [(q0, .inr (11, [.ref h0, .ref jr, r2, r3, .ref ds, r5, r6, r7])), (ds, .inl (cV, 4, .inr (.inr (.inr (.inr dg)))))]) (rx := [(jr, .inr (1, [.ref h0, .int dp3, .int md3, .ref lb3])), (h0, .inr (8, [.ref qb, .ref qu, .int uc3, .int 0, .int (nI n), .int (nI p3), .int (-1)])), (qb, .inl (cB, 4096, .inl bf)), (qu, .inl (cI, 4096, .inl ug3))]) (pl1 := va_pl ((L ++ N3)) f3) hP hD [2, 3, 4, 5] [0, 1] rfl rfl (by decide) (by decide) hk1 hFc hP1 hD1
      generalize H1 = H at hP hS hq0 ⊢
      have hP : va_P (dC, dI) classes ([(q0, .inr (11, [.ref h0, .ref jr, r2, r3, .ref ds, r5, r6, r7])), (ds, .inl (cV, 4, .inr (.inr (.inr (.inr dg))))), (jr, .inr (1, [.ref h0, .int dp3, .int md3, .ref lb3])), (h0, .inr (8, [.ref qb, .ref qu, .int uc3, .int 0, .int (nI n), .int (nI p3), .int (-1)])), (qb, .inl (cB, 4096, .inl bf)), (qu, .inl (cI, 4096, .inl ug3))] ++ va_pl ((L ++ N3)) f3) H := hP
      have hD : va_D A ([(q0, .inr (11, [.ref h0, .ref jr, r2, r3, .ref ds, r5, r6, r7])), (ds, .inl (cV, 4, .inr (.inr (.inr (.inr dg))))), (jr, .inr (1, [.ref h0, .int dp3, .int md3, .ref lb3])), (h0, .inr (8, [.ref qb, .ref qu, .int uc3, .int 0, .int (nI n), .int (nI p3), .int (-1)])), (qb, .inl (cB, 4096, .inl bf)), (qu, .inl (cI, 4096, .inl ug3))] ++ va_pl ((L ++ N3)) f3) := hD
      obtain ⟨hw, xv, hjr, hdp3, hDC⟩ := hw
      have hDC : DCx E E3 f3 v9 xv := hDC
      have hdp3 : dp3 = nI (dpJ 32 xv) := hdp3
      have hJ : JP cI cV E lv L f none 0 n v9 p3 N3 E3 f3 lb3 := hw
      obtain ⟨hp3, hp4⟩ := hJ.num
      have hO3 := hJ.po
      have hv2 := hJ.v2.1
      refine lv_astore_n (lv' := [(2, .ref v9), (0, .ref q0), (1, .int d)]) hx hb d_QB_load_18 rfl hl (by decide) rfl (fun ls hl => ?_)
      refine lv_aload_n hx hb d_QB_load_19 rfl (lv_at hl 1 rfl) ?_
      refine va_get (D := (dC, dI)) (ci := 11) (v := .ref ds) (C := R_QB) (T := F_QB) (N := 8) hx hb hts in_QB hown hK hP 0 rfl rfl 4 (by decide) (hts _ w_155) (fun _ h9 => h9) rfl d_QB_load_20 ?_
      refine lv_iload_n hx hb d_QB_load_23 rfl (lv_at hl 2 rfl) ?_
      refine lv_aload_n hx hb d_QB_load_24 rfl (lv_at hl 0 rfl) ?_
      obtain ⟨kd21, nu21, tx21, me21, pa21, na21, ix21, nm21, no21, sp21, ef21, hv21⟩ := hO3.val ((Or.inr (Or.inl hv2)))
      refine W.eq (g2 := F0 m 25 ls [.ref v9, .int (nI j), .ref ds]) (by rw [ej]) ?_
      refine vq_ast hx hb hK hP hD hS 1 2 9 rfl rfl (hO3.inV (Or.inr (Or.inl hv2))) ef21 rfl hj (by decide) d_QB_load_25 (fun H locs hP hD hS => ?_)
      have hP : va_P (dC, dI) classes ([(q0, .inr (11, [.ref h0, .ref jr, r2, r3, .ref ds, r5, r6, r7])), (ds, .inl (cV, 4, .inr (.inr (.inr (.inr (va_up dg j (some v9))))))), (jr, .inr (1, [.ref h0, .int dp3, .int md3, .ref lb3])), (h0, .inr (8, [.ref qb, .ref qu, .int uc3, .int 0, .int (nI n), .int (nI p3), .int (-1)])), (qb, .inl (cB, 4096, .inl bf)), (qu, .inl (cI, 4096, .inl ug3))] ++ va_pl ((L ++ N3)) f3) H := hP
      have hD : va_D A ([(q0, .inr (11, [.ref h0, .ref jr, r2, r3, .ref ds, r5, r6, r7])), (ds, .inl (cV, 4, .inr (.inr (.inr (.inr (va_up dg j (some v9))))))), (jr, .inr (1, [.ref h0, .int dp3, .int md3, .ref lb3])), (h0, .inr (8, [.ref qb, .ref qu, .int uc3, .int 0, .int (nI n), .int (nI p3), .int (-1)])), (qb, .inl (cB, 4096, .inl bf)), (qu, .inl (cI, 4096, .inl ug3))] ++ va_pl ((L ++ N3)) f3) := hD
      refine lv_aload_n hx hb d_QB_load_26 rfl (lv_at hl 1 rfl) ?_
      refine va_get (D := (dC, dI)) (ci := 11) (v := .ref jr) (C := R_QB) (T := F_QB) (N := 8) hx hb hts in_QB hown hK hP 0 rfl rfl 1 (by decide) (hts _ w_152) (fun _ h9 => h9) rfl d_QB_load_27 ?_
      refine va_get (D := (dC, dI)) (ci := 1) (v := .int dp3) (C := R_JsonReader) (T := F_JsonReader) (N := 4) hx hb hts in_JsonReader hown hK hP 2 rfl rfl 1 (by decide) (hts _ z_82) (fun _ h9 => h9) rfl d_QB_load_30 ?_
      refine w_same (fun hq => ?_)
      refine W.widen (k := 2 * n + 5) (n := 16 * n + 46) (by show (0 + 2 * (p3 - 0)) ≤ 2 * n + 5; omega) (by show (0 + 16 * (p3 - 0)) ≤ 16 * n + 46; omega) ?_
      refine vx_ret ?_
      exact W.iret (v := dp3) hx hb hr (fun t9 ht hW => ⟨⟨dp3, (v9, p3, N3, E3, f3, uc3, ug3, dp3, md3, lb3, va_up dg j (some v9)), rfl, ⟨hdd, hJ, ⟨xv, hjr, hdp3, hDC⟩, j, hj, ej, rfl⟩, ⟨by rw [ht]; exact hP, va_K.moved hW.alike hK, hD⟩, by rw [ht]; exact hq.mono (by show (0 + 2 * (p3 - 0)) ≤ 2 * n; omega) (by show (0 + 16 * (p3 - 0)) ≤ 16 * n; omega)⟩, hS.F ht⟩) hS.2.2 d_QB_load_33
