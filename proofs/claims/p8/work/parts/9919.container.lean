theorem z_81 : (.fieldLink "QueryBench$JsonReader" 15 "QueryBench$JsonReader" "deepest" "I" : Cond) ∈ gtbl := gt_in 81 (by decide +kernel) (by decide +kernel)
theorem z_389 : (.methodLink "QueryBench$JsonReader" 106 ⟨"java/lang/Math", "max", "(II)I"⟩ : Cond) ∈ gtbl := gt_in 389 (by decide +kernel) (by decide +kernel)
theorem z_397 : (.methodLink "QueryBench$JsonReader" 112 ⟨"QueryBench$JsonReader", "members", "(LQueryBench$Value;I)V"⟩ : Cond) ∈ gtbl := gt_in 397 (by decide +kernel) (by decide +kernel)
theorem z_399 : (.instanceMethod ⟨"QueryBench$JsonReader", "members", "(LQueryBench$Value;I)V"⟩ : Cond) ∈ gtbl := gt_in 399 (by decide +kernel) (by decide +kernel)
set_option maxHeartbeats 4000000 in
set_option maxRecDepth 100000 in
/-- JsonReader.container -/
theorem c_JsonReader_container (l : Launch) (hl9 : l.stackTraces = false) (K : Nat → Nat × Nat) (dC : Nat → ClassId) (dI : Nat → Nat → Nat) (cI cV : ClassId) (lv : Nat → Nat) (cB : ClassId) (h0 qb qu : Nat) (ln : Int32) (bf : Nat → Int32) (n jr : Nat) (hn0 : n ≤ 4096) (k d : Nat) (hkd9 : d + k = 32) (HV : 0 < k → JVC l K dC dI cI cV lv cB h0 qb qu ln bf n jr (k - 1) (d + 1)) (sz : Heap) (E : Nat → Nat) (L : List Nat) (f : Nat → va_E) (hO : PO cI cV E lv L f) (i : Nat) (uc pl : Int32) (ug : Nat → Int32) (dp md : Int32) (it : Nat) (kd : Int32) (hkd : kd = 5 ∨ kd = 6) (hit : E it = 1) (ef0 : f it = vE 0 0 none none none none 0 none none 0) (hin : i < n) (D : Nat) (hdp : dp = nI D) (hDd : d ≤ D) (hD32 : D ≤ 32) : vx_Met l y_JsonReader_container (k_JsonReader_container :: gtbl) ({ frames := 15 + 3 * k, cells := 2 * (n - i) + 2, slots := 16 * (n - i) + 24, locals := 320 + 90 * k }) (va_Pc [.ref jr, .ref it, .int kd, .int (nI d)] (ml K dC dI ([(jr, .inr (1, [.ref h0, .int dp, .int md, .ref it])), (h0, .inr (8, [.ref qb, .ref qu, .int uc, .int ln, .int (nI n), .int (nI i), .int pl])), (qb, .inl (cB, 4096, .inl bf)), (qu, .inl (cI, 4096, .inl ug))] ++ va_pl L f) [(cB, .byte), (cI, .int), (cV, .object "QueryBench$Value")] sz)) (va_Qv (fun (u : Nat × List Nat × (Nat → Nat) × (Nat → va_E) × Int32 × (Nat → Int32) × Int32 × Int32 × Nat) => i + 2 ≤ u.1 ∧ MP cI cV E lv L f it i n u.1 kd u.2.1 u.2.2.1 u.2.2.2.1 u.2.2.2.2.2.2.2.2 ∧ CFx cV bf n k d i u.1 D kd u.2.2.2.2.2.2.1 E u.2.2.1 u.2.2.2.1 it u.2.2.2.2.2.2.2.2 md u.2.2.2.2.2.2.2.1) (fun u t9 => mz dC dI ([(jr, .inr (1, [.ref h0, .int u.2.2.2.2.2.2.1, .int u.2.2.2.2.2.2.2.1, .ref u.2.2.2.2.2.2.2.2])), (h0, .inr (8, [.ref qb, .ref qu, .int u.2.2.2.2.1, .int ln, .int (nI n), .int (nI u.1), .int pl])), (qb, .inl (cB, 4096, .inl bf)), (qu, .inl (cI, 4096, .inl u.2.2.2.2.2.1))] ++ va_pl ((L ++ u.2.1)) u.2.2.2.1) [(cB, .byte), (cI, .int), (cV, .object "QueryBench$Value")] (va_A ([(jr, .inr (1, [.ref h0, .int dp, .int md, .ref it])), (h0, .inr (8, [.ref qb, .ref qu, .int uc, .int ln, .int (nI n), .int (nI i), .int pl])), (qb, .inl (cB, 4096, .inl bf)), (qu, .inl (cI, 4096, .inl ug))] ++ va_pl L f) sz.size) t9 ∧ szk sz t9.heap (2 * (u.1 - i) - 3) (16 * (u.1 - i) - 32)) (va_A ([(jr, .inr (1, [.ref h0, .int dp, .int md, .ref it])), (h0, .inr (8, [.ref qb, .ref qu, .int uc, .int ln, .int (nI n), .int (nI i), .int pl])), (qb, .inl (cB, 4096, .inl bf)), (qu, .inl (cI, 4096, .inl ug))] ++ va_pl L f) sz.size)) (vx_X (fun (u : Int32 × Int32 × Int32 × (Nat → Int32) × Int32 × Int32 × Option Nat × (Nat → va_E)) => (∀ a, E a ≠ 0 → a ≠ it → u.2.2.2.2.2.2.2 a = f a) ∧ CNn bf n k i kd) (fun En u t9 => En = UOX ∧ mz dC dI ([(jr, .inr (1, [.ref h0, .int u.2.2.2.2.1, .int u.2.2.2.2.2.1, va_rf u.2.2.2.2.2.2.1])), (h0, .inr (8, [.ref qb, .ref qu, .int u.2.1, .int ln, .int (nI n), .int u.1, .int u.2.2.1])), (qb, .inl (cB, 4096, .inl bf)), (qu, .inl (cI, 4096, .inl u.2.2.2.1))] ++ va_pl L u.2.2.2.2.2.2.2) [(cB, .byte), (cI, .int), (cV, .object "QueryBench$Value")] (va_A ([(jr, .inr (1, [.ref h0, .int dp, .int md, .ref it])), (h0, .inr (8, [.ref qb, .ref qu, .int uc, .int ln, .int (nI n), .int (nI i), .int pl])), (qb, .inl (cB, 4096, .inl bf)), (qu, .inl (cI, 4096, .inl ug))] ++ va_pl L f) sz.size) t9) (va_A ([(jr, .inr (1, [.ref h0, .int dp, .int md, .ref it])), (h0, .inr (8, [.ref qb, .ref qu, .int uc, .int ln, .int (nI n), .int (nI i), .int pl])), (qb, .inl (cB, 4096, .inl bf)), (qu, .inl (cI, 4096, .inl ug))] ++ va_pl L f) sz.size)) (2 * (n - i) + 2) (16 * (n - i) + 24) (va_A ([(jr, .inr (1, [.ref h0, .int dp, .int md, .ref it])), (h0, .inr (8, [.ref qb, .ref qu, .int uc, .int ln, .int (nI n), .int (nI i), .int pl])), (qb, .inl (cB, 4096, .inl bf)), (qu, .inl (cI, 4096, .inl ug))] ++ va_pl L f) sz.size) := by
  refine vx_ofW (cc := b_JsonReader_container) (maxL := 5) (ret := none) (by decide) rfl ?_
  intro p e s m args below meth c s₁ B hml hex hv
  obtain ⟨rfl, ⟨hsz, hP, hK, hD0⟩, hN, hZ, hC, hV⟩ := hv
  have hx := B.exec
  have hb := B.bytes
  have hr := B.returns
  have hts0 := atoms_spec (ws := k_JsonReader_container :: gtbl) B.pre
  have hts := fun w h => hts0 w (List.mem_cons_of_mem _ h)
  have hown : s.vm.findClass R_JsonReader = some m.cls := findClass_of_methodNamed B.named
  have hlocks := B.notSynchronized
  subst hsz
  have hD := hD0.self (sz := s.heap.size)
  generalize hAe : va_A ([(jr, .inr (1, [.ref h0, .int dp, .int md, .ref it])), (h0, .inr (8, [.ref qb, .ref qu, .int uc, .int ln, .int (nI n), .int (nI i), .int pl])), (qb, .inl (cB, 4096, .inl bf)), (qu, .inl (cI, 4096, .inl ug))] ++ va_pl L f) s.heap.size = A at hD hZ hC ⊢
  have hA : ∀ q : Nat, s.heap.size ≤ q → A q := fun q h => by rw [← hAe]; exact Or.inr h
  have hS : va_S A s.heap s.heap [] := va_S.rf
  have hP : va_P (dC, dI) classes ([(jr, .inr (1, [.ref h0, .int dp, .int md, .ref it])), (h0, .inr (8, [.ref qb, .ref qu, .int uc, .int ln, .int (nI n), .int (nI i), .int pl])), (qb, .inl (cB, 4096, .inl bf)), (qu, .inl (cI, 4096, .inl ug))] ++ va_pl L f) s.heap := hP
  have hl := lv_entry ([.ref jr, .ref it, .int kd, .int (nI d)]) (n := 5) (Nat.le_of_ble_eq_true rfl)
  rw [lg_entry_eq]
  generalize (lg_sl ([.ref jr, .ref it, .int kd, .int (nI d)]) ++ List.replicate (5 - (lg_sl ([.ref jr, .ref it, .int kd, .int (nI d)])).length) Slot.unset).toArray = ls at hl ⊢
  have hl : lv_has ls 5 [(0, .ref jr), (1, .ref it), (2, .int kd), (3, .int (nI d))] := hl
  refine lv_iload_n hx hb d_JsonReader_container_0 rfl (lv_at hl 3 rfl) ?_
  refine lv_bipush (v := 32) hx hb d_JsonReader_container_1 (by decide) ?_
  refine lv_icmp_lt (tgt := 20) hx hb d_JsonReader_container_3 (by decide) (fun c3 => ?_) (fun c3 => ?_)
  · have hd1 : d < 32 := by rw [show (32 : Int32) = nI 32 from rfl, nI_ltI (by omega) (by omega)] at c3; exact c3
    refine lv_aload_n hx hb d_JsonReader_container_20 rfl (lv_at hl 1 rfl) ?_
    refine lv_iload_n hx hb d_JsonReader_container_21 rfl (lv_at hl 2 rfl) ?_
    refine vq_put (D := (dC, dI)) (ci := 9) (v := .int kd) (ty := .int) (C := R_Value) (T := F_Value) (N := 10) hx hb hts in_Value t_Value t_Value_ok n_Value hown hK hP hD hS (hO.inV (Or.inl hit)) ef0 rfl 0 (by decide) (hts _ z_313) (fun _ h9 => h9) rfl (by decide +kernel) rfl rfl (Nat.le_of_ble_eq_true rfl) d_JsonReader_container_22 (fun H locs hP hD hS => ?_)
    have hP : va_P (dC, dI) classes ([(jr, .inr (1, [.ref h0, .int dp, .int md, .ref it])), (h0, .inr (8, [.ref qb, .ref qu, .int uc, .int ln, .int (nI n), .int (nI i), .int pl])), (qb, .inl (cB, 4096, .inl bf)), (qu, .inl (cI, 4096, .inl ug))] ++ va_pl L ((va_up f it (vE kd 0 none none none none 0 none none 0)))) H := hP
    have hD : va_D A ([(jr, .inr (1, [.ref h0, .int dp, .int md, .ref it])), (h0, .inr (8, [.ref qb, .ref qu, .int uc, .int ln, .int (nI n), .int (nI i), .int pl])), (qb, .inl (cB, 4096, .inl bf)), (qu, .inl (cI, 4096, .inl ug))] ++ va_pl L ((va_up f it (vE kd 0 none none none none 0 none none 0)))) := hD
    refine lv_aload_n hx hb d_JsonReader_container_25 rfl (lv_at hl 0 rfl) ?_
    refine lv_aload_n hx hb d_JsonReader_container_26 rfl (lv_at hl 0 rfl) ?_
    refine va_get (D := (dC, dI)) (ci := 1) (v := .int dp) (C := R_JsonReader) (T := F_JsonReader) (N := 4) hx hb hts in_JsonReader hown hK hP 0 rfl rfl 1 (by decide) (hts _ z_81) (fun _ h9 => h9) rfl d_JsonReader_container_27 ?_
    refine lv_iload_n hx hb d_JsonReader_container_30 rfl (lv_at hl 3 rfl) ?_
    refine lv_iconst (v := 1) hx hb d_JsonReader_container_31 (by decide) ?_
    refine lv_iadd hx hb d_JsonReader_container_32 ?_
    refine va_mmax hx hb (hml.trans hl.1.symm) hown (hts _ z_389) (hts _ w_390) (hts _ w_16) (hts _ wm_maxi) (by show 1 ≤ 15 + 3 * k; omega) (by show 1 + 0 + 13 ≤ 320 + 90 * k; omega) (by show 0 ≤ 2 * (n - i) + 2; omega) (by show 0 ≤ 16 * (n - i) + 24; omega) d_JsonReader_container_33 ?_
    refine lv_topi (fun x1 e1 => ?_)
    obtain ⟨D1, hDmx⟩ : ∃ z, z = max D (d + 1) := ⟨_, rfl⟩
    have hdp1 : x1 = nI D1 := by
      rw [e1, hdp, nI_1, hDmx]
      by_cases h9 : D < d + 1
      · rw [if_pos ((nI_ltI (by omega) (by omega)).mpr h9)]; congr 1; omega
      · rw [if_neg (fun q => h9 ((nI_ltI (by omega) (by omega)).mp q))]; congr 1; omega
    refine va_put (D := (dC, dI)) (ci := 1) (v := .int x1) (ty := .int) (C := R_JsonReader) (T := F_JsonReader) (N := 4) hx hb hts in_JsonReader t_JsonReader t_JsonReader_ok n_JsonReader hown hK hP hD hS 0 rfl rfl 1 (by decide) (hts _ z_81) (fun _ h9 => h9) rfl (by decide +kernel) rfl rfl (Nat.le_of_ble_eq_true rfl) d_JsonReader_container_36 (fun H locs hP hD hS => ?_)
    have hP : va_P (dC, dI) classes ([(jr, .inr (1, [.ref h0, .int x1, .int md, .ref it])), (h0, .inr (8, [.ref qb, .ref qu, .int uc, .int ln, .int (nI n), .int (nI i), .int pl])), (qb, .inl (cB, 4096, .inl bf)), (qu, .inl (cI, 4096, .inl ug))] ++ va_pl L ((va_up f it (vE kd 0 none none none none 0 none none 0)))) H := hP
    have hD : va_D A ([(jr, .inr (1, [.ref h0, .int x1, .int md, .ref it])), (h0, .inr (8, [.ref qb, .ref qu, .int uc, .int ln, .int (nI n), .int (nI i), .int pl])), (qb, .inl (cB, 4096, .inl bf)), (qu, .inl (cI, 4096, .inl ug))] ++ va_pl L ((va_up f it (vE kd 0 none none none none 0 none none 0)))) := hD
    refine lv_aload_n hx hb d_JsonReader_container_39 rfl (lv_at hl 0 rfl) ?_
    refine va_get (D := (dC, dI)) (ci := 1) (v := .ref h0) (C := R_JsonReader) (T := F_JsonReader) (N := 4) hx hb hts in_JsonReader hown hK hP 0 rfl rfl 0 (by decide) (hts _ w_80) (fun _ h9 => h9) rfl d_JsonReader_container_40 ?_
    refine lv_dup hx hb d_JsonReader_container_43 rfl ?_
    refine va_get (D := (dC, dI)) (ci := 8) (v := .int (nI i)) (C := R_Tape) (T := F_Tape) (N := 7) hx hb hts in_Tape hown hK hP 1 rfl rfl 5 (by decide) (hts _ z_52) (fun _ h9 => h9) rfl d_JsonReader_container_44 ?_
    refine lv_iconst (v := 1) hx hb d_JsonReader_container_47 (by decide) ?_
    refine lv_iadd hx hb d_JsonReader_container_48 ?_
    refine W.eq (g2 := F0 m 49 ls [.int (nI (i + 1)), .ref h0]) (by rw [show ((nI i) + 1) = (nI (i + 1)) from nI_1 _]) ?_
    refine va_put (D := (dC, dI)) (ci := 8) (v := .int (nI (i + 1))) (ty := .int) (C := R_Tape) (T := F_Tape) (N := 7) hx hb hts in_Tape t_Tape t_Tape_ok n_Tape hown hK hP hD hS 1 rfl rfl 5 (by decide) (hts _ z_52) (fun _ h9 => h9) rfl (by decide +kernel) rfl rfl (Nat.le_of_ble_eq_true rfl) d_JsonReader_container_49 (fun H locs hP hD hS => ?_)
    have hP : va_P (dC, dI) classes ([(jr, .inr (1, [.ref h0, .int x1, .int md, .ref it])), (h0, .inr (8, [.ref qb, .ref qu, .int uc, .int ln, .int (nI n), .int (nI (i + 1)), .int pl])), (qb, .inl (cB, 4096, .inl bf)), (qu, .inl (cI, 4096, .inl ug))] ++ va_pl L ((va_up f it (vE kd 0 none none none none 0 none none 0)))) H := hP
    have hD : va_D A ([(jr, .inr (1, [.ref h0, .int x1, .int md, .ref it])), (h0, .inr (8, [.ref qb, .ref qu, .int uc, .int ln, .int (nI n), .int (nI (i + 1)), .int pl])), (qb, .inl (cB, 4096, .inl bf)), (qu, .inl (cI, 4096, .inl ug))] ++ va_pl L ((va_up f it (vE kd 0 none none none none 0 none none 0)))) := hD
    have hP : va_P (dC, dI) classes ([(jr, .inr (1, [.ref h0, .int x1, .int md, .ref it])), (h0, .inr (8, [.ref qb, .ref qu, .int uc, .int ln, .int (nI n), .int (nI (i + 1)), .int pl])), (qb, .inl (cB, 4096, .inl bf)), (qu, .inl (cI, 4096, .inl ug))] ++ va_pl L ((va_up f it (vE kd 0 none none none none 0 none none 0)))) H := hP
    have hD : va_D A ([(jr, .inr (1, [.ref h0, .int x1, .int md, .ref it])), (h0, .inr (8, [.ref qb, .ref qu, .int uc, .int ln, .int (nI n), .int (nI (i + 1)), .int pl])), (qb, .inl (cB, 4096, .inl bf)), (qu, .inl (cI, 4096, .inl ug))] ++ va_pl L ((va_up f it (vE kd 0 none none none none 0 none none 0)))) := hD
    refine lv_aload_n hx hb d_JsonReader_container_52 rfl (lv_at hl 0 rfl) ?_
    refine va_get (D := (dC, dI)) (ci := 1) (v := .ref h0) (C := R_JsonReader) (T := F_JsonReader) (N := 4) hx hb hts in_JsonReader hown hK hP 0 rfl rfl 0 (by decide) (hts _ w_80) (fun _ h9 => h9) rfl d_JsonReader_container_53 ?_
    have hPc := hP.sub (ws' := [(h0, .inr (8, [.ref qb, .ref qu, .int uc, .int ln, .int (nI n), .int (nI (i + 1)), .int pl])), (qb, .inl (cB, 4096, .inl bf))]) [1, 2] rfl
    have hDc := hD.sub (ws' := [(h0, .inr (8, [.ref qb, .ref qu, .int uc, .int ln, .int (nI n), .int (nI (i + 1)), .int pl])), (qb, .inl (cB, 4096, .inl bf))]) [1, 2] (by decide) rfl
    have hFc := va_free (wc := [(h0, .inr (8, [.ref qb, .ref qu, .int uc, .int ln, .int (nI n), .int (nI (i + 1)), .int pl])), (qb, .inl (cB, 4096, .inl bf))]) hD hS hA [1, 2] rfl
    have hKc := hK.sub (tys' := [(cB, .byte)]) [0] rfl
    refine va_callv (va_runV (As := []) (rest := []) ⟨hx, hb, hml, hown, hts⟩ (c_Tape_skipBlanks l dC dI cB h0 qb H (.ref qu) uc ln pl bf n ((i + 1)) hn0 (by omega)) (cwV 0 hts (gt_V (own := R_JsonReader) (C := R_Tape) (i := 42) (y := y_Tape_skipBlanks) i_Tape_skipBlanks z_298 z_299 z_300 w_2) rfl rfl rfl (by decide +kernel) ⟨by show 0 + 1 ≤ 15 + 3 * k; omega, by show 8 + (2 + 11) + (0) ≤ 320 + 90 * k; omega⟩) ⟨mp_blind, va_recv hK hP (ci := 8) (q0 := 1) rfl rfl, fun U hU hW => ⟨rfl, hU, by rw [hU]; exact hPc, va_K.moved hW.alike hKc, hDc.weaken (fun _ _ _ _ => trivial)⟩⟩ rfl rfl hl.1 rfl (lv_room (Nat.le_of_ble_eq_true rfl)) d_JsonReader_container_56 ⟨by show 0 + (0) ≤ 2 * (n - i) + 2; omega, by show 0 + (0) ≤ 16 * (n - i) + 24; omega⟩) hS (fun q _ h => hFc q h) hFc (fun _u t9 H1 locs ht hvm hw hB hz1 hk1 hS => ?_)
    obtain ⟨hP1, hK1, hD1⟩ := hB
    rw [ht] at hP1
    obtain ⟨hP, hD⟩ := va_joinQ (wr := [(jr, .inr (1, [.ref h0, .int x1, .int md, .ref it])), (qu, .inl (cI, 4096, .inl ug))]) (w1 := [(h0, .inr (8, [.ref qb, .ref qu, .int uc, .int ln, .int (nI n), .int (nI (skipB bf n ((i + 1)))), .int pl])), (qb, .inl (cB, 4096, .inl bf))]) hP hD [1, 2] [0, 3] rfl rfl (by decide) (by decide) hk1 hFc hP1 hD1
    generalize H1 = H at hP hS ⊢
    have hP : va_P (dC, dI) classes ([(jr, .inr (1, [.ref h0, .int x1, .int md, .ref it])), (qu, .inl (cI, 4096, .inl ug)), (h0, .inr (8, [.ref qb, .ref qu, .int uc, .int ln, .int (nI n), .int (nI (skipB bf n ((i + 1)))), .int pl])), (qb, .inl (cB, 4096, .inl bf))] ++ va_pl L ((va_up f it (vE kd 0 none none none none 0 none none 0)))) H := hP
    have hD : va_D A ([(jr, .inr (1, [.ref h0, .int x1, .int md, .ref it])), (qu, .inl (cI, 4096, .inl ug)), (h0, .inr (8, [.ref qb, .ref qu, .int uc, .int ln, .int (nI n), .int (nI (skipB bf n ((i + 1)))), .int pl])), (qb, .inl (cB, 4096, .inl bf))] ++ va_pl L ((va_up f it (vE kd 0 none none none none 0 none none 0)))) := hD
    have hP := hP.part (cx := [(jr, .inr (1, [.ref h0, .int x1, .int md, .ref it])), (h0, .inr (8, [.ref qb, .ref qu, .int uc, .int ln, .int (nI n), .int (nI (skipB bf n ((i + 1)))), .int pl])), (qb, .inl (cB, 4096, .inl bf)), (qu, .inl (cI, 4096, .inl ug))]) [0, 2, 3, 1] rfl
    have hD := hD.part (cx := [(jr, .inr (1, [.ref h0, .int x1, .int md, .ref it])), (h0, .inr (8, [.ref qb, .ref qu, .int uc, .int ln, .int (nI n), .int (nI (skipB bf n ((i + 1)))), .int pl])), (qb, .inl (cB, 4096, .inl bf)), (qu, .inl (cI, 4096, .inl ug))]) [0, 2, 3, 1] (by decide) rfl
    obtain ⟨p21, h_p21⟩ : ∃ z, z = skipB bf n ((i + 1)) := ⟨_, rfl⟩
    have hb_p21 := skip_b (f := bf) (show ((i + 1)) ≤ n by omega)
    rw [← h_p21] at hP hD hb_p21
    have hP : va_P (dC, dI) classes ([(jr, .inr (1, [.ref h0, .int x1, .int md, .ref it])), (h0, .inr (8, [.ref qb, .ref qu, .int uc, .int ln, .int (nI n), .int (nI p21), .int pl])), (qb, .inl (cB, 4096, .inl bf)), (qu, .inl (cI, 4096, .inl ug))] ++ va_pl L ((va_up f it (vE kd 0 none none none none 0 none none 0)))) H := hP
    have hD : va_D A ([(jr, .inr (1, [.ref h0, .int x1, .int md, .ref it])), (h0, .inr (8, [.ref qb, .ref qu, .int uc, .int ln, .int (nI n), .int (nI p21), .int pl])), (qb, .inl (cB, 4096, .inl bf)), (qu, .inl (cI, 4096, .inl ug))] ++ va_pl L ((va_up f it (vE kd 0 none none none none 0 none none 0)))) := hD
    refine lv_iload_n hx hb d_JsonReader_container_59 rfl (lv_at hl 2 rfl) ?_
    refine lv_iconst (v := 5) hx hb d_JsonReader_container_60 (by decide) ?_
    refine lv_icmp_ne (tgt := 69) hx hb d_JsonReader_container_61 (by decide) (fun c61 => ?_) (fun c61 => ?_)
    · refine lv_bipush (v := 125) hx hb d_JsonReader_container_69 (by decide) ?_
      refine lv_istore (lv' := [(4, .int 125), (0, .ref jr), (1, .ref it), (2, .int kd), (3, .int (nI d))]) hx hb d_JsonReader_container_71 hl (by decide) rfl (fun ls hl => ?_)
      refine lv_aload_n hx hb d_JsonReader_container_73 rfl (lv_at hl 1 rfl) ?_
      refine va_get (D := (dC, dI)) (ci := 1) (v := .ref h0) (C := R_JsonReader) (T := F_JsonReader) (N := 4) hx hb hts in_JsonReader hown hK hP 0 rfl rfl 0 (by decide) (hts _ w_80) (fun _ h9 => h9) rfl d_JsonReader_container_74 ?_
      refine lv_iload hx hb d_JsonReader_container_77 (lv_at hl 0 rfl) ?_
      have hjc : jclo (decide (kd = 6)) = 125 := jclo6 hkd c61
      have hPc := hP.sub (ws' := [(h0, .inr (8, [.ref qb, .ref qu, .int uc, .int ln, .int (nI n), .int (nI p21), .int pl])), (qb, .inl (cB, 4096, .inl bf))]) [1, 2] rfl
      have hDc := hD.sub (ws' := [(h0, .inr (8, [.ref qb, .ref qu, .int uc, .int ln, .int (nI n), .int (nI p21), .int pl])), (qb, .inl (cB, 4096, .inl bf))]) [1, 2] (by decide) rfl
      have hFc := va_free (wc := [(h0, .inr (8, [.ref qb, .ref qu, .int uc, .int ln, .int (nI n), .int (nI p21), .int pl])), (qb, .inl (cB, 4096, .inl bf))]) hD hS hA [1, 2] rfl
      have hKc := hK.sub (tys' := [(cB, .byte)]) [0] rfl
      refine va_calli (va_runV (As := [.int 125]) (rest := []) ⟨hx, hb, hml, hown, hts⟩ (c_Tape_takeIf l dC dI cB h0 qb H (.ref qu) uc ln pl bf n p21 125 hn0 (by omega)) (cwV 1 hts (gt_V (own := R_JsonReader) (C := R_Tape) (i := 95) (y := y_Tape_takeIf) i_Tape_takeIf z_392 z_393 z_394 w_2) rfl rfl rfl (by decide +kernel) ⟨by show 1 + 1 ≤ 15 + 3 * k; omega, by show 8 + (2 + 11) + (20) ≤ 320 + 90 * k; omega⟩) ⟨mp_blind, va_recv hK hP (ci := 8) (q0 := 1) rfl rfl, fun U hU hW => ⟨rfl, hU, by rw [hU]; exact hPc, va_K.moved hW.alike hKc, hDc.weaken (fun _ _ _ _ => trivial)⟩⟩ rfl rfl hl.1 rfl (lv_room (Nat.le_of_ble_eq_true rfl)) d_JsonReader_container_79 ⟨by show 0 + (0) ≤ 2 * (n - i) + 2; omega, by show 0 + (0) ≤ 16 * (n - i) + 24; omega⟩) hS (fun q _ h => hFc q h) hFc (fun r22 u22 t9 H1 locs ht hvm hw hB hz1 hk1 hS => ?_)
      obtain ⟨hP1, hK1, hD1⟩ := hB
      rw [ht] at hP1
      obtain ⟨hP, hD⟩ := va_joinQ (wr := [(jr, .inr (1, [.ref h0, .int x1, .int md, .ref it])), (qu, .inl (cI, 4096, .inl ug))]) (w1 := [(h0, .inr (8, [.ref qb, .ref qu, .int uc, .int ln, .int (nI n), .int (nI u22), .int pl])), (qb, .inl (cB, 4096, .inl bf))]) hP hD [1, 2] [0, 3] rfl rfl (by decide) (by decide) hk1 hFc hP1 hD1
      generalize H1 = H at hP hS ⊢
      have hP : va_P (dC, dI) classes ([(jr, .inr (1, [.ref h0, .int x1, .int md, .ref it])), (qu, .inl (cI, 4096, .inl ug)), (h0, .inr (8, [.ref qb, .ref qu, .int uc, .int ln, .int (nI n), .int (nI u22), .int pl])), (qb, .inl (cB, 4096, .inl bf))] ++ va_pl L ((va_up f it (vE kd 0 none none none none 0 none none 0)))) H := hP
      have hD : va_D A ([(jr, .inr (1, [.ref h0, .int x1, .int md, .ref it])), (qu, .inl (cI, 4096, .inl ug)), (h0, .inr (8, [.ref qb, .ref qu, .int uc, .int ln, .int (nI n), .int (nI u22), .int pl])), (qb, .inl (cB, 4096, .inl bf))] ++ va_pl L ((va_up f it (vE kd 0 none none none none 0 none none 0)))) := hD
      have hP := hP.part (cx := [(jr, .inr (1, [.ref h0, .int x1, .int md, .ref it])), (h0, .inr (8, [.ref qb, .ref qu, .int uc, .int ln, .int (nI n), .int (nI u22), .int pl])), (qb, .inl (cB, 4096, .inl bf)), (qu, .inl (cI, 4096, .inl ug))]) [0, 2, 3, 1] rfl
      have hD := hD.part (cx := [(jr, .inr (1, [.ref h0, .int x1, .int md, .ref it])), (h0, .inr (8, [.ref qb, .ref qu, .int uc, .int ln, .int (nI n), .int (nI u22), .int pl])), (qb, .inl (cB, 4096, .inl bf)), (qu, .inl (cI, 4096, .inl ug))]) [0, 2, 3, 1] (by decide) rfl
      rcases hw with ⟨ht22, hr22, hu22⟩ | ⟨ht22, hr22, hu22⟩
      · have hu22 : u22 = p21 + 1 := hu22
        subst hr22
        rw [hu22] at hP hD
        have hl22 := here_lc ht22 (by decide)
        have hP : va_P (dC, dI) classes ([(jr, .inr (1, [.ref h0, .int x1, .int md, .ref it])), (h0, .inr (8, [.ref qb, .ref qu, .int uc, .int ln, .int (nI n), .int (nI (p21 + 1)), .int pl])), (qb, .inl (cB, 4096, .inl bf)), (qu, .inl (cI, 4096, .inl ug))] ++ va_pl L ((va_up f it (vE kd 0 none none none none 0 none none 0)))) H := hP
        have hD : va_D A ([(jr, .inr (1, [.ref h0, .int x1, .int md, .ref it])), (h0, .inr (8, [.ref qb, .ref qu, .int uc, .int ln, .int (nI n), .int (nI (p21 + 1)), .int pl])), (qb, .inl (cB, 4096, .inl bf)), (qu, .inl (cI, 4096, .inl ug))] ++ va_pl L ((va_up f it (vE kd 0 none none none none 0 none none 0)))) := hD
        have hclo : hereV bf n (skipB bf n (i + 1)) = 125 := by rw [← h_p21]; exact ht22
        refine lv_if_ne (tgt := 102) hx hb d_JsonReader_container_82 (by decide) (fun _ => ?_) (fun h => absurd h (by decide))
        have hCF : CFx cV bf n k d i (p21 + 1) D kd x1 E E (va_up f it (vE kd 0 none none none none 0 none none 0)) it it md md := by rw [h_p21]; exact CFx.empty (no := none) (by omega) hjc hclo hDmx hdp1 (va_up_self _ _ _)
        have hO1 : PO cI cV E lv L (va_up f it (vE kd 0 none none none none 0 none none 0)) := hO.upd1 hit (fun b h => (nomatch h)) (fun b h => (nomatch h)) (fun b h => (nomatch h)) (fun b h => (nomatch h)) (fun b h => (nomatch h)) (fun b h => (nomatch h))
        have hP : va_P (dC, dI) classes ([(jr, .inr (1, [.ref h0, .int x1, .int md, .ref it])), (h0, .inr (8, [.ref qb, .ref qu, .int uc, .int ln, .int (nI n), .int (nI (p21 + 1)), .int pl])), (qb, .inl (cB, 4096, .inl bf)), (qu, .inl (cI, 4096, .inl ug))] ++ va_pl (L ++ []) (va_up f it (vE kd 0 none none none none 0 none none 0))) H := by rw [List.append_nil]; exact hP
        have hD : va_D A ([(jr, .inr (1, [.ref h0, .int x1, .int md, .ref it])), (h0, .inr (8, [.ref qb, .ref qu, .int uc, .int ln, .int (nI n), .int (nI (p21 + 1)), .int pl])), (qb, .inl (cB, 4096, .inl bf)), (qu, .inl (cI, 4096, .inl ug))] ++ va_pl (L ++ []) (va_up f it (vE kd 0 none none none none 0 none none 0))) := by rw [List.append_nil]; exact hD
        have hMP : MP cI cV E lv L f it i n (p21 + 1) kd [] E (va_up f it (vE kd 0 none none none none 0 none none 0)) it := ⟨by omega, by omega, by rw [List.append_nil]; exact hO1, EX.rf, fun a ha => by rw [ha]; decide, fun a ha hai => va_up_ne _ _ hai, Or.inl hit, Or.inl rfl, none, none, va_up_self _ _ _, fun _ b h => (nomatch h)⟩
        refine w_same (fun hq => ?_)
        refine W.widen (k := 2 * (n - i) + 2) (n := 16 * (n - i) + 24) (by show 0 ≤ 2 * (n - i) + 2; omega) (by show 0 ≤ 16 * (n - i) + 24; omega) ?_
        refine vx_ret ?_
        exact W.vret hx hb hr (fun t9 ht hW => ⟨⟨((p21 + 1), [], E, (va_up f it (vE kd 0 none none none none 0 none none 0)), uc, ug, x1, md, it), rfl, ⟨by show i + 2 ≤ (p21 + 1); omega, hMP, hCF⟩, ⟨by rw [ht]; exact hP, va_K.moved hW.alike hK, hD⟩, by rw [ht]; exact hq.mono (by show 0 ≤ 2 * ((p21 + 1) - i) - 3; omega) (by show 0 ≤ 16 * ((p21 + 1) - i) - 32; omega)⟩, hS.F ht⟩) hS.2.2 d_JsonReader_container_102
      · have hu22 : u22 = p21 := hu22
        subst hr22
        rw [hu22] at hP hD
        have hP : va_P (dC, dI) classes ([(jr, .inr (1, [.ref h0, .int x1, .int md, .ref it])), (h0, .inr (8, [.ref qb, .ref qu, .int uc, .int ln, .int (nI n), .int (nI p21), .int pl])), (qb, .inl (cB, 4096, .inl bf)), (qu, .inl (cI, 4096, .inl ug))] ++ va_pl L ((va_up f it (vE kd 0 none none none none 0 none none 0)))) H := hP
        have hD : va_D A ([(jr, .inr (1, [.ref h0, .int x1, .int md, .ref it])), (h0, .inr (8, [.ref qb, .ref qu, .int uc, .int ln, .int (nI n), .int (nI p21), .int pl])), (qb, .inl (cB, 4096, .inl bf)), (qu, .inl (cI, 4096, .inl ug))] ++ va_pl L ((va_up f it (vE kd 0 none none none none 0 none none 0)))) := hD
        have hclo : ¬ hereV bf n (skipB bf n (i + 1)) = 125 := by rw [← h_p21]; exact ht22
        refine lv_if_ne (tgt := 102) hx hb d_JsonReader_container_82 (by decide) (fun h => absurd h (by decide)) (fun _ => ?_)
        refine lv_aload_n hx hb d_JsonReader_container_85 rfl (lv_at hl 1 rfl) ?_
        refine lv_aload_n hx hb d_JsonReader_container_86 rfl (lv_at hl 2 rfl) ?_
        refine lv_iload_n hx hb d_JsonReader_container_87 rfl (lv_at hl 4 rfl) ?_
        refine lv_iconst (v := 1) hx hb d_JsonReader_container_88 (by decide) ?_
        refine lv_iadd hx hb d_JsonReader_container_89 ?_
        have hO1 : PO cI cV E lv L (va_up f it (vE kd 0 none none none none 0 none none 0)) := hO.upd1 hit (fun b h => (nomatch h)) (fun b h => (nomatch h)) (fun b h => (nomatch h)) (fun b h => (nomatch h)) (fun b h => (nomatch h)) (fun b h => (nomatch h))
        refine W.eq (g2 := F0 m 90 ls [.int (nI (d + 1)), .ref it, .ref jr]) (by rw [show ((nI d) + 1) = (nI (d + 1)) from nI_1 _]) ?_
        have hPc := hP.part (cx := [(jr, .inr (1, [.ref h0, .int x1, .int md, .ref it])), (h0, .inr (8, [.ref qb, .ref qu, .int uc, .int ln, .int (nI n), .int (nI p21), .int pl])), (qb, .inl (cB, 4096, .inl bf)), (qu, .inl (cI, 4096, .inl ug))]) [0, 1, 2, 3] rfl
        have hDc := hD.part (cx := [(jr, .inr (1, [.ref h0, .int x1, .int md, .ref it])), (h0, .inr (8, [.ref qb, .ref qu, .int uc, .int ln, .int (nI n), .int (nI p21), .int pl])), (qb, .inl (cB, 4096, .inl bf)), (qu, .inl (cI, 4096, .inl ug))]) [0, 1, 2, 3] (by decide) rfl
        have hFc := va_freeP (cx := [(jr, .inr (1, [.ref h0, .int x1, .int md, .ref it])), (h0, .inr (8, [.ref qb, .ref qu, .int uc, .int ln, .int (nI n), .int (nI p21), .int pl])), (qb, .inl (cB, 4096, .inl bf)), (qu, .inl (cI, 4096, .inl ug))]) hD hS hA [0, 1, 2, 3] rfl
        have hKc := hK.sub (tys' := [(cB, .byte), (cI, .int), (cV, .object "QueryBench$Value")]) [0, 1, 2] rfl
        refine w_same (fun hq0 => ?_)
        refine vx_callv (vx_runV (As := [.ref it, .int (nI (d + 1))]) (rest := []) ⟨hx, hb, hml, hown, hts⟩ (c_JsonReader_members l hl9 K dC dI cI cV lv cB h0 qb qu ln bf n jr hn0 k (d + 1) HV (by omega) H E L (va_up f it (vE kd 0 none none none none 0 none none 0)) hO1 p21 uc pl ug x1 md it kd hkd hit (va_up_self _ _ _) (by omega) D1 hdp1 (by omega) (by omega) (by omega) (by omega)) (cwV 2 hts (gt_V (own := R_JsonReader) (C := R_JsonReader) (i := 112) (y := y_JsonReader_members) i_JsonReader_members z_397 z_399 (gt_sel (y := y_JsonReader_members) (n := 4) (by decide +kernel)) w_3) rfl rfl rfl (by decide +kernel) ⟨by show 14 + 3 * k + 1 ≤ 15 + 3 * k; omega, by show 8 + (10 + 11) + (290 + 90 * k) ≤ 320 + 90 * k; omega⟩) ⟨ml_blind, va_recv hK hP (ci := 1) (q0 := 0) rfl rfl, fun U hU hW => ⟨rfl, ⟨hU, by rw [hU]; exact hPc, va_K.moved hW.alike hKc, hDc.weaken (fun _ _ _ _ => trivial)⟩, hN.warm hW, by rw [hU]; exact ZX.moved' hW.alike (ZX.narrow' (ZX.kept' hZ hS.2.1) hFc), by rw [hU]; exact CE.call hC hS.2.1 hFc hW, va_AO.moved hW.alike hV⟩⟩ rfl rfl hl.1 rfl (lv_room (Nat.le_of_ble_eq_true rfl)) d_JsonReader_container_90 ⟨by show 0 + (2 * (n - p21) + 4) ≤ 2 * (n - i) + 2; omega, by show 0 + (16 * (n - p21) + 40) ≤ 16 * (n - i) + 24; omega⟩) hS (fun q _ h => hFc q h) hFc (fun q _ h => hFc q h) (fun En ce q9 ⟨ax, cx, px, gx, dx, mx, lx, fx⟩ t9 H1 locs ht hvm hw hB hz1 hk1 hS hce hcv hcl => ?_) (fun ⟨p3, N3, E3, f3, uc3, ug3, dp3, md3, lb3⟩ t9 H1 locs ht hvm hw hB hz1 hk1 hS => ?_)
        · obtain ⟨hEn, hP1, hK1, hD1⟩ := hB
          rw [ht] at hP1
          obtain ⟨hP, hD⟩ := va_joinP (wr := []) (rx := [(jr, .inr (1, [.ref h0, .int dx, .int mx, va_rf lx])), (h0, .inr (8, [.ref qb, .ref qu, .int cx, .int ln, .int (nI n), .int ax, .int px])), (qb, .inl (cB, 4096, .inl bf)), (qu, .inl (cI, 4096, .inl gx))]) (pl1 := va_pl L fx) hP hD [0, 1, 2, 3] [] rfl rfl (by decide) (by decide) hk1 hFc hP1 hD1
          generalize H1 = H at hP hS hce ⊢
          have hP : va_P (dC, dI) classes ([(jr, .inr (1, [.ref h0, .int dx, .int mx, va_rf lx])), (h0, .inr (8, [.ref qb, .ref qu, .int cx, .int ln, .int (nI n), .int ax, .int px])), (qb, .inl (cB, 4096, .inl bf)), (qu, .inl (cI, 4096, .inl gx))] ++ va_pl L fx) H := hP
          have hD : va_D A ([(jr, .inr (1, [.ref h0, .int dx, .int mx, va_rf lx])), (h0, .inr (8, [.ref qb, .ref qu, .int cx, .int ln, .int (nI n), .int ax, .int px])), (qb, .inl (cB, 4096, .inl bf)), (qu, .inl (cI, 4096, .inl gx))] ++ va_pl L fx) := hD
          have hkx : ∀ a, E a ≠ 0 → a ≠ it → fx a = f a := fun a ha hai => ((show ∀ a, E a ≠ 0 → a ≠ it → fx a = (va_up f it (vE kd 0 none none none none 0 none none 0)) a from hw.1) a ha hai).trans (va_up_ne _ _ hai)
          have hno : CNn bf n k i kd := CNn.mem hjc hclo (by rw [← h_p21]; exact hw.2)
          exact vx_out (fun x hx => (hex x hx).elim) hlocks hce hcv hcl (fun t9 ht2 ha => ⟨(ax, cx, px, gx, dx, mx, lx, fx), ⟨hkx, hno⟩, ⟨hEn, by rw [ht2]; exact hP, va_K.moved ha hK, hD⟩, hS.F ht2⟩) hS.2.2 (by show 0 + (2 * (n - p21) + 4) ≤ 2 * (n - i) + 2; omega) (by show 0 + (16 * (n - p21) + 40) ≤ 16 * (n - i) + 24; omega)
        · obtain ⟨⟨hP1, hK1, hD1⟩, hz9⟩ := hB
          rw [ht] at hP1
          rw [ht] at hz9
          have hq0 : szk s.heap H1 (0 + (2 * (p3 - p21) + 1)) (0 + 16 * (p3 - p21)) := (hq0.trans hz9).mono (Nat.le_refl _) (Nat.le_refl _)
          refine w_tight hq0 ?_
          obtain ⟨hP, hD⟩ := va_joinP (wr := []) (rx := [(jr, .inr (1, [.ref h0, .int dp3, .int md3, .ref lb3])), (h0, .inr (8, [.ref qb, .ref qu, .int uc3, .int ln, .int (nI n), .int (nI p3), .int pl])), (qb, .inl (cB, 4096, .inl bf)), (qu, .inl (cI, 4096, .inl ug3))]) (pl1 := va_pl ((L ++ N3)) f3) hP hD [0, 1, 2, 3] [] rfl rfl (by decide) (by decide) hk1 hFc hP1 hD1
          generalize H1 = H at hP hS hq0 ⊢
          have hP : va_P (dC, dI) classes ([(jr, .inr (1, [.ref h0, .int dp3, .int md3, .ref lb3])), (h0, .inr (8, [.ref qb, .ref qu, .int uc3, .int ln, .int (nI n), .int (nI p3), .int pl])), (qb, .inl (cB, 4096, .inl bf)), (qu, .inl (cI, 4096, .inl ug3))] ++ va_pl ((L ++ N3)) f3) H := hP
          have hD : va_D A ([(jr, .inr (1, [.ref h0, .int dp3, .int md3, .ref lb3])), (h0, .inr (8, [.ref qb, .ref qu, .int uc3, .int ln, .int (nI n), .int (nI p3), .int pl])), (qb, .inl (cB, 4096, .inl bf)), (qu, .inl (cI, 4096, .inl ug3))] ++ va_pl ((L ++ N3)) f3) := hD
          obtain ⟨hw, hMF⟩ := hw
          have hMF : MFx cV bf n k (d + 1) (skipB bf n (i + 1)) p3 D1 kd dp3 E E3 f3 it lb3 md md3 := by rw [← h_p21]; exact hMF
          have hM : MP cI cV E lv L (va_up f it (vE kd 0 none none none none 0 none none 0)) it p21 n p3 kd N3 E3 f3 lb3 := hw
          have hp3 := hM.1
          have hp4 := hM.2.1
          refine lv_aload_n hx hb d_JsonReader_container_93 rfl (lv_at hl 1 rfl) ?_
          refine va_get (D := (dC, dI)) (ci := 1) (v := .ref h0) (C := R_JsonReader) (T := F_JsonReader) (N := 4) hx hb hts in_JsonReader hown hK hP 0 rfl rfl 0 (by decide) (hts _ w_80) (fun _ h9 => h9) rfl d_JsonReader_container_94 ?_
          refine lv_iload hx hb d_JsonReader_container_97 (lv_at hl 0 rfl) ?_
          have hPc := hP.sub (ws' := [(h0, .inr (8, [.ref qb, .ref qu, .int uc3, .int ln, .int (nI n), .int (nI p3), .int pl])), (qb, .inl (cB, 4096, .inl bf))]) [1, 2] rfl
          have hDc := hD.sub (ws' := [(h0, .inr (8, [.ref qb, .ref qu, .int uc3, .int ln, .int (nI n), .int (nI p3), .int pl])), (qb, .inl (cB, 4096, .inl bf))]) [1, 2] (by decide) rfl
          have hFc := va_free (wc := [(h0, .inr (8, [.ref qb, .ref qu, .int uc3, .int ln, .int (nI n), .int (nI p3), .int pl])), (qb, .inl (cB, 4096, .inl bf))]) hD hS hA [1, 2] rfl
          have hKc := hK.sub (tys' := [(cB, .byte)]) [0] rfl
          refine w_same (fun hq0 => ?_)
          refine vx_callv (vx_runV (As := [.int 125]) (rest := []) ⟨hx, hb, hml, hown, hts⟩ (c_Tape_take l hl9 dC dI cB h0 qb H (.ref qu) uc3 ln pl bf n p3 125 hn0 (by omega)) (cwV 1 hts (gt_V (own := R_JsonReader) (C := R_Tape) (i := 116) (y := y_Tape_take) i_Tape_take z_446 w_437 w_438 w_2) rfl rfl rfl (by decide +kernel) ⟨by show 9 + 1 ≤ 15 + 3 * k; omega, by show 8 + (2 + 11) + (131) ≤ 320 + 90 * k; omega⟩) ⟨mx_blind, va_recv hK hP (ci := 8) (q0 := 1) rfl rfl, fun U hU hW => ⟨rfl, ⟨hU, by rw [hU]; exact hPc, va_K.moved hW.alike hKc, hDc.weaken (fun _ _ _ _ => trivial)⟩, hN.warm hW, by rw [hU]; exact ZX.moved' hW.alike (ZX.narrow' (ZX.kept' hZ hS.2.1) hFc)⟩⟩ rfl rfl hl.1 rfl (lv_room (Nat.le_of_ble_eq_true rfl)) d_JsonReader_container_99 ⟨by show (0 + (2 * (p3 - p21) + 1)) + (1) ≤ 2 * (n - i) + 2; omega, by show (0 + 16 * (p3 - p21)) + (6) ≤ 16 * (n - i) + 24; omega⟩) hS (fun q _ h => hFc q h) hFc (fun q _ h => hFc q h) (fun En ce q9 _u t9 H1 locs ht hvm hw hB hz1 hk1 hS hce hcv hcl => ?_) (fun _u t9 H1 locs ht hvm hw hB hz1 hk1 hS => ?_)
          · obtain ⟨hEn, hP1, hK1, hD1⟩ := hB
            rw [ht] at hP1
            obtain ⟨hP, hD⟩ := va_joinQ (wr := [(jr, .inr (1, [.ref h0, .int dp3, .int md3, .ref lb3])), (qu, .inl (cI, 4096, .inl ug3))]) (w1 := [(h0, .inr (8, [.ref qb, .ref qu, .int uc3, .int ln, .int (nI n), .int (nI p3), .int (nI p3)])), (qb, .inl (cB, 4096, .inl bf))]) hP hD [1, 2] [0, 3] rfl rfl (by decide) (by decide) hk1 hFc hP1 hD1
            generalize H1 = H at hP hS hce ⊢
            have hP : va_P (dC, dI) classes ([(jr, .inr (1, [.ref h0, .int dp3, .int md3, .ref lb3])), (qu, .inl (cI, 4096, .inl ug3)), (h0, .inr (8, [.ref qb, .ref qu, .int uc3, .int ln, .int (nI n), .int (nI p3), .int (nI p3)])), (qb, .inl (cB, 4096, .inl bf))] ++ va_pl ((L ++ N3)) f3) H := hP
            have hD : va_D A ([(jr, .inr (1, [.ref h0, .int dp3, .int md3, .ref lb3])), (qu, .inl (cI, 4096, .inl ug3)), (h0, .inr (8, [.ref qb, .ref qu, .int uc3, .int ln, .int (nI n), .int (nI p3), .int (nI p3)])), (qb, .inl (cB, 4096, .inl bf))] ++ va_pl ((L ++ N3)) f3) := hD
            have hP := hP.part (cx := [(jr, .inr (1, [.ref h0, .int dp3, .int md3, .ref lb3])), (h0, .inr (8, [.ref qb, .ref qu, .int uc3, .int ln, .int (nI n), .int (nI p3), .int (nI p3)])), (qb, .inl (cB, 4096, .inl bf)), (qu, .inl (cI, 4096, .inl ug3))]) [0, 2, 3, 1] rfl
            have hD := hD.part (cx := [(jr, .inr (1, [.ref h0, .int dp3, .int md3, .ref lb3])), (h0, .inr (8, [.ref qb, .ref qu, .int uc3, .int ln, .int (nI n), .int (nI p3), .int (nI p3)])), (qb, .inl (cB, 4096, .inl bf)), (qu, .inl (cI, 4096, .inl ug3))]) [0, 2, 3, 1] (by decide) rfl
            have hP := plP_pre hP
            have hD := plD_pre hD
            have hkx : ∀ a, E a ≠ 0 → a ≠ it → f3 a = f a := fun a ha hai => (hM.2.2.2.2.2.1 a ha hai).trans (va_up_ne _ _ hai)
            have hno : CNn bf n k i kd := CNn.clo hjc hclo hMF.mfn hw
            exact vx_out (fun x hx => (hex x hx).elim) hlocks hce hcv hcl (fun t9 ht2 ha => ⟨(nI p3, uc3, nI p3, ug3, dp3, md3, some lb3, f3), ⟨hkx, hno⟩, ⟨hEn, by rw [ht2]; exact hP, va_K.moved ha hK, hD⟩, hS.F ht2⟩) hS.2.2 (by show (0 + (2 * (p3 - p21) + 1)) + (1) ≤ 2 * (n - i) + 2; omega) (by show (0 + 16 * (p3 - p21)) + (6) ≤ 16 * (n - i) + 24; omega)
          · obtain ⟨⟨hP1, hK1, hD1⟩, hz9⟩ := hB
            rw [ht] at hP1
            rw [ht] at hz9
            refine w_tight (hq0.trans hz9) ?_
            have hq0 := hq0.trans hz9
            obtain ⟨hP, hD⟩ := va_joinQ (wr := [(jr, .inr (1, [.ref h0, .int dp3, .int md3, .ref lb3])), (qu, .inl (cI, 4096, .inl ug3))]) (w1 := [(h0, .inr (8, [.ref qb, .ref qu, .int uc3, .int ln, .int (nI n), .int (nI (p3 + 1)), .int pl])), (qb, .inl (cB, 4096, .inl bf))]) hP hD [1, 2] [0, 3] rfl rfl (by decide) (by decide) hk1 hFc hP1 hD1
            generalize H1 = H at hP hS hq0 ⊢
            have hP : va_P (dC, dI) classes ([(jr, .inr (1, [.ref h0, .int dp3, .int md3, .ref lb3])), (qu, .inl (cI, 4096, .inl ug3)), (h0, .inr (8, [.ref qb, .ref qu, .int uc3, .int ln, .int (nI n), .int (nI (p3 + 1)), .int pl])), (qb, .inl (cB, 4096, .inl bf))] ++ va_pl ((L ++ N3)) f3) H := hP
            have hD : va_D A ([(jr, .inr (1, [.ref h0, .int dp3, .int md3, .ref lb3])), (qu, .inl (cI, 4096, .inl ug3)), (h0, .inr (8, [.ref qb, .ref qu, .int uc3, .int ln, .int (nI n), .int (nI (p3 + 1)), .int pl])), (qb, .inl (cB, 4096, .inl bf))] ++ va_pl ((L ++ N3)) f3) := hD
            have hP := hP.part (cx := [(jr, .inr (1, [.ref h0, .int dp3, .int md3, .ref lb3])), (h0, .inr (8, [.ref qb, .ref qu, .int uc3, .int ln, .int (nI n), .int (nI (p3 + 1)), .int pl])), (qb, .inl (cB, 4096, .inl bf)), (qu, .inl (cI, 4096, .inl ug3))]) [0, 2, 3, 1] rfl
            have hD := hD.part (cx := [(jr, .inr (1, [.ref h0, .int dp3, .int md3, .ref lb3])), (h0, .inr (8, [.ref qb, .ref qu, .int uc3, .int ln, .int (nI n), .int (nI (p3 + 1)), .int pl])), (qb, .inl (cB, 4096, .inl bf)), (qu, .inl (cI, 4096, .inl ug3))]) [0, 2, 3, 1] (by decide) rfl
            have ht23 : hereV bf n p3 = 125 := hw
            have hl23 := here_lc ht23 (by decide)
            have hCF : CFx cV bf n k d i (p3 + 1) D kd dp3 E E3 f3 it lb3 md md3 := CFx.full (by omega) hjc hclo hMF ht23 hDmx
            have hMP : MP cI cV E lv L f it i n (p3 + 1) kd N3 E3 f3 lb3 := ⟨by omega, by omega, hM.2.2.1, hM.2.2.2.1, hM.2.2.2.2.1, fun a ha hai => (hM.2.2.2.2.2.1 a ha hai).trans (va_up_ne _ _ hai), hM.2.2.2.2.2.2.1, hM.2.2.2.2.2.2.2.1, hM.2.2.2.2.2.2.2.2⟩
            refine w_same (fun hq => ?_)
            refine W.widen (k := 2 * (n - i) + 2) (n := 16 * (n - i) + 24) (by show (0 + (2 * (p3 - p21) + 1)) ≤ 2 * (n - i) + 2; omega) (by show (0 + 16 * (p3 - p21)) ≤ 16 * (n - i) + 24; omega) ?_
            refine vx_ret ?_
            exact W.vret hx hb hr (fun t9 ht hW => ⟨⟨((p3 + 1), N3, E3, f3, uc3, ug3, dp3, md3, lb3), rfl, ⟨by show i + 2 ≤ (p3 + 1); omega, hMP, hCF⟩, ⟨by rw [ht]; exact hP, va_K.moved hW.alike hK, hD⟩, by rw [ht]; exact hq.mono (by show (0 + (2 * (p3 - p21) + 1)) ≤ 2 * ((p3 + 1) - i) - 3; omega) (by show (0 + 16 * (p3 - p21)) ≤ 16 * ((p3 + 1) - i) - 32; omega)⟩, hS.F ht⟩) hS.2.2 d_JsonReader_container_102
    · refine lv_bipush (v := 93) hx hb d_JsonReader_container_64 (by decide) ?_
      refine lv_goto (tgt := 71) hx hb d_JsonReader_container_66 (by decide) ?_
      refine lv_istore (lv' := [(4, .int 93), (0, .ref jr), (1, .ref it), (2, .int kd), (3, .int (nI d))]) hx hb d_JsonReader_container_71 hl (by decide) rfl (fun ls hl => ?_)
      refine lv_aload_n hx hb d_JsonReader_container_73 rfl (lv_at hl 1 rfl) ?_
      refine va_get (D := (dC, dI)) (ci := 1) (v := .ref h0) (C := R_JsonReader) (T := F_JsonReader) (N := 4) hx hb hts in_JsonReader hown hK hP 0 rfl rfl 0 (by decide) (hts _ w_80) (fun _ h9 => h9) rfl d_JsonReader_container_74 ?_
      refine lv_iload hx hb d_JsonReader_container_77 (lv_at hl 0 rfl) ?_
      have hjc : jclo (decide (kd = 6)) = 93 := jclo5 c61
      have hPc := hP.sub (ws' := [(h0, .inr (8, [.ref qb, .ref qu, .int uc, .int ln, .int (nI n), .int (nI p21), .int pl])), (qb, .inl (cB, 4096, .inl bf))]) [1, 2] rfl
      have hDc := hD.sub (ws' := [(h0, .inr (8, [.ref qb, .ref qu, .int uc, .int ln, .int (nI n), .int (nI p21), .int pl])), (qb, .inl (cB, 4096, .inl bf))]) [1, 2] (by decide) rfl
      have hFc := va_free (wc := [(h0, .inr (8, [.ref qb, .ref qu, .int uc, .int ln, .int (nI n), .int (nI p21), .int pl])), (qb, .inl (cB, 4096, .inl bf))]) hD hS hA [1, 2] rfl
      have hKc := hK.sub (tys' := [(cB, .byte)]) [0] rfl
      refine va_calli (va_runV (As := [.int 93]) (rest := []) ⟨hx, hb, hml, hown, hts⟩ (c_Tape_takeIf l dC dI cB h0 qb H (.ref qu) uc ln pl bf n p21 93 hn0 (by omega)) (cwV 1 hts (gt_V (own := R_JsonReader) (C := R_Tape) (i := 95) (y := y_Tape_takeIf) i_Tape_takeIf z_392 z_393 z_394 w_2) rfl rfl rfl (by decide +kernel) ⟨by show 1 + 1 ≤ 15 + 3 * k; omega, by show 8 + (2 + 11) + (20) ≤ 320 + 90 * k; omega⟩) ⟨mp_blind, va_recv hK hP (ci := 8) (q0 := 1) rfl rfl, fun U hU hW => ⟨rfl, hU, by rw [hU]; exact hPc, va_K.moved hW.alike hKc, hDc.weaken (fun _ _ _ _ => trivial)⟩⟩ rfl rfl hl.1 rfl (lv_room (Nat.le_of_ble_eq_true rfl)) d_JsonReader_container_79 ⟨by show 0 + (0) ≤ 2 * (n - i) + 2; omega, by show 0 + (0) ≤ 16 * (n - i) + 24; omega⟩) hS (fun q _ h => hFc q h) hFc (fun r24 u24 t9 H1 locs ht hvm hw hB hz1 hk1 hS => ?_)
      obtain ⟨hP1, hK1, hD1⟩ := hB
      rw [ht] at hP1
      obtain ⟨hP, hD⟩ := va_joinQ (wr := [(jr, .inr (1, [.ref h0, .int x1, .int md, .ref it])), (qu, .inl (cI, 4096, .inl ug))]) (w1 := [(h0, .inr (8, [.ref qb, .ref qu, .int uc, .int ln, .int (nI n), .int (nI u24), .int pl])), (qb, .inl (cB, 4096, .inl bf))]) hP hD [1, 2] [0, 3] rfl rfl (by decide) (by decide) hk1 hFc hP1 hD1
      generalize H1 = H at hP hS ⊢
      have hP : va_P (dC, dI) classes ([(jr, .inr (1, [.ref h0, .int x1, .int md, .ref it])), (qu, .inl (cI, 4096, .inl ug)), (h0, .inr (8, [.ref qb, .ref qu, .int uc, .int ln, .int (nI n), .int (nI u24), .int pl])), (qb, .inl (cB, 4096, .inl bf))] ++ va_pl L ((va_up f it (vE kd 0 none none none none 0 none none 0)))) H := hP
      have hD : va_D A ([(jr, .inr (1, [.ref h0, .int x1, .int md, .ref it])), (qu, .inl (cI, 4096, .inl ug)), (h0, .inr (8, [.ref qb, .ref qu, .int uc, .int ln, .int (nI n), .int (nI u24), .int pl])), (qb, .inl (cB, 4096, .inl bf))] ++ va_pl L ((va_up f it (vE kd 0 none none none none 0 none none 0)))) := hD
      have hP := hP.part (cx := [(jr, .inr (1, [.ref h0, .int x1, .int md, .ref it])), (h0, .inr (8, [.ref qb, .ref qu, .int uc, .int ln, .int (nI n), .int (nI u24), .int pl])), (qb, .inl (cB, 4096, .inl bf)), (qu, .inl (cI, 4096, .inl ug))]) [0, 2, 3, 1] rfl
      have hD := hD.part (cx := [(jr, .inr (1, [.ref h0, .int x1, .int md, .ref it])), (h0, .inr (8, [.ref qb, .ref qu, .int uc, .int ln, .int (nI n), .int (nI u24), .int pl])), (qb, .inl (cB, 4096, .inl bf)), (qu, .inl (cI, 4096, .inl ug))]) [0, 2, 3, 1] (by decide) rfl
      rcases hw with ⟨ht24, hr24, hu24⟩ | ⟨ht24, hr24, hu24⟩
      · have hu24 : u24 = p21 + 1 := hu24
        subst hr24
        rw [hu24] at hP hD
        have hl24 := here_lc ht24 (by decide)
        have hP : va_P (dC, dI) classes ([(jr, .inr (1, [.ref h0, .int x1, .int md, .ref it])), (h0, .inr (8, [.ref qb, .ref qu, .int uc, .int ln, .int (nI n), .int (nI (p21 + 1)), .int pl])), (qb, .inl (cB, 4096, .inl bf)), (qu, .inl (cI, 4096, .inl ug))] ++ va_pl L ((va_up f it (vE kd 0 none none none none 0 none none 0)))) H := hP
        have hD : va_D A ([(jr, .inr (1, [.ref h0, .int x1, .int md, .ref it])), (h0, .inr (8, [.ref qb, .ref qu, .int uc, .int ln, .int (nI n), .int (nI (p21 + 1)), .int pl])), (qb, .inl (cB, 4096, .inl bf)), (qu, .inl (cI, 4096, .inl ug))] ++ va_pl L ((va_up f it (vE kd 0 none none none none 0 none none 0)))) := hD
        have hclo : hereV bf n (skipB bf n (i + 1)) = 93 := by rw [← h_p21]; exact ht24
        refine lv_if_ne (tgt := 102) hx hb d_JsonReader_container_82 (by decide) (fun _ => ?_) (fun h => absurd h (by decide))
        have hCF : CFx cV bf n k d i (p21 + 1) D kd x1 E E (va_up f it (vE kd 0 none none none none 0 none none 0)) it it md md := by rw [h_p21]; exact CFx.empty (no := none) (by omega) hjc hclo hDmx hdp1 (va_up_self _ _ _)
        have hO1 : PO cI cV E lv L (va_up f it (vE kd 0 none none none none 0 none none 0)) := hO.upd1 hit (fun b h => (nomatch h)) (fun b h => (nomatch h)) (fun b h => (nomatch h)) (fun b h => (nomatch h)) (fun b h => (nomatch h)) (fun b h => (nomatch h))
        have hP : va_P (dC, dI) classes ([(jr, .inr (1, [.ref h0, .int x1, .int md, .ref it])), (h0, .inr (8, [.ref qb, .ref qu, .int uc, .int ln, .int (nI n), .int (nI (p21 + 1)), .int pl])), (qb, .inl (cB, 4096, .inl bf)), (qu, .inl (cI, 4096, .inl ug))] ++ va_pl (L ++ []) (va_up f it (vE kd 0 none none none none 0 none none 0))) H := by rw [List.append_nil]; exact hP
        have hD : va_D A ([(jr, .inr (1, [.ref h0, .int x1, .int md, .ref it])), (h0, .inr (8, [.ref qb, .ref qu, .int uc, .int ln, .int (nI n), .int (nI (p21 + 1)), .int pl])), (qb, .inl (cB, 4096, .inl bf)), (qu, .inl (cI, 4096, .inl ug))] ++ va_pl (L ++ []) (va_up f it (vE kd 0 none none none none 0 none none 0))) := by rw [List.append_nil]; exact hD
        have hMP : MP cI cV E lv L f it i n (p21 + 1) kd [] E (va_up f it (vE kd 0 none none none none 0 none none 0)) it := ⟨by omega, by omega, by rw [List.append_nil]; exact hO1, EX.rf, fun a ha => by rw [ha]; decide, fun a ha hai => va_up_ne _ _ hai, Or.inl hit, Or.inl rfl, none, none, va_up_self _ _ _, fun _ b h => (nomatch h)⟩
        refine w_same (fun hq => ?_)
        refine W.widen (k := 2 * (n - i) + 2) (n := 16 * (n - i) + 24) (by show 0 ≤ 2 * (n - i) + 2; omega) (by show 0 ≤ 16 * (n - i) + 24; omega) ?_
        refine vx_ret ?_
        exact W.vret hx hb hr (fun t9 ht hW => ⟨⟨((p21 + 1), [], E, (va_up f it (vE kd 0 none none none none 0 none none 0)), uc, ug, x1, md, it), rfl, ⟨by show i + 2 ≤ (p21 + 1); omega, hMP, hCF⟩, ⟨by rw [ht]; exact hP, va_K.moved hW.alike hK, hD⟩, by rw [ht]; exact hq.mono (by show 0 ≤ 2 * ((p21 + 1) - i) - 3; omega) (by show 0 ≤ 16 * ((p21 + 1) - i) - 32; omega)⟩, hS.F ht⟩) hS.2.2 d_JsonReader_container_102
      · have hu24 : u24 = p21 := hu24
        subst hr24
        rw [hu24] at hP hD
        have hP : va_P (dC, dI) classes ([(jr, .inr (1, [.ref h0, .int x1, .int md, .ref it])), (h0, .inr (8, [.ref qb, .ref qu, .int uc, .int ln, .int (nI n), .int (nI p21), .int pl])), (qb, .inl (cB, 4096, .inl bf)), (qu, .inl (cI, 4096, .inl ug))] ++ va_pl L ((va_up f it (vE kd 0 none none none none 0 none none 0)))) H := hP
        have hD : va_D A ([(jr, .inr (1, [.ref h0, .int x1, .int md, .ref it])), (h0, .inr (8, [.ref qb, .ref qu, .int uc, .int ln, .int (nI n), .int (nI p21), .int pl])), (qb, .inl (cB, 4096, .inl bf)), (qu, .inl (cI, 4096, .inl ug))] ++ va_pl L ((va_up f it (vE kd 0 none none none none 0 none none 0)))) := hD
        have hclo : ¬ hereV bf n (skipB bf n (i + 1)) = 93 := by rw [← h_p21]; exact ht24
        refine lv_if_ne (tgt := 102) hx hb d_JsonReader_container_82 (by decide) (fun h => absurd h (by decide)) (fun _ => ?_)
        refine lv_aload_n hx hb d_JsonReader_container_85 rfl (lv_at hl 1 rfl) ?_
        refine lv_aload_n hx hb d_JsonReader_container_86 rfl (lv_at hl 2 rfl) ?_
        refine lv_iload_n hx hb d_JsonReader_container_87 rfl (lv_at hl 4 rfl) ?_
        refine lv_iconst (v := 1) hx hb d_JsonReader_container_88 (by decide) ?_
        refine lv_iadd hx hb d_JsonReader_container_89 ?_
        have hO1 : PO cI cV E lv L (va_up f it (vE kd 0 none none none none 0 none none 0)) := hO.upd1 hit (fun b h => (nomatch h)) (fun b h => (nomatch h)) (fun b h => (nomatch h)) (fun b h => (nomatch h)) (fun b h => (nomatch h)) (fun b h => (nomatch h))
        refine W.eq (g2 := F0 m 90 ls [.int (nI (d + 1)), .ref it, .ref jr]) (by rw [show ((nI d) + 1) = (nI (d + 1)) from nI_1 _]) ?_
        have hPc := hP.part (cx := [(jr, .inr (1, [.ref h0, .int x1, .int md, .ref it])), (h0, .inr (8, [.ref qb, .ref qu, .int uc, .int ln, .int (nI n), .int (nI p21), .int pl])), (qb, .inl (cB, 4096, .inl bf)), (qu, .inl (cI, 4096, .inl ug))]) [0, 1, 2, 3] rfl
        have hDc := hD.part (cx := [(jr, .inr (1, [.ref h0, .int x1, .int md, .ref it])), (h0, .inr (8, [.ref qb, .ref qu, .int uc, .int ln, .int (nI n), .int (nI p21), .int pl])), (qb, .inl (cB, 4096, .inl bf)), (qu, .inl (cI, 4096, .inl ug))]) [0, 1, 2, 3] (by decide) rfl
        have hFc := va_freeP (cx := [(jr, .inr (1, [.ref h0, .int x1, .int md, .ref it])), (h0, .inr (8, [.ref qb, .ref qu, .int uc, .int ln, .int (nI n), .int (nI p21), .int pl])), (qb, .inl (cB, 4096, .inl bf)), (qu, .inl (cI, 4096, .inl ug))]) hD hS hA [0, 1, 2, 3] rfl
        have hKc := hK.sub (tys' := [(cB, .byte), (cI, .int), (cV, .object "QueryBench$Value")]) [0, 1, 2] rfl
        refine w_same (fun hq0 => ?_)
        refine vx_callv (vx_runV (As := [.ref it, .int (nI (d + 1))]) (rest := []) ⟨hx, hb, hml, hown, hts⟩ (c_JsonReader_members l hl9 K dC dI cI cV lv cB h0 qb qu ln bf n jr hn0 k (d + 1) HV (by omega) H E L (va_up f it (vE kd 0 none none none none 0 none none 0)) hO1 p21 uc pl ug x1 md it kd hkd hit (va_up_self _ _ _) (by omega) D1 hdp1 (by omega) (by omega) (by omega) (by omega)) (cwV 2 hts (gt_V (own := R_JsonReader) (C := R_JsonReader) (i := 112) (y := y_JsonReader_members) i_JsonReader_members z_397 z_399 (gt_sel (y := y_JsonReader_members) (n := 4) (by decide +kernel)) w_3) rfl rfl rfl (by decide +kernel) ⟨by show 14 + 3 * k + 1 ≤ 15 + 3 * k; omega, by show 8 + (10 + 11) + (290 + 90 * k) ≤ 320 + 90 * k; omega⟩) ⟨ml_blind, va_recv hK hP (ci := 1) (q0 := 0) rfl rfl, fun U hU hW => ⟨rfl, ⟨hU, by rw [hU]; exact hPc, va_K.moved hW.alike hKc, hDc.weaken (fun _ _ _ _ => trivial)⟩, hN.warm hW, by rw [hU]; exact ZX.moved' hW.alike (ZX.narrow' (ZX.kept' hZ hS.2.1) hFc), by rw [hU]; exact CE.call hC hS.2.1 hFc hW, va_AO.moved hW.alike hV⟩⟩ rfl rfl hl.1 rfl (lv_room (Nat.le_of_ble_eq_true rfl)) d_JsonReader_container_90 ⟨by show 0 + (2 * (n - p21) + 4) ≤ 2 * (n - i) + 2; omega, by show 0 + (16 * (n - p21) + 40) ≤ 16 * (n - i) + 24; omega⟩) hS (fun q _ h => hFc q h) hFc (fun q _ h => hFc q h) (fun En ce q9 ⟨ax, cx, px, gx, dx, mx, lx, fx⟩ t9 H1 locs ht hvm hw hB hz1 hk1 hS hce hcv hcl => ?_) (fun ⟨p3, N3, E3, f3, uc3, ug3, dp3, md3, lb3⟩ t9 H1 locs ht hvm hw hB hz1 hk1 hS => ?_)
        · obtain ⟨hEn, hP1, hK1, hD1⟩ := hB
          rw [ht] at hP1
          obtain ⟨hP, hD⟩ := va_joinP (wr := []) (rx := [(jr, .inr (1, [.ref h0, .int dx, .int mx, va_rf lx])), (h0, .inr (8, [.ref qb, .ref qu, .int cx, .int ln, .int (nI n), .int ax, .int px])), (qb, .inl (cB, 4096, .inl bf)), (qu, .inl (cI, 4096, .inl gx))]) (pl1 := va_pl L fx) hP hD [0, 1, 2, 3] [] rfl rfl (by decide) (by decide) hk1 hFc hP1 hD1
          generalize H1 = H at hP hS hce ⊢
          have hP : va_P (dC, dI) classes ([(jr, .inr (1, [.ref h0, .int dx, .int mx, va_rf lx])), (h0, .inr (8, [.ref qb, .ref qu, .int cx, .int ln, .int (nI n), .int ax, .int px])), (qb, .inl (cB, 4096, .inl bf)), (qu, .inl (cI, 4096, .inl gx))] ++ va_pl L fx) H := hP
          have hD : va_D A ([(jr, .inr (1, [.ref h0, .int dx, .int mx, va_rf lx])), (h0, .inr (8, [.ref qb, .ref qu, .int cx, .int ln, .int (nI n), .int ax, .int px])), (qb, .inl (cB, 4096, .inl bf)), (qu, .inl (cI, 4096, .inl gx))] ++ va_pl L fx) := hD
          have hkx : ∀ a, E a ≠ 0 → a ≠ it → fx a = f a := fun a ha hai => ((show ∀ a, E a ≠ 0 → a ≠ it → fx a = (va_up f it (vE kd 0 none none none none 0 none none 0)) a from hw.1) a ha hai).trans (va_up_ne _ _ hai)
          have hno : CNn bf n k i kd := CNn.mem hjc hclo (by rw [← h_p21]; exact hw.2)
          exact vx_out (fun x hx => (hex x hx).elim) hlocks hce hcv hcl (fun t9 ht2 ha => ⟨(ax, cx, px, gx, dx, mx, lx, fx), ⟨hkx, hno⟩, ⟨hEn, by rw [ht2]; exact hP, va_K.moved ha hK, hD⟩, hS.F ht2⟩) hS.2.2 (by show 0 + (2 * (n - p21) + 4) ≤ 2 * (n - i) + 2; omega) (by show 0 + (16 * (n - p21) + 40) ≤ 16 * (n - i) + 24; omega)
        · obtain ⟨⟨hP1, hK1, hD1⟩, hz9⟩ := hB
          rw [ht] at hP1
          rw [ht] at hz9
          have hq0 : szk s.heap H1 (0 + (2 * (p3 - p21) + 1)) (0 + 16 * (p3 - p21)) := (hq0.trans hz9).mono (Nat.le_refl _) (Nat.le_refl _)
          refine w_tight hq0 ?_
          obtain ⟨hP, hD⟩ := va_joinP (wr := []) (rx := [(jr, .inr (1, [.ref h0, .int dp3, .int md3, .ref lb3])), (h0, .inr (8, [.ref qb, .ref qu, .int uc3, .int ln, .int (nI n), .int (nI p3), .int pl])), (qb, .inl (cB, 4096, .inl bf)), (qu, .inl (cI, 4096, .inl ug3))]) (pl1 := va_pl ((L ++ N3)) f3) hP hD [0, 1, 2, 3] [] rfl rfl (by decide) (by decide) hk1 hFc hP1 hD1
          generalize H1 = H at hP hS hq0 ⊢
          have hP : va_P (dC, dI) classes ([(jr, .inr (1, [.ref h0, .int dp3, .int md3, .ref lb3])), (h0, .inr (8, [.ref qb, .ref qu, .int uc3, .int ln, .int (nI n), .int (nI p3), .int pl])), (qb, .inl (cB, 4096, .inl bf)), (qu, .inl (cI, 4096, .inl ug3))] ++ va_pl ((L ++ N3)) f3) H := hP
          have hD : va_D A ([(jr, .inr (1, [.ref h0, .int dp3, .int md3, .ref lb3])), (h0, .inr (8, [.ref qb, .ref qu, .int uc3, .int ln, .int (nI n), .int (nI p3), .int pl])), (qb, .inl (cB, 4096, .inl bf)), (qu, .inl (cI, 4096, .inl ug3))] ++ va_pl ((L ++ N3)) f3) := hD
          obtain ⟨hw, hMF⟩ := hw
          have hMF : MFx cV bf n k (d + 1) (skipB bf n (i + 1)) p3 D1 kd dp3 E E3 f3 it lb3 md md3 := by rw [← h_p21]; exact hMF
          have hM : MP cI cV E lv L (va_up f it (vE kd 0 none none none none 0 none none 0)) it p21 n p3 kd N3 E3 f3 lb3 := hw
          have hp3 := hM.1
          have hp4 := hM.2.1
          refine lv_aload_n hx hb d_JsonReader_container_93 rfl (lv_at hl 1 rfl) ?_
          refine va_get (D := (dC, dI)) (ci := 1) (v := .ref h0) (C := R_JsonReader) (T := F_JsonReader) (N := 4) hx hb hts in_JsonReader hown hK hP 0 rfl rfl 0 (by decide) (hts _ w_80) (fun _ h9 => h9) rfl d_JsonReader_container_94 ?_
          refine lv_iload hx hb d_JsonReader_container_97 (lv_at hl 0 rfl) ?_
          have hPc := hP.sub (ws' := [(h0, .inr (8, [.ref qb, .ref qu, .int uc3, .int ln, .int (nI n), .int (nI p3), .int pl])), (qb, .inl (cB, 4096, .inl bf))]) [1, 2] rfl
          have hDc := hD.sub (ws' := [(h0, .inr (8, [.ref qb, .ref qu, .int uc3, .int ln, .int (nI n), .int (nI p3), .int pl])), (qb, .inl (cB, 4096, .inl bf))]) [1, 2] (by decide) rfl
          have hFc := va_free (wc := [(h0, .inr (8, [.ref qb, .ref qu, .int uc3, .int ln, .int (nI n), .int (nI p3), .int pl])), (qb, .inl (cB, 4096, .inl bf))]) hD hS hA [1, 2] rfl
          have hKc := hK.sub (tys' := [(cB, .byte)]) [0] rfl
          refine w_same (fun hq0 => ?_)
          refine vx_callv (vx_runV (As := [.int 93]) (rest := []) ⟨hx, hb, hml, hown, hts⟩ (c_Tape_take l hl9 dC dI cB h0 qb H (.ref qu) uc3 ln pl bf n p3 93 hn0 (by omega)) (cwV 1 hts (gt_V (own := R_JsonReader) (C := R_Tape) (i := 116) (y := y_Tape_take) i_Tape_take z_446 w_437 w_438 w_2) rfl rfl rfl (by decide +kernel) ⟨by show 9 + 1 ≤ 15 + 3 * k; omega, by show 8 + (2 + 11) + (131) ≤ 320 + 90 * k; omega⟩) ⟨mx_blind, va_recv hK hP (ci := 8) (q0 := 1) rfl rfl, fun U hU hW => ⟨rfl, ⟨hU, by rw [hU]; exact hPc, va_K.moved hW.alike hKc, hDc.weaken (fun _ _ _ _ => trivial)⟩, hN.warm hW, by rw [hU]; exact ZX.moved' hW.alike (ZX.narrow' (ZX.kept' hZ hS.2.1) hFc)⟩⟩ rfl rfl hl.1 rfl (lv_room (Nat.le_of_ble_eq_true rfl)) d_JsonReader_container_99 ⟨by show (0 + (2 * (p3 - p21) + 1)) + (1) ≤ 2 * (n - i) + 2; omega, by show (0 + 16 * (p3 - p21)) + (6) ≤ 16 * (n - i) + 24; omega⟩) hS (fun q _ h => hFc q h) hFc (fun q _ h => hFc q h) (fun En ce q9 _u t9 H1 locs ht hvm hw hB hz1 hk1 hS hce hcv hcl => ?_) (fun _u t9 H1 locs ht hvm hw hB hz1 hk1 hS => ?_)
          · obtain ⟨hEn, hP1, hK1, hD1⟩ := hB
            rw [ht] at hP1
            obtain ⟨hP, hD⟩ := va_joinQ (wr := [(jr, .inr (1, [.ref h0, .int dp3, .int md3, .ref lb3])), (qu, .inl (cI, 4096, .inl ug3))]) (w1 := [(h0, .inr (8, [.ref qb, .ref qu, .int uc3, .int ln, .int (nI n), .int (nI p3), .int (nI p3)])), (qb, .inl (cB, 4096, .inl bf))]) hP hD [1, 2] [0, 3] rfl rfl (by decide) (by decide) hk1 hFc hP1 hD1
            generalize H1 = H at hP hS hce ⊢
            have hP : va_P (dC, dI) classes ([(jr, .inr (1, [.ref h0, .int dp3, .int md3, .ref lb3])), (qu, .inl (cI, 4096, .inl ug3)), (h0, .inr (8, [.ref qb, .ref qu, .int uc3, .int ln, .int (nI n), .int (nI p3), .int (nI p3)])), (qb, .inl (cB, 4096, .inl bf))] ++ va_pl ((L ++ N3)) f3) H := hP
            have hD : va_D A ([(jr, .inr (1, [.ref h0, .int dp3, .int md3, .ref lb3])), (qu, .inl (cI, 4096, .inl ug3)), (h0, .inr (8, [.ref qb, .ref qu, .int uc3, .int ln, .int (nI n), .int (nI p3), .int (nI p3)])), (qb, .inl (cB, 4096, .inl bf))] ++ va_pl ((L ++ N3)) f3) := hD
            have hP := hP.part (cx := [(jr, .inr (1, [.ref h0, .int dp3, .int md3, .ref lb3])), (h0, .inr (8, [.ref qb, .ref qu, .int uc3, .int ln, .int (nI n), .int (nI p3), .int (nI p3)])), (qb, .inl (cB, 4096, .inl bf)), (qu, .inl (cI, 4096, .inl ug3))]) [0, 2, 3, 1] rfl
            have hD := hD.part (cx := [(jr, .inr (1, [.ref h0, .int dp3, .int md3, .ref lb3])), (h0, .inr (8, [.ref qb, .ref qu, .int uc3, .int ln, .int (nI n), .int (nI p3), .int (nI p3)])), (qb, .inl (cB, 4096, .inl bf)), (qu, .inl (cI, 4096, .inl ug3))]) [0, 2, 3, 1] (by decide) rfl
            have hP := plP_pre hP
            have hD := plD_pre hD
            have hkx : ∀ a, E a ≠ 0 → a ≠ it → f3 a = f a := fun a ha hai => (hM.2.2.2.2.2.1 a ha hai).trans (va_up_ne _ _ hai)
            have hno : CNn bf n k i kd := CNn.clo hjc hclo hMF.mfn hw
            exact vx_out (fun x hx => (hex x hx).elim) hlocks hce hcv hcl (fun t9 ht2 ha => ⟨(nI p3, uc3, nI p3, ug3, dp3, md3, some lb3, f3), ⟨hkx, hno⟩, ⟨hEn, by rw [ht2]; exact hP, va_K.moved ha hK, hD⟩, hS.F ht2⟩) hS.2.2 (by show (0 + (2 * (p3 - p21) + 1)) + (1) ≤ 2 * (n - i) + 2; omega) (by show (0 + 16 * (p3 - p21)) + (6) ≤ 16 * (n - i) + 24; omega)
          · obtain ⟨⟨hP1, hK1, hD1⟩, hz9⟩ := hB
            rw [ht] at hP1
            rw [ht] at hz9
            refine w_tight (hq0.trans hz9) ?_
            have hq0 := hq0.trans hz9
            obtain ⟨hP, hD⟩ := va_joinQ (wr := [(jr, .inr (1, [.ref h0, .int dp3, .int md3, .ref lb3])), (qu, .inl (cI, 4096, .inl ug3))]) (w1 := [(h0, .inr (8, [.ref qb, .ref qu, .int uc3, .int ln, .int (nI n), .int (nI (p3 + 1)), .int pl])), (qb, .inl (cB, 4096, .inl bf))]) hP hD [1, 2] [0, 3] rfl rfl (by decide) (by decide) hk1 hFc hP1 hD1
            generalize H1 = H at hP hS hq0 ⊢
            have hP : va_P (dC, dI) classes ([(jr, .inr (1, [.ref h0, .int dp3, .int md3, .ref lb3])), (qu, .inl (cI, 4096, .inl ug3)), (h0, .inr (8, [.ref qb, .ref qu, .int uc3, .int ln, .int (nI n), .int (nI (p3 + 1)), .int pl])), (qb, .inl (cB, 4096, .inl bf))] ++ va_pl ((L ++ N3)) f3) H := hP
            have hD : va_D A ([(jr, .inr (1, [.ref h0, .int dp3, .int md3, .ref lb3])), (qu, .inl (cI, 4096, .inl ug3)), (h0, .inr (8, [.ref qb, .ref qu, .int uc3, .int ln, .int (nI n), .int (nI (p3 + 1)), .int pl])), (qb, .inl (cB, 4096, .inl bf))] ++ va_pl ((L ++ N3)) f3) := hD
            have hP := hP.part (cx := [(jr, .inr (1, [.ref h0, .int dp3, .int md3, .ref lb3])), (h0, .inr (8, [.ref qb, .ref qu, .int uc3, .int ln, .int (nI n), .int (nI (p3 + 1)), .int pl])), (qb, .inl (cB, 4096, .inl bf)), (qu, .inl (cI, 4096, .inl ug3))]) [0, 2, 3, 1] rfl
            have hD := hD.part (cx := [(jr, .inr (1, [.ref h0, .int dp3, .int md3, .ref lb3])), (h0, .inr (8, [.ref qb, .ref qu, .int uc3, .int ln, .int (nI n), .int (nI (p3 + 1)), .int pl])), (qb, .inl (cB, 4096, .inl bf)), (qu, .inl (cI, 4096, .inl ug3))]) [0, 2, 3, 1] (by decide) rfl
            have ht25 : hereV bf n p3 = 93 := hw
            have hl25 := here_lc ht25 (by decide)
            have hCF : CFx cV bf n k d i (p3 + 1) D kd dp3 E E3 f3 it lb3 md md3 := CFx.full (by omega) hjc hclo hMF ht25 hDmx
            have hMP : MP cI cV E lv L f it i n (p3 + 1) kd N3 E3 f3 lb3 := ⟨by omega, by omega, hM.2.2.1, hM.2.2.2.1, hM.2.2.2.2.1, fun a ha hai => (hM.2.2.2.2.2.1 a ha hai).trans (va_up_ne _ _ hai), hM.2.2.2.2.2.2.1, hM.2.2.2.2.2.2.2.1, hM.2.2.2.2.2.2.2.2⟩
            refine w_same (fun hq => ?_)
            refine W.widen (k := 2 * (n - i) + 2) (n := 16 * (n - i) + 24) (by show (0 + (2 * (p3 - p21) + 1)) ≤ 2 * (n - i) + 2; omega) (by show (0 + 16 * (p3 - p21)) ≤ 16 * (n - i) + 24; omega) ?_
            refine vx_ret ?_
            exact W.vret hx hb hr (fun t9 ht hW => ⟨⟨((p3 + 1), N3, E3, f3, uc3, ug3, dp3, md3, lb3), rfl, ⟨by show i + 2 ≤ (p3 + 1); omega, hMP, hCF⟩, ⟨by rw [ht]; exact hP, va_K.moved hW.alike hK, hD⟩, by rw [ht]; exact hq.mono (by show (0 + (2 * (p3 - p21) + 1)) ≤ 2 * ((p3 + 1) - i) - 3; omega) (by show (0 + 16 * (p3 - p21)) ≤ 16 * ((p3 + 1) - i) - 32; omega)⟩, hS.F ht⟩) hS.2.2 d_JsonReader_container_102
  · have hk0 : k = 0 := by rw [show (32 : Int32) = nI 32 from rfl, nI_ltI (by omega) (by omega)] at c3; omega
    refine lv_aload_n hx hb d_JsonReader_container_6 rfl (lv_at hl 0 rfl) ?_
    refine va_get (D := (dC, dI)) (ci := 1) (v := .ref h0) (C := R_JsonReader) (T := F_JsonReader) (N := 4) hx hb hts in_JsonReader hown hK hP 0 rfl rfl 0 (by decide) (hts _ w_80) (fun _ h9 => h9) rfl d_JsonReader_container_7 ?_
    refine lv_aload_n hx hb d_JsonReader_container_10 rfl (lv_at hl 0 rfl) ?_
    refine va_get (D := (dC, dI)) (ci := 1) (v := .ref h0) (C := R_JsonReader) (T := F_JsonReader) (N := 4) hx hb hts in_JsonReader hown hK hP 0 rfl rfl 0 (by decide) (hts _ w_80) (fun _ h9 => h9) rfl d_JsonReader_container_11 ?_
    refine va_get (D := (dC, dI)) (ci := 8) (v := .int (nI i)) (C := R_Tape) (T := F_Tape) (N := 7) hx hb hts in_Tape hown hK hP 1 rfl rfl 5 (by decide) (hts _ z_52) (fun _ h9 => h9) rfl d_JsonReader_container_14 ?_
    have hPc := hP.sub (ws' := [(h0, .inr (8, [.ref qb, .ref qu, .int uc, .int ln, .int (nI n), .int (nI i), .int pl])), (qb, .inl (cB, 4096, .inl bf))]) [1, 2] rfl
    have hDc := hD.sub (ws' := [(h0, .inr (8, [.ref qb, .ref qu, .int uc, .int ln, .int (nI n), .int (nI i), .int pl])), (qb, .inl (cB, 4096, .inl bf))]) [1, 2] (by decide) rfl
    have hFc := va_free (wc := [(h0, .inr (8, [.ref qb, .ref qu, .int uc, .int ln, .int (nI n), .int (nI i), .int pl])), (qb, .inl (cB, 4096, .inl bf))]) hD hS hA [1, 2] rfl
    have hKc := hK.sub (tys' := [(cB, .byte)]) [0] rfl
    refine w_same (fun hq0 => ?_)
    refine vx_callv (vx_runV (As := [.int (nI i)]) (rest := []) ⟨hx, hb, hml, hown, hts⟩ (c_Tape_fail l hl9 dC dI cB h0 qb s.heap (.ref qu) uc ln (nI n) (nI i) pl bf ((nI i))) (cwV 1 hts (gt_V (own := R_JsonReader) (C := R_Tape) (i := 38) (y := y_Tape_fail) i_Tape_fail z_370 w_371 w_372 w_2) rfl rfl rfl (by decide +kernel) ⟨by show 8 + 1 ≤ 15 + 3 * k; omega, by show 8 + (2 + 11) + (110) ≤ 320 + 90 * k; omega⟩) ⟨mx_blind, va_recv hK hP (ci := 8) (q0 := 1) rfl rfl, fun U hU hW => ⟨rfl, ⟨hU, by rw [hU]; exact hPc, va_K.moved hW.alike hKc, hDc.weaken (fun _ _ _ _ => trivial)⟩, hN.warm hW, by rw [hU]; exact ZX.moved' hW.alike (ZX.narrow' (ZX.kept' hZ hS.2.1) hFc)⟩⟩ rfl rfl hl.1 rfl (lv_room (Nat.le_of_ble_eq_true rfl)) d_JsonReader_container_17 ⟨by show 0 + (1) ≤ 2 * (n - i) + 2; omega, by show 0 + (6) ≤ 16 * (n - i) + 24; omega⟩) hS (fun q _ h => hFc q h) hFc (fun q _ h => hFc q h) (fun En ce q9 _u t9 H1 locs ht hvm hw hB hz1 hk1 hS hce hcv hcl => ?_) (fun _u t9 H1 locs ht hvm hw hB hz1 hk1 hS => ?_)
    · obtain ⟨hEn, hP1, hK1, hD1⟩ := hB
      rw [ht] at hP1
      obtain ⟨hP, hD⟩ := va_joinQ (wr := [(jr, .inr (1, [.ref h0, .int dp, .int md, .ref it])), (qu, .inl (cI, 4096, .inl ug))]) (w1 := [(h0, .inr (8, [.ref qb, .ref qu, .int uc, .int ln, .int (nI n), .int (nI i), .int (nI i)])), (qb, .inl (cB, 4096, .inl bf))]) hP hD [1, 2] [0, 3] rfl rfl (by decide) (by decide) hk1 hFc hP1 hD1
      generalize H1 = H at hP hS hce ⊢
      have hP : va_P (dC, dI) classes ([(jr, .inr (1, [.ref h0, .int dp, .int md, .ref it])), (qu, .inl (cI, 4096, .inl ug)), (h0, .inr (8, [.ref qb, .ref qu, .int uc, .int ln, .int (nI n), .int (nI i), .int (nI i)])), (qb, .inl (cB, 4096, .inl bf))] ++ va_pl L f) H := hP
      have hD : va_D A ([(jr, .inr (1, [.ref h0, .int dp, .int md, .ref it])), (qu, .inl (cI, 4096, .inl ug)), (h0, .inr (8, [.ref qb, .ref qu, .int uc, .int ln, .int (nI n), .int (nI i), .int (nI i)])), (qb, .inl (cB, 4096, .inl bf))] ++ va_pl L f) := hD
      have hP := hP.part (cx := [(jr, .inr (1, [.ref h0, .int dp, .int md, .ref it])), (h0, .inr (8, [.ref qb, .ref qu, .int uc, .int ln, .int (nI n), .int (nI i), .int (nI i)])), (qb, .inl (cB, 4096, .inl bf)), (qu, .inl (cI, 4096, .inl ug))]) [0, 2, 3, 1] rfl
      have hD := hD.part (cx := [(jr, .inr (1, [.ref h0, .int dp, .int md, .ref it])), (h0, .inr (8, [.ref qb, .ref qu, .int uc, .int ln, .int (nI n), .int (nI i), .int (nI i)])), (qb, .inl (cB, 4096, .inl bf)), (qu, .inl (cI, 4096, .inl ug))]) [0, 2, 3, 1] (by decide) rfl
      have hkx : ∀ a, E a ≠ 0 → a ≠ it → f a = f a := fun a ha hai => rfl
      have hno : CNn bf n k i kd := Or.inl hk0
      exact vx_out (fun x hx => (hex x hx).elim) hlocks hce hcv hcl (fun t9 ht2 ha => ⟨(nI i, uc, (nI i), ug, dp, md, some it, f), ⟨hkx, hno⟩, ⟨hEn, by rw [ht2]; exact hP, va_K.moved ha hK, hD⟩, hS.F ht2⟩) hS.2.2 (by show 0 + (1) ≤ 2 * (n - i) + 2; omega) (by show 0 + (6) ≤ 16 * (n - i) + 24; omega)
    · obtain ⟨⟨hP1, hK1, hD1⟩, hz9⟩ := hB
      rw [ht] at hP1
      rw [ht] at hz9
      refine w_tight (hq0.trans hz9) ?_
      have hq0 := hq0.trans hz9
      obtain ⟨hP, hD⟩ := va_joinQ (wr := [(jr, .inr (1, [.ref h0, .int dp, .int md, .ref it])), (qu, .inl (cI, 4096, .inl ug))]) (w1 := [(h0, .inr (8, [.ref qb, .ref qu, .int uc, .int ln, .int (nI n), .int (nI i), .int pl])), (qb, .inl (cB, 4096, .inl bf))]) hP hD [1, 2] [0, 3] rfl rfl (by decide) (by decide) hk1 hFc hP1 hD1
      generalize H1 = H at hP hS hq0 ⊢
      have hP : va_P (dC, dI) classes ([(jr, .inr (1, [.ref h0, .int dp, .int md, .ref it])), (qu, .inl (cI, 4096, .inl ug)), (h0, .inr (8, [.ref qb, .ref qu, .int uc, .int ln, .int (nI n), .int (nI i), .int pl])), (qb, .inl (cB, 4096, .inl bf))] ++ va_pl L f) H := hP
      have hD : va_D A ([(jr, .inr (1, [.ref h0, .int dp, .int md, .ref it])), (qu, .inl (cI, 4096, .inl ug)), (h0, .inr (8, [.ref qb, .ref qu, .int uc, .int ln, .int (nI n), .int (nI i), .int pl])), (qb, .inl (cB, 4096, .inl bf))] ++ va_pl L f) := hD
      have hP := hP.part (cx := [(jr, .inr (1, [.ref h0, .int dp, .int md, .ref it])), (h0, .inr (8, [.ref qb, .ref qu, .int uc, .int ln, .int (nI n), .int (nI i), .int pl])), (qb, .inl (cB, 4096, .inl bf)), (qu, .inl (cI, 4096, .inl ug))]) [0, 2, 3, 1] rfl
      have hD := hD.part (cx := [(jr, .inr (1, [.ref h0, .int dp, .int md, .ref it])), (h0, .inr (8, [.ref qb, .ref qu, .int uc, .int ln, .int (nI n), .int (nI i), .int pl])), (qb, .inl (cB, 4096, .inl bf)), (qu, .inl (cI, 4096, .inl ug))]) [0, 2, 3, 1] (by decide) rfl
      exact hw.elim
