theorem z_26 : (.initialized "QueryBench$Condition" : Cond) ∈ gtbl := gt_in 26 (by decide +kernel) (by decide +kernel)
theorem z_670 : (.classLink "QueryBench$QueryReader" 159 "QueryBench$Condition" : Cond) ∈ gtbl := gt_in 670 (by decide +kernel) (by decide +kernel)
theorem z_671 : (.instantiable "QueryBench$Condition" 6 : Cond) ∈ gtbl := gt_in 671 (by decide +kernel) (by decide +kernel)
theorem z_672 : (.methodLink "QueryBench$QueryReader" 161 ⟨"QueryBench$Condition", "<init>", "(I)V"⟩ : Cond) ∈ gtbl := gt_in 672 (by decide +kernel) (by decide +kernel)
theorem z_673 : (.instanceMethod ⟨"QueryBench$Condition", "<init>", "(I)V"⟩ : Cond) ∈ gtbl := gt_in 673 (by decide +kernel) (by decide +kernel)
theorem z_685 : (.fieldLink "QueryBench$QueryReader" 211 "QueryBench$Condition" "left" "LQueryBench$Operand;" : Cond) ∈ gtbl := gt_in 685 (by decide +kernel) (by decide +kernel)
theorem z_687 : (.fieldLink "QueryBench$QueryReader" 215 "QueryBench$Condition" "right" "LQueryBench$Operand;" : Cond) ∈ gtbl := gt_in 687 (by decide +kernel) (by decide +kernel)
theorem z_747 : (.methodLink "QueryBench$QueryReader" 208 ⟨"QueryBench$QueryReader", "operator", "()I"⟩ : Cond) ∈ gtbl := gt_in 747 (by decide +kernel) (by decide +kernel)
theorem z_749 : (.instanceMethod ⟨"QueryBench$QueryReader", "operator", "()I"⟩ : Cond) ∈ gtbl := gt_in 749 (by decide +kernel) (by decide +kernel)
/-- r is a new condition, above the operand a -/
def QK (cI cV : ClassId) (E : Nat → Nat) (L : List Nat) (f : Nat → va_E) (i n z a bd r p : Nat) (N : List Nat) (E' : Nat → Nat) (f' : Nat → va_E) : Prop := E r = 0 ∧ E' r = 10 ∧ i + 1 ≤ p ∧ p ≤ n ∧ ∀ lv : Nat → Nat, PO cI cV E lv L f → ∀ b : Nat, bd ≤ b → lv a < b → ∃ lv' : Nat → Nat, QG cI cV E lv L f i n p z N E' lv' f' ∧ lv' r = b
set_option maxHeartbeats 4000000 in
set_option maxRecDepth 100000 in
/-- QueryReader.comparison -/
theorem c_QR_comparison (l : Launch) (hl9 : l.stackTraces = false) (K : Nat → Nat × Nat) (dC : Nat → ClassId) (dI : Nat → Nat → Nat) (cI cV : ClassId) (cB : ClassId) (h0 qb qu : Nat) (ln : Int32) (bf : Nat → Int32) (n qr : Nat) (hn0 : n ≤ 4096) (hbf : byR bf) (o : Nat) (ho : o ≤ 16) (ok : Bool) (orL : Nat → Option (Nat × CT)) (cmL : Nat → Option (Nat × OT)) (qyL : Nat → Option (Nat × Bool × QT)) (hok : ok = true ↔ o < 16) (HP : QCT l K dC dI cI cV cB h0 qb qu ln bf n qr y_QueryReader_operand (k_QueryReader_operand :: gtbl) [.ref qr] o (12 * (16 - o) + 16) (360 * (16 - o) + 480) 8 80 3 0 14 0 11 (5 * (16 - o) + 1) 0 0 (OKd OD 0 (opD bf n ok orL cmL qyL)) (NOd (opD bf n ok orL cmL qyL))) (sz : Heap) (E lv : Nat → Nat) (L : List Nat) (f : Nat → va_E) (i : Nat) (uc pl : Int32) (ug : Nat → Int32) (hO : PO cI cV E lv L f) (hin : i ≤ n) (a : Nat) (hEa : E a = 11) (Eb : Nat → Nat) (x0 : OT) (hEb : EX Eb E) (hEb0 : Eb a = 0) (hda : DNx OD 0 Eb E f a x0) : vx_Met l y_QueryReader_comparison (k_QueryReader_comparison :: gtbl) ({ frames := 12 * (16 - o) + 17, cells := 8 * (n - i) + 4, slots := 64 * (n - i) + 60, locals := 360 * (16 - o) + 510 }) (va_Pc [.ref qr, .ref a] (ml K dC dI ([(qr, .inr (5, [.ref h0, .int (nI o)])), (h0, .inr (8, [.ref qb, .ref qu, .int uc, .int ln, .int (nI n), .int (nI i), .int pl])), (qb, .inl (cB, 4096, .inl bf)), (qu, .inl (cI, 4096, .inl ug))] ++ va_pl L f) [(cB, .byte), (cI, .int), (cV, .object "QueryBench$Value")] sz)) (va_Qr (fun (u : Nat × Nat × List Nat × (Nat → Nat) × (Nat → va_E) × Int32 × (Nat → Int32)) => QK cI cV E L f i n sz.size a (5 * (16 - o) + 2) u.1 u.2.1 u.2.2.1 u.2.2.2.1 u.2.2.2.2.1 ∧ ∃ m : CT, (cpD bf n (opD bf n ok orL cmL qyL) x0) i = some (u.2.1, m) ∧ DNx KD 2 Eb u.2.2.2.1 u.2.2.2.2.1 u.1 m) (fun u a9 t9 => mz dC dI ([(qr, .inr (5, [.ref h0, .int (nI o)])), (h0, .inr (8, [.ref qb, .ref qu, .int u.2.2.2.2.2.1, .int ln, .int (nI n), .int (nI u.2.1), .int pl])), (qb, .inl (cB, 4096, .inl bf)), (qu, .inl (cI, 4096, .inl u.2.2.2.2.2.2))] ++ va_pl ((L ++ u.2.2.1)) u.2.2.2.2.1) [(cB, .byte), (cI, .int), (cV, .object "QueryBench$Value")] (va_A ([(qr, .inr (5, [.ref h0, .int (nI o)])), (h0, .inr (8, [.ref qb, .ref qu, .int uc, .int ln, .int (nI n), .int (nI i), .int pl])), (qb, .inl (cB, 4096, .inl bf)), (qu, .inl (cI, 4096, .inl ug))] ++ va_pl L f) sz.size) t9 ∧ szk sz t9.heap (8 * (u.2.1 - i) - 4) (64 * (u.2.1 - i) - 44) ∧ a9 = u.1) (va_A ([(qr, .inr (5, [.ref h0, .int (nI o)])), (h0, .inr (8, [.ref qb, .ref qu, .int uc, .int ln, .int (nI n), .int (nI i), .int pl])), (qb, .inl (cB, 4096, .inl bf)), (qu, .inl (cI, 4096, .inl ug))] ++ va_pl L f) sz.size)) (vx_X (fun (u : Int32 × Int32 × Int32 × (Nat → Int32) × Int32) => (cpD bf n (opD bf n ok orL cmL qyL) x0) i = none) (fun En u t9 => En = UOX ∧ mz dC dI ([(qr, .inr (5, [.ref h0, .int u.2.2.2.2])), (h0, .inr (8, [.ref qb, .ref qu, .int u.2.1, .int ln, .int (nI n), .int u.1, .int u.2.2.1])), (qb, .inl (cB, 4096, .inl bf)), (qu, .inl (cI, 4096, .inl u.2.2.2.1))] ++ va_pl L f) [(cB, .byte), (cI, .int), (cV, .object "QueryBench$Value")] (va_A ([(qr, .inr (5, [.ref h0, .int (nI o)])), (h0, .inr (8, [.ref qb, .ref qu, .int uc, .int ln, .int (nI n), .int (nI i), .int pl])), (qb, .inl (cB, 4096, .inl bf)), (qu, .inl (cI, 4096, .inl ug))] ++ va_pl L f) sz.size) t9) (va_A ([(qr, .inr (5, [.ref h0, .int (nI o)])), (h0, .inr (8, [.ref qb, .ref qu, .int uc, .int ln, .int (nI n), .int (nI i), .int pl])), (qb, .inl (cB, 4096, .inl bf)), (qu, .inl (cI, 4096, .inl ug))] ++ va_pl L f) sz.size)) (8 * (n - i) + 4) (64 * (n - i) + 60) (va_A ([(qr, .inr (5, [.ref h0, .int (nI o)])), (h0, .inr (8, [.ref qb, .ref qu, .int uc, .int ln, .int (nI n), .int (nI i), .int pl])), (qb, .inl (cB, 4096, .inl bf)), (qu, .inl (cI, 4096, .inl ug))] ++ va_pl L f) sz.size) := by
  refine vx_ofW (cc := b_QueryReader_comparison) (maxL := 3) (ret := (some (.object "QueryBench$Condition"))) (by decide) rfl ?_
  intro p e s m args below meth c s₁ B hml hex hv
  obtain ⟨rfl, ⟨hsz, hP, hK, hD0⟩, hN, hZ, hC, hV⟩ := hv
  have hx := B.exec
  have hb := B.bytes
  have hr := B.returns
  have hts0 := atoms_spec (ws := k_QueryReader_comparison :: gtbl) B.pre
  have hts := fun w h => hts0 w (List.mem_cons_of_mem _ h)
  have hown : s.vm.findClass R_QueryReader = some m.cls := findClass_of_methodNamed B.named
  have hlocks := B.notSynchronized
  subst hsz
  have hD := hD0.self (sz := s.heap.size)
  generalize hAe : va_A ([(qr, .inr (5, [.ref h0, .int (nI o)])), (h0, .inr (8, [.ref qb, .ref qu, .int uc, .int ln, .int (nI n), .int (nI i), .int pl])), (qb, .inl (cB, 4096, .inl bf)), (qu, .inl (cI, 4096, .inl ug))] ++ va_pl L f) s.heap.size = A at hD hZ hC ⊢
  have hA : ∀ q : Nat, s.heap.size ≤ q → A q := fun q h => by rw [← hAe]; exact Or.inr h
  have hS : va_S A s.heap s.heap [] := va_S.rf
  have hP : va_P (dC, dI) classes ([(qr, .inr (5, [.ref h0, .int (nI o)])), (h0, .inr (8, [.ref qb, .ref qu, .int uc, .int ln, .int (nI n), .int (nI i), .int pl])), (qb, .inl (cB, 4096, .inl bf)), (qu, .inl (cI, 4096, .inl ug))] ++ va_pl L f) s.heap := hP
  have hl := lv_entry ([.ref qr, .ref a]) (n := 3) (Nat.le_of_ble_eq_true rfl)
  rw [lg_entry_eq]
  generalize (lg_sl ([.ref qr, .ref a]) ++ List.replicate (3 - (lg_sl ([.ref qr, .ref a])).length) Slot.unset).toArray = ls at hl ⊢
  have hl : lv_has ls 3 [(0, .ref qr), (1, .ref a)] := hl
  have hLz : ∀ a, a ∈ L → a < s.heap.size := fun a ha => va_pl_lt hP ha
  have hi9 : i ≤ n := by omega
  have hP : va_P (dC, dI) classes ([(qr, .inr (5, [.ref h0, .int (nI o)])), (h0, .inr (8, [.ref qb, .ref qu, .int uc, .int ln, .int (nI n), .int (nI i), .int pl])), (qb, .inl (cB, 4096, .inl bf)), (qu, .inl (cI, 4096, .inl ug))] ++ va_pl (L ++ []) f) s.heap := by rw [List.append_nil]; exact hP
  have hD : va_D A ([(qr, .inr (5, [.ref h0, .int (nI o)])), (h0, .inr (8, [.ref qb, .ref qu, .int uc, .int ln, .int (nI n), .int (nI i), .int pl])), (qb, .inl (cB, 4096, .inl bf)), (qu, .inl (cI, 4096, .inl ug))] ++ va_pl (L ++ []) f) := by rw [List.append_nil]; exact hD
  have hG0 : QG cI cV E lv L f i n i s.heap.size [] E lv f := QG.rf hO hi9
  refine va_new (ci := 0) (fs := [.int 0, .null, .null, .null, .null, .null]) (C := R_Condition) (T := F_Condition) (N := 6) hx hb hts in_Condition t_Condition t_Condition_ok hown (hts _ z_670) (hts _ z_671) (hts _ z_26) hK hP hD hS hA rfl (fun j hj => by rcases (show j = 0 ∨ j = 1 ∨ j = 2 ∨ j = 3 ∨ j = 4 ∨ j = 5 by omega) with rfl | rfl | rfl | rfl | rfl | rfl <;> rfl) (by show 0 + 1 ≤ 8 * (n - i) + 4; omega) (by show 0 + 6 ≤ 64 * (n - i) + 60; omega) d_QueryReader_comparison_0 (fun kc H hP hD hS => ?_)
  have hz_kc := newB (X := [(qr, .inr (5, [.ref h0, .int (nI o)])), (h0, .inr (8, [.ref qb, .ref qu, .int uc, .int ln, .int (nI n), .int (nI i), .int pl])), (qb, .inl (cB, 4096, .inl bf)), (qu, .inl (cI, 4096, .inl ug))]) hAe hD (fun k x hk => by rcases k with _ | _ | _ | _ | k; (· cases hk; exact ⟨0, _, rfl⟩); (· cases hk; exact ⟨1, _, rfl⟩); (· cases hk; exact ⟨2, _, rfl⟩); (· cases hk; exact ⟨3, _, rfl⟩); (· cases hk))
  have hP := hP.swap
  have hD := hD.swap
  have hP : va_P (dC, dI) classes ([(qr, .inr (5, [.ref h0, .int (nI o)])), (h0, .inr (8, [.ref qb, .ref qu, .int uc, .int ln, .int (nI n), .int (nI i), .int pl])), (qb, .inl (cB, 4096, .inl bf)), (qu, .inl (cI, 4096, .inl ug)), (kc, .inr (0, [.int 0, .null, .null, .null, .null, .null]))] ++ va_pl ((L ++ [])) f) H := hP
  have hD : va_D A ([(qr, .inr (5, [.ref h0, .int (nI o)])), (h0, .inr (8, [.ref qb, .ref qu, .int uc, .int ln, .int (nI n), .int (nI i), .int pl])), (qb, .inl (cB, 4096, .inl bf)), (qu, .inl (cI, 4096, .inl ug)), (kc, .inr (0, [.int 0, .null, .null, .null, .null, .null]))] ++ va_pl ((L ++ [])) f) := hD
  refine lv_dup hx hb d_QueryReader_comparison_3 rfl ?_
  refine lv_aload_n hx hb d_QueryReader_comparison_4 rfl (lv_at hl 0 rfl) ?_
  have hPc := hP.sub (ws' := [(qr, .inr (5, [.ref h0, .int (nI o)])), (h0, .inr (8, [.ref qb, .ref qu, .int uc, .int ln, .int (nI n), .int (nI i), .int pl])), (qb, .inl (cB, 4096, .inl bf)), (qu, .inl (cI, 4096, .inl ug))]) [0, 1, 2, 3] rfl
  have hDc := hD.sub (ws' := [(qr, .inr (5, [.ref h0, .int (nI o)])), (h0, .inr (8, [.ref qb, .ref qu, .int uc, .int ln, .int (nI n), .int (nI i), .int pl])), (qb, .inl (cB, 4096, .inl bf)), (qu, .inl (cI, 4096, .inl ug))]) [0, 1, 2, 3] (by decide) rfl
  have hFc := va_free (wc := [(qr, .inr (5, [.ref h0, .int (nI o)])), (h0, .inr (8, [.ref qb, .ref qu, .int uc, .int ln, .int (nI n), .int (nI i), .int pl])), (qb, .inl (cB, 4096, .inl bf)), (qu, .inl (cI, 4096, .inl ug))]) hD hS hA [0, 1, 2, 3] rfl
  have hKc := hK.sub (tys' := [(cB, .byte), (cI, .int)]) [0, 1] rfl
  refine w_same (fun hq0 => ?_)
  refine vx_calli (vx_runV (As := []) (rest := [.ref kc, .ref kc]) ⟨hx, hb, hml, hown, hts⟩ (c_QueryReader_operator l hl9 dC dI H cB cI h0 qb qu uc ln pl bf ug n i hn0 (by omega) qr o) (cwV 0 hts (gt_V (own := R_QueryReader) (C := R_QueryReader) (i := 208) (y := y_QueryReader_operator) i_QueryReader_operator z_747 z_749 (gt_sel (y := y_QueryReader_operator) (n := 2) (by decide +kernel)) w_4) rfl rfl rfl (by decide +kernel) ⟨by show 10 + 1 ≤ 12 * (16 - o) + 17; omega, by show 8 + (2 + 11) + (170) ≤ 360 * (16 - o) + 510; omega⟩) ⟨mx_blind, va_recv hK hP (ci := 5) (q0 := 0) rfl rfl, fun U hU hW => ⟨rfl, ⟨hU, by rw [hU]; exact hPc, va_K.moved hW.alike hKc, hDc.weaken (fun _ _ _ _ => trivial)⟩, hN.warm hW, by rw [hU]; exact ZX.moved' hW.alike (ZX.narrow' (ZX.kept' hZ hS.2.1) hFc)⟩⟩ rfl rfl hl.1 rfl (lv_room (Nat.le_of_ble_eq_true rfl)) d_QueryReader_comparison_5 ⟨by show (0 + 1) + (1) ≤ 8 * (n - i) + 4; omega, by show (0 + 6) + (6) ≤ 64 * (n - i) + 60; omega⟩) hS (fun q _ h => hFc q h) hFc (fun q _ h => hFc q h) (fun En ce q9 ⟨ax, cx, px, gx, ox⟩ t9 H1 locs ht hvm hw hB hz1 hk1 hS hce hcv hcl => ?_) (fun rk u21 t9 H1 locs ht hvm hw hB hz1 hk1 hS => ?_)
  · obtain ⟨hEn, hP1, hK1, hD1⟩ := hB
    rw [ht] at hP1
    obtain ⟨hP, hD⟩ := va_joinQ (wr := [(kc, .inr (0, [.int 0, .null, .null, .null, .null, .null]))]) (w1 := [(qr, .inr (5, [.ref h0, .int ox])), (h0, .inr (8, [.ref qb, .ref qu, .int cx, .int ln, .int (nI n), .int ax, .int px])), (qb, .inl (cB, 4096, .inl bf)), (qu, .inl (cI, 4096, .inl gx))]) hP hD [0, 1, 2, 3] [4] rfl rfl (by decide) (by decide) hk1 hFc hP1 hD1
    generalize H1 = H at hP hS hce ⊢
    have hP : va_P (dC, dI) classes ([(kc, .inr (0, [.int 0, .null, .null, .null, .null, .null])), (qr, .inr (5, [.ref h0, .int ox])), (h0, .inr (8, [.ref qb, .ref qu, .int cx, .int ln, .int (nI n), .int ax, .int px])), (qb, .inl (cB, 4096, .inl bf)), (qu, .inl (cI, 4096, .inl gx))] ++ va_pl ((L ++ [])) f) H := hP
    have hD : va_D A ([(kc, .inr (0, [.int 0, .null, .null, .null, .null, .null])), (qr, .inr (5, [.ref h0, .int ox])), (h0, .inr (8, [.ref qb, .ref qu, .int cx, .int ln, .int (nI n), .int ax, .int px])), (qb, .inl (cB, 4096, .inl bf)), (qu, .inl (cI, 4096, .inl gx))] ++ va_pl ((L ++ [])) f) := hD
    have hP := hP.part (cx := [(qr, .inr (5, [.ref h0, .int ox])), (h0, .inr (8, [.ref qb, .ref qu, .int cx, .int ln, .int (nI n), .int ax, .int px])), (qb, .inl (cB, 4096, .inl bf)), (qu, .inl (cI, 4096, .inl gx)), (kc, .inr (0, [.int 0, .null, .null, .null, .null, .null]))]) [1, 2, 3, 4, 0] rfl
    have hD := hD.part (cx := [(qr, .inr (5, [.ref h0, .int ox])), (h0, .inr (8, [.ref qb, .ref qu, .int cx, .int ln, .int (nI n), .int ax, .int px])), (qb, .inl (cB, 4096, .inl bf)), (qu, .inl (cI, 4096, .inl gx)), (kc, .inr (0, [.int 0, .null, .null, .null, .null, .null]))]) [1, 2, 3, 4, 0] (by decide) rfl
    have hP := plP_cut (hP.part (cx := [(qr, .inr (5, [.ref h0, .int ox])), (h0, .inr (8, [.ref qb, .ref qu, .int cx, .int ln, .int (nI n), .int ax, .int px])), (qb, .inl (cB, 4096, .inl bf)), (qu, .inl (cI, 4096, .inl gx))]) [0, 1, 2, 3] rfl) hG0.on
    have hD := plD_cut (hD.part (cx := [(qr, .inr (5, [.ref h0, .int ox])), (h0, .inr (8, [.ref qb, .ref qu, .int cx, .int ln, .int (nI n), .int ax, .int px])), (qb, .inl (cB, 4096, .inl bf)), (qu, .inl (cI, 4096, .inl gx))]) [0, 1, 2, 3] (by decide) rfl) hG0.on
    have hno : (cpD bf n (opD bf n ok orL cmL qyL) x0) i = none := cpD_0 hw
    exact vx_out (fun x hx => (hex x hx).elim) hlocks hce hcv hcl (fun t9 ht2 ha => ⟨(ax, cx, px, gx, ox), hno, ⟨hEn, by rw [ht2]; exact hP, va_K.moved ha hK, hD⟩, hS.F ht2⟩) hS.2.2 (by show (0 + 1) + (1) ≤ 8 * (n - i) + 4; omega) (by show (0 + 6) + (6) ≤ 64 * (n - i) + 60; omega)
  · obtain ⟨⟨hP1, hK1, hD1⟩, hz9⟩ := hB
    rw [ht] at hP1
    rw [ht] at hz9
    refine w_tight (hq0.trans hz9) ?_
    have hq0 := hq0.trans hz9
    obtain ⟨hP, hD⟩ := va_joinQ (wr := [(kc, .inr (0, [.int 0, .null, .null, .null, .null, .null]))]) (w1 := [(qr, .inr (5, [.ref h0, .int (nI o)])), (h0, .inr (8, [.ref qb, .ref qu, .int uc, .int ln, .int (nI n), .int (nI u21), .int pl])), (qb, .inl (cB, 4096, .inl bf)), (qu, .inl (cI, 4096, .inl ug))]) hP hD [0, 1, 2, 3] [4] rfl rfl (by decide) (by decide) hk1 hFc hP1 hD1
    generalize H1 = H at hP hS hq0 ⊢
    have hP : va_P (dC, dI) classes ([(kc, .inr (0, [.int 0, .null, .null, .null, .null, .null])), (qr, .inr (5, [.ref h0, .int (nI o)])), (h0, .inr (8, [.ref qb, .ref qu, .int uc, .int ln, .int (nI n), .int (nI u21), .int pl])), (qb, .inl (cB, 4096, .inl bf)), (qu, .inl (cI, 4096, .inl ug))] ++ va_pl ((L ++ [])) f) H := hP
    have hD : va_D A ([(kc, .inr (0, [.int 0, .null, .null, .null, .null, .null])), (qr, .inr (5, [.ref h0, .int (nI o)])), (h0, .inr (8, [.ref qb, .ref qu, .int uc, .int ln, .int (nI n), .int (nI u21), .int pl])), (qb, .inl (cB, 4096, .inl bf)), (qu, .inl (cI, 4096, .inl ug))] ++ va_pl ((L ++ [])) f) := hD
    have hP := hP.part (cx := [(qr, .inr (5, [.ref h0, .int (nI o)])), (h0, .inr (8, [.ref qb, .ref qu, .int uc, .int ln, .int (nI n), .int (nI u21), .int pl])), (qb, .inl (cB, 4096, .inl bf)), (qu, .inl (cI, 4096, .inl ug)), (kc, .inr (0, [.int 0, .null, .null, .null, .null, .null]))]) [1, 2, 3, 4, 0] rfl
    have hD := hD.part (cx := [(qr, .inr (5, [.ref h0, .int (nI o)])), (h0, .inr (8, [.ref qb, .ref qu, .int uc, .int ln, .int (nI n), .int (nI u21), .int pl])), (qb, .inl (cB, 4096, .inl bf)), (qu, .inl (cI, 4096, .inl ug)), (kc, .inr (0, [.int 0, .null, .null, .null, .null, .null]))]) [1, 2, 3, 4, 0] (by decide) rfl
    obtain ⟨hrk, hua, hub, op9, hop5, hrk9, hopr⟩ := hw
    have hopr : oprD bf n i = some (u21, op9) := hopr
    have hrk9 : rk = nI (4 + op9) := hrk9
    have hrk : ¬ rk = 0 ∧ ¬ rk = 1 ∧ ¬ rk = 2 ∧ ¬ rk = 3 := hrk
    have hua : i < u21 := hua
    have hub : u21 ≤ n := hub
    obtain ⟨hk0, hka, hk2, hk3⟩ := hrk
    have hPc := hP.sub (ws' := [(kc, .inr (0, [.int 0, .null, .null, .null, .null, .null]))]) [4] rfl
    have hDc := hD.sub (ws' := [(kc, .inr (0, [.int 0, .null, .null, .null, .null, .null]))]) [4] (by decide) rfl
    have hFc := va_free (wc := [(kc, .inr (0, [.int 0, .null, .null, .null, .null, .null]))]) hD hS hA [4] rfl
    have hKc := hK.sub (tys' := []) [] rfl
    refine w_same (fun hq0 => ?_)
    refine va_callv (va_runI (As := [.int rk]) (rest := [.ref kc]) ⟨hx, hb, hml, hown, hts⟩ (c_Condition_init l dC dI H kc rk) (cwI 1 hts (gt_code i_Condition_init) rfl rfl rfl (hts _ z_26) (hts _ z_672) (hts _ z_673) rfl (by decide +kernel) ⟨by show 1 + 1 ≤ 12 * (16 - o) + 17; omega, by show 8 + (2 + 11) + (20) ≤ 360 * (16 - o) + 510; omega⟩) ⟨mp_blind, fun U hU hW => ⟨rfl, hU, by rw [hU]; exact hPc, va_K.moved hW.alike hKc, hDc.weaken (fun _ _ _ _ => trivial)⟩⟩ rfl rfl hl.1 rfl (lv_room (Nat.le_of_ble_eq_true rfl)) d_QueryReader_comparison_8 ⟨by show (0 + 1) + (0) ≤ 8 * (n - i) + 4; omega, by show (0 + 6) + (0) ≤ 64 * (n - i) + 60; omega⟩) hS (fun q _ h => hFc q h) hFc (fun _u t9 H1 locs ht hvm hw hB hz1 hk1 hS => ?_)
    obtain ⟨⟨hP1, hK1, hD1⟩, hz9⟩ := hB
    rw [ht] at hP1
    rw [ht] at hz9
    have hq0 : szk s.heap H1 ((0 + 1)) ((0 + 6)) := (hq0.trans hz9).mono (Nat.le_of_eq (Nat.add_zero _)) (Nat.le_of_eq (Nat.add_zero _))
    refine w_tight hq0 ?_
    obtain ⟨hP, hD⟩ := va_joinQ (wr := [(qr, .inr (5, [.ref h0, .int (nI o)])), (h0, .inr (8, [.ref qb, .ref qu, .int uc, .int ln, .int (nI n), .int (nI u21), .int pl])), (qb, .inl (cB, 4096, .inl bf)), (qu, .inl (cI, 4096, .inl ug))]) (w1 := [(kc, .inr (0, [.int rk, .null, .null, .null, .null, .null]))]) hP hD [4] [0, 1, 2, 3] rfl rfl (by decide) (by decide) hk1 hFc hP1 hD1
    generalize H1 = H at hP hS hq0 ⊢
    have hP : va_P (dC, dI) classes ([(qr, .inr (5, [.ref h0, .int (nI o)])), (h0, .inr (8, [.ref qb, .ref qu, .int uc, .int ln, .int (nI n), .int (nI u21), .int pl])), (qb, .inl (cB, 4096, .inl bf)), (qu, .inl (cI, 4096, .inl ug)), (kc, .inr (0, [.int rk, .null, .null, .null, .null, .null]))] ++ va_pl ((L ++ [])) f) H := hP
    have hD : va_D A ([(qr, .inr (5, [.ref h0, .int (nI o)])), (h0, .inr (8, [.ref qb, .ref qu, .int uc, .int ln, .int (nI n), .int (nI u21), .int pl])), (qb, .inl (cB, 4096, .inl bf)), (qu, .inl (cI, 4096, .inl ug)), (kc, .inr (0, [.int rk, .null, .null, .null, .null, .null]))] ++ va_pl ((L ++ [])) f) := hD
    refine lv_astore_n (lv' := [(2, .ref kc), (0, .ref qr), (1, .ref a)]) hx hb d_QueryReader_comparison_11 rfl hl (by decide) rfl (fun ls hl => ?_)
    refine lv_aload_n hx hb d_QueryReader_comparison_12 rfl (lv_at hl 1 rfl) ?_
    refine va_get (D := (dC, dI)) (ci := 5) (v := .ref h0) (C := R_QueryReader) (T := F_QueryReader) (N := 2) hx hb hts in_QueryReader hown hK hP 0 rfl rfl 0 (by decide) (hts _ w_100) (fun _ h9 => h9) rfl d_QueryReader_comparison_13 ?_
    have hPc := hP.sub (ws' := [(h0, .inr (8, [.ref qb, .ref qu, .int uc, .int ln, .int (nI n), .int (nI u21), .int pl])), (qb, .inl (cB, 4096, .inl bf))]) [1, 2] rfl
    have hDc := hD.sub (ws' := [(h0, .inr (8, [.ref qb, .ref qu, .int uc, .int ln, .int (nI n), .int (nI u21), .int pl])), (qb, .inl (cB, 4096, .inl bf))]) [1, 2] (by decide) rfl
    have hFc := va_free (wc := [(h0, .inr (8, [.ref qb, .ref qu, .int uc, .int ln, .int (nI n), .int (nI u21), .int pl])), (qb, .inl (cB, 4096, .inl bf))]) hD hS hA [1, 2] rfl
    have hKc := hK.sub (tys' := [(cB, .byte)]) [0] rfl
    refine va_callv (va_runV (As := []) (rest := []) ⟨hx, hb, hml, hown, hts⟩ (c_Tape_skipBlanks l dC dI cB h0 qb H (.ref qu) uc ln pl bf n u21 hn0 (by omega)) (cwV 0 hts (gt_V (own := R_QueryReader) (C := R_Tape) (i := 39) (y := y_Tape_skipBlanks) i_Tape_skipBlanks z_563 z_299 z_300 w_2) rfl rfl rfl (by decide +kernel) ⟨by show 0 + 1 ≤ 12 * (16 - o) + 17; omega, by show 8 + (2 + 11) + (0) ≤ 360 * (16 - o) + 510; omega⟩) ⟨mp_blind, va_recv hK hP (ci := 8) (q0 := 1) rfl rfl, fun U hU hW => ⟨rfl, hU, by rw [hU]; exact hPc, va_K.moved hW.alike hKc, hDc.weaken (fun _ _ _ _ => trivial)⟩⟩ rfl rfl hl.1 rfl (lv_room (Nat.le_of_ble_eq_true rfl)) d_QueryReader_comparison_16 ⟨by show (0 + 1) + (0) ≤ 8 * (n - i) + 4; omega, by show (0 + 6) + (0) ≤ 64 * (n - i) + 60; omega⟩) hS (fun q _ h => hFc q h) hFc (fun _u t9 H1 locs ht hvm hw hB hz1 hk1 hS => ?_)
    obtain ⟨hP1, hK1, hD1⟩ := hB
    rw [ht] at hP1
    obtain ⟨hP, hD⟩ := va_joinQ (wr := [(qr, .inr (5, [.ref h0, .int (nI o)])), (qu, .inl (cI, 4096, .inl ug)), (kc, .inr (0, [.int rk, .null, .null, .null, .null, .null]))]) (w1 := [(h0, .inr (8, [.ref qb, .ref qu, .int uc, .int ln, .int (nI n), .int (nI (skipB bf n u21)), .int pl])), (qb, .inl (cB, 4096, .inl bf))]) hP hD [1, 2] [0, 3, 4] rfl rfl (by decide) (by decide) hk1 hFc hP1 hD1
    generalize H1 = H at hP hS ⊢
    have hP : va_P (dC, dI) classes ([(qr, .inr (5, [.ref h0, .int (nI o)])), (qu, .inl (cI, 4096, .inl ug)), (kc, .inr (0, [.int rk, .null, .null, .null, .null, .null])), (h0, .inr (8, [.ref qb, .ref qu, .int uc, .int ln, .int (nI n), .int (nI (skipB bf n u21)), .int pl])), (qb, .inl (cB, 4096, .inl bf))] ++ va_pl ((L ++ [])) f) H := hP
    have hD : va_D A ([(qr, .inr (5, [.ref h0, .int (nI o)])), (qu, .inl (cI, 4096, .inl ug)), (kc, .inr (0, [.int rk, .null, .null, .null, .null, .null])), (h0, .inr (8, [.ref qb, .ref qu, .int uc, .int ln, .int (nI n), .int (nI (skipB bf n u21)), .int pl])), (qb, .inl (cB, 4096, .inl bf))] ++ va_pl ((L ++ [])) f) := hD
    have hP := hP.part (cx := [(qr, .inr (5, [.ref h0, .int (nI o)])), (h0, .inr (8, [.ref qb, .ref qu, .int uc, .int ln, .int (nI n), .int (nI (skipB bf n u21)), .int pl])), (qb, .inl (cB, 4096, .inl bf)), (qu, .inl (cI, 4096, .inl ug)), (kc, .inr (0, [.int rk, .null, .null, .null, .null, .null]))]) [0, 3, 4, 1, 2] rfl
    have hD := hD.part (cx := [(qr, .inr (5, [.ref h0, .int (nI o)])), (h0, .inr (8, [.ref qb, .ref qu, .int uc, .int ln, .int (nI n), .int (nI (skipB bf n u21)), .int pl])), (qb, .inl (cB, 4096, .inl bf)), (qu, .inl (cI, 4096, .inl ug)), (kc, .inr (0, [.int rk, .null, .null, .null, .null, .null]))]) [0, 3, 4, 1, 2] (by decide) rfl
    obtain ⟨p22, h_p22⟩ : ∃ z, z = skipB bf n u21 := ⟨_, rfl⟩
    have hb_p22 := skip_b (f := bf) (show u21 ≤ n by omega)
    rw [← h_p22] at hP hD hb_p22
    have hP : va_P (dC, dI) classes ([(qr, .inr (5, [.ref h0, .int (nI o)])), (h0, .inr (8, [.ref qb, .ref qu, .int uc, .int ln, .int (nI n), .int (nI p22), .int pl])), (qb, .inl (cB, 4096, .inl bf)), (qu, .inl (cI, 4096, .inl ug)), (kc, .inr (0, [.int rk, .null, .null, .null, .null, .null]))] ++ va_pl ((L ++ [])) f) H := hP
    have hD : va_D A ([(qr, .inr (5, [.ref h0, .int (nI o)])), (h0, .inr (8, [.ref qb, .ref qu, .int uc, .int ln, .int (nI n), .int (nI p22), .int pl])), (qb, .inl (cB, 4096, .inl bf)), (qu, .inl (cI, 4096, .inl ug)), (kc, .inr (0, [.int rk, .null, .null, .null, .null, .null]))] ++ va_pl ((L ++ [])) f) := hD
    refine lv_aload_n hx hb d_QueryReader_comparison_19 rfl (lv_at hl 0 rfl) ?_
    refine lv_aload_n hx hb d_QueryReader_comparison_20 rfl (lv_at hl 2 rfl) ?_
    refine va_put (D := (dC, dI)) (ci := 0) (v := .ref a) (ty := .object "QueryBench$Operand") (C := R_Condition) (T := F_Condition) (N := 6) hx hb hts in_Condition t_Condition t_Condition_ok n_Condition hown hK hP hD hS 4 rfl rfl 4 (by decide) (hts _ z_685) (fun _ h9 => h9) rfl (by decide +kernel) rfl rfl (Nat.le_of_ble_eq_true rfl) d_QueryReader_comparison_21 (fun H locs hP hD hS => ?_)
    have hP : va_P (dC, dI) classes ([(qr, .inr (5, [.ref h0, .int (nI o)])), (h0, .inr (8, [.ref qb, .ref qu, .int uc, .int ln, .int (nI n), .int (nI p22), .int pl])), (qb, .inl (cB, 4096, .inl bf)), (qu, .inl (cI, 4096, .inl ug)), (kc, .inr (0, [.int rk, .null, .null, .null, .ref a, .null]))] ++ va_pl ((L ++ [])) f) H := hP
    have hD : va_D A ([(qr, .inr (5, [.ref h0, .int (nI o)])), (h0, .inr (8, [.ref qb, .ref qu, .int uc, .int ln, .int (nI n), .int (nI p22), .int pl])), (qb, .inl (cB, 4096, .inl bf)), (qu, .inl (cI, 4096, .inl ug)), (kc, .inr (0, [.int rk, .null, .null, .null, .ref a, .null]))] ++ va_pl ((L ++ [])) f) := hD
    refine lv_aload_n hx hb d_QueryReader_comparison_24 rfl (lv_at hl 0 rfl) ?_
    refine lv_aload_n hx hb d_QueryReader_comparison_25 rfl (lv_at hl 1 rfl) ?_
    have hG23 := hG0.mv (show i ≤ p22 by omega) (show p22 ≤ n by omega)
    have hzz23 : s.heap.size ≤ H.size := hS.1
    have hPc := hP.part (cx := [(qr, .inr (5, [.ref h0, .int (nI o)])), (h0, .inr (8, [.ref qb, .ref qu, .int uc, .int ln, .int (nI n), .int (nI p22), .int pl])), (qb, .inl (cB, 4096, .inl bf)), (qu, .inl (cI, 4096, .inl ug))]) [0, 1, 2, 3] rfl
    have hDc := hD.part (cx := [(qr, .inr (5, [.ref h0, .int (nI o)])), (h0, .inr (8, [.ref qb, .ref qu, .int uc, .int ln, .int (nI n), .int (nI p22), .int pl])), (qb, .inl (cB, 4096, .inl bf)), (qu, .inl (cI, 4096, .inl ug))]) [0, 1, 2, 3] (by decide) rfl
    have hFc := va_freeP (cx := [(qr, .inr (5, [.ref h0, .int (nI o)])), (h0, .inr (8, [.ref qb, .ref qu, .int uc, .int ln, .int (nI n), .int (nI p22), .int pl])), (qb, .inl (cB, 4096, .inl bf)), (qu, .inl (cI, 4096, .inl ug))]) hD hS hA [0, 1, 2, 3] rfl
    have hKc := hK.sub (tys' := [(cB, .byte), (cI, .int), (cV, .object "QueryBench$Value")]) [0, 1, 2] rfl
    refine w_same (fun hq0 => ?_)
    refine vx_callr (vx_runV (As := []) (rest := [.ref kc]) ⟨hx, hb, hml, hown, hts⟩ (HP H E lv (L ++ []) f p22 uc pl ug hG23.po (by omega)) (cwV 0 hts (gt_V (own := R_QueryReader) (C := R_QueryReader) (i := 184) (y := y_QueryReader_operand) i_QueryReader_operand z_751 z_753 (gt_sel (y := y_QueryReader_operand) (n := 2) (by decide +kernel)) w_4) rfl rfl rfl (by decide +kernel) ⟨by show 12 * (16 - o) + 16 + 1 ≤ 12 * (16 - o) + 17; omega, by show 8 + (3 + 11) + (360 * (16 - o) + 480) ≤ 360 * (16 - o) + 510; omega⟩) ⟨ml_blind, va_recv hK hP (ci := 5) (q0 := 0) rfl rfl, fun U hU hW => ⟨rfl, ⟨hU, by rw [hU]; exact hPc, va_K.moved hW.alike hKc, hDc.weaken (fun _ _ _ _ => trivial)⟩, hN.warm hW, by rw [hU]; exact ZX.moved' hW.alike (ZX.narrow' (ZX.kept' hZ hS.2.1) hFc), by rw [hU]; exact CE.call hC hS.2.1 hFc hW, va_AO.moved hW.alike hV⟩⟩ rfl rfl hl.1 rfl (lv_room (Nat.le_of_ble_eq_true rfl)) d_QueryReader_comparison_26 ⟨by show (0 + 1) + (8 * (n - p22) + 8) ≤ 8 * (n - i) + 4; omega, by show (0 + 6) + (64 * (n - p22) + 80) ≤ 64 * (n - i) + 60; omega⟩) hS (fun q _ h => hFc q h) hFc (fun q _ h => hFc q h) (fun En ce q9 ⟨ax, cx, px, gx, ox⟩ t9 H1 locs ht hvm hw hB hz1 hk1 hS hce hcv hcl => ?_) (fun ⟨w23, p23, N23, E23, f23, uc23, ug23⟩ v23 t9 H1 locs ht hvm hw hB hz1 hk1 hS => ?_)
    · obtain ⟨hEn, hP1, hK1, hD1⟩ := hB
      rw [ht] at hP1
      obtain ⟨hP, hD⟩ := va_joinP (wr := [(kc, .inr (0, [.int rk, .null, .null, .null, .ref a, .null]))]) (rx := [(qr, .inr (5, [.ref h0, .int ox])), (h0, .inr (8, [.ref qb, .ref qu, .int cx, .int ln, .int (nI n), .int ax, .int px])), (qb, .inl (cB, 4096, .inl bf)), (qu, .inl (cI, 4096, .inl gx))]) (pl1 := va_pl ((L ++ [])) f) hP hD [0, 1, 2, 3] [4] rfl rfl (by decide) (by decide) hk1 hFc hP1 hD1
      generalize H1 = H at hP hS hce ⊢
      have hP : va_P (dC, dI) classes ([(kc, .inr (0, [.int rk, .null, .null, .null, .ref a, .null])), (qr, .inr (5, [.ref h0, .int ox])), (h0, .inr (8, [.ref qb, .ref qu, .int cx, .int ln, .int (nI n), .int ax, .int px])), (qb, .inl (cB, 4096, .inl bf)), (qu, .inl (cI, 4096, .inl gx))] ++ va_pl ((L ++ [])) f) H := hP
      have hD : va_D A ([(kc, .inr (0, [.int rk, .null, .null, .null, .ref a, .null])), (qr, .inr (5, [.ref h0, .int ox])), (h0, .inr (8, [.ref qb, .ref qu, .int cx, .int ln, .int (nI n), .int ax, .int px])), (qb, .inl (cB, 4096, .inl bf)), (qu, .inl (cI, 4096, .inl gx))] ++ va_pl ((L ++ [])) f) := hD
      have hP := hP.part (cx := [(qr, .inr (5, [.ref h0, .int ox])), (h0, .inr (8, [.ref qb, .ref qu, .int cx, .int ln, .int (nI n), .int ax, .int px])), (qb, .inl (cB, 4096, .inl bf)), (qu, .inl (cI, 4096, .inl gx)), (kc, .inr (0, [.int rk, .null, .null, .null, .ref a, .null]))]) [1, 2, 3, 4, 0] rfl
      have hD := hD.part (cx := [(qr, .inr (5, [.ref h0, .int ox])), (h0, .inr (8, [.ref qb, .ref qu, .int cx, .int ln, .int (nI n), .int ax, .int px])), (qb, .inl (cB, 4096, .inl bf)), (qu, .inl (cI, 4096, .inl gx)), (kc, .inr (0, [.int rk, .null, .null, .null, .ref a, .null]))]) [1, 2, 3, 4, 0] (by decide) rfl
      have hP := plP_cut (hP.part (cx := [(qr, .inr (5, [.ref h0, .int ox])), (h0, .inr (8, [.ref qb, .ref qu, .int cx, .int ln, .int (nI n), .int ax, .int px])), (qb, .inl (cB, 4096, .inl bf)), (qu, .inl (cI, 4096, .inl gx))]) [0, 1, 2, 3] rfl) hG23.on
      have hD := plD_cut (hD.part (cx := [(qr, .inr (5, [.ref h0, .int ox])), (h0, .inr (8, [.ref qb, .ref qu, .int cx, .int ln, .int (nI n), .int ax, .int px])), (qb, .inl (cB, 4096, .inl bf)), (qu, .inl (cI, 4096, .inl gx))]) [0, 1, 2, 3] (by decide) rfl) hG23.on
      have hno : (cpD bf n (opD bf n ok orL cmL qyL) x0) i = none := cpD_1 hopr h_p22 hw
      exact vx_out (fun x hx => (hex x hx).elim) hlocks hce hcv hcl (fun t9 ht2 ha => ⟨(ax, cx, px, gx, ox), hno, ⟨hEn, by rw [ht2]; exact hP, va_K.moved ha hK, hD⟩, hS.F ht2⟩) hS.2.2 (by show (0 + 1) + (8 * (n - p22) + 8) ≤ 8 * (n - i) + 4; omega) (by show (0 + 6) + (64 * (n - p22) + 80) ≤ 64 * (n - i) + 60; omega)
    · obtain ⟨⟨hP1, hK1, hD1⟩, hz9, ha9⟩ := hB
      rw [ht] at hP1
      rw [ht] at hz9
      have ha9 : v23 = w23 := ha9
      subst ha9
      have hq0 : szk s.heap H1 ((0 + 1) + (8 * (p23 - p22) + 3 - 0)) ((0 + 6) + (64 * (p23 - p22) + 14 - 0)) := (hq0.trans hz9).mono (Nat.le_refl _) (Nat.le_refl _)
      refine w_tight hq0 ?_
      obtain ⟨hP, hD⟩ := va_joinP (wr := [(kc, .inr (0, [.int rk, .null, .null, .null, .ref a, .null]))]) (rx := [(qr, .inr (5, [.ref h0, .int (nI o)])), (h0, .inr (8, [.ref qb, .ref qu, .int uc23, .int ln, .int (nI n), .int (nI p23), .int pl])), (qb, .inl (cB, 4096, .inl bf)), (qu, .inl (cI, 4096, .inl ug23))]) (pl1 := va_pl (((L ++ []) ++ N23)) f23) hP hD [0, 1, 2, 3] [4] rfl rfl (by decide) (by decide) hk1 hFc hP1 hD1
      generalize H1 = H at hP hS hq0 ⊢
      have hP : va_P (dC, dI) classes ([(kc, .inr (0, [.int rk, .null, .null, .null, .ref a, .null])), (qr, .inr (5, [.ref h0, .int (nI o)])), (h0, .inr (8, [.ref qb, .ref qu, .int uc23, .int ln, .int (nI n), .int (nI p23), .int pl])), (qb, .inl (cB, 4096, .inl bf)), (qu, .inl (cI, 4096, .inl ug23))] ++ va_pl (((L ++ []) ++ N23)) f23) H := hP
      have hD : va_D A ([(kc, .inr (0, [.int rk, .null, .null, .null, .ref a, .null])), (qr, .inr (5, [.ref h0, .int (nI o)])), (h0, .inr (8, [.ref qb, .ref qu, .int uc23, .int ln, .int (nI n), .int (nI p23), .int pl])), (qb, .inl (cB, 4096, .inl bf)), (qu, .inl (cI, 4096, .inl ug23))] ++ va_pl (((L ++ []) ++ N23)) f23) := hD
      have hP := hP.part (cx := [(qr, .inr (5, [.ref h0, .int (nI o)])), (h0, .inr (8, [.ref qb, .ref qu, .int uc23, .int ln, .int (nI n), .int (nI p23), .int pl])), (qb, .inl (cB, 4096, .inl bf)), (qu, .inl (cI, 4096, .inl ug23)), (kc, .inr (0, [.int rk, .null, .null, .null, .ref a, .null]))]) [1, 2, 3, 4, 0] rfl
      have hD := hD.part (cx := [(qr, .inr (5, [.ref h0, .int (nI o)])), (h0, .inr (8, [.ref qb, .ref qu, .int uc23, .int ln, .int (nI n), .int (nI p23), .int pl])), (qb, .inl (cB, 4096, .inl bf)), (qu, .inl (cI, 4096, .inl ug23)), (kc, .inr (0, [.int rk, .null, .null, .null, .ref a, .null]))]) [1, 2, 3, 4, 0] (by decide) rfl
      obtain ⟨hw, m23, hf23, hd23⟩ := hw
      have hf23 : (opD bf n ok orL cmL qyL) p22 = some (p23, m23) := hf23
      have hd23 : DNx OD 0 E E23 f23 v23 m23 := hd23
      have hQ23 : QPn cI cV E (L ++ []) f p22 n _ 11 (5 * (16 - o) + 1) 0 v23 p23 N23 E23 f23 := hw
      obtain ⟨lv23, hg23, hlv23⟩ := hQ23.x lv hG23.po _ (Nat.le_refl _)
      have hex23 := hg23.ex
      have hge23 := hg23.ge hQ23.new (by rw [hQ23.so]; decide)
      have hkp23 : KPx E E23 f f23 := KPx.of hg23 hG23.po
      have hnv23 : E v23 = 0 := hQ23.new
      have hsv23 : ¬ E23 v23 = 0 := by rw [hQ23.so]; decide
      have hG23 := hG23.tr hg23 hzz23
      obtain ⟨ha23, hb23⟩ := hQ23.num
      have ha23 : p22 + 0 ≤ p23 := ha23
      have hb23 : p23 ≤ n := hb23
      rw [List.append_assoc] at hP hD
      have hP : va_P (dC, dI) classes ([(qr, .inr (5, [.ref h0, .int (nI o)])), (h0, .inr (8, [.ref qb, .ref qu, .int uc23, .int ln, .int (nI n), .int (nI p23), .int pl])), (qb, .inl (cB, 4096, .inl bf)), (qu, .inl (cI, 4096, .inl ug23)), (kc, .inr (0, [.int rk, .null, .null, .null, .ref a, .null]))] ++ va_pl ((L ++ ([] ++ N23))) f23) H := hP
      have hD : va_D A ([(qr, .inr (5, [.ref h0, .int (nI o)])), (h0, .inr (8, [.ref qb, .ref qu, .int uc23, .int ln, .int (nI n), .int (nI p23), .int pl])), (qb, .inl (cB, 4096, .inl bf)), (qu, .inl (cI, 4096, .inl ug23)), (kc, .inr (0, [.int rk, .null, .null, .null, .ref a, .null]))] ++ va_pl ((L ++ ([] ++ N23))) f23) := hD
      refine va_put (D := (dC, dI)) (ci := 0) (v := .ref v23) (ty := .object "QueryBench$Operand") (C := R_Condition) (T := F_Condition) (N := 6) hx hb hts in_Condition t_Condition t_Condition_ok n_Condition hown hK hP hD hS 4 rfl rfl 5 (by decide) (hts _ z_687) (fun _ h9 => h9) rfl (by decide +kernel) rfl rfl (Nat.le_of_ble_eq_true rfl) d_QueryReader_comparison_29 (fun H locs hP hD hS => ?_)
      have hP : va_P (dC, dI) classes ([(qr, .inr (5, [.ref h0, .int (nI o)])), (h0, .inr (8, [.ref qb, .ref qu, .int uc23, .int ln, .int (nI n), .int (nI p23), .int pl])), (qb, .inl (cB, 4096, .inl bf)), (qu, .inl (cI, 4096, .inl ug23)), (kc, .inr (0, [.int rk, .null, .null, .null, .ref a, .ref v23]))] ++ va_pl ((L ++ ([] ++ N23))) f23) H := hP
      have hD : va_D A ([(qr, .inr (5, [.ref h0, .int (nI o)])), (h0, .inr (8, [.ref qb, .ref qu, .int uc23, .int ln, .int (nI n), .int (nI p23), .int pl])), (qb, .inl (cB, 4096, .inl bf)), (qu, .inl (cI, 4096, .inl ug23)), (kc, .inr (0, [.int rk, .null, .null, .null, .ref a, .ref v23]))] ++ va_pl ((L ++ ([] ++ N23))) f23) := hD
      refine lv_aload_n hx hb d_QueryReader_comparison_32 rfl (lv_at hl 0 rfl) ?_
      have hL_kc := plD_new (X := [(qr, .inr (5, [.ref h0, .int (nI o)])), (h0, .inr (8, [.ref qb, .ref qu, .int uc23, .int ln, .int (nI n), .int (nI p23), .int pl])), (qb, .inl (cB, 4096, .inl bf)), (qu, .inl (cI, 4096, .inl ug23))]) hD
      have h0_kc : E23 kc = 0 := Classical.byContradiction (fun h => hL_kc (hG23.po.inL h))
      have hE_kc : E kc = 0 := hG23.ex.z h0_kc
      have hP := plP_push (X := [(qr, .inr (5, [.ref h0, .int (nI o)])), (h0, .inr (8, [.ref qb, .ref qu, .int uc23, .int ln, .int (nI n), .int (nI p23), .int pl])), (qb, .inl (cB, 4096, .inl bf)), (qu, .inl (cI, 4096, .inl ug23))]) hP hL_kc
      have hD := plD_push (X := [(qr, .inr (5, [.ref h0, .int (nI o)])), (h0, .inr (8, [.ref qb, .ref qu, .int uc23, .int ln, .int (nI n), .int (nI p23), .int pl])), (qb, .inl (cB, 4096, .inl bf)), (qu, .inl (cI, 4096, .inl ug23))]) hD hL_kc
      rw [List.append_assoc] at hP hD
      have hQ_kc : QK cI cV E L f i n s.heap.size a (5 * (16 - o) + 2) kc p23 (([] ++ N23) ++ [kc]) (va_up E23 kc 10) (va_up f23 kc (kE rk none none none (some a) (some v23))) := by
        refine ⟨hE_kc, va_up_self _ _ _, by omega, by omega, fun lv hO b hb hab => ?_⟩
        have g0 : QG cI cV E lv L f i n p22 s.heap.size [] E lv f := (QG.rf hO hi9).mv (by omega) (by omega)
        obtain ⟨lv1, g1, c1⟩ := hQ23.x lv g0.po (b - 1) (by omega)
        have g1 := g0.tr g1 hzz23
        have hvs23 : v23 ≠ kc := fun e => by have h9 := hQ23.so; rw [e, h0_kc] at h9; cases h9
        have haE : E23 a = 11 := (hex23 a (by rw [hEa]; decide)).trans hEa
        have has : a ≠ kc := fun e => by rw [e, h0_kc] at haE; cases haE
        have hla : lv1 a = lv a := g1.lve a (by rw [hEa]; decide)
        exact ⟨va_up lv1 kc b, g1.add (q := kc) (s := 10) (b := b) (e := kE rk none none none (some a) (some v23)) h0_kc hL_kc hz_kc (by decide) (by decide) (CO.K (va_up_self _ _ _) ⟨_, _, _, _, _, _, rfl, ⟨(fun b h => (nomatch h)), (fun b h => (nomatch h)), (fun b h => (nomatch h)), (fun b9 h => by cases h; exact ⟨(va_up_ne _ _ has).trans haE, by rw [va_up_ne _ _ has, va_up_self, hla]; exact hab⟩), (fun b9 h => by cases h; exact ⟨(va_up_ne _ _ hvs23).trans hQ23.so, by rw [va_up_ne _ _ hvs23, va_up_self]; have := c1; omega⟩), fun h => absurd h hk2, fun h => absurd h hk3, fun _ _ _ _ => ⟨(fun h => by cases h), (fun h => by cases h)⟩⟩⟩), va_up_self _ _ _⟩
      have hP : va_P (dC, dI) classes ([(qr, .inr (5, [.ref h0, .int (nI o)])), (h0, .inr (8, [.ref qb, .ref qu, .int uc23, .int ln, .int (nI n), .int (nI p23), .int pl])), (qb, .inl (cB, 4096, .inl bf)), (qu, .inl (cI, 4096, .inl ug23))] ++ va_pl ((L ++ (([] ++ N23) ++ [kc]))) ((va_up f23 kc (kE rk none none none (some a) (some v23))))) H := hP
      have hD : va_D A ([(qr, .inr (5, [.ref h0, .int (nI o)])), (h0, .inr (8, [.ref qb, .ref qu, .int uc23, .int ln, .int (nI n), .int (nI p23), .int pl])), (qb, .inl (cB, 4096, .inl bf)), (qu, .inl (cI, 4096, .inl ug23))] ++ va_pl ((L ++ (([] ++ N23) ++ [kc]))) ((va_up f23 kc (kE rk none none none (some a) (some v23))))) := hD
      have hfin : (cpD bf n (opD bf n ok orL cmL qyL) x0) i = some (p23, cmpC op9 x0 m23) := cpD_ok hopr h_p22 hf23
      have hdn : DNx KD 2 Eb ((va_up E23 kc 10)) ((va_up f23 kc (kE rk none none none (some a) (some v23)))) kc (cmpC op9 x0 m23) := DNx.cmp hda hEb0 (by rw [hEa]; decide) hd23 hnv23 hsv23 hkp23 hEb h0_kc hop5 hrk9
      refine w_same (fun hq => ?_)
      refine W.widen (k := 8 * (n - i) + 4) (n := 64 * (n - i) + 60) (by show ((0 + 1) + (8 * (p23 - p22) + 3 - 0)) ≤ 8 * (n - i) + 4; omega) (by show ((0 + 6) + (64 * (p23 - p22) + 14 - 0)) ≤ 64 * (n - i) + 60; omega) ?_
      refine vx_ret ?_
      exact W.aret (v := .ref kc) hx hb hr (Or.inl ⟨_, rfl⟩) (Or.inr ⟨_, rfl⟩) (fun t9 ht hW => ⟨⟨(kc, p23, (([] ++ N23) ++ [kc]), (va_up E23 kc 10), (va_up f23 kc (kE rk none none none (some a) (some v23))), uc23, ug23), kc, rfl, ⟨hQ_kc, _, hfin, hdn⟩, ⟨by rw [ht]; exact hP, va_K.moved hW.alike hK, hD⟩, by rw [ht]; exact ⟨hq.mono (by show ((0 + 1) + (8 * (p23 - p22) + 3 - 0)) ≤ 8 * (p23 - i) - 4; omega) (by show ((0 + 6) + (64 * (p23 - p22) + 14 - 0)) ≤ 64 * (p23 - i) - 44; omega), rfl⟩⟩, hS.F ht⟩) hS.2.2 d_QueryReader_comparison_33
