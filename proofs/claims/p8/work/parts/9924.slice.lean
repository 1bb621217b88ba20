theorem z_563 : (.methodLink "QueryBench$QueryReader" 39 ⟨"QueryBench$Tape", "skipBlanks", "()V"⟩ : Cond) ∈ gtbl := gt_in 563 (by decide +kernel) (by decide +kernel)
theorem z_612 : (.fieldLink "QueryBench$QueryReader" 110 "QueryBench$Selector" "kind" "I" : Cond) ∈ gtbl := gt_in 612 (by decide +kernel) (by decide +kernel)
theorem z_617 : (.fieldLink "QueryBench$QueryReader" 146 "QueryBench$Selector" "hasStop" "Z" : Cond) ∈ gtbl := gt_in 617 (by decide +kernel) (by decide +kernel)
theorem z_621 : (.fieldLink "QueryBench$QueryReader" 143 "QueryBench$Selector" "stop" "J" : Cond) ∈ gtbl := gt_in 621 (by decide +kernel) (by decide +kernel)
theorem z_624 : (.fieldLink "QueryBench$QueryReader" 149 "QueryBench$Selector" "step" "J" : Cond) ∈ gtbl := gt_in 624 (by decide +kernel) (by decide +kernel)
theorem z_776 : (.methodLink "QueryBench$QueryReader" 129 ⟨"QueryBench$QueryReader", "integer", "()J"⟩ : Cond) ∈ gtbl := gt_in 776 (by decide +kernel) (by decide +kernel)
theorem z_778 : (.instanceMethod ⟨"QueryBench$QueryReader", "integer", "()J"⟩ : Cond) ∈ gtbl := gt_in 778 (by decide +kernel) (by decide +kernel)
theorem z_786 : (.methodLink "QueryBench$QueryReader" 140 ⟨"QueryBench$QueryReader", "beginsInteger", "(I)Z"⟩ : Cond) ∈ gtbl := gt_in 786 (by decide +kernel) (by decide +kernel)
theorem z_787 : (.static ⟨"QueryBench$QueryReader", "beginsInteger", "(I)Z"⟩ : Cond) ∈ gtbl := gt_in 787 (by decide +kernel) (by decide +kernel)
abbrev b_QueryReader_slice : ByteArray := prog_7_method_9_code
def y_QueryReader_slice : MethodName := ⟨"QueryBench$QueryReader", "slice", "(LQueryBench$Selector;)V"⟩
abbrev k_QueryReader_slice : Cond := .code y_QueryReader_slice b_QueryReader_slice 2 none
theorem i_QueryReader_slice : k_QueryReader_slice ∈ gtbl := gt_in 785 (by decide +kernel) (by decide +kernel)
theorem d_QueryReader_slice_0 : decode b_QueryReader_slice 0 = .ok (.aload_n 1, 1) := by decide +kernel
theorem d_QueryReader_slice_1 : decode b_QueryReader_slice 1 = .ok (.iconst 3, 1) := by decide +kernel
theorem d_QueryReader_slice_2 : decode b_QueryReader_slice 2 = .ok (.putfield 110, 3) := by decide +kernel
theorem d_QueryReader_slice_5 : decode b_QueryReader_slice 5 = .ok (.aload_n 0, 1) := by decide +kernel
theorem d_QueryReader_slice_6 : decode b_QueryReader_slice 6 = .ok (.getfield 9, 3) := by decide +kernel
theorem d_QueryReader_slice_9 : decode b_QueryReader_slice 9 = .ok (.dup, 1) := by decide +kernel
theorem d_QueryReader_slice_10 : decode b_QueryReader_slice 10 = .ok (.getfield 25, 3) := by decide +kernel
theorem d_QueryReader_slice_13 : decode b_QueryReader_slice 13 = .ok (.iconst 1, 1) := by decide +kernel
theorem d_QueryReader_slice_14 : decode b_QueryReader_slice 14 = .ok (.iadd, 1) := by decide +kernel
theorem d_QueryReader_slice_15 : decode b_QueryReader_slice 15 = .ok (.putfield 25, 3) := by decide +kernel
theorem d_QueryReader_slice_18 : decode b_QueryReader_slice 18 = .ok (.aload_n 0, 1) := by decide +kernel
theorem d_QueryReader_slice_19 : decode b_QueryReader_slice 19 = .ok (.getfield 9, 3) := by decide +kernel
theorem d_QueryReader_slice_22 : decode b_QueryReader_slice 22 = .ok (.invokevirtual 39, 3) := by decide +kernel
theorem d_QueryReader_slice_25 : decode b_QueryReader_slice 25 = .ok (.aload_n 0, 1) := by decide +kernel
theorem d_QueryReader_slice_26 : decode b_QueryReader_slice 26 = .ok (.getfield 9, 3) := by decide +kernel
theorem d_QueryReader_slice_29 : decode b_QueryReader_slice 29 = .ok (.invokevirtual 19, 3) := by decide +kernel
theorem d_QueryReader_slice_32 : decode b_QueryReader_slice 32 = .ok (.invokestatic 140, 3) := by decide +kernel
theorem d_QueryReader_slice_35 : decode b_QueryReader_slice 35 = .ok (.ifCond .eq 23, 3) := by decide +kernel
theorem d_QueryReader_slice_38 : decode b_QueryReader_slice 38 = .ok (.aload_n 1, 1) := by decide +kernel
theorem d_QueryReader_slice_39 : decode b_QueryReader_slice 39 = .ok (.aload_n 0, 1) := by decide +kernel
theorem d_QueryReader_slice_40 : decode b_QueryReader_slice 40 = .ok (.invokevirtual 129, 3) := by decide +kernel
theorem d_QueryReader_slice_43 : decode b_QueryReader_slice 43 = .ok (.putfield 143, 3) := by decide +kernel
theorem d_QueryReader_slice_46 : decode b_QueryReader_slice 46 = .ok (.aload_n 1, 1) := by decide +kernel
theorem d_QueryReader_slice_47 : decode b_QueryReader_slice 47 = .ok (.iconst 1, 1) := by decide +kernel
theorem d_QueryReader_slice_48 : decode b_QueryReader_slice 48 = .ok (.putfield 146, 3) := by decide +kernel
theorem d_QueryReader_slice_51 : decode b_QueryReader_slice 51 = .ok (.aload_n 0, 1) := by decide +kernel
theorem d_QueryReader_slice_52 : decode b_QueryReader_slice 52 = .ok (.getfield 9, 3) := by decide +kernel
theorem d_QueryReader_slice_55 : decode b_QueryReader_slice 55 = .ok (.invokevirtual 39, 3) := by decide +kernel
theorem d_QueryReader_slice_58 : decode b_QueryReader_slice 58 = .ok (.aload_n 0, 1) := by decide +kernel
theorem d_QueryReader_slice_59 : decode b_QueryReader_slice 59 = .ok (.getfield 9, 3) := by decide +kernel
theorem d_QueryReader_slice_62 : decode b_QueryReader_slice 62 = .ok (.bipush 58, 2) := by decide +kernel
theorem d_QueryReader_slice_64 : decode b_QueryReader_slice 64 = .ok (.invokevirtual 58, 3) := by decide +kernel
theorem d_QueryReader_slice_67 : decode b_QueryReader_slice 67 = .ok (.ifCond .eq 31, 3) := by decide +kernel
theorem d_QueryReader_slice_70 : decode b_QueryReader_slice 70 = .ok (.aload_n 0, 1) := by decide +kernel
theorem d_QueryReader_slice_71 : decode b_QueryReader_slice 71 = .ok (.getfield 9, 3) := by decide +kernel
theorem d_QueryReader_slice_74 : decode b_QueryReader_slice 74 = .ok (.invokevirtual 39, 3) := by decide +kernel
theorem d_QueryReader_slice_77 : decode b_QueryReader_slice 77 = .ok (.aload_n 0, 1) := by decide +kernel
theorem d_QueryReader_slice_78 : decode b_QueryReader_slice 78 = .ok (.getfield 9, 3) := by decide +kernel
theorem d_QueryReader_slice_81 : decode b_QueryReader_slice 81 = .ok (.invokevirtual 19, 3) := by decide +kernel
theorem d_QueryReader_slice_84 : decode b_QueryReader_slice 84 = .ok (.invokestatic 140, 3) := by decide +kernel
theorem d_QueryReader_slice_87 : decode b_QueryReader_slice 87 = .ok (.ifCond .eq 11, 3) := by decide +kernel
theorem d_QueryReader_slice_90 : decode b_QueryReader_slice 90 = .ok (.aload_n 1, 1) := by decide +kernel
theorem d_QueryReader_slice_91 : decode b_QueryReader_slice 91 = .ok (.aload_n 0, 1) := by decide +kernel
theorem d_QueryReader_slice_92 : decode b_QueryReader_slice 92 = .ok (.invokevirtual 129, 3) := by decide +kernel
theorem d_QueryReader_slice_95 : decode b_QueryReader_slice 95 = .ok (.putfield 149, 3) := by decide +kernel
theorem d_QueryReader_slice_98 : decode b_QueryReader_slice 98 = .ok (.return_, 1) := by decide +kernel
set_option maxHeartbeats 4000000 in
set_option maxRecDepth 100000 in
/-- QueryReader.slice -/
theorem c_QueryReader_slice (l : Launch) (hl9 : l.stackTraces = false) (dC : Nat → ClassId) (dI : Nat → Nat → Nat) (sz : Heap) (cB cI : ClassId) (h0 qb qu : Nat) (uc ln pl : Int32) (bf ug : Nat → Int32) (n i : Nat) (hn0 : n ≤ 4096) (hin : i < n) (qr o sl : Nat) (k0 hs hp9 : Int32) (st sp : Int64) (vn vf vx : Value) : vx_Met l y_QueryReader_slice (k_QueryReader_slice :: gtbl) ({ frames := 11, cells := 1, slots := 6, locals := 210 }) (va_Pc [.ref qr, .ref sl] (mx dC dI ([(qr, .inr (5, [.ref h0, .int (nI o)])), (h0, .inr (8, [.ref qb, .ref qu, .int uc, .int ln, .int (nI n), .int (nI i), .int pl])), (qb, .inl (cB, 4096, .inl bf)), (qu, .inl (cI, 4096, .inl ug)), (sl, .inr (7, [.int k0, vn, .int hs, .int hp9, .long st, .long sp, .long 1, vf, vx]))]) [(cB, .byte), (cI, .int)] sz)) (va_Qv (fun (u : Nat × Int32 × Int64 × Int64) => i < u.1 ∧ u.1 ≤ n ∧ wi53 u.2.2.2 ∧ ∃ e : Option Int64, slV bf n i = some (u.1, e, u.2.2.2) ∧ (hp9 = 0 → (if u.2.1 = 0 then none else some u.2.2.1) = e)) (fun u t9 => mz dC dI ([(qr, .inr (5, [.ref h0, .int (nI o)])), (h0, .inr (8, [.ref qb, .ref qu, .int uc, .int ln, .int (nI n), .int (nI u.1), .int pl])), (qb, .inl (cB, 4096, .inl bf)), (qu, .inl (cI, 4096, .inl ug)), (sl, .inr (7, [.int 3, vn, .int hs, .int u.2.1, .long st, .long u.2.2.1, .long u.2.2.2, vf, vx]))]) [(cB, .byte), (cI, .int)] (va_A ([(qr, .inr (5, [.ref h0, .int (nI o)])), (h0, .inr (8, [.ref qb, .ref qu, .int uc, .int ln, .int (nI n), .int (nI i), .int pl])), (qb, .inl (cB, 4096, .inl bf)), (qu, .inl (cI, 4096, .inl ug)), (sl, .inr (7, [.int k0, vn, .int hs, .int hp9, .long st, .long sp, .long 1, vf, vx]))]) sz.size) t9 ∧ szk sz t9.heap (0) (0)) (va_A ([(qr, .inr (5, [.ref h0, .int (nI o)])), (h0, .inr (8, [.ref qb, .ref qu, .int uc, .int ln, .int (nI n), .int (nI i), .int pl])), (qb, .inl (cB, 4096, .inl bf)), (qu, .inl (cI, 4096, .inl ug)), (sl, .inr (7, [.int k0, vn, .int hs, .int hp9, .long st, .long sp, .long 1, vf, vx]))]) sz.size)) (vx_X (fun (u : Int32 × Int32 × Int32 × (Nat → Int32) × Int32) => slV bf n i = none) (fun En u t9 => En = UOX ∧ mz dC dI ([(qr, .inr (5, [.ref h0, .int u.2.2.2.2])), (h0, .inr (8, [.ref qb, .ref qu, .int u.2.1, .int ln, .int (nI n), .int u.1, .int u.2.2.1])), (qb, .inl (cB, 4096, .inl bf)), (qu, .inl (cI, 4096, .inl u.2.2.2.1))]) [(cB, .byte), (cI, .int)] (va_A ([(qr, .inr (5, [.ref h0, .int (nI o)])), (h0, .inr (8, [.ref qb, .ref qu, .int uc, .int ln, .int (nI n), .int (nI i), .int pl])), (qb, .inl (cB, 4096, .inl bf)), (qu, .inl (cI, 4096, .inl ug)), (sl, .inr (7, [.int k0, vn, .int hs, .int hp9, .long st, .long sp, .long 1, vf, vx]))]) sz.size) t9) (va_A ([(qr, .inr (5, [.ref h0, .int (nI o)])), (h0, .inr (8, [.ref qb, .ref qu, .int uc, .int ln, .int (nI n), .int (nI i), .int pl])), (qb, .inl (cB, 4096, .inl bf)), (qu, .inl (cI, 4096, .inl ug)), (sl, .inr (7, [.int k0, vn, .int hs, .int hp9, .long st, .long sp, .long 1, vf, vx]))]) sz.size)) (1) (6) (va_A ([(qr, .inr (5, [.ref h0, .int (nI o)])), (h0, .inr (8, [.ref qb, .ref qu, .int uc, .int ln, .int (nI n), .int (nI i), .int pl])), (qb, .inl (cB, 4096, .inl bf)), (qu, .inl (cI, 4096, .inl ug)), (sl, .inr (7, [.int k0, vn, .int hs, .int hp9, .long st, .long sp, .long 1, vf, vx]))]) sz.size) := by
  refine vx_ofW (cc := b_QueryReader_slice) (maxL := 2) (ret := none) (by decide) rfl ?_
  intro p e s m args below meth c s₁ B hml hex hv
  obtain ⟨rfl, ⟨hsz, hP, hK, hD0⟩, hN, hZ⟩ := hv
  have hx := B.exec
  have hb := B.bytes
  have hr := B.returns
  have hts0 := atoms_spec (ws := k_QueryReader_slice :: gtbl) B.pre
  have hts := fun w h => hts0 w (List.mem_cons_of_mem _ h)
  have hown : s.vm.findClass R_QueryReader = some m.cls := findClass_of_methodNamed B.named
  have hlocks := B.notSynchronized
  subst hsz
  have hD := hD0.self (sz := s.heap.size)
  generalize hAe : va_A ([(qr, .inr (5, [.ref h0, .int (nI o)])), (h0, .inr (8, [.ref qb, .ref qu, .int uc, .int ln, .int (nI n), .int (nI i), .int pl])), (qb, .inl (cB, 4096, .inl bf)), (qu, .inl (cI, 4096, .inl ug)), (sl, .inr (7, [.int k0, vn, .int hs, .int hp9, .long st, .long sp, .long 1, vf, vx]))]) s.heap.size = A at hD hZ ⊢
  have hA : ∀ q : Nat, s.heap.size ≤ q → A q := fun q h => by rw [← hAe]; exact Or.inr h
  have hS : va_S A s.heap s.heap [] := va_S.rf
  have hP : va_P (dC, dI) classes ([(qr, .inr (5, [.ref h0, .int (nI o)])), (h0, .inr (8, [.ref qb, .ref qu, .int uc, .int ln, .int (nI n), .int (nI i), .int pl])), (qb, .inl (cB, 4096, .inl bf)), (qu, .inl (cI, 4096, .inl ug)), (sl, .inr (7, [.int k0, vn, .int hs, .int hp9, .long st, .long sp, .long 1, vf, vx]))]) s.heap := hP
  have hl := lv_entry ([.ref qr, .ref sl]) (n := 2) (Nat.le_of_ble_eq_true rfl)
  rw [lg_entry_eq]
  generalize (lg_sl ([.ref qr, .ref sl]) ++ List.replicate (2 - (lg_sl ([.ref qr, .ref sl])).length) Slot.unset).toArray = ls at hl ⊢
  have hl : lv_has ls 2 [(0, .ref qr), (1, .ref sl)] := hl
  refine lv_aload_n hx hb d_QueryReader_slice_0 rfl (lv_at hl 1 rfl) ?_
  refine lv_iconst (v := 3) hx hb d_QueryReader_slice_1 (by decide) ?_
  refine va_put (D := (dC, dI)) (ci := 7) (v := .int 3) (ty := .int) (C := R_Selector) (T := F_Selector) (N := 9) hx hb hts in_Selector t_Selector t_Selector_ok n_Selector hown hK hP hD hS 4 rfl rfl 0 (by decide) (hts _ z_612) (fun _ h9 => h9) rfl (by decide +kernel) rfl rfl (Nat.le_of_ble_eq_true rfl) d_QueryReader_slice_2 (fun H locs hP hD hS => ?_)
  have hP : va_P (dC, dI) classes ([(qr, .inr (5, [.ref h0, .int (nI o)])), (h0, .inr (8, [.ref qb, .ref qu, .int uc, .int ln, .int (nI n), .int (nI i), .int pl])), (qb, .inl (cB, 4096, .inl bf)), (qu, .inl (cI, 4096, .inl ug)), (sl, .inr (7, [.int 3, vn, .int hs, .int hp9, .long st, .long sp, .long 1, vf, vx]))]) H := hP
  have hD : va_D A ([(qr, .inr (5, [.ref h0, .int (nI o)])), (h0, .inr (8, [.ref qb, .ref qu, .int uc, .int ln, .int (nI n), .int (nI i), .int pl])), (qb, .inl (cB, 4096, .inl bf)), (qu, .inl (cI, 4096, .inl ug)), (sl, .inr (7, [.int 3, vn, .int hs, .int hp9, .long st, .long sp, .long 1, vf, vx]))]) := hD
  refine lv_aload_n hx hb d_QueryReader_slice_5 rfl (lv_at hl 0 rfl) ?_
  refine va_get (D := (dC, dI)) (ci := 5) (v := .ref h0) (C := R_QueryReader) (T := F_QueryReader) (N := 2) hx hb hts in_QueryReader hown hK hP 0 rfl rfl 0 (by decide) (hts _ w_100) (fun _ h9 => h9) rfl d_QueryReader_slice_6 ?_
  refine lv_dup hx hb d_QueryReader_slice_9 rfl ?_
  refine va_get (D := (dC, dI)) (ci := 8) (v := .int (nI i)) (C := R_Tape) (T := F_Tape) (N := 7) hx hb hts in_Tape hown hK hP 1 rfl rfl 5 (by decide) (hts _ z_53) (fun _ h9 => h9) rfl d_QueryReader_slice_10 ?_
  refine lv_iconst (v := 1) hx hb d_QueryReader_slice_13 (by decide) ?_
  refine lv_iadd hx hb d_QueryReader_slice_14 ?_
  refine W.eq (g2 := F0 m 15 ls [.int (nI (i + 1)), .ref h0]) (by rw [show ((nI i) + 1) = (nI (i + 1)) from nI_1 _]) ?_
  refine va_put (D := (dC, dI)) (ci := 8) (v := .int (nI (i + 1))) (ty := .int) (C := R_Tape) (T := F_Tape) (N := 7) hx hb hts in_Tape t_Tape t_Tape_ok n_Tape hown hK hP hD hS 1 rfl rfl 5 (by decide) (hts _ z_53) (fun _ h9 => h9) rfl (by decide +kernel) rfl rfl (Nat.le_of_ble_eq_true rfl) d_QueryReader_slice_15 (fun H locs hP hD hS => ?_)
  have hP : va_P (dC, dI) classes ([(qr, .inr (5, [.ref h0, .int (nI o)])), (h0, .inr (8, [.ref qb, .ref qu, .int uc, .int ln, .int (nI n), .int (nI (i + 1)), .int pl])), (qb, .inl (cB, 4096, .inl bf)), (qu, .inl (cI, 4096, .inl ug)), (sl, .inr (7, [.int 3, vn, .int hs, .int hp9, .long st, .long sp, .long 1, vf, vx]))]) H := hP
  have hD : va_D A ([(qr, .inr (5, [.ref h0, .int (nI o)])), (h0, .inr (8, [.ref qb, .ref qu, .int uc, .int ln, .int (nI n), .int (nI (i + 1)), .int pl])), (qb, .inl (cB, 4096, .inl bf)), (qu, .inl (cI, 4096, .inl ug)), (sl, .inr (7, [.int 3, vn, .int hs, .int hp9, .long st, .long sp, .long 1, vf, vx]))]) := hD
  have hP : va_P (dC, dI) classes ([(qr, .inr (5, [.ref h0, .int (nI o)])), (h0, .inr (8, [.ref qb, .ref qu, .int uc, .int ln, .int (nI n), .int (nI (i + 1)), .int pl])), (qb, .inl (cB, 4096, .inl bf)), (qu, .inl (cI, 4096, .inl ug)), (sl, .inr (7, [.int 3, vn, .int hs, .int hp9, .long st, .long sp, .long 1, vf, vx]))]) H := hP
  have hD : va_D A ([(qr, .inr (5, [.ref h0, .int (nI o)])), (h0, .inr (8, [.ref qb, .ref qu, .int uc, .int ln, .int (nI n), .int (nI (i + 1)), .int pl])), (qb, .inl (cB, 4096, .inl bf)), (qu, .inl (cI, 4096, .inl ug)), (sl, .inr (7, [.int 3, vn, .int hs, .int hp9, .long st, .long sp, .long 1, vf, vx]))]) := hD
  refine lv_aload_n hx hb d_QueryReader_slice_18 rfl (lv_at hl 0 rfl) ?_
  refine va_get (D := (dC, dI)) (ci := 5) (v := .ref h0) (C := R_QueryReader) (T := F_QueryReader) (N := 2) hx hb hts in_QueryReader hown hK hP 0 rfl rfl 0 (by decide) (hts _ w_100) (fun _ h9 => h9) rfl d_QueryReader_slice_19 ?_
  have hPc := hP.sub (ws' := [(h0, .inr (8, [.ref qb, .ref qu, .int uc, .int ln, .int (nI n), .int (nI (i + 1)), .int pl])), (qb, .inl (cB, 4096, .inl bf))]) [1, 2] rfl
  have hDc := hD.sub (ws' := [(h0, .inr (8, [.ref qb, .ref qu, .int uc, .int ln, .int (nI n), .int (nI (i + 1)), .int pl])), (qb, .inl (cB, 4096, .inl bf))]) [1, 2] (by decide) rfl
  have hFc := va_free (wc := [(h0, .inr (8, [.ref qb, .ref qu, .int uc, .int ln, .int (nI n), .int (nI (i + 1)), .int pl])), (qb, .inl (cB, 4096, .inl bf))]) hD hS hA [1, 2] rfl
  have hKc := hK.sub (tys' := [(cB, .byte)]) [0] rfl
  refine va_callv (va_runV (As := []) (rest := []) ⟨hx, hb, hml, hown, hts⟩ (c_Tape_skipBlanks l dC dI cB h0 qb H (.ref qu) uc ln pl bf n ((i + 1)) hn0 (by omega)) (cwV 0 hts (gt_V (own := R_QueryReader) (C := R_Tape) (i := 39) (y := y_Tape_skipBlanks) i_Tape_skipBlanks z_563 z_299 z_300 w_2) rfl rfl rfl (by decide +kernel) ⟨Nat.le_of_ble_eq_true rfl, Nat.le_of_ble_eq_true rfl⟩) ⟨mp_blind, va_recv hK hP (ci := 8) (q0 := 1) rfl rfl, fun U hU hW => ⟨rfl, hU, by rw [hU]; exact hPc, va_K.moved hW.alike hKc, hDc.weaken (fun _ _ _ _ => trivial)⟩⟩ rfl rfl hl.1 rfl (lv_room (Nat.le_of_ble_eq_true rfl)) d_QueryReader_slice_22 ⟨Nat.le_of_ble_eq_true rfl, Nat.le_of_ble_eq_true rfl⟩) hS (fun q _ h => hFc q h) hFc (fun _u t9 H1 locs ht hvm hw hB hz1 hk1 hS => ?_)
  obtain ⟨hP1, hK1, hD1⟩ := hB
  rw [ht] at hP1
  obtain ⟨hP, hD⟩ := va_join (wr := [(qr, .inr (5, [.ref h0, .int (nI o)])), (qu, .inl (cI, 4096, .inl ug)), (sl, .inr (7, [.int 3, vn, .int hs, .int hp9, .long st, .long sp, .long 1, vf, vx]))]) (w1 := [(h0, .inr (8, [.ref qb, .ref qu, .int uc, .int ln, .int (nI n), .int (nI (skipB bf n ((i + 1)))), .int pl])), (qb, .inl (cB, 4096, .inl bf))]) hP hD [1, 2] [0, 3, 4] rfl rfl (by decide) (by decide) hk1 hFc hP1 hD1
  generalize H1 = H at hP hS ⊢
  have hP : va_P (dC, dI) classes ([(qr, .inr (5, [.ref h0, .int (nI o)])), (qu, .inl (cI, 4096, .inl ug)), (sl, .inr (7, [.int 3, vn, .int hs, .int hp9, .long st, .long sp, .long 1, vf, vx])), (h0, .inr (8, [.ref qb, .ref qu, .int uc, .int ln, .int (nI n), .int (nI (skipB bf n ((i + 1)))), .int pl])), (qb, .inl (cB, 4096, .inl bf))]) H := hP
  have hD : va_D A ([(qr, .inr (5, [.ref h0, .int (nI o)])), (qu, .inl (cI, 4096, .inl ug)), (sl, .inr (7, [.int 3, vn, .int hs, .int hp9, .long st, .long sp, .long 1, vf, vx])), (h0, .inr (8, [.ref qb, .ref qu, .int uc, .int ln, .int (nI n), .int (nI (skipB bf n ((i + 1)))), .int pl])), (qb, .inl (cB, 4096, .inl bf))]) := hD
  have hP := hP.sub (ws' := [(qr, .inr (5, [.ref h0, .int (nI o)])), (h0, .inr (8, [.ref qb, .ref qu, .int uc, .int ln, .int (nI n), .int (nI (skipB bf n ((i + 1)))), .int pl])), (qb, .inl (cB, 4096, .inl bf)), (qu, .inl (cI, 4096, .inl ug)), (sl, .inr (7, [.int 3, vn, .int hs, .int hp9, .long st, .long sp, .long 1, vf, vx]))]) [0, 3, 4, 1, 2] rfl
  have hD := hD.sub (ws' := [(qr, .inr (5, [.ref h0, .int (nI o)])), (h0, .inr (8, [.ref qb, .ref qu, .int uc, .int ln, .int (nI n), .int (nI (skipB bf n ((i + 1)))), .int pl])), (qb, .inl (cB, 4096, .inl bf)), (qu, .inl (cI, 4096, .inl ug)), (sl, .inr (7, [.int 3, vn, .int hs, .int hp9, .long st, .long sp, .long 1, vf, vx]))]) [0, 3, 4, 1, 2] (by decide) rfl
  obtain ⟨p21, h_p21⟩ : ∃ z, z = skipB bf n ((i + 1)) := ⟨_, rfl⟩
  have hb_p21 := skip_b (f := bf) (show ((i + 1)) ≤ n by omega)
  rw [← h_p21] at hP hD hb_p21
  have hP : va_P (dC, dI) classes ([(qr, .inr (5, [.ref h0, .int (nI o)])), (h0, .inr (8, [.ref qb, .ref qu, .int uc, .int ln, .int (nI n), .int (nI p21), .int pl])), (qb, .inl (cB, 4096, .inl bf)), (qu, .inl (cI, 4096, .inl ug)), (sl, .inr (7, [.int 3, vn, .int hs, .int hp9, .long st, .long sp, .long 1, vf, vx]))]) H := hP
  have hD : va_D A ([(qr, .inr (5, [.ref h0, .int (nI o)])), (h0, .inr (8, [.ref qb, .ref qu, .int uc, .int ln, .int (nI n), .int (nI p21), .int pl])), (qb, .inl (cB, 4096, .inl bf)), (qu, .inl (cI, 4096, .inl ug)), (sl, .inr (7, [.int 3, vn, .int hs, .int hp9, .long st, .long sp, .long 1, vf, vx]))]) := hD
  refine lv_aload_n hx hb d_QueryReader_slice_25 rfl (lv_at hl 0 rfl) ?_
  refine va_get (D := (dC, dI)) (ci := 5) (v := .ref h0) (C := R_QueryReader) (T := F_QueryReader) (N := 2) hx hb hts in_QueryReader hown hK hP 0 rfl rfl 0 (by decide) (hts _ w_100) (fun _ h9 => h9) rfl d_QueryReader_slice_26 ?_
  have hPc := hP.sub (ws' := [(h0, .inr (8, [.ref qb, .ref qu, .int uc, .int ln, .int (nI n), .int (nI p21), .int pl])), (qb, .inl (cB, 4096, .inl bf))]) [1, 2] rfl
  have hDc := hD.sub (ws' := [(h0, .inr (8, [.ref qb, .ref qu, .int uc, .int ln, .int (nI n), .int (nI p21), .int pl])), (qb, .inl (cB, 4096, .inl bf))]) [1, 2] (by decide) rfl
  have hFc := va_free (wc := [(h0, .inr (8, [.ref qb, .ref qu, .int uc, .int ln, .int (nI n), .int (nI p21), .int pl])), (qb, .inl (cB, 4096, .inl bf))]) hD hS hA [1, 2] rfl
  have hKc := hK.sub (tys' := [(cB, .byte)]) [0] rfl
  refine va_calli (va_runV (As := []) (rest := []) ⟨hx, hb, hml, hown, hts⟩ (c_Tape_here l dC dI cB h0 qb H (.ref qu) uc ln pl bf n p21 hn0 (by omega)) (cwV 0 hts (gt_V (own := R_QueryReader) (C := R_Tape) (i := 19) (y := y_Tape_here) i_Tape_here z_534 w_363 w_364 w_2) rfl rfl rfl (by decide +kernel) ⟨Nat.le_of_ble_eq_true rfl, Nat.le_of_ble_eq_true rfl⟩) ⟨mp_blind, va_recv hK hP (ci := 8) (q0 := 1) rfl rfl, fun U hU hW => ⟨rfl, hU, by rw [hU]; exact hPc, va_K.moved hW.alike hKc, hDc.weaken (fun _ _ _ _ => trivial)⟩⟩ rfl rfl hl.1 rfl (lv_room (Nat.le_of_ble_eq_true rfl)) d_QueryReader_slice_29 ⟨Nat.le_of_ble_eq_true rfl, Nat.le_of_ble_eq_true rfl⟩) hS (fun q _ h => hFc q h) hFc (fun h22 _u t9 H1 locs ht hvm hw hB hz1 hk1 hS => ?_)
  obtain ⟨hP1, hK1, hD1⟩ := hB
  rw [ht] at hP1
  obtain ⟨hP, hD⟩ := va_join (wr := [(qr, .inr (5, [.ref h0, .int (nI o)])), (qu, .inl (cI, 4096, .inl ug)), (sl, .inr (7, [.int 3, vn, .int hs, .int hp9, .long st, .long sp, .long 1, vf, vx]))]) (w1 := [(h0, .inr (8, [.ref qb, .ref qu, .int uc, .int ln, .int (nI n), .int (nI p21), .int pl])), (qb, .inl (cB, 4096, .inl bf))]) hP hD [1, 2] [0, 3, 4] rfl rfl (by decide) (by decide) hk1 hFc hP1 hD1
  generalize H1 = H at hP hS ⊢
  have hP : va_P (dC, dI) classes ([(qr, .inr (5, [.ref h0, .int (nI o)])), (qu, .inl (cI, 4096, .inl ug)), (sl, .inr (7, [.int 3, vn, .int hs, .int hp9, .long st, .long sp, .long 1, vf, vx])), (h0, .inr (8, [.ref qb, .ref qu, .int uc, .int ln, .int (nI n), .int (nI p21), .int pl])), (qb, .inl (cB, 4096, .inl bf))]) H := hP
  have hD : va_D A ([(qr, .inr (5, [.ref h0, .int (nI o)])), (qu, .inl (cI, 4096, .inl ug)), (sl, .inr (7, [.int 3, vn, .int hs, .int hp9, .long st, .long sp, .long 1, vf, vx])), (h0, .inr (8, [.ref qb, .ref qu, .int uc, .int ln, .int (nI n), .int (nI p21), .int pl])), (qb, .inl (cB, 4096, .inl bf))]) := hD
  have hP := hP.sub (ws' := [(qr, .inr (5, [.ref h0, .int (nI o)])), (h0, .inr (8, [.ref qb, .ref qu, .int uc, .int ln, .int (nI n), .int (nI p21), .int pl])), (qb, .inl (cB, 4096, .inl bf)), (qu, .inl (cI, 4096, .inl ug)), (sl, .inr (7, [.int 3, vn, .int hs, .int hp9, .long st, .long sp, .long 1, vf, vx]))]) [0, 3, 4, 1, 2] rfl
  have hD := hD.sub (ws' := [(qr, .inr (5, [.ref h0, .int (nI o)])), (h0, .inr (8, [.ref qb, .ref qu, .int uc, .int ln, .int (nI n), .int (nI p21), .int pl])), (qb, .inl (cB, 4096, .inl bf)), (qu, .inl (cI, 4096, .inl ug)), (sl, .inr (7, [.int 3, vn, .int hs, .int hp9, .long st, .long sp, .long 1, vf, vx]))]) [0, 3, 4, 1, 2] (by decide) rfl
  have h_h22 : h22 = hereV bf n p21 := hw
  refine vp_callSi (va_Run.run (va_runS (As := [.int h22]) (rest := []) ⟨hx, hb, hml, hown, hts⟩ (c_QueryReader_beginsInteger l dC dI H h22) (va_cwS 1 hts (gt_S (own := R_QueryReader) (i := 140) (y := y_QueryReader_beginsInteger) i_QueryReader_beginsInteger z_786 z_787 w_4) rfl rfl rfl (by decide +kernel) ⟨Nat.le_of_ble_eq_true rfl, Nat.le_of_ble_eq_true rfl⟩) ⟨mT_blind, fun U hU hW => ⟨rfl, hN.warm hW⟩⟩ rfl rfl hl.1 rfl (lv_room (Nat.le_of_ble_eq_true rfl)) d_QueryReader_slice_32 ⟨Nat.le_of_ble_eq_true rfl, Nat.le_of_ble_eq_true rfl⟩)) (fun r23 h_r23 => ?_)
  refine lv_if_eq (tgt := 58) hx hb d_QueryReader_slice_35 (by decide) (fun c35 => ?_) (fun c35 => ?_)
  · have hnc35 : ¬ numC (hereV bf n p21) := by rw [← h_h22]; exact h_r23.2.2 c35
    refine lv_aload_n hx hb d_QueryReader_slice_58 rfl (lv_at hl 0 rfl) ?_
    refine va_get (D := (dC, dI)) (ci := 5) (v := .ref h0) (C := R_QueryReader) (T := F_QueryReader) (N := 2) hx hb hts in_QueryReader hown hK hP 0 rfl rfl 0 (by decide) (hts _ w_100) (fun _ h9 => h9) rfl d_QueryReader_slice_59 ?_
    refine lv_bipush (v := 58) hx hb d_QueryReader_slice_62 (by decide) ?_
    have hPc := hP.sub (ws' := [(h0, .inr (8, [.ref qb, .ref qu, .int uc, .int ln, .int (nI n), .int (nI p21), .int pl])), (qb, .inl (cB, 4096, .inl bf))]) [1, 2] rfl
    have hDc := hD.sub (ws' := [(h0, .inr (8, [.ref qb, .ref qu, .int uc, .int ln, .int (nI n), .int (nI p21), .int pl])), (qb, .inl (cB, 4096, .inl bf))]) [1, 2] (by decide) rfl
    have hFc := va_free (wc := [(h0, .inr (8, [.ref qb, .ref qu, .int uc, .int ln, .int (nI n), .int (nI p21), .int pl])), (qb, .inl (cB, 4096, .inl bf))]) hD hS hA [1, 2] rfl
    have hKc := hK.sub (tys' := [(cB, .byte)]) [0] rfl
    refine va_calli (va_runV (As := [.int 58]) (rest := []) ⟨hx, hb, hml, hown, hts⟩ (c_Tape_takeIf l dC dI cB h0 qb H (.ref qu) uc ln pl bf n p21 58 hn0 (by omega)) (cwV 1 hts (gt_V (own := R_QueryReader) (C := R_Tape) (i := 58) (y := y_Tape_takeIf) i_Tape_takeIf z_589 z_393 z_394 w_2) rfl rfl rfl (by decide +kernel) ⟨Nat.le_of_ble_eq_true rfl, Nat.le_of_ble_eq_true rfl⟩) ⟨mp_blind, va_recv hK hP (ci := 8) (q0 := 1) rfl rfl, fun U hU hW => ⟨rfl, hU, by rw [hU]; exact hPc, va_K.moved hW.alike hKc, hDc.weaken (fun _ _ _ _ => trivial)⟩⟩ rfl rfl hl.1 rfl (lv_room (Nat.le_of_ble_eq_true rfl)) d_QueryReader_slice_64 ⟨Nat.le_of_ble_eq_true rfl, Nat.le_of_ble_eq_true rfl⟩) hS (fun q _ h => hFc q h) hFc (fun r24 u24 t9 H1 locs ht hvm hw hB hz1 hk1 hS => ?_)
    obtain ⟨hP1, hK1, hD1⟩ := hB
    rw [ht] at hP1
    obtain ⟨hP, hD⟩ := va_join (wr := [(qr, .inr (5, [.ref h0, .int (nI o)])), (qu, .inl (cI, 4096, .inl ug)), (sl, .inr (7, [.int 3, vn, .int hs, .int hp9, .long st, .long sp, .long 1, vf, vx]))]) (w1 := [(h0, .inr (8, [.ref qb, .ref qu, .int uc, .int ln, .int (nI n), .int (nI u24), .int pl])), (qb, .inl (cB, 4096, .inl bf))]) hP hD [1, 2] [0, 3, 4] rfl rfl (by decide) (by decide) hk1 hFc hP1 hD1
    generalize H1 = H at hP hS ⊢
    have hP : va_P (dC, dI) classes ([(qr, .inr (5, [.ref h0, .int (nI o)])), (qu, .inl (cI, 4096, .inl ug)), (sl, .inr (7, [.int 3, vn, .int hs, .int hp9, .long st, .long sp, .long 1, vf, vx])), (h0, .inr (8, [.ref qb, .ref qu, .int uc, .int ln, .int (nI n), .int (nI u24), .int pl])), (qb, .inl (cB, 4096, .inl bf))]) H := hP
    have hD : va_D A ([(qr, .inr (5, [.ref h0, .int (nI o)])), (qu, .inl (cI, 4096, .inl ug)), (sl, .inr (7, [.int 3, vn, .int hs, .int hp9, .long st, .long sp, .long 1, vf, vx])), (h0, .inr (8, [.ref qb, .ref qu, .int uc, .int ln, .int (nI n), .int (nI u24), .int pl])), (qb, .inl (cB, 4096, .inl bf))]) := hD
    have hP := hP.sub (ws' := [(qr, .inr (5, [.ref h0, .int (nI o)])), (h0, .inr (8, [.ref qb, .ref qu, .int uc, .int ln, .int (nI n), .int (nI u24), .int pl])), (qb, .inl (cB, 4096, .inl bf)), (qu, .inl (cI, 4096, .inl ug)), (sl, .inr (7, [.int 3, vn, .int hs, .int hp9, .long st, .long sp, .long 1, vf, vx]))]) [0, 3, 4, 1, 2] rfl
    have hD := hD.sub (ws' := [(qr, .inr (5, [.ref h0, .int (nI o)])), (h0, .inr (8, [.ref qb, .ref qu, .int uc, .int ln, .int (nI n), .int (nI u24), .int pl])), (qb, .inl (cB, 4096, .inl bf)), (qu, .inl (cI, 4096, .inl ug)), (sl, .inr (7, [.int 3, vn, .int hs, .int hp9, .long st, .long sp, .long 1, vf, vx]))]) [0, 3, 4, 1, 2] (by decide) rfl
    rcases hw with ⟨ht24, hr24, hu24⟩ | ⟨ht24, hr24, hu24⟩
    · have hu24 : u24 = p21 + 1 := hu24
      subst hr24
      rw [hu24] at hP hD
      have hl24 := here_lc ht24 (by decide)
      have hP : va_P (dC, dI) classes ([(qr, .inr (5, [.ref h0, .int (nI o)])), (h0, .inr (8, [.ref qb, .ref qu, .int uc, .int ln, .int (nI n), .int (nI (p21 + 1)), .int pl])), (qb, .inl (cB, 4096, .inl bf)), (qu, .inl (cI, 4096, .inl ug)), (sl, .inr (7, [.int 3, vn, .int hs, .int hp9, .long st, .long sp, .long 1, vf, vx]))]) H := hP
      have hD : va_D A ([(qr, .inr (5, [.ref h0, .int (nI o)])), (h0, .inr (8, [.ref qb, .ref qu, .int uc, .int ln, .int (nI n), .int (nI (p21 + 1)), .int pl])), (qb, .inl (cB, 4096, .inl bf)), (qu, .inl (cI, 4096, .inl ug)), (sl, .inr (7, [.int 3, vn, .int hs, .int hp9, .long st, .long sp, .long 1, vf, vx]))]) := hD
      refine lv_if_eq (tgt := 98) hx hb d_QueryReader_slice_67 (by decide) (fun h => absurd h (by decide)) (fun _ => ?_)
      refine lv_aload_n hx hb d_QueryReader_slice_70 rfl (lv_at hl 0 rfl) ?_
      refine va_get (D := (dC, dI)) (ci := 5) (v := .ref h0) (C := R_QueryReader) (T := F_QueryReader) (N := 2) hx hb hts in_QueryReader hown hK hP 0 rfl rfl 0 (by decide) (hts _ w_100) (fun _ h9 => h9) rfl d_QueryReader_slice_71 ?_
      have hPc := hP.sub (ws' := [(h0, .inr (8, [.ref qb, .ref qu, .int uc, .int ln, .int (nI n), .int (nI (p21 + 1)), .int pl])), (qb, .inl (cB, 4096, .inl bf))]) [1, 2] rfl
      have hDc := hD.sub (ws' := [(h0, .inr (8, [.ref qb, .ref qu, .int uc, .int ln, .int (nI n), .int (nI (p21 + 1)), .int pl])), (qb, .inl (cB, 4096, .inl bf))]) [1, 2] (by decide) rfl
      have hFc := va_free (wc := [(h0, .inr (8, [.ref qb, .ref qu, .int uc, .int ln, .int (nI n), .int (nI (p21 + 1)), .int pl])), (qb, .inl (cB, 4096, .inl bf))]) hD hS hA [1, 2] rfl
      have hKc := hK.sub (tys' := [(cB, .byte)]) [0] rfl
      refine va_callv (va_runV (As := []) (rest := []) ⟨hx, hb, hml, hown, hts⟩ (c_Tape_skipBlanks l dC dI cB h0 qb H (.ref qu) uc ln pl bf n ((p21 + 1)) hn0 (by omega)) (cwV 0 hts (gt_V (own := R_QueryReader) (C := R_Tape) (i := 39) (y := y_Tape_skipBlanks) i_Tape_skipBlanks z_563 z_299 z_300 w_2) rfl rfl rfl (by decide +kernel) ⟨Nat.le_of_ble_eq_true rfl, Nat.le_of_ble_eq_true rfl⟩) ⟨mp_blind, va_recv hK hP (ci := 8) (q0 := 1) rfl rfl, fun U hU hW => ⟨rfl, hU, by rw [hU]; exact hPc, va_K.moved hW.alike hKc, hDc.weaken (fun _ _ _ _ => trivial)⟩⟩ rfl rfl hl.1 rfl (lv_room (Nat.le_of_ble_eq_true rfl)) d_QueryReader_slice_74 ⟨Nat.le_of_ble_eq_true rfl, Nat.le_of_ble_eq_true rfl⟩) hS (fun q _ h => hFc q h) hFc (fun _u t9 H1 locs ht hvm hw hB hz1 hk1 hS => ?_)
      obtain ⟨hP1, hK1, hD1⟩ := hB
      rw [ht] at hP1
      obtain ⟨hP, hD⟩ := va_join (wr := [(qr, .inr (5, [.ref h0, .int (nI o)])), (qu, .inl (cI, 4096, .inl ug)), (sl, .inr (7, [.int 3, vn, .int hs, .int hp9, .long st, .long sp, .long 1, vf, vx]))]) (w1 := [(h0, .inr (8, [.ref qb, .ref qu, .int uc, .int ln, .int (nI n), .int (nI (skipB bf n ((p21 + 1)))), .int pl])), (qb, .inl (cB, 4096, .inl bf))]) hP hD [1, 2] [0, 3, 4] rfl rfl (by decide) (by decide) hk1 hFc hP1 hD1
      generalize H1 = H at hP hS ⊢
      have hP : va_P (dC, dI) classes ([(qr, .inr (5, [.ref h0, .int (nI o)])), (qu, .inl (cI, 4096, .inl ug)), (sl, .inr (7, [.int 3, vn, .int hs, .int hp9, .long st, .long sp, .long 1, vf, vx])), (h0, .inr (8, [.ref qb, .ref qu, .int uc, .int ln, .int (nI n), .int (nI (skipB bf n ((p21 + 1)))), .int pl])), (qb, .inl (cB, 4096, .inl bf))]) H := hP
      have hD : va_D A ([(qr, .inr (5, [.ref h0, .int (nI o)])), (qu, .inl (cI, 4096, .inl ug)), (sl, .inr (7, [.int 3, vn, .int hs, .int hp9, .long st, .long sp, .long 1, vf, vx])), (h0, .inr (8, [.ref qb, .ref qu, .int uc, .int ln, .int (nI n), .int (nI (skipB bf n ((p21 + 1)))), .int pl])), (qb, .inl (cB, 4096, .inl bf))]) := hD
      have hP := hP.sub (ws' := [(qr, .inr (5, [.ref h0, .int (nI o)])), (h0, .inr (8, [.ref qb, .ref qu, .int uc, .int ln, .int (nI n), .int (nI (skipB bf n ((p21 + 1)))), .int pl])), (qb, .inl (cB, 4096, .inl bf)), (qu, .inl (cI, 4096, .inl ug)), (sl, .inr (7, [.int 3, vn, .int hs, .int hp9, .long st, .long sp, .long 1, vf, vx]))]) [0, 3, 4, 1, 2] rfl
      have hD := hD.sub (ws' := [(qr, .inr (5, [.ref h0, .int (nI o)])), (h0, .inr (8, [.ref qb, .ref qu, .int uc, .int ln, .int (nI n), .int (nI (skipB bf n ((p21 + 1)))), .int pl])), (qb, .inl (cB, 4096, .inl bf)), (qu, .inl (cI, 4096, .inl ug)), (sl, .inr (7, [.int 3, vn, .int hs, .int hp9, .long st, .long sp, .long 1, vf, vx]))]) [0, 3, 4, 1, 2] (by decide) rfl
      obtain ⟨p25, h_p25⟩ : ∃ z, z = skipB bf n ((p21 + 1)) := ⟨_, rfl⟩
      have hb_p25 := skip_b (f := bf) (show ((p21 + 1)) ≤ n by omega)
      rw [← h_p25] at hP hD hb_p25
      have hP : va_P (dC, dI) classes ([(qr, .inr (5, [.ref h0, .int (nI o)])), (h0, .inr (8, [.ref qb, .ref qu, .int uc, .int ln, .int (nI n), .int (nI p25), .int pl])), (qb, .inl (cB, 4096, .inl bf)), (qu, .inl (cI, 4096, .inl ug)), (sl, .inr (7, [.int 3, vn, .int hs, .int hp9, .long st, .long sp, .long 1, vf, vx]))]) H := hP
      have hD : va_D A ([(qr, .inr (5, [.ref h0, .int (nI o)])), (h0, .inr (8, [.ref qb, .ref qu, .int uc, .int ln, .int (nI n), .int (nI p25), .int pl])), (qb, .inl (cB, 4096, .inl bf)), (qu, .inl (cI, 4096, .inl ug)), (sl, .inr (7, [.int 3, vn, .int hs, .int hp9, .long st, .long sp, .long 1, vf, vx]))]) := hD
      refine lv_aload_n hx hb d_QueryReader_slice_77 rfl (lv_at hl 0 rfl) ?_
      refine va_get (D := (dC, dI)) (ci := 5) (v := .ref h0) (C := R_QueryReader) (T := F_QueryReader) (N := 2) hx hb hts in_QueryReader hown hK hP 0 rfl rfl 0 (by decide) (hts _ w_100) (fun _ h9 => h9) rfl d_QueryReader_slice_78 ?_
      have hPc := hP.sub (ws' := [(h0, .inr (8, [.ref qb, .ref qu, .int uc, .int ln, .int (nI n), .int (nI p25), .int pl])), (qb, .inl (cB, 4096, .inl bf))]) [1, 2] rfl
      have hDc := hD.sub (ws' := [(h0, .inr (8, [.ref qb, .ref qu, .int uc, .int ln, .int (nI n), .int (nI p25), .int pl])), (qb, .inl (cB, 4096, .inl bf))]) [1, 2] (by decide) rfl
      have hFc := va_free (wc := [(h0, .inr (8, [.ref qb, .ref qu, .int uc, .int ln, .int (nI n), .int (nI p25), .int pl])), (qb, .inl (cB, 4096, .inl bf))]) hD hS hA [1, 2] rfl
      have hKc := hK.sub (tys' := [(cB, .byte)]) [0] rfl
      refine va_calli (va_runV (As := []) (rest := []) ⟨hx, hb, hml, hown, hts⟩ (c_Tape_here l dC dI cB h0 qb H (.ref qu) uc ln pl bf n p25 hn0 (by omega)) (cwV 0 hts (gt_V (own := R_QueryReader) (C := R_Tape) (i := 19) (y := y_Tape_here) i_Tape_here z_534 w_363 w_364 w_2) rfl rfl rfl (by decide +kernel) ⟨Nat.le_of_ble_eq_true rfl, Nat.le_of_ble_eq_true rfl⟩) ⟨mp_blind, va_recv hK hP (ci := 8) (q0 := 1) rfl rfl, fun U hU hW => ⟨rfl, hU, by rw [hU]; exact hPc, va_K.moved hW.alike hKc, hDc.weaken (fun _ _ _ _ => trivial)⟩⟩ rfl rfl hl.1 rfl (lv_room (Nat.le_of_ble_eq_true rfl)) d_QueryReader_slice_81 ⟨Nat.le_of_ble_eq_true rfl, Nat.le_of_ble_eq_true rfl⟩) hS (fun q _ h => hFc q h) hFc (fun h26 _u t9 H1 locs ht hvm hw hB hz1 hk1 hS => ?_)
      obtain ⟨hP1, hK1, hD1⟩ := hB
      rw [ht] at hP1
      obtain ⟨hP, hD⟩ := va_join (wr := [(qr, .inr (5, [.ref h0, .int (nI o)])), (qu, .inl (cI, 4096, .inl ug)), (sl, .inr (7, [.int 3, vn, .int hs, .int hp9, .long st, .long sp, .long 1, vf, vx]))]) (w1 := [(h0, .inr (8, [.ref qb, .ref qu, .int uc, .int ln, .int (nI n), .int (nI p25), .int pl])), (qb, .inl (cB, 4096, .inl bf))]) hP hD [1, 2] [0, 3, 4] rfl rfl (by decide) (by decide) hk1 hFc hP1 hD1
      generalize H1 = H at hP hS ⊢
      have hP : va_P (dC, dI) classes ([(qr, .inr (5, [.ref h0, .int (nI o)])), (qu, .inl (cI, 4096, .inl ug)), (sl, .inr (7, [.int 3, vn, .int hs, .int hp9, .long st, .long sp, .long 1, vf, vx])), (h0, .inr (8, [.ref qb, .ref qu, .int uc, .int ln, .int (nI n), .int (nI p25), .int pl])), (qb, .inl (cB, 4096, .inl bf))]) H := hP
      have hD : va_D A ([(qr, .inr (5, [.ref h0, .int (nI o)])), (qu, .inl (cI, 4096, .inl ug)), (sl, .inr (7, [.int 3, vn, .int hs, .int hp9, .long st, .long sp, .long 1, vf, vx])), (h0, .inr (8, [.ref qb, .ref qu, .int uc, .int ln, .int (nI n), .int (nI p25), .int pl])), (qb, .inl (cB, 4096, .inl bf))]) := hD
      have hP := hP.sub (ws' := [(qr, .inr (5, [.ref h0, .int (nI o)])), (h0, .inr (8, [.ref qb, .ref qu, .int uc, .int ln, .int (nI n), .int (nI p25), .int pl])), (qb, .inl (cB, 4096, .inl bf)), (qu, .inl (cI, 4096, .inl ug)), (sl, .inr (7, [.int 3, vn, .int hs, .int hp9, .long st, .long sp, .long 1, vf, vx]))]) [0, 3, 4, 1, 2] rfl
      have hD := hD.sub (ws' := [(qr, .inr (5, [.ref h0, .int (nI o)])), (h0, .inr (8, [.ref qb, .ref qu, .int uc, .int ln, .int (nI n), .int (nI p25), .int pl])), (qb, .inl (cB, 4096, .inl bf)), (qu, .inl (cI, 4096, .inl ug)), (sl, .inr (7, [.int 3, vn, .int hs, .int hp9, .long st, .long sp, .long 1, vf, vx]))]) [0, 3, 4, 1, 2] (by decide) rfl
      have h_h26 : h26 = hereV bf n p25 := hw
      refine vp_callSi (va_Run.run (va_runS (As := [.int h26]) (rest := []) ⟨hx, hb, hml, hown, hts⟩ (c_QueryReader_beginsInteger l dC dI H h26) (va_cwS 1 hts (gt_S (own := R_QueryReader) (i := 140) (y := y_QueryReader_beginsInteger) i_QueryReader_beginsInteger z_786 z_787 w_4) rfl rfl rfl (by decide +kernel) ⟨Nat.le_of_ble_eq_true rfl, Nat.le_of_ble_eq_true rfl⟩) ⟨mT_blind, fun U hU hW => ⟨rfl, hN.warm hW⟩⟩ rfl rfl hl.1 rfl (lv_room (Nat.le_of_ble_eq_true rfl)) d_QueryReader_slice_84 ⟨Nat.le_of_ble_eq_true rfl, Nat.le_of_ble_eq_true rfl⟩)) (fun r27 h_r27 => ?_)
      refine lv_if_eq (tgt := 98) hx hb d_QueryReader_slice_87 (by decide) (fun c87 => ?_) (fun c87 => ?_)
      · have hnc87 : ¬ numC (hereV bf n p25) := by rw [← h_h26]; exact h_r27.2.2 c87
        have hok : slV bf n i = some (p25, none, 1) := (slV_2 h_p21 hnc35).trans (mp_some (slV2_2 ht24 h_p25 hnc87))
        refine w_same (fun hq => ?_)
        refine W.widen (k := 1) (n := 6) (Nat.le_of_ble_eq_true rfl) (Nat.le_of_ble_eq_true rfl) ?_
        refine vx_ret ?_
        exact W.vret hx hb hr (fun t9 ht hW => ⟨⟨(p25, hp9, sp, 1), rfl, ⟨by show i < p25; omega, by show p25 ≤ n; omega, (show wi53 1 from ⟨by decide, by decide⟩), _, hok, fun h9 => if_pos h9⟩, ⟨by rw [ht]; exact hP, va_K.moved hW.alike hK, hD⟩, by rw [ht]; exact hq⟩, hS.F ht⟩) hS.2.2 d_QueryReader_slice_98
      · have hnc87 : numC (hereV bf n p25) := by rw [← h_h26]; exact h_r27.2.1 c87
        refine lv_aload_n hx hb d_QueryReader_slice_90 rfl (lv_at hl 1 rfl) ?_
        refine lv_aload_n hx hb d_QueryReader_slice_91 rfl (lv_at hl 0 rfl) ?_
        have hPc := hP.sub (ws' := [(qr, .inr (5, [.ref h0, .int (nI o)])), (h0, .inr (8, [.ref qb, .ref qu, .int uc, .int ln, .int (nI n), .int (nI p25), .int pl])), (qb, .inl (cB, 4096, .inl bf)), (qu, .inl (cI, 4096, .inl ug))]) [0, 1, 2, 3] rfl
        have hDc := hD.sub (ws' := [(qr, .inr (5, [.ref h0, .int (nI o)])), (h0, .inr (8, [.ref qb, .ref qu, .int uc, .int ln, .int (nI n), .int (nI p25), .int pl])), (qb, .inl (cB, 4096, .inl bf)), (qu, .inl (cI, 4096, .inl ug))]) [0, 1, 2, 3] (by decide) rfl
        have hFc := va_free (wc := [(qr, .inr (5, [.ref h0, .int (nI o)])), (h0, .inr (8, [.ref qb, .ref qu, .int uc, .int ln, .int (nI n), .int (nI p25), .int pl])), (qb, .inl (cB, 4096, .inl bf)), (qu, .inl (cI, 4096, .inl ug))]) hD hS hA [0, 1, 2, 3] rfl
        have hKc := hK.sub (tys' := [(cB, .byte), (cI, .int)]) [0, 1] rfl
        refine w_same (fun hq0 => ?_)
        refine vx_calll (vx_runV (As := []) (rest := [.ref sl]) ⟨hx, hb, hml, hown, hts⟩ (c_QueryReader_integer l hl9 dC dI H cB cI h0 qb qu uc ln pl bf ug n p25 hn0 (by omega) qr o) (cwV 0 hts (gt_V (own := R_QueryReader) (C := R_QueryReader) (i := 129) (y := y_QueryReader_integer) i_QueryReader_integer z_776 z_778 (gt_sel (y := y_QueryReader_integer) (n := 2) (by decide +kernel)) w_4) rfl rfl rfl (by decide +kernel) ⟨Nat.le_of_ble_eq_true rfl, Nat.le_of_ble_eq_true rfl⟩) ⟨mx_blind, va_recv hK hP (ci := 5) (q0 := 0) rfl rfl, fun U hU hW => ⟨rfl, ⟨hU, by rw [hU]; exact hPc, va_K.moved hW.alike hKc, hDc.weaken (fun _ _ _ _ => trivial)⟩, hN.warm hW, by rw [hU]; exact ZX.moved' hW.alike (ZX.narrow' (ZX.kept' hZ hS.2.1) hFc)⟩⟩ rfl rfl hl.1 rfl (lv_room (Nat.le_of_ble_eq_true rfl)) d_QueryReader_slice_92 ⟨Nat.le_of_ble_eq_true rfl, Nat.le_of_ble_eq_true rfl⟩) hS (fun q _ h => hFc q h) hFc (fun q _ h => hFc q h) (fun En ce q9 ⟨ax, cx, px, gx, ox⟩ t9 H1 locs ht hvm hw hB hz1 hk1 hS hce hcv hcl => ?_) (fun r28 u28 t9 H1 locs ht hvm hw hB hz1 hk1 hS => ?_)
        · obtain ⟨hEn, hP1, hK1, hD1⟩ := hB
          rw [ht] at hP1
          obtain ⟨hP, hD⟩ := va_join (wr := [(sl, .inr (7, [.int 3, vn, .int hs, .int hp9, .long st, .long sp, .long 1, vf, vx]))]) (w1 := [(qr, .inr (5, [.ref h0, .int ox])), (h0, .inr (8, [.ref qb, .ref qu, .int cx, .int ln, .int (nI n), .int ax, .int px])), (qb, .inl (cB, 4096, .inl bf)), (qu, .inl (cI, 4096, .inl gx))]) hP hD [0, 1, 2, 3] [4] rfl rfl (by decide) (by decide) hk1 hFc hP1 hD1
          generalize H1 = H at hP hS hce ⊢
          have hP : va_P (dC, dI) classes ([(sl, .inr (7, [.int 3, vn, .int hs, .int hp9, .long st, .long sp, .long 1, vf, vx])), (qr, .inr (5, [.ref h0, .int ox])), (h0, .inr (8, [.ref qb, .ref qu, .int cx, .int ln, .int (nI n), .int ax, .int px])), (qb, .inl (cB, 4096, .inl bf)), (qu, .inl (cI, 4096, .inl gx))]) H := hP
          have hD : va_D A ([(sl, .inr (7, [.int 3, vn, .int hs, .int hp9, .long st, .long sp, .long 1, vf, vx])), (qr, .inr (5, [.ref h0, .int ox])), (h0, .inr (8, [.ref qb, .ref qu, .int cx, .int ln, .int (nI n), .int ax, .int px])), (qb, .inl (cB, 4096, .inl bf)), (qu, .inl (cI, 4096, .inl gx))]) := hD
          have hP := hP.sub (ws' := [(qr, .inr (5, [.ref h0, .int ox])), (h0, .inr (8, [.ref qb, .ref qu, .int cx, .int ln, .int (nI n), .int ax, .int px])), (qb, .inl (cB, 4096, .inl bf)), (qu, .inl (cI, 4096, .inl gx)), (sl, .inr (7, [.int 3, vn, .int hs, .int hp9, .long st, .long sp, .long 1, vf, vx]))]) [1, 2, 3, 4, 0] rfl
          have hD := hD.sub (ws' := [(qr, .inr (5, [.ref h0, .int ox])), (h0, .inr (8, [.ref qb, .ref qu, .int cx, .int ln, .int (nI n), .int ax, .int px])), (qb, .inl (cB, 4096, .inl bf)), (qu, .inl (cI, 4096, .inl gx)), (sl, .inr (7, [.int 3, vn, .int hs, .int hp9, .long st, .long sp, .long 1, vf, vx]))]) [1, 2, 3, 4, 0] (by decide) rfl
          have hP := hP.sub (ws' := [(qr, .inr (5, [.ref h0, .int ox])), (h0, .inr (8, [.ref qb, .ref qu, .int cx, .int ln, .int (nI n), .int ax, .int px])), (qb, .inl (cB, 4096, .inl bf)), (qu, .inl (cI, 4096, .inl gx))]) [0, 1, 2, 3] rfl
          have hD := hD.sub (ws' := [(qr, .inr (5, [.ref h0, .int ox])), (h0, .inr (8, [.ref qb, .ref qu, .int cx, .int ln, .int (nI n), .int ax, .int px])), (qb, .inl (cB, 4096, .inl bf)), (qu, .inl (cI, 4096, .inl gx))]) [0, 1, 2, 3] (by decide) rfl
          have hno : slV bf n i = none := (slV_2 h_p21 hnc35).trans (mp_none (slV2_0 ht24 h_p25 hnc87 hw))
          exact vx_out (fun x hx => (hex x hx).elim) hlocks hce hcv hcl (fun t9 ht2 ha => ⟨(ax, cx, px, gx, ox), hno, ⟨hEn, by rw [ht2]; exact hP, va_K.moved ha hK, hD⟩, hS.F ht2⟩) hS.2.2 (Nat.le_of_ble_eq_true rfl) (Nat.le_of_ble_eq_true rfl)
        · obtain ⟨⟨hP1, hK1, hD1⟩, hz9⟩ := hB
          rw [ht] at hP1
          rw [ht] at hz9
          refine w_tight (hq0.trans hz9) ?_
          have hq0 := hq0.trans hz9
          obtain ⟨hP, hD⟩ := va_join (wr := [(sl, .inr (7, [.int 3, vn, .int hs, .int hp9, .long st, .long sp, .long 1, vf, vx]))]) (w1 := [(qr, .inr (5, [.ref h0, .int (nI o)])), (h0, .inr (8, [.ref qb, .ref qu, .int uc, .int ln, .int (nI n), .int (nI u28), .int pl])), (qb, .inl (cB, 4096, .inl bf)), (qu, .inl (cI, 4096, .inl ug))]) hP hD [0, 1, 2, 3] [4] rfl rfl (by decide) (by decide) hk1 hFc hP1 hD1
          generalize H1 = H at hP hS hq0 ⊢
          have hP : va_P (dC, dI) classes ([(sl, .inr (7, [.int 3, vn, .int hs, .int hp9, .long st, .long sp, .long 1, vf, vx])), (qr, .inr (5, [.ref h0, .int (nI o)])), (h0, .inr (8, [.ref qb, .ref qu, .int uc, .int ln, .int (nI n), .int (nI u28), .int pl])), (qb, .inl (cB, 4096, .inl bf)), (qu, .inl (cI, 4096, .inl ug))]) H := hP
          have hD : va_D A ([(sl, .inr (7, [.int 3, vn, .int hs, .int hp9, .long st, .long sp, .long 1, vf, vx])), (qr, .inr (5, [.ref h0, .int (nI o)])), (h0, .inr (8, [.ref qb, .ref qu, .int uc, .int ln, .int (nI n), .int (nI u28), .int pl])), (qb, .inl (cB, 4096, .inl bf)), (qu, .inl (cI, 4096, .inl ug))]) := hD
          have hP := hP.sub (ws' := [(qr, .inr (5, [.ref h0, .int (nI o)])), (h0, .inr (8, [.ref qb, .ref qu, .int uc, .int ln, .int (nI n), .int (nI u28), .int pl])), (qb, .inl (cB, 4096, .inl bf)), (qu, .inl (cI, 4096, .inl ug)), (sl, .inr (7, [.int 3, vn, .int hs, .int hp9, .long st, .long sp, .long 1, vf, vx]))]) [1, 2, 3, 4, 0] rfl
          have hD := hD.sub (ws' := [(qr, .inr (5, [.ref h0, .int (nI o)])), (h0, .inr (8, [.ref qb, .ref qu, .int uc, .int ln, .int (nI n), .int (nI u28), .int pl])), (qb, .inl (cB, 4096, .inl bf)), (qu, .inl (cI, 4096, .inl ug)), (sl, .inr (7, [.int 3, vn, .int hs, .int hp9, .long st, .long sp, .long 1, vf, vx]))]) [1, 2, 3, 4, 0] (by decide) rfl
          obtain ⟨ha28, hb28, hc28, hi28⟩ := hw
          have hi28 : iCv bf n p25 = some (u28, r28) := hi28
          have ha28 : p25 ≤ u28 := ha28
          have hb28 : u28 ≤ n := hb28
          have hc28 : wi53 r28 := hc28
          refine va_put (D := (dC, dI)) (ci := 7) (v := .long r28) (ty := .long) (C := R_Selector) (T := F_Selector) (N := 9) hx hb hts in_Selector t_Selector t_Selector_ok n_Selector hown hK hP hD hS 4 rfl rfl 6 (by decide) (hts _ z_624) (fun _ h9 => h9) rfl (by decide +kernel) rfl rfl (Nat.le_of_ble_eq_true rfl) d_QueryReader_slice_95 (fun H locs hP hD hS => ?_)
          have hP : va_P (dC, dI) classes ([(qr, .inr (5, [.ref h0, .int (nI o)])), (h0, .inr (8, [.ref qb, .ref qu, .int uc, .int ln, .int (nI n), .int (nI u28), .int pl])), (qb, .inl (cB, 4096, .inl bf)), (qu, .inl (cI, 4096, .inl ug)), (sl, .inr (7, [.int 3, vn, .int hs, .int hp9, .long st, .long sp, .long r28, vf, vx]))]) H := hP
          have hD : va_D A ([(qr, .inr (5, [.ref h0, .int (nI o)])), (h0, .inr (8, [.ref qb, .ref qu, .int uc, .int ln, .int (nI n), .int (nI u28), .int pl])), (qb, .inl (cB, 4096, .inl bf)), (qu, .inl (cI, 4096, .inl ug)), (sl, .inr (7, [.int 3, vn, .int hs, .int hp9, .long st, .long sp, .long r28, vf, vx]))]) := hD
          have hok : slV bf n i = some (u28, none, r28) := (slV_2 h_p21 hnc35).trans (mp_some (slV2_1 ht24 h_p25 hnc87 hi28))
          refine w_same (fun hq => ?_)
          refine W.widen (k := 1) (n := 6) (Nat.le_of_ble_eq_true rfl) (Nat.le_of_ble_eq_true rfl) ?_
          refine vx_ret ?_
          exact W.vret hx hb hr (fun t9 ht hW => ⟨⟨(u28, hp9, sp, r28), rfl, ⟨by show i < u28; omega, by show u28 ≤ n; omega, hc28, _, hok, fun h9 => if_pos h9⟩, ⟨by rw [ht]; exact hP, va_K.moved hW.alike hK, hD⟩, by rw [ht]; exact hq⟩, hS.F ht⟩) hS.2.2 d_QueryReader_slice_98
    · have hu24 : u24 = p21 := hu24
      subst hr24
      rw [hu24] at hP hD
      have hP : va_P (dC, dI) classes ([(qr, .inr (5, [.ref h0, .int (nI o)])), (h0, .inr (8, [.ref qb, .ref qu, .int uc, .int ln, .int (nI n), .int (nI p21), .int pl])), (qb, .inl (cB, 4096, .inl bf)), (qu, .inl (cI, 4096, .inl ug)), (sl, .inr (7, [.int 3, vn, .int hs, .int hp9, .long st, .long sp, .long 1, vf, vx]))]) H := hP
      have hD : va_D A ([(qr, .inr (5, [.ref h0, .int (nI o)])), (h0, .inr (8, [.ref qb, .ref qu, .int uc, .int ln, .int (nI n), .int (nI p21), .int pl])), (qb, .inl (cB, 4096, .inl bf)), (qu, .inl (cI, 4096, .inl ug)), (sl, .inr (7, [.int 3, vn, .int hs, .int hp9, .long st, .long sp, .long 1, vf, vx]))]) := hD
      refine lv_if_eq (tgt := 98) hx hb d_QueryReader_slice_67 (by decide) (fun _ => ?_) (fun h => absurd (by decide) h)
      have hok : slV bf n i = some (p21, none, 1) := (slV_2 h_p21 hnc35).trans (mp_some (slV2_e ht24))
      refine w_same (fun hq => ?_)
      refine W.widen (k := 1) (n := 6) (Nat.le_of_ble_eq_true rfl) (Nat.le_of_ble_eq_true rfl) ?_
      refine vx_ret ?_
      exact W.vret hx hb hr (fun t9 ht hW => ⟨⟨(p21, hp9, sp, 1), rfl, ⟨by show i < p21; omega, by show p21 ≤ n; omega, (show wi53 1 from ⟨by decide, by decide⟩), _, hok, fun h9 => if_pos h9⟩, ⟨by rw [ht]; exact hP, va_K.moved hW.alike hK, hD⟩, by rw [ht]; exact hq⟩, hS.F ht⟩) hS.2.2 d_QueryReader_slice_98
  · have hnc35 : numC (hereV bf n p21) := by rw [← h_h22]; exact h_r23.2.1 c35
    refine lv_aload_n hx hb d_QueryReader_slice_38 rfl (lv_at hl 1 rfl) ?_
    refine lv_aload_n hx hb d_QueryReader_slice_39 rfl (lv_at hl 0 rfl) ?_
    have hPc := hP.sub (ws' := [(qr, .inr (5, [.ref h0, .int (nI o)])), (h0, .inr (8, [.ref qb, .ref qu, .int uc, .int ln, .int (nI n), .int (nI p21), .int pl])), (qb, .inl (cB, 4096, .inl bf)), (qu, .inl (cI, 4096, .inl ug))]) [0, 1, 2, 3] rfl
    have hDc := hD.sub (ws' := [(qr, .inr (5, [.ref h0, .int (nI o)])), (h0, .inr (8, [.ref qb, .ref qu, .int uc, .int ln, .int (nI n), .int (nI p21), .int pl])), (qb, .inl (cB, 4096, .inl bf)), (qu, .inl (cI, 4096, .inl ug))]) [0, 1, 2, 3] (by decide) rfl
    have hFc := va_free (wc := [(qr, .inr (5, [.ref h0, .int (nI o)])), (h0, .inr (8, [.ref qb, .ref qu, .int uc, .int ln, .int (nI n), .int (nI p21), .int pl])), (qb, .inl (cB, 4096, .inl bf)), (qu, .inl (cI, 4096, .inl ug))]) hD hS hA [0, 1, 2, 3] rfl
    have hKc := hK.sub (tys' := [(cB, .byte), (cI, .int)]) [0, 1] rfl
    refine w_same (fun hq0 => ?_)
    refine vx_calll (vx_runV (As := []) (rest := [.ref sl]) ⟨hx, hb, hml, hown, hts⟩ (c_QueryReader_integer l hl9 dC dI H cB cI h0 qb qu uc ln pl bf ug n p21 hn0 (by omega) qr o) (cwV 0 hts (gt_V (own := R_QueryReader) (C := R_QueryReader) (i := 129) (y := y_QueryReader_integer) i_QueryReader_integer z_776 z_778 (gt_sel (y := y_QueryReader_integer) (n := 2) (by decide +kernel)) w_4) rfl rfl rfl (by decide +kernel) ⟨Nat.le_of_ble_eq_true rfl, Nat.le_of_ble_eq_true rfl⟩) ⟨mx_blind, va_recv hK hP (ci := 5) (q0 := 0) rfl rfl, fun U hU hW => ⟨rfl, ⟨hU, by rw [hU]; exact hPc, va_K.moved hW.alike hKc, hDc.weaken (fun _ _ _ _ => trivial)⟩, hN.warm hW, by rw [hU]; exact ZX.moved' hW.alike (ZX.narrow' (ZX.kept' hZ hS.2.1) hFc)⟩⟩ rfl rfl hl.1 rfl (lv_room (Nat.le_of_ble_eq_true rfl)) d_QueryReader_slice_40 ⟨Nat.le_of_ble_eq_true rfl, Nat.le_of_ble_eq_true rfl⟩) hS (fun q _ h => hFc q h) hFc (fun q _ h => hFc q h) (fun En ce q9 ⟨ax, cx, px, gx, ox⟩ t9 H1 locs ht hvm hw hB hz1 hk1 hS hce hcv hcl => ?_) (fun r29 u29 t9 H1 locs ht hvm hw hB hz1 hk1 hS => ?_)
    · obtain ⟨hEn, hP1, hK1, hD1⟩ := hB
      rw [ht] at hP1
      obtain ⟨hP, hD⟩ := va_join (wr := [(sl, .inr (7, [.int 3, vn, .int hs, .int hp9, .long st, .long sp, .long 1, vf, vx]))]) (w1 := [(qr, .inr (5, [.ref h0, .int ox])), (h0, .inr (8, [.ref qb, .ref qu, .int cx, .int ln, .int (nI n), .int ax, .int px])), (qb, .inl (cB, 4096, .inl bf)), (qu, .inl (cI, 4096, .inl gx))]) hP hD [0, 1, 2, 3] [4] rfl rfl (by decide) (by decide) hk1 hFc hP1 hD1
      generalize H1 = H at hP hS hce ⊢
      have hP : va_P (dC, dI) classes ([(sl, .inr (7, [.int 3, vn, .int hs, .int hp9, .long st, .long sp, .long 1, vf, vx])), (qr, .inr (5, [.ref h0, .int ox])), (h0, .inr (8, [.ref qb, .ref qu, .int cx, .int ln, .int (nI n), .int ax, .int px])), (qb, .inl (cB, 4096, .inl bf)), (qu, .inl (cI, 4096, .inl gx))]) H := hP
      have hD : va_D A ([(sl, .inr (7, [.int 3, vn, .int hs, .int hp9, .long st, .long sp, .long 1, vf, vx])), (qr, .inr (5, [.ref h0, .int ox])), (h0, .inr (8, [.ref qb, .ref qu, .int cx, .int ln, .int (nI n), .int ax, .int px])), (qb, .inl (cB, 4096, .inl bf)), (qu, .inl (cI, 4096, .inl gx))]) := hD
      have hP := hP.sub (ws' := [(qr, .inr (5, [.ref h0, .int ox])), (h0, .inr (8, [.ref qb, .ref qu, .int cx, .int ln, .int (nI n), .int ax, .int px])), (qb, .inl (cB, 4096, .inl bf)), (qu, .inl (cI, 4096, .inl gx)), (sl, .inr (7, [.int 3, vn, .int hs, .int hp9, .long st, .long sp, .long 1, vf, vx]))]) [1, 2, 3, 4, 0] rfl
      have hD := hD.sub (ws' := [(qr, .inr (5, [.ref h0, .int ox])), (h0, .inr (8, [.ref qb, .ref qu, .int cx, .int ln, .int (nI n), .int ax, .int px])), (qb, .inl (cB, 4096, .inl bf)), (qu, .inl (cI, 4096, .inl gx)), (sl, .inr (7, [.int 3, vn, .int hs, .int hp9, .long st, .long sp, .long 1, vf, vx]))]) [1, 2, 3, 4, 0] (by decide) rfl
      have hP := hP.sub (ws' := [(qr, .inr (5, [.ref h0, .int ox])), (h0, .inr (8, [.ref qb, .ref qu, .int cx, .int ln, .int (nI n), .int ax, .int px])), (qb, .inl (cB, 4096, .inl bf)), (qu, .inl (cI, 4096, .inl gx))]) [0, 1, 2, 3] rfl
      have hD := hD.sub (ws' := [(qr, .inr (5, [.ref h0, .int ox])), (h0, .inr (8, [.ref qb, .ref qu, .int cx, .int ln, .int (nI n), .int ax, .int px])), (qb, .inl (cB, 4096, .inl bf)), (qu, .inl (cI, 4096, .inl gx))]) [0, 1, 2, 3] (by decide) rfl
      have hno : slV bf n i = none := slV_0 h_p21 hnc35 hw
      exact vx_out (fun x hx => (hex x hx).elim) hlocks hce hcv hcl (fun t9 ht2 ha => ⟨(ax, cx, px, gx, ox), hno, ⟨hEn, by rw [ht2]; exact hP, va_K.moved ha hK, hD⟩, hS.F ht2⟩) hS.2.2 (Nat.le_of_ble_eq_true rfl) (Nat.le_of_ble_eq_true rfl)
    · obtain ⟨⟨hP1, hK1, hD1⟩, hz9⟩ := hB
      rw [ht] at hP1
      rw [ht] at hz9
      refine w_tight (hq0.trans hz9) ?_
      have hq0 := hq0.trans hz9
      obtain ⟨hP, hD⟩ := va_join (wr := [(sl, .inr (7, [.int 3, vn, .int hs, .int hp9, .long st, .long sp, .long 1, vf, vx]))]) (w1 := [(qr, .inr (5, [.ref h0, .int (nI o)])), (h0, .inr (8, [.ref qb, .ref qu, .int uc, .int ln, .int (nI n), .int (nI u29), .int pl])), (qb, .inl (cB, 4096, .inl bf)), (qu, .inl (cI, 4096, .inl ug))]) hP hD [0, 1, 2, 3] [4] rfl rfl (by decide) (by decide) hk1 hFc hP1 hD1
      generalize H1 = H at hP hS hq0 ⊢
      have hP : va_P (dC, dI) classes ([(sl, .inr (7, [.int 3, vn, .int hs, .int hp9, .long st, .long sp, .long 1, vf, vx])), (qr, .inr (5, [.ref h0, .int (nI o)])), (h0, .inr (8, [.ref qb, .ref qu, .int uc, .int ln, .int (nI n), .int (nI u29), .int pl])), (qb, .inl (cB, 4096, .inl bf)), (qu, .inl (cI, 4096, .inl ug))]) H := hP
      have hD : va_D A ([(sl, .inr (7, [.int 3, vn, .int hs, .int hp9, .long st, .long sp, .long 1, vf, vx])), (qr, .inr (5, [.ref h0, .int (nI o)])), (h0, .inr (8, [.ref qb, .ref qu, .int uc, .int ln, .int (nI n), .int (nI u29), .int pl])), (qb, .inl (cB, 4096, .inl bf)), (qu, .inl (cI, 4096, .inl ug))]) := hD
      have hP := hP.sub (ws' := [(qr, .inr (5, [.ref h0, .int (nI o)])), (h0, .inr (8, [.ref qb, .ref qu, .int uc, .int ln, .int (nI n), .int (nI u29), .int pl])), (qb, .inl (cB, 4096, .inl bf)), (qu, .inl (cI, 4096, .inl ug)), (sl, .inr (7, [.int 3, vn, .int hs, .int hp9, .long st, .long sp, .long 1, vf, vx]))]) [1, 2, 3, 4, 0] rfl
      have hD := hD.sub (ws' := [(qr, .inr (5, [.ref h0, .int (nI o)])), (h0, .inr (8, [.ref qb, .ref qu, .int uc, .int ln, .int (nI n), .int (nI u29), .int pl])), (qb, .inl (cB, 4096, .inl bf)), (qu, .inl (cI, 4096, .inl ug)), (sl, .inr (7, [.int 3, vn, .int hs, .int hp9, .long st, .long sp, .long 1, vf, vx]))]) [1, 2, 3, 4, 0] (by decide) rfl
      obtain ⟨ha29, hb29, hc29, hi29⟩ := hw
      have hi29 : iCv bf n p21 = some (u29, r29) := hi29
      have ha29 : p21 ≤ u29 := ha29
      have hb29 : u29 ≤ n := hb29
      have hc29 : wi53 r29 := hc29
      refine va_put (D := (dC, dI)) (ci := 7) (v := .long r29) (ty := .long) (C := R_Selector) (T := F_Selector) (N := 9) hx hb hts in_Selector t_Selector t_Selector_ok n_Selector hown hK hP hD hS 4 rfl rfl 5 (by decide) (hts _ z_621) (fun _ h9 => h9) rfl (by decide +kernel) rfl rfl (Nat.le_of_ble_eq_true rfl) d_QueryReader_slice_43 (fun H locs hP hD hS => ?_)
      have hP : va_P (dC, dI) classes ([(qr, .inr (5, [.ref h0, .int (nI o)])), (h0, .inr (8, [.ref qb, .ref qu, .int uc, .int ln, .int (nI n), .int (nI u29), .int pl])), (qb, .inl (cB, 4096, .inl bf)), (qu, .inl (cI, 4096, .inl ug)), (sl, .inr (7, [.int 3, vn, .int hs, .int hp9, .long st, .long r29, .long 1, vf, vx]))]) H := hP
      have hD : va_D A ([(qr, .inr (5, [.ref h0, .int (nI o)])), (h0, .inr (8, [.ref qb, .ref qu, .int uc, .int ln, .int (nI n), .int (nI u29), .int pl])), (qb, .inl (cB, 4096, .inl bf)), (qu, .inl (cI, 4096, .inl ug)), (sl, .inr (7, [.int 3, vn, .int hs, .int hp9, .long st, .long r29, .long 1, vf, vx]))]) := hD
      refine lv_aload_n hx hb d_QueryReader_slice_46 rfl (lv_at hl 1 rfl) ?_
      refine lv_iconst (v := 1) hx hb d_QueryReader_slice_47 (by decide) ?_
      refine va_put (D := (dC, dI)) (ci := 7) (v := .int 1) (ty := .boolean) (C := R_Selector) (T := F_Selector) (N := 9) hx hb hts in_Selector t_Selector t_Selector_ok n_Selector hown hK hP hD hS 4 rfl rfl 3 (by decide) (hts _ z_617) (fun _ h9 => h9) rfl (by decide +kernel) rfl rfl (Nat.le_of_ble_eq_true rfl) d_QueryReader_slice_48 (fun H locs hP hD hS => ?_)
      have hP : va_P (dC, dI) classes ([(qr, .inr (5, [.ref h0, .int (nI o)])), (h0, .inr (8, [.ref qb, .ref qu, .int uc, .int ln, .int (nI n), .int (nI u29), .int pl])), (qb, .inl (cB, 4096, .inl bf)), (qu, .inl (cI, 4096, .inl ug)), (sl, .inr (7, [.int 3, vn, .int hs, .int 1, .long st, .long r29, .long 1, vf, vx]))]) H := hP
      have hD : va_D A ([(qr, .inr (5, [.ref h0, .int (nI o)])), (h0, .inr (8, [.ref qb, .ref qu, .int uc, .int ln, .int (nI n), .int (nI u29), .int pl])), (qb, .inl (cB, 4096, .inl bf)), (qu, .inl (cI, 4096, .inl ug)), (sl, .inr (7, [.int 3, vn, .int hs, .int 1, .long st, .long r29, .long 1, vf, vx]))]) := hD
      refine lv_aload_n hx hb d_QueryReader_slice_51 rfl (lv_at hl 0 rfl) ?_
      refine va_get (D := (dC, dI)) (ci := 5) (v := .ref h0) (C := R_QueryReader) (T := F_QueryReader) (N := 2) hx hb hts in_QueryReader hown hK hP 0 rfl rfl 0 (by decide) (hts _ w_100) (fun _ h9 => h9) rfl d_QueryReader_slice_52 ?_
      have hPc := hP.sub (ws' := [(h0, .inr (8, [.ref qb, .ref qu, .int uc, .int ln, .int (nI n), .int (nI u29), .int pl])), (qb, .inl (cB, 4096, .inl bf))]) [1, 2] rfl
      have hDc := hD.sub (ws' := [(h0, .inr (8, [.ref qb, .ref qu, .int uc, .int ln, .int (nI n), .int (nI u29), .int pl])), (qb, .inl (cB, 4096, .inl bf))]) [1, 2] (by decide) rfl
      have hFc := va_free (wc := [(h0, .inr (8, [.ref qb, .ref qu, .int uc, .int ln, .int (nI n), .int (nI u29), .int pl])), (qb, .inl (cB, 4096, .inl bf))]) hD hS hA [1, 2] rfl
      have hKc := hK.sub (tys' := [(cB, .byte)]) [0] rfl
      refine va_callv (va_runV (As := []) (rest := []) ⟨hx, hb, hml, hown, hts⟩ (c_Tape_skipBlanks l dC dI cB h0 qb H (.ref qu) uc ln pl bf n u29 hn0 (by omega)) (cwV 0 hts (gt_V (own := R_QueryReader) (C := R_Tape) (i := 39) (y := y_Tape_skipBlanks) i_Tape_skipBlanks z_563 z_299 z_300 w_2) rfl rfl rfl (by decide +kernel) ⟨Nat.le_of_ble_eq_true rfl, Nat.le_of_ble_eq_true rfl⟩) ⟨mp_blind, va_recv hK hP (ci := 8) (q0 := 1) rfl rfl, fun U hU hW => ⟨rfl, hU, by rw [hU]; exact hPc, va_K.moved hW.alike hKc, hDc.weaken (fun _ _ _ _ => trivial)⟩⟩ rfl rfl hl.1 rfl (lv_room (Nat.le_of_ble_eq_true rfl)) d_QueryReader_slice_55 ⟨Nat.le_of_ble_eq_true rfl, Nat.le_of_ble_eq_true rfl⟩) hS (fun q _ h => hFc q h) hFc (fun _u t9 H1 locs ht hvm hw hB hz1 hk1 hS => ?_)
      obtain ⟨hP1, hK1, hD1⟩ := hB
      rw [ht] at hP1
      obtain ⟨hP, hD⟩ := va_join (wr := [(qr, .inr (5, [.ref h0, .int (nI o)])), (qu, .inl (cI, 4096, .inl ug)), (sl, .inr (7, [.int 3, vn, .int hs, .int 1, .long st, .long r29, .long 1, vf, vx]))]) (w1 := [(h0, .inr (8, [.ref qb, .ref qu, .int uc, .int ln, .int (nI n), .int (nI (skipB bf n u29)), .int pl])), (qb, .inl (cB, 4096, .inl bf))]) hP hD [1, 2] [0, 3, 4] rfl rfl (by decide) (by decide) hk1 hFc hP1 hD1
      generalize H1 = H at hP hS ⊢
      have hP : va_P (dC, dI) classes ([(qr, .inr (5, [.ref h0, .int (nI o)])), (qu, .inl (cI, 4096, .inl ug)), (sl, .inr (7, [.int 3, vn, .int hs, .int 1, .long st, .long r29, .long 1, vf, vx])), (h0, .inr (8, [.ref qb, .ref qu, .int uc, .int ln, .int (nI n), .int (nI (skipB bf n u29)), .int pl])), (qb, .inl (cB, 4096, .inl bf))]) H := hP
      have hD : va_D A ([(qr, .inr (5, [.ref h0, .int (nI o)])), (qu, .inl (cI, 4096, .inl ug)), (sl, .inr (7, [.int 3, vn, .int hs, .int 1, .long st, .long r29, .long 1, vf, vx])), (h0, .inr (8, [.ref qb, .ref qu, .int uc, .int ln, .int (nI n), .int (nI (skipB bf n u29)), .int pl])), (qb, .inl (cB, 4096, .inl bf))]) := hD
      have hP := hP.sub (ws' := [(qr, .inr (5, [.ref h0, .int (nI o)])), (h0, .inr (8, [.ref qb, .ref qu, .int uc, .int ln, .int (nI n), .int (nI (skipB bf n u29)), .int pl])), (qb, .inl (cB, 4096, .inl bf)), (qu, .inl (cI, 4096, .inl ug)), (sl, .inr (7, [.int 3, vn, .int hs, .int 1, .long st, .long r29, .long 1, vf, vx]))]) [0, 3, 4, 1, 2] rfl
      have hD := hD.sub (ws' := [(qr, .inr (5, [.ref h0, .int (nI o)])), (h0, .inr (8, [.ref qb, .ref qu, .int uc, .int ln, .int (nI n), .int (nI (skipB bf n u29)), .int pl])), (qb, .inl (cB, 4096, .inl bf)), (qu, .inl (cI, 4096, .inl ug)), (sl, .inr (7, [.int 3, vn, .int hs, .int 1, .long st, .long r29, .long 1, vf, vx]))]) [0, 3, 4, 1, 2] (by decide) rfl
      obtain ⟨p30, h_p30⟩ : ∃ z, z = skipB bf n u29 := ⟨_, rfl⟩
      have hb_p30 := skip_b (f := bf) (show u29 ≤ n by omega)
      rw [← h_p30] at hP hD hb_p30
      have hP : va_P (dC, dI) classes ([(qr, .inr (5, [.ref h0, .int (nI o)])), (h0, .inr (8, [.ref qb, .ref qu, .int uc, .int ln, .int (nI n), .int (nI p30), .int pl])), (qb, .inl (cB, 4096, .inl bf)), (qu, .inl (cI, 4096, .inl ug)), (sl, .inr (7, [.int 3, vn, .int hs, .int 1, .long st, .long r29, .long 1, vf, vx]))]) H := hP
      have hD : va_D A ([(qr, .inr (5, [.ref h0, .int (nI o)])), (h0, .inr (8, [.ref qb, .ref qu, .int uc, .int ln, .int (nI n), .int (nI p30), .int pl])), (qb, .inl (cB, 4096, .inl bf)), (qu, .inl (cI, 4096, .inl ug)), (sl, .inr (7, [.int 3, vn, .int hs, .int 1, .long st, .long r29, .long 1, vf, vx]))]) := hD
      refine lv_aload_n hx hb d_QueryReader_slice_58 rfl (lv_at hl 0 rfl) ?_
      refine va_get (D := (dC, dI)) (ci := 5) (v := .ref h0) (C := R_QueryReader) (T := F_QueryReader) (N := 2) hx hb hts in_QueryReader hown hK hP 0 rfl rfl 0 (by decide) (hts _ w_100) (fun _ h9 => h9) rfl d_QueryReader_slice_59 ?_
      refine lv_bipush (v := 58) hx hb d_QueryReader_slice_62 (by decide) ?_
      have hPc := hP.sub (ws' := [(h0, .inr (8, [.ref qb, .ref qu, .int uc, .int ln, .int (nI n), .int (nI p30), .int pl])), (qb, .inl (cB, 4096, .inl bf))]) [1, 2] rfl
      have hDc := hD.sub (ws' := [(h0, .inr (8, [.ref qb, .ref qu, .int uc, .int ln, .int (nI n), .int (nI p30), .int pl])), (qb, .inl (cB, 4096, .inl bf))]) [1, 2] (by decide) rfl
      have hFc := va_free (wc := [(h0, .inr (8, [.ref qb, .ref qu, .int uc, .int ln, .int (nI n), .int (nI p30), .int pl])), (qb, .inl (cB, 4096, .inl bf))]) hD hS hA [1, 2] rfl
      have hKc := hK.sub (tys' := [(cB, .byte)]) [0] rfl
      refine va_calli (va_runV (As := [.int 58]) (rest := []) ⟨hx, hb, hml, hown, hts⟩ (c_Tape_takeIf l dC dI cB h0 qb H (.ref qu) uc ln pl bf n p30 58 hn0 (by omega)) (cwV 1 hts (gt_V (own := R_QueryReader) (C := R_Tape) (i := 58) (y := y_Tape_takeIf) i_Tape_takeIf z_589 z_393 z_394 w_2) rfl rfl rfl (by decide +kernel) ⟨Nat.le_of_ble_eq_true rfl, Nat.le_of_ble_eq_true rfl⟩) ⟨mp_blind, va_recv hK hP (ci := 8) (q0 := 1) rfl rfl, fun U hU hW => ⟨rfl, hU, by rw [hU]; exact hPc, va_K.moved hW.alike hKc, hDc.weaken (fun _ _ _ _ => trivial)⟩⟩ rfl rfl hl.1 rfl (lv_room (Nat.le_of_ble_eq_true rfl)) d_QueryReader_slice_64 ⟨Nat.le_of_ble_eq_true rfl, Nat.le_of_ble_eq_true rfl⟩) hS (fun q _ h => hFc q h) hFc (fun r31 u31 t9 H1 locs ht hvm hw hB hz1 hk1 hS => ?_)
      obtain ⟨hP1, hK1, hD1⟩ := hB
      rw [ht] at hP1
      obtain ⟨hP, hD⟩ := va_join (wr := [(qr, .inr (5, [.ref h0, .int (nI o)])), (qu, .inl (cI, 4096, .inl ug)), (sl, .inr (7, [.int 3, vn, .int hs, .int 1, .long st, .long r29, .long 1, vf, vx]))]) (w1 := [(h0, .inr (8, [.ref qb, .ref qu, .int uc, .int ln, .int (nI n), .int (nI u31), .int pl])), (qb, .inl (cB, 4096, .inl bf))]) hP hD [1, 2] [0, 3, 4] rfl rfl (by decide) (by decide) hk1 hFc hP1 hD1
      generalize H1 = H at hP hS ⊢
      have hP : va_P (dC, dI) classes ([(qr, .inr (5, [.ref h0, .int (nI o)])), (qu, .inl (cI, 4096, .inl ug)), (sl, .inr (7, [.int 3, vn, .int hs, .int 1, .long st, .long r29, .long 1, vf, vx])), (h0, .inr (8, [.ref qb, .ref qu, .int uc, .int ln, .int (nI n), .int (nI u31), .int pl])), (qb, .inl (cB, 4096, .inl bf))]) H := hP
      have hD : va_D A ([(qr, .inr (5, [.ref h0, .int (nI o)])), (qu, .inl (cI, 4096, .inl ug)), (sl, .inr (7, [.int 3, vn, .int hs, .int 1, .long st, .long r29, .long 1, vf, vx])), (h0, .inr (8, [.ref qb, .ref qu, .int uc, .int ln, .int (nI n), .int (nI u31), .int pl])), (qb, .inl (cB, 4096, .inl bf))]) := hD
      have hP := hP.sub (ws' := [(qr, .inr (5, [.ref h0, .int (nI o)])), (h0, .inr (8, [.ref qb, .ref qu, .int uc, .int ln, .int (nI n), .int (nI u31), .int pl])), (qb, .inl (cB, 4096, .inl bf)), (qu, .inl (cI, 4096, .inl ug)), (sl, .inr (7, [.int 3, vn, .int hs, .int 1, .long st, .long r29, .long 1, vf, vx]))]) [0, 3, 4, 1, 2] rfl
      have hD := hD.sub (ws' := [(qr, .inr (5, [.ref h0, .int (nI o)])), (h0, .inr (8, [.ref qb, .ref qu, .int uc, .int ln, .int (nI n), .int (nI u31), .int pl])), (qb, .inl (cB, 4096, .inl bf)), (qu, .inl (cI, 4096, .inl ug)), (sl, .inr (7, [.int 3, vn, .int hs, .int 1, .long st, .long r29, .long 1, vf, vx]))]) [0, 3, 4, 1, 2] (by decide) rfl
      rcases hw with ⟨ht31, hr31, hu31⟩ | ⟨ht31, hr31, hu31⟩
      · have hu31 : u31 = p30 + 1 := hu31
        subst hr31
        rw [hu31] at hP hD
        have hl31 := here_lc ht31 (by decide)
        have hP : va_P (dC, dI) classes ([(qr, .inr (5, [.ref h0, .int (nI o)])), (h0, .inr (8, [.ref qb, .ref qu, .int uc, .int ln, .int (nI n), .int (nI (p30 + 1)), .int pl])), (qb, .inl (cB, 4096, .inl bf)), (qu, .inl (cI, 4096, .inl ug)), (sl, .inr (7, [.int 3, vn, .int hs, .int 1, .long st, .long r29, .long 1, vf, vx]))]) H := hP
        have hD : va_D A ([(qr, .inr (5, [.ref h0, .int (nI o)])), (h0, .inr (8, [.ref qb, .ref qu, .int uc, .int ln, .int (nI n), .int (nI (p30 + 1)), .int pl])), (qb, .inl (cB, 4096, .inl bf)), (qu, .inl (cI, 4096, .inl ug)), (sl, .inr (7, [.int 3, vn, .int hs, .int 1, .long st, .long r29, .long 1, vf, vx]))]) := hD
        refine lv_if_eq (tgt := 98) hx hb d_QueryReader_slice_67 (by decide) (fun h => absurd h (by decide)) (fun _ => ?_)
        refine lv_aload_n hx hb d_QueryReader_slice_70 rfl (lv_at hl 0 rfl) ?_
        refine va_get (D := (dC, dI)) (ci := 5) (v := .ref h0) (C := R_QueryReader) (T := F_QueryReader) (N := 2) hx hb hts in_QueryReader hown hK hP 0 rfl rfl 0 (by decide) (hts _ w_100) (fun _ h9 => h9) rfl d_QueryReader_slice_71 ?_
        have hPc := hP.sub (ws' := [(h0, .inr (8, [.ref qb, .ref qu, .int uc, .int ln, .int (nI n), .int (nI (p30 + 1)), .int pl])), (qb, .inl (cB, 4096, .inl bf))]) [1, 2] rfl
        have hDc := hD.sub (ws' := [(h0, .inr (8, [.ref qb, .ref qu, .int uc, .int ln, .int (nI n), .int (nI (p30 + 1)), .int pl])), (qb, .inl (cB, 4096, .inl bf))]) [1, 2] (by decide) rfl
        have hFc := va_free (wc := [(h0, .inr (8, [.ref qb, .ref qu, .int uc, .int ln, .int (nI n), .int (nI (p30 + 1)), .int pl])), (qb, .inl (cB, 4096, .inl bf))]) hD hS hA [1, 2] rfl
        have hKc := hK.sub (tys' := [(cB, .byte)]) [0] rfl
        refine va_callv (va_runV (As := []) (rest := []) ⟨hx, hb, hml, hown, hts⟩ (c_Tape_skipBlanks l dC dI cB h0 qb H (.ref qu) uc ln pl bf n ((p30 + 1)) hn0 (by omega)) (cwV 0 hts (gt_V (own := R_QueryReader) (C := R_Tape) (i := 39) (y := y_Tape_skipBlanks) i_Tape_skipBlanks z_563 z_299 z_300 w_2) rfl rfl rfl (by decide +kernel) ⟨Nat.le_of_ble_eq_true rfl, Nat.le_of_ble_eq_true rfl⟩) ⟨mp_blind, va_recv hK hP (ci := 8) (q0 := 1) rfl rfl, fun U hU hW => ⟨rfl, hU, by rw [hU]; exact hPc, va_K.moved hW.alike hKc, hDc.weaken (fun _ _ _ _ => trivial)⟩⟩ rfl rfl hl.1 rfl (lv_room (Nat.le_of_ble_eq_true rfl)) d_QueryReader_slice_74 ⟨Nat.le_of_ble_eq_true rfl, Nat.le_of_ble_eq_true rfl⟩) hS (fun q _ h => hFc q h) hFc (fun _u t9 H1 locs ht hvm hw hB hz1 hk1 hS => ?_)
        obtain ⟨hP1, hK1, hD1⟩ := hB
        rw [ht] at hP1
        obtain ⟨hP, hD⟩ := va_join (wr := [(qr, .inr (5, [.ref h0, .int (nI o)])), (qu, .inl (cI, 4096, .inl ug)), (sl, .inr (7, [.int 3, vn, .int hs, .int 1, .long st, .long r29, .long 1, vf, vx]))]) (w1 := [(h0, .inr (8, [.ref qb, .ref qu, .int uc, .int ln, .int (nI n), .int (nI (skipB bf n ((p30 + 1)))), .int pl])), (qb, .inl (cB, 4096, .inl bf))]) hP hD [1, 2] [0, 3, 4] rfl rfl (by decide) (by decide) hk1 hFc hP1 hD1
        generalize H1 = H at hP hS ⊢
        have hP : va_P (dC, dI) classes ([(qr, .inr (5, [.ref h0, .int (nI o)])), (qu, .inl (cI, 4096, .inl ug)), (sl, .inr (7, [.int 3, vn, .int hs, .int 1, .long st, .long r29, .long 1, vf, vx])), (h0, .inr (8, [.ref qb, .ref qu, .int uc, .int ln, .int (nI n), .int (nI (skipB bf n ((p30 + 1)))), .int pl])), (qb, .inl (cB, 4096, .inl bf))]) H := hP
        have hD : va_D A ([(qr, .inr (5, [.ref h0, .int (nI o)])), (qu, .inl (cI, 4096, .inl ug)), (sl, .inr (7, [.int 3, vn, .int hs, .int 1, .long st, .long r29, .long 1, vf, vx])), (h0, .inr (8, [.ref qb, .ref qu, .int uc, .int ln, .int (nI n), .int (nI (skipB bf n ((p30 + 1)))), .int pl])), (qb, .inl (cB, 4096, .inl bf))]) := hD
        have hP := hP.sub (ws' := [(qr, .inr (5, [.ref h0, .int (nI o)])), (h0, .inr (8, [.ref qb, .ref qu, .int uc, .int ln, .int (nI n), .int (nI (skipB bf n ((p30 + 1)))), .int pl])), (qb, .inl (cB, 4096, .inl bf)), (qu, .inl (cI, 4096, .inl ug)), (sl, .inr (7, [.int 3, vn, .int hs, .int 1, .long st, .long r29, .long 1, vf, vx]))]) [0, 3, 4, 1, 2] rfl
        have hD := hD.sub (ws' := [(qr, .inr (5, [.ref h0, .int (nI o)])), (h0, .inr (8, [.ref qb, .ref qu, .int uc, .int ln, .int (nI n), .int (nI (skipB bf n ((p30 + 1)))), .int pl])), (qb, .inl (cB, 4096, .inl bf)), (qu, .inl (cI, 4096, .inl ug)), (sl, .inr (7, [.int 3, vn, .int hs, .int 1, .long st, .long r29, .long 1, vf, vx]))]) [0, 3, 4, 1, 2] (by decide) rfl
        obtain ⟨p32, h_p32⟩ : ∃ z, z = skipB bf n ((p30 + 1)) := ⟨_, rfl⟩
        have hb_p32 := skip_b (f := bf) (show ((p30 + 1)) ≤ n by omega)
        rw [← h_p32] at hP hD hb_p32
        have hP : va_P (dC, dI) classes ([(qr, .inr (5, [.ref h0, .int (nI o)])), (h0, .inr (8, [.ref qb, .ref qu, .int uc, .int ln, .int (nI n), .int (nI p32), .int pl])), (qb, .inl (cB, 4096, .inl bf)), (qu, .inl (cI, 4096, .inl ug)), (sl, .inr (7, [.int 3, vn, .int hs, .int 1, .long st, .long r29, .long 1, vf, vx]))]) H := hP
        have hD : va_D A ([(qr, .inr (5, [.ref h0, .int (nI o)])), (h0, .inr (8, [.ref qb, .ref qu, .int uc, .int ln, .int (nI n), .int (nI p32), .int pl])), (qb, .inl (cB, 4096, .inl bf)), (qu, .inl (cI, 4096, .inl ug)), (sl, .inr (7, [.int 3, vn, .int hs, .int 1, .long st, .long r29, .long 1, vf, vx]))]) := hD
        refine lv_aload_n hx hb d_QueryReader_slice_77 rfl (lv_at hl 0 rfl) ?_
        refine va_get (D := (dC, dI)) (ci := 5) (v := .ref h0) (C := R_QueryReader) (T := F_QueryReader) (N := 2) hx hb hts in_QueryReader hown hK hP 0 rfl rfl 0 (by decide) (hts _ w_100) (fun _ h9 => h9) rfl d_QueryReader_slice_78 ?_
        have hPc := hP.sub (ws' := [(h0, .inr (8, [.ref qb, .ref qu, .int uc, .int ln, .int (nI n), .int (nI p32), .int pl])), (qb, .inl (cB, 4096, .inl bf))]) [1, 2] rfl
        have hDc := hD.sub (ws' := [(h0, .inr (8, [.ref qb, .ref qu, .int uc, .int ln, .int (nI n), .int (nI p32), .int pl])), (qb, .inl (cB, 4096, .inl bf))]) [1, 2] (by decide) rfl
        have hFc := va_free (wc := [(h0, .inr (8, [.ref qb, .ref qu, .int uc, .int ln, .int (nI n), .int (nI p32), .int pl])), (qb, .inl (cB, 4096, .inl bf))]) hD hS hA [1, 2] rfl
        have hKc := hK.sub (tys' := [(cB, .byte)]) [0] rfl
        refine va_calli (va_runV (As := []) (rest := []) ⟨hx, hb, hml, hown, hts⟩ (c_Tape_here l dC dI cB h0 qb H (.ref qu) uc ln pl bf n p32 hn0 (by omega)) (cwV 0 hts (gt_V (own := R_QueryReader) (C := R_Tape) (i := 19) (y := y_Tape_here) i_Tape_here z_534 w_363 w_364 w_2) rfl rfl rfl (by decide +kernel) ⟨Nat.le_of_ble_eq_true rfl, Nat.le_of_ble_eq_true rfl⟩) ⟨mp_blind, va_recv hK hP (ci := 8) (q0 := 1) rfl rfl, fun U hU hW => ⟨rfl, hU, by rw [hU]; exact hPc, va_K.moved hW.alike hKc, hDc.weaken (fun _ _ _ _ => trivial)⟩⟩ rfl rfl hl.1 rfl (lv_room (Nat.le_of_ble_eq_true rfl)) d_QueryReader_slice_81 ⟨Nat.le_of_ble_eq_true rfl, Nat.le_of_ble_eq_true rfl⟩) hS (fun q _ h => hFc q h) hFc (fun h33 _u t9 H1 locs ht hvm hw hB hz1 hk1 hS => ?_)
        obtain ⟨hP1, hK1, hD1⟩ := hB
        rw [ht] at hP1
        obtain ⟨hP, hD⟩ := va_join (wr := [(qr, .inr (5, [.ref h0, .int (nI o)])), (qu, .inl (cI, 4096, .inl ug)), (sl, .inr (7, [.int 3, vn, .int hs, .int 1, .long st, .long r29, .long 1, vf, vx]))]) (w1 := [(h0, .inr (8, [.ref qb, .ref qu, .int uc, .int ln, .int (nI n), .int (nI p32), .int pl])), (qb, .inl (cB, 4096, .inl bf))]) hP hD [1, 2] [0, 3, 4] rfl rfl (by decide) (by decide) hk1 hFc hP1 hD1
        generalize H1 = H at hP hS ⊢
        have hP : va_P (dC, dI) classes ([(qr, .inr (5, [.ref h0, .int (nI o)])), (qu, .inl (cI, 4096, .inl ug)), (sl, .inr (7, [.int 3, vn, .int hs, .int 1, .long st, .long r29, .long 1, vf, vx])), (h0, .inr (8, [.ref qb, .ref qu, .int uc, .int ln, .int (nI n), .int (nI p32), .int pl])), (qb, .inl (cB, 4096, .inl bf))]) H := hP
        have hD : va_D A ([(qr, .inr (5, [.ref h0, .int (nI o)])), (qu, .inl (cI, 4096, .inl ug)), (sl, .inr (7, [.int 3, vn, .int hs, .int 1, .long st, .long r29, .long 1, vf, vx])), (h0, .inr (8, [.ref qb, .ref qu, .int uc, .int ln, .int (nI n), .int (nI p32), .int pl])), (qb, .inl (cB, 4096, .inl bf))]) := hD
        have hP := hP.sub (ws' := [(qr, .inr (5, [.ref h0, .int (nI o)])), (h0, .inr (8, [.ref qb, .ref qu, .int uc, .int ln, .int (nI n), .int (nI p32), .int pl])), (qb, .inl (cB, 4096, .inl bf)), (qu, .inl (cI, 4096, .inl ug)), (sl, .inr (7, [.int 3, vn, .int hs, .int 1, .long st, .long r29, .long 1, vf, vx]))]) [0, 3, 4, 1, 2] rfl
        have hD := hD.sub (ws' := [(qr, .inr (5, [.ref h0, .int (nI o)])), (h0, .inr (8, [.ref qb, .ref qu, .int uc, .int ln, .int (nI n), .int (nI p32), .int pl])), (qb, .inl (cB, 4096, .inl bf)), (qu, .inl (cI, 4096, .inl ug)), (sl, .inr (7, [.int 3, vn, .int hs, .int 1, .long st, .long r29, .long 1, vf, vx]))]) [0, 3, 4, 1, 2] (by decide) rfl
        have h_h33 : h33 = hereV bf n p32 := hw
        refine vp_callSi (va_Run.run (va_runS (As := [.int h33]) (rest := []) ⟨hx, hb, hml, hown, hts⟩ (c_QueryReader_beginsInteger l dC dI H h33) (va_cwS 1 hts (gt_S (own := R_QueryReader) (i := 140) (y := y_QueryReader_beginsInteger) i_QueryReader_beginsInteger z_786 z_787 w_4) rfl rfl rfl (by decide +kernel) ⟨Nat.le_of_ble_eq_true rfl, Nat.le_of_ble_eq_true rfl⟩) ⟨mT_blind, fun U hU hW => ⟨rfl, hN.warm hW⟩⟩ rfl rfl hl.1 rfl (lv_room (Nat.le_of_ble_eq_true rfl)) d_QueryReader_slice_84 ⟨Nat.le_of_ble_eq_true rfl, Nat.le_of_ble_eq_true rfl⟩)) (fun r34 h_r34 => ?_)
        refine lv_if_eq (tgt := 98) hx hb d_QueryReader_slice_87 (by decide) (fun c87 => ?_) (fun c87 => ?_)
        · have hnc87 : ¬ numC (hereV bf n p32) := by rw [← h_h33]; exact h_r34.2.2 c87
          have hok : slV bf n i = some (p32, some r29, 1) := (slV_1 h_p21 hnc35 hi29 h_p30).trans (mp_some (slV2_2 ht31 h_p32 hnc87))
          refine w_same (fun hq => ?_)
          refine W.widen (k := 1) (n := 6) (Nat.le_of_ble_eq_true rfl) (Nat.le_of_ble_eq_true rfl) ?_
          refine vx_ret ?_
          exact W.vret hx hb hr (fun t9 ht hW => ⟨⟨(p32, 1, r29, 1), rfl, ⟨by show i < p32; omega, by show p32 ≤ n; omega, (show wi53 1 from ⟨by decide, by decide⟩), _, hok, fun _ => if_neg (show ¬ (1 : Int32) = 0 by decide)⟩, ⟨by rw [ht]; exact hP, va_K.moved hW.alike hK, hD⟩, by rw [ht]; exact hq⟩, hS.F ht⟩) hS.2.2 d_QueryReader_slice_98
        · have hnc87 : numC (hereV bf n p32) := by rw [← h_h33]; exact h_r34.2.1 c87
          refine lv_aload_n hx hb d_QueryReader_slice_90 rfl (lv_at hl 1 rfl) ?_
          refine lv_aload_n hx hb d_QueryReader_slice_91 rfl (lv_at hl 0 rfl) ?_
          have hPc := hP.sub (ws' := [(qr, .inr (5, [.ref h0, .int (nI o)])), (h0, .inr (8, [.ref qb, .ref qu, .int uc, .int ln, .int (nI n), .int (nI p32), .int pl])), (qb, .inl (cB, 4096, .inl bf)), (qu, .inl (cI, 4096, .inl ug))]) [0, 1, 2, 3] rfl
          have hDc := hD.sub (ws' := [(qr, .inr (5, [.ref h0, .int (nI o)])), (h0, .inr (8, [.ref qb, .ref qu, .int uc, .int ln, .int (nI n), .int (nI p32), .int pl])), (qb, .inl (cB, 4096, .inl bf)), (qu, .inl (cI, 4096, .inl ug))]) [0, 1, 2, 3] (by decide) rfl
          have hFc := va_free (wc := [(qr, .inr (5, [.ref h0, .int (nI o)])), (h0, .inr (8, [.ref qb, .ref qu, .int uc, .int ln, .int (nI n), .int (nI p32), .int pl])), (qb, .inl (cB, 4096, .inl bf)), (qu, .inl (cI, 4096, .inl ug))]) hD hS hA [0, 1, 2, 3] rfl
          have hKc := hK.sub (tys' := [(cB, .byte), (cI, .int)]) [0, 1] rfl
          refine w_same (fun hq0 => ?_)
          refine vx_calll (vx_runV (As := []) (rest := [.ref sl]) ⟨hx, hb, hml, hown, hts⟩ (c_QueryReader_integer l hl9 dC dI H cB cI h0 qb qu uc ln pl bf ug n p32 hn0 (by omega) qr o) (cwV 0 hts (gt_V (own := R_QueryReader) (C := R_QueryReader) (i := 129) (y := y_QueryReader_integer) i_QueryReader_integer z_776 z_778 (gt_sel (y := y_QueryReader_integer) (n := 2) (by decide +kernel)) w_4) rfl rfl rfl (by decide +kernel) ⟨Nat.le_of_ble_eq_true rfl, Nat.le_of_ble_eq_true rfl⟩) ⟨mx_blind, va_recv hK hP (ci := 5) (q0 := 0) rfl rfl, fun U hU hW => ⟨rfl, ⟨hU, by rw [hU]; exact hPc, va_K.moved hW.alike hKc, hDc.weaken (fun _ _ _ _ => trivial)⟩, hN.warm hW, by rw [hU]; exact ZX.moved' hW.alike (ZX.narrow' (ZX.kept' hZ hS.2.1) hFc)⟩⟩ rfl rfl hl.1 rfl (lv_room (Nat.le_of_ble_eq_true rfl)) d_QueryReader_slice_92 ⟨Nat.le_of_ble_eq_true rfl, Nat.le_of_ble_eq_true rfl⟩) hS (fun q _ h => hFc q h) hFc (fun q _ h => hFc q h) (fun En ce q9 ⟨ax, cx, px, gx, ox⟩ t9 H1 locs ht hvm hw hB hz1 hk1 hS hce hcv hcl => ?_) (fun r35 u35 t9 H1 locs ht hvm hw hB hz1 hk1 hS => ?_)
          · obtain ⟨hEn, hP1, hK1, hD1⟩ := hB
            rw [ht] at hP1
            obtain ⟨hP, hD⟩ := va_join (wr := [(sl, .inr (7, [.int 3, vn, .int hs, .int 1, .long st, .long r29, .long 1, vf, vx]))]) (w1 := [(qr, .inr (5, [.ref h0, .int ox])), (h0, .inr (8, [.ref qb, .ref qu, .int cx, .int ln, .int (nI n), .int ax, .int px])), (qb, .inl (cB, 4096, .inl bf)), (qu, .inl (cI, 4096, .inl gx))]) hP hD [0, 1, 2, 3] [4] rfl rfl (by decide) (by decide) hk1 hFc hP1 hD1
            generalize H1 = H at hP hS hce ⊢
            have hP : va_P (dC, dI) classes ([(sl, .inr (7, [.int 3, vn, .int hs, .int 1, .long st, .long r29, .long 1, vf, vx])), (qr, .inr (5, [.ref h0, .int ox])), (h0, .inr (8, [.ref qb, .ref qu, .int cx, .int ln, .int (nI n), .int ax, .int px])), (qb, .inl (cB, 4096, .inl bf)), (qu, .inl (cI, 4096, .inl gx))]) H := hP
            have hD : va_D A ([(sl, .inr (7, [.int 3, vn, .int hs, .int 1, .long st, .long r29, .long 1, vf, vx])), (qr, .inr (5, [.ref h0, .int ox])), (h0, .inr (8, [.ref qb, .ref qu, .int cx, .int ln, .int (nI n), .int ax, .int px])), (qb, .inl (cB, 4096, .inl bf)), (qu, .inl (cI, 4096, .inl gx))]) := hD
            have hP := hP.sub (ws' := [(qr, .inr (5, [.ref h0, .int ox])), (h0, .inr (8, [.ref qb, .ref qu, .int cx, .int ln, .int (nI n), .int ax, .int px])), (qb, .inl (cB, 4096, .inl bf)), (qu, .inl (cI, 4096, .inl gx)), (sl, .inr (7, [.int 3, vn, .int hs, .int 1, .long st, .long r29, .long 1, vf, vx]))]) [1, 2, 3, 4, 0] rfl
            have hD := hD.sub (ws' := [(qr, .inr (5, [.ref h0, .int ox])), (h0, .inr (8, [.ref qb, .ref qu, .int cx, .int ln, .int (nI n), .int ax, .int px])), (qb, .inl (cB, 4096, .inl bf)), (qu, .inl (cI, 4096, .inl gx)), (sl, .inr (7, [.int 3, vn, .int hs, .int 1, .long st, .long r29, .long 1, vf, vx]))]) [1, 2, 3, 4, 0] (by decide) rfl
            have hP := hP.sub (ws' := [(qr, .inr (5, [.ref h0, .int ox])), (h0, .inr (8, [.ref qb, .ref qu, .int cx, .int ln, .int (nI n), .int ax, .int px])), (qb, .inl (cB, 4096, .inl bf)), (qu, .inl (cI, 4096, .inl gx))]) [0, 1, 2, 3] rfl
            have hD := hD.sub (ws' := [(qr, .inr (5, [.ref h0, .int ox])), (h0, .inr (8, [.ref qb, .ref qu, .int cx, .int ln, .int (nI n), .int ax, .int px])), (qb, .inl (cB, 4096, .inl bf)), (qu, .inl (cI, 4096, .inl gx))]) [0, 1, 2, 3] (by decide) rfl
            have hno : slV bf n i = none := (slV_1 h_p21 hnc35 hi29 h_p30).trans (mp_none (slV2_0 ht31 h_p32 hnc87 hw))
            exact vx_out (fun x hx => (hex x hx).elim) hlocks hce hcv hcl (fun t9 ht2 ha => ⟨(ax, cx, px, gx, ox), hno, ⟨hEn, by rw [ht2]; exact hP, va_K.moved ha hK, hD⟩, hS.F ht2⟩) hS.2.2 (Nat.le_of_ble_eq_true rfl) (Nat.le_of_ble_eq_true rfl)
          · obtain ⟨⟨hP1, hK1, hD1⟩, hz9⟩ := hB
            rw [ht] at hP1
            rw [ht] at hz9
            refine w_tight (hq0.trans hz9) ?_
            have hq0 := hq0.trans hz9
            obtain ⟨hP, hD⟩ := va_join (wr := [(sl, .inr (7, [.int 3, vn, .int hs, .int 1, .long st, .long r29, .long 1, vf, vx]))]) (w1 := [(qr, .inr (5, [.ref h0, .int (nI o)])), (h0, .inr (8, [.ref qb, .ref qu, .int uc, .int ln, .int (nI n), .int (nI u35), .int pl])), (qb, .inl (cB, 4096, .inl bf)), (qu, .inl (cI, 4096, .inl ug))]) hP hD [0, 1, 2, 3] [4] rfl rfl (by decide) (by decide) hk1 hFc hP1 hD1
            generalize H1 = H at hP hS hq0 ⊢
            have hP : va_P (dC, dI) classes ([(sl, .inr (7, [.int 3, vn, .int hs, .int 1, .long st, .long r29, .long 1, vf, vx])), (qr, .inr (5, [.ref h0, .int (nI o)])), (h0, .inr (8, [.ref qb, .ref qu, .int uc, .int ln, .int (nI n), .int (nI u35), .int pl])), (qb, .inl (cB, 4096, .inl bf)), (qu, .inl (cI, 4096, .inl ug))]) H := hP
            have hD : va_D A ([(sl, .inr (7, [.int 3, vn, .int hs, .int 1, .long st, .long r29, .long 1, vf, vx])), (qr, .inr (5, [.ref h0, .int (nI o)])), (h0, .inr (8, [.ref qb, .ref qu, .int uc, .int ln, .int (nI n), .int (nI u35), .int pl])), (qb, .inl (cB, 4096, .inl bf)), (qu, .inl (cI, 4096, .inl ug))]) := hD
            have hP := hP.sub (ws' := [(qr, .inr (5, [.ref h0, .int (nI o)])), (h0, .inr (8, [.ref qb, .ref qu, .int uc, .int ln, .int (nI n), .int (nI u35), .int pl])), (qb, .inl (cB, 4096, .inl bf)), (qu, .inl (cI, 4096, .inl ug)), (sl, .inr (7, [.int 3, vn, .int hs, .int 1, .long st, .long r29, .long 1, vf, vx]))]) [1, 2, 3, 4, 0] rfl
            have hD := hD.sub (ws' := [(qr, .inr (5, [.ref h0, .int (nI o)])), (h0, .inr (8, [.ref qb, .ref qu, .int uc, .int ln, .int (nI n), .int (nI u35), .int pl])), (qb, .inl (cB, 4096, .inl bf)), (qu, .inl (cI, 4096, .inl ug)), (sl, .inr (7, [.int 3, vn, .int hs, .int 1, .long st, .long r29, .long 1, vf, vx]))]) [1, 2, 3, 4, 0] (by decide) rfl
            obtain ⟨ha35, hb35, hc35, hi35⟩ := hw
            have hi35 : iCv bf n p32 = some (u35, r35) := hi35
            have ha35 : p32 ≤ u35 := ha35
            have hb35 : u35 ≤ n := hb35
            have hc35 : wi53 r35 := hc35
            refine va_put (D := (dC, dI)) (ci := 7) (v := .long r35) (ty := .long) (C := R_Selector) (T := F_Selector) (N := 9) hx hb hts in_Selector t_Selector t_Selector_ok n_Selector hown hK hP hD hS 4 rfl rfl 6 (by decide) (hts _ z_624) (fun _ h9 => h9) rfl (by decide +kernel) rfl rfl (Nat.le_of_ble_eq_true rfl) d_QueryReader_slice_95 (fun H locs hP hD hS => ?_)
            have hP : va_P (dC, dI) classes ([(qr, .inr (5, [.ref h0, .int (nI o)])), (h0, .inr (8, [.ref qb, .ref qu, .int uc, .int ln, .int (nI n), .int (nI u35), .int pl])), (qb, .inl (cB, 4096, .inl bf)), (qu, .inl (cI, 4096, .inl ug)), (sl, .inr (7, [.int 3, vn, .int hs, .int 1, .long st, .long r29, .long r35, vf, vx]))]) H := hP
            have hD : va_D A ([(qr, .inr (5, [.ref h0, .int (nI o)])), (h0, .inr (8, [.ref qb, .ref qu, .int uc, .int ln, .int (nI n), .int (nI u35), .int pl])), (qb, .inl (cB, 4096, .inl bf)), (qu, .inl (cI, 4096, .inl ug)), (sl, .inr (7, [.int 3, vn, .int hs, .int 1, .long st, .long r29, .long r35, vf, vx]))]) := hD
            have hok : slV bf n i = some (u35, some r29, r35) := (slV_1 h_p21 hnc35 hi29 h_p30).trans (mp_some (slV2_1 ht31 h_p32 hnc87 hi35))
            refine w_same (fun hq => ?_)
            refine W.widen (k := 1) (n := 6) (Nat.le_of_ble_eq_true rfl) (Nat.le_of_ble_eq_true rfl) ?_
            refine vx_ret ?_
            exact W.vret hx hb hr (fun t9 ht hW => ⟨⟨(u35, 1, r29, r35), rfl, ⟨by show i < u35; omega, by show u35 ≤ n; omega, hc35, _, hok, fun _ => if_neg (show ¬ (1 : Int32) = 0 by decide)⟩, ⟨by rw [ht]; exact hP, va_K.moved hW.alike hK, hD⟩, by rw [ht]; exact hq⟩, hS.F ht⟩) hS.2.2 d_QueryReader_slice_98
      · have hu31 : u31 = p30 := hu31
        subst hr31
        rw [hu31] at hP hD
        have hP : va_P (dC, dI) classes ([(qr, .inr (5, [.ref h0, .int (nI o)])), (h0, .inr (8, [.ref qb, .ref qu, .int uc, .int ln, .int (nI n), .int (nI p30), .int pl])), (qb, .inl (cB, 4096, .inl bf)), (qu, .inl (cI, 4096, .inl ug)), (sl, .inr (7, [.int 3, vn, .int hs, .int 1, .long st, .long r29, .long 1, vf, vx]))]) H := hP
        have hD : va_D A ([(qr, .inr (5, [.ref h0, .int (nI o)])), (h0, .inr (8, [.ref qb, .ref qu, .int uc, .int ln, .int (nI n), .int (nI p30), .int pl])), (qb, .inl (cB, 4096, .inl bf)), (qu, .inl (cI, 4096, .inl ug)), (sl, .inr (7, [.int 3, vn, .int hs, .int 1, .long st, .long r29, .long 1, vf, vx]))]) := hD
        refine lv_if_eq (tgt := 98) hx hb d_QueryReader_slice_67 (by decide) (fun _ => ?_) (fun h => absurd (by decide) h)
        have hok : slV bf n i = some (p30, some r29, 1) := (slV_1 h_p21 hnc35 hi29 h_p30).trans (mp_some (slV2_e ht31))
        refine w_same (fun hq => ?_)
        refine W.widen (k := 1) (n := 6) (Nat.le_of_ble_eq_true rfl) (Nat.le_of_ble_eq_true rfl) ?_
        refine vx_ret ?_
        exact W.vret hx hb hr (fun t9 ht hW => ⟨⟨(p30, 1, r29, 1), rfl, ⟨by show i < p30; omega, by show p30 ≤ n; omega, (show wi53 1 from ⟨by decide, by decide⟩), _, hok, fun _ => if_neg (show ¬ (1 : Int32) = 0 by decide)⟩, ⟨by rw [ht]; exact hP, va_K.moved hW.alike hK, hD⟩, by rw [ht]; exact hq⟩, hS.F ht⟩) hS.2.2 d_QueryReader_slice_98
