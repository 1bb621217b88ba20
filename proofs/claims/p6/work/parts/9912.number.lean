theorem z_52 : (.fieldLink "QueryBench$JsonReader" 30 "QueryBench$Tape" "at" "I" : Cond) ∈ gtbl := gt_in 52 (by decide +kernel) (by decide +kernel)
theorem z_362 : (.methodLink "QueryBench$JsonReader" 49 ⟨"QueryBench$Tape", "here", "()I"⟩ : Cond) ∈ gtbl := gt_in 362 (by decide +kernel) (by decide +kernel)
theorem z_370 : (.methodLink "QueryBench$JsonReader" 38 ⟨"QueryBench$Tape", "fail", "(I)V"⟩ : Cond) ∈ gtbl := gt_in 370 (by decide +kernel) (by decide +kernel)
theorem z_392 : (.methodLink "QueryBench$JsonReader" 95 ⟨"QueryBench$Tape", "takeIf", "(I)Z"⟩ : Cond) ∈ gtbl := gt_in 392 (by decide +kernel) (by decide +kernel)
theorem z_393 : (.instanceMethod ⟨"QueryBench$Tape", "takeIf", "(I)Z"⟩ : Cond) ∈ gtbl := gt_in 393 (by decide +kernel) (by decide +kernel)
theorem z_394 : (.selects "QueryBench$Tape" ⟨"QueryBench$Tape", "takeIf", "(I)Z"⟩ ⟨"QueryBench$Tape", "takeIf", "(I)Z"⟩ : Cond) ∈ gtbl := gt_in 394 (by decide +kernel) (by decide +kernel)
theorem z_512 : (.methodLink "QueryBench$JsonReader" 102 ⟨"QueryBench$Tape", "digits", "(I)J"⟩ : Cond) ∈ gtbl := gt_in 512 (by decide +kernel) (by decide +kernel)
theorem z_513 : (.instanceMethod ⟨"QueryBench$Tape", "digits", "(I)J"⟩ : Cond) ∈ gtbl := gt_in 513 (by decide +kernel) (by decide +kernel)
theorem z_514 : (.selects "QueryBench$Tape" ⟨"QueryBench$Tape", "digits", "(I)J"⟩ ⟨"QueryBench$Tape", "digits", "(I)J"⟩ : Cond) ∈ gtbl := gt_in 514 (by decide +kernel) (by decide +kernel)
theorem nz_509 : (.methodLinkNest "QueryBench$JsonReader" 99 ⟨"QueryBench", "isDigit", "(I)Z"⟩ "QueryBench" : Cond) ∈ nwl := List.mem_filter.mpr ⟨List.mem_append_right _ (List.mem_of_getElem? (i := 509) (by decide +kernel)), rfl⟩
abbrev b_JsonReader_number : ByteArray := prog_3_method_5_code
def y_JsonReader_number : MethodName := ⟨"QueryBench$JsonReader", "number", "()J"⟩
abbrev k_JsonReader_number : Cond := .code y_JsonReader_number b_JsonReader_number 6 (some .long)
theorem i_JsonReader_number : k_JsonReader_number ∈ gtbl := gt_in 508 (by decide +kernel) (by decide +kernel)
theorem d_JsonReader_number_0 : decode b_JsonReader_number 0 = .ok (.aload_n 0, 1) := by decide +kernel
theorem d_JsonReader_number_1 : decode b_JsonReader_number 1 = .ok (.getfield 9, 3) := by decide +kernel
theorem d_JsonReader_number_4 : decode b_JsonReader_number 4 = .ok (.getfield 30, 3) := by decide +kernel
theorem d_JsonReader_number_7 : decode b_JsonReader_number 7 = .ok (.istore_n 1, 1) := by decide +kernel
theorem d_JsonReader_number_8 : decode b_JsonReader_number 8 = .ok (.aload_n 0, 1) := by decide +kernel
theorem d_JsonReader_number_9 : decode b_JsonReader_number 9 = .ok (.getfield 9, 3) := by decide +kernel
theorem d_JsonReader_number_12 : decode b_JsonReader_number 12 = .ok (.bipush 45, 2) := by decide +kernel
theorem d_JsonReader_number_14 : decode b_JsonReader_number 14 = .ok (.invokevirtual 95, 3) := by decide +kernel
theorem d_JsonReader_number_17 : decode b_JsonReader_number 17 = .ok (.istore_n 2, 1) := by decide +kernel
theorem d_JsonReader_number_18 : decode b_JsonReader_number 18 = .ok (.aload_n 0, 1) := by decide +kernel
theorem d_JsonReader_number_19 : decode b_JsonReader_number 19 = .ok (.getfield 9, 3) := by decide +kernel
theorem d_JsonReader_number_22 : decode b_JsonReader_number 22 = .ok (.invokevirtual 49, 3) := by decide +kernel
theorem d_JsonReader_number_25 : decode b_JsonReader_number 25 = .ok (.invokestatic 99, 3) := by decide +kernel
theorem d_JsonReader_number_28 : decode b_JsonReader_number 28 = .ok (.ifCond .ne 17, 3) := by decide +kernel
theorem d_JsonReader_number_31 : decode b_JsonReader_number 31 = .ok (.aload_n 0, 1) := by decide +kernel
theorem d_JsonReader_number_32 : decode b_JsonReader_number 32 = .ok (.getfield 9, 3) := by decide +kernel
theorem d_JsonReader_number_35 : decode b_JsonReader_number 35 = .ok (.aload_n 0, 1) := by decide +kernel
theorem d_JsonReader_number_36 : decode b_JsonReader_number 36 = .ok (.getfield 9, 3) := by decide +kernel
theorem d_JsonReader_number_39 : decode b_JsonReader_number 39 = .ok (.getfield 30, 3) := by decide +kernel
theorem d_JsonReader_number_42 : decode b_JsonReader_number 42 = .ok (.invokevirtual 38, 3) := by decide +kernel
theorem d_JsonReader_number_45 : decode b_JsonReader_number 45 = .ok (.aload_n 0, 1) := by decide +kernel
theorem d_JsonReader_number_46 : decode b_JsonReader_number 46 = .ok (.getfield 9, 3) := by decide +kernel
theorem d_JsonReader_number_49 : decode b_JsonReader_number 49 = .ok (.bipush 48, 2) := by decide +kernel
theorem d_JsonReader_number_51 : decode b_JsonReader_number 51 = .ok (.invokevirtual 95, 3) := by decide +kernel
theorem d_JsonReader_number_54 : decode b_JsonReader_number 54 = .ok (.ifCond .eq 7, 3) := by decide +kernel
theorem d_JsonReader_number_57 : decode b_JsonReader_number 57 = .ok (.lconst 0, 1) := by decide +kernel
theorem d_JsonReader_number_58 : decode b_JsonReader_number 58 = .ok (.goto 11, 3) := by decide +kernel
theorem d_JsonReader_number_61 : decode b_JsonReader_number 61 = .ok (.aload_n 0, 1) := by decide +kernel
theorem d_JsonReader_number_62 : decode b_JsonReader_number 62 = .ok (.getfield 9, 3) := by decide +kernel
theorem d_JsonReader_number_65 : decode b_JsonReader_number 65 = .ok (.iload_n 1, 1) := by decide +kernel
theorem d_JsonReader_number_66 : decode b_JsonReader_number 66 = .ok (.invokevirtual 102, 3) := by decide +kernel
theorem d_JsonReader_number_69 : decode b_JsonReader_number 69 = .ok (.lstore_n 3, 1) := by decide +kernel
theorem d_JsonReader_number_70 : decode b_JsonReader_number 70 = .ok (.aload_n 0, 1) := by decide +kernel
theorem d_JsonReader_number_71 : decode b_JsonReader_number 71 = .ok (.getfield 9, 3) := by decide +kernel
theorem d_JsonReader_number_74 : decode b_JsonReader_number 74 = .ok (.invokevirtual 49, 3) := by decide +kernel
theorem d_JsonReader_number_77 : decode b_JsonReader_number 77 = .ok (.istore 5, 2) := by decide +kernel
theorem d_JsonReader_number_79 : decode b_JsonReader_number 79 = .ok (.iload 5, 2) := by decide +kernel
theorem d_JsonReader_number_81 : decode b_JsonReader_number 81 = .ok (.bipush 46, 2) := by decide +kernel
theorem d_JsonReader_number_83 : decode b_JsonReader_number 83 = .ok (.if_icmp .eq 17, 3) := by decide +kernel
theorem d_JsonReader_number_86 : decode b_JsonReader_number 86 = .ok (.iload 5, 2) := by decide +kernel
theorem d_JsonReader_number_88 : decode b_JsonReader_number 88 = .ok (.bipush 101, 2) := by decide +kernel
theorem d_JsonReader_number_90 : decode b_JsonReader_number 90 = .ok (.if_icmp .eq 10, 3) := by decide +kernel
theorem d_JsonReader_number_93 : decode b_JsonReader_number 93 = .ok (.iload 5, 2) := by decide +kernel
theorem d_JsonReader_number_95 : decode b_JsonReader_number 95 = .ok (.bipush 69, 2) := by decide +kernel
theorem d_JsonReader_number_97 : decode b_JsonReader_number 97 = .ok (.if_icmp .ne 11, 3) := by decide +kernel
theorem d_JsonReader_number_100 : decode b_JsonReader_number 100 = .ok (.aload_n 0, 1) := by decide +kernel
theorem d_JsonReader_number_101 : decode b_JsonReader_number 101 = .ok (.getfield 9, 3) := by decide +kernel
theorem d_JsonReader_number_104 : decode b_JsonReader_number 104 = .ok (.iload_n 1, 1) := by decide +kernel
theorem d_JsonReader_number_105 : decode b_JsonReader_number 105 = .ok (.invokevirtual 38, 3) := by decide +kernel
theorem d_JsonReader_number_108 : decode b_JsonReader_number 108 = .ok (.iload_n 2, 1) := by decide +kernel
theorem d_JsonReader_number_109 : decode b_JsonReader_number 109 = .ok (.ifCond .eq 8, 3) := by decide +kernel
theorem d_JsonReader_number_112 : decode b_JsonReader_number 112 = .ok (.lload_n 3, 1) := by decide +kernel
theorem d_JsonReader_number_113 : decode b_JsonReader_number 113 = .ok (.lneg, 1) := by decide +kernel
theorem d_JsonReader_number_114 : decode b_JsonReader_number 114 = .ok (.goto 4, 3) := by decide +kernel
theorem d_JsonReader_number_117 : decode b_JsonReader_number 117 = .ok (.lload_n 3, 1) := by decide +kernel
theorem d_JsonReader_number_118 : decode b_JsonReader_number 118 = .ok (.lreturn, 1) := by decide +kernel
set_option maxHeartbeats 4000000 in
set_option maxRecDepth 100000 in
/-- JsonReader.number -/
theorem c_JsonReader_number (l : Launch) (hl9 : l.stackTraces = false) (dC : Nat → ClassId) (dI : Nat → Nat → Nat) (sz : Heap) (cB cI : ClassId) (h0 qb qu : Nat) (uc ln pl : Int32) (bf ug : Nat → Int32) (n i : Nat) (hn0 : n ≤ 4096) (hin : i ≤ n) (hbf : byR bf) (jr : Nat) (dp md : Int32) (la : Option Nat) : vx_Met l y_JsonReader_number (k_JsonReader_number :: gtbl) ({ frames := 10, cells := 1, slots := 6, locals := 170 }) (va_Pc [.ref jr] (mx dC dI ([(jr, .inr (1, [.ref h0, .int dp, .int md, va_rf la])), (h0, .inr (8, [.ref qb, .ref qu, .int uc, .int ln, .int (nI n), .int (nI i), .int pl])), (qb, .inl (cB, 4096, .inl bf)), (qu, .inl (cI, 4096, .inl ug))]) [(cB, .byte), (cI, .int)] sz)) (va_Ql (fun (r : Int64) (u : Nat) => i < u ∧ u ≤ n ∧ jN bf n i = some (r, u)) (fun u t9 => mz dC dI ([(jr, .inr (1, [.ref h0, .int dp, .int md, va_rf la])), (h0, .inr (8, [.ref qb, .ref qu, .int uc, .int ln, .int (nI n), .int (nI u), .int pl])), (qb, .inl (cB, 4096, .inl bf)), (qu, .inl (cI, 4096, .inl ug))]) [(cB, .byte), (cI, .int)] (va_A ([(jr, .inr (1, [.ref h0, .int dp, .int md, va_rf la])), (h0, .inr (8, [.ref qb, .ref qu, .int uc, .int ln, .int (nI n), .int (nI i), .int pl])), (qb, .inl (cB, 4096, .inl bf)), (qu, .inl (cI, 4096, .inl ug))]) sz.size) t9 ∧ szk sz t9.heap (0) (0)) (va_A ([(jr, .inr (1, [.ref h0, .int dp, .int md, va_rf la])), (h0, .inr (8, [.ref qb, .ref qu, .int uc, .int ln, .int (nI n), .int (nI i), .int pl])), (qb, .inl (cB, 4096, .inl bf)), (qu, .inl (cI, 4096, .inl ug))]) sz.size)) (vx_X (fun (u : Int32 × Int32 × Int32 × (Nat → Int32)) => jN bf n i = none) (fun En u t9 => En = UOX ∧ mz dC dI ([(jr, .inr (1, [.ref h0, .int dp, .int md, va_rf la])), (h0, .inr (8, [.ref qb, .ref qu, .int u.2.1, .int ln, .int (nI n), .int u.1, .int u.2.2.1])), (qb, .inl (cB, 4096, .inl bf)), (qu, .inl (cI, 4096, .inl u.2.2.2))]) [(cB, .byte), (cI, .int)] (va_A ([(jr, .inr (1, [.ref h0, .int dp, .int md, va_rf la])), (h0, .inr (8, [.ref qb, .ref qu, .int uc, .int ln, .int (nI n), .int (nI i), .int pl])), (qb, .inl (cB, 4096, .inl bf)), (qu, .inl (cI, 4096, .inl ug))]) sz.size) t9) (va_A ([(jr, .inr (1, [.ref h0, .int dp, .int md, va_rf la])), (h0, .inr (8, [.ref qb, .ref qu, .int uc, .int ln, .int (nI n), .int (nI i), .int pl])), (qb, .inl (cB, 4096, .inl bf)), (qu, .inl (cI, 4096, .inl ug))]) sz.size)) (1) (6) (va_A ([(jr, .inr (1, [.ref h0, .int dp, .int md, va_rf la])), (h0, .inr (8, [.ref qb, .ref qu, .int uc, .int ln, .int (nI n), .int (nI i), .int pl])), (qb, .inl (cB, 4096, .inl bf)), (qu, .inl (cI, 4096, .inl ug))]) sz.size) := by
  refine vx_ofW (cc := b_JsonReader_number) (maxL := 6) (ret := (some .long)) (by decide) rfl ?_
  intro p e s m args below meth c s₁ B hml hex hv
  obtain ⟨rfl, ⟨hsz, hP, hK, hD0⟩, hN, hZ⟩ := hv
  have hx := B.exec
  have hb := B.bytes
  have hr := B.returns
  have hts0 := atoms_spec (ws := k_JsonReader_number :: gtbl) B.pre
  have hts := fun w h => hts0 w (List.mem_cons_of_mem _ h)
  have hown : s.vm.findClass R_JsonReader = some m.cls := findClass_of_methodNamed B.named
  have hlocks := B.notSynchronized
  subst hsz
  have hD := hD0.self (sz := s.heap.size)
  generalize hAe : va_A ([(jr, .inr (1, [.ref h0, .int dp, .int md, va_rf la])), (h0, .inr (8, [.ref qb, .ref qu, .int uc, .int ln, .int (nI n), .int (nI i), .int pl])), (qb, .inl (cB, 4096, .inl bf)), (qu, .inl (cI, 4096, .inl ug))]) s.heap.size = A at hD hZ ⊢
  have hA : ∀ q : Nat, s.heap.size ≤ q → A q := fun q h => by rw [← hAe]; exact Or.inr h
  have hS : va_S A s.heap s.heap [] := va_S.rf
  have hP : va_P (dC, dI) classes ([(jr, .inr (1, [.ref h0, .int dp, .int md, va_rf la])), (h0, .inr (8, [.ref qb, .ref qu, .int uc, .int ln, .int (nI n), .int (nI i), .int pl])), (qb, .inl (cB, 4096, .inl bf)), (qu, .inl (cI, 4096, .inl ug))]) s.heap := hP
  have hl := lv_entry ([.ref jr]) (n := 6) (Nat.le_of_ble_eq_true rfl)
  rw [lg_entry_eq]
  generalize (lg_sl ([.ref jr]) ++ List.replicate (6 - (lg_sl ([.ref jr])).length) Slot.unset).toArray = ls at hl ⊢
  have hl : lv_has ls 6 [(0, .ref jr)] := hl
  refine lv_aload_n hx hb d_JsonReader_number_0 rfl (lv_at hl 0 rfl) ?_
  refine va_get (D := (dC, dI)) (ci := 1) (v := .ref h0) (C := R_JsonReader) (T := F_JsonReader) (N := 4) hx hb hts in_JsonReader hown hK hP 0 rfl rfl 0 (by decide) (hts _ w_80) (fun _ h9 => h9) rfl d_JsonReader_number_1 ?_
  refine va_get (D := (dC, dI)) (ci := 8) (v := .int (nI i)) (C := R_Tape) (T := F_Tape) (N := 7) hx hb hts in_Tape hown hK hP 1 rfl rfl 5 (by decide) (hts _ z_52) (fun _ h9 => h9) rfl d_JsonReader_number_4 ?_
  refine lv_istore_n (lv' := [(1, .int (nI i)), (0, .ref jr)]) hx hb d_JsonReader_number_7 rfl hl (by decide) rfl (fun ls hl => ?_)
  refine lv_aload_n hx hb d_JsonReader_number_8 rfl (lv_at hl 1 rfl) ?_
  refine va_get (D := (dC, dI)) (ci := 1) (v := .ref h0) (C := R_JsonReader) (T := F_JsonReader) (N := 4) hx hb hts in_JsonReader hown hK hP 0 rfl rfl 0 (by decide) (hts _ w_80) (fun _ h9 => h9) rfl d_JsonReader_number_9 ?_
  refine lv_bipush (v := 45) hx hb d_JsonReader_number_12 (by decide) ?_
  have hPc := hP.sub (ws' := [(h0, .inr (8, [.ref qb, .ref qu, .int uc, .int ln, .int (nI n), .int (nI i), .int pl])), (qb, .inl (cB, 4096, .inl bf))]) [1, 2] rfl
  have hDc := hD.sub (ws' := [(h0, .inr (8, [.ref qb, .ref qu, .int uc, .int ln, .int (nI n), .int (nI i), .int pl])), (qb, .inl (cB, 4096, .inl bf))]) [1, 2] (by decide) rfl
  have hFc := va_free (wc := [(h0, .inr (8, [.ref qb, .ref qu, .int uc, .int ln, .int (nI n), .int (nI i), .int pl])), (qb, .inl (cB, 4096, .inl bf))]) hD hS hA [1, 2] rfl
  have hKc := hK.sub (tys' := [(cB, .byte)]) [0] rfl
  refine va_calli (va_runV (As := [.int 45]) (rest := []) ⟨hx, hb, hml, hown, hts⟩ (c_Tape_takeIf l dC dI cB h0 qb s.heap (.ref qu) uc ln pl bf n i 45 hn0 (by omega)) (cwV 1 hts (gt_V (own := R_JsonReader) (C := R_Tape) (i := 95) (y := y_Tape_takeIf) i_Tape_takeIf z_392 z_393 z_394 w_2) rfl rfl rfl (by decide +kernel) ⟨Nat.le_of_ble_eq_true rfl, Nat.le_of_ble_eq_true rfl⟩) ⟨mp_blind, va_recv hK hP (ci := 8) (q0 := 1) rfl rfl, fun U hU hW => ⟨rfl, hU, by rw [hU]; exact hPc, va_K.moved hW.alike hKc, hDc.weaken (fun _ _ _ _ => trivial)⟩⟩ rfl rfl hl.1 rfl (lv_room (Nat.le_of_ble_eq_true rfl)) d_JsonReader_number_14 ⟨Nat.le_of_ble_eq_true rfl, Nat.le_of_ble_eq_true rfl⟩) hS (fun q _ h => hFc q h) hFc (fun r21 u21 t9 H1 locs ht hvm hw hB hz1 hk1 hS => ?_)
  obtain ⟨hP1, hK1, hD1⟩ := hB
  rw [ht] at hP1
  obtain ⟨hP, hD⟩ := va_join (wr := [(jr, .inr (1, [.ref h0, .int dp, .int md, va_rf la])), (qu, .inl (cI, 4096, .inl ug))]) (w1 := [(h0, .inr (8, [.ref qb, .ref qu, .int uc, .int ln, .int (nI n), .int (nI u21), .int pl])), (qb, .inl (cB, 4096, .inl bf))]) hP hD [1, 2] [0, 3] rfl rfl (by decide) (by decide) hk1 hFc hP1 hD1
  generalize H1 = H at hP hS ⊢
  have hP : va_P (dC, dI) classes ([(jr, .inr (1, [.ref h0, .int dp, .int md, va_rf la])), (qu, .inl (cI, 4096, .inl ug)), (h0, .inr (8, [.ref qb, .ref qu, .int uc, .int ln, .int (nI n), .int (nI u21), .int pl])), (qb, .inl (cB, 4096, .inl bf))]) H := hP
  have hD : va_D A ([(jr, .inr (1, [.ref h0, .int dp, .int md, va_rf la])), (qu, .inl (cI, 4096, .inl ug)), (h0, .inr (8, [.ref qb, .ref qu, .int uc, .int ln, .int (nI n), .int (nI u21), .int pl])), (qb, .inl (cB, 4096, .inl bf))]) := hD
  have hP := hP.sub (ws' := [(jr, .inr (1, [.ref h0, .int dp, .int md, va_rf la])), (h0, .inr (8, [.ref qb, .ref qu, .int uc, .int ln, .int (nI n), .int (nI u21), .int pl])), (qb, .inl (cB, 4096, .inl bf)), (qu, .inl (cI, 4096, .inl ug))]) [0, 2, 3, 1] rfl
  have hD := hD.sub (ws' := [(jr, .inr (1, [.ref h0, .int dp, .int md, va_rf la])), (h0, .inr (8, [.ref qb, .ref qu, .int uc, .int ln, .int (nI n), .int (nI u21), .int pl])), (qb, .inl (cB, 4096, .inl bf)), (qu, .inl (cI, 4096, .inl ug))]) [0, 2, 3, 1] (by decide) rfl
  rcases hw with ⟨ht21, hr21, hu21⟩ | ⟨ht21, hr21, hu21⟩
  · have hu21 : u21 = i + 1 := hu21
    subst hr21
    rw [hu21] at hP hD
    have hl21 := here_lc ht21 (by decide)
    have hP : va_P (dC, dI) classes ([(jr, .inr (1, [.ref h0, .int dp, .int md, va_rf la])), (h0, .inr (8, [.ref qb, .ref qu, .int uc, .int ln, .int (nI n), .int (nI (i + 1)), .int pl])), (qb, .inl (cB, 4096, .inl bf)), (qu, .inl (cI, 4096, .inl ug))]) H := hP
    have hD : va_D A ([(jr, .inr (1, [.ref h0, .int dp, .int md, va_rf la])), (h0, .inr (8, [.ref qb, .ref qu, .int uc, .int ln, .int (nI n), .int (nI (i + 1)), .int pl])), (qb, .inl (cB, 4096, .inl bf)), (qu, .inl (cI, 4096, .inl ug))]) := hD
    refine lv_istore_n (lv' := [(2, .int 1), (1, .int (nI i)), (0, .ref jr)]) hx hb d_JsonReader_number_17 rfl hl (by decide) rfl (fun ls hl => ?_)
    refine lv_aload_n hx hb d_JsonReader_number_18 rfl (lv_at hl 2 rfl) ?_
    refine va_get (D := (dC, dI)) (ci := 1) (v := .ref h0) (C := R_JsonReader) (T := F_JsonReader) (N := 4) hx hb hts in_JsonReader hown hK hP 0 rfl rfl 0 (by decide) (hts _ w_80) (fun _ h9 => h9) rfl d_JsonReader_number_19 ?_
    have hPc := hP.sub (ws' := [(h0, .inr (8, [.ref qb, .ref qu, .int uc, .int ln, .int (nI n), .int (nI (i + 1)), .int pl])), (qb, .inl (cB, 4096, .inl bf))]) [1, 2] rfl
    have hDc := hD.sub (ws' := [(h0, .inr (8, [.ref qb, .ref qu, .int uc, .int ln, .int (nI n), .int (nI (i + 1)), .int pl])), (qb, .inl (cB, 4096, .inl bf))]) [1, 2] (by decide) rfl
    have hFc := va_free (wc := [(h0, .inr (8, [.ref qb, .ref qu, .int uc, .int ln, .int (nI n), .int (nI (i + 1)), .int pl])), (qb, .inl (cB, 4096, .inl bf))]) hD hS hA [1, 2] rfl
    have hKc := hK.sub (tys' := [(cB, .byte)]) [0] rfl
    refine va_calli (va_runV (As := []) (rest := []) ⟨hx, hb, hml, hown, hts⟩ (c_Tape_here l dC dI cB h0 qb H (.ref qu) uc ln pl bf n ((i + 1)) hn0 (by omega)) (cwV 0 hts (gt_V (own := R_JsonReader) (C := R_Tape) (i := 49) (y := y_Tape_here) i_Tape_here z_362 w_363 w_364 w_2) rfl rfl rfl (by decide +kernel) ⟨Nat.le_of_ble_eq_true rfl, Nat.le_of_ble_eq_true rfl⟩) ⟨mp_blind, va_recv hK hP (ci := 8) (q0 := 1) rfl rfl, fun U hU hW => ⟨rfl, hU, by rw [hU]; exact hPc, va_K.moved hW.alike hKc, hDc.weaken (fun _ _ _ _ => trivial)⟩⟩ rfl rfl hl.1 rfl (lv_room (Nat.le_of_ble_eq_true rfl)) d_JsonReader_number_22 ⟨Nat.le_of_ble_eq_true rfl, Nat.le_of_ble_eq_true rfl⟩) hS (fun q _ h => hFc q h) hFc (fun h22 _u t9 H1 locs ht hvm hw hB hz1 hk1 hS => ?_)
    obtain ⟨hP1, hK1, hD1⟩ := hB
    rw [ht] at hP1
    obtain ⟨hP, hD⟩ := va_join (wr := [(jr, .inr (1, [.ref h0, .int dp, .int md, va_rf la])), (qu, .inl (cI, 4096, .inl ug))]) (w1 := [(h0, .inr (8, [.ref qb, .ref qu, .int uc, .int ln, .int (nI n), .int (nI (i + 1)), .int pl])), (qb, .inl (cB, 4096, .inl bf))]) hP hD [1, 2] [0, 3] rfl rfl (by decide) (by decide) hk1 hFc hP1 hD1
    generalize H1 = H at hP hS ⊢
    have hP : va_P (dC, dI) classes ([(jr, .inr (1, [.ref h0, .int dp, .int md, va_rf la])), (qu, .inl (cI, 4096, .inl ug)), (h0, .inr (8, [.ref qb, .ref qu, .int uc, .int ln, .int (nI n), .int (nI (i + 1)), .int pl])), (qb, .inl (cB, 4096, .inl bf))]) H := hP
    have hD : va_D A ([(jr, .inr (1, [.ref h0, .int dp, .int md, va_rf la])), (qu, .inl (cI, 4096, .inl ug)), (h0, .inr (8, [.ref qb, .ref qu, .int uc, .int ln, .int (nI n), .int (nI (i + 1)), .int pl])), (qb, .inl (cB, 4096, .inl bf))]) := hD
    have hP := hP.sub (ws' := [(jr, .inr (1, [.ref h0, .int dp, .int md, va_rf la])), (h0, .inr (8, [.ref qb, .ref qu, .int uc, .int ln, .int (nI n), .int (nI (i + 1)), .int pl])), (qb, .inl (cB, 4096, .inl bf)), (qu, .inl (cI, 4096, .inl ug))]) [0, 2, 3, 1] rfl
    have hD := hD.sub (ws' := [(jr, .inr (1, [.ref h0, .int dp, .int md, va_rf la])), (h0, .inr (8, [.ref qb, .ref qu, .int uc, .int ln, .int (nI n), .int (nI (i + 1)), .int pl])), (qb, .inl (cB, 4096, .inl bf)), (qu, .inl (cI, 4096, .inl ug))]) [0, 2, 3, 1] (by decide) rfl
    have h_h22 : h22 = hereV bf n ((i + 1)) := hw
    have hPc := hP.sub (ws' := []) [] rfl
    have hDc := hD.sub (ws' := []) [] (by decide) rfl
    have hFc := va_free (wc := []) hD hS hA [] rfl
    have hKc := hK.sub (tys' := []) [] rfl
    refine va_calli (va_runSN (As := [.int h22]) (rest := []) ⟨hx, hb, hml, hown, hts⟩ (c_QB_isDigit l dC dI H h22) (⟨va_cnB (host := "QueryBench") 1 hts (gt_code i_QB_isDigit) rfl rfl rfl (hN _ nz_509) (hts _ w_1) (by decide +kernel) ⟨Nat.le_of_ble_eq_true rfl, Nat.le_of_ble_eq_true rfl⟩, hts _ w_510, trivial⟩) ⟨mp_blind, fun U hU hW => ⟨rfl, hU, by rw [hU]; exact hPc, va_K.moved hW.alike hKc, hDc.weaken (fun _ _ _ _ => trivial)⟩⟩ rfl rfl hl.1 rfl (lv_room (Nat.le_of_ble_eq_true rfl)) d_JsonReader_number_25 ⟨Nat.le_of_ble_eq_true rfl, Nat.le_of_ble_eq_true rfl⟩) hS (fun q _ h => hFc q h) hFc (fun d23 _u t9 H1 locs ht hvm hw hB hz1 hk1 hS => ?_)
    obtain ⟨hP1, hK1, hD1⟩ := hB
    rw [ht] at hP1
    obtain ⟨hP, hD⟩ := va_join (wr := [(jr, .inr (1, [.ref h0, .int dp, .int md, va_rf la])), (h0, .inr (8, [.ref qb, .ref qu, .int uc, .int ln, .int (nI n), .int (nI (i + 1)), .int pl])), (qb, .inl (cB, 4096, .inl bf)), (qu, .inl (cI, 4096, .inl ug))]) (w1 := []) hP hD [] [0, 1, 2, 3] rfl rfl (by decide) (by decide) hk1 hFc hP1 hD1
    generalize H1 = H at hP hS ⊢
    have hP : va_P (dC, dI) classes ([(jr, .inr (1, [.ref h0, .int dp, .int md, va_rf la])), (h0, .inr (8, [.ref qb, .ref qu, .int uc, .int ln, .int (nI n), .int (nI (i + 1)), .int pl])), (qb, .inl (cB, 4096, .inl bf)), (qu, .inl (cI, 4096, .inl ug))]) H := hP
    have hD : va_D A ([(jr, .inr (1, [.ref h0, .int dp, .int md, va_rf la])), (h0, .inr (8, [.ref qb, .ref qu, .int uc, .int ln, .int (nI n), .int (nI (i + 1)), .int pl])), (qb, .inl (cB, 4096, .inl bf)), (qu, .inl (cI, 4096, .inl ug))]) := hD
    have hd23 : d23 = if 48 ≤ h22 ∧ h22 ≤ 57 then 1 else 0 := hw
    refine lv_if_ne (tgt := 45) hx hb d_JsonReader_number_28 (by decide) (fun c28 => ?_) (fun c28 => ?_)
    · have hdh := dig_here hbf h_h22 (Classical.byContradiction (fun h9 => c28 (by rw [hd23, if_neg h9])))
      have hdl := hdh.1
      have hdg9 : digH (hereV bf n ((i + 1))) := by rw [← h_h22]; exact (dg_01 hd23).1 c28
      refine lv_aload_n hx hb d_JsonReader_number_45 rfl (lv_at hl 2 rfl) ?_
      refine va_get (D := (dC, dI)) (ci := 1) (v := .ref h0) (C := R_JsonReader) (T := F_JsonReader) (N := 4) hx hb hts in_JsonReader hown hK hP 0 rfl rfl 0 (by decide) (hts _ w_80) (fun _ h9 => h9) rfl d_JsonReader_number_46 ?_
      refine lv_bipush (v := 48) hx hb d_JsonReader_number_49 (by decide) ?_
      have hPc := hP.sub (ws' := [(h0, .inr (8, [.ref qb, .ref qu, .int uc, .int ln, .int (nI n), .int (nI (i + 1)), .int pl])), (qb, .inl (cB, 4096, .inl bf))]) [1, 2] rfl
      have hDc := hD.sub (ws' := [(h0, .inr (8, [.ref qb, .ref qu, .int uc, .int ln, .int (nI n), .int (nI (i + 1)), .int pl])), (qb, .inl (cB, 4096, .inl bf))]) [1, 2] (by decide) rfl
      have hFc := va_free (wc := [(h0, .inr (8, [.ref qb, .ref qu, .int uc, .int ln, .int (nI n), .int (nI (i + 1)), .int pl])), (qb, .inl (cB, 4096, .inl bf))]) hD hS hA [1, 2] rfl
      have hKc := hK.sub (tys' := [(cB, .byte)]) [0] rfl
      refine va_calli (va_runV (As := [.int 48]) (rest := []) ⟨hx, hb, hml, hown, hts⟩ (c_Tape_takeIf l dC dI cB h0 qb H (.ref qu) uc ln pl bf n ((i + 1)) 48 hn0 (by omega)) (cwV 1 hts (gt_V (own := R_JsonReader) (C := R_Tape) (i := 95) (y := y_Tape_takeIf) i_Tape_takeIf z_392 z_393 z_394 w_2) rfl rfl rfl (by decide +kernel) ⟨Nat.le_of_ble_eq_true rfl, Nat.le_of_ble_eq_true rfl⟩) ⟨mp_blind, va_recv hK hP (ci := 8) (q0 := 1) rfl rfl, fun U hU hW => ⟨rfl, hU, by rw [hU]; exact hPc, va_K.moved hW.alike hKc, hDc.weaken (fun _ _ _ _ => trivial)⟩⟩ rfl rfl hl.1 rfl (lv_room (Nat.le_of_ble_eq_true rfl)) d_JsonReader_number_51 ⟨Nat.le_of_ble_eq_true rfl, Nat.le_of_ble_eq_true rfl⟩) hS (fun q _ h => hFc q h) hFc (fun r24 u24 t9 H1 locs ht hvm hw hB hz1 hk1 hS => ?_)
      obtain ⟨hP1, hK1, hD1⟩ := hB
      rw [ht] at hP1
      obtain ⟨hP, hD⟩ := va_join (wr := [(jr, .inr (1, [.ref h0, .int dp, .int md, va_rf la])), (qu, .inl (cI, 4096, .inl ug))]) (w1 := [(h0, .inr (8, [.ref qb, .ref qu, .int uc, .int ln, .int (nI n), .int (nI u24), .int pl])), (qb, .inl (cB, 4096, .inl bf))]) hP hD [1, 2] [0, 3] rfl rfl (by decide) (by decide) hk1 hFc hP1 hD1
      generalize H1 = H at hP hS ⊢
      have hP : va_P (dC, dI) classes ([(jr, .inr (1, [.ref h0, .int dp, .int md, va_rf la])), (qu, .inl (cI, 4096, .inl ug)), (h0, .inr (8, [.ref qb, .ref qu, .int uc, .int ln, .int (nI n), .int (nI u24), .int pl])), (qb, .inl (cB, 4096, .inl bf))]) H := hP
      have hD : va_D A ([(jr, .inr (1, [.ref h0, .int dp, .int md, va_rf la])), (qu, .inl (cI, 4096, .inl ug)), (h0, .inr (8, [.ref qb, .ref qu, .int uc, .int ln, .int (nI n), .int (nI u24), .int pl])), (qb, .inl (cB, 4096, .inl bf))]) := hD
      have hP := hP.sub (ws' := [(jr, .inr (1, [.ref h0, .int dp, .int md, va_rf la])), (h0, .inr (8, [.ref qb, .ref qu, .int uc, .int ln, .int (nI n), .int (nI u24), .int pl])), (qb, .inl (cB, 4096, .inl bf)), (qu, .inl (cI, 4096, .inl ug))]) [0, 2, 3, 1] rfl
      have hD := hD.sub (ws' := [(jr, .inr (1, [.ref h0, .int dp, .int md, va_rf la])), (h0, .inr (8, [.ref qb, .ref qu, .int uc, .int ln, .int (nI n), .int (nI u24), .int pl])), (qb, .inl (cB, 4096, .inl bf)), (qu, .inl (cI, 4096, .inl ug))]) [0, 2, 3, 1] (by decide) rfl
      rcases hw with ⟨ht24, hr24, hu24⟩ | ⟨ht24, hr24, hu24⟩
      · have hu24 : u24 = ((i + 1)) + 1 := hu24
        subst hr24
        rw [hu24] at hP hD
        have hl24 := here_lc ht24 (by decide)
        have hP : va_P (dC, dI) classes ([(jr, .inr (1, [.ref h0, .int dp, .int md, va_rf la])), (h0, .inr (8, [.ref qb, .ref qu, .int uc, .int ln, .int (nI n), .int (nI ((i + 1) + 1)), .int pl])), (qb, .inl (cB, 4096, .inl bf)), (qu, .inl (cI, 4096, .inl ug))]) H := hP
        have hD : va_D A ([(jr, .inr (1, [.ref h0, .int dp, .int md, va_rf la])), (h0, .inr (8, [.ref qb, .ref qu, .int uc, .int ln, .int (nI n), .int (nI ((i + 1) + 1)), .int pl])), (qb, .inl (cB, 4096, .inl bf)), (qu, .inl (cI, 4096, .inl ug))]) := hD
        have hg9 := dgJ_0 ht24
        have hm9 : (0 : Int64) ≤ 9007199254740991 := by decide
        refine lv_if_eq (tgt := 61) hx hb d_JsonReader_number_54 (by decide) (fun h => absurd h (by decide)) (fun _ => ?_)
        refine lv_lconst (v := 0) hx hb d_JsonReader_number_57 (by decide) ?_
        refine lv_goto (tgt := 69) hx hb d_JsonReader_number_58 (by decide) ?_
        refine lv_lstore_n (lv' := [(3, .long 0), (2, .int 1), (1, .int (nI i)), (0, .ref jr)]) hx hb d_JsonReader_number_69 rfl hl (by decide) rfl (fun ls hl => ?_)
        refine lv_aload_n hx hb d_JsonReader_number_70 rfl (lv_at hl 3 rfl) ?_
        refine va_get (D := (dC, dI)) (ci := 1) (v := .ref h0) (C := R_JsonReader) (T := F_JsonReader) (N := 4) hx hb hts in_JsonReader hown hK hP 0 rfl rfl 0 (by decide) (hts _ w_80) (fun _ h9 => h9) rfl d_JsonReader_number_71 ?_
        have hPc := hP.sub (ws' := [(h0, .inr (8, [.ref qb, .ref qu, .int uc, .int ln, .int (nI n), .int (nI ((i + 1) + 1)), .int pl])), (qb, .inl (cB, 4096, .inl bf))]) [1, 2] rfl
        have hDc := hD.sub (ws' := [(h0, .inr (8, [.ref qb, .ref qu, .int uc, .int ln, .int (nI n), .int (nI ((i + 1) + 1)), .int pl])), (qb, .inl (cB, 4096, .inl bf))]) [1, 2] (by decide) rfl
        have hFc := va_free (wc := [(h0, .inr (8, [.ref qb, .ref qu, .int uc, .int ln, .int (nI n), .int (nI ((i + 1) + 1)), .int pl])), (qb, .inl (cB, 4096, .inl bf))]) hD hS hA [1, 2] rfl
        have hKc := hK.sub (tys' := [(cB, .byte)]) [0] rfl
        refine va_calli (va_runV (As := []) (rest := []) ⟨hx, hb, hml, hown, hts⟩ (c_Tape_here l dC dI cB h0 qb H (.ref qu) uc ln pl bf n (((i + 1) + 1)) hn0 (by omega)) (cwV 0 hts (gt_V (own := R_JsonReader) (C := R_Tape) (i := 49) (y := y_Tape_here) i_Tape_here z_362 w_363 w_364 w_2) rfl rfl rfl (by decide +kernel) ⟨Nat.le_of_ble_eq_true rfl, Nat.le_of_ble_eq_true rfl⟩) ⟨mp_blind, va_recv hK hP (ci := 8) (q0 := 1) rfl rfl, fun U hU hW => ⟨rfl, hU, by rw [hU]; exact hPc, va_K.moved hW.alike hKc, hDc.weaken (fun _ _ _ _ => trivial)⟩⟩ rfl rfl hl.1 rfl (lv_room (Nat.le_of_ble_eq_true rfl)) d_JsonReader_number_74 ⟨Nat.le_of_ble_eq_true rfl, Nat.le_of_ble_eq_true rfl⟩) hS (fun q _ h => hFc q h) hFc (fun h25 _u t9 H1 locs ht hvm hw hB hz1 hk1 hS => ?_)
        obtain ⟨hP1, hK1, hD1⟩ := hB
        rw [ht] at hP1
        obtain ⟨hP, hD⟩ := va_join (wr := [(jr, .inr (1, [.ref h0, .int dp, .int md, va_rf la])), (qu, .inl (cI, 4096, .inl ug))]) (w1 := [(h0, .inr (8, [.ref qb, .ref qu, .int uc, .int ln, .int (nI n), .int (nI ((i + 1) + 1)), .int pl])), (qb, .inl (cB, 4096, .inl bf))]) hP hD [1, 2] [0, 3] rfl rfl (by decide) (by decide) hk1 hFc hP1 hD1
        generalize H1 = H at hP hS ⊢
        have hP : va_P (dC, dI) classes ([(jr, .inr (1, [.ref h0, .int dp, .int md, va_rf la])), (qu, .inl (cI, 4096, .inl ug)), (h0, .inr (8, [.ref qb, .ref qu, .int uc, .int ln, .int (nI n), .int (nI ((i + 1) + 1)), .int pl])), (qb, .inl (cB, 4096, .inl bf))]) H := hP
        have hD : va_D A ([(jr, .inr (1, [.ref h0, .int dp, .int md, va_rf la])), (qu, .inl (cI, 4096, .inl ug)), (h0, .inr (8, [.ref qb, .ref qu, .int uc, .int ln, .int (nI n), .int (nI ((i + 1) + 1)), .int pl])), (qb, .inl (cB, 4096, .inl bf))]) := hD
        have hP := hP.sub (ws' := [(jr, .inr (1, [.ref h0, .int dp, .int md, va_rf la])), (h0, .inr (8, [.ref qb, .ref qu, .int uc, .int ln, .int (nI n), .int (nI ((i + 1) + 1)), .int pl])), (qb, .inl (cB, 4096, .inl bf)), (qu, .inl (cI, 4096, .inl ug))]) [0, 2, 3, 1] rfl
        have hD := hD.sub (ws' := [(jr, .inr (1, [.ref h0, .int dp, .int md, va_rf la])), (h0, .inr (8, [.ref qb, .ref qu, .int uc, .int ln, .int (nI n), .int (nI ((i + 1) + 1)), .int pl])), (qb, .inl (cB, 4096, .inl bf)), (qu, .inl (cI, 4096, .inl ug))]) [0, 2, 3, 1] (by decide) rfl
        have h_h25 : h25 = hereV bf n (((i + 1) + 1)) := hw
        refine lv_istore (lv' := [(5, .int h25), (3, .long 0), (2, .int 1), (1, .int (nI i)), (0, .ref jr)]) hx hb d_JsonReader_number_77 hl (by decide) rfl (fun ls hl => ?_)
        refine lv_iload hx hb d_JsonReader_number_79 (lv_at hl 0 rfl) ?_
        refine lv_bipush (v := 46) hx hb d_JsonReader_number_81 (by decide) ?_
        refine lv_icmp_eq (tgt := 100) hx hb d_JsonReader_number_83 (by decide) (fun c83 => ?_) (fun c83 => ?_)
        · refine lv_aload_n hx hb d_JsonReader_number_100 rfl (lv_at hl 4 rfl) ?_
          refine va_get (D := (dC, dI)) (ci := 1) (v := .ref h0) (C := R_JsonReader) (T := F_JsonReader) (N := 4) hx hb hts in_JsonReader hown hK hP 0 rfl rfl 0 (by decide) (hts _ w_80) (fun _ h9 => h9) rfl d_JsonReader_number_101 ?_
          refine lv_iload_n hx hb d_JsonReader_number_104 rfl (lv_at hl 3 rfl) ?_
          have hPc := hP.sub (ws' := [(h0, .inr (8, [.ref qb, .ref qu, .int uc, .int ln, .int (nI n), .int (nI ((i + 1) + 1)), .int pl])), (qb, .inl (cB, 4096, .inl bf))]) [1, 2] rfl
          have hDc := hD.sub (ws' := [(h0, .inr (8, [.ref qb, .ref qu, .int uc, .int ln, .int (nI n), .int (nI ((i + 1) + 1)), .int pl])), (qb, .inl (cB, 4096, .inl bf))]) [1, 2] (by decide) rfl
          have hFc := va_free (wc := [(h0, .inr (8, [.ref qb, .ref qu, .int uc, .int ln, .int (nI n), .int (nI ((i + 1) + 1)), .int pl])), (qb, .inl (cB, 4096, .inl bf))]) hD hS hA [1, 2] rfl
          have hKc := hK.sub (tys' := [(cB, .byte)]) [0] rfl
          refine w_same (fun hq0 => ?_)
          refine vx_callv (vx_runV (As := [.int (nI i)]) (rest := []) ⟨hx, hb, hml, hown, hts⟩ (c_Tape_fail l hl9 dC dI cB h0 qb H (.ref qu) uc ln (nI n) (nI (((i + 1) + 1))) pl bf ((nI i))) (cwV 1 hts (gt_V (own := R_JsonReader) (C := R_Tape) (i := 38) (y := y_Tape_fail) i_Tape_fail z_370 w_371 w_372 w_2) rfl rfl rfl (by decide +kernel) ⟨Nat.le_of_ble_eq_true rfl, Nat.le_of_ble_eq_true rfl⟩) ⟨mx_blind, va_recv hK hP (ci := 8) (q0 := 1) rfl rfl, fun U hU hW => ⟨rfl, ⟨hU, by rw [hU]; exact hPc, va_K.moved hW.alike hKc, hDc.weaken (fun _ _ _ _ => trivial)⟩, hN.warm hW, by rw [hU]; exact ZX.moved' hW.alike (ZX.narrow' (ZX.kept' hZ hS.2.1) hFc)⟩⟩ rfl rfl hl.1 rfl (lv_room (Nat.le_of_ble_eq_true rfl)) d_JsonReader_number_105 ⟨Nat.le_of_ble_eq_true rfl, Nat.le_of_ble_eq_true rfl⟩) hS (fun q _ h => hFc q h) hFc (fun q _ h => hFc q h) (fun En ce q9 _u t9 H1 locs ht hvm hw hB hz1 hk1 hS hce hcv hcl => ?_) (fun _u t9 H1 locs ht hvm hw hB hz1 hk1 hS => ?_)
          · obtain ⟨hEn, hP1, hK1, hD1⟩ := hB
            rw [ht] at hP1
            obtain ⟨hP, hD⟩ := va_join (wr := [(jr, .inr (1, [.ref h0, .int dp, .int md, va_rf la])), (qu, .inl (cI, 4096, .inl ug))]) (w1 := [(h0, .inr (8, [.ref qb, .ref qu, .int uc, .int ln, .int (nI n), .int (nI ((i + 1) + 1)), .int (nI i)])), (qb, .inl (cB, 4096, .inl bf))]) hP hD [1, 2] [0, 3] rfl rfl (by decide) (by decide) hk1 hFc hP1 hD1
            generalize H1 = H at hP hS hce ⊢
            have hP : va_P (dC, dI) classes ([(jr, .inr (1, [.ref h0, .int dp, .int md, va_rf la])), (qu, .inl (cI, 4096, .inl ug)), (h0, .inr (8, [.ref qb, .ref qu, .int uc, .int ln, .int (nI n), .int (nI ((i + 1) + 1)), .int (nI i)])), (qb, .inl (cB, 4096, .inl bf))]) H := hP
            have hD : va_D A ([(jr, .inr (1, [.ref h0, .int dp, .int md, va_rf la])), (qu, .inl (cI, 4096, .inl ug)), (h0, .inr (8, [.ref qb, .ref qu, .int uc, .int ln, .int (nI n), .int (nI ((i + 1) + 1)), .int (nI i)])), (qb, .inl (cB, 4096, .inl bf))]) := hD
            have hP := hP.sub (ws' := [(jr, .inr (1, [.ref h0, .int dp, .int md, va_rf la])), (h0, .inr (8, [.ref qb, .ref qu, .int uc, .int ln, .int (nI n), .int (nI ((i + 1) + 1)), .int (nI i)])), (qb, .inl (cB, 4096, .inl bf)), (qu, .inl (cI, 4096, .inl ug))]) [0, 2, 3, 1] rfl
            have hD := hD.sub (ws' := [(jr, .inr (1, [.ref h0, .int dp, .int md, va_rf la])), (h0, .inr (8, [.ref qb, .ref qu, .int uc, .int ln, .int (nI n), .int (nI ((i + 1) + 1)), .int (nI i)])), (qb, .inl (cB, 4096, .inl bf)), (qu, .inl (cI, 4096, .inl ug))]) [0, 2, 3, 1] (by decide) rfl
            have hno : jN bf n i = none := (jN_m ht21).trans (jNb_beh hg9 (Or.inl (h_h25.symm.trans c83)))
            exact vx_out (fun x hx => (hex x hx).elim) hlocks hce hcv hcl (fun t9 ht2 ha => ⟨(nI ((i + 1) + 1), uc, (nI i), ug), hno, ⟨hEn, by rw [ht2]; exact hP, va_K.moved ha hK, hD⟩, hS.F ht2⟩) hS.2.2 (Nat.le_of_ble_eq_true rfl) (Nat.le_of_ble_eq_true rfl)
          · obtain ⟨⟨hP1, hK1, hD1⟩, hz9⟩ := hB
            rw [ht] at hP1
            rw [ht] at hz9
            refine w_tight (hq0.trans hz9) ?_
            have hq0 := hq0.trans hz9
            obtain ⟨hP, hD⟩ := va_join (wr := [(jr, .inr (1, [.ref h0, .int dp, .int md, va_rf la])), (qu, .inl (cI, 4096, .inl ug))]) (w1 := [(h0, .inr (8, [.ref qb, .ref qu, .int uc, .int ln, .int (nI n), .int (nI ((i + 1) + 1)), .int pl])), (qb, .inl (cB, 4096, .inl bf))]) hP hD [1, 2] [0, 3] rfl rfl (by decide) (by decide) hk1 hFc hP1 hD1
            generalize H1 = H at hP hS hq0 ⊢
            have hP : va_P (dC, dI) classes ([(jr, .inr (1, [.ref h0, .int dp, .int md, va_rf la])), (qu, .inl (cI, 4096, .inl ug)), (h0, .inr (8, [.ref qb, .ref qu, .int uc, .int ln, .int (nI n), .int (nI ((i + 1) + 1)), .int pl])), (qb, .inl (cB, 4096, .inl bf))]) H := hP
            have hD : va_D A ([(jr, .inr (1, [.ref h0, .int dp, .int md, va_rf la])), (qu, .inl (cI, 4096, .inl ug)), (h0, .inr (8, [.ref qb, .ref qu, .int uc, .int ln, .int (nI n), .int (nI ((i + 1) + 1)), .int pl])), (qb, .inl (cB, 4096, .inl bf))]) := hD
            have hP := hP.sub (ws' := [(jr, .inr (1, [.ref h0, .int dp, .int md, va_rf la])), (h0, .inr (8, [.ref qb, .ref qu, .int uc, .int ln, .int (nI n), .int (nI ((i + 1) + 1)), .int pl])), (qb, .inl (cB, 4096, .inl bf)), (qu, .inl (cI, 4096, .inl ug))]) [0, 2, 3, 1] rfl
            have hD := hD.sub (ws' := [(jr, .inr (1, [.ref h0, .int dp, .int md, va_rf la])), (h0, .inr (8, [.ref qb, .ref qu, .int uc, .int ln, .int (nI n), .int (nI ((i + 1) + 1)), .int pl])), (qb, .inl (cB, 4096, .inl bf)), (qu, .inl (cI, 4096, .inl ug))]) [0, 2, 3, 1] (by decide) rfl
            exact hw.elim
        · refine lv_iload hx hb d_JsonReader_number_86 (lv_at hl 0 rfl) ?_
          refine lv_bipush (v := 101) hx hb d_JsonReader_number_88 (by decide) ?_
          refine lv_icmp_eq (tgt := 100) hx hb d_JsonReader_number_90 (by decide) (fun c90 => ?_) (fun c90 => ?_)
          · refine lv_aload_n hx hb d_JsonReader_number_100 rfl (lv_at hl 4 rfl) ?_
            refine va_get (D := (dC, dI)) (ci := 1) (v := .ref h0) (C := R_JsonReader) (T := F_JsonReader) (N := 4) hx hb hts in_JsonReader hown hK hP 0 rfl rfl 0 (by decide) (hts _ w_80) (fun _ h9 => h9) rfl d_JsonReader_number_101 ?_
            refine lv_iload_n hx hb d_JsonReader_number_104 rfl (lv_at hl 3 rfl) ?_
            have hPc := hP.sub (ws' := [(h0, .inr (8, [.ref qb, .ref qu, .int uc, .int ln, .int (nI n), .int (nI ((i + 1) + 1)), .int pl])), (qb, .inl (cB, 4096, .inl bf))]) [1, 2] rfl
            have hDc := hD.sub (ws' := [(h0, .inr (8, [.ref qb, .ref qu, .int uc, .int ln, .int (nI n), .int (nI ((i + 1) + 1)), .int pl])), (qb, .inl (cB, 4096, .inl bf))]) [1, 2] (by decide) rfl
            have hFc := va_free (wc := [(h0, .inr (8, [.ref qb, .ref qu, .int uc, .int ln, .int (nI n), .int (nI ((i + 1) + 1)), .int pl])), (qb, .inl (cB, 4096, .inl bf))]) hD hS hA [1, 2] rfl
            have hKc := hK.sub (tys' := [(cB, .byte)]) [0] rfl
            refine w_same (fun hq0 => ?_)
            refine vx_callv (vx_runV (As := [.int (nI i)]) (rest := []) ⟨hx, hb, hml, hown, hts⟩ (c_Tape_fail l hl9 dC dI cB h0 qb H (.ref qu) uc ln (nI n) (nI (((i + 1) + 1))) pl bf ((nI i))) (cwV 1 hts (gt_V (own := R_JsonReader) (C := R_Tape) (i := 38) (y := y_Tape_fail) i_Tape_fail z_370 w_371 w_372 w_2) rfl rfl rfl (by decide +kernel) ⟨Nat.le_of_ble_eq_true rfl, Nat.le_of_ble_eq_true rfl⟩) ⟨mx_blind, va_recv hK hP (ci := 8) (q0 := 1) rfl rfl, fun U hU hW => ⟨rfl, ⟨hU, by rw [hU]; exact hPc, va_K.moved hW.alike hKc, hDc.weaken (fun _ _ _ _ => trivial)⟩, hN.warm hW, by rw [hU]; exact ZX.moved' hW.alike (ZX.narrow' (ZX.kept' hZ hS.2.1) hFc)⟩⟩ rfl rfl hl.1 rfl (lv_room (Nat.le_of_ble_eq_true rfl)) d_JsonReader_number_105 ⟨Nat.le_of_ble_eq_true rfl, Nat.le_of_ble_eq_true rfl⟩) hS (fun q _ h => hFc q h) hFc (fun q _ h => hFc q h) (fun En ce q9 _u t9 H1 locs ht hvm hw hB hz1 hk1 hS hce hcv hcl => ?_) (fun _u t9 H1 locs ht hvm hw hB hz1 hk1 hS => ?_)
            · obtain ⟨hEn, hP1, hK1, hD1⟩ := hB
              rw [ht] at hP1
              obtain ⟨hP, hD⟩ := va_join (wr := [(jr, .inr (1, [.ref h0, .int dp, .int md, va_rf la])), (qu, .inl (cI, 4096, .inl ug))]) (w1 := [(h0, .inr (8, [.ref qb, .ref qu, .int uc, .int ln, .int (nI n), .int (nI ((i + 1) + 1)), .int (nI i)])), (qb, .inl (cB, 4096, .inl bf))]) hP hD [1, 2] [0, 3] rfl rfl (by decide) (by decide) hk1 hFc hP1 hD1
              generalize H1 = H at hP hS hce ⊢
              have hP : va_P (dC, dI) classes ([(jr, .inr (1, [.ref h0, .int dp, .int md, va_rf la])), (qu, .inl (cI, 4096, .inl ug)), (h0, .inr (8, [.ref qb, .ref qu, .int uc, .int ln, .int (nI n), .int (nI ((i + 1) + 1)), .int (nI i)])), (qb, .inl (cB, 4096, .inl bf))]) H := hP
              have hD : va_D A ([(jr, .inr (1, [.ref h0, .int dp, .int md, va_rf la])), (qu, .inl (cI, 4096, .inl ug)), (h0, .inr (8, [.ref qb, .ref qu, .int uc, .int ln, .int (nI n), .int (nI ((i + 1) + 1)), .int (nI i)])), (qb, .inl (cB, 4096, .inl bf))]) := hD
              have hP := hP.sub (ws' := [(jr, .inr (1, [.ref h0, .int dp, .int md, va_rf la])), (h0, .inr (8, [.ref qb, .ref qu, .int uc, .int ln, .int (nI n), .int (nI ((i + 1) + 1)), .int (nI i)])), (qb, .inl (cB, 4096, .inl bf)), (qu, .inl (cI, 4096, .inl ug))]) [0, 2, 3, 1] rfl
              have hD := hD.sub (ws' := [(jr, .inr (1, [.ref h0, .int dp, .int md, va_rf la])), (h0, .inr (8, [.ref qb, .ref qu, .int uc, .int ln, .int (nI n), .int (nI ((i + 1) + 1)), .int (nI i)])), (qb, .inl (cB, 4096, .inl bf)), (qu, .inl (cI, 4096, .inl ug))]) [0, 2, 3, 1] (by decide) rfl
              have hno : jN bf n i = none := (jN_m ht21).trans (jNb_beh hg9 (Or.inr (Or.inl (h_h25.symm.trans c90))))
              exact vx_out (fun x hx => (hex x hx).elim) hlocks hce hcv hcl (fun t9 ht2 ha => ⟨(nI ((i + 1) + 1), uc, (nI i), ug), hno, ⟨hEn, by rw [ht2]; exact hP, va_K.moved ha hK, hD⟩, hS.F ht2⟩) hS.2.2 (Nat.le_of_ble_eq_true rfl) (Nat.le_of_ble_eq_true rfl)
            · obtain ⟨⟨hP1, hK1, hD1⟩, hz9⟩ := hB
              rw [ht] at hP1
              rw [ht] at hz9
              refine w_tight (hq0.trans hz9) ?_
              have hq0 := hq0.trans hz9
              obtain ⟨hP, hD⟩ := va_join (wr := [(jr, .inr (1, [.ref h0, .int dp, .int md, va_rf la])), (qu, .inl (cI, 4096, .inl ug))]) (w1 := [(h0, .inr (8, [.ref qb, .ref qu, .int uc, .int ln, .int (nI n), .int (nI ((i + 1) + 1)), .int pl])), (qb, .inl (cB, 4096, .inl bf))]) hP hD [1, 2] [0, 3] rfl rfl (by decide) (by decide) hk1 hFc hP1 hD1
              generalize H1 = H at hP hS hq0 ⊢
              have hP : va_P (dC, dI) classes ([(jr, .inr (1, [.ref h0, .int dp, .int md, va_rf la])), (qu, .inl (cI, 4096, .inl ug)), (h0, .inr (8, [.ref qb, .ref qu, .int uc, .int ln, .int (nI n), .int (nI ((i + 1) + 1)), .int pl])), (qb, .inl (cB, 4096, .inl bf))]) H := hP
              have hD : va_D A ([(jr, .inr (1, [.ref h0, .int dp, .int md, va_rf la])), (qu, .inl (cI, 4096, .inl ug)), (h0, .inr (8, [.ref qb, .ref qu, .int uc, .int ln, .int (nI n), .int (nI ((i + 1) + 1)), .int pl])), (qb, .inl (cB, 4096, .inl bf))]) := hD
              have hP := hP.sub (ws' := [(jr, .inr (1, [.ref h0, .int dp, .int md, va_rf la])), (h0, .inr (8, [.ref qb, .ref qu, .int uc, .int ln, .int (nI n), .int (nI ((i + 1) + 1)), .int pl])), (qb, .inl (cB, 4096, .inl bf)), (qu, .inl (cI, 4096, .inl ug))]) [0, 2, 3, 1] rfl
              have hD := hD.sub (ws' := [(jr, .inr (1, [.ref h0, .int dp, .int md, va_rf la])), (h0, .inr (8, [.ref qb, .ref qu, .int uc, .int ln, .int (nI n), .int (nI ((i + 1) + 1)), .int pl])), (qb, .inl (cB, 4096, .inl bf)), (qu, .inl (cI, 4096, .inl ug))]) [0, 2, 3, 1] (by decide) rfl
              exact hw.elim
          · refine lv_iload hx hb d_JsonReader_number_93 (lv_at hl 0 rfl) ?_
            refine lv_bipush (v := 69) hx hb d_JsonReader_number_95 (by decide) ?_
            refine lv_icmp_ne (tgt := 108) hx hb d_JsonReader_number_97 (by decide) (fun c97 => ?_) (fun c97 => ?_)
            · refine lv_iload_n hx hb d_JsonReader_number_108 rfl (lv_at hl 2 rfl) ?_
              refine lv_if_eq (tgt := 117) hx hb d_JsonReader_number_109 (by decide) (fun h => absurd h (by decide)) (fun _ => ?_)
              refine lv_lload_n hx hb d_JsonReader_number_112 rfl (lv_at hl 1 rfl) ?_
              refine lv_lneg hx hb d_JsonReader_number_113 ?_
              refine lv_goto (tgt := 118) hx hb d_JsonReader_number_114 (by decide) ?_
              have hok : jN bf n i = some ((-0), ((i + 1) + 1)) := (jN_m ht21).trans (jNb_ok hdg9 hg9 hm9 (fun e => c83 (h_h25.trans e)) (fun e => c90 (h_h25.trans e)) (fun e => c97 (h_h25.trans e)))
              refine w_same (fun hq => ?_)
              refine W.widen (k := 1) (n := 6) (Nat.le_of_ble_eq_true rfl) (Nat.le_of_ble_eq_true rfl) ?_
              refine vx_ret ?_
              exact W.lret (v := (-0)) hx hb hr (fun t9 ht hW => ⟨⟨(-0), ((i + 1) + 1), rfl, ⟨by show i < ((i + 1) + 1); omega, by show ((i + 1) + 1) ≤ n; omega, hok⟩, ⟨by rw [ht]; exact hP, va_K.moved hW.alike hK, hD⟩, by rw [ht]; exact hq⟩, hS.F ht⟩) hS.2.2 d_JsonReader_number_118
            · refine lv_aload_n hx hb d_JsonReader_number_100 rfl (lv_at hl 4 rfl) ?_
              refine va_get (D := (dC, dI)) (ci := 1) (v := .ref h0) (C := R_JsonReader) (T := F_JsonReader) (N := 4) hx hb hts in_JsonReader hown hK hP 0 rfl rfl 0 (by decide) (hts _ w_80) (fun _ h9 => h9) rfl d_JsonReader_number_101 ?_
              refine lv_iload_n hx hb d_JsonReader_number_104 rfl (lv_at hl 3 rfl) ?_
              have hPc := hP.sub (ws' := [(h0, .inr (8, [.ref qb, .ref qu, .int uc, .int ln, .int (nI n), .int (nI ((i + 1) + 1)), .int pl])), (qb, .inl (cB, 4096, .inl bf))]) [1, 2] rfl
              have hDc := hD.sub (ws' := [(h0, .inr (8, [.ref qb, .ref qu, .int uc, .int ln, .int (nI n), .int (nI ((i + 1) + 1)), .int pl])), (qb, .inl (cB, 4096, .inl bf))]) [1, 2] (by decide) rfl
              have hFc := va_free (wc := [(h0, .inr (8, [.ref qb, .ref qu, .int uc, .int ln, .int (nI n), .int (nI ((i + 1) + 1)), .int pl])), (qb, .inl (cB, 4096, .inl bf))]) hD hS hA [1, 2] rfl
              have hKc := hK.sub (tys' := [(cB, .byte)]) [0] rfl
              refine w_same (fun hq0 => ?_)
              refine vx_callv (vx_runV (As := [.int (nI i)]) (rest := []) ⟨hx, hb, hml, hown, hts⟩ (c_Tape_fail l hl9 dC dI cB h0 qb H (.ref qu) uc ln (nI n) (nI (((i + 1) + 1))) pl bf ((nI i))) (cwV 1 hts (gt_V (own := R_JsonReader) (C := R_Tape) (i := 38) (y := y_Tape_fail) i_Tape_fail z_370 w_371 w_372 w_2) rfl rfl rfl (by decide +kernel) ⟨Nat.le_of_ble_eq_true rfl, Nat.le_of_ble_eq_true rfl⟩) ⟨mx_blind, va_recv hK hP (ci := 8) (q0 := 1) rfl rfl, fun U hU hW => ⟨rfl, ⟨hU, by rw [hU]; exact hPc, va_K.moved hW.alike hKc, hDc.weaken (fun _ _ _ _ => trivial)⟩, hN.warm hW, by rw [hU]; exact ZX.moved' hW.alike (ZX.narrow' (ZX.kept' hZ hS.2.1) hFc)⟩⟩ rfl rfl hl.1 rfl (lv_room (Nat.le_of_ble_eq_true rfl)) d_JsonReader_number_105 ⟨Nat.le_of_ble_eq_true rfl, Nat.le_of_ble_eq_true rfl⟩) hS (fun q _ h => hFc q h) hFc (fun q _ h => hFc q h) (fun En ce q9 _u t9 H1 locs ht hvm hw hB hz1 hk1 hS hce hcv hcl => ?_) (fun _u t9 H1 locs ht hvm hw hB hz1 hk1 hS => ?_)
              · obtain ⟨hEn, hP1, hK1, hD1⟩ := hB
                rw [ht] at hP1
                obtain ⟨hP, hD⟩ := va_join (wr := [(jr, .inr (1, [.ref h0, .int dp, .int md, va_rf la])), (qu, .inl (cI, 4096, .inl ug))]) (w1 := [(h0, .inr (8, [.ref qb, .ref qu, .int uc, .int ln, .int (nI n), .int (nI ((i + 1) + 1)), .int (nI i)])), (qb, .inl (cB, 4096, .inl bf))]) hP hD [1, 2] [0, 3] rfl rfl (by decide) (by decide) hk1 hFc hP1 hD1
                generalize H1 = H at hP hS hce ⊢
                have hP : va_P (dC, dI) classes ([(jr, .inr (1, [.ref h0, .int dp, .int md, va_rf la])), (qu, .inl (cI, 4096, .inl ug)), (h0, .inr (8, [.ref qb, .ref qu, .int uc, .int ln, .int (nI n), .int (nI ((i + 1) + 1)), .int (nI i)])), (qb, .inl (cB, 4096, .inl bf))]) H := hP
                have hD : va_D A ([(jr, .inr (1, [.ref h0, .int dp, .int md, va_rf la])), (qu, .inl (cI, 4096, .inl ug)), (h0, .inr (8, [.ref qb, .ref qu, .int uc, .int ln, .int (nI n), .int (nI ((i + 1) + 1)), .int (nI i)])), (qb, .inl (cB, 4096, .inl bf))]) := hD
                have hP := hP.sub (ws' := [(jr, .inr (1, [.ref h0, .int dp, .int md, va_rf la])), (h0, .inr (8, [.ref qb, .ref qu, .int uc, .int ln, .int (nI n), .int (nI ((i + 1) + 1)), .int (nI i)])), (qb, .inl (cB, 4096, .inl bf)), (qu, .inl (cI, 4096, .inl ug))]) [0, 2, 3, 1] rfl
                have hD := hD.sub (ws' := [(jr, .inr (1, [.ref h0, .int dp, .int md, va_rf la])), (h0, .inr (8, [.ref qb, .ref qu, .int uc, .int ln, .int (nI n), .int (nI ((i + 1) + 1)), .int (nI i)])), (qb, .inl (cB, 4096, .inl bf)), (qu, .inl (cI, 4096, .inl ug))]) [0, 2, 3, 1] (by decide) rfl
                have hno : jN bf n i = none := (jN_m ht21).trans (jNb_beh hg9 (Or.inr (Or.inr (h_h25.symm.trans c97))))
                exact vx_out (fun x hx => (hex x hx).elim) hlocks hce hcv hcl (fun t9 ht2 ha => ⟨(nI ((i + 1) + 1), uc, (nI i), ug), hno, ⟨hEn, by rw [ht2]; exact hP, va_K.moved ha hK, hD⟩, hS.F ht2⟩) hS.2.2 (Nat.le_of_ble_eq_true rfl) (Nat.le_of_ble_eq_true rfl)
              · obtain ⟨⟨hP1, hK1, hD1⟩, hz9⟩ := hB
                rw [ht] at hP1
                rw [ht] at hz9
                refine w_tight (hq0.trans hz9) ?_
                have hq0 := hq0.trans hz9
                obtain ⟨hP, hD⟩ := va_join (wr := [(jr, .inr (1, [.ref h0, .int dp, .int md, va_rf la])), (qu, .inl (cI, 4096, .inl ug))]) (w1 := [(h0, .inr (8, [.ref qb, .ref qu, .int uc, .int ln, .int (nI n), .int (nI ((i + 1) + 1)), .int pl])), (qb, .inl (cB, 4096, .inl bf))]) hP hD [1, 2] [0, 3] rfl rfl (by decide) (by decide) hk1 hFc hP1 hD1
                generalize H1 = H at hP hS hq0 ⊢
                have hP : va_P (dC, dI) classes ([(jr, .inr (1, [.ref h0, .int dp, .int md, va_rf la])), (qu, .inl (cI, 4096, .inl ug)), (h0, .inr (8, [.ref qb, .ref qu, .int uc, .int ln, .int (nI n), .int (nI ((i + 1) + 1)), .int pl])), (qb, .inl (cB, 4096, .inl bf))]) H := hP
                have hD : va_D A ([(jr, .inr (1, [.ref h0, .int dp, .int md, va_rf la])), (qu, .inl (cI, 4096, .inl ug)), (h0, .inr (8, [.ref qb, .ref qu, .int uc, .int ln, .int (nI n), .int (nI ((i + 1) + 1)), .int pl])), (qb, .inl (cB, 4096, .inl bf))]) := hD
                have hP := hP.sub (ws' := [(jr, .inr (1, [.ref h0, .int dp, .int md, va_rf la])), (h0, .inr (8, [.ref qb, .ref qu, .int uc, .int ln, .int (nI n), .int (nI ((i + 1) + 1)), .int pl])), (qb, .inl (cB, 4096, .inl bf)), (qu, .inl (cI, 4096, .inl ug))]) [0, 2, 3, 1] rfl
                have hD := hD.sub (ws' := [(jr, .inr (1, [.ref h0, .int dp, .int md, va_rf la])), (h0, .inr (8, [.ref qb, .ref qu, .int uc, .int ln, .int (nI n), .int (nI ((i + 1) + 1)), .int pl])), (qb, .inl (cB, 4096, .inl bf)), (qu, .inl (cI, 4096, .inl ug))]) [0, 2, 3, 1] (by decide) rfl
                exact hw.elim
      · have hu24 : u24 = (i + 1) := hu24
        subst hr24
        rw [hu24] at hP hD
        have hP : va_P (dC, dI) classes ([(jr, .inr (1, [.ref h0, .int dp, .int md, va_rf la])), (h0, .inr (8, [.ref qb, .ref qu, .int uc, .int ln, .int (nI n), .int (nI (i + 1)), .int pl])), (qb, .inl (cB, 4096, .inl bf)), (qu, .inl (cI, 4096, .inl ug))]) H := hP
        have hD : va_D A ([(jr, .inr (1, [.ref h0, .int dp, .int md, va_rf la])), (h0, .inr (8, [.ref qb, .ref qu, .int uc, .int ln, .int (nI n), .int (nI (i + 1)), .int pl])), (qb, .inl (cB, 4096, .inl bf)), (qu, .inl (cI, 4096, .inl ug))]) := hD
        refine lv_if_eq (tgt := 61) hx hb d_JsonReader_number_54 (by decide) (fun _ => ?_) (fun h => absurd (by decide) h)
        refine lv_aload_n hx hb d_JsonReader_number_61 rfl (lv_at hl 2 rfl) ?_
        refine va_get (D := (dC, dI)) (ci := 1) (v := .ref h0) (C := R_JsonReader) (T := F_JsonReader) (N := 4) hx hb hts in_JsonReader hown hK hP 0 rfl rfl 0 (by decide) (hts _ w_80) (fun _ h9 => h9) rfl d_JsonReader_number_62 ?_
        refine lv_iload_n hx hb d_JsonReader_number_65 rfl (lv_at hl 1 rfl) ?_
        have hPc := hP.sub (ws' := [(h0, .inr (8, [.ref qb, .ref qu, .int uc, .int ln, .int (nI n), .int (nI (i + 1)), .int pl])), (qb, .inl (cB, 4096, .inl bf))]) [1, 2] rfl
        have hDc := hD.sub (ws' := [(h0, .inr (8, [.ref qb, .ref qu, .int uc, .int ln, .int (nI n), .int (nI (i + 1)), .int pl])), (qb, .inl (cB, 4096, .inl bf))]) [1, 2] (by decide) rfl
        have hFc := va_free (wc := [(h0, .inr (8, [.ref qb, .ref qu, .int uc, .int ln, .int (nI n), .int (nI (i + 1)), .int pl])), (qb, .inl (cB, 4096, .inl bf))]) hD hS hA [1, 2] rfl
        have hKc := hK.sub (tys' := [(cB, .byte)]) [0] rfl
        refine w_same (fun hq0 => ?_)
        refine vx_calll (vx_runV (As := [.int (nI i)]) (rest := []) ⟨hx, hb, hml, hown, hts⟩ (c_Tape_digits l hl9 dC dI cB h0 qb H (.ref qu) uc ln pl bf n ((i + 1)) ((nI i)) hn0 (by omega)) (cwV 1 hts (gt_V (own := R_JsonReader) (C := R_Tape) (i := 102) (y := y_Tape_digits) i_Tape_digits z_512 z_513 z_514 w_2) rfl rfl rfl (by decide +kernel) ⟨Nat.le_of_ble_eq_true rfl, Nat.le_of_ble_eq_true rfl⟩) ⟨mx_blind, va_recv hK hP (ci := 8) (q0 := 1) rfl rfl, fun U hU hW => ⟨rfl, ⟨hU, by rw [hU]; exact hPc, va_K.moved hW.alike hKc, hDc.weaken (fun _ _ _ _ => trivial)⟩, hN.warm hW, by rw [hU]; exact ZX.moved' hW.alike (ZX.narrow' (ZX.kept' hZ hS.2.1) hFc)⟩⟩ rfl rfl hl.1 rfl (lv_room (Nat.le_of_ble_eq_true rfl)) d_JsonReader_number_66 ⟨Nat.le_of_ble_eq_true rfl, Nat.le_of_ble_eq_true rfl⟩) hS (fun q _ h => hFc q h) hFc (fun q _ h => hFc q h) (fun En ce q9 u26 t9 H1 locs ht hvm hw hB hz1 hk1 hS hce hcv hcl => ?_) (fun r26 u26 t9 H1 locs ht hvm hw hB hz1 hk1 hS => ?_)
        · obtain ⟨hEn, hP1, hK1, hD1⟩ := hB
          rw [ht] at hP1
          obtain ⟨hP, hD⟩ := va_join (wr := [(jr, .inr (1, [.ref h0, .int dp, .int md, va_rf la])), (qu, .inl (cI, 4096, .inl ug))]) (w1 := [(h0, .inr (8, [.ref qb, .ref qu, .int uc, .int ln, .int (nI n), .int (nI u26), .int (nI i)])), (qb, .inl (cB, 4096, .inl bf))]) hP hD [1, 2] [0, 3] rfl rfl (by decide) (by decide) hk1 hFc hP1 hD1
          generalize H1 = H at hP hS hce ⊢
          have hP : va_P (dC, dI) classes ([(jr, .inr (1, [.ref h0, .int dp, .int md, va_rf la])), (qu, .inl (cI, 4096, .inl ug)), (h0, .inr (8, [.ref qb, .ref qu, .int uc, .int ln, .int (nI n), .int (nI u26), .int (nI i)])), (qb, .inl (cB, 4096, .inl bf))]) H := hP
          have hD : va_D A ([(jr, .inr (1, [.ref h0, .int dp, .int md, va_rf la])), (qu, .inl (cI, 4096, .inl ug)), (h0, .inr (8, [.ref qb, .ref qu, .int uc, .int ln, .int (nI n), .int (nI u26), .int (nI i)])), (qb, .inl (cB, 4096, .inl bf))]) := hD
          have hP := hP.sub (ws' := [(jr, .inr (1, [.ref h0, .int dp, .int md, va_rf la])), (h0, .inr (8, [.ref qb, .ref qu, .int uc, .int ln, .int (nI n), .int (nI u26), .int (nI i)])), (qb, .inl (cB, 4096, .inl bf)), (qu, .inl (cI, 4096, .inl ug))]) [0, 2, 3, 1] rfl
          have hD := hD.sub (ws' := [(jr, .inr (1, [.ref h0, .int dp, .int md, va_rf la])), (h0, .inr (8, [.ref qb, .ref qu, .int uc, .int ln, .int (nI n), .int (nI u26), .int (nI i)])), (qb, .inl (cB, 4096, .inl bf)), (qu, .inl (cI, 4096, .inl ug))]) [0, 2, 3, 1] (by decide) rfl
          have hno : jN bf n i = none := (jN_m ht21).trans (by obtain ⟨r9, hd9, hm9⟩ := hw; exact jNb_big (dgJ_d ht24 hd9) hm9)
          exact vx_out (fun x hx => (hex x hx).elim) hlocks hce hcv hcl (fun t9 ht2 ha => ⟨(nI u26, uc, (nI i), ug), hno, ⟨hEn, by rw [ht2]; exact hP, va_K.moved ha hK, hD⟩, hS.F ht2⟩) hS.2.2 (Nat.le_of_ble_eq_true rfl) (Nat.le_of_ble_eq_true rfl)
        · obtain ⟨⟨hP1, hK1, hD1⟩, hz9⟩ := hB
          rw [ht] at hP1
          rw [ht] at hz9
          refine w_tight (hq0.trans hz9) ?_
          have hq0 := hq0.trans hz9
          obtain ⟨hP, hD⟩ := va_join (wr := [(jr, .inr (1, [.ref h0, .int dp, .int md, va_rf la])), (qu, .inl (cI, 4096, .inl ug))]) (w1 := [(h0, .inr (8, [.ref qb, .ref qu, .int uc, .int ln, .int (nI n), .int (nI u26), .int pl])), (qb, .inl (cB, 4096, .inl bf))]) hP hD [1, 2] [0, 3] rfl rfl (by decide) (by decide) hk1 hFc hP1 hD1
          generalize H1 = H at hP hS hq0 ⊢
          have hP : va_P (dC, dI) classes ([(jr, .inr (1, [.ref h0, .int dp, .int md, va_rf la])), (qu, .inl (cI, 4096, .inl ug)), (h0, .inr (8, [.ref qb, .ref qu, .int uc, .int ln, .int (nI n), .int (nI u26), .int pl])), (qb, .inl (cB, 4096, .inl bf))]) H := hP
          have hD : va_D A ([(jr, .inr (1, [.ref h0, .int dp, .int md, va_rf la])), (qu, .inl (cI, 4096, .inl ug)), (h0, .inr (8, [.ref qb, .ref qu, .int uc, .int ln, .int (nI n), .int (nI u26), .int pl])), (qb, .inl (cB, 4096, .inl bf))]) := hD
          have hP := hP.sub (ws' := [(jr, .inr (1, [.ref h0, .int dp, .int md, va_rf la])), (h0, .inr (8, [.ref qb, .ref qu, .int uc, .int ln, .int (nI n), .int (nI u26), .int pl])), (qb, .inl (cB, 4096, .inl bf)), (qu, .inl (cI, 4096, .inl ug))]) [0, 2, 3, 1] rfl
          have hD := hD.sub (ws' := [(jr, .inr (1, [.ref h0, .int dp, .int md, va_rf la])), (h0, .inr (8, [.ref qb, .ref qu, .int uc, .int ln, .int (nI n), .int (nI u26), .int pl])), (qb, .inl (cB, 4096, .inl bf)), (qu, .inl (cI, 4096, .inl ug))]) [0, 2, 3, 1] (by decide) rfl
          obtain ⟨hd26, hm26⟩ := hw
          have hb26 := digR_b hd26 (by omega)
          obtain ⟨ha26, he26, hz26⟩ := hb26
          have ha26 : (i + 1) ≤ u26 := ha26
          have he26 : u26 ≤ n := he26
          have hpr := digR_p hd26 hdh
          have hg9 := dgJ_d ht24 hd26
          have hm9 := hm26
          refine lv_lstore_n (lv' := [(3, .long r26), (2, .int 1), (1, .int (nI i)), (0, .ref jr)]) hx hb d_JsonReader_number_69 rfl hl (by decide) rfl (fun ls hl => ?_)
          refine lv_aload_n hx hb d_JsonReader_number_70 rfl (lv_at hl 3 rfl) ?_
          refine va_get (D := (dC, dI)) (ci := 1) (v := .ref h0) (C := R_JsonReader) (T := F_JsonReader) (N := 4) hx hb hts in_JsonReader hown hK hP 0 rfl rfl 0 (by decide) (hts _ w_80) (fun _ h9 => h9) rfl d_JsonReader_number_71 ?_
          have hPc := hP.sub (ws' := [(h0, .inr (8, [.ref qb, .ref qu, .int uc, .int ln, .int (nI n), .int (nI u26), .int pl])), (qb, .inl (cB, 4096, .inl bf))]) [1, 2] rfl
          have hDc := hD.sub (ws' := [(h0, .inr (8, [.ref qb, .ref qu, .int uc, .int ln, .int (nI n), .int (nI u26), .int pl])), (qb, .inl (cB, 4096, .inl bf))]) [1, 2] (by decide) rfl
          have hFc := va_free (wc := [(h0, .inr (8, [.ref qb, .ref qu, .int uc, .int ln, .int (nI n), .int (nI u26), .int pl])), (qb, .inl (cB, 4096, .inl bf))]) hD hS hA [1, 2] rfl
          have hKc := hK.sub (tys' := [(cB, .byte)]) [0] rfl
          refine va_calli (va_runV (As := []) (rest := []) ⟨hx, hb, hml, hown, hts⟩ (c_Tape_here l dC dI cB h0 qb H (.ref qu) uc ln pl bf n u26 hn0 (by omega)) (cwV 0 hts (gt_V (own := R_JsonReader) (C := R_Tape) (i := 49) (y := y_Tape_here) i_Tape_here z_362 w_363 w_364 w_2) rfl rfl rfl (by decide +kernel) ⟨Nat.le_of_ble_eq_true rfl, Nat.le_of_ble_eq_true rfl⟩) ⟨mp_blind, va_recv hK hP (ci := 8) (q0 := 1) rfl rfl, fun U hU hW => ⟨rfl, hU, by rw [hU]; exact hPc, va_K.moved hW.alike hKc, hDc.weaken (fun _ _ _ _ => trivial)⟩⟩ rfl rfl hl.1 rfl (lv_room (Nat.le_of_ble_eq_true rfl)) d_JsonReader_number_74 ⟨Nat.le_of_ble_eq_true rfl, Nat.le_of_ble_eq_true rfl⟩) hS (fun q _ h => hFc q h) hFc (fun h27 _u t9 H1 locs ht hvm hw hB hz1 hk1 hS => ?_)
          obtain ⟨hP1, hK1, hD1⟩ := hB
          rw [ht] at hP1
          obtain ⟨hP, hD⟩ := va_join (wr := [(jr, .inr (1, [.ref h0, .int dp, .int md, va_rf la])), (qu, .inl (cI, 4096, .inl ug))]) (w1 := [(h0, .inr (8, [.ref qb, .ref qu, .int uc, .int ln, .int (nI n), .int (nI u26), .int pl])), (qb, .inl (cB, 4096, .inl bf))]) hP hD [1, 2] [0, 3] rfl rfl (by decide) (by decide) hk1 hFc hP1 hD1
          generalize H1 = H at hP hS ⊢
          have hP : va_P (dC, dI) classes ([(jr, .inr (1, [.ref h0, .int dp, .int md, va_rf la])), (qu, .inl (cI, 4096, .inl ug)), (h0, .inr (8, [.ref qb, .ref qu, .int uc, .int ln, .int (nI n), .int (nI u26), .int pl])), (qb, .inl (cB, 4096, .inl bf))]) H := hP
          have hD : va_D A ([(jr, .inr (1, [.ref h0, .int dp, .int md, va_rf la])), (qu, .inl (cI, 4096, .inl ug)), (h0, .inr (8, [.ref qb, .ref qu, .int uc, .int ln, .int (nI n), .int (nI u26), .int pl])), (qb, .inl (cB, 4096, .inl bf))]) := hD
          have hP := hP.sub (ws' := [(jr, .inr (1, [.ref h0, .int dp, .int md, va_rf la])), (h0, .inr (8, [.ref qb, .ref qu, .int uc, .int ln, .int (nI n), .int (nI u26), .int pl])), (qb, .inl (cB, 4096, .inl bf)), (qu, .inl (cI, 4096, .inl ug))]) [0, 2, 3, 1] rfl
          have hD := hD.sub (ws' := [(jr, .inr (1, [.ref h0, .int dp, .int md, va_rf la])), (h0, .inr (8, [.ref qb, .ref qu, .int uc, .int ln, .int (nI n), .int (nI u26), .int pl])), (qb, .inl (cB, 4096, .inl bf)), (qu, .inl (cI, 4096, .inl ug))]) [0, 2, 3, 1] (by decide) rfl
          have h_h27 : h27 = hereV bf n u26 := hw
          refine lv_istore (lv' := [(5, .int h27), (3, .long r26), (2, .int 1), (1, .int (nI i)), (0, .ref jr)]) hx hb d_JsonReader_number_77 hl (by decide) rfl (fun ls hl => ?_)
          refine lv_iload hx hb d_JsonReader_number_79 (lv_at hl 0 rfl) ?_
          refine lv_bipush (v := 46) hx hb d_JsonReader_number_81 (by decide) ?_
          refine lv_icmp_eq (tgt := 100) hx hb d_JsonReader_number_83 (by decide) (fun c83 => ?_) (fun c83 => ?_)
          · refine lv_aload_n hx hb d_JsonReader_number_100 rfl (lv_at hl 4 rfl) ?_
            refine va_get (D := (dC, dI)) (ci := 1) (v := .ref h0) (C := R_JsonReader) (T := F_JsonReader) (N := 4) hx hb hts in_JsonReader hown hK hP 0 rfl rfl 0 (by decide) (hts _ w_80) (fun _ h9 => h9) rfl d_JsonReader_number_101 ?_
            refine lv_iload_n hx hb d_JsonReader_number_104 rfl (lv_at hl 3 rfl) ?_
            have hPc := hP.sub (ws' := [(h0, .inr (8, [.ref qb, .ref qu, .int uc, .int ln, .int (nI n), .int (nI u26), .int pl])), (qb, .inl (cB, 4096, .inl bf))]) [1, 2] rfl
            have hDc := hD.sub (ws' := [(h0, .inr (8, [.ref qb, .ref qu, .int uc, .int ln, .int (nI n), .int (nI u26), .int pl])), (qb, .inl (cB, 4096, .inl bf))]) [1, 2] (by decide) rfl
            have hFc := va_free (wc := [(h0, .inr (8, [.ref qb, .ref qu, .int uc, .int ln, .int (nI n), .int (nI u26), .int pl])), (qb, .inl (cB, 4096, .inl bf))]) hD hS hA [1, 2] rfl
            have hKc := hK.sub (tys' := [(cB, .byte)]) [0] rfl
            refine w_same (fun hq0 => ?_)
            refine vx_callv (vx_runV (As := [.int (nI i)]) (rest := []) ⟨hx, hb, hml, hown, hts⟩ (c_Tape_fail l hl9 dC dI cB h0 qb H (.ref qu) uc ln (nI n) (nI u26) pl bf ((nI i))) (cwV 1 hts (gt_V (own := R_JsonReader) (C := R_Tape) (i := 38) (y := y_Tape_fail) i_Tape_fail z_370 w_371 w_372 w_2) rfl rfl rfl (by decide +kernel) ⟨Nat.le_of_ble_eq_true rfl, Nat.le_of_ble_eq_true rfl⟩) ⟨mx_blind, va_recv hK hP (ci := 8) (q0 := 1) rfl rfl, fun U hU hW => ⟨rfl, ⟨hU, by rw [hU]; exact hPc, va_K.moved hW.alike hKc, hDc.weaken (fun _ _ _ _ => trivial)⟩, hN.warm hW, by rw [hU]; exact ZX.moved' hW.alike (ZX.narrow' (ZX.kept' hZ hS.2.1) hFc)⟩⟩ rfl rfl hl.1 rfl (lv_room (Nat.le_of_ble_eq_true rfl)) d_JsonReader_number_105 ⟨Nat.le_of_ble_eq_true rfl, Nat.le_of_ble_eq_true rfl⟩) hS (fun q _ h => hFc q h) hFc (fun q _ h => hFc q h) (fun En ce q9 _u t9 H1 locs ht hvm hw hB hz1 hk1 hS hce hcv hcl => ?_) (fun _u t9 H1 locs ht hvm hw hB hz1 hk1 hS => ?_)
            · obtain ⟨hEn, hP1, hK1, hD1⟩ := hB
              rw [ht] at hP1
              obtain ⟨hP, hD⟩ := va_join (wr := [(jr, .inr (1, [.ref h0, .int dp, .int md, va_rf la])), (qu, .inl (cI, 4096, .inl ug))]) (w1 := [(h0, .inr (8, [.ref qb, .ref qu, .int uc, .int ln, .int (nI n), .int (nI u26), .int (nI i)])), (qb, .inl (cB, 4096, .inl bf))]) hP hD [1, 2] [0, 3] rfl rfl (by decide) (by decide) hk1 hFc hP1 hD1
              generalize H1 = H at hP hS hce ⊢
              have hP : va_P (dC, dI) classes ([(jr, .inr (1, [.ref h0, .int dp, .int md, va_rf la])), (qu, .inl (cI, 4096, .inl ug)), (h0, .inr (8, [.ref qb, .ref qu, .int uc, .int ln, .int (nI n), .int (nI u26), .int (nI i)])), (qb, .inl (cB, 4096, .inl bf))]) H := hP
              have hD : va_D A ([(jr, .inr (1, [.ref h0, .int dp, .int md, va_rf la])), (qu, .inl (cI, 4096, .inl ug)), (h0, .inr (8, [.ref qb, .ref qu, .int uc, .int ln, .int (nI n), .int (nI u26), .int (nI i)])), (qb, .inl (cB, 4096, .inl bf))]) := hD
              have hP := hP.sub (ws' := [(jr, .inr (1, [.ref h0, .int dp, .int md, va_rf la])), (h0, .inr (8, [.ref qb, .ref qu, .int uc, .int ln, .int (nI n), .int (nI u26), .int (nI i)])), (qb, .inl (cB, 4096, .inl bf)), (qu, .inl (cI, 4096, .inl ug))]) [0, 2, 3, 1] rfl
              have hD := hD.sub (ws' := [(jr, .inr (1, [.ref h0, .int dp, .int md, va_rf la])), (h0, .inr (8, [.ref qb, .ref qu, .int uc, .int ln, .int (nI n), .int (nI u26), .int (nI i)])), (qb, .inl (cB, 4096, .inl bf)), (qu, .inl (cI, 4096, .inl ug))]) [0, 2, 3, 1] (by decide) rfl
              have hno : jN bf n i = none := (jN_m ht21).trans (jNb_beh hg9 (Or.inl (h_h27.symm.trans c83)))
              exact vx_out (fun x hx => (hex x hx).elim) hlocks hce hcv hcl (fun t9 ht2 ha => ⟨(nI u26, uc, (nI i), ug), hno, ⟨hEn, by rw [ht2]; exact hP, va_K.moved ha hK, hD⟩, hS.F ht2⟩) hS.2.2 (Nat.le_of_ble_eq_true rfl) (Nat.le_of_ble_eq_true rfl)
            · obtain ⟨⟨hP1, hK1, hD1⟩, hz9⟩ := hB
              rw [ht] at hP1
              rw [ht] at hz9
              refine w_tight (hq0.trans hz9) ?_
              have hq0 := hq0.trans hz9
              obtain ⟨hP, hD⟩ := va_join (wr := [(jr, .inr (1, [.ref h0, .int dp, .int md, va_rf la])), (qu, .inl (cI, 4096, .inl ug))]) (w1 := [(h0, .inr (8, [.ref qb, .ref qu, .int uc, .int ln, .int (nI n), .int (nI u26), .int pl])), (qb, .inl (cB, 4096, .inl bf))]) hP hD [1, 2] [0, 3] rfl rfl (by decide) (by decide) hk1 hFc hP1 hD1
              generalize H1 = H at hP hS hq0 ⊢
              have hP : va_P (dC, dI) classes ([(jr, .inr (1, [.ref h0, .int dp, .int md, va_rf la])), (qu, .inl (cI, 4096, .inl ug)), (h0, .inr (8, [.ref qb, .ref qu, .int uc, .int ln, .int (nI n), .int (nI u26), .int pl])), (qb, .inl (cB, 4096, .inl bf))]) H := hP
              have hD : va_D A ([(jr, .inr (1, [.ref h0, .int dp, .int md, va_rf la])), (qu, .inl (cI, 4096, .inl ug)), (h0, .inr (8, [.ref qb, .ref qu, .int uc, .int ln, .int (nI n), .int (nI u26), .int pl])), (qb, .inl (cB, 4096, .inl bf))]) := hD
              have hP := hP.sub (ws' := [(jr, .inr (1, [.ref h0, .int dp, .int md, va_rf la])), (h0, .inr (8, [.ref qb, .ref qu, .int uc, .int ln, .int (nI n), .int (nI u26), .int pl])), (qb, .inl (cB, 4096, .inl bf)), (qu, .inl (cI, 4096, .inl ug))]) [0, 2, 3, 1] rfl
              have hD := hD.sub (ws' := [(jr, .inr (1, [.ref h0, .int dp, .int md, va_rf la])), (h0, .inr (8, [.ref qb, .ref qu, .int uc, .int ln, .int (nI n), .int (nI u26), .int pl])), (qb, .inl (cB, 4096, .inl bf)), (qu, .inl (cI, 4096, .inl ug))]) [0, 2, 3, 1] (by decide) rfl
              exact hw.elim
          · refine lv_iload hx hb d_JsonReader_number_86 (lv_at hl 0 rfl) ?_
            refine lv_bipush (v := 101) hx hb d_JsonReader_number_88 (by decide) ?_
            refine lv_icmp_eq (tgt := 100) hx hb d_JsonReader_number_90 (by decide) (fun c90 => ?_) (fun c90 => ?_)
            · refine lv_aload_n hx hb d_JsonReader_number_100 rfl (lv_at hl 4 rfl) ?_
              refine va_get (D := (dC, dI)) (ci := 1) (v := .ref h0) (C := R_JsonReader) (T := F_JsonReader) (N := 4) hx hb hts in_JsonReader hown hK hP 0 rfl rfl 0 (by decide) (hts _ w_80) (fun _ h9 => h9) rfl d_JsonReader_number_101 ?_
              refine lv_iload_n hx hb d_JsonReader_number_104 rfl (lv_at hl 3 rfl) ?_
              have hPc := hP.sub (ws' := [(h0, .inr (8, [.ref qb, .ref qu, .int uc, .int ln, .int (nI n), .int (nI u26), .int pl])), (qb, .inl (cB, 4096, .inl bf))]) [1, 2] rfl
              have hDc := hD.sub (ws' := [(h0, .inr (8, [.ref qb, .ref qu, .int uc, .int ln, .int (nI n), .int (nI u26), .int pl])), (qb, .inl (cB, 4096, .inl bf))]) [1, 2] (by decide) rfl
              have hFc := va_free (wc := [(h0, .inr (8, [.ref qb, .ref qu, .int uc, .int ln, .int (nI n), .int (nI u26), .int pl])), (qb, .inl (cB, 4096, .inl bf))]) hD hS hA [1, 2] rfl
              have hKc := hK.sub (tys' := [(cB, .byte)]) [0] rfl
              refine w_same (fun hq0 => ?_)
              refine vx_callv (vx_runV (As := [.int (nI i)]) (rest := []) ⟨hx, hb, hml, hown, hts⟩ (c_Tape_fail l hl9 dC dI cB h0 qb H (.ref qu) uc ln (nI n) (nI u26) pl bf ((nI i))) (cwV 1 hts (gt_V (own := R_JsonReader) (C := R_Tape) (i := 38) (y := y_Tape_fail) i_Tape_fail z_370 w_371 w_372 w_2) rfl rfl rfl (by decide +kernel) ⟨Nat.le_of_ble_eq_true rfl, Nat.le_of_ble_eq_true rfl⟩) ⟨mx_blind, va_recv hK hP (ci := 8) (q0 := 1) rfl rfl, fun U hU hW => ⟨rfl, ⟨hU, by rw [hU]; exact hPc, va_K.moved hW.alike hKc, hDc.weaken (fun _ _ _ _ => trivial)⟩, hN.warm hW, by rw [hU]; exact ZX.moved' hW.alike (ZX.narrow' (ZX.kept' hZ hS.2.1) hFc)⟩⟩ rfl rfl hl.1 rfl (lv_room (Nat.le_of_ble_eq_true rfl)) d_JsonReader_number_105 ⟨Nat.le_of_ble_eq_true rfl, Nat.le_of_ble_eq_true rfl⟩) hS (fun q _ h => hFc q h) hFc (fun q _ h => hFc q h) (fun En ce q9 _u t9 H1 locs ht hvm hw hB hz1 hk1 hS hce hcv hcl => ?_) (fun _u t9 H1 locs ht hvm hw hB hz1 hk1 hS => ?_)
              · obtain ⟨hEn, hP1, hK1, hD1⟩ := hB
                rw [ht] at hP1
                obtain ⟨hP, hD⟩ := va_join (wr := [(jr, .inr (1, [.ref h0, .int dp, .int md, va_rf la])), (qu, .inl (cI, 4096, .inl ug))]) (w1 := [(h0, .inr (8, [.ref qb, .ref qu, .int uc, .int ln, .int (nI n), .int (nI u26), .int (nI i)])), (qb, .inl (cB, 4096, .inl bf))]) hP hD [1, 2] [0, 3] rfl rfl (by decide) (by decide) hk1 hFc hP1 hD1
                generalize H1 = H at hP hS hce ⊢
                have hP : va_P (dC, dI) classes ([(jr, .inr (1, [.ref h0, .int dp, .int md, va_rf la])), (qu, .inl (cI, 4096, .inl ug)), (h0, .inr (8, [.ref qb, .ref qu, .int uc, .int ln, .int (nI n), .int (nI u26), .int (nI i)])), (qb, .inl (cB, 4096, .inl bf))]) H := hP
                have hD : va_D A ([(jr, .inr (1, [.ref h0, .int dp, .int md, va_rf la])), (qu, .inl (cI, 4096, .inl ug)), (h0, .inr (8, [.ref qb, .ref qu, .int uc, .int ln, .int (nI n), .int (nI u26), .int (nI i)])), (qb, .inl (cB, 4096, .inl bf))]) := hD
                have hP := hP.sub (ws' := [(jr, .inr (1, [.ref h0, .int dp, .int md, va_rf la])), (h0, .inr (8, [.ref qb, .ref qu, .int uc, .int ln, .int (nI n), .int (nI u26), .int (nI i)])), (qb, .inl (cB, 4096, .inl bf)), (qu, .inl (cI, 4096, .inl ug))]) [0, 2, 3, 1] rfl
                have hD := hD.sub (ws' := [(jr, .inr (1, [.ref h0, .int dp, .int md, va_rf la])), (h0, .inr (8, [.ref qb, .ref qu, .int uc, .int ln, .int (nI n), .int (nI u26), .int (nI i)])), (qb, .inl (cB, 4096, .inl bf)), (qu, .inl (cI, 4096, .inl ug))]) [0, 2, 3, 1] (by decide) rfl
                have hno : jN bf n i = none := (jN_m ht21).trans (jNb_beh hg9 (Or.inr (Or.inl (h_h27.symm.trans c90))))
                exact vx_out (fun x hx => (hex x hx).elim) hlocks hce hcv hcl (fun t9 ht2 ha => ⟨(nI u26, uc, (nI i), ug), hno, ⟨hEn, by rw [ht2]; exact hP, va_K.moved ha hK, hD⟩, hS.F ht2⟩) hS.2.2 (Nat.le_of_ble_eq_true rfl) (Nat.le_of_ble_eq_true rfl)
              · obtain ⟨⟨hP1, hK1, hD1⟩, hz9⟩ := hB
                rw [ht] at hP1
                rw [ht] at hz9
                refine w_tight (hq0.trans hz9) ?_
                have hq0 := hq0.trans hz9
                obtain ⟨hP, hD⟩ := va_join (wr := [(jr, .inr (1, [.ref h0, .int dp, .int md, va_rf la])), (qu, .inl (cI, 4096, .inl ug))]) (w1 := [(h0, .inr (8, [.ref qb, .ref qu, .int uc, .int ln, .int (nI n), .int (nI u26), .int pl])), (qb, .inl (cB, 4096, .inl bf))]) hP hD [1, 2] [0, 3] rfl rfl (by decide) (by decide) hk1 hFc hP1 hD1
                generalize H1 = H at hP hS hq0 ⊢
                have hP : va_P (dC, dI) classes ([(jr, .inr (1, [.ref h0, .int dp, .int md, va_rf la])), (qu, .inl (cI, 4096, .inl ug)), (h0, .inr (8, [.ref qb, .ref qu, .int uc, .int ln, .int (nI n), .int (nI u26), .int pl])), (qb, .inl (cB, 4096, .inl bf))]) H := hP
                have hD : va_D A ([(jr, .inr (1, [.ref h0, .int dp, .int md, va_rf la])), (qu, .inl (cI, 4096, .inl ug)), (h0, .inr (8, [.ref qb, .ref qu, .int uc, .int ln, .int (nI n), .int (nI u26), .int pl])), (qb, .inl (cB, 4096, .inl bf))]) := hD
                have hP := hP.sub (ws' := [(jr, .inr (1, [.ref h0, .int dp, .int md, va_rf la])), (h0, .inr (8, [.ref qb, .ref qu, .int uc, .int ln, .int (nI n), .int (nI u26), .int pl])), (qb, .inl (cB, 4096, .inl bf)), (qu, .inl (cI, 4096, .inl ug))]) [0, 2, 3, 1] rfl
                have hD := hD.sub (ws' := [(jr, .inr (1, [.ref h0, .int dp, .int md, va_rf la])), (h0, .inr (8, [.ref qb, .ref qu, .int uc, .int ln, .int (nI n), .int (nI u26), .int pl])), (qb, .inl (cB, 4096, .inl bf)), (qu, .inl (cI, 4096, .inl ug))]) [0, 2, 3, 1] (by decide) rfl
                exact hw.elim
            · refine lv_iload hx hb d_JsonReader_number_93 (lv_at hl 0 rfl) ?_
              refine lv_bipush (v := 69) hx hb d_JsonReader_number_95 (by decide) ?_
              refine lv_icmp_ne (tgt := 108) hx hb d_JsonReader_number_97 (by decide) (fun c97 => ?_) (fun c97 => ?_)
              · refine lv_iload_n hx hb d_JsonReader_number_108 rfl (lv_at hl 2 rfl) ?_
                refine lv_if_eq (tgt := 117) hx hb d_JsonReader_number_109 (by decide) (fun h => absurd h (by decide)) (fun _ => ?_)
                refine lv_lload_n hx hb d_JsonReader_number_112 rfl (lv_at hl 1 rfl) ?_
                refine lv_lneg hx hb d_JsonReader_number_113 ?_
                refine lv_goto (tgt := 118) hx hb d_JsonReader_number_114 (by decide) ?_
                have hok : jN bf n i = some ((-r26), u26) := (jN_m ht21).trans (jNb_ok hdg9 hg9 hm9 (fun e => c83 (h_h27.trans e)) (fun e => c90 (h_h27.trans e)) (fun e => c97 (h_h27.trans e)))
                refine w_same (fun hq => ?_)
                refine W.widen (k := 1) (n := 6) (Nat.le_of_ble_eq_true rfl) (Nat.le_of_ble_eq_true rfl) ?_
                refine vx_ret ?_
                exact W.lret (v := (-r26)) hx hb hr (fun t9 ht hW => ⟨⟨(-r26), u26, rfl, ⟨by show i < u26; omega, by show u26 ≤ n; omega, hok⟩, ⟨by rw [ht]; exact hP, va_K.moved hW.alike hK, hD⟩, by rw [ht]; exact hq⟩, hS.F ht⟩) hS.2.2 d_JsonReader_number_118
              · refine lv_aload_n hx hb d_JsonReader_number_100 rfl (lv_at hl 4 rfl) ?_
                refine va_get (D := (dC, dI)) (ci := 1) (v := .ref h0) (C := R_JsonReader) (T := F_JsonReader) (N := 4) hx hb hts in_JsonReader hown hK hP 0 rfl rfl 0 (by decide) (hts _ w_80) (fun _ h9 => h9) rfl d_JsonReader_number_101 ?_
                refine lv_iload_n hx hb d_JsonReader_number_104 rfl (lv_at hl 3 rfl) ?_
                have hPc := hP.sub (ws' := [(h0, .inr (8, [.ref qb, .ref qu, .int uc, .int ln, .int (nI n), .int (nI u26), .int pl])), (qb, .inl (cB, 4096, .inl bf))]) [1, 2] rfl
                have hDc := hD.sub (ws' := [(h0, .inr (8, [.ref qb, .ref qu, .int uc, .int ln, .int (nI n), .int (nI u26), .int pl])), (qb, .inl (cB, 4096, .inl bf))]) [1, 2] (by decide) rfl
                have hFc := va_free (wc := [(h0, .inr (8, [.ref qb, .ref qu, .int uc, .int ln, .int (nI n), .int (nI u26), .int pl])), (qb, .inl (cB, 4096, .inl bf))]) hD hS hA [1, 2] rfl
                have hKc := hK.sub (tys' := [(cB, .byte)]) [0] rfl
                refine w_same (fun hq0 => ?_)
                refine vx_callv (vx_runV (As := [.int (nI i)]) (rest := []) ⟨hx, hb, hml, hown, hts⟩ (c_Tape_fail l hl9 dC dI cB h0 qb H (.ref qu) uc ln (nI n) (nI u26) pl bf ((nI i))) (cwV 1 hts (gt_V (own := R_JsonReader) (C := R_Tape) (i := 38) (y := y_Tape_fail) i_Tape_fail z_370 w_371 w_372 w_2) rfl rfl rfl (by decide +kernel) ⟨Nat.le_of_ble_eq_true rfl, Nat.le_of_ble_eq_true rfl⟩) ⟨mx_blind, va_recv hK hP (ci := 8) (q0 := 1) rfl rfl, fun U hU hW => ⟨rfl, ⟨hU, by rw [hU]; exact hPc, va_K.moved hW.alike hKc, hDc.weaken (fun _ _ _ _ => trivial)⟩, hN.warm hW, by rw [hU]; exact ZX.moved' hW.alike (ZX.narrow' (ZX.kept' hZ hS.2.1) hFc)⟩⟩ rfl rfl hl.1 rfl (lv_room (Nat.le_of_ble_eq_true rfl)) d_JsonReader_number_105 ⟨Nat.le_of_ble_eq_true rfl, Nat.le_of_ble_eq_true rfl⟩) hS (fun q _ h => hFc q h) hFc (fun q _ h => hFc q h) (fun En ce q9 _u t9 H1 locs ht hvm hw hB hz1 hk1 hS hce hcv hcl => ?_) (fun _u t9 H1 locs ht hvm hw hB hz1 hk1 hS => ?_)
                · obtain ⟨hEn, hP1, hK1, hD1⟩ := hB
                  rw [ht] at hP1
                  obtain ⟨hP, hD⟩ := va_join (wr := [(jr, .inr (1, [.ref h0, .int dp, .int md, va_rf la])), (qu, .inl (cI, 4096, .inl ug))]) (w1 := [(h0, .inr (8, [.ref qb, .ref qu, .int uc, .int ln, .int (nI n), .int (nI u26), .int (nI i)])), (qb, .inl (cB, 4096, .inl bf))]) hP hD [1, 2] [0, 3] rfl rfl (by decide) (by decide) hk1 hFc hP1 hD1
                  generalize H1 = H at hP hS hce ⊢
                  have hP : va_P (dC, dI) classes ([(jr, .inr (1, [.ref h0, .int dp, .int md, va_rf la])), (qu, .inl (cI, 4096, .inl ug)), (h0, .inr (8, [.ref qb, .ref qu, .int uc, .int ln, .int (nI n), .int (nI u26), .int (nI i)])), (qb, .inl (cB, 4096, .inl bf))]) H := hP
                  have hD : va_D A ([(jr, .inr (1, [.ref h0, .int dp, .int md, va_rf la])), (qu, .inl (cI, 4096, .inl ug)), (h0, .inr (8, [.ref qb, .ref qu, .int uc, .int ln, .int (nI n), .int (nI u26), .int (nI i)])), (qb, .inl (cB, 4096, .inl bf))]) := hD
                  have hP := hP.sub (ws' := [(jr, .inr (1, [.ref h0, .int dp, .int md, va_rf la])), (h0, .inr (8, [.ref qb, .ref qu, .int uc, .int ln, .int (nI n), .int (nI u26), .int (nI i)])), (qb, .inl (cB, 4096, .inl bf)), (qu, .inl (cI, 4096, .inl ug))]) [0, 2, 3, 1] rfl
                  have hD := hD.sub (ws' := [(jr, .inr (1, [.ref h0, .int dp, .int md, va_rf la])), (h0, .inr (8, [.ref qb, .ref qu, .int uc, .int ln, .int (nI n), .int (nI u26), .int (nI i)])), (qb, .inl (cB, 4096, .inl bf)), (qu, .inl (cI, 4096, .inl ug))]) [0, 2, 3, 1] (by decide) rfl
                  have hno : jN bf n i = none := (jN_m ht21).trans (jNb_beh hg9 (Or.inr (Or.inr (h_h27.symm.trans c97))))
                  exact vx_out (fun x hx => (hex x hx).elim) hlocks hce hcv hcl (fun t9 ht2 ha => ⟨(nI u26, uc, (nI i), ug), hno, ⟨hEn, by rw [ht2]; exact hP, va_K.moved ha hK, hD⟩, hS.F ht2⟩) hS.2.2 (Nat.le_of_ble_eq_true rfl) (Nat.le_of_ble_eq_true rfl)
                · obtain ⟨⟨hP1, hK1, hD1⟩, hz9⟩ := hB
                  rw [ht] at hP1
                  rw [ht] at hz9
                  refine w_tight (hq0.trans hz9) ?_
                  have hq0 := hq0.trans hz9
                  obtain ⟨hP, hD⟩ := va_join (wr := [(jr, .inr (1, [.ref h0, .int dp, .int md, va_rf la])), (qu, .inl (cI, 4096, .inl ug))]) (w1 := [(h0, .inr (8, [.ref qb, .ref qu, .int uc, .int ln, .int (nI n), .int (nI u26), .int pl])), (qb, .inl (cB, 4096, .inl bf))]) hP hD [1, 2] [0, 3] rfl rfl (by decide) (by decide) hk1 hFc hP1 hD1
                  generalize H1 = H at hP hS hq0 ⊢
                  have hP : va_P (dC, dI) classes ([(jr, .inr (1, [.ref h0, .int dp, .int md, va_rf la])), (qu, .inl (cI, 4096, .inl ug)), (h0, .inr (8, [.ref qb, .ref qu, .int uc, .int ln, .int (nI n), .int (nI u26), .int pl])), (qb, .inl (cB, 4096, .inl bf))]) H := hP
                  have hD : va_D A ([(jr, .inr (1, [.ref h0, .int dp, .int md, va_rf la])), (qu, .inl (cI, 4096, .inl ug)), (h0, .inr (8, [.ref qb, .ref qu, .int uc, .int ln, .int (nI n), .int (nI u26), .int pl])), (qb, .inl (cB, 4096, .inl bf))]) := hD
                  have hP := hP.sub (ws' := [(jr, .inr (1, [.ref h0, .int dp, .int md, va_rf la])), (h0, .inr (8, [.ref qb, .ref qu, .int uc, .int ln, .int (nI n), .int (nI u26), .int pl])), (qb, .inl (cB, 4096, .inl bf)), (qu, .inl (cI, 4096, .inl ug))]) [0, 2, 3, 1] rfl
                  have hD := hD.sub (ws' := [(jr, .inr (1, [.ref h0, .int dp, .int md, va_rf la])), (h0, .inr (8, [.ref qb, .ref qu, .int uc, .int ln, .int (nI n), .int (nI u26), .int pl])), (qb, .inl (cB, 4096, .inl bf)), (qu, .inl (cI, 4096, .inl ug))]) [0, 2, 3, 1] (by decide) rfl
                  exact hw.elim
    · refine lv_aload_n hx hb d_JsonReader_number_31 rfl (lv_at hl 2 rfl) ?_
      refine va_get (D := (dC, dI)) (ci := 1) (v := .ref h0) (C := R_JsonReader) (T := F_JsonReader) (N := 4) hx hb hts in_JsonReader hown hK hP 0 rfl rfl 0 (by decide) (hts _ w_80) (fun _ h9 => h9) rfl d_JsonReader_number_32 ?_
      refine lv_aload_n hx hb d_JsonReader_number_35 rfl (lv_at hl 2 rfl) ?_
      refine va_get (D := (dC, dI)) (ci := 1) (v := .ref h0) (C := R_JsonReader) (T := F_JsonReader) (N := 4) hx hb hts in_JsonReader hown hK hP 0 rfl rfl 0 (by decide) (hts _ w_80) (fun _ h9 => h9) rfl d_JsonReader_number_36 ?_
      refine va_get (D := (dC, dI)) (ci := 8) (v := .int (nI (i + 1))) (C := R_Tape) (T := F_Tape) (N := 7) hx hb hts in_Tape hown hK hP 1 rfl rfl 5 (by decide) (hts _ z_52) (fun _ h9 => h9) rfl d_JsonReader_number_39 ?_
      have hPc := hP.sub (ws' := [(h0, .inr (8, [.ref qb, .ref qu, .int uc, .int ln, .int (nI n), .int (nI (i + 1)), .int pl])), (qb, .inl (cB, 4096, .inl bf))]) [1, 2] rfl
      have hDc := hD.sub (ws' := [(h0, .inr (8, [.ref qb, .ref qu, .int uc, .int ln, .int (nI n), .int (nI (i + 1)), .int pl])), (qb, .inl (cB, 4096, .inl bf))]) [1, 2] (by decide) rfl
      have hFc := va_free (wc := [(h0, .inr (8, [.ref qb, .ref qu, .int uc, .int ln, .int (nI n), .int (nI (i + 1)), .int pl])), (qb, .inl (cB, 4096, .inl bf))]) hD hS hA [1, 2] rfl
      have hKc := hK.sub (tys' := [(cB, .byte)]) [0] rfl
      refine w_same (fun hq0 => ?_)
      refine vx_callv (vx_runV (As := [.int (nI (i + 1))]) (rest := []) ⟨hx, hb, hml, hown, hts⟩ (c_Tape_fail l hl9 dC dI cB h0 qb H (.ref qu) uc ln (nI n) (nI ((i + 1))) pl bf ((nI (i + 1)))) (cwV 1 hts (gt_V (own := R_JsonReader) (C := R_Tape) (i := 38) (y := y_Tape_fail) i_Tape_fail z_370 w_371 w_372 w_2) rfl rfl rfl (by decide +kernel) ⟨Nat.le_of_ble_eq_true rfl, Nat.le_of_ble_eq_true rfl⟩) ⟨mx_blind, va_recv hK hP (ci := 8) (q0 := 1) rfl rfl, fun U hU hW => ⟨rfl, ⟨hU, by rw [hU]; exact hPc, va_K.moved hW.alike hKc, hDc.weaken (fun _ _ _ _ => trivial)⟩, hN.warm hW, by rw [hU]; exact ZX.moved' hW.alike (ZX.narrow' (ZX.kept' hZ hS.2.1) hFc)⟩⟩ rfl rfl hl.1 rfl (lv_room (Nat.le_of_ble_eq_true rfl)) d_JsonReader_number_42 ⟨Nat.le_of_ble_eq_true rfl, Nat.le_of_ble_eq_true rfl⟩) hS (fun q _ h => hFc q h) hFc (fun q _ h => hFc q h) (fun En ce q9 _u t9 H1 locs ht hvm hw hB hz1 hk1 hS hce hcv hcl => ?_) (fun _u t9 H1 locs ht hvm hw hB hz1 hk1 hS => ?_)
      · obtain ⟨hEn, hP1, hK1, hD1⟩ := hB
        rw [ht] at hP1
        obtain ⟨hP, hD⟩ := va_join (wr := [(jr, .inr (1, [.ref h0, .int dp, .int md, va_rf la])), (qu, .inl (cI, 4096, .inl ug))]) (w1 := [(h0, .inr (8, [.ref qb, .ref qu, .int uc, .int ln, .int (nI n), .int (nI (i + 1)), .int (nI (i + 1))])), (qb, .inl (cB, 4096, .inl bf))]) hP hD [1, 2] [0, 3] rfl rfl (by decide) (by decide) hk1 hFc hP1 hD1
        generalize H1 = H at hP hS hce ⊢
        have hP : va_P (dC, dI) classes ([(jr, .inr (1, [.ref h0, .int dp, .int md, va_rf la])), (qu, .inl (cI, 4096, .inl ug)), (h0, .inr (8, [.ref qb, .ref qu, .int uc, .int ln, .int (nI n), .int (nI (i + 1)), .int (nI (i + 1))])), (qb, .inl (cB, 4096, .inl bf))]) H := hP
        have hD : va_D A ([(jr, .inr (1, [.ref h0, .int dp, .int md, va_rf la])), (qu, .inl (cI, 4096, .inl ug)), (h0, .inr (8, [.ref qb, .ref qu, .int uc, .int ln, .int (nI n), .int (nI (i + 1)), .int (nI (i + 1))])), (qb, .inl (cB, 4096, .inl bf))]) := hD
        have hP := hP.sub (ws' := [(jr, .inr (1, [.ref h0, .int dp, .int md, va_rf la])), (h0, .inr (8, [.ref qb, .ref qu, .int uc, .int ln, .int (nI n), .int (nI (i + 1)), .int (nI (i + 1))])), (qb, .inl (cB, 4096, .inl bf)), (qu, .inl (cI, 4096, .inl ug))]) [0, 2, 3, 1] rfl
        have hD := hD.sub (ws' := [(jr, .inr (1, [.ref h0, .int dp, .int md, va_rf la])), (h0, .inr (8, [.ref qb, .ref qu, .int uc, .int ln, .int (nI n), .int (nI (i + 1)), .int (nI (i + 1))])), (qb, .inl (cB, 4096, .inl bf)), (qu, .inl (cI, 4096, .inl ug))]) [0, 2, 3, 1] (by decide) rfl
        have hno : jN bf n i = none := (jN_m ht21).trans (jNb_no (by rw [← h_h22]; exact (dg_01 hd23).2 c28))
        exact vx_out (fun x hx => (hex x hx).elim) hlocks hce hcv hcl (fun t9 ht2 ha => ⟨(nI (i + 1), uc, (nI (i + 1)), ug), hno, ⟨hEn, by rw [ht2]; exact hP, va_K.moved ha hK, hD⟩, hS.F ht2⟩) hS.2.2 (Nat.le_of_ble_eq_true rfl) (Nat.le_of_ble_eq_true rfl)
      · obtain ⟨⟨hP1, hK1, hD1⟩, hz9⟩ := hB
        rw [ht] at hP1
        rw [ht] at hz9
        refine w_tight (hq0.trans hz9) ?_
        have hq0 := hq0.trans hz9
        obtain ⟨hP, hD⟩ := va_join (wr := [(jr, .inr (1, [.ref h0, .int dp, .int md, va_rf la])), (qu, .inl (cI, 4096, .inl ug))]) (w1 := [(h0, .inr (8, [.ref qb, .ref qu, .int uc, .int ln, .int (nI n), .int (nI (i + 1)), .int pl])), (qb, .inl (cB, 4096, .inl bf))]) hP hD [1, 2] [0, 3] rfl rfl (by decide) (by decide) hk1 hFc hP1 hD1
        generalize H1 = H at hP hS hq0 ⊢
        have hP : va_P (dC, dI) classes ([(jr, .inr (1, [.ref h0, .int dp, .int md, va_rf la])), (qu, .inl (cI, 4096, .inl ug)), (h0, .inr (8, [.ref qb, .ref qu, .int uc, .int ln, .int (nI n), .int (nI (i + 1)), .int pl])), (qb, .inl (cB, 4096, .inl bf))]) H := hP
        have hD : va_D A ([(jr, .inr (1, [.ref h0, .int dp, .int md, va_rf la])), (qu, .inl (cI, 4096, .inl ug)), (h0, .inr (8, [.ref qb, .ref qu, .int uc, .int ln, .int (nI n), .int (nI (i + 1)), .int pl])), (qb, .inl (cB, 4096, .inl bf))]) := hD
        have hP := hP.sub (ws' := [(jr, .inr (1, [.ref h0, .int dp, .int md, va_rf la])), (h0, .inr (8, [.ref qb, .ref qu, .int uc, .int ln, .int (nI n), .int (nI (i + 1)), .int pl])), (qb, .inl (cB, 4096, .inl bf)), (qu, .inl (cI, 4096, .inl ug))]) [0, 2, 3, 1] rfl
        have hD := hD.sub (ws' := [(jr, .inr (1, [.ref h0, .int dp, .int md, va_rf la])), (h0, .inr (8, [.ref qb, .ref qu, .int uc, .int ln, .int (nI n), .int (nI (i + 1)), .int pl])), (qb, .inl (cB, 4096, .inl bf)), (qu, .inl (cI, 4096, .inl ug))]) [0, 2, 3, 1] (by decide) rfl
        exact hw.elim
  · have hu21 : u21 = i := hu21
    subst hr21
    rw [hu21] at hP hD
    have hP : va_P (dC, dI) classes ([(jr, .inr (1, [.ref h0, .int dp, .int md, va_rf la])), (h0, .inr (8, [.ref qb, .ref qu, .int uc, .int ln, .int (nI n), .int (nI i), .int pl])), (qb, .inl (cB, 4096, .inl bf)), (qu, .inl (cI, 4096, .inl ug))]) H := hP
    have hD : va_D A ([(jr, .inr (1, [.ref h0, .int dp, .int md, va_rf la])), (h0, .inr (8, [.ref qb, .ref qu, .int uc, .int ln, .int (nI n), .int (nI i), .int pl])), (qb, .inl (cB, 4096, .inl bf)), (qu, .inl (cI, 4096, .inl ug))]) := hD
    refine lv_istore_n (lv' := [(2, .int 0), (1, .int (nI i)), (0, .ref jr)]) hx hb d_JsonReader_number_17 rfl hl (by decide) rfl (fun ls hl => ?_)
    refine lv_aload_n hx hb d_JsonReader_number_18 rfl (lv_at hl 2 rfl) ?_
    refine va_get (D := (dC, dI)) (ci := 1) (v := .ref h0) (C := R_JsonReader) (T := F_JsonReader) (N := 4) hx hb hts in_JsonReader hown hK hP 0 rfl rfl 0 (by decide) (hts _ w_80) (fun _ h9 => h9) rfl d_JsonReader_number_19 ?_
    have hPc := hP.sub (ws' := [(h0, .inr (8, [.ref qb, .ref qu, .int uc, .int ln, .int (nI n), .int (nI i), .int pl])), (qb, .inl (cB, 4096, .inl bf))]) [1, 2] rfl
    have hDc := hD.sub (ws' := [(h0, .inr (8, [.ref qb, .ref qu, .int uc, .int ln, .int (nI n), .int (nI i), .int pl])), (qb, .inl (cB, 4096, .inl bf))]) [1, 2] (by decide) rfl
    have hFc := va_free (wc := [(h0, .inr (8, [.ref qb, .ref qu, .int uc, .int ln, .int (nI n), .int (nI i), .int pl])), (qb, .inl (cB, 4096, .inl bf))]) hD hS hA [1, 2] rfl
    have hKc := hK.sub (tys' := [(cB, .byte)]) [0] rfl
    refine va_calli (va_runV (As := []) (rest := []) ⟨hx, hb, hml, hown, hts⟩ (c_Tape_here l dC dI cB h0 qb H (.ref qu) uc ln pl bf n i hn0 (by omega)) (cwV 0 hts (gt_V (own := R_JsonReader) (C := R_Tape) (i := 49) (y := y_Tape_here) i_Tape_here z_362 w_363 w_364 w_2) rfl rfl rfl (by decide +kernel) ⟨Nat.le_of_ble_eq_true rfl, Nat.le_of_ble_eq_true rfl⟩) ⟨mp_blind, va_recv hK hP (ci := 8) (q0 := 1) rfl rfl, fun U hU hW => ⟨rfl, hU, by rw [hU]; exact hPc, va_K.moved hW.alike hKc, hDc.weaken (fun _ _ _ _ => trivial)⟩⟩ rfl rfl hl.1 rfl (lv_room (Nat.le_of_ble_eq_true rfl)) d_JsonReader_number_22 ⟨Nat.le_of_ble_eq_true rfl, Nat.le_of_ble_eq_true rfl⟩) hS (fun q _ h => hFc q h) hFc (fun h28 _u t9 H1 locs ht hvm hw hB hz1 hk1 hS => ?_)
    obtain ⟨hP1, hK1, hD1⟩ := hB
    rw [ht] at hP1
    obtain ⟨hP, hD⟩ := va_join (wr := [(jr, .inr (1, [.ref h0, .int dp, .int md, va_rf la])), (qu, .inl (cI, 4096, .inl ug))]) (w1 := [(h0, .inr (8, [.ref qb, .ref qu, .int uc, .int ln, .int (nI n), .int (nI i), .int pl])), (qb, .inl (cB, 4096, .inl bf))]) hP hD [1, 2] [0, 3] rfl rfl (by decide) (by decide) hk1 hFc hP1 hD1
    generalize H1 = H at hP hS ⊢
    have hP : va_P (dC, dI) classes ([(jr, .inr (1, [.ref h0, .int dp, .int md, va_rf la])), (qu, .inl (cI, 4096, .inl ug)), (h0, .inr (8, [.ref qb, .ref qu, .int uc, .int ln, .int (nI n), .int (nI i), .int pl])), (qb, .inl (cB, 4096, .inl bf))]) H := hP
    have hD : va_D A ([(jr, .inr (1, [.ref h0, .int dp, .int md, va_rf la])), (qu, .inl (cI, 4096, .inl ug)), (h0, .inr (8, [.ref qb, .ref qu, .int uc, .int ln, .int (nI n), .int (nI i), .int pl])), (qb, .inl (cB, 4096, .inl bf))]) := hD
    have hP := hP.sub (ws' := [(jr, .inr (1, [.ref h0, .int dp, .int md, va_rf la])), (h0, .inr (8, [.ref qb, .ref qu, .int uc, .int ln, .int (nI n), .int (nI i), .int pl])), (qb, .inl (cB, 4096, .inl bf)), (qu, .inl (cI, 4096, .inl ug))]) [0, 2, 3, 1] rfl
    have hD := hD.sub (ws' := [(jr, .inr (1, [.ref h0, .int dp, .int md, va_rf la])), (h0, .inr (8, [.ref qb, .ref qu, .int uc, .int ln, .int (nI n), .int (nI i), .int pl])), (qb, .inl (cB, 4096, .inl bf)), (qu, .inl (cI, 4096, .inl ug))]) [0, 2, 3, 1] (by decide) rfl
    have h_h28 : h28 = hereV bf n i := hw
    have hPc := hP.sub (ws' := []) [] rfl
    have hDc := hD.sub (ws' := []) [] (by decide) rfl
    have hFc := va_free (wc := []) hD hS hA [] rfl
    have hKc := hK.sub (tys' := []) [] rfl
    refine va_calli (va_runSN (As := [.int h28]) (rest := []) ⟨hx, hb, hml, hown, hts⟩ (c_QB_isDigit l dC dI H h28) (⟨va_cnB (host := "QueryBench") 1 hts (gt_code i_QB_isDigit) rfl rfl rfl (hN _ nz_509) (hts _ w_1) (by decide +kernel) ⟨Nat.le_of_ble_eq_true rfl, Nat.le_of_ble_eq_true rfl⟩, hts _ w_510, trivial⟩) ⟨mp_blind, fun U hU hW => ⟨rfl, hU, by rw [hU]; exact hPc, va_K.moved hW.alike hKc, hDc.weaken (fun _ _ _ _ => trivial)⟩⟩ rfl rfl hl.1 rfl (lv_room (Nat.le_of_ble_eq_true rfl)) d_JsonReader_number_25 ⟨Nat.le_of_ble_eq_true rfl, Nat.le_of_ble_eq_true rfl⟩) hS (fun q _ h => hFc q h) hFc (fun d29 _u t9 H1 locs ht hvm hw hB hz1 hk1 hS => ?_)
    obtain ⟨hP1, hK1, hD1⟩ := hB
    rw [ht] at hP1
    obtain ⟨hP, hD⟩ := va_join (wr := [(jr, .inr (1, [.ref h0, .int dp, .int md, va_rf la])), (h0, .inr (8, [.ref qb, .ref qu, .int uc, .int ln, .int (nI n), .int (nI i), .int pl])), (qb, .inl (cB, 4096, .inl bf)), (qu, .inl (cI, 4096, .inl ug))]) (w1 := []) hP hD [] [0, 1, 2, 3] rfl rfl (by decide) (by decide) hk1 hFc hP1 hD1
    generalize H1 = H at hP hS ⊢
    have hP : va_P (dC, dI) classes ([(jr, .inr (1, [.ref h0, .int dp, .int md, va_rf la])), (h0, .inr (8, [.ref qb, .ref qu, .int uc, .int ln, .int (nI n), .int (nI i), .int pl])), (qb, .inl (cB, 4096, .inl bf)), (qu, .inl (cI, 4096, .inl ug))]) H := hP
    have hD : va_D A ([(jr, .inr (1, [.ref h0, .int dp, .int md, va_rf la])), (h0, .inr (8, [.ref qb, .ref qu, .int uc, .int ln, .int (nI n), .int (nI i), .int pl])), (qb, .inl (cB, 4096, .inl bf)), (qu, .inl (cI, 4096, .inl ug))]) := hD
    have hd29 : d29 = if 48 ≤ h28 ∧ h28 ≤ 57 then 1 else 0 := hw
    refine lv_if_ne (tgt := 45) hx hb d_JsonReader_number_28 (by decide) (fun c28 => ?_) (fun c28 => ?_)
    · have hdh := dig_here hbf h_h28 (Classical.byContradiction (fun h9 => c28 (by rw [hd29, if_neg h9])))
      have hdl := hdh.1
      have hdg9 : digH (hereV bf n i) := by rw [← h_h28]; exact (dg_01 hd29).1 c28
      refine lv_aload_n hx hb d_JsonReader_number_45 rfl (lv_at hl 2 rfl) ?_
      refine va_get (D := (dC, dI)) (ci := 1) (v := .ref h0) (C := R_JsonReader) (T := F_JsonReader) (N := 4) hx hb hts in_JsonReader hown hK hP 0 rfl rfl 0 (by decide) (hts _ w_80) (fun _ h9 => h9) rfl d_JsonReader_number_46 ?_
      refine lv_bipush (v := 48) hx hb d_JsonReader_number_49 (by decide) ?_
      have hPc := hP.sub (ws' := [(h0, .inr (8, [.ref qb, .ref qu, .int uc, .int ln, .int (nI n), .int (nI i), .int pl])), (qb, .inl (cB, 4096, .inl bf))]) [1, 2] rfl
      have hDc := hD.sub (ws' := [(h0, .inr (8, [.ref qb, .ref qu, .int uc, .int ln, .int (nI n), .int (nI i), .int pl])), (qb, .inl (cB, 4096, .inl bf))]) [1, 2] (by decide) rfl
      have hFc := va_free (wc := [(h0, .inr (8, [.ref qb, .ref qu, .int uc, .int ln, .int (nI n), .int (nI i), .int pl])), (qb, .inl (cB, 4096, .inl bf))]) hD hS hA [1, 2] rfl
      have hKc := hK.sub (tys' := [(cB, .byte)]) [0] rfl
      refine va_calli (va_runV (As := [.int 48]) (rest := []) ⟨hx, hb, hml, hown, hts⟩ (c_Tape_takeIf l dC dI cB h0 qb H (.ref qu) uc ln pl bf n i 48 hn0 (by omega)) (cwV 1 hts (gt_V (own := R_JsonReader) (C := R_Tape) (i := 95) (y := y_Tape_takeIf) i_Tape_takeIf z_392 z_393 z_394 w_2) rfl rfl rfl (by decide +kernel) ⟨Nat.le_of_ble_eq_true rfl, Nat.le_of_ble_eq_true rfl⟩) ⟨mp_blind, va_recv hK hP (ci := 8) (q0 := 1) rfl rfl, fun U hU hW => ⟨rfl, hU, by rw [hU]; exact hPc, va_K.moved hW.alike hKc, hDc.weaken (fun _ _ _ _ => trivial)⟩⟩ rfl rfl hl.1 rfl (lv_room (Nat.le_of_ble_eq_true rfl)) d_JsonReader_number_51 ⟨Nat.le_of_ble_eq_true rfl, Nat.le_of_ble_eq_true rfl⟩) hS (fun q _ h => hFc q h) hFc (fun r30 u30 t9 H1 locs ht hvm hw hB hz1 hk1 hS => ?_)
      obtain ⟨hP1, hK1, hD1⟩ := hB
      rw [ht] at hP1
      obtain ⟨hP, hD⟩ := va_join (wr := [(jr, .inr (1, [.ref h0, .int dp, .int md, va_rf la])), (qu, .inl (cI, 4096, .inl ug))]) (w1 := [(h0, .inr (8, [.ref qb, .ref qu, .int uc, .int ln, .int (nI n), .int (nI u30), .int pl])), (qb, .inl (cB, 4096, .inl bf))]) hP hD [1, 2] [0, 3] rfl rfl (by decide) (by decide) hk1 hFc hP1 hD1
      generalize H1 = H at hP hS ⊢
      have hP : va_P (dC, dI) classes ([(jr, .inr (1, [.ref h0, .int dp, .int md, va_rf la])), (qu, .inl (cI, 4096, .inl ug)), (h0, .inr (8, [.ref qb, .ref qu, .int uc, .int ln, .int (nI n), .int (nI u30), .int pl])), (qb, .inl (cB, 4096, .inl bf))]) H := hP
      have hD : va_D A ([(jr, .inr (1, [.ref h0, .int dp, .int md, va_rf la])), (qu, .inl (cI, 4096, .inl ug)), (h0, .inr (8, [.ref qb, .ref qu, .int uc, .int ln, .int (nI n), .int (nI u30), .int pl])), (qb, .inl (cB, 4096, .inl bf))]) := hD
      have hP := hP.sub (ws' := [(jr, .inr (1, [.ref h0, .int dp, .int md, va_rf la])), (h0, .inr (8, [.ref qb, .ref qu, .int uc, .int ln, .int (nI n), .int (nI u30), .int pl])), (qb, .inl (cB, 4096, .inl bf)), (qu, .inl (cI, 4096, .inl ug))]) [0, 2, 3, 1] rfl
      have hD := hD.sub (ws' := [(jr, .inr (1, [.ref h0, .int dp, .int md, va_rf la])), (h0, .inr (8, [.ref qb, .ref qu, .int uc, .int ln, .int (nI n), .int (nI u30), .int pl])), (qb, .inl (cB, 4096, .inl bf)), (qu, .inl (cI, 4096, .inl ug))]) [0, 2, 3, 1] (by decide) rfl
      rcases hw with ⟨ht30, hr30, hu30⟩ | ⟨ht30, hr30, hu30⟩
      · have hu30 : u30 = i + 1 := hu30
        subst hr30
        rw [hu30] at hP hD
        have hl30 := here_lc ht30 (by decide)
        have hP : va_P (dC, dI) classes ([(jr, .inr (1, [.ref h0, .int dp, .int md, va_rf la])), (h0, .inr (8, [.ref qb, .ref qu, .int uc, .int ln, .int (nI n), .int (nI (i + 1)), .int pl])), (qb, .inl (cB, 4096, .inl bf)), (qu, .inl (cI, 4096, .inl ug))]) H := hP
        have hD : va_D A ([(jr, .inr (1, [.ref h0, .int dp, .int md, va_rf la])), (h0, .inr (8, [.ref qb, .ref qu, .int uc, .int ln, .int (nI n), .int (nI (i + 1)), .int pl])), (qb, .inl (cB, 4096, .inl bf)), (qu, .inl (cI, 4096, .inl ug))]) := hD
        have hg9 := dgJ_0 ht30
        have hm9 : (0 : Int64) ≤ 9007199254740991 := by decide
        refine lv_if_eq (tgt := 61) hx hb d_JsonReader_number_54 (by decide) (fun h => absurd h (by decide)) (fun _ => ?_)
        refine lv_lconst (v := 0) hx hb d_JsonReader_number_57 (by decide) ?_
        refine lv_goto (tgt := 69) hx hb d_JsonReader_number_58 (by decide) ?_
        refine lv_lstore_n (lv' := [(3, .long 0), (2, .int 0), (1, .int (nI i)), (0, .ref jr)]) hx hb d_JsonReader_number_69 rfl hl (by decide) rfl (fun ls hl => ?_)
        refine lv_aload_n hx hb d_JsonReader_number_70 rfl (lv_at hl 3 rfl) ?_
        refine va_get (D := (dC, dI)) (ci := 1) (v := .ref h0) (C := R_JsonReader) (T := F_JsonReader) (N := 4) hx hb hts in_JsonReader hown hK hP 0 rfl rfl 0 (by decide) (hts _ w_80) (fun _ h9 => h9) rfl d_JsonReader_number_71 ?_
        have hPc := hP.sub (ws' := [(h0, .inr (8, [.ref qb, .ref qu, .int uc, .int ln, .int (nI n), .int (nI (i + 1)), .int pl])), (qb, .inl (cB, 4096, .inl bf))]) [1, 2] rfl
        have hDc := hD.sub (ws' := [(h0, .inr (8, [.ref qb, .ref qu, .int uc, .int ln, .int (nI n), .int (nI (i + 1)), .int pl])), (qb, .inl (cB, 4096, .inl bf))]) [1, 2] (by decide) rfl
        have hFc := va_free (wc := [(h0, .inr (8, [.ref qb, .ref qu, .int uc, .int ln, .int (nI n), .int (nI (i + 1)), .int pl])), (qb, .inl (cB, 4096, .inl bf))]) hD hS hA [1, 2] rfl
        have hKc := hK.sub (tys' := [(cB, .byte)]) [0] rfl
        refine va_calli (va_runV (As := []) (rest := []) ⟨hx, hb, hml, hown, hts⟩ (c_Tape_here l dC dI cB h0 qb H (.ref qu) uc ln pl bf n ((i + 1)) hn0 (by omega)) (cwV 0 hts (gt_V (own := R_JsonReader) (C := R_Tape) (i := 49) (y := y_Tape_here) i_Tape_here z_362 w_363 w_364 w_2) rfl rfl rfl (by decide +kernel) ⟨Nat.le_of_ble_eq_true rfl, Nat.le_of_ble_eq_true rfl⟩) ⟨mp_blind, va_recv hK hP (ci := 8) (q0 := 1) rfl rfl, fun U hU hW => ⟨rfl, hU, by rw [hU]; exact hPc, va_K.moved hW.alike hKc, hDc.weaken (fun _ _ _ _ => trivial)⟩⟩ rfl rfl hl.1 rfl (lv_room (Nat.le_of_ble_eq_true rfl)) d_JsonReader_number_74 ⟨Nat.le_of_ble_eq_true rfl, Nat.le_of_ble_eq_true rfl⟩) hS (fun q _ h => hFc q h) hFc (fun h31 _u t9 H1 locs ht hvm hw hB hz1 hk1 hS => ?_)
        obtain ⟨hP1, hK1, hD1⟩ := hB
        rw [ht] at hP1
        obtain ⟨hP, hD⟩ := va_join (wr := [(jr, .inr (1, [.ref h0, .int dp, .int md, va_rf la])), (qu, .inl (cI, 4096, .inl ug))]) (w1 := [(h0, .inr (8, [.ref qb, .ref qu, .int uc, .int ln, .int (nI n), .int (nI (i + 1)), .int pl])), (qb, .inl (cB, 4096, .inl bf))]) hP hD [1, 2] [0, 3] rfl rfl (by decide) (by decide) hk1 hFc hP1 hD1
        generalize H1 = H at hP hS ⊢
        have hP : va_P (dC, dI) classes ([(jr, .inr (1, [.ref h0, .int dp, .int md, va_rf la])), (qu, .inl (cI, 4096, .inl ug)), (h0, .inr (8, [.ref qb, .ref qu, .int uc, .int ln, .int (nI n), .int (nI (i + 1)), .int pl])), (qb, .inl (cB, 4096, .inl bf))]) H := hP
        have hD : va_D A ([(jr, .inr (1, [.ref h0, .int dp, .int md, va_rf la])), (qu, .inl (cI, 4096, .inl ug)), (h0, .inr (8, [.ref qb, .ref qu, .int uc, .int ln, .int (nI n), .int (nI (i + 1)), .int pl])), (qb, .inl (cB, 4096, .inl bf))]) := hD
        have hP := hP.sub (ws' := [(jr, .inr (1, [.ref h0, .int dp, .int md, va_rf la])), (h0, .inr (8, [.ref qb, .ref qu, .int uc, .int ln, .int (nI n), .int (nI (i + 1)), .int pl])), (qb, .inl (cB, 4096, .inl bf)), (qu, .inl (cI, 4096, .inl ug))]) [0, 2, 3, 1] rfl
        have hD := hD.sub (ws' := [(jr, .inr (1, [.ref h0, .int dp, .int md, va_rf la])), (h0, .inr (8, [.ref qb, .ref qu, .int uc, .int ln, .int (nI n), .int (nI (i + 1)), .int pl])), (qb, .inl (cB, 4096, .inl bf)), (qu, .inl (cI, 4096, .inl ug))]) [0, 2, 3, 1] (by decide) rfl
        have h_h31 : h31 = hereV bf n ((i + 1)) := hw
        refine lv_istore (lv' := [(5, .int h31), (3, .long 0), (2, .int 0), (1, .int (nI i)), (0, .ref jr)]) hx hb d_JsonReader_number_77 hl (by decide) rfl (fun ls hl => ?_)
        refine lv_iload hx hb d_JsonReader_number_79 (lv_at hl 0 rfl) ?_
        refine lv_bipush (v := 46) hx hb d_JsonReader_number_81 (by decide) ?_
        refine lv_icmp_eq (tgt := 100) hx hb d_JsonReader_number_83 (by decide) (fun c83 => ?_) (fun c83 => ?_)
        · refine lv_aload_n hx hb d_JsonReader_number_100 rfl (lv_at hl 4 rfl) ?_
          refine va_get (D := (dC, dI)) (ci := 1) (v := .ref h0) (C := R_JsonReader) (T := F_JsonReader) (N := 4) hx hb hts in_JsonReader hown hK hP 0 rfl rfl 0 (by decide) (hts _ w_80) (fun _ h9 => h9) rfl d_JsonReader_number_101 ?_
          refine lv_iload_n hx hb d_JsonReader_number_104 rfl (lv_at hl 3 rfl) ?_
          have hPc := hP.sub (ws' := [(h0, .inr (8, [.ref qb, .ref qu, .int uc, .int ln, .int (nI n), .int (nI (i + 1)), .int pl])), (qb, .inl (cB, 4096, .inl bf))]) [1, 2] rfl
          have hDc := hD.sub (ws' := [(h0, .inr (8, [.ref qb, .ref qu, .int uc, .int ln, .int (nI n), .int (nI (i + 1)), .int pl])), (qb, .inl (cB, 4096, .inl bf))]) [1, 2] (by decide) rfl
          have hFc := va_free (wc := [(h0, .inr (8, [.ref qb, .ref qu, .int uc, .int ln, .int (nI n), .int (nI (i + 1)), .int pl])), (qb, .inl (cB, 4096, .inl bf))]) hD hS hA [1, 2] rfl
          have hKc := hK.sub (tys' := [(cB, .byte)]) [0] rfl
          refine w_same (fun hq0 => ?_)
          refine vx_callv (vx_runV (As := [.int (nI i)]) (rest := []) ⟨hx, hb, hml, hown, hts⟩ (c_Tape_fail l hl9 dC dI cB h0 qb H (.ref qu) uc ln (nI n) (nI ((i + 1))) pl bf ((nI i))) (cwV 1 hts (gt_V (own := R_JsonReader) (C := R_Tape) (i := 38) (y := y_Tape_fail) i_Tape_fail z_370 w_371 w_372 w_2) rfl rfl rfl (by decide +kernel) ⟨Nat.le_of_ble_eq_true rfl, Nat.le_of_ble_eq_true rfl⟩) ⟨mx_blind, va_recv hK hP (ci := 8) (q0 := 1) rfl rfl, fun U hU hW => ⟨rfl, ⟨hU, by rw [hU]; exact hPc, va_K.moved hW.alike hKc, hDc.weaken (fun _ _ _ _ => trivial)⟩, hN.warm hW, by rw [hU]; exact ZX.moved' hW.alike (ZX.narrow' (ZX.kept' hZ hS.2.1) hFc)⟩⟩ rfl rfl hl.1 rfl (lv_room (Nat.le_of_ble_eq_true rfl)) d_JsonReader_number_105 ⟨Nat.le_of_ble_eq_true rfl, Nat.le_of_ble_eq_true rfl⟩) hS (fun q _ h => hFc q h) hFc (fun q _ h => hFc q h) (fun En ce q9 _u t9 H1 locs ht hvm hw hB hz1 hk1 hS hce hcv hcl => ?_) (fun _u t9 H1 locs ht hvm hw hB hz1 hk1 hS => ?_)
          · obtain ⟨hEn, hP1, hK1, hD1⟩ := hB
            rw [ht] at hP1
            obtain ⟨hP, hD⟩ := va_join (wr := [(jr, .inr (1, [.ref h0, .int dp, .int md, va_rf la])), (qu, .inl (cI, 4096, .inl ug))]) (w1 := [(h0, .inr (8, [.ref qb, .ref qu, .int uc, .int ln, .int (nI n), .int (nI (i + 1)), .int (nI i)])), (qb, .inl (cB, 4096, .inl bf))]) hP hD [1, 2] [0, 3] rfl rfl (by decide) (by decide) hk1 hFc hP1 hD1
            generalize H1 = H at hP hS hce ⊢
            have hP : va_P (dC, dI) classes ([(jr, .inr (1, [.ref h0, .int dp, .int md, va_rf la])), (qu, .inl (cI, 4096, .inl ug)), (h0, .inr (8, [.ref qb, .ref qu, .int uc, .int ln, .int (nI n), .int (nI (i + 1)), .int (nI i)])), (qb, .inl (cB, 4096, .inl bf))]) H := hP
            have hD : va_D A ([(jr, .inr (1, [.ref h0, .int dp, .int md, va_rf la])), (qu, .inl (cI, 4096, .inl ug)), (h0, .inr (8, [.ref qb, .ref qu, .int uc, .int ln, .int (nI n), .int (nI (i + 1)), .int (nI i)])), (qb, .inl (cB, 4096, .inl bf))]) := hD
            have hP := hP.sub (ws' := [(jr, .inr (1, [.ref h0, .int dp, .int md, va_rf la])), (h0, .inr (8, [.ref qb, .ref qu, .int uc, .int ln, .int (nI n), .int (nI (i + 1)), .int (nI i)])), (qb, .inl (cB, 4096, .inl bf)), (qu, .inl (cI, 4096, .inl ug))]) [0, 2, 3, 1] rfl
            have hD := hD.sub (ws' := [(jr, .inr (1, [.ref h0, .int dp, .int md, va_rf la])), (h0, .inr (8, [.ref qb, .ref qu, .int uc, .int ln, .int (nI n), .int (nI (i + 1)), .int (nI i)])), (qb, .inl (cB, 4096, .inl bf)), (qu, .inl (cI, 4096, .inl ug))]) [0, 2, 3, 1] (by decide) rfl
            have hno : jN bf n i = none := (jN_p ht21).trans (jNb_beh hg9 (Or.inl (h_h31.symm.trans c83)))
            exact vx_out (fun x hx => (hex x hx).elim) hlocks hce hcv hcl (fun t9 ht2 ha => ⟨(nI (i + 1), uc, (nI i), ug), hno, ⟨hEn, by rw [ht2]; exact hP, va_K.moved ha hK, hD⟩, hS.F ht2⟩) hS.2.2 (Nat.le_of_ble_eq_true rfl) (Nat.le_of_ble_eq_true rfl)
          · obtain ⟨⟨hP1, hK1, hD1⟩, hz9⟩ := hB
            rw [ht] at hP1
            rw [ht] at hz9
            refine w_tight (hq0.trans hz9) ?_
            have hq0 := hq0.trans hz9
            obtain ⟨hP, hD⟩ := va_join (wr := [(jr, .inr (1, [.ref h0, .int dp, .int md, va_rf la])), (qu, .inl (cI, 4096, .inl ug))]) (w1 := [(h0, .inr (8, [.ref qb, .ref qu, .int uc, .int ln, .int (nI n), .int (nI (i + 1)), .int pl])), (qb, .inl (cB, 4096, .inl bf))]) hP hD [1, 2] [0, 3] rfl rfl (by decide) (by decide) hk1 hFc hP1 hD1
            generalize H1 = H at hP hS hq0 ⊢
            have hP : va_P (dC, dI) classes ([(jr, .inr (1, [.ref h0, .int dp, .int md, va_rf la])), (qu, .inl (cI, 4096, .inl ug)), (h0, .inr (8, [.ref qb, .ref qu, .int uc, .int ln, .int (nI n), .int (nI (i + 1)), .int pl])), (qb, .inl (cB, 4096, .inl bf))]) H := hP
            have hD : va_D A ([(jr, .inr (1, [.ref h0, .int dp, .int md, va_rf la])), (qu, .inl (cI, 4096, .inl ug)), (h0, .inr (8, [.ref qb, .ref qu, .int uc, .int ln, .int (nI n), .int (nI (i + 1)), .int pl])), (qb, .inl (cB, 4096, .inl bf))]) := hD
            have hP := hP.sub (ws' := [(jr, .inr (1, [.ref h0, .int dp, .int md, va_rf la])), (h0, .inr (8, [.ref qb, .ref qu, .int uc, .int ln, .int (nI n), .int (nI (i + 1)), .int pl])), (qb, .inl (cB, 4096, .inl bf)), (qu, .inl (cI, 4096, .inl ug))]) [0, 2, 3, 1] rfl
            have hD := hD.sub (ws' := [(jr, .inr (1, [.ref h0, .int dp, .int md, va_rf la])), (h0, .inr (8, [.ref qb, .ref qu, .int uc, .int ln, .int (nI n), .int (nI (i + 1)), .int pl])), (qb, .inl (cB, 4096, .inl bf)), (qu, .inl (cI, 4096, .inl ug))]) [0, 2, 3, 1] (by decide) rfl
            exact hw.elim
        · refine lv_iload hx hb d_JsonReader_number_86 (lv_at hl 0 rfl) ?_
          refine lv_bipush (v := 101) hx hb d_JsonReader_number_88 (by decide) ?_
          refine lv_icmp_eq (tgt := 100) hx hb d_JsonReader_number_90 (by decide) (fun c90 => ?_) (fun c90 => ?_)
          · refine lv_aload_n hx hb d_JsonReader_number_100 rfl (lv_at hl 4 rfl) ?_
            refine va_get (D := (dC, dI)) (ci := 1) (v := .ref h0) (C := R_JsonReader) (T := F_JsonReader) (N := 4) hx hb hts in_JsonReader hown hK hP 0 rfl rfl 0 (by decide) (hts _ w_80) (fun _ h9 => h9) rfl d_JsonReader_number_101 ?_
            refine lv_iload_n hx hb d_JsonReader_number_104 rfl (lv_at hl 3 rfl) ?_
            have hPc := hP.sub (ws' := [(h0, .inr (8, [.ref qb, .ref qu, .int uc, .int ln, .int (nI n), .int (nI (i + 1)), .int pl])), (qb, .inl (cB, 4096, .inl bf))]) [1, 2] rfl
            have hDc := hD.sub (ws' := [(h0, .inr (8, [.ref qb, .ref qu, .int uc, .int ln, .int (nI n), .int (nI (i + 1)), .int pl])), (qb, .inl (cB, 4096, .inl bf))]) [1, 2] (by decide) rfl
            have hFc := va_free (wc := [(h0, .inr (8, [.ref qb, .ref qu, .int uc, .int ln, .int (nI n), .int (nI (i + 1)), .int pl])), (qb, .inl (cB, 4096, .inl bf))]) hD hS hA [1, 2] rfl
            have hKc := hK.sub (tys' := [(cB, .byte)]) [0] rfl
            refine w_same (fun hq0 => ?_)
            refine vx_callv (vx_runV (As := [.int (nI i)]) (rest := []) ⟨hx, hb, hml, hown, hts⟩ (c_Tape_fail l hl9 dC dI cB h0 qb H (.ref qu) uc ln (nI n) (nI ((i + 1))) pl bf ((nI i))) (cwV 1 hts (gt_V (own := R_JsonReader) (C := R_Tape) (i := 38) (y := y_Tape_fail) i_Tape_fail z_370 w_371 w_372 w_2) rfl rfl rfl (by decide +kernel) ⟨Nat.le_of_ble_eq_true rfl, Nat.le_of_ble_eq_true rfl⟩) ⟨mx_blind, va_recv hK hP (ci := 8) (q0 := 1) rfl rfl, fun U hU hW => ⟨rfl, ⟨hU, by rw [hU]; exact hPc, va_K.moved hW.alike hKc, hDc.weaken (fun _ _ _ _ => trivial)⟩, hN.warm hW, by rw [hU]; exact ZX.moved' hW.alike (ZX.narrow' (ZX.kept' hZ hS.2.1) hFc)⟩⟩ rfl rfl hl.1 rfl (lv_room (Nat.le_of_ble_eq_true rfl)) d_JsonReader_number_105 ⟨Nat.le_of_ble_eq_true rfl, Nat.le_of_ble_eq_true rfl⟩) hS (fun q _ h => hFc q h) hFc (fun q _ h => hFc q h) (fun En ce q9 _u t9 H1 locs ht hvm hw hB hz1 hk1 hS hce hcv hcl => ?_) (fun _u t9 H1 locs ht hvm hw hB hz1 hk1 hS => ?_)
            · obtain ⟨hEn, hP1, hK1, hD1⟩ := hB
              rw [ht] at hP1
              obtain ⟨hP, hD⟩ := va_join (wr := [(jr, .inr (1, [.ref h0, .int dp, .int md, va_rf la])), (qu, .inl (cI, 4096, .inl ug))]) (w1 := [(h0, .inr (8, [.ref qb, .ref qu, .int uc, .int ln, .int (nI n), .int (nI (i + 1)), .int (nI i)])), (qb, .inl (cB, 4096, .inl bf))]) hP hD [1, 2] [0, 3] rfl rfl (by decide) (by decide) hk1 hFc hP1 hD1
              generalize H1 = H at hP hS hce ⊢
              have hP : va_P (dC, dI) classes ([(jr, .inr (1, [.ref h0, .int dp, .int md, va_rf la])), (qu, .inl (cI, 4096, .inl ug)), (h0, .inr (8, [.ref qb, .ref qu, .int uc, .int ln, .int (nI n), .int (nI (i + 1)), .int (nI i)])), (qb, .inl (cB, 4096, .inl bf))]) H := hP
              have hD : va_D A ([(jr, .inr (1, [.ref h0, .int dp, .int md, va_rf la])), (qu, .inl (cI, 4096, .inl ug)), (h0, .inr (8, [.ref qb, .ref qu, .int uc, .int ln, .int (nI n), .int (nI (i + 1)), .int (nI i)])), (qb, .inl (cB, 4096, .inl bf))]) := hD
              have hP := hP.sub (ws' := [(jr, .inr (1, [.ref h0, .int dp, .int md, va_rf la])), (h0, .inr (8, [.ref qb, .ref qu, .int uc, .int ln, .int (nI n), .int (nI (i + 1)), .int (nI i)])), (qb, .inl (cB, 4096, .inl bf)), (qu, .inl (cI, 4096, .inl ug))]) [0, 2, 3, 1] rfl
              have hD := hD.sub (ws' := [(jr, .inr (1, [.ref h0, .int dp, .int md, va_rf la])), (h0, .inr (8, [.ref qb, .ref qu, .int uc, .int ln, .int (nI n), .int (nI (i + 1)), .int (nI i)])), (qb, .inl (cB, 4096, .inl bf)), (qu, .inl (cI, 4096, .inl ug))]) [0, 2, 3, 1] (by decide) rfl
              have hno : jN bf n i = none := (jN_p ht21).trans (jNb_beh hg9 (Or.inr (Or.inl (h_h31.symm.trans c90))))
              exact vx_out (fun x hx => (hex x hx).elim) hlocks hce hcv hcl (fun t9 ht2 ha => ⟨(nI (i + 1), uc, (nI i), ug), hno, ⟨hEn, by rw [ht2]; exact hP, va_K.moved ha hK, hD⟩, hS.F ht2⟩) hS.2.2 (Nat.le_of_ble_eq_true rfl) (Nat.le_of_ble_eq_true rfl)
            · obtain ⟨⟨hP1, hK1, hD1⟩, hz9⟩ := hB
              rw [ht] at hP1
              rw [ht] at hz9
              refine w_tight (hq0.trans hz9) ?_
              have hq0 := hq0.trans hz9
              obtain ⟨hP, hD⟩ := va_join (wr := [(jr, .inr (1, [.ref h0, .int dp, .int md, va_rf la])), (qu, .inl (cI, 4096, .inl ug))]) (w1 := [(h0, .inr (8, [.ref qb, .ref qu, .int uc, .int ln, .int (nI n), .int (nI (i + 1)), .int pl])), (qb, .inl (cB, 4096, .inl bf))]) hP hD [1, 2] [0, 3] rfl rfl (by decide) (by decide) hk1 hFc hP1 hD1
              generalize H1 = H at hP hS hq0 ⊢
              have hP : va_P (dC, dI) classes ([(jr, .inr (1, [.ref h0, .int dp, .int md, va_rf la])), (qu, .inl (cI, 4096, .inl ug)), (h0, .inr (8, [.ref qb, .ref qu, .int uc, .int ln, .int (nI n), .int (nI (i + 1)), .int pl])), (qb, .inl (cB, 4096, .inl bf))]) H := hP
              have hD : va_D A ([(jr, .inr (1, [.ref h0, .int dp, .int md, va_rf la])), (qu, .inl (cI, 4096, .inl ug)), (h0, .inr (8, [.ref qb, .ref qu, .int uc, .int ln, .int (nI n), .int (nI (i + 1)), .int pl])), (qb, .inl (cB, 4096, .inl bf))]) := hD
              have hP := hP.sub (ws' := [(jr, .inr (1, [.ref h0, .int dp, .int md, va_rf la])), (h0, .inr (8, [.ref qb, .ref qu, .int uc, .int ln, .int (nI n), .int (nI (i + 1)), .int pl])), (qb, .inl (cB, 4096, .inl bf)), (qu, .inl (cI, 4096, .inl ug))]) [0, 2, 3, 1] rfl
              have hD := hD.sub (ws' := [(jr, .inr (1, [.ref h0, .int dp, .int md, va_rf la])), (h0, .inr (8, [.ref qb, .ref qu, .int uc, .int ln, .int (nI n), .int (nI (i + 1)), .int pl])), (qb, .inl (cB, 4096, .inl bf)), (qu, .inl (cI, 4096, .inl ug))]) [0, 2, 3, 1] (by decide) rfl
              exact hw.elim
          · refine lv_iload hx hb d_JsonReader_number_93 (lv_at hl 0 rfl) ?_
            refine lv_bipush (v := 69) hx hb d_JsonReader_number_95 (by decide) ?_
            refine lv_icmp_ne (tgt := 108) hx hb d_JsonReader_number_97 (by decide) (fun c97 => ?_) (fun c97 => ?_)
            · refine lv_iload_n hx hb d_JsonReader_number_108 rfl (lv_at hl 2 rfl) ?_
              refine lv_if_eq (tgt := 117) hx hb d_JsonReader_number_109 (by decide) (fun _ => ?_) (fun h => absurd (by decide) h)
              refine lv_lload_n hx hb d_JsonReader_number_117 rfl (lv_at hl 1 rfl) ?_
              have hok : jN bf n i = some (0, (i + 1)) := (jN_p ht21).trans (jNb_ok hdg9 hg9 hm9 (fun e => c83 (h_h31.trans e)) (fun e => c90 (h_h31.trans e)) (fun e => c97 (h_h31.trans e)))
              refine w_same (fun hq => ?_)
              refine W.widen (k := 1) (n := 6) (Nat.le_of_ble_eq_true rfl) (Nat.le_of_ble_eq_true rfl) ?_
              refine vx_ret ?_
              exact W.lret (v := 0) hx hb hr (fun t9 ht hW => ⟨⟨0, (i + 1), rfl, ⟨by show i < (i + 1); omega, by show (i + 1) ≤ n; omega, hok⟩, ⟨by rw [ht]; exact hP, va_K.moved hW.alike hK, hD⟩, by rw [ht]; exact hq⟩, hS.F ht⟩) hS.2.2 d_JsonReader_number_118
            · refine lv_aload_n hx hb d_JsonReader_number_100 rfl (lv_at hl 4 rfl) ?_
              refine va_get (D := (dC, dI)) (ci := 1) (v := .ref h0) (C := R_JsonReader) (T := F_JsonReader) (N := 4) hx hb hts in_JsonReader hown hK hP 0 rfl rfl 0 (by decide) (hts _ w_80) (fun _ h9 => h9) rfl d_JsonReader_number_101 ?_
              refine lv_iload_n hx hb d_JsonReader_number_104 rfl (lv_at hl 3 rfl) ?_
              have hPc := hP.sub (ws' := [(h0, .inr (8, [.ref qb, .ref qu, .int uc, .int ln, .int (nI n), .int (nI (i + 1)), .int pl])), (qb, .inl (cB, 4096, .inl bf))]) [1, 2] rfl
              have hDc := hD.sub (ws' := [(h0, .inr (8, [.ref qb, .ref qu, .int uc, .int ln, .int (nI n), .int (nI (i + 1)), .int pl])), (qb, .inl (cB, 4096, .inl bf))]) [1, 2] (by decide) rfl
              have hFc := va_free (wc := [(h0, .inr (8, [.ref qb, .ref qu, .int uc, .int ln, .int (nI n), .int (nI (i + 1)), .int pl])), (qb, .inl (cB, 4096, .inl bf))]) hD hS hA [1, 2] rfl
              have hKc := hK.sub (tys' := [(cB, .byte)]) [0] rfl
              refine w_same (fun hq0 => ?_)
              refine vx_callv (vx_runV (As := [.int (nI i)]) (rest := []) ⟨hx, hb, hml, hown, hts⟩ (c_Tape_fail l hl9 dC dI cB h0 qb H (.ref qu) uc ln (nI n) (nI ((i + 1))) pl bf ((nI i))) (cwV 1 hts (gt_V (own := R_JsonReader) (C := R_Tape) (i := 38) (y := y_Tape_fail) i_Tape_fail z_370 w_371 w_372 w_2) rfl rfl rfl (by decide +kernel) ⟨Nat.le_of_ble_eq_true rfl, Nat.le_of_ble_eq_true rfl⟩) ⟨mx_blind, va_recv hK hP (ci := 8) (q0 := 1) rfl rfl, fun U hU hW => ⟨rfl, ⟨hU, by rw [hU]; exact hPc, va_K.moved hW.alike hKc, hDc.weaken (fun _ _ _ _ => trivial)⟩, hN.warm hW, by rw [hU]; exact ZX.moved' hW.alike (ZX.narrow' (ZX.kept' hZ hS.2.1) hFc)⟩⟩ rfl rfl hl.1 rfl (lv_room (Nat.le_of_ble_eq_true rfl)) d_JsonReader_number_105 ⟨Nat.le_of_ble_eq_true rfl, Nat.le_of_ble_eq_true rfl⟩) hS (fun q _ h => hFc q h) hFc (fun q _ h => hFc q h) (fun En ce q9 _u t9 H1 locs ht hvm hw hB hz1 hk1 hS hce hcv hcl => ?_) (fun _u t9 H1 locs ht hvm hw hB hz1 hk1 hS => ?_)
              · obtain ⟨hEn, hP1, hK1, hD1⟩ := hB
                rw [ht] at hP1
                obtain ⟨hP, hD⟩ := va_join (wr := [(jr, .inr (1, [.ref h0, .int dp, .int md, va_rf la])), (qu, .inl (cI, 4096, .inl ug))]) (w1 := [(h0, .inr (8, [.ref qb, .ref qu, .int uc, .int ln, .int (nI n), .int (nI (i + 1)), .int (nI i)])), (qb, .inl (cB, 4096, .inl bf))]) hP hD [1, 2] [0, 3] rfl rfl (by decide) (by decide) hk1 hFc hP1 hD1
                generalize H1 = H at hP hS hce ⊢
                have hP : va_P (dC, dI) classes ([(jr, .inr (1, [.ref h0, .int dp, .int md, va_rf la])), (qu, .inl (cI, 4096, .inl ug)), (h0, .inr (8, [.ref qb, .ref qu, .int uc, .int ln, .int (nI n), .int (nI (i + 1)), .int (nI i)])), (qb, .inl (cB, 4096, .inl bf))]) H := hP
                have hD : va_D A ([(jr, .inr (1, [.ref h0, .int dp, .int md, va_rf la])), (qu, .inl (cI, 4096, .inl ug)), (h0, .inr (8, [.ref qb, .ref qu, .int uc, .int ln, .int (nI n), .int (nI (i + 1)), .int (nI i)])), (qb, .inl (cB, 4096, .inl bf))]) := hD
                have hP := hP.sub (ws' := [(jr, .inr (1, [.ref h0, .int dp, .int md, va_rf la])), (h0, .inr (8, [.ref qb, .ref qu, .int uc, .int ln, .int (nI n), .int (nI (i + 1)), .int (nI i)])), (qb, .inl (cB, 4096, .inl bf)), (qu, .inl (cI, 4096, .inl ug))]) [0, 2, 3, 1] rfl
                have hD := hD.sub (ws' := [(jr, .inr (1, [.ref h0, .int dp, .int md, va_rf la])), (h0, .inr (8, [.ref qb, .ref qu, .int uc, .int ln, .int (nI n), .int (nI (i + 1)), .int (nI i)])), (qb, .inl (cB, 4096, .inl bf)), (qu, .inl (cI, 4096, .inl ug))]) [0, 2, 3, 1] (by decide) rfl
                have hno : jN bf n i = none := (jN_p ht21).trans (jNb_beh hg9 (Or.inr (Or.inr (h_h31.symm.trans c97))))
                exact vx_out (fun x hx => (hex x hx).elim) hlocks hce hcv hcl (fun t9 ht2 ha => ⟨(nI (i + 1), uc, (nI i), ug), hno, ⟨hEn, by rw [ht2]; exact hP, va_K.moved ha hK, hD⟩, hS.F ht2⟩) hS.2.2 (Nat.le_of_ble_eq_true rfl) (Nat.le_of_ble_eq_true rfl)
              · obtain ⟨⟨hP1, hK1, hD1⟩, hz9⟩ := hB
                rw [ht] at hP1
                rw [ht] at hz9
                refine w_tight (hq0.trans hz9) ?_
                have hq0 := hq0.trans hz9
                obtain ⟨hP, hD⟩ := va_join (wr := [(jr, .inr (1, [.ref h0, .int dp, .int md, va_rf la])), (qu, .inl (cI, 4096, .inl ug))]) (w1 := [(h0, .inr (8, [.ref qb, .ref qu, .int uc, .int ln, .int (nI n), .int (nI (i + 1)), .int pl])), (qb, .inl (cB, 4096, .inl bf))]) hP hD [1, 2] [0, 3] rfl rfl (by decide) (by decide) hk1 hFc hP1 hD1
                generalize H1 = H at hP hS hq0 ⊢
                have hP : va_P (dC, dI) classes ([(jr, .inr (1, [.ref h0, .int dp, .int md, va_rf la])), (qu, .inl (cI, 4096, .inl ug)), (h0, .inr (8, [.ref qb, .ref qu, .int uc, .int ln, .int (nI n), .int (nI (i + 1)), .int pl])), (qb, .inl (cB, 4096, .inl bf))]) H := hP
                have hD : va_D A ([(jr, .inr (1, [.ref h0, .int dp, .int md, va_rf la])), (qu, .inl (cI, 4096, .inl ug)), (h0, .inr (8, [.ref qb, .ref qu, .int uc, .int ln, .int (nI n), .int (nI (i + 1)), .int pl])), (qb, .inl (cB, 4096, .inl bf))]) := hD
                have hP := hP.sub (ws' := [(jr, .inr (1, [.ref h0, .int dp, .int md, va_rf la])), (h0, .inr (8, [.ref qb, .ref qu, .int uc, .int ln, .int (nI n), .int (nI (i + 1)), .int pl])), (qb, .inl (cB, 4096, .inl bf)), (qu, .inl (cI, 4096, .inl ug))]) [0, 2, 3, 1] rfl
                have hD := hD.sub (ws' := [(jr, .inr (1, [.ref h0, .int dp, .int md, va_rf la])), (h0, .inr (8, [.ref qb, .ref qu, .int uc, .int ln, .int (nI n), .int (nI (i + 1)), .int pl])), (qb, .inl (cB, 4096, .inl bf)), (qu, .inl (cI, 4096, .inl ug))]) [0, 2, 3, 1] (by decide) rfl
                exact hw.elim
      · have hu30 : u30 = i := hu30
        subst hr30
        rw [hu30] at hP hD
        have hP : va_P (dC, dI) classes ([(jr, .inr (1, [.ref h0, .int dp, .int md, va_rf la])), (h0, .inr (8, [.ref qb, .ref qu, .int uc, .int ln, .int (nI n), .int (nI i), .int pl])), (qb, .inl (cB, 4096, .inl bf)), (qu, .inl (cI, 4096, .inl ug))]) H := hP
        have hD : va_D A ([(jr, .inr (1, [.ref h0, .int dp, .int md, va_rf la])), (h0, .inr (8, [.ref qb, .ref qu, .int uc, .int ln, .int (nI n), .int (nI i), .int pl])), (qb, .inl (cB, 4096, .inl bf)), (qu, .inl (cI, 4096, .inl ug))]) := hD
        refine lv_if_eq (tgt := 61) hx hb d_JsonReader_number_54 (by decide) (fun _ => ?_) (fun h => absurd (by decide) h)
        refine lv_aload_n hx hb d_JsonReader_number_61 rfl (lv_at hl 2 rfl) ?_
        refine va_get (D := (dC, dI)) (ci := 1) (v := .ref h0) (C := R_JsonReader) (T := F_JsonReader) (N := 4) hx hb hts in_JsonReader hown hK hP 0 rfl rfl 0 (by decide) (hts _ w_80) (fun _ h9 => h9) rfl d_JsonReader_number_62 ?_
        refine lv_iload_n hx hb d_JsonReader_number_65 rfl (lv_at hl 1 rfl) ?_
        have hPc := hP.sub (ws' := [(h0, .inr (8, [.ref qb, .ref qu, .int uc, .int ln, .int (nI n), .int (nI i), .int pl])), (qb, .inl (cB, 4096, .inl bf))]) [1, 2] rfl
        have hDc := hD.sub (ws' := [(h0, .inr (8, [.ref qb, .ref qu, .int uc, .int ln, .int (nI n), .int (nI i), .int pl])), (qb, .inl (cB, 4096, .inl bf))]) [1, 2] (by decide) rfl
        have hFc := va_free (wc := [(h0, .inr (8, [.ref qb, .ref qu, .int uc, .int ln, .int (nI n), .int (nI i), .int pl])), (qb, .inl (cB, 4096, .inl bf))]) hD hS hA [1, 2] rfl
        have hKc := hK.sub (tys' := [(cB, .byte)]) [0] rfl
        refine w_same (fun hq0 => ?_)
        refine vx_calll (vx_runV (As := [.int (nI i)]) (rest := []) ⟨hx, hb, hml, hown, hts⟩ (c_Tape_digits l hl9 dC dI cB h0 qb H (.ref qu) uc ln pl bf n i ((nI i)) hn0 (by omega)) (cwV 1 hts (gt_V (own := R_JsonReader) (C := R_Tape) (i := 102) (y := y_Tape_digits) i_Tape_digits z_512 z_513 z_514 w_2) rfl rfl rfl (by decide +kernel) ⟨Nat.le_of_ble_eq_true rfl, Nat.le_of_ble_eq_true rfl⟩) ⟨mx_blind, va_recv hK hP (ci := 8) (q0 := 1) rfl rfl, fun U hU hW => ⟨rfl, ⟨hU, by rw [hU]; exact hPc, va_K.moved hW.alike hKc, hDc.weaken (fun _ _ _ _ => trivial)⟩, hN.warm hW, by rw [hU]; exact ZX.moved' hW.alike (ZX.narrow' (ZX.kept' hZ hS.2.1) hFc)⟩⟩ rfl rfl hl.1 rfl (lv_room (Nat.le_of_ble_eq_true rfl)) d_JsonReader_number_66 ⟨Nat.le_of_ble_eq_true rfl, Nat.le_of_ble_eq_true rfl⟩) hS (fun q _ h => hFc q h) hFc (fun q _ h => hFc q h) (fun En ce q9 u32 t9 H1 locs ht hvm hw hB hz1 hk1 hS hce hcv hcl => ?_) (fun r32 u32 t9 H1 locs ht hvm hw hB hz1 hk1 hS => ?_)
        · obtain ⟨hEn, hP1, hK1, hD1⟩ := hB
          rw [ht] at hP1
          obtain ⟨hP, hD⟩ := va_join (wr := [(jr, .inr (1, [.ref h0, .int dp, .int md, va_rf la])), (qu, .inl (cI, 4096, .inl ug))]) (w1 := [(h0, .inr (8, [.ref qb, .ref qu, .int uc, .int ln, .int (nI n), .int (nI u32), .int (nI i)])), (qb, .inl (cB, 4096, .inl bf))]) hP hD [1, 2] [0, 3] rfl rfl (by decide) (by decide) hk1 hFc hP1 hD1
          generalize H1 = H at hP hS hce ⊢
          have hP : va_P (dC, dI) classes ([(jr, .inr (1, [.ref h0, .int dp, .int md, va_rf la])), (qu, .inl (cI, 4096, .inl ug)), (h0, .inr (8, [.ref qb, .ref qu, .int uc, .int ln, .int (nI n), .int (nI u32), .int (nI i)])), (qb, .inl (cB, 4096, .inl bf))]) H := hP
          have hD : va_D A ([(jr, .inr (1, [.ref h0, .int dp, .int md, va_rf la])), (qu, .inl (cI, 4096, .inl ug)), (h0, .inr (8, [.ref qb, .ref qu, .int uc, .int ln, .int (nI n), .int (nI u32), .int (nI i)])), (qb, .inl (cB, 4096, .inl bf))]) := hD
          have hP := hP.sub (ws' := [(jr, .inr (1, [.ref h0, .int dp, .int md, va_rf la])), (h0, .inr (8, [.ref qb, .ref qu, .int uc, .int ln, .int (nI n), .int (nI u32), .int (nI i)])), (qb, .inl (cB, 4096, .inl bf)), (qu, .inl (cI, 4096, .inl ug))]) [0, 2, 3, 1] rfl
          have hD := hD.sub (ws' := [(jr, .inr (1, [.ref h0, .int dp, .int md, va_rf la])), (h0, .inr (8, [.ref qb, .ref qu, .int uc, .int ln, .int (nI n), .int (nI u32), .int (nI i)])), (qb, .inl (cB, 4096, .inl bf)), (qu, .inl (cI, 4096, .inl ug))]) [0, 2, 3, 1] (by decide) rfl
          have hno : jN bf n i = none := (jN_p ht21).trans (by obtain ⟨r9, hd9, hm9⟩ := hw; exact jNb_big (dgJ_d ht30 hd9) hm9)
          exact vx_out (fun x hx => (hex x hx).elim) hlocks hce hcv hcl (fun t9 ht2 ha => ⟨(nI u32, uc, (nI i), ug), hno, ⟨hEn, by rw [ht2]; exact hP, va_K.moved ha hK, hD⟩, hS.F ht2⟩) hS.2.2 (Nat.le_of_ble_eq_true rfl) (Nat.le_of_ble_eq_true rfl)
        · obtain ⟨⟨hP1, hK1, hD1⟩, hz9⟩ := hB
          rw [ht] at hP1
          rw [ht] at hz9
          refine w_tight (hq0.trans hz9) ?_
          have hq0 := hq0.trans hz9
          obtain ⟨hP, hD⟩ := va_join (wr := [(jr, .inr (1, [.ref h0, .int dp, .int md, va_rf la])), (qu, .inl (cI, 4096, .inl ug))]) (w1 := [(h0, .inr (8, [.ref qb, .ref qu, .int uc, .int ln, .int (nI n), .int (nI u32), .int pl])), (qb, .inl (cB, 4096, .inl bf))]) hP hD [1, 2] [0, 3] rfl rfl (by decide) (by decide) hk1 hFc hP1 hD1
          generalize H1 = H at hP hS hq0 ⊢
          have hP : va_P (dC, dI) classes ([(jr, .inr (1, [.ref h0, .int dp, .int md, va_rf la])), (qu, .inl (cI, 4096, .inl ug)), (h0, .inr (8, [.ref qb, .ref qu, .int uc, .int ln, .int (nI n), .int (nI u32), .int pl])), (qb, .inl (cB, 4096, .inl bf))]) H := hP
          have hD : va_D A ([(jr, .inr (1, [.ref h0, .int dp, .int md, va_rf la])), (qu, .inl (cI, 4096, .inl ug)), (h0, .inr (8, [.ref qb, .ref qu, .int uc, .int ln, .int (nI n), .int (nI u32), .int pl])), (qb, .inl (cB, 4096, .inl bf))]) := hD
          have hP := hP.sub (ws' := [(jr, .inr (1, [.ref h0, .int dp, .int md, va_rf la])), (h0, .inr (8, [.ref qb, .ref qu, .int uc, .int ln, .int (nI n), .int (nI u32), .int pl])), (qb, .inl (cB, 4096, .inl bf)), (qu, .inl (cI, 4096, .inl ug))]) [0, 2, 3, 1] rfl
          have hD := hD.sub (ws' := [(jr, .inr (1, [.ref h0, .int dp, .int md, va_rf la])), (h0, .inr (8, [.ref qb, .ref qu, .int uc, .int ln, .int (nI n), .int (nI u32), .int pl])), (qb, .inl (cB, 4096, .inl bf)), (qu, .inl (cI, 4096, .inl ug))]) [0, 2, 3, 1] (by decide) rfl
          obtain ⟨hd32, hm32⟩ := hw
          have hb32 := digR_b hd32 (by omega)
          obtain ⟨ha32, he32, hz32⟩ := hb32
          have ha32 : i ≤ u32 := ha32
          have he32 : u32 ≤ n := he32
          have hpr := digR_p hd32 hdh
          have hg9 := dgJ_d ht30 hd32
          have hm9 := hm32
          refine lv_lstore_n (lv' := [(3, .long r32), (2, .int 0), (1, .int (nI i)), (0, .ref jr)]) hx hb d_JsonReader_number_69 rfl hl (by decide) rfl (fun ls hl => ?_)
          refine lv_aload_n hx hb d_JsonReader_number_70 rfl (lv_at hl 3 rfl) ?_
          refine va_get (D := (dC, dI)) (ci := 1) (v := .ref h0) (C := R_JsonReader) (T := F_JsonReader) (N := 4) hx hb hts in_JsonReader hown hK hP 0 rfl rfl 0 (by decide) (hts _ w_80) (fun _ h9 => h9) rfl d_JsonReader_number_71 ?_
          have hPc := hP.sub (ws' := [(h0, .inr (8, [.ref qb, .ref qu, .int uc, .int ln, .int (nI n), .int (nI u32), .int pl])), (qb, .inl (cB, 4096, .inl bf))]) [1, 2] rfl
          have hDc := hD.sub (ws' := [(h0, .inr (8, [.ref qb, .ref qu, .int uc, .int ln, .int (nI n), .int (nI u32), .int pl])), (qb, .inl (cB, 4096, .inl bf))]) [1, 2] (by decide) rfl
          have hFc := va_free (wc := [(h0, .inr (8, [.ref qb, .ref qu, .int uc, .int ln, .int (nI n), .int (nI u32), .int pl])), (qb, .inl (cB, 4096, .inl bf))]) hD hS hA [1, 2] rfl
          have hKc := hK.sub (tys' := [(cB, .byte)]) [0] rfl
          refine va_calli (va_runV (As := []) (rest := []) ⟨hx, hb, hml, hown, hts⟩ (c_Tape_here l dC dI cB h0 qb H (.ref qu) uc ln pl bf n u32 hn0 (by omega)) (cwV 0 hts (gt_V (own := R_JsonReader) (C := R_Tape) (i := 49) (y := y_Tape_here) i_Tape_here z_362 w_363 w_364 w_2) rfl rfl rfl (by decide +kernel) ⟨Nat.le_of_ble_eq_true rfl, Nat.le_of_ble_eq_true rfl⟩) ⟨mp_blind, va_recv hK hP (ci := 8) (q0 := 1) rfl rfl, fun U hU hW => ⟨rfl, hU, by rw [hU]; exact hPc, va_K.moved hW.alike hKc, hDc.weaken (fun _ _ _ _ => trivial)⟩⟩ rfl rfl hl.1 rfl (lv_room (Nat.le_of_ble_eq_true rfl)) d_JsonReader_number_74 ⟨Nat.le_of_ble_eq_true rfl, Nat.le_of_ble_eq_true rfl⟩) hS (fun q _ h => hFc q h) hFc (fun h33 _u t9 H1 locs ht hvm hw hB hz1 hk1 hS => ?_)
          obtain ⟨hP1, hK1, hD1⟩ := hB
          rw [ht] at hP1
          obtain ⟨hP, hD⟩ := va_join (wr := [(jr, .inr (1, [.ref h0, .int dp, .int md, va_rf la])), (qu, .inl (cI, 4096, .inl ug))]) (w1 := [(h0, .inr (8, [.ref qb, .ref qu, .int uc, .int ln, .int (nI n), .int (nI u32), .int pl])), (qb, .inl (cB, 4096, .inl bf))]) hP hD [1, 2] [0, 3] rfl rfl (by decide) (by decide) hk1 hFc hP1 hD1
          generalize H1 = H at hP hS ⊢
          have hP : va_P (dC, dI) classes ([(jr, .inr (1, [.ref h0, .int dp, .int md, va_rf la])), (qu, .inl (cI, 4096, .inl ug)), (h0, .inr (8, [.ref qb, .ref qu, .int uc, .int ln, .int (nI n), .int (nI u32), .int pl])), (qb, .inl (cB, 4096, .inl bf))]) H := hP
          have hD : va_D A ([(jr, .inr (1, [.ref h0, .int dp, .int md, va_rf la])), (qu, .inl (cI, 4096, .inl ug)), (h0, .inr (8, [.ref qb, .ref qu, .int uc, .int ln, .int (nI n), .int (nI u32), .int pl])), (qb, .inl (cB, 4096, .inl bf))]) := hD
          have hP := hP.sub (ws' := [(jr, .inr (1, [.ref h0, .int dp, .int md, va_rf la])), (h0, .inr (8, [.ref qb, .ref qu, .int uc, .int ln, .int (nI n), .int (nI u32), .int pl])), (qb, .inl (cB, 4096, .inl bf)), (qu, .inl (cI, 4096, .inl ug))]) [0, 2, 3, 1] rfl
          have hD := hD.sub (ws' := [(jr, .inr (1, [.ref h0, .int dp, .int md, va_rf la])), (h0, .inr (8, [.ref qb, .ref qu, .int uc, .int ln, .int (nI n), .int (nI u32), .int pl])), (qb, .inl (cB, 4096, .inl bf)), (qu, .inl (cI, 4096, .inl ug))]) [0, 2, 3, 1] (by decide) rfl
          have h_h33 : h33 = hereV bf n u32 := hw
          refine lv_istore (lv' := [(5, .int h33), (3, .long r32), (2, .int 0), (1, .int (nI i)), (0, .ref jr)]) hx hb d_JsonReader_number_77 hl (by decide) rfl (fun ls hl => ?_)
          refine lv_iload hx hb d_JsonReader_number_79 (lv_at hl 0 rfl) ?_
          refine lv_bipush (v := 46) hx hb d_JsonReader_number_81 (by decide) ?_
          refine lv_icmp_eq (tgt := 100) hx hb d_JsonReader_number_83 (by decide) (fun c83 => ?_) (fun c83 => ?_)
          · refine lv_aload_n hx hb d_JsonReader_number_100 rfl (lv_at hl 4 rfl) ?_
            refine va_get (D := (dC, dI)) (ci := 1) (v := .ref h0) (C := R_JsonReader) (T := F_JsonReader) (N := 4) hx hb hts in_JsonReader hown hK hP 0 rfl rfl 0 (by decide) (hts _ w_80) (fun _ h9 => h9) rfl d_JsonReader_number_101 ?_
            refine lv_iload_n hx hb d_JsonReader_number_104 rfl (lv_at hl 3 rfl) ?_
            have hPc := hP.sub (ws' := [(h0, .inr (8, [.ref qb, .ref qu, .int uc, .int ln, .int (nI n), .int (nI u32), .int pl])), (qb, .inl (cB, 4096, .inl bf))]) [1, 2] rfl
            have hDc := hD.sub (ws' := [(h0, .inr (8, [.ref qb, .ref qu, .int uc, .int ln, .int (nI n), .int (nI u32), .int pl])), (qb, .inl (cB, 4096, .inl bf))]) [1, 2] (by decide) rfl
            have hFc := va_free (wc := [(h0, .inr (8, [.ref qb, .ref qu, .int uc, .int ln, .int (nI n), .int (nI u32), .int pl])), (qb, .inl (cB, 4096, .inl bf))]) hD hS hA [1, 2] rfl
            have hKc := hK.sub (tys' := [(cB, .byte)]) [0] rfl
            refine w_same (fun hq0 => ?_)
            refine vx_callv (vx_runV (As := [.int (nI i)]) (rest := []) ⟨hx, hb, hml, hown, hts⟩ (c_Tape_fail l hl9 dC dI cB h0 qb H (.ref qu) uc ln (nI n) (nI u32) pl bf ((nI i))) (cwV 1 hts (gt_V (own := R_JsonReader) (C := R_Tape) (i := 38) (y := y_Tape_fail) i_Tape_fail z_370 w_371 w_372 w_2) rfl rfl rfl (by decide +kernel) ⟨Nat.le_of_ble_eq_true rfl, Nat.le_of_ble_eq_true rfl⟩) ⟨mx_blind, va_recv hK hP (ci := 8) (q0 := 1) rfl rfl, fun U hU hW => ⟨rfl, ⟨hU, by rw [hU]; exact hPc, va_K.moved hW.alike hKc, hDc.weaken (fun _ _ _ _ => trivial)⟩, hN.warm hW, by rw [hU]; exact ZX.moved' hW.alike (ZX.narrow' (ZX.kept' hZ hS.2.1) hFc)⟩⟩ rfl rfl hl.1 rfl (lv_room (Nat.le_of_ble_eq_true rfl)) d_JsonReader_number_105 ⟨Nat.le_of_ble_eq_true rfl, Nat.le_of_ble_eq_true rfl⟩) hS (fun q _ h => hFc q h) hFc (fun q _ h => hFc q h) (fun En ce q9 _u t9 H1 locs ht hvm hw hB hz1 hk1 hS hce hcv hcl => ?_) (fun _u t9 H1 locs ht hvm hw hB hz1 hk1 hS => ?_)
            · obtain ⟨hEn, hP1, hK1, hD1⟩ := hB
              rw [ht] at hP1
              obtain ⟨hP, hD⟩ := va_join (wr := [(jr, .inr (1, [.ref h0, .int dp, .int md, va_rf la])), (qu, .inl (cI, 4096, .inl ug))]) (w1 := [(h0, .inr (8, [.ref qb, .ref qu, .int uc, .int ln, .int (nI n), .int (nI u32), .int (nI i)])), (qb, .inl (cB, 4096, .inl bf))]) hP hD [1, 2] [0, 3] rfl rfl (by decide) (by decide) hk1 hFc hP1 hD1
              generalize H1 = H at hP hS hce ⊢
              have hP : va_P (dC, dI) classes ([(jr, .inr (1, [.ref h0, .int dp, .int md, va_rf la])), (qu, .inl (cI, 4096, .inl ug)), (h0, .inr (8, [.ref qb, .ref qu, .int uc, .int ln, .int (nI n), .int (nI u32), .int (nI i)])), (qb, .inl (cB, 4096, .inl bf))]) H := hP
              have hD : va_D A ([(jr, .inr (1, [.ref h0, .int dp, .int md, va_rf la])), (qu, .inl (cI, 4096, .inl ug)), (h0, .inr (8, [.ref qb, .ref qu, .int uc, .int ln, .int (nI n), .int (nI u32), .int (nI i)])), (qb, .inl (cB, 4096, .inl bf))]) := hD
              have hP := hP.sub (ws' := [(jr, .inr (1, [.ref h0, .int dp, .int md, va_rf la])), (h0, .inr (8, [.ref qb, .ref qu, .int uc, .int ln, .int (nI n), .int (nI u32), .int (nI i)])), (qb, .inl (cB, 4096, .inl bf)), (qu, .inl (cI, 4096, .inl ug))]) [0, 2, 3, 1] rfl
              have hD := hD.sub (ws' := [(jr, .inr (1, [.ref h0, .int dp, .int md, va_rf la])), (h0, .inr (8, [.ref qb, .ref qu, .int uc, .int ln, .int (nI n), .int (nI u32), .int (nI i)])), (qb, .inl (cB, 4096, .inl bf)), (qu, .inl (cI, 4096, .inl ug))]) [0, 2, 3, 1] (by decide) rfl
              have hno : jN bf n i = none := (jN_p ht21).trans (jNb_beh hg9 (Or.inl (h_h33.symm.trans c83)))
              exact vx_out (fun x hx => (hex x hx).elim) hlocks hce hcv hcl (fun t9 ht2 ha => ⟨(nI u32, uc, (nI i), ug), hno, ⟨hEn, by rw [ht2]; exact hP, va_K.moved ha hK, hD⟩, hS.F ht2⟩) hS.2.2 (Nat.le_of_ble_eq_true rfl) (Nat.le_of_ble_eq_true rfl)
            · obtain ⟨⟨hP1, hK1, hD1⟩, hz9⟩ := hB
              rw [ht] at hP1
              rw [ht] at hz9
              refine w_tight (hq0.trans hz9) ?_
              have hq0 := hq0.trans hz9
              obtain ⟨hP, hD⟩ := va_join (wr := [(jr, .inr (1, [.ref h0, .int dp, .int md, va_rf la])), (qu, .inl (cI, 4096, .inl ug))]) (w1 := [(h0, .inr (8, [.ref qb, .ref qu, .int uc, .int ln, .int (nI n), .int (nI u32), .int pl])), (qb, .inl (cB, 4096, .inl bf))]) hP hD [1, 2] [0, 3] rfl rfl (by decide) (by decide) hk1 hFc hP1 hD1
              generalize H1 = H at hP hS hq0 ⊢
              have hP : va_P (dC, dI) classes ([(jr, .inr (1, [.ref h0, .int dp, .int md, va_rf la])), (qu, .inl (cI, 4096, .inl ug)), (h0, .inr (8, [.ref qb, .ref qu, .int uc, .int ln, .int (nI n), .int (nI u32), .int pl])), (qb, .inl (cB, 4096, .inl bf))]) H := hP
              have hD : va_D A ([(jr, .inr (1, [.ref h0, .int dp, .int md, va_rf la])), (qu, .inl (cI, 4096, .inl ug)), (h0, .inr (8, [.ref qb, .ref qu, .int uc, .int ln, .int (nI n), .int (nI u32), .int pl])), (qb, .inl (cB, 4096, .inl bf))]) := hD
              have hP := hP.sub (ws' := [(jr, .inr (1, [.ref h0, .int dp, .int md, va_rf la])), (h0, .inr (8, [.ref qb, .ref qu, .int uc, .int ln, .int (nI n), .int (nI u32), .int pl])), (qb, .inl (cB, 4096, .inl bf)), (qu, .inl (cI, 4096, .inl ug))]) [0, 2, 3, 1] rfl
              have hD := hD.sub (ws' := [(jr, .inr (1, [.ref h0, .int dp, .int md, va_rf la])), (h0, .inr (8, [.ref qb, .ref qu, .int uc, .int ln, .int (nI n), .int (nI u32), .int pl])), (qb, .inl (cB, 4096, .inl bf)), (qu, .inl (cI, 4096, .inl ug))]) [0, 2, 3, 1] (by decide) rfl
              exact hw.elim
          · refine lv_iload hx hb d_JsonReader_number_86 (lv_at hl 0 rfl) ?_
            refine lv_bipush (v := 101) hx hb d_JsonReader_number_88 (by decide) ?_
            refine lv_icmp_eq (tgt := 100) hx hb d_JsonReader_number_90 (by decide) (fun c90 => ?_) (fun c90 => ?_)
            · refine lv_aload_n hx hb d_JsonReader_number_100 rfl (lv_at hl 4 rfl) ?_
              refine va_get (D := (dC, dI)) (ci := 1) (v := .ref h0) (C := R_JsonReader) (T := F_JsonReader) (N := 4) hx hb hts in_JsonReader hown hK hP 0 rfl rfl 0 (by decide) (hts _ w_80) (fun _ h9 => h9) rfl d_JsonReader_number_101 ?_
              refine lv_iload_n hx hb d_JsonReader_number_104 rfl (lv_at hl 3 rfl) ?_
              have hPc := hP.sub (ws' := [(h0, .inr (8, [.ref qb, .ref qu, .int uc, .int ln, .int (nI n), .int (nI u32), .int pl])), (qb, .inl (cB, 4096, .inl bf))]) [1, 2] rfl
              have hDc := hD.sub (ws' := [(h0, .inr (8, [.ref qb, .ref qu, .int uc, .int ln, .int (nI n), .int (nI u32), .int pl])), (qb, .inl (cB, 4096, .inl bf))]) [1, 2] (by decide) rfl
              have hFc := va_free (wc := [(h0, .inr (8, [.ref qb, .ref qu, .int uc, .int ln, .int (nI n), .int (nI u32), .int pl])), (qb, .inl (cB, 4096, .inl bf))]) hD hS hA [1, 2] rfl
              have hKc := hK.sub (tys' := [(cB, .byte)]) [0] rfl
              refine w_same (fun hq0 => ?_)
              refine vx_callv (vx_runV (As := [.int (nI i)]) (rest := []) ⟨hx, hb, hml, hown, hts⟩ (c_Tape_fail l hl9 dC dI cB h0 qb H (.ref qu) uc ln (nI n) (nI u32) pl bf ((nI i))) (cwV 1 hts (gt_V (own := R_JsonReader) (C := R_Tape) (i := 38) (y := y_Tape_fail) i_Tape_fail z_370 w_371 w_372 w_2) rfl rfl rfl (by decide +kernel) ⟨Nat.le_of_ble_eq_true rfl, Nat.le_of_ble_eq_true rfl⟩) ⟨mx_blind, va_recv hK hP (ci := 8) (q0 := 1) rfl rfl, fun U hU hW => ⟨rfl, ⟨hU, by rw [hU]; exact hPc, va_K.moved hW.alike hKc, hDc.weaken (fun _ _ _ _ => trivial)⟩, hN.warm hW, by rw [hU]; exact ZX.moved' hW.alike (ZX.narrow' (ZX.kept' hZ hS.2.1) hFc)⟩⟩ rfl rfl hl.1 rfl (lv_room (Nat.le_of_ble_eq_true rfl)) d_JsonReader_number_105 ⟨Nat.le_of_ble_eq_true rfl, Nat.le_of_ble_eq_true rfl⟩) hS (fun q _ h => hFc q h) hFc (fun q _ h => hFc q h) (fun En ce q9 _u t9 H1 locs ht hvm hw hB hz1 hk1 hS hce hcv hcl => ?_) (fun _u t9 H1 locs ht hvm hw hB hz1 hk1 hS => ?_)
              · obtain ⟨hEn, hP1, hK1, hD1⟩ := hB
                rw [ht] at hP1
                obtain ⟨hP, hD⟩ := va_join (wr := [(jr, .inr (1, [.ref h0, .int dp, .int md, va_rf la])), (qu, .inl (cI, 4096, .inl ug))]) (w1 := [(h0, .inr (8, [.ref qb, .ref qu, .int uc, .int ln, .int (nI n), .int (nI u32), .int (nI i)])), (qb, .inl (cB, 4096, .inl bf))]) hP hD [1, 2] [0, 3] rfl rfl (by decide) (by decide) hk1 hFc hP1 hD1
                generalize H1 = H at hP hS hce ⊢
                have hP : va_P (dC, dI) classes ([(jr, .inr (1, [.ref h0, .int dp, .int md, va_rf la])), (qu, .inl (cI, 4096, .inl ug)), (h0, .inr (8, [.ref qb, .ref qu, .int uc, .int ln, .int (nI n), .int (nI u32), .int (nI i)])), (qb, .inl (cB, 4096, .inl bf))]) H := hP
                have hD : va_D A ([(jr, .inr (1, [.ref h0, .int dp, .int md, va_rf la])), (qu, .inl (cI, 4096, .inl ug)), (h0, .inr (8, [.ref qb, .ref qu, .int uc, .int ln, .int (nI n), .int (nI u32), .int (nI i)])), (qb, .inl (cB, 4096, .inl bf))]) := hD
                have hP := hP.sub (ws' := [(jr, .inr (1, [.ref h0, .int dp, .int md, va_rf la])), (h0, .inr (8, [.ref qb, .ref qu, .int uc, .int ln, .int (nI n), .int (nI u32), .int (nI i)])), (qb, .inl (cB, 4096, .inl bf)), (qu, .inl (cI, 4096, .inl ug))]) [0, 2, 3, 1] rfl
                have hD := hD.sub (ws' := [(jr, .inr (1, [.ref h0, .int dp, .int md, va_rf la])), (h0, .inr (8, [.ref qb, .ref qu, .int uc, .int ln, .int (nI n), .int (nI u32), .int (nI i)])), (qb, .inl (cB, 4096, .inl bf)), (qu, .inl (cI, 4096, .inl ug))]) [0, 2, 3, 1] (by decide) rfl
                have hno : jN bf n i = none := (jN_p ht21).trans (jNb_beh hg9 (Or.inr (Or.inl (h_h33.symm.trans c90))))
                exact vx_out (fun x hx => (hex x hx).elim) hlocks hce hcv hcl (fun t9 ht2 ha => ⟨(nI u32, uc, (nI i), ug), hno, ⟨hEn, by rw [ht2]; exact hP, va_K.moved ha hK, hD⟩, hS.F ht2⟩) hS.2.2 (Nat.le_of_ble_eq_true rfl) (Nat.le_of_ble_eq_true rfl)
              · obtain ⟨⟨hP1, hK1, hD1⟩, hz9⟩ := hB
                rw [ht] at hP1
                rw [ht] at hz9
                refine w_tight (hq0.trans hz9) ?_
                have hq0 := hq0.trans hz9
                obtain ⟨hP, hD⟩ := va_join (wr := [(jr, .inr (1, [.ref h0, .int dp, .int md, va_rf la])), (qu, .inl (cI, 4096, .inl ug))]) (w1 := [(h0, .inr (8, [.ref qb, .ref qu, .int uc, .int ln, .int (nI n), .int (nI u32), .int pl])), (qb, .inl (cB, 4096, .inl bf))]) hP hD [1, 2] [0, 3] rfl rfl (by decide) (by decide) hk1 hFc hP1 hD1
                generalize H1 = H at hP hS hq0 ⊢
                have hP : va_P (dC, dI) classes ([(jr, .inr (1, [.ref h0, .int dp, .int md, va_rf la])), (qu, .inl (cI, 4096, .inl ug)), (h0, .inr (8, [.ref qb, .ref qu, .int uc, .int ln, .int (nI n), .int (nI u32), .int pl])), (qb, .inl (cB, 4096, .inl bf))]) H := hP
                have hD : va_D A ([(jr, .inr (1, [.ref h0, .int dp, .int md, va_rf la])), (qu, .inl (cI, 4096, .inl ug)), (h0, .inr (8, [.ref qb, .ref qu, .int uc, .int ln, .int (nI n), .int (nI u32), .int pl])), (qb, .inl (cB, 4096, .inl bf))]) := hD
                have hP := hP.sub (ws' := [(jr, .inr (1, [.ref h0, .int dp, .int md, va_rf la])), (h0, .inr (8, [.ref qb, .ref qu, .int uc, .int ln, .int (nI n), .int (nI u32), .int pl])), (qb, .inl (cB, 4096, .inl bf)), (qu, .inl (cI, 4096, .inl ug))]) [0, 2, 3, 1] rfl
                have hD := hD.sub (ws' := [(jr, .inr (1, [.ref h0, .int dp, .int md, va_rf la])), (h0, .inr (8, [.ref qb, .ref qu, .int uc, .int ln, .int (nI n), .int (nI u32), .int pl])), (qb, .inl (cB, 4096, .inl bf)), (qu, .inl (cI, 4096, .inl ug))]) [0, 2, 3, 1] (by decide) rfl
                exact hw.elim
            · refine lv_iload hx hb d_JsonReader_number_93 (lv_at hl 0 rfl) ?_
              refine lv_bipush (v := 69) hx hb d_JsonReader_number_95 (by decide) ?_
              refine lv_icmp_ne (tgt := 108) hx hb d_JsonReader_number_97 (by decide) (fun c97 => ?_) (fun c97 => ?_)
              · refine lv_iload_n hx hb d_JsonReader_number_108 rfl (lv_at hl 2 rfl) ?_
                refine lv_if_eq (tgt := 117) hx hb d_JsonReader_number_109 (by decide) (fun _ => ?_) (fun h => absurd (by decide) h)
                refine lv_lload_n hx hb d_JsonReader_number_117 rfl (lv_at hl 1 rfl) ?_
                have hok : jN bf n i = some (r32, u32) := (jN_p ht21).trans (jNb_ok hdg9 hg9 hm9 (fun e => c83 (h_h33.trans e)) (fun e => c90 (h_h33.trans e)) (fun e => c97 (h_h33.trans e)))
                refine w_same (fun hq => ?_)
                refine W.widen (k := 1) (n := 6) (Nat.le_of_ble_eq_true rfl) (Nat.le_of_ble_eq_true rfl) ?_
                refine vx_ret ?_
                exact W.lret (v := r32) hx hb hr (fun t9 ht hW => ⟨⟨r32, u32, rfl, ⟨by show i < u32; omega, by show u32 ≤ n; omega, hok⟩, ⟨by rw [ht]; exact hP, va_K.moved hW.alike hK, hD⟩, by rw [ht]; exact hq⟩, hS.F ht⟩) hS.2.2 d_JsonReader_number_118
              · refine lv_aload_n hx hb d_JsonReader_number_100 rfl (lv_at hl 4 rfl) ?_
                refine va_get (D := (dC, dI)) (ci := 1) (v := .ref h0) (C := R_JsonReader) (T := F_JsonReader) (N := 4) hx hb hts in_JsonReader hown hK hP 0 rfl rfl 0 (by decide) (hts _ w_80) (fun _ h9 => h9) rfl d_JsonReader_number_101 ?_
                refine lv_iload_n hx hb d_JsonReader_number_104 rfl (lv_at hl 3 rfl) ?_
                have hPc := hP.sub (ws' := [(h0, .inr (8, [.ref qb, .ref qu, .int uc, .int ln, .int (nI n), .int (nI u32), .int pl])), (qb, .inl (cB, 4096, .inl bf))]) [1, 2] rfl
                have hDc := hD.sub (ws' := [(h0, .inr (8, [.ref qb, .ref qu, .int uc, .int ln, .int (nI n), .int (nI u32), .int pl])), (qb, .inl (cB, 4096, .inl bf))]) [1, 2] (by decide) rfl
                have hFc := va_free (wc := [(h0, .inr (8, [.ref qb, .ref qu, .int uc, .int ln, .int (nI n), .int (nI u32), .int pl])), (qb, .inl (cB, 4096, .inl bf))]) hD hS hA [1, 2] rfl
                have hKc := hK.sub (tys' := [(cB, .byte)]) [0] rfl
                refine w_same (fun hq0 => ?_)
                refine vx_callv (vx_runV (As := [.int (nI i)]) (rest := []) ⟨hx, hb, hml, hown, hts⟩ (c_Tape_fail l hl9 dC dI cB h0 qb H (.ref qu) uc ln (nI n) (nI u32) pl bf ((nI i))) (cwV 1 hts (gt_V (own := R_JsonReader) (C := R_Tape) (i := 38) (y := y_Tape_fail) i_Tape_fail z_370 w_371 w_372 w_2) rfl rfl rfl (by decide +kernel) ⟨Nat.le_of_ble_eq_true rfl, Nat.le_of_ble_eq_true rfl⟩) ⟨mx_blind, va_recv hK hP (ci := 8) (q0 := 1) rfl rfl, fun U hU hW => ⟨rfl, ⟨hU, by rw [hU]; exact hPc, va_K.moved hW.alike hKc, hDc.weaken (fun _ _ _ _ => trivial)⟩, hN.warm hW, by rw [hU]; exact ZX.moved' hW.alike (ZX.narrow' (ZX.kept' hZ hS.2.1) hFc)⟩⟩ rfl rfl hl.1 rfl (lv_room (Nat.le_of_ble_eq_true rfl)) d_JsonReader_number_105 ⟨Nat.le_of_ble_eq_true rfl, Nat.le_of_ble_eq_true rfl⟩) hS (fun q _ h => hFc q h) hFc (fun q _ h => hFc q h) (fun En ce q9 _u t9 H1 locs ht hvm hw hB hz1 hk1 hS hce hcv hcl => ?_) (fun _u t9 H1 locs ht hvm hw hB hz1 hk1 hS => ?_)
                · obtain ⟨hEn, hP1, hK1, hD1⟩ := hB
                  rw [ht] at hP1
                  obtain ⟨hP, hD⟩ := va_join (wr := [(jr, .inr (1, [.ref h0, .int dp, .int md, va_rf la])), (qu, .inl (cI, 4096, .inl ug))]) (w1 := [(h0, .inr (8, [.ref qb, .ref qu, .int uc, .int ln, .int (nI n), .int (nI u32), .int (nI i)])), (qb, .inl (cB, 4096, .inl bf))]) hP hD [1, 2] [0, 3] rfl rfl (by decide) (by decide) hk1 hFc hP1 hD1
                  generalize H1 = H at hP hS hce ⊢
                  have hP : va_P (dC, dI) classes ([(jr, .inr (1, [.ref h0, .int dp, .int md, va_rf la])), (qu, .inl (cI, 4096, .inl ug)), (h0, .inr (8, [.ref qb, .ref qu, .int uc, .int ln, .int (nI n), .int (nI u32), .int (nI i)])), (qb, .inl (cB, 4096, .inl bf))]) H := hP
                  have hD : va_D A ([(jr, .inr (1, [.ref h0, .int dp, .int md, va_rf la])), (qu, .inl (cI, 4096, .inl ug)), (h0, .inr (8, [.ref qb, .ref qu, .int uc, .int ln, .int (nI n), .int (nI u32), .int (nI i)])), (qb, .inl (cB, 4096, .inl bf))]) := hD
                  have hP := hP.sub (ws' := [(jr, .inr (1, [.ref h0, .int dp, .int md, va_rf la])), (h0, .inr (8, [.ref qb, .ref qu, .int uc, .int ln, .int (nI n), .int (nI u32), .int (nI i)])), (qb, .inl (cB, 4096, .inl bf)), (qu, .inl (cI, 4096, .inl ug))]) [0, 2, 3, 1] rfl
                  have hD := hD.sub (ws' := [(jr, .inr (1, [.ref h0, .int dp, .int md, va_rf la])), (h0, .inr (8, [.ref qb, .ref qu, .int uc, .int ln, .int (nI n), .int (nI u32), .int (nI i)])), (qb, .inl (cB, 4096, .inl bf)), (qu, .inl (cI, 4096, .inl ug))]) [0, 2, 3, 1] (by decide) rfl
                  have hno : jN bf n i = none := (jN_p ht21).trans (jNb_beh hg9 (Or.inr (Or.inr (h_h33.symm.trans c97))))
                  exact vx_out (fun x hx => (hex x hx).elim) hlocks hce hcv hcl (fun t9 ht2 ha => ⟨(nI u32, uc, (nI i), ug), hno, ⟨hEn, by rw [ht2]; exact hP, va_K.moved ha hK, hD⟩, hS.F ht2⟩) hS.2.2 (Nat.le_of_ble_eq_true rfl) (Nat.le_of_ble_eq_true rfl)
                · obtain ⟨⟨hP1, hK1, hD1⟩, hz9⟩ := hB
                  rw [ht] at hP1
                  rw [ht] at hz9
                  refine w_tight (hq0.trans hz9) ?_
                  have hq0 := hq0.trans hz9
                  obtain ⟨hP, hD⟩ := va_join (wr := [(jr, .inr (1, [.ref h0, .int dp, .int md, va_rf la])), (qu, .inl (cI, 4096, .inl ug))]) (w1 := [(h0, .inr (8, [.ref qb, .ref qu, .int uc, .int ln, .int (nI n), .int (nI u32), .int pl])), (qb, .inl (cB, 4096, .inl bf))]) hP hD [1, 2] [0, 3] rfl rfl (by decide) (by decide) hk1 hFc hP1 hD1
                  generalize H1 = H at hP hS hq0 ⊢
                  have hP : va_P (dC, dI) classes ([(jr, .inr (1, [.ref h0, .int dp, .int md, va_rf la])), (qu, .inl (cI, 4096, .inl ug)), (h0, .inr (8, [.ref qb, .ref qu, .int uc, .int ln, .int (nI n), .int (nI u32), .int pl])), (qb, .inl (cB, 4096, .inl bf))]) H := hP
                  have hD : va_D A ([(jr, .inr (1, [.ref h0, .int dp, .int md, va_rf la])), (qu, .inl (cI, 4096, .inl ug)), (h0, .inr (8, [.ref qb, .ref qu, .int uc, .int ln, .int (nI n), .int (nI u32), .int pl])), (qb, .inl (cB, 4096, .inl bf))]) := hD
                  have hP := hP.sub (ws' := [(jr, .inr (1, [.ref h0, .int dp, .int md, va_rf la])), (h0, .inr (8, [.ref qb, .ref qu, .int uc, .int ln, .int (nI n), .int (nI u32), .int pl])), (qb, .inl (cB, 4096, .inl bf)), (qu, .inl (cI, 4096, .inl ug))]) [0, 2, 3, 1] rfl
                  have hD := hD.sub (ws' := [(jr, .inr (1, [.ref h0, .int dp, .int md, va_rf la])), (h0, .inr (8, [.ref qb, .ref qu, .int uc, .int ln, .int (nI n), .int (nI u32), .int pl])), (qb, .inl (cB, 4096, .inl bf)), (qu, .inl (cI, 4096, .inl ug))]) [0, 2, 3, 1] (by decide) rfl
                  exact hw.elim
    · refine lv_aload_n hx hb d_JsonReader_number_31 rfl (lv_at hl 2 rfl) ?_
      refine va_get (D := (dC, dI)) (ci := 1) (v := .ref h0) (C := R_JsonReader) (T := F_JsonReader) (N := 4) hx hb hts in_JsonReader hown hK hP 0 rfl rfl 0 (by decide) (hts _ w_80) (fun _ h9 => h9) rfl d_JsonReader_number_32 ?_
      refine lv_aload_n hx hb d_JsonReader_number_35 rfl (lv_at hl 2 rfl) ?_
      refine va_get (D := (dC, dI)) (ci := 1) (v := .ref h0) (C := R_JsonReader) (T := F_JsonReader) (N := 4) hx hb hts in_JsonReader hown hK hP 0 rfl rfl 0 (by decide) (hts _ w_80) (fun _ h9 => h9) rfl d_JsonReader_number_36 ?_
      refine va_get (D := (dC, dI)) (ci := 8) (v := .int (nI i)) (C := R_Tape) (T := F_Tape) (N := 7) hx hb hts in_Tape hown hK hP 1 rfl rfl 5 (by decide) (hts _ z_52) (fun _ h9 => h9) rfl d_JsonReader_number_39 ?_
      have hPc := hP.sub (ws' := [(h0, .inr (8, [.ref qb, .ref qu, .int uc, .int ln, .int (nI n), .int (nI i), .int pl])), (qb, .inl (cB, 4096, .inl bf))]) [1, 2] rfl
      have hDc := hD.sub (ws' := [(h0, .inr (8, [.ref qb, .ref qu, .int uc, .int ln, .int (nI n), .int (nI i), .int pl])), (qb, .inl (cB, 4096, .inl bf))]) [1, 2] (by decide) rfl
      have hFc := va_free (wc := [(h0, .inr (8, [.ref qb, .ref qu, .int uc, .int ln, .int (nI n), .int (nI i), .int pl])), (qb, .inl (cB, 4096, .inl bf))]) hD hS hA [1, 2] rfl
      have hKc := hK.sub (tys' := [(cB, .byte)]) [0] rfl
      refine w_same (fun hq0 => ?_)
      refine vx_callv (vx_runV (As := [.int (nI i)]) (rest := []) ⟨hx, hb, hml, hown, hts⟩ (c_Tape_fail l hl9 dC dI cB h0 qb H (.ref qu) uc ln (nI n) (nI i) pl bf ((nI i))) (cwV 1 hts (gt_V (own := R_JsonReader) (C := R_Tape) (i := 38) (y := y_Tape_fail) i_Tape_fail z_370 w_371 w_372 w_2) rfl rfl rfl (by decide +kernel) ⟨Nat.le_of_ble_eq_true rfl, Nat.le_of_ble_eq_true rfl⟩) ⟨mx_blind, va_recv hK hP (ci := 8) (q0 := 1) rfl rfl, fun U hU hW => ⟨rfl, ⟨hU, by rw [hU]; exact hPc, va_K.moved hW.alike hKc, hDc.weaken (fun _ _ _ _ => trivial)⟩, hN.warm hW, by rw [hU]; exact ZX.moved' hW.alike (ZX.narrow' (ZX.kept' hZ hS.2.1) hFc)⟩⟩ rfl rfl hl.1 rfl (lv_room (Nat.le_of_ble_eq_true rfl)) d_JsonReader_number_42 ⟨Nat.le_of_ble_eq_true rfl, Nat.le_of_ble_eq_true rfl⟩) hS (fun q _ h => hFc q h) hFc (fun q _ h => hFc q h) (fun En ce q9 _u t9 H1 locs ht hvm hw hB hz1 hk1 hS hce hcv hcl => ?_) (fun _u t9 H1 locs ht hvm hw hB hz1 hk1 hS => ?_)
      · obtain ⟨hEn, hP1, hK1, hD1⟩ := hB
        rw [ht] at hP1
        obtain ⟨hP, hD⟩ := va_join (wr := [(jr, .inr (1, [.ref h0, .int dp, .int md, va_rf la])), (qu, .inl (cI, 4096, .inl ug))]) (w1 := [(h0, .inr (8, [.ref qb, .ref qu, .int uc, .int ln, .int (nI n), .int (nI i), .int (nI i)])), (qb, .inl (cB, 4096, .inl bf))]) hP hD [1, 2] [0, 3] rfl rfl (by decide) (by decide) hk1 hFc hP1 hD1
        generalize H1 = H at hP hS hce ⊢
        have hP : va_P (dC, dI) classes ([(jr, .inr (1, [.ref h0, .int dp, .int md, va_rf la])), (qu, .inl (cI, 4096, .inl ug)), (h0, .inr (8, [.ref qb, .ref qu, .int uc, .int ln, .int (nI n), .int (nI i), .int (nI i)])), (qb, .inl (cB, 4096, .inl bf))]) H := hP
        have hD : va_D A ([(jr, .inr (1, [.ref h0, .int dp, .int md, va_rf la])), (qu, .inl (cI, 4096, .inl ug)), (h0, .inr (8, [.ref qb, .ref qu, .int uc, .int ln, .int (nI n), .int (nI i), .int (nI i)])), (qb, .inl (cB, 4096, .inl bf))]) := hD
        have hP := hP.sub (ws' := [(jr, .inr (1, [.ref h0, .int dp, .int md, va_rf la])), (h0, .inr (8, [.ref qb, .ref qu, .int uc, .int ln, .int (nI n), .int (nI i), .int (nI i)])), (qb, .inl (cB, 4096, .inl bf)), (qu, .inl (cI, 4096, .inl ug))]) [0, 2, 3, 1] rfl
        have hD := hD.sub (ws' := [(jr, .inr (1, [.ref h0, .int dp, .int md, va_rf la])), (h0, .inr (8, [.ref qb, .ref qu, .int uc, .int ln, .int (nI n), .int (nI i), .int (nI i)])), (qb, .inl (cB, 4096, .inl bf)), (qu, .inl (cI, 4096, .inl ug))]) [0, 2, 3, 1] (by decide) rfl
        have hno : jN bf n i = none := (jN_p ht21).trans (jNb_no (by rw [← h_h28]; exact (dg_01 hd29).2 c28))
        exact vx_out (fun x hx => (hex x hx).elim) hlocks hce hcv hcl (fun t9 ht2 ha => ⟨(nI i, uc, (nI i), ug), hno, ⟨hEn, by rw [ht2]; exact hP, va_K.moved ha hK, hD⟩, hS.F ht2⟩) hS.2.2 (Nat.le_of_ble_eq_true rfl) (Nat.le_of_ble_eq_true rfl)
      · obtain ⟨⟨hP1, hK1, hD1⟩, hz9⟩ := hB
        rw [ht] at hP1
        rw [ht] at hz9
        refine w_tight (hq0.trans hz9) ?_
        have hq0 := hq0.trans hz9
        obtain ⟨hP, hD⟩ := va_join (wr := [(jr, .inr (1, [.ref h0, .int dp, .int md, va_rf la])), (qu, .inl (cI, 4096, .inl ug))]) (w1 := [(h0, .inr (8, [.ref qb, .ref qu, .int uc, .int ln, .int (nI n), .int (nI i), .int pl])), (qb, .inl (cB, 4096, .inl bf))]) hP hD [1, 2] [0, 3] rfl rfl (by decide) (by decide) hk1 hFc hP1 hD1
        generalize H1 = H at hP hS hq0 ⊢
        have hP : va_P (dC, dI) classes ([(jr, .inr (1, [.ref h0, .int dp, .int md, va_rf la])), (qu, .inl (cI, 4096, .inl ug)), (h0, .inr (8, [.ref qb, .ref qu, .int uc, .int ln, .int (nI n), .int (nI i), .int pl])), (qb, .inl (cB, 4096, .inl bf))]) H := hP
        have hD : va_D A ([(jr, .inr (1, [.ref h0, .int dp, .int md, va_rf la])), (qu, .inl (cI, 4096, .inl ug)), (h0, .inr (8, [.ref qb, .ref qu, .int uc, .int ln, .int (nI n), .int (nI i), .int pl])), (qb, .inl (cB, 4096, .inl bf))]) := hD
        have hP := hP.sub (ws' := [(jr, .inr (1, [.ref h0, .int dp, .int md, va_rf la])), (h0, .inr (8, [.ref qb, .ref qu, .int uc, .int ln, .int (nI n), .int (nI i), .int pl])), (qb, .inl (cB, 4096, .inl bf)), (qu, .inl (cI, 4096, .inl ug))]) [0, 2, 3, 1] rfl
        have hD := hD.sub (ws' := [(jr, .inr (1, [.ref h0, .int dp, .int md, va_rf la])), (h0, .inr (8, [.ref qb, .ref qu, .int uc, .int ln, .int (nI n), .int (nI i), .int pl])), (qb, .inl (cB, 4096, .inl bf)), (qu, .inl (cI, 4096, .inl ug))]) [0, 2, 3, 1] (by decide) rfl
        exact hw.elim
