theorem z_314 : (.fieldLink "QueryBench$Printer" 68 "QueryBench$Value" "kind" "I" : Cond) ∈ gtbl := gt_in 314 (by decide +kernel) (by decide +kernel)
theorem z_318 : (.fieldLink "QueryBench$Printer" 81 "QueryBench$Value" "number" "J" : Cond) ∈ gtbl := gt_in 318 (by decide +kernel) (by decide +kernel)
theorem z_323 : (.fieldLink "QueryBench$Printer" 84 "QueryBench$Value" "text" "[I" : Cond) ∈ gtbl := gt_in 323 (by decide +kernel) (by decide +kernel)
theorem z_326 : (.fieldLink "QueryBench$Printer" 92 "QueryBench$Value" "members" "[LQueryBench$Value;" : Cond) ∈ gtbl := gt_in 326 (by decide +kernel) (by decide +kernel)
theorem z_329 : (.fieldLink "QueryBench$Printer" 49 "QueryBench$Value" "parent" "LQueryBench$Value;" : Cond) ∈ gtbl := gt_in 329 (by decide +kernel) (by decide +kernel)
theorem z_332 : (.fieldLink "QueryBench$Printer" 53 "QueryBench$Value" "name" "[I" : Cond) ∈ gtbl := gt_in 332 (by decide +kernel) (by decide +kernel)
theorem z_334 : (.fieldLink "QueryBench$Printer" 57 "QueryBench$Value" "index" "I" : Cond) ∈ gtbl := gt_in 334 (by decide +kernel) (by decide +kernel)
theorem z_953 : (.methodLink "QueryBench$Printer" 21 ⟨"QueryBench$Printer", "path", "(LQueryBench$Value;)V"⟩ : Cond) ∈ gtbl := gt_in 953 (by decide +kernel) (by decide +kernel)
theorem z_955 : (.instanceMethod ⟨"QueryBench$Printer", "path", "(LQueryBench$Value;)V"⟩ : Cond) ∈ gtbl := gt_in 955 (by decide +kernel) (by decide +kernel)
theorem z_963 : (.methodLink "QueryBench$Printer" 60 ⟨"QueryBench$Printer", "number", "(J)V"⟩ : Cond) ∈ gtbl := gt_in 963 (by decide +kernel) (by decide +kernel)
theorem z_965 : (.instanceMethod ⟨"QueryBench$Printer", "number", "(J)V"⟩ : Cond) ∈ gtbl := gt_in 965 (by decide +kernel) (by decide +kernel)
theorem z_968 : (.methodLink "QueryBench$Printer" 64 ⟨"QueryBench$Printer", "text", "([II)V"⟩ : Cond) ∈ gtbl := gt_in 968 (by decide +kernel) (by decide +kernel)
theorem z_970 : (.instanceMethod ⟨"QueryBench$Printer", "text", "([II)V"⟩ : Cond) ∈ gtbl := gt_in 970 (by decide +kernel) (by decide +kernel)
theorem z_987 : (.methodLink "QueryBench$Printer" 29 ⟨"QueryBench$Printer", "value", "(LQueryBench$Value;I)V"⟩ : Cond) ∈ gtbl := gt_in 987 (by decide +kernel) (by decide +kernel)
theorem z_989 : (.instanceMethod ⟨"QueryBench$Printer", "value", "(LQueryBench$Value;I)V"⟩ : Cond) ∈ gtbl := gt_in 989 (by decide +kernel) (by decide +kernel)
theorem z_994 : (.methodLink "QueryBench$Printer" 86 ⟨"QueryBench$Printer", "members", "(LQueryBench$Value;I)V"⟩ : Cond) ∈ gtbl := gt_in 994 (by decide +kernel) (by decide +kernel)
theorem z_996 : (.instanceMethod ⟨"QueryBench$Printer", "members", "(LQueryBench$Value;I)V"⟩ : Cond) ∈ gtbl := gt_in 996 (by decide +kernel) (by decide +kernel)
theorem z_998 : (.methodLink "QueryBench$Printer" 89 ⟨"QueryBench$Value", "size", "()I"⟩ : Cond) ∈ gtbl := gt_in 998 (by decide +kernel) (by decide +kernel)
abbrev b_Printer_path : ByteArray := prog_5_method_5_code
def y_Printer_path : MethodName := ⟨"QueryBench$Printer", "path", "(LQueryBench$Value;)V"⟩
abbrev k_Printer_path : Cond := .code y_Printer_path b_Printer_path 4 none
theorem i_Printer_path : k_Printer_path ∈ gtbl := gt_in 956 (by decide +kernel) (by decide +kernel)
theorem d_Printer_path_0 : decode b_Printer_path 0 = .ok (.iconst 0, 1) := by decide +kernel
theorem d_Printer_path_1 : decode b_Printer_path 1 = .ok (.istore_n 2, 1) := by decide +kernel
theorem d_Printer_path_2 : decode b_Printer_path 2 = .ok (.aload_n 1, 1) := by decide +kernel
theorem d_Printer_path_3 : decode b_Printer_path 3 = .ok (.astore_n 3, 1) := by decide +kernel
theorem d_Printer_path_4 : decode b_Printer_path 4 = .ok (.aload_n 3, 1) := by decide +kernel
theorem d_Printer_path_5 : decode b_Printer_path 5 = .ok (.getfield 49, 3) := by decide +kernel
theorem d_Printer_path_8 : decode b_Printer_path 8 = .ok (.ifnull 27, 3) := by decide +kernel
theorem d_Printer_path_11 : decode b_Printer_path 11 = .ok (.iload_n 2, 1) := by decide +kernel
theorem d_Printer_path_12 : decode b_Printer_path 12 = .ok (.bipush 32, 2) := by decide +kernel
theorem d_Printer_path_14 : decode b_Printer_path 14 = .ok (.if_icmp .ge 21, 3) := by decide +kernel
theorem d_Printer_path_17 : decode b_Printer_path 17 = .ok (.aload_n 0, 1) := by decide +kernel
theorem d_Printer_path_18 : decode b_Printer_path 18 = .ok (.getfield 17, 3) := by decide +kernel
theorem d_Printer_path_21 : decode b_Printer_path 21 = .ok (.iload_n 2, 1) := by decide +kernel
theorem d_Printer_path_22 : decode b_Printer_path 22 = .ok (.aload_n 3, 1) := by decide +kernel
theorem d_Printer_path_23 : decode b_Printer_path 23 = .ok (.aastore, 1) := by decide +kernel
theorem d_Printer_path_24 : decode b_Printer_path 24 = .ok (.iinc 2 1, 3) := by decide +kernel
theorem d_Printer_path_27 : decode b_Printer_path 27 = .ok (.aload_n 3, 1) := by decide +kernel
theorem d_Printer_path_28 : decode b_Printer_path 28 = .ok (.getfield 49, 3) := by decide +kernel
theorem d_Printer_path_31 : decode b_Printer_path 31 = .ok (.astore_n 3, 1) := by decide +kernel
theorem d_Printer_path_32 : decode b_Printer_path 32 = .ok (.goto (-28), 3) := by decide +kernel
theorem d_Printer_path_35 : decode b_Printer_path 35 = .ok (.aload_n 0, 1) := by decide +kernel
theorem d_Printer_path_36 : decode b_Printer_path 36 = .ok (.bipush 36, 2) := by decide +kernel
theorem d_Printer_path_38 : decode b_Printer_path 38 = .ok (.invokevirtual 25, 3) := by decide +kernel
theorem d_Printer_path_41 : decode b_Printer_path 41 = .ok (.iload_n 2, 1) := by decide +kernel
theorem d_Printer_path_42 : decode b_Printer_path 42 = .ok (.iconst 1, 1) := by decide +kernel
theorem d_Printer_path_43 : decode b_Printer_path 43 = .ok (.isub, 1) := by decide +kernel
theorem d_Printer_path_44 : decode b_Printer_path 44 = .ok (.istore_n 3, 1) := by decide +kernel
theorem d_Printer_path_45 : decode b_Printer_path 45 = .ok (.iload_n 3, 1) := by decide +kernel
theorem d_Printer_path_46 : decode b_Printer_path 46 = .ok (.ifCond .lt 65, 3) := by decide +kernel
theorem d_Printer_path_49 : decode b_Printer_path 49 = .ok (.aload_n 0, 1) := by decide +kernel
theorem d_Printer_path_50 : decode b_Printer_path 50 = .ok (.bipush 91, 2) := by decide +kernel
theorem d_Printer_path_52 : decode b_Printer_path 52 = .ok (.invokevirtual 25, 3) := by decide +kernel
theorem d_Printer_path_55 : decode b_Printer_path 55 = .ok (.aload_n 0, 1) := by decide +kernel
theorem d_Printer_path_56 : decode b_Printer_path 56 = .ok (.getfield 17, 3) := by decide +kernel
theorem d_Printer_path_59 : decode b_Printer_path 59 = .ok (.iload_n 3, 1) := by decide +kernel
theorem d_Printer_path_60 : decode b_Printer_path 60 = .ok (.aaload, 1) := by decide +kernel
theorem d_Printer_path_61 : decode b_Printer_path 61 = .ok (.getfield 53, 3) := by decide +kernel
theorem d_Printer_path_64 : decode b_Printer_path 64 = .ok (.ifnonnull 20, 3) := by decide +kernel
theorem d_Printer_path_67 : decode b_Printer_path 67 = .ok (.aload_n 0, 1) := by decide +kernel
theorem d_Printer_path_68 : decode b_Printer_path 68 = .ok (.aload_n 0, 1) := by decide +kernel
theorem d_Printer_path_69 : decode b_Printer_path 69 = .ok (.getfield 17, 3) := by decide +kernel
theorem d_Printer_path_72 : decode b_Printer_path 72 = .ok (.iload_n 3, 1) := by decide +kernel
theorem d_Printer_path_73 : decode b_Printer_path 73 = .ok (.aaload, 1) := by decide +kernel
theorem d_Printer_path_74 : decode b_Printer_path 74 = .ok (.getfield 57, 3) := by decide +kernel
theorem d_Printer_path_77 : decode b_Printer_path 77 = .ok (.i2l, 1) := by decide +kernel
theorem d_Printer_path_78 : decode b_Printer_path 78 = .ok (.invokevirtual 60, 3) := by decide +kernel
theorem d_Printer_path_81 : decode b_Printer_path 81 = .ok (.goto 18, 3) := by decide +kernel
theorem d_Printer_path_84 : decode b_Printer_path 84 = .ok (.aload_n 0, 1) := by decide +kernel
theorem d_Printer_path_85 : decode b_Printer_path 85 = .ok (.aload_n 0, 1) := by decide +kernel
theorem d_Printer_path_86 : decode b_Printer_path 86 = .ok (.getfield 17, 3) := by decide +kernel
theorem d_Printer_path_89 : decode b_Printer_path 89 = .ok (.iload_n 3, 1) := by decide +kernel
theorem d_Printer_path_90 : decode b_Printer_path 90 = .ok (.aaload, 1) := by decide +kernel
theorem d_Printer_path_91 : decode b_Printer_path 91 = .ok (.getfield 53, 3) := by decide +kernel
theorem d_Printer_path_94 : decode b_Printer_path 94 = .ok (.bipush 39, 2) := by decide +kernel
theorem d_Printer_path_96 : decode b_Printer_path 96 = .ok (.invokevirtual 64, 3) := by decide +kernel
theorem d_Printer_path_99 : decode b_Printer_path 99 = .ok (.aload_n 0, 1) := by decide +kernel
theorem d_Printer_path_100 : decode b_Printer_path 100 = .ok (.bipush 93, 2) := by decide +kernel
theorem d_Printer_path_102 : decode b_Printer_path 102 = .ok (.invokevirtual 25, 3) := by decide +kernel
theorem d_Printer_path_105 : decode b_Printer_path 105 = .ok (.iinc 3 (-1), 3) := by decide +kernel
theorem d_Printer_path_108 : decode b_Printer_path 108 = .ok (.goto (-63), 3) := by decide +kernel
theorem d_Printer_path_111 : decode b_Printer_path 111 = .ok (.return_, 1) := by decide +kernel
set_option maxHeartbeats 4000000 in
set_option maxRecDepth 100000 in
/-- Printer.path -/
theorem c_Printer_path (l : Launch) (hl9 : l.stackTraces = false) (K : Nat → Nat × Nat) (dC : Nat → ClassId) (dI : Nat → Nat → Nat) (sz : Heap) (cI cV : ClassId) (E lv : Nat → Nat) (L : List Nat) (f : Nat → va_E) (hO : PO cI cV E lv L f) (cB : ClassId) (p1 pb ps : Nat) (g : Nat → Int32) (k : Nat) (hk : k ≤ 16384) (h : Nat → Option Nat) (nd : Nat) (hnd : isF E nd) : vx_Met l y_Printer_path (k_Printer_path :: gtbl) ({ frames := 12, cells := 1, slots := 6, locals := 270 }) (va_Pc [.ref p1, .ref nd] (ml K dC dI ([(p1, .inr (3, [.ref pb, .int (nI k), .ref ps])), (pb, .inl (cB, 16384, .inl g)), (ps, .inl (cV, 32, .inr (.inr (.inr (.inr h)))))] ++ va_pl L f) [(cB, .byte), (cI, .int), (cV, .object "QueryBench$Value")] sz)) (va_Qv (fun (u : Nat × (Nat → Int32) × (Nat → Option Nat)) => u.1 ≤ 16384) (fun u t9 => mz dC dI ([(p1, .inr (3, [.ref pb, .int (nI u.1), .ref ps])), (pb, .inl (cB, 16384, .inl u.2.1)), (ps, .inl (cV, 32, .inr (.inr (.inr (.inr u.2.2)))))] ++ va_pl L f) [(cB, .byte), (cI, .int), (cV, .object "QueryBench$Value")] (va_A ([(p1, .inr (3, [.ref pb, .int (nI k), .ref ps])), (pb, .inl (cB, 16384, .inl g)), (ps, .inl (cV, 32, .inr (.inr (.inr (.inr h)))))] ++ va_pl L f) sz.size) t9 ∧ szk sz t9.heap (0) (0)) (va_A ([(p1, .inr (3, [.ref pb, .int (nI k), .ref ps])), (pb, .inl (cB, 16384, .inl g)), (ps, .inl (cV, 32, .inr (.inr (.inr (.inr h)))))] ++ va_pl L f) sz.size)) (vx_X (fun (u : Int32 × (Nat → Int32) × (Nat → Option Nat)) => True) (fun En u t9 => En = IOB ∧ mz dC dI ([(p1, .inr (3, [.ref pb, .int u.1, .ref ps])), (pb, .inl (cB, 16384, .inl u.2.1)), (ps, .inl (cV, 32, .inr (.inr (.inr (.inr u.2.2)))))] ++ va_pl L f) [(cB, .byte), (cI, .int), (cV, .object "QueryBench$Value")] (va_A ([(p1, .inr (3, [.ref pb, .int (nI k), .ref ps])), (pb, .inl (cB, 16384, .inl g)), (ps, .inl (cV, 32, .inr (.inr (.inr (.inr h)))))] ++ va_pl L f) sz.size) t9) (va_A ([(p1, .inr (3, [.ref pb, .int (nI k), .ref ps])), (pb, .inl (cB, 16384, .inl g)), (ps, .inl (cV, 32, .inr (.inr (.inr (.inr h)))))] ++ va_pl L f) sz.size)) (1) (6) (va_A ([(p1, .inr (3, [.ref pb, .int (nI k), .ref ps])), (pb, .inl (cB, 16384, .inl g)), (ps, .inl (cV, 32, .inr (.inr (.inr (.inr h)))))] ++ va_pl L f) sz.size) := by
  refine vx_ofW (cc := b_Printer_path) (maxL := 4) (ret := none) (by decide) rfl ?_
  intro p e s m args below meth c s₁ B hml hex hv
  obtain ⟨rfl, ⟨hsz, hP, hK, hD0⟩, hN, hZ, hC, hV⟩ := hv
  have hx := B.exec
  have hb := B.bytes
  have hr := B.returns
  have hts0 := atoms_spec (ws := k_Printer_path :: gtbl) B.pre
  have hts := fun w h => hts0 w (List.mem_cons_of_mem _ h)
  have hown : s.vm.findClass R_Printer = some m.cls := findClass_of_methodNamed B.named
  have hlocks := B.notSynchronized
  subst hsz
  have hD := hD0.self (sz := s.heap.size)
  generalize hAe : va_A ([(p1, .inr (3, [.ref pb, .int (nI k), .ref ps])), (pb, .inl (cB, 16384, .inl g)), (ps, .inl (cV, 32, .inr (.inr (.inr (.inr h)))))] ++ va_pl L f) s.heap.size = A at hD hZ hC ⊢
  have hA : ∀ q : Nat, s.heap.size ≤ q → A q := fun q h => by rw [← hAe]; exact Or.inr h
  have hS : va_S A s.heap s.heap [] := va_S.rf
  have hP : va_P (dC, dI) classes ([(p1, .inr (3, [.ref pb, .int (nI k), .ref ps])), (pb, .inl (cB, 16384, .inl g)), (ps, .inl (cV, 32, .inr (.inr (.inr (.inr h)))))] ++ va_pl L f) s.heap := hP
  have hl := lv_entry ([.ref p1, .ref nd]) (n := 4) (Nat.le_of_ble_eq_true rfl)
  rw [lg_entry_eq]
  generalize (lg_sl ([.ref p1, .ref nd]) ++ List.replicate (4 - (lg_sl ([.ref p1, .ref nd])).length) Slot.unset).toArray = ls at hl ⊢
  have hl : lv_has ls 4 [(0, .ref p1), (1, .ref nd)] := hl
  refine lv_iconst (v := 0) hx hb d_Printer_path_0 (by decide) ?_
  refine lv_istore_n (lv' := [(2, .int 0), (0, .ref p1), (1, .ref nd)]) hx hb d_Printer_path_1 rfl hl (by decide) rfl (fun ls hl => ?_)
  refine lv_aload_n hx hb d_Printer_path_2 rfl (lv_at hl 2 rfl) ?_
  refine lv_astore_n (lv' := [(3, .ref nd), (2, .int 0), (0, .ref p1), (1, .ref nd)]) hx hb d_Printer_path_3 rfl hl (by decide) rfl (fun ls hl => ?_)
  refine w_loop (D := (dC, dI)) (cl := classes) (A := A) (H0 := s.heap) (nL := 4) 4 (σ := Nat × Nat × (Nat → Option Nat)) (fun ⟨d, v, h⟩ => d ≤ 32 ∧ isV E v ∧ ∀ j, j < d → ∃ b, h j = some b ∧ isV E b) (fun ⟨d, v, h⟩ => 32 - d) (fun ⟨d, v, h⟩ => [(p1, .inr (3, [.ref pb, .int (nI k), .ref ps])), (pb, .inl (cB, 16384, .inl g)), (ps, .inl (cV, 32, .inr (.inr (.inr (.inr h)))))] ++ va_pl L f) (fun ⟨d, v, h⟩ => [(0, .ref p1), (1, .ref nd), (2, .int (nI d)), (3, .ref v)]) ?_ (0, nd, h) ⟨Nat.zero_le _, isF.v hnd, fun j hj => absurd hj (Nat.not_lt_zero _)⟩ hP hD hS (lv_sub hl [2, 3, 1, 0] rfl)
  rintro ⟨d, v, h⟩ H locs ls hI ih hP hD hS hl
  have hP : va_P (dC, dI) classes ([(p1, .inr (3, [.ref pb, .int (nI k), .ref ps])), (pb, .inl (cB, 16384, .inl g)), (ps, .inl (cV, 32, .inr (.inr (.inr (.inr h)))))] ++ va_pl L f) H := hP
  have hD : va_D A ([(p1, .inr (3, [.ref pb, .int (nI k), .ref ps])), (pb, .inl (cB, 16384, .inl g)), (ps, .inl (cV, 32, .inr (.inr (.inr (.inr h)))))] ++ va_pl L f) := hD
  have hl : lv_has ls 4 [(0, .ref p1), (1, .ref nd), (2, .int (nI d)), (3, .ref v)] := hl
  obtain ⟨hd, hv9, hst⟩ := hI
  have hd : d ≤ 32 := hd
  have hv9 : isV E v := hv9
  have hst : ∀ j, j < d → ∃ b, h j = some b ∧ isV E b := hst
  refine lv_aload_n hx hb d_Printer_path_4 rfl (lv_at hl 3 rfl) ?_
  obtain ⟨kd1, nu1, tx1, me1, pa1, na1, ix1, nm1, no1, sp1, ef1, hv1⟩ := hO.val hv9
  rcases pa1 with _ | b2
  · refine vq_get (D := (dC, dI)) (ci := 9) (v := .null) (C := R_Value) (T := F_Value) (N := 10) hx hb hts in_Value hown hK hP (hO.inV hv9) ef1 rfl 4 (by decide) (hts _ z_329) (fun _ h9 => h9) rfl d_Printer_path_5 ?_
    refine lv_ifnullN (tgt := 35) hx hb d_Printer_path_8 (by decide) ?_
    refine lv_aload_n hx hb d_Printer_path_35 rfl (lv_at hl 0 rfl) ?_
    refine lv_bipush (v := 36) hx hb d_Printer_path_36 (by decide) ?_
    have hPc := hP.sub (ws' := [(p1, .inr (3, [.ref pb, .int (nI k), .ref ps])), (pb, .inl (cB, 16384, .inl g))]) [0, 1] rfl
    have hDc := hD.sub (ws' := [(p1, .inr (3, [.ref pb, .int (nI k), .ref ps])), (pb, .inl (cB, 16384, .inl g))]) [0, 1] (by decide) rfl
    have hFc := va_free (wc := [(p1, .inr (3, [.ref pb, .int (nI k), .ref ps])), (pb, .inl (cB, 16384, .inl g))]) hD hS hA [0, 1] rfl
    have hKc := hK.sub (tys' := [(cB, .byte)]) [0] rfl
    refine w_same (fun hq0 => ?_)
    refine vx_callv (vx_runV (As := [.int 36]) (rest := []) ⟨hx, hb, hml, hown, hts⟩ (w_put l hl9 dC dI cB p1 pb H (.ref ps) g k 36 hk) (cwV 1 hts (gt_V (own := R_Printer) (C := R_Printer) (i := 25) (y := y_Printer_put) i_Printer_put w_957 w_959 (gt_sel (y := y_Printer_put) (n := 3) (by decide +kernel)) w_6) rfl rfl rfl (by decide +kernel) ⟨Nat.le_of_ble_eq_true rfl, Nat.le_of_ble_eq_true rfl⟩) ⟨mx_blind, va_recv hK hP (ci := 3) (q0 := 0) rfl rfl, fun U hU hW => ⟨rfl, ⟨hU, by rw [hU]; exact hPc, va_K.moved hW.alike hKc, hDc.weaken (fun _ _ _ _ => trivial)⟩, hN.warm hW, by rw [hU]; exact ZX.moved' hW.alike (ZX.narrow' (ZX.kept' hZ hS.2.1) hFc)⟩⟩ rfl rfl hl.1 rfl (lv_room (Nat.le_of_ble_eq_true rfl)) d_Printer_path_38 ⟨Nat.le_of_ble_eq_true rfl, Nat.le_of_ble_eq_true rfl⟩) hS (fun q _ h => hFc q h) hFc (fun q _ h => hFc q h) (fun En ce q9 ⟨kx, gx⟩ t9 H1 locs ht hvm hw hB hz1 hk1 hS hce hcv hcl => ?_) (fun ⟨k3, g3⟩ t9 H1 locs ht hvm hw hB hz1 hk1 hS => ?_)
    · obtain ⟨hEn, hP1, hK1, hD1⟩ := hB
      rw [ht] at hP1
      obtain ⟨hP, hD⟩ := va_joinQ (wr := [(ps, .inl (cV, 32, .inr (.inr (.inr (.inr h)))))]) (w1 := [(p1, .inr (3, [.ref pb, .int (nI kx), .ref ps])), (pb, .inl (cB, 16384, .inl gx))]) hP hD [0, 1] [2] rfl rfl (by decide) (by decide) hk1 hFc hP1 hD1
      generalize H1 = H at hP hS hce ⊢
      have hP : va_P (dC, dI) classes ([(ps, .inl (cV, 32, .inr (.inr (.inr (.inr h))))), (p1, .inr (3, [.ref pb, .int (nI kx), .ref ps])), (pb, .inl (cB, 16384, .inl gx))] ++ va_pl L f) H := hP
      have hD : va_D A ([(ps, .inl (cV, 32, .inr (.inr (.inr (.inr h))))), (p1, .inr (3, [.ref pb, .int (nI kx), .ref ps])), (pb, .inl (cB, 16384, .inl gx))] ++ va_pl L f) := hD
      have hP := hP.part (cx := [(p1, .inr (3, [.ref pb, .int (nI kx), .ref ps])), (pb, .inl (cB, 16384, .inl gx)), (ps, .inl (cV, 32, .inr (.inr (.inr (.inr h)))))]) [1, 2, 0] rfl
      have hD := hD.part (cx := [(p1, .inr (3, [.ref pb, .int (nI kx), .ref ps])), (pb, .inl (cB, 16384, .inl gx)), (ps, .inl (cV, 32, .inr (.inr (.inr (.inr h)))))]) [1, 2, 0] (by decide) rfl
      exact vx_out (fun x hx => (hex x hx).elim) hlocks hce hcv hcl (fun t9 ht2 ha => ⟨(nI kx, gx, h), trivial, ⟨hEn, by rw [ht2]; exact hP, va_K.moved ha hK, hD⟩, hS.F ht2⟩) hS.2.2 (Nat.le_of_ble_eq_true rfl) (Nat.le_of_ble_eq_true rfl)
    · obtain ⟨⟨hP1, hK1, hD1⟩, hz9⟩ := hB
      rw [ht] at hP1
      rw [ht] at hz9
      refine w_tight (hq0.trans hz9) ?_
      have hq0 := hq0.trans hz9
      obtain ⟨hP, hD⟩ := va_joinQ (wr := [(ps, .inl (cV, 32, .inr (.inr (.inr (.inr h)))))]) (w1 := [(p1, .inr (3, [.ref pb, .int (nI k3), .ref ps])), (pb, .inl (cB, 16384, .inl g3))]) hP hD [0, 1] [2] rfl rfl (by decide) (by decide) hk1 hFc hP1 hD1
      generalize H1 = H at hP hS hq0 ⊢
      have hP : va_P (dC, dI) classes ([(ps, .inl (cV, 32, .inr (.inr (.inr (.inr h))))), (p1, .inr (3, [.ref pb, .int (nI k3), .ref ps])), (pb, .inl (cB, 16384, .inl g3))] ++ va_pl L f) H := hP
      have hD : va_D A ([(ps, .inl (cV, 32, .inr (.inr (.inr (.inr h))))), (p1, .inr (3, [.ref pb, .int (nI k3), .ref ps])), (pb, .inl (cB, 16384, .inl g3))] ++ va_pl L f) := hD
      have hP := hP.part (cx := [(p1, .inr (3, [.ref pb, .int (nI k3), .ref ps])), (pb, .inl (cB, 16384, .inl g3)), (ps, .inl (cV, 32, .inr (.inr (.inr (.inr h)))))]) [1, 2, 0] rfl
      have hD := hD.part (cx := [(p1, .inr (3, [.ref pb, .int (nI k3), .ref ps])), (pb, .inl (cB, 16384, .inl g3)), (ps, .inl (cV, 32, .inr (.inr (.inr (.inr h)))))]) [1, 2, 0] (by decide) rfl
      have hk3 : k3 ≤ 16384 := hw
      refine lv_iload_n hx hb d_Printer_path_41 rfl (lv_at hl 2 rfl) ?_
      refine lv_iconst (v := 1) hx hb d_Printer_path_42 (by decide) ?_
      refine lv_isub hx hb d_Printer_path_43 ?_
      refine lv_istore_n (lv' := [(3, .int ((nI d) - 1)), (0, .ref p1), (1, .ref nd), (2, .int (nI d))]) hx hb d_Printer_path_44 rfl hl (by decide) rfl (fun ls hl => ?_)
      have hl : lv_has ls 4 [(3, .int ((nI d) - 1)), (0, .ref p1), (1, .ref nd), (2, .int (nI d))] := hl
      refine w_loop (D := (dC, dI)) (cl := classes) (A := A) (H0 := s.heap) (nL := 4) 45 (σ := Nat × Nat × (Nat → Int32)) (fun ⟨j, k, g⟩ => j ≤ d ∧ k ≤ 16384) (fun ⟨j, k, g⟩ => j) (fun ⟨j, k, g⟩ => [(p1, .inr (3, [.ref pb, .int (nI k), .ref ps])), (pb, .inl (cB, 16384, .inl g)), (ps, .inl (cV, 32, .inr (.inr (.inr (.inr h)))))] ++ va_pl L f) (fun ⟨j, k, g⟩ => [(0, .ref p1), (1, .ref nd), (2, .int (nI d)), (3, .int (nI j - 1))]) ?_ (d, k3, g3) ⟨Nat.le_refl _, hk3⟩ hP hD hS (lv_sub hl [1, 2, 3, 0] rfl)
      rintro ⟨j, k, g⟩ H locs ls hI ih hP hD hS hl
      have hP : va_P (dC, dI) classes ([(p1, .inr (3, [.ref pb, .int (nI k), .ref ps])), (pb, .inl (cB, 16384, .inl g)), (ps, .inl (cV, 32, .inr (.inr (.inr (.inr h)))))] ++ va_pl L f) H := hP
      have hD : va_D A ([(p1, .inr (3, [.ref pb, .int (nI k), .ref ps])), (pb, .inl (cB, 16384, .inl g)), (ps, .inl (cV, 32, .inr (.inr (.inr (.inr h)))))] ++ va_pl L f) := hD
      have hl : lv_has ls 4 [(0, .ref p1), (1, .ref nd), (2, .int (nI d)), (3, .int (nI j - 1))] := hl
      obtain ⟨hj, hk⟩ := hI
      have hj : j ≤ d := hj
      have hk : k ≤ 16384 := hk
      rcases j with _ | j
      · have hl : lv_has ls 4 [(0, .ref p1), (1, .ref nd), (2, .int (nI d)), (3, .int (-1))] := hl
        refine lv_iload_n hx hb d_Printer_path_45 rfl (lv_at hl 3 rfl) ?_
        refine lv_if_lt (tgt := 111) hx hb d_Printer_path_46 (by decide) (fun _ => ?_) (fun h => absurd (by decide) h)
        refine w_same (fun hq => ?_)
        refine W.widen (k := 1) (n := 6) (Nat.le_of_ble_eq_true rfl) (Nat.le_of_ble_eq_true rfl) ?_
        refine vx_ret ?_
        exact W.vret hx hb hr (fun t9 ht hW => ⟨⟨(k, g, h), rfl, hk, ⟨by rw [ht]; exact hP, va_K.moved hW.alike hK, hD⟩, by rw [ht]; exact hq⟩, hS.F ht⟩) hS.2.2 d_Printer_path_111
      · rw [nI_pred] at hl
        have hl : lv_has ls 4 [(0, .ref p1), (1, .ref nd), (2, .int (nI d)), (3, .int (nI j))] := hl
        obtain ⟨st9, hst1, hst2⟩ := hst j (by omega)
        refine lv_iload_n hx hb d_Printer_path_45 rfl (lv_at hl 3 rfl) ?_
        refine lv_if_lt (tgt := 111) hx hb d_Printer_path_46 (by decide) (fun h => absurd h (nI_pos (by omega))) (fun _ => ?_)
        refine lv_aload_n hx hb d_Printer_path_49 rfl (lv_at hl 0 rfl) ?_
        refine lv_bipush (v := 91) hx hb d_Printer_path_50 (by decide) ?_
        have hPc := hP.sub (ws' := [(p1, .inr (3, [.ref pb, .int (nI k), .ref ps])), (pb, .inl (cB, 16384, .inl g))]) [0, 1] rfl
        have hDc := hD.sub (ws' := [(p1, .inr (3, [.ref pb, .int (nI k), .ref ps])), (pb, .inl (cB, 16384, .inl g))]) [0, 1] (by decide) rfl
        have hFc := va_free (wc := [(p1, .inr (3, [.ref pb, .int (nI k), .ref ps])), (pb, .inl (cB, 16384, .inl g))]) hD hS hA [0, 1] rfl
        have hKc := hK.sub (tys' := [(cB, .byte)]) [0] rfl
        refine w_same (fun hq0 => ?_)
        refine vx_callv (vx_runV (As := [.int 91]) (rest := []) ⟨hx, hb, hml, hown, hts⟩ (w_put l hl9 dC dI cB p1 pb H (.ref ps) g k 91 hk) (cwV 1 hts (gt_V (own := R_Printer) (C := R_Printer) (i := 25) (y := y_Printer_put) i_Printer_put w_957 w_959 (gt_sel (y := y_Printer_put) (n := 3) (by decide +kernel)) w_6) rfl rfl rfl (by decide +kernel) ⟨Nat.le_of_ble_eq_true rfl, Nat.le_of_ble_eq_true rfl⟩) ⟨mx_blind, va_recv hK hP (ci := 3) (q0 := 0) rfl rfl, fun U hU hW => ⟨rfl, ⟨hU, by rw [hU]; exact hPc, va_K.moved hW.alike hKc, hDc.weaken (fun _ _ _ _ => trivial)⟩, hN.warm hW, by rw [hU]; exact ZX.moved' hW.alike (ZX.narrow' (ZX.kept' hZ hS.2.1) hFc)⟩⟩ rfl rfl hl.1 rfl (lv_room (Nat.le_of_ble_eq_true rfl)) d_Printer_path_52 ⟨Nat.le_of_ble_eq_true rfl, Nat.le_of_ble_eq_true rfl⟩) hS (fun q _ h => hFc q h) hFc (fun q _ h => hFc q h) (fun En ce q9 ⟨kx, gx⟩ t9 H1 locs ht hvm hw hB hz1 hk1 hS hce hcv hcl => ?_) (fun ⟨k4, g4⟩ t9 H1 locs ht hvm hw hB hz1 hk1 hS => ?_)
        · obtain ⟨hEn, hP1, hK1, hD1⟩ := hB
          rw [ht] at hP1
          obtain ⟨hP, hD⟩ := va_joinQ (wr := [(ps, .inl (cV, 32, .inr (.inr (.inr (.inr h)))))]) (w1 := [(p1, .inr (3, [.ref pb, .int (nI kx), .ref ps])), (pb, .inl (cB, 16384, .inl gx))]) hP hD [0, 1] [2] rfl rfl (by decide) (by decide) hk1 hFc hP1 hD1
          generalize H1 = H at hP hS hce ⊢
          have hP : va_P (dC, dI) classes ([(ps, .inl (cV, 32, .inr (.inr (.inr (.inr h))))), (p1, .inr (3, [.ref pb, .int (nI kx), .ref ps])), (pb, .inl (cB, 16384, .inl gx))] ++ va_pl L f) H := hP
          have hD : va_D A ([(ps, .inl (cV, 32, .inr (.inr (.inr (.inr h))))), (p1, .inr (3, [.ref pb, .int (nI kx), .ref ps])), (pb, .inl (cB, 16384, .inl gx))] ++ va_pl L f) := hD
          have hP := hP.part (cx := [(p1, .inr (3, [.ref pb, .int (nI kx), .ref ps])), (pb, .inl (cB, 16384, .inl gx)), (ps, .inl (cV, 32, .inr (.inr (.inr (.inr h)))))]) [1, 2, 0] rfl
          have hD := hD.part (cx := [(p1, .inr (3, [.ref pb, .int (nI kx), .ref ps])), (pb, .inl (cB, 16384, .inl gx)), (ps, .inl (cV, 32, .inr (.inr (.inr (.inr h)))))]) [1, 2, 0] (by decide) rfl
          exact vx_out (fun x hx => (hex x hx).elim) hlocks hce hcv hcl (fun t9 ht2 ha => ⟨(nI kx, gx, h), trivial, ⟨hEn, by rw [ht2]; exact hP, va_K.moved ha hK, hD⟩, hS.F ht2⟩) hS.2.2 (Nat.le_of_ble_eq_true rfl) (Nat.le_of_ble_eq_true rfl)
        · obtain ⟨⟨hP1, hK1, hD1⟩, hz9⟩ := hB
          rw [ht] at hP1
          rw [ht] at hz9
          refine w_tight (hq0.trans hz9) ?_
          have hq0 := hq0.trans hz9
          obtain ⟨hP, hD⟩ := va_joinQ (wr := [(ps, .inl (cV, 32, .inr (.inr (.inr (.inr h)))))]) (w1 := [(p1, .inr (3, [.ref pb, .int (nI k4), .ref ps])), (pb, .inl (cB, 16384, .inl g4))]) hP hD [0, 1] [2] rfl rfl (by decide) (by decide) hk1 hFc hP1 hD1
          generalize H1 = H at hP hS hq0 ⊢
          have hP : va_P (dC, dI) classes ([(ps, .inl (cV, 32, .inr (.inr (.inr (.inr h))))), (p1, .inr (3, [.ref pb, .int (nI k4), .ref ps])), (pb, .inl (cB, 16384, .inl g4))] ++ va_pl L f) H := hP
          have hD : va_D A ([(ps, .inl (cV, 32, .inr (.inr (.inr (.inr h))))), (p1, .inr (3, [.ref pb, .int (nI k4), .ref ps])), (pb, .inl (cB, 16384, .inl g4))] ++ va_pl L f) := hD
          have hP := hP.part (cx := [(p1, .inr (3, [.ref pb, .int (nI k4), .ref ps])), (pb, .inl (cB, 16384, .inl g4)), (ps, .inl (cV, 32, .inr (.inr (.inr (.inr h)))))]) [1, 2, 0] rfl
          have hD := hD.part (cx := [(p1, .inr (3, [.ref pb, .int (nI k4), .ref ps])), (pb, .inl (cB, 16384, .inl g4)), (ps, .inl (cV, 32, .inr (.inr (.inr (.inr h)))))]) [1, 2, 0] (by decide) rfl
          have hk4 : k4 ≤ 16384 := hw
          refine lv_aload_n hx hb d_Printer_path_55 rfl (lv_at hl 0 rfl) ?_
          refine va_get (D := (dC, dI)) (ci := 3) (v := .ref ps) (C := R_Printer) (T := F_Printer) (N := 3) hx hb hts in_Printer hown hK hP 0 rfl rfl 2 (by decide) (hts _ w_143) (fun _ h9 => h9) rfl d_Printer_path_56 ?_
          refine lv_iload_n hx hb d_Printer_path_59 rfl (lv_at hl 3 rfl) ?_
          refine vq_ald0 hx hb hK hP 2 2 rfl rfl (show j < 32 by omega) (by decide) hst1 d_Printer_path_60 ?_
          obtain ⟨kd5, nu5, tx5, me5, pa5, na5, ix5, nm5, no5, sp5, ef5, hv5⟩ := hO.val hst2
          rcases na5 with _ | b6
          · refine vq_get (D := (dC, dI)) (ci := 9) (v := .null) (C := R_Value) (T := F_Value) (N := 10) hx hb hts in_Value hown hK hP (hO.inV hst2) ef5 rfl 5 (by decide) (hts _ z_332) (fun _ h9 => h9) rfl d_Printer_path_61 ?_
            refine lv_ifnonnullN hx hb d_Printer_path_64 ?_
            refine lv_aload_n hx hb d_Printer_path_67 rfl (lv_at hl 0 rfl) ?_
            refine lv_aload_n hx hb d_Printer_path_68 rfl (lv_at hl 0 rfl) ?_
            refine va_get (D := (dC, dI)) (ci := 3) (v := .ref ps) (C := R_Printer) (T := F_Printer) (N := 3) hx hb hts in_Printer hown hK hP 0 rfl rfl 2 (by decide) (hts _ w_143) (fun _ h9 => h9) rfl d_Printer_path_69 ?_
            refine lv_iload_n hx hb d_Printer_path_72 rfl (lv_at hl 3 rfl) ?_
            refine vq_ald0 hx hb hK hP 2 2 rfl rfl (show j < 32 by omega) (by decide) hst1 d_Printer_path_73 ?_
            refine vq_get (D := (dC, dI)) (ci := 9) (v := .int ix5) (C := R_Value) (T := F_Value) (N := 10) hx hb hts in_Value hown hK hP (hO.inV hst2) ef5 rfl 6 (by decide) (hts _ z_334) (fun _ h9 => h9) rfl d_Printer_path_74 ?_
            refine lv_i2l (v := ix5.toInt64) hx hb d_Printer_path_77 rfl ?_
            have hPc := hP.sub (ws' := [(p1, .inr (3, [.ref pb, .int (nI k4), .ref ps])), (pb, .inl (cB, 16384, .inl g4))]) [0, 1] rfl
            have hDc := hD.sub (ws' := [(p1, .inr (3, [.ref pb, .int (nI k4), .ref ps])), (pb, .inl (cB, 16384, .inl g4))]) [0, 1] (by decide) rfl
            have hFc := va_free (wc := [(p1, .inr (3, [.ref pb, .int (nI k4), .ref ps])), (pb, .inl (cB, 16384, .inl g4))]) hD hS hA [0, 1] rfl
            have hKc := hK.sub (tys' := [(cB, .byte)]) [0] rfl
            refine w_same (fun hq0 => ?_)
            refine vx_callv (vx_runV (As := [.long (ix5.toInt64)]) (rest := []) ⟨hx, hb, hml, hown, hts⟩ (c_Printer_number l hl9 dC dI H cB p1 pb ps g4 k4 hk4 (ix5.toInt64)) (cwV 1 hts (gt_V (own := R_Printer) (C := R_Printer) (i := 60) (y := y_Printer_number) i_Printer_number z_963 z_965 (gt_sel (y := y_Printer_number) (n := 3) (by decide +kernel)) w_6) rfl rfl rfl (by decide +kernel) ⟨Nat.le_of_ble_eq_true rfl, Nat.le_of_ble_eq_true rfl⟩) ⟨mx_blind, va_recv hK hP (ci := 3) (q0 := 0) rfl rfl, fun U hU hW => ⟨rfl, ⟨hU, by rw [hU]; exact hPc, va_K.moved hW.alike hKc, hDc.weaken (fun _ _ _ _ => trivial)⟩, hN.warm hW, by rw [hU]; exact ZX.moved' hW.alike (ZX.narrow' (ZX.kept' hZ hS.2.1) hFc)⟩⟩ rfl rfl hl.1 rfl (lv_room (Nat.le_of_ble_eq_true rfl)) d_Printer_path_78 ⟨Nat.le_of_ble_eq_true rfl, Nat.le_of_ble_eq_true rfl⟩) hS (fun q _ h => hFc q h) hFc (fun q _ h => hFc q h) (fun En ce q9 ⟨kx, gx⟩ t9 H1 locs ht hvm hw hB hz1 hk1 hS hce hcv hcl => ?_) (fun ⟨k7, g7⟩ t9 H1 locs ht hvm hw hB hz1 hk1 hS => ?_)
            · obtain ⟨hEn, hP1, hK1, hD1⟩ := hB
              rw [ht] at hP1
              obtain ⟨hP, hD⟩ := va_joinQ (wr := [(ps, .inl (cV, 32, .inr (.inr (.inr (.inr h)))))]) (w1 := [(p1, .inr (3, [.ref pb, .int kx, .ref ps])), (pb, .inl (cB, 16384, .inl gx))]) hP hD [0, 1] [2] rfl rfl (by decide) (by decide) hk1 hFc hP1 hD1
              generalize H1 = H at hP hS hce ⊢
              have hP : va_P (dC, dI) classes ([(ps, .inl (cV, 32, .inr (.inr (.inr (.inr h))))), (p1, .inr (3, [.ref pb, .int kx, .ref ps])), (pb, .inl (cB, 16384, .inl gx))] ++ va_pl L f) H := hP
              have hD : va_D A ([(ps, .inl (cV, 32, .inr (.inr (.inr (.inr h))))), (p1, .inr (3, [.ref pb, .int kx, .ref ps])), (pb, .inl (cB, 16384, .inl gx))] ++ va_pl L f) := hD
              have hP := hP.part (cx := [(p1, .inr (3, [.ref pb, .int kx, .ref ps])), (pb, .inl (cB, 16384, .inl gx)), (ps, .inl (cV, 32, .inr (.inr (.inr (.inr h)))))]) [1, 2, 0] rfl
              have hD := hD.part (cx := [(p1, .inr (3, [.ref pb, .int kx, .ref ps])), (pb, .inl (cB, 16384, .inl gx)), (ps, .inl (cV, 32, .inr (.inr (.inr (.inr h)))))]) [1, 2, 0] (by decide) rfl
              exact vx_out (fun x hx => (hex x hx).elim) hlocks hce hcv hcl (fun t9 ht2 ha => ⟨(kx, gx, h), trivial, ⟨hEn, by rw [ht2]; exact hP, va_K.moved ha hK, hD⟩, hS.F ht2⟩) hS.2.2 (Nat.le_of_ble_eq_true rfl) (Nat.le_of_ble_eq_true rfl)
            · obtain ⟨⟨hP1, hK1, hD1⟩, hz9⟩ := hB
              rw [ht] at hP1
              rw [ht] at hz9
              refine w_tight (hq0.trans hz9) ?_
              have hq0 := hq0.trans hz9
              obtain ⟨hP, hD⟩ := va_joinQ (wr := [(ps, .inl (cV, 32, .inr (.inr (.inr (.inr h)))))]) (w1 := [(p1, .inr (3, [.ref pb, .int (nI k7), .ref ps])), (pb, .inl (cB, 16384, .inl g7))]) hP hD [0, 1] [2] rfl rfl (by decide) (by decide) hk1 hFc hP1 hD1
              generalize H1 = H at hP hS hq0 ⊢
              have hP : va_P (dC, dI) classes ([(ps, .inl (cV, 32, .inr (.inr (.inr (.inr h))))), (p1, .inr (3, [.ref pb, .int (nI k7), .ref ps])), (pb, .inl (cB, 16384, .inl g7))] ++ va_pl L f) H := hP
              have hD : va_D A ([(ps, .inl (cV, 32, .inr (.inr (.inr (.inr h))))), (p1, .inr (3, [.ref pb, .int (nI k7), .ref ps])), (pb, .inl (cB, 16384, .inl g7))] ++ va_pl L f) := hD
              have hP := hP.part (cx := [(p1, .inr (3, [.ref pb, .int (nI k7), .ref ps])), (pb, .inl (cB, 16384, .inl g7)), (ps, .inl (cV, 32, .inr (.inr (.inr (.inr h)))))]) [1, 2, 0] rfl
              have hD := hD.part (cx := [(p1, .inr (3, [.ref pb, .int (nI k7), .ref ps])), (pb, .inl (cB, 16384, .inl g7)), (ps, .inl (cV, 32, .inr (.inr (.inr (.inr h)))))]) [1, 2, 0] (by decide) rfl
              have hk7 : k7 ≤ 16384 := hw
              refine lv_goto (tgt := 99) hx hb d_Printer_path_81 (by decide) ?_
              refine lv_aload_n hx hb d_Printer_path_99 rfl (lv_at hl 0 rfl) ?_
              refine lv_bipush (v := 93) hx hb d_Printer_path_100 (by decide) ?_
              have hPc := hP.sub (ws' := [(p1, .inr (3, [.ref pb, .int (nI k7), .ref ps])), (pb, .inl (cB, 16384, .inl g7))]) [0, 1] rfl
              have hDc := hD.sub (ws' := [(p1, .inr (3, [.ref pb, .int (nI k7), .ref ps])), (pb, .inl (cB, 16384, .inl g7))]) [0, 1] (by decide) rfl
              have hFc := va_free (wc := [(p1, .inr (3, [.ref pb, .int (nI k7), .ref ps])), (pb, .inl (cB, 16384, .inl g7))]) hD hS hA [0, 1] rfl
              have hKc := hK.sub (tys' := [(cB, .byte)]) [0] rfl
              refine w_same (fun hq0 => ?_)
              refine vx_callv (vx_runV (As := [.int 93]) (rest := []) ⟨hx, hb, hml, hown, hts⟩ (w_put l hl9 dC dI cB p1 pb H (.ref ps) g7 k7 93 hk7) (cwV 1 hts (gt_V (own := R_Printer) (C := R_Printer) (i := 25) (y := y_Printer_put) i_Printer_put w_957 w_959 (gt_sel (y := y_Printer_put) (n := 3) (by decide +kernel)) w_6) rfl rfl rfl (by decide +kernel) ⟨Nat.le_of_ble_eq_true rfl, Nat.le_of_ble_eq_true rfl⟩) ⟨mx_blind, va_recv hK hP (ci := 3) (q0 := 0) rfl rfl, fun U hU hW => ⟨rfl, ⟨hU, by rw [hU]; exact hPc, va_K.moved hW.alike hKc, hDc.weaken (fun _ _ _ _ => trivial)⟩, hN.warm hW, by rw [hU]; exact ZX.moved' hW.alike (ZX.narrow' (ZX.kept' hZ hS.2.1) hFc)⟩⟩ rfl rfl hl.1 rfl (lv_room (Nat.le_of_ble_eq_true rfl)) d_Printer_path_102 ⟨Nat.le_of_ble_eq_true rfl, Nat.le_of_ble_eq_true rfl⟩) hS (fun q _ h => hFc q h) hFc (fun q _ h => hFc q h) (fun En ce q9 ⟨kx, gx⟩ t9 H1 locs ht hvm hw hB hz1 hk1 hS hce hcv hcl => ?_) (fun ⟨k8, g8⟩ t9 H1 locs ht hvm hw hB hz1 hk1 hS => ?_)
              · obtain ⟨hEn, hP1, hK1, hD1⟩ := hB
                rw [ht] at hP1
                obtain ⟨hP, hD⟩ := va_joinQ (wr := [(ps, .inl (cV, 32, .inr (.inr (.inr (.inr h)))))]) (w1 := [(p1, .inr (3, [.ref pb, .int (nI kx), .ref ps])), (pb, .inl (cB, 16384, .inl gx))]) hP hD [0, 1] [2] rfl rfl (by decide) (by decide) hk1 hFc hP1 hD1
                generalize H1 = H at hP hS hce ⊢
                have hP : va_P (dC, dI) classes ([(ps, .inl (cV, 32, .inr (.inr (.inr (.inr h))))), (p1, .inr (3, [.ref pb, .int (nI kx), .ref ps])), (pb, .inl (cB, 16384, .inl gx))] ++ va_pl L f) H := hP
                have hD : va_D A ([(ps, .inl (cV, 32, .inr (.inr (.inr (.inr h))))), (p1, .inr (3, [.ref pb, .int (nI kx), .ref ps])), (pb, .inl (cB, 16384, .inl gx))] ++ va_pl L f) := hD
                have hP := hP.part (cx := [(p1, .inr (3, [.ref pb, .int (nI kx), .ref ps])), (pb, .inl (cB, 16384, .inl gx)), (ps, .inl (cV, 32, .inr (.inr (.inr (.inr h)))))]) [1, 2, 0] rfl
                have hD := hD.part (cx := [(p1, .inr (3, [.ref pb, .int (nI kx), .ref ps])), (pb, .inl (cB, 16384, .inl gx)), (ps, .inl (cV, 32, .inr (.inr (.inr (.inr h)))))]) [1, 2, 0] (by decide) rfl
                exact vx_out (fun x hx => (hex x hx).elim) hlocks hce hcv hcl (fun t9 ht2 ha => ⟨(nI kx, gx, h), trivial, ⟨hEn, by rw [ht2]; exact hP, va_K.moved ha hK, hD⟩, hS.F ht2⟩) hS.2.2 (Nat.le_of_ble_eq_true rfl) (Nat.le_of_ble_eq_true rfl)
              · obtain ⟨⟨hP1, hK1, hD1⟩, hz9⟩ := hB
                rw [ht] at hP1
                rw [ht] at hz9
                refine w_tight (hq0.trans hz9) ?_
                have hq0 := hq0.trans hz9
                obtain ⟨hP, hD⟩ := va_joinQ (wr := [(ps, .inl (cV, 32, .inr (.inr (.inr (.inr h)))))]) (w1 := [(p1, .inr (3, [.ref pb, .int (nI k8), .ref ps])), (pb, .inl (cB, 16384, .inl g8))]) hP hD [0, 1] [2] rfl rfl (by decide) (by decide) hk1 hFc hP1 hD1
                generalize H1 = H at hP hS hq0 ⊢
                have hP : va_P (dC, dI) classes ([(ps, .inl (cV, 32, .inr (.inr (.inr (.inr h))))), (p1, .inr (3, [.ref pb, .int (nI k8), .ref ps])), (pb, .inl (cB, 16384, .inl g8))] ++ va_pl L f) H := hP
                have hD : va_D A ([(ps, .inl (cV, 32, .inr (.inr (.inr (.inr h))))), (p1, .inr (3, [.ref pb, .int (nI k8), .ref ps])), (pb, .inl (cB, 16384, .inl g8))] ++ va_pl L f) := hD
                have hP := hP.part (cx := [(p1, .inr (3, [.ref pb, .int (nI k8), .ref ps])), (pb, .inl (cB, 16384, .inl g8)), (ps, .inl (cV, 32, .inr (.inr (.inr (.inr h)))))]) [1, 2, 0] rfl
                have hD := hD.part (cx := [(p1, .inr (3, [.ref pb, .int (nI k8), .ref ps])), (pb, .inl (cB, 16384, .inl g8)), (ps, .inl (cV, 32, .inr (.inr (.inr (.inr h)))))]) [1, 2, 0] (by decide) rfl
                have hk8 : k8 ≤ 16384 := hw
                refine lv_iinc (v := nI j - 1) (lv' := [(3, .int (nI j - 1)), (0, .ref p1), (1, .ref nd), (2, .int (nI d))]) hx hb d_Printer_path_105 hl (k := 3) rfl (nI_neg1 j).symm (by decide) rfl (fun ls hl => ?_)
                refine lv_goto (tgt := 45) hx hb d_Printer_path_108 (by decide) ?_
                exact ih (j, k8, g8) _ _ _ ⟨show j ≤ d by omega, hk8⟩ (Nat.lt_succ_self j) hP hD hS (lv_sub hl [1, 2, 3, 0] rfl)
          · refine vq_get (D := (dC, dI)) (ci := 9) (v := .ref b6) (C := R_Value) (T := F_Value) (N := 10) hx hb hts in_Value hown hK hP (hO.inV hst2) ef5 rfl 5 (by decide) (hts _ z_332) (fun _ h9 => h9) rfl d_Printer_path_61 ?_
            refine lv_ifnonnull (tgt := 84) hx hb d_Printer_path_64 (by decide) ?_
            refine lv_aload_n hx hb d_Printer_path_84 rfl (lv_at hl 0 rfl) ?_
            refine lv_aload_n hx hb d_Printer_path_85 rfl (lv_at hl 0 rfl) ?_
            refine va_get (D := (dC, dI)) (ci := 3) (v := .ref ps) (C := R_Printer) (T := F_Printer) (N := 3) hx hb hts in_Printer hown hK hP 0 rfl rfl 2 (by decide) (hts _ w_143) (fun _ h9 => h9) rfl d_Printer_path_86 ?_
            refine lv_iload_n hx hb d_Printer_path_89 rfl (lv_at hl 3 rfl) ?_
            refine vq_ald0 hx hb hK hP 2 2 rfl rfl (show j < 32 by omega) (by decide) hst1 d_Printer_path_90 ?_
            refine vq_get (D := (dC, dI)) (ci := 9) (v := .ref b6) (C := R_Value) (T := F_Value) (N := 10) hx hb hts in_Value hown hK hP (hO.inV hst2) ef5 rfl 5 (by decide) (hts _ z_332) (fun _ h9 => h9) rfl d_Printer_path_91 ?_
            refine lv_bipush (v := 39) hx hb d_Printer_path_94 (by decide) ?_
            have hPc := hP.part (cx := [(p1, .inr (3, [.ref pb, .int (nI k4), .ref ps])), (pb, .inl (cB, 16384, .inl g4))]) [0, 1] rfl
            have hDc := hD.part (cx := [(p1, .inr (3, [.ref pb, .int (nI k4), .ref ps])), (pb, .inl (cB, 16384, .inl g4))]) [0, 1] (by decide) rfl
            have hFc := va_freeP (cx := [(p1, .inr (3, [.ref pb, .int (nI k4), .ref ps])), (pb, .inl (cB, 16384, .inl g4))]) hD hS hA [0, 1] rfl
            have hKc := hK.sub (tys' := [(cB, .byte), (cI, .int), (cV, .object "QueryBench$Value")]) [0, 1, 2] rfl
            refine w_same (fun hq0 => ?_)
            refine vx_callv (vx_runV (As := [.ref b6, .int 39]) (rest := []) ⟨hx, hb, hml, hown, hts⟩ (c_Printer_text l hl9 K dC dI H cI cV E lv L f hO cB p1 pb ps g4 k4 hk4 b6 (hv5.2.2.2.1 b6 rfl) 39) (cwV 2 hts (gt_V (own := R_Printer) (C := R_Printer) (i := 64) (y := y_Printer_text) i_Printer_text z_968 z_970 (gt_sel (y := y_Printer_text) (n := 3) (by decide +kernel)) w_6) rfl rfl rfl (by decide +kernel) ⟨Nat.le_of_ble_eq_true rfl, Nat.le_of_ble_eq_true rfl⟩) ⟨ml_blind, va_recv hK hP (ci := 3) (q0 := 0) rfl rfl, fun U hU hW => ⟨rfl, ⟨hU, by rw [hU]; exact hPc, va_K.moved hW.alike hKc, hDc.weaken (fun _ _ _ _ => trivial)⟩, hN.warm hW, by rw [hU]; exact ZX.moved' hW.alike (ZX.narrow' (ZX.kept' hZ hS.2.1) hFc), by rw [hU]; exact CE.call hC hS.2.1 hFc hW, va_AO.moved hW.alike hV⟩⟩ rfl rfl hl.1 rfl (lv_room (Nat.le_of_ble_eq_true rfl)) d_Printer_path_96 ⟨Nat.le_of_ble_eq_true rfl, Nat.le_of_ble_eq_true rfl⟩) hS (fun q _ h => hFc q h) hFc (fun q _ h => hFc q h) (fun En ce q9 ⟨kx, gx⟩ t9 H1 locs ht hvm hw hB hz1 hk1 hS hce hcv hcl => ?_) (fun ⟨k9, g9⟩ t9 H1 locs ht hvm hw hB hz1 hk1 hS => ?_)
            · obtain ⟨hEn, hP1, hK1, hD1⟩ := hB
              rw [ht] at hP1
              obtain ⟨hP, hD⟩ := va_joinP (wr := [(ps, .inl (cV, 32, .inr (.inr (.inr (.inr h)))))]) (rx := [(p1, .inr (3, [.ref pb, .int kx, .ref ps])), (pb, .inl (cB, 16384, .inl gx))]) (pl1 := va_pl L f) hP hD [0, 1] [2] rfl rfl (by decide) (by decide) hk1 hFc hP1 hD1
              generalize H1 = H at hP hS hce ⊢
              have hP : va_P (dC, dI) classes ([(ps, .inl (cV, 32, .inr (.inr (.inr (.inr h))))), (p1, .inr (3, [.ref pb, .int kx, .ref ps])), (pb, .inl (cB, 16384, .inl gx))] ++ va_pl L f) H := hP
              have hD : va_D A ([(ps, .inl (cV, 32, .inr (.inr (.inr (.inr h))))), (p1, .inr (3, [.ref pb, .int kx, .ref ps])), (pb, .inl (cB, 16384, .inl gx))] ++ va_pl L f) := hD
              have hP := hP.part (cx := [(p1, .inr (3, [.ref pb, .int kx, .ref ps])), (pb, .inl (cB, 16384, .inl gx)), (ps, .inl (cV, 32, .inr (.inr (.inr (.inr h)))))]) [1, 2, 0] rfl
              have hD := hD.part (cx := [(p1, .inr (3, [.ref pb, .int kx, .ref ps])), (pb, .inl (cB, 16384, .inl gx)), (ps, .inl (cV, 32, .inr (.inr (.inr (.inr h)))))]) [1, 2, 0] (by decide) rfl
              exact vx_out (fun x hx => (hex x hx).elim) hlocks hce hcv hcl (fun t9 ht2 ha => ⟨(kx, gx, h), trivial, ⟨hEn, by rw [ht2]; exact hP, va_K.moved ha hK, hD⟩, hS.F ht2⟩) hS.2.2 (Nat.le_of_ble_eq_true rfl) (Nat.le_of_ble_eq_true rfl)
            · obtain ⟨⟨hP1, hK1, hD1⟩, hz9⟩ := hB
              rw [ht] at hP1
              rw [ht] at hz9
              refine w_tight (hq0.trans hz9) ?_
              have hq0 := hq0.trans hz9
              obtain ⟨hP, hD⟩ := va_joinP (wr := [(ps, .inl (cV, 32, .inr (.inr (.inr (.inr h)))))]) (rx := [(p1, .inr (3, [.ref pb, .int (nI k9), .ref ps])), (pb, .inl (cB, 16384, .inl g9))]) (pl1 := va_pl L f) hP hD [0, 1] [2] rfl rfl (by decide) (by decide) hk1 hFc hP1 hD1
              generalize H1 = H at hP hS hq0 ⊢
              have hP : va_P (dC, dI) classes ([(ps, .inl (cV, 32, .inr (.inr (.inr (.inr h))))), (p1, .inr (3, [.ref pb, .int (nI k9), .ref ps])), (pb, .inl (cB, 16384, .inl g9))] ++ va_pl L f) H := hP
              have hD : va_D A ([(ps, .inl (cV, 32, .inr (.inr (.inr (.inr h))))), (p1, .inr (3, [.ref pb, .int (nI k9), .ref ps])), (pb, .inl (cB, 16384, .inl g9))] ++ va_pl L f) := hD
              have hP := hP.part (cx := [(p1, .inr (3, [.ref pb, .int (nI k9), .ref ps])), (pb, .inl (cB, 16384, .inl g9)), (ps, .inl (cV, 32, .inr (.inr (.inr (.inr h)))))]) [1, 2, 0] rfl
              have hD := hD.part (cx := [(p1, .inr (3, [.ref pb, .int (nI k9), .ref ps])), (pb, .inl (cB, 16384, .inl g9)), (ps, .inl (cV, 32, .inr (.inr (.inr (.inr h)))))]) [1, 2, 0] (by decide) rfl
              have hk9 : k9 ≤ 16384 := hw
              refine lv_aload_n hx hb d_Printer_path_99 rfl (lv_at hl 0 rfl) ?_
              refine lv_bipush (v := 93) hx hb d_Printer_path_100 (by decide) ?_
              have hPc := hP.sub (ws' := [(p1, .inr (3, [.ref pb, .int (nI k9), .ref ps])), (pb, .inl (cB, 16384, .inl g9))]) [0, 1] rfl
              have hDc := hD.sub (ws' := [(p1, .inr (3, [.ref pb, .int (nI k9), .ref ps])), (pb, .inl (cB, 16384, .inl g9))]) [0, 1] (by decide) rfl
              have hFc := va_free (wc := [(p1, .inr (3, [.ref pb, .int (nI k9), .ref ps])), (pb, .inl (cB, 16384, .inl g9))]) hD hS hA [0, 1] rfl
              have hKc := hK.sub (tys' := [(cB, .byte)]) [0] rfl
              refine w_same (fun hq0 => ?_)
              refine vx_callv (vx_runV (As := [.int 93]) (rest := []) ⟨hx, hb, hml, hown, hts⟩ (w_put l hl9 dC dI cB p1 pb H (.ref ps) g9 k9 93 hk9) (cwV 1 hts (gt_V (own := R_Printer) (C := R_Printer) (i := 25) (y := y_Printer_put) i_Printer_put w_957 w_959 (gt_sel (y := y_Printer_put) (n := 3) (by decide +kernel)) w_6) rfl rfl rfl (by decide +kernel) ⟨Nat.le_of_ble_eq_true rfl, Nat.le_of_ble_eq_true rfl⟩) ⟨mx_blind, va_recv hK hP (ci := 3) (q0 := 0) rfl rfl, fun U hU hW => ⟨rfl, ⟨hU, by rw [hU]; exact hPc, va_K.moved hW.alike hKc, hDc.weaken (fun _ _ _ _ => trivial)⟩, hN.warm hW, by rw [hU]; exact ZX.moved' hW.alike (ZX.narrow' (ZX.kept' hZ hS.2.1) hFc)⟩⟩ rfl rfl hl.1 rfl (lv_room (Nat.le_of_ble_eq_true rfl)) d_Printer_path_102 ⟨Nat.le_of_ble_eq_true rfl, Nat.le_of_ble_eq_true rfl⟩) hS (fun q _ h => hFc q h) hFc (fun q _ h => hFc q h) (fun En ce q9 ⟨kx, gx⟩ t9 H1 locs ht hvm hw hB hz1 hk1 hS hce hcv hcl => ?_) (fun ⟨k10, g10⟩ t9 H1 locs ht hvm hw hB hz1 hk1 hS => ?_)
              · obtain ⟨hEn, hP1, hK1, hD1⟩ := hB
                rw [ht] at hP1
                obtain ⟨hP, hD⟩ := va_joinQ (wr := [(ps, .inl (cV, 32, .inr (.inr (.inr (.inr h)))))]) (w1 := [(p1, .inr (3, [.ref pb, .int (nI kx), .ref ps])), (pb, .inl (cB, 16384, .inl gx))]) hP hD [0, 1] [2] rfl rfl (by decide) (by decide) hk1 hFc hP1 hD1
                generalize H1 = H at hP hS hce ⊢
                have hP : va_P (dC, dI) classes ([(ps, .inl (cV, 32, .inr (.inr (.inr (.inr h))))), (p1, .inr (3, [.ref pb, .int (nI kx), .ref ps])), (pb, .inl (cB, 16384, .inl gx))] ++ va_pl L f) H := hP
                have hD : va_D A ([(ps, .inl (cV, 32, .inr (.inr (.inr (.inr h))))), (p1, .inr (3, [.ref pb, .int (nI kx), .ref ps])), (pb, .inl (cB, 16384, .inl gx))] ++ va_pl L f) := hD
                have hP := hP.part (cx := [(p1, .inr (3, [.ref pb, .int (nI kx), .ref ps])), (pb, .inl (cB, 16384, .inl gx)), (ps, .inl (cV, 32, .inr (.inr (.inr (.inr h)))))]) [1, 2, 0] rfl
                have hD := hD.part (cx := [(p1, .inr (3, [.ref pb, .int (nI kx), .ref ps])), (pb, .inl (cB, 16384, .inl gx)), (ps, .inl (cV, 32, .inr (.inr (.inr (.inr h)))))]) [1, 2, 0] (by decide) rfl
                exact vx_out (fun x hx => (hex x hx).elim) hlocks hce hcv hcl (fun t9 ht2 ha => ⟨(nI kx, gx, h), trivial, ⟨hEn, by rw [ht2]; exact hP, va_K.moved ha hK, hD⟩, hS.F ht2⟩) hS.2.2 (Nat.le_of_ble_eq_true rfl) (Nat.le_of_ble_eq_true rfl)
              · obtain ⟨⟨hP1, hK1, hD1⟩, hz9⟩ := hB
                rw [ht] at hP1
                rw [ht] at hz9
                refine w_tight (hq0.trans hz9) ?_
                have hq0 := hq0.trans hz9
                obtain ⟨hP, hD⟩ := va_joinQ (wr := [(ps, .inl (cV, 32, .inr (.inr (.inr (.inr h)))))]) (w1 := [(p1, .inr (3, [.ref pb, .int (nI k10), .ref ps])), (pb, .inl (cB, 16384, .inl g10))]) hP hD [0, 1] [2] rfl rfl (by decide) (by decide) hk1 hFc hP1 hD1
                generalize H1 = H at hP hS hq0 ⊢
                have hP : va_P (dC, dI) classes ([(ps, .inl (cV, 32, .inr (.inr (.inr (.inr h))))), (p1, .inr (3, [.ref pb, .int (nI k10), .ref ps])), (pb, .inl (cB, 16384, .inl g10))] ++ va_pl L f) H := hP
                have hD : va_D A ([(ps, .inl (cV, 32, .inr (.inr (.inr (.inr h))))), (p1, .inr (3, [.ref pb, .int (nI k10), .ref ps])), (pb, .inl (cB, 16384, .inl g10))] ++ va_pl L f) := hD
                have hP := hP.part (cx := [(p1, .inr (3, [.ref pb, .int (nI k10), .ref ps])), (pb, .inl (cB, 16384, .inl g10)), (ps, .inl (cV, 32, .inr (.inr (.inr (.inr h)))))]) [1, 2, 0] rfl
                have hD := hD.part (cx := [(p1, .inr (3, [.ref pb, .int (nI k10), .ref ps])), (pb, .inl (cB, 16384, .inl g10)), (ps, .inl (cV, 32, .inr (.inr (.inr (.inr h)))))]) [1, 2, 0] (by decide) rfl
                have hk10 : k10 ≤ 16384 := hw
                refine lv_iinc (v := nI j - 1) (lv' := [(3, .int (nI j - 1)), (0, .ref p1), (1, .ref nd), (2, .int (nI d))]) hx hb d_Printer_path_105 hl (k := 3) rfl (nI_neg1 j).symm (by decide) rfl (fun ls hl => ?_)
                refine lv_goto (tgt := 45) hx hb d_Printer_path_108 (by decide) ?_
                exact ih (j, k10, g10) _ _ _ ⟨show j ≤ d by omega, hk10⟩ (Nat.lt_succ_self j) hP hD hS (lv_sub hl [1, 2, 3, 0] rfl)
  · refine vq_get (D := (dC, dI)) (ci := 9) (v := .ref b2) (C := R_Value) (T := F_Value) (N := 10) hx hb hts in_Value hown hK hP (hO.inV hv9) ef1 rfl 4 (by decide) (hts _ z_329) (fun _ h9 => h9) rfl d_Printer_path_5 ?_
    refine lv_ifnull hx hb d_Printer_path_8 ?_
    refine lv_iload_n hx hb d_Printer_path_11 rfl (lv_at hl 2 rfl) ?_
    refine lv_bipush (v := 32) hx hb d_Printer_path_12 (by decide) ?_
    refine lv_icmp_ge (tgt := 35) hx hb d_Printer_path_14 (by decide) (fun c14 => ?_) (fun c14 => ?_)
    · refine lv_aload_n hx hb d_Printer_path_35 rfl (lv_at hl 0 rfl) ?_
      refine lv_bipush (v := 36) hx hb d_Printer_path_36 (by decide) ?_
      have hPc := hP.sub (ws' := [(p1, .inr (3, [.ref pb, .int (nI k), .ref ps])), (pb, .inl (cB, 16384, .inl g))]) [0, 1] rfl
      have hDc := hD.sub (ws' := [(p1, .inr (3, [.ref pb, .int (nI k), .ref ps])), (pb, .inl (cB, 16384, .inl g))]) [0, 1] (by decide) rfl
      have hFc := va_free (wc := [(p1, .inr (3, [.ref pb, .int (nI k), .ref ps])), (pb, .inl (cB, 16384, .inl g))]) hD hS hA [0, 1] rfl
      have hKc := hK.sub (tys' := [(cB, .byte)]) [0] rfl
      refine w_same (fun hq0 => ?_)
      refine vx_callv (vx_runV (As := [.int 36]) (rest := []) ⟨hx, hb, hml, hown, hts⟩ (w_put l hl9 dC dI cB p1 pb H (.ref ps) g k 36 hk) (cwV 1 hts (gt_V (own := R_Printer) (C := R_Printer) (i := 25) (y := y_Printer_put) i_Printer_put w_957 w_959 (gt_sel (y := y_Printer_put) (n := 3) (by decide +kernel)) w_6) rfl rfl rfl (by decide +kernel) ⟨Nat.le_of_ble_eq_true rfl, Nat.le_of_ble_eq_true rfl⟩) ⟨mx_blind, va_recv hK hP (ci := 3) (q0 := 0) rfl rfl, fun U hU hW => ⟨rfl, ⟨hU, by rw [hU]; exact hPc, va_K.moved hW.alike hKc, hDc.weaken (fun _ _ _ _ => trivial)⟩, hN.warm hW, by rw [hU]; exact ZX.moved' hW.alike (ZX.narrow' (ZX.kept' hZ hS.2.1) hFc)⟩⟩ rfl rfl hl.1 rfl (lv_room (Nat.le_of_ble_eq_true rfl)) d_Printer_path_38 ⟨Nat.le_of_ble_eq_true rfl, Nat.le_of_ble_eq_true rfl⟩) hS (fun q _ h => hFc q h) hFc (fun q _ h => hFc q h) (fun En ce q9 ⟨kx, gx⟩ t9 H1 locs ht hvm hw hB hz1 hk1 hS hce hcv hcl => ?_) (fun ⟨k11, g11⟩ t9 H1 locs ht hvm hw hB hz1 hk1 hS => ?_)
      · obtain ⟨hEn, hP1, hK1, hD1⟩ := hB
        rw [ht] at hP1
        obtain ⟨hP, hD⟩ := va_joinQ (wr := [(ps, .inl (cV, 32, .inr (.inr (.inr (.inr h)))))]) (w1 := [(p1, .inr (3, [.ref pb, .int (nI kx), .ref ps])), (pb, .inl (cB, 16384, .inl gx))]) hP hD [0, 1] [2] rfl rfl (by decide) (by decide) hk1 hFc hP1 hD1
        generalize H1 = H at hP hS hce ⊢
        have hP : va_P (dC, dI) classes ([(ps, .inl (cV, 32, .inr (.inr (.inr (.inr h))))), (p1, .inr (3, [.ref pb, .int (nI kx), .ref ps])), (pb, .inl (cB, 16384, .inl gx))] ++ va_pl L f) H := hP
        have hD : va_D A ([(ps, .inl (cV, 32, .inr (.inr (.inr (.inr h))))), (p1, .inr (3, [.ref pb, .int (nI kx), .ref ps])), (pb, .inl (cB, 16384, .inl gx))] ++ va_pl L f) := hD
        have hP := hP.part (cx := [(p1, .inr (3, [.ref pb, .int (nI kx), .ref ps])), (pb, .inl (cB, 16384, .inl gx)), (ps, .inl (cV, 32, .inr (.inr (.inr (.inr h)))))]) [1, 2, 0] rfl
        have hD := hD.part (cx := [(p1, .inr (3, [.ref pb, .int (nI kx), .ref ps])), (pb, .inl (cB, 16384, .inl gx)), (ps, .inl (cV, 32, .inr (.inr (.inr (.inr h)))))]) [1, 2, 0] (by decide) rfl
        exact vx_out (fun x hx => (hex x hx).elim) hlocks hce hcv hcl (fun t9 ht2 ha => ⟨(nI kx, gx, h), trivial, ⟨hEn, by rw [ht2]; exact hP, va_K.moved ha hK, hD⟩, hS.F ht2⟩) hS.2.2 (Nat.le_of_ble_eq_true rfl) (Nat.le_of_ble_eq_true rfl)
      · obtain ⟨⟨hP1, hK1, hD1⟩, hz9⟩ := hB
        rw [ht] at hP1
        rw [ht] at hz9
        refine w_tight (hq0.trans hz9) ?_
        have hq0 := hq0.trans hz9
        obtain ⟨hP, hD⟩ := va_joinQ (wr := [(ps, .inl (cV, 32, .inr (.inr (.inr (.inr h)))))]) (w1 := [(p1, .inr (3, [.ref pb, .int (nI k11), .ref ps])), (pb, .inl (cB, 16384, .inl g11))]) hP hD [0, 1] [2] rfl rfl (by decide) (by decide) hk1 hFc hP1 hD1
        generalize H1 = H at hP hS hq0 ⊢
        have hP : va_P (dC, dI) classes ([(ps, .inl (cV, 32, .inr (.inr (.inr (.inr h))))), (p1, .inr (3, [.ref pb, .int (nI k11), .ref ps])), (pb, .inl (cB, 16384, .inl g11))] ++ va_pl L f) H := hP
        have hD : va_D A ([(ps, .inl (cV, 32, .inr (.inr (.inr (.inr h))))), (p1, .inr (3, [.ref pb, .int (nI k11), .ref ps])), (pb, .inl (cB, 16384, .inl g11))] ++ va_pl L f) := hD
        have hP := hP.part (cx := [(p1, .inr (3, [.ref pb, .int (nI k11), .ref ps])), (pb, .inl (cB, 16384, .inl g11)), (ps, .inl (cV, 32, .inr (.inr (.inr (.inr h)))))]) [1, 2, 0] rfl
        have hD := hD.part (cx := [(p1, .inr (3, [.ref pb, .int (nI k11), .ref ps])), (pb, .inl (cB, 16384, .inl g11)), (ps, .inl (cV, 32, .inr (.inr (.inr (.inr h)))))]) [1, 2, 0] (by decide) rfl
        have hk11 : k11 ≤ 16384 := hw
        refine lv_iload_n hx hb d_Printer_path_41 rfl (lv_at hl 2 rfl) ?_
        refine lv_iconst (v := 1) hx hb d_Printer_path_42 (by decide) ?_
        refine lv_isub hx hb d_Printer_path_43 ?_
        refine lv_istore_n (lv' := [(3, .int ((nI d) - 1)), (0, .ref p1), (1, .ref nd), (2, .int (nI d))]) hx hb d_Printer_path_44 rfl hl (by decide) rfl (fun ls hl => ?_)
        have hl : lv_has ls 4 [(3, .int ((nI d) - 1)), (0, .ref p1), (1, .ref nd), (2, .int (nI d))] := hl
        refine w_loop (D := (dC, dI)) (cl := classes) (A := A) (H0 := s.heap) (nL := 4) 45 (σ := Nat × Nat × (Nat → Int32)) (fun ⟨j, k, g⟩ => j ≤ d ∧ k ≤ 16384) (fun ⟨j, k, g⟩ => j) (fun ⟨j, k, g⟩ => [(p1, .inr (3, [.ref pb, .int (nI k), .ref ps])), (pb, .inl (cB, 16384, .inl g)), (ps, .inl (cV, 32, .inr (.inr (.inr (.inr h)))))] ++ va_pl L f) (fun ⟨j, k, g⟩ => [(0, .ref p1), (1, .ref nd), (2, .int (nI d)), (3, .int (nI j - 1))]) ?_ (d, k11, g11) ⟨Nat.le_refl _, hk11⟩ hP hD hS (lv_sub hl [1, 2, 3, 0] rfl)
        rintro ⟨j, k, g⟩ H locs ls hI ih hP hD hS hl
        have hP : va_P (dC, dI) classes ([(p1, .inr (3, [.ref pb, .int (nI k), .ref ps])), (pb, .inl (cB, 16384, .inl g)), (ps, .inl (cV, 32, .inr (.inr (.inr (.inr h)))))] ++ va_pl L f) H := hP
        have hD : va_D A ([(p1, .inr (3, [.ref pb, .int (nI k), .ref ps])), (pb, .inl (cB, 16384, .inl g)), (ps, .inl (cV, 32, .inr (.inr (.inr (.inr h)))))] ++ va_pl L f) := hD
        have hl : lv_has ls 4 [(0, .ref p1), (1, .ref nd), (2, .int (nI d)), (3, .int (nI j - 1))] := hl
        obtain ⟨hj, hk⟩ := hI
        have hj : j ≤ d := hj
        have hk : k ≤ 16384 := hk
        rcases j with _ | j
        · have hl : lv_has ls 4 [(0, .ref p1), (1, .ref nd), (2, .int (nI d)), (3, .int (-1))] := hl
          refine lv_iload_n hx hb d_Printer_path_45 rfl (lv_at hl 3 rfl) ?_
          refine lv_if_lt (tgt := 111) hx hb d_Printer_path_46 (by decide) (fun _ => ?_) (fun h => absurd (by decide) h)
          refine w_same (fun hq => ?_)
          refine W.widen (k := 1) (n := 6) (Nat.le_of_ble_eq_true rfl) (Nat.le_of_ble_eq_true rfl) ?_
          refine vx_ret ?_
          exact W.vret hx hb hr (fun t9 ht hW => ⟨⟨(k, g, h), rfl, hk, ⟨by rw [ht]; exact hP, va_K.moved hW.alike hK, hD⟩, by rw [ht]; exact hq⟩, hS.F ht⟩) hS.2.2 d_Printer_path_111
        · rw [nI_pred] at hl
          have hl : lv_has ls 4 [(0, .ref p1), (1, .ref nd), (2, .int (nI d)), (3, .int (nI j))] := hl
          obtain ⟨st9, hst1, hst2⟩ := hst j (by omega)
          refine lv_iload_n hx hb d_Printer_path_45 rfl (lv_at hl 3 rfl) ?_
          refine lv_if_lt (tgt := 111) hx hb d_Printer_path_46 (by decide) (fun h => absurd h (nI_pos (by omega))) (fun _ => ?_)
          refine lv_aload_n hx hb d_Printer_path_49 rfl (lv_at hl 0 rfl) ?_
          refine lv_bipush (v := 91) hx hb d_Printer_path_50 (by decide) ?_
          have hPc := hP.sub (ws' := [(p1, .inr (3, [.ref pb, .int (nI k), .ref ps])), (pb, .inl (cB, 16384, .inl g))]) [0, 1] rfl
          have hDc := hD.sub (ws' := [(p1, .inr (3, [.ref pb, .int (nI k), .ref ps])), (pb, .inl (cB, 16384, .inl g))]) [0, 1] (by decide) rfl
          have hFc := va_free (wc := [(p1, .inr (3, [.ref pb, .int (nI k), .ref ps])), (pb, .inl (cB, 16384, .inl g))]) hD hS hA [0, 1] rfl
          have hKc := hK.sub (tys' := [(cB, .byte)]) [0] rfl
          refine w_same (fun hq0 => ?_)
          refine vx_callv (vx_runV (As := [.int 91]) (rest := []) ⟨hx, hb, hml, hown, hts⟩ (w_put l hl9 dC dI cB p1 pb H (.ref ps) g k 91 hk) (cwV 1 hts (gt_V (own := R_Printer) (C := R_Printer) (i := 25) (y := y_Printer_put) i_Printer_put w_957 w_959 (gt_sel (y := y_Printer_put) (n := 3) (by decide +kernel)) w_6) rfl rfl rfl (by decide +kernel) ⟨Nat.le_of_ble_eq_true rfl, Nat.le_of_ble_eq_true rfl⟩) ⟨mx_blind, va_recv hK hP (ci := 3) (q0 := 0) rfl rfl, fun U hU hW => ⟨rfl, ⟨hU, by rw [hU]; exact hPc, va_K.moved hW.alike hKc, hDc.weaken (fun _ _ _ _ => trivial)⟩, hN.warm hW, by rw [hU]; exact ZX.moved' hW.alike (ZX.narrow' (ZX.kept' hZ hS.2.1) hFc)⟩⟩ rfl rfl hl.1 rfl (lv_room (Nat.le_of_ble_eq_true rfl)) d_Printer_path_52 ⟨Nat.le_of_ble_eq_true rfl, Nat.le_of_ble_eq_true rfl⟩) hS (fun q _ h => hFc q h) hFc (fun q _ h => hFc q h) (fun En ce q9 ⟨kx, gx⟩ t9 H1 locs ht hvm hw hB hz1 hk1 hS hce hcv hcl => ?_) (fun ⟨k12, g12⟩ t9 H1 locs ht hvm hw hB hz1 hk1 hS => ?_)
          · obtain ⟨hEn, hP1, hK1, hD1⟩ := hB
            rw [ht] at hP1
            obtain ⟨hP, hD⟩ := va_joinQ (wr := [(ps, .inl (cV, 32, .inr (.inr (.inr (.inr h)))))]) (w1 := [(p1, .inr (3, [.ref pb, .int (nI kx), .ref ps])), (pb, .inl (cB, 16384, .inl gx))]) hP hD [0, 1] [2] rfl rfl (by decide) (by decide) hk1 hFc hP1 hD1
            generalize H1 = H at hP hS hce ⊢
            have hP : va_P (dC, dI) classes ([(ps, .inl (cV, 32, .inr (.inr (.inr (.inr h))))), (p1, .inr (3, [.ref pb, .int (nI kx), .ref ps])), (pb, .inl (cB, 16384, .inl gx))] ++ va_pl L f) H := hP
            have hD : va_D A ([(ps, .inl (cV, 32, .inr (.inr (.inr (.inr h))))), (p1, .inr (3, [.ref pb, .int (nI kx), .ref ps])), (pb, .inl (cB, 16384, .inl gx))] ++ va_pl L f) := hD
            have hP := hP.part (cx := [(p1, .inr (3, [.ref pb, .int (nI kx), .ref ps])), (pb, .inl (cB, 16384, .inl gx)), (ps, .inl (cV, 32, .inr (.inr (.inr (.inr h)))))]) [1, 2, 0] rfl
            have hD := hD.part (cx := [(p1, .inr (3, [.ref pb, .int (nI kx), .ref ps])), (pb, .inl (cB, 16384, .inl gx)), (ps, .inl (cV, 32, .inr (.inr (.inr (.inr h)))))]) [1, 2, 0] (by decide) rfl
            exact vx_out (fun x hx => (hex x hx).elim) hlocks hce hcv hcl (fun t9 ht2 ha => ⟨(nI kx, gx, h), trivial, ⟨hEn, by rw [ht2]; exact hP, va_K.moved ha hK, hD⟩, hS.F ht2⟩) hS.2.2 (Nat.le_of_ble_eq_true rfl) (Nat.le_of_ble_eq_true rfl)
          · obtain ⟨⟨hP1, hK1, hD1⟩, hz9⟩ := hB
            rw [ht] at hP1
            rw [ht] at hz9
            refine w_tight (hq0.trans hz9) ?_
            have hq0 := hq0.trans hz9
            obtain ⟨hP, hD⟩ := va_joinQ (wr := [(ps, .inl (cV, 32, .inr (.inr (.inr (.inr h)))))]) (w1 := [(p1, .inr (3, [.ref pb, .int (nI k12), .ref ps])), (pb, .inl (cB, 16384, .inl g12))]) hP hD [0, 1] [2] rfl rfl (by decide) (by decide) hk1 hFc hP1 hD1
            generalize H1 = H at hP hS hq0 ⊢
            have hP : va_P (dC, dI) classes ([(ps, .inl (cV, 32, .inr (.inr (.inr (.inr h))))), (p1, .inr (3, [.ref pb, .int (nI k12), .ref ps])), (pb, .inl (cB, 16384, .inl g12))] ++ va_pl L f) H := hP
            have hD : va_D A ([(ps, .inl (cV, 32, .inr (.inr (.inr (.inr h))))), (p1, .inr (3, [.ref pb, .int (nI k12), .ref ps])), (pb, .inl (cB, 16384, .inl g12))] ++ va_pl L f) := hD
            have hP := hP.part (cx := [(p1, .inr (3, [.ref pb, .int (nI k12), .ref ps])), (pb, .inl (cB, 16384, .inl g12)), (ps, .inl (cV, 32, .inr (.inr (.inr (.inr h)))))]) [1, 2, 0] rfl
            have hD := hD.part (cx := [(p1, .inr (3, [.ref pb, .int (nI k12), .ref ps])), (pb, .inl (cB, 16384, .inl g12)), (ps, .inl (cV, 32, .inr (.inr (.inr (.inr h)))))]) [1, 2, 0] (by decide) rfl
            have hk12 : k12 ≤ 16384 := hw
            refine lv_aload_n hx hb d_Printer_path_55 rfl (lv_at hl 0 rfl) ?_
            refine va_get (D := (dC, dI)) (ci := 3) (v := .ref ps) (C := R_Printer) (T := F_Printer) (N := 3) hx hb hts in_Printer hown hK hP 0 rfl rfl 2 (by decide) (hts _ w_143) (fun _ h9 => h9) rfl d_Printer_path_56 ?_
            refine lv_iload_n hx hb d_Printer_path_59 rfl (lv_at hl 3 rfl) ?_
            refine vq_ald0 hx hb hK hP 2 2 rfl rfl (show j < 32 by omega) (by decide) hst1 d_Printer_path_60 ?_
            obtain ⟨kd13, nu13, tx13, me13, pa13, na13, ix13, nm13, no13, sp13, ef13, hv13⟩ := hO.val hst2
            rcases na13 with _ | b14
            · refine vq_get (D := (dC, dI)) (ci := 9) (v := .null) (C := R_Value) (T := F_Value) (N := 10) hx hb hts in_Value hown hK hP (hO.inV hst2) ef13 rfl 5 (by decide) (hts _ z_332) (fun _ h9 => h9) rfl d_Printer_path_61 ?_
              refine lv_ifnonnullN hx hb d_Printer_path_64 ?_
              refine lv_aload_n hx hb d_Printer_path_67 rfl (lv_at hl 0 rfl) ?_
              refine lv_aload_n hx hb d_Printer_path_68 rfl (lv_at hl 0 rfl) ?_
              refine va_get (D := (dC, dI)) (ci := 3) (v := .ref ps) (C := R_Printer) (T := F_Printer) (N := 3) hx hb hts in_Printer hown hK hP 0 rfl rfl 2 (by decide) (hts _ w_143) (fun _ h9 => h9) rfl d_Printer_path_69 ?_
              refine lv_iload_n hx hb d_Printer_path_72 rfl (lv_at hl 3 rfl) ?_
              refine vq_ald0 hx hb hK hP 2 2 rfl rfl (show j < 32 by omega) (by decide) hst1 d_Printer_path_73 ?_
              refine vq_get (D := (dC, dI)) (ci := 9) (v := .int ix13) (C := R_Value) (T := F_Value) (N := 10) hx hb hts in_Value hown hK hP (hO.inV hst2) ef13 rfl 6 (by decide) (hts _ z_334) (fun _ h9 => h9) rfl d_Printer_path_74 ?_
              refine lv_i2l (v := ix13.toInt64) hx hb d_Printer_path_77 rfl ?_
              have hPc := hP.sub (ws' := [(p1, .inr (3, [.ref pb, .int (nI k12), .ref ps])), (pb, .inl (cB, 16384, .inl g12))]) [0, 1] rfl
              have hDc := hD.sub (ws' := [(p1, .inr (3, [.ref pb, .int (nI k12), .ref ps])), (pb, .inl (cB, 16384, .inl g12))]) [0, 1] (by decide) rfl
              have hFc := va_free (wc := [(p1, .inr (3, [.ref pb, .int (nI k12), .ref ps])), (pb, .inl (cB, 16384, .inl g12))]) hD hS hA [0, 1] rfl
              have hKc := hK.sub (tys' := [(cB, .byte)]) [0] rfl
              refine w_same (fun hq0 => ?_)
              refine vx_callv (vx_runV (As := [.long (ix13.toInt64)]) (rest := []) ⟨hx, hb, hml, hown, hts⟩ (c_Printer_number l hl9 dC dI H cB p1 pb ps g12 k12 hk12 (ix13.toInt64)) (cwV 1 hts (gt_V (own := R_Printer) (C := R_Printer) (i := 60) (y := y_Printer_number) i_Printer_number z_963 z_965 (gt_sel (y := y_Printer_number) (n := 3) (by decide +kernel)) w_6) rfl rfl rfl (by decide +kernel) ⟨Nat.le_of_ble_eq_true rfl, Nat.le_of_ble_eq_true rfl⟩) ⟨mx_blind, va_recv hK hP (ci := 3) (q0 := 0) rfl rfl, fun U hU hW => ⟨rfl, ⟨hU, by rw [hU]; exact hPc, va_K.moved hW.alike hKc, hDc.weaken (fun _ _ _ _ => trivial)⟩, hN.warm hW, by rw [hU]; exact ZX.moved' hW.alike (ZX.narrow' (ZX.kept' hZ hS.2.1) hFc)⟩⟩ rfl rfl hl.1 rfl (lv_room (Nat.le_of_ble_eq_true rfl)) d_Printer_path_78 ⟨Nat.le_of_ble_eq_true rfl, Nat.le_of_ble_eq_true rfl⟩) hS (fun q _ h => hFc q h) hFc (fun q _ h => hFc q h) (fun En ce q9 ⟨kx, gx⟩ t9 H1 locs ht hvm hw hB hz1 hk1 hS hce hcv hcl => ?_) (fun ⟨k15, g15⟩ t9 H1 locs ht hvm hw hB hz1 hk1 hS => ?_)
              · obtain ⟨hEn, hP1, hK1, hD1⟩ := hB
                rw [ht] at hP1
                obtain ⟨hP, hD⟩ := va_joinQ (wr := [(ps, .inl (cV, 32, .inr (.inr (.inr (.inr h)))))]) (w1 := [(p1, .inr (3, [.ref pb, .int kx, .ref ps])), (pb, .inl (cB, 16384, .inl gx))]) hP hD [0, 1] [2] rfl rfl (by decide) (by decide) hk1 hFc hP1 hD1
                generalize H1 = H at hP hS hce ⊢
                have hP : va_P (dC, dI) classes ([(ps, .inl (cV, 32, .inr (.inr (.inr (.inr h))))), (p1, .inr (3, [.ref pb, .int kx, .ref ps])), (pb, .inl (cB, 16384, .inl gx))] ++ va_pl L f) H := hP
                have hD : va_D A ([(ps, .inl (cV, 32, .inr (.inr (.inr (.inr h))))), (p1, .inr (3, [.ref pb, .int kx, .ref ps])), (pb, .inl (cB, 16384, .inl gx))] ++ va_pl L f) := hD
                have hP := hP.part (cx := [(p1, .inr (3, [.ref pb, .int kx, .ref ps])), (pb, .inl (cB, 16384, .inl gx)), (ps, .inl (cV, 32, .inr (.inr (.inr (.inr h)))))]) [1, 2, 0] rfl
                have hD := hD.part (cx := [(p1, .inr (3, [.ref pb, .int kx, .ref ps])), (pb, .inl (cB, 16384, .inl gx)), (ps, .inl (cV, 32, .inr (.inr (.inr (.inr h)))))]) [1, 2, 0] (by decide) rfl
                exact vx_out (fun x hx => (hex x hx).elim) hlocks hce hcv hcl (fun t9 ht2 ha => ⟨(kx, gx, h), trivial, ⟨hEn, by rw [ht2]; exact hP, va_K.moved ha hK, hD⟩, hS.F ht2⟩) hS.2.2 (Nat.le_of_ble_eq_true rfl) (Nat.le_of_ble_eq_true rfl)
              · obtain ⟨⟨hP1, hK1, hD1⟩, hz9⟩ := hB
                rw [ht] at hP1
                rw [ht] at hz9
                refine w_tight (hq0.trans hz9) ?_
                have hq0 := hq0.trans hz9
                obtain ⟨hP, hD⟩ := va_joinQ (wr := [(ps, .inl (cV, 32, .inr (.inr (.inr (.inr h)))))]) (w1 := [(p1, .inr (3, [.ref pb, .int (nI k15), .ref ps])), (pb, .inl (cB, 16384, .inl g15))]) hP hD [0, 1] [2] rfl rfl (by decide) (by decide) hk1 hFc hP1 hD1
                generalize H1 = H at hP hS hq0 ⊢
                have hP : va_P (dC, dI) classes ([(ps, .inl (cV, 32, .inr (.inr (.inr (.inr h))))), (p1, .inr (3, [.ref pb, .int (nI k15), .ref ps])), (pb, .inl (cB, 16384, .inl g15))] ++ va_pl L f) H := hP
                have hD : va_D A ([(ps, .inl (cV, 32, .inr (.inr (.inr (.inr h))))), (p1, .inr (3, [.ref pb, .int (nI k15), .ref ps])), (pb, .inl (cB, 16384, .inl g15))] ++ va_pl L f) := hD
                have hP := hP.part (cx := [(p1, .inr (3, [.ref pb, .int (nI k15), .ref ps])), (pb, .inl (cB, 16384, .inl g15)), (ps, .inl (cV, 32, .inr (.inr (.inr (.inr h)))))]) [1, 2, 0] rfl
                have hD := hD.part (cx := [(p1, .inr (3, [.ref pb, .int (nI k15), .ref ps])), (pb, .inl (cB, 16384, .inl g15)), (ps, .inl (cV, 32, .inr (.inr (.inr (.inr h)))))]) [1, 2, 0] (by decide) rfl
                have hk15 : k15 ≤ 16384 := hw
                refine lv_goto (tgt := 99) hx hb d_Printer_path_81 (by decide) ?_
                refine lv_aload_n hx hb d_Printer_path_99 rfl (lv_at hl 0 rfl) ?_
                refine lv_bipush (v := 93) hx hb d_Printer_path_100 (by decide) ?_
                have hPc := hP.sub (ws' := [(p1, .inr (3, [.ref pb, .int (nI k15), .ref ps])), (pb, .inl (cB, 16384, .inl g15))]) [0, 1] rfl
                have hDc := hD.sub (ws' := [(p1, .inr (3, [.ref pb, .int (nI k15), .ref ps])), (pb, .inl (cB, 16384, .inl g15))]) [0, 1] (by decide) rfl
                have hFc := va_free (wc := [(p1, .inr (3, [.ref pb, .int (nI k15), .ref ps])), (pb, .inl (cB, 16384, .inl g15))]) hD hS hA [0, 1] rfl
                have hKc := hK.sub (tys' := [(cB, .byte)]) [0] rfl
                refine w_same (fun hq0 => ?_)
                refine vx_callv (vx_runV (As := [.int 93]) (rest := []) ⟨hx, hb, hml, hown, hts⟩ (w_put l hl9 dC dI cB p1 pb H (.ref ps) g15 k15 93 hk15) (cwV 1 hts (gt_V (own := R_Printer) (C := R_Printer) (i := 25) (y := y_Printer_put) i_Printer_put w_957 w_959 (gt_sel (y := y_Printer_put) (n := 3) (by decide +kernel)) w_6) rfl rfl rfl (by decide +kernel) ⟨Nat.le_of_ble_eq_true rfl, Nat.le_of_ble_eq_true rfl⟩) ⟨mx_blind, va_recv hK hP (ci := 3) (q0 := 0) rfl rfl, fun U hU hW => ⟨rfl, ⟨hU, by rw [hU]; exact hPc, va_K.moved hW.alike hKc, hDc.weaken (fun _ _ _ _ => trivial)⟩, hN.warm hW, by rw [hU]; exact ZX.moved' hW.alike (ZX.narrow' (ZX.kept' hZ hS.2.1) hFc)⟩⟩ rfl rfl hl.1 rfl (lv_room (Nat.le_of_ble_eq_true rfl)) d_Printer_path_102 ⟨Nat.le_of_ble_eq_true rfl, Nat.le_of_ble_eq_true rfl⟩) hS (fun q _ h => hFc q h) hFc (fun q _ h => hFc q h) (fun En ce q9 ⟨kx, gx⟩ t9 H1 locs ht hvm hw hB hz1 hk1 hS hce hcv hcl => ?_) (fun ⟨k16, g16⟩ t9 H1 locs ht hvm hw hB hz1 hk1 hS => ?_)
                · obtain ⟨hEn, hP1, hK1, hD1⟩ := hB
                  rw [ht] at hP1
                  obtain ⟨hP, hD⟩ := va_joinQ (wr := [(ps, .inl (cV, 32, .inr (.inr (.inr (.inr h)))))]) (w1 := [(p1, .inr (3, [.ref pb, .int (nI kx), .ref ps])), (pb, .inl (cB, 16384, .inl gx))]) hP hD [0, 1] [2] rfl rfl (by decide) (by decide) hk1 hFc hP1 hD1
                  generalize H1 = H at hP hS hce ⊢
                  have hP : va_P (dC, dI) classes ([(ps, .inl (cV, 32, .inr (.inr (.inr (.inr h))))), (p1, .inr (3, [.ref pb, .int (nI kx), .ref ps])), (pb, .inl (cB, 16384, .inl gx))] ++ va_pl L f) H := hP
                  have hD : va_D A ([(ps, .inl (cV, 32, .inr (.inr (.inr (.inr h))))), (p1, .inr (3, [.ref pb, .int (nI kx), .ref ps])), (pb, .inl (cB, 16384, .inl gx))] ++ va_pl L f) := hD
                  have hP := hP.part (cx := [(p1, .inr (3, [.ref pb, .int (nI kx), .ref ps])), (pb, .inl (cB, 16384, .inl gx)), (ps, .inl (cV, 32, .inr (.inr (.inr (.inr h)))))]) [1, 2, 0] rfl
                  have hD := hD.part (cx := [(p1, .inr (3, [.ref pb, .int (nI kx), .ref ps])), (pb, .inl (cB, 16384, .inl gx)), (ps, .inl (cV, 32, .inr (.inr (.inr (.inr h)))))]) [1, 2, 0] (by decide) rfl
                  exact vx_out (fun x hx => (hex x hx).elim) hlocks hce hcv hcl (fun t9 ht2 ha => ⟨(nI kx, gx, h), trivial, ⟨hEn, by rw [ht2]; exact hP, va_K.moved ha hK, hD⟩, hS.F ht2⟩) hS.2.2 (Nat.le_of_ble_eq_true rfl) (Nat.le_of_ble_eq_true rfl)
                · obtain ⟨⟨hP1, hK1, hD1⟩, hz9⟩ := hB
                  rw [ht] at hP1
                  rw [ht] at hz9
                  refine w_tight (hq0.trans hz9) ?_
                  have hq0 := hq0.trans hz9
                  obtain ⟨hP, hD⟩ := va_joinQ (wr := [(ps, .inl (cV, 32, .inr (.inr (.inr (.inr h)))))]) (w1 := [(p1, .inr (3, [.ref pb, .int (nI k16), .ref ps])), (pb, .inl (cB, 16384, .inl g16))]) hP hD [0, 1] [2] rfl rfl (by decide) (by decide) hk1 hFc hP1 hD1
                  generalize H1 = H at hP hS hq0 ⊢
                  have hP : va_P (dC, dI) classes ([(ps, .inl (cV, 32, .inr (.inr (.inr (.inr h))))), (p1, .inr (3, [.ref pb, .int (nI k16), .ref ps])), (pb, .inl (cB, 16384, .inl g16))] ++ va_pl L f) H := hP
                  have hD : va_D A ([(ps, .inl (cV, 32, .inr (.inr (.inr (.inr h))))), (p1, .inr (3, [.ref pb, .int (nI k16), .ref ps])), (pb, .inl (cB, 16384, .inl g16))] ++ va_pl L f) := hD
                  have hP := hP.part (cx := [(p1, .inr (3, [.ref pb, .int (nI k16), .ref ps])), (pb, .inl (cB, 16384, .inl g16)), (ps, .inl (cV, 32, .inr (.inr (.inr (.inr h)))))]) [1, 2, 0] rfl
                  have hD := hD.part (cx := [(p1, .inr (3, [.ref pb, .int (nI k16), .ref ps])), (pb, .inl (cB, 16384, .inl g16)), (ps, .inl (cV, 32, .inr (.inr (.inr (.inr h)))))]) [1, 2, 0] (by decide) rfl
                  have hk16 : k16 ≤ 16384 := hw
                  refine lv_iinc (v := nI j - 1) (lv' := [(3, .int (nI j - 1)), (0, .ref p1), (1, .ref nd), (2, .int (nI d))]) hx hb d_Printer_path_105 hl (k := 3) rfl (nI_neg1 j).symm (by decide) rfl (fun ls hl => ?_)
                  refine lv_goto (tgt := 45) hx hb d_Printer_path_108 (by decide) ?_
                  exact ih (j, k16, g16) _ _ _ ⟨show j ≤ d by omega, hk16⟩ (Nat.lt_succ_self j) hP hD hS (lv_sub hl [1, 2, 3, 0] rfl)
            · refine vq_get (D := (dC, dI)) (ci := 9) (v := .ref b14) (C := R_Value) (T := F_Value) (N := 10) hx hb hts in_Value hown hK hP (hO.inV hst2) ef13 rfl 5 (by decide) (hts _ z_332) (fun _ h9 => h9) rfl d_Printer_path_61 ?_
              refine lv_ifnonnull (tgt := 84) hx hb d_Printer_path_64 (by decide) ?_
              refine lv_aload_n hx hb d_Printer_path_84 rfl (lv_at hl 0 rfl) ?_
              refine lv_aload_n hx hb d_Printer_path_85 rfl (lv_at hl 0 rfl) ?_
              refine va_get (D := (dC, dI)) (ci := 3) (v := .ref ps) (C := R_Printer) (T := F_Printer) (N := 3) hx hb hts in_Printer hown hK hP 0 rfl rfl 2 (by decide) (hts _ w_143) (fun _ h9 => h9) rfl d_Printer_path_86 ?_
              refine lv_iload_n hx hb d_Printer_path_89 rfl (lv_at hl 3 rfl) ?_
              refine vq_ald0 hx hb hK hP 2 2 rfl rfl (show j < 32 by omega) (by decide) hst1 d_Printer_path_90 ?_
              refine vq_get (D := (dC, dI)) (ci := 9) (v := .ref b14) (C := R_Value) (T := F_Value) (N := 10) hx hb hts in_Value hown hK hP (hO.inV hst2) ef13 rfl 5 (by decide) (hts _ z_332) (fun _ h9 => h9) rfl d_Printer_path_91 ?_
              refine lv_bipush (v := 39) hx hb d_Printer_path_94 (by decide) ?_
              have hPc := hP.part (cx := [(p1, .inr (3, [.ref pb, .int (nI k12), .ref ps])), (pb, .inl (cB, 16384, .inl g12))]) [0, 1] rfl
              have hDc := hD.part (cx := [(p1, .inr (3, [.ref pb, .int (nI k12), .ref ps])), (pb, .inl (cB, 16384, .inl g12))]) [0, 1] (by decide) rfl
              have hFc := va_freeP (cx := [(p1, .inr (3, [.ref pb, .int (nI k12), .ref ps])), (pb, .inl (cB, 16384, .inl g12))]) hD hS hA [0, 1] rfl
              have hKc := hK.sub (tys' := [(cB, .byte), (cI, .int), (cV, .object "QueryBench$Value")]) [0, 1, 2] rfl
              refine w_same (fun hq0 => ?_)
              refine vx_callv (vx_runV (As := [.ref b14, .int 39]) (rest := []) ⟨hx, hb, hml, hown, hts⟩ (c_Printer_text l hl9 K dC dI H cI cV E lv L f hO cB p1 pb ps g12 k12 hk12 b14 (hv13.2.2.2.1 b14 rfl) 39) (cwV 2 hts (gt_V (own := R_Printer) (C := R_Printer) (i := 64) (y := y_Printer_text) i_Printer_text z_968 z_970 (gt_sel (y := y_Printer_text) (n := 3) (by decide +kernel)) w_6) rfl rfl rfl (by decide +kernel) ⟨Nat.le_of_ble_eq_true rfl, Nat.le_of_ble_eq_true rfl⟩) ⟨ml_blind, va_recv hK hP (ci := 3) (q0 := 0) rfl rfl, fun U hU hW => ⟨rfl, ⟨hU, by rw [hU]; exact hPc, va_K.moved hW.alike hKc, hDc.weaken (fun _ _ _ _ => trivial)⟩, hN.warm hW, by rw [hU]; exact ZX.moved' hW.alike (ZX.narrow' (ZX.kept' hZ hS.2.1) hFc), by rw [hU]; exact CE.call hC hS.2.1 hFc hW, va_AO.moved hW.alike hV⟩⟩ rfl rfl hl.1 rfl (lv_room (Nat.le_of_ble_eq_true rfl)) d_Printer_path_96 ⟨Nat.le_of_ble_eq_true rfl, Nat.le_of_ble_eq_true rfl⟩) hS (fun q _ h => hFc q h) hFc (fun q _ h => hFc q h) (fun En ce q9 ⟨kx, gx⟩ t9 H1 locs ht hvm hw hB hz1 hk1 hS hce hcv hcl => ?_) (fun ⟨k17, g17⟩ t9 H1 locs ht hvm hw hB hz1 hk1 hS => ?_)
              · obtain ⟨hEn, hP1, hK1, hD1⟩ := hB
                rw [ht] at hP1
                obtain ⟨hP, hD⟩ := va_joinP (wr := [(ps, .inl (cV, 32, .inr (.inr (.inr (.inr h)))))]) (rx := [(p1, .inr (3, [.ref pb, .int kx, .ref ps])), (pb, .inl (cB, 16384, .inl gx))]) (pl1 := va_pl L f) hP hD [0, 1] [2] rfl rfl (by decide) (by decide) hk1 hFc hP1 hD1
                generalize H1 = H at hP hS hce ⊢
                have hP : va_P (dC, dI) classes ([(ps, .inl (cV, 32, .inr (.inr (.inr (.inr h))))), (p1, .inr (3, [.ref pb, .int kx, .ref ps])), (pb, .inl (cB, 16384, .inl gx))] ++ va_pl L f) H := hP
                have hD : va_D A ([(ps, .inl (cV, 32, .inr (.inr (.inr (.inr h))))), (p1, .inr (3, [.ref pb, .int kx, .ref ps])), (pb, .inl (cB, 16384, .inl gx))] ++ va_pl L f) := hD
                have hP := hP.part (cx := [(p1, .inr (3, [.ref pb, .int kx, .ref ps])), (pb, .inl (cB, 16384, .inl gx)), (ps, .inl (cV, 32, .inr (.inr (.inr (.inr h)))))]) [1, 2, 0] rfl
                have hD := hD.part (cx := [(p1, .inr (3, [.ref pb, .int kx, .ref ps])), (pb, .inl (cB, 16384, .inl gx)), (ps, .inl (cV, 32, .inr (.inr (.inr (.inr h)))))]) [1, 2, 0] (by decide) rfl
                exact vx_out (fun x hx => (hex x hx).elim) hlocks hce hcv hcl (fun t9 ht2 ha => ⟨(kx, gx, h), trivial, ⟨hEn, by rw [ht2]; exact hP, va_K.moved ha hK, hD⟩, hS.F ht2⟩) hS.2.2 (Nat.le_of_ble_eq_true rfl) (Nat.le_of_ble_eq_true rfl)
              · obtain ⟨⟨hP1, hK1, hD1⟩, hz9⟩ := hB
                rw [ht] at hP1
                rw [ht] at hz9
                refine w_tight (hq0.trans hz9) ?_
                have hq0 := hq0.trans hz9
                obtain ⟨hP, hD⟩ := va_joinP (wr := [(ps, .inl (cV, 32, .inr (.inr (.inr (.inr h)))))]) (rx := [(p1, .inr (3, [.ref pb, .int (nI k17), .ref ps])), (pb, .inl (cB, 16384, .inl g17))]) (pl1 := va_pl L f) hP hD [0, 1] [2] rfl rfl (by decide) (by decide) hk1 hFc hP1 hD1
                generalize H1 = H at hP hS hq0 ⊢
                have hP : va_P (dC, dI) classes ([(ps, .inl (cV, 32, .inr (.inr (.inr (.inr h))))), (p1, .inr (3, [.ref pb, .int (nI k17), .ref ps])), (pb, .inl (cB, 16384, .inl g17))] ++ va_pl L f) H := hP
                have hD : va_D A ([(ps, .inl (cV, 32, .inr (.inr (.inr (.inr h))))), (p1, .inr (3, [.ref pb, .int (nI k17), .ref ps])), (pb, .inl (cB, 16384, .inl g17))] ++ va_pl L f) := hD
                have hP := hP.part (cx := [(p1, .inr (3, [.ref pb, .int (nI k17), .ref ps])), (pb, .inl (cB, 16384, .inl g17)), (ps, .inl (cV, 32, .inr (.inr (.inr (.inr h)))))]) [1, 2, 0] rfl
                have hD := hD.part (cx := [(p1, .inr (3, [.ref pb, .int (nI k17), .ref ps])), (pb, .inl (cB, 16384, .inl g17)), (ps, .inl (cV, 32, .inr (.inr (.inr (.inr h)))))]) [1, 2, 0] (by decide) rfl
                have hk17 : k17 ≤ 16384 := hw
                refine lv_aload_n hx hb d_Printer_path_99 rfl (lv_at hl 0 rfl) ?_
                refine lv_bipush (v := 93) hx hb d_Printer_path_100 (by decide) ?_
                have hPc := hP.sub (ws' := [(p1, .inr (3, [.ref pb, .int (nI k17), .ref ps])), (pb, .inl (cB, 16384, .inl g17))]) [0, 1] rfl
                have hDc := hD.sub (ws' := [(p1, .inr (3, [.ref pb, .int (nI k17), .ref ps])), (pb, .inl (cB, 16384, .inl g17))]) [0, 1] (by decide) rfl
                have hFc := va_free (wc := [(p1, .inr (3, [.ref pb, .int (nI k17), .ref ps])), (pb, .inl (cB, 16384, .inl g17))]) hD hS hA [0, 1] rfl
                have hKc := hK.sub (tys' := [(cB, .byte)]) [0] rfl
                refine w_same (fun hq0 => ?_)
                refine vx_callv (vx_runV (As := [.int 93]) (rest := []) ⟨hx, hb, hml, hown, hts⟩ (w_put l hl9 dC dI cB p1 pb H (.ref ps) g17 k17 93 hk17) (cwV 1 hts (gt_V (own := R_Printer) (C := R_Printer) (i := 25) (y := y_Printer_put) i_Printer_put w_957 w_959 (gt_sel (y := y_Printer_put) (n := 3) (by decide +kernel)) w_6) rfl rfl rfl (by decide +kernel) ⟨Nat.le_of_ble_eq_true rfl, Nat.le_of_ble_eq_true rfl⟩) ⟨mx_blind, va_recv hK hP (ci := 3) (q0 := 0) rfl rfl, fun U hU hW => ⟨rfl, ⟨hU, by rw [hU]; exact hPc, va_K.moved hW.alike hKc, hDc.weaken (fun _ _ _ _ => trivial)⟩, hN.warm hW, by rw [hU]; exact ZX.moved' hW.alike (ZX.narrow' (ZX.kept' hZ hS.2.1) hFc)⟩⟩ rfl rfl hl.1 rfl (lv_room (Nat.le_of_ble_eq_true rfl)) d_Printer_path_102 ⟨Nat.le_of_ble_eq_true rfl, Nat.le_of_ble_eq_true rfl⟩) hS (fun q _ h => hFc q h) hFc (fun q _ h => hFc q h) (fun En ce q9 ⟨kx, gx⟩ t9 H1 locs ht hvm hw hB hz1 hk1 hS hce hcv hcl => ?_) (fun ⟨k18, g18⟩ t9 H1 locs ht hvm hw hB hz1 hk1 hS => ?_)
                · obtain ⟨hEn, hP1, hK1, hD1⟩ := hB
                  rw [ht] at hP1
                  obtain ⟨hP, hD⟩ := va_joinQ (wr := [(ps, .inl (cV, 32, .inr (.inr (.inr (.inr h)))))]) (w1 := [(p1, .inr (3, [.ref pb, .int (nI kx), .ref ps])), (pb, .inl (cB, 16384, .inl gx))]) hP hD [0, 1] [2] rfl rfl (by decide) (by decide) hk1 hFc hP1 hD1
                  generalize H1 = H at hP hS hce ⊢
                  have hP : va_P (dC, dI) classes ([(ps, .inl (cV, 32, .inr (.inr (.inr (.inr h))))), (p1, .inr (3, [.ref pb, .int (nI kx), .ref ps])), (pb, .inl (cB, 16384, .inl gx))] ++ va_pl L f) H := hP
                  have hD : va_D A ([(ps, .inl (cV, 32, .inr (.inr (.inr (.inr h))))), (p1, .inr (3, [.ref pb, .int (nI kx), .ref ps])), (pb, .inl (cB, 16384, .inl gx))] ++ va_pl L f) := hD
                  have hP := hP.part (cx := [(p1, .inr (3, [.ref pb, .int (nI kx), .ref ps])), (pb, .inl (cB, 16384, .inl gx)), (ps, .inl (cV, 32, .inr (.inr (.inr (.inr h)))))]) [1, 2, 0] rfl
                  have hD := hD.part (cx := [(p1, .inr (3, [.ref pb, .int (nI kx), .ref ps])), (pb, .inl (cB, 16384, .inl gx)), (ps, .inl (cV, 32, .inr (.inr (.inr (.inr h)))))]) [1, 2, 0] (by decide) rfl
                  exact vx_out (fun x hx => (hex x hx).elim) hlocks hce hcv hcl (fun t9 ht2 ha => ⟨(nI kx, gx, h), trivial, ⟨hEn, by rw [ht2]; exact hP, va_K.moved ha hK, hD⟩, hS.F ht2⟩) hS.2.2 (Nat.le_of_ble_eq_true rfl) (Nat.le_of_ble_eq_true rfl)
                · obtain ⟨⟨hP1, hK1, hD1⟩, hz9⟩ := hB
                  rw [ht] at hP1
                  rw [ht] at hz9
                  refine w_tight (hq0.trans hz9) ?_
                  have hq0 := hq0.trans hz9
                  obtain ⟨hP, hD⟩ := va_joinQ (wr := [(ps, .inl (cV, 32, .inr (.inr (.inr (.inr h)))))]) (w1 := [(p1, .inr (3, [.ref pb, .int (nI k18), .ref ps])), (pb, .inl (cB, 16384, .inl g18))]) hP hD [0, 1] [2] rfl rfl (by decide) (by decide) hk1 hFc hP1 hD1
                  generalize H1 = H at hP hS hq0 ⊢
                  have hP : va_P (dC, dI) classes ([(ps, .inl (cV, 32, .inr (.inr (.inr (.inr h))))), (p1, .inr (3, [.ref pb, .int (nI k18), .ref ps])), (pb, .inl (cB, 16384, .inl g18))] ++ va_pl L f) H := hP
                  have hD : va_D A ([(ps, .inl (cV, 32, .inr (.inr (.inr (.inr h))))), (p1, .inr (3, [.ref pb, .int (nI k18), .ref ps])), (pb, .inl (cB, 16384, .inl g18))] ++ va_pl L f) := hD
                  have hP := hP.part (cx := [(p1, .inr (3, [.ref pb, .int (nI k18), .ref ps])), (pb, .inl (cB, 16384, .inl g18)), (ps, .inl (cV, 32, .inr (.inr (.inr (.inr h)))))]) [1, 2, 0] rfl
                  have hD := hD.part (cx := [(p1, .inr (3, [.ref pb, .int (nI k18), .ref ps])), (pb, .inl (cB, 16384, .inl g18)), (ps, .inl (cV, 32, .inr (.inr (.inr (.inr h)))))]) [1, 2, 0] (by decide) rfl
                  have hk18 : k18 ≤ 16384 := hw
                  refine lv_iinc (v := nI j - 1) (lv' := [(3, .int (nI j - 1)), (0, .ref p1), (1, .ref nd), (2, .int (nI d))]) hx hb d_Printer_path_105 hl (k := 3) rfl (nI_neg1 j).symm (by decide) rfl (fun ls hl => ?_)
                  refine lv_goto (tgt := 45) hx hb d_Printer_path_108 (by decide) ?_
                  exact ih (j, k18, g18) _ _ _ ⟨show j ≤ d by omega, hk18⟩ (Nat.lt_succ_self j) hP hD hS (lv_sub hl [1, 2, 3, 0] rfl)
    · have hd1 : d < 32 := by rw [show (32 : Int32) = nI 32 from rfl, nI_leI (by omega) (by omega)] at c14; omega
      refine lv_aload_n hx hb d_Printer_path_17 rfl (lv_at hl 0 rfl) ?_
      refine va_get (D := (dC, dI)) (ci := 3) (v := .ref ps) (C := R_Printer) (T := F_Printer) (N := 3) hx hb hts in_Printer hown hK hP 0 rfl rfl 2 (by decide) (hts _ w_143) (fun _ h9 => h9) rfl d_Printer_path_18 ?_
      refine lv_iload_n hx hb d_Printer_path_21 rfl (lv_at hl 2 rfl) ?_
      refine lv_aload_n hx hb d_Printer_path_22 rfl (lv_at hl 3 rfl) ?_
      refine vq_ast hx hb hK hP hD hS 2 2 9 rfl rfl (hO.inV hv9) ef1 rfl hd1 (by decide) d_Printer_path_23 (fun H locs hP hD hS => ?_)
      have hP : va_P (dC, dI) classes ([(p1, .inr (3, [.ref pb, .int (nI k), .ref ps])), (pb, .inl (cB, 16384, .inl g)), (ps, .inl (cV, 32, .inr (.inr (.inr (.inr (va_up h d (some v)))))))] ++ va_pl L f) H := hP
      have hD : va_D A ([(p1, .inr (3, [.ref pb, .int (nI k), .ref ps])), (pb, .inl (cB, 16384, .inl g)), (ps, .inl (cV, 32, .inr (.inr (.inr (.inr (va_up h d (some v)))))))] ++ va_pl L f) := hD
      refine lv_iinc (v := nI (d + 1)) (lv' := [(2, .int (nI (d + 1))), (0, .ref p1), (1, .ref nd), (3, .ref v)]) hx hb d_Printer_path_24 hl (k := 2) rfl (nI_1 _) (by decide) rfl (fun ls hl => ?_)
      refine lv_aload_n hx hb d_Printer_path_27 rfl (lv_at hl 3 rfl) ?_
      refine vq_get (D := (dC, dI)) (ci := 9) (v := .ref b2) (C := R_Value) (T := F_Value) (N := 10) hx hb hts in_Value hown hK hP (hO.inV hv9) ef1 rfl 4 (by decide) (hts _ z_329) (fun _ h9 => h9) rfl d_Printer_path_28 ?_
      refine lv_astore_n (lv' := [(3, .ref b2), (2, .int (nI (d + 1))), (0, .ref p1), (1, .ref nd)]) hx hb d_Printer_path_31 rfl hl (by decide) rfl (fun ls hl => ?_)
      refine lv_goto (tgt := 4) hx hb d_Printer_path_32 (by decide) ?_
      exact ih (d + 1, b2, va_up h d (some v)) _ _ _ ⟨show d + 1 ≤ 32 by omega, (hv1.2.2.1 b2 rfl), fun j hj => by
        by_cases hjd : j = d
        · subst hjd; exact ⟨v, va_up_self _ _ _, hv9⟩
        · rw [va_up_ne _ _ hjd]; exact hst j (by omega)⟩ (by show 32 - (d + 1) < 32 - d; omega) hP hD hS (lv_sub hl [2, 3, 1, 0] rfl)
abbrev b_Printer_value : ByteArray := prog_5_method_6_code
def y_Printer_value : MethodName := ⟨"QueryBench$Printer", "value", "(LQueryBench$Value;I)V"⟩
abbrev k_Printer_value : Cond := .code y_Printer_value b_Printer_value 3 none
theorem i_Printer_value : k_Printer_value ∈ gtbl := gt_in 990 (by decide +kernel) (by decide +kernel)
theorem d_Printer_value_0 : decode b_Printer_value 0 = .ok (.aload_n 1, 1) := by decide +kernel
theorem d_Printer_value_1 : decode b_Printer_value 1 = .ok (.getfield 68, 3) := by decide +kernel
theorem d_Printer_value_4 : decode b_Printer_value 4 = .ok (.tableswitch 87 0 4 #[36, 45, 54, 63, 74], 36) := by decide +kernel
theorem d_Printer_value_40 : decode b_Printer_value 40 = .ok (.aload_n 0, 1) := by decide +kernel
theorem d_Printer_value_41 : decode b_Printer_value 41 = .ok (.ldc 71, 2) := by decide +kernel
theorem d_Printer_value_43 : decode b_Printer_value 43 = .ok (.invokevirtual 73, 3) := by decide +kernel
theorem d_Printer_value_46 : decode b_Printer_value 46 = .ok (.goto 51, 3) := by decide +kernel
theorem d_Printer_value_49 : decode b_Printer_value 49 = .ok (.aload_n 0, 1) := by decide +kernel
theorem d_Printer_value_50 : decode b_Printer_value 50 = .ok (.ldc 77, 2) := by decide +kernel
theorem d_Printer_value_52 : decode b_Printer_value 52 = .ok (.invokevirtual 73, 3) := by decide +kernel
theorem d_Printer_value_55 : decode b_Printer_value 55 = .ok (.goto 42, 3) := by decide +kernel
theorem d_Printer_value_58 : decode b_Printer_value 58 = .ok (.aload_n 0, 1) := by decide +kernel
theorem d_Printer_value_59 : decode b_Printer_value 59 = .ok (.ldc 79, 2) := by decide +kernel
theorem d_Printer_value_61 : decode b_Printer_value 61 = .ok (.invokevirtual 73, 3) := by decide +kernel
theorem d_Printer_value_64 : decode b_Printer_value 64 = .ok (.goto 33, 3) := by decide +kernel
theorem d_Printer_value_67 : decode b_Printer_value 67 = .ok (.aload_n 0, 1) := by decide +kernel
theorem d_Printer_value_68 : decode b_Printer_value 68 = .ok (.aload_n 1, 1) := by decide +kernel
theorem d_Printer_value_69 : decode b_Printer_value 69 = .ok (.getfield 81, 3) := by decide +kernel
theorem d_Printer_value_72 : decode b_Printer_value 72 = .ok (.invokevirtual 60, 3) := by decide +kernel
theorem d_Printer_value_75 : decode b_Printer_value 75 = .ok (.goto 22, 3) := by decide +kernel
theorem d_Printer_value_78 : decode b_Printer_value 78 = .ok (.aload_n 0, 1) := by decide +kernel
theorem d_Printer_value_79 : decode b_Printer_value 79 = .ok (.aload_n 1, 1) := by decide +kernel
theorem d_Printer_value_80 : decode b_Printer_value 80 = .ok (.getfield 84, 3) := by decide +kernel
theorem d_Printer_value_83 : decode b_Printer_value 83 = .ok (.bipush 34, 2) := by decide +kernel
theorem d_Printer_value_85 : decode b_Printer_value 85 = .ok (.invokevirtual 64, 3) := by decide +kernel
theorem d_Printer_value_88 : decode b_Printer_value 88 = .ok (.goto 9, 3) := by decide +kernel
theorem d_Printer_value_91 : decode b_Printer_value 91 = .ok (.aload_n 0, 1) := by decide +kernel
theorem d_Printer_value_92 : decode b_Printer_value 92 = .ok (.aload_n 1, 1) := by decide +kernel
theorem d_Printer_value_93 : decode b_Printer_value 93 = .ok (.iload_n 2, 1) := by decide +kernel
theorem d_Printer_value_94 : decode b_Printer_value 94 = .ok (.invokevirtual 86, 3) := by decide +kernel
theorem d_Printer_value_97 : decode b_Printer_value 97 = .ok (.return_, 1) := by decide +kernel
abbrev b_Printer_members : ByteArray := prog_5_method_7_code
def y_Printer_members : MethodName := ⟨"QueryBench$Printer", "members", "(LQueryBench$Value;I)V"⟩
abbrev k_Printer_members : Cond := .code y_Printer_members b_Printer_members 5 none
theorem i_Printer_members : k_Printer_members ∈ gtbl := gt_in 997 (by decide +kernel) (by decide +kernel)
theorem d_Printer_members_0 : decode b_Printer_members 0 = .ok (.aload_n 1, 1) := by decide +kernel
theorem d_Printer_members_1 : decode b_Printer_members 1 = .ok (.getfield 68, 3) := by decide +kernel
theorem d_Printer_members_4 : decode b_Printer_members 4 = .ok (.bipush 6, 2) := by decide +kernel
theorem d_Printer_members_6 : decode b_Printer_members 6 = .ok (.if_icmp .ne 7, 3) := by decide +kernel
theorem d_Printer_members_9 : decode b_Printer_members 9 = .ok (.iconst 1, 1) := by decide +kernel
theorem d_Printer_members_10 : decode b_Printer_members 10 = .ok (.goto 4, 3) := by decide +kernel
theorem d_Printer_members_13 : decode b_Printer_members 13 = .ok (.iconst 0, 1) := by decide +kernel
theorem d_Printer_members_14 : decode b_Printer_members 14 = .ok (.istore_n 3, 1) := by decide +kernel
theorem d_Printer_members_15 : decode b_Printer_members 15 = .ok (.aload_n 0, 1) := by decide +kernel
theorem d_Printer_members_16 : decode b_Printer_members 16 = .ok (.iload_n 3, 1) := by decide +kernel
theorem d_Printer_members_17 : decode b_Printer_members 17 = .ok (.ifCond .eq 8, 3) := by decide +kernel
theorem d_Printer_members_20 : decode b_Printer_members 20 = .ok (.bipush 123, 2) := by decide +kernel
theorem d_Printer_members_22 : decode b_Printer_members 22 = .ok (.goto 5, 3) := by decide +kernel
theorem d_Printer_members_25 : decode b_Printer_members 25 = .ok (.bipush 91, 2) := by decide +kernel
theorem d_Printer_members_27 : decode b_Printer_members 27 = .ok (.invokevirtual 25, 3) := by decide +kernel
theorem d_Printer_members_30 : decode b_Printer_members 30 = .ok (.iconst 0, 1) := by decide +kernel
theorem d_Printer_members_31 : decode b_Printer_members 31 = .ok (.istore 4, 2) := by decide +kernel
theorem d_Printer_members_33 : decode b_Printer_members 33 = .ok (.iload 4, 2) := by decide +kernel
theorem d_Printer_members_35 : decode b_Printer_members 35 = .ok (.aload_n 1, 1) := by decide +kernel
theorem d_Printer_members_36 : decode b_Printer_members 36 = .ok (.invokevirtual 89, 3) := by decide +kernel
theorem d_Printer_members_39 : decode b_Printer_members 39 = .ok (.if_icmp .ge 66, 3) := by decide +kernel
theorem d_Printer_members_42 : decode b_Printer_members 42 = .ok (.iload_n 2, 1) := by decide +kernel
theorem d_Printer_members_43 : decode b_Printer_members 43 = .ok (.bipush 32, 2) := by decide +kernel
theorem d_Printer_members_45 : decode b_Printer_members 45 = .ok (.if_icmp .ge 60, 3) := by decide +kernel
theorem d_Printer_members_48 : decode b_Printer_members 48 = .ok (.iload 4, 2) := by decide +kernel
theorem d_Printer_members_50 : decode b_Printer_members 50 = .ok (.ifCond .le 9, 3) := by decide +kernel
theorem d_Printer_members_53 : decode b_Printer_members 53 = .ok (.aload_n 0, 1) := by decide +kernel
theorem d_Printer_members_54 : decode b_Printer_members 54 = .ok (.bipush 44, 2) := by decide +kernel
theorem d_Printer_members_56 : decode b_Printer_members 56 = .ok (.invokevirtual 25, 3) := by decide +kernel
theorem d_Printer_members_59 : decode b_Printer_members 59 = .ok (.iload_n 3, 1) := by decide +kernel
theorem d_Printer_members_60 : decode b_Printer_members 60 = .ok (.ifCond .eq 25, 3) := by decide +kernel
theorem d_Printer_members_63 : decode b_Printer_members 63 = .ok (.aload_n 0, 1) := by decide +kernel
theorem d_Printer_members_64 : decode b_Printer_members 64 = .ok (.aload_n 1, 1) := by decide +kernel
theorem d_Printer_members_65 : decode b_Printer_members 65 = .ok (.getfield 92, 3) := by decide +kernel
theorem d_Printer_members_68 : decode b_Printer_members 68 = .ok (.iload 4, 2) := by decide +kernel
theorem d_Printer_members_70 : decode b_Printer_members 70 = .ok (.aaload, 1) := by decide +kernel
theorem d_Printer_members_71 : decode b_Printer_members 71 = .ok (.getfield 53, 3) := by decide +kernel
theorem d_Printer_members_74 : decode b_Printer_members 74 = .ok (.bipush 34, 2) := by decide +kernel
theorem d_Printer_members_76 : decode b_Printer_members 76 = .ok (.invokevirtual 64, 3) := by decide +kernel
theorem d_Printer_members_79 : decode b_Printer_members 79 = .ok (.aload_n 0, 1) := by decide +kernel
theorem d_Printer_members_80 : decode b_Printer_members 80 = .ok (.bipush 58, 2) := by decide +kernel
theorem d_Printer_members_82 : decode b_Printer_members 82 = .ok (.invokevirtual 25, 3) := by decide +kernel
theorem d_Printer_members_85 : decode b_Printer_members 85 = .ok (.aload_n 0, 1) := by decide +kernel
theorem d_Printer_members_86 : decode b_Printer_members 86 = .ok (.aload_n 1, 1) := by decide +kernel
theorem d_Printer_members_87 : decode b_Printer_members 87 = .ok (.getfield 92, 3) := by decide +kernel
theorem d_Printer_members_90 : decode b_Printer_members 90 = .ok (.iload 4, 2) := by decide +kernel
theorem d_Printer_members_92 : decode b_Printer_members 92 = .ok (.aaload, 1) := by decide +kernel
theorem d_Printer_members_93 : decode b_Printer_members 93 = .ok (.iload_n 2, 1) := by decide +kernel
theorem d_Printer_members_94 : decode b_Printer_members 94 = .ok (.iconst 1, 1) := by decide +kernel
theorem d_Printer_members_95 : decode b_Printer_members 95 = .ok (.iadd, 1) := by decide +kernel
theorem d_Printer_members_96 : decode b_Printer_members 96 = .ok (.invokevirtual 29, 3) := by decide +kernel
theorem d_Printer_members_99 : decode b_Printer_members 99 = .ok (.iinc 4 1, 3) := by decide +kernel
theorem d_Printer_members_102 : decode b_Printer_members 102 = .ok (.goto (-69), 3) := by decide +kernel
theorem d_Printer_members_105 : decode b_Printer_members 105 = .ok (.aload_n 0, 1) := by decide +kernel
theorem d_Printer_members_106 : decode b_Printer_members 106 = .ok (.iload_n 3, 1) := by decide +kernel
theorem d_Printer_members_107 : decode b_Printer_members 107 = .ok (.ifCond .eq 8, 3) := by decide +kernel
theorem d_Printer_members_110 : decode b_Printer_members 110 = .ok (.bipush 125, 2) := by decide +kernel
theorem d_Printer_members_112 : decode b_Printer_members 112 = .ok (.goto 5, 3) := by decide +kernel
theorem d_Printer_members_115 : decode b_Printer_members 115 = .ok (.bipush 93, 2) := by decide +kernel
theorem d_Printer_members_117 : decode b_Printer_members 117 = .ok (.invokevirtual 25, 3) := by decide +kernel
theorem d_Printer_members_120 : decode b_Printer_members 120 = .ok (.return_, 1) := by decide +kernel
/-- Printer: value at a depth -/
def PVC (l : Launch) (K : Nat → Nat × Nat) (dC : Nat → ClassId) (dI : Nat → Nat → Nat) (cI cV : ClassId) (E : Nat → Nat) (L : List Nat) (f : Nat → va_E) (cB : ClassId) (p1 pb ps : Nat) (n d : Nat) : Prop := ∀ (sz : Heap) (g : Nat → Int32) (k : Nat), k ≤ 16384 → ∀ v9, isF E v9 → vx_Met l y_Printer_value (k_Printer_value :: gtbl) ({ frames := 14 + 2 * n, cells := 1, slots := 6, locals := 300 + 60 * n }) (va_Pc [.ref p1, .ref v9, .int (nI d)] (ml K dC dI ([(p1, .inr (3, [.ref pb, .int (nI k), .ref ps])), (pb, .inl (cB, 16384, .inl g))] ++ va_pl L f) [(cB, .byte), (cI, .int), (cV, .object "QueryBench$Value")] sz)) (va_Qv (fun (u : Nat × (Nat → Int32)) => u.1 ≤ 16384) (fun u t9 => mz dC dI ([(p1, .inr (3, [.ref pb, .int (nI u.1), .ref ps])), (pb, .inl (cB, 16384, .inl u.2))] ++ va_pl L f) [(cB, .byte), (cI, .int), (cV, .object "QueryBench$Value")] (va_A ([(p1, .inr (3, [.ref pb, .int (nI k), .ref ps])), (pb, .inl (cB, 16384, .inl g))] ++ va_pl L f) sz.size) t9 ∧ szk sz t9.heap (0) (0)) (va_A ([(p1, .inr (3, [.ref pb, .int (nI k), .ref ps])), (pb, .inl (cB, 16384, .inl g))] ++ va_pl L f) sz.size)) (vx_X (fun (u : Int32 × (Nat → Int32)) => True) (fun En u t9 => En = IOB ∧ mz dC dI ([(p1, .inr (3, [.ref pb, .int u.1, .ref ps])), (pb, .inl (cB, 16384, .inl u.2))] ++ va_pl L f) [(cB, .byte), (cI, .int), (cV, .object "QueryBench$Value")] (va_A ([(p1, .inr (3, [.ref pb, .int (nI k), .ref ps])), (pb, .inl (cB, 16384, .inl g))] ++ va_pl L f) sz.size) t9) (va_A ([(p1, .inr (3, [.ref pb, .int (nI k), .ref ps])), (pb, .inl (cB, 16384, .inl g))] ++ va_pl L f) sz.size)) (1) (6) (va_A ([(p1, .inr (3, [.ref pb, .int (nI k), .ref ps])), (pb, .inl (cB, 16384, .inl g))] ++ va_pl L f) sz.size)
/-- Printer: members at a depth -/
def PMC (l : Launch) (K : Nat → Nat × Nat) (dC : Nat → ClassId) (dI : Nat → Nat → Nat) (cI cV : ClassId) (E : Nat → Nat) (L : List Nat) (f : Nat → va_E) (cB : ClassId) (p1 pb ps : Nat) (n d : Nat) : Prop := ∀ (sz : Heap) (g : Nat → Int32) (k : Nat), k ≤ 16384 → ∀ v9, isF E v9 → vx_Met l y_Printer_members (k_Printer_members :: gtbl) ({ frames := 13 + 2 * n, cells := 1, slots := 6, locals := 270 + 60 * n }) (va_Pc [.ref p1, .ref v9, .int (nI d)] (ml K dC dI ([(p1, .inr (3, [.ref pb, .int (nI k), .ref ps])), (pb, .inl (cB, 16384, .inl g))] ++ va_pl L f) [(cB, .byte), (cI, .int), (cV, .object "QueryBench$Value")] sz)) (va_Qv (fun (u : Nat × (Nat → Int32)) => u.1 ≤ 16384) (fun u t9 => mz dC dI ([(p1, .inr (3, [.ref pb, .int (nI u.1), .ref ps])), (pb, .inl (cB, 16384, .inl u.2))] ++ va_pl L f) [(cB, .byte), (cI, .int), (cV, .object "QueryBench$Value")] (va_A ([(p1, .inr (3, [.ref pb, .int (nI k), .ref ps])), (pb, .inl (cB, 16384, .inl g))] ++ va_pl L f) sz.size) t9 ∧ szk sz t9.heap (0) (0)) (va_A ([(p1, .inr (3, [.ref pb, .int (nI k), .ref ps])), (pb, .inl (cB, 16384, .inl g))] ++ va_pl L f) sz.size)) (vx_X (fun (u : Int32 × (Nat → Int32)) => True) (fun En u t9 => En = IOB ∧ mz dC dI ([(p1, .inr (3, [.ref pb, .int u.1, .ref ps])), (pb, .inl (cB, 16384, .inl u.2))] ++ va_pl L f) [(cB, .byte), (cI, .int), (cV, .object "QueryBench$Value")] (va_A ([(p1, .inr (3, [.ref pb, .int (nI k), .ref ps])), (pb, .inl (cB, 16384, .inl g))] ++ va_pl L f) sz.size) t9) (va_A ([(p1, .inr (3, [.ref pb, .int (nI k), .ref ps])), (pb, .inl (cB, 16384, .inl g))] ++ va_pl L f) sz.size)) (1) (6) (va_A ([(p1, .inr (3, [.ref pb, .int (nI k), .ref ps])), (pb, .inl (cB, 16384, .inl g))] ++ va_pl L f) sz.size)
set_option maxHeartbeats 4000000 in
set_option maxRecDepth 100000 in
theorem c_PM (l : Launch) (hl9 : l.stackTraces = false) (K : Nat → Nat × Nat) (dC : Nat → ClassId) (dI : Nat → Nat → Nat) (cI cV : ClassId) (E lv : Nat → Nat) (L : List Nat) (f : Nat → va_E) (hO : PO cI cV E lv L f) (cB : ClassId) (p1 pb ps : Nat) (n d : Nat) (hnd : d + n = 32) (HV : d < 32 → PVC l K dC dI cI cV E L f cB p1 pb ps (n - 1) (d + 1)) : PMC l K dC dI cI cV E L f cB p1 pb ps n d := by
  intro sz g k hk v9 hv9
  refine vx_ofW (cc := b_Printer_members) (maxL := 5) (ret := none) (by decide) rfl ?_
  intro p e s m args below meth c s₁ B hml hex hv
  obtain ⟨rfl, ⟨hsz, hP, hK, hD0⟩, hN, hZ, hC, hV⟩ := hv
  have hx := B.exec
  have hb := B.bytes
  have hr := B.returns
  have hts0 := atoms_spec (ws := k_Printer_members :: gtbl) B.pre
  have hts := fun w h => hts0 w (List.mem_cons_of_mem _ h)
  have hown : s.vm.findClass R_Printer = some m.cls := findClass_of_methodNamed B.named
  have hlocks := B.notSynchronized
  subst hsz
  have hD := hD0.self (sz := s.heap.size)
  generalize hAe : va_A ([(p1, .inr (3, [.ref pb, .int (nI k), .ref ps])), (pb, .inl (cB, 16384, .inl g))] ++ va_pl L f) s.heap.size = A at hD hZ hC ⊢
  have hA : ∀ q : Nat, s.heap.size ≤ q → A q := fun q h => by rw [← hAe]; exact Or.inr h
  have hS : va_S A s.heap s.heap [] := va_S.rf
  have hP : va_P (dC, dI) classes ([(p1, .inr (3, [.ref pb, .int (nI k), .ref ps])), (pb, .inl (cB, 16384, .inl g))] ++ va_pl L f) s.heap := hP
  have hl := lv_entry ([.ref p1, .ref v9, .int (nI d)]) (n := 5) (Nat.le_of_ble_eq_true rfl)
  rw [lg_entry_eq]
  generalize (lg_sl ([.ref p1, .ref v9, .int (nI d)]) ++ List.replicate (5 - (lg_sl ([.ref p1, .ref v9, .int (nI d)])).length) Slot.unset).toArray = ls at hl ⊢
  have hl : lv_has ls 5 [(0, .ref p1), (1, .ref v9), (2, .int (nI d))] := hl
  refine lv_aload_n hx hb d_Printer_members_0 rfl (lv_at hl 1 rfl) ?_
  obtain ⟨kd1, nu1, tx1, me1, pa1, na1, ix1, nm1, no1, sp1, ef1, hv1⟩ := hO.val ((isF.v hv9))
  refine vq_get (D := (dC, dI)) (ci := 9) (v := .int kd1) (C := R_Value) (T := F_Value) (N := 10) hx hb hts in_Value hown hK hP (hO.inV (isF.v hv9)) ef1 rfl 0 (by decide) (hts _ z_314) (fun _ h9 => h9) rfl d_Printer_members_1 ?_
  refine lv_bipush (v := 6) hx hb d_Printer_members_4 (by decide) ?_
  refine lv_icmp_ne (tgt := 13) hx hb d_Printer_members_6 (by decide) (fun c6 => ?_) (fun c6 => ?_)
  · refine lv_iconst (v := 0) hx hb d_Printer_members_13 (by decide) ?_
    refine lv_istore_n (lv' := [(3, .int 0), (0, .ref p1), (1, .ref v9), (2, .int (nI d))]) hx hb d_Printer_members_14 rfl hl (by decide) rfl (fun ls hl => ?_)
    refine lv_aload_n hx hb d_Printer_members_15 rfl (lv_at hl 1 rfl) ?_
    refine lv_iload_n hx hb d_Printer_members_16 rfl (lv_at hl 0 rfl) ?_
    refine lv_if_eq (tgt := 25) hx hb d_Printer_members_17 (by decide) (fun _ => ?_) (fun h => absurd (by decide) h)
    refine lv_bipush (v := 91) hx hb d_Printer_members_25 (by decide) ?_
    have hPc := hP.sub (ws' := [(p1, .inr (3, [.ref pb, .int (nI k), .ref ps])), (pb, .inl (cB, 16384, .inl g))]) [0, 1] rfl
    have hDc := hD.sub (ws' := [(p1, .inr (3, [.ref pb, .int (nI k), .ref ps])), (pb, .inl (cB, 16384, .inl g))]) [0, 1] (by decide) rfl
    have hFc := va_free (wc := [(p1, .inr (3, [.ref pb, .int (nI k), .ref ps])), (pb, .inl (cB, 16384, .inl g))]) hD hS hA [0, 1] rfl
    have hKc := hK.sub (tys' := [(cB, .byte)]) [0] rfl
    refine w_same (fun hq0 => ?_)
    refine vx_callv (vx_runV (As := [.int 91]) (rest := []) ⟨hx, hb, hml, hown, hts⟩ (w_put l hl9 dC dI cB p1 pb s.heap (.ref ps) g k 91 hk) (cwV 1 hts (gt_V (own := R_Printer) (C := R_Printer) (i := 25) (y := y_Printer_put) i_Printer_put w_957 w_959 (gt_sel (y := y_Printer_put) (n := 3) (by decide +kernel)) w_6) rfl rfl rfl (by decide +kernel) ⟨by show 8 + 1 ≤ 13 + 2 * n; omega, by show 8 + (2 + 11) + (110) ≤ 270 + 60 * n; omega⟩) ⟨mx_blind, va_recv hK hP (ci := 3) (q0 := 0) rfl rfl, fun U hU hW => ⟨rfl, ⟨hU, by rw [hU]; exact hPc, va_K.moved hW.alike hKc, hDc.weaken (fun _ _ _ _ => trivial)⟩, hN.warm hW, by rw [hU]; exact ZX.moved' hW.alike (ZX.narrow' (ZX.kept' hZ hS.2.1) hFc)⟩⟩ rfl rfl hl.1 rfl (lv_room (Nat.le_of_ble_eq_true rfl)) d_Printer_members_27 ⟨Nat.le_of_ble_eq_true rfl, Nat.le_of_ble_eq_true rfl⟩) hS (fun q _ h => hFc q h) hFc (fun q _ h => hFc q h) (fun En ce q9 ⟨kx, gx⟩ t9 H1 locs ht hvm hw hB hz1 hk1 hS hce hcv hcl => ?_) (fun ⟨k2, g2⟩ t9 H1 locs ht hvm hw hB hz1 hk1 hS => ?_)
    · obtain ⟨hEn, hP1, hK1, hD1⟩ := hB
      rw [ht] at hP1
      obtain ⟨hP, hD⟩ := va_joinQ (wr := []) (w1 := [(p1, .inr (3, [.ref pb, .int (nI kx), .ref ps])), (pb, .inl (cB, 16384, .inl gx))]) hP hD [0, 1] [] rfl rfl (by decide) (by decide) hk1 hFc hP1 hD1
      generalize H1 = H at hP hS hce ⊢
      have hP : va_P (dC, dI) classes ([(p1, .inr (3, [.ref pb, .int (nI kx), .ref ps])), (pb, .inl (cB, 16384, .inl gx))] ++ va_pl L f) H := hP
      have hD : va_D A ([(p1, .inr (3, [.ref pb, .int (nI kx), .ref ps])), (pb, .inl (cB, 16384, .inl gx))] ++ va_pl L f) := hD
      exact vx_out (fun x hx => (hex x hx).elim) hlocks hce hcv hcl (fun t9 ht2 ha => ⟨(nI kx, gx), trivial, ⟨hEn, by rw [ht2]; exact hP, va_K.moved ha hK, hD⟩, hS.F ht2⟩) hS.2.2 (Nat.le_of_ble_eq_true rfl) (Nat.le_of_ble_eq_true rfl)
    · obtain ⟨⟨hP1, hK1, hD1⟩, hz9⟩ := hB
      rw [ht] at hP1
      rw [ht] at hz9
      refine w_tight (hq0.trans hz9) ?_
      have hq0 := hq0.trans hz9
      obtain ⟨hP, hD⟩ := va_joinQ (wr := []) (w1 := [(p1, .inr (3, [.ref pb, .int (nI k2), .ref ps])), (pb, .inl (cB, 16384, .inl g2))]) hP hD [0, 1] [] rfl rfl (by decide) (by decide) hk1 hFc hP1 hD1
      generalize H1 = H at hP hS hq0 ⊢
      have hP : va_P (dC, dI) classes ([(p1, .inr (3, [.ref pb, .int (nI k2), .ref ps])), (pb, .inl (cB, 16384, .inl g2))] ++ va_pl L f) H := hP
      have hD : va_D A ([(p1, .inr (3, [.ref pb, .int (nI k2), .ref ps])), (pb, .inl (cB, 16384, .inl g2))] ++ va_pl L f) := hD
      have hk2 : k2 ≤ 16384 := hw
      refine lv_iconst (v := 0) hx hb d_Printer_members_30 (by decide) ?_
      refine lv_istore (lv' := [(4, .int 0), (3, .int 0), (0, .ref p1), (1, .ref v9), (2, .int (nI d))]) hx hb d_Printer_members_31 hl (by decide) rfl (fun ls hl => ?_)
      have hs := hO.szle ef1 hv1
      refine w_loop (D := (dC, dI)) (cl := classes) (A := A) (H0 := s.heap) (nL := 5) 33 (σ := Nat × Nat × (Nat → Int32)) (fun ⟨i, k, g⟩ => i ≤ 4096 ∧ k ≤ 16384) (fun ⟨i, k, g⟩ => 4096 - i) (fun ⟨i, k, g⟩ => [(p1, .inr (3, [.ref pb, .int (nI k), .ref ps])), (pb, .inl (cB, 16384, .inl g))] ++ va_pl L f) (fun ⟨i, k, g⟩ => [(0, .ref p1), (1, .ref v9), (2, .int (nI d)), (3, .int 0), (4, .int (nI i))]) ?_ (0, k2, g2) ⟨Nat.zero_le _, hk2⟩ hP hD hS (lv_sub hl [2, 3, 4, 1, 0] rfl)
      rintro ⟨i, k, g⟩ H locs ls hI ih hP hD hS hl
      have hP : va_P (dC, dI) classes ([(p1, .inr (3, [.ref pb, .int (nI k), .ref ps])), (pb, .inl (cB, 16384, .inl g))] ++ va_pl L f) H := hP
      have hD : va_D A ([(p1, .inr (3, [.ref pb, .int (nI k), .ref ps])), (pb, .inl (cB, 16384, .inl g))] ++ va_pl L f) := hD
      have hl : lv_has ls 5 [(0, .ref p1), (1, .ref v9), (2, .int (nI d)), (3, .int 0), (4, .int (nI i))] := hl
      obtain ⟨hI, hk⟩ := hI
      have hI : i ≤ 4096 := hI
      have hk : k ≤ 16384 := hk
      refine lv_iload hx hb d_Printer_members_33 (lv_at hl 4 rfl) ?_
      refine lv_aload_n hx hb d_Printer_members_35 rfl (lv_at hl 1 rfl) ?_
      refine vp_callSi (va_Run.run (va_runV (As := []) (rest := [.int (nI i)]) ⟨hx, hb, hml, hown, hts⟩ (c_Value_size l dC dI H cI cV E lv L f hO v9 hv9) (cwV 0 hts (gt_V (own := R_Printer) (C := R_Value) (i := 89) (y := y_Value_size) i_Value_size z_998 z_866 z_867 z_14) rfl rfl rfl (by decide +kernel) ⟨by show 0 + 1 ≤ 13 + 2 * n; omega, by show 8 + (1 + 11) + (0) ≤ 270 + 60 * n; omega⟩) ⟨mq_blind, vq_recv hK hP rfl (hO.inV (isF.v hv9)) ef1, fun U hU hW => ⟨rfl, hU, by rw [hU]; exact hP.part (cx := []) [] rfl, va_K.moved hW.alike (hK.sub (tys' := [(cI, .int), (cV, .object "QueryBench$Value")]) [1, 2] rfl), hN.warm hW⟩⟩ rfl rfl hl.1 rfl (lv_room (Nat.le_of_ble_eq_true rfl)) d_Printer_members_36 ⟨Nat.le_of_ble_eq_true rfl, Nat.le_of_ble_eq_true rfl⟩)) (fun r3 h_r3 => ?_)
      subst h_r3
      refine lv_icmp_ge (tgt := 105) hx hb d_Printer_members_39 (by decide) (fun c39 => ?_) (fun c39 => ?_)
      · refine lv_aload_n hx hb d_Printer_members_105 rfl (lv_at hl 0 rfl) ?_
        refine lv_iload_n hx hb d_Printer_members_106 rfl (lv_at hl 3 rfl) ?_
        refine lv_if_eq (tgt := 115) hx hb d_Printer_members_107 (by decide) (fun _ => ?_) (fun h => absurd (by decide) h)
        refine lv_bipush (v := 93) hx hb d_Printer_members_115 (by decide) ?_
        have hPc := hP.sub (ws' := [(p1, .inr (3, [.ref pb, .int (nI k), .ref ps])), (pb, .inl (cB, 16384, .inl g))]) [0, 1] rfl
        have hDc := hD.sub (ws' := [(p1, .inr (3, [.ref pb, .int (nI k), .ref ps])), (pb, .inl (cB, 16384, .inl g))]) [0, 1] (by decide) rfl
        have hFc := va_free (wc := [(p1, .inr (3, [.ref pb, .int (nI k), .ref ps])), (pb, .inl (cB, 16384, .inl g))]) hD hS hA [0, 1] rfl
        have hKc := hK.sub (tys' := [(cB, .byte)]) [0] rfl
        refine w_same (fun hq0 => ?_)
        refine vx_callv (vx_runV (As := [.int 93]) (rest := []) ⟨hx, hb, hml, hown, hts⟩ (w_put l hl9 dC dI cB p1 pb H (.ref ps) g k 93 hk) (cwV 1 hts (gt_V (own := R_Printer) (C := R_Printer) (i := 25) (y := y_Printer_put) i_Printer_put w_957 w_959 (gt_sel (y := y_Printer_put) (n := 3) (by decide +kernel)) w_6) rfl rfl rfl (by decide +kernel) ⟨by show 8 + 1 ≤ 13 + 2 * n; omega, by show 8 + (2 + 11) + (110) ≤ 270 + 60 * n; omega⟩) ⟨mx_blind, va_recv hK hP (ci := 3) (q0 := 0) rfl rfl, fun U hU hW => ⟨rfl, ⟨hU, by rw [hU]; exact hPc, va_K.moved hW.alike hKc, hDc.weaken (fun _ _ _ _ => trivial)⟩, hN.warm hW, by rw [hU]; exact ZX.moved' hW.alike (ZX.narrow' (ZX.kept' hZ hS.2.1) hFc)⟩⟩ rfl rfl hl.1 rfl (lv_room (Nat.le_of_ble_eq_true rfl)) d_Printer_members_117 ⟨Nat.le_of_ble_eq_true rfl, Nat.le_of_ble_eq_true rfl⟩) hS (fun q _ h => hFc q h) hFc (fun q _ h => hFc q h) (fun En ce q9 ⟨kx, gx⟩ t9 H1 locs ht hvm hw hB hz1 hk1 hS hce hcv hcl => ?_) (fun ⟨k4, g4⟩ t9 H1 locs ht hvm hw hB hz1 hk1 hS => ?_)
        · obtain ⟨hEn, hP1, hK1, hD1⟩ := hB
          rw [ht] at hP1
          obtain ⟨hP, hD⟩ := va_joinQ (wr := []) (w1 := [(p1, .inr (3, [.ref pb, .int (nI kx), .ref ps])), (pb, .inl (cB, 16384, .inl gx))]) hP hD [0, 1] [] rfl rfl (by decide) (by decide) hk1 hFc hP1 hD1
          generalize H1 = H at hP hS hce ⊢
          have hP : va_P (dC, dI) classes ([(p1, .inr (3, [.ref pb, .int (nI kx), .ref ps])), (pb, .inl (cB, 16384, .inl gx))] ++ va_pl L f) H := hP
          have hD : va_D A ([(p1, .inr (3, [.ref pb, .int (nI kx), .ref ps])), (pb, .inl (cB, 16384, .inl gx))] ++ va_pl L f) := hD
          exact vx_out (fun x hx => (hex x hx).elim) hlocks hce hcv hcl (fun t9 ht2 ha => ⟨(nI kx, gx), trivial, ⟨hEn, by rw [ht2]; exact hP, va_K.moved ha hK, hD⟩, hS.F ht2⟩) hS.2.2 (Nat.le_of_ble_eq_true rfl) (Nat.le_of_ble_eq_true rfl)
        · obtain ⟨⟨hP1, hK1, hD1⟩, hz9⟩ := hB
          rw [ht] at hP1
          rw [ht] at hz9
          refine w_tight (hq0.trans hz9) ?_
          have hq0 := hq0.trans hz9
          obtain ⟨hP, hD⟩ := va_joinQ (wr := []) (w1 := [(p1, .inr (3, [.ref pb, .int (nI k4), .ref ps])), (pb, .inl (cB, 16384, .inl g4))]) hP hD [0, 1] [] rfl rfl (by decide) (by decide) hk1 hFc hP1 hD1
          generalize H1 = H at hP hS hq0 ⊢
          have hP : va_P (dC, dI) classes ([(p1, .inr (3, [.ref pb, .int (nI k4), .ref ps])), (pb, .inl (cB, 16384, .inl g4))] ++ va_pl L f) H := hP
          have hD : va_D A ([(p1, .inr (3, [.ref pb, .int (nI k4), .ref ps])), (pb, .inl (cB, 16384, .inl g4))] ++ va_pl L f) := hD
          have hk4 : k4 ≤ 16384 := hw
          refine w_same (fun hq => ?_)
          refine W.widen (k := 1) (n := 6) (Nat.le_of_ble_eq_true rfl) (Nat.le_of_ble_eq_true rfl) ?_
          refine vx_ret ?_
          exact W.vret hx hb hr (fun t9 ht hW => ⟨⟨(k4, g4), rfl, hk4, ⟨by rw [ht]; exact hP, va_K.moved hW.alike hK, hD⟩, by rw [ht]; exact hq⟩, hS.F ht⟩) hS.2.2 d_Printer_members_120
      · have hi : i < szF f v9 := by rw [nI_leI (by omega) (by omega)] at c39; omega
        refine lv_iload_n hx hb d_Printer_members_42 rfl (lv_at hl 2 rfl) ?_
        refine lv_bipush (v := 32) hx hb d_Printer_members_43 (by decide) ?_
        refine lv_icmp_ge (tgt := 105) hx hb d_Printer_members_45 (by decide) (fun c45 => ?_) (fun c45 => ?_)
        · refine lv_aload_n hx hb d_Printer_members_105 rfl (lv_at hl 0 rfl) ?_
          refine lv_iload_n hx hb d_Printer_members_106 rfl (lv_at hl 3 rfl) ?_
          refine lv_if_eq (tgt := 115) hx hb d_Printer_members_107 (by decide) (fun _ => ?_) (fun h => absurd (by decide) h)
          refine lv_bipush (v := 93) hx hb d_Printer_members_115 (by decide) ?_
          have hPc := hP.sub (ws' := [(p1, .inr (3, [.ref pb, .int (nI k), .ref ps])), (pb, .inl (cB, 16384, .inl g))]) [0, 1] rfl
          have hDc := hD.sub (ws' := [(p1, .inr (3, [.ref pb, .int (nI k), .ref ps])), (pb, .inl (cB, 16384, .inl g))]) [0, 1] (by decide) rfl
          have hFc := va_free (wc := [(p1, .inr (3, [.ref pb, .int (nI k), .ref ps])), (pb, .inl (cB, 16384, .inl g))]) hD hS hA [0, 1] rfl
          have hKc := hK.sub (tys' := [(cB, .byte)]) [0] rfl
          refine w_same (fun hq0 => ?_)
          refine vx_callv (vx_runV (As := [.int 93]) (rest := []) ⟨hx, hb, hml, hown, hts⟩ (w_put l hl9 dC dI cB p1 pb H (.ref ps) g k 93 hk) (cwV 1 hts (gt_V (own := R_Printer) (C := R_Printer) (i := 25) (y := y_Printer_put) i_Printer_put w_957 w_959 (gt_sel (y := y_Printer_put) (n := 3) (by decide +kernel)) w_6) rfl rfl rfl (by decide +kernel) ⟨by show 8 + 1 ≤ 13 + 2 * n; omega, by show 8 + (2 + 11) + (110) ≤ 270 + 60 * n; omega⟩) ⟨mx_blind, va_recv hK hP (ci := 3) (q0 := 0) rfl rfl, fun U hU hW => ⟨rfl, ⟨hU, by rw [hU]; exact hPc, va_K.moved hW.alike hKc, hDc.weaken (fun _ _ _ _ => trivial)⟩, hN.warm hW, by rw [hU]; exact ZX.moved' hW.alike (ZX.narrow' (ZX.kept' hZ hS.2.1) hFc)⟩⟩ rfl rfl hl.1 rfl (lv_room (Nat.le_of_ble_eq_true rfl)) d_Printer_members_117 ⟨Nat.le_of_ble_eq_true rfl, Nat.le_of_ble_eq_true rfl⟩) hS (fun q _ h => hFc q h) hFc (fun q _ h => hFc q h) (fun En ce q9 ⟨kx, gx⟩ t9 H1 locs ht hvm hw hB hz1 hk1 hS hce hcv hcl => ?_) (fun ⟨k5, g5⟩ t9 H1 locs ht hvm hw hB hz1 hk1 hS => ?_)
          · obtain ⟨hEn, hP1, hK1, hD1⟩ := hB
            rw [ht] at hP1
            obtain ⟨hP, hD⟩ := va_joinQ (wr := []) (w1 := [(p1, .inr (3, [.ref pb, .int (nI kx), .ref ps])), (pb, .inl (cB, 16384, .inl gx))]) hP hD [0, 1] [] rfl rfl (by decide) (by decide) hk1 hFc hP1 hD1
            generalize H1 = H at hP hS hce ⊢
            have hP : va_P (dC, dI) classes ([(p1, .inr (3, [.ref pb, .int (nI kx), .ref ps])), (pb, .inl (cB, 16384, .inl gx))] ++ va_pl L f) H := hP
            have hD : va_D A ([(p1, .inr (3, [.ref pb, .int (nI kx), .ref ps])), (pb, .inl (cB, 16384, .inl gx))] ++ va_pl L f) := hD
            exact vx_out (fun x hx => (hex x hx).elim) hlocks hce hcv hcl (fun t9 ht2 ha => ⟨(nI kx, gx), trivial, ⟨hEn, by rw [ht2]; exact hP, va_K.moved ha hK, hD⟩, hS.F ht2⟩) hS.2.2 (Nat.le_of_ble_eq_true rfl) (Nat.le_of_ble_eq_true rfl)
          · obtain ⟨⟨hP1, hK1, hD1⟩, hz9⟩ := hB
            rw [ht] at hP1
            rw [ht] at hz9
            refine w_tight (hq0.trans hz9) ?_
            have hq0 := hq0.trans hz9
            obtain ⟨hP, hD⟩ := va_joinQ (wr := []) (w1 := [(p1, .inr (3, [.ref pb, .int (nI k5), .ref ps])), (pb, .inl (cB, 16384, .inl g5))]) hP hD [0, 1] [] rfl rfl (by decide) (by decide) hk1 hFc hP1 hD1
            generalize H1 = H at hP hS hq0 ⊢
            have hP : va_P (dC, dI) classes ([(p1, .inr (3, [.ref pb, .int (nI k5), .ref ps])), (pb, .inl (cB, 16384, .inl g5))] ++ va_pl L f) H := hP
            have hD : va_D A ([(p1, .inr (3, [.ref pb, .int (nI k5), .ref ps])), (pb, .inl (cB, 16384, .inl g5))] ++ va_pl L f) := hD
            have hk5 : k5 ≤ 16384 := hw
            refine w_same (fun hq => ?_)
            refine W.widen (k := 1) (n := 6) (Nat.le_of_ble_eq_true rfl) (Nat.le_of_ble_eq_true rfl) ?_
            refine vx_ret ?_
            exact W.vret hx hb hr (fun t9 ht hW => ⟨⟨(k5, g5), rfl, hk5, ⟨by rw [ht]; exact hP, va_K.moved hW.alike hK, hD⟩, by rw [ht]; exact hq⟩, hS.F ht⟩) hS.2.2 d_Printer_members_120
        · have hd1 : d < 32 := by rw [show (32 : Int32) = nI 32 from rfl, nI_leI (by omega) (by omega)] at c45; omega
          refine lv_iload hx hb d_Printer_members_48 (lv_at hl 4 rfl) ?_
          refine lv_if_le (tgt := 59) hx hb d_Printer_members_50 (by decide) (fun c50 => ?_) (fun c50 => ?_)
          · refine lv_iload_n hx hb d_Printer_members_59 rfl (lv_at hl 3 rfl) ?_
            refine lv_if_eq (tgt := 85) hx hb d_Printer_members_60 (by decide) (fun _ => ?_) (fun h => absurd (by decide) h)
            refine lv_aload_n hx hb d_Printer_members_85 rfl (lv_at hl 0 rfl) ?_
            refine lv_aload_n hx hb d_Printer_members_86 rfl (lv_at hl 1 rfl) ?_
            rcases me1 with _ | b6
            · exact absurd (PO.mem0 ef1) (by omega)
            · refine vq_get (D := (dC, dI)) (ci := 9) (v := .ref b6) (C := R_Value) (T := F_Value) (N := 10) hx hb hts in_Value hown hK hP (hO.inV (isF.v hv9)) ef1 rfl 3 (by decide) (hts _ z_326) (fun _ h9 => h9) rfl d_Printer_members_87 ?_
              refine lv_iload hx hb d_Printer_members_90 (lv_at hl 4 rfl) ?_
              obtain ⟨g7, hi7, ef7, hg7⟩ := hO.mem1 ef1 hv1 (isF.n1 hv9)
              have hn7 := hO.szle ef1 hv1
              obtain ⟨me8, hm8, hf8, hnm8⟩ := hg7 i hi
              refine vq_aald hx hb hK hP 2 hi7 ef7 rfl (j := i) hi hn7 hm8 d_Printer_members_92 ?_
              refine lv_iload_n hx hb d_Printer_members_93 rfl (lv_at hl 2 rfl) ?_
              refine lv_iconst (v := 1) hx hb d_Printer_members_94 (by decide) ?_
              refine lv_iadd hx hb d_Printer_members_95 ?_
              refine W.eq (g2 := F0 m 96 ls [.int (nI (d + 1)), .ref me8, .ref p1]) (by rw [show ((nI d) + 1) = (nI (d + 1)) from nI_1 _]) ?_
              have hPc := hP.part (cx := [(p1, .inr (3, [.ref pb, .int (nI k), .ref ps])), (pb, .inl (cB, 16384, .inl g))]) [0, 1] rfl
              have hDc := hD.part (cx := [(p1, .inr (3, [.ref pb, .int (nI k), .ref ps])), (pb, .inl (cB, 16384, .inl g))]) [0, 1] (by decide) rfl
              have hFc := va_freeP (cx := [(p1, .inr (3, [.ref pb, .int (nI k), .ref ps])), (pb, .inl (cB, 16384, .inl g))]) hD hS hA [0, 1] rfl
              have hKc := hK.sub (tys' := [(cB, .byte), (cI, .int), (cV, .object "QueryBench$Value")]) [0, 1, 2] rfl
              refine w_same (fun hq0 => ?_)
              refine vx_callv (vx_runV (As := [.ref me8, .int (nI (d + 1))]) (rest := []) ⟨hx, hb, hml, hown, hts⟩ (HV hd1 H g k hk me8 hf8) (cwV 2 hts (gt_V (own := R_Printer) (C := R_Printer) (i := 29) (y := y_Printer_value) i_Printer_value z_987 z_989 (gt_sel (y := y_Printer_value) (n := 3) (by decide +kernel)) w_6) rfl rfl rfl (by decide +kernel) ⟨by show 14 + 2 * (n - 1) + 1 ≤ 13 + 2 * n; omega, by show 8 + (3 + 11) + (300 + 60 * (n - 1)) ≤ 270 + 60 * n; omega⟩) ⟨ml_blind, va_recv hK hP (ci := 3) (q0 := 0) rfl rfl, fun U hU hW => ⟨rfl, ⟨hU, by rw [hU]; exact hPc, va_K.moved hW.alike hKc, hDc.weaken (fun _ _ _ _ => trivial)⟩, hN.warm hW, by rw [hU]; exact ZX.moved' hW.alike (ZX.narrow' (ZX.kept' hZ hS.2.1) hFc), by rw [hU]; exact CE.call hC hS.2.1 hFc hW, va_AO.moved hW.alike hV⟩⟩ rfl rfl hl.1 rfl (lv_room (Nat.le_of_ble_eq_true rfl)) d_Printer_members_96 ⟨Nat.le_of_ble_eq_true rfl, Nat.le_of_ble_eq_true rfl⟩) hS (fun q _ h => hFc q h) hFc (fun q _ h => hFc q h) (fun En ce q9 ⟨kx, gx⟩ t9 H1 locs ht hvm hw hB hz1 hk1 hS hce hcv hcl => ?_) (fun ⟨k9, g9⟩ t9 H1 locs ht hvm hw hB hz1 hk1 hS => ?_)
              · obtain ⟨hEn, hP1, hK1, hD1⟩ := hB
                rw [ht] at hP1
                obtain ⟨hP, hD⟩ := va_joinP (wr := []) (rx := [(p1, .inr (3, [.ref pb, .int kx, .ref ps])), (pb, .inl (cB, 16384, .inl gx))]) (pl1 := va_pl L f) hP hD [0, 1] [] rfl rfl (by decide) (by decide) hk1 hFc hP1 hD1
                generalize H1 = H at hP hS hce ⊢
                have hP : va_P (dC, dI) classes ([(p1, .inr (3, [.ref pb, .int kx, .ref ps])), (pb, .inl (cB, 16384, .inl gx))] ++ va_pl L f) H := hP
                have hD : va_D A ([(p1, .inr (3, [.ref pb, .int kx, .ref ps])), (pb, .inl (cB, 16384, .inl gx))] ++ va_pl L f) := hD
                exact vx_out (fun x hx => (hex x hx).elim) hlocks hce hcv hcl (fun t9 ht2 ha => ⟨(kx, gx), trivial, ⟨hEn, by rw [ht2]; exact hP, va_K.moved ha hK, hD⟩, hS.F ht2⟩) hS.2.2 (Nat.le_of_ble_eq_true rfl) (Nat.le_of_ble_eq_true rfl)
              · obtain ⟨⟨hP1, hK1, hD1⟩, hz9⟩ := hB
                rw [ht] at hP1
                rw [ht] at hz9
                refine w_tight (hq0.trans hz9) ?_
                have hq0 := hq0.trans hz9
                obtain ⟨hP, hD⟩ := va_joinP (wr := []) (rx := [(p1, .inr (3, [.ref pb, .int (nI k9), .ref ps])), (pb, .inl (cB, 16384, .inl g9))]) (pl1 := va_pl L f) hP hD [0, 1] [] rfl rfl (by decide) (by decide) hk1 hFc hP1 hD1
                generalize H1 = H at hP hS hq0 ⊢
                have hP : va_P (dC, dI) classes ([(p1, .inr (3, [.ref pb, .int (nI k9), .ref ps])), (pb, .inl (cB, 16384, .inl g9))] ++ va_pl L f) H := hP
                have hD : va_D A ([(p1, .inr (3, [.ref pb, .int (nI k9), .ref ps])), (pb, .inl (cB, 16384, .inl g9))] ++ va_pl L f) := hD
                have hk9 : k9 ≤ 16384 := hw
                refine lv_iinc (v := nI (i + 1)) (lv' := [(4, .int (nI (i + 1))), (0, .ref p1), (1, .ref v9), (2, .int (nI d)), (3, .int 0)]) hx hb d_Printer_members_99 hl (k := 4) rfl (nI_1 _) (by decide) rfl (fun ls hl => ?_)
                refine lv_goto (tgt := 33) hx hb d_Printer_members_102 (by decide) ?_
                exact ih (i + 1, k9, g9) _ _ _ ⟨show i + 1 ≤ 4096 by omega, hk9⟩ (by show 4096 - (i + 1) < 4096 - i; omega) hP hD hS (lv_sub hl [1, 2, 3, 4, 0] rfl)
          · refine lv_aload_n hx hb d_Printer_members_53 rfl (lv_at hl 0 rfl) ?_
            refine lv_bipush (v := 44) hx hb d_Printer_members_54 (by decide) ?_
            have hPc := hP.sub (ws' := [(p1, .inr (3, [.ref pb, .int (nI k), .ref ps])), (pb, .inl (cB, 16384, .inl g))]) [0, 1] rfl
            have hDc := hD.sub (ws' := [(p1, .inr (3, [.ref pb, .int (nI k), .ref ps])), (pb, .inl (cB, 16384, .inl g))]) [0, 1] (by decide) rfl
            have hFc := va_free (wc := [(p1, .inr (3, [.ref pb, .int (nI k), .ref ps])), (pb, .inl (cB, 16384, .inl g))]) hD hS hA [0, 1] rfl
            have hKc := hK.sub (tys' := [(cB, .byte)]) [0] rfl
            refine w_same (fun hq0 => ?_)
            refine vx_callv (vx_runV (As := [.int 44]) (rest := []) ⟨hx, hb, hml, hown, hts⟩ (w_put l hl9 dC dI cB p1 pb H (.ref ps) g k 44 hk) (cwV 1 hts (gt_V (own := R_Printer) (C := R_Printer) (i := 25) (y := y_Printer_put) i_Printer_put w_957 w_959 (gt_sel (y := y_Printer_put) (n := 3) (by decide +kernel)) w_6) rfl rfl rfl (by decide +kernel) ⟨by show 8 + 1 ≤ 13 + 2 * n; omega, by show 8 + (2 + 11) + (110) ≤ 270 + 60 * n; omega⟩) ⟨mx_blind, va_recv hK hP (ci := 3) (q0 := 0) rfl rfl, fun U hU hW => ⟨rfl, ⟨hU, by rw [hU]; exact hPc, va_K.moved hW.alike hKc, hDc.weaken (fun _ _ _ _ => trivial)⟩, hN.warm hW, by rw [hU]; exact ZX.moved' hW.alike (ZX.narrow' (ZX.kept' hZ hS.2.1) hFc)⟩⟩ rfl rfl hl.1 rfl (lv_room (Nat.le_of_ble_eq_true rfl)) d_Printer_members_56 ⟨Nat.le_of_ble_eq_true rfl, Nat.le_of_ble_eq_true rfl⟩) hS (fun q _ h => hFc q h) hFc (fun q _ h => hFc q h) (fun En ce q9 ⟨kx, gx⟩ t9 H1 locs ht hvm hw hB hz1 hk1 hS hce hcv hcl => ?_) (fun ⟨k10, g10⟩ t9 H1 locs ht hvm hw hB hz1 hk1 hS => ?_)
            · obtain ⟨hEn, hP1, hK1, hD1⟩ := hB
              rw [ht] at hP1
              obtain ⟨hP, hD⟩ := va_joinQ (wr := []) (w1 := [(p1, .inr (3, [.ref pb, .int (nI kx), .ref ps])), (pb, .inl (cB, 16384, .inl gx))]) hP hD [0, 1] [] rfl rfl (by decide) (by decide) hk1 hFc hP1 hD1
              generalize H1 = H at hP hS hce ⊢
              have hP : va_P (dC, dI) classes ([(p1, .inr (3, [.ref pb, .int (nI kx), .ref ps])), (pb, .inl (cB, 16384, .inl gx))] ++ va_pl L f) H := hP
              have hD : va_D A ([(p1, .inr (3, [.ref pb, .int (nI kx), .ref ps])), (pb, .inl (cB, 16384, .inl gx))] ++ va_pl L f) := hD
              exact vx_out (fun x hx => (hex x hx).elim) hlocks hce hcv hcl (fun t9 ht2 ha => ⟨(nI kx, gx), trivial, ⟨hEn, by rw [ht2]; exact hP, va_K.moved ha hK, hD⟩, hS.F ht2⟩) hS.2.2 (Nat.le_of_ble_eq_true rfl) (Nat.le_of_ble_eq_true rfl)
            · obtain ⟨⟨hP1, hK1, hD1⟩, hz9⟩ := hB
              rw [ht] at hP1
              rw [ht] at hz9
              refine w_tight (hq0.trans hz9) ?_
              have hq0 := hq0.trans hz9
              obtain ⟨hP, hD⟩ := va_joinQ (wr := []) (w1 := [(p1, .inr (3, [.ref pb, .int (nI k10), .ref ps])), (pb, .inl (cB, 16384, .inl g10))]) hP hD [0, 1] [] rfl rfl (by decide) (by decide) hk1 hFc hP1 hD1
              generalize H1 = H at hP hS hq0 ⊢
              have hP : va_P (dC, dI) classes ([(p1, .inr (3, [.ref pb, .int (nI k10), .ref ps])), (pb, .inl (cB, 16384, .inl g10))] ++ va_pl L f) H := hP
              have hD : va_D A ([(p1, .inr (3, [.ref pb, .int (nI k10), .ref ps])), (pb, .inl (cB, 16384, .inl g10))] ++ va_pl L f) := hD
              have hk10 : k10 ≤ 16384 := hw
              refine lv_iload_n hx hb d_Printer_members_59 rfl (lv_at hl 3 rfl) ?_
              refine lv_if_eq (tgt := 85) hx hb d_Printer_members_60 (by decide) (fun _ => ?_) (fun h => absurd (by decide) h)
              refine lv_aload_n hx hb d_Printer_members_85 rfl (lv_at hl 0 rfl) ?_
              refine lv_aload_n hx hb d_Printer_members_86 rfl (lv_at hl 1 rfl) ?_
              rcases me1 with _ | b11
              · exact absurd (PO.mem0 ef1) (by omega)
              · refine vq_get (D := (dC, dI)) (ci := 9) (v := .ref b11) (C := R_Value) (T := F_Value) (N := 10) hx hb hts in_Value hown hK hP (hO.inV (isF.v hv9)) ef1 rfl 3 (by decide) (hts _ z_326) (fun _ h9 => h9) rfl d_Printer_members_87 ?_
                refine lv_iload hx hb d_Printer_members_90 (lv_at hl 4 rfl) ?_
                obtain ⟨g12, hi12, ef12, hg12⟩ := hO.mem1 ef1 hv1 (isF.n1 hv9)
                have hn12 := hO.szle ef1 hv1
                obtain ⟨me13, hm13, hf13, hnm13⟩ := hg12 i hi
                refine vq_aald hx hb hK hP 2 hi12 ef12 rfl (j := i) hi hn12 hm13 d_Printer_members_92 ?_
                refine lv_iload_n hx hb d_Printer_members_93 rfl (lv_at hl 2 rfl) ?_
                refine lv_iconst (v := 1) hx hb d_Printer_members_94 (by decide) ?_
                refine lv_iadd hx hb d_Printer_members_95 ?_
                refine W.eq (g2 := F0 m 96 ls [.int (nI (d + 1)), .ref me13, .ref p1]) (by rw [show ((nI d) + 1) = (nI (d + 1)) from nI_1 _]) ?_
                have hPc := hP.part (cx := [(p1, .inr (3, [.ref pb, .int (nI k10), .ref ps])), (pb, .inl (cB, 16384, .inl g10))]) [0, 1] rfl
                have hDc := hD.part (cx := [(p1, .inr (3, [.ref pb, .int (nI k10), .ref ps])), (pb, .inl (cB, 16384, .inl g10))]) [0, 1] (by decide) rfl
                have hFc := va_freeP (cx := [(p1, .inr (3, [.ref pb, .int (nI k10), .ref ps])), (pb, .inl (cB, 16384, .inl g10))]) hD hS hA [0, 1] rfl
                have hKc := hK.sub (tys' := [(cB, .byte), (cI, .int), (cV, .object "QueryBench$Value")]) [0, 1, 2] rfl
                refine w_same (fun hq0 => ?_)
                refine vx_callv (vx_runV (As := [.ref me13, .int (nI (d + 1))]) (rest := []) ⟨hx, hb, hml, hown, hts⟩ (HV hd1 H g10 k10 hk10 me13 hf13) (cwV 2 hts (gt_V (own := R_Printer) (C := R_Printer) (i := 29) (y := y_Printer_value) i_Printer_value z_987 z_989 (gt_sel (y := y_Printer_value) (n := 3) (by decide +kernel)) w_6) rfl rfl rfl (by decide +kernel) ⟨by show 14 + 2 * (n - 1) + 1 ≤ 13 + 2 * n; omega, by show 8 + (3 + 11) + (300 + 60 * (n - 1)) ≤ 270 + 60 * n; omega⟩) ⟨ml_blind, va_recv hK hP (ci := 3) (q0 := 0) rfl rfl, fun U hU hW => ⟨rfl, ⟨hU, by rw [hU]; exact hPc, va_K.moved hW.alike hKc, hDc.weaken (fun _ _ _ _ => trivial)⟩, hN.warm hW, by rw [hU]; exact ZX.moved' hW.alike (ZX.narrow' (ZX.kept' hZ hS.2.1) hFc), by rw [hU]; exact CE.call hC hS.2.1 hFc hW, va_AO.moved hW.alike hV⟩⟩ rfl rfl hl.1 rfl (lv_room (Nat.le_of_ble_eq_true rfl)) d_Printer_members_96 ⟨Nat.le_of_ble_eq_true rfl, Nat.le_of_ble_eq_true rfl⟩) hS (fun q _ h => hFc q h) hFc (fun q _ h => hFc q h) (fun En ce q9 ⟨kx, gx⟩ t9 H1 locs ht hvm hw hB hz1 hk1 hS hce hcv hcl => ?_) (fun ⟨k14, g14⟩ t9 H1 locs ht hvm hw hB hz1 hk1 hS => ?_)
                · obtain ⟨hEn, hP1, hK1, hD1⟩ := hB
                  rw [ht] at hP1
                  obtain ⟨hP, hD⟩ := va_joinP (wr := []) (rx := [(p1, .inr (3, [.ref pb, .int kx, .ref ps])), (pb, .inl (cB, 16384, .inl gx))]) (pl1 := va_pl L f) hP hD [0, 1] [] rfl rfl (by decide) (by decide) hk1 hFc hP1 hD1
                  generalize H1 = H at hP hS hce ⊢
                  have hP : va_P (dC, dI) classes ([(p1, .inr (3, [.ref pb, .int kx, .ref ps])), (pb, .inl (cB, 16384, .inl gx))] ++ va_pl L f) H := hP
                  have hD : va_D A ([(p1, .inr (3, [.ref pb, .int kx, .ref ps])), (pb, .inl (cB, 16384, .inl gx))] ++ va_pl L f) := hD
                  exact vx_out (fun x hx => (hex x hx).elim) hlocks hce hcv hcl (fun t9 ht2 ha => ⟨(kx, gx), trivial, ⟨hEn, by rw [ht2]; exact hP, va_K.moved ha hK, hD⟩, hS.F ht2⟩) hS.2.2 (Nat.le_of_ble_eq_true rfl) (Nat.le_of_ble_eq_true rfl)
                · obtain ⟨⟨hP1, hK1, hD1⟩, hz9⟩ := hB
                  rw [ht] at hP1
                  rw [ht] at hz9
                  refine w_tight (hq0.trans hz9) ?_
                  have hq0 := hq0.trans hz9
                  obtain ⟨hP, hD⟩ := va_joinP (wr := []) (rx := [(p1, .inr (3, [.ref pb, .int (nI k14), .ref ps])), (pb, .inl (cB, 16384, .inl g14))]) (pl1 := va_pl L f) hP hD [0, 1] [] rfl rfl (by decide) (by decide) hk1 hFc hP1 hD1
                  generalize H1 = H at hP hS hq0 ⊢
                  have hP : va_P (dC, dI) classes ([(p1, .inr (3, [.ref pb, .int (nI k14), .ref ps])), (pb, .inl (cB, 16384, .inl g14))] ++ va_pl L f) H := hP
                  have hD : va_D A ([(p1, .inr (3, [.ref pb, .int (nI k14), .ref ps])), (pb, .inl (cB, 16384, .inl g14))] ++ va_pl L f) := hD
                  have hk14 : k14 ≤ 16384 := hw
                  refine lv_iinc (v := nI (i + 1)) (lv' := [(4, .int (nI (i + 1))), (0, .ref p1), (1, .ref v9), (2, .int (nI d)), (3, .int 0)]) hx hb d_Printer_members_99 hl (k := 4) rfl (nI_1 _) (by decide) rfl (fun ls hl => ?_)
                  refine lv_goto (tgt := 33) hx hb d_Printer_members_102 (by decide) ?_
                  exact ih (i + 1, k14, g14) _ _ _ ⟨show i + 1 ≤ 4096 by omega, hk14⟩ (by show 4096 - (i + 1) < 4096 - i; omega) hP hD hS (lv_sub hl [1, 2, 3, 4, 0] rfl)
  · refine lv_iconst (v := 1) hx hb d_Printer_members_9 (by decide) ?_
    refine lv_goto (tgt := 14) hx hb d_Printer_members_10 (by decide) ?_
    refine lv_istore_n (lv' := [(3, .int 1), (0, .ref p1), (1, .ref v9), (2, .int (nI d))]) hx hb d_Printer_members_14 rfl hl (by decide) rfl (fun ls hl => ?_)
    refine lv_aload_n hx hb d_Printer_members_15 rfl (lv_at hl 1 rfl) ?_
    refine lv_iload_n hx hb d_Printer_members_16 rfl (lv_at hl 0 rfl) ?_
    refine lv_if_eq (tgt := 25) hx hb d_Printer_members_17 (by decide) (fun h => absurd h (by decide)) (fun _ => ?_)
    refine lv_bipush (v := 123) hx hb d_Printer_members_20 (by decide) ?_
    refine lv_goto (tgt := 27) hx hb d_Printer_members_22 (by decide) ?_
    have hPc := hP.sub (ws' := [(p1, .inr (3, [.ref pb, .int (nI k), .ref ps])), (pb, .inl (cB, 16384, .inl g))]) [0, 1] rfl
    have hDc := hD.sub (ws' := [(p1, .inr (3, [.ref pb, .int (nI k), .ref ps])), (pb, .inl (cB, 16384, .inl g))]) [0, 1] (by decide) rfl
    have hFc := va_free (wc := [(p1, .inr (3, [.ref pb, .int (nI k), .ref ps])), (pb, .inl (cB, 16384, .inl g))]) hD hS hA [0, 1] rfl
    have hKc := hK.sub (tys' := [(cB, .byte)]) [0] rfl
    refine w_same (fun hq0 => ?_)
    refine vx_callv (vx_runV (As := [.int 123]) (rest := []) ⟨hx, hb, hml, hown, hts⟩ (w_put l hl9 dC dI cB p1 pb s.heap (.ref ps) g k 123 hk) (cwV 1 hts (gt_V (own := R_Printer) (C := R_Printer) (i := 25) (y := y_Printer_put) i_Printer_put w_957 w_959 (gt_sel (y := y_Printer_put) (n := 3) (by decide +kernel)) w_6) rfl rfl rfl (by decide +kernel) ⟨by show 8 + 1 ≤ 13 + 2 * n; omega, by show 8 + (2 + 11) + (110) ≤ 270 + 60 * n; omega⟩) ⟨mx_blind, va_recv hK hP (ci := 3) (q0 := 0) rfl rfl, fun U hU hW => ⟨rfl, ⟨hU, by rw [hU]; exact hPc, va_K.moved hW.alike hKc, hDc.weaken (fun _ _ _ _ => trivial)⟩, hN.warm hW, by rw [hU]; exact ZX.moved' hW.alike (ZX.narrow' (ZX.kept' hZ hS.2.1) hFc)⟩⟩ rfl rfl hl.1 rfl (lv_room (Nat.le_of_ble_eq_true rfl)) d_Printer_members_27 ⟨Nat.le_of_ble_eq_true rfl, Nat.le_of_ble_eq_true rfl⟩) hS (fun q _ h => hFc q h) hFc (fun q _ h => hFc q h) (fun En ce q9 ⟨kx, gx⟩ t9 H1 locs ht hvm hw hB hz1 hk1 hS hce hcv hcl => ?_) (fun ⟨k15, g15⟩ t9 H1 locs ht hvm hw hB hz1 hk1 hS => ?_)
    · obtain ⟨hEn, hP1, hK1, hD1⟩ := hB
      rw [ht] at hP1
      obtain ⟨hP, hD⟩ := va_joinQ (wr := []) (w1 := [(p1, .inr (3, [.ref pb, .int (nI kx), .ref ps])), (pb, .inl (cB, 16384, .inl gx))]) hP hD [0, 1] [] rfl rfl (by decide) (by decide) hk1 hFc hP1 hD1
      generalize H1 = H at hP hS hce ⊢
      have hP : va_P (dC, dI) classes ([(p1, .inr (3, [.ref pb, .int (nI kx), .ref ps])), (pb, .inl (cB, 16384, .inl gx))] ++ va_pl L f) H := hP
      have hD : va_D A ([(p1, .inr (3, [.ref pb, .int (nI kx), .ref ps])), (pb, .inl (cB, 16384, .inl gx))] ++ va_pl L f) := hD
      exact vx_out (fun x hx => (hex x hx).elim) hlocks hce hcv hcl (fun t9 ht2 ha => ⟨(nI kx, gx), trivial, ⟨hEn, by rw [ht2]; exact hP, va_K.moved ha hK, hD⟩, hS.F ht2⟩) hS.2.2 (Nat.le_of_ble_eq_true rfl) (Nat.le_of_ble_eq_true rfl)
    · obtain ⟨⟨hP1, hK1, hD1⟩, hz9⟩ := hB
      rw [ht] at hP1
      rw [ht] at hz9
      refine w_tight (hq0.trans hz9) ?_
      have hq0 := hq0.trans hz9
      obtain ⟨hP, hD⟩ := va_joinQ (wr := []) (w1 := [(p1, .inr (3, [.ref pb, .int (nI k15), .ref ps])), (pb, .inl (cB, 16384, .inl g15))]) hP hD [0, 1] [] rfl rfl (by decide) (by decide) hk1 hFc hP1 hD1
      generalize H1 = H at hP hS hq0 ⊢
      have hP : va_P (dC, dI) classes ([(p1, .inr (3, [.ref pb, .int (nI k15), .ref ps])), (pb, .inl (cB, 16384, .inl g15))] ++ va_pl L f) H := hP
      have hD : va_D A ([(p1, .inr (3, [.ref pb, .int (nI k15), .ref ps])), (pb, .inl (cB, 16384, .inl g15))] ++ va_pl L f) := hD
      have hk15 : k15 ≤ 16384 := hw
      refine lv_iconst (v := 0) hx hb d_Printer_members_30 (by decide) ?_
      refine lv_istore (lv' := [(4, .int 0), (3, .int 1), (0, .ref p1), (1, .ref v9), (2, .int (nI d))]) hx hb d_Printer_members_31 hl (by decide) rfl (fun ls hl => ?_)
      have hs := hO.szle ef1 hv1
      refine w_loop (D := (dC, dI)) (cl := classes) (A := A) (H0 := s.heap) (nL := 5) 33 (σ := Nat × Nat × (Nat → Int32)) (fun ⟨i, k, g⟩ => i ≤ 4096 ∧ k ≤ 16384) (fun ⟨i, k, g⟩ => 4096 - i) (fun ⟨i, k, g⟩ => [(p1, .inr (3, [.ref pb, .int (nI k), .ref ps])), (pb, .inl (cB, 16384, .inl g))] ++ va_pl L f) (fun ⟨i, k, g⟩ => [(0, .ref p1), (1, .ref v9), (2, .int (nI d)), (3, .int 1), (4, .int (nI i))]) ?_ (0, k15, g15) ⟨Nat.zero_le _, hk15⟩ hP hD hS (lv_sub hl [2, 3, 4, 1, 0] rfl)
      rintro ⟨i, k, g⟩ H locs ls hI ih hP hD hS hl
      have hP : va_P (dC, dI) classes ([(p1, .inr (3, [.ref pb, .int (nI k), .ref ps])), (pb, .inl (cB, 16384, .inl g))] ++ va_pl L f) H := hP
      have hD : va_D A ([(p1, .inr (3, [.ref pb, .int (nI k), .ref ps])), (pb, .inl (cB, 16384, .inl g))] ++ va_pl L f) := hD
      have hl : lv_has ls 5 [(0, .ref p1), (1, .ref v9), (2, .int (nI d)), (3, .int 1), (4, .int (nI i))] := hl
      obtain ⟨hI, hk⟩ := hI
      have hI : i ≤ 4096 := hI
      have hk : k ≤ 16384 := hk
      refine lv_iload hx hb d_Printer_members_33 (lv_at hl 4 rfl) ?_
      refine lv_aload_n hx hb d_Printer_members_35 rfl (lv_at hl 1 rfl) ?_
      refine vp_callSi (va_Run.run (va_runV (As := []) (rest := [.int (nI i)]) ⟨hx, hb, hml, hown, hts⟩ (c_Value_size l dC dI H cI cV E lv L f hO v9 hv9) (cwV 0 hts (gt_V (own := R_Printer) (C := R_Value) (i := 89) (y := y_Value_size) i_Value_size z_998 z_866 z_867 z_14) rfl rfl rfl (by decide +kernel) ⟨by show 0 + 1 ≤ 13 + 2 * n; omega, by show 8 + (1 + 11) + (0) ≤ 270 + 60 * n; omega⟩) ⟨mq_blind, vq_recv hK hP rfl (hO.inV (isF.v hv9)) ef1, fun U hU hW => ⟨rfl, hU, by rw [hU]; exact hP.part (cx := []) [] rfl, va_K.moved hW.alike (hK.sub (tys' := [(cI, .int), (cV, .object "QueryBench$Value")]) [1, 2] rfl), hN.warm hW⟩⟩ rfl rfl hl.1 rfl (lv_room (Nat.le_of_ble_eq_true rfl)) d_Printer_members_36 ⟨Nat.le_of_ble_eq_true rfl, Nat.le_of_ble_eq_true rfl⟩)) (fun r16 h_r16 => ?_)
      subst h_r16
      refine lv_icmp_ge (tgt := 105) hx hb d_Printer_members_39 (by decide) (fun c39 => ?_) (fun c39 => ?_)
      · refine lv_aload_n hx hb d_Printer_members_105 rfl (lv_at hl 0 rfl) ?_
        refine lv_iload_n hx hb d_Printer_members_106 rfl (lv_at hl 3 rfl) ?_
        refine lv_if_eq (tgt := 115) hx hb d_Printer_members_107 (by decide) (fun h => absurd h (by decide)) (fun _ => ?_)
        refine lv_bipush (v := 125) hx hb d_Printer_members_110 (by decide) ?_
        refine lv_goto (tgt := 117) hx hb d_Printer_members_112 (by decide) ?_
        have hPc := hP.sub (ws' := [(p1, .inr (3, [.ref pb, .int (nI k), .ref ps])), (pb, .inl (cB, 16384, .inl g))]) [0, 1] rfl
        have hDc := hD.sub (ws' := [(p1, .inr (3, [.ref pb, .int (nI k), .ref ps])), (pb, .inl (cB, 16384, .inl g))]) [0, 1] (by decide) rfl
        have hFc := va_free (wc := [(p1, .inr (3, [.ref pb, .int (nI k), .ref ps])), (pb, .inl (cB, 16384, .inl g))]) hD hS hA [0, 1] rfl
        have hKc := hK.sub (tys' := [(cB, .byte)]) [0] rfl
        refine w_same (fun hq0 => ?_)
        refine vx_callv (vx_runV (As := [.int 125]) (rest := []) ⟨hx, hb, hml, hown, hts⟩ (w_put l hl9 dC dI cB p1 pb H (.ref ps) g k 125 hk) (cwV 1 hts (gt_V (own := R_Printer) (C := R_Printer) (i := 25) (y := y_Printer_put) i_Printer_put w_957 w_959 (gt_sel (y := y_Printer_put) (n := 3) (by decide +kernel)) w_6) rfl rfl rfl (by decide +kernel) ⟨by show 8 + 1 ≤ 13 + 2 * n; omega, by show 8 + (2 + 11) + (110) ≤ 270 + 60 * n; omega⟩) ⟨mx_blind, va_recv hK hP (ci := 3) (q0 := 0) rfl rfl, fun U hU hW => ⟨rfl, ⟨hU, by rw [hU]; exact hPc, va_K.moved hW.alike hKc, hDc.weaken (fun _ _ _ _ => trivial)⟩, hN.warm hW, by rw [hU]; exact ZX.moved' hW.alike (ZX.narrow' (ZX.kept' hZ hS.2.1) hFc)⟩⟩ rfl rfl hl.1 rfl (lv_room (Nat.le_of_ble_eq_true rfl)) d_Printer_members_117 ⟨Nat.le_of_ble_eq_true rfl, Nat.le_of_ble_eq_true rfl⟩) hS (fun q _ h => hFc q h) hFc (fun q _ h => hFc q h) (fun En ce q9 ⟨kx, gx⟩ t9 H1 locs ht hvm hw hB hz1 hk1 hS hce hcv hcl => ?_) (fun ⟨k17, g17⟩ t9 H1 locs ht hvm hw hB hz1 hk1 hS => ?_)
        · obtain ⟨hEn, hP1, hK1, hD1⟩ := hB
          rw [ht] at hP1
          obtain ⟨hP, hD⟩ := va_joinQ (wr := []) (w1 := [(p1, .inr (3, [.ref pb, .int (nI kx), .ref ps])), (pb, .inl (cB, 16384, .inl gx))]) hP hD [0, 1] [] rfl rfl (by decide) (by decide) hk1 hFc hP1 hD1
          generalize H1 = H at hP hS hce ⊢
          have hP : va_P (dC, dI) classes ([(p1, .inr (3, [.ref pb, .int (nI kx), .ref ps])), (pb, .inl (cB, 16384, .inl gx))] ++ va_pl L f) H := hP
          have hD : va_D A ([(p1, .inr (3, [.ref pb, .int (nI kx), .ref ps])), (pb, .inl (cB, 16384, .inl gx))] ++ va_pl L f) := hD
          exact vx_out (fun x hx => (hex x hx).elim) hlocks hce hcv hcl (fun t9 ht2 ha => ⟨(nI kx, gx), trivial, ⟨hEn, by rw [ht2]; exact hP, va_K.moved ha hK, hD⟩, hS.F ht2⟩) hS.2.2 (Nat.le_of_ble_eq_true rfl) (Nat.le_of_ble_eq_true rfl)
        · obtain ⟨⟨hP1, hK1, hD1⟩, hz9⟩ := hB
          rw [ht] at hP1
          rw [ht] at hz9
          refine w_tight (hq0.trans hz9) ?_
          have hq0 := hq0.trans hz9
          obtain ⟨hP, hD⟩ := va_joinQ (wr := []) (w1 := [(p1, .inr (3, [.ref pb, .int (nI k17), .ref ps])), (pb, .inl (cB, 16384, .inl g17))]) hP hD [0, 1] [] rfl rfl (by decide) (by decide) hk1 hFc hP1 hD1
          generalize H1 = H at hP hS hq0 ⊢
          have hP : va_P (dC, dI) classes ([(p1, .inr (3, [.ref pb, .int (nI k17), .ref ps])), (pb, .inl (cB, 16384, .inl g17))] ++ va_pl L f) H := hP
          have hD : va_D A ([(p1, .inr (3, [.ref pb, .int (nI k17), .ref ps])), (pb, .inl (cB, 16384, .inl g17))] ++ va_pl L f) := hD
          have hk17 : k17 ≤ 16384 := hw
          refine w_same (fun hq => ?_)
          refine W.widen (k := 1) (n := 6) (Nat.le_of_ble_eq_true rfl) (Nat.le_of_ble_eq_true rfl) ?_
          refine vx_ret ?_
          exact W.vret hx hb hr (fun t9 ht hW => ⟨⟨(k17, g17), rfl, hk17, ⟨by rw [ht]; exact hP, va_K.moved hW.alike hK, hD⟩, by rw [ht]; exact hq⟩, hS.F ht⟩) hS.2.2 d_Printer_members_120
      · have hi : i < szF f v9 := by rw [nI_leI (by omega) (by omega)] at c39; omega
        refine lv_iload_n hx hb d_Printer_members_42 rfl (lv_at hl 2 rfl) ?_
        refine lv_bipush (v := 32) hx hb d_Printer_members_43 (by decide) ?_
        refine lv_icmp_ge (tgt := 105) hx hb d_Printer_members_45 (by decide) (fun c45 => ?_) (fun c45 => ?_)
        · refine lv_aload_n hx hb d_Printer_members_105 rfl (lv_at hl 0 rfl) ?_
          refine lv_iload_n hx hb d_Printer_members_106 rfl (lv_at hl 3 rfl) ?_
          refine lv_if_eq (tgt := 115) hx hb d_Printer_members_107 (by decide) (fun h => absurd h (by decide)) (fun _ => ?_)
          refine lv_bipush (v := 125) hx hb d_Printer_members_110 (by decide) ?_
          refine lv_goto (tgt := 117) hx hb d_Printer_members_112 (by decide) ?_
          have hPc := hP.sub (ws' := [(p1, .inr (3, [.ref pb, .int (nI k), .ref ps])), (pb, .inl (cB, 16384, .inl g))]) [0, 1] rfl
          have hDc := hD.sub (ws' := [(p1, .inr (3, [.ref pb, .int (nI k), .ref ps])), (pb, .inl (cB, 16384, .inl g))]) [0, 1] (by decide) rfl
          have hFc := va_free (wc := [(p1, .inr (3, [.ref pb, .int (nI k), .ref ps])), (pb, .inl (cB, 16384, .inl g))]) hD hS hA [0, 1] rfl
          have hKc := hK.sub (tys' := [(cB, .byte)]) [0] rfl
          refine w_same (fun hq0 => ?_)
          refine vx_callv (vx_runV (As := [.int 125]) (rest := []) ⟨hx, hb, hml, hown, hts⟩ (w_put l hl9 dC dI cB p1 pb H (.ref ps) g k 125 hk) (cwV 1 hts (gt_V (own := R_Printer) (C := R_Printer) (i := 25) (y := y_Printer_put) i_Printer_put w_957 w_959 (gt_sel (y := y_Printer_put) (n := 3) (by decide +kernel)) w_6) rfl rfl rfl (by decide +kernel) ⟨by show 8 + 1 ≤ 13 + 2 * n; omega, by show 8 + (2 + 11) + (110) ≤ 270 + 60 * n; omega⟩) ⟨mx_blind, va_recv hK hP (ci := 3) (q0 := 0) rfl rfl, fun U hU hW => ⟨rfl, ⟨hU, by rw [hU]; exact hPc, va_K.moved hW.alike hKc, hDc.weaken (fun _ _ _ _ => trivial)⟩, hN.warm hW, by rw [hU]; exact ZX.moved' hW.alike (ZX.narrow' (ZX.kept' hZ hS.2.1) hFc)⟩⟩ rfl rfl hl.1 rfl (lv_room (Nat.le_of_ble_eq_true rfl)) d_Printer_members_117 ⟨Nat.le_of_ble_eq_true rfl, Nat.le_of_ble_eq_true rfl⟩) hS (fun q _ h => hFc q h) hFc (fun q _ h => hFc q h) (fun En ce q9 ⟨kx, gx⟩ t9 H1 locs ht hvm hw hB hz1 hk1 hS hce hcv hcl => ?_) (fun ⟨k18, g18⟩ t9 H1 locs ht hvm hw hB hz1 hk1 hS => ?_)
          · obtain ⟨hEn, hP1, hK1, hD1⟩ := hB
            rw [ht] at hP1
            obtain ⟨hP, hD⟩ := va_joinQ (wr := []) (w1 := [(p1, .inr (3, [.ref pb, .int (nI kx), .ref ps])), (pb, .inl (cB, 16384, .inl gx))]) hP hD [0, 1] [] rfl rfl (by decide) (by decide) hk1 hFc hP1 hD1
            generalize H1 = H at hP hS hce ⊢
            have hP : va_P (dC, dI) classes ([(p1, .inr (3, [.ref pb, .int (nI kx), .ref ps])), (pb, .inl (cB, 16384, .inl gx))] ++ va_pl L f) H := hP
            have hD : va_D A ([(p1, .inr (3, [.ref pb, .int (nI kx), .ref ps])), (pb, .inl (cB, 16384, .inl gx))] ++ va_pl L f) := hD
            exact vx_out (fun x hx => (hex x hx).elim) hlocks hce hcv hcl (fun t9 ht2 ha => ⟨(nI kx, gx), trivial, ⟨hEn, by rw [ht2]; exact hP, va_K.moved ha hK, hD⟩, hS.F ht2⟩) hS.2.2 (Nat.le_of_ble_eq_true rfl) (Nat.le_of_ble_eq_true rfl)
          · obtain ⟨⟨hP1, hK1, hD1⟩, hz9⟩ := hB
            rw [ht] at hP1
            rw [ht] at hz9
            refine w_tight (hq0.trans hz9) ?_
            have hq0 := hq0.trans hz9
            obtain ⟨hP, hD⟩ := va_joinQ (wr := []) (w1 := [(p1, .inr (3, [.ref pb, .int (nI k18), .ref ps])), (pb, .inl (cB, 16384, .inl g18))]) hP hD [0, 1] [] rfl rfl (by decide) (by decide) hk1 hFc hP1 hD1
            generalize H1 = H at hP hS hq0 ⊢
            have hP : va_P (dC, dI) classes ([(p1, .inr (3, [.ref pb, .int (nI k18), .ref ps])), (pb, .inl (cB, 16384, .inl g18))] ++ va_pl L f) H := hP
            have hD : va_D A ([(p1, .inr (3, [.ref pb, .int (nI k18), .ref ps])), (pb, .inl (cB, 16384, .inl g18))] ++ va_pl L f) := hD
            have hk18 : k18 ≤ 16384 := hw
            refine w_same (fun hq => ?_)
            refine W.widen (k := 1) (n := 6) (Nat.le_of_ble_eq_true rfl) (Nat.le_of_ble_eq_true rfl) ?_
            refine vx_ret ?_
            exact W.vret hx hb hr (fun t9 ht hW => ⟨⟨(k18, g18), rfl, hk18, ⟨by rw [ht]; exact hP, va_K.moved hW.alike hK, hD⟩, by rw [ht]; exact hq⟩, hS.F ht⟩) hS.2.2 d_Printer_members_120
        · have hd1 : d < 32 := by rw [show (32 : Int32) = nI 32 from rfl, nI_leI (by omega) (by omega)] at c45; omega
          refine lv_iload hx hb d_Printer_members_48 (lv_at hl 4 rfl) ?_
          refine lv_if_le (tgt := 59) hx hb d_Printer_members_50 (by decide) (fun c50 => ?_) (fun c50 => ?_)
          · refine lv_iload_n hx hb d_Printer_members_59 rfl (lv_at hl 3 rfl) ?_
            refine lv_if_eq (tgt := 85) hx hb d_Printer_members_60 (by decide) (fun h => absurd h (by decide)) (fun _ => ?_)
            refine lv_aload_n hx hb d_Printer_members_63 rfl (lv_at hl 0 rfl) ?_
            refine lv_aload_n hx hb d_Printer_members_64 rfl (lv_at hl 1 rfl) ?_
            rcases me1 with _ | b19
            · exact absurd (PO.mem0 ef1) (by omega)
            · refine vq_get (D := (dC, dI)) (ci := 9) (v := .ref b19) (C := R_Value) (T := F_Value) (N := 10) hx hb hts in_Value hown hK hP (hO.inV (isF.v hv9)) ef1 rfl 3 (by decide) (hts _ z_326) (fun _ h9 => h9) rfl d_Printer_members_65 ?_
              refine lv_iload hx hb d_Printer_members_68 (lv_at hl 4 rfl) ?_
              obtain ⟨g20, hi20, ef20, hg20⟩ := hO.mem1 ef1 hv1 (isF.n1 hv9)
              have hn20 := hO.szle ef1 hv1
              obtain ⟨me21, hm21, hf21, hnm21⟩ := hg20 i hi
              refine vq_aald hx hb hK hP 2 hi20 ef20 rfl (j := i) hi hn20 hm21 d_Printer_members_70 ?_
              obtain ⟨kd22, nu22, tx22, me22, pa22, na22, ix22, nm22, no22, sp22, ef22, hv22⟩ := hO.val ((isF.v hf21))
              rcases na22 with _ | b23
              · exact absurd rfl (hv22.2.2.2.2.2.2.2 (hnm21 c6)).1
              · refine vq_get (D := (dC, dI)) (ci := 9) (v := .ref b23) (C := R_Value) (T := F_Value) (N := 10) hx hb hts in_Value hown hK hP (hO.inV (isF.v hf21)) ef22 rfl 5 (by decide) (hts _ z_332) (fun _ h9 => h9) rfl d_Printer_members_71 ?_
                refine lv_bipush (v := 34) hx hb d_Printer_members_74 (by decide) ?_
                have hPc := hP.part (cx := [(p1, .inr (3, [.ref pb, .int (nI k), .ref ps])), (pb, .inl (cB, 16384, .inl g))]) [0, 1] rfl
                have hDc := hD.part (cx := [(p1, .inr (3, [.ref pb, .int (nI k), .ref ps])), (pb, .inl (cB, 16384, .inl g))]) [0, 1] (by decide) rfl
                have hFc := va_freeP (cx := [(p1, .inr (3, [.ref pb, .int (nI k), .ref ps])), (pb, .inl (cB, 16384, .inl g))]) hD hS hA [0, 1] rfl
                have hKc := hK.sub (tys' := [(cB, .byte), (cI, .int), (cV, .object "QueryBench$Value")]) [0, 1, 2] rfl
                refine w_same (fun hq0 => ?_)
                refine vx_callv (vx_runV (As := [.ref b23, .int 34]) (rest := []) ⟨hx, hb, hml, hown, hts⟩ (c_Printer_text l hl9 K dC dI H cI cV E lv L f hO cB p1 pb ps g k hk b23 (hv22.2.2.2.1 b23 rfl) 34) (cwV 2 hts (gt_V (own := R_Printer) (C := R_Printer) (i := 64) (y := y_Printer_text) i_Printer_text z_968 z_970 (gt_sel (y := y_Printer_text) (n := 3) (by decide +kernel)) w_6) rfl rfl rfl (by decide +kernel) ⟨by show 11 + 1 ≤ 13 + 2 * n; omega, by show 8 + (4 + 11) + (230) ≤ 270 + 60 * n; omega⟩) ⟨ml_blind, va_recv hK hP (ci := 3) (q0 := 0) rfl rfl, fun U hU hW => ⟨rfl, ⟨hU, by rw [hU]; exact hPc, va_K.moved hW.alike hKc, hDc.weaken (fun _ _ _ _ => trivial)⟩, hN.warm hW, by rw [hU]; exact ZX.moved' hW.alike (ZX.narrow' (ZX.kept' hZ hS.2.1) hFc), by rw [hU]; exact CE.call hC hS.2.1 hFc hW, va_AO.moved hW.alike hV⟩⟩ rfl rfl hl.1 rfl (lv_room (Nat.le_of_ble_eq_true rfl)) d_Printer_members_76 ⟨Nat.le_of_ble_eq_true rfl, Nat.le_of_ble_eq_true rfl⟩) hS (fun q _ h => hFc q h) hFc (fun q _ h => hFc q h) (fun En ce q9 ⟨kx, gx⟩ t9 H1 locs ht hvm hw hB hz1 hk1 hS hce hcv hcl => ?_) (fun ⟨k24, g24⟩ t9 H1 locs ht hvm hw hB hz1 hk1 hS => ?_)
                · obtain ⟨hEn, hP1, hK1, hD1⟩ := hB
                  rw [ht] at hP1
                  obtain ⟨hP, hD⟩ := va_joinP (wr := []) (rx := [(p1, .inr (3, [.ref pb, .int kx, .ref ps])), (pb, .inl (cB, 16384, .inl gx))]) (pl1 := va_pl L f) hP hD [0, 1] [] rfl rfl (by decide) (by decide) hk1 hFc hP1 hD1
                  generalize H1 = H at hP hS hce ⊢
                  have hP : va_P (dC, dI) classes ([(p1, .inr (3, [.ref pb, .int kx, .ref ps])), (pb, .inl (cB, 16384, .inl gx))] ++ va_pl L f) H := hP
                  have hD : va_D A ([(p1, .inr (3, [.ref pb, .int kx, .ref ps])), (pb, .inl (cB, 16384, .inl gx))] ++ va_pl L f) := hD
                  exact vx_out (fun x hx => (hex x hx).elim) hlocks hce hcv hcl (fun t9 ht2 ha => ⟨(kx, gx), trivial, ⟨hEn, by rw [ht2]; exact hP, va_K.moved ha hK, hD⟩, hS.F ht2⟩) hS.2.2 (Nat.le_of_ble_eq_true rfl) (Nat.le_of_ble_eq_true rfl)
                · obtain ⟨⟨hP1, hK1, hD1⟩, hz9⟩ := hB
                  rw [ht] at hP1
                  rw [ht] at hz9
                  refine w_tight (hq0.trans hz9) ?_
                  have hq0 := hq0.trans hz9
                  obtain ⟨hP, hD⟩ := va_joinP (wr := []) (rx := [(p1, .inr (3, [.ref pb, .int (nI k24), .ref ps])), (pb, .inl (cB, 16384, .inl g24))]) (pl1 := va_pl L f) hP hD [0, 1] [] rfl rfl (by decide) (by decide) hk1 hFc hP1 hD1
                  generalize H1 = H at hP hS hq0 ⊢
                  have hP : va_P (dC, dI) classes ([(p1, .inr (3, [.ref pb, .int (nI k24), .ref ps])), (pb, .inl (cB, 16384, .inl g24))] ++ va_pl L f) H := hP
                  have hD : va_D A ([(p1, .inr (3, [.ref pb, .int (nI k24), .ref ps])), (pb, .inl (cB, 16384, .inl g24))] ++ va_pl L f) := hD
                  have hk24 : k24 ≤ 16384 := hw
                  refine lv_aload_n hx hb d_Printer_members_79 rfl (lv_at hl 0 rfl) ?_
                  refine lv_bipush (v := 58) hx hb d_Printer_members_80 (by decide) ?_
                  have hPc := hP.sub (ws' := [(p1, .inr (3, [.ref pb, .int (nI k24), .ref ps])), (pb, .inl (cB, 16384, .inl g24))]) [0, 1] rfl
                  have hDc := hD.sub (ws' := [(p1, .inr (3, [.ref pb, .int (nI k24), .ref ps])), (pb, .inl (cB, 16384, .inl g24))]) [0, 1] (by decide) rfl
                  have hFc := va_free (wc := [(p1, .inr (3, [.ref pb, .int (nI k24), .ref ps])), (pb, .inl (cB, 16384, .inl g24))]) hD hS hA [0, 1] rfl
                  have hKc := hK.sub (tys' := [(cB, .byte)]) [0] rfl
                  refine w_same (fun hq0 => ?_)
                  refine vx_callv (vx_runV (As := [.int 58]) (rest := []) ⟨hx, hb, hml, hown, hts⟩ (w_put l hl9 dC dI cB p1 pb H (.ref ps) g24 k24 58 hk24) (cwV 1 hts (gt_V (own := R_Printer) (C := R_Printer) (i := 25) (y := y_Printer_put) i_Printer_put w_957 w_959 (gt_sel (y := y_Printer_put) (n := 3) (by decide +kernel)) w_6) rfl rfl rfl (by decide +kernel) ⟨by show 8 + 1 ≤ 13 + 2 * n; omega, by show 8 + (2 + 11) + (110) ≤ 270 + 60 * n; omega⟩) ⟨mx_blind, va_recv hK hP (ci := 3) (q0 := 0) rfl rfl, fun U hU hW => ⟨rfl, ⟨hU, by rw [hU]; exact hPc, va_K.moved hW.alike hKc, hDc.weaken (fun _ _ _ _ => trivial)⟩, hN.warm hW, by rw [hU]; exact ZX.moved' hW.alike (ZX.narrow' (ZX.kept' hZ hS.2.1) hFc)⟩⟩ rfl rfl hl.1 rfl (lv_room (Nat.le_of_ble_eq_true rfl)) d_Printer_members_82 ⟨Nat.le_of_ble_eq_true rfl, Nat.le_of_ble_eq_true rfl⟩) hS (fun q _ h => hFc q h) hFc (fun q _ h => hFc q h) (fun En ce q9 ⟨kx, gx⟩ t9 H1 locs ht hvm hw hB hz1 hk1 hS hce hcv hcl => ?_) (fun ⟨k25, g25⟩ t9 H1 locs ht hvm hw hB hz1 hk1 hS => ?_)
                  · obtain ⟨hEn, hP1, hK1, hD1⟩ := hB
                    rw [ht] at hP1
                    obtain ⟨hP, hD⟩ := va_joinQ (wr := []) (w1 := [(p1, .inr (3, [.ref pb, .int (nI kx), .ref ps])), (pb, .inl (cB, 16384, .inl gx))]) hP hD [0, 1] [] rfl rfl (by decide) (by decide) hk1 hFc hP1 hD1
                    generalize H1 = H at hP hS hce ⊢
                    have hP : va_P (dC, dI) classes ([(p1, .inr (3, [.ref pb, .int (nI kx), .ref ps])), (pb, .inl (cB, 16384, .inl gx))] ++ va_pl L f) H := hP
                    have hD : va_D A ([(p1, .inr (3, [.ref pb, .int (nI kx), .ref ps])), (pb, .inl (cB, 16384, .inl gx))] ++ va_pl L f) := hD
                    exact vx_out (fun x hx => (hex x hx).elim) hlocks hce hcv hcl (fun t9 ht2 ha => ⟨(nI kx, gx), trivial, ⟨hEn, by rw [ht2]; exact hP, va_K.moved ha hK, hD⟩, hS.F ht2⟩) hS.2.2 (Nat.le_of_ble_eq_true rfl) (Nat.le_of_ble_eq_true rfl)
                  · obtain ⟨⟨hP1, hK1, hD1⟩, hz9⟩ := hB
                    rw [ht] at hP1
                    rw [ht] at hz9
                    refine w_tight (hq0.trans hz9) ?_
                    have hq0 := hq0.trans hz9
                    obtain ⟨hP, hD⟩ := va_joinQ (wr := []) (w1 := [(p1, .inr (3, [.ref pb, .int (nI k25), .ref ps])), (pb, .inl (cB, 16384, .inl g25))]) hP hD [0, 1] [] rfl rfl (by decide) (by decide) hk1 hFc hP1 hD1
                    generalize H1 = H at hP hS hq0 ⊢
                    have hP : va_P (dC, dI) classes ([(p1, .inr (3, [.ref pb, .int (nI k25), .ref ps])), (pb, .inl (cB, 16384, .inl g25))] ++ va_pl L f) H := hP
                    have hD : va_D A ([(p1, .inr (3, [.ref pb, .int (nI k25), .ref ps])), (pb, .inl (cB, 16384, .inl g25))] ++ va_pl L f) := hD
                    have hk25 : k25 ≤ 16384 := hw
                    refine lv_aload_n hx hb d_Printer_members_85 rfl (lv_at hl 0 rfl) ?_
                    refine lv_aload_n hx hb d_Printer_members_86 rfl (lv_at hl 1 rfl) ?_
                    refine vq_get (D := (dC, dI)) (ci := 9) (v := .ref b19) (C := R_Value) (T := F_Value) (N := 10) hx hb hts in_Value hown hK hP (hO.inV (isF.v hv9)) ef1 rfl 3 (by decide) (hts _ z_326) (fun _ h9 => h9) rfl d_Printer_members_87 ?_
                    refine lv_iload hx hb d_Printer_members_90 (lv_at hl 4 rfl) ?_
                    obtain ⟨me26, hm26, hf26, hnm26⟩ := hg20 i hi
                    refine vq_aald hx hb hK hP 2 hi20 ef20 rfl (j := i) hi hn20 hm26 d_Printer_members_92 ?_
                    refine lv_iload_n hx hb d_Printer_members_93 rfl (lv_at hl 2 rfl) ?_
                    refine lv_iconst (v := 1) hx hb d_Printer_members_94 (by decide) ?_
                    refine lv_iadd hx hb d_Printer_members_95 ?_
                    refine W.eq (g2 := F0 m 96 ls [.int (nI (d + 1)), .ref me26, .ref p1]) (by rw [show ((nI d) + 1) = (nI (d + 1)) from nI_1 _]) ?_
                    have hPc := hP.part (cx := [(p1, .inr (3, [.ref pb, .int (nI k25), .ref ps])), (pb, .inl (cB, 16384, .inl g25))]) [0, 1] rfl
                    have hDc := hD.part (cx := [(p1, .inr (3, [.ref pb, .int (nI k25), .ref ps])), (pb, .inl (cB, 16384, .inl g25))]) [0, 1] (by decide) rfl
                    have hFc := va_freeP (cx := [(p1, .inr (3, [.ref pb, .int (nI k25), .ref ps])), (pb, .inl (cB, 16384, .inl g25))]) hD hS hA [0, 1] rfl
                    have hKc := hK.sub (tys' := [(cB, .byte), (cI, .int), (cV, .object "QueryBench$Value")]) [0, 1, 2] rfl
                    refine w_same (fun hq0 => ?_)
                    refine vx_callv (vx_runV (As := [.ref me26, .int (nI (d + 1))]) (rest := []) ⟨hx, hb, hml, hown, hts⟩ (HV hd1 H g25 k25 hk25 me26 hf26) (cwV 2 hts (gt_V (own := R_Printer) (C := R_Printer) (i := 29) (y := y_Printer_value) i_Printer_value z_987 z_989 (gt_sel (y := y_Printer_value) (n := 3) (by decide +kernel)) w_6) rfl rfl rfl (by decide +kernel) ⟨by show 14 + 2 * (n - 1) + 1 ≤ 13 + 2 * n; omega, by show 8 + (3 + 11) + (300 + 60 * (n - 1)) ≤ 270 + 60 * n; omega⟩) ⟨ml_blind, va_recv hK hP (ci := 3) (q0 := 0) rfl rfl, fun U hU hW => ⟨rfl, ⟨hU, by rw [hU]; exact hPc, va_K.moved hW.alike hKc, hDc.weaken (fun _ _ _ _ => trivial)⟩, hN.warm hW, by rw [hU]; exact ZX.moved' hW.alike (ZX.narrow' (ZX.kept' hZ hS.2.1) hFc), by rw [hU]; exact CE.call hC hS.2.1 hFc hW, va_AO.moved hW.alike hV⟩⟩ rfl rfl hl.1 rfl (lv_room (Nat.le_of_ble_eq_true rfl)) d_Printer_members_96 ⟨Nat.le_of_ble_eq_true rfl, Nat.le_of_ble_eq_true rfl⟩) hS (fun q _ h => hFc q h) hFc (fun q _ h => hFc q h) (fun En ce q9 ⟨kx, gx⟩ t9 H1 locs ht hvm hw hB hz1 hk1 hS hce hcv hcl => ?_) (fun ⟨k27, g27⟩ t9 H1 locs ht hvm hw hB hz1 hk1 hS => ?_)
                    · obtain ⟨hEn, hP1, hK1, hD1⟩ := hB
                      rw [ht] at hP1
                      obtain ⟨hP, hD⟩ := va_joinP (wr := []) (rx := [(p1, .inr (3, [.ref pb, .int kx, .ref ps])), (pb, .inl (cB, 16384, .inl gx))]) (pl1 := va_pl L f) hP hD [0, 1] [] rfl rfl (by decide) (by decide) hk1 hFc hP1 hD1
                      generalize H1 = H at hP hS hce ⊢
                      have hP : va_P (dC, dI) classes ([(p1, .inr (3, [.ref pb, .int kx, .ref ps])), (pb, .inl (cB, 16384, .inl gx))] ++ va_pl L f) H := hP
                      have hD : va_D A ([(p1, .inr (3, [.ref pb, .int kx, .ref ps])), (pb, .inl (cB, 16384, .inl gx))] ++ va_pl L f) := hD
                      exact vx_out (fun x hx => (hex x hx).elim) hlocks hce hcv hcl (fun t9 ht2 ha => ⟨(kx, gx), trivial, ⟨hEn, by rw [ht2]; exact hP, va_K.moved ha hK, hD⟩, hS.F ht2⟩) hS.2.2 (Nat.le_of_ble_eq_true rfl) (Nat.le_of_ble_eq_true rfl)
                    · obtain ⟨⟨hP1, hK1, hD1⟩, hz9⟩ := hB
                      rw [ht] at hP1
                      rw [ht] at hz9
                      refine w_tight (hq0.trans hz9) ?_
                      have hq0 := hq0.trans hz9
                      obtain ⟨hP, hD⟩ := va_joinP (wr := []) (rx := [(p1, .inr (3, [.ref pb, .int (nI k27), .ref ps])), (pb, .inl (cB, 16384, .inl g27))]) (pl1 := va_pl L f) hP hD [0, 1] [] rfl rfl (by decide) (by decide) hk1 hFc hP1 hD1
                      generalize H1 = H at hP hS hq0 ⊢
                      have hP : va_P (dC, dI) classes ([(p1, .inr (3, [.ref pb, .int (nI k27), .ref ps])), (pb, .inl (cB, 16384, .inl g27))] ++ va_pl L f) H := hP
                      have hD : va_D A ([(p1, .inr (3, [.ref pb, .int (nI k27), .ref ps])), (pb, .inl (cB, 16384, .inl g27))] ++ va_pl L f) := hD
                      have hk27 : k27 ≤ 16384 := hw
                      refine lv_iinc (v := nI (i + 1)) (lv' := [(4, .int (nI (i + 1))), (0, .ref p1), (1, .ref v9), (2, .int (nI d)), (3, .int 1)]) hx hb d_Printer_members_99 hl (k := 4) rfl (nI_1 _) (by decide) rfl (fun ls hl => ?_)
                      refine lv_goto (tgt := 33) hx hb d_Printer_members_102 (by decide) ?_
                      exact ih (i + 1, k27, g27) _ _ _ ⟨show i + 1 ≤ 4096 by omega, hk27⟩ (by show 4096 - (i + 1) < 4096 - i; omega) hP hD hS (lv_sub hl [1, 2, 3, 4, 0] rfl)
          · refine lv_aload_n hx hb d_Printer_members_53 rfl (lv_at hl 0 rfl) ?_
            refine lv_bipush (v := 44) hx hb d_Printer_members_54 (by decide) ?_
            have hPc := hP.sub (ws' := [(p1, .inr (3, [.ref pb, .int (nI k), .ref ps])), (pb, .inl (cB, 16384, .inl g))]) [0, 1] rfl
            have hDc := hD.sub (ws' := [(p1, .inr (3, [.ref pb, .int (nI k), .ref ps])), (pb, .inl (cB, 16384, .inl g))]) [0, 1] (by decide) rfl
            have hFc := va_free (wc := [(p1, .inr (3, [.ref pb, .int (nI k), .ref ps])), (pb, .inl (cB, 16384, .inl g))]) hD hS hA [0, 1] rfl
            have hKc := hK.sub (tys' := [(cB, .byte)]) [0] rfl
            refine w_same (fun hq0 => ?_)
            refine vx_callv (vx_runV (As := [.int 44]) (rest := []) ⟨hx, hb, hml, hown, hts⟩ (w_put l hl9 dC dI cB p1 pb H (.ref ps) g k 44 hk) (cwV 1 hts (gt_V (own := R_Printer) (C := R_Printer) (i := 25) (y := y_Printer_put) i_Printer_put w_957 w_959 (gt_sel (y := y_Printer_put) (n := 3) (by decide +kernel)) w_6) rfl rfl rfl (by decide +kernel) ⟨by show 8 + 1 ≤ 13 + 2 * n; omega, by show 8 + (2 + 11) + (110) ≤ 270 + 60 * n; omega⟩) ⟨mx_blind, va_recv hK hP (ci := 3) (q0 := 0) rfl rfl, fun U hU hW => ⟨rfl, ⟨hU, by rw [hU]; exact hPc, va_K.moved hW.alike hKc, hDc.weaken (fun _ _ _ _ => trivial)⟩, hN.warm hW, by rw [hU]; exact ZX.moved' hW.alike (ZX.narrow' (ZX.kept' hZ hS.2.1) hFc)⟩⟩ rfl rfl hl.1 rfl (lv_room (Nat.le_of_ble_eq_true rfl)) d_Printer_members_56 ⟨Nat.le_of_ble_eq_true rfl, Nat.le_of_ble_eq_true rfl⟩) hS (fun q _ h => hFc q h) hFc (fun q _ h => hFc q h) (fun En ce q9 ⟨kx, gx⟩ t9 H1 locs ht hvm hw hB hz1 hk1 hS hce hcv hcl => ?_) (fun ⟨k28, g28⟩ t9 H1 locs ht hvm hw hB hz1 hk1 hS => ?_)
            · obtain ⟨hEn, hP1, hK1, hD1⟩ := hB
              rw [ht] at hP1
              obtain ⟨hP, hD⟩ := va_joinQ (wr := []) (w1 := [(p1, .inr (3, [.ref pb, .int (nI kx), .ref ps])), (pb, .inl (cB, 16384, .inl gx))]) hP hD [0, 1] [] rfl rfl (by decide) (by decide) hk1 hFc hP1 hD1
              generalize H1 = H at hP hS hce ⊢
              have hP : va_P (dC, dI) classes ([(p1, .inr (3, [.ref pb, .int (nI kx), .ref ps])), (pb, .inl (cB, 16384, .inl gx))] ++ va_pl L f) H := hP
              have hD : va_D A ([(p1, .inr (3, [.ref pb, .int (nI kx), .ref ps])), (pb, .inl (cB, 16384, .inl gx))] ++ va_pl L f) := hD
              exact vx_out (fun x hx => (hex x hx).elim) hlocks hce hcv hcl (fun t9 ht2 ha => ⟨(nI kx, gx), trivial, ⟨hEn, by rw [ht2]; exact hP, va_K.moved ha hK, hD⟩, hS.F ht2⟩) hS.2.2 (Nat.le_of_ble_eq_true rfl) (Nat.le_of_ble_eq_true rfl)
            · obtain ⟨⟨hP1, hK1, hD1⟩, hz9⟩ := hB
              rw [ht] at hP1
              rw [ht] at hz9
              refine w_tight (hq0.trans hz9) ?_
              have hq0 := hq0.trans hz9
              obtain ⟨hP, hD⟩ := va_joinQ (wr := []) (w1 := [(p1, .inr (3, [.ref pb, .int (nI k28), .ref ps])), (pb, .inl (cB, 16384, .inl g28))]) hP hD [0, 1] [] rfl rfl (by decide) (by decide) hk1 hFc hP1 hD1
              generalize H1 = H at hP hS hq0 ⊢
              have hP : va_P (dC, dI) classes ([(p1, .inr (3, [.ref pb, .int (nI k28), .ref ps])), (pb, .inl (cB, 16384, .inl g28))] ++ va_pl L f) H := hP
              have hD : va_D A ([(p1, .inr (3, [.ref pb, .int (nI k28), .ref ps])), (pb, .inl (cB, 16384, .inl g28))] ++ va_pl L f) := hD
              have hk28 : k28 ≤ 16384 := hw
              refine lv_iload_n hx hb d_Printer_members_59 rfl (lv_at hl 3 rfl) ?_
              refine lv_if_eq (tgt := 85) hx hb d_Printer_members_60 (by decide) (fun h => absurd h (by decide)) (fun _ => ?_)
              refine lv_aload_n hx hb d_Printer_members_63 rfl (lv_at hl 0 rfl) ?_
              refine lv_aload_n hx hb d_Printer_members_64 rfl (lv_at hl 1 rfl) ?_
              rcases me1 with _ | b29
              · exact absurd (PO.mem0 ef1) (by omega)
              · refine vq_get (D := (dC, dI)) (ci := 9) (v := .ref b29) (C := R_Value) (T := F_Value) (N := 10) hx hb hts in_Value hown hK hP (hO.inV (isF.v hv9)) ef1 rfl 3 (by decide) (hts _ z_326) (fun _ h9 => h9) rfl d_Printer_members_65 ?_
                refine lv_iload hx hb d_Printer_members_68 (lv_at hl 4 rfl) ?_
                obtain ⟨g30, hi30, ef30, hg30⟩ := hO.mem1 ef1 hv1 (isF.n1 hv9)
                have hn30 := hO.szle ef1 hv1
                obtain ⟨me31, hm31, hf31, hnm31⟩ := hg30 i hi
                refine vq_aald hx hb hK hP 2 hi30 ef30 rfl (j := i) hi hn30 hm31 d_Printer_members_70 ?_
                obtain ⟨kd32, nu32, tx32, me32, pa32, na32, ix32, nm32, no32, sp32, ef32, hv32⟩ := hO.val ((isF.v hf31))
                rcases na32 with _ | b33
                · exact absurd rfl (hv32.2.2.2.2.2.2.2 (hnm31 c6)).1
                · refine vq_get (D := (dC, dI)) (ci := 9) (v := .ref b33) (C := R_Value) (T := F_Value) (N := 10) hx hb hts in_Value hown hK hP (hO.inV (isF.v hf31)) ef32 rfl 5 (by decide) (hts _ z_332) (fun _ h9 => h9) rfl d_Printer_members_71 ?_
                  refine lv_bipush (v := 34) hx hb d_Printer_members_74 (by decide) ?_
                  have hPc := hP.part (cx := [(p1, .inr (3, [.ref pb, .int (nI k28), .ref ps])), (pb, .inl (cB, 16384, .inl g28))]) [0, 1] rfl
                  have hDc := hD.part (cx := [(p1, .inr (3, [.ref pb, .int (nI k28), .ref ps])), (pb, .inl (cB, 16384, .inl g28))]) [0, 1] (by decide) rfl
                  have hFc := va_freeP (cx := [(p1, .inr (3, [.ref pb, .int (nI k28), .ref ps])), (pb, .inl (cB, 16384, .inl g28))]) hD hS hA [0, 1] rfl
                  have hKc := hK.sub (tys' := [(cB, .byte), (cI, .int), (cV, .object "QueryBench$Value")]) [0, 1, 2] rfl
                  refine w_same (fun hq0 => ?_)
                  refine vx_callv (vx_runV (As := [.ref b33, .int 34]) (rest := []) ⟨hx, hb, hml, hown, hts⟩ (c_Printer_text l hl9 K dC dI H cI cV E lv L f hO cB p1 pb ps g28 k28 hk28 b33 (hv32.2.2.2.1 b33 rfl) 34) (cwV 2 hts (gt_V (own := R_Printer) (C := R_Printer) (i := 64) (y := y_Printer_text) i_Printer_text z_968 z_970 (gt_sel (y := y_Printer_text) (n := 3) (by decide +kernel)) w_6) rfl rfl rfl (by decide +kernel) ⟨by show 11 + 1 ≤ 13 + 2 * n; omega, by show 8 + (4 + 11) + (230) ≤ 270 + 60 * n; omega⟩) ⟨ml_blind, va_recv hK hP (ci := 3) (q0 := 0) rfl rfl, fun U hU hW => ⟨rfl, ⟨hU, by rw [hU]; exact hPc, va_K.moved hW.alike hKc, hDc.weaken (fun _ _ _ _ => trivial)⟩, hN.warm hW, by rw [hU]; exact ZX.moved' hW.alike (ZX.narrow' (ZX.kept' hZ hS.2.1) hFc), by rw [hU]; exact CE.call hC hS.2.1 hFc hW, va_AO.moved hW.alike hV⟩⟩ rfl rfl hl.1 rfl (lv_room (Nat.le_of_ble_eq_true rfl)) d_Printer_members_76 ⟨Nat.le_of_ble_eq_true rfl, Nat.le_of_ble_eq_true rfl⟩) hS (fun q _ h => hFc q h) hFc (fun q _ h => hFc q h) (fun En ce q9 ⟨kx, gx⟩ t9 H1 locs ht hvm hw hB hz1 hk1 hS hce hcv hcl => ?_) (fun ⟨k34, g34⟩ t9 H1 locs ht hvm hw hB hz1 hk1 hS => ?_)
                  · obtain ⟨hEn, hP1, hK1, hD1⟩ := hB
                    rw [ht] at hP1
                    obtain ⟨hP, hD⟩ := va_joinP (wr := []) (rx := [(p1, .inr (3, [.ref pb, .int kx, .ref ps])), (pb, .inl (cB, 16384, .inl gx))]) (pl1 := va_pl L f) hP hD [0, 1] [] rfl rfl (by decide) (by decide) hk1 hFc hP1 hD1
                    generalize H1 = H at hP hS hce ⊢
                    have hP : va_P (dC, dI) classes ([(p1, .inr (3, [.ref pb, .int kx, .ref ps])), (pb, .inl (cB, 16384, .inl gx))] ++ va_pl L f) H := hP
                    have hD : va_D A ([(p1, .inr (3, [.ref pb, .int kx, .ref ps])), (pb, .inl (cB, 16384, .inl gx))] ++ va_pl L f) := hD
                    exact vx_out (fun x hx => (hex x hx).elim) hlocks hce hcv hcl (fun t9 ht2 ha => ⟨(kx, gx), trivial, ⟨hEn, by rw [ht2]; exact hP, va_K.moved ha hK, hD⟩, hS.F ht2⟩) hS.2.2 (Nat.le_of_ble_eq_true rfl) (Nat.le_of_ble_eq_true rfl)
                  · obtain ⟨⟨hP1, hK1, hD1⟩, hz9⟩ := hB
                    rw [ht] at hP1
                    rw [ht] at hz9
                    refine w_tight (hq0.trans hz9) ?_
                    have hq0 := hq0.trans hz9
                    obtain ⟨hP, hD⟩ := va_joinP (wr := []) (rx := [(p1, .inr (3, [.ref pb, .int (nI k34), .ref ps])), (pb, .inl (cB, 16384, .inl g34))]) (pl1 := va_pl L f) hP hD [0, 1] [] rfl rfl (by decide) (by decide) hk1 hFc hP1 hD1
                    generalize H1 = H at hP hS hq0 ⊢
                    have hP : va_P (dC, dI) classes ([(p1, .inr (3, [.ref pb, .int (nI k34), .ref ps])), (pb, .inl (cB, 16384, .inl g34))] ++ va_pl L f) H := hP
                    have hD : va_D A ([(p1, .inr (3, [.ref pb, .int (nI k34), .ref ps])), (pb, .inl (cB, 16384, .inl g34))] ++ va_pl L f) := hD
                    have hk34 : k34 ≤ 16384 := hw
                    refine lv_aload_n hx hb d_Printer_members_79 rfl (lv_at hl 0 rfl) ?_
                    refine lv_bipush (v := 58) hx hb d_Printer_members_80 (by decide) ?_
                    have hPc := hP.sub (ws' := [(p1, .inr (3, [.ref pb, .int (nI k34), .ref ps])), (pb, .inl (cB, 16384, .inl g34))]) [0, 1] rfl
                    have hDc := hD.sub (ws' := [(p1, .inr (3, [.ref pb, .int (nI k34), .ref ps])), (pb, .inl (cB, 16384, .inl g34))]) [0, 1] (by decide) rfl
                    have hFc := va_free (wc := [(p1, .inr (3, [.ref pb, .int (nI k34), .ref ps])), (pb, .inl (cB, 16384, .inl g34))]) hD hS hA [0, 1] rfl
                    have hKc := hK.sub (tys' := [(cB, .byte)]) [0] rfl
                    refine w_same (fun hq0 => ?_)
                    refine vx_callv (vx_runV (As := [.int 58]) (rest := []) ⟨hx, hb, hml, hown, hts⟩ (w_put l hl9 dC dI cB p1 pb H (.ref ps) g34 k34 58 hk34) (cwV 1 hts (gt_V (own := R_Printer) (C := R_Printer) (i := 25) (y := y_Printer_put) i_Printer_put w_957 w_959 (gt_sel (y := y_Printer_put) (n := 3) (by decide +kernel)) w_6) rfl rfl rfl (by decide +kernel) ⟨by show 8 + 1 ≤ 13 + 2 * n; omega, by show 8 + (2 + 11) + (110) ≤ 270 + 60 * n; omega⟩) ⟨mx_blind, va_recv hK hP (ci := 3) (q0 := 0) rfl rfl, fun U hU hW => ⟨rfl, ⟨hU, by rw [hU]; exact hPc, va_K.moved hW.alike hKc, hDc.weaken (fun _ _ _ _ => trivial)⟩, hN.warm hW, by rw [hU]; exact ZX.moved' hW.alike (ZX.narrow' (ZX.kept' hZ hS.2.1) hFc)⟩⟩ rfl rfl hl.1 rfl (lv_room (Nat.le_of_ble_eq_true rfl)) d_Printer_members_82 ⟨Nat.le_of_ble_eq_true rfl, Nat.le_of_ble_eq_true rfl⟩) hS (fun q _ h => hFc q h) hFc (fun q _ h => hFc q h) (fun En ce q9 ⟨kx, gx⟩ t9 H1 locs ht hvm hw hB hz1 hk1 hS hce hcv hcl => ?_) (fun ⟨k35, g35⟩ t9 H1 locs ht hvm hw hB hz1 hk1 hS => ?_)
                    · obtain ⟨hEn, hP1, hK1, hD1⟩ := hB
                      rw [ht] at hP1
                      obtain ⟨hP, hD⟩ := va_joinQ (wr := []) (w1 := [(p1, .inr (3, [.ref pb, .int (nI kx), .ref ps])), (pb, .inl (cB, 16384, .inl gx))]) hP hD [0, 1] [] rfl rfl (by decide) (by decide) hk1 hFc hP1 hD1
                      generalize H1 = H at hP hS hce ⊢
                      have hP : va_P (dC, dI) classes ([(p1, .inr (3, [.ref pb, .int (nI kx), .ref ps])), (pb, .inl (cB, 16384, .inl gx))] ++ va_pl L f) H := hP
                      have hD : va_D A ([(p1, .inr (3, [.ref pb, .int (nI kx), .ref ps])), (pb, .inl (cB, 16384, .inl gx))] ++ va_pl L f) := hD
                      exact vx_out (fun x hx => (hex x hx).elim) hlocks hce hcv hcl (fun t9 ht2 ha => ⟨(nI kx, gx), trivial, ⟨hEn, by rw [ht2]; exact hP, va_K.moved ha hK, hD⟩, hS.F ht2⟩) hS.2.2 (Nat.le_of_ble_eq_true rfl) (Nat.le_of_ble_eq_true rfl)
                    · obtain ⟨⟨hP1, hK1, hD1⟩, hz9⟩ := hB
                      rw [ht] at hP1
                      rw [ht] at hz9
                      refine w_tight (hq0.trans hz9) ?_
                      have hq0 := hq0.trans hz9
                      obtain ⟨hP, hD⟩ := va_joinQ (wr := []) (w1 := [(p1, .inr (3, [.ref pb, .int (nI k35), .ref ps])), (pb, .inl (cB, 16384, .inl g35))]) hP hD [0, 1] [] rfl rfl (by decide) (by decide) hk1 hFc hP1 hD1
                      generalize H1 = H at hP hS hq0 ⊢
                      have hP : va_P (dC, dI) classes ([(p1, .inr (3, [.ref pb, .int (nI k35), .ref ps])), (pb, .inl (cB, 16384, .inl g35))] ++ va_pl L f) H := hP
                      have hD : va_D A ([(p1, .inr (3, [.ref pb, .int (nI k35), .ref ps])), (pb, .inl (cB, 16384, .inl g35))] ++ va_pl L f) := hD
                      have hk35 : k35 ≤ 16384 := hw
                      refine lv_aload_n hx hb d_Printer_members_85 rfl (lv_at hl 0 rfl) ?_
                      refine lv_aload_n hx hb d_Printer_members_86 rfl (lv_at hl 1 rfl) ?_
                      refine vq_get (D := (dC, dI)) (ci := 9) (v := .ref b29) (C := R_Value) (T := F_Value) (N := 10) hx hb hts in_Value hown hK hP (hO.inV (isF.v hv9)) ef1 rfl 3 (by decide) (hts _ z_326) (fun _ h9 => h9) rfl d_Printer_members_87 ?_
                      refine lv_iload hx hb d_Printer_members_90 (lv_at hl 4 rfl) ?_
                      obtain ⟨me36, hm36, hf36, hnm36⟩ := hg30 i hi
                      refine vq_aald hx hb hK hP 2 hi30 ef30 rfl (j := i) hi hn30 hm36 d_Printer_members_92 ?_
                      refine lv_iload_n hx hb d_Printer_members_93 rfl (lv_at hl 2 rfl) ?_
                      refine lv_iconst (v := 1) hx hb d_Printer_members_94 (by decide) ?_
                      refine lv_iadd hx hb d_Printer_members_95 ?_
                      refine W.eq (g2 := F0 m 96 ls [.int (nI (d + 1)), .ref me36, .ref p1]) (by rw [show ((nI d) + 1) = (nI (d + 1)) from nI_1 _]) ?_
                      have hPc := hP.part (cx := [(p1, .inr (3, [.ref pb, .int (nI k35), .ref ps])), (pb, .inl (cB, 16384, .inl g35))]) [0, 1] rfl
                      have hDc := hD.part (cx := [(p1, .inr (3, [.ref pb, .int (nI k35), .ref ps])), (pb, .inl (cB, 16384, .inl g35))]) [0, 1] (by decide) rfl
                      have hFc := va_freeP (cx := [(p1, .inr (3, [.ref pb, .int (nI k35), .ref ps])), (pb, .inl (cB, 16384, .inl g35))]) hD hS hA [0, 1] rfl
                      have hKc := hK.sub (tys' := [(cB, .byte), (cI, .int), (cV, .object "QueryBench$Value")]) [0, 1, 2] rfl
                      refine w_same (fun hq0 => ?_)
                      refine vx_callv (vx_runV (As := [.ref me36, .int (nI (d + 1))]) (rest := []) ⟨hx, hb, hml, hown, hts⟩ (HV hd1 H g35 k35 hk35 me36 hf36) (cwV 2 hts (gt_V (own := R_Printer) (C := R_Printer) (i := 29) (y := y_Printer_value) i_Printer_value z_987 z_989 (gt_sel (y := y_Printer_value) (n := 3) (by decide +kernel)) w_6) rfl rfl rfl (by decide +kernel) ⟨by show 14 + 2 * (n - 1) + 1 ≤ 13 + 2 * n; omega, by show 8 + (3 + 11) + (300 + 60 * (n - 1)) ≤ 270 + 60 * n; omega⟩) ⟨ml_blind, va_recv hK hP (ci := 3) (q0 := 0) rfl rfl, fun U hU hW => ⟨rfl, ⟨hU, by rw [hU]; exact hPc, va_K.moved hW.alike hKc, hDc.weaken (fun _ _ _ _ => trivial)⟩, hN.warm hW, by rw [hU]; exact ZX.moved' hW.alike (ZX.narrow' (ZX.kept' hZ hS.2.1) hFc), by rw [hU]; exact CE.call hC hS.2.1 hFc hW, va_AO.moved hW.alike hV⟩⟩ rfl rfl hl.1 rfl (lv_room (Nat.le_of_ble_eq_true rfl)) d_Printer_members_96 ⟨Nat.le_of_ble_eq_true rfl, Nat.le_of_ble_eq_true rfl⟩) hS (fun q _ h => hFc q h) hFc (fun q _ h => hFc q h) (fun En ce q9 ⟨kx, gx⟩ t9 H1 locs ht hvm hw hB hz1 hk1 hS hce hcv hcl => ?_) (fun ⟨k37, g37⟩ t9 H1 locs ht hvm hw hB hz1 hk1 hS => ?_)
                      · obtain ⟨hEn, hP1, hK1, hD1⟩ := hB
                        rw [ht] at hP1
                        obtain ⟨hP, hD⟩ := va_joinP (wr := []) (rx := [(p1, .inr (3, [.ref pb, .int kx, .ref ps])), (pb, .inl (cB, 16384, .inl gx))]) (pl1 := va_pl L f) hP hD [0, 1] [] rfl rfl (by decide) (by decide) hk1 hFc hP1 hD1
                        generalize H1 = H at hP hS hce ⊢
                        have hP : va_P (dC, dI) classes ([(p1, .inr (3, [.ref pb, .int kx, .ref ps])), (pb, .inl (cB, 16384, .inl gx))] ++ va_pl L f) H := hP
                        have hD : va_D A ([(p1, .inr (3, [.ref pb, .int kx, .ref ps])), (pb, .inl (cB, 16384, .inl gx))] ++ va_pl L f) := hD
                        exact vx_out (fun x hx => (hex x hx).elim) hlocks hce hcv hcl (fun t9 ht2 ha => ⟨(kx, gx), trivial, ⟨hEn, by rw [ht2]; exact hP, va_K.moved ha hK, hD⟩, hS.F ht2⟩) hS.2.2 (Nat.le_of_ble_eq_true rfl) (Nat.le_of_ble_eq_true rfl)
                      · obtain ⟨⟨hP1, hK1, hD1⟩, hz9⟩ := hB
                        rw [ht] at hP1
                        rw [ht] at hz9
                        refine w_tight (hq0.trans hz9) ?_
                        have hq0 := hq0.trans hz9
                        obtain ⟨hP, hD⟩ := va_joinP (wr := []) (rx := [(p1, .inr (3, [.ref pb, .int (nI k37), .ref ps])), (pb, .inl (cB, 16384, .inl g37))]) (pl1 := va_pl L f) hP hD [0, 1] [] rfl rfl (by decide) (by decide) hk1 hFc hP1 hD1
                        generalize H1 = H at hP hS hq0 ⊢
                        have hP : va_P (dC, dI) classes ([(p1, .inr (3, [.ref pb, .int (nI k37), .ref ps])), (pb, .inl (cB, 16384, .inl g37))] ++ va_pl L f) H := hP
                        have hD : va_D A ([(p1, .inr (3, [.ref pb, .int (nI k37), .ref ps])), (pb, .inl (cB, 16384, .inl g37))] ++ va_pl L f) := hD
                        have hk37 : k37 ≤ 16384 := hw
                        refine lv_iinc (v := nI (i + 1)) (lv' := [(4, .int (nI (i + 1))), (0, .ref p1), (1, .ref v9), (2, .int (nI d)), (3, .int 1)]) hx hb d_Printer_members_99 hl (k := 4) rfl (nI_1 _) (by decide) rfl (fun ls hl => ?_)
                        refine lv_goto (tgt := 33) hx hb d_Printer_members_102 (by decide) ?_
                        exact ih (i + 1, k37, g37) _ _ _ ⟨show i + 1 ≤ 4096 by omega, hk37⟩ (by show 4096 - (i + 1) < 4096 - i; omega) hP hD hS (lv_sub hl [1, 2, 3, 4, 0] rfl)
set_option maxHeartbeats 4000000 in
set_option maxRecDepth 100000 in
theorem c_PV (l : Launch) (hl9 : l.stackTraces = false) (K : Nat → Nat × Nat) (dC : Nat → ClassId) (dI : Nat → Nat → Nat) (cI cV : ClassId) (E lv : Nat → Nat) (L : List Nat) (f : Nat → va_E) (hO : PO cI cV E lv L f) (cB : ClassId) (p1 pb ps : Nat) (n d : Nat) (HM : PMC l K dC dI cI cV E L f cB p1 pb ps n d) : PVC l K dC dI cI cV E L f cB p1 pb ps n d := by
  intro sz g k hk v9 hv9
  refine vx_ofW (cc := b_Printer_value) (maxL := 3) (ret := none) (by decide) rfl ?_
  intro p e s m args below meth c s₁ B hml hex hv
  obtain ⟨rfl, ⟨hsz, hP, hK, hD0⟩, hN, hZ, hC, hV⟩ := hv
  have hx := B.exec
  have hb := B.bytes
  have hr := B.returns
  have hts0 := atoms_spec (ws := k_Printer_value :: gtbl) B.pre
  have hts := fun w h => hts0 w (List.mem_cons_of_mem _ h)
  have hown : s.vm.findClass R_Printer = some m.cls := findClass_of_methodNamed B.named
  have hlocks := B.notSynchronized
  subst hsz
  have hD := hD0.self (sz := s.heap.size)
  generalize hAe : va_A ([(p1, .inr (3, [.ref pb, .int (nI k), .ref ps])), (pb, .inl (cB, 16384, .inl g))] ++ va_pl L f) s.heap.size = A at hD hZ hC ⊢
  have hA : ∀ q : Nat, s.heap.size ≤ q → A q := fun q h => by rw [← hAe]; exact Or.inr h
  have hS : va_S A s.heap s.heap [] := va_S.rf
  have hP : va_P (dC, dI) classes ([(p1, .inr (3, [.ref pb, .int (nI k), .ref ps])), (pb, .inl (cB, 16384, .inl g))] ++ va_pl L f) s.heap := hP
  have hl := lv_entry ([.ref p1, .ref v9, .int (nI d)]) (n := 3) (Nat.le_of_ble_eq_true rfl)
  rw [lg_entry_eq]
  generalize (lg_sl ([.ref p1, .ref v9, .int (nI d)]) ++ List.replicate (3 - (lg_sl ([.ref p1, .ref v9, .int (nI d)])).length) Slot.unset).toArray = ls at hl ⊢
  have hl : lv_has ls 3 [(0, .ref p1), (1, .ref v9), (2, .int (nI d))] := hl
  refine lv_aload_n hx hb d_Printer_value_0 rfl (lv_at hl 1 rfl) ?_
  obtain ⟨kd1, nu1, tx1, me1, pa1, na1, ix1, nm1, no1, sp1, ef1, hv1⟩ := hO.val ((isF.v hv9))
  refine vq_get (D := (dC, dI)) (ci := 9) (v := .int kd1) (C := R_Value) (T := F_Value) (N := 10) hx hb hts in_Value hown hK hP (hO.inV (isF.v hv9)) ef1 rfl 0 (by decide) (hts _ z_314) (fun _ h9 => h9) rfl d_Printer_value_1 ?_
  by_cases hs4_0 : kd1 = 0
  · refine lv_tableIn (tgt := 40) (off := 36) hx hb d_Printer_value_4 (by rw [hs4_0]; decide) (by rw [hs4_0]; decide) (by rw [hs4_0]; rfl) (by decide) ?_
    refine lv_aload_n hx hb d_Printer_value_40 rfl (lv_at hl 0 rfl) ?_
    refine va_ldcS hx hb hown (hC 0 _ rfl).2 d_Printer_value_41 ?_
    have hPc := hP.sub (ws' := [(p1, .inr (3, [.ref pb, .int (nI k), .ref ps])), (pb, .inl (cB, 16384, .inl g))]) [0, 1] rfl
    have hDc := hD.sub (ws' := [(p1, .inr (3, [.ref pb, .int (nI k), .ref ps])), (pb, .inl (cB, 16384, .inl g))]) [0, 1] (by decide) rfl
    have hFc := va_free (wc := [(p1, .inr (3, [.ref pb, .int (nI k), .ref ps])), (pb, .inl (cB, 16384, .inl g))]) hD hS hA [0, 1] rfl
    have hKc := hK.sub (tys' := [(cB, .byte)]) [0] rfl
    refine w_same (fun hq0 => ?_)
    refine vx_callv (vx_runV (As := [.ref (K 0).1]) (rest := []) ⟨hx, hb, hml, hown, hts⟩ (w_putLetters l hl9 dC dI cB p1 pb s.heap (.ref ps) g k (K 0).1 (K 0).2 4 (ctx 0) hk (by decide)) (cwV 1 hts (gt_V (own := R_Printer) (C := R_Printer) (i := 73) (y := y_Printer_putLetters) i_Printer_putLetters z_980 z_982 (gt_sel (y := y_Printer_putLetters) (n := 3) (by decide +kernel)) w_6) rfl rfl rfl (by decide +kernel) ⟨by show 9 + 1 ≤ 14 + 2 * n; omega, by show 8 + (3 + 11) + (131) ≤ 300 + 60 * n; omega⟩) ⟨mt_blind, va_recv hK hP (ci := 3) (q0 := 0) rfl rfl, fun U hU hW => ⟨rfl, ⟨hU, by rw [hU]; exact hPc, va_K.moved hW.alike hKc, hDc.weaken (fun _ _ _ _ => trivial)⟩, hN.warm hW, by rw [hU]; exact ZX.moved' hW.alike (ZX.narrow' (ZX.kept' hZ hS.2.1) hFc), by rw [hU]; exact SX.moved' hW.alike (SX.narrow' (SX.kept' (hC 0 _ rfl).1 hS.2.1) hFc)⟩⟩ rfl rfl hl.1 rfl (lv_room (Nat.le_of_ble_eq_true rfl)) d_Printer_value_43 ⟨Nat.le_of_ble_eq_true rfl, Nat.le_of_ble_eq_true rfl⟩) hS (fun q _ h => hFc q h) hFc (fun q _ h => hFc q h) (fun En ce q9 ⟨kx, gx⟩ t9 H1 locs ht hvm hw hB hz1 hk1 hS hce hcv hcl => ?_) (fun ⟨k2, g2⟩ t9 H1 locs ht hvm hw hB hz1 hk1 hS => ?_)
    · obtain ⟨hEn, hP1, hK1, hD1⟩ := hB
      rw [ht] at hP1
      obtain ⟨hP, hD⟩ := va_joinQ (wr := []) (w1 := [(p1, .inr (3, [.ref pb, .int (nI kx), .ref ps])), (pb, .inl (cB, 16384, .inl gx))]) hP hD [0, 1] [] rfl rfl (by decide) (by decide) hk1 hFc hP1 hD1
      generalize H1 = H at hP hS hce ⊢
      have hP : va_P (dC, dI) classes ([(p1, .inr (3, [.ref pb, .int (nI kx), .ref ps])), (pb, .inl (cB, 16384, .inl gx))] ++ va_pl L f) H := hP
      have hD : va_D A ([(p1, .inr (3, [.ref pb, .int (nI kx), .ref ps])), (pb, .inl (cB, 16384, .inl gx))] ++ va_pl L f) := hD
      exact vx_out (fun x hx => (hex x hx).elim) hlocks hce hcv hcl (fun t9 ht2 ha => ⟨(nI kx, gx), trivial, ⟨hEn, by rw [ht2]; exact hP, va_K.moved ha hK, hD⟩, hS.F ht2⟩) hS.2.2 (Nat.le_of_ble_eq_true rfl) (Nat.le_of_ble_eq_true rfl)
    · obtain ⟨⟨hP1, hK1, hD1⟩, hz9⟩ := hB
      rw [ht] at hP1
      rw [ht] at hz9
      refine w_tight (hq0.trans hz9) ?_
      have hq0 := hq0.trans hz9
      obtain ⟨hP, hD⟩ := va_joinQ (wr := []) (w1 := [(p1, .inr (3, [.ref pb, .int (nI k2), .ref ps])), (pb, .inl (cB, 16384, .inl g2))]) hP hD [0, 1] [] rfl rfl (by decide) (by decide) hk1 hFc hP1 hD1
      generalize H1 = H at hP hS hq0 ⊢
      have hP : va_P (dC, dI) classes ([(p1, .inr (3, [.ref pb, .int (nI k2), .ref ps])), (pb, .inl (cB, 16384, .inl g2))] ++ va_pl L f) H := hP
      have hD : va_D A ([(p1, .inr (3, [.ref pb, .int (nI k2), .ref ps])), (pb, .inl (cB, 16384, .inl g2))] ++ va_pl L f) := hD
      have hk2 : k2 ≤ 16384 := hw
      refine lv_goto (tgt := 97) hx hb d_Printer_value_46 (by decide) ?_
      refine w_same (fun hq => ?_)
      refine W.widen (k := 1) (n := 6) (Nat.le_of_ble_eq_true rfl) (Nat.le_of_ble_eq_true rfl) ?_
      refine vx_ret ?_
      exact W.vret hx hb hr (fun t9 ht hW => ⟨⟨(k2, g2), rfl, hk2, ⟨by rw [ht]; exact hP, va_K.moved hW.alike hK, hD⟩, by rw [ht]; exact hq⟩, hS.F ht⟩) hS.2.2 d_Printer_value_97
  · by_cases hs4_1 : kd1 = 1
    · refine lv_tableIn (tgt := 49) (off := 45) hx hb d_Printer_value_4 (by rw [hs4_1]; decide) (by rw [hs4_1]; decide) (by rw [hs4_1]; rfl) (by decide) ?_
      refine lv_aload_n hx hb d_Printer_value_49 rfl (lv_at hl 0 rfl) ?_
      refine va_ldcS hx hb hown (hC 1 _ rfl).2 d_Printer_value_50 ?_
      have hPc := hP.sub (ws' := [(p1, .inr (3, [.ref pb, .int (nI k), .ref ps])), (pb, .inl (cB, 16384, .inl g))]) [0, 1] rfl
      have hDc := hD.sub (ws' := [(p1, .inr (3, [.ref pb, .int (nI k), .ref ps])), (pb, .inl (cB, 16384, .inl g))]) [0, 1] (by decide) rfl
      have hFc := va_free (wc := [(p1, .inr (3, [.ref pb, .int (nI k), .ref ps])), (pb, .inl (cB, 16384, .inl g))]) hD hS hA [0, 1] rfl
      have hKc := hK.sub (tys' := [(cB, .byte)]) [0] rfl
      refine w_same (fun hq0 => ?_)
      refine vx_callv (vx_runV (As := [.ref (K 1).1]) (rest := []) ⟨hx, hb, hml, hown, hts⟩ (w_putLetters l hl9 dC dI cB p1 pb s.heap (.ref ps) g k (K 1).1 (K 1).2 5 (ctx 1) hk (by decide)) (cwV 1 hts (gt_V (own := R_Printer) (C := R_Printer) (i := 73) (y := y_Printer_putLetters) i_Printer_putLetters z_980 z_982 (gt_sel (y := y_Printer_putLetters) (n := 3) (by decide +kernel)) w_6) rfl rfl rfl (by decide +kernel) ⟨by show 9 + 1 ≤ 14 + 2 * n; omega, by show 8 + (3 + 11) + (131) ≤ 300 + 60 * n; omega⟩) ⟨mt_blind, va_recv hK hP (ci := 3) (q0 := 0) rfl rfl, fun U hU hW => ⟨rfl, ⟨hU, by rw [hU]; exact hPc, va_K.moved hW.alike hKc, hDc.weaken (fun _ _ _ _ => trivial)⟩, hN.warm hW, by rw [hU]; exact ZX.moved' hW.alike (ZX.narrow' (ZX.kept' hZ hS.2.1) hFc), by rw [hU]; exact SX.moved' hW.alike (SX.narrow' (SX.kept' (hC 1 _ rfl).1 hS.2.1) hFc)⟩⟩ rfl rfl hl.1 rfl (lv_room (Nat.le_of_ble_eq_true rfl)) d_Printer_value_52 ⟨Nat.le_of_ble_eq_true rfl, Nat.le_of_ble_eq_true rfl⟩) hS (fun q _ h => hFc q h) hFc (fun q _ h => hFc q h) (fun En ce q9 ⟨kx, gx⟩ t9 H1 locs ht hvm hw hB hz1 hk1 hS hce hcv hcl => ?_) (fun ⟨k3, g3⟩ t9 H1 locs ht hvm hw hB hz1 hk1 hS => ?_)
      · obtain ⟨hEn, hP1, hK1, hD1⟩ := hB
        rw [ht] at hP1
        obtain ⟨hP, hD⟩ := va_joinQ (wr := []) (w1 := [(p1, .inr (3, [.ref pb, .int (nI kx), .ref ps])), (pb, .inl (cB, 16384, .inl gx))]) hP hD [0, 1] [] rfl rfl (by decide) (by decide) hk1 hFc hP1 hD1
        generalize H1 = H at hP hS hce ⊢
        have hP : va_P (dC, dI) classes ([(p1, .inr (3, [.ref pb, .int (nI kx), .ref ps])), (pb, .inl (cB, 16384, .inl gx))] ++ va_pl L f) H := hP
        have hD : va_D A ([(p1, .inr (3, [.ref pb, .int (nI kx), .ref ps])), (pb, .inl (cB, 16384, .inl gx))] ++ va_pl L f) := hD
        exact vx_out (fun x hx => (hex x hx).elim) hlocks hce hcv hcl (fun t9 ht2 ha => ⟨(nI kx, gx), trivial, ⟨hEn, by rw [ht2]; exact hP, va_K.moved ha hK, hD⟩, hS.F ht2⟩) hS.2.2 (Nat.le_of_ble_eq_true rfl) (Nat.le_of_ble_eq_true rfl)
      · obtain ⟨⟨hP1, hK1, hD1⟩, hz9⟩ := hB
        rw [ht] at hP1
        rw [ht] at hz9
        refine w_tight (hq0.trans hz9) ?_
        have hq0 := hq0.trans hz9
        obtain ⟨hP, hD⟩ := va_joinQ (wr := []) (w1 := [(p1, .inr (3, [.ref pb, .int (nI k3), .ref ps])), (pb, .inl (cB, 16384, .inl g3))]) hP hD [0, 1] [] rfl rfl (by decide) (by decide) hk1 hFc hP1 hD1
        generalize H1 = H at hP hS hq0 ⊢
        have hP : va_P (dC, dI) classes ([(p1, .inr (3, [.ref pb, .int (nI k3), .ref ps])), (pb, .inl (cB, 16384, .inl g3))] ++ va_pl L f) H := hP
        have hD : va_D A ([(p1, .inr (3, [.ref pb, .int (nI k3), .ref ps])), (pb, .inl (cB, 16384, .inl g3))] ++ va_pl L f) := hD
        have hk3 : k3 ≤ 16384 := hw
        refine lv_goto (tgt := 97) hx hb d_Printer_value_55 (by decide) ?_
        refine w_same (fun hq => ?_)
        refine W.widen (k := 1) (n := 6) (Nat.le_of_ble_eq_true rfl) (Nat.le_of_ble_eq_true rfl) ?_
        refine vx_ret ?_
        exact W.vret hx hb hr (fun t9 ht hW => ⟨⟨(k3, g3), rfl, hk3, ⟨by rw [ht]; exact hP, va_K.moved hW.alike hK, hD⟩, by rw [ht]; exact hq⟩, hS.F ht⟩) hS.2.2 d_Printer_value_97
    · by_cases hs4_2 : kd1 = 2
      · refine lv_tableIn (tgt := 58) (off := 54) hx hb d_Printer_value_4 (by rw [hs4_2]; decide) (by rw [hs4_2]; decide) (by rw [hs4_2]; rfl) (by decide) ?_
        refine lv_aload_n hx hb d_Printer_value_58 rfl (lv_at hl 0 rfl) ?_
        refine va_ldcS hx hb hown (hC 2 _ rfl).2 d_Printer_value_59 ?_
        have hPc := hP.sub (ws' := [(p1, .inr (3, [.ref pb, .int (nI k), .ref ps])), (pb, .inl (cB, 16384, .inl g))]) [0, 1] rfl
        have hDc := hD.sub (ws' := [(p1, .inr (3, [.ref pb, .int (nI k), .ref ps])), (pb, .inl (cB, 16384, .inl g))]) [0, 1] (by decide) rfl
        have hFc := va_free (wc := [(p1, .inr (3, [.ref pb, .int (nI k), .ref ps])), (pb, .inl (cB, 16384, .inl g))]) hD hS hA [0, 1] rfl
        have hKc := hK.sub (tys' := [(cB, .byte)]) [0] rfl
        refine w_same (fun hq0 => ?_)
        refine vx_callv (vx_runV (As := [.ref (K 2).1]) (rest := []) ⟨hx, hb, hml, hown, hts⟩ (w_putLetters l hl9 dC dI cB p1 pb s.heap (.ref ps) g k (K 2).1 (K 2).2 4 (ctx 2) hk (by decide)) (cwV 1 hts (gt_V (own := R_Printer) (C := R_Printer) (i := 73) (y := y_Printer_putLetters) i_Printer_putLetters z_980 z_982 (gt_sel (y := y_Printer_putLetters) (n := 3) (by decide +kernel)) w_6) rfl rfl rfl (by decide +kernel) ⟨by show 9 + 1 ≤ 14 + 2 * n; omega, by show 8 + (3 + 11) + (131) ≤ 300 + 60 * n; omega⟩) ⟨mt_blind, va_recv hK hP (ci := 3) (q0 := 0) rfl rfl, fun U hU hW => ⟨rfl, ⟨hU, by rw [hU]; exact hPc, va_K.moved hW.alike hKc, hDc.weaken (fun _ _ _ _ => trivial)⟩, hN.warm hW, by rw [hU]; exact ZX.moved' hW.alike (ZX.narrow' (ZX.kept' hZ hS.2.1) hFc), by rw [hU]; exact SX.moved' hW.alike (SX.narrow' (SX.kept' (hC 2 _ rfl).1 hS.2.1) hFc)⟩⟩ rfl rfl hl.1 rfl (lv_room (Nat.le_of_ble_eq_true rfl)) d_Printer_value_61 ⟨Nat.le_of_ble_eq_true rfl, Nat.le_of_ble_eq_true rfl⟩) hS (fun q _ h => hFc q h) hFc (fun q _ h => hFc q h) (fun En ce q9 ⟨kx, gx⟩ t9 H1 locs ht hvm hw hB hz1 hk1 hS hce hcv hcl => ?_) (fun ⟨k4, g4⟩ t9 H1 locs ht hvm hw hB hz1 hk1 hS => ?_)
        · obtain ⟨hEn, hP1, hK1, hD1⟩ := hB
          rw [ht] at hP1
          obtain ⟨hP, hD⟩ := va_joinQ (wr := []) (w1 := [(p1, .inr (3, [.ref pb, .int (nI kx), .ref ps])), (pb, .inl (cB, 16384, .inl gx))]) hP hD [0, 1] [] rfl rfl (by decide) (by decide) hk1 hFc hP1 hD1
          generalize H1 = H at hP hS hce ⊢
          have hP : va_P (dC, dI) classes ([(p1, .inr (3, [.ref pb, .int (nI kx), .ref ps])), (pb, .inl (cB, 16384, .inl gx))] ++ va_pl L f) H := hP
          have hD : va_D A ([(p1, .inr (3, [.ref pb, .int (nI kx), .ref ps])), (pb, .inl (cB, 16384, .inl gx))] ++ va_pl L f) := hD
          exact vx_out (fun x hx => (hex x hx).elim) hlocks hce hcv hcl (fun t9 ht2 ha => ⟨(nI kx, gx), trivial, ⟨hEn, by rw [ht2]; exact hP, va_K.moved ha hK, hD⟩, hS.F ht2⟩) hS.2.2 (Nat.le_of_ble_eq_true rfl) (Nat.le_of_ble_eq_true rfl)
        · obtain ⟨⟨hP1, hK1, hD1⟩, hz9⟩ := hB
          rw [ht] at hP1
          rw [ht] at hz9
          refine w_tight (hq0.trans hz9) ?_
          have hq0 := hq0.trans hz9
          obtain ⟨hP, hD⟩ := va_joinQ (wr := []) (w1 := [(p1, .inr (3, [.ref pb, .int (nI k4), .ref ps])), (pb, .inl (cB, 16384, .inl g4))]) hP hD [0, 1] [] rfl rfl (by decide) (by decide) hk1 hFc hP1 hD1
          generalize H1 = H at hP hS hq0 ⊢
          have hP : va_P (dC, dI) classes ([(p1, .inr (3, [.ref pb, .int (nI k4), .ref ps])), (pb, .inl (cB, 16384, .inl g4))] ++ va_pl L f) H := hP
          have hD : va_D A ([(p1, .inr (3, [.ref pb, .int (nI k4), .ref ps])), (pb, .inl (cB, 16384, .inl g4))] ++ va_pl L f) := hD
          have hk4 : k4 ≤ 16384 := hw
          refine lv_goto (tgt := 97) hx hb d_Printer_value_64 (by decide) ?_
          refine w_same (fun hq => ?_)
          refine W.widen (k := 1) (n := 6) (Nat.le_of_ble_eq_true rfl) (Nat.le_of_ble_eq_true rfl) ?_
          refine vx_ret ?_
          exact W.vret hx hb hr (fun t9 ht hW => ⟨⟨(k4, g4), rfl, hk4, ⟨by rw [ht]; exact hP, va_K.moved hW.alike hK, hD⟩, by rw [ht]; exact hq⟩, hS.F ht⟩) hS.2.2 d_Printer_value_97
      · by_cases hs4_3 : kd1 = 3
        · refine lv_tableIn (tgt := 67) (off := 63) hx hb d_Printer_value_4 (by rw [hs4_3]; decide) (by rw [hs4_3]; decide) (by rw [hs4_3]; rfl) (by decide) ?_
          refine lv_aload_n hx hb d_Printer_value_67 rfl (lv_at hl 0 rfl) ?_
          refine lv_aload_n hx hb d_Printer_value_68 rfl (lv_at hl 1 rfl) ?_
          refine vq_get (D := (dC, dI)) (ci := 9) (v := .long nu1) (C := R_Value) (T := F_Value) (N := 10) hx hb hts in_Value hown hK hP (hO.inV (isF.v hv9)) ef1 rfl 1 (by decide) (hts _ z_318) (fun _ h9 => h9) rfl d_Printer_value_69 ?_
          have hPc := hP.sub (ws' := [(p1, .inr (3, [.ref pb, .int (nI k), .ref ps])), (pb, .inl (cB, 16384, .inl g))]) [0, 1] rfl
          have hDc := hD.sub (ws' := [(p1, .inr (3, [.ref pb, .int (nI k), .ref ps])), (pb, .inl (cB, 16384, .inl g))]) [0, 1] (by decide) rfl
          have hFc := va_free (wc := [(p1, .inr (3, [.ref pb, .int (nI k), .ref ps])), (pb, .inl (cB, 16384, .inl g))]) hD hS hA [0, 1] rfl
          have hKc := hK.sub (tys' := [(cB, .byte)]) [0] rfl
          refine w_same (fun hq0 => ?_)
          refine vx_callv (vx_runV (As := [.long nu1]) (rest := []) ⟨hx, hb, hml, hown, hts⟩ (c_Printer_number l hl9 dC dI s.heap cB p1 pb ps g k hk nu1) (cwV 1 hts (gt_V (own := R_Printer) (C := R_Printer) (i := 60) (y := y_Printer_number) i_Printer_number z_963 z_965 (gt_sel (y := y_Printer_number) (n := 3) (by decide +kernel)) w_6) rfl rfl rfl (by decide +kernel) ⟨by show 9 + 1 ≤ 14 + 2 * n; omega, by show 8 + (7 + 11) + (150) ≤ 300 + 60 * n; omega⟩) ⟨mx_blind, va_recv hK hP (ci := 3) (q0 := 0) rfl rfl, fun U hU hW => ⟨rfl, ⟨hU, by rw [hU]; exact hPc, va_K.moved hW.alike hKc, hDc.weaken (fun _ _ _ _ => trivial)⟩, hN.warm hW, by rw [hU]; exact ZX.moved' hW.alike (ZX.narrow' (ZX.kept' hZ hS.2.1) hFc)⟩⟩ rfl rfl hl.1 rfl (lv_room (Nat.le_of_ble_eq_true rfl)) d_Printer_value_72 ⟨Nat.le_of_ble_eq_true rfl, Nat.le_of_ble_eq_true rfl⟩) hS (fun q _ h => hFc q h) hFc (fun q _ h => hFc q h) (fun En ce q9 ⟨kx, gx⟩ t9 H1 locs ht hvm hw hB hz1 hk1 hS hce hcv hcl => ?_) (fun ⟨k5, g5⟩ t9 H1 locs ht hvm hw hB hz1 hk1 hS => ?_)
          · obtain ⟨hEn, hP1, hK1, hD1⟩ := hB
            rw [ht] at hP1
            obtain ⟨hP, hD⟩ := va_joinQ (wr := []) (w1 := [(p1, .inr (3, [.ref pb, .int kx, .ref ps])), (pb, .inl (cB, 16384, .inl gx))]) hP hD [0, 1] [] rfl rfl (by decide) (by decide) hk1 hFc hP1 hD1
            generalize H1 = H at hP hS hce ⊢
            have hP : va_P (dC, dI) classes ([(p1, .inr (3, [.ref pb, .int kx, .ref ps])), (pb, .inl (cB, 16384, .inl gx))] ++ va_pl L f) H := hP
            have hD : va_D A ([(p1, .inr (3, [.ref pb, .int kx, .ref ps])), (pb, .inl (cB, 16384, .inl gx))] ++ va_pl L f) := hD
            exact vx_out (fun x hx => (hex x hx).elim) hlocks hce hcv hcl (fun t9 ht2 ha => ⟨(kx, gx), trivial, ⟨hEn, by rw [ht2]; exact hP, va_K.moved ha hK, hD⟩, hS.F ht2⟩) hS.2.2 (Nat.le_of_ble_eq_true rfl) (Nat.le_of_ble_eq_true rfl)
          · obtain ⟨⟨hP1, hK1, hD1⟩, hz9⟩ := hB
            rw [ht] at hP1
            rw [ht] at hz9
            refine w_tight (hq0.trans hz9) ?_
            have hq0 := hq0.trans hz9
            obtain ⟨hP, hD⟩ := va_joinQ (wr := []) (w1 := [(p1, .inr (3, [.ref pb, .int (nI k5), .ref ps])), (pb, .inl (cB, 16384, .inl g5))]) hP hD [0, 1] [] rfl rfl (by decide) (by decide) hk1 hFc hP1 hD1
            generalize H1 = H at hP hS hq0 ⊢
            have hP : va_P (dC, dI) classes ([(p1, .inr (3, [.ref pb, .int (nI k5), .ref ps])), (pb, .inl (cB, 16384, .inl g5))] ++ va_pl L f) H := hP
            have hD : va_D A ([(p1, .inr (3, [.ref pb, .int (nI k5), .ref ps])), (pb, .inl (cB, 16384, .inl g5))] ++ va_pl L f) := hD
            have hk5 : k5 ≤ 16384 := hw
            refine lv_goto (tgt := 97) hx hb d_Printer_value_75 (by decide) ?_
            refine w_same (fun hq => ?_)
            refine W.widen (k := 1) (n := 6) (Nat.le_of_ble_eq_true rfl) (Nat.le_of_ble_eq_true rfl) ?_
            refine vx_ret ?_
            exact W.vret hx hb hr (fun t9 ht hW => ⟨⟨(k5, g5), rfl, hk5, ⟨by rw [ht]; exact hP, va_K.moved hW.alike hK, hD⟩, by rw [ht]; exact hq⟩, hS.F ht⟩) hS.2.2 d_Printer_value_97
        · by_cases hs4_4 : kd1 = 4
          · refine lv_tableIn (tgt := 78) (off := 74) hx hb d_Printer_value_4 (by rw [hs4_4]; decide) (by rw [hs4_4]; decide) (by rw [hs4_4]; rfl) (by decide) ?_
            refine lv_aload_n hx hb d_Printer_value_78 rfl (lv_at hl 0 rfl) ?_
            refine lv_aload_n hx hb d_Printer_value_79 rfl (lv_at hl 1 rfl) ?_
            rcases tx1 with _ | b6
            · exact absurd rfl ((hv1.2.2.2.2.2.2.1 (isF.n1 hv9)).1 hs4_4)
            · refine vq_get (D := (dC, dI)) (ci := 9) (v := .ref b6) (C := R_Value) (T := F_Value) (N := 10) hx hb hts in_Value hown hK hP (hO.inV (isF.v hv9)) ef1 rfl 2 (by decide) (hts _ z_323) (fun _ h9 => h9) rfl d_Printer_value_80 ?_
              refine lv_bipush (v := 34) hx hb d_Printer_value_83 (by decide) ?_
              have hPc := hP.part (cx := [(p1, .inr (3, [.ref pb, .int (nI k), .ref ps])), (pb, .inl (cB, 16384, .inl g))]) [0, 1] rfl
              have hDc := hD.part (cx := [(p1, .inr (3, [.ref pb, .int (nI k), .ref ps])), (pb, .inl (cB, 16384, .inl g))]) [0, 1] (by decide) rfl
              have hFc := va_freeP (cx := [(p1, .inr (3, [.ref pb, .int (nI k), .ref ps])), (pb, .inl (cB, 16384, .inl g))]) hD hS hA [0, 1] rfl
              have hKc := hK.sub (tys' := [(cB, .byte), (cI, .int), (cV, .object "QueryBench$Value")]) [0, 1, 2] rfl
              refine w_same (fun hq0 => ?_)
              refine vx_callv (vx_runV (As := [.ref b6, .int 34]) (rest := []) ⟨hx, hb, hml, hown, hts⟩ (c_Printer_text l hl9 K dC dI s.heap cI cV E lv L f hO cB p1 pb ps g k hk b6 (hv1.1 b6 rfl) 34) (cwV 2 hts (gt_V (own := R_Printer) (C := R_Printer) (i := 64) (y := y_Printer_text) i_Printer_text z_968 z_970 (gt_sel (y := y_Printer_text) (n := 3) (by decide +kernel)) w_6) rfl rfl rfl (by decide +kernel) ⟨by show 11 + 1 ≤ 14 + 2 * n; omega, by show 8 + (4 + 11) + (230) ≤ 300 + 60 * n; omega⟩) ⟨ml_blind, va_recv hK hP (ci := 3) (q0 := 0) rfl rfl, fun U hU hW => ⟨rfl, ⟨hU, by rw [hU]; exact hPc, va_K.moved hW.alike hKc, hDc.weaken (fun _ _ _ _ => trivial)⟩, hN.warm hW, by rw [hU]; exact ZX.moved' hW.alike (ZX.narrow' (ZX.kept' hZ hS.2.1) hFc), by rw [hU]; exact CE.call hC hS.2.1 hFc hW, va_AO.moved hW.alike hV⟩⟩ rfl rfl hl.1 rfl (lv_room (Nat.le_of_ble_eq_true rfl)) d_Printer_value_85 ⟨Nat.le_of_ble_eq_true rfl, Nat.le_of_ble_eq_true rfl⟩) hS (fun q _ h => hFc q h) hFc (fun q _ h => hFc q h) (fun En ce q9 ⟨kx, gx⟩ t9 H1 locs ht hvm hw hB hz1 hk1 hS hce hcv hcl => ?_) (fun ⟨k7, g7⟩ t9 H1 locs ht hvm hw hB hz1 hk1 hS => ?_)
              · obtain ⟨hEn, hP1, hK1, hD1⟩ := hB
                rw [ht] at hP1
                obtain ⟨hP, hD⟩ := va_joinP (wr := []) (rx := [(p1, .inr (3, [.ref pb, .int kx, .ref ps])), (pb, .inl (cB, 16384, .inl gx))]) (pl1 := va_pl L f) hP hD [0, 1] [] rfl rfl (by decide) (by decide) hk1 hFc hP1 hD1
                generalize H1 = H at hP hS hce ⊢
                have hP : va_P (dC, dI) classes ([(p1, .inr (3, [.ref pb, .int kx, .ref ps])), (pb, .inl (cB, 16384, .inl gx))] ++ va_pl L f) H := hP
                have hD : va_D A ([(p1, .inr (3, [.ref pb, .int kx, .ref ps])), (pb, .inl (cB, 16384, .inl gx))] ++ va_pl L f) := hD
                exact vx_out (fun x hx => (hex x hx).elim) hlocks hce hcv hcl (fun t9 ht2 ha => ⟨(kx, gx), trivial, ⟨hEn, by rw [ht2]; exact hP, va_K.moved ha hK, hD⟩, hS.F ht2⟩) hS.2.2 (Nat.le_of_ble_eq_true rfl) (Nat.le_of_ble_eq_true rfl)
              · obtain ⟨⟨hP1, hK1, hD1⟩, hz9⟩ := hB
                rw [ht] at hP1
                rw [ht] at hz9
                refine w_tight (hq0.trans hz9) ?_
                have hq0 := hq0.trans hz9
                obtain ⟨hP, hD⟩ := va_joinP (wr := []) (rx := [(p1, .inr (3, [.ref pb, .int (nI k7), .ref ps])), (pb, .inl (cB, 16384, .inl g7))]) (pl1 := va_pl L f) hP hD [0, 1] [] rfl rfl (by decide) (by decide) hk1 hFc hP1 hD1
                generalize H1 = H at hP hS hq0 ⊢
                have hP : va_P (dC, dI) classes ([(p1, .inr (3, [.ref pb, .int (nI k7), .ref ps])), (pb, .inl (cB, 16384, .inl g7))] ++ va_pl L f) H := hP
                have hD : va_D A ([(p1, .inr (3, [.ref pb, .int (nI k7), .ref ps])), (pb, .inl (cB, 16384, .inl g7))] ++ va_pl L f) := hD
                have hk7 : k7 ≤ 16384 := hw
                refine lv_goto (tgt := 97) hx hb d_Printer_value_88 (by decide) ?_
                refine w_same (fun hq => ?_)
                refine W.widen (k := 1) (n := 6) (Nat.le_of_ble_eq_true rfl) (Nat.le_of_ble_eq_true rfl) ?_
                refine vx_ret ?_
                exact W.vret hx hb hr (fun t9 ht hW => ⟨⟨(k7, g7), rfl, hk7, ⟨by rw [ht]; exact hP, va_K.moved hW.alike hK, hD⟩, by rw [ht]; exact hq⟩, hS.F ht⟩) hS.2.2 d_Printer_value_97
          · have hk4_0 := i_neN 0 rfl hs4_0
            have hk4_1 := i_neN 1 rfl hs4_1
            have hk4_2 := i_neN 2 rfl hs4_2
            have hk4_3 := i_neN 3 rfl hs4_3
            have hk4_4 := i_neN 4 rfl hs4_4
            refine lv_tableOut (tgt := 91) hx hb d_Printer_value_4 (by omega) (by decide) ?_
            refine lv_aload_n hx hb d_Printer_value_91 rfl (lv_at hl 0 rfl) ?_
            refine lv_aload_n hx hb d_Printer_value_92 rfl (lv_at hl 1 rfl) ?_
            refine lv_iload_n hx hb d_Printer_value_93 rfl (lv_at hl 2 rfl) ?_
            have hPc := hP.part (cx := [(p1, .inr (3, [.ref pb, .int (nI k), .ref ps])), (pb, .inl (cB, 16384, .inl g))]) [0, 1] rfl
            have hDc := hD.part (cx := [(p1, .inr (3, [.ref pb, .int (nI k), .ref ps])), (pb, .inl (cB, 16384, .inl g))]) [0, 1] (by decide) rfl
            have hFc := va_freeP (cx := [(p1, .inr (3, [.ref pb, .int (nI k), .ref ps])), (pb, .inl (cB, 16384, .inl g))]) hD hS hA [0, 1] rfl
            have hKc := hK.sub (tys' := [(cB, .byte), (cI, .int), (cV, .object "QueryBench$Value")]) [0, 1, 2] rfl
            refine w_same (fun hq0 => ?_)
            refine vx_callv (vx_runV (As := [.ref v9, .int (nI d)]) (rest := []) ⟨hx, hb, hml, hown, hts⟩ (HM s.heap g k hk v9 hv9) (cwV 2 hts (gt_V (own := R_Printer) (C := R_Printer) (i := 86) (y := y_Printer_members) i_Printer_members z_994 z_996 (gt_sel (y := y_Printer_members) (n := 3) (by decide +kernel)) w_6) rfl rfl rfl (by decide +kernel) ⟨by show 13 + 2 * n + 1 ≤ 14 + 2 * n; omega, by show 8 + (5 + 11) + (270 + 60 * n) ≤ 300 + 60 * n; omega⟩) ⟨ml_blind, va_recv hK hP (ci := 3) (q0 := 0) rfl rfl, fun U hU hW => ⟨rfl, ⟨hU, by rw [hU]; exact hPc, va_K.moved hW.alike hKc, hDc.weaken (fun _ _ _ _ => trivial)⟩, hN.warm hW, by rw [hU]; exact ZX.moved' hW.alike (ZX.narrow' (ZX.kept' hZ hS.2.1) hFc), by rw [hU]; exact CE.call hC hS.2.1 hFc hW, va_AO.moved hW.alike hV⟩⟩ rfl rfl hl.1 rfl (lv_room (Nat.le_of_ble_eq_true rfl)) d_Printer_value_94 ⟨Nat.le_of_ble_eq_true rfl, Nat.le_of_ble_eq_true rfl⟩) hS (fun q _ h => hFc q h) hFc (fun q _ h => hFc q h) (fun En ce q9 ⟨kx, gx⟩ t9 H1 locs ht hvm hw hB hz1 hk1 hS hce hcv hcl => ?_) (fun ⟨k8, g8⟩ t9 H1 locs ht hvm hw hB hz1 hk1 hS => ?_)
            · obtain ⟨hEn, hP1, hK1, hD1⟩ := hB
              rw [ht] at hP1
              obtain ⟨hP, hD⟩ := va_joinP (wr := []) (rx := [(p1, .inr (3, [.ref pb, .int kx, .ref ps])), (pb, .inl (cB, 16384, .inl gx))]) (pl1 := va_pl L f) hP hD [0, 1] [] rfl rfl (by decide) (by decide) hk1 hFc hP1 hD1
              generalize H1 = H at hP hS hce ⊢
              have hP : va_P (dC, dI) classes ([(p1, .inr (3, [.ref pb, .int kx, .ref ps])), (pb, .inl (cB, 16384, .inl gx))] ++ va_pl L f) H := hP
              have hD : va_D A ([(p1, .inr (3, [.ref pb, .int kx, .ref ps])), (pb, .inl (cB, 16384, .inl gx))] ++ va_pl L f) := hD
              exact vx_out (fun x hx => (hex x hx).elim) hlocks hce hcv hcl (fun t9 ht2 ha => ⟨(kx, gx), trivial, ⟨hEn, by rw [ht2]; exact hP, va_K.moved ha hK, hD⟩, hS.F ht2⟩) hS.2.2 (Nat.le_of_ble_eq_true rfl) (Nat.le_of_ble_eq_true rfl)
            · obtain ⟨⟨hP1, hK1, hD1⟩, hz9⟩ := hB
              rw [ht] at hP1
              rw [ht] at hz9
              refine w_tight (hq0.trans hz9) ?_
              have hq0 := hq0.trans hz9
              obtain ⟨hP, hD⟩ := va_joinP (wr := []) (rx := [(p1, .inr (3, [.ref pb, .int (nI k8), .ref ps])), (pb, .inl (cB, 16384, .inl g8))]) (pl1 := va_pl L f) hP hD [0, 1] [] rfl rfl (by decide) (by decide) hk1 hFc hP1 hD1
              generalize H1 = H at hP hS hq0 ⊢
              have hP : va_P (dC, dI) classes ([(p1, .inr (3, [.ref pb, .int (nI k8), .ref ps])), (pb, .inl (cB, 16384, .inl g8))] ++ va_pl L f) H := hP
              have hD : va_D A ([(p1, .inr (3, [.ref pb, .int (nI k8), .ref ps])), (pb, .inl (cB, 16384, .inl g8))] ++ va_pl L f) := hD
              have hk8 : k8 ≤ 16384 := hw
              refine w_same (fun hq => ?_)
              refine W.widen (k := 1) (n := 6) (Nat.le_of_ble_eq_true rfl) (Nat.le_of_ble_eq_true rfl) ?_
              refine vx_ret ?_
              exact W.vret hx hb hr (fun t9 ht hW => ⟨⟨(k8, g8), rfl, hk8, ⟨by rw [ht]; exact hP, va_K.moved hW.alike hK, hD⟩, by rw [ht]; exact hq⟩, hS.F ht⟩) hS.2.2 d_Printer_value_97
theorem c_PVall (l : Launch) (hl9 : l.stackTraces = false) (K : Nat → Nat × Nat) (dC : Nat → ClassId) (dI : Nat → Nat → Nat) (cI cV : ClassId) (E lv : Nat → Nat) (L : List Nat) (f : Nat → va_E) (hO : PO cI cV E lv L f) (cB : ClassId) (p1 pb ps : Nat) : ∀ n d, d + n = 32 → PVC l K dC dI cI cV E L f cB p1 pb ps n d := by
  intro n
  induction n with
  | zero => exact fun d hd => c_PV l hl9 K dC dI cI cV E lv L f hO cB p1 pb ps 0 d (c_PM l hl9 K dC dI cI cV E lv L f hO cB p1 pb ps 0 d hd (fun h => absurd h (by omega)))
  | succ n ih => exact fun d hd => c_PV l hl9 K dC dI cI cV E lv L f hO cB p1 pb ps (n + 1) d (c_PM l hl9 K dC dI cI cV E lv L f hO cB p1 pb ps (n + 1) d hd (fun _ => ih (d + 1) (by omega)))
abbrev b_Printer_line : ByteArray := prog_5_method_2_code
def y_Printer_line : MethodName := ⟨"QueryBench$Printer", "line", "(LQueryBench$Value;)V"⟩
abbrev k_Printer_line : Cond := .code y_Printer_line b_Printer_line 2 none
theorem i_Printer_line : k_Printer_line ∈ gtbl := gt_in 952 (by decide +kernel) (by decide +kernel)
theorem d_Printer_line_0 : decode b_Printer_line 0 = .ok (.aload_n 0, 1) := by decide +kernel
theorem d_Printer_line_1 : decode b_Printer_line 1 = .ok (.aload_n 1, 1) := by decide +kernel
theorem d_Printer_line_2 : decode b_Printer_line 2 = .ok (.invokevirtual 21, 3) := by decide +kernel
theorem d_Printer_line_5 : decode b_Printer_line 5 = .ok (.aload_n 0, 1) := by decide +kernel
theorem d_Printer_line_6 : decode b_Printer_line 6 = .ok (.bipush 32, 2) := by decide +kernel
theorem d_Printer_line_8 : decode b_Printer_line 8 = .ok (.invokevirtual 25, 3) := by decide +kernel
theorem d_Printer_line_11 : decode b_Printer_line 11 = .ok (.aload_n 0, 1) := by decide +kernel
theorem d_Printer_line_12 : decode b_Printer_line 12 = .ok (.aload_n 1, 1) := by decide +kernel
theorem d_Printer_line_13 : decode b_Printer_line 13 = .ok (.iconst 0, 1) := by decide +kernel
theorem d_Printer_line_14 : decode b_Printer_line 14 = .ok (.invokevirtual 29, 3) := by decide +kernel
theorem d_Printer_line_17 : decode b_Printer_line 17 = .ok (.aload_n 0, 1) := by decide +kernel
theorem d_Printer_line_18 : decode b_Printer_line 18 = .ok (.bipush 10, 2) := by decide +kernel
theorem d_Printer_line_20 : decode b_Printer_line 20 = .ok (.invokevirtual 25, 3) := by decide +kernel
theorem d_Printer_line_23 : decode b_Printer_line 23 = .ok (.return_, 1) := by decide +kernel
set_option maxHeartbeats 4000000 in
set_option maxRecDepth 100000 in
/-- Printer.line -/
theorem c_Printer_line (l : Launch) (hl9 : l.stackTraces = false) (K : Nat → Nat × Nat) (dC : Nat → ClassId) (dI : Nat → Nat → Nat) (sz : Heap) (cI cV : ClassId) (E lv : Nat → Nat) (L : List Nat) (f : Nat → va_E) (hO : PO cI cV E lv L f) (cB : ClassId) (p1 pb ps : Nat) (g : Nat → Int32) (k : Nat) (hk : k ≤ 16384) (h : Nat → Option Nat) (nd : Nat) (hnd : isF E nd) : vx_Met l y_Printer_line (k_Printer_line :: gtbl) ({ frames := 80, cells := 1, slots := 6, locals := 2300 }) (va_Pc [.ref p1, .ref nd] (ml K dC dI ([(p1, .inr (3, [.ref pb, .int (nI k), .ref ps])), (pb, .inl (cB, 16384, .inl g)), (ps, .inl (cV, 32, .inr (.inr (.inr (.inr h)))))] ++ va_pl L f) [(cB, .byte), (cI, .int), (cV, .object "QueryBench$Value")] sz)) (va_Qv (fun (u : Nat × (Nat → Int32) × (Nat → Option Nat)) => u.1 ≤ 16384) (fun u t9 => mz dC dI ([(p1, .inr (3, [.ref pb, .int (nI u.1), .ref ps])), (pb, .inl (cB, 16384, .inl u.2.1)), (ps, .inl (cV, 32, .inr (.inr (.inr (.inr u.2.2)))))] ++ va_pl L f) [(cB, .byte), (cI, .int), (cV, .object "QueryBench$Value")] (va_A ([(p1, .inr (3, [.ref pb, .int (nI k), .ref ps])), (pb, .inl (cB, 16384, .inl g)), (ps, .inl (cV, 32, .inr (.inr (.inr (.inr h)))))] ++ va_pl L f) sz.size) t9 ∧ szk sz t9.heap (0) (0)) (va_A ([(p1, .inr (3, [.ref pb, .int (nI k), .ref ps])), (pb, .inl (cB, 16384, .inl g)), (ps, .inl (cV, 32, .inr (.inr (.inr (.inr h)))))] ++ va_pl L f) sz.size)) (vx_X (fun (u : Int32 × (Nat → Int32) × (Nat → Option Nat)) => True) (fun En u t9 => En = IOB ∧ mz dC dI ([(p1, .inr (3, [.ref pb, .int u.1, .ref ps])), (pb, .inl (cB, 16384, .inl u.2.1)), (ps, .inl (cV, 32, .inr (.inr (.inr (.inr u.2.2)))))] ++ va_pl L f) [(cB, .byte), (cI, .int), (cV, .object "QueryBench$Value")] (va_A ([(p1, .inr (3, [.ref pb, .int (nI k), .ref ps])), (pb, .inl (cB, 16384, .inl g)), (ps, .inl (cV, 32, .inr (.inr (.inr (.inr h)))))] ++ va_pl L f) sz.size) t9) (va_A ([(p1, .inr (3, [.ref pb, .int (nI k), .ref ps])), (pb, .inl (cB, 16384, .inl g)), (ps, .inl (cV, 32, .inr (.inr (.inr (.inr h)))))] ++ va_pl L f) sz.size)) (1) (6) (va_A ([(p1, .inr (3, [.ref pb, .int (nI k), .ref ps])), (pb, .inl (cB, 16384, .inl g)), (ps, .inl (cV, 32, .inr (.inr (.inr (.inr h)))))] ++ va_pl L f) sz.size) := by
  refine vx_ofW (cc := b_Printer_line) (maxL := 2) (ret := none) (by decide) rfl ?_
  intro p e s m args below meth c s₁ B hml hex hv
  obtain ⟨rfl, ⟨hsz, hP, hK, hD0⟩, hN, hZ, hC, hV⟩ := hv
  have hx := B.exec
  have hb := B.bytes
  have hr := B.returns
  have hts0 := atoms_spec (ws := k_Printer_line :: gtbl) B.pre
  have hts := fun w h => hts0 w (List.mem_cons_of_mem _ h)
  have hown : s.vm.findClass R_Printer = some m.cls := findClass_of_methodNamed B.named
  have hlocks := B.notSynchronized
  subst hsz
  have hD := hD0.self (sz := s.heap.size)
  generalize hAe : va_A ([(p1, .inr (3, [.ref pb, .int (nI k), .ref ps])), (pb, .inl (cB, 16384, .inl g)), (ps, .inl (cV, 32, .inr (.inr (.inr (.inr h)))))] ++ va_pl L f) s.heap.size = A at hD hZ hC ⊢
  have hA : ∀ q : Nat, s.heap.size ≤ q → A q := fun q h => by rw [← hAe]; exact Or.inr h
  have hS : va_S A s.heap s.heap [] := va_S.rf
  have hP : va_P (dC, dI) classes ([(p1, .inr (3, [.ref pb, .int (nI k), .ref ps])), (pb, .inl (cB, 16384, .inl g)), (ps, .inl (cV, 32, .inr (.inr (.inr (.inr h)))))] ++ va_pl L f) s.heap := hP
  have hl := lv_entry ([.ref p1, .ref nd]) (n := 2) (Nat.le_of_ble_eq_true rfl)
  rw [lg_entry_eq]
  generalize (lg_sl ([.ref p1, .ref nd]) ++ List.replicate (2 - (lg_sl ([.ref p1, .ref nd])).length) Slot.unset).toArray = ls at hl ⊢
  have hl : lv_has ls 2 [(0, .ref p1), (1, .ref nd)] := hl
  refine lv_aload_n hx hb d_Printer_line_0 rfl (lv_at hl 0 rfl) ?_
  refine lv_aload_n hx hb d_Printer_line_1 rfl (lv_at hl 1 rfl) ?_
  have hPc := hP.part (cx := [(p1, .inr (3, [.ref pb, .int (nI k), .ref ps])), (pb, .inl (cB, 16384, .inl g)), (ps, .inl (cV, 32, .inr (.inr (.inr (.inr h)))))]) [0, 1, 2] rfl
  have hDc := hD.part (cx := [(p1, .inr (3, [.ref pb, .int (nI k), .ref ps])), (pb, .inl (cB, 16384, .inl g)), (ps, .inl (cV, 32, .inr (.inr (.inr (.inr h)))))]) [0, 1, 2] (by decide) rfl
  have hFc := va_freeP (cx := [(p1, .inr (3, [.ref pb, .int (nI k), .ref ps])), (pb, .inl (cB, 16384, .inl g)), (ps, .inl (cV, 32, .inr (.inr (.inr (.inr h)))))]) hD hS hA [0, 1, 2] rfl
  have hKc := hK.sub (tys' := [(cB, .byte), (cI, .int), (cV, .object "QueryBench$Value")]) [0, 1, 2] rfl
  refine w_same (fun hq0 => ?_)
  refine vx_callv (vx_runV (As := [.ref nd]) (rest := []) ⟨hx, hb, hml, hown, hts⟩ (c_Printer_path l hl9 K dC dI s.heap cI cV E lv L f hO cB p1 pb ps g k hk h nd hnd) (cwV 1 hts (gt_V (own := R_Printer) (C := R_Printer) (i := 21) (y := y_Printer_path) i_Printer_path z_953 z_955 (gt_sel (y := y_Printer_path) (n := 3) (by decide +kernel)) w_6) rfl rfl rfl (by decide +kernel) ⟨Nat.le_of_ble_eq_true rfl, Nat.le_of_ble_eq_true rfl⟩) ⟨ml_blind, va_recv hK hP (ci := 3) (q0 := 0) rfl rfl, fun U hU hW => ⟨rfl, ⟨hU, by rw [hU]; exact hPc, va_K.moved hW.alike hKc, hDc.weaken (fun _ _ _ _ => trivial)⟩, hN.warm hW, by rw [hU]; exact ZX.moved' hW.alike (ZX.narrow' (ZX.kept' hZ hS.2.1) hFc), by rw [hU]; exact CE.call hC hS.2.1 hFc hW, va_AO.moved hW.alike hV⟩⟩ rfl rfl hl.1 rfl (lv_room (Nat.le_of_ble_eq_true rfl)) d_Printer_line_2 ⟨Nat.le_of_ble_eq_true rfl, Nat.le_of_ble_eq_true rfl⟩) hS (fun q _ h => hFc q h) hFc (fun q _ h => hFc q h) (fun En ce q9 ⟨kx, gx, h9⟩ t9 H1 locs ht hvm hw hB hz1 hk1 hS hce hcv hcl => ?_) (fun ⟨k1, g1, h9⟩ t9 H1 locs ht hvm hw hB hz1 hk1 hS => ?_)
  · obtain ⟨hEn, hP1, hK1, hD1⟩ := hB
    rw [ht] at hP1
    obtain ⟨hP, hD⟩ := va_joinP (wr := []) (rx := [(p1, .inr (3, [.ref pb, .int kx, .ref ps])), (pb, .inl (cB, 16384, .inl gx)), (ps, .inl (cV, 32, .inr (.inr (.inr (.inr h9)))))]) (pl1 := va_pl L f) hP hD [0, 1, 2] [] rfl rfl (by decide) (by decide) hk1 hFc hP1 hD1
    generalize H1 = H at hP hS hce ⊢
    have hP : va_P (dC, dI) classes ([(p1, .inr (3, [.ref pb, .int kx, .ref ps])), (pb, .inl (cB, 16384, .inl gx)), (ps, .inl (cV, 32, .inr (.inr (.inr (.inr h9)))))] ++ va_pl L f) H := hP
    have hD : va_D A ([(p1, .inr (3, [.ref pb, .int kx, .ref ps])), (pb, .inl (cB, 16384, .inl gx)), (ps, .inl (cV, 32, .inr (.inr (.inr (.inr h9)))))] ++ va_pl L f) := hD
    exact vx_out (fun x hx => (hex x hx).elim) hlocks hce hcv hcl (fun t9 ht2 ha => ⟨(kx, gx, h9), trivial, ⟨hEn, by rw [ht2]; exact hP, va_K.moved ha hK, hD⟩, hS.F ht2⟩) hS.2.2 (Nat.le_of_ble_eq_true rfl) (Nat.le_of_ble_eq_true rfl)
  · obtain ⟨⟨hP1, hK1, hD1⟩, hz9⟩ := hB
    rw [ht] at hP1
    rw [ht] at hz9
    refine w_tight (hq0.trans hz9) ?_
    have hq0 := hq0.trans hz9
    obtain ⟨hP, hD⟩ := va_joinP (wr := []) (rx := [(p1, .inr (3, [.ref pb, .int (nI k1), .ref ps])), (pb, .inl (cB, 16384, .inl g1)), (ps, .inl (cV, 32, .inr (.inr (.inr (.inr h9)))))]) (pl1 := va_pl L f) hP hD [0, 1, 2] [] rfl rfl (by decide) (by decide) hk1 hFc hP1 hD1
    generalize H1 = H at hP hS hq0 ⊢
    have hP : va_P (dC, dI) classes ([(p1, .inr (3, [.ref pb, .int (nI k1), .ref ps])), (pb, .inl (cB, 16384, .inl g1)), (ps, .inl (cV, 32, .inr (.inr (.inr (.inr h9)))))] ++ va_pl L f) H := hP
    have hD : va_D A ([(p1, .inr (3, [.ref pb, .int (nI k1), .ref ps])), (pb, .inl (cB, 16384, .inl g1)), (ps, .inl (cV, 32, .inr (.inr (.inr (.inr h9)))))] ++ va_pl L f) := hD
    have hk1 : k1 ≤ 16384 := hw
    refine lv_aload_n hx hb d_Printer_line_5 rfl (lv_at hl 0 rfl) ?_
    refine lv_bipush (v := 32) hx hb d_Printer_line_6 (by decide) ?_
    have hPc := hP.sub (ws' := [(p1, .inr (3, [.ref pb, .int (nI k1), .ref ps])), (pb, .inl (cB, 16384, .inl g1))]) [0, 1] rfl
    have hDc := hD.sub (ws' := [(p1, .inr (3, [.ref pb, .int (nI k1), .ref ps])), (pb, .inl (cB, 16384, .inl g1))]) [0, 1] (by decide) rfl
    have hFc := va_free (wc := [(p1, .inr (3, [.ref pb, .int (nI k1), .ref ps])), (pb, .inl (cB, 16384, .inl g1))]) hD hS hA [0, 1] rfl
    have hKc := hK.sub (tys' := [(cB, .byte)]) [0] rfl
    refine w_same (fun hq0 => ?_)
    refine vx_callv (vx_runV (As := [.int 32]) (rest := []) ⟨hx, hb, hml, hown, hts⟩ (w_put l hl9 dC dI cB p1 pb H (.ref ps) g1 k1 32 hk1) (cwV 1 hts (gt_V (own := R_Printer) (C := R_Printer) (i := 25) (y := y_Printer_put) i_Printer_put w_957 w_959 (gt_sel (y := y_Printer_put) (n := 3) (by decide +kernel)) w_6) rfl rfl rfl (by decide +kernel) ⟨Nat.le_of_ble_eq_true rfl, Nat.le_of_ble_eq_true rfl⟩) ⟨mx_blind, va_recv hK hP (ci := 3) (q0 := 0) rfl rfl, fun U hU hW => ⟨rfl, ⟨hU, by rw [hU]; exact hPc, va_K.moved hW.alike hKc, hDc.weaken (fun _ _ _ _ => trivial)⟩, hN.warm hW, by rw [hU]; exact ZX.moved' hW.alike (ZX.narrow' (ZX.kept' hZ hS.2.1) hFc)⟩⟩ rfl rfl hl.1 rfl (lv_room (Nat.le_of_ble_eq_true rfl)) d_Printer_line_8 ⟨Nat.le_of_ble_eq_true rfl, Nat.le_of_ble_eq_true rfl⟩) hS (fun q _ h => hFc q h) hFc (fun q _ h => hFc q h) (fun En ce q9 ⟨kx, gx⟩ t9 H1 locs ht hvm hw hB hz1 hk1 hS hce hcv hcl => ?_) (fun ⟨k2, g2⟩ t9 H1 locs ht hvm hw hB hz1 hk1 hS => ?_)
    · obtain ⟨hEn, hP1, hK1, hD1⟩ := hB
      rw [ht] at hP1
      obtain ⟨hP, hD⟩ := va_joinQ (wr := [(ps, .inl (cV, 32, .inr (.inr (.inr (.inr h9)))))]) (w1 := [(p1, .inr (3, [.ref pb, .int (nI kx), .ref ps])), (pb, .inl (cB, 16384, .inl gx))]) hP hD [0, 1] [2] rfl rfl (by decide) (by decide) hk1 hFc hP1 hD1
      generalize H1 = H at hP hS hce ⊢
      have hP : va_P (dC, dI) classes ([(ps, .inl (cV, 32, .inr (.inr (.inr (.inr h9))))), (p1, .inr (3, [.ref pb, .int (nI kx), .ref ps])), (pb, .inl (cB, 16384, .inl gx))] ++ va_pl L f) H := hP
      have hD : va_D A ([(ps, .inl (cV, 32, .inr (.inr (.inr (.inr h9))))), (p1, .inr (3, [.ref pb, .int (nI kx), .ref ps])), (pb, .inl (cB, 16384, .inl gx))] ++ va_pl L f) := hD
      have hP := hP.part (cx := [(p1, .inr (3, [.ref pb, .int (nI kx), .ref ps])), (pb, .inl (cB, 16384, .inl gx)), (ps, .inl (cV, 32, .inr (.inr (.inr (.inr h9)))))]) [1, 2, 0] rfl
      have hD := hD.part (cx := [(p1, .inr (3, [.ref pb, .int (nI kx), .ref ps])), (pb, .inl (cB, 16384, .inl gx)), (ps, .inl (cV, 32, .inr (.inr (.inr (.inr h9)))))]) [1, 2, 0] (by decide) rfl
      exact vx_out (fun x hx => (hex x hx).elim) hlocks hce hcv hcl (fun t9 ht2 ha => ⟨(nI kx, gx, h9), trivial, ⟨hEn, by rw [ht2]; exact hP, va_K.moved ha hK, hD⟩, hS.F ht2⟩) hS.2.2 (Nat.le_of_ble_eq_true rfl) (Nat.le_of_ble_eq_true rfl)
    · obtain ⟨⟨hP1, hK1, hD1⟩, hz9⟩ := hB
      rw [ht] at hP1
      rw [ht] at hz9
      refine w_tight (hq0.trans hz9) ?_
      have hq0 := hq0.trans hz9
      obtain ⟨hP, hD⟩ := va_joinQ (wr := [(ps, .inl (cV, 32, .inr (.inr (.inr (.inr h9)))))]) (w1 := [(p1, .inr (3, [.ref pb, .int (nI k2), .ref ps])), (pb, .inl (cB, 16384, .inl g2))]) hP hD [0, 1] [2] rfl rfl (by decide) (by decide) hk1 hFc hP1 hD1
      generalize H1 = H at hP hS hq0 ⊢
      have hP : va_P (dC, dI) classes ([(ps, .inl (cV, 32, .inr (.inr (.inr (.inr h9))))), (p1, .inr (3, [.ref pb, .int (nI k2), .ref ps])), (pb, .inl (cB, 16384, .inl g2))] ++ va_pl L f) H := hP
      have hD : va_D A ([(ps, .inl (cV, 32, .inr (.inr (.inr (.inr h9))))), (p1, .inr (3, [.ref pb, .int (nI k2), .ref ps])), (pb, .inl (cB, 16384, .inl g2))] ++ va_pl L f) := hD
      have hP := hP.part (cx := [(p1, .inr (3, [.ref pb, .int (nI k2), .ref ps])), (pb, .inl (cB, 16384, .inl g2)), (ps, .inl (cV, 32, .inr (.inr (.inr (.inr h9)))))]) [1, 2, 0] rfl
      have hD := hD.part (cx := [(p1, .inr (3, [.ref pb, .int (nI k2), .ref ps])), (pb, .inl (cB, 16384, .inl g2)), (ps, .inl (cV, 32, .inr (.inr (.inr (.inr h9)))))]) [1, 2, 0] (by decide) rfl
      have hk2 : k2 ≤ 16384 := hw
      refine lv_aload_n hx hb d_Printer_line_11 rfl (lv_at hl 0 rfl) ?_
      refine lv_aload_n hx hb d_Printer_line_12 rfl (lv_at hl 1 rfl) ?_
      refine lv_iconst (v := 0) hx hb d_Printer_line_13 (by decide) ?_
      have hPc := hP.part (cx := [(p1, .inr (3, [.ref pb, .int (nI k2), .ref ps])), (pb, .inl (cB, 16384, .inl g2))]) [0, 1] rfl
      have hDc := hD.part (cx := [(p1, .inr (3, [.ref pb, .int (nI k2), .ref ps])), (pb, .inl (cB, 16384, .inl g2))]) [0, 1] (by decide) rfl
      have hFc := va_freeP (cx := [(p1, .inr (3, [.ref pb, .int (nI k2), .ref ps])), (pb, .inl (cB, 16384, .inl g2))]) hD hS hA [0, 1] rfl
      have hKc := hK.sub (tys' := [(cB, .byte), (cI, .int), (cV, .object "QueryBench$Value")]) [0, 1, 2] rfl
      refine w_same (fun hq0 => ?_)
      refine vx_callv (vx_runV (As := [.ref nd, .int 0]) (rest := []) ⟨hx, hb, hml, hown, hts⟩ ((c_PVall l hl9 K dC dI cI cV E lv L f hO cB p1 pb ps 32 0 rfl) H g2 k2 hk2 nd hnd) (cwV 2 hts (gt_V (own := R_Printer) (C := R_Printer) (i := 29) (y := y_Printer_value) i_Printer_value z_987 z_989 (gt_sel (y := y_Printer_value) (n := 3) (by decide +kernel)) w_6) rfl rfl rfl (by decide +kernel) ⟨by show 14 + 2 * 32 + 1 ≤ 80; omega, by show 8 + (3 + 11) + (300 + 60 * 32) ≤ 2300; omega⟩) ⟨ml_blind, va_recv hK hP (ci := 3) (q0 := 0) rfl rfl, fun U hU hW => ⟨rfl, ⟨hU, by rw [hU]; exact hPc, va_K.moved hW.alike hKc, hDc.weaken (fun _ _ _ _ => trivial)⟩, hN.warm hW, by rw [hU]; exact ZX.moved' hW.alike (ZX.narrow' (ZX.kept' hZ hS.2.1) hFc), by rw [hU]; exact CE.call hC hS.2.1 hFc hW, va_AO.moved hW.alike hV⟩⟩ rfl rfl hl.1 rfl (lv_room (Nat.le_of_ble_eq_true rfl)) d_Printer_line_14 ⟨Nat.le_of_ble_eq_true rfl, Nat.le_of_ble_eq_true rfl⟩) hS (fun q _ h => hFc q h) hFc (fun q _ h => hFc q h) (fun En ce q9 ⟨kx, gx⟩ t9 H1 locs ht hvm hw hB hz1 hk1 hS hce hcv hcl => ?_) (fun ⟨k3, g3⟩ t9 H1 locs ht hvm hw hB hz1 hk1 hS => ?_)
      · obtain ⟨hEn, hP1, hK1, hD1⟩ := hB
        rw [ht] at hP1
        obtain ⟨hP, hD⟩ := va_joinP (wr := [(ps, .inl (cV, 32, .inr (.inr (.inr (.inr h9)))))]) (rx := [(p1, .inr (3, [.ref pb, .int kx, .ref ps])), (pb, .inl (cB, 16384, .inl gx))]) (pl1 := va_pl L f) hP hD [0, 1] [2] rfl rfl (by decide) (by decide) hk1 hFc hP1 hD1
        generalize H1 = H at hP hS hce ⊢
        have hP : va_P (dC, dI) classes ([(ps, .inl (cV, 32, .inr (.inr (.inr (.inr h9))))), (p1, .inr (3, [.ref pb, .int kx, .ref ps])), (pb, .inl (cB, 16384, .inl gx))] ++ va_pl L f) H := hP
        have hD : va_D A ([(ps, .inl (cV, 32, .inr (.inr (.inr (.inr h9))))), (p1, .inr (3, [.ref pb, .int kx, .ref ps])), (pb, .inl (cB, 16384, .inl gx))] ++ va_pl L f) := hD
        have hP := hP.part (cx := [(p1, .inr (3, [.ref pb, .int kx, .ref ps])), (pb, .inl (cB, 16384, .inl gx)), (ps, .inl (cV, 32, .inr (.inr (.inr (.inr h9)))))]) [1, 2, 0] rfl
        have hD := hD.part (cx := [(p1, .inr (3, [.ref pb, .int kx, .ref ps])), (pb, .inl (cB, 16384, .inl gx)), (ps, .inl (cV, 32, .inr (.inr (.inr (.inr h9)))))]) [1, 2, 0] (by decide) rfl
        exact vx_out (fun x hx => (hex x hx).elim) hlocks hce hcv hcl (fun t9 ht2 ha => ⟨(kx, gx, h9), trivial, ⟨hEn, by rw [ht2]; exact hP, va_K.moved ha hK, hD⟩, hS.F ht2⟩) hS.2.2 (Nat.le_of_ble_eq_true rfl) (Nat.le_of_ble_eq_true rfl)
      · obtain ⟨⟨hP1, hK1, hD1⟩, hz9⟩ := hB
        rw [ht] at hP1
        rw [ht] at hz9
        refine w_tight (hq0.trans hz9) ?_
        have hq0 := hq0.trans hz9
        obtain ⟨hP, hD⟩ := va_joinP (wr := [(ps, .inl (cV, 32, .inr (.inr (.inr (.inr h9)))))]) (rx := [(p1, .inr (3, [.ref pb, .int (nI k3), .ref ps])), (pb, .inl (cB, 16384, .inl g3))]) (pl1 := va_pl L f) hP hD [0, 1] [2] rfl rfl (by decide) (by decide) hk1 hFc hP1 hD1
        generalize H1 = H at hP hS hq0 ⊢
        have hP : va_P (dC, dI) classes ([(ps, .inl (cV, 32, .inr (.inr (.inr (.inr h9))))), (p1, .inr (3, [.ref pb, .int (nI k3), .ref ps])), (pb, .inl (cB, 16384, .inl g3))] ++ va_pl L f) H := hP
        have hD : va_D A ([(ps, .inl (cV, 32, .inr (.inr (.inr (.inr h9))))), (p1, .inr (3, [.ref pb, .int (nI k3), .ref ps])), (pb, .inl (cB, 16384, .inl g3))] ++ va_pl L f) := hD
        have hP := hP.part (cx := [(p1, .inr (3, [.ref pb, .int (nI k3), .ref ps])), (pb, .inl (cB, 16384, .inl g3)), (ps, .inl (cV, 32, .inr (.inr (.inr (.inr h9)))))]) [1, 2, 0] rfl
        have hD := hD.part (cx := [(p1, .inr (3, [.ref pb, .int (nI k3), .ref ps])), (pb, .inl (cB, 16384, .inl g3)), (ps, .inl (cV, 32, .inr (.inr (.inr (.inr h9)))))]) [1, 2, 0] (by decide) rfl
        have hk3 : k3 ≤ 16384 := hw
        refine lv_aload_n hx hb d_Printer_line_17 rfl (lv_at hl 0 rfl) ?_
        refine lv_bipush (v := 10) hx hb d_Printer_line_18 (by decide) ?_
        have hPc := hP.sub (ws' := [(p1, .inr (3, [.ref pb, .int (nI k3), .ref ps])), (pb, .inl (cB, 16384, .inl g3))]) [0, 1] rfl
        have hDc := hD.sub (ws' := [(p1, .inr (3, [.ref pb, .int (nI k3), .ref ps])), (pb, .inl (cB, 16384, .inl g3))]) [0, 1] (by decide) rfl
        have hFc := va_free (wc := [(p1, .inr (3, [.ref pb, .int (nI k3), .ref ps])), (pb, .inl (cB, 16384, .inl g3))]) hD hS hA [0, 1] rfl
        have hKc := hK.sub (tys' := [(cB, .byte)]) [0] rfl
        refine w_same (fun hq0 => ?_)
        refine vx_callv (vx_runV (As := [.int 10]) (rest := []) ⟨hx, hb, hml, hown, hts⟩ (w_put l hl9 dC dI cB p1 pb H (.ref ps) g3 k3 10 hk3) (cwV 1 hts (gt_V (own := R_Printer) (C := R_Printer) (i := 25) (y := y_Printer_put) i_Printer_put w_957 w_959 (gt_sel (y := y_Printer_put) (n := 3) (by decide +kernel)) w_6) rfl rfl rfl (by decide +kernel) ⟨Nat.le_of_ble_eq_true rfl, Nat.le_of_ble_eq_true rfl⟩) ⟨mx_blind, va_recv hK hP (ci := 3) (q0 := 0) rfl rfl, fun U hU hW => ⟨rfl, ⟨hU, by rw [hU]; exact hPc, va_K.moved hW.alike hKc, hDc.weaken (fun _ _ _ _ => trivial)⟩, hN.warm hW, by rw [hU]; exact ZX.moved' hW.alike (ZX.narrow' (ZX.kept' hZ hS.2.1) hFc)⟩⟩ rfl rfl hl.1 rfl (lv_room (Nat.le_of_ble_eq_true rfl)) d_Printer_line_20 ⟨Nat.le_of_ble_eq_true rfl, Nat.le_of_ble_eq_true rfl⟩) hS (fun q _ h => hFc q h) hFc (fun q _ h => hFc q h) (fun En ce q9 ⟨kx, gx⟩ t9 H1 locs ht hvm hw hB hz1 hk1 hS hce hcv hcl => ?_) (fun ⟨k4, g4⟩ t9 H1 locs ht hvm hw hB hz1 hk1 hS => ?_)
        · obtain ⟨hEn, hP1, hK1, hD1⟩ := hB
          rw [ht] at hP1
          obtain ⟨hP, hD⟩ := va_joinQ (wr := [(ps, .inl (cV, 32, .inr (.inr (.inr (.inr h9)))))]) (w1 := [(p1, .inr (3, [.ref pb, .int (nI kx), .ref ps])), (pb, .inl (cB, 16384, .inl gx))]) hP hD [0, 1] [2] rfl rfl (by decide) (by decide) hk1 hFc hP1 hD1
          generalize H1 = H at hP hS hce ⊢
          have hP : va_P (dC, dI) classes ([(ps, .inl (cV, 32, .inr (.inr (.inr (.inr h9))))), (p1, .inr (3, [.ref pb, .int (nI kx), .ref ps])), (pb, .inl (cB, 16384, .inl gx))] ++ va_pl L f) H := hP
          have hD : va_D A ([(ps, .inl (cV, 32, .inr (.inr (.inr (.inr h9))))), (p1, .inr (3, [.ref pb, .int (nI kx), .ref ps])), (pb, .inl (cB, 16384, .inl gx))] ++ va_pl L f) := hD
          have hP := hP.part (cx := [(p1, .inr (3, [.ref pb, .int (nI kx), .ref ps])), (pb, .inl (cB, 16384, .inl gx)), (ps, .inl (cV, 32, .inr (.inr (.inr (.inr h9)))))]) [1, 2, 0] rfl
          have hD := hD.part (cx := [(p1, .inr (3, [.ref pb, .int (nI kx), .ref ps])), (pb, .inl (cB, 16384, .inl gx)), (ps, .inl (cV, 32, .inr (.inr (.inr (.inr h9)))))]) [1, 2, 0] (by decide) rfl
          exact vx_out (fun x hx => (hex x hx).elim) hlocks hce hcv hcl (fun t9 ht2 ha => ⟨(nI kx, gx, h9), trivial, ⟨hEn, by rw [ht2]; exact hP, va_K.moved ha hK, hD⟩, hS.F ht2⟩) hS.2.2 (Nat.le_of_ble_eq_true rfl) (Nat.le_of_ble_eq_true rfl)
        · obtain ⟨⟨hP1, hK1, hD1⟩, hz9⟩ := hB
          rw [ht] at hP1
          rw [ht] at hz9
          refine w_tight (hq0.trans hz9) ?_
          have hq0 := hq0.trans hz9
          obtain ⟨hP, hD⟩ := va_joinQ (wr := [(ps, .inl (cV, 32, .inr (.inr (.inr (.inr h9)))))]) (w1 := [(p1, .inr (3, [.ref pb, .int (nI k4), .ref ps])), (pb, .inl (cB, 16384, .inl g4))]) hP hD [0, 1] [2] rfl rfl (by decide) (by decide) hk1 hFc hP1 hD1
          generalize H1 = H at hP hS hq0 ⊢
          have hP : va_P (dC, dI) classes ([(ps, .inl (cV, 32, .inr (.inr (.inr (.inr h9))))), (p1, .inr (3, [.ref pb, .int (nI k4), .ref ps])), (pb, .inl (cB, 16384, .inl g4))] ++ va_pl L f) H := hP
          have hD : va_D A ([(ps, .inl (cV, 32, .inr (.inr (.inr (.inr h9))))), (p1, .inr (3, [.ref pb, .int (nI k4), .ref ps])), (pb, .inl (cB, 16384, .inl g4))] ++ va_pl L f) := hD
          have hP := hP.part (cx := [(p1, .inr (3, [.ref pb, .int (nI k4), .ref ps])), (pb, .inl (cB, 16384, .inl g4)), (ps, .inl (cV, 32, .inr (.inr (.inr (.inr h9)))))]) [1, 2, 0] rfl
          have hD := hD.part (cx := [(p1, .inr (3, [.ref pb, .int (nI k4), .ref ps])), (pb, .inl (cB, 16384, .inl g4)), (ps, .inl (cV, 32, .inr (.inr (.inr (.inr h9)))))]) [1, 2, 0] (by decide) rfl
          have hk4 : k4 ≤ 16384 := hw
          refine w_same (fun hq => ?_)
          refine W.widen (k := 1) (n := 6) (Nat.le_of_ble_eq_true rfl) (Nat.le_of_ble_eq_true rfl) ?_
          refine vx_ret ?_
          exact W.vret hx hb hr (fun t9 ht hW => ⟨⟨(k4, g4, h9), rfl, hk4, ⟨by rw [ht]; exact hP, va_K.moved hW.alike hK, hD⟩, by rw [ht]; exact hq⟩, hS.F ht⟩) hS.2.2 d_Printer_line_23
