theorem w_1051 : (.fieldLink "QueryBenchModel" 398 "QueryBenchModel$Tree" "parents" "[I" : Cond) ∈ gtbl := gt_in 1051 (by decide +kernel) (by decide +kernel)
theorem w_1565 : (.methodLink "QueryBenchModel" 401 ⟨"QueryBenchModel", "path", "(I)V"⟩ : Cond) ∈ gtbl := gt_in 1565 (by decide +kernel) (by decide +kernel)
theorem w_1567 : (.instanceMethod ⟨"QueryBenchModel", "path", "(I)V"⟩ : Cond) ∈ gtbl := gt_in 1567 (by decide +kernel) (by decide +kernel)
abbrev b_Mo_path : ByteArray := prog_14_method_63_code
def y_Mo_path : MethodName := ⟨"QueryBenchModel", "path", "(I)V"⟩
abbrev k_Mo_path : Cond := .code y_Mo_path b_Mo_path 5 none
theorem i_Mo_path : k_Mo_path ∈ gtbl := gt_in 1568 (by decide +kernel) (by decide +kernel)
theorem d_Mo_path_0 : decode b_Mo_path 0 = .ok (.aload_n 0, 1) := by decide +kernel
theorem d_Mo_path_1 : decode b_Mo_path 1 = .ok (.getfield 45, 3) := by decide +kernel
theorem d_Mo_path_4 : decode b_Mo_path 4 = .ok (.getfield 398, 3) := by decide +kernel
theorem d_Mo_path_7 : decode b_Mo_path 7 = .ok (.iload_n 1, 1) := by decide +kernel
theorem d_Mo_path_8 : decode b_Mo_path 8 = .ok (.iaload, 1) := by decide +kernel
theorem d_Mo_path_9 : decode b_Mo_path 9 = .ok (.istore_n 2, 1) := by decide +kernel
theorem d_Mo_path_10 : decode b_Mo_path 10 = .ok (.iload_n 2, 1) := by decide +kernel
theorem d_Mo_path_11 : decode b_Mo_path 11 = .ok (.ifCond .ge 10, 3) := by decide +kernel
theorem d_Mo_path_14 : decode b_Mo_path 14 = .ok (.aload_n 0, 1) := by decide +kernel
theorem d_Mo_path_15 : decode b_Mo_path 15 = .ok (.bipush 36, 2) := by decide +kernel
theorem d_Mo_path_17 : decode b_Mo_path 17 = .ok (.invokevirtual 239, 3) := by decide +kernel
theorem d_Mo_path_20 : decode b_Mo_path 20 = .ok (.return_, 1) := by decide +kernel
theorem d_Mo_path_21 : decode b_Mo_path 21 = .ok (.aload_n 0, 1) := by decide +kernel
theorem d_Mo_path_22 : decode b_Mo_path 22 = .ok (.iload_n 2, 1) := by decide +kernel
theorem d_Mo_path_23 : decode b_Mo_path 23 = .ok (.invokevirtual 401, 3) := by decide +kernel
theorem d_Mo_path_26 : decode b_Mo_path 26 = .ok (.aload_n 0, 1) := by decide +kernel
theorem d_Mo_path_27 : decode b_Mo_path 27 = .ok (.bipush 91, 2) := by decide +kernel
theorem d_Mo_path_29 : decode b_Mo_path 29 = .ok (.invokevirtual 239, 3) := by decide +kernel
theorem d_Mo_path_32 : decode b_Mo_path 32 = .ok (.aload_n 0, 1) := by decide +kernel
theorem d_Mo_path_33 : decode b_Mo_path 33 = .ok (.getfield 45, 3) := by decide +kernel
theorem d_Mo_path_36 : decode b_Mo_path 36 = .ok (.getfield 65, 3) := by decide +kernel
theorem d_Mo_path_39 : decode b_Mo_path 39 = .ok (.iload_n 2, 1) := by decide +kernel
theorem d_Mo_path_40 : decode b_Mo_path 40 = .ok (.iaload, 1) := by decide +kernel
theorem d_Mo_path_41 : decode b_Mo_path 41 = .ok (.bipush 6, 2) := by decide +kernel
theorem d_Mo_path_43 : decode b_Mo_path 43 = .ok (.if_icmp .ne 34, 3) := by decide +kernel
theorem d_Mo_path_46 : decode b_Mo_path 46 = .ok (.aload_n 0, 1) := by decide +kernel
theorem d_Mo_path_47 : decode b_Mo_path 47 = .ok (.aload_n 0, 1) := by decide +kernel
theorem d_Mo_path_48 : decode b_Mo_path 48 = .ok (.getfield 45, 3) := by decide +kernel
theorem d_Mo_path_51 : decode b_Mo_path 51 = .ok (.aload_n 0, 1) := by decide +kernel
theorem d_Mo_path_52 : decode b_Mo_path 52 = .ok (.getfield 45, 3) := by decide +kernel
theorem d_Mo_path_55 : decode b_Mo_path 55 = .ok (.getfield 89, 3) := by decide +kernel
theorem d_Mo_path_58 : decode b_Mo_path 58 = .ok (.iload_n 1, 1) := by decide +kernel
theorem d_Mo_path_59 : decode b_Mo_path 59 = .ok (.iaload, 1) := by decide +kernel
theorem d_Mo_path_60 : decode b_Mo_path 60 = .ok (.aload_n 0, 1) := by decide +kernel
theorem d_Mo_path_61 : decode b_Mo_path 61 = .ok (.getfield 45, 3) := by decide +kernel
theorem d_Mo_path_64 : decode b_Mo_path 64 = .ok (.getfield 92, 3) := by decide +kernel
theorem d_Mo_path_67 : decode b_Mo_path 67 = .ok (.iload_n 1, 1) := by decide +kernel
theorem d_Mo_path_68 : decode b_Mo_path 68 = .ok (.iaload, 1) := by decide +kernel
theorem d_Mo_path_69 : decode b_Mo_path 69 = .ok (.bipush 39, 2) := by decide +kernel
theorem d_Mo_path_71 : decode b_Mo_path 71 = .ok (.invokevirtual 256, 3) := by decide +kernel
theorem d_Mo_path_74 : decode b_Mo_path 74 = .ok (.goto 46, 3) := by decide +kernel
theorem d_Mo_path_77 : decode b_Mo_path 77 = .ok (.iconst 0, 1) := by decide +kernel
theorem d_Mo_path_78 : decode b_Mo_path 78 = .ok (.istore_n 3, 1) := by decide +kernel
theorem d_Mo_path_79 : decode b_Mo_path 79 = .ok (.aload_n 0, 1) := by decide +kernel
theorem d_Mo_path_80 : decode b_Mo_path 80 = .ok (.getfield 45, 3) := by decide +kernel
theorem d_Mo_path_83 : decode b_Mo_path 83 = .ok (.getfield 75, 3) := by decide +kernel
theorem d_Mo_path_86 : decode b_Mo_path 86 = .ok (.iload_n 2, 1) := by decide +kernel
theorem d_Mo_path_87 : decode b_Mo_path 87 = .ok (.iaload, 1) := by decide +kernel
theorem d_Mo_path_88 : decode b_Mo_path 88 = .ok (.istore 4, 2) := by decide +kernel
theorem d_Mo_path_90 : decode b_Mo_path 90 = .ok (.iload 4, 2) := by decide +kernel
theorem d_Mo_path_92 : decode b_Mo_path 92 = .ok (.iload_n 1, 1) := by decide +kernel
theorem d_Mo_path_93 : decode b_Mo_path 93 = .ok (.if_icmp .eq 21, 3) := by decide +kernel
theorem d_Mo_path_96 : decode b_Mo_path 96 = .ok (.iinc 3 1, 3) := by decide +kernel
theorem d_Mo_path_99 : decode b_Mo_path 99 = .ok (.aload_n 0, 1) := by decide +kernel
theorem d_Mo_path_100 : decode b_Mo_path 100 = .ok (.getfield 45, 3) := by decide +kernel
theorem d_Mo_path_103 : decode b_Mo_path 103 = .ok (.getfield 82, 3) := by decide +kernel
theorem d_Mo_path_106 : decode b_Mo_path 106 = .ok (.iload 4, 2) := by decide +kernel
theorem d_Mo_path_108 : decode b_Mo_path 108 = .ok (.iaload, 1) := by decide +kernel
theorem d_Mo_path_109 : decode b_Mo_path 109 = .ok (.istore 4, 2) := by decide +kernel
theorem d_Mo_path_111 : decode b_Mo_path 111 = .ok (.goto (-21), 3) := by decide +kernel
theorem d_Mo_path_114 : decode b_Mo_path 114 = .ok (.aload_n 0, 1) := by decide +kernel
theorem d_Mo_path_115 : decode b_Mo_path 115 = .ok (.iload_n 3, 1) := by decide +kernel
theorem d_Mo_path_116 : decode b_Mo_path 116 = .ok (.i2l, 1) := by decide +kernel
theorem d_Mo_path_117 : decode b_Mo_path 117 = .ok (.invokevirtual 253, 3) := by decide +kernel
theorem d_Mo_path_120 : decode b_Mo_path 120 = .ok (.aload_n 0, 1) := by decide +kernel
theorem d_Mo_path_121 : decode b_Mo_path 121 = .ok (.bipush 93, 2) := by decide +kernel
theorem d_Mo_path_123 : decode b_Mo_path 123 = .ok (.invokevirtual 239, 3) := by decide +kernel
theorem d_Mo_path_126 : decode b_Mo_path 126 = .ok (.return_, 1) := by decide +kernel
/-- what path does, k nodes below the root -/
def PTC (k : Nat) : Prop := ∀ (l : Launch) (dC : Nat → ClassId) (dI : Nat → Nat → Nat) (mo : Nat) (sz : Heap) (v : Nat → Value) (cB cI cL cC : ClassId) (qo : Nat) (s0 : PS) (K : Nat → Nat × Nat) (t : Nat) (T : TS) (nd : Nat) (xv : JVt 32) (rp : List Nat), s0.1 ≤ 16384 → v 10 = .ref qo → v 18 = .ref t → TOK T → T.ct ≤ 4096 → nd < T.ct → RepV T 32 0 T.ct xv → rp.length = k → AP T rp nd → Met l y_Mo_path (k_Mo_path :: gtbl) ({ frames := 7 + k, cells := 0, slots := 0, locals := 160 + 40 * k }) (va_Pc [.ref mo, .int (nI nd)] (me K dC dI [(mo, .inr (13, MF 30 (nf v s0.1 s0.2.1))), (qo, .inl (cB, 16392, .inl s0.2.2)), (t, .inr (12, MF 13 (tw T))), (T.a0, .inl (cI, T.N, .inl T.kd)), (T.a1, .inl (cL, T.N, .inr (.inl T.nu))), (T.a2, .inl (cI, T.N, .inl T.st)), (T.a3, .inl (cI, T.N, .inl T.ln)), (T.a4, .inl (cI, T.N, .inl T.ki)), (T.a5, .inl (cI, T.N, .inl T.nx)), (T.a6, .inl (cI, T.N, .inl T.ns)), (T.a7, .inl (cI, T.N, .inl T.nl)), (T.a8, .inl (cI, T.N, .inl T.pa)), (T.a9, .inl (cI, T.N, .inl T.pl)), (T.au, .inl (cC, T.U, .inl T.un))] [(cB, .byte), (cI, .int), (cL, .long), (cC, .char)] sz)) (va_Qv (fun (u : PS) => u = penL s0 ([36] ++ pthJ ⟨32, xv⟩ rp.reverse)) (fun u t9 => mz dC dI [(mo, .inr (13, MF 30 (nf v u.1 u.2.1))), (qo, .inl (cB, 16392, .inl u.2.2)), (t, .inr (12, MF 13 (tw T))), (T.a0, .inl (cI, T.N, .inl T.kd)), (T.a1, .inl (cL, T.N, .inr (.inl T.nu))), (T.a2, .inl (cI, T.N, .inl T.st)), (T.a3, .inl (cI, T.N, .inl T.ln)), (T.a4, .inl (cI, T.N, .inl T.ki)), (T.a5, .inl (cI, T.N, .inl T.nx)), (T.a6, .inl (cI, T.N, .inl T.ns)), (T.a7, .inl (cI, T.N, .inl T.nl)), (T.a8, .inl (cI, T.N, .inl T.pa)), (T.a9, .inl (cI, T.N, .inl T.pl)), (T.au, .inl (cC, T.U, .inl T.un))] [(cB, .byte), (cI, .int), (cL, .long), (cC, .char)] (va_A [(mo, .inr (13, MF 30 (nf v s0.1 s0.2.1))), (qo, .inl (cB, 16392, .inl s0.2.2)), (t, .inr (12, MF 13 (tw T))), (T.a0, .inl (cI, T.N, .inl T.kd)), (T.a1, .inl (cL, T.N, .inr (.inl T.nu))), (T.a2, .inl (cI, T.N, .inl T.st)), (T.a3, .inl (cI, T.N, .inl T.ln)), (T.a4, .inl (cI, T.N, .inl T.ki)), (T.a5, .inl (cI, T.N, .inl T.nx)), (T.a6, .inl (cI, T.N, .inl T.ns)), (T.a7, .inl (cI, T.N, .inl T.nl)), (T.a8, .inl (cI, T.N, .inl T.pa)), (T.a9, .inl (cI, T.N, .inl T.pl)), (T.au, .inl (cC, T.U, .inl T.un))] sz.size) t9) (va_A [(mo, .inr (13, MF 30 (nf v s0.1 s0.2.1))), (qo, .inl (cB, 16392, .inl s0.2.2)), (t, .inr (12, MF 13 (tw T))), (T.a0, .inl (cI, T.N, .inl T.kd)), (T.a1, .inl (cL, T.N, .inr (.inl T.nu))), (T.a2, .inl (cI, T.N, .inl T.st)), (T.a3, .inl (cI, T.N, .inl T.ln)), (T.a4, .inl (cI, T.N, .inl T.ki)), (T.a5, .inl (cI, T.N, .inl T.nx)), (T.a6, .inl (cI, T.N, .inl T.ns)), (T.a7, .inl (cI, T.N, .inl T.nl)), (T.a8, .inl (cI, T.N, .inl T.pa)), (T.a9, .inl (cI, T.N, .inl T.pl)), (T.au, .inl (cC, T.U, .inl T.un))] sz.size)) 0 0 (va_A [(mo, .inr (13, MF 30 (nf v s0.1 s0.2.1))), (qo, .inl (cB, 16392, .inl s0.2.2)), (t, .inr (12, MF 13 (tw T))), (T.a0, .inl (cI, T.N, .inl T.kd)), (T.a1, .inl (cL, T.N, .inr (.inl T.nu))), (T.a2, .inl (cI, T.N, .inl T.st)), (T.a3, .inl (cI, T.N, .inl T.ln)), (T.a4, .inl (cI, T.N, .inl T.ki)), (T.a5, .inl (cI, T.N, .inl T.nx)), (T.a6, .inl (cI, T.N, .inl T.ns)), (T.a7, .inl (cI, T.N, .inl T.nl)), (T.a8, .inl (cI, T.N, .inl T.pa)), (T.a9, .inl (cI, T.N, .inl T.pl)), (T.au, .inl (cC, T.U, .inl T.un))] sz.size)
set_option maxHeartbeats 4000000 in
set_option maxRecDepth 100000 in
/-- the reference: path -/
theorem c_path0 : PTC 0 := by
  intro l dC dI mo sz v cB cI cL cC qo s0 K t T nd xv rp hk0 h10 h18 hT hct hnd hRV hrp hA9
  refine Met.ofW (cc := b_Mo_path) (maxL := 5) (ret := none) (by decide) rfl ?_
  intro p e s m args below meth c s₁ B hml hv
  obtain ⟨rfl, ⟨hsz, hP, hK, hD0⟩, hM⟩ := hv
  have hx := B.exec
  have hb := B.bytes
  have hr := B.returns
  have hts0 := atoms_spec (ws := k_Mo_path :: gtbl) B.pre
  have hts := fun w h => hts0 w (List.mem_cons_of_mem _ h)
  have hown : s.vm.findClass R_Mo = some m.cls := findClass_of_methodNamed B.named
  have hlocks := B.notSynchronized
  subst hsz
  have hD := hD0.self (sz := s.heap.size)
  generalize hAe : va_A [(mo, .inr (13, MF 30 (nf v s0.1 s0.2.1))), (qo, .inl (cB, 16392, .inl s0.2.2)), (t, .inr (12, MF 13 (tw T))), (T.a0, .inl (cI, T.N, .inl T.kd)), (T.a1, .inl (cL, T.N, .inr (.inl T.nu))), (T.a2, .inl (cI, T.N, .inl T.st)), (T.a3, .inl (cI, T.N, .inl T.ln)), (T.a4, .inl (cI, T.N, .inl T.ki)), (T.a5, .inl (cI, T.N, .inl T.nx)), (T.a6, .inl (cI, T.N, .inl T.ns)), (T.a7, .inl (cI, T.N, .inl T.nl)), (T.a8, .inl (cI, T.N, .inl T.pa)), (T.a9, .inl (cI, T.N, .inl T.pl)), (T.au, .inl (cC, T.U, .inl T.un))] s.heap.size = A at hD hM ⊢
  have hA : ∀ q : Nat, s.heap.size ≤ q → A q := fun q h => by rw [← hAe]; exact Or.inr h
  have hS : va_S A s.heap s.heap [] := va_S.rf
  have hP : va_P (dC, dI) classes [(mo, .inr (13, MF 30 (nf v s0.1 s0.2.1))), (qo, .inl (cB, 16392, .inl s0.2.2)), (t, .inr (12, MF 13 (tw T))), (T.a0, .inl (cI, T.N, .inl T.kd)), (T.a1, .inl (cL, T.N, .inr (.inl T.nu))), (T.a2, .inl (cI, T.N, .inl T.st)), (T.a3, .inl (cI, T.N, .inl T.ln)), (T.a4, .inl (cI, T.N, .inl T.ki)), (T.a5, .inl (cI, T.N, .inl T.nx)), (T.a6, .inl (cI, T.N, .inl T.ns)), (T.a7, .inl (cI, T.N, .inl T.nl)), (T.a8, .inl (cI, T.N, .inl T.pa)), (T.a9, .inl (cI, T.N, .inl T.pl)), (T.au, .inl (cC, T.U, .inl T.un))] s.heap := hP
  have hl := lv_entry ([.ref mo, .int (nI nd)]) (n := 5) (Nat.le_of_ble_eq_true rfl)
  rw [lg_entry_eq]
  generalize (lg_sl ([.ref mo, .int (nI nd)]) ++ List.replicate (5 - (lg_sl ([.ref mo, .int (nI nd)])).length) Slot.unset).toArray = ls at hl ⊢
  have hl : lv_has ls 5 [(0, .ref mo), (1, .int (nI nd))] := hl
  have hk_s0 := hk0
  obtain ⟨ho1, ho2, ho3, ho4, ho5, ho6, ho7⟩ := hT
  have hT : TOK T := ⟨ho1, ho2, ho3, ho4, ho5, ho6, ho7⟩
  have hL_s0 : s0 = penL s0 [] := rfl
  obtain rfl : rp = [] := List.length_eq_zero_iff.mp hrp
  obtain ⟨hA9, -⟩ := hA9
  refine lv_aload_n hx hb d_Mo_path_0 rfl (lv_at hl 0 rfl) ?_
  refine va_get (D := (dC, dI)) (ci := 13) (v := .ref t) (C := R_Mo) (T := F_Mo) (N := 30) hx hb hts in_Mo hown hK hP 0 rfl rfl 18 (by decide) (hts _ w_1107) (fun _ h9 => h9) (MFg (by decide) ((nf_ne (by decide) (by decide)).trans h18)) d_Mo_path_1 ?_
  refine va_get (D := (dC, dI)) (ci := 12) (v := .ref T.a8) (C := R_Tree) (T := F_Tree) (N := 13) hx hb hts in_Tree hown hK hP 2 rfl rfl 8 (by decide) (hts _ w_1051) (fun _ h9 => h9) (MFg (by decide) rfl) d_Mo_path_4 ?_
  refine lv_iload_n hx hb d_Mo_path_7 rfl (lv_at hl 1 rfl) ?_
  refine va_iald hx hb hK hP 11 1 rfl rfl (vp_in_nI (show nd < T.N by omega) (by omega)) d_Mo_path_8 ?_
  rw [show (nI nd).toNatClampNeg = nd from nI_clamp (by omega)]
  refine W.eq (g2 := F0 m 9 ls [.int (-1)]) (by rw [show (T.pa nd) = (-1) from hA9]) ?_
  refine lv_istore_n (lv' := [(2, .int (-1)), (0, .ref mo), (1, .int (nI nd))]) hx hb d_Mo_path_9 rfl hl (by decide) rfl (fun ls hl => ?_)
  refine lv_iload_n hx hb d_Mo_path_10 rfl (lv_at hl 0 rfl) ?_
  refine lv_if_ge (tgt := 21) hx hb d_Mo_path_11 (by decide) (fun h => absurd h (by decide)) (fun _ => ?_)
  refine lv_aload_n hx hb d_Mo_path_14 rfl (lv_at hl 1 rfl) ?_
  refine lv_bipush (v := 36) hx hb d_Mo_path_15 (by decide) ?_
  have hPc := hP.sub (ws' := [(mo, .inr (13, MF 30 (nf v s0.1 s0.2.1))), (qo, .inl (cB, 16392, .inl s0.2.2))]) [0, 1] rfl
  have hDc := hD.sub (ws' := [(mo, .inr (13, MF 30 (nf v s0.1 s0.2.1))), (qo, .inl (cB, 16392, .inl s0.2.2))]) [0, 1] (by decide) rfl
  have hKc := hK.sub (tys' := [(cB, .byte)]) [0] rfl
  have hFc := va_free (wc := [(mo, .inr (13, MF 30 (nf v s0.1 s0.2.1))), (qo, .inl (cB, 16392, .inl s0.2.2))]) hD hS hA [0, 1] rfl
  refine va_callv (va_runV (As := [.int 36]) (rest := []) ⟨hx, hb, hml, hown, hts⟩ (c_Mo_pen l dC dI mo s.heap v cB qo s0 36 hk_s0 h10) (cwV 1 hts (gt_V (own := R_Mo) (C := R_Mo) (i := 239) (y := y_Mo_write) i_Mo_write w_1374 w_1376 (gt_sel (y := y_Mo_write) (n := 30) (by decide +kernel)) w_7) rfl rfl rfl (by decide +kernel) ⟨Nat.le_trans (m := 7) (Nat.le_of_ble_eq_true rfl) (by show 7 ≤ 7 + 0; omega), Nat.le_trans (m := 160) (Nat.le_of_ble_eq_true rfl) (by show 160 ≤ 160 + 40 * 0; omega)⟩) ⟨mp_blind, va_recv hKc hPc (ci := 13) (q0 := 0) rfl rfl, fun U hU hW => ⟨rfl, hU, by rw [hU]; exact hPc, va_K.moved hW.alike hKc, hDc.weaken (fun _ _ _ _ => trivial)⟩⟩ rfl rfl hl.1 rfl (lv_room (Nat.le_of_ble_eq_true rfl)) d_Mo_path_17 ⟨Nat.zero_le _, Nat.zero_le _⟩) hS (fun q _ h => hFc q h) hFc (fun s1 t9 H1 locs ht hvm hw hB hz1 hk1 hS => ?_)
  obtain ⟨hP1, hK1, hD1⟩ := hB
  rw [ht] at hP1
  obtain ⟨hP, hD⟩ := va_join (wr := [(t, .inr (12, MF 13 (tw T))), (T.a0, .inl (cI, T.N, .inl T.kd)), (T.a1, .inl (cL, T.N, .inr (.inl T.nu))), (T.a2, .inl (cI, T.N, .inl T.st)), (T.a3, .inl (cI, T.N, .inl T.ln)), (T.a4, .inl (cI, T.N, .inl T.ki)), (T.a5, .inl (cI, T.N, .inl T.nx)), (T.a6, .inl (cI, T.N, .inl T.ns)), (T.a7, .inl (cI, T.N, .inl T.nl)), (T.a8, .inl (cI, T.N, .inl T.pa)), (T.a9, .inl (cI, T.N, .inl T.pl)), (T.au, .inl (cC, T.U, .inl T.un))]) (w1 := [(mo, .inr (13, MF 30 (nf v s1.1 s1.2.1))), (qo, .inl (cB, 16392, .inl s1.2.2))]) hP hD [0, 1] [2, 3, 4, 5, 6, 7, 8, 9, 10, 11, 12, 13] rfl rfl (by decide) (by decide) hk1 hFc hP1 hD1
  generalize H1 = H at hP hS ⊢
  have hP : va_P (dC, dI) classes [(t, .inr (12, MF 13 (tw T))), (T.a0, .inl (cI, T.N, .inl T.kd)), (T.a1, .inl (cL, T.N, .inr (.inl T.nu))), (T.a2, .inl (cI, T.N, .inl T.st)), (T.a3, .inl (cI, T.N, .inl T.ln)), (T.a4, .inl (cI, T.N, .inl T.ki)), (T.a5, .inl (cI, T.N, .inl T.nx)), (T.a6, .inl (cI, T.N, .inl T.ns)), (T.a7, .inl (cI, T.N, .inl T.nl)), (T.a8, .inl (cI, T.N, .inl T.pa)), (T.a9, .inl (cI, T.N, .inl T.pl)), (T.au, .inl (cC, T.U, .inl T.un)), (mo, .inr (13, MF 30 (nf v s1.1 s1.2.1))), (qo, .inl (cB, 16392, .inl s1.2.2))] H := hP
  have hD : va_D A [(t, .inr (12, MF 13 (tw T))), (T.a0, .inl (cI, T.N, .inl T.kd)), (T.a1, .inl (cL, T.N, .inr (.inl T.nu))), (T.a2, .inl (cI, T.N, .inl T.st)), (T.a3, .inl (cI, T.N, .inl T.ln)), (T.a4, .inl (cI, T.N, .inl T.ki)), (T.a5, .inl (cI, T.N, .inl T.nx)), (T.a6, .inl (cI, T.N, .inl T.ns)), (T.a7, .inl (cI, T.N, .inl T.nl)), (T.a8, .inl (cI, T.N, .inl T.pa)), (T.a9, .inl (cI, T.N, .inl T.pl)), (T.au, .inl (cC, T.U, .inl T.un)), (mo, .inr (13, MF 30 (nf v s1.1 s1.2.1))), (qo, .inl (cB, 16392, .inl s1.2.2))] := hD
  have hP := hP.sub (ws' := [(mo, .inr (13, MF 30 (nf v s1.1 s1.2.1))), (qo, .inl (cB, 16392, .inl s1.2.2)), (t, .inr (12, MF 13 (tw T))), (T.a0, .inl (cI, T.N, .inl T.kd)), (T.a1, .inl (cL, T.N, .inr (.inl T.nu))), (T.a2, .inl (cI, T.N, .inl T.st)), (T.a3, .inl (cI, T.N, .inl T.ln)), (T.a4, .inl (cI, T.N, .inl T.ki)), (T.a5, .inl (cI, T.N, .inl T.nx)), (T.a6, .inl (cI, T.N, .inl T.ns)), (T.a7, .inl (cI, T.N, .inl T.nl)), (T.a8, .inl (cI, T.N, .inl T.pa)), (T.a9, .inl (cI, T.N, .inl T.pl)), (T.au, .inl (cC, T.U, .inl T.un))]) [12, 13, 0, 1, 2, 3, 4, 5, 6, 7, 8, 9, 10, 11] rfl
  have hD := hD.sub (ws' := [(mo, .inr (13, MF 30 (nf v s1.1 s1.2.1))), (qo, .inl (cB, 16392, .inl s1.2.2)), (t, .inr (12, MF 13 (tw T))), (T.a0, .inl (cI, T.N, .inl T.kd)), (T.a1, .inl (cL, T.N, .inr (.inl T.nu))), (T.a2, .inl (cI, T.N, .inl T.st)), (T.a3, .inl (cI, T.N, .inl T.ln)), (T.a4, .inl (cI, T.N, .inl T.ki)), (T.a5, .inl (cI, T.N, .inl T.nx)), (T.a6, .inl (cI, T.N, .inl T.ns)), (T.a7, .inl (cI, T.N, .inl T.nl)), (T.a8, .inl (cI, T.N, .inl T.pa)), (T.a9, .inl (cI, T.N, .inl T.pl)), (T.au, .inl (cC, T.U, .inl T.un))]) [12, 13, 0, 1, 2, 3, 4, 5, 6, 7, 8, 9, 10, 11] (by decide) rfl
  have hw : s1 = pen1 s0 36 := hw
  have hk_s1 : s1.1 ≤ 16384 := by rw [hw]; exact pen1_le hk_s0
  have hL_s1 : s1 = penL s0 ([] ++ [36]) := hw.trans (by rw [← penL_snoc, ← hL_s0])
  clear hw
  have hfin : s1 = penL s0 ([36] ++ pthJ ⟨32, xv⟩ ([] : List Nat).reverse) := hL_s1
  exact W.vret hx hb hr (fun t9 ht hW => ⟨⟨s1, rfl, hfin, by rw [ht]; exact hP, va_K.moved hW.alike hK, hD⟩, hS.F ht⟩) hS.2.2 d_Mo_path_20
set_option maxHeartbeats 4000000 in
set_option maxRecDepth 100000 in
/-- the reference: path -/
theorem c_pathS (k : Nat) (hk9 : k + 1 ≤ 40) (hI9 : PTC k) : PTC (k + 1) := by
  intro l dC dI mo sz v cB cI cL cC qo s0 K t T nd xv rp hk0 h10 h18 hT hct hnd hRV hrp hA9
  refine Met.ofW (cc := b_Mo_path) (maxL := 5) (ret := none) (by decide) rfl ?_
  intro p e s m args below meth c s₁ B hml hv
  obtain ⟨rfl, ⟨hsz, hP, hK, hD0⟩, hM⟩ := hv
  have hx := B.exec
  have hb := B.bytes
  have hr := B.returns
  have hts0 := atoms_spec (ws := k_Mo_path :: gtbl) B.pre
  have hts := fun w h => hts0 w (List.mem_cons_of_mem _ h)
  have hown : s.vm.findClass R_Mo = some m.cls := findClass_of_methodNamed B.named
  have hlocks := B.notSynchronized
  subst hsz
  have hD := hD0.self (sz := s.heap.size)
  generalize hAe : va_A [(mo, .inr (13, MF 30 (nf v s0.1 s0.2.1))), (qo, .inl (cB, 16392, .inl s0.2.2)), (t, .inr (12, MF 13 (tw T))), (T.a0, .inl (cI, T.N, .inl T.kd)), (T.a1, .inl (cL, T.N, .inr (.inl T.nu))), (T.a2, .inl (cI, T.N, .inl T.st)), (T.a3, .inl (cI, T.N, .inl T.ln)), (T.a4, .inl (cI, T.N, .inl T.ki)), (T.a5, .inl (cI, T.N, .inl T.nx)), (T.a6, .inl (cI, T.N, .inl T.ns)), (T.a7, .inl (cI, T.N, .inl T.nl)), (T.a8, .inl (cI, T.N, .inl T.pa)), (T.a9, .inl (cI, T.N, .inl T.pl)), (T.au, .inl (cC, T.U, .inl T.un))] s.heap.size = A at hD hM ⊢
  have hA : ∀ q : Nat, s.heap.size ≤ q → A q := fun q h => by rw [← hAe]; exact Or.inr h
  have hS : va_S A s.heap s.heap [] := va_S.rf
  have hP : va_P (dC, dI) classes [(mo, .inr (13, MF 30 (nf v s0.1 s0.2.1))), (qo, .inl (cB, 16392, .inl s0.2.2)), (t, .inr (12, MF 13 (tw T))), (T.a0, .inl (cI, T.N, .inl T.kd)), (T.a1, .inl (cL, T.N, .inr (.inl T.nu))), (T.a2, .inl (cI, T.N, .inl T.st)), (T.a3, .inl (cI, T.N, .inl T.ln)), (T.a4, .inl (cI, T.N, .inl T.ki)), (T.a5, .inl (cI, T.N, .inl T.nx)), (T.a6, .inl (cI, T.N, .inl T.ns)), (T.a7, .inl (cI, T.N, .inl T.nl)), (T.a8, .inl (cI, T.N, .inl T.pa)), (T.a9, .inl (cI, T.N, .inl T.pl)), (T.au, .inl (cC, T.U, .inl T.un))] s.heap := hP
  have hl := lv_entry ([.ref mo, .int (nI nd)]) (n := 5) (Nat.le_of_ble_eq_true rfl)
  rw [lg_entry_eq]
  generalize (lg_sl ([.ref mo, .int (nI nd)]) ++ List.replicate (5 - (lg_sl ([.ref mo, .int (nI nd)])).length) Slot.unset).toArray = ls at hl ⊢
  have hl : lv_has ls 5 [(0, .ref mo), (1, .int (nI nd))] := hl
  have hk_s0 := hk0
  obtain ⟨ho1, ho2, ho3, ho4, ho5, ho6, ho7⟩ := hT
  have hT : TOK T := ⟨ho1, ho2, ho3, ho4, ho5, ho6, ho7⟩
  have hL_s0 : s0 = penL s0 [] := rfl
  obtain ⟨i9, rp9, rfl⟩ : ∃ i r, rp = i :: r := by
    cases rp with
    | nil => cases hrp
    | cons i r => exact ⟨i, r, rfl⟩
  have hrp : rp9.length = k := Nat.succ.inj hrp
  obtain ⟨p9, ks, hpa, hpc, hch, hix, hnm, hAp⟩ := hA9
  have hmem := List.mem_of_getElem? hix
  have hstp := AP.step (show T.ct ≤ 1000000 by omega) hRV hch hix hAp
  refine lv_aload_n hx hb d_Mo_path_0 rfl (lv_at hl 0 rfl) ?_
  refine va_get (D := (dC, dI)) (ci := 13) (v := .ref t) (C := R_Mo) (T := F_Mo) (N := 30) hx hb hts in_Mo hown hK hP 0 rfl rfl 18 (by decide) (hts _ w_1107) (fun _ h9 => h9) (MFg (by decide) ((nf_ne (by decide) (by decide)).trans h18)) d_Mo_path_1 ?_
  refine va_get (D := (dC, dI)) (ci := 12) (v := .ref T.a8) (C := R_Tree) (T := F_Tree) (N := 13) hx hb hts in_Tree hown hK hP 2 rfl rfl 8 (by decide) (hts _ w_1051) (fun _ h9 => h9) (MFg (by decide) rfl) d_Mo_path_4 ?_
  refine lv_iload_n hx hb d_Mo_path_7 rfl (lv_at hl 1 rfl) ?_
  refine va_iald hx hb hK hP 11 1 rfl rfl (vp_in_nI (show nd < T.N by omega) (by omega)) d_Mo_path_8 ?_
  rw [show (nI nd).toNatClampNeg = nd from nI_clamp (by omega)]
  refine W.eq (g2 := F0 m 9 ls [.int (nI p9)]) (by rw [show (T.pa nd) = (nI p9) from hpa]) ?_
  refine lv_istore_n (lv' := [(2, .int (nI p9)), (0, .ref mo), (1, .int (nI nd))]) hx hb d_Mo_path_9 rfl hl (by decide) rfl (fun ls hl => ?_)
  refine lv_iload_n hx hb d_Mo_path_10 rfl (lv_at hl 0 rfl) ?_
  refine lv_if_ge (tgt := 21) hx hb d_Mo_path_11 (by decide) (fun _ => ?_) (fun h => absurd (nI_pos' (by omega)) h)
  refine lv_aload_n hx hb d_Mo_path_21 rfl (lv_at hl 1 rfl) ?_
  refine lv_iload_n hx hb d_Mo_path_22 rfl (lv_at hl 0 rfl) ?_
  have hPc := hP.sub (ws' := [(mo, .inr (13, MF 30 (nf v s0.1 s0.2.1))), (qo, .inl (cB, 16392, .inl s0.2.2)), (t, .inr (12, MF 13 (tw T))), (T.a0, .inl (cI, T.N, .inl T.kd)), (T.a1, .inl (cL, T.N, .inr (.inl T.nu))), (T.a2, .inl (cI, T.N, .inl T.st)), (T.a3, .inl (cI, T.N, .inl T.ln)), (T.a4, .inl (cI, T.N, .inl T.ki)), (T.a5, .inl (cI, T.N, .inl T.nx)), (T.a6, .inl (cI, T.N, .inl T.ns)), (T.a7, .inl (cI, T.N, .inl T.nl)), (T.a8, .inl (cI, T.N, .inl T.pa)), (T.a9, .inl (cI, T.N, .inl T.pl)), (T.au, .inl (cC, T.U, .inl T.un))]) [0, 1, 2, 3, 4, 5, 6, 7, 8, 9, 10, 11, 12, 13] rfl
  have hDc := hD.sub (ws' := [(mo, .inr (13, MF 30 (nf v s0.1 s0.2.1))), (qo, .inl (cB, 16392, .inl s0.2.2)), (t, .inr (12, MF 13 (tw T))), (T.a0, .inl (cI, T.N, .inl T.kd)), (T.a1, .inl (cL, T.N, .inr (.inl T.nu))), (T.a2, .inl (cI, T.N, .inl T.st)), (T.a3, .inl (cI, T.N, .inl T.ln)), (T.a4, .inl (cI, T.N, .inl T.ki)), (T.a5, .inl (cI, T.N, .inl T.nx)), (T.a6, .inl (cI, T.N, .inl T.ns)), (T.a7, .inl (cI, T.N, .inl T.nl)), (T.a8, .inl (cI, T.N, .inl T.pa)), (T.a9, .inl (cI, T.N, .inl T.pl)), (T.au, .inl (cC, T.U, .inl T.un))]) [0, 1, 2, 3, 4, 5, 6, 7, 8, 9, 10, 11, 12, 13] (by decide) rfl
  have hKc := hK.sub (tys' := [(cB, .byte), (cI, .int), (cL, .long), (cC, .char)]) [0, 1, 2, 3] rfl
  have hFc := va_free (wc := [(mo, .inr (13, MF 30 (nf v s0.1 s0.2.1))), (qo, .inl (cB, 16392, .inl s0.2.2)), (t, .inr (12, MF 13 (tw T))), (T.a0, .inl (cI, T.N, .inl T.kd)), (T.a1, .inl (cL, T.N, .inr (.inl T.nu))), (T.a2, .inl (cI, T.N, .inl T.st)), (T.a3, .inl (cI, T.N, .inl T.ln)), (T.a4, .inl (cI, T.N, .inl T.ki)), (T.a5, .inl (cI, T.N, .inl T.nx)), (T.a6, .inl (cI, T.N, .inl T.ns)), (T.a7, .inl (cI, T.N, .inl T.nl)), (T.a8, .inl (cI, T.N, .inl T.pa)), (T.a9, .inl (cI, T.N, .inl T.pl)), (T.au, .inl (cC, T.U, .inl T.un))]) hD hS hA [0, 1, 2, 3, 4, 5, 6, 7, 8, 9, 10, 11, 12, 13] rfl
  refine va_callv (va_runV (As := [.int (nI p9)]) (rest := []) ⟨hx, hb, hml, hown, hts⟩ (hI9 l dC dI mo s.heap v cB cI cL cC qo s0 K t T p9 xv rp9 hk_s0 h10 h18 hT hct hpc hRV hrp hAp) (cwV 1 hts (gt_V (own := R_Mo) (C := R_Mo) (i := 401) (y := y_Mo_path) i_Mo_path w_1565 w_1567 (gt_sel (y := y_Mo_path) (n := 30) (by decide +kernel)) w_7) rfl rfl rfl (by decide +kernel) ⟨by show 7 + k + 1 ≤ 7 + (k + 1); omega, by show 8 + (5 + 11) + (160 + 40 * k) ≤ 160 + 40 * (k + 1); omega⟩) ⟨me_blind, va_recv hKc hPc (ci := 13) (q0 := 0) rfl rfl, fun U hU hW => ⟨rfl, ⟨hU, by rw [hU]; exact hPc, va_K.moved hW.alike hKc, hDc.weaken (fun _ _ _ _ => trivial)⟩, by rw [hU]; exact ME.call hM hS.2.1 hFc hW⟩⟩ rfl rfl hl.1 rfl (lv_room (Nat.le_of_ble_eq_true rfl)) d_Mo_path_23 ⟨Nat.zero_le _, Nat.zero_le _⟩) hS (fun q _ h => hFc q h) hFc (fun s1 t9 H1 locs ht hvm hw hB hz1 hk1 hS => ?_)
  obtain ⟨hP1, hK1, hD1⟩ := hB
  rw [ht] at hP1
  obtain ⟨hP, hD⟩ := va_join (wr := []) (w1 := [(mo, .inr (13, MF 30 (nf v s1.1 s1.2.1))), (qo, .inl (cB, 16392, .inl s1.2.2)), (t, .inr (12, MF 13 (tw T))), (T.a0, .inl (cI, T.N, .inl T.kd)), (T.a1, .inl (cL, T.N, .inr (.inl T.nu))), (T.a2, .inl (cI, T.N, .inl T.st)), (T.a3, .inl (cI, T.N, .inl T.ln)), (T.a4, .inl (cI, T.N, .inl T.ki)), (T.a5, .inl (cI, T.N, .inl T.nx)), (T.a6, .inl (cI, T.N, .inl T.ns)), (T.a7, .inl (cI, T.N, .inl T.nl)), (T.a8, .inl (cI, T.N, .inl T.pa)), (T.a9, .inl (cI, T.N, .inl T.pl)), (T.au, .inl (cC, T.U, .inl T.un))]) hP hD [0, 1, 2, 3, 4, 5, 6, 7, 8, 9, 10, 11, 12, 13] [] rfl rfl (by decide) (by decide) hk1 hFc hP1 hD1
  generalize H1 = H at hP hS ⊢
  have hP : va_P (dC, dI) classes [(mo, .inr (13, MF 30 (nf v s1.1 s1.2.1))), (qo, .inl (cB, 16392, .inl s1.2.2)), (t, .inr (12, MF 13 (tw T))), (T.a0, .inl (cI, T.N, .inl T.kd)), (T.a1, .inl (cL, T.N, .inr (.inl T.nu))), (T.a2, .inl (cI, T.N, .inl T.st)), (T.a3, .inl (cI, T.N, .inl T.ln)), (T.a4, .inl (cI, T.N, .inl T.ki)), (T.a5, .inl (cI, T.N, .inl T.nx)), (T.a6, .inl (cI, T.N, .inl T.ns)), (T.a7, .inl (cI, T.N, .inl T.nl)), (T.a8, .inl (cI, T.N, .inl T.pa)), (T.a9, .inl (cI, T.N, .inl T.pl)), (T.au, .inl (cC, T.U, .inl T.un))] H := hP
  have hD : va_D A [(mo, .inr (13, MF 30 (nf v s1.1 s1.2.1))), (qo, .inl (cB, 16392, .inl s1.2.2)), (t, .inr (12, MF 13 (tw T))), (T.a0, .inl (cI, T.N, .inl T.kd)), (T.a1, .inl (cL, T.N, .inr (.inl T.nu))), (T.a2, .inl (cI, T.N, .inl T.st)), (T.a3, .inl (cI, T.N, .inl T.ln)), (T.a4, .inl (cI, T.N, .inl T.ki)), (T.a5, .inl (cI, T.N, .inl T.nx)), (T.a6, .inl (cI, T.N, .inl T.ns)), (T.a7, .inl (cI, T.N, .inl T.nl)), (T.a8, .inl (cI, T.N, .inl T.pa)), (T.a9, .inl (cI, T.N, .inl T.pl)), (T.au, .inl (cC, T.U, .inl T.un))] := hD
  have hL_s1 : s1 = penL s0 ([36] ++ pthJ ⟨32, xv⟩ rp9.reverse) := hw
  have hk_s1 : s1.1 ≤ 16384 := by rw [hL_s1]; exact penL_le hk_s0 _
  refine lv_aload_n hx hb d_Mo_path_26 rfl (lv_at hl 1 rfl) ?_
  refine lv_bipush (v := 91) hx hb d_Mo_path_27 (by decide) ?_
  have hPc := hP.sub (ws' := [(mo, .inr (13, MF 30 (nf v s1.1 s1.2.1))), (qo, .inl (cB, 16392, .inl s1.2.2))]) [0, 1] rfl
  have hDc := hD.sub (ws' := [(mo, .inr (13, MF 30 (nf v s1.1 s1.2.1))), (qo, .inl (cB, 16392, .inl s1.2.2))]) [0, 1] (by decide) rfl
  have hKc := hK.sub (tys' := [(cB, .byte)]) [0] rfl
  have hFc := va_free (wc := [(mo, .inr (13, MF 30 (nf v s1.1 s1.2.1))), (qo, .inl (cB, 16392, .inl s1.2.2))]) hD hS hA [0, 1] rfl
  refine va_callv (va_runV (As := [.int 91]) (rest := []) ⟨hx, hb, hml, hown, hts⟩ (c_Mo_pen l dC dI mo H v cB qo s1 91 hk_s1 h10) (cwV 1 hts (gt_V (own := R_Mo) (C := R_Mo) (i := 239) (y := y_Mo_write) i_Mo_write w_1374 w_1376 (gt_sel (y := y_Mo_write) (n := 30) (by decide +kernel)) w_7) rfl rfl rfl (by decide +kernel) ⟨Nat.le_trans (m := 7) (Nat.le_of_ble_eq_true rfl) (by show 7 ≤ 7 + (k + 1); omega), Nat.le_trans (m := 160) (Nat.le_of_ble_eq_true rfl) (by show 160 ≤ 160 + 40 * (k + 1); omega)⟩) ⟨mp_blind, va_recv hKc hPc (ci := 13) (q0 := 0) rfl rfl, fun U hU hW => ⟨rfl, hU, by rw [hU]; exact hPc, va_K.moved hW.alike hKc, hDc.weaken (fun _ _ _ _ => trivial)⟩⟩ rfl rfl hl.1 rfl (lv_room (Nat.le_of_ble_eq_true rfl)) d_Mo_path_29 ⟨Nat.zero_le _, Nat.zero_le _⟩) hS (fun q _ h => hFc q h) hFc (fun s2_ t9 H1 locs ht hvm hw hB hz1 hk1 hS => ?_)
  obtain ⟨hP1, hK1, hD1⟩ := hB
  rw [ht] at hP1
  obtain ⟨hP, hD⟩ := va_join (wr := [(t, .inr (12, MF 13 (tw T))), (T.a0, .inl (cI, T.N, .inl T.kd)), (T.a1, .inl (cL, T.N, .inr (.inl T.nu))), (T.a2, .inl (cI, T.N, .inl T.st)), (T.a3, .inl (cI, T.N, .inl T.ln)), (T.a4, .inl (cI, T.N, .inl T.ki)), (T.a5, .inl (cI, T.N, .inl T.nx)), (T.a6, .inl (cI, T.N, .inl T.ns)), (T.a7, .inl (cI, T.N, .inl T.nl)), (T.a8, .inl (cI, T.N, .inl T.pa)), (T.a9, .inl (cI, T.N, .inl T.pl)), (T.au, .inl (cC, T.U, .inl T.un))]) (w1 := [(mo, .inr (13, MF 30 (nf v s2_.1 s2_.2.1))), (qo, .inl (cB, 16392, .inl s2_.2.2))]) hP hD [0, 1] [2, 3, 4, 5, 6, 7, 8, 9, 10, 11, 12, 13] rfl rfl (by decide) (by decide) hk1 hFc hP1 hD1
  generalize H1 = H at hP hS ⊢
  have hP : va_P (dC, dI) classes [(t, .inr (12, MF 13 (tw T))), (T.a0, .inl (cI, T.N, .inl T.kd)), (T.a1, .inl (cL, T.N, .inr (.inl T.nu))), (T.a2, .inl (cI, T.N, .inl T.st)), (T.a3, .inl (cI, T.N, .inl T.ln)), (T.a4, .inl (cI, T.N, .inl T.ki)), (T.a5, .inl (cI, T.N, .inl T.nx)), (T.a6, .inl (cI, T.N, .inl T.ns)), (T.a7, .inl (cI, T.N, .inl T.nl)), (T.a8, .inl (cI, T.N, .inl T.pa)), (T.a9, .inl (cI, T.N, .inl T.pl)), (T.au, .inl (cC, T.U, .inl T.un)), (mo, .inr (13, MF 30 (nf v s2_.1 s2_.2.1))), (qo, .inl (cB, 16392, .inl s2_.2.2))] H := hP
  have hD : va_D A [(t, .inr (12, MF 13 (tw T))), (T.a0, .inl (cI, T.N, .inl T.kd)), (T.a1, .inl (cL, T.N, .inr (.inl T.nu))), (T.a2, .inl (cI, T.N, .inl T.st)), (T.a3, .inl (cI, T.N, .inl T.ln)), (T.a4, .inl (cI, T.N, .inl T.ki)), (T.a5, .inl (cI, T.N, .inl T.nx)), (T.a6, .inl (cI, T.N, .inl T.ns)), (T.a7, .inl (cI, T.N, .inl T.nl)), (T.a8, .inl (cI, T.N, .inl T.pa)), (T.a9, .inl (cI, T.N, .inl T.pl)), (T.au, .inl (cC, T.U, .inl T.un)), (mo, .inr (13, MF 30 (nf v s2_.1 s2_.2.1))), (qo, .inl (cB, 16392, .inl s2_.2.2))] := hD
  have hP := hP.sub (ws' := [(mo, .inr (13, MF 30 (nf v s2_.1 s2_.2.1))), (qo, .inl (cB, 16392, .inl s2_.2.2)), (t, .inr (12, MF 13 (tw T))), (T.a0, .inl (cI, T.N, .inl T.kd)), (T.a1, .inl (cL, T.N, .inr (.inl T.nu))), (T.a2, .inl (cI, T.N, .inl T.st)), (T.a3, .inl (cI, T.N, .inl T.ln)), (T.a4, .inl (cI, T.N, .inl T.ki)), (T.a5, .inl (cI, T.N, .inl T.nx)), (T.a6, .inl (cI, T.N, .inl T.ns)), (T.a7, .inl (cI, T.N, .inl T.nl)), (T.a8, .inl (cI, T.N, .inl T.pa)), (T.a9, .inl (cI, T.N, .inl T.pl)), (T.au, .inl (cC, T.U, .inl T.un))]) [12, 13, 0, 1, 2, 3, 4, 5, 6, 7, 8, 9, 10, 11] rfl
  have hD := hD.sub (ws' := [(mo, .inr (13, MF 30 (nf v s2_.1 s2_.2.1))), (qo, .inl (cB, 16392, .inl s2_.2.2)), (t, .inr (12, MF 13 (tw T))), (T.a0, .inl (cI, T.N, .inl T.kd)), (T.a1, .inl (cL, T.N, .inr (.inl T.nu))), (T.a2, .inl (cI, T.N, .inl T.st)), (T.a3, .inl (cI, T.N, .inl T.ln)), (T.a4, .inl (cI, T.N, .inl T.ki)), (T.a5, .inl (cI, T.N, .inl T.nx)), (T.a6, .inl (cI, T.N, .inl T.ns)), (T.a7, .inl (cI, T.N, .inl T.nl)), (T.a8, .inl (cI, T.N, .inl T.pa)), (T.a9, .inl (cI, T.N, .inl T.pl)), (T.au, .inl (cC, T.U, .inl T.un))]) [12, 13, 0, 1, 2, 3, 4, 5, 6, 7, 8, 9, 10, 11] (by decide) rfl
  have hw : s2_ = pen1 s1 91 := hw
  have hk_s2_ : s2_.1 ≤ 16384 := by rw [hw]; exact pen1_le hk_s1
  have hL_s2_ : s2_ = penL s0 (([36] ++ pthJ ⟨32, xv⟩ rp9.reverse) ++ [91]) := hw.trans (by rw [← penL_snoc, ← hL_s1])
  clear hw
  refine lv_aload_n hx hb d_Mo_path_32 rfl (lv_at hl 1 rfl) ?_
  refine va_get (D := (dC, dI)) (ci := 13) (v := .ref t) (C := R_Mo) (T := F_Mo) (N := 30) hx hb hts in_Mo hown hK hP 0 rfl rfl 18 (by decide) (hts _ w_1107) (fun _ h9 => h9) (MFg (by decide) ((nf_ne (by decide) (by decide)).trans h18)) d_Mo_path_33 ?_
  refine va_get (D := (dC, dI)) (ci := 12) (v := .ref T.a0) (C := R_Tree) (T := F_Tree) (N := 13) hx hb hts in_Tree hown hK hP 2 rfl rfl 0 (by decide) (hts _ w_1035) (fun _ h9 => h9) (MFg (by decide) rfl) d_Mo_path_36 ?_
  refine lv_iload_n hx hb d_Mo_path_39 rfl (lv_at hl 0 rfl) ?_
  refine va_iald hx hb hK hP 3 1 rfl rfl (vp_in_nI (show p9 < T.N by omega) (by omega)) d_Mo_path_40 ?_
  rw [show (nI p9).toNatClampNeg = p9 from nI_clamp (by omega)]
  refine lv_bipush (v := 6) hx hb d_Mo_path_41 (by decide) ?_
  refine lv_icmp_ne (tgt := 77) hx hb d_Mo_path_43 (by decide) (fun c43 => ?_) (fun c43 => ?_)
  · refine lv_iconst (v := 0) hx hb d_Mo_path_77 (by decide) ?_
    refine lv_istore_n (lv' := [(3, .int 0), (2, .int (nI p9)), (0, .ref mo), (1, .int (nI nd))]) hx hb d_Mo_path_78 rfl hl (by decide) rfl (fun ls hl => ?_)
    refine lv_aload_n hx hb d_Mo_path_79 rfl (lv_at hl 2 rfl) ?_
    refine va_get (D := (dC, dI)) (ci := 13) (v := .ref t) (C := R_Mo) (T := F_Mo) (N := 30) hx hb hts in_Mo hown hK hP 0 rfl rfl 18 (by decide) (hts _ w_1107) (fun _ h9 => h9) (MFg (by decide) ((nf_ne (by decide) (by decide)).trans h18)) d_Mo_path_80 ?_
    refine va_get (D := (dC, dI)) (ci := 12) (v := .ref T.a4) (C := R_Tree) (T := F_Tree) (N := 13) hx hb hts in_Tree hown hK hP 2 rfl rfl 4 (by decide) (hts _ w_1043) (fun _ h9 => h9) (MFg (by decide) rfl) d_Mo_path_83 ?_
    refine lv_iload_n hx hb d_Mo_path_86 rfl (lv_at hl 1 rfl) ?_
    refine va_iald hx hb hK hP 7 1 rfl rfl (vp_in_nI (show p9 < T.N by omega) (by omega)) d_Mo_path_87 ?_
    rw [show (nI p9).toNatClampNeg = p9 from nI_clamp (by omega)]
    refine lv_istore (lv' := [(4, .int (T.ki p9)), (3, .int 0), (2, .int (nI p9)), (0, .ref mo), (1, .int (nI nd))]) hx hb d_Mo_path_88 hl (by decide) rfl (fun ls hl => ?_)
    refine w_loop (D := (dC, dI)) (cl := classes) (A := A) (H0 := s.heap) (nL := 5) 90 (σ := List Nat × Int32 × Nat) (fun ⟨cs, k2, i⟩ => chn T.nx T.ct cs k2 ∧ nd ∈ cs ∧ i + cs.length = ks.length ∧ cs = ks.drop i) (fun ⟨cs, k2, i⟩ => cs.length) (fun ⟨cs, k2, i⟩ => [(mo, .inr (13, MF 30 (nf v s2_.1 s2_.2.1))), (qo, .inl (cB, 16392, .inl s2_.2.2)), (t, .inr (12, MF 13 (tw T))), (T.a0, .inl (cI, T.N, .inl T.kd)), (T.a1, .inl (cL, T.N, .inr (.inl T.nu))), (T.a2, .inl (cI, T.N, .inl T.st)), (T.a3, .inl (cI, T.N, .inl T.ln)), (T.a4, .inl (cI, T.N, .inl T.ki)), (T.a5, .inl (cI, T.N, .inl T.nx)), (T.a6, .inl (cI, T.N, .inl T.ns)), (T.a7, .inl (cI, T.N, .inl T.nl)), (T.a8, .inl (cI, T.N, .inl T.pa)), (T.a9, .inl (cI, T.N, .inl T.pl)), (T.au, .inl (cC, T.U, .inl T.un))]) (fun ⟨cs, k2, i⟩ => [(0, .ref mo), (1, .int (nI nd)), (2, .int (nI p9)), (3, .int (nI i)), (4, .int k2)]) ?_ (ks, T.ki p9, 0) ⟨hch, hmem, by show 0 + ks.length = ks.length; omega, rfl⟩ hP hD hS (lv_sub hl [3, 4, 2, 1, 0] rfl)
    rintro ⟨cs, k2, i⟩ H locs ls hI ih hP hD hS hl
    have hP : va_P (dC, dI) classes [(mo, .inr (13, MF 30 (nf v s2_.1 s2_.2.1))), (qo, .inl (cB, 16392, .inl s2_.2.2)), (t, .inr (12, MF 13 (tw T))), (T.a0, .inl (cI, T.N, .inl T.kd)), (T.a1, .inl (cL, T.N, .inr (.inl T.nu))), (T.a2, .inl (cI, T.N, .inl T.st)), (T.a3, .inl (cI, T.N, .inl T.ln)), (T.a4, .inl (cI, T.N, .inl T.ki)), (T.a5, .inl (cI, T.N, .inl T.nx)), (T.a6, .inl (cI, T.N, .inl T.ns)), (T.a7, .inl (cI, T.N, .inl T.nl)), (T.a8, .inl (cI, T.N, .inl T.pa)), (T.a9, .inl (cI, T.N, .inl T.pl)), (T.au, .inl (cC, T.U, .inl T.un))] H := hP
    have hD : va_D A [(mo, .inr (13, MF 30 (nf v s2_.1 s2_.2.1))), (qo, .inl (cB, 16392, .inl s2_.2.2)), (t, .inr (12, MF 13 (tw T))), (T.a0, .inl (cI, T.N, .inl T.kd)), (T.a1, .inl (cL, T.N, .inr (.inl T.nu))), (T.a2, .inl (cI, T.N, .inl T.st)), (T.a3, .inl (cI, T.N, .inl T.ln)), (T.a4, .inl (cI, T.N, .inl T.ki)), (T.a5, .inl (cI, T.N, .inl T.nx)), (T.a6, .inl (cI, T.N, .inl T.ns)), (T.a7, .inl (cI, T.N, .inl T.nl)), (T.a8, .inl (cI, T.N, .inl T.pa)), (T.a9, .inl (cI, T.N, .inl T.pl)), (T.au, .inl (cC, T.U, .inl T.un))] := hD
    have hl : lv_has ls 5 [(0, .ref mo), (1, .int (nI nd)), (2, .int (nI p9)), (3, .int (nI i)), (4, .int k2)] := hl
    obtain ⟨hC, hm2, hil, hcd⟩ := hI
    have hcd : cs = ks.drop i := hcd
    have hcs2 : ∃ k9 r9, cs = k9 :: r9 := by cases cs with | nil => exact absurd hm2 (by simp) | cons a r => exact ⟨a, r, rfl⟩
    obtain ⟨k9, r9, hc0⟩ := hcs2
    rw [hc0] at hC hm2 hil
    have hki : ks[i]? = some k9 := by
      have h9 : (ks.drop i)[0]? = some k9 := by rw [← hcd, hc0]; rfl
      rw [List.getElem?_drop] at h9
      exact h9
    obtain ⟨hk2, hk2c, hC3⟩ := hC
    rw [List.length_cons] at hil
    rw [hk2] at hl
    have hl : lv_has ls 5 [(0, .ref mo), (1, .int (nI nd)), (2, .int (nI p9)), (3, .int (nI i)), (4, .int (nI k9))] := hl
    refine lv_iload hx hb d_Mo_path_90 (lv_at hl 4 rfl) ?_
    refine lv_iload_n hx hb d_Mo_path_92 rfl (lv_at hl 1 rfl) ?_
    refine lv_icmp_eq (tgt := 114) hx hb d_Mo_path_93 (by decide) (fun c93 => ?_) (fun c93 => ?_)
    · refine lv_aload_n hx hb d_Mo_path_114 rfl (lv_at hl 0 rfl) ?_
      refine lv_iload_n hx hb d_Mo_path_115 rfl (lv_at hl 3 rfl) ?_
      refine lv_i2l (v := ((nI i)).toInt64) hx hb d_Mo_path_116 rfl ?_
      have hii : i = i9 := by
        have h9 : k9 = nd := (nI_eq (by omega) (by omega)).mp c93
        rw [h9] at hki
        exact chn_ix (show T.ct ≤ 1000000 by omega) hch hki hix
      have hsm : smL ((((nI i)).toInt64)) := by have h1 := Int32.le_toInt (nI i); have h2 := Int32.toInt_lt (nI i); constructor <;> rw [Int32.toInt_toInt64] <;> omega
      have hPc := hP.sub (ws' := [(mo, .inr (13, MF 30 (nf v s2_.1 s2_.2.1))), (qo, .inl (cB, 16392, .inl s2_.2.2))]) [0, 1] rfl
      have hDc := hD.sub (ws' := [(mo, .inr (13, MF 30 (nf v s2_.1 s2_.2.1))), (qo, .inl (cB, 16392, .inl s2_.2.2))]) [0, 1] (by decide) rfl
      have hKc := hK.sub (tys' := [(cB, .byte)]) [0] rfl
      have hFc := va_free (wc := [(mo, .inr (13, MF 30 (nf v s2_.1 s2_.2.1))), (qo, .inl (cB, 16392, .inl s2_.2.2))]) hD hS hA [0, 1] rfl
      refine va_callv (va_runV (As := [.long (((nI i)).toInt64)]) (rest := []) ⟨hx, hb, hml, hown, hts⟩ (c_Mo_numberJ l dC dI mo H v cB qo s2_ ((((nI i)).toInt64)) hk_s2_ h10 hsm) (cwV 1 hts (gt_V (own := R_Mo) (C := R_Mo) (i := 253) (y := y_Mo_numberJ) i_Mo_numberJ w_1378 w_1380 (gt_sel (y := y_Mo_numberJ) (n := 30) (by decide +kernel)) w_7) rfl rfl rfl (by decide +kernel) ⟨Nat.le_trans (m := 7) (Nat.le_of_ble_eq_true rfl) (by show 7 ≤ 7 + (k + 1); omega), Nat.le_trans (m := 160) (Nat.le_of_ble_eq_true rfl) (by show 160 ≤ 160 + 40 * (k + 1); omega)⟩) ⟨mp_blind, va_recv hKc hPc (ci := 13) (q0 := 0) rfl rfl, fun U hU hW => ⟨rfl, hU, by rw [hU]; exact hPc, va_K.moved hW.alike hKc, hDc.weaken (fun _ _ _ _ => trivial)⟩⟩ rfl rfl hl.1 rfl (lv_room (Nat.le_of_ble_eq_true rfl)) d_Mo_path_117 ⟨Nat.zero_le _, Nat.zero_le _⟩) hS (fun q _ h => hFc q h) hFc (fun _u t9 H1 locs ht hvm hw hB hz1 hk1 hS => ?_)
      obtain ⟨hP1, hK1, hD1⟩ := hB
      rw [ht] at hP1
      obtain ⟨hP, hD⟩ := va_join (wr := [(t, .inr (12, MF 13 (tw T))), (T.a0, .inl (cI, T.N, .inl T.kd)), (T.a1, .inl (cL, T.N, .inr (.inl T.nu))), (T.a2, .inl (cI, T.N, .inl T.st)), (T.a3, .inl (cI, T.N, .inl T.ln)), (T.a4, .inl (cI, T.N, .inl T.ki)), (T.a5, .inl (cI, T.N, .inl T.nx)), (T.a6, .inl (cI, T.N, .inl T.ns)), (T.a7, .inl (cI, T.N, .inl T.nl)), (T.a8, .inl (cI, T.N, .inl T.pa)), (T.a9, .inl (cI, T.N, .inl T.pl)), (T.au, .inl (cC, T.U, .inl T.un))]) (w1 := [(mo, .inr (13, MF 30 (nf v (penL s2_ (nmB ((((nI i)).toInt64)))).1 (penL s2_ (nmB ((((nI i)).toInt64)))).2.1))), (qo, .inl (cB, 16392, .inl (penL s2_ (nmB ((((nI i)).toInt64)))).2.2))]) hP hD [0, 1] [2, 3, 4, 5, 6, 7, 8, 9, 10, 11, 12, 13] rfl rfl (by decide) (by decide) hk1 hFc hP1 hD1
      generalize H1 = H at hP hS ⊢
      have hP : va_P (dC, dI) classes [(t, .inr (12, MF 13 (tw T))), (T.a0, .inl (cI, T.N, .inl T.kd)), (T.a1, .inl (cL, T.N, .inr (.inl T.nu))), (T.a2, .inl (cI, T.N, .inl T.st)), (T.a3, .inl (cI, T.N, .inl T.ln)), (T.a4, .inl (cI, T.N, .inl T.ki)), (T.a5, .inl (cI, T.N, .inl T.nx)), (T.a6, .inl (cI, T.N, .inl T.ns)), (T.a7, .inl (cI, T.N, .inl T.nl)), (T.a8, .inl (cI, T.N, .inl T.pa)), (T.a9, .inl (cI, T.N, .inl T.pl)), (T.au, .inl (cC, T.U, .inl T.un)), (mo, .inr (13, MF 30 (nf v (penL s2_ (nmB ((((nI i)).toInt64)))).1 (penL s2_ (nmB ((((nI i)).toInt64)))).2.1))), (qo, .inl (cB, 16392, .inl (penL s2_ (nmB ((((nI i)).toInt64)))).2.2))] H := hP
      have hD : va_D A [(t, .inr (12, MF 13 (tw T))), (T.a0, .inl (cI, T.N, .inl T.kd)), (T.a1, .inl (cL, T.N, .inr (.inl T.nu))), (T.a2, .inl (cI, T.N, .inl T.st)), (T.a3, .inl (cI, T.N, .inl T.ln)), (T.a4, .inl (cI, T.N, .inl T.ki)), (T.a5, .inl (cI, T.N, .inl T.nx)), (T.a6, .inl (cI, T.N, .inl T.ns)), (T.a7, .inl (cI, T.N, .inl T.nl)), (T.a8, .inl (cI, T.N, .inl T.pa)), (T.a9, .inl (cI, T.N, .inl T.pl)), (T.au, .inl (cC, T.U, .inl T.un)), (mo, .inr (13, MF 30 (nf v (penL s2_ (nmB ((((nI i)).toInt64)))).1 (penL s2_ (nmB ((((nI i)).toInt64)))).2.1))), (qo, .inl (cB, 16392, .inl (penL s2_ (nmB ((((nI i)).toInt64)))).2.2))] := hD
      have hP := hP.sub (ws' := [(mo, .inr (13, MF 30 (nf v (penL s2_ (nmB ((((nI i)).toInt64)))).1 (penL s2_ (nmB ((((nI i)).toInt64)))).2.1))), (qo, .inl (cB, 16392, .inl (penL s2_ (nmB ((((nI i)).toInt64)))).2.2)), (t, .inr (12, MF 13 (tw T))), (T.a0, .inl (cI, T.N, .inl T.kd)), (T.a1, .inl (cL, T.N, .inr (.inl T.nu))), (T.a2, .inl (cI, T.N, .inl T.st)), (T.a3, .inl (cI, T.N, .inl T.ln)), (T.a4, .inl (cI, T.N, .inl T.ki)), (T.a5, .inl (cI, T.N, .inl T.nx)), (T.a6, .inl (cI, T.N, .inl T.ns)), (T.a7, .inl (cI, T.N, .inl T.nl)), (T.a8, .inl (cI, T.N, .inl T.pa)), (T.a9, .inl (cI, T.N, .inl T.pl)), (T.au, .inl (cC, T.U, .inl T.un))]) [12, 13, 0, 1, 2, 3, 4, 5, 6, 7, 8, 9, 10, 11] rfl
      have hD := hD.sub (ws' := [(mo, .inr (13, MF 30 (nf v (penL s2_ (nmB ((((nI i)).toInt64)))).1 (penL s2_ (nmB ((((nI i)).toInt64)))).2.1))), (qo, .inl (cB, 16392, .inl (penL s2_ (nmB ((((nI i)).toInt64)))).2.2)), (t, .inr (12, MF 13 (tw T))), (T.a0, .inl (cI, T.N, .inl T.kd)), (T.a1, .inl (cL, T.N, .inr (.inl T.nu))), (T.a2, .inl (cI, T.N, .inl T.st)), (T.a3, .inl (cI, T.N, .inl T.ln)), (T.a4, .inl (cI, T.N, .inl T.ki)), (T.a5, .inl (cI, T.N, .inl T.nx)), (T.a6, .inl (cI, T.N, .inl T.ns)), (T.a7, .inl (cI, T.N, .inl T.nl)), (T.a8, .inl (cI, T.N, .inl T.pa)), (T.a9, .inl (cI, T.N, .inl T.pl)), (T.au, .inl (cC, T.U, .inl T.un))]) [12, 13, 0, 1, 2, 3, 4, 5, 6, 7, 8, 9, 10, 11] (by decide) rfl
      obtain ⟨s3, hs3⟩ : ∃ z : PS, z = (penL s2_ (nmB ((((nI i)).toInt64)))) := ⟨_, rfl⟩
      have hk_s3 : s3.1 ≤ 16384 := by rw [hs3]; exact penL_le hk_s2_ _
      rw [← hs3] at hP hD
      have hL_s3 : s3 = penL s0 ((([36] ++ pthJ ⟨32, xv⟩ rp9.reverse) ++ [91]) ++ (nmB ((((nI i)).toInt64)))) := hs3.trans (by rw [← penL_app, ← hL_s2_])
      have hP : va_P (dC, dI) classes [(mo, .inr (13, MF 30 (nf v s3.1 s3.2.1))), (qo, .inl (cB, 16392, .inl s3.2.2)), (t, .inr (12, MF 13 (tw T))), (T.a0, .inl (cI, T.N, .inl T.kd)), (T.a1, .inl (cL, T.N, .inr (.inl T.nu))), (T.a2, .inl (cI, T.N, .inl T.st)), (T.a3, .inl (cI, T.N, .inl T.ln)), (T.a4, .inl (cI, T.N, .inl T.ki)), (T.a5, .inl (cI, T.N, .inl T.nx)), (T.a6, .inl (cI, T.N, .inl T.ns)), (T.a7, .inl (cI, T.N, .inl T.nl)), (T.a8, .inl (cI, T.N, .inl T.pa)), (T.a9, .inl (cI, T.N, .inl T.pl)), (T.au, .inl (cC, T.U, .inl T.un))] H := hP
      have hD : va_D A [(mo, .inr (13, MF 30 (nf v s3.1 s3.2.1))), (qo, .inl (cB, 16392, .inl s3.2.2)), (t, .inr (12, MF 13 (tw T))), (T.a0, .inl (cI, T.N, .inl T.kd)), (T.a1, .inl (cL, T.N, .inr (.inl T.nu))), (T.a2, .inl (cI, T.N, .inl T.st)), (T.a3, .inl (cI, T.N, .inl T.ln)), (T.a4, .inl (cI, T.N, .inl T.ki)), (T.a5, .inl (cI, T.N, .inl T.nx)), (T.a6, .inl (cI, T.N, .inl T.ns)), (T.a7, .inl (cI, T.N, .inl T.nl)), (T.a8, .inl (cI, T.N, .inl T.pa)), (T.a9, .inl (cI, T.N, .inl T.pl)), (T.au, .inl (cC, T.U, .inl T.un))] := hD
      refine lv_aload_n hx hb d_Mo_path_120 rfl (lv_at hl 0 rfl) ?_
      refine lv_bipush (v := 93) hx hb d_Mo_path_121 (by decide) ?_
      have hPc := hP.sub (ws' := [(mo, .inr (13, MF 30 (nf v s3.1 s3.2.1))), (qo, .inl (cB, 16392, .inl s3.2.2))]) [0, 1] rfl
      have hDc := hD.sub (ws' := [(mo, .inr (13, MF 30 (nf v s3.1 s3.2.1))), (qo, .inl (cB, 16392, .inl s3.2.2))]) [0, 1] (by decide) rfl
      have hKc := hK.sub (tys' := [(cB, .byte)]) [0] rfl
      have hFc := va_free (wc := [(mo, .inr (13, MF 30 (nf v s3.1 s3.2.1))), (qo, .inl (cB, 16392, .inl s3.2.2))]) hD hS hA [0, 1] rfl
      refine va_callv (va_runV (As := [.int 93]) (rest := []) ⟨hx, hb, hml, hown, hts⟩ (c_Mo_pen l dC dI mo H v cB qo s3 93 hk_s3 h10) (cwV 1 hts (gt_V (own := R_Mo) (C := R_Mo) (i := 239) (y := y_Mo_write) i_Mo_write w_1374 w_1376 (gt_sel (y := y_Mo_write) (n := 30) (by decide +kernel)) w_7) rfl rfl rfl (by decide +kernel) ⟨Nat.le_trans (m := 7) (Nat.le_of_ble_eq_true rfl) (by show 7 ≤ 7 + (k + 1); omega), Nat.le_trans (m := 160) (Nat.le_of_ble_eq_true rfl) (by show 160 ≤ 160 + 40 * (k + 1); omega)⟩) ⟨mp_blind, va_recv hKc hPc (ci := 13) (q0 := 0) rfl rfl, fun U hU hW => ⟨rfl, hU, by rw [hU]; exact hPc, va_K.moved hW.alike hKc, hDc.weaken (fun _ _ _ _ => trivial)⟩⟩ rfl rfl hl.1 rfl (lv_room (Nat.le_of_ble_eq_true rfl)) d_Mo_path_123 ⟨Nat.zero_le _, Nat.zero_le _⟩) hS (fun q _ h => hFc q h) hFc (fun s4 t9 H1 locs ht hvm hw hB hz1 hk1 hS => ?_)
      obtain ⟨hP1, hK1, hD1⟩ := hB
      rw [ht] at hP1
      obtain ⟨hP, hD⟩ := va_join (wr := [(t, .inr (12, MF 13 (tw T))), (T.a0, .inl (cI, T.N, .inl T.kd)), (T.a1, .inl (cL, T.N, .inr (.inl T.nu))), (T.a2, .inl (cI, T.N, .inl T.st)), (T.a3, .inl (cI, T.N, .inl T.ln)), (T.a4, .inl (cI, T.N, .inl T.ki)), (T.a5, .inl (cI, T.N, .inl T.nx)), (T.a6, .inl (cI, T.N, .inl T.ns)), (T.a7, .inl (cI, T.N, .inl T.nl)), (T.a8, .inl (cI, T.N, .inl T.pa)), (T.a9, .inl (cI, T.N, .inl T.pl)), (T.au, .inl (cC, T.U, .inl T.un))]) (w1 := [(mo, .inr (13, MF 30 (nf v s4.1 s4.2.1))), (qo, .inl (cB, 16392, .inl s4.2.2))]) hP hD [0, 1] [2, 3, 4, 5, 6, 7, 8, 9, 10, 11, 12, 13] rfl rfl (by decide) (by decide) hk1 hFc hP1 hD1
      generalize H1 = H at hP hS ⊢
      have hP : va_P (dC, dI) classes [(t, .inr (12, MF 13 (tw T))), (T.a0, .inl (cI, T.N, .inl T.kd)), (T.a1, .inl (cL, T.N, .inr (.inl T.nu))), (T.a2, .inl (cI, T.N, .inl T.st)), (T.a3, .inl (cI, T.N, .inl T.ln)), (T.a4, .inl (cI, T.N, .inl T.ki)), (T.a5, .inl (cI, T.N, .inl T.nx)), (T.a6, .inl (cI, T.N, .inl T.ns)), (T.a7, .inl (cI, T.N, .inl T.nl)), (T.a8, .inl (cI, T.N, .inl T.pa)), (T.a9, .inl (cI, T.N, .inl T.pl)), (T.au, .inl (cC, T.U, .inl T.un)), (mo, .inr (13, MF 30 (nf v s4.1 s4.2.1))), (qo, .inl (cB, 16392, .inl s4.2.2))] H := hP
      have hD : va_D A [(t, .inr (12, MF 13 (tw T))), (T.a0, .inl (cI, T.N, .inl T.kd)), (T.a1, .inl (cL, T.N, .inr (.inl T.nu))), (T.a2, .inl (cI, T.N, .inl T.st)), (T.a3, .inl (cI, T.N, .inl T.ln)), (T.a4, .inl (cI, T.N, .inl T.ki)), (T.a5, .inl (cI, T.N, .inl T.nx)), (T.a6, .inl (cI, T.N, .inl T.ns)), (T.a7, .inl (cI, T.N, .inl T.nl)), (T.a8, .inl (cI, T.N, .inl T.pa)), (T.a9, .inl (cI, T.N, .inl T.pl)), (T.au, .inl (cC, T.U, .inl T.un)), (mo, .inr (13, MF 30 (nf v s4.1 s4.2.1))), (qo, .inl (cB, 16392, .inl s4.2.2))] := hD
      have hP := hP.sub (ws' := [(mo, .inr (13, MF 30 (nf v s4.1 s4.2.1))), (qo, .inl (cB, 16392, .inl s4.2.2)), (t, .inr (12, MF 13 (tw T))), (T.a0, .inl (cI, T.N, .inl T.kd)), (T.a1, .inl (cL, T.N, .inr (.inl T.nu))), (T.a2, .inl (cI, T.N, .inl T.st)), (T.a3, .inl (cI, T.N, .inl T.ln)), (T.a4, .inl (cI, T.N, .inl T.ki)), (T.a5, .inl (cI, T.N, .inl T.nx)), (T.a6, .inl (cI, T.N, .inl T.ns)), (T.a7, .inl (cI, T.N, .inl T.nl)), (T.a8, .inl (cI, T.N, .inl T.pa)), (T.a9, .inl (cI, T.N, .inl T.pl)), (T.au, .inl (cC, T.U, .inl T.un))]) [12, 13, 0, 1, 2, 3, 4, 5, 6, 7, 8, 9, 10, 11] rfl
      have hD := hD.sub (ws' := [(mo, .inr (13, MF 30 (nf v s4.1 s4.2.1))), (qo, .inl (cB, 16392, .inl s4.2.2)), (t, .inr (12, MF 13 (tw T))), (T.a0, .inl (cI, T.N, .inl T.kd)), (T.a1, .inl (cL, T.N, .inr (.inl T.nu))), (T.a2, .inl (cI, T.N, .inl T.st)), (T.a3, .inl (cI, T.N, .inl T.ln)), (T.a4, .inl (cI, T.N, .inl T.ki)), (T.a5, .inl (cI, T.N, .inl T.nx)), (T.a6, .inl (cI, T.N, .inl T.ns)), (T.a7, .inl (cI, T.N, .inl T.nl)), (T.a8, .inl (cI, T.N, .inl T.pa)), (T.a9, .inl (cI, T.N, .inl T.pl)), (T.au, .inl (cC, T.U, .inl T.un))]) [12, 13, 0, 1, 2, 3, 4, 5, 6, 7, 8, 9, 10, 11] (by decide) rfl
      have hw : s4 = pen1 s3 93 := hw
      have hk_s4 : s4.1 ≤ 16384 := by rw [hw]; exact pen1_le hk_s3
      have hL_s4 : s4 = penL s0 (((([36] ++ pthJ ⟨32, xv⟩ rp9.reverse) ++ [91]) ++ (nmB ((((nI i)).toInt64)))) ++ [93]) := hw.trans (by rw [← penL_snoc, ← hL_s3])
      clear hw
      have hfin : s4 = penL s0 ([36] ++ pthJ ⟨32, xv⟩ (i9 :: rp9).reverse) := by
        rcases hstp with ⟨h9, -⟩ | ⟨-, h9⟩
        · exact absurd h9 c43
        · rw [h9, ← hii, hL_s4]
          simp only [List.nil_append, List.append_assoc]
      exact W.vret hx hb hr (fun t9 ht hW => ⟨⟨s4, rfl, hfin, by rw [ht]; exact hP, va_K.moved hW.alike hK, hD⟩, hS.F ht⟩) hS.2.2 d_Mo_path_126
    · refine lv_iinc (v := nI (i + 1)) (lv' := [(3, .int (nI (i + 1))), (0, .ref mo), (1, .int (nI nd)), (2, .int (nI p9)), (4, .int (nI k9))]) hx hb d_Mo_path_96 hl (k := 3) rfl (nI_1 _) (by decide) rfl (fun ls hl => ?_)
      refine lv_aload_n hx hb d_Mo_path_99 rfl (lv_at hl 1 rfl) ?_
      refine va_get (D := (dC, dI)) (ci := 13) (v := .ref t) (C := R_Mo) (T := F_Mo) (N := 30) hx hb hts in_Mo hown hK hP 0 rfl rfl 18 (by decide) (hts _ w_1107) (fun _ h9 => h9) (MFg (by decide) ((nf_ne (by decide) (by decide)).trans h18)) d_Mo_path_100 ?_
      refine va_get (D := (dC, dI)) (ci := 12) (v := .ref T.a5) (C := R_Tree) (T := F_Tree) (N := 13) hx hb hts in_Tree hown hK hP 2 rfl rfl 5 (by decide) (hts _ w_1045) (fun _ h9 => h9) (MFg (by decide) rfl) d_Mo_path_103 ?_
      refine lv_iload hx hb d_Mo_path_106 (lv_at hl 4 rfl) ?_
      refine va_iald hx hb hK hP 8 1 rfl rfl (vp_in_nI (show k9 < T.N by omega) (by omega)) d_Mo_path_108 ?_
      rw [show (nI k9).toNatClampNeg = k9 from nI_clamp (by omega)]
      refine lv_istore (lv' := [(4, .int (T.nx k9)), (3, .int (nI (i + 1))), (0, .ref mo), (1, .int (nI nd)), (2, .int (nI p9))]) hx hb d_Mo_path_109 hl (by decide) rfl (fun ls hl => ?_)
      refine lv_goto (tgt := 90) hx hb d_Mo_path_111 (by decide) ?_
      have hm3 : nd ∈ r9 := (List.mem_cons.mp hm2).resolve_left (fun h => c93 (by rw [h]))
      exact ih (r9, T.nx k9, i + 1) _ _ _ ⟨hC3, hm3, by show i + 1 + r9.length = ks.length; omega, by show r9 = ks.drop (i + 1); rw [← List.tail_drop, ← hcd, hc0]; rfl⟩ (by show r9.length < cs.length; rw [hc0]; simp) hP hD hS (lv_sub hl [2, 3, 4, 1, 0] rfl)
  · refine lv_aload_n hx hb d_Mo_path_46 rfl (lv_at hl 1 rfl) ?_
    refine lv_aload_n hx hb d_Mo_path_47 rfl (lv_at hl 1 rfl) ?_
    refine va_get (D := (dC, dI)) (ci := 13) (v := .ref t) (C := R_Mo) (T := F_Mo) (N := 30) hx hb hts in_Mo hown hK hP 0 rfl rfl 18 (by decide) (hts _ w_1107) (fun _ h9 => h9) (MFg (by decide) ((nf_ne (by decide) (by decide)).trans h18)) d_Mo_path_48 ?_
    refine lv_aload_n hx hb d_Mo_path_51 rfl (lv_at hl 1 rfl) ?_
    refine va_get (D := (dC, dI)) (ci := 13) (v := .ref t) (C := R_Mo) (T := F_Mo) (N := 30) hx hb hts in_Mo hown hK hP 0 rfl rfl 18 (by decide) (hts _ w_1107) (fun _ h9 => h9) (MFg (by decide) ((nf_ne (by decide) (by decide)).trans h18)) d_Mo_path_52 ?_
    refine va_get (D := (dC, dI)) (ci := 12) (v := .ref T.a6) (C := R_Tree) (T := F_Tree) (N := 13) hx hb hts in_Tree hown hK hP 2 rfl rfl 6 (by decide) (hts _ w_1047) (fun _ h9 => h9) (MFg (by decide) rfl) d_Mo_path_55 ?_
    refine lv_iload_n hx hb d_Mo_path_58 rfl (lv_at hl 2 rfl) ?_
    obtain ⟨s2, L2, hs2, hL2, hsl⟩ := hnm c43
    refine va_iald hx hb hK hP 9 1 rfl rfl (vp_in_nI (show nd < T.N by omega) (by omega)) d_Mo_path_59 ?_
    rw [show (nI nd).toNatClampNeg = nd from nI_clamp (by omega)]
    refine W.eq (g2 := F0 m 60 ls [.int (nI s2), .ref t, .ref mo]) (by rw [show (T.ns nd) = (nI s2) from hs2]) ?_
    refine lv_aload_n hx hb d_Mo_path_60 rfl (lv_at hl 1 rfl) ?_
    refine va_get (D := (dC, dI)) (ci := 13) (v := .ref t) (C := R_Mo) (T := F_Mo) (N := 30) hx hb hts in_Mo hown hK hP 0 rfl rfl 18 (by decide) (hts _ w_1107) (fun _ h9 => h9) (MFg (by decide) ((nf_ne (by decide) (by decide)).trans h18)) d_Mo_path_61 ?_
    refine va_get (D := (dC, dI)) (ci := 12) (v := .ref T.a7) (C := R_Tree) (T := F_Tree) (N := 13) hx hb hts in_Tree hown hK hP 2 rfl rfl 7 (by decide) (hts _ w_1049) (fun _ h9 => h9) (MFg (by decide) rfl) d_Mo_path_64 ?_
    refine lv_iload_n hx hb d_Mo_path_67 rfl (lv_at hl 2 rfl) ?_
    refine va_iald hx hb hK hP 10 1 rfl rfl (vp_in_nI (show nd < T.N by omega) (by omega)) d_Mo_path_68 ?_
    rw [show (nI nd).toNatClampNeg = nd from nI_clamp (by omega)]
    refine W.eq (g2 := F0 m 69 ls [.int (nI L2), .int (nI s2), .ref t, .ref mo]) (by rw [show (T.nl nd) = (nI L2) from hL2]) ?_
    refine lv_bipush (v := 39) hx hb d_Mo_path_69 (by decide) ?_
    have hPc := hP.sub (ws' := [(mo, .inr (13, MF 30 (nf v s2_.1 s2_.2.1))), (qo, .inl (cB, 16392, .inl s2_.2.2)), (t, .inr (12, MF 13 (tw T))), (T.au, .inl (cC, T.U, .inl T.un))]) [0, 1, 2, 13] rfl
    have hDc := hD.sub (ws' := [(mo, .inr (13, MF 30 (nf v s2_.1 s2_.2.1))), (qo, .inl (cB, 16392, .inl s2_.2.2)), (t, .inr (12, MF 13 (tw T))), (T.au, .inl (cC, T.U, .inl T.un))]) [0, 1, 2, 13] (by decide) rfl
    have hKc := hK.sub (tys' := [(cB, .byte), (cC, .char)]) [0, 3] rfl
    have hFc := va_free (wc := [(mo, .inr (13, MF 30 (nf v s2_.1 s2_.2.1))), (qo, .inl (cB, 16392, .inl s2_.2.2)), (t, .inr (12, MF 13 (tw T))), (T.au, .inl (cC, T.U, .inl T.un))]) hD hS hA [0, 1, 2, 13] rfl
    refine va_callv (va_runV (As := [.ref t, .int (nI s2), .int (nI L2), .int 39]) (rest := []) ⟨hx, hb, hml, hown, hts⟩ (c_Mo_units l dC dI mo H v cB cC qo s2_ K t T s2 L2 39 hk_s2_ h10 hT hsl) (cwV 4 hts (gt_V (own := R_Mo) (C := R_Mo) (i := 256) (y := y_Mo_units) i_Mo_units w_1383 w_1385 (gt_sel (y := y_Mo_units) (n := 30) (by decide +kernel)) w_7) rfl rfl rfl (by decide +kernel) ⟨Nat.le_trans (m := 7) (Nat.le_of_ble_eq_true rfl) (by show 7 ≤ 7 + (k + 1); omega), Nat.le_trans (m := 160) (Nat.le_of_ble_eq_true rfl) (by show 160 ≤ 160 + 40 * (k + 1); omega)⟩) ⟨me_blind, va_recv hKc hPc (ci := 13) (q0 := 0) rfl rfl, fun U hU hW => ⟨rfl, ⟨hU, by rw [hU]; exact hPc, va_K.moved hW.alike hKc, hDc.weaken (fun _ _ _ _ => trivial)⟩, by rw [hU]; exact ME.call hM hS.2.1 hFc hW⟩⟩ rfl rfl hl.1 rfl (lv_room (Nat.le_of_ble_eq_true rfl)) d_Mo_path_71 ⟨Nat.zero_le _, Nat.zero_le _⟩) hS (fun q _ h => hFc q h) hFc (fun _u t9 H1 locs ht hvm hw hB hz1 hk1 hS => ?_)
    obtain ⟨hP1, hK1, hD1⟩ := hB
    rw [ht] at hP1
    obtain ⟨hP, hD⟩ := va_join (wr := [(T.a0, .inl (cI, T.N, .inl T.kd)), (T.a1, .inl (cL, T.N, .inr (.inl T.nu))), (T.a2, .inl (cI, T.N, .inl T.st)), (T.a3, .inl (cI, T.N, .inl T.ln)), (T.a4, .inl (cI, T.N, .inl T.ki)), (T.a5, .inl (cI, T.N, .inl T.nx)), (T.a6, .inl (cI, T.N, .inl T.ns)), (T.a7, .inl (cI, T.N, .inl T.nl)), (T.a8, .inl (cI, T.N, .inl T.pa)), (T.a9, .inl (cI, T.N, .inl T.pl))]) (w1 := [(mo, .inr (13, MF 30 (nf v (penL s2_ (unL 39 (sl T.un s2 L2))).1 (penL s2_ (unL 39 (sl T.un s2 L2))).2.1))), (qo, .inl (cB, 16392, .inl (penL s2_ (unL 39 (sl T.un s2 L2))).2.2)), (t, .inr (12, MF 13 (tw T))), (T.au, .inl (cC, T.U, .inl T.un))]) hP hD [0, 1, 2, 13] [3, 4, 5, 6, 7, 8, 9, 10, 11, 12] rfl rfl (by decide) (by decide) hk1 hFc hP1 hD1
    generalize H1 = H at hP hS ⊢
    have hP : va_P (dC, dI) classes [(T.a0, .inl (cI, T.N, .inl T.kd)), (T.a1, .inl (cL, T.N, .inr (.inl T.nu))), (T.a2, .inl (cI, T.N, .inl T.st)), (T.a3, .inl (cI, T.N, .inl T.ln)), (T.a4, .inl (cI, T.N, .inl T.ki)), (T.a5, .inl (cI, T.N, .inl T.nx)), (T.a6, .inl (cI, T.N, .inl T.ns)), (T.a7, .inl (cI, T.N, .inl T.nl)), (T.a8, .inl (cI, T.N, .inl T.pa)), (T.a9, .inl (cI, T.N, .inl T.pl)), (mo, .inr (13, MF 30 (nf v (penL s2_ (unL 39 (sl T.un s2 L2))).1 (penL s2_ (unL 39 (sl T.un s2 L2))).2.1))), (qo, .inl (cB, 16392, .inl (penL s2_ (unL 39 (sl T.un s2 L2))).2.2)), (t, .inr (12, MF 13 (tw T))), (T.au, .inl (cC, T.U, .inl T.un))] H := hP
    have hD : va_D A [(T.a0, .inl (cI, T.N, .inl T.kd)), (T.a1, .inl (cL, T.N, .inr (.inl T.nu))), (T.a2, .inl (cI, T.N, .inl T.st)), (T.a3, .inl (cI, T.N, .inl T.ln)), (T.a4, .inl (cI, T.N, .inl T.ki)), (T.a5, .inl (cI, T.N, .inl T.nx)), (T.a6, .inl (cI, T.N, .inl T.ns)), (T.a7, .inl (cI, T.N, .inl T.nl)), (T.a8, .inl (cI, T.N, .inl T.pa)), (T.a9, .inl (cI, T.N, .inl T.pl)), (mo, .inr (13, MF 30 (nf v (penL s2_ (unL 39 (sl T.un s2 L2))).1 (penL s2_ (unL 39 (sl T.un s2 L2))).2.1))), (qo, .inl (cB, 16392, .inl (penL s2_ (unL 39 (sl T.un s2 L2))).2.2)), (t, .inr (12, MF 13 (tw T))), (T.au, .inl (cC, T.U, .inl T.un))] := hD
    have hP := hP.sub (ws' := [(mo, .inr (13, MF 30 (nf v (penL s2_ (unL 39 (sl T.un s2 L2))).1 (penL s2_ (unL 39 (sl T.un s2 L2))).2.1))), (qo, .inl (cB, 16392, .inl (penL s2_ (unL 39 (sl T.un s2 L2))).2.2)), (t, .inr (12, MF 13 (tw T))), (T.a0, .inl (cI, T.N, .inl T.kd)), (T.a1, .inl (cL, T.N, .inr (.inl T.nu))), (T.a2, .inl (cI, T.N, .inl T.st)), (T.a3, .inl (cI, T.N, .inl T.ln)), (T.a4, .inl (cI, T.N, .inl T.ki)), (T.a5, .inl (cI, T.N, .inl T.nx)), (T.a6, .inl (cI, T.N, .inl T.ns)), (T.a7, .inl (cI, T.N, .inl T.nl)), (T.a8, .inl (cI, T.N, .inl T.pa)), (T.a9, .inl (cI, T.N, .inl T.pl)), (T.au, .inl (cC, T.U, .inl T.un))]) [10, 11, 12, 0, 1, 2, 3, 4, 5, 6, 7, 8, 9, 13] rfl
    have hD := hD.sub (ws' := [(mo, .inr (13, MF 30 (nf v (penL s2_ (unL 39 (sl T.un s2 L2))).1 (penL s2_ (unL 39 (sl T.un s2 L2))).2.1))), (qo, .inl (cB, 16392, .inl (penL s2_ (unL 39 (sl T.un s2 L2))).2.2)), (t, .inr (12, MF 13 (tw T))), (T.a0, .inl (cI, T.N, .inl T.kd)), (T.a1, .inl (cL, T.N, .inr (.inl T.nu))), (T.a2, .inl (cI, T.N, .inl T.st)), (T.a3, .inl (cI, T.N, .inl T.ln)), (T.a4, .inl (cI, T.N, .inl T.ki)), (T.a5, .inl (cI, T.N, .inl T.nx)), (T.a6, .inl (cI, T.N, .inl T.ns)), (T.a7, .inl (cI, T.N, .inl T.nl)), (T.a8, .inl (cI, T.N, .inl T.pa)), (T.a9, .inl (cI, T.N, .inl T.pl)), (T.au, .inl (cC, T.U, .inl T.un))]) [10, 11, 12, 0, 1, 2, 3, 4, 5, 6, 7, 8, 9, 13] (by decide) rfl
    obtain ⟨s3, hs3⟩ : ∃ z : PS, z = (penL s2_ (unL 39 (sl T.un s2 L2))) := ⟨_, rfl⟩
    have hk_s3 : s3.1 ≤ 16384 := by rw [hs3]; exact penL_le hk_s2_ _
    rw [← hs3] at hP hD
    have hL_s3 : s3 = penL s0 ((([36] ++ pthJ ⟨32, xv⟩ rp9.reverse) ++ [91]) ++ (unL 39 (sl T.un s2 L2))) := hs3.trans (by rw [← penL_app, ← hL_s2_])
    have hP : va_P (dC, dI) classes [(mo, .inr (13, MF 30 (nf v s3.1 s3.2.1))), (qo, .inl (cB, 16392, .inl s3.2.2)), (t, .inr (12, MF 13 (tw T))), (T.a0, .inl (cI, T.N, .inl T.kd)), (T.a1, .inl (cL, T.N, .inr (.inl T.nu))), (T.a2, .inl (cI, T.N, .inl T.st)), (T.a3, .inl (cI, T.N, .inl T.ln)), (T.a4, .inl (cI, T.N, .inl T.ki)), (T.a5, .inl (cI, T.N, .inl T.nx)), (T.a6, .inl (cI, T.N, .inl T.ns)), (T.a7, .inl (cI, T.N, .inl T.nl)), (T.a8, .inl (cI, T.N, .inl T.pa)), (T.a9, .inl (cI, T.N, .inl T.pl)), (T.au, .inl (cC, T.U, .inl T.un))] H := hP
    have hD : va_D A [(mo, .inr (13, MF 30 (nf v s3.1 s3.2.1))), (qo, .inl (cB, 16392, .inl s3.2.2)), (t, .inr (12, MF 13 (tw T))), (T.a0, .inl (cI, T.N, .inl T.kd)), (T.a1, .inl (cL, T.N, .inr (.inl T.nu))), (T.a2, .inl (cI, T.N, .inl T.st)), (T.a3, .inl (cI, T.N, .inl T.ln)), (T.a4, .inl (cI, T.N, .inl T.ki)), (T.a5, .inl (cI, T.N, .inl T.nx)), (T.a6, .inl (cI, T.N, .inl T.ns)), (T.a7, .inl (cI, T.N, .inl T.nl)), (T.a8, .inl (cI, T.N, .inl T.pa)), (T.a9, .inl (cI, T.N, .inl T.pl)), (T.au, .inl (cC, T.U, .inl T.un))] := hD
    refine lv_goto (tgt := 120) hx hb d_Mo_path_74 (by decide) ?_
    refine lv_aload_n hx hb d_Mo_path_120 rfl (lv_at hl 1 rfl) ?_
    refine lv_bipush (v := 93) hx hb d_Mo_path_121 (by decide) ?_
    have hPc := hP.sub (ws' := [(mo, .inr (13, MF 30 (nf v s3.1 s3.2.1))), (qo, .inl (cB, 16392, .inl s3.2.2))]) [0, 1] rfl
    have hDc := hD.sub (ws' := [(mo, .inr (13, MF 30 (nf v s3.1 s3.2.1))), (qo, .inl (cB, 16392, .inl s3.2.2))]) [0, 1] (by decide) rfl
    have hKc := hK.sub (tys' := [(cB, .byte)]) [0] rfl
    have hFc := va_free (wc := [(mo, .inr (13, MF 30 (nf v s3.1 s3.2.1))), (qo, .inl (cB, 16392, .inl s3.2.2))]) hD hS hA [0, 1] rfl
    refine va_callv (va_runV (As := [.int 93]) (rest := []) ⟨hx, hb, hml, hown, hts⟩ (c_Mo_pen l dC dI mo H v cB qo s3 93 hk_s3 h10) (cwV 1 hts (gt_V (own := R_Mo) (C := R_Mo) (i := 239) (y := y_Mo_write) i_Mo_write w_1374 w_1376 (gt_sel (y := y_Mo_write) (n := 30) (by decide +kernel)) w_7) rfl rfl rfl (by decide +kernel) ⟨Nat.le_trans (m := 7) (Nat.le_of_ble_eq_true rfl) (by show 7 ≤ 7 + (k + 1); omega), Nat.le_trans (m := 160) (Nat.le_of_ble_eq_true rfl) (by show 160 ≤ 160 + 40 * (k + 1); omega)⟩) ⟨mp_blind, va_recv hKc hPc (ci := 13) (q0 := 0) rfl rfl, fun U hU hW => ⟨rfl, hU, by rw [hU]; exact hPc, va_K.moved hW.alike hKc, hDc.weaken (fun _ _ _ _ => trivial)⟩⟩ rfl rfl hl.1 rfl (lv_room (Nat.le_of_ble_eq_true rfl)) d_Mo_path_123 ⟨Nat.zero_le _, Nat.zero_le _⟩) hS (fun q _ h => hFc q h) hFc (fun s4 t9 H1 locs ht hvm hw hB hz1 hk1 hS => ?_)
    obtain ⟨hP1, hK1, hD1⟩ := hB
    rw [ht] at hP1
    obtain ⟨hP, hD⟩ := va_join (wr := [(t, .inr (12, MF 13 (tw T))), (T.a0, .inl (cI, T.N, .inl T.kd)), (T.a1, .inl (cL, T.N, .inr (.inl T.nu))), (T.a2, .inl (cI, T.N, .inl T.st)), (T.a3, .inl (cI, T.N, .inl T.ln)), (T.a4, .inl (cI, T.N, .inl T.ki)), (T.a5, .inl (cI, T.N, .inl T.nx)), (T.a6, .inl (cI, T.N, .inl T.ns)), (T.a7, .inl (cI, T.N, .inl T.nl)), (T.a8, .inl (cI, T.N, .inl T.pa)), (T.a9, .inl (cI, T.N, .inl T.pl)), (T.au, .inl (cC, T.U, .inl T.un))]) (w1 := [(mo, .inr (13, MF 30 (nf v s4.1 s4.2.1))), (qo, .inl (cB, 16392, .inl s4.2.2))]) hP hD [0, 1] [2, 3, 4, 5, 6, 7, 8, 9, 10, 11, 12, 13] rfl rfl (by decide) (by decide) hk1 hFc hP1 hD1
    generalize H1 = H at hP hS ⊢
    have hP : va_P (dC, dI) classes [(t, .inr (12, MF 13 (tw T))), (T.a0, .inl (cI, T.N, .inl T.kd)), (T.a1, .inl (cL, T.N, .inr (.inl T.nu))), (T.a2, .inl (cI, T.N, .inl T.st)), (T.a3, .inl (cI, T.N, .inl T.ln)), (T.a4, .inl (cI, T.N, .inl T.ki)), (T.a5, .inl (cI, T.N, .inl T.nx)), (T.a6, .inl (cI, T.N, .inl T.ns)), (T.a7, .inl (cI, T.N, .inl T.nl)), (T.a8, .inl (cI, T.N, .inl T.pa)), (T.a9, .inl (cI, T.N, .inl T.pl)), (T.au, .inl (cC, T.U, .inl T.un)), (mo, .inr (13, MF 30 (nf v s4.1 s4.2.1))), (qo, .inl (cB, 16392, .inl s4.2.2))] H := hP
    have hD : va_D A [(t, .inr (12, MF 13 (tw T))), (T.a0, .inl (cI, T.N, .inl T.kd)), (T.a1, .inl (cL, T.N, .inr (.inl T.nu))), (T.a2, .inl (cI, T.N, .inl T.st)), (T.a3, .inl (cI, T.N, .inl T.ln)), (T.a4, .inl (cI, T.N, .inl T.ki)), (T.a5, .inl (cI, T.N, .inl T.nx)), (T.a6, .inl (cI, T.N, .inl T.ns)), (T.a7, .inl (cI, T.N, .inl T.nl)), (T.a8, .inl (cI, T.N, .inl T.pa)), (T.a9, .inl (cI, T.N, .inl T.pl)), (T.au, .inl (cC, T.U, .inl T.un)), (mo, .inr (13, MF 30 (nf v s4.1 s4.2.1))), (qo, .inl (cB, 16392, .inl s4.2.2))] := hD
    have hP := hP.sub (ws' := [(mo, .inr (13, MF 30 (nf v s4.1 s4.2.1))), (qo, .inl (cB, 16392, .inl s4.2.2)), (t, .inr (12, MF 13 (tw T))), (T.a0, .inl (cI, T.N, .inl T.kd)), (T.a1, .inl (cL, T.N, .inr (.inl T.nu))), (T.a2, .inl (cI, T.N, .inl T.st)), (T.a3, .inl (cI, T.N, .inl T.ln)), (T.a4, .inl (cI, T.N, .inl T.ki)), (T.a5, .inl (cI, T.N, .inl T.nx)), (T.a6, .inl (cI, T.N, .inl T.ns)), (T.a7, .inl (cI, T.N, .inl T.nl)), (T.a8, .inl (cI, T.N, .inl T.pa)), (T.a9, .inl (cI, T.N, .inl T.pl)), (T.au, .inl (cC, T.U, .inl T.un))]) [12, 13, 0, 1, 2, 3, 4, 5, 6, 7, 8, 9, 10, 11] rfl
    have hD := hD.sub (ws' := [(mo, .inr (13, MF 30 (nf v s4.1 s4.2.1))), (qo, .inl (cB, 16392, .inl s4.2.2)), (t, .inr (12, MF 13 (tw T))), (T.a0, .inl (cI, T.N, .inl T.kd)), (T.a1, .inl (cL, T.N, .inr (.inl T.nu))), (T.a2, .inl (cI, T.N, .inl T.st)), (T.a3, .inl (cI, T.N, .inl T.ln)), (T.a4, .inl (cI, T.N, .inl T.ki)), (T.a5, .inl (cI, T.N, .inl T.nx)), (T.a6, .inl (cI, T.N, .inl T.ns)), (T.a7, .inl (cI, T.N, .inl T.nl)), (T.a8, .inl (cI, T.N, .inl T.pa)), (T.a9, .inl (cI, T.N, .inl T.pl)), (T.au, .inl (cC, T.U, .inl T.un))]) [12, 13, 0, 1, 2, 3, 4, 5, 6, 7, 8, 9, 10, 11] (by decide) rfl
    have hw : s4 = pen1 s3 93 := hw
    have hk_s4 : s4.1 ≤ 16384 := by rw [hw]; exact pen1_le hk_s3
    have hL_s4 : s4 = penL s0 (((([36] ++ pthJ ⟨32, xv⟩ rp9.reverse) ++ [91]) ++ (unL 39 (sl T.un s2 L2))) ++ [93]) := hw.trans (by rw [← penL_snoc, ← hL_s3])
    clear hw
    have hfin : s4 = penL s0 ([36] ++ pthJ ⟨32, xv⟩ (i9 :: rp9).reverse) := by
      rcases hstp with ⟨-, h9⟩ | ⟨h9, -⟩
      · have hnt : nmT T nd = sl T.un s2 L2 := by unfold nmT; rw [hs2, hL2, nI_clamp (by omega), nI_clamp (by omega)]
        rw [h9, hnt, hL_s4]
        simp only [List.nil_append, List.append_assoc]
      · exact absurd c43 h9
    exact W.vret hx hb hr (fun t9 ht hW => ⟨⟨s4, rfl, hfin, by rw [ht]; exact hP, va_K.moved hW.alike hK, hD⟩, hS.F ht⟩) hS.2.2 d_Mo_path_126
theorem c_path : ∀ k, k ≤ 40 → PTC k := by
  intro k
  induction k with
  | zero => intro _; exact c_path0
  | succ k ih => intro hk; exact c_pathS k hk (ih (by omega))
