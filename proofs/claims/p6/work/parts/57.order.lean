theorem w_1538 : (.methodLink "QueryBenchModel" 111 ⟨"QueryBenchModel", "character", "([CII)I"⟩ : Cond) ∈ gtbl := gt_in 1538 (by decide +kernel) (by decide +kernel)
theorem w_1539 : (.static ⟨"QueryBenchModel", "character", "([CII)I"⟩ : Cond) ∈ gtbl := gt_in 1539 (by decide +kernel) (by decide +kernel)
theorem w_1542 : (.constant "QueryBenchModel" 115 65535 : Cond) ∈ gtbl := gt_in 1542 (by decide +kernel) (by decide +kernel)
abbrev b_Mo_order : ByteArray := prog_14_method_4_code
def y_Mo_order : MethodName := ⟨"QueryBenchModel", "order", "(LQueryBenchModel$Tree;ILQueryBenchModel$Tree;I)I"⟩
abbrev k_Mo_order : Cond := .code y_Mo_order b_Mo_order 10 (some .int)
theorem i_Mo_order : k_Mo_order ∈ gtbl := gt_in 1560 (by decide +kernel) (by decide +kernel)
theorem d_Mo_order_0 : decode b_Mo_order 0 = .ok (.aload_n 0, 1) := by decide +kernel
theorem d_Mo_order_1 : decode b_Mo_order 1 = .ok (.getfield 103, 3) := by decide +kernel
theorem d_Mo_order_4 : decode b_Mo_order 4 = .ok (.iload_n 1, 1) := by decide +kernel
theorem d_Mo_order_5 : decode b_Mo_order 5 = .ok (.iaload, 1) := by decide +kernel
theorem d_Mo_order_6 : decode b_Mo_order 6 = .ok (.istore 4, 2) := by decide +kernel
theorem d_Mo_order_8 : decode b_Mo_order 8 = .ok (.aload_n 2, 1) := by decide +kernel
theorem d_Mo_order_9 : decode b_Mo_order 9 = .ok (.getfield 103, 3) := by decide +kernel
theorem d_Mo_order_12 : decode b_Mo_order 12 = .ok (.iload_n 3, 1) := by decide +kernel
theorem d_Mo_order_13 : decode b_Mo_order 13 = .ok (.iaload, 1) := by decide +kernel
theorem d_Mo_order_14 : decode b_Mo_order 14 = .ok (.istore 5, 2) := by decide +kernel
theorem d_Mo_order_16 : decode b_Mo_order 16 = .ok (.iload 4, 2) := by decide +kernel
theorem d_Mo_order_18 : decode b_Mo_order 18 = .ok (.aload_n 0, 1) := by decide +kernel
theorem d_Mo_order_19 : decode b_Mo_order 19 = .ok (.getfield 106, 3) := by decide +kernel
theorem d_Mo_order_22 : decode b_Mo_order 22 = .ok (.iload_n 1, 1) := by decide +kernel
theorem d_Mo_order_23 : decode b_Mo_order 23 = .ok (.iaload, 1) := by decide +kernel
theorem d_Mo_order_24 : decode b_Mo_order 24 = .ok (.iadd, 1) := by decide +kernel
theorem d_Mo_order_25 : decode b_Mo_order 25 = .ok (.istore 6, 2) := by decide +kernel
theorem d_Mo_order_27 : decode b_Mo_order 27 = .ok (.iload 5, 2) := by decide +kernel
theorem d_Mo_order_29 : decode b_Mo_order 29 = .ok (.aload_n 2, 1) := by decide +kernel
theorem d_Mo_order_30 : decode b_Mo_order 30 = .ok (.getfield 106, 3) := by decide +kernel
theorem d_Mo_order_33 : decode b_Mo_order 33 = .ok (.iload_n 3, 1) := by decide +kernel
theorem d_Mo_order_34 : decode b_Mo_order 34 = .ok (.iaload, 1) := by decide +kernel
theorem d_Mo_order_35 : decode b_Mo_order 35 = .ok (.iadd, 1) := by decide +kernel
theorem d_Mo_order_36 : decode b_Mo_order 36 = .ok (.istore 7, 2) := by decide +kernel
theorem d_Mo_order_38 : decode b_Mo_order 38 = .ok (.iload 4, 2) := by decide +kernel
theorem d_Mo_order_40 : decode b_Mo_order 40 = .ok (.iload 6, 2) := by decide +kernel
theorem d_Mo_order_42 : decode b_Mo_order 42 = .ok (.if_icmp .ge 93, 3) := by decide +kernel
theorem d_Mo_order_45 : decode b_Mo_order 45 = .ok (.iload 5, 2) := by decide +kernel
theorem d_Mo_order_47 : decode b_Mo_order 47 = .ok (.iload 7, 2) := by decide +kernel
theorem d_Mo_order_49 : decode b_Mo_order 49 = .ok (.if_icmp .ge 86, 3) := by decide +kernel
theorem d_Mo_order_52 : decode b_Mo_order 52 = .ok (.aload_n 0, 1) := by decide +kernel
theorem d_Mo_order_53 : decode b_Mo_order 53 = .ok (.getfield 107, 3) := by decide +kernel
theorem d_Mo_order_56 : decode b_Mo_order 56 = .ok (.iload 4, 2) := by decide +kernel
theorem d_Mo_order_58 : decode b_Mo_order 58 = .ok (.iload 6, 2) := by decide +kernel
theorem d_Mo_order_60 : decode b_Mo_order 60 = .ok (.invokestatic 111, 3) := by decide +kernel
theorem d_Mo_order_63 : decode b_Mo_order 63 = .ok (.istore 8, 2) := by decide +kernel
theorem d_Mo_order_65 : decode b_Mo_order 65 = .ok (.aload_n 2, 1) := by decide +kernel
theorem d_Mo_order_66 : decode b_Mo_order 66 = .ok (.getfield 107, 3) := by decide +kernel
theorem d_Mo_order_69 : decode b_Mo_order 69 = .ok (.iload 5, 2) := by decide +kernel
theorem d_Mo_order_71 : decode b_Mo_order 71 = .ok (.iload 7, 2) := by decide +kernel
theorem d_Mo_order_73 : decode b_Mo_order 73 = .ok (.invokestatic 111, 3) := by decide +kernel
theorem d_Mo_order_76 : decode b_Mo_order 76 = .ok (.istore 9, 2) := by decide +kernel
theorem d_Mo_order_78 : decode b_Mo_order 78 = .ok (.iload 8, 2) := by decide +kernel
theorem d_Mo_order_80 : decode b_Mo_order 80 = .ok (.iload 9, 2) := by decide +kernel
theorem d_Mo_order_82 : decode b_Mo_order 82 = .ok (.if_icmp .eq 16, 3) := by decide +kernel
theorem d_Mo_order_85 : decode b_Mo_order 85 = .ok (.iload 8, 2) := by decide +kernel
theorem d_Mo_order_87 : decode b_Mo_order 87 = .ok (.iload 9, 2) := by decide +kernel
theorem d_Mo_order_89 : decode b_Mo_order 89 = .ok (.if_icmp .ge 7, 3) := by decide +kernel
theorem d_Mo_order_92 : decode b_Mo_order 92 = .ok (.iconst (-1), 1) := by decide +kernel
theorem d_Mo_order_93 : decode b_Mo_order 93 = .ok (.goto 4, 3) := by decide +kernel
theorem d_Mo_order_96 : decode b_Mo_order 96 = .ok (.iconst 1, 1) := by decide +kernel
theorem d_Mo_order_97 : decode b_Mo_order 97 = .ok (.ireturn, 1) := by decide +kernel
theorem d_Mo_order_98 : decode b_Mo_order 98 = .ok (.iload 4, 2) := by decide +kernel
theorem d_Mo_order_100 : decode b_Mo_order 100 = .ok (.iload 8, 2) := by decide +kernel
theorem d_Mo_order_102 : decode b_Mo_order 102 = .ok (.ldc 115, 2) := by decide +kernel
theorem d_Mo_order_104 : decode b_Mo_order 104 = .ok (.if_icmp .le 7, 3) := by decide +kernel
theorem d_Mo_order_107 : decode b_Mo_order 107 = .ok (.iconst 2, 1) := by decide +kernel
theorem d_Mo_order_108 : decode b_Mo_order 108 = .ok (.goto 4, 3) := by decide +kernel
theorem d_Mo_order_111 : decode b_Mo_order 111 = .ok (.iconst 1, 1) := by decide +kernel
theorem d_Mo_order_112 : decode b_Mo_order 112 = .ok (.iadd, 1) := by decide +kernel
theorem d_Mo_order_113 : decode b_Mo_order 113 = .ok (.istore 4, 2) := by decide +kernel
theorem d_Mo_order_115 : decode b_Mo_order 115 = .ok (.iload 5, 2) := by decide +kernel
theorem d_Mo_order_117 : decode b_Mo_order 117 = .ok (.iload 9, 2) := by decide +kernel
theorem d_Mo_order_119 : decode b_Mo_order 119 = .ok (.ldc 115, 2) := by decide +kernel
theorem d_Mo_order_121 : decode b_Mo_order 121 = .ok (.if_icmp .le 7, 3) := by decide +kernel
theorem d_Mo_order_124 : decode b_Mo_order 124 = .ok (.iconst 2, 1) := by decide +kernel
theorem d_Mo_order_125 : decode b_Mo_order 125 = .ok (.goto 4, 3) := by decide +kernel
theorem d_Mo_order_128 : decode b_Mo_order 128 = .ok (.iconst 1, 1) := by decide +kernel
theorem d_Mo_order_129 : decode b_Mo_order 129 = .ok (.iadd, 1) := by decide +kernel
theorem d_Mo_order_130 : decode b_Mo_order 130 = .ok (.istore 5, 2) := by decide +kernel
theorem d_Mo_order_132 : decode b_Mo_order 132 = .ok (.goto (-94), 3) := by decide +kernel
theorem d_Mo_order_135 : decode b_Mo_order 135 = .ok (.iload 4, 2) := by decide +kernel
theorem d_Mo_order_137 : decode b_Mo_order 137 = .ok (.iload 6, 2) := by decide +kernel
theorem d_Mo_order_139 : decode b_Mo_order 139 = .ok (.if_icmp .ge 7, 3) := by decide +kernel
theorem d_Mo_order_142 : decode b_Mo_order 142 = .ok (.iconst 1, 1) := by decide +kernel
theorem d_Mo_order_143 : decode b_Mo_order 143 = .ok (.goto 15, 3) := by decide +kernel
theorem d_Mo_order_146 : decode b_Mo_order 146 = .ok (.iload 5, 2) := by decide +kernel
theorem d_Mo_order_148 : decode b_Mo_order 148 = .ok (.iload 7, 2) := by decide +kernel
theorem d_Mo_order_150 : decode b_Mo_order 150 = .ok (.if_icmp .ge 7, 3) := by decide +kernel
theorem d_Mo_order_153 : decode b_Mo_order 153 = .ok (.iconst (-1), 1) := by decide +kernel
theorem d_Mo_order_154 : decode b_Mo_order 154 = .ok (.goto 4, 3) := by decide +kernel
theorem d_Mo_order_157 : decode b_Mo_order 157 = .ok (.iconst 0, 1) := by decide +kernel
theorem d_Mo_order_158 : decode b_Mo_order 158 = .ok (.ireturn, 1) := by decide +kernel
set_option maxHeartbeats 4000000 in
set_option maxRecDepth 100000 in
/-- the reference: order -/
theorem c_Mo_order (l : Launch) (dC : Nat → ClassId) (dI : Nat → Nat → Nat) (t : Nat) (sz : Heap) (cI cC : ClassId) (T : TS) (x9 y9 sx lx sy ly : Nat) (hT : TOK T) (hxc : x9 < T.ct) (hyc : y9 < T.ct) (hx1 : T.st x9 = nI sx) (hx2 : T.ln x9 = nI lx) (hx3 : sx + lx ≤ T.us) (hy1 : T.st y9 = nI sy) (hy2 : T.ln y9 = nI ly) (hy3 : sy + ly ≤ T.us) (hux : uOK (sl T.un sx lx)) (huy : uOK (sl T.un sy ly)) : Met l y_Mo_order (k_Mo_order :: gtbl) ({ frames := 1, cells := 0, slots := 0, locals := 30 }) (va_Pc [.ref t, .int (nI x9), .ref t, .int (nI y9)] (mp dC dI [(t, .inr (12, MF 13 (tw T))), (T.a2, .inl (cI, T.N, .inl T.st)), (T.a3, .inl (cI, T.N, .inl T.ln)), (T.au, .inl (cC, T.U, .inl T.un))] [(cI, .int), (cC, .char)] sz)) (va_Qi (fun (r : Int32) (_ : Unit) => r = ordV (sl T.un sx lx) (sl T.un sy ly)) (fun _ => mz dC dI [(t, .inr (12, MF 13 (tw T))), (T.a2, .inl (cI, T.N, .inl T.st)), (T.a3, .inl (cI, T.N, .inl T.ln)), (T.au, .inl (cC, T.U, .inl T.un))] [(cI, .int), (cC, .char)] (va_A [(t, .inr (12, MF 13 (tw T))), (T.a2, .inl (cI, T.N, .inl T.st)), (T.a3, .inl (cI, T.N, .inl T.ln)), (T.au, .inl (cC, T.U, .inl T.un))] sz.size)) (va_A [(t, .inr (12, MF 13 (tw T))), (T.a2, .inl (cI, T.N, .inl T.st)), (T.a3, .inl (cI, T.N, .inl T.ln)), (T.au, .inl (cC, T.U, .inl T.un))] sz.size)) 0 0 (va_A [(t, .inr (12, MF 13 (tw T))), (T.a2, .inl (cI, T.N, .inl T.st)), (T.a3, .inl (cI, T.N, .inl T.ln)), (T.au, .inl (cC, T.U, .inl T.un))] sz.size) := by
  refine Met.ofW (cc := b_Mo_order) (maxL := 10) (ret := (some .int)) (by decide) rfl ?_
  intro p e s m args below meth c s₁ B hml hv
  obtain ⟨rfl, hsz, hP, hK, hD0⟩ := hv
  have hx := B.exec
  have hb := B.bytes
  have hr := B.returns
  have hts0 := atoms_spec (ws := k_Mo_order :: gtbl) B.pre
  have hts := fun w h => hts0 w (List.mem_cons_of_mem _ h)
  have hown : s.vm.findClass R_Mo = some m.cls := findClass_of_methodNamed B.named
  have hlocks := B.notSynchronized
  subst hsz
  have hD := hD0.self (sz := s.heap.size)
  generalize hAe : va_A [(t, .inr (12, MF 13 (tw T))), (T.a2, .inl (cI, T.N, .inl T.st)), (T.a3, .inl (cI, T.N, .inl T.ln)), (T.au, .inl (cC, T.U, .inl T.un))] s.heap.size = A at hD ⊢
  have hA : ∀ q : Nat, s.heap.size ≤ q → A q := fun q h => by rw [← hAe]; exact Or.inr h
  have hS : va_S A s.heap s.heap [] := va_S.rf
  have hP : va_P (dC, dI) classes [(t, .inr (12, MF 13 (tw T))), (T.a2, .inl (cI, T.N, .inl T.st)), (T.a3, .inl (cI, T.N, .inl T.ln)), (T.au, .inl (cC, T.U, .inl T.un))] s.heap := hP
  have hl := lv_entry ([.ref t, .int (nI x9), .ref t, .int (nI y9)]) (n := 10) (Nat.le_of_ble_eq_true rfl)
  rw [lg_entry_eq]
  generalize (lg_sl ([.ref t, .int (nI x9), .ref t, .int (nI y9)]) ++ List.replicate (10 - (lg_sl ([.ref t, .int (nI x9), .ref t, .int (nI y9)])).length) Slot.unset).toArray = ls at hl ⊢
  have hl : lv_has ls 10 [(0, .ref t), (1, .int (nI x9)), (2, .ref t), (3, .int (nI y9))] := hl
  obtain ⟨ho1, ho2, ho3, ho4, ho5, ho6, ho7⟩ := hT
  refine lv_aload_n hx hb d_Mo_order_0 rfl (lv_at hl 0 rfl) ?_
  refine va_get (D := (dC, dI)) (ci := 12) (v := .ref T.a2) (C := R_Tree) (T := F_Tree) (N := 13) hx hb hts in_Tree hown hK hP 0 rfl rfl 2 (by decide) (hts _ w_1039) (fun _ h9 => h9) (MFg (by decide) rfl) d_Mo_order_1 ?_
  refine lv_iload_n hx hb d_Mo_order_4 rfl (lv_at hl 1 rfl) ?_
  refine va_iald hx hb hK hP 1 0 rfl rfl (vp_in_nI (show x9 < T.N by omega) (by omega)) d_Mo_order_5 ?_
  rw [show (nI x9).toNatClampNeg = x9 from nI_clamp (by omega), hx1]
  refine lv_istore (lv' := [(4, .int (nI sx)), (0, .ref t), (1, .int (nI x9)), (2, .ref t), (3, .int (nI y9))]) hx hb d_Mo_order_6 hl (by decide) rfl (fun ls hl => ?_)
  refine lv_aload_n hx hb d_Mo_order_8 rfl (lv_at hl 3 rfl) ?_
  refine va_get (D := (dC, dI)) (ci := 12) (v := .ref T.a2) (C := R_Tree) (T := F_Tree) (N := 13) hx hb hts in_Tree hown hK hP 0 rfl rfl 2 (by decide) (hts _ w_1039) (fun _ h9 => h9) (MFg (by decide) rfl) d_Mo_order_9 ?_
  refine lv_iload_n hx hb d_Mo_order_12 rfl (lv_at hl 4 rfl) ?_
  refine va_iald hx hb hK hP 1 0 rfl rfl (vp_in_nI (show y9 < T.N by omega) (by omega)) d_Mo_order_13 ?_
  rw [show (nI y9).toNatClampNeg = y9 from nI_clamp (by omega), hy1]
  refine lv_istore (lv' := [(5, .int (nI sy)), (4, .int (nI sx)), (0, .ref t), (1, .int (nI x9)), (2, .ref t), (3, .int (nI y9))]) hx hb d_Mo_order_14 hl (by decide) rfl (fun ls hl => ?_)
  refine lv_iload hx hb d_Mo_order_16 (lv_at hl 1 rfl) ?_
  refine lv_aload_n hx hb d_Mo_order_18 rfl (lv_at hl 2 rfl) ?_
  refine va_get (D := (dC, dI)) (ci := 12) (v := .ref T.a3) (C := R_Tree) (T := F_Tree) (N := 13) hx hb hts in_Tree hown hK hP 0 rfl rfl 3 (by decide) (hts _ w_1041) (fun _ h9 => h9) (MFg (by decide) rfl) d_Mo_order_19 ?_
  refine lv_iload_n hx hb d_Mo_order_22 rfl (lv_at hl 3 rfl) ?_
  refine va_iald hx hb hK hP 2 0 rfl rfl (vp_in_nI (show x9 < T.N by omega) (by omega)) d_Mo_order_23 ?_
  rw [show (nI x9).toNatClampNeg = x9 from nI_clamp (by omega), hx2]
  refine lv_iadd hx hb d_Mo_order_24 ?_
  refine W.eq (g2 := F0 m 25 ls [.int (nI (sx + lx))]) (by rw [show ((nI sx) + (nI lx)) = (nI (sx + lx)) from nI_add _ _]) ?_
  refine lv_istore (lv' := [(6, .int (nI (sx + lx))), (5, .int (nI sy)), (4, .int (nI sx)), (0, .ref t), (1, .int (nI x9)), (2, .ref t), (3, .int (nI y9))]) hx hb d_Mo_order_25 hl (by decide) rfl (fun ls hl => ?_)
  refine lv_iload hx hb d_Mo_order_27 (lv_at hl 1 rfl) ?_
  refine lv_aload_n hx hb d_Mo_order_29 rfl (lv_at hl 5 rfl) ?_
  refine va_get (D := (dC, dI)) (ci := 12) (v := .ref T.a3) (C := R_Tree) (T := F_Tree) (N := 13) hx hb hts in_Tree hown hK hP 0 rfl rfl 3 (by decide) (hts _ w_1041) (fun _ h9 => h9) (MFg (by decide) rfl) d_Mo_order_30 ?_
  refine lv_iload_n hx hb d_Mo_order_33 rfl (lv_at hl 6 rfl) ?_
  refine va_iald hx hb hK hP 2 0 rfl rfl (vp_in_nI (show y9 < T.N by omega) (by omega)) d_Mo_order_34 ?_
  rw [show (nI y9).toNatClampNeg = y9 from nI_clamp (by omega), hy2]
  refine lv_iadd hx hb d_Mo_order_35 ?_
  refine W.eq (g2 := F0 m 36 ls [.int (nI (sy + ly))]) (by rw [show ((nI sy) + (nI ly)) = (nI (sy + ly)) from nI_add _ _]) ?_
  refine lv_istore (lv' := [(7, .int (nI (sy + ly))), (6, .int (nI (sx + lx))), (5, .int (nI sy)), (4, .int (nI sx)), (0, .ref t), (1, .int (nI x9)), (2, .ref t), (3, .int (nI y9))]) hx hb d_Mo_order_36 hl (by decide) rfl (fun ls hl => ?_)
  refine w_loop (D := (dC, dI)) (cl := classes) (A := A) (H0 := s.heap) (nL := 10) 38 (σ := Nat × Nat) (fun ⟨i, j⟩ => (i ≤ sx + lx ∧ j ≤ sy + ly) ∧ uOK (sl T.un i (sx + lx - i)) ∧ uOK (sl T.un j (sy + ly - j)) ∧ ordV (sl T.un sx lx) (sl T.un sy ly) = ordV (sl T.un i (sx + lx - i)) (sl T.un j (sy + ly - j))) (fun ⟨i, j⟩ => sx + lx + 2 - i) (fun ⟨i, j⟩ => [(t, .inr (12, MF 13 (tw T))), (T.a2, .inl (cI, T.N, .inl T.st)), (T.a3, .inl (cI, T.N, .inl T.ln)), (T.au, .inl (cC, T.U, .inl T.un))]) (fun ⟨i, j⟩ => [(0, .ref t), (1, .int (nI x9)), (2, .ref t), (3, .int (nI y9)), (4, .int (nI i)), (5, .int (nI j)), (6, .int (nI (sx + lx))), (7, .int (nI (sy + ly)))]) ?_ (sx, sy) ⟨⟨by show sx ≤ sx + lx; omega, by show sy ≤ sy + ly; omega⟩, by show uOK (sl T.un sx (sx + lx - sx)); rw [Nat.add_sub_cancel_left]; exact hux, by show uOK (sl T.un sy (sy + ly - sy)); rw [Nat.add_sub_cancel_left]; exact huy, by show _ = ordV (sl T.un sx (sx + lx - sx)) (sl T.un sy (sy + ly - sy)); rw [Nat.add_sub_cancel_left, Nat.add_sub_cancel_left]⟩ hP hD hS (lv_sub hl [4, 5, 6, 7, 3, 2, 1, 0] rfl)
  rintro ⟨i, j⟩ H locs ls hI ih hP hD hS hl
  have hP : va_P (dC, dI) classes [(t, .inr (12, MF 13 (tw T))), (T.a2, .inl (cI, T.N, .inl T.st)), (T.a3, .inl (cI, T.N, .inl T.ln)), (T.au, .inl (cC, T.U, .inl T.un))] H := hP
  have hD : va_D A [(t, .inr (12, MF 13 (tw T))), (T.a2, .inl (cI, T.N, .inl T.st)), (T.a3, .inl (cI, T.N, .inl T.ln)), (T.au, .inl (cC, T.U, .inl T.un))] := hD
  have hl : lv_has ls 10 [(0, .ref t), (1, .int (nI x9)), (2, .ref t), (3, .int (nI y9)), (4, .int (nI i)), (5, .int (nI j)), (6, .int (nI (sx + lx))), (7, .int (nI (sy + ly)))] := hl
  obtain ⟨⟨hI1, hI2⟩, hI3, hI4, hI5⟩ := hI
  refine lv_iload hx hb d_Mo_order_38 (lv_at hl 4 rfl) ?_
  refine lv_iload hx hb d_Mo_order_40 (lv_at hl 6 rfl) ?_
  refine lv_icmp_ge (tgt := 135) hx hb d_Mo_order_42 (by decide) (fun c42 => ?_) (fun c42 => ?_)
  · refine lv_iload hx hb d_Mo_order_135 (lv_at hl 4 rfl) ?_
    refine lv_iload hx hb d_Mo_order_137 (lv_at hl 6 rfl) ?_
    refine lv_icmp_ge (tgt := 146) hx hb d_Mo_order_139 (by decide) (fun c139 => ?_) (fun c139 => ?_)
    · refine lv_iload hx hb d_Mo_order_146 (lv_at hl 5 rfl) ?_
      refine lv_iload hx hb d_Mo_order_148 (lv_at hl 7 rfl) ?_
      refine lv_icmp_ge (tgt := 157) hx hb d_Mo_order_150 (by decide) (fun c150 => ?_) (fun c150 => ?_)
      · refine lv_iconst (v := 0) hx hb d_Mo_order_157 (by decide) ?_
        have hi0 : sl T.un i (sx + lx - i) = [] := by rw [nI_leI (by omega) (by omega)] at c139; rw [show sx + lx - i = 0 by omega]; rfl
        have hj0 : sl T.un j (sy + ly - j) = [] := by rw [nI_leI (by omega) (by omega)] at c150; rw [show sy + ly - j = 0 by omega]; rfl
        exact W.iret (v := 0) hx hb hr (fun t ht hW => ⟨⟨0, (), rfl, (by show 0 = ordV (sl T.un sx lx) (sl T.un sy ly); rw [hI5, hi0, hj0]; rfl), by rw [ht]; exact hP, va_K.moved hW.alike hK, hD⟩, hS.F ht⟩) hS.2.2 d_Mo_order_158
      · refine lv_iconst (v := (-1)) hx hb d_Mo_order_153 (by decide) ?_
        refine lv_goto (tgt := 158) hx hb d_Mo_order_154 (by decide) ?_
        have hi0 : sl T.un i (sx + lx - i) = [] := by rw [nI_leI (by omega) (by omega)] at c139; rw [show sx + lx - i = 0 by omega]; rfl
        have hj : j < sy + ly := by rw [nI_leI (by omega) (by omega)] at c150; omega
        exact W.iret (v := (-1)) hx hb hr (fun t ht hW => ⟨⟨(-1), (), rfl, (by show (-1) = ordV (sl T.un sx lx) (sl T.un sy ly); rw [hI5, ord_nil2 hj hi0]), by rw [ht]; exact hP, va_K.moved hW.alike hK, hD⟩, hS.F ht⟩) hS.2.2 d_Mo_order_158
    · refine lv_iconst (v := 1) hx hb d_Mo_order_142 (by decide) ?_
      refine lv_goto (tgt := 158) hx hb d_Mo_order_143 (by decide) ?_
      exact absurd c42 c139
  · refine lv_iload hx hb d_Mo_order_45 (lv_at hl 5 rfl) ?_
    refine lv_iload hx hb d_Mo_order_47 (lv_at hl 7 rfl) ?_
    refine lv_icmp_ge (tgt := 135) hx hb d_Mo_order_49 (by decide) (fun c49 => ?_) (fun c49 => ?_)
    · refine lv_iload hx hb d_Mo_order_135 (lv_at hl 4 rfl) ?_
      refine lv_iload hx hb d_Mo_order_137 (lv_at hl 6 rfl) ?_
      refine lv_icmp_ge (tgt := 146) hx hb d_Mo_order_139 (by decide) (fun c139 => ?_) (fun c139 => ?_)
      · refine lv_iload hx hb d_Mo_order_146 (lv_at hl 5 rfl) ?_
        refine lv_iload hx hb d_Mo_order_148 (lv_at hl 7 rfl) ?_
        refine lv_icmp_ge (tgt := 157) hx hb d_Mo_order_150 (by decide) (fun c150 => ?_) (fun c150 => ?_)
        · refine lv_iconst (v := 0) hx hb d_Mo_order_157 (by decide) ?_
          have hi0 : sl T.un i (sx + lx - i) = [] := by rw [nI_leI (by omega) (by omega)] at c139; rw [show sx + lx - i = 0 by omega]; rfl
          have hj0 : sl T.un j (sy + ly - j) = [] := by rw [nI_leI (by omega) (by omega)] at c150; rw [show sy + ly - j = 0 by omega]; rfl
          exact W.iret (v := 0) hx hb hr (fun t ht hW => ⟨⟨0, (), rfl, (by show 0 = ordV (sl T.un sx lx) (sl T.un sy ly); rw [hI5, hi0, hj0]; rfl), by rw [ht]; exact hP, va_K.moved hW.alike hK, hD⟩, hS.F ht⟩) hS.2.2 d_Mo_order_158
        · refine lv_iconst (v := (-1)) hx hb d_Mo_order_153 (by decide) ?_
          refine lv_goto (tgt := 158) hx hb d_Mo_order_154 (by decide) ?_
          have hi0 : sl T.un i (sx + lx - i) = [] := by rw [nI_leI (by omega) (by omega)] at c139; rw [show sx + lx - i = 0 by omega]; rfl
          have hj : j < sy + ly := by rw [nI_leI (by omega) (by omega)] at c150; omega
          exact W.iret (v := (-1)) hx hb hr (fun t ht hW => ⟨⟨(-1), (), rfl, (by show (-1) = ordV (sl T.un sx lx) (sl T.un sy ly); rw [hI5, ord_nil2 hj hi0]), by rw [ht]; exact hP, va_K.moved hW.alike hK, hD⟩, hS.F ht⟩) hS.2.2 d_Mo_order_158
      · refine lv_iconst (v := 1) hx hb d_Mo_order_142 (by decide) ?_
        refine lv_goto (tgt := 158) hx hb d_Mo_order_143 (by decide) ?_
        have hi : i < sx + lx := by rw [nI_leI (by omega) (by omega)] at c139; omega
        have hj0 : sl T.un j (sy + ly - j) = [] := by rw [nI_leI (by omega) (by omega)] at c49; rw [show sy + ly - j = 0 by omega]; rfl
        exact W.iret (v := 1) hx hb hr (fun t ht hW => ⟨⟨1, (), rfl, (by show 1 = ordV (sl T.un sx lx) (sl T.un sy ly); rw [hI5, ord_nil1 hi hj0]), by rw [ht]; exact hP, va_K.moved hW.alike hK, hD⟩, hS.F ht⟩) hS.2.2 d_Mo_order_158
    · refine lv_aload_n hx hb d_Mo_order_52 rfl (lv_at hl 0 rfl) ?_
      refine va_get (D := (dC, dI)) (ci := 12) (v := .ref T.au) (C := R_Tree) (T := F_Tree) (N := 13) hx hb hts in_Tree hown hK hP 0 rfl rfl 11 (by decide) (hts _ w_1056) (fun _ h9 => h9) (MFg (by decide) rfl) d_Mo_order_53 ?_
      refine lv_iload hx hb d_Mo_order_56 (lv_at hl 4 rfl) ?_
      refine lv_iload hx hb d_Mo_order_58 (lv_at hl 6 rfl) ?_
      have hi : i < sx + lx := by rw [nI_leI (by omega) (by omega)] at c42; omega
      have hj : j < sy + ly := by rw [nI_leI (by omega) (by omega)] at c49; omega
      have hPc := hP.sub (ws' := [(T.au, .inl (cC, T.U, .inl T.un))]) [3] rfl
      have hDc := hD.sub (ws' := [(T.au, .inl (cC, T.U, .inl T.un))]) [3] (by decide) rfl
      have hKc := hK.sub (tys' := [(cC, .char)]) [1] rfl
      have hFc := va_free (wc := [(T.au, .inl (cC, T.U, .inl T.un))]) hD hS hA [3] rfl
      refine va_calli (va_runS (As := [.ref T.au, .int (nI i), .int (nI (sx + lx))]) (rest := []) ⟨hx, hb, hml, hown, hts⟩ (c_Mo_character l dC dI H cC T.au T.U i (sx + lx) T.un (by omega) (by omega) ho5) (va_cwS 3 hts (gt_S (own := R_Mo) (i := 111) (y := y_Mo_character) i_Mo_character w_1538 w_1539 w_7) rfl rfl rfl (by decide +kernel) ⟨Nat.le_of_ble_eq_true rfl, Nat.le_of_ble_eq_true rfl⟩) ⟨mp_blind, fun U hU hW => ⟨rfl, hU, by rw [hU]; exact hPc, va_K.moved hW.alike hKc, hDc.weaken (fun _ _ _ _ => trivial)⟩⟩ rfl rfl hl.1 rfl (lv_room (Nat.le_of_ble_eq_true rfl)) d_Mo_order_60 ⟨Nat.le_of_ble_eq_true rfl, Nat.le_of_ble_eq_true rfl⟩) hS (fun q _ h => hFc q h) hFc (fun c8 _u t9 H1 locs ht hvm hw hB hz1 hk1 hS => ?_)
      obtain ⟨hP1, hK1, hD1⟩ := hB
      rw [ht] at hP1
      obtain ⟨hP, hD⟩ := va_join (wr := [(t, .inr (12, MF 13 (tw T))), (T.a2, .inl (cI, T.N, .inl T.st)), (T.a3, .inl (cI, T.N, .inl T.ln))]) (w1 := [(T.au, .inl (cC, T.U, .inl T.un))]) hP hD [3] [0, 1, 2] rfl rfl (by decide) (by decide) hk1 hFc hP1 hD1
      generalize H1 = H at hP hS ⊢
      have hP : va_P (dC, dI) classes [(t, .inr (12, MF 13 (tw T))), (T.a2, .inl (cI, T.N, .inl T.st)), (T.a3, .inl (cI, T.N, .inl T.ln)), (T.au, .inl (cC, T.U, .inl T.un))] H := hP
      have hD : va_D A [(t, .inr (12, MF 13 (tw T))), (T.a2, .inl (cI, T.N, .inl T.st)), (T.a3, .inl (cI, T.N, .inl T.ln)), (T.au, .inl (cC, T.U, .inl T.un))] := hD
      have h_c8 : c8 = chV T.un i ((sx + lx)) := hw
      refine lv_istore (lv' := [(8, .int c8), (0, .ref t), (1, .int (nI x9)), (2, .ref t), (3, .int (nI y9)), (4, .int (nI i)), (5, .int (nI j)), (6, .int (nI (sx + lx))), (7, .int (nI (sy + ly)))]) hx hb d_Mo_order_63 hl (by decide) rfl (fun ls hl => ?_)
      refine lv_aload_n hx hb d_Mo_order_65 rfl (lv_at hl 3 rfl) ?_
      refine va_get (D := (dC, dI)) (ci := 12) (v := .ref T.au) (C := R_Tree) (T := F_Tree) (N := 13) hx hb hts in_Tree hown hK hP 0 rfl rfl 11 (by decide) (hts _ w_1056) (fun _ h9 => h9) (MFg (by decide) rfl) d_Mo_order_66 ?_
      refine lv_iload hx hb d_Mo_order_69 (lv_at hl 6 rfl) ?_
      refine lv_iload hx hb d_Mo_order_71 (lv_at hl 8 rfl) ?_
      have hPc := hP.sub (ws' := [(T.au, .inl (cC, T.U, .inl T.un))]) [3] rfl
      have hDc := hD.sub (ws' := [(T.au, .inl (cC, T.U, .inl T.un))]) [3] (by decide) rfl
      have hKc := hK.sub (tys' := [(cC, .char)]) [1] rfl
      have hFc := va_free (wc := [(T.au, .inl (cC, T.U, .inl T.un))]) hD hS hA [3] rfl
      refine va_calli (va_runS (As := [.ref T.au, .int (nI j), .int (nI (sy + ly))]) (rest := []) ⟨hx, hb, hml, hown, hts⟩ (c_Mo_character l dC dI H cC T.au T.U j (sy + ly) T.un (by omega) (by omega) ho5) (va_cwS 3 hts (gt_S (own := R_Mo) (i := 111) (y := y_Mo_character) i_Mo_character w_1538 w_1539 w_7) rfl rfl rfl (by decide +kernel) ⟨Nat.le_of_ble_eq_true rfl, Nat.le_of_ble_eq_true rfl⟩) ⟨mp_blind, fun U hU hW => ⟨rfl, hU, by rw [hU]; exact hPc, va_K.moved hW.alike hKc, hDc.weaken (fun _ _ _ _ => trivial)⟩⟩ rfl rfl hl.1 rfl (lv_room (Nat.le_of_ble_eq_true rfl)) d_Mo_order_73 ⟨Nat.le_of_ble_eq_true rfl, Nat.le_of_ble_eq_true rfl⟩) hS (fun q _ h => hFc q h) hFc (fun c9 _u t9 H1 locs ht hvm hw hB hz1 hk1 hS => ?_)
      obtain ⟨hP1, hK1, hD1⟩ := hB
      rw [ht] at hP1
      obtain ⟨hP, hD⟩ := va_join (wr := [(t, .inr (12, MF 13 (tw T))), (T.a2, .inl (cI, T.N, .inl T.st)), (T.a3, .inl (cI, T.N, .inl T.ln))]) (w1 := [(T.au, .inl (cC, T.U, .inl T.un))]) hP hD [3] [0, 1, 2] rfl rfl (by decide) (by decide) hk1 hFc hP1 hD1
      generalize H1 = H at hP hS ⊢
      have hP : va_P (dC, dI) classes [(t, .inr (12, MF 13 (tw T))), (T.a2, .inl (cI, T.N, .inl T.st)), (T.a3, .inl (cI, T.N, .inl T.ln)), (T.au, .inl (cC, T.U, .inl T.un))] H := hP
      have hD : va_D A [(t, .inr (12, MF 13 (tw T))), (T.a2, .inl (cI, T.N, .inl T.st)), (T.a3, .inl (cI, T.N, .inl T.ln)), (T.au, .inl (cC, T.U, .inl T.un))] := hD
      have h_c9 : c9 = chV T.un j ((sy + ly)) := hw
      refine lv_istore (lv' := [(9, .int c9), (8, .int c8), (0, .ref t), (1, .int (nI x9)), (2, .ref t), (3, .int (nI y9)), (4, .int (nI i)), (5, .int (nI j)), (6, .int (nI (sx + lx))), (7, .int (nI (sy + ly)))]) hx hb d_Mo_order_76 hl (by decide) rfl (fun ls hl => ?_)
      refine lv_iload hx hb d_Mo_order_78 (lv_at hl 1 rfl) ?_
      refine lv_iload hx hb d_Mo_order_80 (lv_at hl 0 rfl) ?_
      refine lv_icmp_eq (tgt := 98) hx hb d_Mo_order_82 (by decide) (fun c82 => ?_) (fun c82 => ?_)
      · refine lv_iload hx hb d_Mo_order_98 (lv_at hl 6 rfl) ?_
        refine lv_iload hx hb d_Mo_order_100 (lv_at hl 1 rfl) ?_
        refine lv_ldc (v := 65535) hx hb hown (hts _ w_1542) d_Mo_order_102 ?_
        refine lv_icmp_le (tgt := 111) hx hb d_Mo_order_104 (by decide) (fun c104 => ?_) (fun c104 => ?_)
        · refine lv_iconst (v := 1) hx hb d_Mo_order_111 (by decide) ?_
          refine lv_iadd hx hb d_Mo_order_112 ?_
          refine W.eq (g2 := F0 m 113 ls [.int (nI (i + 1))]) (by rw [show ((nI i) + 1) = (nI (i + 1)) from nI_add i 1]) ?_
          have hbig : ¬ 65535 < chV T.un i (sx + lx) := by rw [← h_c8]; exact Int32.not_lt.mpr c104
          have hcd : chV T.un i (sx + lx) = chV T.un j (sy + ly) := by rw [← h_c8, ← h_c9]; exact c82
          refine lv_istore (lv' := [(4, .int (nI (i + 1))), (9, .int c9), (8, .int c8), (0, .ref t), (1, .int (nI x9)), (2, .ref t), (3, .int (nI y9)), (5, .int (nI j)), (6, .int (nI (sx + lx))), (7, .int (nI (sy + ly)))]) hx hb d_Mo_order_113 hl (by decide) rfl (fun ls hl => ?_)
          refine lv_iload hx hb d_Mo_order_115 (lv_at hl 7 rfl) ?_
          refine lv_iload hx hb d_Mo_order_117 (lv_at hl 1 rfl) ?_
          refine lv_ldc (v := 65535) hx hb hown (hts _ w_1542) d_Mo_order_119 ?_
          refine lv_icmp_le (tgt := 128) hx hb d_Mo_order_121 (by decide) (fun c121 => ?_) (fun c121 => ?_)
          · refine lv_iconst (v := 1) hx hb d_Mo_order_128 (by decide) ?_
            refine lv_iadd hx hb d_Mo_order_129 ?_
            refine W.eq (g2 := F0 m 130 ls [.int (nI (j + 1))]) (by rw [show ((nI j) + 1) = (nI (j + 1)) from nI_add j 1]) ?_
            refine lv_istore (lv' := [(5, .int (nI (j + 1))), (4, .int (nI (i + 1))), (9, .int c9), (8, .int c8), (0, .ref t), (1, .int (nI x9)), (2, .ref t), (3, .int (nI y9)), (6, .int (nI (sx + lx))), (7, .int (nI (sy + ly)))]) hx hb d_Mo_order_130 hl (by decide) rfl (fun ls hl => ?_)
            refine lv_goto (tgt := 38) hx hb d_Mo_order_132 (by decide) ?_
            obtain ⟨hz1, hz2, hz3⟩ := ord_step hi hj hI3 hI4
            obtain ⟨hy3, hy4, hy5⟩ := hz3 hcd hbig
            exact ih ((i + 1), (j + 1)) _ _ _ ⟨⟨by show (i + 1) ≤ _; omega, by show (j + 1) ≤ _; omega⟩, hy4, hy5, hI5.trans hy3⟩ (by show sx + lx + 2 - (i + 1) < sx + lx + 2 - i; omega) hP hD hS (lv_sub hl [4, 5, 6, 7, 1, 0, 8, 9] rfl)
          · refine lv_iconst (v := 2) hx hb d_Mo_order_124 (by decide) ?_
            refine lv_goto (tgt := 129) hx hb d_Mo_order_125 (by decide) ?_
            exact absurd (by rw [← c82]; exact c104) c121
        · refine lv_iconst (v := 2) hx hb d_Mo_order_107 (by decide) ?_
          refine lv_goto (tgt := 112) hx hb d_Mo_order_108 (by decide) ?_
          refine lv_iadd hx hb d_Mo_order_112 ?_
          refine W.eq (g2 := F0 m 113 ls [.int (nI (i + 2))]) (by rw [show ((nI i) + 2) = (nI (i + 2)) from nI_add i 2]) ?_
          have hbig : 65535 < chV T.un i (sx + lx) := by rw [← h_c8]; exact Int32.not_le.mp c104
          have hcd : chV T.un i (sx + lx) = chV T.un j (sy + ly) := by rw [← h_c8, ← h_c9]; exact c82
          refine lv_istore (lv' := [(4, .int (nI (i + 2))), (9, .int c9), (8, .int c8), (0, .ref t), (1, .int (nI x9)), (2, .ref t), (3, .int (nI y9)), (5, .int (nI j)), (6, .int (nI (sx + lx))), (7, .int (nI (sy + ly)))]) hx hb d_Mo_order_113 hl (by decide) rfl (fun ls hl => ?_)
          refine lv_iload hx hb d_Mo_order_115 (lv_at hl 7 rfl) ?_
          refine lv_iload hx hb d_Mo_order_117 (lv_at hl 1 rfl) ?_
          refine lv_ldc (v := 65535) hx hb hown (hts _ w_1542) d_Mo_order_119 ?_
          refine lv_icmp_le (tgt := 128) hx hb d_Mo_order_121 (by decide) (fun c121 => ?_) (fun c121 => ?_)
          · refine lv_iconst (v := 1) hx hb d_Mo_order_128 (by decide) ?_
            exact absurd (by rw [c82]; exact c121) c104
          · refine lv_iconst (v := 2) hx hb d_Mo_order_124 (by decide) ?_
            refine lv_goto (tgt := 129) hx hb d_Mo_order_125 (by decide) ?_
            refine lv_iadd hx hb d_Mo_order_129 ?_
            refine W.eq (g2 := F0 m 130 ls [.int (nI (j + 2))]) (by rw [show ((nI j) + 2) = (nI (j + 2)) from nI_add j 2]) ?_
            refine lv_istore (lv' := [(5, .int (nI (j + 2))), (4, .int (nI (i + 2))), (9, .int c9), (8, .int c8), (0, .ref t), (1, .int (nI x9)), (2, .ref t), (3, .int (nI y9)), (6, .int (nI (sx + lx))), (7, .int (nI (sy + ly)))]) hx hb d_Mo_order_130 hl (by decide) rfl (fun ls hl => ?_)
            refine lv_goto (tgt := 38) hx hb d_Mo_order_132 (by decide) ?_
            obtain ⟨hz1, hz2, hz3⟩ := ord_step hi hj hI3 hI4
            obtain ⟨hy1, hy2, hy3, hy4, hy5⟩ := hz2 hcd hbig
            exact ih ((i + 2), (j + 2)) _ _ _ ⟨⟨by show (i + 2) ≤ _; omega, by show (j + 2) ≤ _; omega⟩, hy4, hy5, hI5.trans hy3⟩ (by show sx + lx + 2 - (i + 2) < sx + lx + 2 - i; omega) hP hD hS (lv_sub hl [4, 5, 6, 7, 1, 0, 8, 9] rfl)
      · refine lv_iload hx hb d_Mo_order_85 (lv_at hl 1 rfl) ?_
        refine lv_iload hx hb d_Mo_order_87 (lv_at hl 0 rfl) ?_
        refine lv_icmp_ge (tgt := 96) hx hb d_Mo_order_89 (by decide) (fun c89 => ?_) (fun c89 => ?_)
        · refine lv_iconst (v := 1) hx hb d_Mo_order_96 (by decide) ?_
          exact W.iret (v := 1) hx hb hr (fun t ht hW => ⟨⟨1, (), rfl, (by show 1 = ordV (sl T.un sx lx) (sl T.un sy ly); rw [hI5, (ord_step hi hj hI3 hI4).1 (fun h => c82 (by rw [h_c8, h_c9]; exact h)), ← h_c8, ← h_c9, if_neg (Int32.not_lt.mpr c89)]), by rw [ht]; exact hP, va_K.moved hW.alike hK, hD⟩, hS.F ht⟩) hS.2.2 d_Mo_order_97
        · refine lv_iconst (v := (-1)) hx hb d_Mo_order_92 (by decide) ?_
          refine lv_goto (tgt := 97) hx hb d_Mo_order_93 (by decide) ?_
          exact W.iret (v := (-1)) hx hb hr (fun t ht hW => ⟨⟨(-1), (), rfl, (by show (-1) = ordV (sl T.un sx lx) (sl T.un sy ly); rw [hI5, (ord_step hi hj hI3 hI4).1 (fun h => c82 (by rw [h_c8, h_c9]; exact h)), ← h_c8, ← h_c9, if_pos (Int32.not_le.mp c89)]), by rw [ht]; exact hP, va_K.moved hW.alike hK, hD⟩, hS.F ht⟩) hS.2.2 d_Mo_order_97
