theorem w_1221 : (.methodLink "QueryBenchModel" 229 ⟨"QueryBenchModel$Tree", "clear", "()V"⟩ : Cond) ∈ gtbl := gt_in 1221 (by decide +kernel) (by decide +kernel)
theorem w_1222 : (.instanceMethod ⟨"QueryBenchModel$Tree", "clear", "()V"⟩ : Cond) ∈ gtbl := gt_in 1222 (by decide +kernel) (by decide +kernel)
theorem w_1223 : (.selects "QueryBenchModel$Tree" ⟨"QueryBenchModel$Tree", "clear", "()V"⟩ ⟨"QueryBenchModel$Tree", "clear", "()V"⟩ : Cond) ∈ gtbl := gt_in 1223 (by decide +kernel) (by decide +kernel)
/-- a whole document -/
def pR (f : Nat → Int32) (n : Nat) : Option (JVt 32) := match pV f n 32 0 with
  | none => none
  | some p => if p.2 < n then none else some p.1
/-- the reader's text -/
def tx (v : Nat → Value) (qx n : Nat) : Nat → Value := va_up (va_up v 6 (.ref qx)) 8 (.int (nI n))
theorem tx_rf {v : Nat → Value} {qx n : Nat} : va_up (va_up (va_up (va_up v 6 (.ref qx)) 7 (.int 0)) 8 (.int (nI n))) 9 (.int (-1)) = rf (tx v qx n) 0 (-1) := by
  funext k
  unfold rf tx va_up
  by_cases h6 : k = 6
  · subst h6; simp
  · by_cases h7 : k = 7
    · subst h7; simp; rfl
    · by_cases h8 : k = 8
      · subst h8; simp
      · simp [h6, h7, h8]
theorem tx_6 {v : Nat → Value} {qx n : Nat} : tx v qx n 6 = .ref qx := by unfold tx; rw [va_up_ne _ _ (by decide), va_up_self]
theorem tx_8 {v : Nat → Value} {qx n : Nat} : tx v qx n 8 = .int (nI n) := by unfold tx; rw [va_up_self]
theorem tx_ne {v : Nat → Value} {qx n j : Nat} (h1 : j ≠ 6) (h2 : j ≠ 8) : tx v qx n j = v j := by unfold tx; rw [va_up_ne _ _ h2, va_up_ne _ _ h1]
def RPost (f : Nat → Int32) (n : Nat) (T : TS) (res : Int32) (u : TS × Nat × Int32) : Prop := TOK u.1 ∧ GB (n + 12) (n + 12) T u.1 ∧ ((∃ x, res = 0 ∧ pR f n = some x ∧ RepV u.1 32 0 u.1.ct x ∧ u.1.pa 0 = -1 ∧ 0 < u.1.ct ∧ u.1.ct ≤ n ∧ u.1.us ≤ n) ∨ (res = -1 ∧ pR f n = none))
abbrev b_Mo_readT : ByteArray := prog_14_method_25_code
def y_Mo_readT : MethodName := ⟨"QueryBenchModel", "read", "([BILQueryBenchModel$Tree;)I"⟩
abbrev k_Mo_readT : Cond := .code y_Mo_readT b_Mo_readT 5 (some .int)
theorem i_Mo_readT : k_Mo_readT ∈ gtbl := gt_in 1220 (by decide +kernel) (by decide +kernel)
theorem d_Mo_readT_0 : decode b_Mo_readT 0 = .ok (.aload_n 0, 1) := by decide +kernel
theorem d_Mo_readT_1 : decode b_Mo_readT 1 = .ok (.aload_n 1, 1) := by decide +kernel
theorem d_Mo_readT_2 : decode b_Mo_readT 2 = .ok (.putfield 141, 3) := by decide +kernel
theorem d_Mo_readT_5 : decode b_Mo_readT 5 = .ok (.aload_n 0, 1) := by decide +kernel
theorem d_Mo_readT_6 : decode b_Mo_readT 6 = .ok (.iconst 0, 1) := by decide +kernel
theorem d_Mo_readT_7 : decode b_Mo_readT 7 = .ok (.putfield 135, 3) := by decide +kernel
theorem d_Mo_readT_10 : decode b_Mo_readT 10 = .ok (.aload_n 0, 1) := by decide +kernel
theorem d_Mo_readT_11 : decode b_Mo_readT 11 = .ok (.iload_n 2, 1) := by decide +kernel
theorem d_Mo_readT_12 : decode b_Mo_readT 12 = .ok (.putfield 138, 3) := by decide +kernel
theorem d_Mo_readT_15 : decode b_Mo_readT 15 = .ok (.aload_n 0, 1) := by decide +kernel
theorem d_Mo_readT_16 : decode b_Mo_readT 16 = .ok (.iconst (-1), 1) := by decide +kernel
theorem d_Mo_readT_17 : decode b_Mo_readT 17 = .ok (.putfield 144, 3) := by decide +kernel
theorem d_Mo_readT_20 : decode b_Mo_readT 20 = .ok (.aload_n 3, 1) := by decide +kernel
theorem d_Mo_readT_21 : decode b_Mo_readT 21 = .ok (.invokevirtual 229, 3) := by decide +kernel
theorem d_Mo_readT_24 : decode b_Mo_readT 24 = .ok (.aload_n 0, 1) := by decide +kernel
theorem d_Mo_readT_25 : decode b_Mo_readT 25 = .ok (.aload_n 3, 1) := by decide +kernel
theorem d_Mo_readT_26 : decode b_Mo_readT 26 = .ok (.iconst 0, 1) := by decide +kernel
theorem d_Mo_readT_27 : decode b_Mo_readT 27 = .ok (.invokevirtual 221, 3) := by decide +kernel
theorem d_Mo_readT_30 : decode b_Mo_readT 30 = .ok (.istore 4, 2) := by decide +kernel
theorem d_Mo_readT_32 : decode b_Mo_readT 32 = .ok (.iload 4, 2) := by decide +kernel
theorem d_Mo_readT_34 : decode b_Mo_readT 34 = .ok (.ifCond .lt 25, 3) := by decide +kernel
theorem d_Mo_readT_37 : decode b_Mo_readT 37 = .ok (.aload_n 0, 1) := by decide +kernel
theorem d_Mo_readT_38 : decode b_Mo_readT 38 = .ok (.getfield 135, 3) := by decide +kernel
theorem d_Mo_readT_41 : decode b_Mo_readT 41 = .ok (.aload_n 0, 1) := by decide +kernel
theorem d_Mo_readT_42 : decode b_Mo_readT 42 = .ok (.getfield 138, 3) := by decide +kernel
theorem d_Mo_readT_45 : decode b_Mo_readT 45 = .ok (.if_icmp .ge 14, 3) := by decide +kernel
theorem d_Mo_readT_48 : decode b_Mo_readT 48 = .ok (.aload_n 0, 1) := by decide +kernel
theorem d_Mo_readT_49 : decode b_Mo_readT 49 = .ok (.aload_n 0, 1) := by decide +kernel
theorem d_Mo_readT_50 : decode b_Mo_readT 50 = .ok (.getfield 135, 3) := by decide +kernel
theorem d_Mo_readT_53 : decode b_Mo_readT 53 = .ok (.invokevirtual 151, 3) := by decide +kernel
theorem d_Mo_readT_56 : decode b_Mo_readT 56 = .ok (.pop, 1) := by decide +kernel
theorem d_Mo_readT_57 : decode b_Mo_readT 57 = .ok (.iconst (-1), 1) := by decide +kernel
theorem d_Mo_readT_58 : decode b_Mo_readT 58 = .ok (.ireturn, 1) := by decide +kernel
theorem d_Mo_readT_59 : decode b_Mo_readT 59 = .ok (.iload 4, 2) := by decide +kernel
theorem d_Mo_readT_61 : decode b_Mo_readT 61 = .ok (.ireturn, 1) := by decide +kernel
set_option maxHeartbeats 4000000 in
set_option maxRecDepth 100000 in
/-- the reference: read a document -/
theorem c_Mo_readT (l : Launch) (dC : Nat → ClassId) (dI : Nat → Nat → Nat) (mo : Nat) (sz : Heap) (v : Nat → Value) (cB cI cL cC : ClassId) (qx NN : Nat) (f : Nat → Int32) (n : Nat) (K : Nat → Nat × Nat) (t : Nat) (T : TS) (hnN : n ≤ NN) (hNN : NN ≤ 100000) (hT : TOK T) : Met l y_Mo_readT (k_Mo_readT :: gtbl) ({ frames := 73, cells := ncap T (n + 12) + qcap T (n + 12), slots := 20 * ncap T (n + 12) + 2 * qcap T (n + 12), locals := 2900 }) (va_Pc [.ref mo, .ref qx, .int (nI n), .ref t] (me K dC dI [(mo, .inr (13, MF 30 v)), (qx, .inl (cB, NN, .inl f)), (t, .inr (12, MF 13 (tw T))), (T.a0, .inl (cI, T.N, .inl T.kd)), (T.a1, .inl (cL, T.N, .inr (.inl T.nu))), (T.a2, .inl (cI, T.N, .inl T.st)), (T.a3, .inl (cI, T.N, .inl T.ln)), (T.a4, .inl (cI, T.N, .inl T.ki)), (T.a5, .inl (cI, T.N, .inl T.nx)), (T.a6, .inl (cI, T.N, .inl T.ns)), (T.a7, .inl (cI, T.N, .inl T.nl)), (T.a8, .inl (cI, T.N, .inl T.pa)), (T.a9, .inl (cI, T.N, .inl T.pl)), (T.au, .inl (cC, T.U, .inl T.un))] [(cB, .byte), (cI, .int), (cL, .long), (cC, .char)] sz)) (va_Qi (fun (res : Int32) (u : TS × Nat × Int32) => RPost f n T res u) (fun u t9 => mz dC dI [(mo, .inr (13, MF 30 (rf (tx v qx n) u.2.1 u.2.2))), (qx, .inl (cB, NN, .inl f)), (t, .inr (12, MF 13 (tw u.1))), (u.1.a0, .inl (cI, u.1.N, .inl u.1.kd)), (u.1.a1, .inl (cL, u.1.N, .inr (.inl u.1.nu))), (u.1.a2, .inl (cI, u.1.N, .inl u.1.st)), (u.1.a3, .inl (cI, u.1.N, .inl u.1.ln)), (u.1.a4, .inl (cI, u.1.N, .inl u.1.ki)), (u.1.a5, .inl (cI, u.1.N, .inl u.1.nx)), (u.1.a6, .inl (cI, u.1.N, .inl u.1.ns)), (u.1.a7, .inl (cI, u.1.N, .inl u.1.nl)), (u.1.a8, .inl (cI, u.1.N, .inl u.1.pa)), (u.1.a9, .inl (cI, u.1.N, .inl u.1.pl)), (u.1.au, .inl (cC, u.1.U, .inl u.1.un))] [(cB, .byte), (cI, .int), (cL, .long), (cC, .char)] (va_A [(mo, .inr (13, MF 30 v)), (qx, .inl (cB, NN, .inl f)), (t, .inr (12, MF 13 (tw T))), (T.a0, .inl (cI, T.N, .inl T.kd)), (T.a1, .inl (cL, T.N, .inr (.inl T.nu))), (T.a2, .inl (cI, T.N, .inl T.st)), (T.a3, .inl (cI, T.N, .inl T.ln)), (T.a4, .inl (cI, T.N, .inl T.ki)), (T.a5, .inl (cI, T.N, .inl T.nx)), (T.a6, .inl (cI, T.N, .inl T.ns)), (T.a7, .inl (cI, T.N, .inl T.nl)), (T.a8, .inl (cI, T.N, .inl T.pa)), (T.a9, .inl (cI, T.N, .inl T.pl)), (T.au, .inl (cC, T.U, .inl T.un))] sz.size) t9 ∧ szk sz t9.heap (cE T u.1) (sE T u.1)) (va_A [(mo, .inr (13, MF 30 v)), (qx, .inl (cB, NN, .inl f)), (t, .inr (12, MF 13 (tw T))), (T.a0, .inl (cI, T.N, .inl T.kd)), (T.a1, .inl (cL, T.N, .inr (.inl T.nu))), (T.a2, .inl (cI, T.N, .inl T.st)), (T.a3, .inl (cI, T.N, .inl T.ln)), (T.a4, .inl (cI, T.N, .inl T.ki)), (T.a5, .inl (cI, T.N, .inl T.nx)), (T.a6, .inl (cI, T.N, .inl T.ns)), (T.a7, .inl (cI, T.N, .inl T.nl)), (T.a8, .inl (cI, T.N, .inl T.pa)), (T.a9, .inl (cI, T.N, .inl T.pl)), (T.au, .inl (cC, T.U, .inl T.un))] sz.size)) (ncap T (n + 12) + qcap T (n + 12)) (20 * ncap T (n + 12) + 2 * qcap T (n + 12)) (va_A [(mo, .inr (13, MF 30 v)), (qx, .inl (cB, NN, .inl f)), (t, .inr (12, MF 13 (tw T))), (T.a0, .inl (cI, T.N, .inl T.kd)), (T.a1, .inl (cL, T.N, .inr (.inl T.nu))), (T.a2, .inl (cI, T.N, .inl T.st)), (T.a3, .inl (cI, T.N, .inl T.ln)), (T.a4, .inl (cI, T.N, .inl T.ki)), (T.a5, .inl (cI, T.N, .inl T.nx)), (T.a6, .inl (cI, T.N, .inl T.ns)), (T.a7, .inl (cI, T.N, .inl T.nl)), (T.a8, .inl (cI, T.N, .inl T.pa)), (T.a9, .inl (cI, T.N, .inl T.pl)), (T.au, .inl (cC, T.U, .inl T.un))] sz.size) := by
  refine Met.ofW (cc := b_Mo_readT) (maxL := 5) (ret := (some .int)) (by decide) rfl ?_
  intro p e s m args below meth c s₁ B hml hv
  obtain ⟨rfl, ⟨hsz, hP, hK, hD0⟩, hM⟩ := hv
  have hx := B.exec
  have hb := B.bytes
  have hr := B.returns
  have hts0 := atoms_spec (ws := k_Mo_readT :: gtbl) B.pre
  have hts := fun w h => hts0 w (List.mem_cons_of_mem _ h)
  have hown : s.vm.findClass R_Mo = some m.cls := findClass_of_methodNamed B.named
  have hlocks := B.notSynchronized
  subst hsz
  have hD := hD0.self (sz := s.heap.size)
  generalize hAe : va_A [(mo, .inr (13, MF 30 v)), (qx, .inl (cB, NN, .inl f)), (t, .inr (12, MF 13 (tw T))), (T.a0, .inl (cI, T.N, .inl T.kd)), (T.a1, .inl (cL, T.N, .inr (.inl T.nu))), (T.a2, .inl (cI, T.N, .inl T.st)), (T.a3, .inl (cI, T.N, .inl T.ln)), (T.a4, .inl (cI, T.N, .inl T.ki)), (T.a5, .inl (cI, T.N, .inl T.nx)), (T.a6, .inl (cI, T.N, .inl T.ns)), (T.a7, .inl (cI, T.N, .inl T.nl)), (T.a8, .inl (cI, T.N, .inl T.pa)), (T.a9, .inl (cI, T.N, .inl T.pl)), (T.au, .inl (cC, T.U, .inl T.un))] s.heap.size = A at hD hM ⊢
  have hA : ∀ q : Nat, s.heap.size ≤ q → A q := fun q h => by rw [← hAe]; exact Or.inr h
  have hS : va_S A s.heap s.heap [] := va_S.rf
  have hP : va_P (dC, dI) classes [(mo, .inr (13, MF 30 v)), (qx, .inl (cB, NN, .inl f)), (t, .inr (12, MF 13 (tw T))), (T.a0, .inl (cI, T.N, .inl T.kd)), (T.a1, .inl (cL, T.N, .inr (.inl T.nu))), (T.a2, .inl (cI, T.N, .inl T.st)), (T.a3, .inl (cI, T.N, .inl T.ln)), (T.a4, .inl (cI, T.N, .inl T.ki)), (T.a5, .inl (cI, T.N, .inl T.nx)), (T.a6, .inl (cI, T.N, .inl T.ns)), (T.a7, .inl (cI, T.N, .inl T.nl)), (T.a8, .inl (cI, T.N, .inl T.pa)), (T.a9, .inl (cI, T.N, .inl T.pl)), (T.au, .inl (cC, T.U, .inl T.un))] s.heap := hP
  have hl := lv_entry ([.ref mo, .ref qx, .int (nI n), .ref t]) (n := 5) (Nat.le_of_ble_eq_true rfl)
  rw [lg_entry_eq]
  generalize (lg_sl ([.ref mo, .ref qx, .int (nI n), .ref t]) ++ List.replicate (5 - (lg_sl ([.ref mo, .ref qx, .int (nI n), .ref t])).length) Slot.unset).toArray = ls at hl ⊢
  have hl : lv_has ls 5 [(0, .ref mo), (1, .ref qx), (2, .int (nI n)), (3, .ref t)] := hl
  have hT0 := hT
  obtain ⟨ho1, ho2, ho3, ho4, ho5, ho6, ho7⟩ := hT
  refine lv_aload_n hx hb d_Mo_readT_0 rfl (lv_at hl 0 rfl) ?_
  refine lv_aload_n hx hb d_Mo_readT_1 rfl (lv_at hl 1 rfl) ?_
  refine va_put (D := (dC, dI)) (ci := 13) (v := .ref qx) (ty := .array .byte) (C := R_Mo) (T := F_Mo) (N := 30) hx hb hts in_Mo t_Mo t_Mo_ok n_Mo hown hK hP hD hS 0 rfl rfl 6 (by decide) (hts _ w_1095) (fun _ h9 => h9) rfl (by decide +kernel) rfl rfl (by rw [MFl]; decide) d_Mo_readT_2 (fun H locs hP hD hS => ?_)
  rw [MFs (n := 30) (k := 6) (by decide)] at hP hD
  have hP : va_P (dC, dI) classes [(mo, .inr (13, MF 30 (va_up v 6 (.ref qx)))), (qx, .inl (cB, NN, .inl f)), (t, .inr (12, MF 13 (tw T))), (T.a0, .inl (cI, T.N, .inl T.kd)), (T.a1, .inl (cL, T.N, .inr (.inl T.nu))), (T.a2, .inl (cI, T.N, .inl T.st)), (T.a3, .inl (cI, T.N, .inl T.ln)), (T.a4, .inl (cI, T.N, .inl T.ki)), (T.a5, .inl (cI, T.N, .inl T.nx)), (T.a6, .inl (cI, T.N, .inl T.ns)), (T.a7, .inl (cI, T.N, .inl T.nl)), (T.a8, .inl (cI, T.N, .inl T.pa)), (T.a9, .inl (cI, T.N, .inl T.pl)), (T.au, .inl (cC, T.U, .inl T.un))] H := hP
  have hD : va_D A [(mo, .inr (13, MF 30 (va_up v 6 (.ref qx)))), (qx, .inl (cB, NN, .inl f)), (t, .inr (12, MF 13 (tw T))), (T.a0, .inl (cI, T.N, .inl T.kd)), (T.a1, .inl (cL, T.N, .inr (.inl T.nu))), (T.a2, .inl (cI, T.N, .inl T.st)), (T.a3, .inl (cI, T.N, .inl T.ln)), (T.a4, .inl (cI, T.N, .inl T.ki)), (T.a5, .inl (cI, T.N, .inl T.nx)), (T.a6, .inl (cI, T.N, .inl T.ns)), (T.a7, .inl (cI, T.N, .inl T.nl)), (T.a8, .inl (cI, T.N, .inl T.pa)), (T.a9, .inl (cI, T.N, .inl T.pl)), (T.au, .inl (cC, T.U, .inl T.un))] := hD
  refine lv_aload_n hx hb d_Mo_readT_5 rfl (lv_at hl 0 rfl) ?_
  refine lv_iconst (v := 0) hx hb d_Mo_readT_6 (by decide) ?_
  refine va_put (D := (dC, dI)) (ci := 13) (v := .int 0) (ty := .int) (C := R_Mo) (T := F_Mo) (N := 30) hx hb hts in_Mo t_Mo t_Mo_ok n_Mo hown hK hP hD hS 0 rfl rfl 7 (by decide) (hts _ w_1096) (fun _ h9 => h9) rfl (by decide +kernel) rfl rfl (by rw [MFl]; decide) d_Mo_readT_7 (fun H locs hP hD hS => ?_)
  rw [MFs (n := 30) (k := 7) (by decide)] at hP hD
  have hP : va_P (dC, dI) classes [(mo, .inr (13, MF 30 (va_up (va_up v 6 (.ref qx)) 7 (.int 0)))), (qx, .inl (cB, NN, .inl f)), (t, .inr (12, MF 13 (tw T))), (T.a0, .inl (cI, T.N, .inl T.kd)), (T.a1, .inl (cL, T.N, .inr (.inl T.nu))), (T.a2, .inl (cI, T.N, .inl T.st)), (T.a3, .inl (cI, T.N, .inl T.ln)), (T.a4, .inl (cI, T.N, .inl T.ki)), (T.a5, .inl (cI, T.N, .inl T.nx)), (T.a6, .inl (cI, T.N, .inl T.ns)), (T.a7, .inl (cI, T.N, .inl T.nl)), (T.a8, .inl (cI, T.N, .inl T.pa)), (T.a9, .inl (cI, T.N, .inl T.pl)), (T.au, .inl (cC, T.U, .inl T.un))] H := hP
  have hD : va_D A [(mo, .inr (13, MF 30 (va_up (va_up v 6 (.ref qx)) 7 (.int 0)))), (qx, .inl (cB, NN, .inl f)), (t, .inr (12, MF 13 (tw T))), (T.a0, .inl (cI, T.N, .inl T.kd)), (T.a1, .inl (cL, T.N, .inr (.inl T.nu))), (T.a2, .inl (cI, T.N, .inl T.st)), (T.a3, .inl (cI, T.N, .inl T.ln)), (T.a4, .inl (cI, T.N, .inl T.ki)), (T.a5, .inl (cI, T.N, .inl T.nx)), (T.a6, .inl (cI, T.N, .inl T.ns)), (T.a7, .inl (cI, T.N, .inl T.nl)), (T.a8, .inl (cI, T.N, .inl T.pa)), (T.a9, .inl (cI, T.N, .inl T.pl)), (T.au, .inl (cC, T.U, .inl T.un))] := hD
  refine lv_aload_n hx hb d_Mo_readT_10 rfl (lv_at hl 0 rfl) ?_
  refine lv_iload_n hx hb d_Mo_readT_11 rfl (lv_at hl 2 rfl) ?_
  refine va_put (D := (dC, dI)) (ci := 13) (v := .int (nI n)) (ty := .int) (C := R_Mo) (T := F_Mo) (N := 30) hx hb hts in_Mo t_Mo t_Mo_ok n_Mo hown hK hP hD hS 0 rfl rfl 8 (by decide) (hts _ w_1097) (fun _ h9 => h9) rfl (by decide +kernel) rfl rfl (by rw [MFl]; decide) d_Mo_readT_12 (fun H locs hP hD hS => ?_)
  rw [MFs (n := 30) (k := 8) (by decide)] at hP hD
  have hP : va_P (dC, dI) classes [(mo, .inr (13, MF 30 (va_up (va_up (va_up v 6 (.ref qx)) 7 (.int 0)) 8 (.int (nI n))))), (qx, .inl (cB, NN, .inl f)), (t, .inr (12, MF 13 (tw T))), (T.a0, .inl (cI, T.N, .inl T.kd)), (T.a1, .inl (cL, T.N, .inr (.inl T.nu))), (T.a2, .inl (cI, T.N, .inl T.st)), (T.a3, .inl (cI, T.N, .inl T.ln)), (T.a4, .inl (cI, T.N, .inl T.ki)), (T.a5, .inl (cI, T.N, .inl T.nx)), (T.a6, .inl (cI, T.N, .inl T.ns)), (T.a7, .inl (cI, T.N, .inl T.nl)), (T.a8, .inl (cI, T.N, .inl T.pa)), (T.a9, .inl (cI, T.N, .inl T.pl)), (T.au, .inl (cC, T.U, .inl T.un))] H := hP
  have hD : va_D A [(mo, .inr (13, MF 30 (va_up (va_up (va_up v 6 (.ref qx)) 7 (.int 0)) 8 (.int (nI n))))), (qx, .inl (cB, NN, .inl f)), (t, .inr (12, MF 13 (tw T))), (T.a0, .inl (cI, T.N, .inl T.kd)), (T.a1, .inl (cL, T.N, .inr (.inl T.nu))), (T.a2, .inl (cI, T.N, .inl T.st)), (T.a3, .inl (cI, T.N, .inl T.ln)), (T.a4, .inl (cI, T.N, .inl T.ki)), (T.a5, .inl (cI, T.N, .inl T.nx)), (T.a6, .inl (cI, T.N, .inl T.ns)), (T.a7, .inl (cI, T.N, .inl T.nl)), (T.a8, .inl (cI, T.N, .inl T.pa)), (T.a9, .inl (cI, T.N, .inl T.pl)), (T.au, .inl (cC, T.U, .inl T.un))] := hD
  refine lv_aload_n hx hb d_Mo_readT_15 rfl (lv_at hl 0 rfl) ?_
  refine lv_iconst (v := (-1)) hx hb d_Mo_readT_16 (by decide) ?_
  refine va_put (D := (dC, dI)) (ci := 13) (v := .int (-1)) (ty := .int) (C := R_Mo) (T := F_Mo) (N := 30) hx hb hts in_Mo t_Mo t_Mo_ok n_Mo hown hK hP hD hS 0 rfl rfl 9 (by decide) (hts _ w_1098) (fun _ h9 => h9) rfl (by decide +kernel) rfl rfl (by rw [MFl]; decide) d_Mo_readT_17 (fun H locs hP hD hS => ?_)
  rw [MFs (n := 30) (k := 9) (by decide)] at hP hD
  have hP : va_P (dC, dI) classes [(mo, .inr (13, MF 30 (va_up (va_up (va_up (va_up v 6 (.ref qx)) 7 (.int 0)) 8 (.int (nI n))) 9 (.int (-1))))), (qx, .inl (cB, NN, .inl f)), (t, .inr (12, MF 13 (tw T))), (T.a0, .inl (cI, T.N, .inl T.kd)), (T.a1, .inl (cL, T.N, .inr (.inl T.nu))), (T.a2, .inl (cI, T.N, .inl T.st)), (T.a3, .inl (cI, T.N, .inl T.ln)), (T.a4, .inl (cI, T.N, .inl T.ki)), (T.a5, .inl (cI, T.N, .inl T.nx)), (T.a6, .inl (cI, T.N, .inl T.ns)), (T.a7, .inl (cI, T.N, .inl T.nl)), (T.a8, .inl (cI, T.N, .inl T.pa)), (T.a9, .inl (cI, T.N, .inl T.pl)), (T.au, .inl (cC, T.U, .inl T.un))] H := hP
  have hD : va_D A [(mo, .inr (13, MF 30 (va_up (va_up (va_up (va_up v 6 (.ref qx)) 7 (.int 0)) 8 (.int (nI n))) 9 (.int (-1))))), (qx, .inl (cB, NN, .inl f)), (t, .inr (12, MF 13 (tw T))), (T.a0, .inl (cI, T.N, .inl T.kd)), (T.a1, .inl (cL, T.N, .inr (.inl T.nu))), (T.a2, .inl (cI, T.N, .inl T.st)), (T.a3, .inl (cI, T.N, .inl T.ln)), (T.a4, .inl (cI, T.N, .inl T.ki)), (T.a5, .inl (cI, T.N, .inl T.nx)), (T.a6, .inl (cI, T.N, .inl T.ns)), (T.a7, .inl (cI, T.N, .inl T.nl)), (T.a8, .inl (cI, T.N, .inl T.pa)), (T.a9, .inl (cI, T.N, .inl T.pl)), (T.au, .inl (cC, T.U, .inl T.un))] := hD
  rw [tx_rf] at hP hD
  have hP : va_P (dC, dI) classes [(mo, .inr (13, MF 30 (rf (tx v qx n) 0 (-1)))), (qx, .inl (cB, NN, .inl f)), (t, .inr (12, MF 13 (tw T))), (T.a0, .inl (cI, T.N, .inl T.kd)), (T.a1, .inl (cL, T.N, .inr (.inl T.nu))), (T.a2, .inl (cI, T.N, .inl T.st)), (T.a3, .inl (cI, T.N, .inl T.ln)), (T.a4, .inl (cI, T.N, .inl T.ki)), (T.a5, .inl (cI, T.N, .inl T.nx)), (T.a6, .inl (cI, T.N, .inl T.ns)), (T.a7, .inl (cI, T.N, .inl T.nl)), (T.a8, .inl (cI, T.N, .inl T.pa)), (T.a9, .inl (cI, T.N, .inl T.pl)), (T.au, .inl (cC, T.U, .inl T.un))] H := hP
  have hD : va_D A [(mo, .inr (13, MF 30 (rf (tx v qx n) 0 (-1)))), (qx, .inl (cB, NN, .inl f)), (t, .inr (12, MF 13 (tw T))), (T.a0, .inl (cI, T.N, .inl T.kd)), (T.a1, .inl (cL, T.N, .inr (.inl T.nu))), (T.a2, .inl (cI, T.N, .inl T.st)), (T.a3, .inl (cI, T.N, .inl T.ln)), (T.a4, .inl (cI, T.N, .inl T.ki)), (T.a5, .inl (cI, T.N, .inl T.nx)), (T.a6, .inl (cI, T.N, .inl T.ns)), (T.a7, .inl (cI, T.N, .inl T.nl)), (T.a8, .inl (cI, T.N, .inl T.pa)), (T.a9, .inl (cI, T.N, .inl T.pl)), (T.au, .inl (cC, T.U, .inl T.un))] := hD
  refine lv_aload_n hx hb d_Mo_readT_20 rfl (lv_at hl 3 rfl) ?_
  have hPc := hP.sub (ws' := [(t, .inr (12, MF 13 (tw T)))]) [2] rfl
  have hDc := hD.sub (ws' := [(t, .inr (12, MF 13 (tw T)))]) [2] (by decide) rfl
  have hKc := hK.sub (tys' := []) [] rfl
  have hFc := va_free (wc := [(t, .inr (12, MF 13 (tw T)))]) hD hS hA [2] rfl
  refine va_callv (va_runV (As := []) (rest := []) ⟨hx, hb, hml, hown, hts⟩ (c_Tree_clear l dC dI t H (tw T)) (cwV 0 hts (gt_V (own := R_Mo) (C := R_Tree) (i := 229) (y := y_Tree_clear) i_Tree_clear w_1221 w_1222 w_1223 w_8) rfl rfl rfl (by decide +kernel) ⟨Nat.le_of_ble_eq_true rfl, Nat.le_of_ble_eq_true rfl⟩) ⟨mp_blind, va_recv hKc hPc (ci := 12) (q0 := 0) rfl rfl, fun U hU hW => ⟨rfl, hU, by rw [hU]; exact hPc, va_K.moved hW.alike hKc, hDc.weaken (fun _ _ _ _ => trivial)⟩⟩ rfl rfl hl.1 rfl (lv_room (Nat.le_of_ble_eq_true rfl)) d_Mo_readT_21 ⟨Nat.zero_le _, Nat.zero_le _⟩) hS (fun q _ h => hFc q h) hFc (fun _u t9 H1 locs ht hvm hw hB hz1 hk1 hS => ?_)
  obtain ⟨hP1, hK1, hD1⟩ := hB
  rw [ht] at hP1
  obtain ⟨hP, hD⟩ := va_join (wr := [(mo, .inr (13, MF 30 (rf (tx v qx n) 0 (-1)))), (qx, .inl (cB, NN, .inl f)), (T.a0, .inl (cI, T.N, .inl T.kd)), (T.a1, .inl (cL, T.N, .inr (.inl T.nu))), (T.a2, .inl (cI, T.N, .inl T.st)), (T.a3, .inl (cI, T.N, .inl T.ln)), (T.a4, .inl (cI, T.N, .inl T.ki)), (T.a5, .inl (cI, T.N, .inl T.nx)), (T.a6, .inl (cI, T.N, .inl T.ns)), (T.a7, .inl (cI, T.N, .inl T.nl)), (T.a8, .inl (cI, T.N, .inl T.pa)), (T.a9, .inl (cI, T.N, .inl T.pl)), (T.au, .inl (cC, T.U, .inl T.un))]) (w1 := [(t, .inr (12, MF 13 (va_up (va_up (tw T) 10 (.int 0)) 12 (.int 0))))]) hP hD [2] [0, 1, 3, 4, 5, 6, 7, 8, 9, 10, 11, 12, 13] rfl rfl (by decide) (by decide) hk1 hFc hP1 hD1
  generalize H1 = H at hP hS ⊢
  have hP : va_P (dC, dI) classes [(mo, .inr (13, MF 30 (rf (tx v qx n) 0 (-1)))), (qx, .inl (cB, NN, .inl f)), (T.a0, .inl (cI, T.N, .inl T.kd)), (T.a1, .inl (cL, T.N, .inr (.inl T.nu))), (T.a2, .inl (cI, T.N, .inl T.st)), (T.a3, .inl (cI, T.N, .inl T.ln)), (T.a4, .inl (cI, T.N, .inl T.ki)), (T.a5, .inl (cI, T.N, .inl T.nx)), (T.a6, .inl (cI, T.N, .inl T.ns)), (T.a7, .inl (cI, T.N, .inl T.nl)), (T.a8, .inl (cI, T.N, .inl T.pa)), (T.a9, .inl (cI, T.N, .inl T.pl)), (T.au, .inl (cC, T.U, .inl T.un)), (t, .inr (12, MF 13 (va_up (va_up (tw T) 10 (.int 0)) 12 (.int 0))))] H := hP
  have hD : va_D A [(mo, .inr (13, MF 30 (rf (tx v qx n) 0 (-1)))), (qx, .inl (cB, NN, .inl f)), (T.a0, .inl (cI, T.N, .inl T.kd)), (T.a1, .inl (cL, T.N, .inr (.inl T.nu))), (T.a2, .inl (cI, T.N, .inl T.st)), (T.a3, .inl (cI, T.N, .inl T.ln)), (T.a4, .inl (cI, T.N, .inl T.ki)), (T.a5, .inl (cI, T.N, .inl T.nx)), (T.a6, .inl (cI, T.N, .inl T.ns)), (T.a7, .inl (cI, T.N, .inl T.nl)), (T.a8, .inl (cI, T.N, .inl T.pa)), (T.a9, .inl (cI, T.N, .inl T.pl)), (T.au, .inl (cC, T.U, .inl T.un)), (t, .inr (12, MF 13 (va_up (va_up (tw T) 10 (.int 0)) 12 (.int 0))))] := hD
  have hP := hP.sub (ws' := [(mo, .inr (13, MF 30 (rf (tx v qx n) 0 (-1)))), (qx, .inl (cB, NN, .inl f)), (t, .inr (12, MF 13 (va_up (va_up (tw T) 10 (.int 0)) 12 (.int 0)))), (T.a0, .inl (cI, T.N, .inl T.kd)), (T.a1, .inl (cL, T.N, .inr (.inl T.nu))), (T.a2, .inl (cI, T.N, .inl T.st)), (T.a3, .inl (cI, T.N, .inl T.ln)), (T.a4, .inl (cI, T.N, .inl T.ki)), (T.a5, .inl (cI, T.N, .inl T.nx)), (T.a6, .inl (cI, T.N, .inl T.ns)), (T.a7, .inl (cI, T.N, .inl T.nl)), (T.a8, .inl (cI, T.N, .inl T.pa)), (T.a9, .inl (cI, T.N, .inl T.pl)), (T.au, .inl (cC, T.U, .inl T.un))]) [0, 1, 13, 2, 3, 4, 5, 6, 7, 8, 9, 10, 11, 12] rfl
  have hD := hD.sub (ws' := [(mo, .inr (13, MF 30 (rf (tx v qx n) 0 (-1)))), (qx, .inl (cB, NN, .inl f)), (t, .inr (12, MF 13 (va_up (va_up (tw T) 10 (.int 0)) 12 (.int 0)))), (T.a0, .inl (cI, T.N, .inl T.kd)), (T.a1, .inl (cL, T.N, .inr (.inl T.nu))), (T.a2, .inl (cI, T.N, .inl T.st)), (T.a3, .inl (cI, T.N, .inl T.ln)), (T.a4, .inl (cI, T.N, .inl T.ki)), (T.a5, .inl (cI, T.N, .inl T.nx)), (T.a6, .inl (cI, T.N, .inl T.ns)), (T.a7, .inl (cI, T.N, .inl T.nl)), (T.a8, .inl (cI, T.N, .inl T.pa)), (T.a9, .inl (cI, T.N, .inl T.pl)), (T.au, .inl (cC, T.U, .inl T.un))]) [0, 1, 13, 2, 3, 4, 5, 6, 7, 8, 9, 10, 11, 12] (by decide) rfl
  obtain ⟨T0, e_T0⟩ : ∃ z : TS, z = (TS.mk T.N T.U 0 0 T.a0 T.a1 T.a2 T.a3 T.a4 T.a5 T.a6 T.a7 T.a8 T.a9 T.au T.kd T.st T.ln T.ki T.nx T.ns T.nl T.pa T.pl T.un T.nu) := ⟨_, rfl⟩
  have e9 : MF 13 (va_up (va_up (tw T) 10 (.int 0)) 12 (.int 0)) = MF 13 (tw T0) := by rw [e_T0]; rfl
  rw [e9] at hP hD
  have hP : va_P (dC, dI) classes [(mo, .inr (13, MF 30 (rf (tx v qx n) 0 (-1)))), (qx, .inl (cB, NN, .inl f)), (t, .inr (12, MF 13 (tw T0))), (T0.a0, .inl (cI, T0.N, .inl T0.kd)), (T0.a1, .inl (cL, T0.N, .inr (.inl T0.nu))), (T0.a2, .inl (cI, T0.N, .inl T0.st)), (T0.a3, .inl (cI, T0.N, .inl T0.ln)), (T0.a4, .inl (cI, T0.N, .inl T0.ki)), (T0.a5, .inl (cI, T0.N, .inl T0.nx)), (T0.a6, .inl (cI, T0.N, .inl T0.ns)), (T0.a7, .inl (cI, T0.N, .inl T0.nl)), (T0.a8, .inl (cI, T0.N, .inl T0.pa)), (T0.a9, .inl (cI, T0.N, .inl T0.pl)), (T0.au, .inl (cC, T0.U, .inl T0.un))] H := by subst e_T0; exact hP
  have hD : va_D A [(mo, .inr (13, MF 30 (rf (tx v qx n) 0 (-1)))), (qx, .inl (cB, NN, .inl f)), (t, .inr (12, MF 13 (tw T0))), (T0.a0, .inl (cI, T0.N, .inl T0.kd)), (T0.a1, .inl (cL, T0.N, .inr (.inl T0.nu))), (T0.a2, .inl (cI, T0.N, .inl T0.st)), (T0.a3, .inl (cI, T0.N, .inl T0.ln)), (T0.a4, .inl (cI, T0.N, .inl T0.ki)), (T0.a5, .inl (cI, T0.N, .inl T0.nx)), (T0.a6, .inl (cI, T0.N, .inl T0.ns)), (T0.a7, .inl (cI, T0.N, .inl T0.nl)), (T0.a8, .inl (cI, T0.N, .inl T0.pa)), (T0.a9, .inl (cI, T0.N, .inl T0.pl)), (T0.au, .inl (cC, T0.U, .inl T0.un))] := by subst e_T0; exact hD
  have hT00 : T0.ct = 0 ∧ T0.us = 0 ∧ T0.N = T.N ∧ T0.U = T.U ∧ T0.un = T.un := by rw [e_T0]; exact ⟨rfl, rfl, rfl, rfl, rfl⟩
  obtain ⟨z1, z2, z3, z4, z5⟩ := hT00
  have hTk_T0 : TOK T0 := ⟨by omega, by omega, by omega, by omega, by omega, by omega, by rw [z5]; exact ho7⟩
  refine lv_aload_n hx hb d_Mo_readT_24 rfl (lv_at hl 0 rfl) ?_
  refine lv_aload_n hx hb d_Mo_readT_25 rfl (lv_at hl 3 rfl) ?_
  refine lv_iconst (v := 0) hx hb d_Mo_readT_26 (by decide) ?_
  have hbc : ncap T0 (T0.ct + (n + 12 - 0)) = ncap T (n + 12) ∧ qcap T0 (T0.us + (n + 12 - 0)) = qcap T (n + 12) := by unfold ncap qcap; rw [z1, z2, z3, z4, Nat.zero_add, Nat.sub_zero]; exact ⟨rfl, rfl⟩
  have hPc := hP.sub (ws' := [(mo, .inr (13, MF 30 (rf (tx v qx n) 0 (-1)))), (qx, .inl (cB, NN, .inl f)), (t, .inr (12, MF 13 (tw T0))), (T0.a0, .inl (cI, T0.N, .inl T0.kd)), (T0.a1, .inl (cL, T0.N, .inr (.inl T0.nu))), (T0.a2, .inl (cI, T0.N, .inl T0.st)), (T0.a3, .inl (cI, T0.N, .inl T0.ln)), (T0.a4, .inl (cI, T0.N, .inl T0.ki)), (T0.a5, .inl (cI, T0.N, .inl T0.nx)), (T0.a6, .inl (cI, T0.N, .inl T0.ns)), (T0.a7, .inl (cI, T0.N, .inl T0.nl)), (T0.a8, .inl (cI, T0.N, .inl T0.pa)), (T0.a9, .inl (cI, T0.N, .inl T0.pl)), (T0.au, .inl (cC, T0.U, .inl T0.un))]) [0, 1, 2, 3, 4, 5, 6, 7, 8, 9, 10, 11, 12, 13] rfl
  have hDc := hD.sub (ws' := [(mo, .inr (13, MF 30 (rf (tx v qx n) 0 (-1)))), (qx, .inl (cB, NN, .inl f)), (t, .inr (12, MF 13 (tw T0))), (T0.a0, .inl (cI, T0.N, .inl T0.kd)), (T0.a1, .inl (cL, T0.N, .inr (.inl T0.nu))), (T0.a2, .inl (cI, T0.N, .inl T0.st)), (T0.a3, .inl (cI, T0.N, .inl T0.ln)), (T0.a4, .inl (cI, T0.N, .inl T0.ki)), (T0.a5, .inl (cI, T0.N, .inl T0.nx)), (T0.a6, .inl (cI, T0.N, .inl T0.ns)), (T0.a7, .inl (cI, T0.N, .inl T0.nl)), (T0.a8, .inl (cI, T0.N, .inl T0.pa)), (T0.a9, .inl (cI, T0.N, .inl T0.pl)), (T0.au, .inl (cC, T0.U, .inl T0.un))]) [0, 1, 2, 3, 4, 5, 6, 7, 8, 9, 10, 11, 12, 13] (by decide) rfl
  have hKc := hK.sub (tys' := [(cB, .byte), (cI, .int), (cL, .long), (cC, .char)]) [0, 1, 2, 3] rfl
  have hFc := va_free (wc := [(mo, .inr (13, MF 30 (rf (tx v qx n) 0 (-1)))), (qx, .inl (cB, NN, .inl f)), (t, .inr (12, MF 13 (tw T0))), (T0.a0, .inl (cI, T0.N, .inl T0.kd)), (T0.a1, .inl (cL, T0.N, .inr (.inl T0.nu))), (T0.a2, .inl (cI, T0.N, .inl T0.st)), (T0.a3, .inl (cI, T0.N, .inl T0.ln)), (T0.a4, .inl (cI, T0.N, .inl T0.ki)), (T0.a5, .inl (cI, T0.N, .inl T0.nx)), (T0.a6, .inl (cI, T0.N, .inl T0.ns)), (T0.a7, .inl (cI, T0.N, .inl T0.nl)), (T0.a8, .inl (cI, T0.N, .inl T0.pa)), (T0.a9, .inl (cI, T0.N, .inl T0.pl)), (T0.au, .inl (cC, T0.U, .inl T0.un))]) hD hS hA [0, 1, 2, 3, 4, 5, 6, 7, 8, 9, 10, 11, 12, 13] rfl
  refine w_same (fun hq0 => ?_)
  refine va_calli (va_runV (As := [.ref t, .int 0]) (rest := []) ⟨hx, hb, hml, hown, hts⟩ ((c_VC 32 (Nat.le_refl _)) l dC dI mo H (tx v qx n) cB cI cL cC qx NN f n K t T0 0 (-1) hnN hNN (Nat.zero_le _) tx_6 tx_8 hTk_T0 (by omega) (by omega)) (cwV 2 hts (gt_V (own := R_Mo) (C := R_Mo) (i := 221) (y := y_Mo_value) i_Mo_value w_1225 w_1227 (gt_sel (y := y_Mo_value) (n := 30) (by decide +kernel)) w_7) rfl rfl rfl (by decide +kernel) ⟨Nat.le_of_ble_eq_true rfl, Nat.le_of_ble_eq_true rfl⟩) ⟨me_blind, va_recv hKc hPc (ci := 13) (q0 := 0) rfl rfl, fun U hU hW => ⟨rfl, ⟨hU, by rw [hU]; exact hPc, va_K.moved hW.alike hKc, hDc.weaken (fun _ _ _ _ => trivial)⟩, by rw [hU]; exact ME.call hM hS.2.1 hFc hW⟩⟩ rfl rfl hl.1 rfl (lv_room (Nat.le_of_ble_eq_true rfl)) d_Mo_readT_27 ⟨by rw [hbc.1, hbc.2]; exact Nat.le_of_eq (Nat.zero_add _), by rw [hbc.1, hbc.2]; exact Nat.le_of_eq (Nat.zero_add _)⟩) hS (fun q _ h => hFc q h) hFc (fun r0 ⟨T2, j2, b2⟩ t9 H1 locs ht hvm hw hB hz1 hk1 hS => ?_)
  obtain ⟨⟨hP1, hK1, hD1⟩, hz9⟩ := hB
  rw [ht] at hP1
  rw [ht] at hz9
  obtain ⟨⟨hTk_T2, hG0⟩, hw⟩ := hw
  have hTk_T2 : TOK T2 := hTk_T2
  have hz9 : szk H H1 (cE T0 T2) (sE T0 T2) := hz9
  unfold cE sE at hz9
  rw [z3, z4] at hz9
  have hGB_T2 : GB (n + 12) (n + 12) T T2 := by unfold GB at hG0 ⊢; rw [z1, z2, z3, z4, Nat.zero_add, Nat.sub_zero] at hG0; exact hG0
  have hq1 : szk s.heap H1 (cE T T2) (sE T T2) := (hq0.trans hz9).mono (by unfold cE; omega) (by unfold sE; omega)
  refine w_tight hq1 ?_
  obtain ⟨hP, hD⟩ := va_join (wr := []) (w1 := [(mo, .inr (13, MF 30 (rf (tx v qx n) j2 b2))), (qx, .inl (cB, NN, .inl f)), (t, .inr (12, MF 13 (tw T2))), (T2.a0, .inl (cI, T2.N, .inl T2.kd)), (T2.a1, .inl (cL, T2.N, .inr (.inl T2.nu))), (T2.a2, .inl (cI, T2.N, .inl T2.st)), (T2.a3, .inl (cI, T2.N, .inl T2.ln)), (T2.a4, .inl (cI, T2.N, .inl T2.ki)), (T2.a5, .inl (cI, T2.N, .inl T2.nx)), (T2.a6, .inl (cI, T2.N, .inl T2.ns)), (T2.a7, .inl (cI, T2.N, .inl T2.nl)), (T2.a8, .inl (cI, T2.N, .inl T2.pa)), (T2.a9, .inl (cI, T2.N, .inl T2.pl)), (T2.au, .inl (cC, T2.U, .inl T2.un))]) hP hD [0, 1, 2, 3, 4, 5, 6, 7, 8, 9, 10, 11, 12, 13] [] rfl rfl (by decide) (by decide) hk1 hFc hP1 hD1
  generalize H1 = H at hP hS ⊢
  have hP : va_P (dC, dI) classes [(mo, .inr (13, MF 30 (rf (tx v qx n) j2 b2))), (qx, .inl (cB, NN, .inl f)), (t, .inr (12, MF 13 (tw T2))), (T2.a0, .inl (cI, T2.N, .inl T2.kd)), (T2.a1, .inl (cL, T2.N, .inr (.inl T2.nu))), (T2.a2, .inl (cI, T2.N, .inl T2.st)), (T2.a3, .inl (cI, T2.N, .inl T2.ln)), (T2.a4, .inl (cI, T2.N, .inl T2.ki)), (T2.a5, .inl (cI, T2.N, .inl T2.nx)), (T2.a6, .inl (cI, T2.N, .inl T2.ns)), (T2.a7, .inl (cI, T2.N, .inl T2.nl)), (T2.a8, .inl (cI, T2.N, .inl T2.pa)), (T2.a9, .inl (cI, T2.N, .inl T2.pl)), (T2.au, .inl (cC, T2.U, .inl T2.un))] H := hP
  have hD : va_D A [(mo, .inr (13, MF 30 (rf (tx v qx n) j2 b2))), (qx, .inl (cB, NN, .inl f)), (t, .inr (12, MF 13 (tw T2))), (T2.a0, .inl (cI, T2.N, .inl T2.kd)), (T2.a1, .inl (cL, T2.N, .inr (.inl T2.nu))), (T2.a2, .inl (cI, T2.N, .inl T2.st)), (T2.a3, .inl (cI, T2.N, .inl T2.ln)), (T2.a4, .inl (cI, T2.N, .inl T2.ki)), (T2.a5, .inl (cI, T2.N, .inl T2.nx)), (T2.a6, .inl (cI, T2.N, .inl T2.ns)), (T2.a7, .inl (cI, T2.N, .inl T2.nl)), (T2.a8, .inl (cI, T2.N, .inl T2.pa)), (T2.a9, .inl (cI, T2.N, .inl T2.pl)), (T2.au, .inl (cC, T2.U, .inl T2.un))] := hD
  have hfit := hGB_T2.fits
  rcases hw with ⟨x9, hv_1, hv_2, hv_3, hv_4, hv_5, hv_5b, hv_6, hv_7, hv_8⟩ | ⟨hv_1, hv_2⟩
  · rw [z1] at hv_1 hv_3 hv_5 hv_5b
    have hv_1 : r0 = 0 := hv_1
    have hv_2 : pV f n 32 0 = some (x9, j2) := hv_2
    have hv_6 : T2.ct + 0 ≤ T0.ct + j2 := hv_6
    have hv_7 : T2.us + 0 ≤ T0.us + j2 := hv_7
    have hv_8 : j2 ≤ n := hv_8
    have hv_5b : 0 < T2.ct := hv_5b
    subst hv_1
    refine lv_istore (lv' := [(4, .int 0), (0, .ref mo), (1, .ref qx), (2, .int (nI n)), (3, .ref t)]) hx hb d_Mo_readT_30 hl (by decide) rfl (fun ls hl => ?_)
    refine lv_iload hx hb d_Mo_readT_32 (lv_at hl 0 rfl) ?_
    refine lv_if_lt (tgt := 59) hx hb d_Mo_readT_34 (by decide) (fun h => absurd h (by decide)) (fun _ => ?_)
    refine lv_aload_n hx hb d_Mo_readT_37 rfl (lv_at hl 1 rfl) ?_
    refine va_get (D := (dC, dI)) (ci := 13) (v := .int (nI j2)) (C := R_Mo) (T := F_Mo) (N := 30) hx hb hts in_Mo hown hK hP 0 rfl rfl 7 (by decide) (hts _ w_1096) (fun _ h9 => h9) (MFg (by decide) rf_7) d_Mo_readT_38 ?_
    refine lv_aload_n hx hb d_Mo_readT_41 rfl (lv_at hl 1 rfl) ?_
    refine va_get (D := (dC, dI)) (ci := 13) (v := .int (nI n)) (C := R_Mo) (T := F_Mo) (N := 30) hx hb hts in_Mo hown hK hP 0 rfl rfl 8 (by decide) (hts _ w_1097) (fun _ h9 => h9) (MFg (by decide) ((rf_ne (by decide) (by decide)).trans tx_8)) d_Mo_readT_42 ?_
    refine lv_icmp_ge (tgt := 59) hx hb d_Mo_readT_45 (by decide) (fun c45 => ?_) (fun c45 => ?_)
    · refine lv_iload hx hb d_Mo_readT_59 (lv_at hl 0 rfl) ?_
      refine w_same (fun hq => ?_)
      refine W.widen (k := ncap T (n + 12) + qcap T (n + 12)) (n := 20 * ncap T (n + 12) + 2 * qcap T (n + 12)) hfit.1 hfit.2 ?_
      have hlt : ¬ j2 < n := by rw [nI_leI (by omega) (by omega)] at c45; omega
      have hfin : pR f n = some x9 := by unfold pR; rw [hv_2]; simp only []; rw [if_neg hlt]
      exact W.iret (v := 0) hx hb hr (fun t9 ht hW => ⟨⟨0, (T2, j2, b2), rfl, ⟨hTk_T2, hGB_T2, Or.inl ⟨x9, rfl, hfin, hv_3, hv_5, hv_5b, by show T2.ct ≤ n; omega, by show T2.us ≤ n; omega⟩⟩, ⟨by rw [ht]; exact hP, va_K.moved hW.alike hK, hD⟩, by rw [ht]; exact hq⟩, hS.F ht⟩) hS.2.2 d_Mo_readT_61
    · refine lv_aload_n hx hb d_Mo_readT_48 rfl (lv_at hl 1 rfl) ?_
      refine lv_aload_n hx hb d_Mo_readT_49 rfl (lv_at hl 1 rfl) ?_
      refine va_get (D := (dC, dI)) (ci := 13) (v := .int (nI j2)) (C := R_Mo) (T := F_Mo) (N := 30) hx hb hts in_Mo hown hK hP 0 rfl rfl 7 (by decide) (hts _ w_1096) (fun _ h9 => h9) (MFg (by decide) rf_7) d_Mo_readT_50 ?_
      have hPc := hP.sub (ws' := [(mo, .inr (13, MF 30 (rf (tx v qx n) j2 b2)))]) [0] rfl
      have hDc := hD.sub (ws' := [(mo, .inr (13, MF 30 (rf (tx v qx n) j2 b2)))]) [0] (by decide) rfl
      have hKc := hK.sub (tys' := []) [] rfl
      have hFc := va_free (wc := [(mo, .inr (13, MF 30 (rf (tx v qx n) j2 b2)))]) hD hS hA [0] rfl
      refine va_calli (va_runV (As := [.int (nI j2)]) (rest := []) ⟨hx, hb, hml, hown, hts⟩ (c_Mo_fail l dC dI mo H (rf (tx v qx n) j2 b2) b2 ((nI j2)) rf_9) (cwV 1 hts (gt_V (own := R_Mo) (C := R_Mo) (i := 151) (y := y_Mo_fail) i_Mo_fail w_1250 w_1252 (gt_sel (y := y_Mo_fail) (n := 30) (by decide +kernel)) w_7) rfl rfl rfl (by decide +kernel) ⟨Nat.le_of_ble_eq_true rfl, Nat.le_of_ble_eq_true rfl⟩) ⟨mp_blind, va_recv hKc hPc (ci := 13) (q0 := 0) rfl rfl, fun U hU hW => ⟨rfl, hU, by rw [hU]; exact hPc, va_K.moved hW.alike hKc, hDc.weaken (fun _ _ _ _ => trivial)⟩⟩ rfl rfl hl.1 rfl (lv_room (Nat.le_of_ble_eq_true rfl)) d_Mo_readT_53 ⟨hfit.1, hfit.2⟩) hS (fun q _ h => hFc q h) hFc (fun r1 u2 t9 H1 locs ht hvm hw hB hz1 hk1 hS => ?_)
      obtain ⟨hP1, hK1, hD1⟩ := hB
      rw [ht] at hP1
      obtain ⟨hP, hD⟩ := va_join (wr := [(qx, .inl (cB, NN, .inl f)), (t, .inr (12, MF 13 (tw T2))), (T2.a0, .inl (cI, T2.N, .inl T2.kd)), (T2.a1, .inl (cL, T2.N, .inr (.inl T2.nu))), (T2.a2, .inl (cI, T2.N, .inl T2.st)), (T2.a3, .inl (cI, T2.N, .inl T2.ln)), (T2.a4, .inl (cI, T2.N, .inl T2.ki)), (T2.a5, .inl (cI, T2.N, .inl T2.nx)), (T2.a6, .inl (cI, T2.N, .inl T2.ns)), (T2.a7, .inl (cI, T2.N, .inl T2.nl)), (T2.a8, .inl (cI, T2.N, .inl T2.pa)), (T2.a9, .inl (cI, T2.N, .inl T2.pl)), (T2.au, .inl (cC, T2.U, .inl T2.un))]) (w1 := [(mo, .inr (13, MF 30 u2))]) hP hD [0] [1, 2, 3, 4, 5, 6, 7, 8, 9, 10, 11, 12, 13] rfl rfl (by decide) (by decide) hk1 hFc hP1 hD1
      generalize H1 = H at hP hS ⊢
      have hP : va_P (dC, dI) classes [(qx, .inl (cB, NN, .inl f)), (t, .inr (12, MF 13 (tw T2))), (T2.a0, .inl (cI, T2.N, .inl T2.kd)), (T2.a1, .inl (cL, T2.N, .inr (.inl T2.nu))), (T2.a2, .inl (cI, T2.N, .inl T2.st)), (T2.a3, .inl (cI, T2.N, .inl T2.ln)), (T2.a4, .inl (cI, T2.N, .inl T2.ki)), (T2.a5, .inl (cI, T2.N, .inl T2.nx)), (T2.a6, .inl (cI, T2.N, .inl T2.ns)), (T2.a7, .inl (cI, T2.N, .inl T2.nl)), (T2.a8, .inl (cI, T2.N, .inl T2.pa)), (T2.a9, .inl (cI, T2.N, .inl T2.pl)), (T2.au, .inl (cC, T2.U, .inl T2.un)), (mo, .inr (13, MF 30 u2))] H := hP
      have hD : va_D A [(qx, .inl (cB, NN, .inl f)), (t, .inr (12, MF 13 (tw T2))), (T2.a0, .inl (cI, T2.N, .inl T2.kd)), (T2.a1, .inl (cL, T2.N, .inr (.inl T2.nu))), (T2.a2, .inl (cI, T2.N, .inl T2.st)), (T2.a3, .inl (cI, T2.N, .inl T2.ln)), (T2.a4, .inl (cI, T2.N, .inl T2.ki)), (T2.a5, .inl (cI, T2.N, .inl T2.nx)), (T2.a6, .inl (cI, T2.N, .inl T2.ns)), (T2.a7, .inl (cI, T2.N, .inl T2.nl)), (T2.a8, .inl (cI, T2.N, .inl T2.pa)), (T2.a9, .inl (cI, T2.N, .inl T2.pl)), (T2.au, .inl (cC, T2.U, .inl T2.un)), (mo, .inr (13, MF 30 u2))] := hD
      have hP := hP.sub (ws' := [(mo, .inr (13, MF 30 u2)), (qx, .inl (cB, NN, .inl f)), (t, .inr (12, MF 13 (tw T2))), (T2.a0, .inl (cI, T2.N, .inl T2.kd)), (T2.a1, .inl (cL, T2.N, .inr (.inl T2.nu))), (T2.a2, .inl (cI, T2.N, .inl T2.st)), (T2.a3, .inl (cI, T2.N, .inl T2.ln)), (T2.a4, .inl (cI, T2.N, .inl T2.ki)), (T2.a5, .inl (cI, T2.N, .inl T2.nx)), (T2.a6, .inl (cI, T2.N, .inl T2.ns)), (T2.a7, .inl (cI, T2.N, .inl T2.nl)), (T2.a8, .inl (cI, T2.N, .inl T2.pa)), (T2.a9, .inl (cI, T2.N, .inl T2.pl)), (T2.au, .inl (cC, T2.U, .inl T2.un))]) [13, 0, 1, 2, 3, 4, 5, 6, 7, 8, 9, 10, 11, 12] rfl
      have hD := hD.sub (ws' := [(mo, .inr (13, MF 30 u2)), (qx, .inl (cB, NN, .inl f)), (t, .inr (12, MF 13 (tw T2))), (T2.a0, .inl (cI, T2.N, .inl T2.kd)), (T2.a1, .inl (cL, T2.N, .inr (.inl T2.nu))), (T2.a2, .inl (cI, T2.N, .inl T2.st)), (T2.a3, .inl (cI, T2.N, .inl T2.ln)), (T2.a4, .inl (cI, T2.N, .inl T2.ki)), (T2.a5, .inl (cI, T2.N, .inl T2.nx)), (T2.a6, .inl (cI, T2.N, .inl T2.ns)), (T2.a7, .inl (cI, T2.N, .inl T2.nl)), (T2.a8, .inl (cI, T2.N, .inl T2.pa)), (T2.a9, .inl (cI, T2.N, .inl T2.pl)), (T2.au, .inl (cC, T2.U, .inl T2.un))]) [13, 0, 1, 2, 3, 4, 5, 6, 7, 8, 9, 10, 11, 12] (by decide) rfl
      obtain ⟨b7, h_b7⟩ := rf_fail (v := tx v qx n) (i := j2) (br := b2) (b2 := b2) (wh := (nI j2))
      have hw : r1 = 0 ∧ u2 = _ := hw
      obtain ⟨hw1, hw2⟩ := hw
      rw [h_b7] at hw2
      rw [hw2] at hP hD
      subst hw1
      have hP : va_P (dC, dI) classes [(mo, .inr (13, MF 30 (rf (tx v qx n) j2 b7))), (qx, .inl (cB, NN, .inl f)), (t, .inr (12, MF 13 (tw T2))), (T2.a0, .inl (cI, T2.N, .inl T2.kd)), (T2.a1, .inl (cL, T2.N, .inr (.inl T2.nu))), (T2.a2, .inl (cI, T2.N, .inl T2.st)), (T2.a3, .inl (cI, T2.N, .inl T2.ln)), (T2.a4, .inl (cI, T2.N, .inl T2.ki)), (T2.a5, .inl (cI, T2.N, .inl T2.nx)), (T2.a6, .inl (cI, T2.N, .inl T2.ns)), (T2.a7, .inl (cI, T2.N, .inl T2.nl)), (T2.a8, .inl (cI, T2.N, .inl T2.pa)), (T2.a9, .inl (cI, T2.N, .inl T2.pl)), (T2.au, .inl (cC, T2.U, .inl T2.un))] H := hP
      have hD : va_D A [(mo, .inr (13, MF 30 (rf (tx v qx n) j2 b7))), (qx, .inl (cB, NN, .inl f)), (t, .inr (12, MF 13 (tw T2))), (T2.a0, .inl (cI, T2.N, .inl T2.kd)), (T2.a1, .inl (cL, T2.N, .inr (.inl T2.nu))), (T2.a2, .inl (cI, T2.N, .inl T2.st)), (T2.a3, .inl (cI, T2.N, .inl T2.ln)), (T2.a4, .inl (cI, T2.N, .inl T2.ki)), (T2.a5, .inl (cI, T2.N, .inl T2.nx)), (T2.a6, .inl (cI, T2.N, .inl T2.ns)), (T2.a7, .inl (cI, T2.N, .inl T2.nl)), (T2.a8, .inl (cI, T2.N, .inl T2.pa)), (T2.a9, .inl (cI, T2.N, .inl T2.pl)), (T2.au, .inl (cC, T2.U, .inl T2.un))] := hD
      refine lv_pop hx hb d_Mo_readT_56 rfl ?_
      refine lv_iconst (v := (-1)) hx hb d_Mo_readT_57 (by decide) ?_
      refine w_same (fun hq => ?_)
      refine W.widen (k := ncap T (n + 12) + qcap T (n + 12)) (n := 20 * ncap T (n + 12) + 2 * qcap T (n + 12)) hfit.1 hfit.2 ?_
      have hlt : j2 < n := by rw [nI_leI (by omega) (by omega)] at c45; omega
      have hfin : pR f n = none := by unfold pR; rw [hv_2]; simp only []; rw [if_pos hlt]
      exact W.iret (v := -1) hx hb hr (fun t9 ht hW => ⟨⟨-1, (T2, j2, b7), rfl, ⟨hTk_T2, hGB_T2, Or.inr ⟨rfl, hfin⟩⟩, ⟨by rw [ht]; exact hP, va_K.moved hW.alike hK, hD⟩, by rw [ht]; exact hq⟩, hS.F ht⟩) hS.2.2 d_Mo_readT_58
  · have hv_2 : pV f n 32 0 = none := hv_2
    have hv_1 : r0 = -1 := hv_1
    subst hv_1
    refine lv_istore (lv' := [(4, .int (-1)), (0, .ref mo), (1, .ref qx), (2, .int (nI n)), (3, .ref t)]) hx hb d_Mo_readT_30 hl (by decide) rfl (fun ls hl => ?_)
    refine lv_iload hx hb d_Mo_readT_32 (lv_at hl 0 rfl) ?_
    refine lv_if_lt (tgt := 59) hx hb d_Mo_readT_34 (by decide) (fun _ => ?_) (fun h => absurd (by decide) h)
    refine lv_iload hx hb d_Mo_readT_59 (lv_at hl 0 rfl) ?_
    refine w_same (fun hq => ?_)
    refine W.widen (k := ncap T (n + 12) + qcap T (n + 12)) (n := 20 * ncap T (n + 12) + 2 * qcap T (n + 12)) hfit.1 hfit.2 ?_
    have hfin : pR f n = none := by unfold pR; rw [hv_2]
    exact W.iret (v := -1) hx hb hr (fun t9 ht hW => ⟨⟨-1, (T2, j2, b2), rfl, ⟨hTk_T2, hGB_T2, Or.inr ⟨rfl, hfin⟩⟩, ⟨by rw [ht]; exact hP, va_K.moved hW.alike hK, hD⟩, by rw [ht]; exact hq⟩, hS.F ht⟩) hS.2.2 d_Mo_readT_61
