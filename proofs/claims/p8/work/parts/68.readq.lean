def TS.clr (T : TS) : TS := (TS.mk T.N T.U 0 0 T.a0 T.a1 T.a2 T.a3 T.a4 T.a5 T.a6 T.a7 T.a8 T.a9 T.au T.kd T.st T.ln T.ki T.nx T.ns T.nl T.pa T.pl T.un T.nu)
def QS.clr (Q : QS) : QS := QS.mk Q.C 0 Q.qq Q.qe Q.qf Q.ef
theorem tx_rs {v : Nat → Value} {Q : QS} {qx n : Nat} (h19 : v 19 = .ref Q.qq) (h20 : v 20 = .ref Q.qe) (hR : Q.R = 0) : va_up (va_up (va_up (va_up (va_up (va_up v 6 (.ref qx)) 7 (.int 0)) 8 (.int (nI n))) 9 (.int (-1))) 21 (.int 0)) 23 (.int 0) = rf (rs (tx v qx n) Q 0) 0 (-1) := by
  funext k
  unfold rf rs tx va_up
  rw [hR]
  by_cases e1 : k = 6
  · subst e1; simp
  · by_cases e2 : k = 7
    · subst e2; simp; rfl
    · by_cases e3 : k = 8
      · subst e3; simp
      · by_cases e4 : k = 9
        · subst e4; simp
        · by_cases e5 : k = 19
          · subst e5; simp [h19]
          · by_cases e6 : k = 20
            · subst e6; simp [h20]
            · by_cases e7 : k = 21
              · subst e7; simp; rfl
              · by_cases e8 : k = 23
                · subst e8; simp; rfl
                · simp [e1, e2, e3, e4, e5, e6, e7, e8]
def RQo (f : Nat → Int32) (n i : Nat) (Q : QS) (V : TS) (res : Int32) (u : QS × TS × Nat × Int32 × Nat) : Prop := QPo n i 9 Q V u ∧ ((∃ fl m, res = 0 ∧ pQ f n = some (fl, m) ∧ QRYp (DDp 15).1 u.1 u.2.1 0 u.1.R 0 m ∧ u.1.qf (8 * 0 + 3) = (if fl = true then 1 else 0) ∧ 0 < u.1.R ∧ u.1.R ≤ 8 * n + 1 ∧ u.2.1.us ≤ n) ∨ (res = -1 ∧ pQ f n = none))
abbrev b_Mo_readQuery : ByteArray := prog_14_method_51_code
def y_Mo_readQuery : MethodName := ⟨"QueryBenchModel", "readQuery", "([BI)I"⟩
abbrev k_Mo_readQuery : Cond := .code y_Mo_readQuery b_Mo_readQuery 4 (some .int)
theorem i_Mo_readQuery : k_Mo_readQuery ∈ gtbl := gt_in 1402 (by decide +kernel) (by decide +kernel)
theorem d_Mo_readQuery_0 : decode b_Mo_readQuery 0 = .ok (.aload_n 0, 1) := by decide +kernel
theorem d_Mo_readQuery_1 : decode b_Mo_readQuery 1 = .ok (.aload_n 1, 1) := by decide +kernel
theorem d_Mo_readQuery_2 : decode b_Mo_readQuery 2 = .ok (.putfield 141, 3) := by decide +kernel
theorem d_Mo_readQuery_5 : decode b_Mo_readQuery 5 = .ok (.aload_n 0, 1) := by decide +kernel
theorem d_Mo_readQuery_6 : decode b_Mo_readQuery 6 = .ok (.iconst 0, 1) := by decide +kernel
theorem d_Mo_readQuery_7 : decode b_Mo_readQuery 7 = .ok (.putfield 135, 3) := by decide +kernel
theorem d_Mo_readQuery_10 : decode b_Mo_readQuery 10 = .ok (.aload_n 0, 1) := by decide +kernel
theorem d_Mo_readQuery_11 : decode b_Mo_readQuery 11 = .ok (.iload_n 2, 1) := by decide +kernel
theorem d_Mo_readQuery_12 : decode b_Mo_readQuery 12 = .ok (.putfield 138, 3) := by decide +kernel
theorem d_Mo_readQuery_15 : decode b_Mo_readQuery 15 = .ok (.aload_n 0, 1) := by decide +kernel
theorem d_Mo_readQuery_16 : decode b_Mo_readQuery 16 = .ok (.iconst (-1), 1) := by decide +kernel
theorem d_Mo_readQuery_17 : decode b_Mo_readQuery 17 = .ok (.putfield 144, 3) := by decide +kernel
theorem d_Mo_readQuery_20 : decode b_Mo_readQuery 20 = .ok (.aload_n 0, 1) := by decide +kernel
theorem d_Mo_readQuery_21 : decode b_Mo_readQuery 21 = .ok (.iconst 0, 1) := by decide +kernel
theorem d_Mo_readQuery_22 : decode b_Mo_readQuery 22 = .ok (.putfield 263, 3) := by decide +kernel
theorem d_Mo_readQuery_25 : decode b_Mo_readQuery 25 = .ok (.aload_n 0, 1) := by decide +kernel
theorem d_Mo_readQuery_26 : decode b_Mo_readQuery 26 = .ok (.iconst 0, 1) := by decide +kernel
theorem d_Mo_readQuery_27 : decode b_Mo_readQuery 27 = .ok (.putfield 266, 3) := by decide +kernel
theorem d_Mo_readQuery_30 : decode b_Mo_readQuery 30 = .ok (.aload_n 0, 1) := by decide +kernel
theorem d_Mo_readQuery_31 : decode b_Mo_readQuery 31 = .ok (.getfield 56, 3) := by decide +kernel
theorem d_Mo_readQuery_34 : decode b_Mo_readQuery 34 = .ok (.invokevirtual 229, 3) := by decide +kernel
theorem d_Mo_readQuery_37 : decode b_Mo_readQuery 37 = .ok (.aload_n 0, 1) := by decide +kernel
theorem d_Mo_readQuery_38 : decode b_Mo_readQuery 38 = .ok (.bipush 36, 2) := by decide +kernel
theorem d_Mo_readQuery_40 : decode b_Mo_readQuery 40 = .ok (.invokevirtual 163, 3) := by decide +kernel
theorem d_Mo_readQuery_43 : decode b_Mo_readQuery 43 = .ok (.ifCond .ne 5, 3) := by decide +kernel
theorem d_Mo_readQuery_46 : decode b_Mo_readQuery 46 = .ok (.iconst (-1), 1) := by decide +kernel
theorem d_Mo_readQuery_47 : decode b_Mo_readQuery 47 = .ok (.ireturn, 1) := by decide +kernel
theorem d_Mo_readQuery_48 : decode b_Mo_readQuery 48 = .ok (.aload_n 0, 1) := by decide +kernel
theorem d_Mo_readQuery_49 : decode b_Mo_readQuery 49 = .ok (.iconst 1, 1) := by decide +kernel
theorem d_Mo_readQuery_50 : decode b_Mo_readQuery 50 = .ok (.iconst 0, 1) := by decide +kernel
theorem d_Mo_readQuery_51 : decode b_Mo_readQuery 51 = .ok (.invokevirtual 317, 3) := by decide +kernel
theorem d_Mo_readQuery_54 : decode b_Mo_readQuery 54 = .ok (.istore_n 3, 1) := by decide +kernel
theorem d_Mo_readQuery_55 : decode b_Mo_readQuery 55 = .ok (.iload_n 3, 1) := by decide +kernel
theorem d_Mo_readQuery_56 : decode b_Mo_readQuery 56 = .ok (.ifCond .ge 5, 3) := by decide +kernel
theorem d_Mo_readQuery_59 : decode b_Mo_readQuery 59 = .ok (.iconst (-1), 1) := by decide +kernel
theorem d_Mo_readQuery_60 : decode b_Mo_readQuery 60 = .ok (.ireturn, 1) := by decide +kernel
theorem d_Mo_readQuery_61 : decode b_Mo_readQuery 61 = .ok (.aload_n 0, 1) := by decide +kernel
theorem d_Mo_readQuery_62 : decode b_Mo_readQuery 62 = .ok (.getfield 135, 3) := by decide +kernel
theorem d_Mo_readQuery_65 : decode b_Mo_readQuery 65 = .ok (.aload_n 0, 1) := by decide +kernel
theorem d_Mo_readQuery_66 : decode b_Mo_readQuery 66 = .ok (.getfield 138, 3) := by decide +kernel
theorem d_Mo_readQuery_69 : decode b_Mo_readQuery 69 = .ok (.if_icmp .ge 18, 3) := by decide +kernel
theorem d_Mo_readQuery_72 : decode b_Mo_readQuery 72 = .ok (.aload_n 0, 1) := by decide +kernel
theorem d_Mo_readQuery_73 : decode b_Mo_readQuery 73 = .ok (.invokevirtual 184, 3) := by decide +kernel
theorem d_Mo_readQuery_76 : decode b_Mo_readQuery 76 = .ok (.aload_n 0, 1) := by decide +kernel
theorem d_Mo_readQuery_77 : decode b_Mo_readQuery 77 = .ok (.aload_n 0, 1) := by decide +kernel
theorem d_Mo_readQuery_78 : decode b_Mo_readQuery 78 = .ok (.getfield 135, 3) := by decide +kernel
theorem d_Mo_readQuery_81 : decode b_Mo_readQuery 81 = .ok (.invokevirtual 151, 3) := by decide +kernel
theorem d_Mo_readQuery_84 : decode b_Mo_readQuery 84 = .ok (.pop, 1) := by decide +kernel
theorem d_Mo_readQuery_85 : decode b_Mo_readQuery 85 = .ok (.iconst (-1), 1) := by decide +kernel
theorem d_Mo_readQuery_86 : decode b_Mo_readQuery 86 = .ok (.ireturn, 1) := by decide +kernel
theorem d_Mo_readQuery_87 : decode b_Mo_readQuery 87 = .ok (.iload_n 3, 1) := by decide +kernel
theorem d_Mo_readQuery_88 : decode b_Mo_readQuery 88 = .ok (.ireturn, 1) := by decide +kernel
set_option maxHeartbeats 4000000 in
set_option maxRecDepth 100000 in
/-- the reference: readQuery -/
theorem c_Mo_readQuery (l : Launch) (dC : Nat → ClassId) (dI : Nat → Nat → Nat) (mo : Nat) (sz : Heap) (v0 : Nat → Value) (cB cI cL cC : ClassId) (qx NN : Nat) (f : Nat → Int32) (n : Nat) (K : Nat → Nat × Nat) (tv : Nat) (Q : QS) (VA V : TS) (i : Nat) (hnN : n ≤ NN) (hNN : NN ≤ 4096) (hQ : QOK Q) (hV : TOK V) (eQR : Q.R = 0) (eV : V = VA.clr) (ei : i = 0) (h19 : v0 19 = .ref Q.qq) (h20 : v0 20 = .ref Q.qe) (h22 : v0 22 = .ref tv) : Met l y_Mo_readQuery (k_Mo_readQuery :: gtbl) ({ frames := 270, cells := kcap Q (Q.R + 8 * (n - i) + 9) + qcap V (V.us + (n + 12 - i)), slots := 22 * kcap Q (Q.R + 8 * (n - i) + 9) + 2 * qcap V (V.us + (n + 12 - i)), locals := 10700 }) (va_Pc [.ref mo, .ref qx, .int (nI n)] (me K dC dI [(mo, .inr (13, MF 30 v0)), (qx, .inl (cB, NN, .inl f)), (Q.qq, .inl (cI, (8 * Q.C), .inl Q.qf)), (Q.qe, .inl (cL, (3 * Q.C), .inr (.inl Q.ef))), (tv, .inr (12, MF 13 (tw VA))), (V.au, .inl (cC, V.U, .inl V.un))] [(cB, .byte), (cI, .int), (cL, .long), (cC, .char)] sz)) (va_Qi (fun (res : Int32) (u : QS × TS × Nat × Int32 × Nat) => RQo f n i Q V res u) (fun u t9 => mz dC dI [(mo, .inr (13, MF 30 (rf (rs (tx v0 qx n) u.1 u.2.2.2.2) u.2.2.1 u.2.2.2.1))), (qx, .inl (cB, NN, .inl f)), (u.1.qq, .inl (cI, (8 * u.1.C), .inl u.1.qf)), (u.1.qe, .inl (cL, (3 * u.1.C), .inr (.inl u.1.ef))), (tv, .inr (12, MF 13 (tw u.2.1))), (u.2.1.au, .inl (cC, u.2.1.U, .inl u.2.1.un))] [(cB, .byte), (cI, .int), (cL, .long), (cC, .char)] (va_A [(mo, .inr (13, MF 30 v0)), (qx, .inl (cB, NN, .inl f)), (Q.qq, .inl (cI, (8 * Q.C), .inl Q.qf)), (Q.qe, .inl (cL, (3 * Q.C), .inr (.inl Q.ef))), (tv, .inr (12, MF 13 (tw VA))), (V.au, .inl (cC, V.U, .inl V.un))] sz.size) t9 ∧ szk sz t9.heap (cQ Q V u.1 u.2.1) (sQ Q V u.1 u.2.1)) (va_A [(mo, .inr (13, MF 30 v0)), (qx, .inl (cB, NN, .inl f)), (Q.qq, .inl (cI, (8 * Q.C), .inl Q.qf)), (Q.qe, .inl (cL, (3 * Q.C), .inr (.inl Q.ef))), (tv, .inr (12, MF 13 (tw VA))), (V.au, .inl (cC, V.U, .inl V.un))] sz.size)) (kcap Q (Q.R + 8 * (n - i) + 9) + qcap V (V.us + (n + 12 - i))) (22 * kcap Q (Q.R + 8 * (n - i) + 9) + 2 * qcap V (V.us + (n + 12 - i))) (va_A [(mo, .inr (13, MF 30 v0)), (qx, .inl (cB, NN, .inl f)), (Q.qq, .inl (cI, (8 * Q.C), .inl Q.qf)), (Q.qe, .inl (cL, (3 * Q.C), .inr (.inl Q.ef))), (tv, .inr (12, MF 13 (tw VA))), (V.au, .inl (cC, V.U, .inl V.un))] sz.size) := by
  refine Met.ofW (cc := b_Mo_readQuery) (maxL := 4) (ret := (some .int)) (by decide) rfl ?_
  intro p e s m args below meth c s₁ B hml hv
  obtain ⟨rfl, ⟨hsz, hP, hK, hD0⟩, hM⟩ := hv
  have hx := B.exec
  have hb := B.bytes
  have hr := B.returns
  have hts0 := atoms_spec (ws := k_Mo_readQuery :: gtbl) B.pre
  have hts := fun w h => hts0 w (List.mem_cons_of_mem _ h)
  have hown : s.vm.findClass R_Mo = some m.cls := findClass_of_methodNamed B.named
  have hlocks := B.notSynchronized
  subst hsz
  have hD := hD0.self (sz := s.heap.size)
  generalize hAe : va_A [(mo, .inr (13, MF 30 v0)), (qx, .inl (cB, NN, .inl f)), (Q.qq, .inl (cI, (8 * Q.C), .inl Q.qf)), (Q.qe, .inl (cL, (3 * Q.C), .inr (.inl Q.ef))), (tv, .inr (12, MF 13 (tw VA))), (V.au, .inl (cC, V.U, .inl V.un))] s.heap.size = A at hD hM ⊢
  have hA : ∀ q : Nat, s.heap.size ≤ q → A q := fun q h => by rw [← hAe]; exact Or.inr h
  have hS : va_S A s.heap s.heap [] := va_S.rf
  have hP : va_P (dC, dI) classes [(mo, .inr (13, MF 30 v0)), (qx, .inl (cB, NN, .inl f)), (Q.qq, .inl (cI, (8 * Q.C), .inl Q.qf)), (Q.qe, .inl (cL, (3 * Q.C), .inr (.inl Q.ef))), (tv, .inr (12, MF 13 (tw VA))), (V.au, .inl (cC, V.U, .inl V.un))] s.heap := hP
  have hl := lv_entry ([.ref mo, .ref qx, .int (nI n)]) (n := 4) (Nat.le_of_ble_eq_true rfl)
  rw [lg_entry_eq]
  generalize (lg_sl ([.ref mo, .ref qx, .int (nI n)]) ++ List.replicate (4 - (lg_sl ([.ref mo, .ref qx, .int (nI n)])).length) Slot.unset).toArray = ls at hl ⊢
  have hl : lv_has ls 4 [(0, .ref mo), (1, .ref qx), (2, .int (nI n))] := hl
  refine lv_aload_n hx hb d_Mo_readQuery_0 rfl (lv_at hl 0 rfl) ?_
  refine lv_aload_n hx hb d_Mo_readQuery_1 rfl (lv_at hl 1 rfl) ?_
  refine va_put (D := (dC, dI)) (ci := 13) (v := .ref qx) (ty := .array .byte) (C := R_Mo) (T := F_Mo) (N := 30) hx hb hts in_Mo t_Mo t_Mo_ok n_Mo hown hK hP hD hS 0 rfl rfl 6 (by decide) (hts _ w_1095) (fun _ h9 => h9) rfl (by decide +kernel) rfl rfl (by rw [MFl]; decide) d_Mo_readQuery_2 (fun H locs hP hD hS => ?_)
  rw [MFs (n := 30) (k := 6) (by decide)] at hP hD
  have hP : va_P (dC, dI) classes [(mo, .inr (13, MF 30 (va_up v0 6 (.ref qx)))), (qx, .inl (cB, NN, .inl f)), (Q.qq, .inl (cI, (8 * Q.C), .inl Q.qf)), (Q.qe, .inl (cL, (3 * Q.C), .inr (.inl Q.ef))), (tv, .inr (12, MF 13 (tw VA))), (V.au, .inl (cC, V.U, .inl V.un))] H := hP
  have hD : va_D A [(mo, .inr (13, MF 30 (va_up v0 6 (.ref qx)))), (qx, .inl (cB, NN, .inl f)), (Q.qq, .inl (cI, (8 * Q.C), .inl Q.qf)), (Q.qe, .inl (cL, (3 * Q.C), .inr (.inl Q.ef))), (tv, .inr (12, MF 13 (tw VA))), (V.au, .inl (cC, V.U, .inl V.un))] := hD
  refine lv_aload_n hx hb d_Mo_readQuery_5 rfl (lv_at hl 0 rfl) ?_
  refine lv_iconst (v := 0) hx hb d_Mo_readQuery_6 (by decide) ?_
  refine va_put (D := (dC, dI)) (ci := 13) (v := .int 0) (ty := .int) (C := R_Mo) (T := F_Mo) (N := 30) hx hb hts in_Mo t_Mo t_Mo_ok n_Mo hown hK hP hD hS 0 rfl rfl 7 (by decide) (hts _ w_1096) (fun _ h9 => h9) rfl (by decide +kernel) rfl rfl (by rw [MFl]; decide) d_Mo_readQuery_7 (fun H locs hP hD hS => ?_)
  rw [MFs (n := 30) (k := 7) (by decide)] at hP hD
  have hP : va_P (dC, dI) classes [(mo, .inr (13, MF 30 (va_up (va_up v0 6 (.ref qx)) 7 (.int 0)))), (qx, .inl (cB, NN, .inl f)), (Q.qq, .inl (cI, (8 * Q.C), .inl Q.qf)), (Q.qe, .inl (cL, (3 * Q.C), .inr (.inl Q.ef))), (tv, .inr (12, MF 13 (tw VA))), (V.au, .inl (cC, V.U, .inl V.un))] H := hP
  have hD : va_D A [(mo, .inr (13, MF 30 (va_up (va_up v0 6 (.ref qx)) 7 (.int 0)))), (qx, .inl (cB, NN, .inl f)), (Q.qq, .inl (cI, (8 * Q.C), .inl Q.qf)), (Q.qe, .inl (cL, (3 * Q.C), .inr (.inl Q.ef))), (tv, .inr (12, MF 13 (tw VA))), (V.au, .inl (cC, V.U, .inl V.un))] := hD
  refine lv_aload_n hx hb d_Mo_readQuery_10 rfl (lv_at hl 0 rfl) ?_
  refine lv_iload_n hx hb d_Mo_readQuery_11 rfl (lv_at hl 2 rfl) ?_
  refine va_put (D := (dC, dI)) (ci := 13) (v := .int (nI n)) (ty := .int) (C := R_Mo) (T := F_Mo) (N := 30) hx hb hts in_Mo t_Mo t_Mo_ok n_Mo hown hK hP hD hS 0 rfl rfl 8 (by decide) (hts _ w_1097) (fun _ h9 => h9) rfl (by decide +kernel) rfl rfl (by rw [MFl]; decide) d_Mo_readQuery_12 (fun H locs hP hD hS => ?_)
  rw [MFs (n := 30) (k := 8) (by decide)] at hP hD
  have hP : va_P (dC, dI) classes [(mo, .inr (13, MF 30 (va_up (va_up (va_up v0 6 (.ref qx)) 7 (.int 0)) 8 (.int (nI n))))), (qx, .inl (cB, NN, .inl f)), (Q.qq, .inl (cI, (8 * Q.C), .inl Q.qf)), (Q.qe, .inl (cL, (3 * Q.C), .inr (.inl Q.ef))), (tv, .inr (12, MF 13 (tw VA))), (V.au, .inl (cC, V.U, .inl V.un))] H := hP
  have hD : va_D A [(mo, .inr (13, MF 30 (va_up (va_up (va_up v0 6 (.ref qx)) 7 (.int 0)) 8 (.int (nI n))))), (qx, .inl (cB, NN, .inl f)), (Q.qq, .inl (cI, (8 * Q.C), .inl Q.qf)), (Q.qe, .inl (cL, (3 * Q.C), .inr (.inl Q.ef))), (tv, .inr (12, MF 13 (tw VA))), (V.au, .inl (cC, V.U, .inl V.un))] := hD
  refine lv_aload_n hx hb d_Mo_readQuery_15 rfl (lv_at hl 0 rfl) ?_
  refine lv_iconst (v := (-1)) hx hb d_Mo_readQuery_16 (by decide) ?_
  refine va_put (D := (dC, dI)) (ci := 13) (v := .int (-1)) (ty := .int) (C := R_Mo) (T := F_Mo) (N := 30) hx hb hts in_Mo t_Mo t_Mo_ok n_Mo hown hK hP hD hS 0 rfl rfl 9 (by decide) (hts _ w_1098) (fun _ h9 => h9) rfl (by decide +kernel) rfl rfl (by rw [MFl]; decide) d_Mo_readQuery_17 (fun H locs hP hD hS => ?_)
  rw [MFs (n := 30) (k := 9) (by decide)] at hP hD
  have hP : va_P (dC, dI) classes [(mo, .inr (13, MF 30 (va_up (va_up (va_up (va_up v0 6 (.ref qx)) 7 (.int 0)) 8 (.int (nI n))) 9 (.int (-1))))), (qx, .inl (cB, NN, .inl f)), (Q.qq, .inl (cI, (8 * Q.C), .inl Q.qf)), (Q.qe, .inl (cL, (3 * Q.C), .inr (.inl Q.ef))), (tv, .inr (12, MF 13 (tw VA))), (V.au, .inl (cC, V.U, .inl V.un))] H := hP
  have hD : va_D A [(mo, .inr (13, MF 30 (va_up (va_up (va_up (va_up v0 6 (.ref qx)) 7 (.int 0)) 8 (.int (nI n))) 9 (.int (-1))))), (qx, .inl (cB, NN, .inl f)), (Q.qq, .inl (cI, (8 * Q.C), .inl Q.qf)), (Q.qe, .inl (cL, (3 * Q.C), .inr (.inl Q.ef))), (tv, .inr (12, MF 13 (tw VA))), (V.au, .inl (cC, V.U, .inl V.un))] := hD
  refine lv_aload_n hx hb d_Mo_readQuery_20 rfl (lv_at hl 0 rfl) ?_
  refine lv_iconst (v := 0) hx hb d_Mo_readQuery_21 (by decide) ?_
  refine va_put (D := (dC, dI)) (ci := 13) (v := .int 0) (ty := .int) (C := R_Mo) (T := F_Mo) (N := 30) hx hb hts in_Mo t_Mo t_Mo_ok n_Mo hown hK hP hD hS 0 rfl rfl 21 (by decide) (hts _ w_1110) (fun _ h9 => h9) rfl (by decide +kernel) rfl rfl (by rw [MFl]; decide) d_Mo_readQuery_22 (fun H locs hP hD hS => ?_)
  rw [MFs (n := 30) (k := 21) (by decide)] at hP hD
  have hP : va_P (dC, dI) classes [(mo, .inr (13, MF 30 (va_up (va_up (va_up (va_up (va_up v0 6 (.ref qx)) 7 (.int 0)) 8 (.int (nI n))) 9 (.int (-1))) 21 (.int 0)))), (qx, .inl (cB, NN, .inl f)), (Q.qq, .inl (cI, (8 * Q.C), .inl Q.qf)), (Q.qe, .inl (cL, (3 * Q.C), .inr (.inl Q.ef))), (tv, .inr (12, MF 13 (tw VA))), (V.au, .inl (cC, V.U, .inl V.un))] H := hP
  have hD : va_D A [(mo, .inr (13, MF 30 (va_up (va_up (va_up (va_up (va_up v0 6 (.ref qx)) 7 (.int 0)) 8 (.int (nI n))) 9 (.int (-1))) 21 (.int 0)))), (qx, .inl (cB, NN, .inl f)), (Q.qq, .inl (cI, (8 * Q.C), .inl Q.qf)), (Q.qe, .inl (cL, (3 * Q.C), .inr (.inl Q.ef))), (tv, .inr (12, MF 13 (tw VA))), (V.au, .inl (cC, V.U, .inl V.un))] := hD
  refine lv_aload_n hx hb d_Mo_readQuery_25 rfl (lv_at hl 0 rfl) ?_
  refine lv_iconst (v := 0) hx hb d_Mo_readQuery_26 (by decide) ?_
  refine va_put (D := (dC, dI)) (ci := 13) (v := .int 0) (ty := .int) (C := R_Mo) (T := F_Mo) (N := 30) hx hb hts in_Mo t_Mo t_Mo_ok n_Mo hown hK hP hD hS 0 rfl rfl 23 (by decide) (hts _ w_1112) (fun _ h9 => h9) rfl (by decide +kernel) rfl rfl (by rw [MFl]; decide) d_Mo_readQuery_27 (fun H locs hP hD hS => ?_)
  rw [MFs (n := 30) (k := 23) (by decide)] at hP hD
  have hP : va_P (dC, dI) classes [(mo, .inr (13, MF 30 (va_up (va_up (va_up (va_up (va_up (va_up v0 6 (.ref qx)) 7 (.int 0)) 8 (.int (nI n))) 9 (.int (-1))) 21 (.int 0)) 23 (.int 0)))), (qx, .inl (cB, NN, .inl f)), (Q.qq, .inl (cI, (8 * Q.C), .inl Q.qf)), (Q.qe, .inl (cL, (3 * Q.C), .inr (.inl Q.ef))), (tv, .inr (12, MF 13 (tw VA))), (V.au, .inl (cC, V.U, .inl V.un))] H := hP
  have hD : va_D A [(mo, .inr (13, MF 30 (va_up (va_up (va_up (va_up (va_up (va_up v0 6 (.ref qx)) 7 (.int 0)) 8 (.int (nI n))) 9 (.int (-1))) 21 (.int 0)) 23 (.int 0)))), (qx, .inl (cB, NN, .inl f)), (Q.qq, .inl (cI, (8 * Q.C), .inl Q.qf)), (Q.qe, .inl (cL, (3 * Q.C), .inr (.inl Q.ef))), (tv, .inr (12, MF 13 (tw VA))), (V.au, .inl (cC, V.U, .inl V.un))] := hD
  obtain ⟨o, eo⟩ : ∃ z : Nat, z = 0 := ⟨_, rfl⟩
  obtain ⟨v, hv⟩ : ∃ z, z = tx v0 qx n := ⟨_, rfl⟩
  have e9 : va_up (va_up (va_up (va_up (va_up (va_up v0 6 (.ref qx)) 7 (.int 0)) 8 (.int (nI n))) 9 (.int (-1))) 21 (.int 0)) 23 (.int 0) = rf (rs v Q o) i (-1) := by rw [hv, ei, eo]; exact tx_rs h19 h20 eQR
  rw [e9] at hP hD
  have h6 : v 6 = .ref qx := by rw [hv]; exact tx_6
  have h8 : v 8 = .int (nI n) := by rw [hv]; exact tx_8
  have h22 : v 22 = .ref tv := by rw [hv]; exact (tx_ne (by decide) (by decide)).trans h22
  have hP : va_P (dC, dI) classes [(mo, .inr (13, MF 30 (rf (rs v Q o) i (-1)))), (qx, .inl (cB, NN, .inl f)), (Q.qq, .inl (cI, (8 * Q.C), .inl Q.qf)), (Q.qe, .inl (cL, (3 * Q.C), .inr (.inl Q.ef))), (tv, .inr (12, MF 13 (tw VA))), (V.au, .inl (cC, V.U, .inl V.un))] H := hP
  have hD : va_D A [(mo, .inr (13, MF 30 (rf (rs v Q o) i (-1)))), (qx, .inl (cB, NN, .inl f)), (Q.qq, .inl (cI, (8 * Q.C), .inl Q.qf)), (Q.qe, .inl (cL, (3 * Q.C), .inr (.inl Q.ef))), (tv, .inr (12, MF 13 (tw VA))), (V.au, .inl (cC, V.U, .inl V.un))] := hD
  refine lv_aload_n hx hb d_Mo_readQuery_30 rfl (lv_at hl 0 rfl) ?_
  refine va_get (D := (dC, dI)) (ci := 13) (v := .ref tv) (C := R_Mo) (T := F_Mo) (N := 30) hx hb hts in_Mo hown hK hP 0 rfl rfl 22 (by decide) (hts _ w_1111) (fun _ h9 => h9) (MFg (by decide) ((rf_ne (by decide) (by decide)).trans ((rs_ne (by decide) (by decide) (by decide) (by decide)).trans h22))) d_Mo_readQuery_31 ?_
  have hPc := hP.sub (ws' := [(tv, .inr (12, MF 13 (tw VA)))]) [4] rfl
  have hDc := hD.sub (ws' := [(tv, .inr (12, MF 13 (tw VA)))]) [4] (by decide) rfl
  have hKc := hK.sub (tys' := []) [] rfl
  have hFc := va_free (wc := [(tv, .inr (12, MF 13 (tw VA)))]) hD hS hA [4] rfl
  refine va_callv (va_runV (As := []) (rest := []) ⟨hx, hb, hml, hown, hts⟩ (c_Tree_clear l dC dI tv H (tw VA)) (cwV 0 hts (gt_V (own := R_Mo) (C := R_Tree) (i := 229) (y := y_Tree_clear) i_Tree_clear w_1221 w_1222 w_1223 w_8) rfl rfl rfl (by decide +kernel) ⟨Nat.le_of_ble_eq_true rfl, Nat.le_of_ble_eq_true rfl⟩) ⟨mp_blind, va_recv hKc hPc (ci := 12) (q0 := 0) rfl rfl, fun U hU hW => ⟨rfl, hU, by rw [hU]; exact hPc, va_K.moved hW.alike hKc, hDc.weaken (fun _ _ _ _ => trivial)⟩⟩ rfl rfl hl.1 rfl (lv_room (Nat.le_of_ble_eq_true rfl)) d_Mo_readQuery_34 ⟨Nat.zero_le _, Nat.zero_le _⟩) hS (fun q _ h => hFc q h) hFc (fun _u t9 H1 locs ht hvm hw hB hz1 hk1 hS => ?_)
  obtain ⟨hP1, hK1, hD1⟩ := hB
  rw [ht] at hP1
  obtain ⟨hP, hD⟩ := va_join (wr := [(mo, .inr (13, MF 30 (rf (rs v Q o) i (-1)))), (qx, .inl (cB, NN, .inl f)), (Q.qq, .inl (cI, (8 * Q.C), .inl Q.qf)), (Q.qe, .inl (cL, (3 * Q.C), .inr (.inl Q.ef))), (V.au, .inl (cC, V.U, .inl V.un))]) (w1 := [(tv, .inr (12, MF 13 (va_up (va_up (tw VA) 10 (.int 0)) 12 (.int 0))))]) hP hD [4] [0, 1, 2, 3, 5] rfl rfl (by decide) (by decide) hk1 hFc hP1 hD1
  generalize H1 = H at hP hS ⊢
  have hP : va_P (dC, dI) classes [(mo, .inr (13, MF 30 (rf (rs v Q o) i (-1)))), (qx, .inl (cB, NN, .inl f)), (Q.qq, .inl (cI, (8 * Q.C), .inl Q.qf)), (Q.qe, .inl (cL, (3 * Q.C), .inr (.inl Q.ef))), (V.au, .inl (cC, V.U, .inl V.un)), (tv, .inr (12, MF 13 (va_up (va_up (tw VA) 10 (.int 0)) 12 (.int 0))))] H := hP
  have hD : va_D A [(mo, .inr (13, MF 30 (rf (rs v Q o) i (-1)))), (qx, .inl (cB, NN, .inl f)), (Q.qq, .inl (cI, (8 * Q.C), .inl Q.qf)), (Q.qe, .inl (cL, (3 * Q.C), .inr (.inl Q.ef))), (V.au, .inl (cC, V.U, .inl V.un)), (tv, .inr (12, MF 13 (va_up (va_up (tw VA) 10 (.int 0)) 12 (.int 0))))] := hD
  have hP := hP.sub (ws' := [(mo, .inr (13, MF 30 (rf (rs v Q o) i (-1)))), (qx, .inl (cB, NN, .inl f)), (Q.qq, .inl (cI, (8 * Q.C), .inl Q.qf)), (Q.qe, .inl (cL, (3 * Q.C), .inr (.inl Q.ef))), (tv, .inr (12, MF 13 (va_up (va_up (tw VA) 10 (.int 0)) 12 (.int 0)))), (V.au, .inl (cC, V.U, .inl V.un))]) [0, 1, 2, 3, 5, 4] rfl
  have hD := hD.sub (ws' := [(mo, .inr (13, MF 30 (rf (rs v Q o) i (-1)))), (qx, .inl (cB, NN, .inl f)), (Q.qq, .inl (cI, (8 * Q.C), .inl Q.qf)), (Q.qe, .inl (cL, (3 * Q.C), .inr (.inl Q.ef))), (tv, .inr (12, MF 13 (va_up (va_up (tw VA) 10 (.int 0)) 12 (.int 0)))), (V.au, .inl (cC, V.U, .inl V.un))]) [0, 1, 2, 3, 5, 4] (by decide) rfl
  have e8 : MF 13 (va_up (va_up (tw VA) 10 (.int 0)) 12 (.int 0)) = MF 13 (tw V) := by rw [eV]; rfl
  rw [e8] at hP hD
  have hP : va_P (dC, dI) classes [(mo, .inr (13, MF 30 (rf (rs v Q o) i (-1)))), (qx, .inl (cB, NN, .inl f)), (Q.qq, .inl (cI, (8 * Q.C), .inl Q.qf)), (Q.qe, .inl (cL, (3 * Q.C), .inr (.inl Q.ef))), (tv, .inr (12, MF 13 (tw V))), (V.au, .inl (cC, V.U, .inl V.un))] H := hP
  have hD : va_D A [(mo, .inr (13, MF 30 (rf (rs v Q o) i (-1)))), (qx, .inl (cB, NN, .inl f)), (Q.qq, .inl (cI, (8 * Q.C), .inl Q.qf)), (Q.qe, .inl (cL, (3 * Q.C), .inr (.inl Q.ef))), (tv, .inr (12, MF 13 (tw V))), (V.au, .inl (cC, V.U, .inl V.un))] := hD
  have eus : V.us = 0 := by rw [eV]; rfl
  have hi0 : i ≤ n := by omega
  have hcu : V.us + (n + 12 - i) ≤ 400000 := by omega
  have hcr : Q.R + 8 * (n - i) + 9 ≤ 40000 := by omega
  have hQk_Q := hQ
  have hTk_V := hV
  have hCo := hQ.2.2.1
  have hCo2 := hQ.2.1
  clear hQ hV
  have hG_QV : GQ (Q.R + 8 * (n - i) + 9) (V.us + (n + 12 - i)) Q V Q V := GQ.rf
  refine w_same (fun hq => ?_)
  refine w_tight (k := cQ Q V Q V) (n := sQ Q V Q V) (by rw [cQ_rf.1, cQ_rf.2]; exact hq) ?_
  have hqb_QV : Q.R ≤ Q.C ∧ Q.C ≤ 100000 := ⟨hQk_Q.2.2.1, hQk_Q.2.1⟩
  have hfit_QV := hG_QV.fits
  refine lv_aload_n hx hb d_Mo_readQuery_37 rfl (lv_at hl 0 rfl) ?_
  refine lv_bipush (v := 36) hx hb d_Mo_readQuery_38 (by decide) ?_
  have hPc := hP.sub (ws' := [(mo, .inr (13, MF 30 (rf (rs v Q o) i (-1)))), (qx, .inl (cB, NN, .inl f))]) [0, 1] rfl
  have hDc := hD.sub (ws' := [(mo, .inr (13, MF 30 (rf (rs v Q o) i (-1)))), (qx, .inl (cB, NN, .inl f))]) [0, 1] (by decide) rfl
  have hKc := hK.sub (tys' := [(cB, .byte)]) [0] rfl
  have hFc := va_free (wc := [(mo, .inr (13, MF 30 (rf (rs v Q o) i (-1)))), (qx, .inl (cB, NN, .inl f))]) hD hS hA [0, 1] rfl
  refine va_calli (va_runV (As := [.int 36]) (rest := []) ⟨hx, hb, hml, hown, hts⟩ (c_Mo_take l dC dI mo H (rf (rs v Q o) i (-1)) cB qx NN f n i (by omega) (by omega) (by omega) ((rf_ne (by decide) (by decide)).trans ((rs_ne (by decide) (by decide) (by decide) (by decide)).trans h6)) rf_7 ((rf_ne (by decide) (by decide)).trans ((rs_ne (by decide) (by decide) (by decide) (by decide)).trans h8)) (-1) rf_9 36) (cwV 1 hts (gt_V (own := R_Mo) (C := R_Mo) (i := 163) (y := y_Mo_take) i_Mo_take w_1246 w_1248 (gt_sel (y := y_Mo_take) (n := 30) (by decide +kernel)) w_7) rfl rfl rfl (by decide +kernel) ⟨Nat.le_of_ble_eq_true rfl, Nat.le_of_ble_eq_true rfl⟩) ⟨mp_blind, va_recv hKc hPc (ci := 13) (q0 := 0) rfl rfl, fun U hU hW => ⟨rfl, hU, by rw [hU]; exact hPc, va_K.moved hW.alike hKc, hDc.weaken (fun _ _ _ _ => trivial)⟩⟩ rfl rfl hl.1 rfl (lv_room (Nat.le_of_ble_eq_true rfl)) d_Mo_readQuery_40 ⟨hfit_QV.1, hfit_QV.2⟩) hS (fun q _ h => hFc q h) hFc (fun r0 u2 t9 H1 locs ht hvm hw hB hz1 hk1 hS => ?_)
  obtain ⟨hP1, hK1, hD1⟩ := hB
  rw [ht] at hP1
  obtain ⟨hP, hD⟩ := va_join (wr := [(Q.qq, .inl (cI, (8 * Q.C), .inl Q.qf)), (Q.qe, .inl (cL, (3 * Q.C), .inr (.inl Q.ef))), (tv, .inr (12, MF 13 (tw V))), (V.au, .inl (cC, V.U, .inl V.un))]) (w1 := [(mo, .inr (13, MF 30 u2)), (qx, .inl (cB, NN, .inl f))]) hP hD [0, 1] [2, 3, 4, 5] rfl rfl (by decide) (by decide) hk1 hFc hP1 hD1
  generalize H1 = H at hP hS ⊢
  have hP : va_P (dC, dI) classes [(Q.qq, .inl (cI, (8 * Q.C), .inl Q.qf)), (Q.qe, .inl (cL, (3 * Q.C), .inr (.inl Q.ef))), (tv, .inr (12, MF 13 (tw V))), (V.au, .inl (cC, V.U, .inl V.un)), (mo, .inr (13, MF 30 u2)), (qx, .inl (cB, NN, .inl f))] H := hP
  have hD : va_D A [(Q.qq, .inl (cI, (8 * Q.C), .inl Q.qf)), (Q.qe, .inl (cL, (3 * Q.C), .inr (.inl Q.ef))), (tv, .inr (12, MF 13 (tw V))), (V.au, .inl (cC, V.U, .inl V.un)), (mo, .inr (13, MF 30 u2)), (qx, .inl (cB, NN, .inl f))] := hD
  have hP := hP.sub (ws' := [(mo, .inr (13, MF 30 u2)), (qx, .inl (cB, NN, .inl f)), (Q.qq, .inl (cI, (8 * Q.C), .inl Q.qf)), (Q.qe, .inl (cL, (3 * Q.C), .inr (.inl Q.ef))), (tv, .inr (12, MF 13 (tw V))), (V.au, .inl (cC, V.U, .inl V.un))]) [4, 5, 0, 1, 2, 3] rfl
  have hD := hD.sub (ws' := [(mo, .inr (13, MF 30 u2)), (qx, .inl (cB, NN, .inl f)), (Q.qq, .inl (cI, (8 * Q.C), .inl Q.qf)), (Q.qe, .inl (cL, (3 * Q.C), .inr (.inl Q.ef))), (tv, .inr (12, MF 13 (tw V))), (V.au, .inl (cC, V.U, .inl V.un))]) [4, 5, 0, 1, 2, 3] (by decide) rfl
  rcases hw with ⟨ht1, ht2, ht3⟩ | ⟨ht1, ht2, ht3⟩
  · rw [rf_u7] at ht3
    rw [ht3] at hP hD
    subst ht2
    have hP : va_P (dC, dI) classes [(mo, .inr (13, MF 30 (rf (rs v Q o) (i + 1) (-1)))), (qx, .inl (cB, NN, .inl f)), (Q.qq, .inl (cI, (8 * Q.C), .inl Q.qf)), (Q.qe, .inl (cL, (3 * Q.C), .inr (.inl Q.ef))), (tv, .inr (12, MF 13 (tw V))), (V.au, .inl (cC, V.U, .inl V.un))] H := hP
    have hD : va_D A [(mo, .inr (13, MF 30 (rf (rs v Q o) (i + 1) (-1)))), (qx, .inl (cB, NN, .inl f)), (Q.qq, .inl (cI, (8 * Q.C), .inl Q.qf)), (Q.qe, .inl (cL, (3 * Q.C), .inr (.inl Q.ef))), (tv, .inr (12, MF 13 (tw V))), (V.au, .inl (cC, V.U, .inl V.un))] := hD
    refine lv_if_ne (tgt := 48) hx hb d_Mo_readQuery_43 (by decide) (fun _ => ?_) (fun h => absurd h (by decide))
    refine lv_aload_n hx hb d_Mo_readQuery_48 rfl (lv_at hl 0 rfl) ?_
    refine lv_iconst (v := 1) hx hb d_Mo_readQuery_49 (by decide) ?_
    refine lv_iconst (v := 0) hx hb d_Mo_readQuery_50 (by decide) ?_
    have hlt0 := here_in ht1 (by decide)
    have hO15 : ORC (fun f n => (DDf f n 15).1) (DDp 15).1 (o + 1) 255 10200 := by rw [eo]; exact (c_lvl 15 (by decide)).1
    have hPc := hP.sub (ws' := [(mo, .inr (13, MF 30 (rf (rs v Q o) (i + 1) (-1)))), (qx, .inl (cB, NN, .inl f)), (Q.qq, .inl (cI, (8 * Q.C), .inl Q.qf)), (Q.qe, .inl (cL, (3 * Q.C), .inr (.inl Q.ef))), (tv, .inr (12, MF 13 (tw V))), (V.au, .inl (cC, V.U, .inl V.un))]) [0, 1, 2, 3, 4, 5] rfl
    have hDc := hD.sub (ws' := [(mo, .inr (13, MF 30 (rf (rs v Q o) (i + 1) (-1)))), (qx, .inl (cB, NN, .inl f)), (Q.qq, .inl (cI, (8 * Q.C), .inl Q.qf)), (Q.qe, .inl (cL, (3 * Q.C), .inr (.inl Q.ef))), (tv, .inr (12, MF 13 (tw V))), (V.au, .inl (cC, V.U, .inl V.un))]) [0, 1, 2, 3, 4, 5] (by decide) rfl
    have hKc := hK.sub (tys' := [(cB, .byte), (cI, .int), (cL, .long), (cC, .char)]) [0, 1, 2, 3] rfl
    have hFc := va_free (wc := [(mo, .inr (13, MF 30 (rf (rs v Q o) (i + 1) (-1)))), (qx, .inl (cB, NN, .inl f)), (Q.qq, .inl (cI, (8 * Q.C), .inl Q.qf)), (Q.qe, .inl (cL, (3 * Q.C), .inr (.inl Q.ef))), (tv, .inr (12, MF 13 (tw V))), (V.au, .inl (cC, V.U, .inl V.un))]) hD hS hA [0, 1, 2, 3, 4, 5] rfl
    refine w_same (fun hq0 => ?_)
    refine va_calli (va_runV (As := [.int 1, .int 0]) (rest := []) ⟨hx, hb, hml, hown, hts⟩ (c_qr0 (fun f n => (DDf f n 15).1) (DDp 15).1 255 10200 (DDp_fr 15).1 l dC dI mo H v cB cI cL cC qx NN f n K tv Q V o (i + 1) (-1) true 1 (by decide) true ⟨fun _ => by omega, fun _ => rfl⟩ (by omega) (fun _ => hO15) hnN hNN (by omega) h6 h8 h22 hQk_Q hTk_V (by omega) (by omega)) (cwV 2 hts (gt_V (own := R_Mo) (C := R_Mo) (i := 317) (y := y_Mo_queryRest) i_Mo_queryRest w_1403 w_1405 (gt_sel (y := y_Mo_queryRest) (n := 30) (by decide +kernel)) w_7) rfl rfl rfl (by decide +kernel) ⟨Nat.le_of_ble_eq_true rfl, Nat.le_of_ble_eq_true rfl⟩) ⟨me_blind, va_recv hKc hPc (ci := 13) (q0 := 0) rfl rfl, fun U hU hW => ⟨rfl, ⟨hU, by rw [hU]; exact hPc, va_K.moved hW.alike hKc, hDc.weaken (fun _ _ _ _ => trivial)⟩, by rw [hU]; exact ME.call hM hS.2.1 hFc hW⟩⟩ rfl rfl hl.1 rfl (lv_room (Nat.le_of_ble_eq_true rfl)) d_Mo_readQuery_51 ⟨(hG_QV.step (B2 := Q.R + 8 * (n - (i + 1)) + 9) (C2 := V.us + (n + 12 - (i + 1))) (by omega) (by omega)).1, (hG_QV.step (B2 := Q.R + 8 * (n - (i + 1)) + 9) (C2 := V.us + (n + 12 - (i + 1))) (by omega) (by omega)).2⟩) hS (fun q _ h => hFc q h) hFc (fun r0 ⟨Qs, Vs, js, bs, os⟩ t9 H1 locs ht hvm hw hB hz1 hk1 hS => ?_)
    obtain ⟨⟨hP1, hK1, hD1⟩, hz9⟩ := hB
    rw [ht] at hP1
    rw [ht] at hz9
    obtain ⟨⟨hQk_Qs, hGn, hTXs, hR1_Qs, hR2_Qs⟩, hw⟩ := hw
    have hQk_Qs : QOK Qs := hQk_Qs
    obtain ⟨hG_QsVs, hGc, hGs⟩ := hG_QV.tr hGn (by omega) (by omega)
    have hR1_Qs : Q.R ≤ Qs.R := hR1_Qs
    have hR2_Qs : Qs.R ≤ Q.R + 8 * (n - (i + 1)) + 9 := hR2_Qs
    obtain ⟨uss, hX_Vs, hln_Vs⟩ := hTXs
    have hX_Vs : TX V Vs uss := hX_Vs
    have hXs_Vs := hX_Vs.us
    have hz9 : szk H H1 (cQ Q V Qs Vs) (sQ Q V Qs Vs) := hz9
    have hq1 : szk s.heap H1 (cQ Q V Qs Vs) (sQ Q V Qs Vs) := (hq0.trans hz9).mono hGc hGs
    refine w_tight hq1 ?_
    obtain ⟨hP, hD⟩ := va_join (wr := []) (w1 := [(mo, .inr (13, MF 30 (rf (rs v Qs os) js bs))), (qx, .inl (cB, NN, .inl f)), (Qs.qq, .inl (cI, (8 * Qs.C), .inl Qs.qf)), (Qs.qe, .inl (cL, (3 * Qs.C), .inr (.inl Qs.ef))), (tv, .inr (12, MF 13 (tw Vs))), (Vs.au, .inl (cC, Vs.U, .inl Vs.un))]) hP hD [0, 1, 2, 3, 4, 5] [] rfl rfl (by decide) (by decide) hk1 hFc hP1 hD1
    generalize H1 = H at hP hS ⊢
    have hP : va_P (dC, dI) classes [(mo, .inr (13, MF 30 (rf (rs v Qs os) js bs))), (qx, .inl (cB, NN, .inl f)), (Qs.qq, .inl (cI, (8 * Qs.C), .inl Qs.qf)), (Qs.qe, .inl (cL, (3 * Qs.C), .inr (.inl Qs.ef))), (tv, .inr (12, MF 13 (tw Vs))), (Vs.au, .inl (cC, Vs.U, .inl Vs.un))] H := hP
    have hD : va_D A [(mo, .inr (13, MF 30 (rf (rs v Qs os) js bs))), (qx, .inl (cB, NN, .inl f)), (Qs.qq, .inl (cI, (8 * Qs.C), .inl Qs.qf)), (Qs.qe, .inl (cL, (3 * Qs.C), .inr (.inl Qs.ef))), (tv, .inr (12, MF 13 (tw Vs))), (Vs.au, .inl (cC, Vs.U, .inl Vs.un))] := hD
    have hP := hP.sub (ws' := [(mo, .inr (13, MF 30 (rf (rs v Qs os) js bs))), (qx, .inl (cB, NN, .inl f)), (tv, .inr (12, MF 13 (tw Vs))), (Qs.qq, .inl (cI, (8 * Qs.C), .inl Qs.qf)), (Qs.qe, .inl (cL, (3 * Qs.C), .inr (.inl Qs.ef))), (Vs.au, .inl (cC, Vs.U, .inl Vs.un))]) [0, 1, 4, 2, 3, 5] rfl
    have hD := hD.sub (ws' := [(mo, .inr (13, MF 30 (rf (rs v Qs os) js bs))), (qx, .inl (cB, NN, .inl f)), (tv, .inr (12, MF 13 (tw Vs))), (Qs.qq, .inl (cI, (8 * Qs.C), .inl Qs.qf)), (Qs.qe, .inl (cL, (3 * Qs.C), .inr (.inl Qs.ef))), (Vs.au, .inl (cC, Vs.U, .inl Vs.un))]) [0, 1, 4, 2, 3, 5] (by decide) rfl
    have hP := hP.sub (ws' := [(mo, .inr (13, MF 30 (rf (rs v Qs os) js bs))), (qx, .inl (cB, NN, .inl f)), (Qs.qq, .inl (cI, (8 * Qs.C), .inl Qs.qf)), (Qs.qe, .inl (cL, (3 * Qs.C), .inr (.inl Qs.ef))), (tv, .inr (12, MF 13 (tw Vs))), (Vs.au, .inl (cC, Vs.U, .inl Vs.un))]) [0, 1, 3, 4, 2, 5] rfl
    have hD := hD.sub (ws' := [(mo, .inr (13, MF 30 (rf (rs v Qs os) js bs))), (qx, .inl (cB, NN, .inl f)), (Qs.qq, .inl (cI, (8 * Qs.C), .inl Qs.qf)), (Qs.qe, .inl (cL, (3 * Qs.C), .inr (.inl Qs.ef))), (tv, .inr (12, MF 13 (tw Vs))), (Vs.au, .inl (cC, Vs.U, .inl Vs.un))]) [0, 1, 3, 4, 2, 5] (by decide) rfl
    have hTk_Vs := hX_Vs.ok hTk_V (by omega)
    have hqb_QsVs : Qs.R ≤ Qs.C ∧ Qs.C ≤ 100000 := ⟨hQk_Qs.2.2.1, hQk_Qs.2.1⟩
    have hfit_QsVs := hG_QsVs.fits
    rcases hw with ⟨fl, g9, hv_1, hv_2, hv_3, hv_4, hv_5, hv_6, hv_7, hv_8, hv_9, hv_10⟩ | ⟨hv_1, hv_2⟩
    · have hv_10 : o = os := hv_10.symm
      subst hv_10
      have hP : va_P (dC, dI) classes [(mo, .inr (13, MF 30 (rf (rs v Qs o) js bs))), (qx, .inl (cB, NN, .inl f)), (Qs.qq, .inl (cI, (8 * Qs.C), .inl Qs.qf)), (Qs.qe, .inl (cL, (3 * Qs.C), .inr (.inl Qs.ef))), (tv, .inr (12, MF 13 (tw Vs))), (Vs.au, .inl (cC, Vs.U, .inl Vs.un))] H := hP
      have hD : va_D A [(mo, .inr (13, MF 30 (rf (rs v Qs o) js bs))), (qx, .inl (cB, NN, .inl f)), (Qs.qq, .inl (cI, (8 * Qs.C), .inl Qs.qf)), (Qs.qe, .inl (cL, (3 * Qs.C), .inr (.inl Qs.ef))), (tv, .inr (12, MF 13 (tw Vs))), (Vs.au, .inl (cC, Vs.U, .inl Vs.un))] := hD
      have hv_2 : qrP f n true (DDf f n 15).1 false true (i + 1) = some (js, fl, g9) := hv_2
      have hv_3 : QRYp (DDp 15).1 Qs Vs Q.R Qs.R Q.R g9 := hv_3
      have hv_5 : Qs.qf (8 * Q.R + 3) = (if fl = true then 1 else 0) := hv_5
      have hv_6 : Qs.R + 8 * (i + 1) ≤ Q.R + 8 * js + 1 := hv_6
      have hv_7 : Vs.us + (i + 1) ≤ V.us + js := hv_7
      have hv_8 : js ≤ n := hv_8
      have hv_9 : Q.R < Qs.R := hv_9
      subst hv_1
      refine lv_istore_n (lv' := [(3, .int (nI Q.R)), (0, .ref mo), (1, .ref qx), (2, .int (nI n))]) hx hb d_Mo_readQuery_54 rfl hl (by decide) rfl (fun ls hl => ?_)
      refine lv_iload_n hx hb d_Mo_readQuery_55 rfl (lv_at hl 0 rfl) ?_
      refine lv_if_ge (tgt := 61) hx hb d_Mo_readQuery_56 (by decide) (fun _ => ?_) (fun h => absurd (nI_pos' (by omega)) h)
      refine lv_aload_n hx hb d_Mo_readQuery_61 rfl (lv_at hl 1 rfl) ?_
      refine va_get (D := (dC, dI)) (ci := 13) (v := .int (nI js)) (C := R_Mo) (T := F_Mo) (N := 30) hx hb hts in_Mo hown hK hP 0 rfl rfl 7 (by decide) (hts _ w_1096) (fun _ h9 => h9) (MFg (by decide) rf_7) d_Mo_readQuery_62 ?_
      refine lv_aload_n hx hb d_Mo_readQuery_65 rfl (lv_at hl 1 rfl) ?_
      refine va_get (D := (dC, dI)) (ci := 13) (v := .int (nI n)) (C := R_Mo) (T := F_Mo) (N := 30) hx hb hts in_Mo hown hK hP 0 rfl rfl 8 (by decide) (hts _ w_1097) (fun _ h9 => h9) (MFg (by decide) ((rf_ne (by decide) (by decide)).trans ((rs_ne (by decide) (by decide) (by decide) (by decide)).trans h8))) d_Mo_readQuery_66 ?_
      refine lv_icmp_ge (tgt := 87) hx hb d_Mo_readQuery_69 (by decide) (fun c69 => ?_) (fun c69 => ?_)
      · refine lv_iload_n hx hb d_Mo_readQuery_87 rfl (lv_at hl 0 rfl) ?_
        have hd9 : (DDf f n 16).2.2 true 1 = some (js, fl, g9) := by rw [ei] at hv_2; exact hv_2
        have hlt69 : ¬ js < n := by rw [nI_leI (by omega) (by omega)] at c69; omega
        have hfin : pQ f n = some (fl, g9) := by unfold pQ; rw [if_pos (by rw [← ei]; exact ht1), hd9]; exact if_neg hlt69
        rw [eQR] at hv_3 hv_5
        subst hv
        refine w_same (fun hq => ?_)
        refine W.widen (k := kcap Q (Q.R + 8 * (n - i) + 9) + qcap V (V.us + (n + 12 - i))) (n := 22 * kcap Q (Q.R + 8 * (n - i) + 9) + 2 * qcap V (V.us + (n + 12 - i))) hfit_QsVs.1 hfit_QsVs.2 ?_
        have hPo : QPo n i 9 Q V (Qs, Vs, js, bs, o) := ⟨hQk_Qs, hG_QsVs, ⟨_, hX_Vs, by omega⟩, by show Q.R ≤ Qs.R; omega, by show Qs.R ≤ Q.R + 8 * (n - i) + 9; omega⟩
        exact W.iret (v := nI Q.R) hx hb hr (fun t9 ht hW => ⟨⟨nI Q.R, (Qs, Vs, js, bs, o), rfl, ⟨hPo, Or.inl ⟨fl, g9, by rw [eQR]; rfl, hfin, hv_3, hv_5, by show 0 < Qs.R; omega, by show Qs.R ≤ 8 * n + 1; omega, by show Vs.us ≤ n; omega⟩⟩, ⟨by rw [ht]; exact hP, va_K.moved hW.alike hK, hD⟩, by rw [ht]; exact hq⟩, hS.F ht⟩) hS.2.2 d_Mo_readQuery_88
      · refine lv_aload_n hx hb d_Mo_readQuery_72 rfl (lv_at hl 1 rfl) ?_
        have hlt69 : js < n := by rw [nI_leI (by omega) (by omega)] at c69; omega
        have hPc := hP.sub (ws' := [(mo, .inr (13, MF 30 (rf (rs v Qs o) js bs))), (qx, .inl (cB, NN, .inl f))]) [0, 1] rfl
        have hDc := hD.sub (ws' := [(mo, .inr (13, MF 30 (rf (rs v Qs o) js bs))), (qx, .inl (cB, NN, .inl f))]) [0, 1] (by decide) rfl
        have hKc := hK.sub (tys' := [(cB, .byte)]) [0] rfl
        have hFc := va_free (wc := [(mo, .inr (13, MF 30 (rf (rs v Qs o) js bs))), (qx, .inl (cB, NN, .inl f))]) hD hS hA [0, 1] rfl
        refine va_callv (va_runV (As := []) (rest := []) ⟨hx, hb, hml, hown, hts⟩ (c_Mo_blanks l dC dI mo H (rf (rs v Qs o) js bs) cB qx NN f n js (by omega) (by omega) (by omega) ((rf_ne (by decide) (by decide)).trans ((rs_ne (by decide) (by decide) (by decide) (by decide)).trans h6)) rf_7 ((rf_ne (by decide) (by decide)).trans ((rs_ne (by decide) (by decide) (by decide) (by decide)).trans h8))) (cwV 0 hts (gt_V (own := R_Mo) (C := R_Mo) (i := 184) (y := y_Mo_blanks) i_Mo_blanks w_1229 w_1231 (gt_sel (y := y_Mo_blanks) (n := 30) (by decide +kernel)) w_7) rfl rfl rfl (by decide +kernel) ⟨Nat.le_of_ble_eq_true rfl, Nat.le_of_ble_eq_true rfl⟩) ⟨mp_blind, va_recv hKc hPc (ci := 13) (q0 := 0) rfl rfl, fun U hU hW => ⟨rfl, hU, by rw [hU]; exact hPc, va_K.moved hW.alike hKc, hDc.weaken (fun _ _ _ _ => trivial)⟩⟩ rfl rfl hl.1 rfl (lv_room (Nat.le_of_ble_eq_true rfl)) d_Mo_readQuery_73 ⟨hfit_QsVs.1, hfit_QsVs.2⟩) hS (fun q _ h => hFc q h) hFc (fun _u t9 H1 locs ht hvm hw hB hz1 hk1 hS => ?_)
        obtain ⟨hP1, hK1, hD1⟩ := hB
        rw [ht] at hP1
        obtain ⟨hP, hD⟩ := va_join (wr := [(Qs.qq, .inl (cI, (8 * Qs.C), .inl Qs.qf)), (Qs.qe, .inl (cL, (3 * Qs.C), .inr (.inl Qs.ef))), (tv, .inr (12, MF 13 (tw Vs))), (Vs.au, .inl (cC, Vs.U, .inl Vs.un))]) (w1 := [(mo, .inr (13, MF 30 (va_up (rf (rs v Qs o) js bs) 7 (.int (nI (skipH f n js)))))), (qx, .inl (cB, NN, .inl f))]) hP hD [0, 1] [2, 3, 4, 5] rfl rfl (by decide) (by decide) hk1 hFc hP1 hD1
        generalize H1 = H at hP hS ⊢
        have hP : va_P (dC, dI) classes [(Qs.qq, .inl (cI, (8 * Qs.C), .inl Qs.qf)), (Qs.qe, .inl (cL, (3 * Qs.C), .inr (.inl Qs.ef))), (tv, .inr (12, MF 13 (tw Vs))), (Vs.au, .inl (cC, Vs.U, .inl Vs.un)), (mo, .inr (13, MF 30 (va_up (rf (rs v Qs o) js bs) 7 (.int (nI (skipH f n js)))))), (qx, .inl (cB, NN, .inl f))] H := hP
        have hD : va_D A [(Qs.qq, .inl (cI, (8 * Qs.C), .inl Qs.qf)), (Qs.qe, .inl (cL, (3 * Qs.C), .inr (.inl Qs.ef))), (tv, .inr (12, MF 13 (tw Vs))), (Vs.au, .inl (cC, Vs.U, .inl Vs.un)), (mo, .inr (13, MF 30 (va_up (rf (rs v Qs o) js bs) 7 (.int (nI (skipH f n js)))))), (qx, .inl (cB, NN, .inl f))] := hD
        have hP := hP.sub (ws' := [(mo, .inr (13, MF 30 (va_up (rf (rs v Qs o) js bs) 7 (.int (nI (skipH f n js)))))), (qx, .inl (cB, NN, .inl f)), (Qs.qq, .inl (cI, (8 * Qs.C), .inl Qs.qf)), (Qs.qe, .inl (cL, (3 * Qs.C), .inr (.inl Qs.ef))), (tv, .inr (12, MF 13 (tw Vs))), (Vs.au, .inl (cC, Vs.U, .inl Vs.un))]) [4, 5, 0, 1, 2, 3] rfl
        have hD := hD.sub (ws' := [(mo, .inr (13, MF 30 (va_up (rf (rs v Qs o) js bs) 7 (.int (nI (skipH f n js)))))), (qx, .inl (cB, NN, .inl f)), (Qs.qq, .inl (cI, (8 * Qs.C), .inl Qs.qf)), (Qs.qe, .inl (cL, (3 * Qs.C), .inr (.inl Qs.ef))), (tv, .inr (12, MF 13 (tw Vs))), (Vs.au, .inl (cC, Vs.U, .inl Vs.un))]) [4, 5, 0, 1, 2, 3] (by decide) rfl
        rw [rf_u7] at hP hD
        have hP : va_P (dC, dI) classes [(mo, .inr (13, MF 30 (rf (rs v Qs o) (skipH f n js) bs))), (qx, .inl (cB, NN, .inl f)), (Qs.qq, .inl (cI, (8 * Qs.C), .inl Qs.qf)), (Qs.qe, .inl (cL, (3 * Qs.C), .inr (.inl Qs.ef))), (tv, .inr (12, MF 13 (tw Vs))), (Vs.au, .inl (cC, Vs.U, .inl Vs.un))] H := hP
        have hD : va_D A [(mo, .inr (13, MF 30 (rf (rs v Qs o) (skipH f n js) bs))), (qx, .inl (cB, NN, .inl f)), (Qs.qq, .inl (cI, (8 * Qs.C), .inl Qs.qf)), (Qs.qe, .inl (cL, (3 * Qs.C), .inr (.inl Qs.ef))), (tv, .inr (12, MF 13 (tw Vs))), (Vs.au, .inl (cC, Vs.U, .inl Vs.un))] := hD
        have hsk_76 := skipH_n (f := f) (show js ≤ n by omega)
        refine lv_aload_n hx hb d_Mo_readQuery_76 rfl (lv_at hl 1 rfl) ?_
        refine lv_aload_n hx hb d_Mo_readQuery_77 rfl (lv_at hl 1 rfl) ?_
        refine va_get (D := (dC, dI)) (ci := 13) (v := .int (nI (skipH f n js))) (C := R_Mo) (T := F_Mo) (N := 30) hx hb hts in_Mo hown hK hP 0 rfl rfl 7 (by decide) (hts _ w_1096) (fun _ h9 => h9) (MFg (by decide) rf_7) d_Mo_readQuery_78 ?_
        have hPc := hP.sub (ws' := [(mo, .inr (13, MF 30 (rf (rs v Qs o) (skipH f n js) bs)))]) [0] rfl
        have hDc := hD.sub (ws' := [(mo, .inr (13, MF 30 (rf (rs v Qs o) (skipH f n js) bs)))]) [0] (by decide) rfl
        have hKc := hK.sub (tys' := []) [] rfl
        have hFc := va_free (wc := [(mo, .inr (13, MF 30 (rf (rs v Qs o) (skipH f n js) bs)))]) hD hS hA [0] rfl
        refine va_calli (va_runV (As := [.int (nI (skipH f n js))]) (rest := []) ⟨hx, hb, hml, hown, hts⟩ (c_Mo_fail l dC dI mo H (rf (rs v Qs o) (skipH f n js) bs) bs ((nI (skipH f n js))) rf_9) (cwV 1 hts (gt_V (own := R_Mo) (C := R_Mo) (i := 151) (y := y_Mo_fail) i_Mo_fail w_1250 w_1252 (gt_sel (y := y_Mo_fail) (n := 30) (by decide +kernel)) w_7) rfl rfl rfl (by decide +kernel) ⟨Nat.le_of_ble_eq_true rfl, Nat.le_of_ble_eq_true rfl⟩) ⟨mp_blind, va_recv hKc hPc (ci := 13) (q0 := 0) rfl rfl, fun U hU hW => ⟨rfl, hU, by rw [hU]; exact hPc, va_K.moved hW.alike hKc, hDc.weaken (fun _ _ _ _ => trivial)⟩⟩ rfl rfl hl.1 rfl (lv_room (Nat.le_of_ble_eq_true rfl)) d_Mo_readQuery_81 ⟨hfit_QsVs.1, hfit_QsVs.2⟩) hS (fun q _ h => hFc q h) hFc (fun r0 u2 t9 H1 locs ht hvm hw hB hz1 hk1 hS => ?_)
        obtain ⟨hP1, hK1, hD1⟩ := hB
        rw [ht] at hP1
        obtain ⟨hP, hD⟩ := va_join (wr := [(qx, .inl (cB, NN, .inl f)), (Qs.qq, .inl (cI, (8 * Qs.C), .inl Qs.qf)), (Qs.qe, .inl (cL, (3 * Qs.C), .inr (.inl Qs.ef))), (tv, .inr (12, MF 13 (tw Vs))), (Vs.au, .inl (cC, Vs.U, .inl Vs.un))]) (w1 := [(mo, .inr (13, MF 30 u2))]) hP hD [0] [1, 2, 3, 4, 5] rfl rfl (by decide) (by decide) hk1 hFc hP1 hD1
        generalize H1 = H at hP hS ⊢
        have hP : va_P (dC, dI) classes [(qx, .inl (cB, NN, .inl f)), (Qs.qq, .inl (cI, (8 * Qs.C), .inl Qs.qf)), (Qs.qe, .inl (cL, (3 * Qs.C), .inr (.inl Qs.ef))), (tv, .inr (12, MF 13 (tw Vs))), (Vs.au, .inl (cC, Vs.U, .inl Vs.un)), (mo, .inr (13, MF 30 u2))] H := hP
        have hD : va_D A [(qx, .inl (cB, NN, .inl f)), (Qs.qq, .inl (cI, (8 * Qs.C), .inl Qs.qf)), (Qs.qe, .inl (cL, (3 * Qs.C), .inr (.inl Qs.ef))), (tv, .inr (12, MF 13 (tw Vs))), (Vs.au, .inl (cC, Vs.U, .inl Vs.un)), (mo, .inr (13, MF 30 u2))] := hD
        have hP := hP.sub (ws' := [(mo, .inr (13, MF 30 u2)), (qx, .inl (cB, NN, .inl f)), (Qs.qq, .inl (cI, (8 * Qs.C), .inl Qs.qf)), (Qs.qe, .inl (cL, (3 * Qs.C), .inr (.inl Qs.ef))), (tv, .inr (12, MF 13 (tw Vs))), (Vs.au, .inl (cC, Vs.U, .inl Vs.un))]) [5, 0, 1, 2, 3, 4] rfl
        have hD := hD.sub (ws' := [(mo, .inr (13, MF 30 u2)), (qx, .inl (cB, NN, .inl f)), (Qs.qq, .inl (cI, (8 * Qs.C), .inl Qs.qf)), (Qs.qe, .inl (cL, (3 * Qs.C), .inr (.inl Qs.ef))), (tv, .inr (12, MF 13 (tw Vs))), (Vs.au, .inl (cC, Vs.U, .inl Vs.un))]) [5, 0, 1, 2, 3, 4] (by decide) rfl
        obtain ⟨b7, h_b7⟩ := rf_fail (v := (rs v Qs o)) (i := (skipH f n js)) (br := bs) (b2 := bs) (wh := (nI (skipH f n js)))
        have hw : r0 = 0 ∧ u2 = _ := hw
        obtain ⟨hw1, hw2⟩ := hw
        rw [h_b7] at hw2
        rw [hw2] at hP hD
        subst hw1
        have hP : va_P (dC, dI) classes [(mo, .inr (13, MF 30 (rf (rs v Qs o) (skipH f n js) b7))), (qx, .inl (cB, NN, .inl f)), (Qs.qq, .inl (cI, (8 * Qs.C), .inl Qs.qf)), (Qs.qe, .inl (cL, (3 * Qs.C), .inr (.inl Qs.ef))), (tv, .inr (12, MF 13 (tw Vs))), (Vs.au, .inl (cC, Vs.U, .inl Vs.un))] H := hP
        have hD : va_D A [(mo, .inr (13, MF 30 (rf (rs v Qs o) (skipH f n js) b7))), (qx, .inl (cB, NN, .inl f)), (Qs.qq, .inl (cI, (8 * Qs.C), .inl Qs.qf)), (Qs.qe, .inl (cL, (3 * Qs.C), .inr (.inl Qs.ef))), (tv, .inr (12, MF 13 (tw Vs))), (Vs.au, .inl (cC, Vs.U, .inl Vs.un))] := hD
        refine lv_pop hx hb d_Mo_readQuery_84 rfl ?_
        refine lv_iconst (v := (-1)) hx hb d_Mo_readQuery_85 (by decide) ?_
        have hd9 : (DDf f n 16).2.2 true 1 = some (js, fl, g9) := by rw [ei] at hv_2; exact hv_2
        have hfin : pQ f n = none := by unfold pQ; rw [if_pos (by rw [← ei]; exact ht1), hd9]; exact if_pos hlt69
        subst hv
        refine w_same (fun hq => ?_)
        refine W.widen (k := kcap Q (Q.R + 8 * (n - i) + 9) + qcap V (V.us + (n + 12 - i))) (n := 22 * kcap Q (Q.R + 8 * (n - i) + 9) + 2 * qcap V (V.us + (n + 12 - i))) hfit_QsVs.1 hfit_QsVs.2 ?_
        have hPo : QPo n i 9 Q V (Qs, Vs, (skipH f n js), b7, o) := ⟨hQk_Qs, hG_QsVs, ⟨_, hX_Vs, by omega⟩, by show Q.R ≤ Qs.R; omega, by show Qs.R ≤ Q.R + 8 * (n - i) + 9; omega⟩
        exact W.iret (v := -1) hx hb hr (fun t9 ht hW => ⟨⟨-1, (Qs, Vs, (skipH f n js), b7, o), rfl, ⟨hPo, Or.inr ⟨rfl, hfin⟩⟩, ⟨by rw [ht]; exact hP, va_K.moved hW.alike hK, hD⟩, by rw [ht]; exact hq⟩, hS.F ht⟩) hS.2.2 d_Mo_readQuery_86
    · have hv_2 : qrP f n true (DDf f n 15).1 false true (i + 1) = none := hv_2
      subst hv_1
      refine lv_istore_n (lv' := [(3, .int (-1)), (0, .ref mo), (1, .ref qx), (2, .int (nI n))]) hx hb d_Mo_readQuery_54 rfl hl (by decide) rfl (fun ls hl => ?_)
      refine lv_iload_n hx hb d_Mo_readQuery_55 rfl (lv_at hl 0 rfl) ?_
      refine lv_if_ge (tgt := 61) hx hb d_Mo_readQuery_56 (by decide) (fun h => absurd h (by decide)) (fun _ => ?_)
      refine lv_iconst (v := (-1)) hx hb d_Mo_readQuery_59 (by decide) ?_
      have hd9 : (DDf f n 16).2.2 true 1 = none := by rw [ei] at hv_2; exact hv_2
      have hfin : pQ f n = none := by unfold pQ; rw [if_pos (by rw [← ei]; exact ht1), hd9]
      subst hv
      refine w_same (fun hq => ?_)
      refine W.widen (k := kcap Q (Q.R + 8 * (n - i) + 9) + qcap V (V.us + (n + 12 - i))) (n := 22 * kcap Q (Q.R + 8 * (n - i) + 9) + 2 * qcap V (V.us + (n + 12 - i))) hfit_QsVs.1 hfit_QsVs.2 ?_
      have hPo : QPo n i 9 Q V (Qs, Vs, js, bs, os) := ⟨hQk_Qs, hG_QsVs, ⟨_, hX_Vs, by omega⟩, by show Q.R ≤ Qs.R; omega, by show Qs.R ≤ Q.R + 8 * (n - i) + 9; omega⟩
      exact W.iret (v := -1) hx hb hr (fun t9 ht hW => ⟨⟨-1, (Qs, Vs, js, bs, os), rfl, ⟨hPo, Or.inr ⟨rfl, hfin⟩⟩, ⟨by rw [ht]; exact hP, va_K.moved hW.alike hK, hD⟩, by rw [ht]; exact hq⟩, hS.F ht⟩) hS.2.2 d_Mo_readQuery_60
  · obtain ⟨b5, h_b5⟩ := rf_fail (v := (rs v Q o)) (i := i) (br := (-1)) (b2 := (-1)) (wh := nI i)
    rw [h_b5] at ht3
    rw [ht3] at hP hD
    subst ht2
    have hP : va_P (dC, dI) classes [(mo, .inr (13, MF 30 (rf (rs v Q o) i b5))), (qx, .inl (cB, NN, .inl f)), (Q.qq, .inl (cI, (8 * Q.C), .inl Q.qf)), (Q.qe, .inl (cL, (3 * Q.C), .inr (.inl Q.ef))), (tv, .inr (12, MF 13 (tw V))), (V.au, .inl (cC, V.U, .inl V.un))] H := hP
    have hD : va_D A [(mo, .inr (13, MF 30 (rf (rs v Q o) i b5))), (qx, .inl (cB, NN, .inl f)), (Q.qq, .inl (cI, (8 * Q.C), .inl Q.qf)), (Q.qe, .inl (cL, (3 * Q.C), .inr (.inl Q.ef))), (tv, .inr (12, MF 13 (tw V))), (V.au, .inl (cC, V.U, .inl V.un))] := hD
    refine lv_if_ne (tgt := 48) hx hb d_Mo_readQuery_43 (by decide) (fun h => absurd h (by decide)) (fun _ => ?_)
    refine lv_iconst (v := (-1)) hx hb d_Mo_readQuery_46 (by decide) ?_
    have hfin : pQ f n = none := by unfold pQ; rw [if_neg (by rw [← ei]; exact ht1)]
    subst hv
    refine w_same (fun hq => ?_)
    refine W.widen (k := kcap Q (Q.R + 8 * (n - i) + 9) + qcap V (V.us + (n + 12 - i))) (n := 22 * kcap Q (Q.R + 8 * (n - i) + 9) + 2 * qcap V (V.us + (n + 12 - i))) hfit_QV.1 hfit_QV.2 ?_
    have hPo : QPo n i 9 Q V (Q, V, i, b5, o) := ⟨hQk_Q, hG_QV, ⟨[], TX.rf hTk_V, Nat.zero_le _⟩, by show Q.R ≤ Q.R; omega, by show Q.R ≤ Q.R + 8 * (n - i) + 9; omega⟩
    exact W.iret (v := -1) hx hb hr (fun t9 ht hW => ⟨⟨-1, (Q, V, i, b5, o), rfl, ⟨hPo, Or.inr ⟨rfl, hfin⟩⟩, ⟨by rw [ht]; exact hP, va_K.moved hW.alike hK, hD⟩, by rw [ht]; exact hq⟩, hS.F ht⟩) hS.2.2 d_Mo_readQuery_47
