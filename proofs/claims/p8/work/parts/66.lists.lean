theorem w_1439 : (.methodLink "QueryBenchModel" 307 ⟨"QueryBenchModel", "and", "()I"⟩ : Cond) ∈ gtbl := gt_in 1439 (by decide +kernel) (by decide +kernel)
theorem w_1441 : (.instanceMethod ⟨"QueryBenchModel", "and", "()I"⟩ : Cond) ∈ gtbl := gt_in 1441 (by decide +kernel) (by decide +kernel)
theorem w_1443 : (.methodLink "QueryBenchModel" 312 ⟨"QueryBenchModel", "basic", "()I"⟩ : Cond) ∈ gtbl := gt_in 1443 (by decide +kernel) (by decide +kernel)
theorem w_1445 : (.instanceMethod ⟨"QueryBenchModel", "basic", "()I"⟩ : Cond) ∈ gtbl := gt_in 1445 (by decide +kernel) (by decide +kernel)
abbrev b_Mo_and : ByteArray := prog_14_method_45_code
def y_Mo_and : MethodName := ⟨"QueryBenchModel", "and", "()I"⟩
abbrev k_Mo_and : Cond := .code y_Mo_and b_Mo_and 5 (some .int)
theorem i_Mo_and : k_Mo_and ∈ gtbl := gt_in 1442 (by decide +kernel) (by decide +kernel)
theorem d_Mo_and_0 : decode b_Mo_and 0 = .ok (.aload_n 0, 1) := by decide +kernel
theorem d_Mo_and_1 : decode b_Mo_and 1 = .ok (.bipush 31, 2) := by decide +kernel
theorem d_Mo_and_3 : decode b_Mo_and 3 = .ok (.invokevirtual 269, 3) := by decide +kernel
theorem d_Mo_and_6 : decode b_Mo_and 6 = .ok (.istore_n 1, 1) := by decide +kernel
theorem d_Mo_and_7 : decode b_Mo_and 7 = .ok (.iconst (-1), 1) := by decide +kernel
theorem d_Mo_and_8 : decode b_Mo_and 8 = .ok (.istore_n 2, 1) := by decide +kernel
theorem d_Mo_and_9 : decode b_Mo_and 9 = .ok (.aload_n 0, 1) := by decide +kernel
theorem d_Mo_and_10 : decode b_Mo_and 10 = .ok (.invokevirtual 312, 3) := by decide +kernel
theorem d_Mo_and_13 : decode b_Mo_and 13 = .ok (.istore_n 3, 1) := by decide +kernel
theorem d_Mo_and_14 : decode b_Mo_and 14 = .ok (.iload_n 3, 1) := by decide +kernel
theorem d_Mo_and_15 : decode b_Mo_and 15 = .ok (.ifCond .ge 5, 3) := by decide +kernel
theorem d_Mo_and_18 : decode b_Mo_and 18 = .ok (.iconst (-1), 1) := by decide +kernel
theorem d_Mo_and_19 : decode b_Mo_and 19 = .ok (.ireturn, 1) := by decide +kernel
theorem d_Mo_and_20 : decode b_Mo_and 20 = .ok (.iload_n 2, 1) := by decide +kernel
theorem d_Mo_and_21 : decode b_Mo_and 21 = .ok (.ifCond .ge 13, 3) := by decide +kernel
theorem d_Mo_and_24 : decode b_Mo_and 24 = .ok (.aload_n 0, 1) := by decide +kernel
theorem d_Mo_and_25 : decode b_Mo_and 25 = .ok (.iload_n 1, 1) := by decide +kernel
theorem d_Mo_and_26 : decode b_Mo_and 26 = .ok (.iconst 2, 1) := by decide +kernel
theorem d_Mo_and_27 : decode b_Mo_and 27 = .ok (.iload_n 3, 1) := by decide +kernel
theorem d_Mo_and_28 : decode b_Mo_and 28 = .ok (.invokevirtual 272, 3) := by decide +kernel
theorem d_Mo_and_31 : decode b_Mo_and 31 = .ok (.goto 10, 3) := by decide +kernel
theorem d_Mo_and_34 : decode b_Mo_and 34 = .ok (.aload_n 0, 1) := by decide +kernel
theorem d_Mo_and_35 : decode b_Mo_and 35 = .ok (.iload_n 2, 1) := by decide +kernel
theorem d_Mo_and_36 : decode b_Mo_and 36 = .ok (.iconst 1, 1) := by decide +kernel
theorem d_Mo_and_37 : decode b_Mo_and 37 = .ok (.iload_n 3, 1) := by decide +kernel
theorem d_Mo_and_38 : decode b_Mo_and 38 = .ok (.invokevirtual 272, 3) := by decide +kernel
theorem d_Mo_and_41 : decode b_Mo_and 41 = .ok (.iload_n 3, 1) := by decide +kernel
theorem d_Mo_and_42 : decode b_Mo_and 42 = .ok (.istore_n 2, 1) := by decide +kernel
theorem d_Mo_and_43 : decode b_Mo_and 43 = .ok (.aload_n 0, 1) := by decide +kernel
theorem d_Mo_and_44 : decode b_Mo_and 44 = .ok (.getfield 135, 3) := by decide +kernel
theorem d_Mo_and_47 : decode b_Mo_and 47 = .ok (.istore 4, 2) := by decide +kernel
theorem d_Mo_and_49 : decode b_Mo_and 49 = .ok (.aload_n 0, 1) := by decide +kernel
theorem d_Mo_and_50 : decode b_Mo_and 50 = .ok (.invokevirtual 184, 3) := by decide +kernel
theorem d_Mo_and_53 : decode b_Mo_and 53 = .ok (.aload_n 0, 1) := by decide +kernel
theorem d_Mo_and_54 : decode b_Mo_and 54 = .ok (.invokevirtual 147, 3) := by decide +kernel
theorem d_Mo_and_57 : decode b_Mo_and 57 = .ok (.bipush 38, 2) := by decide +kernel
theorem d_Mo_and_59 : decode b_Mo_and 59 = .ok (.if_icmp .eq 11, 3) := by decide +kernel
theorem d_Mo_and_62 : decode b_Mo_and 62 = .ok (.aload_n 0, 1) := by decide +kernel
theorem d_Mo_and_63 : decode b_Mo_and 63 = .ok (.iload 4, 2) := by decide +kernel
theorem d_Mo_and_65 : decode b_Mo_and 65 = .ok (.putfield 135, 3) := by decide +kernel
theorem d_Mo_and_68 : decode b_Mo_and 68 = .ok (.iload_n 1, 1) := by decide +kernel
theorem d_Mo_and_69 : decode b_Mo_and 69 = .ok (.ireturn, 1) := by decide +kernel
theorem d_Mo_and_70 : decode b_Mo_and 70 = .ok (.aload_n 0, 1) := by decide +kernel
theorem d_Mo_and_71 : decode b_Mo_and 71 = .ok (.ldc_w 315, 3) := by decide +kernel
theorem d_Mo_and_74 : decode b_Mo_and 74 = .ok (.invokevirtual 193, 3) := by decide +kernel
theorem d_Mo_and_77 : decode b_Mo_and 77 = .ok (.ifCond .ne 5, 3) := by decide +kernel
theorem d_Mo_and_80 : decode b_Mo_and 80 = .ok (.iconst (-1), 1) := by decide +kernel
theorem d_Mo_and_81 : decode b_Mo_and 81 = .ok (.ireturn, 1) := by decide +kernel
theorem d_Mo_and_82 : decode b_Mo_and 82 = .ok (.aload_n 0, 1) := by decide +kernel
theorem d_Mo_and_83 : decode b_Mo_and 83 = .ok (.invokevirtual 184, 3) := by decide +kernel
theorem d_Mo_and_86 : decode b_Mo_and 86 = .ok (.goto (-77), 3) := by decide +kernel
theorem d_Mo_or_0 : decode b_Mo_or 0 = .ok (.aload_n 0, 1) := by decide +kernel
theorem d_Mo_or_1 : decode b_Mo_or 1 = .ok (.bipush 30, 2) := by decide +kernel
theorem d_Mo_or_3 : decode b_Mo_or 3 = .ok (.invokevirtual 269, 3) := by decide +kernel
theorem d_Mo_or_6 : decode b_Mo_or 6 = .ok (.istore_n 1, 1) := by decide +kernel
theorem d_Mo_or_7 : decode b_Mo_or 7 = .ok (.iconst (-1), 1) := by decide +kernel
theorem d_Mo_or_8 : decode b_Mo_or 8 = .ok (.istore_n 2, 1) := by decide +kernel
theorem d_Mo_or_9 : decode b_Mo_or 9 = .ok (.aload_n 0, 1) := by decide +kernel
theorem d_Mo_or_10 : decode b_Mo_or 10 = .ok (.invokevirtual 307, 3) := by decide +kernel
theorem d_Mo_or_13 : decode b_Mo_or 13 = .ok (.istore_n 3, 1) := by decide +kernel
theorem d_Mo_or_14 : decode b_Mo_or 14 = .ok (.iload_n 3, 1) := by decide +kernel
theorem d_Mo_or_15 : decode b_Mo_or 15 = .ok (.ifCond .ge 5, 3) := by decide +kernel
theorem d_Mo_or_18 : decode b_Mo_or 18 = .ok (.iconst (-1), 1) := by decide +kernel
theorem d_Mo_or_19 : decode b_Mo_or 19 = .ok (.ireturn, 1) := by decide +kernel
theorem d_Mo_or_20 : decode b_Mo_or 20 = .ok (.iload_n 2, 1) := by decide +kernel
theorem d_Mo_or_21 : decode b_Mo_or 21 = .ok (.ifCond .ge 13, 3) := by decide +kernel
theorem d_Mo_or_24 : decode b_Mo_or 24 = .ok (.aload_n 0, 1) := by decide +kernel
theorem d_Mo_or_25 : decode b_Mo_or 25 = .ok (.iload_n 1, 1) := by decide +kernel
theorem d_Mo_or_26 : decode b_Mo_or 26 = .ok (.iconst 2, 1) := by decide +kernel
theorem d_Mo_or_27 : decode b_Mo_or 27 = .ok (.iload_n 3, 1) := by decide +kernel
theorem d_Mo_or_28 : decode b_Mo_or 28 = .ok (.invokevirtual 272, 3) := by decide +kernel
theorem d_Mo_or_31 : decode b_Mo_or 31 = .ok (.goto 10, 3) := by decide +kernel
theorem d_Mo_or_34 : decode b_Mo_or 34 = .ok (.aload_n 0, 1) := by decide +kernel
theorem d_Mo_or_35 : decode b_Mo_or 35 = .ok (.iload_n 2, 1) := by decide +kernel
theorem d_Mo_or_36 : decode b_Mo_or 36 = .ok (.iconst 1, 1) := by decide +kernel
theorem d_Mo_or_37 : decode b_Mo_or 37 = .ok (.iload_n 3, 1) := by decide +kernel
theorem d_Mo_or_38 : decode b_Mo_or 38 = .ok (.invokevirtual 272, 3) := by decide +kernel
theorem d_Mo_or_41 : decode b_Mo_or 41 = .ok (.iload_n 3, 1) := by decide +kernel
theorem d_Mo_or_42 : decode b_Mo_or 42 = .ok (.istore_n 2, 1) := by decide +kernel
theorem d_Mo_or_43 : decode b_Mo_or 43 = .ok (.aload_n 0, 1) := by decide +kernel
theorem d_Mo_or_44 : decode b_Mo_or 44 = .ok (.getfield 135, 3) := by decide +kernel
theorem d_Mo_or_47 : decode b_Mo_or 47 = .ok (.istore 4, 2) := by decide +kernel
theorem d_Mo_or_49 : decode b_Mo_or 49 = .ok (.aload_n 0, 1) := by decide +kernel
theorem d_Mo_or_50 : decode b_Mo_or 50 = .ok (.invokevirtual 184, 3) := by decide +kernel
theorem d_Mo_or_53 : decode b_Mo_or 53 = .ok (.aload_n 0, 1) := by decide +kernel
theorem d_Mo_or_54 : decode b_Mo_or 54 = .ok (.invokevirtual 147, 3) := by decide +kernel
theorem d_Mo_or_57 : decode b_Mo_or 57 = .ok (.bipush 124, 2) := by decide +kernel
theorem d_Mo_or_59 : decode b_Mo_or 59 = .ok (.if_icmp .eq 11, 3) := by decide +kernel
theorem d_Mo_or_62 : decode b_Mo_or 62 = .ok (.aload_n 0, 1) := by decide +kernel
theorem d_Mo_or_63 : decode b_Mo_or 63 = .ok (.iload 4, 2) := by decide +kernel
theorem d_Mo_or_65 : decode b_Mo_or 65 = .ok (.putfield 135, 3) := by decide +kernel
theorem d_Mo_or_68 : decode b_Mo_or 68 = .ok (.iload_n 1, 1) := by decide +kernel
theorem d_Mo_or_69 : decode b_Mo_or 69 = .ok (.ireturn, 1) := by decide +kernel
theorem d_Mo_or_70 : decode b_Mo_or 70 = .ok (.aload_n 0, 1) := by decide +kernel
theorem d_Mo_or_71 : decode b_Mo_or 71 = .ok (.ldc_w 310, 3) := by decide +kernel
theorem d_Mo_or_74 : decode b_Mo_or 74 = .ok (.invokevirtual 193, 3) := by decide +kernel
theorem d_Mo_or_77 : decode b_Mo_or 77 = .ok (.ifCond .ne 5, 3) := by decide +kernel
theorem d_Mo_or_80 : decode b_Mo_or 80 = .ok (.iconst (-1), 1) := by decide +kernel
theorem d_Mo_or_81 : decode b_Mo_or 81 = .ok (.ireturn, 1) := by decide +kernel
theorem d_Mo_or_82 : decode b_Mo_or 82 = .ok (.aload_n 0, 1) := by decide +kernel
theorem d_Mo_or_83 : decode b_Mo_or 83 = .ok (.invokevirtual 184, 3) := by decide +kernel
theorem d_Mo_or_86 : decode b_Mo_or 86 = .ok (.goto (-77), 3) := by decide +kernel
set_option maxHeartbeats 4000000 in
set_option maxRecDepth 100000 in
/-- the reference: and -/
theorem c_and (orL : (Nat → Int32) → Nat → Nat → Option (Nat × CT)) (cmL : (Nat → Int32) → Nat → Nat → Option (Nat × OT)) (qyL : (Nat → Int32) → Nat → Bool → Nat → Option (Nat × Bool × QT)) (O : QP CT) (C : QP OT) (Y : QP QT) (G M : Nat) (hOf : Frm 8 O) (hCf : Frm 8 C) (hYf : Frm 8 Y) (l : Launch) (dC : Nat → ClassId) (dI : Nat → Nat → Nat) (mo : Nat) (sz : Heap) (v : Nat → Value) (cB cI cL cC : ClassId) (qx NN : Nat) (f : Nat → Int32) (n : Nat) (K : Nat → Nat × Nat) (tv : Nat) (Q : QS) (V : TS) (o i : Nat) (br : Int32) (ok : Bool) (hok : ok = true ↔ ¬ o = 16) (ho16 : o ≤ 16) (hOR : ¬ o = 16 → ORC orL O (o + 1) (15 + G) (600 + M)) (hCM : ¬ o = 16 → CMC cmL C (o + 1) (11 + G) (400 + M)) (hQY : ¬ o = 16 → QYC qyL Y (o + 1) (10 + G) (320 + M)) (hnN : n ≤ NN) (hNN : NN ≤ 4096) (hi0 : i ≤ n) (h6 : v 6 = .ref qx) (h8 : v 8 = .int (nI n)) (h22 : v 22 = .ref tv) (hQ : QOK Q) (hV : TOK V) (hcu : V.us + (n + 12 - i) ≤ 400000) (hcr : Q.R + 8 * (n - i) + 2 ≤ 40000) : Met l y_Mo_and (k_Mo_and :: gtbl) ({ frames := 14 + (15 + G), cells := kcap Q (Q.R + 8 * (n - i) + 2) + qcap V (V.us + (n + 12 - i)), slots := 22 * kcap Q (Q.R + 8 * (n - i) + 2) + 2 * qcap V (V.us + (n + 12 - i)), locals := 550 + (600 + M) }) (va_Pc [.ref mo] (me K dC dI [(mo, .inr (13, MF 30 (rf (rs v Q o) i br))), (qx, .inl (cB, NN, .inl f)), (Q.qq, .inl (cI, (8 * Q.C), .inl Q.qf)), (Q.qe, .inl (cL, (3 * Q.C), .inr (.inl Q.ef))), (tv, .inr (12, MF 13 (tw V))), (V.au, .inl (cC, V.U, .inl V.un))] [(cB, .byte), (cI, .int), (cL, .long), (cC, .char)] sz)) (va_Qi (fun (res : Int32) (u : QS × TS × Nat × Int32 × Nat) => BAo (anP f n ok (orL f n) (cmL f n) (qyL f n)) (ANDf O C Y) n i 2 4 o Q V res u) (fun u t9 => mz dC dI [(mo, .inr (13, MF 30 (rf (rs v u.1 u.2.2.2.2) u.2.2.1 u.2.2.2.1))), (qx, .inl (cB, NN, .inl f)), (u.1.qq, .inl (cI, (8 * u.1.C), .inl u.1.qf)), (u.1.qe, .inl (cL, (3 * u.1.C), .inr (.inl u.1.ef))), (tv, .inr (12, MF 13 (tw u.2.1))), (u.2.1.au, .inl (cC, u.2.1.U, .inl u.2.1.un))] [(cB, .byte), (cI, .int), (cL, .long), (cC, .char)] (va_A [(mo, .inr (13, MF 30 (rf (rs v Q o) i br))), (qx, .inl (cB, NN, .inl f)), (Q.qq, .inl (cI, (8 * Q.C), .inl Q.qf)), (Q.qe, .inl (cL, (3 * Q.C), .inr (.inl Q.ef))), (tv, .inr (12, MF 13 (tw V))), (V.au, .inl (cC, V.U, .inl V.un))] sz.size) t9 ∧ szk sz t9.heap (cQ Q V u.1 u.2.1) (sQ Q V u.1 u.2.1)) (va_A [(mo, .inr (13, MF 30 (rf (rs v Q o) i br))), (qx, .inl (cB, NN, .inl f)), (Q.qq, .inl (cI, (8 * Q.C), .inl Q.qf)), (Q.qe, .inl (cL, (3 * Q.C), .inr (.inl Q.ef))), (tv, .inr (12, MF 13 (tw V))), (V.au, .inl (cC, V.U, .inl V.un))] sz.size)) (kcap Q (Q.R + 8 * (n - i) + 2) + qcap V (V.us + (n + 12 - i))) (22 * kcap Q (Q.R + 8 * (n - i) + 2) + 2 * qcap V (V.us + (n + 12 - i))) (va_A [(mo, .inr (13, MF 30 (rf (rs v Q o) i br))), (qx, .inl (cB, NN, .inl f)), (Q.qq, .inl (cI, (8 * Q.C), .inl Q.qf)), (Q.qe, .inl (cL, (3 * Q.C), .inr (.inl Q.ef))), (tv, .inr (12, MF 13 (tw V))), (V.au, .inl (cC, V.U, .inl V.un))] sz.size) := by
  refine Met.ofW (cc := b_Mo_and) (maxL := 5) (ret := (some .int)) (by decide) rfl ?_
  intro p e s m args below meth c s₁ B hml hv
  obtain ⟨rfl, ⟨hsz, hP, hK, hD0⟩, hM⟩ := hv
  have hx := B.exec
  have hb := B.bytes
  have hr := B.returns
  have hts0 := atoms_spec (ws := k_Mo_and :: gtbl) B.pre
  have hts := fun w h => hts0 w (List.mem_cons_of_mem _ h)
  have hown : s.vm.findClass R_Mo = some m.cls := findClass_of_methodNamed B.named
  have hlocks := B.notSynchronized
  subst hsz
  have hD := hD0.self (sz := s.heap.size)
  generalize hAe : va_A [(mo, .inr (13, MF 30 (rf (rs v Q o) i br))), (qx, .inl (cB, NN, .inl f)), (Q.qq, .inl (cI, (8 * Q.C), .inl Q.qf)), (Q.qe, .inl (cL, (3 * Q.C), .inr (.inl Q.ef))), (tv, .inr (12, MF 13 (tw V))), (V.au, .inl (cC, V.U, .inl V.un))] s.heap.size = A at hD hM ⊢
  have hA : ∀ q : Nat, s.heap.size ≤ q → A q := fun q h => by rw [← hAe]; exact Or.inr h
  have hS : va_S A s.heap s.heap [] := va_S.rf
  have hP : va_P (dC, dI) classes [(mo, .inr (13, MF 30 (rf (rs v Q o) i br))), (qx, .inl (cB, NN, .inl f)), (Q.qq, .inl (cI, (8 * Q.C), .inl Q.qf)), (Q.qe, .inl (cL, (3 * Q.C), .inr (.inl Q.ef))), (tv, .inr (12, MF 13 (tw V))), (V.au, .inl (cC, V.U, .inl V.un))] s.heap := hP
  have hl := lv_entry ([.ref mo]) (n := 5) (Nat.le_of_ble_eq_true rfl)
  rw [lg_entry_eq]
  generalize (lg_sl ([.ref mo]) ++ List.replicate (5 - (lg_sl ([.ref mo])).length) Slot.unset).toArray = ls at hl ⊢
  have hl : lv_has ls 5 [(0, .ref mo)] := hl
  have hQk_Q := hQ
  have hTk_V := hV
  have hCo := hQ.2.2.1
  have hCo2 := hQ.2.1
  clear hQ hV
  have hG_QV : GQ (Q.R + 8 * (n - i) + 2) (V.us + (n + 12 - i)) Q V Q V := GQ.rf
  refine w_same (fun hq => ?_)
  refine w_tight (k := cQ Q V Q V) (n := sQ Q V Q V) (by rw [cQ_rf.1, cQ_rf.2]; exact hq) ?_
  have hqb_QV : Q.R ≤ Q.C ∧ Q.C ≤ 100000 := ⟨hQk_Q.2.2.1, hQk_Q.2.1⟩
  have hfit_QV := hG_QV.fits
  refine lv_aload_n hx hb d_Mo_and_0 rfl (lv_at hl 0 rfl) ?_
  refine lv_bipush (v := 31) hx hb d_Mo_and_1 (by decide) ?_
  have hPc := hP.sub (ws' := [(mo, .inr (13, MF 30 (rf (rs v Q o) i br))), (Q.qq, .inl (cI, (8 * Q.C), .inl Q.qf)), (Q.qe, .inl (cL, (3 * Q.C), .inr (.inl Q.ef)))]) [0, 2, 3] rfl
  have hDc := hD.sub (ws' := [(mo, .inr (13, MF 30 (rf (rs v Q o) i br))), (Q.qq, .inl (cI, (8 * Q.C), .inl Q.qf)), (Q.qe, .inl (cL, (3 * Q.C), .inr (.inl Q.ef)))]) [0, 2, 3] (by decide) rfl
  have hKc := hK.sub (tys' := [(cI, .int), (cL, .long)]) [1, 2] rfl
  have hFc := va_free (wc := [(mo, .inr (13, MF 30 (rf (rs v Q o) i br))), (Q.qq, .inl (cI, (8 * Q.C), .inl Q.qf)), (Q.qe, .inl (cL, (3 * Q.C), .inr (.inl Q.ef)))]) hD hS hA [0, 2, 3] rfl
  refine w_same (fun hq0 => ?_)
  refine va_calli (va_runV (As := [.int 31]) (rest := []) ⟨hx, hb, hml, hown, hts⟩ (c_Mo_row l dC dI mo s.heap v cI cL Q o i br 31 hQk_Q) (cwV 1 hts (gt_V (own := R_Mo) (C := R_Mo) (i := 269) (y := y_Mo_row) i_Mo_row w_1407 w_1409 (gt_sel (y := y_Mo_row) (n := 30) (by decide +kernel)) w_7) rfl rfl rfl (by decide +kernel) ⟨Nat.le_trans (m := 14) (Nat.le_of_ble_eq_true rfl) (Nat.le_add_right 14 (15 + G)), Nat.le_trans (m := 550) (Nat.le_of_ble_eq_true rfl) (Nat.le_add_right 550 (600 + M))⟩) ⟨mp_blind, va_recv hKc hPc (ci := 13) (q0 := 0) rfl rfl, fun U hU hW => ⟨rfl, hU, by rw [hU]; exact hPc, va_K.moved hW.alike hKc, hDc.weaken (fun _ _ _ _ => trivial)⟩⟩ rfl rfl hl.1 rfl (lv_room (Nat.le_of_ble_eq_true rfl)) d_Mo_and_3 ⟨(QAd.fit hG_QV hQk_Q (by omega)).1, (QAd.fit hG_QV hQk_Q (by omega)).2⟩) hS (fun q _ h => hFc q h) hFc (fun r0 Q1 t9 H1 locs ht hvm hw hB hz1 hk1 hS => ?_)
  obtain ⟨⟨hP1, hK1, hD1⟩, hz9⟩ := hB
  rw [ht] at hP1
  rw [ht] at hz9
  obtain ⟨hr0, hA_Q1⟩ := hw
  have hA_Q1 : QAd Q Q1 31 := hA_Q1
  obtain ⟨hQk_Q1, hGa, hGb, hGd, hR_Q1⟩ := hA_Q1.gq hQk_Q (by omega) V
  obtain ⟨hG_Q1V, hGc, hGs⟩ := hG_QV.tr hGa (show Q.R + 1 ≤ Q.R + 8 * (n - i) + 2 by omega) (Nat.zero_le _)
  have hGc := Nat.le_trans (Nat.add_le_add_left hGb _) hGc
  have hGs := Nat.le_trans (Nat.add_le_add_left hGd _) hGs
  have hq1 : szk s.heap H1 (cQ Q V Q1 V) (sQ Q V Q1 V) := (hq0.trans hz9).mono hGc hGs
  refine w_tight hq1 ?_
  obtain ⟨hP, hD⟩ := va_join (wr := [(qx, .inl (cB, NN, .inl f)), (tv, .inr (12, MF 13 (tw V))), (V.au, .inl (cC, V.U, .inl V.un))]) (w1 := [(mo, .inr (13, MF 30 (rf (rs v Q1 o) i br))), (Q1.qq, .inl (cI, (8 * Q1.C), .inl Q1.qf)), (Q1.qe, .inl (cL, (3 * Q1.C), .inr (.inl Q1.ef)))]) hP hD [0, 2, 3] [1, 4, 5] rfl rfl (by decide) (by decide) hk1 hFc hP1 hD1
  generalize H1 = H at hP hS ⊢
  have hP : va_P (dC, dI) classes [(qx, .inl (cB, NN, .inl f)), (tv, .inr (12, MF 13 (tw V))), (V.au, .inl (cC, V.U, .inl V.un)), (mo, .inr (13, MF 30 (rf (rs v Q1 o) i br))), (Q1.qq, .inl (cI, (8 * Q1.C), .inl Q1.qf)), (Q1.qe, .inl (cL, (3 * Q1.C), .inr (.inl Q1.ef)))] H := hP
  have hD : va_D A [(qx, .inl (cB, NN, .inl f)), (tv, .inr (12, MF 13 (tw V))), (V.au, .inl (cC, V.U, .inl V.un)), (mo, .inr (13, MF 30 (rf (rs v Q1 o) i br))), (Q1.qq, .inl (cI, (8 * Q1.C), .inl Q1.qf)), (Q1.qe, .inl (cL, (3 * Q1.C), .inr (.inl Q1.ef)))] := hD
  have hP := hP.sub (ws' := [(mo, .inr (13, MF 30 (rf (rs v Q1 o) i br))), (qx, .inl (cB, NN, .inl f)), (tv, .inr (12, MF 13 (tw V))), (V.au, .inl (cC, V.U, .inl V.un)), (Q1.qq, .inl (cI, (8 * Q1.C), .inl Q1.qf)), (Q1.qe, .inl (cL, (3 * Q1.C), .inr (.inl Q1.ef)))]) [3, 0, 1, 2, 4, 5] rfl
  have hD := hD.sub (ws' := [(mo, .inr (13, MF 30 (rf (rs v Q1 o) i br))), (qx, .inl (cB, NN, .inl f)), (tv, .inr (12, MF 13 (tw V))), (V.au, .inl (cC, V.U, .inl V.un)), (Q1.qq, .inl (cI, (8 * Q1.C), .inl Q1.qf)), (Q1.qe, .inl (cL, (3 * Q1.C), .inr (.inl Q1.ef)))]) [3, 0, 1, 2, 4, 5] (by decide) rfl
  have hP := hP.sub (ws' := [(mo, .inr (13, MF 30 (rf (rs v Q1 o) i br))), (qx, .inl (cB, NN, .inl f)), (Q1.qq, .inl (cI, (8 * Q1.C), .inl Q1.qf)), (Q1.qe, .inl (cL, (3 * Q1.C), .inr (.inl Q1.ef))), (tv, .inr (12, MF 13 (tw V))), (V.au, .inl (cC, V.U, .inl V.un))]) [0, 1, 4, 5, 2, 3] rfl
  have hD := hD.sub (ws' := [(mo, .inr (13, MF 30 (rf (rs v Q1 o) i br))), (qx, .inl (cB, NN, .inl f)), (Q1.qq, .inl (cI, (8 * Q1.C), .inl Q1.qf)), (Q1.qe, .inl (cL, (3 * Q1.C), .inr (.inl Q1.ef))), (tv, .inr (12, MF 13 (tw V))), (V.au, .inl (cC, V.U, .inl V.un))]) [0, 1, 4, 5, 2, 3] (by decide) rfl
  have hr0 : r0 = nI Q.R := hr0
  subst hr0
  have hqb_Q1V : Q1.R ≤ Q1.C ∧ Q1.C ≤ 100000 := ⟨hQk_Q1.2.2.1, hQk_Q1.2.1⟩
  have hfit_Q1V := hG_Q1V.fits
  have hE_Q1 : alr Q V Q1 V 0 Q.R := ⟨fun r9 k9 _ h1 h2 => hA_Q1.2.2.1 _ (by omega), ⟨fun r9 k9 _ h1 h2 => hA_Q1.2.2.2.1.2 _ (by omega), Nat.le_refl _, fun _ _ => rfl⟩⟩
  refine lv_istore_n (lv' := [(1, .int (nI Q.R)), (0, .ref mo)]) hx hb d_Mo_and_6 rfl hl (by decide) rfl (fun ls hl => ?_)
  refine lv_iconst (v := (-1)) hx hb d_Mo_and_7 (by decide) ?_
  refine lv_istore_n (lv' := [(2, .int (-1)), (1, .int (nI Q.R)), (0, .ref mo)]) hx hb d_Mo_and_8 rfl hl (by decide) rfl (fun ls hl => ?_)
  have hlp0 : anP f n ok (orL f n) (cmL f n) (qyL f n) i = (liP f n (baP f n ok (orL f n) (cmL f n) (qyL f n)) 38 8 (n + 1) i []).map (fun p => (p.1, allC p.2)) := rfl
  have hCH1 : CHi 1 (BASf O C Y) Q V Q.R Q1 V (-1) [] := CHi.st (by omega) hE_Q1 (hA_Q1.2.2.2.2.2 2 (by decide) (by decide))
  refine w_same (fun hq => ?_)
  refine W.widen (k := kcap Q (Q.R + 8 * (n - i) + 2) + qcap V (V.us + (n + 12 - i))) (n := 22 * kcap Q (Q.R + 8 * (n - i) + 2) + 2 * qcap V (V.us + (n + 12 - i))) hfit_Q1V.1 hfit_Q1V.2 ?_
  refine w_loopH (D := (dC, dI)) (cl := classes) (A := A) (H0 := s.heap) (nL := 5) 9 (σ := QS × TS × Nat × Nat × Int32 × Int32 × List CT) (fun ⟨Qc, Vc, m9, j, b, bf, ac⟩ H => CHi 1 (BASf O C Y) Q V Q.R Qc Vc bf ac ∧ Qc.qf (8 * Q.R + 0) = 31 ∧ Qc.qf (8 * Q.R + 1) = -1 ∧ QOK Qc ∧ TOK Vc ∧ GQ (Q.R + 8 * (n - i) + 2) (V.us + (n + 12 - i)) Q V Qc Vc ∧ (∃ us, TX V Vc us) ∧ Qc.R + 8 * i ≤ Q.R + 8 * j + 1 ∧ Vc.us + i ≤ V.us + j ∧ j ≤ n ∧ i ≤ j ∧ n + 1 ≤ m9 + j ∧ liP f n (baP f n ok (orL f n) (cmL f n) (qyL f n)) 38 8 m9 j ac = liP f n (baP f n ok (orL f n) (cmL f n) (qyL f n)) 38 8 (n + 1) i [] ∧ szk s.heap H (cQ Q V Qc Vc) (sQ Q V Qc Vc)) (fun ⟨Qc, Vc, m9, j, b, bf, ac⟩ => n + 1 - j) (fun ⟨Qc, Vc, m9, j, b, bf, ac⟩ => [(mo, .inr (13, MF 30 (rf (rs v Qc o) j b))), (qx, .inl (cB, NN, .inl f)), (Qc.qq, .inl (cI, (8 * Qc.C), .inl Qc.qf)), (Qc.qe, .inl (cL, (3 * Qc.C), .inr (.inl Qc.ef))), (tv, .inr (12, MF 13 (tw Vc))), (Vc.au, .inl (cC, Vc.U, .inl Vc.un))]) (fun ⟨Qc, Vc, m9, j, b, bf, ac⟩ => [(0, .ref mo), (1, .int (nI Q.R)), (2, .int bf)]) ?_ (Q1, V, n + 1, i, br, -1, []) ⟨hCH1, hA_Q1.2.2.2.2.1, hA_Q1.2.2.2.2.2 1 (by decide) (by decide), hQk_Q1, hTk_V, hG_Q1V, ⟨[], TX.rf hTk_V⟩, by show Q1.R + 8 * i ≤ Q.R + 8 * i + 1; omega, Nat.le_refl _, hi0, Nat.le_refl _, by show n + 1 ≤ n + 1 + i; omega, rfl, hq⟩ hP hD hS (lv_sub hl [2, 1, 0] rfl)
  rintro ⟨Qc, Vc, m9, j, b, bf, ac⟩ H locs ls hI ih hP hD hS hl
  have hP : va_P (dC, dI) classes [(mo, .inr (13, MF 30 (rf (rs v Qc o) j b))), (qx, .inl (cB, NN, .inl f)), (Qc.qq, .inl (cI, (8 * Qc.C), .inl Qc.qf)), (Qc.qe, .inl (cL, (3 * Qc.C), .inr (.inl Qc.ef))), (tv, .inr (12, MF 13 (tw Vc))), (Vc.au, .inl (cC, Vc.U, .inl Vc.un))] H := hP
  have hD : va_D A [(mo, .inr (13, MF 30 (rf (rs v Qc o) j b))), (qx, .inl (cB, NN, .inl f)), (Qc.qq, .inl (cI, (8 * Qc.C), .inl Qc.qf)), (Qc.qe, .inl (cL, (3 * Qc.C), .inr (.inl Qc.ef))), (tv, .inr (12, MF 13 (tw Vc))), (Vc.au, .inl (cC, Vc.U, .inl Vc.un))] := hD
  have hl : lv_has ls 5 [(0, .ref mo), (1, .int (nI Q.R)), (2, .int bf)] := hl
  obtain ⟨hCH, hf0, hf1, hQk_Qc, hTk_Vc, hG_QcVc, ⟨usc, hXc⟩, hI1, hI2, hI3, hI4, hI5, hI6, hI7⟩ := hI
  refine w_tight hI7 ?_
  obtain ⟨m0, hm0⟩ : ∃ m0, m9 = m0 + 1 := ⟨m9 - 1, by omega⟩
  have hXcs := hXc.us
  have hCHl := hCH.1
  have hqb_QcVc : Qc.R ≤ Qc.C ∧ Qc.C ≤ 100000 := ⟨hQk_Qc.2.2.1, hQk_Qc.2.1⟩
  have hfit_QcVc := hG_QcVc.fits
  refine lv_aload_n hx hb d_Mo_and_9 rfl (lv_at hl 0 rfl) ?_
  have hPc := hP.sub (ws' := [(mo, .inr (13, MF 30 (rf (rs v Qc o) j b))), (qx, .inl (cB, NN, .inl f)), (Qc.qq, .inl (cI, (8 * Qc.C), .inl Qc.qf)), (Qc.qe, .inl (cL, (3 * Qc.C), .inr (.inl Qc.ef))), (tv, .inr (12, MF 13 (tw Vc))), (Vc.au, .inl (cC, Vc.U, .inl Vc.un))]) [0, 1, 2, 3, 4, 5] rfl
  have hDc := hD.sub (ws' := [(mo, .inr (13, MF 30 (rf (rs v Qc o) j b))), (qx, .inl (cB, NN, .inl f)), (Qc.qq, .inl (cI, (8 * Qc.C), .inl Qc.qf)), (Qc.qe, .inl (cL, (3 * Qc.C), .inr (.inl Qc.ef))), (tv, .inr (12, MF 13 (tw Vc))), (Vc.au, .inl (cC, Vc.U, .inl Vc.un))]) [0, 1, 2, 3, 4, 5] (by decide) rfl
  have hKc := hK.sub (tys' := [(cB, .byte), (cI, .int), (cL, .long), (cC, .char)]) [0, 1, 2, 3] rfl
  have hFc := va_free (wc := [(mo, .inr (13, MF 30 (rf (rs v Qc o) j b))), (qx, .inl (cB, NN, .inl f)), (Qc.qq, .inl (cI, (8 * Qc.C), .inl Qc.qf)), (Qc.qe, .inl (cL, (3 * Qc.C), .inr (.inl Qc.ef))), (tv, .inr (12, MF 13 (tw Vc))), (Vc.au, .inl (cC, Vc.U, .inl Vc.un))]) hD hS hA [0, 1, 2, 3, 4, 5] rfl
  refine w_same (fun hq0 => ?_)
  refine va_calli (va_runV (As := []) (rest := []) ⟨hx, hb, hml, hown, hts⟩ (c_bas orL cmL qyL O C Y G M hOf hCf hYf l dC dI mo H v cB cI cL cC qx NN f n K tv Qc Vc o j b ok hok ho16 hOR hCM hQY hnN hNN (by omega) h6 h8 h22 hQk_Qc hTk_Vc (by omega) (by omega)) (cwV 0 hts (gt_V (own := R_Mo) (C := R_Mo) (i := 312) (y := y_Mo_basic) i_Mo_basic w_1443 w_1445 (gt_sel (y := y_Mo_basic) (n := 30) (by decide +kernel)) w_7) rfl rfl rfl (by decide +kernel) ⟨by show 13 + (15 + G) + 1 ≤ 14 + (15 + G); omega, by show 8 + (7 + 11) + (500 + (600 + M)) ≤ 550 + (600 + M); omega⟩) ⟨me_blind, va_recv hKc hPc (ci := 13) (q0 := 0) rfl rfl, fun U hU hW => ⟨rfl, ⟨hU, by rw [hU]; exact hPc, va_K.moved hW.alike hKc, hDc.weaken (fun _ _ _ _ => trivial)⟩, by rw [hU]; exact ME.call hM hS.2.1 hFc hW⟩⟩ rfl rfl hl.1 rfl (lv_room (Nat.le_of_ble_eq_true rfl)) d_Mo_and_10 ⟨(hG_QcVc.step (B2 := Qc.R + 8 * (n - j) + 1) (C2 := Vc.us + (n + 12 - j)) (by omega) (by omega)).1, (hG_QcVc.step (B2 := Qc.R + 8 * (n - j) + 1) (C2 := Vc.us + (n + 12 - j)) (by omega) (by omega)).2⟩) hS (fun q _ h => hFc q h) hFc (fun r0 ⟨Q1, V1, j1, b1, o1⟩ t9 H1 locs ht hvm hw hB hz1 hk1 hS => ?_)
  obtain ⟨⟨hP1, hK1, hD1⟩, hz9⟩ := hB
  rw [ht] at hP1
  rw [ht] at hz9
  obtain ⟨⟨hQk_Q1, hGn, hTXs, hR1_Q1, hR2_Q1⟩, hw⟩ := hw
  have hQk_Q1 : QOK Q1 := hQk_Q1
  obtain ⟨hG_Q1V1, hGc, hGs⟩ := hG_QcVc.tr hGn (by omega) (by omega)
  have hR1_Q1 : Qc.R ≤ Q1.R := hR1_Q1
  have hR2_Q1 : Q1.R ≤ Qc.R + 8 * (n - j) + 1 := hR2_Q1
  obtain ⟨us1, hX_V1, hln_V1⟩ := hTXs
  have hX_V1 : TX Vc V1 us1 := hX_V1
  have hXs_V1 := hX_V1.us
  have hz9 : szk H H1 (cQ Qc Vc Q1 V1) (sQ Qc Vc Q1 V1) := hz9
  have hq1 : szk s.heap H1 (cQ Q V Q1 V1) (sQ Q V Q1 V1) := (hq0.trans hz9).mono hGc hGs
  refine w_tight hq1 ?_
  obtain ⟨hP, hD⟩ := va_join (wr := []) (w1 := [(mo, .inr (13, MF 30 (rf (rs v Q1 o1) j1 b1))), (qx, .inl (cB, NN, .inl f)), (Q1.qq, .inl (cI, (8 * Q1.C), .inl Q1.qf)), (Q1.qe, .inl (cL, (3 * Q1.C), .inr (.inl Q1.ef))), (tv, .inr (12, MF 13 (tw V1))), (V1.au, .inl (cC, V1.U, .inl V1.un))]) hP hD [0, 1, 2, 3, 4, 5] [] rfl rfl (by decide) (by decide) hk1 hFc hP1 hD1
  generalize H1 = H at hP hS ⊢
  have hP : va_P (dC, dI) classes [(mo, .inr (13, MF 30 (rf (rs v Q1 o1) j1 b1))), (qx, .inl (cB, NN, .inl f)), (Q1.qq, .inl (cI, (8 * Q1.C), .inl Q1.qf)), (Q1.qe, .inl (cL, (3 * Q1.C), .inr (.inl Q1.ef))), (tv, .inr (12, MF 13 (tw V1))), (V1.au, .inl (cC, V1.U, .inl V1.un))] H := hP
  have hD : va_D A [(mo, .inr (13, MF 30 (rf (rs v Q1 o1) j1 b1))), (qx, .inl (cB, NN, .inl f)), (Q1.qq, .inl (cI, (8 * Q1.C), .inl Q1.qf)), (Q1.qe, .inl (cL, (3 * Q1.C), .inr (.inl Q1.ef))), (tv, .inr (12, MF 13 (tw V1))), (V1.au, .inl (cC, V1.U, .inl V1.un))] := hD
  have hP := hP.sub (ws' := [(mo, .inr (13, MF 30 (rf (rs v Q1 o1) j1 b1))), (qx, .inl (cB, NN, .inl f)), (tv, .inr (12, MF 13 (tw V1))), (Q1.qq, .inl (cI, (8 * Q1.C), .inl Q1.qf)), (Q1.qe, .inl (cL, (3 * Q1.C), .inr (.inl Q1.ef))), (V1.au, .inl (cC, V1.U, .inl V1.un))]) [0, 1, 4, 2, 3, 5] rfl
  have hD := hD.sub (ws' := [(mo, .inr (13, MF 30 (rf (rs v Q1 o1) j1 b1))), (qx, .inl (cB, NN, .inl f)), (tv, .inr (12, MF 13 (tw V1))), (Q1.qq, .inl (cI, (8 * Q1.C), .inl Q1.qf)), (Q1.qe, .inl (cL, (3 * Q1.C), .inr (.inl Q1.ef))), (V1.au, .inl (cC, V1.U, .inl V1.un))]) [0, 1, 4, 2, 3, 5] (by decide) rfl
  have hP := hP.sub (ws' := [(mo, .inr (13, MF 30 (rf (rs v Q1 o1) j1 b1))), (qx, .inl (cB, NN, .inl f)), (Q1.qq, .inl (cI, (8 * Q1.C), .inl Q1.qf)), (Q1.qe, .inl (cL, (3 * Q1.C), .inr (.inl Q1.ef))), (tv, .inr (12, MF 13 (tw V1))), (V1.au, .inl (cC, V1.U, .inl V1.un))]) [0, 1, 3, 4, 2, 5] rfl
  have hD := hD.sub (ws' := [(mo, .inr (13, MF 30 (rf (rs v Q1 o1) j1 b1))), (qx, .inl (cB, NN, .inl f)), (Q1.qq, .inl (cI, (8 * Q1.C), .inl Q1.qf)), (Q1.qe, .inl (cL, (3 * Q1.C), .inr (.inl Q1.ef))), (tv, .inr (12, MF 13 (tw V1))), (V1.au, .inl (cC, V1.U, .inl V1.un))]) [0, 1, 3, 4, 2, 5] (by decide) rfl
  have hTk_V1 := hX_V1.ok hTk_Vc (by omega)
  have hqb_Q1V1 : Q1.R ≤ Q1.C ∧ Q1.C ≤ 100000 := ⟨hQk_Q1.2.2.1, hQk_Q1.2.1⟩
  have hfit_Q1V1 := hG_Q1V1.fits
  rcases hw with ⟨a9, g9, hv_1, hv_2, hv_3, hv_4, hv_5, hv_6, hv_7, hv_8, hv_9, hv_10, hv_11⟩ | ⟨hv_1, hv_2⟩
  · have hv_11 : o = o1 := hv_11.symm
    subst hv_11
    have hP : va_P (dC, dI) classes [(mo, .inr (13, MF 30 (rf (rs v Q1 o) j1 b1))), (qx, .inl (cB, NN, .inl f)), (Q1.qq, .inl (cI, (8 * Q1.C), .inl Q1.qf)), (Q1.qe, .inl (cL, (3 * Q1.C), .inr (.inl Q1.ef))), (tv, .inr (12, MF 13 (tw V1))), (V1.au, .inl (cC, V1.U, .inl V1.un))] H := hP
    have hD : va_D A [(mo, .inr (13, MF 30 (rf (rs v Q1 o) j1 b1))), (qx, .inl (cB, NN, .inl f)), (Q1.qq, .inl (cI, (8 * Q1.C), .inl Q1.qf)), (Q1.qe, .inl (cL, (3 * Q1.C), .inr (.inl Q1.ef))), (tv, .inr (12, MF 13 (tw V1))), (V1.au, .inl (cC, V1.U, .inl V1.un))] := hD
    have hv_2 : baP f n ok (orL f n) (cmL f n) (qyL f n) j = some (j1, g9) := hv_2
    have hv_3 : (BASf O C Y) Q1 V1 Qc.R Q1.R a9 g9 := hv_3
    have hv_4 : a9 < Q1.R := hv_4
    have hv_5 : Q1.qf (8 * a9 + 1) = -1 := hv_5
    have hv_6 : alr Qc Vc Q1 V1 0 Qc.R := hv_6
    have hv_7 : Q1.R + 8 * j + 5 ≤ Qc.R + 8 * j1 := hv_7
    have hv_8 : V1.us + j ≤ Vc.us + j1 := hv_8
    have hv_9 : j1 ≤ n := hv_9
    have hv_10 : Qc.R < Q1.R := hv_10
    have hv_12 := BASf_in _ _ _ _ _ _ hv_3
    subst hv_1
    refine lv_istore_n (lv' := [(3, .int (nI a9)), (0, .ref mo), (1, .int (nI Q.R)), (2, .int bf)]) hx hb d_Mo_and_13 rfl hl (by decide) rfl (fun ls hl => ?_)
    refine lv_iload_n hx hb d_Mo_and_14 rfl (lv_at hl 0 rfl) ?_
    refine lv_if_ge (tgt := 20) hx hb d_Mo_and_15 (by decide) (fun _ => ?_) (fun h => absurd (nI_pos' (by omega)) h)
    refine w_join (D := (dC, dI)) (cl := classes) (A := A) (H0 := s.heap) (nL := 5) 41 (σ := QS) (fun Qz => CHi 1 (BASf O C Y) Q V Q.R Qz V1 (nI a9) (ac ++ [g9]) ∧ Qz.qf (8 * Q.R + 0) = 31 ∧ Qz.qf (8 * Q.R + 1) = -1 ∧ QOK Qz ∧ GQ (Q.R + 8 * (n - i) + 2) (V.us + (n + 12 - i)) Q V Qz V1 ∧ Qz.R = Q1.R) (fun Qz => cQ Q V Qz V1) (fun Qz => sQ Q V Qz V1) (fun Qz => [(mo, .inr (13, MF 30 (rf (rs v Qz o) j1 b1))), (qx, .inl (cB, NN, .inl f)), (Qz.qq, .inl (cI, (8 * Qz.C), .inl Qz.qf)), (Qz.qe, .inl (cL, (3 * Qz.C), .inr (.inl Qz.ef))), (tv, .inr (12, MF 13 (tw V1))), (V1.au, .inl (cC, V1.U, .inl V1.un))]) (fun Qz => [(0, .ref mo), (1, .int (nI Q.R)), (3, .int (nI a9))]) (fun jn41 => ?_) ?_
    · rcases hCH.2.2.1 with ⟨hb1, hb5⟩ | ⟨b9, hb1, hb2, hb3⟩
      · rw [hb1] at hl hCH
        have hl : lv_has ls 5 [(3, .int (nI a9)), (0, .ref mo), (1, .int (nI Q.R)), (2, .int (-1))] := hl
        refine lv_iload_n hx hb d_Mo_and_20 rfl (lv_at hl 3 rfl) ?_
        refine lv_if_ge (tgt := 34) hx hb d_Mo_and_21 (by decide) (fun h => absurd h (by decide)) (fun _ => ?_)
        refine lv_aload_n hx hb d_Mo_and_24 rfl (lv_at hl 1 rfl) ?_
        refine lv_iload_n hx hb d_Mo_and_25 rfl (lv_at hl 2 rfl) ?_
        refine lv_iconst (v := 2) hx hb d_Mo_and_26 (by decide) ?_
        refine lv_iload_n hx hb d_Mo_and_27 rfl (lv_at hl 0 rfl) ?_
        refine W.eq (g2 := F0 m 28 ls [.int (nI a9), .int (nI 2), .int (nI Q.R), .ref mo]) rfl ?_
        have hPc := hP.sub (ws' := [(mo, .inr (13, MF 30 (rf (rs v Q1 o) j1 b1))), (Q1.qq, .inl (cI, (8 * Q1.C), .inl Q1.qf))]) [0, 2] rfl
        have hDc := hD.sub (ws' := [(mo, .inr (13, MF 30 (rf (rs v Q1 o) j1 b1))), (Q1.qq, .inl (cI, (8 * Q1.C), .inl Q1.qf))]) [0, 2] (by decide) rfl
        have hKc := hK.sub (tys' := [(cI, .int)]) [1] rfl
        have hFc := va_free (wc := [(mo, .inr (13, MF 30 (rf (rs v Q1 o) j1 b1))), (Q1.qq, .inl (cI, (8 * Q1.C), .inl Q1.qf))]) hD hS hA [0, 2] rfl
        refine va_callv (va_runV (As := [.int (nI Q.R), .int (nI 2), .int (nI a9)]) (rest := []) ⟨hx, hb, hml, hown, hts⟩ (c_Mo_set l dC dI mo H (rf (rs v Q1 o) j1 b1) cI Q1.qq (8 * Q1.C) Q1.qf Q.R 2 ((nI a9)) (by omega) (by omega) ((rf_ne (by decide) (by decide)).trans rs_19)) (cwV 3 hts (gt_V (own := R_Mo) (C := R_Mo) (i := 272) (y := y_Mo_set) i_Mo_set w_1411 w_1413 (gt_sel (y := y_Mo_set) (n := 30) (by decide +kernel)) w_7) rfl rfl rfl (by decide +kernel) ⟨Nat.le_trans (m := 14) (Nat.le_of_ble_eq_true rfl) (Nat.le_add_right 14 (15 + G)), Nat.le_trans (m := 550) (Nat.le_of_ble_eq_true rfl) (Nat.le_add_right 550 (600 + M))⟩) ⟨mp_blind, va_recv hKc hPc (ci := 13) (q0 := 0) rfl rfl, fun U hU hW => ⟨rfl, hU, by rw [hU]; exact hPc, va_K.moved hW.alike hKc, hDc.weaken (fun _ _ _ _ => trivial)⟩⟩ rfl rfl hl.1 rfl (lv_room (Nat.le_of_ble_eq_true rfl)) d_Mo_and_28 ⟨hfit_Q1V1.1, hfit_Q1V1.2⟩) hS (fun q _ h => hFc q h) hFc (fun _u t9 H1 locs ht hvm hw hB hz1 hk1 hS => ?_)
        obtain ⟨hP1, hK1, hD1⟩ := hB
        rw [ht] at hP1
        obtain ⟨hP, hD⟩ := va_join (wr := [(qx, .inl (cB, NN, .inl f)), (Q1.qe, .inl (cL, (3 * Q1.C), .inr (.inl Q1.ef))), (tv, .inr (12, MF 13 (tw V1))), (V1.au, .inl (cC, V1.U, .inl V1.un))]) (w1 := [(mo, .inr (13, MF 30 (rf (rs v Q1 o) j1 b1))), (Q1.qq, .inl (cI, (8 * Q1.C), .inl (upd Q1.qf (8 * Q.R + 2) ((nI a9)))))]) hP hD [0, 2] [1, 3, 4, 5] rfl rfl (by decide) (by decide) hk1 hFc hP1 hD1
        generalize H1 = H at hP hS ⊢
        have hP : va_P (dC, dI) classes [(qx, .inl (cB, NN, .inl f)), (Q1.qe, .inl (cL, (3 * Q1.C), .inr (.inl Q1.ef))), (tv, .inr (12, MF 13 (tw V1))), (V1.au, .inl (cC, V1.U, .inl V1.un)), (mo, .inr (13, MF 30 (rf (rs v Q1 o) j1 b1))), (Q1.qq, .inl (cI, (8 * Q1.C), .inl (upd Q1.qf (8 * Q.R + 2) ((nI a9)))))] H := hP
        have hD : va_D A [(qx, .inl (cB, NN, .inl f)), (Q1.qe, .inl (cL, (3 * Q1.C), .inr (.inl Q1.ef))), (tv, .inr (12, MF 13 (tw V1))), (V1.au, .inl (cC, V1.U, .inl V1.un)), (mo, .inr (13, MF 30 (rf (rs v Q1 o) j1 b1))), (Q1.qq, .inl (cI, (8 * Q1.C), .inl (upd Q1.qf (8 * Q.R + 2) ((nI a9)))))] := hD
        have hP := hP.sub (ws' := [(mo, .inr (13, MF 30 (rf (rs v Q1 o) j1 b1))), (qx, .inl (cB, NN, .inl f)), (Q1.qq, .inl (cI, (8 * Q1.C), .inl (upd Q1.qf (8 * Q.R + 2) ((nI a9))))), (Q1.qe, .inl (cL, (3 * Q1.C), .inr (.inl Q1.ef))), (tv, .inr (12, MF 13 (tw V1))), (V1.au, .inl (cC, V1.U, .inl V1.un))]) [4, 0, 5, 1, 2, 3] rfl
        have hD := hD.sub (ws' := [(mo, .inr (13, MF 30 (rf (rs v Q1 o) j1 b1))), (qx, .inl (cB, NN, .inl f)), (Q1.qq, .inl (cI, (8 * Q1.C), .inl (upd Q1.qf (8 * Q.R + 2) ((nI a9))))), (Q1.qe, .inl (cL, (3 * Q1.C), .inr (.inl Q1.ef))), (tv, .inr (12, MF 13 (tw V1))), (V1.au, .inl (cC, V1.U, .inl V1.un))]) [4, 0, 5, 1, 2, 3] (by decide) rfl
        obtain ⟨Qt, e_Qt⟩ : ∃ z : QS, z = QS.wf Q1 (upd Q1.qf (8 * Q.R + 2) ((nI a9))) := ⟨_, rfl⟩
        have hP : va_P (dC, dI) classes [(mo, .inr (13, MF 30 (rf (rs v Qt o) j1 b1))), (qx, .inl (cB, NN, .inl f)), (Qt.qq, .inl (cI, (8 * Qt.C), .inl Qt.qf)), (Qt.qe, .inl (cL, (3 * Qt.C), .inr (.inl Qt.ef))), (tv, .inr (12, MF 13 (tw V1))), (V1.au, .inl (cC, V1.U, .inl V1.un))] H := by subst e_Qt; exact hP
        have hD : va_D A [(mo, .inr (13, MF 30 (rf (rs v Qt o) j1 b1))), (qx, .inl (cB, NN, .inl f)), (Qt.qq, .inl (cI, (8 * Qt.C), .inl Qt.qf)), (Qt.qe, .inl (cL, (3 * Qt.C), .inr (.inl Qt.ef))), (tv, .inr (12, MF 13 (tw V1))), (V1.au, .inl (cC, V1.U, .inl V1.un))] := by subst e_Qt; exact hD
        have hf_Qt : Qt.C = Q1.C ∧ Qt.R = Q1.R ∧ Qt.qf = upd Q1.qf (8 * Q.R + 2) ((nI a9)) := by rw [e_Qt]; exact ⟨rfl, rfl, rfl⟩
        have he_Qt : Qt.ef = Q1.ef := by rw [e_Qt]; rfl
        have hQk_Qt : QOK Qt := by rw [e_Qt]; exact hQk_Q1
        have hG_QtV1 : GQ (Q.R + 8 * (n - i) + 2) (V.us + (n + 12 - i)) Q V Qt V1 := by unfold GQ at hG_Q1V1 ⊢; rw [hf_Qt.1]; exact hG_Q1V1
        refine w_same (fun hq => ?_)
        refine w_tight (k := cQ Q V Qt V1) (n := sQ Q V Qt V1) (by unfold cQ sQ at hq ⊢; rw [hf_Qt.1]; exact hq) ?_
        have hR_Qt := hf_Qt.2.1
        have hqb_QtV1 : Qt.R ≤ Qt.C ∧ Qt.C ≤ 100000 := ⟨hQk_Qt.2.2.1, hQk_Qt.2.1⟩
        have hfit_QtV1 := hG_QtV1.fits
        have hCHt : CHi 1 (BASf O C Y) Q V Q.R Qt V1 (nI a9) (ac ++ [g9]) := hCH.one (BASf_fr hOf hCf hYf) BASf_in (by decide) hb5 hv_6.a3 hv_3 hv_5 hf_Qt.2.2 he_Qt hR_Qt
        have hf0t : Qt.qf (8 * Q.R + 0) = 31 := by rw [hf_Qt.2.2, pk_un (by omega)]; exact (hv_6.1 Q.R 0 (Nat.zero_le _) (by omega) (by decide)).trans hf0
        have hf1t : Qt.qf (8 * Q.R + 1) = -1 := by rw [hf_Qt.2.2, pk_un (by omega)]; exact (hv_6.1 Q.R 1 (Nat.zero_le _) (by omega) (by decide)).trans hf1
        refine lv_goto (tgt := 41) hx hb d_Mo_and_31 (by decide) ?_
        exact jn41 Qt _ _ _ ⟨hCHt, hf0t, hf1t, hQk_Qt, hG_QtV1, by omega⟩ hP hD hS (lv_sub hl [1, 2, 0] rfl)
      · rw [hb1] at hl hCH
        have hl : lv_has ls 5 [(3, .int (nI a9)), (0, .ref mo), (1, .int (nI Q.R)), (2, .int (nI b9))] := hl
        refine lv_iload_n hx hb d_Mo_and_20 rfl (lv_at hl 3 rfl) ?_
        refine lv_if_ge (tgt := 34) hx hb d_Mo_and_21 (by decide) (fun _ => ?_) (fun h => absurd (nI_pos' (by omega)) h)
        refine lv_aload_n hx hb d_Mo_and_34 rfl (lv_at hl 1 rfl) ?_
        refine lv_iload_n hx hb d_Mo_and_35 rfl (lv_at hl 3 rfl) ?_
        refine lv_iconst (v := 1) hx hb d_Mo_and_36 (by decide) ?_
        refine lv_iload_n hx hb d_Mo_and_37 rfl (lv_at hl 0 rfl) ?_
        refine W.eq (g2 := F0 m 38 ls [.int (nI a9), .int (nI 1), .int (nI b9), .ref mo]) rfl ?_
        have hPc := hP.sub (ws' := [(mo, .inr (13, MF 30 (rf (rs v Q1 o) j1 b1))), (Q1.qq, .inl (cI, (8 * Q1.C), .inl Q1.qf))]) [0, 2] rfl
        have hDc := hD.sub (ws' := [(mo, .inr (13, MF 30 (rf (rs v Q1 o) j1 b1))), (Q1.qq, .inl (cI, (8 * Q1.C), .inl Q1.qf))]) [0, 2] (by decide) rfl
        have hKc := hK.sub (tys' := [(cI, .int)]) [1] rfl
        have hFc := va_free (wc := [(mo, .inr (13, MF 30 (rf (rs v Q1 o) j1 b1))), (Q1.qq, .inl (cI, (8 * Q1.C), .inl Q1.qf))]) hD hS hA [0, 2] rfl
        refine va_callv (va_runV (As := [.int (nI b9), .int (nI 1), .int (nI a9)]) (rest := []) ⟨hx, hb, hml, hown, hts⟩ (c_Mo_set l dC dI mo H (rf (rs v Q1 o) j1 b1) cI Q1.qq (8 * Q1.C) Q1.qf b9 1 ((nI a9)) (by omega) (by omega) ((rf_ne (by decide) (by decide)).trans rs_19)) (cwV 3 hts (gt_V (own := R_Mo) (C := R_Mo) (i := 272) (y := y_Mo_set) i_Mo_set w_1411 w_1413 (gt_sel (y := y_Mo_set) (n := 30) (by decide +kernel)) w_7) rfl rfl rfl (by decide +kernel) ⟨Nat.le_trans (m := 14) (Nat.le_of_ble_eq_true rfl) (Nat.le_add_right 14 (15 + G)), Nat.le_trans (m := 550) (Nat.le_of_ble_eq_true rfl) (Nat.le_add_right 550 (600 + M))⟩) ⟨mp_blind, va_recv hKc hPc (ci := 13) (q0 := 0) rfl rfl, fun U hU hW => ⟨rfl, hU, by rw [hU]; exact hPc, va_K.moved hW.alike hKc, hDc.weaken (fun _ _ _ _ => trivial)⟩⟩ rfl rfl hl.1 rfl (lv_room (Nat.le_of_ble_eq_true rfl)) d_Mo_and_38 ⟨hfit_Q1V1.1, hfit_Q1V1.2⟩) hS (fun q _ h => hFc q h) hFc (fun _u t9 H1 locs ht hvm hw hB hz1 hk1 hS => ?_)
        obtain ⟨hP1, hK1, hD1⟩ := hB
        rw [ht] at hP1
        obtain ⟨hP, hD⟩ := va_join (wr := [(qx, .inl (cB, NN, .inl f)), (Q1.qe, .inl (cL, (3 * Q1.C), .inr (.inl Q1.ef))), (tv, .inr (12, MF 13 (tw V1))), (V1.au, .inl (cC, V1.U, .inl V1.un))]) (w1 := [(mo, .inr (13, MF 30 (rf (rs v Q1 o) j1 b1))), (Q1.qq, .inl (cI, (8 * Q1.C), .inl (upd Q1.qf (8 * b9 + 1) ((nI a9)))))]) hP hD [0, 2] [1, 3, 4, 5] rfl rfl (by decide) (by decide) hk1 hFc hP1 hD1
        generalize H1 = H at hP hS ⊢
        have hP : va_P (dC, dI) classes [(qx, .inl (cB, NN, .inl f)), (Q1.qe, .inl (cL, (3 * Q1.C), .inr (.inl Q1.ef))), (tv, .inr (12, MF 13 (tw V1))), (V1.au, .inl (cC, V1.U, .inl V1.un)), (mo, .inr (13, MF 30 (rf (rs v Q1 o) j1 b1))), (Q1.qq, .inl (cI, (8 * Q1.C), .inl (upd Q1.qf (8 * b9 + 1) ((nI a9)))))] H := hP
        have hD : va_D A [(qx, .inl (cB, NN, .inl f)), (Q1.qe, .inl (cL, (3 * Q1.C), .inr (.inl Q1.ef))), (tv, .inr (12, MF 13 (tw V1))), (V1.au, .inl (cC, V1.U, .inl V1.un)), (mo, .inr (13, MF 30 (rf (rs v Q1 o) j1 b1))), (Q1.qq, .inl (cI, (8 * Q1.C), .inl (upd Q1.qf (8 * b9 + 1) ((nI a9)))))] := hD
        have hP := hP.sub (ws' := [(mo, .inr (13, MF 30 (rf (rs v Q1 o) j1 b1))), (qx, .inl (cB, NN, .inl f)), (Q1.qq, .inl (cI, (8 * Q1.C), .inl (upd Q1.qf (8 * b9 + 1) ((nI a9))))), (Q1.qe, .inl (cL, (3 * Q1.C), .inr (.inl Q1.ef))), (tv, .inr (12, MF 13 (tw V1))), (V1.au, .inl (cC, V1.U, .inl V1.un))]) [4, 0, 5, 1, 2, 3] rfl
        have hD := hD.sub (ws' := [(mo, .inr (13, MF 30 (rf (rs v Q1 o) j1 b1))), (qx, .inl (cB, NN, .inl f)), (Q1.qq, .inl (cI, (8 * Q1.C), .inl (upd Q1.qf (8 * b9 + 1) ((nI a9))))), (Q1.qe, .inl (cL, (3 * Q1.C), .inr (.inl Q1.ef))), (tv, .inr (12, MF 13 (tw V1))), (V1.au, .inl (cC, V1.U, .inl V1.un))]) [4, 0, 5, 1, 2, 3] (by decide) rfl
        obtain ⟨Qt, e_Qt⟩ : ∃ z : QS, z = QS.wf Q1 (upd Q1.qf (8 * b9 + 1) ((nI a9))) := ⟨_, rfl⟩
        have hP : va_P (dC, dI) classes [(mo, .inr (13, MF 30 (rf (rs v Qt o) j1 b1))), (qx, .inl (cB, NN, .inl f)), (Qt.qq, .inl (cI, (8 * Qt.C), .inl Qt.qf)), (Qt.qe, .inl (cL, (3 * Qt.C), .inr (.inl Qt.ef))), (tv, .inr (12, MF 13 (tw V1))), (V1.au, .inl (cC, V1.U, .inl V1.un))] H := by subst e_Qt; exact hP
        have hD : va_D A [(mo, .inr (13, MF 30 (rf (rs v Qt o) j1 b1))), (qx, .inl (cB, NN, .inl f)), (Qt.qq, .inl (cI, (8 * Qt.C), .inl Qt.qf)), (Qt.qe, .inl (cL, (3 * Qt.C), .inr (.inl Qt.ef))), (tv, .inr (12, MF 13 (tw V1))), (V1.au, .inl (cC, V1.U, .inl V1.un))] := by subst e_Qt; exact hD
        have hf_Qt : Qt.C = Q1.C ∧ Qt.R = Q1.R ∧ Qt.qf = upd Q1.qf (8 * b9 + 1) ((nI a9)) := by rw [e_Qt]; exact ⟨rfl, rfl, rfl⟩
        have he_Qt : Qt.ef = Q1.ef := by rw [e_Qt]; rfl
        have hQk_Qt : QOK Qt := by rw [e_Qt]; exact hQk_Q1
        have hG_QtV1 : GQ (Q.R + 8 * (n - i) + 2) (V.us + (n + 12 - i)) Q V Qt V1 := by unfold GQ at hG_Q1V1 ⊢; rw [hf_Qt.1]; exact hG_Q1V1
        refine w_same (fun hq => ?_)
        refine w_tight (k := cQ Q V Qt V1) (n := sQ Q V Qt V1) (by unfold cQ sQ at hq ⊢; rw [hf_Qt.1]; exact hq) ?_
        have hR_Qt := hf_Qt.2.1
        have hqb_QtV1 : Qt.R ≤ Qt.C ∧ Qt.C ≤ 100000 := ⟨hQk_Qt.2.2.1, hQk_Qt.2.1⟩
        have hfit_QtV1 := hG_QtV1.fits
        have hCHt : CHi 1 (BASf O C Y) Q V Q.R Qt V1 (nI a9) (ac ++ [g9]) := hCH.add (BASf_fr hOf hCf hYf) BASf_in (by decide) hb2 hb3 (by omega) hv_6.a3 hv_3 hv_5 hf_Qt.2.2 he_Qt hR_Qt
        have hf0t : Qt.qf (8 * Q.R + 0) = 31 := by rw [hf_Qt.2.2, pk_un (by omega)]; exact (hv_6.1 Q.R 0 (Nat.zero_le _) (by omega) (by decide)).trans hf0
        have hf1t : Qt.qf (8 * Q.R + 1) = -1 := by rw [hf_Qt.2.2, pk_un (by omega)]; exact (hv_6.1 Q.R 1 (Nat.zero_le _) (by omega) (by decide)).trans hf1
        exact jn41 Qt _ _ _ ⟨hCHt, hf0t, hf1t, hQk_Qt, hG_QtV1, by omega⟩ hP hD hS (lv_sub hl [1, 2, 0] rfl)
    · rintro Qz H locs ls hI41 hP hD hS hl
      have hP : va_P (dC, dI) classes [(mo, .inr (13, MF 30 (rf (rs v Qz o) j1 b1))), (qx, .inl (cB, NN, .inl f)), (Qz.qq, .inl (cI, (8 * Qz.C), .inl Qz.qf)), (Qz.qe, .inl (cL, (3 * Qz.C), .inr (.inl Qz.ef))), (tv, .inr (12, MF 13 (tw V1))), (V1.au, .inl (cC, V1.U, .inl V1.un))] H := hP
      have hD : va_D A [(mo, .inr (13, MF 30 (rf (rs v Qz o) j1 b1))), (qx, .inl (cB, NN, .inl f)), (Qz.qq, .inl (cI, (8 * Qz.C), .inl Qz.qf)), (Qz.qe, .inl (cL, (3 * Qz.C), .inr (.inl Qz.ef))), (tv, .inr (12, MF 13 (tw V1))), (V1.au, .inl (cC, V1.U, .inl V1.un))] := hD
      have hl : lv_has ls 5 [(0, .ref mo), (1, .int (nI Q.R)), (3, .int (nI a9))] := hl
      obtain ⟨hCHz, hf0z, hf1z, hQk_Qz, hG_QzV1, hR_Qz⟩ := hI41
      have hqb_QzV1 : Qz.R ≤ Qz.C ∧ Qz.C ≤ 100000 := ⟨hQk_Qz.2.2.1, hQk_Qz.2.1⟩
      have hfit_QzV1 := hG_QzV1.fits
      refine lv_iload_n hx hb d_Mo_and_41 rfl (lv_at hl 2 rfl) ?_
      refine lv_istore_n (lv' := [(2, .int (nI a9)), (0, .ref mo), (1, .int (nI Q.R)), (3, .int (nI a9))]) hx hb d_Mo_and_42 rfl hl (by decide) rfl (fun ls hl => ?_)
      refine lv_aload_n hx hb d_Mo_and_43 rfl (lv_at hl 1 rfl) ?_
      refine va_get (D := (dC, dI)) (ci := 13) (v := .int (nI j1)) (C := R_Mo) (T := F_Mo) (N := 30) hx hb hts in_Mo hown hK hP 0 rfl rfl 7 (by decide) (hts _ w_1096) (fun _ h9 => h9) (MFg (by decide) rf_7) d_Mo_and_44 ?_
      refine lv_istore (lv' := [(4, .int (nI j1)), (2, .int (nI a9)), (0, .ref mo), (1, .int (nI Q.R)), (3, .int (nI a9))]) hx hb d_Mo_and_47 hl (by decide) rfl (fun ls hl => ?_)
      refine lv_aload_n hx hb d_Mo_and_49 rfl (lv_at hl 2 rfl) ?_
      have hPc := hP.sub (ws' := [(mo, .inr (13, MF 30 (rf (rs v Qz o) j1 b1))), (qx, .inl (cB, NN, .inl f))]) [0, 1] rfl
      have hDc := hD.sub (ws' := [(mo, .inr (13, MF 30 (rf (rs v Qz o) j1 b1))), (qx, .inl (cB, NN, .inl f))]) [0, 1] (by decide) rfl
      have hKc := hK.sub (tys' := [(cB, .byte)]) [0] rfl
      have hFc := va_free (wc := [(mo, .inr (13, MF 30 (rf (rs v Qz o) j1 b1))), (qx, .inl (cB, NN, .inl f))]) hD hS hA [0, 1] rfl
      refine va_callv (va_runV (As := []) (rest := []) ⟨hx, hb, hml, hown, hts⟩ (c_Mo_blanks l dC dI mo H (rf (rs v Qz o) j1 b1) cB qx NN f n j1 (by omega) (by omega) (by omega) ((rf_ne (by decide) (by decide)).trans ((rs_ne (by decide) (by decide) (by decide) (by decide)).trans h6)) rf_7 ((rf_ne (by decide) (by decide)).trans ((rs_ne (by decide) (by decide) (by decide) (by decide)).trans h8))) (cwV 0 hts (gt_V (own := R_Mo) (C := R_Mo) (i := 184) (y := y_Mo_blanks) i_Mo_blanks w_1229 w_1231 (gt_sel (y := y_Mo_blanks) (n := 30) (by decide +kernel)) w_7) rfl rfl rfl (by decide +kernel) ⟨Nat.le_trans (m := 14) (Nat.le_of_ble_eq_true rfl) (Nat.le_add_right 14 (15 + G)), Nat.le_trans (m := 550) (Nat.le_of_ble_eq_true rfl) (Nat.le_add_right 550 (600 + M))⟩) ⟨mp_blind, va_recv hKc hPc (ci := 13) (q0 := 0) rfl rfl, fun U hU hW => ⟨rfl, hU, by rw [hU]; exact hPc, va_K.moved hW.alike hKc, hDc.weaken (fun _ _ _ _ => trivial)⟩⟩ rfl rfl hl.1 rfl (lv_room (Nat.le_of_ble_eq_true rfl)) d_Mo_and_50 ⟨hfit_QzV1.1, hfit_QzV1.2⟩) hS (fun q _ h => hFc q h) hFc (fun _u t9 H1 locs ht hvm hw hB hz1 hk1 hS => ?_)
      obtain ⟨hP1, hK1, hD1⟩ := hB
      rw [ht] at hP1
      obtain ⟨hP, hD⟩ := va_join (wr := [(Qz.qq, .inl (cI, (8 * Qz.C), .inl Qz.qf)), (Qz.qe, .inl (cL, (3 * Qz.C), .inr (.inl Qz.ef))), (tv, .inr (12, MF 13 (tw V1))), (V1.au, .inl (cC, V1.U, .inl V1.un))]) (w1 := [(mo, .inr (13, MF 30 (va_up (rf (rs v Qz o) j1 b1) 7 (.int (nI (skipH f n j1)))))), (qx, .inl (cB, NN, .inl f))]) hP hD [0, 1] [2, 3, 4, 5] rfl rfl (by decide) (by decide) hk1 hFc hP1 hD1
      generalize H1 = H at hP hS ⊢
      have hP : va_P (dC, dI) classes [(Qz.qq, .inl (cI, (8 * Qz.C), .inl Qz.qf)), (Qz.qe, .inl (cL, (3 * Qz.C), .inr (.inl Qz.ef))), (tv, .inr (12, MF 13 (tw V1))), (V1.au, .inl (cC, V1.U, .inl V1.un)), (mo, .inr (13, MF 30 (va_up (rf (rs v Qz o) j1 b1) 7 (.int (nI (skipH f n j1)))))), (qx, .inl (cB, NN, .inl f))] H := hP
      have hD : va_D A [(Qz.qq, .inl (cI, (8 * Qz.C), .inl Qz.qf)), (Qz.qe, .inl (cL, (3 * Qz.C), .inr (.inl Qz.ef))), (tv, .inr (12, MF 13 (tw V1))), (V1.au, .inl (cC, V1.U, .inl V1.un)), (mo, .inr (13, MF 30 (va_up (rf (rs v Qz o) j1 b1) 7 (.int (nI (skipH f n j1)))))), (qx, .inl (cB, NN, .inl f))] := hD
      have hP := hP.sub (ws' := [(mo, .inr (13, MF 30 (va_up (rf (rs v Qz o) j1 b1) 7 (.int (nI (skipH f n j1)))))), (qx, .inl (cB, NN, .inl f)), (Qz.qq, .inl (cI, (8 * Qz.C), .inl Qz.qf)), (Qz.qe, .inl (cL, (3 * Qz.C), .inr (.inl Qz.ef))), (tv, .inr (12, MF 13 (tw V1))), (V1.au, .inl (cC, V1.U, .inl V1.un))]) [4, 5, 0, 1, 2, 3] rfl
      have hD := hD.sub (ws' := [(mo, .inr (13, MF 30 (va_up (rf (rs v Qz o) j1 b1) 7 (.int (nI (skipH f n j1)))))), (qx, .inl (cB, NN, .inl f)), (Qz.qq, .inl (cI, (8 * Qz.C), .inl Qz.qf)), (Qz.qe, .inl (cL, (3 * Qz.C), .inr (.inl Qz.ef))), (tv, .inr (12, MF 13 (tw V1))), (V1.au, .inl (cC, V1.U, .inl V1.un))]) [4, 5, 0, 1, 2, 3] (by decide) rfl
      rw [rf_u7] at hP hD
      have hP : va_P (dC, dI) classes [(mo, .inr (13, MF 30 (rf (rs v Qz o) (skipH f n j1) b1))), (qx, .inl (cB, NN, .inl f)), (Qz.qq, .inl (cI, (8 * Qz.C), .inl Qz.qf)), (Qz.qe, .inl (cL, (3 * Qz.C), .inr (.inl Qz.ef))), (tv, .inr (12, MF 13 (tw V1))), (V1.au, .inl (cC, V1.U, .inl V1.un))] H := hP
      have hD : va_D A [(mo, .inr (13, MF 30 (rf (rs v Qz o) (skipH f n j1) b1))), (qx, .inl (cB, NN, .inl f)), (Qz.qq, .inl (cI, (8 * Qz.C), .inl Qz.qf)), (Qz.qe, .inl (cL, (3 * Qz.C), .inr (.inl Qz.ef))), (tv, .inr (12, MF 13 (tw V1))), (V1.au, .inl (cC, V1.U, .inl V1.un))] := hD
      have hsk_53 := skipH_n (f := f) (show j1 ≤ n by omega)
      refine lv_aload_n hx hb d_Mo_and_53 rfl (lv_at hl 2 rfl) ?_
      have hPc := hP.sub (ws' := [(mo, .inr (13, MF 30 (rf (rs v Qz o) (skipH f n j1) b1))), (qx, .inl (cB, NN, .inl f))]) [0, 1] rfl
      have hDc := hD.sub (ws' := [(mo, .inr (13, MF 30 (rf (rs v Qz o) (skipH f n j1) b1))), (qx, .inl (cB, NN, .inl f))]) [0, 1] (by decide) rfl
      have hKc := hK.sub (tys' := [(cB, .byte)]) [0] rfl
      have hFc := va_free (wc := [(mo, .inr (13, MF 30 (rf (rs v Qz o) (skipH f n j1) b1))), (qx, .inl (cB, NN, .inl f))]) hD hS hA [0, 1] rfl
      refine va_calli (va_runV (As := []) (rest := []) ⟨hx, hb, hml, hown, hts⟩ (c_Mo_c l dC dI mo H (rf (rs v Qz o) (skipH f n j1) b1) cB qx NN f n (skipH f n j1) (by omega) (by omega) (by omega) ((rf_ne (by decide) (by decide)).trans ((rs_ne (by decide) (by decide) (by decide) (by decide)).trans h6)) rf_7 ((rf_ne (by decide) (by decide)).trans ((rs_ne (by decide) (by decide) (by decide) (by decide)).trans h8))) (cwV 0 hts (gt_V (own := R_Mo) (C := R_Mo) (i := 147) (y := y_Mo_c) i_Mo_c w_1233 w_1235 (gt_sel (y := y_Mo_c) (n := 30) (by decide +kernel)) w_7) rfl rfl rfl (by decide +kernel) ⟨Nat.le_trans (m := 14) (Nat.le_of_ble_eq_true rfl) (Nat.le_add_right 14 (15 + G)), Nat.le_trans (m := 550) (Nat.le_of_ble_eq_true rfl) (Nat.le_add_right 550 (600 + M))⟩) ⟨mp_blind, va_recv hKc hPc (ci := 13) (q0 := 0) rfl rfl, fun U hU hW => ⟨rfl, hU, by rw [hU]; exact hPc, va_K.moved hW.alike hKc, hDc.weaken (fun _ _ _ _ => trivial)⟩⟩ rfl rfl hl.1 rfl (lv_room (Nat.le_of_ble_eq_true rfl)) d_Mo_and_54 ⟨hfit_QzV1.1, hfit_QzV1.2⟩) hS (fun q _ h => hFc q h) hFc (fun r6 _u t9 H1 locs ht hvm hw hB hz1 hk1 hS => ?_)
      obtain ⟨hP1, hK1, hD1⟩ := hB
      rw [ht] at hP1
      obtain ⟨hP, hD⟩ := va_join (wr := [(Qz.qq, .inl (cI, (8 * Qz.C), .inl Qz.qf)), (Qz.qe, .inl (cL, (3 * Qz.C), .inr (.inl Qz.ef))), (tv, .inr (12, MF 13 (tw V1))), (V1.au, .inl (cC, V1.U, .inl V1.un))]) (w1 := [(mo, .inr (13, MF 30 (rf (rs v Qz o) (skipH f n j1) b1))), (qx, .inl (cB, NN, .inl f))]) hP hD [0, 1] [2, 3, 4, 5] rfl rfl (by decide) (by decide) hk1 hFc hP1 hD1
      generalize H1 = H at hP hS ⊢
      have hP : va_P (dC, dI) classes [(Qz.qq, .inl (cI, (8 * Qz.C), .inl Qz.qf)), (Qz.qe, .inl (cL, (3 * Qz.C), .inr (.inl Qz.ef))), (tv, .inr (12, MF 13 (tw V1))), (V1.au, .inl (cC, V1.U, .inl V1.un)), (mo, .inr (13, MF 30 (rf (rs v Qz o) (skipH f n j1) b1))), (qx, .inl (cB, NN, .inl f))] H := hP
      have hD : va_D A [(Qz.qq, .inl (cI, (8 * Qz.C), .inl Qz.qf)), (Qz.qe, .inl (cL, (3 * Qz.C), .inr (.inl Qz.ef))), (tv, .inr (12, MF 13 (tw V1))), (V1.au, .inl (cC, V1.U, .inl V1.un)), (mo, .inr (13, MF 30 (rf (rs v Qz o) (skipH f n j1) b1))), (qx, .inl (cB, NN, .inl f))] := hD
      have hP := hP.sub (ws' := [(mo, .inr (13, MF 30 (rf (rs v Qz o) (skipH f n j1) b1))), (qx, .inl (cB, NN, .inl f)), (Qz.qq, .inl (cI, (8 * Qz.C), .inl Qz.qf)), (Qz.qe, .inl (cL, (3 * Qz.C), .inr (.inl Qz.ef))), (tv, .inr (12, MF 13 (tw V1))), (V1.au, .inl (cC, V1.U, .inl V1.un))]) [4, 5, 0, 1, 2, 3] rfl
      have hD := hD.sub (ws' := [(mo, .inr (13, MF 30 (rf (rs v Qz o) (skipH f n j1) b1))), (qx, .inl (cB, NN, .inl f)), (Qz.qq, .inl (cI, (8 * Qz.C), .inl Qz.qf)), (Qz.qe, .inl (cL, (3 * Qz.C), .inr (.inl Qz.ef))), (tv, .inr (12, MF 13 (tw V1))), (V1.au, .inl (cC, V1.U, .inl V1.un))]) [4, 5, 0, 1, 2, 3] (by decide) rfl
      have h_r6 : r6 = hereV f n (skipH f n j1) := hw
      refine lv_bipush (v := 38) hx hb d_Mo_and_57 (by decide) ?_
      refine lv_icmp_eq (tgt := 70) hx hb d_Mo_and_59 (by decide) (fun c59 => ?_) (fun c59 => ?_)
      · refine lv_aload_n hx hb d_Mo_and_70 rfl (lv_at hl 2 rfl) ?_
        refine va_ldcwS hx hb hown (hM 8 _ rfl).2 d_Mo_and_71 ?_
        have hE := (hM 8 _ rfl).1
        have hPc := hP.sub (ws' := [(mo, .inr (13, MF 30 (rf (rs v Qz o) (skipH f n j1) b1))), (qx, .inl (cB, NN, .inl f))]) [0, 1] rfl
        have hDc := hD.sub (ws' := [(mo, .inr (13, MF 30 (rf (rs v Qz o) (skipH f n j1) b1))), (qx, .inl (cB, NN, .inl f))]) [0, 1] (by decide) rfl
        have hKc := hK.sub (tys' := [(cB, .byte)]) [0] rfl
        have hFc := va_free (wc := [(mo, .inr (13, MF 30 (rf (rs v Qz o) (skipH f n j1) b1))), (qx, .inl (cB, NN, .inl f))]) hD hS hA [0, 1] rfl
        refine va_calli (va_runV (As := [.ref (K 8).1]) (rest := []) ⟨hx, hb, hml, hown, hts⟩ (c_Mo_wordS l dC dI mo H (rf (rs v Qz o) (skipH f n j1) b1) cB qx NN f (K 8).1 (K 8).2 2 (mtx 8) n (skipH f n j1) (by omega) (by omega) (by omega) ((rf_ne (by decide) (by decide)).trans ((rs_ne (by decide) (by decide) (by decide) (by decide)).trans h6)) rf_7 ((rf_ne (by decide) (by decide)).trans ((rs_ne (by decide) (by decide) (by decide) (by decide)).trans h8)) b1 rf_9 (by decide)) (cwV 1 hts (gt_V (own := R_Mo) (C := R_Mo) (i := 193) (y := y_Mo_wordS) i_Mo_wordS w_1240 w_1242 (gt_sel (y := y_Mo_wordS) (n := 30) (by decide +kernel)) w_7) rfl rfl rfl (by decide +kernel) ⟨Nat.le_trans (m := 14) (Nat.le_of_ble_eq_true rfl) (Nat.le_add_right 14 (15 + G)), Nat.le_trans (m := 550) (Nat.le_of_ble_eq_true rfl) (Nat.le_add_right 550 (600 + M))⟩) ⟨mstr_blind, va_recv hKc hPc (ci := 13) (q0 := 0) rfl rfl, fun U hU hW => ⟨rfl, ⟨hU, by rw [hU]; exact hPc, va_K.moved hW.alike hKc, hDc.weaken (fun _ _ _ _ => trivial)⟩, by rw [hU]; exact SX.moved' hW.alike (SX.narrow' (SX.kept' hE hS.2.1) hFc)⟩⟩ rfl rfl hl.1 rfl (lv_room (Nat.le_of_ble_eq_true rfl)) d_Mo_and_74 ⟨hfit_QzV1.1, hfit_QzV1.2⟩) hS (fun q _ h => hFc q h) hFc (fun r0 u2 t9 H1 locs ht hvm hw hB hz1 hk1 hS => ?_)
        obtain ⟨hP1, hK1, hD1⟩ := hB
        rw [ht] at hP1
        obtain ⟨hP, hD⟩ := va_join (wr := [(Qz.qq, .inl (cI, (8 * Qz.C), .inl Qz.qf)), (Qz.qe, .inl (cL, (3 * Qz.C), .inr (.inl Qz.ef))), (tv, .inr (12, MF 13 (tw V1))), (V1.au, .inl (cC, V1.U, .inl V1.un))]) (w1 := [(mo, .inr (13, MF 30 u2)), (qx, .inl (cB, NN, .inl f))]) hP hD [0, 1] [2, 3, 4, 5] rfl rfl (by decide) (by decide) hk1 hFc hP1 hD1
        generalize H1 = H at hP hS ⊢
        have hP : va_P (dC, dI) classes [(Qz.qq, .inl (cI, (8 * Qz.C), .inl Qz.qf)), (Qz.qe, .inl (cL, (3 * Qz.C), .inr (.inl Qz.ef))), (tv, .inr (12, MF 13 (tw V1))), (V1.au, .inl (cC, V1.U, .inl V1.un)), (mo, .inr (13, MF 30 u2)), (qx, .inl (cB, NN, .inl f))] H := hP
        have hD : va_D A [(Qz.qq, .inl (cI, (8 * Qz.C), .inl Qz.qf)), (Qz.qe, .inl (cL, (3 * Qz.C), .inr (.inl Qz.ef))), (tv, .inr (12, MF 13 (tw V1))), (V1.au, .inl (cC, V1.U, .inl V1.un)), (mo, .inr (13, MF 30 u2)), (qx, .inl (cB, NN, .inl f))] := hD
        have hP := hP.sub (ws' := [(mo, .inr (13, MF 30 u2)), (qx, .inl (cB, NN, .inl f)), (Qz.qq, .inl (cI, (8 * Qz.C), .inl Qz.qf)), (Qz.qe, .inl (cL, (3 * Qz.C), .inr (.inl Qz.ef))), (tv, .inr (12, MF 13 (tw V1))), (V1.au, .inl (cC, V1.U, .inl V1.un))]) [4, 5, 0, 1, 2, 3] rfl
        have hD := hD.sub (ws' := [(mo, .inr (13, MF 30 u2)), (qx, .inl (cB, NN, .inl f)), (Qz.qq, .inl (cI, (8 * Qz.C), .inl Qz.qf)), (Qz.qe, .inl (cL, (3 * Qz.C), .inr (.inl Qz.ef))), (tv, .inr (12, MF 13 (tw V1))), (V1.au, .inl (cC, V1.U, .inl V1.un))]) [4, 5, 0, 1, 2, 3] (by decide) rfl
        rcases hw with ⟨hwm, hw2, hw3⟩ | ⟨hwm, hw2, k9, hw3⟩
        · rw [rf_u7] at hw3
          rw [hw3] at hP hD
          subst hw2
          have hP : va_P (dC, dI) classes [(mo, .inr (13, MF 30 (rf (rs v Qz o) ((skipH f n j1) + 2) b1))), (qx, .inl (cB, NN, .inl f)), (Qz.qq, .inl (cI, (8 * Qz.C), .inl Qz.qf)), (Qz.qe, .inl (cL, (3 * Qz.C), .inr (.inl Qz.ef))), (tv, .inr (12, MF 13 (tw V1))), (V1.au, .inl (cC, V1.U, .inl V1.un))] H := hP
          have hD : va_D A [(mo, .inr (13, MF 30 (rf (rs v Qz o) ((skipH f n j1) + 2) b1))), (qx, .inl (cB, NN, .inl f)), (Qz.qq, .inl (cI, (8 * Qz.C), .inl Qz.qf)), (Qz.qe, .inl (cL, (3 * Qz.C), .inr (.inl Qz.ef))), (tv, .inr (12, MF 13 (tw V1))), (V1.au, .inl (cC, V1.U, .inl V1.un))] := hD
          have hwlt := mtch_le (k := 1) hwm (by decide)
          have hwb : mtB f n (skipH f n j1) (mtx 8) 2 = true := mtB_iff.mpr hwm
          refine lv_if_ne (tgt := 82) hx hb d_Mo_and_77 (by decide) (fun _ => ?_) (fun h => absurd h (by decide))
          refine lv_aload_n hx hb d_Mo_and_82 rfl (lv_at hl 2 rfl) ?_
          have hPc := hP.sub (ws' := [(mo, .inr (13, MF 30 (rf (rs v Qz o) ((skipH f n j1) + 2) b1))), (qx, .inl (cB, NN, .inl f))]) [0, 1] rfl
          have hDc := hD.sub (ws' := [(mo, .inr (13, MF 30 (rf (rs v Qz o) ((skipH f n j1) + 2) b1))), (qx, .inl (cB, NN, .inl f))]) [0, 1] (by decide) rfl
          have hKc := hK.sub (tys' := [(cB, .byte)]) [0] rfl
          have hFc := va_free (wc := [(mo, .inr (13, MF 30 (rf (rs v Qz o) ((skipH f n j1) + 2) b1))), (qx, .inl (cB, NN, .inl f))]) hD hS hA [0, 1] rfl
          refine va_callv (va_runV (As := []) (rest := []) ⟨hx, hb, hml, hown, hts⟩ (c_Mo_blanks l dC dI mo H (rf (rs v Qz o) ((skipH f n j1) + 2) b1) cB qx NN f n ((skipH f n j1) + 2) (by omega) (by omega) (by omega) ((rf_ne (by decide) (by decide)).trans ((rs_ne (by decide) (by decide) (by decide) (by decide)).trans h6)) rf_7 ((rf_ne (by decide) (by decide)).trans ((rs_ne (by decide) (by decide) (by decide) (by decide)).trans h8))) (cwV 0 hts (gt_V (own := R_Mo) (C := R_Mo) (i := 184) (y := y_Mo_blanks) i_Mo_blanks w_1229 w_1231 (gt_sel (y := y_Mo_blanks) (n := 30) (by decide +kernel)) w_7) rfl rfl rfl (by decide +kernel) ⟨Nat.le_trans (m := 14) (Nat.le_of_ble_eq_true rfl) (Nat.le_add_right 14 (15 + G)), Nat.le_trans (m := 550) (Nat.le_of_ble_eq_true rfl) (Nat.le_add_right 550 (600 + M))⟩) ⟨mp_blind, va_recv hKc hPc (ci := 13) (q0 := 0) rfl rfl, fun U hU hW => ⟨rfl, hU, by rw [hU]; exact hPc, va_K.moved hW.alike hKc, hDc.weaken (fun _ _ _ _ => trivial)⟩⟩ rfl rfl hl.1 rfl (lv_room (Nat.le_of_ble_eq_true rfl)) d_Mo_and_83 ⟨hfit_QzV1.1, hfit_QzV1.2⟩) hS (fun q _ h => hFc q h) hFc (fun _u t9 H1 locs ht hvm hw hB hz1 hk1 hS => ?_)
          obtain ⟨hP1, hK1, hD1⟩ := hB
          rw [ht] at hP1
          obtain ⟨hP, hD⟩ := va_join (wr := [(Qz.qq, .inl (cI, (8 * Qz.C), .inl Qz.qf)), (Qz.qe, .inl (cL, (3 * Qz.C), .inr (.inl Qz.ef))), (tv, .inr (12, MF 13 (tw V1))), (V1.au, .inl (cC, V1.U, .inl V1.un))]) (w1 := [(mo, .inr (13, MF 30 (va_up (rf (rs v Qz o) ((skipH f n j1) + 2) b1) 7 (.int (nI (skipH f n ((skipH f n j1) + 2))))))), (qx, .inl (cB, NN, .inl f))]) hP hD [0, 1] [2, 3, 4, 5] rfl rfl (by decide) (by decide) hk1 hFc hP1 hD1
          generalize H1 = H at hP hS ⊢
          have hP : va_P (dC, dI) classes [(Qz.qq, .inl (cI, (8 * Qz.C), .inl Qz.qf)), (Qz.qe, .inl (cL, (3 * Qz.C), .inr (.inl Qz.ef))), (tv, .inr (12, MF 13 (tw V1))), (V1.au, .inl (cC, V1.U, .inl V1.un)), (mo, .inr (13, MF 30 (va_up (rf (rs v Qz o) ((skipH f n j1) + 2) b1) 7 (.int (nI (skipH f n ((skipH f n j1) + 2))))))), (qx, .inl (cB, NN, .inl f))] H := hP
          have hD : va_D A [(Qz.qq, .inl (cI, (8 * Qz.C), .inl Qz.qf)), (Qz.qe, .inl (cL, (3 * Qz.C), .inr (.inl Qz.ef))), (tv, .inr (12, MF 13 (tw V1))), (V1.au, .inl (cC, V1.U, .inl V1.un)), (mo, .inr (13, MF 30 (va_up (rf (rs v Qz o) ((skipH f n j1) + 2) b1) 7 (.int (nI (skipH f n ((skipH f n j1) + 2))))))), (qx, .inl (cB, NN, .inl f))] := hD
          have hP := hP.sub (ws' := [(mo, .inr (13, MF 30 (va_up (rf (rs v Qz o) ((skipH f n j1) + 2) b1) 7 (.int (nI (skipH f n ((skipH f n j1) + 2))))))), (qx, .inl (cB, NN, .inl f)), (Qz.qq, .inl (cI, (8 * Qz.C), .inl Qz.qf)), (Qz.qe, .inl (cL, (3 * Qz.C), .inr (.inl Qz.ef))), (tv, .inr (12, MF 13 (tw V1))), (V1.au, .inl (cC, V1.U, .inl V1.un))]) [4, 5, 0, 1, 2, 3] rfl
          have hD := hD.sub (ws' := [(mo, .inr (13, MF 30 (va_up (rf (rs v Qz o) ((skipH f n j1) + 2) b1) 7 (.int (nI (skipH f n ((skipH f n j1) + 2))))))), (qx, .inl (cB, NN, .inl f)), (Qz.qq, .inl (cI, (8 * Qz.C), .inl Qz.qf)), (Qz.qe, .inl (cL, (3 * Qz.C), .inr (.inl Qz.ef))), (tv, .inr (12, MF 13 (tw V1))), (V1.au, .inl (cC, V1.U, .inl V1.un))]) [4, 5, 0, 1, 2, 3] (by decide) rfl
          rw [rf_u7] at hP hD
          have hP : va_P (dC, dI) classes [(mo, .inr (13, MF 30 (rf (rs v Qz o) (skipH f n ((skipH f n j1) + 2)) b1))), (qx, .inl (cB, NN, .inl f)), (Qz.qq, .inl (cI, (8 * Qz.C), .inl Qz.qf)), (Qz.qe, .inl (cL, (3 * Qz.C), .inr (.inl Qz.ef))), (tv, .inr (12, MF 13 (tw V1))), (V1.au, .inl (cC, V1.U, .inl V1.un))] H := hP
          have hD : va_D A [(mo, .inr (13, MF 30 (rf (rs v Qz o) (skipH f n ((skipH f n j1) + 2)) b1))), (qx, .inl (cB, NN, .inl f)), (Qz.qq, .inl (cI, (8 * Qz.C), .inl Qz.qf)), (Qz.qe, .inl (cL, (3 * Qz.C), .inr (.inl Qz.ef))), (tv, .inr (12, MF 13 (tw V1))), (V1.au, .inl (cC, V1.U, .inl V1.un))] := hD
          have hsk_86 := skipH_n (f := f) (show ((skipH f n j1) + 2) ≤ n by omega)
          refine lv_goto (tgt := 9) hx hb d_Mo_and_86 (by decide) ?_
          refine w_same (fun hq => ?_)
          refine W.widen (k := kcap Q (Q.R + 8 * (n - i) + 2) + qcap V (V.us + (n + 12 - i))) (n := 22 * kcap Q (Q.R + 8 * (n - i) + 2) + 2 * qcap V (V.us + (n + 12 - i))) hfit_QzV1.1 hfit_QzV1.2 ?_
          have hst : liP f n (baP f n ok (orL f n) (cmL f n) (qyL f n)) 38 8 m0 (skipH f n ((skipH f n j1) + 2)) (ac ++ [g9]) = liP f n (baP f n ok (orL f n) (cmL f n) (qyL f n)) 38 8 (n + 1) i [] := by rw [← hI6, hm0]; exact (liP_s hv_2 (h_r6.symm.trans c59) hwb).symm
          exact ih (Qz, V1, m0, (skipH f n ((skipH f n j1) + 2)), b1, nI a9, ac ++ [g9]) _ _ _ ⟨hCHz, hf0z, hf1z, hQk_Qz, hTk_V1, hG_QzV1, ⟨_, hXc.trans hX_V1⟩, by omega, by omega, by omega, by omega, by omega, hst, hq⟩ (by show n + 1 - (skipH f n ((skipH f n j1) + 2)) < n + 1 - j; omega) hP hD hS (lv_sub hl [2, 3, 1] rfl)
        · rw [rf_u7] at hw3
          obtain ⟨b4, h_b4⟩ := rf_fail (v := (rs v Qz o)) (i := k9) (br := b1) (b2 := b1) (wh := nI k9)
          rw [h_b4] at hw3
          rw [hw3] at hP hD
          subst hw2
          have hP : va_P (dC, dI) classes [(mo, .inr (13, MF 30 (rf (rs v Qz o) k9 b4))), (qx, .inl (cB, NN, .inl f)), (Qz.qq, .inl (cI, (8 * Qz.C), .inl Qz.qf)), (Qz.qe, .inl (cL, (3 * Qz.C), .inr (.inl Qz.ef))), (tv, .inr (12, MF 13 (tw V1))), (V1.au, .inl (cC, V1.U, .inl V1.un))] H := hP
          have hD : va_D A [(mo, .inr (13, MF 30 (rf (rs v Qz o) k9 b4))), (qx, .inl (cB, NN, .inl f)), (Qz.qq, .inl (cI, (8 * Qz.C), .inl Qz.qf)), (Qz.qe, .inl (cL, (3 * Qz.C), .inr (.inl Qz.ef))), (tv, .inr (12, MF 13 (tw V1))), (V1.au, .inl (cC, V1.U, .inl V1.un))] := hD
          have hwb : ¬ mtB f n (skipH f n j1) (mtx 8) 2 = true := fun h => hwm (mtB_iff.mp h)
          refine lv_if_ne (tgt := 82) hx hb d_Mo_and_77 (by decide) (fun h => absurd h (by decide)) (fun _ => ?_)
          refine lv_iconst (v := (-1)) hx hb d_Mo_and_80 (by decide) ?_
          have hfin : anP f n ok (orL f n) (cmL f n) (qyL f n) i = none := by rw [hlp0, ← hI6, hm0, liP_b hv_2 (h_r6.symm.trans c59) hwb]; rfl
          refine w_same (fun hq => ?_)
          refine W.widen (k := kcap Q (Q.R + 8 * (n - i) + 2) + qcap V (V.us + (n + 12 - i))) (n := 22 * kcap Q (Q.R + 8 * (n - i) + 2) + 2 * qcap V (V.us + (n + 12 - i))) hfit_QzV1.1 hfit_QzV1.2 ?_
          have hPo : QPo n i 2 Q V (Qz, V1, k9, b4, o) := ⟨hQk_Qz, hG_QzV1, ⟨_, (hXc.trans hX_V1), by rw [List.length_append]; omega⟩, by show Q.R ≤ Qz.R; omega, by show Qz.R ≤ Q.R + 8 * (n - i) + 2; omega⟩
          exact W.iret (v := -1) hx hb hr (fun t9 ht hW => ⟨⟨-1, (Qz, V1, k9, b4, o), rfl, ⟨hPo, Or.inr ⟨rfl, hfin⟩⟩, ⟨by rw [ht]; exact hP, va_K.moved hW.alike hK, hD⟩, by rw [ht]; exact hq⟩, hS.F ht⟩) hS.2.2 d_Mo_and_81
      · refine lv_aload_n hx hb d_Mo_and_62 rfl (lv_at hl 2 rfl) ?_
        refine lv_iload hx hb d_Mo_and_63 (lv_at hl 0 rfl) ?_
        refine va_put (D := (dC, dI)) (ci := 13) (v := .int (nI j1)) (ty := .int) (C := R_Mo) (T := F_Mo) (N := 30) hx hb hts in_Mo t_Mo t_Mo_ok n_Mo hown hK hP hD hS 0 rfl rfl 7 (by decide) (hts _ w_1096) (fun _ h9 => h9) rfl (by decide +kernel) rfl rfl (by rw [MFl]; decide) d_Mo_and_65 (fun H locs hP hD hS => ?_)
        rw [MFs (n := 30) (k := 7) (by decide)] at hP hD
        have hP : va_P (dC, dI) classes [(mo, .inr (13, MF 30 (va_up (rf (rs v Qz o) (skipH f n j1) b1) 7 (.int (nI j1))))), (qx, .inl (cB, NN, .inl f)), (Qz.qq, .inl (cI, (8 * Qz.C), .inl Qz.qf)), (Qz.qe, .inl (cL, (3 * Qz.C), .inr (.inl Qz.ef))), (tv, .inr (12, MF 13 (tw V1))), (V1.au, .inl (cC, V1.U, .inl V1.un))] H := hP
        have hD : va_D A [(mo, .inr (13, MF 30 (va_up (rf (rs v Qz o) (skipH f n j1) b1) 7 (.int (nI j1))))), (qx, .inl (cB, NN, .inl f)), (Qz.qq, .inl (cI, (8 * Qz.C), .inl Qz.qf)), (Qz.qe, .inl (cL, (3 * Qz.C), .inr (.inl Qz.ef))), (tv, .inr (12, MF 13 (tw V1))), (V1.au, .inl (cC, V1.U, .inl V1.un))] := hD
        rw [rf_u7] at hP hD
        have hP : va_P (dC, dI) classes [(mo, .inr (13, MF 30 (rf (rs v Qz o) j1 b1))), (qx, .inl (cB, NN, .inl f)), (Qz.qq, .inl (cI, (8 * Qz.C), .inl Qz.qf)), (Qz.qe, .inl (cL, (3 * Qz.C), .inr (.inl Qz.ef))), (tv, .inr (12, MF 13 (tw V1))), (V1.au, .inl (cC, V1.U, .inl V1.un))] H := hP
        have hD : va_D A [(mo, .inr (13, MF 30 (rf (rs v Qz o) j1 b1))), (qx, .inl (cB, NN, .inl f)), (Qz.qq, .inl (cI, (8 * Qz.C), .inl Qz.qf)), (Qz.qe, .inl (cL, (3 * Qz.C), .inr (.inl Qz.ef))), (tv, .inr (12, MF 13 (tw V1))), (V1.au, .inl (cC, V1.U, .inl V1.un))] := hD
        refine lv_iload_n hx hb d_Mo_and_68 rfl (lv_at hl 3 rfl) ?_
        have hfin : anP f n ok (orL f n) (cmL f n) (qyL f n) i = some (j1, allC (ac ++ [g9])) := by rw [hlp0, ← hI6, hm0, liP_e hv_2 (fun h => c59 (h_r6.trans h))]; rfl
        have hOW : ANDf O C Y Qz V1 Q.R Qz.R Q.R (allC (ac ++ [g9])) := ⟨Nat.le_refl _, hCHz.1, hf0z, ac ++ [g9], hCHz.all BASf_in, rfl⟩
        have hczl := hCHz.1
        refine w_same (fun hq => ?_)
        refine W.widen (k := kcap Q (Q.R + 8 * (n - i) + 2) + qcap V (V.us + (n + 12 - i))) (n := 22 * kcap Q (Q.R + 8 * (n - i) + 2) + 2 * qcap V (V.us + (n + 12 - i))) hfit_QzV1.1 hfit_QzV1.2 ?_
        have hPo : QPo n i 2 Q V (Qz, V1, j1, b1, o) := ⟨hQk_Qz, hG_QzV1, ⟨_, (hXc.trans hX_V1), by rw [List.length_append]; omega⟩, by show Q.R ≤ Qz.R; omega, by show Qz.R ≤ Q.R + 8 * (n - i) + 2; omega⟩
        exact W.iret (v := nI Q.R) hx hb hr (fun t9 ht hW => ⟨⟨nI Q.R, (Qz, V1, j1, b1, o), rfl, ⟨hPo, Or.inl ⟨Q.R, _, rfl, hfin, hOW, hCHz.1, hf1z, hCHz.ex, by show Qz.R + 8 * i + 4 ≤ Q.R + 8 * j1; omega, by show V1.us + i ≤ V.us + j1; omega, by show j1 ≤ n; omega, hCHz.1, rfl⟩⟩, ⟨by rw [ht]; exact hP, va_K.moved hW.alike hK, hD⟩, by rw [ht]; exact hq⟩, hS.F ht⟩) hS.2.2 d_Mo_and_69
  · have hv_2 : baP f n ok (orL f n) (cmL f n) (qyL f n) j = none := hv_2
    subst hv_1
    refine lv_istore_n (lv' := [(3, .int (-1)), (0, .ref mo), (1, .int (nI Q.R)), (2, .int bf)]) hx hb d_Mo_and_13 rfl hl (by decide) rfl (fun ls hl => ?_)
    refine lv_iload_n hx hb d_Mo_and_14 rfl (lv_at hl 0 rfl) ?_
    refine lv_if_ge (tgt := 20) hx hb d_Mo_and_15 (by decide) (fun h => absurd h (by decide)) (fun _ => ?_)
    refine lv_iconst (v := (-1)) hx hb d_Mo_and_18 (by decide) ?_
    have hfin : anP f n ok (orL f n) (cmL f n) (qyL f n) i = none := by rw [hlp0, ← hI6, hm0, liP_n hv_2]; rfl
    refine w_same (fun hq => ?_)
    refine W.widen (k := kcap Q (Q.R + 8 * (n - i) + 2) + qcap V (V.us + (n + 12 - i))) (n := 22 * kcap Q (Q.R + 8 * (n - i) + 2) + 2 * qcap V (V.us + (n + 12 - i))) hfit_Q1V1.1 hfit_Q1V1.2 ?_
    have hPo : QPo n i 2 Q V (Q1, V1, j1, b1, o1) := ⟨hQk_Q1, hG_Q1V1, ⟨_, (hXc.trans hX_V1), by rw [List.length_append]; omega⟩, by show Q.R ≤ Q1.R; omega, by show Q1.R ≤ Q.R + 8 * (n - i) + 2; omega⟩
    exact W.iret (v := -1) hx hb hr (fun t9 ht hW => ⟨⟨-1, (Q1, V1, j1, b1, o1), rfl, ⟨hPo, Or.inr ⟨rfl, hfin⟩⟩, ⟨by rw [ht]; exact hP, va_K.moved hW.alike hK, hD⟩, by rw [ht]; exact hq⟩, hS.F ht⟩) hS.2.2 d_Mo_and_19
set_option maxHeartbeats 4000000 in
set_option maxRecDepth 100000 in
/-- the reference: or -/
theorem c_or (orL : (Nat → Int32) → Nat → Nat → Option (Nat × CT)) (cmL : (Nat → Int32) → Nat → Nat → Option (Nat × OT)) (qyL : (Nat → Int32) → Nat → Bool → Nat → Option (Nat × Bool × QT)) (O : QP CT) (C : QP OT) (Y : QP QT) (G M : Nat) (hOf : Frm 8 O) (hCf : Frm 8 C) (hYf : Frm 8 Y) (l : Launch) (dC : Nat → ClassId) (dI : Nat → Nat → Nat) (mo : Nat) (sz : Heap) (v : Nat → Value) (cB cI cL cC : ClassId) (qx NN : Nat) (f : Nat → Int32) (n : Nat) (K : Nat → Nat × Nat) (tv : Nat) (Q : QS) (V : TS) (o i : Nat) (br : Int32) (ok : Bool) (hok : ok = true ↔ ¬ o = 16) (ho16 : o ≤ 16) (hOR : ¬ o = 16 → ORC orL O (o + 1) (15 + G) (600 + M)) (hCM : ¬ o = 16 → CMC cmL C (o + 1) (11 + G) (400 + M)) (hQY : ¬ o = 16 → QYC qyL Y (o + 1) (10 + G) (320 + M)) (hnN : n ≤ NN) (hNN : NN ≤ 4096) (hi0 : i ≤ n) (h6 : v 6 = .ref qx) (h8 : v 8 = .int (nI n)) (h22 : v 22 = .ref tv) (hQ : QOK Q) (hV : TOK V) (hcu : V.us + (n + 12 - i) ≤ 400000) (hcr : Q.R + 8 * (n - i) + 3 ≤ 40000) : Met l y_Mo_or (k_Mo_or :: gtbl) ({ frames := 15 + (15 + G), cells := kcap Q (Q.R + 8 * (n - i) + 3) + qcap V (V.us + (n + 12 - i)), slots := 22 * kcap Q (Q.R + 8 * (n - i) + 3) + 2 * qcap V (V.us + (n + 12 - i)), locals := 600 + (600 + M) }) (va_Pc [.ref mo] (me K dC dI [(mo, .inr (13, MF 30 (rf (rs v Q o) i br))), (qx, .inl (cB, NN, .inl f)), (Q.qq, .inl (cI, (8 * Q.C), .inl Q.qf)), (Q.qe, .inl (cL, (3 * Q.C), .inr (.inl Q.ef))), (tv, .inr (12, MF 13 (tw V))), (V.au, .inl (cC, V.U, .inl V.un))] [(cB, .byte), (cI, .int), (cL, .long), (cC, .char)] sz)) (va_Qi (fun (res : Int32) (u : QS × TS × Nat × Int32 × Nat) => ORo (orP f n ok (orL f n) (cmL f n) (qyL f n)) (ORf O C Y) n i 3 3 o Q V res u) (fun u t9 => mz dC dI [(mo, .inr (13, MF 30 (rf (rs v u.1 u.2.2.2.2) u.2.2.1 u.2.2.2.1))), (qx, .inl (cB, NN, .inl f)), (u.1.qq, .inl (cI, (8 * u.1.C), .inl u.1.qf)), (u.1.qe, .inl (cL, (3 * u.1.C), .inr (.inl u.1.ef))), (tv, .inr (12, MF 13 (tw u.2.1))), (u.2.1.au, .inl (cC, u.2.1.U, .inl u.2.1.un))] [(cB, .byte), (cI, .int), (cL, .long), (cC, .char)] (va_A [(mo, .inr (13, MF 30 (rf (rs v Q o) i br))), (qx, .inl (cB, NN, .inl f)), (Q.qq, .inl (cI, (8 * Q.C), .inl Q.qf)), (Q.qe, .inl (cL, (3 * Q.C), .inr (.inl Q.ef))), (tv, .inr (12, MF 13 (tw V))), (V.au, .inl (cC, V.U, .inl V.un))] sz.size) t9 ∧ szk sz t9.heap (cQ Q V u.1 u.2.1) (sQ Q V u.1 u.2.1)) (va_A [(mo, .inr (13, MF 30 (rf (rs v Q o) i br))), (qx, .inl (cB, NN, .inl f)), (Q.qq, .inl (cI, (8 * Q.C), .inl Q.qf)), (Q.qe, .inl (cL, (3 * Q.C), .inr (.inl Q.ef))), (tv, .inr (12, MF 13 (tw V))), (V.au, .inl (cC, V.U, .inl V.un))] sz.size)) (kcap Q (Q.R + 8 * (n - i) + 3) + qcap V (V.us + (n + 12 - i))) (22 * kcap Q (Q.R + 8 * (n - i) + 3) + 2 * qcap V (V.us + (n + 12 - i))) (va_A [(mo, .inr (13, MF 30 (rf (rs v Q o) i br))), (qx, .inl (cB, NN, .inl f)), (Q.qq, .inl (cI, (8 * Q.C), .inl Q.qf)), (Q.qe, .inl (cL, (3 * Q.C), .inr (.inl Q.ef))), (tv, .inr (12, MF 13 (tw V))), (V.au, .inl (cC, V.U, .inl V.un))] sz.size) := by
  refine Met.ofW (cc := b_Mo_or) (maxL := 5) (ret := (some .int)) (by decide) rfl ?_
  intro p e s m args below meth c s₁ B hml hv
  obtain ⟨rfl, ⟨hsz, hP, hK, hD0⟩, hM⟩ := hv
  have hx := B.exec
  have hb := B.bytes
  have hr := B.returns
  have hts0 := atoms_spec (ws := k_Mo_or :: gtbl) B.pre
  have hts := fun w h => hts0 w (List.mem_cons_of_mem _ h)
  have hown : s.vm.findClass R_Mo = some m.cls := findClass_of_methodNamed B.named
  have hlocks := B.notSynchronized
  subst hsz
  have hD := hD0.self (sz := s.heap.size)
  generalize hAe : va_A [(mo, .inr (13, MF 30 (rf (rs v Q o) i br))), (qx, .inl (cB, NN, .inl f)), (Q.qq, .inl (cI, (8 * Q.C), .inl Q.qf)), (Q.qe, .inl (cL, (3 * Q.C), .inr (.inl Q.ef))), (tv, .inr (12, MF 13 (tw V))), (V.au, .inl (cC, V.U, .inl V.un))] s.heap.size = A at hD hM ⊢
  have hA : ∀ q : Nat, s.heap.size ≤ q → A q := fun q h => by rw [← hAe]; exact Or.inr h
  have hS : va_S A s.heap s.heap [] := va_S.rf
  have hP : va_P (dC, dI) classes [(mo, .inr (13, MF 30 (rf (rs v Q o) i br))), (qx, .inl (cB, NN, .inl f)), (Q.qq, .inl (cI, (8 * Q.C), .inl Q.qf)), (Q.qe, .inl (cL, (3 * Q.C), .inr (.inl Q.ef))), (tv, .inr (12, MF 13 (tw V))), (V.au, .inl (cC, V.U, .inl V.un))] s.heap := hP
  have hl := lv_entry ([.ref mo]) (n := 5) (Nat.le_of_ble_eq_true rfl)
  rw [lg_entry_eq]
  generalize (lg_sl ([.ref mo]) ++ List.replicate (5 - (lg_sl ([.ref mo])).length) Slot.unset).toArray = ls at hl ⊢
  have hl : lv_has ls 5 [(0, .ref mo)] := hl
  have hQk_Q := hQ
  have hTk_V := hV
  have hCo := hQ.2.2.1
  have hCo2 := hQ.2.1
  clear hQ hV
  have hG_QV : GQ (Q.R + 8 * (n - i) + 3) (V.us + (n + 12 - i)) Q V Q V := GQ.rf
  refine w_same (fun hq => ?_)
  refine w_tight (k := cQ Q V Q V) (n := sQ Q V Q V) (by rw [cQ_rf.1, cQ_rf.2]; exact hq) ?_
  have hqb_QV : Q.R ≤ Q.C ∧ Q.C ≤ 100000 := ⟨hQk_Q.2.2.1, hQk_Q.2.1⟩
  have hfit_QV := hG_QV.fits
  refine lv_aload_n hx hb d_Mo_or_0 rfl (lv_at hl 0 rfl) ?_
  refine lv_bipush (v := 30) hx hb d_Mo_or_1 (by decide) ?_
  have hPc := hP.sub (ws' := [(mo, .inr (13, MF 30 (rf (rs v Q o) i br))), (Q.qq, .inl (cI, (8 * Q.C), .inl Q.qf)), (Q.qe, .inl (cL, (3 * Q.C), .inr (.inl Q.ef)))]) [0, 2, 3] rfl
  have hDc := hD.sub (ws' := [(mo, .inr (13, MF 30 (rf (rs v Q o) i br))), (Q.qq, .inl (cI, (8 * Q.C), .inl Q.qf)), (Q.qe, .inl (cL, (3 * Q.C), .inr (.inl Q.ef)))]) [0, 2, 3] (by decide) rfl
  have hKc := hK.sub (tys' := [(cI, .int), (cL, .long)]) [1, 2] rfl
  have hFc := va_free (wc := [(mo, .inr (13, MF 30 (rf (rs v Q o) i br))), (Q.qq, .inl (cI, (8 * Q.C), .inl Q.qf)), (Q.qe, .inl (cL, (3 * Q.C), .inr (.inl Q.ef)))]) hD hS hA [0, 2, 3] rfl
  refine w_same (fun hq0 => ?_)
  refine va_calli (va_runV (As := [.int 30]) (rest := []) ⟨hx, hb, hml, hown, hts⟩ (c_Mo_row l dC dI mo s.heap v cI cL Q o i br 30 hQk_Q) (cwV 1 hts (gt_V (own := R_Mo) (C := R_Mo) (i := 269) (y := y_Mo_row) i_Mo_row w_1407 w_1409 (gt_sel (y := y_Mo_row) (n := 30) (by decide +kernel)) w_7) rfl rfl rfl (by decide +kernel) ⟨Nat.le_trans (m := 15) (Nat.le_of_ble_eq_true rfl) (Nat.le_add_right 15 (15 + G)), Nat.le_trans (m := 600) (Nat.le_of_ble_eq_true rfl) (Nat.le_add_right 600 (600 + M))⟩) ⟨mp_blind, va_recv hKc hPc (ci := 13) (q0 := 0) rfl rfl, fun U hU hW => ⟨rfl, hU, by rw [hU]; exact hPc, va_K.moved hW.alike hKc, hDc.weaken (fun _ _ _ _ => trivial)⟩⟩ rfl rfl hl.1 rfl (lv_room (Nat.le_of_ble_eq_true rfl)) d_Mo_or_3 ⟨(QAd.fit hG_QV hQk_Q (by omega)).1, (QAd.fit hG_QV hQk_Q (by omega)).2⟩) hS (fun q _ h => hFc q h) hFc (fun r0 Q1 t9 H1 locs ht hvm hw hB hz1 hk1 hS => ?_)
  obtain ⟨⟨hP1, hK1, hD1⟩, hz9⟩ := hB
  rw [ht] at hP1
  rw [ht] at hz9
  obtain ⟨hr0, hA_Q1⟩ := hw
  have hA_Q1 : QAd Q Q1 30 := hA_Q1
  obtain ⟨hQk_Q1, hGa, hGb, hGd, hR_Q1⟩ := hA_Q1.gq hQk_Q (by omega) V
  obtain ⟨hG_Q1V, hGc, hGs⟩ := hG_QV.tr hGa (show Q.R + 1 ≤ Q.R + 8 * (n - i) + 3 by omega) (Nat.zero_le _)
  have hGc := Nat.le_trans (Nat.add_le_add_left hGb _) hGc
  have hGs := Nat.le_trans (Nat.add_le_add_left hGd _) hGs
  have hq1 : szk s.heap H1 (cQ Q V Q1 V) (sQ Q V Q1 V) := (hq0.trans hz9).mono hGc hGs
  refine w_tight hq1 ?_
  obtain ⟨hP, hD⟩ := va_join (wr := [(qx, .inl (cB, NN, .inl f)), (tv, .inr (12, MF 13 (tw V))), (V.au, .inl (cC, V.U, .inl V.un))]) (w1 := [(mo, .inr (13, MF 30 (rf (rs v Q1 o) i br))), (Q1.qq, .inl (cI, (8 * Q1.C), .inl Q1.qf)), (Q1.qe, .inl (cL, (3 * Q1.C), .inr (.inl Q1.ef)))]) hP hD [0, 2, 3] [1, 4, 5] rfl rfl (by decide) (by decide) hk1 hFc hP1 hD1
  generalize H1 = H at hP hS ⊢
  have hP : va_P (dC, dI) classes [(qx, .inl (cB, NN, .inl f)), (tv, .inr (12, MF 13 (tw V))), (V.au, .inl (cC, V.U, .inl V.un)), (mo, .inr (13, MF 30 (rf (rs v Q1 o) i br))), (Q1.qq, .inl (cI, (8 * Q1.C), .inl Q1.qf)), (Q1.qe, .inl (cL, (3 * Q1.C), .inr (.inl Q1.ef)))] H := hP
  have hD : va_D A [(qx, .inl (cB, NN, .inl f)), (tv, .inr (12, MF 13 (tw V))), (V.au, .inl (cC, V.U, .inl V.un)), (mo, .inr (13, MF 30 (rf (rs v Q1 o) i br))), (Q1.qq, .inl (cI, (8 * Q1.C), .inl Q1.qf)), (Q1.qe, .inl (cL, (3 * Q1.C), .inr (.inl Q1.ef)))] := hD
  have hP := hP.sub (ws' := [(mo, .inr (13, MF 30 (rf (rs v Q1 o) i br))), (qx, .inl (cB, NN, .inl f)), (tv, .inr (12, MF 13 (tw V))), (V.au, .inl (cC, V.U, .inl V.un)), (Q1.qq, .inl (cI, (8 * Q1.C), .inl Q1.qf)), (Q1.qe, .inl (cL, (3 * Q1.C), .inr (.inl Q1.ef)))]) [3, 0, 1, 2, 4, 5] rfl
  have hD := hD.sub (ws' := [(mo, .inr (13, MF 30 (rf (rs v Q1 o) i br))), (qx, .inl (cB, NN, .inl f)), (tv, .inr (12, MF 13 (tw V))), (V.au, .inl (cC, V.U, .inl V.un)), (Q1.qq, .inl (cI, (8 * Q1.C), .inl Q1.qf)), (Q1.qe, .inl (cL, (3 * Q1.C), .inr (.inl Q1.ef)))]) [3, 0, 1, 2, 4, 5] (by decide) rfl
  have hP := hP.sub (ws' := [(mo, .inr (13, MF 30 (rf (rs v Q1 o) i br))), (qx, .inl (cB, NN, .inl f)), (Q1.qq, .inl (cI, (8 * Q1.C), .inl Q1.qf)), (Q1.qe, .inl (cL, (3 * Q1.C), .inr (.inl Q1.ef))), (tv, .inr (12, MF 13 (tw V))), (V.au, .inl (cC, V.U, .inl V.un))]) [0, 1, 4, 5, 2, 3] rfl
  have hD := hD.sub (ws' := [(mo, .inr (13, MF 30 (rf (rs v Q1 o) i br))), (qx, .inl (cB, NN, .inl f)), (Q1.qq, .inl (cI, (8 * Q1.C), .inl Q1.qf)), (Q1.qe, .inl (cL, (3 * Q1.C), .inr (.inl Q1.ef))), (tv, .inr (12, MF 13 (tw V))), (V.au, .inl (cC, V.U, .inl V.un))]) [0, 1, 4, 5, 2, 3] (by decide) rfl
  have hr0 : r0 = nI Q.R := hr0
  subst hr0
  have hqb_Q1V : Q1.R ≤ Q1.C ∧ Q1.C ≤ 100000 := ⟨hQk_Q1.2.2.1, hQk_Q1.2.1⟩
  have hfit_Q1V := hG_Q1V.fits
  have hE_Q1 : alr Q V Q1 V 0 Q.R := ⟨fun r9 k9 _ h1 h2 => hA_Q1.2.2.1 _ (by omega), ⟨fun r9 k9 _ h1 h2 => hA_Q1.2.2.2.1.2 _ (by omega), Nat.le_refl _, fun _ _ => rfl⟩⟩
  refine lv_istore_n (lv' := [(1, .int (nI Q.R)), (0, .ref mo)]) hx hb d_Mo_or_6 rfl hl (by decide) rfl (fun ls hl => ?_)
  refine lv_iconst (v := (-1)) hx hb d_Mo_or_7 (by decide) ?_
  refine lv_istore_n (lv' := [(2, .int (-1)), (1, .int (nI Q.R)), (0, .ref mo)]) hx hb d_Mo_or_8 rfl hl (by decide) rfl (fun ls hl => ?_)
  have hlp0 : orP f n ok (orL f n) (cmL f n) (qyL f n) i = (liP f n (anP f n ok (orL f n) (cmL f n) (qyL f n)) 124 7 (n + 1) i []).map (fun p => (p.1, anyC_ p.2)) := rfl
  have hCH1 : CHi 1 (ANDf O C Y) Q V Q.R Q1 V (-1) [] := CHi.st (by omega) hE_Q1 (hA_Q1.2.2.2.2.2 2 (by decide) (by decide))
  refine w_same (fun hq => ?_)
  refine W.widen (k := kcap Q (Q.R + 8 * (n - i) + 3) + qcap V (V.us + (n + 12 - i))) (n := 22 * kcap Q (Q.R + 8 * (n - i) + 3) + 2 * qcap V (V.us + (n + 12 - i))) hfit_Q1V.1 hfit_Q1V.2 ?_
  refine w_loopH (D := (dC, dI)) (cl := classes) (A := A) (H0 := s.heap) (nL := 5) 9 (σ := QS × TS × Nat × Nat × Int32 × Int32 × List CT) (fun ⟨Qc, Vc, m9, j, b, bf, ac⟩ H => CHi 1 (ANDf O C Y) Q V Q.R Qc Vc bf ac ∧ Qc.qf (8 * Q.R + 0) = 30 ∧ Qc.qf (8 * Q.R + 1) = -1 ∧ QOK Qc ∧ TOK Vc ∧ GQ (Q.R + 8 * (n - i) + 3) (V.us + (n + 12 - i)) Q V Qc Vc ∧ (∃ us, TX V Vc us) ∧ Qc.R + 8 * i ≤ Q.R + 8 * j + 1 ∧ Vc.us + i ≤ V.us + j ∧ j ≤ n ∧ i ≤ j ∧ n + 1 ≤ m9 + j ∧ liP f n (anP f n ok (orL f n) (cmL f n) (qyL f n)) 124 7 m9 j ac = liP f n (anP f n ok (orL f n) (cmL f n) (qyL f n)) 124 7 (n + 1) i [] ∧ szk s.heap H (cQ Q V Qc Vc) (sQ Q V Qc Vc)) (fun ⟨Qc, Vc, m9, j, b, bf, ac⟩ => n + 1 - j) (fun ⟨Qc, Vc, m9, j, b, bf, ac⟩ => [(mo, .inr (13, MF 30 (rf (rs v Qc o) j b))), (qx, .inl (cB, NN, .inl f)), (Qc.qq, .inl (cI, (8 * Qc.C), .inl Qc.qf)), (Qc.qe, .inl (cL, (3 * Qc.C), .inr (.inl Qc.ef))), (tv, .inr (12, MF 13 (tw Vc))), (Vc.au, .inl (cC, Vc.U, .inl Vc.un))]) (fun ⟨Qc, Vc, m9, j, b, bf, ac⟩ => [(0, .ref mo), (1, .int (nI Q.R)), (2, .int bf)]) ?_ (Q1, V, n + 1, i, br, -1, []) ⟨hCH1, hA_Q1.2.2.2.2.1, hA_Q1.2.2.2.2.2 1 (by decide) (by decide), hQk_Q1, hTk_V, hG_Q1V, ⟨[], TX.rf hTk_V⟩, by show Q1.R + 8 * i ≤ Q.R + 8 * i + 1; omega, Nat.le_refl _, hi0, Nat.le_refl _, by show n + 1 ≤ n + 1 + i; omega, rfl, hq⟩ hP hD hS (lv_sub hl [2, 1, 0] rfl)
  rintro ⟨Qc, Vc, m9, j, b, bf, ac⟩ H locs ls hI ih hP hD hS hl
  have hP : va_P (dC, dI) classes [(mo, .inr (13, MF 30 (rf (rs v Qc o) j b))), (qx, .inl (cB, NN, .inl f)), (Qc.qq, .inl (cI, (8 * Qc.C), .inl Qc.qf)), (Qc.qe, .inl (cL, (3 * Qc.C), .inr (.inl Qc.ef))), (tv, .inr (12, MF 13 (tw Vc))), (Vc.au, .inl (cC, Vc.U, .inl Vc.un))] H := hP
  have hD : va_D A [(mo, .inr (13, MF 30 (rf (rs v Qc o) j b))), (qx, .inl (cB, NN, .inl f)), (Qc.qq, .inl (cI, (8 * Qc.C), .inl Qc.qf)), (Qc.qe, .inl (cL, (3 * Qc.C), .inr (.inl Qc.ef))), (tv, .inr (12, MF 13 (tw Vc))), (Vc.au, .inl (cC, Vc.U, .inl Vc.un))] := hD
  have hl : lv_has ls 5 [(0, .ref mo), (1, .int (nI Q.R)), (2, .int bf)] := hl
  obtain ⟨hCH, hf0, hf1, hQk_Qc, hTk_Vc, hG_QcVc, ⟨usc, hXc⟩, hI1, hI2, hI3, hI4, hI5, hI6, hI7⟩ := hI
  refine w_tight hI7 ?_
  obtain ⟨m0, hm0⟩ : ∃ m0, m9 = m0 + 1 := ⟨m9 - 1, by omega⟩
  have hXcs := hXc.us
  have hCHl := hCH.1
  have hqb_QcVc : Qc.R ≤ Qc.C ∧ Qc.C ≤ 100000 := ⟨hQk_Qc.2.2.1, hQk_Qc.2.1⟩
  have hfit_QcVc := hG_QcVc.fits
  refine lv_aload_n hx hb d_Mo_or_9 rfl (lv_at hl 0 rfl) ?_
  have hPc := hP.sub (ws' := [(mo, .inr (13, MF 30 (rf (rs v Qc o) j b))), (qx, .inl (cB, NN, .inl f)), (Qc.qq, .inl (cI, (8 * Qc.C), .inl Qc.qf)), (Qc.qe, .inl (cL, (3 * Qc.C), .inr (.inl Qc.ef))), (tv, .inr (12, MF 13 (tw Vc))), (Vc.au, .inl (cC, Vc.U, .inl Vc.un))]) [0, 1, 2, 3, 4, 5] rfl
  have hDc := hD.sub (ws' := [(mo, .inr (13, MF 30 (rf (rs v Qc o) j b))), (qx, .inl (cB, NN, .inl f)), (Qc.qq, .inl (cI, (8 * Qc.C), .inl Qc.qf)), (Qc.qe, .inl (cL, (3 * Qc.C), .inr (.inl Qc.ef))), (tv, .inr (12, MF 13 (tw Vc))), (Vc.au, .inl (cC, Vc.U, .inl Vc.un))]) [0, 1, 2, 3, 4, 5] (by decide) rfl
  have hKc := hK.sub (tys' := [(cB, .byte), (cI, .int), (cL, .long), (cC, .char)]) [0, 1, 2, 3] rfl
  have hFc := va_free (wc := [(mo, .inr (13, MF 30 (rf (rs v Qc o) j b))), (qx, .inl (cB, NN, .inl f)), (Qc.qq, .inl (cI, (8 * Qc.C), .inl Qc.qf)), (Qc.qe, .inl (cL, (3 * Qc.C), .inr (.inl Qc.ef))), (tv, .inr (12, MF 13 (tw Vc))), (Vc.au, .inl (cC, Vc.U, .inl Vc.un))]) hD hS hA [0, 1, 2, 3, 4, 5] rfl
  refine w_same (fun hq0 => ?_)
  refine va_calli (va_runV (As := []) (rest := []) ⟨hx, hb, hml, hown, hts⟩ (c_and orL cmL qyL O C Y G M hOf hCf hYf l dC dI mo H v cB cI cL cC qx NN f n K tv Qc Vc o j b ok hok ho16 hOR hCM hQY hnN hNN (by omega) h6 h8 h22 hQk_Qc hTk_Vc (by omega) (by omega)) (cwV 0 hts (gt_V (own := R_Mo) (C := R_Mo) (i := 307) (y := y_Mo_and) i_Mo_and w_1439 w_1441 (gt_sel (y := y_Mo_and) (n := 30) (by decide +kernel)) w_7) rfl rfl rfl (by decide +kernel) ⟨by show 14 + (15 + G) + 1 ≤ 15 + (15 + G); omega, by show 8 + (5 + 11) + (550 + (600 + M)) ≤ 600 + (600 + M); omega⟩) ⟨me_blind, va_recv hKc hPc (ci := 13) (q0 := 0) rfl rfl, fun U hU hW => ⟨rfl, ⟨hU, by rw [hU]; exact hPc, va_K.moved hW.alike hKc, hDc.weaken (fun _ _ _ _ => trivial)⟩, by rw [hU]; exact ME.call hM hS.2.1 hFc hW⟩⟩ rfl rfl hl.1 rfl (lv_room (Nat.le_of_ble_eq_true rfl)) d_Mo_or_10 ⟨(hG_QcVc.step (B2 := Qc.R + 8 * (n - j) + 2) (C2 := Vc.us + (n + 12 - j)) (by omega) (by omega)).1, (hG_QcVc.step (B2 := Qc.R + 8 * (n - j) + 2) (C2 := Vc.us + (n + 12 - j)) (by omega) (by omega)).2⟩) hS (fun q _ h => hFc q h) hFc (fun r0 ⟨Q1, V1, j1, b1, o1⟩ t9 H1 locs ht hvm hw hB hz1 hk1 hS => ?_)
  obtain ⟨⟨hP1, hK1, hD1⟩, hz9⟩ := hB
  rw [ht] at hP1
  rw [ht] at hz9
  obtain ⟨⟨hQk_Q1, hGn, hTXs, hR1_Q1, hR2_Q1⟩, hw⟩ := hw
  have hQk_Q1 : QOK Q1 := hQk_Q1
  obtain ⟨hG_Q1V1, hGc, hGs⟩ := hG_QcVc.tr hGn (by omega) (by omega)
  have hR1_Q1 : Qc.R ≤ Q1.R := hR1_Q1
  have hR2_Q1 : Q1.R ≤ Qc.R + 8 * (n - j) + 2 := hR2_Q1
  obtain ⟨us1, hX_V1, hln_V1⟩ := hTXs
  have hX_V1 : TX Vc V1 us1 := hX_V1
  have hXs_V1 := hX_V1.us
  have hz9 : szk H H1 (cQ Qc Vc Q1 V1) (sQ Qc Vc Q1 V1) := hz9
  have hq1 : szk s.heap H1 (cQ Q V Q1 V1) (sQ Q V Q1 V1) := (hq0.trans hz9).mono hGc hGs
  refine w_tight hq1 ?_
  obtain ⟨hP, hD⟩ := va_join (wr := []) (w1 := [(mo, .inr (13, MF 30 (rf (rs v Q1 o1) j1 b1))), (qx, .inl (cB, NN, .inl f)), (Q1.qq, .inl (cI, (8 * Q1.C), .inl Q1.qf)), (Q1.qe, .inl (cL, (3 * Q1.C), .inr (.inl Q1.ef))), (tv, .inr (12, MF 13 (tw V1))), (V1.au, .inl (cC, V1.U, .inl V1.un))]) hP hD [0, 1, 2, 3, 4, 5] [] rfl rfl (by decide) (by decide) hk1 hFc hP1 hD1
  generalize H1 = H at hP hS ⊢
  have hP : va_P (dC, dI) classes [(mo, .inr (13, MF 30 (rf (rs v Q1 o1) j1 b1))), (qx, .inl (cB, NN, .inl f)), (Q1.qq, .inl (cI, (8 * Q1.C), .inl Q1.qf)), (Q1.qe, .inl (cL, (3 * Q1.C), .inr (.inl Q1.ef))), (tv, .inr (12, MF 13 (tw V1))), (V1.au, .inl (cC, V1.U, .inl V1.un))] H := hP
  have hD : va_D A [(mo, .inr (13, MF 30 (rf (rs v Q1 o1) j1 b1))), (qx, .inl (cB, NN, .inl f)), (Q1.qq, .inl (cI, (8 * Q1.C), .inl Q1.qf)), (Q1.qe, .inl (cL, (3 * Q1.C), .inr (.inl Q1.ef))), (tv, .inr (12, MF 13 (tw V1))), (V1.au, .inl (cC, V1.U, .inl V1.un))] := hD
  have hP := hP.sub (ws' := [(mo, .inr (13, MF 30 (rf (rs v Q1 o1) j1 b1))), (qx, .inl (cB, NN, .inl f)), (tv, .inr (12, MF 13 (tw V1))), (Q1.qq, .inl (cI, (8 * Q1.C), .inl Q1.qf)), (Q1.qe, .inl (cL, (3 * Q1.C), .inr (.inl Q1.ef))), (V1.au, .inl (cC, V1.U, .inl V1.un))]) [0, 1, 4, 2, 3, 5] rfl
  have hD := hD.sub (ws' := [(mo, .inr (13, MF 30 (rf (rs v Q1 o1) j1 b1))), (qx, .inl (cB, NN, .inl f)), (tv, .inr (12, MF 13 (tw V1))), (Q1.qq, .inl (cI, (8 * Q1.C), .inl Q1.qf)), (Q1.qe, .inl (cL, (3 * Q1.C), .inr (.inl Q1.ef))), (V1.au, .inl (cC, V1.U, .inl V1.un))]) [0, 1, 4, 2, 3, 5] (by decide) rfl
  have hP := hP.sub (ws' := [(mo, .inr (13, MF 30 (rf (rs v Q1 o1) j1 b1))), (qx, .inl (cB, NN, .inl f)), (Q1.qq, .inl (cI, (8 * Q1.C), .inl Q1.qf)), (Q1.qe, .inl (cL, (3 * Q1.C), .inr (.inl Q1.ef))), (tv, .inr (12, MF 13 (tw V1))), (V1.au, .inl (cC, V1.U, .inl V1.un))]) [0, 1, 3, 4, 2, 5] rfl
  have hD := hD.sub (ws' := [(mo, .inr (13, MF 30 (rf (rs v Q1 o1) j1 b1))), (qx, .inl (cB, NN, .inl f)), (Q1.qq, .inl (cI, (8 * Q1.C), .inl Q1.qf)), (Q1.qe, .inl (cL, (3 * Q1.C), .inr (.inl Q1.ef))), (tv, .inr (12, MF 13 (tw V1))), (V1.au, .inl (cC, V1.U, .inl V1.un))]) [0, 1, 3, 4, 2, 5] (by decide) rfl
  have hTk_V1 := hX_V1.ok hTk_Vc (by omega)
  have hqb_Q1V1 : Q1.R ≤ Q1.C ∧ Q1.C ≤ 100000 := ⟨hQk_Q1.2.2.1, hQk_Q1.2.1⟩
  have hfit_Q1V1 := hG_Q1V1.fits
  rcases hw with ⟨a9, g9, hv_1, hv_2, hv_3, hv_4, hv_5, hv_6, hv_7, hv_8, hv_9, hv_10, hv_11⟩ | ⟨hv_1, hv_2⟩
  · have hv_11 : o = o1 := hv_11.symm
    subst hv_11
    have hP : va_P (dC, dI) classes [(mo, .inr (13, MF 30 (rf (rs v Q1 o) j1 b1))), (qx, .inl (cB, NN, .inl f)), (Q1.qq, .inl (cI, (8 * Q1.C), .inl Q1.qf)), (Q1.qe, .inl (cL, (3 * Q1.C), .inr (.inl Q1.ef))), (tv, .inr (12, MF 13 (tw V1))), (V1.au, .inl (cC, V1.U, .inl V1.un))] H := hP
    have hD : va_D A [(mo, .inr (13, MF 30 (rf (rs v Q1 o) j1 b1))), (qx, .inl (cB, NN, .inl f)), (Q1.qq, .inl (cI, (8 * Q1.C), .inl Q1.qf)), (Q1.qe, .inl (cL, (3 * Q1.C), .inr (.inl Q1.ef))), (tv, .inr (12, MF 13 (tw V1))), (V1.au, .inl (cC, V1.U, .inl V1.un))] := hD
    have hv_2 : anP f n ok (orL f n) (cmL f n) (qyL f n) j = some (j1, g9) := hv_2
    have hv_3 : (ANDf O C Y) Q1 V1 Qc.R Q1.R a9 g9 := hv_3
    have hv_4 : a9 < Q1.R := hv_4
    have hv_5 : Q1.qf (8 * a9 + 1) = -1 := hv_5
    have hv_6 : alr Qc Vc Q1 V1 0 Qc.R := hv_6
    have hv_7 : Q1.R + 8 * j + 4 ≤ Qc.R + 8 * j1 := hv_7
    have hv_8 : V1.us + j ≤ Vc.us + j1 := hv_8
    have hv_9 : j1 ≤ n := hv_9
    have hv_10 : Qc.R < Q1.R := hv_10
    have hv_12 := ANDf_in _ _ _ _ _ _ hv_3
    subst hv_1
    refine lv_istore_n (lv' := [(3, .int (nI a9)), (0, .ref mo), (1, .int (nI Q.R)), (2, .int bf)]) hx hb d_Mo_or_13 rfl hl (by decide) rfl (fun ls hl => ?_)
    refine lv_iload_n hx hb d_Mo_or_14 rfl (lv_at hl 0 rfl) ?_
    refine lv_if_ge (tgt := 20) hx hb d_Mo_or_15 (by decide) (fun _ => ?_) (fun h => absurd (nI_pos' (by omega)) h)
    refine w_join (D := (dC, dI)) (cl := classes) (A := A) (H0 := s.heap) (nL := 5) 41 (σ := QS) (fun Qz => CHi 1 (ANDf O C Y) Q V Q.R Qz V1 (nI a9) (ac ++ [g9]) ∧ Qz.qf (8 * Q.R + 0) = 30 ∧ Qz.qf (8 * Q.R + 1) = -1 ∧ QOK Qz ∧ GQ (Q.R + 8 * (n - i) + 3) (V.us + (n + 12 - i)) Q V Qz V1 ∧ Qz.R = Q1.R) (fun Qz => cQ Q V Qz V1) (fun Qz => sQ Q V Qz V1) (fun Qz => [(mo, .inr (13, MF 30 (rf (rs v Qz o) j1 b1))), (qx, .inl (cB, NN, .inl f)), (Qz.qq, .inl (cI, (8 * Qz.C), .inl Qz.qf)), (Qz.qe, .inl (cL, (3 * Qz.C), .inr (.inl Qz.ef))), (tv, .inr (12, MF 13 (tw V1))), (V1.au, .inl (cC, V1.U, .inl V1.un))]) (fun Qz => [(0, .ref mo), (1, .int (nI Q.R)), (3, .int (nI a9))]) (fun jn41 => ?_) ?_
    · rcases hCH.2.2.1 with ⟨hb1, hb5⟩ | ⟨b9, hb1, hb2, hb3⟩
      · rw [hb1] at hl hCH
        have hl : lv_has ls 5 [(3, .int (nI a9)), (0, .ref mo), (1, .int (nI Q.R)), (2, .int (-1))] := hl
        refine lv_iload_n hx hb d_Mo_or_20 rfl (lv_at hl 3 rfl) ?_
        refine lv_if_ge (tgt := 34) hx hb d_Mo_or_21 (by decide) (fun h => absurd h (by decide)) (fun _ => ?_)
        refine lv_aload_n hx hb d_Mo_or_24 rfl (lv_at hl 1 rfl) ?_
        refine lv_iload_n hx hb d_Mo_or_25 rfl (lv_at hl 2 rfl) ?_
        refine lv_iconst (v := 2) hx hb d_Mo_or_26 (by decide) ?_
        refine lv_iload_n hx hb d_Mo_or_27 rfl (lv_at hl 0 rfl) ?_
        refine W.eq (g2 := F0 m 28 ls [.int (nI a9), .int (nI 2), .int (nI Q.R), .ref mo]) rfl ?_
        have hPc := hP.sub (ws' := [(mo, .inr (13, MF 30 (rf (rs v Q1 o) j1 b1))), (Q1.qq, .inl (cI, (8 * Q1.C), .inl Q1.qf))]) [0, 2] rfl
        have hDc := hD.sub (ws' := [(mo, .inr (13, MF 30 (rf (rs v Q1 o) j1 b1))), (Q1.qq, .inl (cI, (8 * Q1.C), .inl Q1.qf))]) [0, 2] (by decide) rfl
        have hKc := hK.sub (tys' := [(cI, .int)]) [1] rfl
        have hFc := va_free (wc := [(mo, .inr (13, MF 30 (rf (rs v Q1 o) j1 b1))), (Q1.qq, .inl (cI, (8 * Q1.C), .inl Q1.qf))]) hD hS hA [0, 2] rfl
        refine va_callv (va_runV (As := [.int (nI Q.R), .int (nI 2), .int (nI a9)]) (rest := []) ⟨hx, hb, hml, hown, hts⟩ (c_Mo_set l dC dI mo H (rf (rs v Q1 o) j1 b1) cI Q1.qq (8 * Q1.C) Q1.qf Q.R 2 ((nI a9)) (by omega) (by omega) ((rf_ne (by decide) (by decide)).trans rs_19)) (cwV 3 hts (gt_V (own := R_Mo) (C := R_Mo) (i := 272) (y := y_Mo_set) i_Mo_set w_1411 w_1413 (gt_sel (y := y_Mo_set) (n := 30) (by decide +kernel)) w_7) rfl rfl rfl (by decide +kernel) ⟨Nat.le_trans (m := 15) (Nat.le_of_ble_eq_true rfl) (Nat.le_add_right 15 (15 + G)), Nat.le_trans (m := 600) (Nat.le_of_ble_eq_true rfl) (Nat.le_add_right 600 (600 + M))⟩) ⟨mp_blind, va_recv hKc hPc (ci := 13) (q0 := 0) rfl rfl, fun U hU hW => ⟨rfl, hU, by rw [hU]; exact hPc, va_K.moved hW.alike hKc, hDc.weaken (fun _ _ _ _ => trivial)⟩⟩ rfl rfl hl.1 rfl (lv_room (Nat.le_of_ble_eq_true rfl)) d_Mo_or_28 ⟨hfit_Q1V1.1, hfit_Q1V1.2⟩) hS (fun q _ h => hFc q h) hFc (fun _u t9 H1 locs ht hvm hw hB hz1 hk1 hS => ?_)
        obtain ⟨hP1, hK1, hD1⟩ := hB
        rw [ht] at hP1
        obtain ⟨hP, hD⟩ := va_join (wr := [(qx, .inl (cB, NN, .inl f)), (Q1.qe, .inl (cL, (3 * Q1.C), .inr (.inl Q1.ef))), (tv, .inr (12, MF 13 (tw V1))), (V1.au, .inl (cC, V1.U, .inl V1.un))]) (w1 := [(mo, .inr (13, MF 30 (rf (rs v Q1 o) j1 b1))), (Q1.qq, .inl (cI, (8 * Q1.C), .inl (upd Q1.qf (8 * Q.R + 2) ((nI a9)))))]) hP hD [0, 2] [1, 3, 4, 5] rfl rfl (by decide) (by decide) hk1 hFc hP1 hD1
        generalize H1 = H at hP hS ⊢
        have hP : va_P (dC, dI) classes [(qx, .inl (cB, NN, .inl f)), (Q1.qe, .inl (cL, (3 * Q1.C), .inr (.inl Q1.ef))), (tv, .inr (12, MF 13 (tw V1))), (V1.au, .inl (cC, V1.U, .inl V1.un)), (mo, .inr (13, MF 30 (rf (rs v Q1 o) j1 b1))), (Q1.qq, .inl (cI, (8 * Q1.C), .inl (upd Q1.qf (8 * Q.R + 2) ((nI a9)))))] H := hP
        have hD : va_D A [(qx, .inl (cB, NN, .inl f)), (Q1.qe, .inl (cL, (3 * Q1.C), .inr (.inl Q1.ef))), (tv, .inr (12, MF 13 (tw V1))), (V1.au, .inl (cC, V1.U, .inl V1.un)), (mo, .inr (13, MF 30 (rf (rs v Q1 o) j1 b1))), (Q1.qq, .inl (cI, (8 * Q1.C), .inl (upd Q1.qf (8 * Q.R + 2) ((nI a9)))))] := hD
        have hP := hP.sub (ws' := [(mo, .inr (13, MF 30 (rf (rs v Q1 o) j1 b1))), (qx, .inl (cB, NN, .inl f)), (Q1.qq, .inl (cI, (8 * Q1.C), .inl (upd Q1.qf (8 * Q.R + 2) ((nI a9))))), (Q1.qe, .inl (cL, (3 * Q1.C), .inr (.inl Q1.ef))), (tv, .inr (12, MF 13 (tw V1))), (V1.au, .inl (cC, V1.U, .inl V1.un))]) [4, 0, 5, 1, 2, 3] rfl
        have hD := hD.sub (ws' := [(mo, .inr (13, MF 30 (rf (rs v Q1 o) j1 b1))), (qx, .inl (cB, NN, .inl f)), (Q1.qq, .inl (cI, (8 * Q1.C), .inl (upd Q1.qf (8 * Q.R + 2) ((nI a9))))), (Q1.qe, .inl (cL, (3 * Q1.C), .inr (.inl Q1.ef))), (tv, .inr (12, MF 13 (tw V1))), (V1.au, .inl (cC, V1.U, .inl V1.un))]) [4, 0, 5, 1, 2, 3] (by decide) rfl
        obtain ⟨Qt, e_Qt⟩ : ∃ z : QS, z = QS.wf Q1 (upd Q1.qf (8 * Q.R + 2) ((nI a9))) := ⟨_, rfl⟩
        have hP : va_P (dC, dI) classes [(mo, .inr (13, MF 30 (rf (rs v Qt o) j1 b1))), (qx, .inl (cB, NN, .inl f)), (Qt.qq, .inl (cI, (8 * Qt.C), .inl Qt.qf)), (Qt.qe, .inl (cL, (3 * Qt.C), .inr (.inl Qt.ef))), (tv, .inr (12, MF 13 (tw V1))), (V1.au, .inl (cC, V1.U, .inl V1.un))] H := by subst e_Qt; exact hP
        have hD : va_D A [(mo, .inr (13, MF 30 (rf (rs v Qt o) j1 b1))), (qx, .inl (cB, NN, .inl f)), (Qt.qq, .inl (cI, (8 * Qt.C), .inl Qt.qf)), (Qt.qe, .inl (cL, (3 * Qt.C), .inr (.inl Qt.ef))), (tv, .inr (12, MF 13 (tw V1))), (V1.au, .inl (cC, V1.U, .inl V1.un))] := by subst e_Qt; exact hD
        have hf_Qt : Qt.C = Q1.C ∧ Qt.R = Q1.R ∧ Qt.qf = upd Q1.qf (8 * Q.R + 2) ((nI a9)) := by rw [e_Qt]; exact ⟨rfl, rfl, rfl⟩
        have he_Qt : Qt.ef = Q1.ef := by rw [e_Qt]; rfl
        have hQk_Qt : QOK Qt := by rw [e_Qt]; exact hQk_Q1
        have hG_QtV1 : GQ (Q.R + 8 * (n - i) + 3) (V.us + (n + 12 - i)) Q V Qt V1 := by unfold GQ at hG_Q1V1 ⊢; rw [hf_Qt.1]; exact hG_Q1V1
        refine w_same (fun hq => ?_)
        refine w_tight (k := cQ Q V Qt V1) (n := sQ Q V Qt V1) (by unfold cQ sQ at hq ⊢; rw [hf_Qt.1]; exact hq) ?_
        have hR_Qt := hf_Qt.2.1
        have hqb_QtV1 : Qt.R ≤ Qt.C ∧ Qt.C ≤ 100000 := ⟨hQk_Qt.2.2.1, hQk_Qt.2.1⟩
        have hfit_QtV1 := hG_QtV1.fits
        have hCHt : CHi 1 (ANDf O C Y) Q V Q.R Qt V1 (nI a9) (ac ++ [g9]) := hCH.one (ANDf_fr hOf hCf hYf) ANDf_in (by decide) hb5 hv_6.a3 hv_3 hv_5 hf_Qt.2.2 he_Qt hR_Qt
        have hf0t : Qt.qf (8 * Q.R + 0) = 30 := by rw [hf_Qt.2.2, pk_un (by omega)]; exact (hv_6.1 Q.R 0 (Nat.zero_le _) (by omega) (by decide)).trans hf0
        have hf1t : Qt.qf (8 * Q.R + 1) = -1 := by rw [hf_Qt.2.2, pk_un (by omega)]; exact (hv_6.1 Q.R 1 (Nat.zero_le _) (by omega) (by decide)).trans hf1
        refine lv_goto (tgt := 41) hx hb d_Mo_or_31 (by decide) ?_
        exact jn41 Qt _ _ _ ⟨hCHt, hf0t, hf1t, hQk_Qt, hG_QtV1, by omega⟩ hP hD hS (lv_sub hl [1, 2, 0] rfl)
      · rw [hb1] at hl hCH
        have hl : lv_has ls 5 [(3, .int (nI a9)), (0, .ref mo), (1, .int (nI Q.R)), (2, .int (nI b9))] := hl
        refine lv_iload_n hx hb d_Mo_or_20 rfl (lv_at hl 3 rfl) ?_
        refine lv_if_ge (tgt := 34) hx hb d_Mo_or_21 (by decide) (fun _ => ?_) (fun h => absurd (nI_pos' (by omega)) h)
        refine lv_aload_n hx hb d_Mo_or_34 rfl (lv_at hl 1 rfl) ?_
        refine lv_iload_n hx hb d_Mo_or_35 rfl (lv_at hl 3 rfl) ?_
        refine lv_iconst (v := 1) hx hb d_Mo_or_36 (by decide) ?_
        refine lv_iload_n hx hb d_Mo_or_37 rfl (lv_at hl 0 rfl) ?_
        refine W.eq (g2 := F0 m 38 ls [.int (nI a9), .int (nI 1), .int (nI b9), .ref mo]) rfl ?_
        have hPc := hP.sub (ws' := [(mo, .inr (13, MF 30 (rf (rs v Q1 o) j1 b1))), (Q1.qq, .inl (cI, (8 * Q1.C), .inl Q1.qf))]) [0, 2] rfl
        have hDc := hD.sub (ws' := [(mo, .inr (13, MF 30 (rf (rs v Q1 o) j1 b1))), (Q1.qq, .inl (cI, (8 * Q1.C), .inl Q1.qf))]) [0, 2] (by decide) rfl
        have hKc := hK.sub (tys' := [(cI, .int)]) [1] rfl
        have hFc := va_free (wc := [(mo, .inr (13, MF 30 (rf (rs v Q1 o) j1 b1))), (Q1.qq, .inl (cI, (8 * Q1.C), .inl Q1.qf))]) hD hS hA [0, 2] rfl
        refine va_callv (va_runV (As := [.int (nI b9), .int (nI 1), .int (nI a9)]) (rest := []) ⟨hx, hb, hml, hown, hts⟩ (c_Mo_set l dC dI mo H (rf (rs v Q1 o) j1 b1) cI Q1.qq (8 * Q1.C) Q1.qf b9 1 ((nI a9)) (by omega) (by omega) ((rf_ne (by decide) (by decide)).trans rs_19)) (cwV 3 hts (gt_V (own := R_Mo) (C := R_Mo) (i := 272) (y := y_Mo_set) i_Mo_set w_1411 w_1413 (gt_sel (y := y_Mo_set) (n := 30) (by decide +kernel)) w_7) rfl rfl rfl (by decide +kernel) ⟨Nat.le_trans (m := 15) (Nat.le_of_ble_eq_true rfl) (Nat.le_add_right 15 (15 + G)), Nat.le_trans (m := 600) (Nat.le_of_ble_eq_true rfl) (Nat.le_add_right 600 (600 + M))⟩) ⟨mp_blind, va_recv hKc hPc (ci := 13) (q0 := 0) rfl rfl, fun U hU hW => ⟨rfl, hU, by rw [hU]; exact hPc, va_K.moved hW.alike hKc, hDc.weaken (fun _ _ _ _ => trivial)⟩⟩ rfl rfl hl.1 rfl (lv_room (Nat.le_of_ble_eq_true rfl)) d_Mo_or_38 ⟨hfit_Q1V1.1, hfit_Q1V1.2⟩) hS (fun q _ h => hFc q h) hFc (fun _u t9 H1 locs ht hvm hw hB hz1 hk1 hS => ?_)
        obtain ⟨hP1, hK1, hD1⟩ := hB
        rw [ht] at hP1
        obtain ⟨hP, hD⟩ := va_join (wr := [(qx, .inl (cB, NN, .inl f)), (Q1.qe, .inl (cL, (3 * Q1.C), .inr (.inl Q1.ef))), (tv, .inr (12, MF 13 (tw V1))), (V1.au, .inl (cC, V1.U, .inl V1.un))]) (w1 := [(mo, .inr (13, MF 30 (rf (rs v Q1 o) j1 b1))), (Q1.qq, .inl (cI, (8 * Q1.C), .inl (upd Q1.qf (8 * b9 + 1) ((nI a9)))))]) hP hD [0, 2] [1, 3, 4, 5] rfl rfl (by decide) (by decide) hk1 hFc hP1 hD1
        generalize H1 = H at hP hS ⊢
        have hP : va_P (dC, dI) classes [(qx, .inl (cB, NN, .inl f)), (Q1.qe, .inl (cL, (3 * Q1.C), .inr (.inl Q1.ef))), (tv, .inr (12, MF 13 (tw V1))), (V1.au, .inl (cC, V1.U, .inl V1.un)), (mo, .inr (13, MF 30 (rf (rs v Q1 o) j1 b1))), (Q1.qq, .inl (cI, (8 * Q1.C), .inl (upd Q1.qf (8 * b9 + 1) ((nI a9)))))] H := hP
        have hD : va_D A [(qx, .inl (cB, NN, .inl f)), (Q1.qe, .inl (cL, (3 * Q1.C), .inr (.inl Q1.ef))), (tv, .inr (12, MF 13 (tw V1))), (V1.au, .inl (cC, V1.U, .inl V1.un)), (mo, .inr (13, MF 30 (rf (rs v Q1 o) j1 b1))), (Q1.qq, .inl (cI, (8 * Q1.C), .inl (upd Q1.qf (8 * b9 + 1) ((nI a9)))))] := hD
        have hP := hP.sub (ws' := [(mo, .inr (13, MF 30 (rf (rs v Q1 o) j1 b1))), (qx, .inl (cB, NN, .inl f)), (Q1.qq, .inl (cI, (8 * Q1.C), .inl (upd Q1.qf (8 * b9 + 1) ((nI a9))))), (Q1.qe, .inl (cL, (3 * Q1.C), .inr (.inl Q1.ef))), (tv, .inr (12, MF 13 (tw V1))), (V1.au, .inl (cC, V1.U, .inl V1.un))]) [4, 0, 5, 1, 2, 3] rfl
        have hD := hD.sub (ws' := [(mo, .inr (13, MF 30 (rf (rs v Q1 o) j1 b1))), (qx, .inl (cB, NN, .inl f)), (Q1.qq, .inl (cI, (8 * Q1.C), .inl (upd Q1.qf (8 * b9 + 1) ((nI a9))))), (Q1.qe, .inl (cL, (3 * Q1.C), .inr (.inl Q1.ef))), (tv, .inr (12, MF 13 (tw V1))), (V1.au, .inl (cC, V1.U, .inl V1.un))]) [4, 0, 5, 1, 2, 3] (by decide) rfl
        obtain ⟨Qt, e_Qt⟩ : ∃ z : QS, z = QS.wf Q1 (upd Q1.qf (8 * b9 + 1) ((nI a9))) := ⟨_, rfl⟩
        have hP : va_P (dC, dI) classes [(mo, .inr (13, MF 30 (rf (rs v Qt o) j1 b1))), (qx, .inl (cB, NN, .inl f)), (Qt.qq, .inl (cI, (8 * Qt.C), .inl Qt.qf)), (Qt.qe, .inl (cL, (3 * Qt.C), .inr (.inl Qt.ef))), (tv, .inr (12, MF 13 (tw V1))), (V1.au, .inl (cC, V1.U, .inl V1.un))] H := by subst e_Qt; exact hP
        have hD : va_D A [(mo, .inr (13, MF 30 (rf (rs v Qt o) j1 b1))), (qx, .inl (cB, NN, .inl f)), (Qt.qq, .inl (cI, (8 * Qt.C), .inl Qt.qf)), (Qt.qe, .inl (cL, (3 * Qt.C), .inr (.inl Qt.ef))), (tv, .inr (12, MF 13 (tw V1))), (V1.au, .inl (cC, V1.U, .inl V1.un))] := by subst e_Qt; exact hD
        have hf_Qt : Qt.C = Q1.C ∧ Qt.R = Q1.R ∧ Qt.qf = upd Q1.qf (8 * b9 + 1) ((nI a9)) := by rw [e_Qt]; exact ⟨rfl, rfl, rfl⟩
        have he_Qt : Qt.ef = Q1.ef := by rw [e_Qt]; rfl
        have hQk_Qt : QOK Qt := by rw [e_Qt]; exact hQk_Q1
        have hG_QtV1 : GQ (Q.R + 8 * (n - i) + 3) (V.us + (n + 12 - i)) Q V Qt V1 := by unfold GQ at hG_Q1V1 ⊢; rw [hf_Qt.1]; exact hG_Q1V1
        refine w_same (fun hq => ?_)
        refine w_tight (k := cQ Q V Qt V1) (n := sQ Q V Qt V1) (by unfold cQ sQ at hq ⊢; rw [hf_Qt.1]; exact hq) ?_
        have hR_Qt := hf_Qt.2.1
        have hqb_QtV1 : Qt.R ≤ Qt.C ∧ Qt.C ≤ 100000 := ⟨hQk_Qt.2.2.1, hQk_Qt.2.1⟩
        have hfit_QtV1 := hG_QtV1.fits
        have hCHt : CHi 1 (ANDf O C Y) Q V Q.R Qt V1 (nI a9) (ac ++ [g9]) := hCH.add (ANDf_fr hOf hCf hYf) ANDf_in (by decide) hb2 hb3 (by omega) hv_6.a3 hv_3 hv_5 hf_Qt.2.2 he_Qt hR_Qt
        have hf0t : Qt.qf (8 * Q.R + 0) = 30 := by rw [hf_Qt.2.2, pk_un (by omega)]; exact (hv_6.1 Q.R 0 (Nat.zero_le _) (by omega) (by decide)).trans hf0
        have hf1t : Qt.qf (8 * Q.R + 1) = -1 := by rw [hf_Qt.2.2, pk_un (by omega)]; exact (hv_6.1 Q.R 1 (Nat.zero_le _) (by omega) (by decide)).trans hf1
        exact jn41 Qt _ _ _ ⟨hCHt, hf0t, hf1t, hQk_Qt, hG_QtV1, by omega⟩ hP hD hS (lv_sub hl [1, 2, 0] rfl)
    · rintro Qz H locs ls hI41 hP hD hS hl
      have hP : va_P (dC, dI) classes [(mo, .inr (13, MF 30 (rf (rs v Qz o) j1 b1))), (qx, .inl (cB, NN, .inl f)), (Qz.qq, .inl (cI, (8 * Qz.C), .inl Qz.qf)), (Qz.qe, .inl (cL, (3 * Qz.C), .inr (.inl Qz.ef))), (tv, .inr (12, MF 13 (tw V1))), (V1.au, .inl (cC, V1.U, .inl V1.un))] H := hP
      have hD : va_D A [(mo, .inr (13, MF 30 (rf (rs v Qz o) j1 b1))), (qx, .inl (cB, NN, .inl f)), (Qz.qq, .inl (cI, (8 * Qz.C), .inl Qz.qf)), (Qz.qe, .inl (cL, (3 * Qz.C), .inr (.inl Qz.ef))), (tv, .inr (12, MF 13 (tw V1))), (V1.au, .inl (cC, V1.U, .inl V1.un))] := hD
      have hl : lv_has ls 5 [(0, .ref mo), (1, .int (nI Q.R)), (3, .int (nI a9))] := hl
      obtain ⟨hCHz, hf0z, hf1z, hQk_Qz, hG_QzV1, hR_Qz⟩ := hI41
      have hqb_QzV1 : Qz.R ≤ Qz.C ∧ Qz.C ≤ 100000 := ⟨hQk_Qz.2.2.1, hQk_Qz.2.1⟩
      have hfit_QzV1 := hG_QzV1.fits
      refine lv_iload_n hx hb d_Mo_or_41 rfl (lv_at hl 2 rfl) ?_
      refine lv_istore_n (lv' := [(2, .int (nI a9)), (0, .ref mo), (1, .int (nI Q.R)), (3, .int (nI a9))]) hx hb d_Mo_or_42 rfl hl (by decide) rfl (fun ls hl => ?_)
      refine lv_aload_n hx hb d_Mo_or_43 rfl (lv_at hl 1 rfl) ?_
      refine va_get (D := (dC, dI)) (ci := 13) (v := .int (nI j1)) (C := R_Mo) (T := F_Mo) (N := 30) hx hb hts in_Mo hown hK hP 0 rfl rfl 7 (by decide) (hts _ w_1096) (fun _ h9 => h9) (MFg (by decide) rf_7) d_Mo_or_44 ?_
      refine lv_istore (lv' := [(4, .int (nI j1)), (2, .int (nI a9)), (0, .ref mo), (1, .int (nI Q.R)), (3, .int (nI a9))]) hx hb d_Mo_or_47 hl (by decide) rfl (fun ls hl => ?_)
      refine lv_aload_n hx hb d_Mo_or_49 rfl (lv_at hl 2 rfl) ?_
      have hPc := hP.sub (ws' := [(mo, .inr (13, MF 30 (rf (rs v Qz o) j1 b1))), (qx, .inl (cB, NN, .inl f))]) [0, 1] rfl
      have hDc := hD.sub (ws' := [(mo, .inr (13, MF 30 (rf (rs v Qz o) j1 b1))), (qx, .inl (cB, NN, .inl f))]) [0, 1] (by decide) rfl
      have hKc := hK.sub (tys' := [(cB, .byte)]) [0] rfl
      have hFc := va_free (wc := [(mo, .inr (13, MF 30 (rf (rs v Qz o) j1 b1))), (qx, .inl (cB, NN, .inl f))]) hD hS hA [0, 1] rfl
      refine va_callv (va_runV (As := []) (rest := []) ⟨hx, hb, hml, hown, hts⟩ (c_Mo_blanks l dC dI mo H (rf (rs v Qz o) j1 b1) cB qx NN f n j1 (by omega) (by omega) (by omega) ((rf_ne (by decide) (by decide)).trans ((rs_ne (by decide) (by decide) (by decide) (by decide)).trans h6)) rf_7 ((rf_ne (by decide) (by decide)).trans ((rs_ne (by decide) (by decide) (by decide) (by decide)).trans h8))) (cwV 0 hts (gt_V (own := R_Mo) (C := R_Mo) (i := 184) (y := y_Mo_blanks) i_Mo_blanks w_1229 w_1231 (gt_sel (y := y_Mo_blanks) (n := 30) (by decide +kernel)) w_7) rfl rfl rfl (by decide +kernel) ⟨Nat.le_trans (m := 15) (Nat.le_of_ble_eq_true rfl) (Nat.le_add_right 15 (15 + G)), Nat.le_trans (m := 600) (Nat.le_of_ble_eq_true rfl) (Nat.le_add_right 600 (600 + M))⟩) ⟨mp_blind, va_recv hKc hPc (ci := 13) (q0 := 0) rfl rfl, fun U hU hW => ⟨rfl, hU, by rw [hU]; exact hPc, va_K.moved hW.alike hKc, hDc.weaken (fun _ _ _ _ => trivial)⟩⟩ rfl rfl hl.1 rfl (lv_room (Nat.le_of_ble_eq_true rfl)) d_Mo_or_50 ⟨hfit_QzV1.1, hfit_QzV1.2⟩) hS (fun q _ h => hFc q h) hFc (fun _u t9 H1 locs ht hvm hw hB hz1 hk1 hS => ?_)
      obtain ⟨hP1, hK1, hD1⟩ := hB
      rw [ht] at hP1
      obtain ⟨hP, hD⟩ := va_join (wr := [(Qz.qq, .inl (cI, (8 * Qz.C), .inl Qz.qf)), (Qz.qe, .inl (cL, (3 * Qz.C), .inr (.inl Qz.ef))), (tv, .inr (12, MF 13 (tw V1))), (V1.au, .inl (cC, V1.U, .inl V1.un))]) (w1 := [(mo, .inr (13, MF 30 (va_up (rf (rs v Qz o) j1 b1) 7 (.int (nI (skipH f n j1)))))), (qx, .inl (cB, NN, .inl f))]) hP hD [0, 1] [2, 3, 4, 5] rfl rfl (by decide) (by decide) hk1 hFc hP1 hD1
      generalize H1 = H at hP hS ⊢
      have hP : va_P (dC, dI) classes [(Qz.qq, .inl (cI, (8 * Qz.C), .inl Qz.qf)), (Qz.qe, .inl (cL, (3 * Qz.C), .inr (.inl Qz.ef))), (tv, .inr (12, MF 13 (tw V1))), (V1.au, .inl (cC, V1.U, .inl V1.un)), (mo, .inr (13, MF 30 (va_up (rf (rs v Qz o) j1 b1) 7 (.int (nI (skipH f n j1)))))), (qx, .inl (cB, NN, .inl f))] H := hP
      have hD : va_D A [(Qz.qq, .inl (cI, (8 * Qz.C), .inl Qz.qf)), (Qz.qe, .inl (cL, (3 * Qz.C), .inr (.inl Qz.ef))), (tv, .inr (12, MF 13 (tw V1))), (V1.au, .inl (cC, V1.U, .inl V1.un)), (mo, .inr (13, MF 30 (va_up (rf (rs v Qz o) j1 b1) 7 (.int (nI (skipH f n j1)))))), (qx, .inl (cB, NN, .inl f))] := hD
      have hP := hP.sub (ws' := [(mo, .inr (13, MF 30 (va_up (rf (rs v Qz o) j1 b1) 7 (.int (nI (skipH f n j1)))))), (qx, .inl (cB, NN, .inl f)), (Qz.qq, .inl (cI, (8 * Qz.C), .inl Qz.qf)), (Qz.qe, .inl (cL, (3 * Qz.C), .inr (.inl Qz.ef))), (tv, .inr (12, MF 13 (tw V1))), (V1.au, .inl (cC, V1.U, .inl V1.un))]) [4, 5, 0, 1, 2, 3] rfl
      have hD := hD.sub (ws' := [(mo, .inr (13, MF 30 (va_up (rf (rs v Qz o) j1 b1) 7 (.int (nI (skipH f n j1)))))), (qx, .inl (cB, NN, .inl f)), (Qz.qq, .inl (cI, (8 * Qz.C), .inl Qz.qf)), (Qz.qe, .inl (cL, (3 * Qz.C), .inr (.inl Qz.ef))), (tv, .inr (12, MF 13 (tw V1))), (V1.au, .inl (cC, V1.U, .inl V1.un))]) [4, 5, 0, 1, 2, 3] (by decide) rfl
      rw [rf_u7] at hP hD
      have hP : va_P (dC, dI) classes [(mo, .inr (13, MF 30 (rf (rs v Qz o) (skipH f n j1) b1))), (qx, .inl (cB, NN, .inl f)), (Qz.qq, .inl (cI, (8 * Qz.C), .inl Qz.qf)), (Qz.qe, .inl (cL, (3 * Qz.C), .inr (.inl Qz.ef))), (tv, .inr (12, MF 13 (tw V1))), (V1.au, .inl (cC, V1.U, .inl V1.un))] H := hP
      have hD : va_D A [(mo, .inr (13, MF 30 (rf (rs v Qz o) (skipH f n j1) b1))), (qx, .inl (cB, NN, .inl f)), (Qz.qq, .inl (cI, (8 * Qz.C), .inl Qz.qf)), (Qz.qe, .inl (cL, (3 * Qz.C), .inr (.inl Qz.ef))), (tv, .inr (12, MF 13 (tw V1))), (V1.au, .inl (cC, V1.U, .inl V1.un))] := hD
      have hsk_53 := skipH_n (f := f) (show j1 ≤ n by omega)
      refine lv_aload_n hx hb d_Mo_or_53 rfl (lv_at hl 2 rfl) ?_
      have hPc := hP.sub (ws' := [(mo, .inr (13, MF 30 (rf (rs v Qz o) (skipH f n j1) b1))), (qx, .inl (cB, NN, .inl f))]) [0, 1] rfl
      have hDc := hD.sub (ws' := [(mo, .inr (13, MF 30 (rf (rs v Qz o) (skipH f n j1) b1))), (qx, .inl (cB, NN, .inl f))]) [0, 1] (by decide) rfl
      have hKc := hK.sub (tys' := [(cB, .byte)]) [0] rfl
      have hFc := va_free (wc := [(mo, .inr (13, MF 30 (rf (rs v Qz o) (skipH f n j1) b1))), (qx, .inl (cB, NN, .inl f))]) hD hS hA [0, 1] rfl
      refine va_calli (va_runV (As := []) (rest := []) ⟨hx, hb, hml, hown, hts⟩ (c_Mo_c l dC dI mo H (rf (rs v Qz o) (skipH f n j1) b1) cB qx NN f n (skipH f n j1) (by omega) (by omega) (by omega) ((rf_ne (by decide) (by decide)).trans ((rs_ne (by decide) (by decide) (by decide) (by decide)).trans h6)) rf_7 ((rf_ne (by decide) (by decide)).trans ((rs_ne (by decide) (by decide) (by decide) (by decide)).trans h8))) (cwV 0 hts (gt_V (own := R_Mo) (C := R_Mo) (i := 147) (y := y_Mo_c) i_Mo_c w_1233 w_1235 (gt_sel (y := y_Mo_c) (n := 30) (by decide +kernel)) w_7) rfl rfl rfl (by decide +kernel) ⟨Nat.le_trans (m := 15) (Nat.le_of_ble_eq_true rfl) (Nat.le_add_right 15 (15 + G)), Nat.le_trans (m := 600) (Nat.le_of_ble_eq_true rfl) (Nat.le_add_right 600 (600 + M))⟩) ⟨mp_blind, va_recv hKc hPc (ci := 13) (q0 := 0) rfl rfl, fun U hU hW => ⟨rfl, hU, by rw [hU]; exact hPc, va_K.moved hW.alike hKc, hDc.weaken (fun _ _ _ _ => trivial)⟩⟩ rfl rfl hl.1 rfl (lv_room (Nat.le_of_ble_eq_true rfl)) d_Mo_or_54 ⟨hfit_QzV1.1, hfit_QzV1.2⟩) hS (fun q _ h => hFc q h) hFc (fun r6 _u t9 H1 locs ht hvm hw hB hz1 hk1 hS => ?_)
      obtain ⟨hP1, hK1, hD1⟩ := hB
      rw [ht] at hP1
      obtain ⟨hP, hD⟩ := va_join (wr := [(Qz.qq, .inl (cI, (8 * Qz.C), .inl Qz.qf)), (Qz.qe, .inl (cL, (3 * Qz.C), .inr (.inl Qz.ef))), (tv, .inr (12, MF 13 (tw V1))), (V1.au, .inl (cC, V1.U, .inl V1.un))]) (w1 := [(mo, .inr (13, MF 30 (rf (rs v Qz o) (skipH f n j1) b1))), (qx, .inl (cB, NN, .inl f))]) hP hD [0, 1] [2, 3, 4, 5] rfl rfl (by decide) (by decide) hk1 hFc hP1 hD1
      generalize H1 = H at hP hS ⊢
      have hP : va_P (dC, dI) classes [(Qz.qq, .inl (cI, (8 * Qz.C), .inl Qz.qf)), (Qz.qe, .inl (cL, (3 * Qz.C), .inr (.inl Qz.ef))), (tv, .inr (12, MF 13 (tw V1))), (V1.au, .inl (cC, V1.U, .inl V1.un)), (mo, .inr (13, MF 30 (rf (rs v Qz o) (skipH f n j1) b1))), (qx, .inl (cB, NN, .inl f))] H := hP
      have hD : va_D A [(Qz.qq, .inl (cI, (8 * Qz.C), .inl Qz.qf)), (Qz.qe, .inl (cL, (3 * Qz.C), .inr (.inl Qz.ef))), (tv, .inr (12, MF 13 (tw V1))), (V1.au, .inl (cC, V1.U, .inl V1.un)), (mo, .inr (13, MF 30 (rf (rs v Qz o) (skipH f n j1) b1))), (qx, .inl (cB, NN, .inl f))] := hD
      have hP := hP.sub (ws' := [(mo, .inr (13, MF 30 (rf (rs v Qz o) (skipH f n j1) b1))), (qx, .inl (cB, NN, .inl f)), (Qz.qq, .inl (cI, (8 * Qz.C), .inl Qz.qf)), (Qz.qe, .inl (cL, (3 * Qz.C), .inr (.inl Qz.ef))), (tv, .inr (12, MF 13 (tw V1))), (V1.au, .inl (cC, V1.U, .inl V1.un))]) [4, 5, 0, 1, 2, 3] rfl
      have hD := hD.sub (ws' := [(mo, .inr (13, MF 30 (rf (rs v Qz o) (skipH f n j1) b1))), (qx, .inl (cB, NN, .inl f)), (Qz.qq, .inl (cI, (8 * Qz.C), .inl Qz.qf)), (Qz.qe, .inl (cL, (3 * Qz.C), .inr (.inl Qz.ef))), (tv, .inr (12, MF 13 (tw V1))), (V1.au, .inl (cC, V1.U, .inl V1.un))]) [4, 5, 0, 1, 2, 3] (by decide) rfl
      have h_r6 : r6 = hereV f n (skipH f n j1) := hw
      refine lv_bipush (v := 124) hx hb d_Mo_or_57 (by decide) ?_
      refine lv_icmp_eq (tgt := 70) hx hb d_Mo_or_59 (by decide) (fun c59 => ?_) (fun c59 => ?_)
      · refine lv_aload_n hx hb d_Mo_or_70 rfl (lv_at hl 2 rfl) ?_
        refine va_ldcwS hx hb hown (hM 7 _ rfl).2 d_Mo_or_71 ?_
        have hE := (hM 7 _ rfl).1
        have hPc := hP.sub (ws' := [(mo, .inr (13, MF 30 (rf (rs v Qz o) (skipH f n j1) b1))), (qx, .inl (cB, NN, .inl f))]) [0, 1] rfl
        have hDc := hD.sub (ws' := [(mo, .inr (13, MF 30 (rf (rs v Qz o) (skipH f n j1) b1))), (qx, .inl (cB, NN, .inl f))]) [0, 1] (by decide) rfl
        have hKc := hK.sub (tys' := [(cB, .byte)]) [0] rfl
        have hFc := va_free (wc := [(mo, .inr (13, MF 30 (rf (rs v Qz o) (skipH f n j1) b1))), (qx, .inl (cB, NN, .inl f))]) hD hS hA [0, 1] rfl
        refine va_calli (va_runV (As := [.ref (K 7).1]) (rest := []) ⟨hx, hb, hml, hown, hts⟩ (c_Mo_wordS l dC dI mo H (rf (rs v Qz o) (skipH f n j1) b1) cB qx NN f (K 7).1 (K 7).2 2 (mtx 7) n (skipH f n j1) (by omega) (by omega) (by omega) ((rf_ne (by decide) (by decide)).trans ((rs_ne (by decide) (by decide) (by decide) (by decide)).trans h6)) rf_7 ((rf_ne (by decide) (by decide)).trans ((rs_ne (by decide) (by decide) (by decide) (by decide)).trans h8)) b1 rf_9 (by decide)) (cwV 1 hts (gt_V (own := R_Mo) (C := R_Mo) (i := 193) (y := y_Mo_wordS) i_Mo_wordS w_1240 w_1242 (gt_sel (y := y_Mo_wordS) (n := 30) (by decide +kernel)) w_7) rfl rfl rfl (by decide +kernel) ⟨Nat.le_trans (m := 15) (Nat.le_of_ble_eq_true rfl) (Nat.le_add_right 15 (15 + G)), Nat.le_trans (m := 600) (Nat.le_of_ble_eq_true rfl) (Nat.le_add_right 600 (600 + M))⟩) ⟨mstr_blind, va_recv hKc hPc (ci := 13) (q0 := 0) rfl rfl, fun U hU hW => ⟨rfl, ⟨hU, by rw [hU]; exact hPc, va_K.moved hW.alike hKc, hDc.weaken (fun _ _ _ _ => trivial)⟩, by rw [hU]; exact SX.moved' hW.alike (SX.narrow' (SX.kept' hE hS.2.1) hFc)⟩⟩ rfl rfl hl.1 rfl (lv_room (Nat.le_of_ble_eq_true rfl)) d_Mo_or_74 ⟨hfit_QzV1.1, hfit_QzV1.2⟩) hS (fun q _ h => hFc q h) hFc (fun r0 u2 t9 H1 locs ht hvm hw hB hz1 hk1 hS => ?_)
        obtain ⟨hP1, hK1, hD1⟩ := hB
        rw [ht] at hP1
        obtain ⟨hP, hD⟩ := va_join (wr := [(Qz.qq, .inl (cI, (8 * Qz.C), .inl Qz.qf)), (Qz.qe, .inl (cL, (3 * Qz.C), .inr (.inl Qz.ef))), (tv, .inr (12, MF 13 (tw V1))), (V1.au, .inl (cC, V1.U, .inl V1.un))]) (w1 := [(mo, .inr (13, MF 30 u2)), (qx, .inl (cB, NN, .inl f))]) hP hD [0, 1] [2, 3, 4, 5] rfl rfl (by decide) (by decide) hk1 hFc hP1 hD1
        generalize H1 = H at hP hS ⊢
        have hP : va_P (dC, dI) classes [(Qz.qq, .inl (cI, (8 * Qz.C), .inl Qz.qf)), (Qz.qe, .inl (cL, (3 * Qz.C), .inr (.inl Qz.ef))), (tv, .inr (12, MF 13 (tw V1))), (V1.au, .inl (cC, V1.U, .inl V1.un)), (mo, .inr (13, MF 30 u2)), (qx, .inl (cB, NN, .inl f))] H := hP
        have hD : va_D A [(Qz.qq, .inl (cI, (8 * Qz.C), .inl Qz.qf)), (Qz.qe, .inl (cL, (3 * Qz.C), .inr (.inl Qz.ef))), (tv, .inr (12, MF 13 (tw V1))), (V1.au, .inl (cC, V1.U, .inl V1.un)), (mo, .inr (13, MF 30 u2)), (qx, .inl (cB, NN, .inl f))] := hD
        have hP := hP.sub (ws' := [(mo, .inr (13, MF 30 u2)), (qx, .inl (cB, NN, .inl f)), (Qz.qq, .inl (cI, (8 * Qz.C), .inl Qz.qf)), (Qz.qe, .inl (cL, (3 * Qz.C), .inr (.inl Qz.ef))), (tv, .inr (12, MF 13 (tw V1))), (V1.au, .inl (cC, V1.U, .inl V1.un))]) [4, 5, 0, 1, 2, 3] rfl
        have hD := hD.sub (ws' := [(mo, .inr (13, MF 30 u2)), (qx, .inl (cB, NN, .inl f)), (Qz.qq, .inl (cI, (8 * Qz.C), .inl Qz.qf)), (Qz.qe, .inl (cL, (3 * Qz.C), .inr (.inl Qz.ef))), (tv, .inr (12, MF 13 (tw V1))), (V1.au, .inl (cC, V1.U, .inl V1.un))]) [4, 5, 0, 1, 2, 3] (by decide) rfl
        rcases hw with ⟨hwm, hw2, hw3⟩ | ⟨hwm, hw2, k9, hw3⟩
        · rw [rf_u7] at hw3
          rw [hw3] at hP hD
          subst hw2
          have hP : va_P (dC, dI) classes [(mo, .inr (13, MF 30 (rf (rs v Qz o) ((skipH f n j1) + 2) b1))), (qx, .inl (cB, NN, .inl f)), (Qz.qq, .inl (cI, (8 * Qz.C), .inl Qz.qf)), (Qz.qe, .inl (cL, (3 * Qz.C), .inr (.inl Qz.ef))), (tv, .inr (12, MF 13 (tw V1))), (V1.au, .inl (cC, V1.U, .inl V1.un))] H := hP
          have hD : va_D A [(mo, .inr (13, MF 30 (rf (rs v Qz o) ((skipH f n j1) + 2) b1))), (qx, .inl (cB, NN, .inl f)), (Qz.qq, .inl (cI, (8 * Qz.C), .inl Qz.qf)), (Qz.qe, .inl (cL, (3 * Qz.C), .inr (.inl Qz.ef))), (tv, .inr (12, MF 13 (tw V1))), (V1.au, .inl (cC, V1.U, .inl V1.un))] := hD
          have hwlt := mtch_le (k := 1) hwm (by decide)
          have hwb : mtB f n (skipH f n j1) (mtx 7) 2 = true := mtB_iff.mpr hwm
          refine lv_if_ne (tgt := 82) hx hb d_Mo_or_77 (by decide) (fun _ => ?_) (fun h => absurd h (by decide))
          refine lv_aload_n hx hb d_Mo_or_82 rfl (lv_at hl 2 rfl) ?_
          have hPc := hP.sub (ws' := [(mo, .inr (13, MF 30 (rf (rs v Qz o) ((skipH f n j1) + 2) b1))), (qx, .inl (cB, NN, .inl f))]) [0, 1] rfl
          have hDc := hD.sub (ws' := [(mo, .inr (13, MF 30 (rf (rs v Qz o) ((skipH f n j1) + 2) b1))), (qx, .inl (cB, NN, .inl f))]) [0, 1] (by decide) rfl
          have hKc := hK.sub (tys' := [(cB, .byte)]) [0] rfl
          have hFc := va_free (wc := [(mo, .inr (13, MF 30 (rf (rs v Qz o) ((skipH f n j1) + 2) b1))), (qx, .inl (cB, NN, .inl f))]) hD hS hA [0, 1] rfl
          refine va_callv (va_runV (As := []) (rest := []) ⟨hx, hb, hml, hown, hts⟩ (c_Mo_blanks l dC dI mo H (rf (rs v Qz o) ((skipH f n j1) + 2) b1) cB qx NN f n ((skipH f n j1) + 2) (by omega) (by omega) (by omega) ((rf_ne (by decide) (by decide)).trans ((rs_ne (by decide) (by decide) (by decide) (by decide)).trans h6)) rf_7 ((rf_ne (by decide) (by decide)).trans ((rs_ne (by decide) (by decide) (by decide) (by decide)).trans h8))) (cwV 0 hts (gt_V (own := R_Mo) (C := R_Mo) (i := 184) (y := y_Mo_blanks) i_Mo_blanks w_1229 w_1231 (gt_sel (y := y_Mo_blanks) (n := 30) (by decide +kernel)) w_7) rfl rfl rfl (by decide +kernel) ⟨Nat.le_trans (m := 15) (Nat.le_of_ble_eq_true rfl) (Nat.le_add_right 15 (15 + G)), Nat.le_trans (m := 600) (Nat.le_of_ble_eq_true rfl) (Nat.le_add_right 600 (600 + M))⟩) ⟨mp_blind, va_recv hKc hPc (ci := 13) (q0 := 0) rfl rfl, fun U hU hW => ⟨rfl, hU, by rw [hU]; exact hPc, va_K.moved hW.alike hKc, hDc.weaken (fun _ _ _ _ => trivial)⟩⟩ rfl rfl hl.1 rfl (lv_room (Nat.le_of_ble_eq_true rfl)) d_Mo_or_83 ⟨hfit_QzV1.1, hfit_QzV1.2⟩) hS (fun q _ h => hFc q h) hFc (fun _u t9 H1 locs ht hvm hw hB hz1 hk1 hS => ?_)
          obtain ⟨hP1, hK1, hD1⟩ := hB
          rw [ht] at hP1
          obtain ⟨hP, hD⟩ := va_join (wr := [(Qz.qq, .inl (cI, (8 * Qz.C), .inl Qz.qf)), (Qz.qe, .inl (cL, (3 * Qz.C), .inr (.inl Qz.ef))), (tv, .inr (12, MF 13 (tw V1))), (V1.au, .inl (cC, V1.U, .inl V1.un))]) (w1 := [(mo, .inr (13, MF 30 (va_up (rf (rs v Qz o) ((skipH f n j1) + 2) b1) 7 (.int (nI (skipH f n ((skipH f n j1) + 2))))))), (qx, .inl (cB, NN, .inl f))]) hP hD [0, 1] [2, 3, 4, 5] rfl rfl (by decide) (by decide) hk1 hFc hP1 hD1
          generalize H1 = H at hP hS ⊢
          have hP : va_P (dC, dI) classes [(Qz.qq, .inl (cI, (8 * Qz.C), .inl Qz.qf)), (Qz.qe, .inl (cL, (3 * Qz.C), .inr (.inl Qz.ef))), (tv, .inr (12, MF 13 (tw V1))), (V1.au, .inl (cC, V1.U, .inl V1.un)), (mo, .inr (13, MF 30 (va_up (rf (rs v Qz o) ((skipH f n j1) + 2) b1) 7 (.int (nI (skipH f n ((skipH f n j1) + 2))))))), (qx, .inl (cB, NN, .inl f))] H := hP
          have hD : va_D A [(Qz.qq, .inl (cI, (8 * Qz.C), .inl Qz.qf)), (Qz.qe, .inl (cL, (3 * Qz.C), .inr (.inl Qz.ef))), (tv, .inr (12, MF 13 (tw V1))), (V1.au, .inl (cC, V1.U, .inl V1.un)), (mo, .inr (13, MF 30 (va_up (rf (rs v Qz o) ((skipH f n j1) + 2) b1) 7 (.int (nI (skipH f n ((skipH f n j1) + 2))))))), (qx, .inl (cB, NN, .inl f))] := hD
          have hP := hP.sub (ws' := [(mo, .inr (13, MF 30 (va_up (rf (rs v Qz o) ((skipH f n j1) + 2) b1) 7 (.int (nI (skipH f n ((skipH f n j1) + 2))))))), (qx, .inl (cB, NN, .inl f)), (Qz.qq, .inl (cI, (8 * Qz.C), .inl Qz.qf)), (Qz.qe, .inl (cL, (3 * Qz.C), .inr (.inl Qz.ef))), (tv, .inr (12, MF 13 (tw V1))), (V1.au, .inl (cC, V1.U, .inl V1.un))]) [4, 5, 0, 1, 2, 3] rfl
          have hD := hD.sub (ws' := [(mo, .inr (13, MF 30 (va_up (rf (rs v Qz o) ((skipH f n j1) + 2) b1) 7 (.int (nI (skipH f n ((skipH f n j1) + 2))))))), (qx, .inl (cB, NN, .inl f)), (Qz.qq, .inl (cI, (8 * Qz.C), .inl Qz.qf)), (Qz.qe, .inl (cL, (3 * Qz.C), .inr (.inl Qz.ef))), (tv, .inr (12, MF 13 (tw V1))), (V1.au, .inl (cC, V1.U, .inl V1.un))]) [4, 5, 0, 1, 2, 3] (by decide) rfl
          rw [rf_u7] at hP hD
          have hP : va_P (dC, dI) classes [(mo, .inr (13, MF 30 (rf (rs v Qz o) (skipH f n ((skipH f n j1) + 2)) b1))), (qx, .inl (cB, NN, .inl f)), (Qz.qq, .inl (cI, (8 * Qz.C), .inl Qz.qf)), (Qz.qe, .inl (cL, (3 * Qz.C), .inr (.inl Qz.ef))), (tv, .inr (12, MF 13 (tw V1))), (V1.au, .inl (cC, V1.U, .inl V1.un))] H := hP
          have hD : va_D A [(mo, .inr (13, MF 30 (rf (rs v Qz o) (skipH f n ((skipH f n j1) + 2)) b1))), (qx, .inl (cB, NN, .inl f)), (Qz.qq, .inl (cI, (8 * Qz.C), .inl Qz.qf)), (Qz.qe, .inl (cL, (3 * Qz.C), .inr (.inl Qz.ef))), (tv, .inr (12, MF 13 (tw V1))), (V1.au, .inl (cC, V1.U, .inl V1.un))] := hD
          have hsk_86 := skipH_n (f := f) (show ((skipH f n j1) + 2) ≤ n by omega)
          refine lv_goto (tgt := 9) hx hb d_Mo_or_86 (by decide) ?_
          refine w_same (fun hq => ?_)
          refine W.widen (k := kcap Q (Q.R + 8 * (n - i) + 3) + qcap V (V.us + (n + 12 - i))) (n := 22 * kcap Q (Q.R + 8 * (n - i) + 3) + 2 * qcap V (V.us + (n + 12 - i))) hfit_QzV1.1 hfit_QzV1.2 ?_
          have hst : liP f n (anP f n ok (orL f n) (cmL f n) (qyL f n)) 124 7 m0 (skipH f n ((skipH f n j1) + 2)) (ac ++ [g9]) = liP f n (anP f n ok (orL f n) (cmL f n) (qyL f n)) 124 7 (n + 1) i [] := by rw [← hI6, hm0]; exact (liP_s hv_2 (h_r6.symm.trans c59) hwb).symm
          exact ih (Qz, V1, m0, (skipH f n ((skipH f n j1) + 2)), b1, nI a9, ac ++ [g9]) _ _ _ ⟨hCHz, hf0z, hf1z, hQk_Qz, hTk_V1, hG_QzV1, ⟨_, hXc.trans hX_V1⟩, by omega, by omega, by omega, by omega, by omega, hst, hq⟩ (by show n + 1 - (skipH f n ((skipH f n j1) + 2)) < n + 1 - j; omega) hP hD hS (lv_sub hl [2, 3, 1] rfl)
        · rw [rf_u7] at hw3
          obtain ⟨b4, h_b4⟩ := rf_fail (v := (rs v Qz o)) (i := k9) (br := b1) (b2 := b1) (wh := nI k9)
          rw [h_b4] at hw3
          rw [hw3] at hP hD
          subst hw2
          have hP : va_P (dC, dI) classes [(mo, .inr (13, MF 30 (rf (rs v Qz o) k9 b4))), (qx, .inl (cB, NN, .inl f)), (Qz.qq, .inl (cI, (8 * Qz.C), .inl Qz.qf)), (Qz.qe, .inl (cL, (3 * Qz.C), .inr (.inl Qz.ef))), (tv, .inr (12, MF 13 (tw V1))), (V1.au, .inl (cC, V1.U, .inl V1.un))] H := hP
          have hD : va_D A [(mo, .inr (13, MF 30 (rf (rs v Qz o) k9 b4))), (qx, .inl (cB, NN, .inl f)), (Qz.qq, .inl (cI, (8 * Qz.C), .inl Qz.qf)), (Qz.qe, .inl (cL, (3 * Qz.C), .inr (.inl Qz.ef))), (tv, .inr (12, MF 13 (tw V1))), (V1.au, .inl (cC, V1.U, .inl V1.un))] := hD
          have hwb : ¬ mtB f n (skipH f n j1) (mtx 7) 2 = true := fun h => hwm (mtB_iff.mp h)
          refine lv_if_ne (tgt := 82) hx hb d_Mo_or_77 (by decide) (fun h => absurd h (by decide)) (fun _ => ?_)
          refine lv_iconst (v := (-1)) hx hb d_Mo_or_80 (by decide) ?_
          have hfin : orP f n ok (orL f n) (cmL f n) (qyL f n) i = none := by rw [hlp0, ← hI6, hm0, liP_b hv_2 (h_r6.symm.trans c59) hwb]; rfl
          refine w_same (fun hq => ?_)
          refine W.widen (k := kcap Q (Q.R + 8 * (n - i) + 3) + qcap V (V.us + (n + 12 - i))) (n := 22 * kcap Q (Q.R + 8 * (n - i) + 3) + 2 * qcap V (V.us + (n + 12 - i))) hfit_QzV1.1 hfit_QzV1.2 ?_
          have hPo : QPo n i 3 Q V (Qz, V1, k9, b4, o) := ⟨hQk_Qz, hG_QzV1, ⟨_, (hXc.trans hX_V1), by rw [List.length_append]; omega⟩, by show Q.R ≤ Qz.R; omega, by show Qz.R ≤ Q.R + 8 * (n - i) + 3; omega⟩
          exact W.iret (v := -1) hx hb hr (fun t9 ht hW => ⟨⟨-1, (Qz, V1, k9, b4, o), rfl, ⟨hPo, Or.inr ⟨rfl, hfin⟩⟩, ⟨by rw [ht]; exact hP, va_K.moved hW.alike hK, hD⟩, by rw [ht]; exact hq⟩, hS.F ht⟩) hS.2.2 d_Mo_or_81
      · refine lv_aload_n hx hb d_Mo_or_62 rfl (lv_at hl 2 rfl) ?_
        refine lv_iload hx hb d_Mo_or_63 (lv_at hl 0 rfl) ?_
        refine va_put (D := (dC, dI)) (ci := 13) (v := .int (nI j1)) (ty := .int) (C := R_Mo) (T := F_Mo) (N := 30) hx hb hts in_Mo t_Mo t_Mo_ok n_Mo hown hK hP hD hS 0 rfl rfl 7 (by decide) (hts _ w_1096) (fun _ h9 => h9) rfl (by decide +kernel) rfl rfl (by rw [MFl]; decide) d_Mo_or_65 (fun H locs hP hD hS => ?_)
        rw [MFs (n := 30) (k := 7) (by decide)] at hP hD
        have hP : va_P (dC, dI) classes [(mo, .inr (13, MF 30 (va_up (rf (rs v Qz o) (skipH f n j1) b1) 7 (.int (nI j1))))), (qx, .inl (cB, NN, .inl f)), (Qz.qq, .inl (cI, (8 * Qz.C), .inl Qz.qf)), (Qz.qe, .inl (cL, (3 * Qz.C), .inr (.inl Qz.ef))), (tv, .inr (12, MF 13 (tw V1))), (V1.au, .inl (cC, V1.U, .inl V1.un))] H := hP
        have hD : va_D A [(mo, .inr (13, MF 30 (va_up (rf (rs v Qz o) (skipH f n j1) b1) 7 (.int (nI j1))))), (qx, .inl (cB, NN, .inl f)), (Qz.qq, .inl (cI, (8 * Qz.C), .inl Qz.qf)), (Qz.qe, .inl (cL, (3 * Qz.C), .inr (.inl Qz.ef))), (tv, .inr (12, MF 13 (tw V1))), (V1.au, .inl (cC, V1.U, .inl V1.un))] := hD
        rw [rf_u7] at hP hD
        have hP : va_P (dC, dI) classes [(mo, .inr (13, MF 30 (rf (rs v Qz o) j1 b1))), (qx, .inl (cB, NN, .inl f)), (Qz.qq, .inl (cI, (8 * Qz.C), .inl Qz.qf)), (Qz.qe, .inl (cL, (3 * Qz.C), .inr (.inl Qz.ef))), (tv, .inr (12, MF 13 (tw V1))), (V1.au, .inl (cC, V1.U, .inl V1.un))] H := hP
        have hD : va_D A [(mo, .inr (13, MF 30 (rf (rs v Qz o) j1 b1))), (qx, .inl (cB, NN, .inl f)), (Qz.qq, .inl (cI, (8 * Qz.C), .inl Qz.qf)), (Qz.qe, .inl (cL, (3 * Qz.C), .inr (.inl Qz.ef))), (tv, .inr (12, MF 13 (tw V1))), (V1.au, .inl (cC, V1.U, .inl V1.un))] := hD
        refine lv_iload_n hx hb d_Mo_or_68 rfl (lv_at hl 3 rfl) ?_
        have hfin : orP f n ok (orL f n) (cmL f n) (qyL f n) i = some (j1, anyC_ (ac ++ [g9])) := by rw [hlp0, ← hI6, hm0, liP_e hv_2 (fun h => c59 (h_r6.trans h))]; rfl
        have hOW : ORf O C Y Qz V1 Q.R Qz.R Q.R (anyC_ (ac ++ [g9])) := ⟨Nat.le_refl _, hCHz.1, hf0z, ac ++ [g9], hCHz.all ANDf_in, rfl⟩
        have hczl := hCHz.1
        refine w_same (fun hq => ?_)
        refine W.widen (k := kcap Q (Q.R + 8 * (n - i) + 3) + qcap V (V.us + (n + 12 - i))) (n := 22 * kcap Q (Q.R + 8 * (n - i) + 3) + 2 * qcap V (V.us + (n + 12 - i))) hfit_QzV1.1 hfit_QzV1.2 ?_
        have hPo : QPo n i 3 Q V (Qz, V1, j1, b1, o) := ⟨hQk_Qz, hG_QzV1, ⟨_, (hXc.trans hX_V1), by rw [List.length_append]; omega⟩, by show Q.R ≤ Qz.R; omega, by show Qz.R ≤ Q.R + 8 * (n - i) + 3; omega⟩
        exact W.iret (v := nI Q.R) hx hb hr (fun t9 ht hW => ⟨⟨nI Q.R, (Qz, V1, j1, b1, o), rfl, ⟨hPo, Or.inl ⟨_, rfl, hfin, hOW, hCHz.ex, by show Qz.R + 8 * i + 3 ≤ Q.R + 8 * j1; omega, by show V1.us + i ≤ V.us + j1; omega, by show j1 ≤ n; omega, hCHz.1, rfl⟩⟩, ⟨by rw [ht]; exact hP, va_K.moved hW.alike hK, hD⟩, by rw [ht]; exact hq⟩, hS.F ht⟩) hS.2.2 d_Mo_or_69
  · have hv_2 : anP f n ok (orL f n) (cmL f n) (qyL f n) j = none := hv_2
    subst hv_1
    refine lv_istore_n (lv' := [(3, .int (-1)), (0, .ref mo), (1, .int (nI Q.R)), (2, .int bf)]) hx hb d_Mo_or_13 rfl hl (by decide) rfl (fun ls hl => ?_)
    refine lv_iload_n hx hb d_Mo_or_14 rfl (lv_at hl 0 rfl) ?_
    refine lv_if_ge (tgt := 20) hx hb d_Mo_or_15 (by decide) (fun h => absurd h (by decide)) (fun _ => ?_)
    refine lv_iconst (v := (-1)) hx hb d_Mo_or_18 (by decide) ?_
    have hfin : orP f n ok (orL f n) (cmL f n) (qyL f n) i = none := by rw [hlp0, ← hI6, hm0, liP_n hv_2]; rfl
    refine w_same (fun hq => ?_)
    refine W.widen (k := kcap Q (Q.R + 8 * (n - i) + 3) + qcap V (V.us + (n + 12 - i))) (n := 22 * kcap Q (Q.R + 8 * (n - i) + 3) + 2 * qcap V (V.us + (n + 12 - i))) hfit_Q1V1.1 hfit_Q1V1.2 ?_
    have hPo : QPo n i 3 Q V (Q1, V1, j1, b1, o1) := ⟨hQk_Q1, hG_Q1V1, ⟨_, (hXc.trans hX_V1), by rw [List.length_append]; omega⟩, by show Q.R ≤ Q1.R; omega, by show Q1.R ≤ Q.R + 8 * (n - i) + 3; omega⟩
    exact W.iret (v := -1) hx hb hr (fun t9 ht hW => ⟨⟨-1, (Q1, V1, j1, b1, o1), rfl, ⟨hPo, Or.inr ⟨rfl, hfin⟩⟩, ⟨by rw [ht]; exact hP, va_K.moved hW.alike hK, hD⟩, by rw [ht]; exact hq⟩, hS.F ht⟩) hS.2.2 d_Mo_or_19
