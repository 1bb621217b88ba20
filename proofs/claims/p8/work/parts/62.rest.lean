theorem w_1415 : (.methodLink "QueryBenchModel" 275 ⟨"QueryBenchModel", "segment", "(IZ)I"⟩ : Cond) ∈ gtbl := gt_in 1415 (by decide +kernel) (by decide +kernel)
theorem w_1417 : (.instanceMethod ⟨"QueryBenchModel", "segment", "(IZ)I"⟩ : Cond) ∈ gtbl := gt_in 1417 (by decide +kernel) (by decide +kernel)
section
variable {f : Nat → Int32} {n : Nat} {ok : Bool} {orL : Nat → Option (Nat × CT)} {sg : Bool} {k i : Nat} {fl : Bool} {p : Nat × Bool × QT} {ac : List QT}
theorem qrL_e (h1 : ¬ hereV f n (skipH f n i) = 46) (h2 : ¬ hereV f n (skipH f n i) = 91) : qrL f n ok orL sg (k + 1) i fl ac = some (i, fl, ac) := by simp only [qrL]; rw [if_pos ⟨h1, h2⟩]
theorem qrL_n (h1 : hereV f n (skipH f n i) = 46 ∨ hereV f n (skipH f n i) = 91) (h2 : sgP f n ok orL sg (skipH f n i) = none) : qrL f n ok orL sg (k + 1) i fl ac = none := by simp only [qrL, h2]; rw [if_neg (fun h => h1.elim h.1 h.2)]
theorem qrL_s (h1 : hereV f n (skipH f n i) = 46 ∨ hereV f n (skipH f n i) = 91) (h2 : sgP f n ok orL sg (skipH f n i) = some p) : qrL f n ok orL sg (k + 1) i fl ac = qrL f n ok orL sg k p.1 (fl && p.2.1) (ac ++ [p.2.2]) := by simp only [qrL, h2]; rw [if_neg (fun h => h1.elim h.1 h.2)]
end
theorem b_ifs {fl fl1 : Bool} {a b : Int32} (h1 : b = (if fl1 = true then a else 0)) (h2 : a = (if fl = true then 1 else 0)) : b = (if (fl && fl1) = true then 1 else 0) := by rw [h1, h2]; cases fl <;> cases fl1 <;> rfl
/-- a query begun at row R0 -/
theorem CHi.st {M : Type} {lk : Nat} {P : QP M} {Q0 Q : QS} {V0 : TS} {R0 : Nat} (hR : Q.R = R0 + 1) (h1 : alr Q0 V0 Q V0 0 R0) (h2 : Q.qf (8 * R0 + 2) = -1) : CHi lk P Q0 V0 R0 Q V0 (-1) [] := ⟨by omega, Or.inl ⟨h2, rfl, rfl⟩, Or.inl ⟨rfl, rfl⟩, fun r k r1 hk => h1.1 r k (Nat.zero_le _) r1 hk, h1.2⟩
theorem ds_1 {rt : Bool} {x : Int32} (h : x = if rt = true then 1 else 0) (h0 : ¬ x = 0) : (1 : Int32) = if rt = true then 1 else 0 := by
  cases rt with
  | false => exact absurd h h0
  | true => rfl
def QRo (f : Nat → Int32) (ok : Bool) (orL : Nat → Option (Nat × CT)) (O : QP CT) (sg rt : Bool) (n i o : Nat) (Q : QS) (V : TS) (res : Int32) (u : QS × TS × Nat × Int32 × Nat) : Prop := QPo n i 9 Q V u ∧ ((∃ fl m, res = nI Q.R ∧ qrP f n ok orL sg rt i = some (u.2.2.1, fl, m) ∧ QRYp O u.1 u.2.1 Q.R u.1.R Q.R m ∧ alr Q V u.1 u.2.1 0 Q.R ∧ u.1.qf (8 * Q.R + 3) = (if fl = true then 1 else 0) ∧ u.1.R + 8 * i ≤ Q.R + 8 * u.2.2.1 + 1 ∧ u.2.1.us + i ≤ V.us + u.2.2.1 ∧ u.2.2.1 ≤ n ∧ Q.R < u.1.R ∧ u.2.2.2.2 = o) ∨ (res = -1 ∧ qrP f n ok orL sg rt i = none))
abbrev b_Mo_queryRest : ByteArray := prog_14_method_39_code
def y_Mo_queryRest : MethodName := ⟨"QueryBenchModel", "queryRest", "(ZZ)I"⟩
abbrev k_Mo_queryRest : Cond := .code y_Mo_queryRest b_Mo_queryRest 7 (some .int)
theorem i_Mo_queryRest : k_Mo_queryRest ∈ gtbl := gt_in 1406 (by decide +kernel) (by decide +kernel)
theorem d_Mo_queryRest_0 : decode b_Mo_queryRest 0 = .ok (.aload_n 0, 1) := by decide +kernel
theorem d_Mo_queryRest_1 : decode b_Mo_queryRest 1 = .ok (.bipush 20, 2) := by decide +kernel
theorem d_Mo_queryRest_3 : decode b_Mo_queryRest 3 = .ok (.invokevirtual 269, 3) := by decide +kernel
theorem d_Mo_queryRest_6 : decode b_Mo_queryRest 6 = .ok (.istore_n 3, 1) := by decide +kernel
theorem d_Mo_queryRest_7 : decode b_Mo_queryRest 7 = .ok (.aload_n 0, 1) := by decide +kernel
theorem d_Mo_queryRest_8 : decode b_Mo_queryRest 8 = .ok (.iload_n 3, 1) := by decide +kernel
theorem d_Mo_queryRest_9 : decode b_Mo_queryRest 9 = .ok (.iconst 1, 1) := by decide +kernel
theorem d_Mo_queryRest_10 : decode b_Mo_queryRest 10 = .ok (.iload_n 1, 1) := by decide +kernel
theorem d_Mo_queryRest_11 : decode b_Mo_queryRest 11 = .ok (.ifCond .eq 7, 3) := by decide +kernel
theorem d_Mo_queryRest_14 : decode b_Mo_queryRest 14 = .ok (.iconst 1, 1) := by decide +kernel
theorem d_Mo_queryRest_15 : decode b_Mo_queryRest 15 = .ok (.goto 4, 3) := by decide +kernel
theorem d_Mo_queryRest_18 : decode b_Mo_queryRest 18 = .ok (.iconst 0, 1) := by decide +kernel
theorem d_Mo_queryRest_19 : decode b_Mo_queryRest 19 = .ok (.invokevirtual 272, 3) := by decide +kernel
theorem d_Mo_queryRest_22 : decode b_Mo_queryRest 22 = .ok (.aload_n 0, 1) := by decide +kernel
theorem d_Mo_queryRest_23 : decode b_Mo_queryRest 23 = .ok (.iload_n 3, 1) := by decide +kernel
theorem d_Mo_queryRest_24 : decode b_Mo_queryRest 24 = .ok (.iconst 3, 1) := by decide +kernel
theorem d_Mo_queryRest_25 : decode b_Mo_queryRest 25 = .ok (.iconst 1, 1) := by decide +kernel
theorem d_Mo_queryRest_26 : decode b_Mo_queryRest 26 = .ok (.invokevirtual 272, 3) := by decide +kernel
theorem d_Mo_queryRest_29 : decode b_Mo_queryRest 29 = .ok (.iconst (-1), 1) := by decide +kernel
theorem d_Mo_queryRest_30 : decode b_Mo_queryRest 30 = .ok (.istore 4, 2) := by decide +kernel
theorem d_Mo_queryRest_32 : decode b_Mo_queryRest 32 = .ok (.aload_n 0, 1) := by decide +kernel
theorem d_Mo_queryRest_33 : decode b_Mo_queryRest 33 = .ok (.getfield 135, 3) := by decide +kernel
theorem d_Mo_queryRest_36 : decode b_Mo_queryRest 36 = .ok (.istore 5, 2) := by decide +kernel
theorem d_Mo_queryRest_38 : decode b_Mo_queryRest 38 = .ok (.aload_n 0, 1) := by decide +kernel
theorem d_Mo_queryRest_39 : decode b_Mo_queryRest 39 = .ok (.invokevirtual 184, 3) := by decide +kernel
theorem d_Mo_queryRest_42 : decode b_Mo_queryRest 42 = .ok (.aload_n 0, 1) := by decide +kernel
theorem d_Mo_queryRest_43 : decode b_Mo_queryRest 43 = .ok (.invokevirtual 147, 3) := by decide +kernel
theorem d_Mo_queryRest_46 : decode b_Mo_queryRest 46 = .ok (.bipush 46, 2) := by decide +kernel
theorem d_Mo_queryRest_48 : decode b_Mo_queryRest 48 = .ok (.if_icmp .eq 20, 3) := by decide +kernel
theorem d_Mo_queryRest_51 : decode b_Mo_queryRest 51 = .ok (.aload_n 0, 1) := by decide +kernel
theorem d_Mo_queryRest_52 : decode b_Mo_queryRest 52 = .ok (.invokevirtual 147, 3) := by decide +kernel
theorem d_Mo_queryRest_55 : decode b_Mo_queryRest 55 = .ok (.bipush 91, 2) := by decide +kernel
theorem d_Mo_queryRest_57 : decode b_Mo_queryRest 57 = .ok (.if_icmp .eq 11, 3) := by decide +kernel
theorem d_Mo_queryRest_60 : decode b_Mo_queryRest 60 = .ok (.aload_n 0, 1) := by decide +kernel
theorem d_Mo_queryRest_61 : decode b_Mo_queryRest 61 = .ok (.iload 5, 2) := by decide +kernel
theorem d_Mo_queryRest_63 : decode b_Mo_queryRest 63 = .ok (.putfield 135, 3) := by decide +kernel
theorem d_Mo_queryRest_66 : decode b_Mo_queryRest 66 = .ok (.iload_n 3, 1) := by decide +kernel
theorem d_Mo_queryRest_67 : decode b_Mo_queryRest 67 = .ok (.ireturn, 1) := by decide +kernel
theorem d_Mo_queryRest_68 : decode b_Mo_queryRest 68 = .ok (.aload_n 0, 1) := by decide +kernel
theorem d_Mo_queryRest_69 : decode b_Mo_queryRest 69 = .ok (.iload_n 3, 1) := by decide +kernel
theorem d_Mo_queryRest_70 : decode b_Mo_queryRest 70 = .ok (.iload_n 2, 1) := by decide +kernel
theorem d_Mo_queryRest_71 : decode b_Mo_queryRest 71 = .ok (.invokevirtual 275, 3) := by decide +kernel
theorem d_Mo_queryRest_74 : decode b_Mo_queryRest 74 = .ok (.istore 6, 2) := by decide +kernel
theorem d_Mo_queryRest_76 : decode b_Mo_queryRest 76 = .ok (.iload 6, 2) := by decide +kernel
theorem d_Mo_queryRest_78 : decode b_Mo_queryRest 78 = .ok (.ifCond .ge 5, 3) := by decide +kernel
theorem d_Mo_queryRest_81 : decode b_Mo_queryRest 81 = .ok (.iconst (-1), 1) := by decide +kernel
theorem d_Mo_queryRest_82 : decode b_Mo_queryRest 82 = .ok (.ireturn, 1) := by decide +kernel
theorem d_Mo_queryRest_83 : decode b_Mo_queryRest 83 = .ok (.iload 4, 2) := by decide +kernel
theorem d_Mo_queryRest_85 : decode b_Mo_queryRest 85 = .ok (.ifCond .ge 14, 3) := by decide +kernel
theorem d_Mo_queryRest_88 : decode b_Mo_queryRest 88 = .ok (.aload_n 0, 1) := by decide +kernel
theorem d_Mo_queryRest_89 : decode b_Mo_queryRest 89 = .ok (.iload_n 3, 1) := by decide +kernel
theorem d_Mo_queryRest_90 : decode b_Mo_queryRest 90 = .ok (.iconst 2, 1) := by decide +kernel
theorem d_Mo_queryRest_91 : decode b_Mo_queryRest 91 = .ok (.iload 6, 2) := by decide +kernel
theorem d_Mo_queryRest_93 : decode b_Mo_queryRest 93 = .ok (.invokevirtual 272, 3) := by decide +kernel
theorem d_Mo_queryRest_96 : decode b_Mo_queryRest 96 = .ok (.goto 12, 3) := by decide +kernel
theorem d_Mo_queryRest_99 : decode b_Mo_queryRest 99 = .ok (.aload_n 0, 1) := by decide +kernel
theorem d_Mo_queryRest_100 : decode b_Mo_queryRest 100 = .ok (.iload 4, 2) := by decide +kernel
theorem d_Mo_queryRest_102 : decode b_Mo_queryRest 102 = .ok (.iconst 3, 1) := by decide +kernel
theorem d_Mo_queryRest_103 : decode b_Mo_queryRest 103 = .ok (.iload 6, 2) := by decide +kernel
theorem d_Mo_queryRest_105 : decode b_Mo_queryRest 105 = .ok (.invokevirtual 272, 3) := by decide +kernel
theorem d_Mo_queryRest_108 : decode b_Mo_queryRest 108 = .ok (.iload 6, 2) := by decide +kernel
theorem d_Mo_queryRest_110 : decode b_Mo_queryRest 110 = .ok (.istore 4, 2) := by decide +kernel
theorem d_Mo_queryRest_112 : decode b_Mo_queryRest 112 = .ok (.goto (-80), 3) := by decide +kernel
set_option maxHeartbeats 4000000 in
set_option maxRecDepth 100000 in
/-- the reference: queryRest -/
theorem c_qr0 (orL : (Nat → Int32) → Nat → Nat → Option (Nat × CT)) (O : QP CT) (F L : Nat) (hOf : Frm 8 O) (l : Launch) (dC : Nat → ClassId) (dI : Nat → Nat → Nat) (mo : Nat) (sz : Heap) (v : Nat → Value) (cB cI cL cC : ClassId) (qx NN : Nat) (f : Nat → Int32) (n : Nat) (K : Nat → Nat × Nat) (tv : Nat) (Q : QS) (V : TS) (o i : Nat) (br : Int32) (rt : Bool) (rti : Int32) (hrt : rti = if rt = true then 1 else 0) (ok : Bool) (hok : ok = true ↔ ¬ o = 16) (ho16 : o ≤ 16) (hOR : ¬ o = 16 → ORC orL O (o + 1) F L) (hnN : n ≤ NN) (hNN : NN ≤ 4096) (hi0 : i ≤ n) (h6 : v 6 = .ref qx) (h8 : v 8 = .int (nI n)) (h22 : v 22 = .ref tv) (hQ : QOK Q) (hV : TOK V) (hcu : V.us + (n + 12 - i) ≤ 400000) (hcr : Q.R + 8 * (n - i) + 9 ≤ 40000) : Met l y_Mo_queryRest (k_Mo_queryRest :: gtbl) ({ frames := 10 + F, cells := kcap Q (Q.R + 8 * (n - i) + 9) + qcap V (V.us + (n + 12 - i)), slots := 22 * kcap Q (Q.R + 8 * (n - i) + 9) + 2 * qcap V (V.us + (n + 12 - i)), locals := 320 + L }) (va_Pc [.ref mo, .int rti, .int 0] (me K dC dI [(mo, .inr (13, MF 30 (rf (rs v Q o) i br))), (qx, .inl (cB, NN, .inl f)), (Q.qq, .inl (cI, (8 * Q.C), .inl Q.qf)), (Q.qe, .inl (cL, (3 * Q.C), .inr (.inl Q.ef))), (tv, .inr (12, MF 13 (tw V))), (V.au, .inl (cC, V.U, .inl V.un))] [(cB, .byte), (cI, .int), (cL, .long), (cC, .char)] sz)) (va_Qi (fun (res : Int32) (u : QS × TS × Nat × Int32 × Nat) => QRo f ok (orL f n) O false rt n i o Q V res u) (fun u t9 => mz dC dI [(mo, .inr (13, MF 30 (rf (rs v u.1 u.2.2.2.2) u.2.2.1 u.2.2.2.1))), (qx, .inl (cB, NN, .inl f)), (u.1.qq, .inl (cI, (8 * u.1.C), .inl u.1.qf)), (u.1.qe, .inl (cL, (3 * u.1.C), .inr (.inl u.1.ef))), (tv, .inr (12, MF 13 (tw u.2.1))), (u.2.1.au, .inl (cC, u.2.1.U, .inl u.2.1.un))] [(cB, .byte), (cI, .int), (cL, .long), (cC, .char)] (va_A [(mo, .inr (13, MF 30 (rf (rs v Q o) i br))), (qx, .inl (cB, NN, .inl f)), (Q.qq, .inl (cI, (8 * Q.C), .inl Q.qf)), (Q.qe, .inl (cL, (3 * Q.C), .inr (.inl Q.ef))), (tv, .inr (12, MF 13 (tw V))), (V.au, .inl (cC, V.U, .inl V.un))] sz.size) t9 ∧ szk sz t9.heap (cQ Q V u.1 u.2.1) (sQ Q V u.1 u.2.1)) (va_A [(mo, .inr (13, MF 30 (rf (rs v Q o) i br))), (qx, .inl (cB, NN, .inl f)), (Q.qq, .inl (cI, (8 * Q.C), .inl Q.qf)), (Q.qe, .inl (cL, (3 * Q.C), .inr (.inl Q.ef))), (tv, .inr (12, MF 13 (tw V))), (V.au, .inl (cC, V.U, .inl V.un))] sz.size)) (kcap Q (Q.R + 8 * (n - i) + 9) + qcap V (V.us + (n + 12 - i))) (22 * kcap Q (Q.R + 8 * (n - i) + 9) + 2 * qcap V (V.us + (n + 12 - i))) (va_A [(mo, .inr (13, MF 30 (rf (rs v Q o) i br))), (qx, .inl (cB, NN, .inl f)), (Q.qq, .inl (cI, (8 * Q.C), .inl Q.qf)), (Q.qe, .inl (cL, (3 * Q.C), .inr (.inl Q.ef))), (tv, .inr (12, MF 13 (tw V))), (V.au, .inl (cC, V.U, .inl V.un))] sz.size) := by
  refine Met.ofW (cc := b_Mo_queryRest) (maxL := 7) (ret := (some .int)) (by decide) rfl ?_
  intro p e s m args below meth c s₁ B hml hv
  obtain ⟨rfl, ⟨hsz, hP, hK, hD0⟩, hM⟩ := hv
  have hx := B.exec
  have hb := B.bytes
  have hr := B.returns
  have hts0 := atoms_spec (ws := k_Mo_queryRest :: gtbl) B.pre
  have hts := fun w h => hts0 w (List.mem_cons_of_mem _ h)
  have hown : s.vm.findClass R_Mo = some m.cls := findClass_of_methodNamed B.named
  have hlocks := B.notSynchronized
  subst hsz
  have hD := hD0.self (sz := s.heap.size)
  generalize hAe : va_A [(mo, .inr (13, MF 30 (rf (rs v Q o) i br))), (qx, .inl (cB, NN, .inl f)), (Q.qq, .inl (cI, (8 * Q.C), .inl Q.qf)), (Q.qe, .inl (cL, (3 * Q.C), .inr (.inl Q.ef))), (tv, .inr (12, MF 13 (tw V))), (V.au, .inl (cC, V.U, .inl V.un))] s.heap.size = A at hD hM ⊢
  have hA : ∀ q : Nat, s.heap.size ≤ q → A q := fun q h => by rw [← hAe]; exact Or.inr h
  have hS : va_S A s.heap s.heap [] := va_S.rf
  have hP : va_P (dC, dI) classes [(mo, .inr (13, MF 30 (rf (rs v Q o) i br))), (qx, .inl (cB, NN, .inl f)), (Q.qq, .inl (cI, (8 * Q.C), .inl Q.qf)), (Q.qe, .inl (cL, (3 * Q.C), .inr (.inl Q.ef))), (tv, .inr (12, MF 13 (tw V))), (V.au, .inl (cC, V.U, .inl V.un))] s.heap := hP
  have hl := lv_entry ([.ref mo, .int rti, .int 0]) (n := 7) (Nat.le_of_ble_eq_true rfl)
  rw [lg_entry_eq]
  generalize (lg_sl ([.ref mo, .int rti, .int 0]) ++ List.replicate (7 - (lg_sl ([.ref mo, .int rti, .int 0])).length) Slot.unset).toArray = ls at hl ⊢
  have hl : lv_has ls 7 [(0, .ref mo), (1, .int rti), (2, .int 0)] := hl
  have hQk_Q := hQ
  have hTk_V := hV
  have hCo := hQ.2.2.1
  have hCo2 := hQ.2.1
  clear hQ hV
  have hG_QV : GQ (Q.R + 8 * (n - i) + 9) (V.us + (n + 12 - i)) Q V Q V := GQ.rf
  refine w_same (fun hq => ?_)
  refine w_tight (k := cQ Q V Q V) (n := sQ Q V Q V) (by rw [cQ_rf.1, cQ_rf.2]; exact hq) ?_
  have hqb_QV : Q.R ≤ Q.C ∧ Q.C ≤ 100000 := ⟨hQk_Q.2.2.1, hQk_Q.2.1⟩
  have hfit_QV := hG_QV.fits
  refine lv_aload_n hx hb d_Mo_queryRest_0 rfl (lv_at hl 0 rfl) ?_
  refine lv_bipush (v := 20) hx hb d_Mo_queryRest_1 (by decide) ?_
  have hPc := hP.sub (ws' := [(mo, .inr (13, MF 30 (rf (rs v Q o) i br))), (Q.qq, .inl (cI, (8 * Q.C), .inl Q.qf)), (Q.qe, .inl (cL, (3 * Q.C), .inr (.inl Q.ef)))]) [0, 2, 3] rfl
  have hDc := hD.sub (ws' := [(mo, .inr (13, MF 30 (rf (rs v Q o) i br))), (Q.qq, .inl (cI, (8 * Q.C), .inl Q.qf)), (Q.qe, .inl (cL, (3 * Q.C), .inr (.inl Q.ef)))]) [0, 2, 3] (by decide) rfl
  have hKc := hK.sub (tys' := [(cI, .int), (cL, .long)]) [1, 2] rfl
  have hFc := va_free (wc := [(mo, .inr (13, MF 30 (rf (rs v Q o) i br))), (Q.qq, .inl (cI, (8 * Q.C), .inl Q.qf)), (Q.qe, .inl (cL, (3 * Q.C), .inr (.inl Q.ef)))]) hD hS hA [0, 2, 3] rfl
  refine w_same (fun hq0 => ?_)
  refine va_calli (va_runV (As := [.int 20]) (rest := []) ⟨hx, hb, hml, hown, hts⟩ (c_Mo_row l dC dI mo s.heap v cI cL Q o i br 20 hQk_Q) (cwV 1 hts (gt_V (own := R_Mo) (C := R_Mo) (i := 269) (y := y_Mo_row) i_Mo_row w_1407 w_1409 (gt_sel (y := y_Mo_row) (n := 30) (by decide +kernel)) w_7) rfl rfl rfl (by decide +kernel) ⟨Nat.le_trans (m := 10) (Nat.le_of_ble_eq_true rfl) (Nat.le_add_right 10 F), Nat.le_trans (m := 320) (Nat.le_of_ble_eq_true rfl) (Nat.le_add_right 320 L)⟩) ⟨mp_blind, va_recv hKc hPc (ci := 13) (q0 := 0) rfl rfl, fun U hU hW => ⟨rfl, hU, by rw [hU]; exact hPc, va_K.moved hW.alike hKc, hDc.weaken (fun _ _ _ _ => trivial)⟩⟩ rfl rfl hl.1 rfl (lv_room (Nat.le_of_ble_eq_true rfl)) d_Mo_queryRest_3 ⟨(QAd.fit hG_QV hQk_Q (by omega)).1, (QAd.fit hG_QV hQk_Q (by omega)).2⟩) hS (fun q _ h => hFc q h) hFc (fun r0 Q1 t9 H1 locs ht hvm hw hB hz1 hk1 hS => ?_)
  obtain ⟨⟨hP1, hK1, hD1⟩, hz9⟩ := hB
  rw [ht] at hP1
  rw [ht] at hz9
  obtain ⟨hr0, hA_Q1⟩ := hw
  have hA_Q1 : QAd Q Q1 20 := hA_Q1
  obtain ⟨hQk_Q1, hGa, hGb, hGd, hR_Q1⟩ := hA_Q1.gq hQk_Q (by omega) V
  obtain ⟨hG_Q1V, hGc, hGs⟩ := hG_QV.tr hGa (show Q.R + 1 ≤ Q.R + 8 * (n - i) + 9 by omega) (Nat.zero_le _)
  have hGc := Nat.le_trans (Nat.add_le_add_left hGb _) hGc
  have hGs := Nat.le_trans (Nat.add_le_add_left hGd _) hGs
  have hq1 : szk s.heap H1 (cQ Q V Q1 V) (sQ Q V Q1 V) := (hq0.trans hz9).mono hGc hGs
  refine w_tight hq1 ?_
  obtain ⟨hP, hD⟩ := va_join (wr := [(qx, .inl (cB, NN, .inl f)), (tv, .inr (12, MF 13 (tw V))), (V.au, .inl (cC, V.U, .inl V.un))]) (w1 := [(mo, .inr (13, MF 30 (rf (rs v Q1 o) i br))), (Q1.qq, .inl (cI, (8 * Q1.C), .inl Q1.qf)), (Q1.qe, .inl (cL, (3 * Q1.C), .inr (.inl Q1.ef)))]) hP hD [0, 2, 3] [1, 4, 5] rfl rfl (by decide) (by decide) hk1 hFc hP1 hD1
  generalize H1 = H at hP hS ⊢
  have hP : va_P (dC, dI) classes [(qx, .inl (cB, NN, .inl f)), (tv, .inr (12, MF 13 (tw V))), (V.au, .inl (cC, V.U, .inl V.un)), (mo, .inr (13, MF 30 (rf (rs v Q1 o) i br))), (Q1.qq, .inl (cI, (8 * Q1.C), .inl Q1.qf)), (Q1.qe, .inl (cL, (3 * Q1.C), .inr (.inl Q1.ef)))] H := hP
  have hD : va_D A [(qx, .inl (cB, NN, .inl f)), (tv, .inr (12, MF 13 (tw V))), (V.au, .inl (cC, V.U, .inl V.un)), (mo, .inr (13, MF 30 (rf (rs v Q1 o) i br))), (Q1.qq, .inl (cI, (8 * Q1.C), .inl Q1.qf)), (Q1.qe, .inl (cL, (3 * Q1.C), .inr (.inl Q1.ef)))] := hD
  have hP := hP.sub (ws' := [(mo, .inr (13, MF 30 (rf (rs v Q1 o) i br))), (qx, .inl (cB, NN, .inl f)), (tv, .inr (12, MF 13 (tw V))), (V.au, .inl (cC, V.U, .inl V.un)), (Q1.qq, .inl (cI, (8 * Q1.C), .inl Q1.qf)), (Q1.qe, .inl (cL, (3 * Q1.C), .inr (.inl Q1.ef)))]) [3, 0, 1, 2, 4, 5] rfl
  have hD := hD.sub (ws' := [(mo, .inr (13, MF 30 (rf (rs v Q1 o) i br))), (qx, .inl (cB, NN, .inl f)), (tv, .inr (12, MF 13 (tw V))), (V.au, .inl (cC, V.U, .inl V.un)), (Q1.qq, .inl (cI, (8 * Q1.C), .inl Q1.qf)), (Q1.qe, .inl (cL, (3 * Q1.C), .inr (.inl Q1.ef)))]) [3, 0, 1, 2, 4, 5] (by decide) rfl
  have hP := hP.sub (ws' := [(mo, .inr (13, MF 30 (rf (rs v Q1 o) i br))), (qx, .inl (cB, NN, .inl f)), (Q1.qq, .inl (cI, (8 * Q1.C), .inl Q1.qf)), (Q1.qe, .inl (cL, (3 * Q1.C), .inr (.inl Q1.ef))), (tv, .inr (12, MF 13 (tw V))), (V.au, .inl (cC, V.U, .inl V.un))]) [0, 1, 4, 5, 2, 3] rfl
  have hD := hD.sub (ws' := [(mo, .inr (13, MF 30 (rf (rs v Q1 o) i br))), (qx, .inl (cB, NN, .inl f)), (Q1.qq, .inl (cI, (8 * Q1.C), .inl Q1.qf)), (Q1.qe, .inl (cL, (3 * Q1.C), .inr (.inl Q1.ef))), (tv, .inr (12, MF 13 (tw V))), (V.au, .inl (cC, V.U, .inl V.un))]) [0, 1, 4, 5, 2, 3] (by decide) rfl
  have hr0 : r0 = nI Q.R := hr0
  subst hr0
  have hqb_Q1V : Q1.R ≤ Q1.C ∧ Q1.C ≤ 100000 := ⟨hQk_Q1.2.2.1, hQk_Q1.2.1⟩
  have hfit_Q1V := hG_Q1V.fits
  have hE_Q1 : alr Q V Q1 V 0 Q.R := ⟨fun r9 k9 _ h1 h2 => hA_Q1.2.2.1 _ (by omega), ⟨fun r9 k9 _ h1 h2 => hA_Q1.2.2.2.1.2 _ (by omega), Nat.le_refl _, fun _ _ => rfl⟩⟩
  refine lv_istore_n (lv' := [(3, .int (nI Q.R)), (0, .ref mo), (1, .int rti), (2, .int 0)]) hx hb d_Mo_queryRest_6 rfl hl (by decide) rfl (fun ls hl => ?_)
  refine w_join (D := (dC, dI)) (cl := classes) (A := A) (H0 := s.heap) (nL := 7) 22 (σ := QS) (fun Qj => QOK Qj ∧ GQ (Q.R + 8 * (n - i) + 9) (V.us + (n + 12 - i)) Q V Qj V ∧ Qj.R = Q.R + 1 ∧ alr Q V Qj V 0 Q.R ∧ Qj.qf (8 * Q.R + 1) = (if rt = true then 1 else 0) ∧ Qj.qf (8 * Q.R + 2) = -1) (fun Qj => cQ Q V Qj V) (fun Qj => sQ Q V Qj V) (fun Qj => [(mo, .inr (13, MF 30 (rf (rs v Qj o) i br))), (qx, .inl (cB, NN, .inl f)), (Qj.qq, .inl (cI, (8 * Qj.C), .inl Qj.qf)), (Qj.qe, .inl (cL, (3 * Qj.C), .inr (.inl Qj.ef))), (tv, .inr (12, MF 13 (tw V))), (V.au, .inl (cC, V.U, .inl V.un))]) (fun Qj => [(0, .ref mo), (1, .int rti), (2, .int 0), (3, .int (nI Q.R))]) (fun jn22 => ?_) ?_
  · refine lv_aload_n hx hb d_Mo_queryRest_7 rfl (lv_at hl 1 rfl) ?_
    refine lv_iload_n hx hb d_Mo_queryRest_8 rfl (lv_at hl 0 rfl) ?_
    refine lv_iconst (v := 1) hx hb d_Mo_queryRest_9 (by decide) ?_
    refine lv_iload_n hx hb d_Mo_queryRest_10 rfl (lv_at hl 2 rfl) ?_
    refine lv_if_eq (tgt := 18) hx hb d_Mo_queryRest_11 (by decide) (fun c11 => ?_) (fun c11 => ?_)
    · refine lv_iconst (v := 0) hx hb d_Mo_queryRest_18 (by decide) ?_
      refine W.eq (g2 := F0 m 19 ls [.int 0, .int (nI 1), .int (nI Q.R), .ref mo]) rfl ?_
      have hPc := hP.sub (ws' := [(mo, .inr (13, MF 30 (rf (rs v Q1 o) i br))), (Q1.qq, .inl (cI, (8 * Q1.C), .inl Q1.qf))]) [0, 2] rfl
      have hDc := hD.sub (ws' := [(mo, .inr (13, MF 30 (rf (rs v Q1 o) i br))), (Q1.qq, .inl (cI, (8 * Q1.C), .inl Q1.qf))]) [0, 2] (by decide) rfl
      have hKc := hK.sub (tys' := [(cI, .int)]) [1] rfl
      have hFc := va_free (wc := [(mo, .inr (13, MF 30 (rf (rs v Q1 o) i br))), (Q1.qq, .inl (cI, (8 * Q1.C), .inl Q1.qf))]) hD hS hA [0, 2] rfl
      refine va_callv (va_runV (As := [.int (nI Q.R), .int (nI 1), .int 0]) (rest := []) ⟨hx, hb, hml, hown, hts⟩ (c_Mo_set l dC dI mo H (rf (rs v Q1 o) i br) cI Q1.qq (8 * Q1.C) Q1.qf Q.R 1 0 (by omega) (by omega) ((rf_ne (by decide) (by decide)).trans rs_19)) (cwV 3 hts (gt_V (own := R_Mo) (C := R_Mo) (i := 272) (y := y_Mo_set) i_Mo_set w_1411 w_1413 (gt_sel (y := y_Mo_set) (n := 30) (by decide +kernel)) w_7) rfl rfl rfl (by decide +kernel) ⟨Nat.le_trans (m := 10) (Nat.le_of_ble_eq_true rfl) (Nat.le_add_right 10 F), Nat.le_trans (m := 320) (Nat.le_of_ble_eq_true rfl) (Nat.le_add_right 320 L)⟩) ⟨mp_blind, va_recv hKc hPc (ci := 13) (q0 := 0) rfl rfl, fun U hU hW => ⟨rfl, hU, by rw [hU]; exact hPc, va_K.moved hW.alike hKc, hDc.weaken (fun _ _ _ _ => trivial)⟩⟩ rfl rfl hl.1 rfl (lv_room (Nat.le_of_ble_eq_true rfl)) d_Mo_queryRest_19 ⟨hfit_Q1V.1, hfit_Q1V.2⟩) hS (fun q _ h => hFc q h) hFc (fun _u t9 H1 locs ht hvm hw hB hz1 hk1 hS => ?_)
      obtain ⟨hP1, hK1, hD1⟩ := hB
      rw [ht] at hP1
      obtain ⟨hP, hD⟩ := va_join (wr := [(qx, .inl (cB, NN, .inl f)), (Q1.qe, .inl (cL, (3 * Q1.C), .inr (.inl Q1.ef))), (tv, .inr (12, MF 13 (tw V))), (V.au, .inl (cC, V.U, .inl V.un))]) (w1 := [(mo, .inr (13, MF 30 (rf (rs v Q1 o) i br))), (Q1.qq, .inl (cI, (8 * Q1.C), .inl (upd Q1.qf (8 * Q.R + 1) 0)))]) hP hD [0, 2] [1, 3, 4, 5] rfl rfl (by decide) (by decide) hk1 hFc hP1 hD1
      generalize H1 = H at hP hS ⊢
      have hP : va_P (dC, dI) classes [(qx, .inl (cB, NN, .inl f)), (Q1.qe, .inl (cL, (3 * Q1.C), .inr (.inl Q1.ef))), (tv, .inr (12, MF 13 (tw V))), (V.au, .inl (cC, V.U, .inl V.un)), (mo, .inr (13, MF 30 (rf (rs v Q1 o) i br))), (Q1.qq, .inl (cI, (8 * Q1.C), .inl (upd Q1.qf (8 * Q.R + 1) 0)))] H := hP
      have hD : va_D A [(qx, .inl (cB, NN, .inl f)), (Q1.qe, .inl (cL, (3 * Q1.C), .inr (.inl Q1.ef))), (tv, .inr (12, MF 13 (tw V))), (V.au, .inl (cC, V.U, .inl V.un)), (mo, .inr (13, MF 30 (rf (rs v Q1 o) i br))), (Q1.qq, .inl (cI, (8 * Q1.C), .inl (upd Q1.qf (8 * Q.R + 1) 0)))] := hD
      have hP := hP.sub (ws' := [(mo, .inr (13, MF 30 (rf (rs v Q1 o) i br))), (qx, .inl (cB, NN, .inl f)), (Q1.qq, .inl (cI, (8 * Q1.C), .inl (upd Q1.qf (8 * Q.R + 1) 0))), (Q1.qe, .inl (cL, (3 * Q1.C), .inr (.inl Q1.ef))), (tv, .inr (12, MF 13 (tw V))), (V.au, .inl (cC, V.U, .inl V.un))]) [4, 0, 5, 1, 2, 3] rfl
      have hD := hD.sub (ws' := [(mo, .inr (13, MF 30 (rf (rs v Q1 o) i br))), (qx, .inl (cB, NN, .inl f)), (Q1.qq, .inl (cI, (8 * Q1.C), .inl (upd Q1.qf (8 * Q.R + 1) 0))), (Q1.qe, .inl (cL, (3 * Q1.C), .inr (.inl Q1.ef))), (tv, .inr (12, MF 13 (tw V))), (V.au, .inl (cC, V.U, .inl V.un))]) [4, 0, 5, 1, 2, 3] (by decide) rfl
      obtain ⟨Q2, e_Q2⟩ : ∃ z : QS, z = QS.wf Q1 (upd Q1.qf (8 * Q.R + 1) 0) := ⟨_, rfl⟩
      have hP : va_P (dC, dI) classes [(mo, .inr (13, MF 30 (rf (rs v Q2 o) i br))), (qx, .inl (cB, NN, .inl f)), (Q2.qq, .inl (cI, (8 * Q2.C), .inl Q2.qf)), (Q2.qe, .inl (cL, (3 * Q2.C), .inr (.inl Q2.ef))), (tv, .inr (12, MF 13 (tw V))), (V.au, .inl (cC, V.U, .inl V.un))] H := by subst e_Q2; exact hP
      have hD : va_D A [(mo, .inr (13, MF 30 (rf (rs v Q2 o) i br))), (qx, .inl (cB, NN, .inl f)), (Q2.qq, .inl (cI, (8 * Q2.C), .inl Q2.qf)), (Q2.qe, .inl (cL, (3 * Q2.C), .inr (.inl Q2.ef))), (tv, .inr (12, MF 13 (tw V))), (V.au, .inl (cC, V.U, .inl V.un))] := by subst e_Q2; exact hD
      have hf_Q2 : Q2.C = Q1.C ∧ Q2.R = Q1.R ∧ Q2.qf = upd Q1.qf (8 * Q.R + 1) 0 := by rw [e_Q2]; exact ⟨rfl, rfl, rfl⟩
      have he_Q2 : Q2.ef = Q1.ef := by rw [e_Q2]; rfl
      have hQk_Q2 : QOK Q2 := by rw [e_Q2]; exact hQk_Q1
      have hG_Q2V : GQ (Q.R + 8 * (n - i) + 9) (V.us + (n + 12 - i)) Q V Q2 V := by unfold GQ at hG_Q1V ⊢; rw [hf_Q2.1]; exact hG_Q1V
      refine w_same (fun hq => ?_)
      refine w_tight (k := cQ Q V Q2 V) (n := sQ Q V Q2 V) (by unfold cQ sQ at hq ⊢; rw [hf_Q2.1]; exact hq) ?_
      have hR_Q2 := hf_Q2.2.1
      have hqb_Q2V : Q2.R ≤ Q2.C ∧ Q2.C ≤ 100000 := ⟨hQk_Q2.2.2.1, hQk_Q2.2.1⟩
      have hfit_Q2V := hG_Q2V.fits
      exact jn22 Q2 _ _ _ ⟨hQk_Q2, hG_Q2V, by omega, hE_Q1.tr (alr.upd hf_Q2.2.2 he_Q2 (by decide) (by omega)), by rw [hf_Q2.2.2, pk_us]; exact c11.symm.trans hrt, by rw [hf_Q2.2.2, pk_un (by omega)]; exact hA_Q1.2.2.2.2.2 2 (by decide) (by decide)⟩ hP hD hS (lv_sub hl [1, 2, 3, 0] rfl)
    · refine lv_iconst (v := 1) hx hb d_Mo_queryRest_14 (by decide) ?_
      refine lv_goto (tgt := 19) hx hb d_Mo_queryRest_15 (by decide) ?_
      refine W.eq (g2 := F0 m 19 ls [.int 1, .int (nI 1), .int (nI Q.R), .ref mo]) rfl ?_
      have hPc := hP.sub (ws' := [(mo, .inr (13, MF 30 (rf (rs v Q1 o) i br))), (Q1.qq, .inl (cI, (8 * Q1.C), .inl Q1.qf))]) [0, 2] rfl
      have hDc := hD.sub (ws' := [(mo, .inr (13, MF 30 (rf (rs v Q1 o) i br))), (Q1.qq, .inl (cI, (8 * Q1.C), .inl Q1.qf))]) [0, 2] (by decide) rfl
      have hKc := hK.sub (tys' := [(cI, .int)]) [1] rfl
      have hFc := va_free (wc := [(mo, .inr (13, MF 30 (rf (rs v Q1 o) i br))), (Q1.qq, .inl (cI, (8 * Q1.C), .inl Q1.qf))]) hD hS hA [0, 2] rfl
      refine va_callv (va_runV (As := [.int (nI Q.R), .int (nI 1), .int 1]) (rest := []) ⟨hx, hb, hml, hown, hts⟩ (c_Mo_set l dC dI mo H (rf (rs v Q1 o) i br) cI Q1.qq (8 * Q1.C) Q1.qf Q.R 1 1 (by omega) (by omega) ((rf_ne (by decide) (by decide)).trans rs_19)) (cwV 3 hts (gt_V (own := R_Mo) (C := R_Mo) (i := 272) (y := y_Mo_set) i_Mo_set w_1411 w_1413 (gt_sel (y := y_Mo_set) (n := 30) (by decide +kernel)) w_7) rfl rfl rfl (by decide +kernel) ⟨Nat.le_trans (m := 10) (Nat.le_of_ble_eq_true rfl) (Nat.le_add_right 10 F), Nat.le_trans (m := 320) (Nat.le_of_ble_eq_true rfl) (Nat.le_add_right 320 L)⟩) ⟨mp_blind, va_recv hKc hPc (ci := 13) (q0 := 0) rfl rfl, fun U hU hW => ⟨rfl, hU, by rw [hU]; exact hPc, va_K.moved hW.alike hKc, hDc.weaken (fun _ _ _ _ => trivial)⟩⟩ rfl rfl hl.1 rfl (lv_room (Nat.le_of_ble_eq_true rfl)) d_Mo_queryRest_19 ⟨hfit_Q1V.1, hfit_Q1V.2⟩) hS (fun q _ h => hFc q h) hFc (fun _u t9 H1 locs ht hvm hw hB hz1 hk1 hS => ?_)
      obtain ⟨hP1, hK1, hD1⟩ := hB
      rw [ht] at hP1
      obtain ⟨hP, hD⟩ := va_join (wr := [(qx, .inl (cB, NN, .inl f)), (Q1.qe, .inl (cL, (3 * Q1.C), .inr (.inl Q1.ef))), (tv, .inr (12, MF 13 (tw V))), (V.au, .inl (cC, V.U, .inl V.un))]) (w1 := [(mo, .inr (13, MF 30 (rf (rs v Q1 o) i br))), (Q1.qq, .inl (cI, (8 * Q1.C), .inl (upd Q1.qf (8 * Q.R + 1) 1)))]) hP hD [0, 2] [1, 3, 4, 5] rfl rfl (by decide) (by decide) hk1 hFc hP1 hD1
      generalize H1 = H at hP hS ⊢
      have hP : va_P (dC, dI) classes [(qx, .inl (cB, NN, .inl f)), (Q1.qe, .inl (cL, (3 * Q1.C), .inr (.inl Q1.ef))), (tv, .inr (12, MF 13 (tw V))), (V.au, .inl (cC, V.U, .inl V.un)), (mo, .inr (13, MF 30 (rf (rs v Q1 o) i br))), (Q1.qq, .inl (cI, (8 * Q1.C), .inl (upd Q1.qf (8 * Q.R + 1) 1)))] H := hP
      have hD : va_D A [(qx, .inl (cB, NN, .inl f)), (Q1.qe, .inl (cL, (3 * Q1.C), .inr (.inl Q1.ef))), (tv, .inr (12, MF 13 (tw V))), (V.au, .inl (cC, V.U, .inl V.un)), (mo, .inr (13, MF 30 (rf (rs v Q1 o) i br))), (Q1.qq, .inl (cI, (8 * Q1.C), .inl (upd Q1.qf (8 * Q.R + 1) 1)))] := hD
      have hP := hP.sub (ws' := [(mo, .inr (13, MF 30 (rf (rs v Q1 o) i br))), (qx, .inl (cB, NN, .inl f)), (Q1.qq, .inl (cI, (8 * Q1.C), .inl (upd Q1.qf (8 * Q.R + 1) 1))), (Q1.qe, .inl (cL, (3 * Q1.C), .inr (.inl Q1.ef))), (tv, .inr (12, MF 13 (tw V))), (V.au, .inl (cC, V.U, .inl V.un))]) [4, 0, 5, 1, 2, 3] rfl
      have hD := hD.sub (ws' := [(mo, .inr (13, MF 30 (rf (rs v Q1 o) i br))), (qx, .inl (cB, NN, .inl f)), (Q1.qq, .inl (cI, (8 * Q1.C), .inl (upd Q1.qf (8 * Q.R + 1) 1))), (Q1.qe, .inl (cL, (3 * Q1.C), .inr (.inl Q1.ef))), (tv, .inr (12, MF 13 (tw V))), (V.au, .inl (cC, V.U, .inl V.un))]) [4, 0, 5, 1, 2, 3] (by decide) rfl
      obtain ⟨Q2, e_Q2⟩ : ∃ z : QS, z = QS.wf Q1 (upd Q1.qf (8 * Q.R + 1) 1) := ⟨_, rfl⟩
      have hP : va_P (dC, dI) classes [(mo, .inr (13, MF 30 (rf (rs v Q2 o) i br))), (qx, .inl (cB, NN, .inl f)), (Q2.qq, .inl (cI, (8 * Q2.C), .inl Q2.qf)), (Q2.qe, .inl (cL, (3 * Q2.C), .inr (.inl Q2.ef))), (tv, .inr (12, MF 13 (tw V))), (V.au, .inl (cC, V.U, .inl V.un))] H := by subst e_Q2; exact hP
      have hD : va_D A [(mo, .inr (13, MF 30 (rf (rs v Q2 o) i br))), (qx, .inl (cB, NN, .inl f)), (Q2.qq, .inl (cI, (8 * Q2.C), .inl Q2.qf)), (Q2.qe, .inl (cL, (3 * Q2.C), .inr (.inl Q2.ef))), (tv, .inr (12, MF 13 (tw V))), (V.au, .inl (cC, V.U, .inl V.un))] := by subst e_Q2; exact hD
      have hf_Q2 : Q2.C = Q1.C ∧ Q2.R = Q1.R ∧ Q2.qf = upd Q1.qf (8 * Q.R + 1) 1 := by rw [e_Q2]; exact ⟨rfl, rfl, rfl⟩
      have he_Q2 : Q2.ef = Q1.ef := by rw [e_Q2]; rfl
      have hQk_Q2 : QOK Q2 := by rw [e_Q2]; exact hQk_Q1
      have hG_Q2V : GQ (Q.R + 8 * (n - i) + 9) (V.us + (n + 12 - i)) Q V Q2 V := by unfold GQ at hG_Q1V ⊢; rw [hf_Q2.1]; exact hG_Q1V
      refine w_same (fun hq => ?_)
      refine w_tight (k := cQ Q V Q2 V) (n := sQ Q V Q2 V) (by unfold cQ sQ at hq ⊢; rw [hf_Q2.1]; exact hq) ?_
      have hR_Q2 := hf_Q2.2.1
      have hqb_Q2V : Q2.R ≤ Q2.C ∧ Q2.C ≤ 100000 := ⟨hQk_Q2.2.2.1, hQk_Q2.2.1⟩
      have hfit_Q2V := hG_Q2V.fits
      exact jn22 Q2 _ _ _ ⟨hQk_Q2, hG_Q2V, by omega, hE_Q1.tr (alr.upd hf_Q2.2.2 he_Q2 (by decide) (by omega)), by rw [hf_Q2.2.2, pk_us]; exact ds_1 hrt c11, by rw [hf_Q2.2.2, pk_un (by omega)]; exact hA_Q1.2.2.2.2.2 2 (by decide) (by decide)⟩ hP hD hS (lv_sub hl [1, 2, 3, 0] rfl)
  · rintro Qj H locs ls hI22 hP hD hS hl
    have hP : va_P (dC, dI) classes [(mo, .inr (13, MF 30 (rf (rs v Qj o) i br))), (qx, .inl (cB, NN, .inl f)), (Qj.qq, .inl (cI, (8 * Qj.C), .inl Qj.qf)), (Qj.qe, .inl (cL, (3 * Qj.C), .inr (.inl Qj.ef))), (tv, .inr (12, MF 13 (tw V))), (V.au, .inl (cC, V.U, .inl V.un))] H := hP
    have hD : va_D A [(mo, .inr (13, MF 30 (rf (rs v Qj o) i br))), (qx, .inl (cB, NN, .inl f)), (Qj.qq, .inl (cI, (8 * Qj.C), .inl Qj.qf)), (Qj.qe, .inl (cL, (3 * Qj.C), .inr (.inl Qj.ef))), (tv, .inr (12, MF 13 (tw V))), (V.au, .inl (cC, V.U, .inl V.un))] := hD
    have hl : lv_has ls 7 [(0, .ref mo), (1, .int rti), (2, .int 0), (3, .int (nI Q.R))] := hl
    obtain ⟨hQk_Qj, hG_QjV, hR_Qj, hj0, hj1, hj2⟩ := hI22
    have hqb_QjV : Qj.R ≤ Qj.C ∧ Qj.C ≤ 100000 := ⟨hQk_Qj.2.2.1, hQk_Qj.2.1⟩
    have hfit_QjV := hG_QjV.fits
    refine lv_aload_n hx hb d_Mo_queryRest_22 rfl (lv_at hl 0 rfl) ?_
    refine lv_iload_n hx hb d_Mo_queryRest_23 rfl (lv_at hl 3 rfl) ?_
    refine lv_iconst (v := 3) hx hb d_Mo_queryRest_24 (by decide) ?_
    refine lv_iconst (v := 1) hx hb d_Mo_queryRest_25 (by decide) ?_
    refine W.eq (g2 := F0 m 26 ls [.int 1, .int (nI 3), .int (nI Q.R), .ref mo]) rfl ?_
    have hPc := hP.sub (ws' := [(mo, .inr (13, MF 30 (rf (rs v Qj o) i br))), (Qj.qq, .inl (cI, (8 * Qj.C), .inl Qj.qf))]) [0, 2] rfl
    have hDc := hD.sub (ws' := [(mo, .inr (13, MF 30 (rf (rs v Qj o) i br))), (Qj.qq, .inl (cI, (8 * Qj.C), .inl Qj.qf))]) [0, 2] (by decide) rfl
    have hKc := hK.sub (tys' := [(cI, .int)]) [1] rfl
    have hFc := va_free (wc := [(mo, .inr (13, MF 30 (rf (rs v Qj o) i br))), (Qj.qq, .inl (cI, (8 * Qj.C), .inl Qj.qf))]) hD hS hA [0, 2] rfl
    refine va_callv (va_runV (As := [.int (nI Q.R), .int (nI 3), .int 1]) (rest := []) ⟨hx, hb, hml, hown, hts⟩ (c_Mo_set l dC dI mo H (rf (rs v Qj o) i br) cI Qj.qq (8 * Qj.C) Qj.qf Q.R 3 1 (by omega) (by omega) ((rf_ne (by decide) (by decide)).trans rs_19)) (cwV 3 hts (gt_V (own := R_Mo) (C := R_Mo) (i := 272) (y := y_Mo_set) i_Mo_set w_1411 w_1413 (gt_sel (y := y_Mo_set) (n := 30) (by decide +kernel)) w_7) rfl rfl rfl (by decide +kernel) ⟨Nat.le_trans (m := 10) (Nat.le_of_ble_eq_true rfl) (Nat.le_add_right 10 F), Nat.le_trans (m := 320) (Nat.le_of_ble_eq_true rfl) (Nat.le_add_right 320 L)⟩) ⟨mp_blind, va_recv hKc hPc (ci := 13) (q0 := 0) rfl rfl, fun U hU hW => ⟨rfl, hU, by rw [hU]; exact hPc, va_K.moved hW.alike hKc, hDc.weaken (fun _ _ _ _ => trivial)⟩⟩ rfl rfl hl.1 rfl (lv_room (Nat.le_of_ble_eq_true rfl)) d_Mo_queryRest_26 ⟨hfit_QjV.1, hfit_QjV.2⟩) hS (fun q _ h => hFc q h) hFc (fun _u t9 H1 locs ht hvm hw hB hz1 hk1 hS => ?_)
    obtain ⟨hP1, hK1, hD1⟩ := hB
    rw [ht] at hP1
    obtain ⟨hP, hD⟩ := va_join (wr := [(qx, .inl (cB, NN, .inl f)), (Qj.qe, .inl (cL, (3 * Qj.C), .inr (.inl Qj.ef))), (tv, .inr (12, MF 13 (tw V))), (V.au, .inl (cC, V.U, .inl V.un))]) (w1 := [(mo, .inr (13, MF 30 (rf (rs v Qj o) i br))), (Qj.qq, .inl (cI, (8 * Qj.C), .inl (upd Qj.qf (8 * Q.R + 3) 1)))]) hP hD [0, 2] [1, 3, 4, 5] rfl rfl (by decide) (by decide) hk1 hFc hP1 hD1
    generalize H1 = H at hP hS ⊢
    have hP : va_P (dC, dI) classes [(qx, .inl (cB, NN, .inl f)), (Qj.qe, .inl (cL, (3 * Qj.C), .inr (.inl Qj.ef))), (tv, .inr (12, MF 13 (tw V))), (V.au, .inl (cC, V.U, .inl V.un)), (mo, .inr (13, MF 30 (rf (rs v Qj o) i br))), (Qj.qq, .inl (cI, (8 * Qj.C), .inl (upd Qj.qf (8 * Q.R + 3) 1)))] H := hP
    have hD : va_D A [(qx, .inl (cB, NN, .inl f)), (Qj.qe, .inl (cL, (3 * Qj.C), .inr (.inl Qj.ef))), (tv, .inr (12, MF 13 (tw V))), (V.au, .inl (cC, V.U, .inl V.un)), (mo, .inr (13, MF 30 (rf (rs v Qj o) i br))), (Qj.qq, .inl (cI, (8 * Qj.C), .inl (upd Qj.qf (8 * Q.R + 3) 1)))] := hD
    have hP := hP.sub (ws' := [(mo, .inr (13, MF 30 (rf (rs v Qj o) i br))), (qx, .inl (cB, NN, .inl f)), (Qj.qq, .inl (cI, (8 * Qj.C), .inl (upd Qj.qf (8 * Q.R + 3) 1))), (Qj.qe, .inl (cL, (3 * Qj.C), .inr (.inl Qj.ef))), (tv, .inr (12, MF 13 (tw V))), (V.au, .inl (cC, V.U, .inl V.un))]) [4, 0, 5, 1, 2, 3] rfl
    have hD := hD.sub (ws' := [(mo, .inr (13, MF 30 (rf (rs v Qj o) i br))), (qx, .inl (cB, NN, .inl f)), (Qj.qq, .inl (cI, (8 * Qj.C), .inl (upd Qj.qf (8 * Q.R + 3) 1))), (Qj.qe, .inl (cL, (3 * Qj.C), .inr (.inl Qj.ef))), (tv, .inr (12, MF 13 (tw V))), (V.au, .inl (cC, V.U, .inl V.un))]) [4, 0, 5, 1, 2, 3] (by decide) rfl
    obtain ⟨Qk, e_Qk⟩ : ∃ z : QS, z = QS.wf Qj (upd Qj.qf (8 * Q.R + 3) 1) := ⟨_, rfl⟩
    have hP : va_P (dC, dI) classes [(mo, .inr (13, MF 30 (rf (rs v Qk o) i br))), (qx, .inl (cB, NN, .inl f)), (Qk.qq, .inl (cI, (8 * Qk.C), .inl Qk.qf)), (Qk.qe, .inl (cL, (3 * Qk.C), .inr (.inl Qk.ef))), (tv, .inr (12, MF 13 (tw V))), (V.au, .inl (cC, V.U, .inl V.un))] H := by subst e_Qk; exact hP
    have hD : va_D A [(mo, .inr (13, MF 30 (rf (rs v Qk o) i br))), (qx, .inl (cB, NN, .inl f)), (Qk.qq, .inl (cI, (8 * Qk.C), .inl Qk.qf)), (Qk.qe, .inl (cL, (3 * Qk.C), .inr (.inl Qk.ef))), (tv, .inr (12, MF 13 (tw V))), (V.au, .inl (cC, V.U, .inl V.un))] := by subst e_Qk; exact hD
    have hf_Qk : Qk.C = Qj.C ∧ Qk.R = Qj.R ∧ Qk.qf = upd Qj.qf (8 * Q.R + 3) 1 := by rw [e_Qk]; exact ⟨rfl, rfl, rfl⟩
    have he_Qk : Qk.ef = Qj.ef := by rw [e_Qk]; rfl
    have hQk_Qk : QOK Qk := by rw [e_Qk]; exact hQk_Qj
    have hG_QkV : GQ (Q.R + 8 * (n - i) + 9) (V.us + (n + 12 - i)) Q V Qk V := by unfold GQ at hG_QjV ⊢; rw [hf_Qk.1]; exact hG_QjV
    refine w_same (fun hq => ?_)
    refine w_tight (k := cQ Q V Qk V) (n := sQ Q V Qk V) (by unfold cQ sQ at hq ⊢; rw [hf_Qk.1]; exact hq) ?_
    have hR_Qk := hf_Qk.2.1
    have hqb_QkV : Qk.R ≤ Qk.C ∧ Qk.C ≤ 100000 := ⟨hQk_Qk.2.2.1, hQk_Qk.2.1⟩
    have hfit_QkV := hG_QkV.fits
    have hCHk : CHi 3 (SEGp O) Q V Q.R Qk V (-1) [] := CHi.st (by omega) (hj0.tr (alr.upd hf_Qk.2.2 he_Qk (by decide) (by omega))) (by rw [hf_Qk.2.2, pk_un (by omega)]; exact hj2)
    have hf1k : Qk.qf (8 * Q.R + 1) = (if rt = true then 1 else 0) := by rw [hf_Qk.2.2, pk_un (by omega)]; exact hj1
    have hf3k : Qk.qf (8 * Q.R + 3) = (if true = true then 1 else 0) := by rw [hf_Qk.2.2, pk_us, if_pos rfl]
    refine lv_iconst (v := (-1)) hx hb d_Mo_queryRest_29 (by decide) ?_
    refine lv_istore (lv' := [(4, .int (-1)), (0, .ref mo), (1, .int rti), (2, .int 0), (3, .int (nI Q.R))]) hx hb d_Mo_queryRest_30 hl (by decide) rfl (fun ls hl => ?_)
    have hqr0 : qrP f n ok (orL f n) false rt i = (qrL f n ok (orL f n) false (n + 1) i true []).map (fun p => (p.1, p.2.1, qryS rt p.2.2)) := rfl
    refine w_same (fun hq => ?_)
    refine W.widen (k := kcap Q (Q.R + 8 * (n - i) + 9) + qcap V (V.us + (n + 12 - i))) (n := 22 * kcap Q (Q.R + 8 * (n - i) + 9) + 2 * qcap V (V.us + (n + 12 - i))) hfit_QkV.1 hfit_QkV.2 ?_
    refine w_loopH (D := (dC, dI)) (cl := classes) (A := A) (H0 := s.heap) (nL := 7) 32 (σ := QS × TS × Nat × Nat × Int32 × Int32 × Bool × List QT) (fun ⟨Qc, Vc, m9, j, b, bf, fl, ac⟩ H => CHi 3 (SEGp O) Q V Q.R Qc Vc bf ac ∧ Qc.qf (8 * Q.R + 1) = (if rt = true then 1 else 0) ∧ Qc.qf (8 * Q.R + 3) = (if fl = true then 1 else 0) ∧ QOK Qc ∧ TOK Vc ∧ GQ (Q.R + 8 * (n - i) + 9) (V.us + (n + 12 - i)) Q V Qc Vc ∧ (∃ us, TX V Vc us) ∧ Qc.R + 8 * i ≤ Q.R + 8 * j + 1 ∧ Vc.us + i ≤ V.us + j ∧ j ≤ n ∧ i ≤ j ∧ n + 1 ≤ m9 + j ∧ qrL f n ok (orL f n) false m9 j fl ac = qrL f n ok (orL f n) false (n + 1) i true [] ∧ szk s.heap H (cQ Q V Qc Vc) (sQ Q V Qc Vc)) (fun ⟨Qc, Vc, m9, j, b, bf, fl, ac⟩ => n + 1 - j) (fun ⟨Qc, Vc, m9, j, b, bf, fl, ac⟩ => [(mo, .inr (13, MF 30 (rf (rs v Qc o) j b))), (qx, .inl (cB, NN, .inl f)), (Qc.qq, .inl (cI, (8 * Qc.C), .inl Qc.qf)), (Qc.qe, .inl (cL, (3 * Qc.C), .inr (.inl Qc.ef))), (tv, .inr (12, MF 13 (tw Vc))), (Vc.au, .inl (cC, Vc.U, .inl Vc.un))]) (fun ⟨Qc, Vc, m9, j, b, bf, fl, ac⟩ => [(0, .ref mo), (1, .int rti), (2, .int 0), (3, .int (nI Q.R)), (4, .int bf)]) ?_ (Qk, V, n + 1, i, br, -1, true, []) ⟨hCHk, hf1k, hf3k, hQk_Qk, hTk_V, hG_QkV, ⟨[], TX.rf hTk_V⟩, by show Qk.R + 8 * i ≤ Q.R + 8 * i + 1; omega, Nat.le_refl _, hi0, Nat.le_refl _, by show n + 1 ≤ n + 1 + i; omega, rfl, hq⟩ hP hD hS (lv_sub hl [1, 2, 3, 4, 0] rfl)
    rintro ⟨Qc, Vc, m9, j, b, bf, fl, ac⟩ H locs ls hI ih hP hD hS hl
    have hP : va_P (dC, dI) classes [(mo, .inr (13, MF 30 (rf (rs v Qc o) j b))), (qx, .inl (cB, NN, .inl f)), (Qc.qq, .inl (cI, (8 * Qc.C), .inl Qc.qf)), (Qc.qe, .inl (cL, (3 * Qc.C), .inr (.inl Qc.ef))), (tv, .inr (12, MF 13 (tw Vc))), (Vc.au, .inl (cC, Vc.U, .inl Vc.un))] H := hP
    have hD : va_D A [(mo, .inr (13, MF 30 (rf (rs v Qc o) j b))), (qx, .inl (cB, NN, .inl f)), (Qc.qq, .inl (cI, (8 * Qc.C), .inl Qc.qf)), (Qc.qe, .inl (cL, (3 * Qc.C), .inr (.inl Qc.ef))), (tv, .inr (12, MF 13 (tw Vc))), (Vc.au, .inl (cC, Vc.U, .inl Vc.un))] := hD
    have hl : lv_has ls 7 [(0, .ref mo), (1, .int rti), (2, .int 0), (3, .int (nI Q.R)), (4, .int bf)] := hl
    obtain ⟨hCH, hf1, hf3, hQk_Qc, hTk_Vc, hG_QcVc, ⟨usc, hXc⟩, hI1, hI2, hI3, hI4, hI5, hI6, hI7⟩ := hI
    refine w_tight hI7 ?_
    obtain ⟨m0, hm0⟩ : ∃ m0, m9 = m0 + 1 := ⟨m9 - 1, by omega⟩
    have hXcs := hXc.us
    have hCH1 := hCH.1
    have hqb_QcVc : Qc.R ≤ Qc.C ∧ Qc.C ≤ 100000 := ⟨hQk_Qc.2.2.1, hQk_Qc.2.1⟩
    have hfit_QcVc := hG_QcVc.fits
    refine lv_aload_n hx hb d_Mo_queryRest_32 rfl (lv_at hl 0 rfl) ?_
    refine va_get (D := (dC, dI)) (ci := 13) (v := .int (nI j)) (C := R_Mo) (T := F_Mo) (N := 30) hx hb hts in_Mo hown hK hP 0 rfl rfl 7 (by decide) (hts _ w_1096) (fun _ h9 => h9) (MFg (by decide) rf_7) d_Mo_queryRest_33 ?_
    refine lv_istore (lv' := [(5, .int (nI j)), (0, .ref mo), (1, .int rti), (2, .int 0), (3, .int (nI Q.R)), (4, .int bf)]) hx hb d_Mo_queryRest_36 hl (by decide) rfl (fun ls hl => ?_)
    refine lv_aload_n hx hb d_Mo_queryRest_38 rfl (lv_at hl 1 rfl) ?_
    have hPc := hP.sub (ws' := [(mo, .inr (13, MF 30 (rf (rs v Qc o) j b))), (qx, .inl (cB, NN, .inl f))]) [0, 1] rfl
    have hDc := hD.sub (ws' := [(mo, .inr (13, MF 30 (rf (rs v Qc o) j b))), (qx, .inl (cB, NN, .inl f))]) [0, 1] (by decide) rfl
    have hKc := hK.sub (tys' := [(cB, .byte)]) [0] rfl
    have hFc := va_free (wc := [(mo, .inr (13, MF 30 (rf (rs v Qc o) j b))), (qx, .inl (cB, NN, .inl f))]) hD hS hA [0, 1] rfl
    refine va_callv (va_runV (As := []) (rest := []) ⟨hx, hb, hml, hown, hts⟩ (c_Mo_blanks l dC dI mo H (rf (rs v Qc o) j b) cB qx NN f n j (by omega) (by omega) (by omega) ((rf_ne (by decide) (by decide)).trans ((rs_ne (by decide) (by decide) (by decide) (by decide)).trans h6)) rf_7 ((rf_ne (by decide) (by decide)).trans ((rs_ne (by decide) (by decide) (by decide) (by decide)).trans h8))) (cwV 0 hts (gt_V (own := R_Mo) (C := R_Mo) (i := 184) (y := y_Mo_blanks) i_Mo_blanks w_1229 w_1231 (gt_sel (y := y_Mo_blanks) (n := 30) (by decide +kernel)) w_7) rfl rfl rfl (by decide +kernel) ⟨Nat.le_trans (m := 10) (Nat.le_of_ble_eq_true rfl) (Nat.le_add_right 10 F), Nat.le_trans (m := 320) (Nat.le_of_ble_eq_true rfl) (Nat.le_add_right 320 L)⟩) ⟨mp_blind, va_recv hKc hPc (ci := 13) (q0 := 0) rfl rfl, fun U hU hW => ⟨rfl, hU, by rw [hU]; exact hPc, va_K.moved hW.alike hKc, hDc.weaken (fun _ _ _ _ => trivial)⟩⟩ rfl rfl hl.1 rfl (lv_room (Nat.le_of_ble_eq_true rfl)) d_Mo_queryRest_39 ⟨hfit_QcVc.1, hfit_QcVc.2⟩) hS (fun q _ h => hFc q h) hFc (fun _u t9 H1 locs ht hvm hw hB hz1 hk1 hS => ?_)
    obtain ⟨hP1, hK1, hD1⟩ := hB
    rw [ht] at hP1
    obtain ⟨hP, hD⟩ := va_join (wr := [(Qc.qq, .inl (cI, (8 * Qc.C), .inl Qc.qf)), (Qc.qe, .inl (cL, (3 * Qc.C), .inr (.inl Qc.ef))), (tv, .inr (12, MF 13 (tw Vc))), (Vc.au, .inl (cC, Vc.U, .inl Vc.un))]) (w1 := [(mo, .inr (13, MF 30 (va_up (rf (rs v Qc o) j b) 7 (.int (nI (skipH f n j)))))), (qx, .inl (cB, NN, .inl f))]) hP hD [0, 1] [2, 3, 4, 5] rfl rfl (by decide) (by decide) hk1 hFc hP1 hD1
    generalize H1 = H at hP hS ⊢
    have hP : va_P (dC, dI) classes [(Qc.qq, .inl (cI, (8 * Qc.C), .inl Qc.qf)), (Qc.qe, .inl (cL, (3 * Qc.C), .inr (.inl Qc.ef))), (tv, .inr (12, MF 13 (tw Vc))), (Vc.au, .inl (cC, Vc.U, .inl Vc.un)), (mo, .inr (13, MF 30 (va_up (rf (rs v Qc o) j b) 7 (.int (nI (skipH f n j)))))), (qx, .inl (cB, NN, .inl f))] H := hP
    have hD : va_D A [(Qc.qq, .inl (cI, (8 * Qc.C), .inl Qc.qf)), (Qc.qe, .inl (cL, (3 * Qc.C), .inr (.inl Qc.ef))), (tv, .inr (12, MF 13 (tw Vc))), (Vc.au, .inl (cC, Vc.U, .inl Vc.un)), (mo, .inr (13, MF 30 (va_up (rf (rs v Qc o) j b) 7 (.int (nI (skipH f n j)))))), (qx, .inl (cB, NN, .inl f))] := hD
    have hP := hP.sub (ws' := [(mo, .inr (13, MF 30 (va_up (rf (rs v Qc o) j b) 7 (.int (nI (skipH f n j)))))), (qx, .inl (cB, NN, .inl f)), (Qc.qq, .inl (cI, (8 * Qc.C), .inl Qc.qf)), (Qc.qe, .inl (cL, (3 * Qc.C), .inr (.inl Qc.ef))), (tv, .inr (12, MF 13 (tw Vc))), (Vc.au, .inl (cC, Vc.U, .inl Vc.un))]) [4, 5, 0, 1, 2, 3] rfl
    have hD := hD.sub (ws' := [(mo, .inr (13, MF 30 (va_up (rf (rs v Qc o) j b) 7 (.int (nI (skipH f n j)))))), (qx, .inl (cB, NN, .inl f)), (Qc.qq, .inl (cI, (8 * Qc.C), .inl Qc.qf)), (Qc.qe, .inl (cL, (3 * Qc.C), .inr (.inl Qc.ef))), (tv, .inr (12, MF 13 (tw Vc))), (Vc.au, .inl (cC, Vc.U, .inl Vc.un))]) [4, 5, 0, 1, 2, 3] (by decide) rfl
    rw [rf_u7] at hP hD
    have hP : va_P (dC, dI) classes [(mo, .inr (13, MF 30 (rf (rs v Qc o) (skipH f n j) b))), (qx, .inl (cB, NN, .inl f)), (Qc.qq, .inl (cI, (8 * Qc.C), .inl Qc.qf)), (Qc.qe, .inl (cL, (3 * Qc.C), .inr (.inl Qc.ef))), (tv, .inr (12, MF 13 (tw Vc))), (Vc.au, .inl (cC, Vc.U, .inl Vc.un))] H := hP
    have hD : va_D A [(mo, .inr (13, MF 30 (rf (rs v Qc o) (skipH f n j) b))), (qx, .inl (cB, NN, .inl f)), (Qc.qq, .inl (cI, (8 * Qc.C), .inl Qc.qf)), (Qc.qe, .inl (cL, (3 * Qc.C), .inr (.inl Qc.ef))), (tv, .inr (12, MF 13 (tw Vc))), (Vc.au, .inl (cC, Vc.U, .inl Vc.un))] := hD
    have hsk_42 := skipH_n (f := f) (show j ≤ n by omega)
    refine w_join (D := (dC, dI)) (cl := classes) (A := A) (H0 := s.heap) (nL := 7) 68 (σ := Unit) (fun _ => hereV f n (skipH f n j) = 46 ∨ hereV f n (skipH f n j) = 91) (fun _ => cQ Q V Qc Vc) (fun _ => sQ Q V Qc Vc) (fun _ => [(mo, .inr (13, MF 30 (rf (rs v Qc o) (skipH f n j) b))), (qx, .inl (cB, NN, .inl f)), (Qc.qq, .inl (cI, (8 * Qc.C), .inl Qc.qf)), (Qc.qe, .inl (cL, (3 * Qc.C), .inr (.inl Qc.ef))), (tv, .inr (12, MF 13 (tw Vc))), (Vc.au, .inl (cC, Vc.U, .inl Vc.un))]) (fun _ => [(0, .ref mo), (1, .int rti), (2, .int 0), (3, .int (nI Q.R)), (4, .int bf), (5, .int (nI j))]) (fun jn68 => ?_) ?_
    · refine lv_aload_n hx hb d_Mo_queryRest_42 rfl (lv_at hl 1 rfl) ?_
      have hPc := hP.sub (ws' := [(mo, .inr (13, MF 30 (rf (rs v Qc o) (skipH f n j) b))), (qx, .inl (cB, NN, .inl f))]) [0, 1] rfl
      have hDc := hD.sub (ws' := [(mo, .inr (13, MF 30 (rf (rs v Qc o) (skipH f n j) b))), (qx, .inl (cB, NN, .inl f))]) [0, 1] (by decide) rfl
      have hKc := hK.sub (tys' := [(cB, .byte)]) [0] rfl
      have hFc := va_free (wc := [(mo, .inr (13, MF 30 (rf (rs v Qc o) (skipH f n j) b))), (qx, .inl (cB, NN, .inl f))]) hD hS hA [0, 1] rfl
      refine va_calli (va_runV (As := []) (rest := []) ⟨hx, hb, hml, hown, hts⟩ (c_Mo_c l dC dI mo H (rf (rs v Qc o) (skipH f n j) b) cB qx NN f n (skipH f n j) (by omega) (by omega) (by omega) ((rf_ne (by decide) (by decide)).trans ((rs_ne (by decide) (by decide) (by decide) (by decide)).trans h6)) rf_7 ((rf_ne (by decide) (by decide)).trans ((rs_ne (by decide) (by decide) (by decide) (by decide)).trans h8))) (cwV 0 hts (gt_V (own := R_Mo) (C := R_Mo) (i := 147) (y := y_Mo_c) i_Mo_c w_1233 w_1235 (gt_sel (y := y_Mo_c) (n := 30) (by decide +kernel)) w_7) rfl rfl rfl (by decide +kernel) ⟨Nat.le_trans (m := 10) (Nat.le_of_ble_eq_true rfl) (Nat.le_add_right 10 F), Nat.le_trans (m := 320) (Nat.le_of_ble_eq_true rfl) (Nat.le_add_right 320 L)⟩) ⟨mp_blind, va_recv hKc hPc (ci := 13) (q0 := 0) rfl rfl, fun U hU hW => ⟨rfl, hU, by rw [hU]; exact hPc, va_K.moved hW.alike hKc, hDc.weaken (fun _ _ _ _ => trivial)⟩⟩ rfl rfl hl.1 rfl (lv_room (Nat.le_of_ble_eq_true rfl)) d_Mo_queryRest_43 ⟨hfit_QcVc.1, hfit_QcVc.2⟩) hS (fun q _ h => hFc q h) hFc (fun r1 _u t9 H1 locs ht hvm hw hB hz1 hk1 hS => ?_)
      obtain ⟨hP1, hK1, hD1⟩ := hB
      rw [ht] at hP1
      obtain ⟨hP, hD⟩ := va_join (wr := [(Qc.qq, .inl (cI, (8 * Qc.C), .inl Qc.qf)), (Qc.qe, .inl (cL, (3 * Qc.C), .inr (.inl Qc.ef))), (tv, .inr (12, MF 13 (tw Vc))), (Vc.au, .inl (cC, Vc.U, .inl Vc.un))]) (w1 := [(mo, .inr (13, MF 30 (rf (rs v Qc o) (skipH f n j) b))), (qx, .inl (cB, NN, .inl f))]) hP hD [0, 1] [2, 3, 4, 5] rfl rfl (by decide) (by decide) hk1 hFc hP1 hD1
      generalize H1 = H at hP hS ⊢
      have hP : va_P (dC, dI) classes [(Qc.qq, .inl (cI, (8 * Qc.C), .inl Qc.qf)), (Qc.qe, .inl (cL, (3 * Qc.C), .inr (.inl Qc.ef))), (tv, .inr (12, MF 13 (tw Vc))), (Vc.au, .inl (cC, Vc.U, .inl Vc.un)), (mo, .inr (13, MF 30 (rf (rs v Qc o) (skipH f n j) b))), (qx, .inl (cB, NN, .inl f))] H := hP
      have hD : va_D A [(Qc.qq, .inl (cI, (8 * Qc.C), .inl Qc.qf)), (Qc.qe, .inl (cL, (3 * Qc.C), .inr (.inl Qc.ef))), (tv, .inr (12, MF 13 (tw Vc))), (Vc.au, .inl (cC, Vc.U, .inl Vc.un)), (mo, .inr (13, MF 30 (rf (rs v Qc o) (skipH f n j) b))), (qx, .inl (cB, NN, .inl f))] := hD
      have hP := hP.sub (ws' := [(mo, .inr (13, MF 30 (rf (rs v Qc o) (skipH f n j) b))), (qx, .inl (cB, NN, .inl f)), (Qc.qq, .inl (cI, (8 * Qc.C), .inl Qc.qf)), (Qc.qe, .inl (cL, (3 * Qc.C), .inr (.inl Qc.ef))), (tv, .inr (12, MF 13 (tw Vc))), (Vc.au, .inl (cC, Vc.U, .inl Vc.un))]) [4, 5, 0, 1, 2, 3] rfl
      have hD := hD.sub (ws' := [(mo, .inr (13, MF 30 (rf (rs v Qc o) (skipH f n j) b))), (qx, .inl (cB, NN, .inl f)), (Qc.qq, .inl (cI, (8 * Qc.C), .inl Qc.qf)), (Qc.qe, .inl (cL, (3 * Qc.C), .inr (.inl Qc.ef))), (tv, .inr (12, MF 13 (tw Vc))), (Vc.au, .inl (cC, Vc.U, .inl Vc.un))]) [4, 5, 0, 1, 2, 3] (by decide) rfl
      have h_r1 : r1 = hereV f n (skipH f n j) := hw
      refine lv_bipush (v := 46) hx hb d_Mo_queryRest_46 (by decide) ?_
      refine lv_icmp_eq (tgt := 68) hx hb d_Mo_queryRest_48 (by decide) (fun c48 => ?_) (fun c48 => ?_)
      · exact jn68 () _ _ _ (Or.inl (h_r1.symm.trans c48)) hP hD hS (lv_sub hl [1, 2, 3, 4, 5, 0] rfl)
      · refine lv_aload_n hx hb d_Mo_queryRest_51 rfl (lv_at hl 1 rfl) ?_
        have hPc := hP.sub (ws' := [(mo, .inr (13, MF 30 (rf (rs v Qc o) (skipH f n j) b))), (qx, .inl (cB, NN, .inl f))]) [0, 1] rfl
        have hDc := hD.sub (ws' := [(mo, .inr (13, MF 30 (rf (rs v Qc o) (skipH f n j) b))), (qx, .inl (cB, NN, .inl f))]) [0, 1] (by decide) rfl
        have hKc := hK.sub (tys' := [(cB, .byte)]) [0] rfl
        have hFc := va_free (wc := [(mo, .inr (13, MF 30 (rf (rs v Qc o) (skipH f n j) b))), (qx, .inl (cB, NN, .inl f))]) hD hS hA [0, 1] rfl
        refine va_calli (va_runV (As := []) (rest := []) ⟨hx, hb, hml, hown, hts⟩ (c_Mo_c l dC dI mo H (rf (rs v Qc o) (skipH f n j) b) cB qx NN f n (skipH f n j) (by omega) (by omega) (by omega) ((rf_ne (by decide) (by decide)).trans ((rs_ne (by decide) (by decide) (by decide) (by decide)).trans h6)) rf_7 ((rf_ne (by decide) (by decide)).trans ((rs_ne (by decide) (by decide) (by decide) (by decide)).trans h8))) (cwV 0 hts (gt_V (own := R_Mo) (C := R_Mo) (i := 147) (y := y_Mo_c) i_Mo_c w_1233 w_1235 (gt_sel (y := y_Mo_c) (n := 30) (by decide +kernel)) w_7) rfl rfl rfl (by decide +kernel) ⟨Nat.le_trans (m := 10) (Nat.le_of_ble_eq_true rfl) (Nat.le_add_right 10 F), Nat.le_trans (m := 320) (Nat.le_of_ble_eq_true rfl) (Nat.le_add_right 320 L)⟩) ⟨mp_blind, va_recv hKc hPc (ci := 13) (q0 := 0) rfl rfl, fun U hU hW => ⟨rfl, hU, by rw [hU]; exact hPc, va_K.moved hW.alike hKc, hDc.weaken (fun _ _ _ _ => trivial)⟩⟩ rfl rfl hl.1 rfl (lv_room (Nat.le_of_ble_eq_true rfl)) d_Mo_queryRest_52 ⟨hfit_QcVc.1, hfit_QcVc.2⟩) hS (fun q _ h => hFc q h) hFc (fun r2 _u t9 H1 locs ht hvm hw hB hz1 hk1 hS => ?_)
        obtain ⟨hP1, hK1, hD1⟩ := hB
        rw [ht] at hP1
        obtain ⟨hP, hD⟩ := va_join (wr := [(Qc.qq, .inl (cI, (8 * Qc.C), .inl Qc.qf)), (Qc.qe, .inl (cL, (3 * Qc.C), .inr (.inl Qc.ef))), (tv, .inr (12, MF 13 (tw Vc))), (Vc.au, .inl (cC, Vc.U, .inl Vc.un))]) (w1 := [(mo, .inr (13, MF 30 (rf (rs v Qc o) (skipH f n j) b))), (qx, .inl (cB, NN, .inl f))]) hP hD [0, 1] [2, 3, 4, 5] rfl rfl (by decide) (by decide) hk1 hFc hP1 hD1
        generalize H1 = H at hP hS ⊢
        have hP : va_P (dC, dI) classes [(Qc.qq, .inl (cI, (8 * Qc.C), .inl Qc.qf)), (Qc.qe, .inl (cL, (3 * Qc.C), .inr (.inl Qc.ef))), (tv, .inr (12, MF 13 (tw Vc))), (Vc.au, .inl (cC, Vc.U, .inl Vc.un)), (mo, .inr (13, MF 30 (rf (rs v Qc o) (skipH f n j) b))), (qx, .inl (cB, NN, .inl f))] H := hP
        have hD : va_D A [(Qc.qq, .inl (cI, (8 * Qc.C), .inl Qc.qf)), (Qc.qe, .inl (cL, (3 * Qc.C), .inr (.inl Qc.ef))), (tv, .inr (12, MF 13 (tw Vc))), (Vc.au, .inl (cC, Vc.U, .inl Vc.un)), (mo, .inr (13, MF 30 (rf (rs v Qc o) (skipH f n j) b))), (qx, .inl (cB, NN, .inl f))] := hD
        have hP := hP.sub (ws' := [(mo, .inr (13, MF 30 (rf (rs v Qc o) (skipH f n j) b))), (qx, .inl (cB, NN, .inl f)), (Qc.qq, .inl (cI, (8 * Qc.C), .inl Qc.qf)), (Qc.qe, .inl (cL, (3 * Qc.C), .inr (.inl Qc.ef))), (tv, .inr (12, MF 13 (tw Vc))), (Vc.au, .inl (cC, Vc.U, .inl Vc.un))]) [4, 5, 0, 1, 2, 3] rfl
        have hD := hD.sub (ws' := [(mo, .inr (13, MF 30 (rf (rs v Qc o) (skipH f n j) b))), (qx, .inl (cB, NN, .inl f)), (Qc.qq, .inl (cI, (8 * Qc.C), .inl Qc.qf)), (Qc.qe, .inl (cL, (3 * Qc.C), .inr (.inl Qc.ef))), (tv, .inr (12, MF 13 (tw Vc))), (Vc.au, .inl (cC, Vc.U, .inl Vc.un))]) [4, 5, 0, 1, 2, 3] (by decide) rfl
        have h_r2 : r2 = hereV f n (skipH f n j) := hw
        refine lv_bipush (v := 91) hx hb d_Mo_queryRest_55 (by decide) ?_
        refine lv_icmp_eq (tgt := 68) hx hb d_Mo_queryRest_57 (by decide) (fun c57 => ?_) (fun c57 => ?_)
        · exact jn68 () _ _ _ (Or.inr (h_r2.symm.trans c57)) hP hD hS (lv_sub hl [1, 2, 3, 4, 5, 0] rfl)
        · refine lv_aload_n hx hb d_Mo_queryRest_60 rfl (lv_at hl 1 rfl) ?_
          refine lv_iload hx hb d_Mo_queryRest_61 (lv_at hl 0 rfl) ?_
          refine va_put (D := (dC, dI)) (ci := 13) (v := .int (nI j)) (ty := .int) (C := R_Mo) (T := F_Mo) (N := 30) hx hb hts in_Mo t_Mo t_Mo_ok n_Mo hown hK hP hD hS 0 rfl rfl 7 (by decide) (hts _ w_1096) (fun _ h9 => h9) rfl (by decide +kernel) rfl rfl (by rw [MFl]; decide) d_Mo_queryRest_63 (fun H locs hP hD hS => ?_)
          rw [MFs (n := 30) (k := 7) (by decide)] at hP hD
          have hP : va_P (dC, dI) classes [(mo, .inr (13, MF 30 (va_up (rf (rs v Qc o) (skipH f n j) b) 7 (.int (nI j))))), (qx, .inl (cB, NN, .inl f)), (Qc.qq, .inl (cI, (8 * Qc.C), .inl Qc.qf)), (Qc.qe, .inl (cL, (3 * Qc.C), .inr (.inl Qc.ef))), (tv, .inr (12, MF 13 (tw Vc))), (Vc.au, .inl (cC, Vc.U, .inl Vc.un))] H := hP
          have hD : va_D A [(mo, .inr (13, MF 30 (va_up (rf (rs v Qc o) (skipH f n j) b) 7 (.int (nI j))))), (qx, .inl (cB, NN, .inl f)), (Qc.qq, .inl (cI, (8 * Qc.C), .inl Qc.qf)), (Qc.qe, .inl (cL, (3 * Qc.C), .inr (.inl Qc.ef))), (tv, .inr (12, MF 13 (tw Vc))), (Vc.au, .inl (cC, Vc.U, .inl Vc.un))] := hD
          rw [rf_u7] at hP hD
          have hP : va_P (dC, dI) classes [(mo, .inr (13, MF 30 (rf (rs v Qc o) j b))), (qx, .inl (cB, NN, .inl f)), (Qc.qq, .inl (cI, (8 * Qc.C), .inl Qc.qf)), (Qc.qe, .inl (cL, (3 * Qc.C), .inr (.inl Qc.ef))), (tv, .inr (12, MF 13 (tw Vc))), (Vc.au, .inl (cC, Vc.U, .inl Vc.un))] H := hP
          have hD : va_D A [(mo, .inr (13, MF 30 (rf (rs v Qc o) j b))), (qx, .inl (cB, NN, .inl f)), (Qc.qq, .inl (cI, (8 * Qc.C), .inl Qc.qf)), (Qc.qe, .inl (cL, (3 * Qc.C), .inr (.inl Qc.ef))), (tv, .inr (12, MF 13 (tw Vc))), (Vc.au, .inl (cC, Vc.U, .inl Vc.un))] := hD
          refine lv_iload_n hx hb d_Mo_queryRest_66 rfl (lv_at hl 4 rfl) ?_
          have hfin : qrP f n ok (orL f n) false rt i = some (j, fl, qryS rt ac) := by rw [hqr0, ← hI6, hm0, qrL_e (fun h => c48 (h_r1.trans h)) (fun h => c57 (h_r2.trans h))]; rfl
          have hds := ds_m hf1
          refine w_same (fun hq => ?_)
          refine W.widen (k := kcap Q (Q.R + 8 * (n - i) + 9) + qcap V (V.us + (n + 12 - i))) (n := 22 * kcap Q (Q.R + 8 * (n - i) + 9) + 2 * qcap V (V.us + (n + 12 - i))) hfit_QcVc.1 hfit_QcVc.2 ?_
          have hPo : QPo n i 9 Q V (Qc, Vc, j, b, o) := ⟨hQk_Qc, hG_QcVc, ⟨_, hXc, by omega⟩, by show Q.R ≤ Qc.R; omega, by show Qc.R ≤ Q.R + 8 * (n - i) + 9; omega⟩
          exact W.iret (v := nI Q.R) hx hb hr (fun t9 ht hW => ⟨⟨nI Q.R, (Qc, Vc, j, b, o), rfl, ⟨hPo, Or.inl ⟨fl, qryS rt ac, rfl, hfin, ⟨Nat.le_refl _, hCH1, hds.1, ac, hCH.all SEGp_in, by rw [hds.2]⟩, hCH.ex, hf3, hI1, hI2, hI3, hCH1, rfl⟩⟩, ⟨by rw [ht]; exact hP, va_K.moved hW.alike hK, hD⟩, by rw [ht]; exact hq⟩, hS.F ht⟩) hS.2.2 d_Mo_queryRest_67
    · rintro _ H locs ls hI68 hP hD hS hl
      have hP : va_P (dC, dI) classes [(mo, .inr (13, MF 30 (rf (rs v Qc o) (skipH f n j) b))), (qx, .inl (cB, NN, .inl f)), (Qc.qq, .inl (cI, (8 * Qc.C), .inl Qc.qf)), (Qc.qe, .inl (cL, (3 * Qc.C), .inr (.inl Qc.ef))), (tv, .inr (12, MF 13 (tw Vc))), (Vc.au, .inl (cC, Vc.U, .inl Vc.un))] H := hP
      have hD : va_D A [(mo, .inr (13, MF 30 (rf (rs v Qc o) (skipH f n j) b))), (qx, .inl (cB, NN, .inl f)), (Qc.qq, .inl (cI, (8 * Qc.C), .inl Qc.qf)), (Qc.qe, .inl (cL, (3 * Qc.C), .inr (.inl Qc.ef))), (tv, .inr (12, MF 13 (tw Vc))), (Vc.au, .inl (cC, Vc.U, .inl Vc.un))] := hD
      have hl : lv_has ls 7 [(0, .ref mo), (1, .int rti), (2, .int 0), (3, .int (nI Q.R)), (4, .int bf), (5, .int (nI j))] := hl
      have hqb_QcVc : Qc.R ≤ Qc.C ∧ Qc.C ≤ 100000 := ⟨hQk_Qc.2.2.1, hQk_Qc.2.1⟩
      have hfit_QcVc := hG_QcVc.fits
      refine lv_aload_n hx hb d_Mo_queryRest_68 rfl (lv_at hl 0 rfl) ?_
      refine lv_iload_n hx hb d_Mo_queryRest_69 rfl (lv_at hl 3 rfl) ?_
      refine lv_iload_n hx hb d_Mo_queryRest_70 rfl (lv_at hl 2 rfl) ?_
      have hPc := hP.sub (ws' := [(mo, .inr (13, MF 30 (rf (rs v Qc o) (skipH f n j) b))), (qx, .inl (cB, NN, .inl f)), (Qc.qq, .inl (cI, (8 * Qc.C), .inl Qc.qf)), (Qc.qe, .inl (cL, (3 * Qc.C), .inr (.inl Qc.ef))), (tv, .inr (12, MF 13 (tw Vc))), (Vc.au, .inl (cC, Vc.U, .inl Vc.un))]) [0, 1, 2, 3, 4, 5] rfl
      have hDc := hD.sub (ws' := [(mo, .inr (13, MF 30 (rf (rs v Qc o) (skipH f n j) b))), (qx, .inl (cB, NN, .inl f)), (Qc.qq, .inl (cI, (8 * Qc.C), .inl Qc.qf)), (Qc.qe, .inl (cL, (3 * Qc.C), .inr (.inl Qc.ef))), (tv, .inr (12, MF 13 (tw Vc))), (Vc.au, .inl (cC, Vc.U, .inl Vc.un))]) [0, 1, 2, 3, 4, 5] (by decide) rfl
      have hKc := hK.sub (tys' := [(cB, .byte), (cI, .int), (cL, .long), (cC, .char)]) [0, 1, 2, 3] rfl
      have hFc := va_free (wc := [(mo, .inr (13, MF 30 (rf (rs v Qc o) (skipH f n j) b))), (qx, .inl (cB, NN, .inl f)), (Qc.qq, .inl (cI, (8 * Qc.C), .inl Qc.qf)), (Qc.qe, .inl (cL, (3 * Qc.C), .inr (.inl Qc.ef))), (tv, .inr (12, MF 13 (tw Vc))), (Vc.au, .inl (cC, Vc.U, .inl Vc.un))]) hD hS hA [0, 1, 2, 3, 4, 5] rfl
      refine w_same (fun hq0 => ?_)
      refine va_calli (va_runV (As := [.int (nI Q.R), .int 0]) (rest := []) ⟨hx, hb, hml, hown, hts⟩ (c_seg0 orL O F L hOf l dC dI mo H v cB cI cL cC qx NN f n K tv Qc Vc o (skipH f n j) b Q.R ok hok ho16 hOR hnN hNN (by omega) h6 h8 h22 hQk_Qc hTk_Vc (by omega) (by omega) hCH1) (cwV 2 hts (gt_V (own := R_Mo) (C := R_Mo) (i := 275) (y := y_Mo_segment) i_Mo_segment w_1415 w_1417 (gt_sel (y := y_Mo_segment) (n := 30) (by decide +kernel)) w_7) rfl rfl rfl (by decide +kernel) ⟨by show 9 + F + 1 ≤ 10 + F; omega, by show 8 + (5 + 11) + (280 + L) ≤ 320 + L; omega⟩) ⟨me_blind, va_recv hKc hPc (ci := 13) (q0 := 0) rfl rfl, fun U hU hW => ⟨rfl, ⟨hU, by rw [hU]; exact hPc, va_K.moved hW.alike hKc, hDc.weaken (fun _ _ _ _ => trivial)⟩, by rw [hU]; exact ME.call hM hS.2.1 hFc hW⟩⟩ rfl rfl hl.1 rfl (lv_room (Nat.le_of_ble_eq_true rfl)) d_Mo_queryRest_71 ⟨(hG_QcVc.step (B2 := Qc.R + 8 * (n - (skipH f n j)) + 8) (C2 := Vc.us + (n + 12 - (skipH f n j))) (by omega) (by omega)).1, (hG_QcVc.step (B2 := Qc.R + 8 * (n - (skipH f n j)) + 8) (C2 := Vc.us + (n + 12 - (skipH f n j))) (by omega) (by omega)).2⟩) hS (fun q _ h => hFc q h) hFc (fun r0 ⟨Qs, Vs, js, bs, os⟩ t9 H1 locs ht hvm hw hB hz1 hk1 hS => ?_)
      obtain ⟨⟨hP1, hK1, hD1⟩, hz9⟩ := hB
      rw [ht] at hP1
      rw [ht] at hz9
      obtain ⟨⟨hQk_Qs, hGn, hTXs, hR1_Qs, hR2_Qs⟩, hw⟩ := hw
      have hQk_Qs : QOK Qs := hQk_Qs
      obtain ⟨hG_QsVs, hGc, hGs⟩ := hG_QcVc.tr hGn (by omega) (by omega)
      have hR1_Qs : Qc.R ≤ Qs.R := hR1_Qs
      have hR2_Qs : Qs.R ≤ Qc.R + 8 * (n - (skipH f n j)) + 8 := hR2_Qs
      obtain ⟨uss, hX_Vs, hln_Vs⟩ := hTXs
      have hX_Vs : TX Vc Vs uss := hX_Vs
      have hXs_Vs := hX_Vs.us
      have hz9 : szk H H1 (cQ Qc Vc Qs Vs) (sQ Qc Vc Qs Vs) := hz9
      have hq1 : szk s.heap H1 (cQ Q V Qs Vs) (sQ Q V Qs Vs) := (hq0.trans hz9).mono hGc hGs
      refine w_tight hq1 ?_
      obtain ⟨hP, hD⟩ := va_join (wr := []) (w1 := [(mo, .inr (13, MF 30 (rf (rs v Qs os) js bs))), (qx, .inl (cB, NN, .inl f)), (Qs.qq, .inl (cI, (8 * Qs.C), .inl Qs.qf)), (Qs.qe, .inl (cL, (3 * Qs.C), .inr (.inl Qs.ef))), (tv, .inr (12, MF 13 (tw Vs))), (Vs.au, .inl (cC, Vs.U, .inl Vs.un))]) hP hD [0, 1, 2, 3, 4, 5] [] rfl rfl (by decide) (by decide) hk1 hFc hP1 hD1
      generalize H1 = H at hP hS ⊢
      have hP : va_P (dC, dI) classes [(mo, .inr (13, MF 30 (rf (rs v Qs os) js bs))), (qx, .inl (cB, NN, .inl f)), (Qs.qq, .inl (cI, (8 * Qs.C), .inl Qs.qf)), (Qs.qe, .inl (cL, (3 * Qs.C), .inr (.inl Qs.ef))), (tv, .inr (12, MF 13 (tw Vs))), (Vs.au, .inl (cC, Vs.U, .inl Vs.un))] H := hP
      have hD : va_D A [(mo, .inr (13, MF 30 (rf (rs v Qs os) js bs))), (qx, .inl (cB, NN, .inl f)), (Qs.qq, .inl (cI, (8 * Qs.C), .inl Qs.qf)), (Qs.qe, .inl (cL, (3 * Qs.C), .inr (.inl Qs.ef))), (tv, .inr (12, MF 13 (tw Vs))), (Vs.au, .inl (cC, Vs.U, .inl Vs.un))] := hD
      have hP := hP.sub (ws' := [(mo, .inr (13, MF 30 (rf (rs v Qs os) js bs))), (qx, .inl (cB, NN, .inl f)), (tv, .inr (12, MF 13 (tw Vs))), (Qs.qq, .inl (cI, (8 * Qs.C), .inl Qs.qf)), (Qs.qe, .inl (cL, (3 * Qs.C), .inr (.inl Qs.ef))), (Vs.au, .inl (cC, Vs.U, .inl Vs.un))]) [0, 1, 4, 2, 3, 5] rfl
      have hD := hD.sub (ws' := [(mo, .inr (13, MF 30 (rf (rs v Qs os) js bs))), (qx, .inl (cB, NN, .inl f)), (tv, .inr (12, MF 13 (tw Vs))), (Qs.qq, .inl (cI, (8 * Qs.C), .inl Qs.qf)), (Qs.qe, .inl (cL, (3 * Qs.C), .inr (.inl Qs.ef))), (Vs.au, .inl (cC, Vs.U, .inl Vs.un))]) [0, 1, 4, 2, 3, 5] (by decide) rfl
      have hP := hP.sub (ws' := [(mo, .inr (13, MF 30 (rf (rs v Qs os) js bs))), (qx, .inl (cB, NN, .inl f)), (Qs.qq, .inl (cI, (8 * Qs.C), .inl Qs.qf)), (Qs.qe, .inl (cL, (3 * Qs.C), .inr (.inl Qs.ef))), (tv, .inr (12, MF 13 (tw Vs))), (Vs.au, .inl (cC, Vs.U, .inl Vs.un))]) [0, 1, 3, 4, 2, 5] rfl
      have hD := hD.sub (ws' := [(mo, .inr (13, MF 30 (rf (rs v Qs os) js bs))), (qx, .inl (cB, NN, .inl f)), (Qs.qq, .inl (cI, (8 * Qs.C), .inl Qs.qf)), (Qs.qe, .inl (cL, (3 * Qs.C), .inr (.inl Qs.ef))), (tv, .inr (12, MF 13 (tw Vs))), (Vs.au, .inl (cC, Vs.U, .inl Vs.un))]) [0, 1, 3, 4, 2, 5] (by decide) rfl
      have hTk_Vs := hX_Vs.ok hTk_Vc (by omega)
      have hqb_QsVs : Qs.R ≤ Qs.C ∧ Qs.C ≤ 100000 := ⟨hQk_Qs.2.2.1, hQk_Qs.2.1⟩
      have hfit_QsVs := hG_QsVs.fits
      rcases hw with ⟨fl1, g1, hv_1, hv_2, hv_3, hv_4, hv_5, hv_6, hv_7, hv_8⟩ | ⟨hv_1, hv_2⟩
      · have hv_8 : o = os := hv_8.symm
        subst hv_8
        have hP : va_P (dC, dI) classes [(mo, .inr (13, MF 30 (rf (rs v Qs o) js bs))), (qx, .inl (cB, NN, .inl f)), (Qs.qq, .inl (cI, (8 * Qs.C), .inl Qs.qf)), (Qs.qe, .inl (cL, (3 * Qs.C), .inr (.inl Qs.ef))), (tv, .inr (12, MF 13 (tw Vs))), (Vs.au, .inl (cC, Vs.U, .inl Vs.un))] H := hP
        have hD : va_D A [(mo, .inr (13, MF 30 (rf (rs v Qs o) js bs))), (qx, .inl (cB, NN, .inl f)), (Qs.qq, .inl (cI, (8 * Qs.C), .inl Qs.qf)), (Qs.qe, .inl (cL, (3 * Qs.C), .inr (.inl Qs.ef))), (tv, .inr (12, MF 13 (tw Vs))), (Vs.au, .inl (cC, Vs.U, .inl Vs.un))] := hD
        have hv_2 : sgP f n ok (orL f n) false (skipH f n j) = some (js, fl1, g1) := hv_2
        have hv_3 : SGf O Qc Vc Qc.R Q.R Qs Vs fl1 g1 := hv_3
        have hv_4 : Qs.R + 8 * (skipH f n j) + 7 ≤ Qc.R + 8 * js := hv_4
        have hv_5 : Vs.us + (skipH f n j) ≤ Vc.us + js := hv_5
        have hv_6 : js ≤ n := hv_6
        have hv_7 : Qc.R < Qs.R := hv_7
        subst hv_1
        refine lv_istore (lv' := [(6, .int (nI Qc.R)), (0, .ref mo), (1, .int rti), (2, .int 0), (3, .int (nI Q.R)), (4, .int bf), (5, .int (nI j))]) hx hb d_Mo_queryRest_74 hl (by decide) rfl (fun ls hl => ?_)
        refine lv_iload hx hb d_Mo_queryRest_76 (lv_at hl 0 rfl) ?_
        refine lv_if_ge (tgt := 83) hx hb d_Mo_queryRest_78 (by decide) (fun _ => ?_) (fun h => absurd (nI_pos' (by omega)) h)
        refine w_join (D := (dC, dI)) (cl := classes) (A := A) (H0 := s.heap) (nL := 7) 108 (σ := QS) (fun Qz => CHi 3 (SEGp O) Q V Q.R Qz Vs (nI Qc.R) (ac ++ [g1]) ∧ Qz.qf (8 * Q.R + 1) = (if rt = true then 1 else 0) ∧ Qz.qf (8 * Q.R + 3) = (if (fl && fl1) = true then 1 else 0) ∧ QOK Qz ∧ GQ (Q.R + 8 * (n - i) + 9) (V.us + (n + 12 - i)) Q V Qz Vs ∧ Qz.R = Qs.R) (fun Qz => cQ Q V Qz Vs) (fun Qz => sQ Q V Qz Vs) (fun Qz => [(mo, .inr (13, MF 30 (rf (rs v Qz o) js bs))), (qx, .inl (cB, NN, .inl f)), (Qz.qq, .inl (cI, (8 * Qz.C), .inl Qz.qf)), (Qz.qe, .inl (cL, (3 * Qz.C), .inr (.inl Qz.ef))), (tv, .inr (12, MF 13 (tw Vs))), (Vs.au, .inl (cC, Vs.U, .inl Vs.un))]) (fun Qz => [(0, .ref mo), (1, .int rti), (2, .int 0), (3, .int (nI Q.R)), (6, .int (nI Qc.R))]) (fun jn108 => ?_) ?_
        · rcases hCH.2.2.1 with ⟨hb1, hb5⟩ | ⟨a9, hb1, hb2, hb3⟩
          · rw [hb1] at hl hCH
            have hl : lv_has ls 7 [(6, .int (nI Qc.R)), (0, .ref mo), (1, .int rti), (2, .int 0), (3, .int (nI Q.R)), (4, .int (-1)), (5, .int (nI j))] := hl
            refine lv_iload hx hb d_Mo_queryRest_83 (lv_at hl 5 rfl) ?_
            refine lv_if_ge (tgt := 99) hx hb d_Mo_queryRest_85 (by decide) (fun h => absurd h (by decide)) (fun _ => ?_)
            refine lv_aload_n hx hb d_Mo_queryRest_88 rfl (lv_at hl 1 rfl) ?_
            refine lv_iload_n hx hb d_Mo_queryRest_89 rfl (lv_at hl 4 rfl) ?_
            refine lv_iconst (v := 2) hx hb d_Mo_queryRest_90 (by decide) ?_
            refine lv_iload hx hb d_Mo_queryRest_91 (lv_at hl 0 rfl) ?_
            refine W.eq (g2 := F0 m 93 ls [.int (nI Qc.R), .int (nI 2), .int (nI Q.R), .ref mo]) rfl ?_
            have hPc := hP.sub (ws' := [(mo, .inr (13, MF 30 (rf (rs v Qs o) js bs))), (Qs.qq, .inl (cI, (8 * Qs.C), .inl Qs.qf))]) [0, 2] rfl
            have hDc := hD.sub (ws' := [(mo, .inr (13, MF 30 (rf (rs v Qs o) js bs))), (Qs.qq, .inl (cI, (8 * Qs.C), .inl Qs.qf))]) [0, 2] (by decide) rfl
            have hKc := hK.sub (tys' := [(cI, .int)]) [1] rfl
            have hFc := va_free (wc := [(mo, .inr (13, MF 30 (rf (rs v Qs o) js bs))), (Qs.qq, .inl (cI, (8 * Qs.C), .inl Qs.qf))]) hD hS hA [0, 2] rfl
            refine va_callv (va_runV (As := [.int (nI Q.R), .int (nI 2), .int (nI Qc.R)]) (rest := []) ⟨hx, hb, hml, hown, hts⟩ (c_Mo_set l dC dI mo H (rf (rs v Qs o) js bs) cI Qs.qq (8 * Qs.C) Qs.qf Q.R 2 ((nI Qc.R)) (by omega) (by omega) ((rf_ne (by decide) (by decide)).trans rs_19)) (cwV 3 hts (gt_V (own := R_Mo) (C := R_Mo) (i := 272) (y := y_Mo_set) i_Mo_set w_1411 w_1413 (gt_sel (y := y_Mo_set) (n := 30) (by decide +kernel)) w_7) rfl rfl rfl (by decide +kernel) ⟨Nat.le_trans (m := 10) (Nat.le_of_ble_eq_true rfl) (Nat.le_add_right 10 F), Nat.le_trans (m := 320) (Nat.le_of_ble_eq_true rfl) (Nat.le_add_right 320 L)⟩) ⟨mp_blind, va_recv hKc hPc (ci := 13) (q0 := 0) rfl rfl, fun U hU hW => ⟨rfl, hU, by rw [hU]; exact hPc, va_K.moved hW.alike hKc, hDc.weaken (fun _ _ _ _ => trivial)⟩⟩ rfl rfl hl.1 rfl (lv_room (Nat.le_of_ble_eq_true rfl)) d_Mo_queryRest_93 ⟨hfit_QsVs.1, hfit_QsVs.2⟩) hS (fun q _ h => hFc q h) hFc (fun _u t9 H1 locs ht hvm hw hB hz1 hk1 hS => ?_)
            obtain ⟨hP1, hK1, hD1⟩ := hB
            rw [ht] at hP1
            obtain ⟨hP, hD⟩ := va_join (wr := [(qx, .inl (cB, NN, .inl f)), (Qs.qe, .inl (cL, (3 * Qs.C), .inr (.inl Qs.ef))), (tv, .inr (12, MF 13 (tw Vs))), (Vs.au, .inl (cC, Vs.U, .inl Vs.un))]) (w1 := [(mo, .inr (13, MF 30 (rf (rs v Qs o) js bs))), (Qs.qq, .inl (cI, (8 * Qs.C), .inl (upd Qs.qf (8 * Q.R + 2) ((nI Qc.R)))))]) hP hD [0, 2] [1, 3, 4, 5] rfl rfl (by decide) (by decide) hk1 hFc hP1 hD1
            generalize H1 = H at hP hS ⊢
            have hP : va_P (dC, dI) classes [(qx, .inl (cB, NN, .inl f)), (Qs.qe, .inl (cL, (3 * Qs.C), .inr (.inl Qs.ef))), (tv, .inr (12, MF 13 (tw Vs))), (Vs.au, .inl (cC, Vs.U, .inl Vs.un)), (mo, .inr (13, MF 30 (rf (rs v Qs o) js bs))), (Qs.qq, .inl (cI, (8 * Qs.C), .inl (upd Qs.qf (8 * Q.R + 2) ((nI Qc.R)))))] H := hP
            have hD : va_D A [(qx, .inl (cB, NN, .inl f)), (Qs.qe, .inl (cL, (3 * Qs.C), .inr (.inl Qs.ef))), (tv, .inr (12, MF 13 (tw Vs))), (Vs.au, .inl (cC, Vs.U, .inl Vs.un)), (mo, .inr (13, MF 30 (rf (rs v Qs o) js bs))), (Qs.qq, .inl (cI, (8 * Qs.C), .inl (upd Qs.qf (8 * Q.R + 2) ((nI Qc.R)))))] := hD
            have hP := hP.sub (ws' := [(mo, .inr (13, MF 30 (rf (rs v Qs o) js bs))), (qx, .inl (cB, NN, .inl f)), (Qs.qq, .inl (cI, (8 * Qs.C), .inl (upd Qs.qf (8 * Q.R + 2) ((nI Qc.R))))), (Qs.qe, .inl (cL, (3 * Qs.C), .inr (.inl Qs.ef))), (tv, .inr (12, MF 13 (tw Vs))), (Vs.au, .inl (cC, Vs.U, .inl Vs.un))]) [4, 0, 5, 1, 2, 3] rfl
            have hD := hD.sub (ws' := [(mo, .inr (13, MF 30 (rf (rs v Qs o) js bs))), (qx, .inl (cB, NN, .inl f)), (Qs.qq, .inl (cI, (8 * Qs.C), .inl (upd Qs.qf (8 * Q.R + 2) ((nI Qc.R))))), (Qs.qe, .inl (cL, (3 * Qs.C), .inr (.inl Qs.ef))), (tv, .inr (12, MF 13 (tw Vs))), (Vs.au, .inl (cC, Vs.U, .inl Vs.un))]) [4, 0, 5, 1, 2, 3] (by decide) rfl
            obtain ⟨Qt, e_Qt⟩ : ∃ z : QS, z = QS.wf Qs (upd Qs.qf (8 * Q.R + 2) ((nI Qc.R))) := ⟨_, rfl⟩
            have hP : va_P (dC, dI) classes [(mo, .inr (13, MF 30 (rf (rs v Qt o) js bs))), (qx, .inl (cB, NN, .inl f)), (Qt.qq, .inl (cI, (8 * Qt.C), .inl Qt.qf)), (Qt.qe, .inl (cL, (3 * Qt.C), .inr (.inl Qt.ef))), (tv, .inr (12, MF 13 (tw Vs))), (Vs.au, .inl (cC, Vs.U, .inl Vs.un))] H := by subst e_Qt; exact hP
            have hD : va_D A [(mo, .inr (13, MF 30 (rf (rs v Qt o) js bs))), (qx, .inl (cB, NN, .inl f)), (Qt.qq, .inl (cI, (8 * Qt.C), .inl Qt.qf)), (Qt.qe, .inl (cL, (3 * Qt.C), .inr (.inl Qt.ef))), (tv, .inr (12, MF 13 (tw Vs))), (Vs.au, .inl (cC, Vs.U, .inl Vs.un))] := by subst e_Qt; exact hD
            have hf_Qt : Qt.C = Qs.C ∧ Qt.R = Qs.R ∧ Qt.qf = upd Qs.qf (8 * Q.R + 2) ((nI Qc.R)) := by rw [e_Qt]; exact ⟨rfl, rfl, rfl⟩
            have he_Qt : Qt.ef = Qs.ef := by rw [e_Qt]; rfl
            have hQk_Qt : QOK Qt := by rw [e_Qt]; exact hQk_Qs
            have hG_QtVs : GQ (Q.R + 8 * (n - i) + 9) (V.us + (n + 12 - i)) Q V Qt Vs := by unfold GQ at hG_QsVs ⊢; rw [hf_Qt.1]; exact hG_QsVs
            refine w_same (fun hq => ?_)
            refine w_tight (k := cQ Q V Qt Vs) (n := sQ Q V Qt Vs) (by unfold cQ sQ at hq ⊢; rw [hf_Qt.1]; exact hq) ?_
            have hR_Qt := hf_Qt.2.1
            have hqb_QtVs : Qt.R ≤ Qt.C ∧ Qt.C ≤ 100000 := ⟨hQk_Qt.2.2.1, hQk_Qt.2.1⟩
            have hfit_QtVs := hG_QtVs.fits
            have hCHt : CHi 3 (SEGp O) Q V Q.R Qt Vs (nI Qc.R) (ac ++ [g1]) := hCH.one (SEGp_fr hOf) SEGp_in (by decide) hb5 hv_3.2.2.1 hv_3.1 hv_3.2.1 hf_Qt.2.2 he_Qt hR_Qt
            have hf1t : Qt.qf (8 * Q.R + 1) = (if rt = true then 1 else 0) := by rw [hf_Qt.2.2, pk_un (by omega), hv_3.2.2.1.1 Q.R 1 (by omega) (by decide) (by omega)]; exact hf1
            have hf3t : Qt.qf (8 * Q.R + 3) = (if (fl && fl1) = true then 1 else 0) := by rw [hf_Qt.2.2, pk_un (by omega)]; exact b_ifs hv_3.2.2.2 hf3
            refine lv_goto (tgt := 108) hx hb d_Mo_queryRest_96 (by decide) ?_
            exact jn108 Qt _ _ _ ⟨hCHt, hf1t, hf3t, hQk_Qt, hG_QtVs, by omega⟩ hP hD hS (lv_sub hl [1, 2, 3, 4, 0] rfl)
          · rw [hb1] at hl hCH
            have hl : lv_has ls 7 [(6, .int (nI Qc.R)), (0, .ref mo), (1, .int rti), (2, .int 0), (3, .int (nI Q.R)), (4, .int (nI a9)), (5, .int (nI j))] := hl
            refine lv_iload hx hb d_Mo_queryRest_83 (lv_at hl 5 rfl) ?_
            refine lv_if_ge (tgt := 99) hx hb d_Mo_queryRest_85 (by decide) (fun _ => ?_) (fun h => absurd (nI_pos' (by omega)) h)
            refine lv_aload_n hx hb d_Mo_queryRest_99 rfl (lv_at hl 1 rfl) ?_
            refine lv_iload hx hb d_Mo_queryRest_100 (lv_at hl 5 rfl) ?_
            refine lv_iconst (v := 3) hx hb d_Mo_queryRest_102 (by decide) ?_
            refine lv_iload hx hb d_Mo_queryRest_103 (lv_at hl 0 rfl) ?_
            refine W.eq (g2 := F0 m 105 ls [.int (nI Qc.R), .int (nI 3), .int (nI a9), .ref mo]) rfl ?_
            have hPc := hP.sub (ws' := [(mo, .inr (13, MF 30 (rf (rs v Qs o) js bs))), (Qs.qq, .inl (cI, (8 * Qs.C), .inl Qs.qf))]) [0, 2] rfl
            have hDc := hD.sub (ws' := [(mo, .inr (13, MF 30 (rf (rs v Qs o) js bs))), (Qs.qq, .inl (cI, (8 * Qs.C), .inl Qs.qf))]) [0, 2] (by decide) rfl
            have hKc := hK.sub (tys' := [(cI, .int)]) [1] rfl
            have hFc := va_free (wc := [(mo, .inr (13, MF 30 (rf (rs v Qs o) js bs))), (Qs.qq, .inl (cI, (8 * Qs.C), .inl Qs.qf))]) hD hS hA [0, 2] rfl
            refine va_callv (va_runV (As := [.int (nI a9), .int (nI 3), .int (nI Qc.R)]) (rest := []) ⟨hx, hb, hml, hown, hts⟩ (c_Mo_set l dC dI mo H (rf (rs v Qs o) js bs) cI Qs.qq (8 * Qs.C) Qs.qf a9 3 ((nI Qc.R)) (by omega) (by omega) ((rf_ne (by decide) (by decide)).trans rs_19)) (cwV 3 hts (gt_V (own := R_Mo) (C := R_Mo) (i := 272) (y := y_Mo_set) i_Mo_set w_1411 w_1413 (gt_sel (y := y_Mo_set) (n := 30) (by decide +kernel)) w_7) rfl rfl rfl (by decide +kernel) ⟨Nat.le_trans (m := 10) (Nat.le_of_ble_eq_true rfl) (Nat.le_add_right 10 F), Nat.le_trans (m := 320) (Nat.le_of_ble_eq_true rfl) (Nat.le_add_right 320 L)⟩) ⟨mp_blind, va_recv hKc hPc (ci := 13) (q0 := 0) rfl rfl, fun U hU hW => ⟨rfl, hU, by rw [hU]; exact hPc, va_K.moved hW.alike hKc, hDc.weaken (fun _ _ _ _ => trivial)⟩⟩ rfl rfl hl.1 rfl (lv_room (Nat.le_of_ble_eq_true rfl)) d_Mo_queryRest_105 ⟨hfit_QsVs.1, hfit_QsVs.2⟩) hS (fun q _ h => hFc q h) hFc (fun _u t9 H1 locs ht hvm hw hB hz1 hk1 hS => ?_)
            obtain ⟨hP1, hK1, hD1⟩ := hB
            rw [ht] at hP1
            obtain ⟨hP, hD⟩ := va_join (wr := [(qx, .inl (cB, NN, .inl f)), (Qs.qe, .inl (cL, (3 * Qs.C), .inr (.inl Qs.ef))), (tv, .inr (12, MF 13 (tw Vs))), (Vs.au, .inl (cC, Vs.U, .inl Vs.un))]) (w1 := [(mo, .inr (13, MF 30 (rf (rs v Qs o) js bs))), (Qs.qq, .inl (cI, (8 * Qs.C), .inl (upd Qs.qf (8 * a9 + 3) ((nI Qc.R)))))]) hP hD [0, 2] [1, 3, 4, 5] rfl rfl (by decide) (by decide) hk1 hFc hP1 hD1
            generalize H1 = H at hP hS ⊢
            have hP : va_P (dC, dI) classes [(qx, .inl (cB, NN, .inl f)), (Qs.qe, .inl (cL, (3 * Qs.C), .inr (.inl Qs.ef))), (tv, .inr (12, MF 13 (tw Vs))), (Vs.au, .inl (cC, Vs.U, .inl Vs.un)), (mo, .inr (13, MF 30 (rf (rs v Qs o) js bs))), (Qs.qq, .inl (cI, (8 * Qs.C), .inl (upd Qs.qf (8 * a9 + 3) ((nI Qc.R)))))] H := hP
            have hD : va_D A [(qx, .inl (cB, NN, .inl f)), (Qs.qe, .inl (cL, (3 * Qs.C), .inr (.inl Qs.ef))), (tv, .inr (12, MF 13 (tw Vs))), (Vs.au, .inl (cC, Vs.U, .inl Vs.un)), (mo, .inr (13, MF 30 (rf (rs v Qs o) js bs))), (Qs.qq, .inl (cI, (8 * Qs.C), .inl (upd Qs.qf (8 * a9 + 3) ((nI Qc.R)))))] := hD
            have hP := hP.sub (ws' := [(mo, .inr (13, MF 30 (rf (rs v Qs o) js bs))), (qx, .inl (cB, NN, .inl f)), (Qs.qq, .inl (cI, (8 * Qs.C), .inl (upd Qs.qf (8 * a9 + 3) ((nI Qc.R))))), (Qs.qe, .inl (cL, (3 * Qs.C), .inr (.inl Qs.ef))), (tv, .inr (12, MF 13 (tw Vs))), (Vs.au, .inl (cC, Vs.U, .inl Vs.un))]) [4, 0, 5, 1, 2, 3] rfl
            have hD := hD.sub (ws' := [(mo, .inr (13, MF 30 (rf (rs v Qs o) js bs))), (qx, .inl (cB, NN, .inl f)), (Qs.qq, .inl (cI, (8 * Qs.C), .inl (upd Qs.qf (8 * a9 + 3) ((nI Qc.R))))), (Qs.qe, .inl (cL, (3 * Qs.C), .inr (.inl Qs.ef))), (tv, .inr (12, MF 13 (tw Vs))), (Vs.au, .inl (cC, Vs.U, .inl Vs.un))]) [4, 0, 5, 1, 2, 3] (by decide) rfl
            obtain ⟨Qt, e_Qt⟩ : ∃ z : QS, z = QS.wf Qs (upd Qs.qf (8 * a9 + 3) ((nI Qc.R))) := ⟨_, rfl⟩
            have hP : va_P (dC, dI) classes [(mo, .inr (13, MF 30 (rf (rs v Qt o) js bs))), (qx, .inl (cB, NN, .inl f)), (Qt.qq, .inl (cI, (8 * Qt.C), .inl Qt.qf)), (Qt.qe, .inl (cL, (3 * Qt.C), .inr (.inl Qt.ef))), (tv, .inr (12, MF 13 (tw Vs))), (Vs.au, .inl (cC, Vs.U, .inl Vs.un))] H := by subst e_Qt; exact hP
            have hD : va_D A [(mo, .inr (13, MF 30 (rf (rs v Qt o) js bs))), (qx, .inl (cB, NN, .inl f)), (Qt.qq, .inl (cI, (8 * Qt.C), .inl Qt.qf)), (Qt.qe, .inl (cL, (3 * Qt.C), .inr (.inl Qt.ef))), (tv, .inr (12, MF 13 (tw Vs))), (Vs.au, .inl (cC, Vs.U, .inl Vs.un))] := by subst e_Qt; exact hD
            have hf_Qt : Qt.C = Qs.C ∧ Qt.R = Qs.R ∧ Qt.qf = upd Qs.qf (8 * a9 + 3) ((nI Qc.R)) := by rw [e_Qt]; exact ⟨rfl, rfl, rfl⟩
            have he_Qt : Qt.ef = Qs.ef := by rw [e_Qt]; rfl
            have hQk_Qt : QOK Qt := by rw [e_Qt]; exact hQk_Qs
            have hG_QtVs : GQ (Q.R + 8 * (n - i) + 9) (V.us + (n + 12 - i)) Q V Qt Vs := by unfold GQ at hG_QsVs ⊢; rw [hf_Qt.1]; exact hG_QsVs
            refine w_same (fun hq => ?_)
            refine w_tight (k := cQ Q V Qt Vs) (n := sQ Q V Qt Vs) (by unfold cQ sQ at hq ⊢; rw [hf_Qt.1]; exact hq) ?_
            have hR_Qt := hf_Qt.2.1
            have hqb_QtVs : Qt.R ≤ Qt.C ∧ Qt.C ≤ 100000 := ⟨hQk_Qt.2.2.1, hQk_Qt.2.1⟩
            have hfit_QtVs := hG_QtVs.fits
            have hCHt : CHi 3 (SEGp O) Q V Q.R Qt Vs (nI Qc.R) (ac ++ [g1]) := hCH.add (SEGp_fr hOf) SEGp_in (by decide) hb2 hb3 (by omega) hv_3.2.2.1 hv_3.1 hv_3.2.1 hf_Qt.2.2 he_Qt hR_Qt
            have hf1t : Qt.qf (8 * Q.R + 1) = (if rt = true then 1 else 0) := by rw [hf_Qt.2.2, pk_un (by omega), hv_3.2.2.1.1 Q.R 1 (by omega) (by decide) (by omega)]; exact hf1
            have hf3t : Qt.qf (8 * Q.R + 3) = (if (fl && fl1) = true then 1 else 0) := by rw [hf_Qt.2.2, pk_un (by omega)]; exact b_ifs hv_3.2.2.2 hf3
            exact jn108 Qt _ _ _ ⟨hCHt, hf1t, hf3t, hQk_Qt, hG_QtVs, by omega⟩ hP hD hS (lv_sub hl [1, 2, 3, 4, 0] rfl)
        · rintro Qz H locs ls hI108 hP hD hS hl
          have hP : va_P (dC, dI) classes [(mo, .inr (13, MF 30 (rf (rs v Qz o) js bs))), (qx, .inl (cB, NN, .inl f)), (Qz.qq, .inl (cI, (8 * Qz.C), .inl Qz.qf)), (Qz.qe, .inl (cL, (3 * Qz.C), .inr (.inl Qz.ef))), (tv, .inr (12, MF 13 (tw Vs))), (Vs.au, .inl (cC, Vs.U, .inl Vs.un))] H := hP
          have hD : va_D A [(mo, .inr (13, MF 30 (rf (rs v Qz o) js bs))), (qx, .inl (cB, NN, .inl f)), (Qz.qq, .inl (cI, (8 * Qz.C), .inl Qz.qf)), (Qz.qe, .inl (cL, (3 * Qz.C), .inr (.inl Qz.ef))), (tv, .inr (12, MF 13 (tw Vs))), (Vs.au, .inl (cC, Vs.U, .inl Vs.un))] := hD
          have hl : lv_has ls 7 [(0, .ref mo), (1, .int rti), (2, .int 0), (3, .int (nI Q.R)), (6, .int (nI Qc.R))] := hl
          obtain ⟨hCHz, hf1z, hf3z, hQk_Qz, hG_QzVs, hR_Qz⟩ := hI108
          have hqb_QzVs : Qz.R ≤ Qz.C ∧ Qz.C ≤ 100000 := ⟨hQk_Qz.2.2.1, hQk_Qz.2.1⟩
          have hfit_QzVs := hG_QzVs.fits
          refine lv_iload hx hb d_Mo_queryRest_108 (lv_at hl 4 rfl) ?_
          refine lv_istore (lv' := [(4, .int (nI Qc.R)), (0, .ref mo), (1, .int rti), (2, .int 0), (3, .int (nI Q.R)), (6, .int (nI Qc.R))]) hx hb d_Mo_queryRest_110 hl (by decide) rfl (fun ls hl => ?_)
          refine lv_goto (tgt := 32) hx hb d_Mo_queryRest_112 (by decide) ?_
          refine w_same (fun hq => ?_)
          refine W.widen (k := kcap Q (Q.R + 8 * (n - i) + 9) + qcap V (V.us + (n + 12 - i))) (n := 22 * kcap Q (Q.R + 8 * (n - i) + 9) + 2 * qcap V (V.us + (n + 12 - i))) hfit_QzVs.1 hfit_QzVs.2 ?_
          have hst : qrL f n ok (orL f n) false m0 js (fl && fl1) (ac ++ [g1]) = qrL f n ok (orL f n) false (n + 1) i true [] := by rw [← hI6, hm0]; exact (qrL_s hI68 hv_2).symm
          exact ih (Qz, Vs, m0, js, bs, nI Qc.R, fl && fl1, ac ++ [g1]) _ _ _ ⟨hCHz, hf1z, hf3z, hQk_Qz, hTk_Vs, hG_QzVs, ⟨_, hXc.trans hX_Vs⟩, by omega, by omega, by omega, by omega, by omega, hst, hq⟩ (by show n + 1 - js < n + 1 - j; omega) hP hD hS (lv_sub hl [1, 2, 3, 4, 0] rfl)
      · have hv_2 : sgP f n ok (orL f n) false (skipH f n j) = none := hv_2
        subst hv_1
        refine lv_istore (lv' := [(6, .int (-1)), (0, .ref mo), (1, .int rti), (2, .int 0), (3, .int (nI Q.R)), (4, .int bf), (5, .int (nI j))]) hx hb d_Mo_queryRest_74 hl (by decide) rfl (fun ls hl => ?_)
        refine lv_iload hx hb d_Mo_queryRest_76 (lv_at hl 0 rfl) ?_
        refine lv_if_ge (tgt := 83) hx hb d_Mo_queryRest_78 (by decide) (fun h => absurd h (by decide)) (fun _ => ?_)
        refine lv_iconst (v := (-1)) hx hb d_Mo_queryRest_81 (by decide) ?_
        have hfin : qrP f n ok (orL f n) false rt i = none := by rw [hqr0, ← hI6, hm0, qrL_n hI68 hv_2]; rfl
        refine w_same (fun hq => ?_)
        refine W.widen (k := kcap Q (Q.R + 8 * (n - i) + 9) + qcap V (V.us + (n + 12 - i))) (n := 22 * kcap Q (Q.R + 8 * (n - i) + 9) + 2 * qcap V (V.us + (n + 12 - i))) hfit_QsVs.1 hfit_QsVs.2 ?_
        have hPo : QPo n i 9 Q V (Qs, Vs, js, bs, os) := ⟨hQk_Qs, hG_QsVs, ⟨_, (hXc.trans hX_Vs), by rw [List.length_append]; omega⟩, by show Q.R ≤ Qs.R; omega, by show Qs.R ≤ Q.R + 8 * (n - i) + 9; omega⟩
        exact W.iret (v := -1) hx hb hr (fun t9 ht hW => ⟨⟨-1, (Qs, Vs, js, bs, os), rfl, ⟨hPo, Or.inr ⟨rfl, hfin⟩⟩, ⟨by rw [ht]; exact hP, va_K.moved hW.alike hK, hD⟩, by rw [ht]; exact hq⟩, hS.F ht⟩) hS.2.2 d_Mo_queryRest_82
set_option maxHeartbeats 4000000 in
set_option maxRecDepth 100000 in
/-- the reference: queryRest -/
theorem c_qr1 (orL : (Nat → Int32) → Nat → Nat → Option (Nat × CT)) (O : QP CT) (F L : Nat) (hOf : Frm 8 O) (l : Launch) (dC : Nat → ClassId) (dI : Nat → Nat → Nat) (mo : Nat) (sz : Heap) (v : Nat → Value) (cB cI cL cC : ClassId) (qx NN : Nat) (f : Nat → Int32) (n : Nat) (K : Nat → Nat × Nat) (tv : Nat) (Q : QS) (V : TS) (o i : Nat) (br : Int32) (rt : Bool) (rti : Int32) (hrt : rti = if rt = true then 1 else 0) (ok : Bool) (hok : ok = true ↔ ¬ o = 16) (ho16 : o ≤ 16) (hOR : ¬ o = 16 → ORC orL O (o + 1) F L) (hnN : n ≤ NN) (hNN : NN ≤ 4096) (hi0 : i ≤ n) (h6 : v 6 = .ref qx) (h8 : v 8 = .int (nI n)) (h22 : v 22 = .ref tv) (hQ : QOK Q) (hV : TOK V) (hcu : V.us + (n + 12 - i) ≤ 400000) (hcr : Q.R + 8 * (n - i) + 9 ≤ 40000) : Met l y_Mo_queryRest (k_Mo_queryRest :: gtbl) ({ frames := 10 + F, cells := kcap Q (Q.R + 8 * (n - i) + 9) + qcap V (V.us + (n + 12 - i)), slots := 22 * kcap Q (Q.R + 8 * (n - i) + 9) + 2 * qcap V (V.us + (n + 12 - i)), locals := 320 + L }) (va_Pc [.ref mo, .int rti, .int 1] (me K dC dI [(mo, .inr (13, MF 30 (rf (rs v Q o) i br))), (qx, .inl (cB, NN, .inl f)), (Q.qq, .inl (cI, (8 * Q.C), .inl Q.qf)), (Q.qe, .inl (cL, (3 * Q.C), .inr (.inl Q.ef))), (tv, .inr (12, MF 13 (tw V))), (V.au, .inl (cC, V.U, .inl V.un))] [(cB, .byte), (cI, .int), (cL, .long), (cC, .char)] sz)) (va_Qi (fun (res : Int32) (u : QS × TS × Nat × Int32 × Nat) => QRo f ok (orL f n) O true rt n i o Q V res u) (fun u t9 => mz dC dI [(mo, .inr (13, MF 30 (rf (rs v u.1 u.2.2.2.2) u.2.2.1 u.2.2.2.1))), (qx, .inl (cB, NN, .inl f)), (u.1.qq, .inl (cI, (8 * u.1.C), .inl u.1.qf)), (u.1.qe, .inl (cL, (3 * u.1.C), .inr (.inl u.1.ef))), (tv, .inr (12, MF 13 (tw u.2.1))), (u.2.1.au, .inl (cC, u.2.1.U, .inl u.2.1.un))] [(cB, .byte), (cI, .int), (cL, .long), (cC, .char)] (va_A [(mo, .inr (13, MF 30 (rf (rs v Q o) i br))), (qx, .inl (cB, NN, .inl f)), (Q.qq, .inl (cI, (8 * Q.C), .inl Q.qf)), (Q.qe, .inl (cL, (3 * Q.C), .inr (.inl Q.ef))), (tv, .inr (12, MF 13 (tw V))), (V.au, .inl (cC, V.U, .inl V.un))] sz.size) t9 ∧ szk sz t9.heap (cQ Q V u.1 u.2.1) (sQ Q V u.1 u.2.1)) (va_A [(mo, .inr (13, MF 30 (rf (rs v Q o) i br))), (qx, .inl (cB, NN, .inl f)), (Q.qq, .inl (cI, (8 * Q.C), .inl Q.qf)), (Q.qe, .inl (cL, (3 * Q.C), .inr (.inl Q.ef))), (tv, .inr (12, MF 13 (tw V))), (V.au, .inl (cC, V.U, .inl V.un))] sz.size)) (kcap Q (Q.R + 8 * (n - i) + 9) + qcap V (V.us + (n + 12 - i))) (22 * kcap Q (Q.R + 8 * (n - i) + 9) + 2 * qcap V (V.us + (n + 12 - i))) (va_A [(mo, .inr (13, MF 30 (rf (rs v Q o) i br))), (qx, .inl (cB, NN, .inl f)), (Q.qq, .inl (cI, (8 * Q.C), .inl Q.qf)), (Q.qe, .inl (cL, (3 * Q.C), .inr (.inl Q.ef))), (tv, .inr (12, MF 13 (tw V))), (V.au, .inl (cC, V.U, .inl V.un))] sz.size) := by
  refine Met.ofW (cc := b_Mo_queryRest) (maxL := 7) (ret := (some .int)) (by decide) rfl ?_
  intro p e s m args below meth c s₁ B hml hv
  obtain ⟨rfl, ⟨hsz, hP, hK, hD0⟩, hM⟩ := hv
  have hx := B.exec
  have hb := B.bytes
  have hr := B.returns
  have hts0 := atoms_spec (ws := k_Mo_queryRest :: gtbl) B.pre
  have hts := fun w h => hts0 w (List.mem_cons_of_mem _ h)
  have hown : s.vm.findClass R_Mo = some m.cls := findClass_of_methodNamed B.named
  have hlocks := B.notSynchronized
  subst hsz
  have hD := hD0.self (sz := s.heap.size)
  generalize hAe : va_A [(mo, .inr (13, MF 30 (rf (rs v Q o) i br))), (qx, .inl (cB, NN, .inl f)), (Q.qq, .inl (cI, (8 * Q.C), .inl Q.qf)), (Q.qe, .inl (cL, (3 * Q.C), .inr (.inl Q.ef))), (tv, .inr (12, MF 13 (tw V))), (V.au, .inl (cC, V.U, .inl V.un))] s.heap.size = A at hD hM ⊢
  have hA : ∀ q : Nat, s.heap.size ≤ q → A q := fun q h => by rw [← hAe]; exact Or.inr h
  have hS : va_S A s.heap s.heap [] := va_S.rf
  have hP : va_P (dC, dI) classes [(mo, .inr (13, MF 30 (rf (rs v Q o) i br))), (qx, .inl (cB, NN, .inl f)), (Q.qq, .inl (cI, (8 * Q.C), .inl Q.qf)), (Q.qe, .inl (cL, (3 * Q.C), .inr (.inl Q.ef))), (tv, .inr (12, MF 13 (tw V))), (V.au, .inl (cC, V.U, .inl V.un))] s.heap := hP
  have hl := lv_entry ([.ref mo, .int rti, .int 1]) (n := 7) (Nat.le_of_ble_eq_true rfl)
  rw [lg_entry_eq]
  generalize (lg_sl ([.ref mo, .int rti, .int 1]) ++ List.replicate (7 - (lg_sl ([.ref mo, .int rti, .int 1])).length) Slot.unset).toArray = ls at hl ⊢
  have hl : lv_has ls 7 [(0, .ref mo), (1, .int rti), (2, .int 1)] := hl
  have hQk_Q := hQ
  have hTk_V := hV
  have hCo := hQ.2.2.1
  have hCo2 := hQ.2.1
  clear hQ hV
  have hG_QV : GQ (Q.R + 8 * (n - i) + 9) (V.us + (n + 12 - i)) Q V Q V := GQ.rf
  refine w_same (fun hq => ?_)
  refine w_tight (k := cQ Q V Q V) (n := sQ Q V Q V) (by rw [cQ_rf.1, cQ_rf.2]; exact hq) ?_
  have hqb_QV : Q.R ≤ Q.C ∧ Q.C ≤ 100000 := ⟨hQk_Q.2.2.1, hQk_Q.2.1⟩
  have hfit_QV := hG_QV.fits
  refine lv_aload_n hx hb d_Mo_queryRest_0 rfl (lv_at hl 0 rfl) ?_
  refine lv_bipush (v := 20) hx hb d_Mo_queryRest_1 (by decide) ?_
  have hPc := hP.sub (ws' := [(mo, .inr (13, MF 30 (rf (rs v Q o) i br))), (Q.qq, .inl (cI, (8 * Q.C), .inl Q.qf)), (Q.qe, .inl (cL, (3 * Q.C), .inr (.inl Q.ef)))]) [0, 2, 3] rfl
  have hDc := hD.sub (ws' := [(mo, .inr (13, MF 30 (rf (rs v Q o) i br))), (Q.qq, .inl (cI, (8 * Q.C), .inl Q.qf)), (Q.qe, .inl (cL, (3 * Q.C), .inr (.inl Q.ef)))]) [0, 2, 3] (by decide) rfl
  have hKc := hK.sub (tys' := [(cI, .int), (cL, .long)]) [1, 2] rfl
  have hFc := va_free (wc := [(mo, .inr (13, MF 30 (rf (rs v Q o) i br))), (Q.qq, .inl (cI, (8 * Q.C), .inl Q.qf)), (Q.qe, .inl (cL, (3 * Q.C), .inr (.inl Q.ef)))]) hD hS hA [0, 2, 3] rfl
  refine w_same (fun hq0 => ?_)
  refine va_calli (va_runV (As := [.int 20]) (rest := []) ⟨hx, hb, hml, hown, hts⟩ (c_Mo_row l dC dI mo s.heap v cI cL Q o i br 20 hQk_Q) (cwV 1 hts (gt_V (own := R_Mo) (C := R_Mo) (i := 269) (y := y_Mo_row) i_Mo_row w_1407 w_1409 (gt_sel (y := y_Mo_row) (n := 30) (by decide +kernel)) w_7) rfl rfl rfl (by decide +kernel) ⟨Nat.le_trans (m := 10) (Nat.le_of_ble_eq_true rfl) (Nat.le_add_right 10 F), Nat.le_trans (m := 320) (Nat.le_of_ble_eq_true rfl) (Nat.le_add_right 320 L)⟩) ⟨mp_blind, va_recv hKc hPc (ci := 13) (q0 := 0) rfl rfl, fun U hU hW => ⟨rfl, hU, by rw [hU]; exact hPc, va_K.moved hW.alike hKc, hDc.weaken (fun _ _ _ _ => trivial)⟩⟩ rfl rfl hl.1 rfl (lv_room (Nat.le_of_ble_eq_true rfl)) d_Mo_queryRest_3 ⟨(QAd.fit hG_QV hQk_Q (by omega)).1, (QAd.fit hG_QV hQk_Q (by omega)).2⟩) hS (fun q _ h => hFc q h) hFc (fun r0 Q1 t9 H1 locs ht hvm hw hB hz1 hk1 hS => ?_)
  obtain ⟨⟨hP1, hK1, hD1⟩, hz9⟩ := hB
  rw [ht] at hP1
  rw [ht] at hz9
  obtain ⟨hr0, hA_Q1⟩ := hw
  have hA_Q1 : QAd Q Q1 20 := hA_Q1
  obtain ⟨hQk_Q1, hGa, hGb, hGd, hR_Q1⟩ := hA_Q1.gq hQk_Q (by omega) V
  obtain ⟨hG_Q1V, hGc, hGs⟩ := hG_QV.tr hGa (show Q.R + 1 ≤ Q.R + 8 * (n - i) + 9 by omega) (Nat.zero_le _)
  have hGc := Nat.le_trans (Nat.add_le_add_left hGb _) hGc
  have hGs := Nat.le_trans (Nat.add_le_add_left hGd _) hGs
  have hq1 : szk s.heap H1 (cQ Q V Q1 V) (sQ Q V Q1 V) := (hq0.trans hz9).mono hGc hGs
  refine w_tight hq1 ?_
  obtain ⟨hP, hD⟩ := va_join (wr := [(qx, .inl (cB, NN, .inl f)), (tv, .inr (12, MF 13 (tw V))), (V.au, .inl (cC, V.U, .inl V.un))]) (w1 := [(mo, .inr (13, MF 30 (rf (rs v Q1 o) i br))), (Q1.qq, .inl (cI, (8 * Q1.C), .inl Q1.qf)), (Q1.qe, .inl (cL, (3 * Q1.C), .inr (.inl Q1.ef)))]) hP hD [0, 2, 3] [1, 4, 5] rfl rfl (by decide) (by decide) hk1 hFc hP1 hD1
  generalize H1 = H at hP hS ⊢
  have hP : va_P (dC, dI) classes [(qx, .inl (cB, NN, .inl f)), (tv, .inr (12, MF 13 (tw V))), (V.au, .inl (cC, V.U, .inl V.un)), (mo, .inr (13, MF 30 (rf (rs v Q1 o) i br))), (Q1.qq, .inl (cI, (8 * Q1.C), .inl Q1.qf)), (Q1.qe, .inl (cL, (3 * Q1.C), .inr (.inl Q1.ef)))] H := hP
  have hD : va_D A [(qx, .inl (cB, NN, .inl f)), (tv, .inr (12, MF 13 (tw V))), (V.au, .inl (cC, V.U, .inl V.un)), (mo, .inr (13, MF 30 (rf (rs v Q1 o) i br))), (Q1.qq, .inl (cI, (8 * Q1.C), .inl Q1.qf)), (Q1.qe, .inl (cL, (3 * Q1.C), .inr (.inl Q1.ef)))] := hD
  have hP := hP.sub (ws' := [(mo, .inr (13, MF 30 (rf (rs v Q1 o) i br))), (qx, .inl (cB, NN, .inl f)), (tv, .inr (12, MF 13 (tw V))), (V.au, .inl (cC, V.U, .inl V.un)), (Q1.qq, .inl (cI, (8 * Q1.C), .inl Q1.qf)), (Q1.qe, .inl (cL, (3 * Q1.C), .inr (.inl Q1.ef)))]) [3, 0, 1, 2, 4, 5] rfl
  have hD := hD.sub (ws' := [(mo, .inr (13, MF 30 (rf (rs v Q1 o) i br))), (qx, .inl (cB, NN, .inl f)), (tv, .inr (12, MF 13 (tw V))), (V.au, .inl (cC, V.U, .inl V.un)), (Q1.qq, .inl (cI, (8 * Q1.C), .inl Q1.qf)), (Q1.qe, .inl (cL, (3 * Q1.C), .inr (.inl Q1.ef)))]) [3, 0, 1, 2, 4, 5] (by decide) rfl
  have hP := hP.sub (ws' := [(mo, .inr (13, MF 30 (rf (rs v Q1 o) i br))), (qx, .inl (cB, NN, .inl f)), (Q1.qq, .inl (cI, (8 * Q1.C), .inl Q1.qf)), (Q1.qe, .inl (cL, (3 * Q1.C), .inr (.inl Q1.ef))), (tv, .inr (12, MF 13 (tw V))), (V.au, .inl (cC, V.U, .inl V.un))]) [0, 1, 4, 5, 2, 3] rfl
  have hD := hD.sub (ws' := [(mo, .inr (13, MF 30 (rf (rs v Q1 o) i br))), (qx, .inl (cB, NN, .inl f)), (Q1.qq, .inl (cI, (8 * Q1.C), .inl Q1.qf)), (Q1.qe, .inl (cL, (3 * Q1.C), .inr (.inl Q1.ef))), (tv, .inr (12, MF 13 (tw V))), (V.au, .inl (cC, V.U, .inl V.un))]) [0, 1, 4, 5, 2, 3] (by decide) rfl
  have hr0 : r0 = nI Q.R := hr0
  subst hr0
  have hqb_Q1V : Q1.R ≤ Q1.C ∧ Q1.C ≤ 100000 := ⟨hQk_Q1.2.2.1, hQk_Q1.2.1⟩
  have hfit_Q1V := hG_Q1V.fits
  have hE_Q1 : alr Q V Q1 V 0 Q.R := ⟨fun r9 k9 _ h1 h2 => hA_Q1.2.2.1 _ (by omega), ⟨fun r9 k9 _ h1 h2 => hA_Q1.2.2.2.1.2 _ (by omega), Nat.le_refl _, fun _ _ => rfl⟩⟩
  refine lv_istore_n (lv' := [(3, .int (nI Q.R)), (0, .ref mo), (1, .int rti), (2, .int 1)]) hx hb d_Mo_queryRest_6 rfl hl (by decide) rfl (fun ls hl => ?_)
  refine w_join (D := (dC, dI)) (cl := classes) (A := A) (H0 := s.heap) (nL := 7) 22 (σ := QS) (fun Qj => QOK Qj ∧ GQ (Q.R + 8 * (n - i) + 9) (V.us + (n + 12 - i)) Q V Qj V ∧ Qj.R = Q.R + 1 ∧ alr Q V Qj V 0 Q.R ∧ Qj.qf (8 * Q.R + 1) = (if rt = true then 1 else 0) ∧ Qj.qf (8 * Q.R + 2) = -1) (fun Qj => cQ Q V Qj V) (fun Qj => sQ Q V Qj V) (fun Qj => [(mo, .inr (13, MF 30 (rf (rs v Qj o) i br))), (qx, .inl (cB, NN, .inl f)), (Qj.qq, .inl (cI, (8 * Qj.C), .inl Qj.qf)), (Qj.qe, .inl (cL, (3 * Qj.C), .inr (.inl Qj.ef))), (tv, .inr (12, MF 13 (tw V))), (V.au, .inl (cC, V.U, .inl V.un))]) (fun Qj => [(0, .ref mo), (1, .int rti), (2, .int 1), (3, .int (nI Q.R))]) (fun jn22 => ?_) ?_
  · refine lv_aload_n hx hb d_Mo_queryRest_7 rfl (lv_at hl 1 rfl) ?_
    refine lv_iload_n hx hb d_Mo_queryRest_8 rfl (lv_at hl 0 rfl) ?_
    refine lv_iconst (v := 1) hx hb d_Mo_queryRest_9 (by decide) ?_
    refine lv_iload_n hx hb d_Mo_queryRest_10 rfl (lv_at hl 2 rfl) ?_
    refine lv_if_eq (tgt := 18) hx hb d_Mo_queryRest_11 (by decide) (fun c11 => ?_) (fun c11 => ?_)
    · refine lv_iconst (v := 0) hx hb d_Mo_queryRest_18 (by decide) ?_
      refine W.eq (g2 := F0 m 19 ls [.int 0, .int (nI 1), .int (nI Q.R), .ref mo]) rfl ?_
      have hPc := hP.sub (ws' := [(mo, .inr (13, MF 30 (rf (rs v Q1 o) i br))), (Q1.qq, .inl (cI, (8 * Q1.C), .inl Q1.qf))]) [0, 2] rfl
      have hDc := hD.sub (ws' := [(mo, .inr (13, MF 30 (rf (rs v Q1 o) i br))), (Q1.qq, .inl (cI, (8 * Q1.C), .inl Q1.qf))]) [0, 2] (by decide) rfl
      have hKc := hK.sub (tys' := [(cI, .int)]) [1] rfl
      have hFc := va_free (wc := [(mo, .inr (13, MF 30 (rf (rs v Q1 o) i br))), (Q1.qq, .inl (cI, (8 * Q1.C), .inl Q1.qf))]) hD hS hA [0, 2] rfl
      refine va_callv (va_runV (As := [.int (nI Q.R), .int (nI 1), .int 0]) (rest := []) ⟨hx, hb, hml, hown, hts⟩ (c_Mo_set l dC dI mo H (rf (rs v Q1 o) i br) cI Q1.qq (8 * Q1.C) Q1.qf Q.R 1 0 (by omega) (by omega) ((rf_ne (by decide) (by decide)).trans rs_19)) (cwV 3 hts (gt_V (own := R_Mo) (C := R_Mo) (i := 272) (y := y_Mo_set) i_Mo_set w_1411 w_1413 (gt_sel (y := y_Mo_set) (n := 30) (by decide +kernel)) w_7) rfl rfl rfl (by decide +kernel) ⟨Nat.le_trans (m := 10) (Nat.le_of_ble_eq_true rfl) (Nat.le_add_right 10 F), Nat.le_trans (m := 320) (Nat.le_of_ble_eq_true rfl) (Nat.le_add_right 320 L)⟩) ⟨mp_blind, va_recv hKc hPc (ci := 13) (q0 := 0) rfl rfl, fun U hU hW => ⟨rfl, hU, by rw [hU]; exact hPc, va_K.moved hW.alike hKc, hDc.weaken (fun _ _ _ _ => trivial)⟩⟩ rfl rfl hl.1 rfl (lv_room (Nat.le_of_ble_eq_true rfl)) d_Mo_queryRest_19 ⟨hfit_Q1V.1, hfit_Q1V.2⟩) hS (fun q _ h => hFc q h) hFc (fun _u t9 H1 locs ht hvm hw hB hz1 hk1 hS => ?_)
      obtain ⟨hP1, hK1, hD1⟩ := hB
      rw [ht] at hP1
      obtain ⟨hP, hD⟩ := va_join (wr := [(qx, .inl (cB, NN, .inl f)), (Q1.qe, .inl (cL, (3 * Q1.C), .inr (.inl Q1.ef))), (tv, .inr (12, MF 13 (tw V))), (V.au, .inl (cC, V.U, .inl V.un))]) (w1 := [(mo, .inr (13, MF 30 (rf (rs v Q1 o) i br))), (Q1.qq, .inl (cI, (8 * Q1.C), .inl (upd Q1.qf (8 * Q.R + 1) 0)))]) hP hD [0, 2] [1, 3, 4, 5] rfl rfl (by decide) (by decide) hk1 hFc hP1 hD1
      generalize H1 = H at hP hS ⊢
      have hP : va_P (dC, dI) classes [(qx, .inl (cB, NN, .inl f)), (Q1.qe, .inl (cL, (3 * Q1.C), .inr (.inl Q1.ef))), (tv, .inr (12, MF 13 (tw V))), (V.au, .inl (cC, V.U, .inl V.un)), (mo, .inr (13, MF 30 (rf (rs v Q1 o) i br))), (Q1.qq, .inl (cI, (8 * Q1.C), .inl (upd Q1.qf (8 * Q.R + 1) 0)))] H := hP
      have hD : va_D A [(qx, .inl (cB, NN, .inl f)), (Q1.qe, .inl (cL, (3 * Q1.C), .inr (.inl Q1.ef))), (tv, .inr (12, MF 13 (tw V))), (V.au, .inl (cC, V.U, .inl V.un)), (mo, .inr (13, MF 30 (rf (rs v Q1 o) i br))), (Q1.qq, .inl (cI, (8 * Q1.C), .inl (upd Q1.qf (8 * Q.R + 1) 0)))] := hD
      have hP := hP.sub (ws' := [(mo, .inr (13, MF 30 (rf (rs v Q1 o) i br))), (qx, .inl (cB, NN, .inl f)), (Q1.qq, .inl (cI, (8 * Q1.C), .inl (upd Q1.qf (8 * Q.R + 1) 0))), (Q1.qe, .inl (cL, (3 * Q1.C), .inr (.inl Q1.ef))), (tv, .inr (12, MF 13 (tw V))), (V.au, .inl (cC, V.U, .inl V.un))]) [4, 0, 5, 1, 2, 3] rfl
      have hD := hD.sub (ws' := [(mo, .inr (13, MF 30 (rf (rs v Q1 o) i br))), (qx, .inl (cB, NN, .inl f)), (Q1.qq, .inl (cI, (8 * Q1.C), .inl (upd Q1.qf (8 * Q.R + 1) 0))), (Q1.qe, .inl (cL, (3 * Q1.C), .inr (.inl Q1.ef))), (tv, .inr (12, MF 13 (tw V))), (V.au, .inl (cC, V.U, .inl V.un))]) [4, 0, 5, 1, 2, 3] (by decide) rfl
      obtain ⟨Q2, e_Q2⟩ : ∃ z : QS, z = QS.wf Q1 (upd Q1.qf (8 * Q.R + 1) 0) := ⟨_, rfl⟩
      have hP : va_P (dC, dI) classes [(mo, .inr (13, MF 30 (rf (rs v Q2 o) i br))), (qx, .inl (cB, NN, .inl f)), (Q2.qq, .inl (cI, (8 * Q2.C), .inl Q2.qf)), (Q2.qe, .inl (cL, (3 * Q2.C), .inr (.inl Q2.ef))), (tv, .inr (12, MF 13 (tw V))), (V.au, .inl (cC, V.U, .inl V.un))] H := by subst e_Q2; exact hP
      have hD : va_D A [(mo, .inr (13, MF 30 (rf (rs v Q2 o) i br))), (qx, .inl (cB, NN, .inl f)), (Q2.qq, .inl (cI, (8 * Q2.C), .inl Q2.qf)), (Q2.qe, .inl (cL, (3 * Q2.C), .inr (.inl Q2.ef))), (tv, .inr (12, MF 13 (tw V))), (V.au, .inl (cC, V.U, .inl V.un))] := by subst e_Q2; exact hD
      have hf_Q2 : Q2.C = Q1.C ∧ Q2.R = Q1.R ∧ Q2.qf = upd Q1.qf (8 * Q.R + 1) 0 := by rw [e_Q2]; exact ⟨rfl, rfl, rfl⟩
      have he_Q2 : Q2.ef = Q1.ef := by rw [e_Q2]; rfl
      have hQk_Q2 : QOK Q2 := by rw [e_Q2]; exact hQk_Q1
      have hG_Q2V : GQ (Q.R + 8 * (n - i) + 9) (V.us + (n + 12 - i)) Q V Q2 V := by unfold GQ at hG_Q1V ⊢; rw [hf_Q2.1]; exact hG_Q1V
      refine w_same (fun hq => ?_)
      refine w_tight (k := cQ Q V Q2 V) (n := sQ Q V Q2 V) (by unfold cQ sQ at hq ⊢; rw [hf_Q2.1]; exact hq) ?_
      have hR_Q2 := hf_Q2.2.1
      have hqb_Q2V : Q2.R ≤ Q2.C ∧ Q2.C ≤ 100000 := ⟨hQk_Q2.2.2.1, hQk_Q2.2.1⟩
      have hfit_Q2V := hG_Q2V.fits
      exact jn22 Q2 _ _ _ ⟨hQk_Q2, hG_Q2V, by omega, hE_Q1.tr (alr.upd hf_Q2.2.2 he_Q2 (by decide) (by omega)), by rw [hf_Q2.2.2, pk_us]; exact c11.symm.trans hrt, by rw [hf_Q2.2.2, pk_un (by omega)]; exact hA_Q1.2.2.2.2.2 2 (by decide) (by decide)⟩ hP hD hS (lv_sub hl [1, 2, 3, 0] rfl)
    · refine lv_iconst (v := 1) hx hb d_Mo_queryRest_14 (by decide) ?_
      refine lv_goto (tgt := 19) hx hb d_Mo_queryRest_15 (by decide) ?_
      refine W.eq (g2 := F0 m 19 ls [.int 1, .int (nI 1), .int (nI Q.R), .ref mo]) rfl ?_
      have hPc := hP.sub (ws' := [(mo, .inr (13, MF 30 (rf (rs v Q1 o) i br))), (Q1.qq, .inl (cI, (8 * Q1.C), .inl Q1.qf))]) [0, 2] rfl
      have hDc := hD.sub (ws' := [(mo, .inr (13, MF 30 (rf (rs v Q1 o) i br))), (Q1.qq, .inl (cI, (8 * Q1.C), .inl Q1.qf))]) [0, 2] (by decide) rfl
      have hKc := hK.sub (tys' := [(cI, .int)]) [1] rfl
      have hFc := va_free (wc := [(mo, .inr (13, MF 30 (rf (rs v Q1 o) i br))), (Q1.qq, .inl (cI, (8 * Q1.C), .inl Q1.qf))]) hD hS hA [0, 2] rfl
      refine va_callv (va_runV (As := [.int (nI Q.R), .int (nI 1), .int 1]) (rest := []) ⟨hx, hb, hml, hown, hts⟩ (c_Mo_set l dC dI mo H (rf (rs v Q1 o) i br) cI Q1.qq (8 * Q1.C) Q1.qf Q.R 1 1 (by omega) (by omega) ((rf_ne (by decide) (by decide)).trans rs_19)) (cwV 3 hts (gt_V (own := R_Mo) (C := R_Mo) (i := 272) (y := y_Mo_set) i_Mo_set w_1411 w_1413 (gt_sel (y := y_Mo_set) (n := 30) (by decide +kernel)) w_7) rfl rfl rfl (by decide +kernel) ⟨Nat.le_trans (m := 10) (Nat.le_of_ble_eq_true rfl) (Nat.le_add_right 10 F), Nat.le_trans (m := 320) (Nat.le_of_ble_eq_true rfl) (Nat.le_add_right 320 L)⟩) ⟨mp_blind, va_recv hKc hPc (ci := 13) (q0 := 0) rfl rfl, fun U hU hW => ⟨rfl, hU, by rw [hU]; exact hPc, va_K.moved hW.alike hKc, hDc.weaken (fun _ _ _ _ => trivial)⟩⟩ rfl rfl hl.1 rfl (lv_room (Nat.le_of_ble_eq_true rfl)) d_Mo_queryRest_19 ⟨hfit_Q1V.1, hfit_Q1V.2⟩) hS (fun q _ h => hFc q h) hFc (fun _u t9 H1 locs ht hvm hw hB hz1 hk1 hS => ?_)
      obtain ⟨hP1, hK1, hD1⟩ := hB
      rw [ht] at hP1
      obtain ⟨hP, hD⟩ := va_join (wr := [(qx, .inl (cB, NN, .inl f)), (Q1.qe, .inl (cL, (3 * Q1.C), .inr (.inl Q1.ef))), (tv, .inr (12, MF 13 (tw V))), (V.au, .inl (cC, V.U, .inl V.un))]) (w1 := [(mo, .inr (13, MF 30 (rf (rs v Q1 o) i br))), (Q1.qq, .inl (cI, (8 * Q1.C), .inl (upd Q1.qf (8 * Q.R + 1) 1)))]) hP hD [0, 2] [1, 3, 4, 5] rfl rfl (by decide) (by decide) hk1 hFc hP1 hD1
      generalize H1 = H at hP hS ⊢
      have hP : va_P (dC, dI) classes [(qx, .inl (cB, NN, .inl f)), (Q1.qe, .inl (cL, (3 * Q1.C), .inr (.inl Q1.ef))), (tv, .inr (12, MF 13 (tw V))), (V.au, .inl (cC, V.U, .inl V.un)), (mo, .inr (13, MF 30 (rf (rs v Q1 o) i br))), (Q1.qq, .inl (cI, (8 * Q1.C), .inl (upd Q1.qf (8 * Q.R + 1) 1)))] H := hP
      have hD : va_D A [(qx, .inl (cB, NN, .inl f)), (Q1.qe, .inl (cL, (3 * Q1.C), .inr (.inl Q1.ef))), (tv, .inr (12, MF 13 (tw V))), (V.au, .inl (cC, V.U, .inl V.un)), (mo, .inr (13, MF 30 (rf (rs v Q1 o) i br))), (Q1.qq, .inl (cI, (8 * Q1.C), .inl (upd Q1.qf (8 * Q.R + 1) 1)))] := hD
      have hP := hP.sub (ws' := [(mo, .inr (13, MF 30 (rf (rs v Q1 o) i br))), (qx, .inl (cB, NN, .inl f)), (Q1.qq, .inl (cI, (8 * Q1.C), .inl (upd Q1.qf (8 * Q.R + 1) 1))), (Q1.qe, .inl (cL, (3 * Q1.C), .inr (.inl Q1.ef))), (tv, .inr (12, MF 13 (tw V))), (V.au, .inl (cC, V.U, .inl V.un))]) [4, 0, 5, 1, 2, 3] rfl
      have hD := hD.sub (ws' := [(mo, .inr (13, MF 30 (rf (rs v Q1 o) i br))), (qx, .inl (cB, NN, .inl f)), (Q1.qq, .inl (cI, (8 * Q1.C), .inl (upd Q1.qf (8 * Q.R + 1) 1))), (Q1.qe, .inl (cL, (3 * Q1.C), .inr (.inl Q1.ef))), (tv, .inr (12, MF 13 (tw V))), (V.au, .inl (cC, V.U, .inl V.un))]) [4, 0, 5, 1, 2, 3] (by decide) rfl
      obtain ⟨Q2, e_Q2⟩ : ∃ z : QS, z = QS.wf Q1 (upd Q1.qf (8 * Q.R + 1) 1) := ⟨_, rfl⟩
      have hP : va_P (dC, dI) classes [(mo, .inr (13, MF 30 (rf (rs v Q2 o) i br))), (qx, .inl (cB, NN, .inl f)), (Q2.qq, .inl (cI, (8 * Q2.C), .inl Q2.qf)), (Q2.qe, .inl (cL, (3 * Q2.C), .inr (.inl Q2.ef))), (tv, .inr (12, MF 13 (tw V))), (V.au, .inl (cC, V.U, .inl V.un))] H := by subst e_Q2; exact hP
      have hD : va_D A [(mo, .inr (13, MF 30 (rf (rs v Q2 o) i br))), (qx, .inl (cB, NN, .inl f)), (Q2.qq, .inl (cI, (8 * Q2.C), .inl Q2.qf)), (Q2.qe, .inl (cL, (3 * Q2.C), .inr (.inl Q2.ef))), (tv, .inr (12, MF 13 (tw V))), (V.au, .inl (cC, V.U, .inl V.un))] := by subst e_Q2; exact hD
      have hf_Q2 : Q2.C = Q1.C ∧ Q2.R = Q1.R ∧ Q2.qf = upd Q1.qf (8 * Q.R + 1) 1 := by rw [e_Q2]; exact ⟨rfl, rfl, rfl⟩
      have he_Q2 : Q2.ef = Q1.ef := by rw [e_Q2]; rfl
      have hQk_Q2 : QOK Q2 := by rw [e_Q2]; exact hQk_Q1
      have hG_Q2V : GQ (Q.R + 8 * (n - i) + 9) (V.us + (n + 12 - i)) Q V Q2 V := by unfold GQ at hG_Q1V ⊢; rw [hf_Q2.1]; exact hG_Q1V
      refine w_same (fun hq => ?_)
      refine w_tight (k := cQ Q V Q2 V) (n := sQ Q V Q2 V) (by unfold cQ sQ at hq ⊢; rw [hf_Q2.1]; exact hq) ?_
      have hR_Q2 := hf_Q2.2.1
      have hqb_Q2V : Q2.R ≤ Q2.C ∧ Q2.C ≤ 100000 := ⟨hQk_Q2.2.2.1, hQk_Q2.2.1⟩
      have hfit_Q2V := hG_Q2V.fits
      exact jn22 Q2 _ _ _ ⟨hQk_Q2, hG_Q2V, by omega, hE_Q1.tr (alr.upd hf_Q2.2.2 he_Q2 (by decide) (by omega)), by rw [hf_Q2.2.2, pk_us]; exact ds_1 hrt c11, by rw [hf_Q2.2.2, pk_un (by omega)]; exact hA_Q1.2.2.2.2.2 2 (by decide) (by decide)⟩ hP hD hS (lv_sub hl [1, 2, 3, 0] rfl)
  · rintro Qj H locs ls hI22 hP hD hS hl
    have hP : va_P (dC, dI) classes [(mo, .inr (13, MF 30 (rf (rs v Qj o) i br))), (qx, .inl (cB, NN, .inl f)), (Qj.qq, .inl (cI, (8 * Qj.C), .inl Qj.qf)), (Qj.qe, .inl (cL, (3 * Qj.C), .inr (.inl Qj.ef))), (tv, .inr (12, MF 13 (tw V))), (V.au, .inl (cC, V.U, .inl V.un))] H := hP
    have hD : va_D A [(mo, .inr (13, MF 30 (rf (rs v Qj o) i br))), (qx, .inl (cB, NN, .inl f)), (Qj.qq, .inl (cI, (8 * Qj.C), .inl Qj.qf)), (Qj.qe, .inl (cL, (3 * Qj.C), .inr (.inl Qj.ef))), (tv, .inr (12, MF 13 (tw V))), (V.au, .inl (cC, V.U, .inl V.un))] := hD
    have hl : lv_has ls 7 [(0, .ref mo), (1, .int rti), (2, .int 1), (3, .int (nI Q.R))] := hl
    obtain ⟨hQk_Qj, hG_QjV, hR_Qj, hj0, hj1, hj2⟩ := hI22
    have hqb_QjV : Qj.R ≤ Qj.C ∧ Qj.C ≤ 100000 := ⟨hQk_Qj.2.2.1, hQk_Qj.2.1⟩
    have hfit_QjV := hG_QjV.fits
    refine lv_aload_n hx hb d_Mo_queryRest_22 rfl (lv_at hl 0 rfl) ?_
    refine lv_iload_n hx hb d_Mo_queryRest_23 rfl (lv_at hl 3 rfl) ?_
    refine lv_iconst (v := 3) hx hb d_Mo_queryRest_24 (by decide) ?_
    refine lv_iconst (v := 1) hx hb d_Mo_queryRest_25 (by decide) ?_
    refine W.eq (g2 := F0 m 26 ls [.int 1, .int (nI 3), .int (nI Q.R), .ref mo]) rfl ?_
    have hPc := hP.sub (ws' := [(mo, .inr (13, MF 30 (rf (rs v Qj o) i br))), (Qj.qq, .inl (cI, (8 * Qj.C), .inl Qj.qf))]) [0, 2] rfl
    have hDc := hD.sub (ws' := [(mo, .inr (13, MF 30 (rf (rs v Qj o) i br))), (Qj.qq, .inl (cI, (8 * Qj.C), .inl Qj.qf))]) [0, 2] (by decide) rfl
    have hKc := hK.sub (tys' := [(cI, .int)]) [1] rfl
    have hFc := va_free (wc := [(mo, .inr (13, MF 30 (rf (rs v Qj o) i br))), (Qj.qq, .inl (cI, (8 * Qj.C), .inl Qj.qf))]) hD hS hA [0, 2] rfl
    refine va_callv (va_runV (As := [.int (nI Q.R), .int (nI 3), .int 1]) (rest := []) ⟨hx, hb, hml, hown, hts⟩ (c_Mo_set l dC dI mo H (rf (rs v Qj o) i br) cI Qj.qq (8 * Qj.C) Qj.qf Q.R 3 1 (by omega) (by omega) ((rf_ne (by decide) (by decide)).trans rs_19)) (cwV 3 hts (gt_V (own := R_Mo) (C := R_Mo) (i := 272) (y := y_Mo_set) i_Mo_set w_1411 w_1413 (gt_sel (y := y_Mo_set) (n := 30) (by decide +kernel)) w_7) rfl rfl rfl (by decide +kernel) ⟨Nat.le_trans (m := 10) (Nat.le_of_ble_eq_true rfl) (Nat.le_add_right 10 F), Nat.le_trans (m := 320) (Nat.le_of_ble_eq_true rfl) (Nat.le_add_right 320 L)⟩) ⟨mp_blind, va_recv hKc hPc (ci := 13) (q0 := 0) rfl rfl, fun U hU hW => ⟨rfl, hU, by rw [hU]; exact hPc, va_K.moved hW.alike hKc, hDc.weaken (fun _ _ _ _ => trivial)⟩⟩ rfl rfl hl.1 rfl (lv_room (Nat.le_of_ble_eq_true rfl)) d_Mo_queryRest_26 ⟨hfit_QjV.1, hfit_QjV.2⟩) hS (fun q _ h => hFc q h) hFc (fun _u t9 H1 locs ht hvm hw hB hz1 hk1 hS => ?_)
    obtain ⟨hP1, hK1, hD1⟩ := hB
    rw [ht] at hP1
    obtain ⟨hP, hD⟩ := va_join (wr := [(qx, .inl (cB, NN, .inl f)), (Qj.qe, .inl (cL, (3 * Qj.C), .inr (.inl Qj.ef))), (tv, .inr (12, MF 13 (tw V))), (V.au, .inl (cC, V.U, .inl V.un))]) (w1 := [(mo, .inr (13, MF 30 (rf (rs v Qj o) i br))), (Qj.qq, .inl (cI, (8 * Qj.C), .inl (upd Qj.qf (8 * Q.R + 3) 1)))]) hP hD [0, 2] [1, 3, 4, 5] rfl rfl (by decide) (by decide) hk1 hFc hP1 hD1
    generalize H1 = H at hP hS ⊢
    have hP : va_P (dC, dI) classes [(qx, .inl (cB, NN, .inl f)), (Qj.qe, .inl (cL, (3 * Qj.C), .inr (.inl Qj.ef))), (tv, .inr (12, MF 13 (tw V))), (V.au, .inl (cC, V.U, .inl V.un)), (mo, .inr (13, MF 30 (rf (rs v Qj o) i br))), (Qj.qq, .inl (cI, (8 * Qj.C), .inl (upd Qj.qf (8 * Q.R + 3) 1)))] H := hP
    have hD : va_D A [(qx, .inl (cB, NN, .inl f)), (Qj.qe, .inl (cL, (3 * Qj.C), .inr (.inl Qj.ef))), (tv, .inr (12, MF 13 (tw V))), (V.au, .inl (cC, V.U, .inl V.un)), (mo, .inr (13, MF 30 (rf (rs v Qj o) i br))), (Qj.qq, .inl (cI, (8 * Qj.C), .inl (upd Qj.qf (8 * Q.R + 3) 1)))] := hD
    have hP := hP.sub (ws' := [(mo, .inr (13, MF 30 (rf (rs v Qj o) i br))), (qx, .inl (cB, NN, .inl f)), (Qj.qq, .inl (cI, (8 * Qj.C), .inl (upd Qj.qf (8 * Q.R + 3) 1))), (Qj.qe, .inl (cL, (3 * Qj.C), .inr (.inl Qj.ef))), (tv, .inr (12, MF 13 (tw V))), (V.au, .inl (cC, V.U, .inl V.un))]) [4, 0, 5, 1, 2, 3] rfl
    have hD := hD.sub (ws' := [(mo, .inr (13, MF 30 (rf (rs v Qj o) i br))), (qx, .inl (cB, NN, .inl f)), (Qj.qq, .inl (cI, (8 * Qj.C), .inl (upd Qj.qf (8 * Q.R + 3) 1))), (Qj.qe, .inl (cL, (3 * Qj.C), .inr (.inl Qj.ef))), (tv, .inr (12, MF 13 (tw V))), (V.au, .inl (cC, V.U, .inl V.un))]) [4, 0, 5, 1, 2, 3] (by decide) rfl
    obtain ⟨Qk, e_Qk⟩ : ∃ z : QS, z = QS.wf Qj (upd Qj.qf (8 * Q.R + 3) 1) := ⟨_, rfl⟩
    have hP : va_P (dC, dI) classes [(mo, .inr (13, MF 30 (rf (rs v Qk o) i br))), (qx, .inl (cB, NN, .inl f)), (Qk.qq, .inl (cI, (8 * Qk.C), .inl Qk.qf)), (Qk.qe, .inl (cL, (3 * Qk.C), .inr (.inl Qk.ef))), (tv, .inr (12, MF 13 (tw V))), (V.au, .inl (cC, V.U, .inl V.un))] H := by subst e_Qk; exact hP
    have hD : va_D A [(mo, .inr (13, MF 30 (rf (rs v Qk o) i br))), (qx, .inl (cB, NN, .inl f)), (Qk.qq, .inl (cI, (8 * Qk.C), .inl Qk.qf)), (Qk.qe, .inl (cL, (3 * Qk.C), .inr (.inl Qk.ef))), (tv, .inr (12, MF 13 (tw V))), (V.au, .inl (cC, V.U, .inl V.un))] := by subst e_Qk; exact hD
    have hf_Qk : Qk.C = Qj.C ∧ Qk.R = Qj.R ∧ Qk.qf = upd Qj.qf (8 * Q.R + 3) 1 := by rw [e_Qk]; exact ⟨rfl, rfl, rfl⟩
    have he_Qk : Qk.ef = Qj.ef := by rw [e_Qk]; rfl
    have hQk_Qk : QOK Qk := by rw [e_Qk]; exact hQk_Qj
    have hG_QkV : GQ (Q.R + 8 * (n - i) + 9) (V.us + (n + 12 - i)) Q V Qk V := by unfold GQ at hG_QjV ⊢; rw [hf_Qk.1]; exact hG_QjV
    refine w_same (fun hq => ?_)
    refine w_tight (k := cQ Q V Qk V) (n := sQ Q V Qk V) (by unfold cQ sQ at hq ⊢; rw [hf_Qk.1]; exact hq) ?_
    have hR_Qk := hf_Qk.2.1
    have hqb_QkV : Qk.R ≤ Qk.C ∧ Qk.C ≤ 100000 := ⟨hQk_Qk.2.2.1, hQk_Qk.2.1⟩
    have hfit_QkV := hG_QkV.fits
    have hCHk : CHi 3 (SEGp O) Q V Q.R Qk V (-1) [] := CHi.st (by omega) (hj0.tr (alr.upd hf_Qk.2.2 he_Qk (by decide) (by omega))) (by rw [hf_Qk.2.2, pk_un (by omega)]; exact hj2)
    have hf1k : Qk.qf (8 * Q.R + 1) = (if rt = true then 1 else 0) := by rw [hf_Qk.2.2, pk_un (by omega)]; exact hj1
    have hf3k : Qk.qf (8 * Q.R + 3) = (if true = true then 1 else 0) := by rw [hf_Qk.2.2, pk_us, if_pos rfl]
    refine lv_iconst (v := (-1)) hx hb d_Mo_queryRest_29 (by decide) ?_
    refine lv_istore (lv' := [(4, .int (-1)), (0, .ref mo), (1, .int rti), (2, .int 1), (3, .int (nI Q.R))]) hx hb d_Mo_queryRest_30 hl (by decide) rfl (fun ls hl => ?_)
    have hqr0 : qrP f n ok (orL f n) true rt i = (qrL f n ok (orL f n) true (n + 1) i true []).map (fun p => (p.1, p.2.1, qryS rt p.2.2)) := rfl
    refine w_same (fun hq => ?_)
    refine W.widen (k := kcap Q (Q.R + 8 * (n - i) + 9) + qcap V (V.us + (n + 12 - i))) (n := 22 * kcap Q (Q.R + 8 * (n - i) + 9) + 2 * qcap V (V.us + (n + 12 - i))) hfit_QkV.1 hfit_QkV.2 ?_
    refine w_loopH (D := (dC, dI)) (cl := classes) (A := A) (H0 := s.heap) (nL := 7) 32 (σ := QS × TS × Nat × Nat × Int32 × Int32 × Bool × List QT) (fun ⟨Qc, Vc, m9, j, b, bf, fl, ac⟩ H => CHi 3 (SEGp O) Q V Q.R Qc Vc bf ac ∧ Qc.qf (8 * Q.R + 1) = (if rt = true then 1 else 0) ∧ Qc.qf (8 * Q.R + 3) = (if fl = true then 1 else 0) ∧ QOK Qc ∧ TOK Vc ∧ GQ (Q.R + 8 * (n - i) + 9) (V.us + (n + 12 - i)) Q V Qc Vc ∧ (∃ us, TX V Vc us) ∧ Qc.R + 8 * i ≤ Q.R + 8 * j + 1 ∧ Vc.us + i ≤ V.us + j ∧ j ≤ n ∧ i ≤ j ∧ n + 1 ≤ m9 + j ∧ qrL f n ok (orL f n) true m9 j fl ac = qrL f n ok (orL f n) true (n + 1) i true [] ∧ szk s.heap H (cQ Q V Qc Vc) (sQ Q V Qc Vc)) (fun ⟨Qc, Vc, m9, j, b, bf, fl, ac⟩ => n + 1 - j) (fun ⟨Qc, Vc, m9, j, b, bf, fl, ac⟩ => [(mo, .inr (13, MF 30 (rf (rs v Qc o) j b))), (qx, .inl (cB, NN, .inl f)), (Qc.qq, .inl (cI, (8 * Qc.C), .inl Qc.qf)), (Qc.qe, .inl (cL, (3 * Qc.C), .inr (.inl Qc.ef))), (tv, .inr (12, MF 13 (tw Vc))), (Vc.au, .inl (cC, Vc.U, .inl Vc.un))]) (fun ⟨Qc, Vc, m9, j, b, bf, fl, ac⟩ => [(0, .ref mo), (1, .int rti), (2, .int 1), (3, .int (nI Q.R)), (4, .int bf)]) ?_ (Qk, V, n + 1, i, br, -1, true, []) ⟨hCHk, hf1k, hf3k, hQk_Qk, hTk_V, hG_QkV, ⟨[], TX.rf hTk_V⟩, by show Qk.R + 8 * i ≤ Q.R + 8 * i + 1; omega, Nat.le_refl _, hi0, Nat.le_refl _, by show n + 1 ≤ n + 1 + i; omega, rfl, hq⟩ hP hD hS (lv_sub hl [1, 2, 3, 4, 0] rfl)
    rintro ⟨Qc, Vc, m9, j, b, bf, fl, ac⟩ H locs ls hI ih hP hD hS hl
    have hP : va_P (dC, dI) classes [(mo, .inr (13, MF 30 (rf (rs v Qc o) j b))), (qx, .inl (cB, NN, .inl f)), (Qc.qq, .inl (cI, (8 * Qc.C), .inl Qc.qf)), (Qc.qe, .inl (cL, (3 * Qc.C), .inr (.inl Qc.ef))), (tv, .inr (12, MF 13 (tw Vc))), (Vc.au, .inl (cC, Vc.U, .inl Vc.un))] H := hP
    have hD : va_D A [(mo, .inr (13, MF 30 (rf (rs v Qc o) j b))), (qx, .inl (cB, NN, .inl f)), (Qc.qq, .inl (cI, (8 * Qc.C), .inl Qc.qf)), (Qc.qe, .inl (cL, (3 * Qc.C), .inr (.inl Qc.ef))), (tv, .inr (12, MF 13 (tw Vc))), (Vc.au, .inl (cC, Vc.U, .inl Vc.un))] := hD
    have hl : lv_has ls 7 [(0, .ref mo), (1, .int rti), (2, .int 1), (3, .int (nI Q.R)), (4, .int bf)] := hl
    obtain ⟨hCH, hf1, hf3, hQk_Qc, hTk_Vc, hG_QcVc, ⟨usc, hXc⟩, hI1, hI2, hI3, hI4, hI5, hI6, hI7⟩ := hI
    refine w_tight hI7 ?_
    obtain ⟨m0, hm0⟩ : ∃ m0, m9 = m0 + 1 := ⟨m9 - 1, by omega⟩
    have hXcs := hXc.us
    have hCH1 := hCH.1
    have hqb_QcVc : Qc.R ≤ Qc.C ∧ Qc.C ≤ 100000 := ⟨hQk_Qc.2.2.1, hQk_Qc.2.1⟩
    have hfit_QcVc := hG_QcVc.fits
    refine lv_aload_n hx hb d_Mo_queryRest_32 rfl (lv_at hl 0 rfl) ?_
    refine va_get (D := (dC, dI)) (ci := 13) (v := .int (nI j)) (C := R_Mo) (T := F_Mo) (N := 30) hx hb hts in_Mo hown hK hP 0 rfl rfl 7 (by decide) (hts _ w_1096) (fun _ h9 => h9) (MFg (by decide) rf_7) d_Mo_queryRest_33 ?_
    refine lv_istore (lv' := [(5, .int (nI j)), (0, .ref mo), (1, .int rti), (2, .int 1), (3, .int (nI Q.R)), (4, .int bf)]) hx hb d_Mo_queryRest_36 hl (by decide) rfl (fun ls hl => ?_)
    refine lv_aload_n hx hb d_Mo_queryRest_38 rfl (lv_at hl 1 rfl) ?_
    have hPc := hP.sub (ws' := [(mo, .inr (13, MF 30 (rf (rs v Qc o) j b))), (qx, .inl (cB, NN, .inl f))]) [0, 1] rfl
    have hDc := hD.sub (ws' := [(mo, .inr (13, MF 30 (rf (rs v Qc o) j b))), (qx, .inl (cB, NN, .inl f))]) [0, 1] (by decide) rfl
    have hKc := hK.sub (tys' := [(cB, .byte)]) [0] rfl
    have hFc := va_free (wc := [(mo, .inr (13, MF 30 (rf (rs v Qc o) j b))), (qx, .inl (cB, NN, .inl f))]) hD hS hA [0, 1] rfl
    refine va_callv (va_runV (As := []) (rest := []) ⟨hx, hb, hml, hown, hts⟩ (c_Mo_blanks l dC dI mo H (rf (rs v Qc o) j b) cB qx NN f n j (by omega) (by omega) (by omega) ((rf_ne (by decide) (by decide)).trans ((rs_ne (by decide) (by decide) (by decide) (by decide)).trans h6)) rf_7 ((rf_ne (by decide) (by decide)).trans ((rs_ne (by decide) (by decide) (by decide) (by decide)).trans h8))) (cwV 0 hts (gt_V (own := R_Mo) (C := R_Mo) (i := 184) (y := y_Mo_blanks) i_Mo_blanks w_1229 w_1231 (gt_sel (y := y_Mo_blanks) (n := 30) (by decide +kernel)) w_7) rfl rfl rfl (by decide +kernel) ⟨Nat.le_trans (m := 10) (Nat.le_of_ble_eq_true rfl) (Nat.le_add_right 10 F), Nat.le_trans (m := 320) (Nat.le_of_ble_eq_true rfl) (Nat.le_add_right 320 L)⟩) ⟨mp_blind, va_recv hKc hPc (ci := 13) (q0 := 0) rfl rfl, fun U hU hW => ⟨rfl, hU, by rw [hU]; exact hPc, va_K.moved hW.alike hKc, hDc.weaken (fun _ _ _ _ => trivial)⟩⟩ rfl rfl hl.1 rfl (lv_room (Nat.le_of_ble_eq_true rfl)) d_Mo_queryRest_39 ⟨hfit_QcVc.1, hfit_QcVc.2⟩) hS (fun q _ h => hFc q h) hFc (fun _u t9 H1 locs ht hvm hw hB hz1 hk1 hS => ?_)
    obtain ⟨hP1, hK1, hD1⟩ := hB
    rw [ht] at hP1
    obtain ⟨hP, hD⟩ := va_join (wr := [(Qc.qq, .inl (cI, (8 * Qc.C), .inl Qc.qf)), (Qc.qe, .inl (cL, (3 * Qc.C), .inr (.inl Qc.ef))), (tv, .inr (12, MF 13 (tw Vc))), (Vc.au, .inl (cC, Vc.U, .inl Vc.un))]) (w1 := [(mo, .inr (13, MF 30 (va_up (rf (rs v Qc o) j b) 7 (.int (nI (skipH f n j)))))), (qx, .inl (cB, NN, .inl f))]) hP hD [0, 1] [2, 3, 4, 5] rfl rfl (by decide) (by decide) hk1 hFc hP1 hD1
    generalize H1 = H at hP hS ⊢
    have hP : va_P (dC, dI) classes [(Qc.qq, .inl (cI, (8 * Qc.C), .inl Qc.qf)), (Qc.qe, .inl (cL, (3 * Qc.C), .inr (.inl Qc.ef))), (tv, .inr (12, MF 13 (tw Vc))), (Vc.au, .inl (cC, Vc.U, .inl Vc.un)), (mo, .inr (13, MF 30 (va_up (rf (rs v Qc o) j b) 7 (.int (nI (skipH f n j)))))), (qx, .inl (cB, NN, .inl f))] H := hP
    have hD : va_D A [(Qc.qq, .inl (cI, (8 * Qc.C), .inl Qc.qf)), (Qc.qe, .inl (cL, (3 * Qc.C), .inr (.inl Qc.ef))), (tv, .inr (12, MF 13 (tw Vc))), (Vc.au, .inl (cC, Vc.U, .inl Vc.un)), (mo, .inr (13, MF 30 (va_up (rf (rs v Qc o) j b) 7 (.int (nI (skipH f n j)))))), (qx, .inl (cB, NN, .inl f))] := hD
    have hP := hP.sub (ws' := [(mo, .inr (13, MF 30 (va_up (rf (rs v Qc o) j b) 7 (.int (nI (skipH f n j)))))), (qx, .inl (cB, NN, .inl f)), (Qc.qq, .inl (cI, (8 * Qc.C), .inl Qc.qf)), (Qc.qe, .inl (cL, (3 * Qc.C), .inr (.inl Qc.ef))), (tv, .inr (12, MF 13 (tw Vc))), (Vc.au, .inl (cC, Vc.U, .inl Vc.un))]) [4, 5, 0, 1, 2, 3] rfl
    have hD := hD.sub (ws' := [(mo, .inr (13, MF 30 (va_up (rf (rs v Qc o) j b) 7 (.int (nI (skipH f n j)))))), (qx, .inl (cB, NN, .inl f)), (Qc.qq, .inl (cI, (8 * Qc.C), .inl Qc.qf)), (Qc.qe, .inl (cL, (3 * Qc.C), .inr (.inl Qc.ef))), (tv, .inr (12, MF 13 (tw Vc))), (Vc.au, .inl (cC, Vc.U, .inl Vc.un))]) [4, 5, 0, 1, 2, 3] (by decide) rfl
    rw [rf_u7] at hP hD
    have hP : va_P (dC, dI) classes [(mo, .inr (13, MF 30 (rf (rs v Qc o) (skipH f n j) b))), (qx, .inl (cB, NN, .inl f)), (Qc.qq, .inl (cI, (8 * Qc.C), .inl Qc.qf)), (Qc.qe, .inl (cL, (3 * Qc.C), .inr (.inl Qc.ef))), (tv, .inr (12, MF 13 (tw Vc))), (Vc.au, .inl (cC, Vc.U, .inl Vc.un))] H := hP
    have hD : va_D A [(mo, .inr (13, MF 30 (rf (rs v Qc o) (skipH f n j) b))), (qx, .inl (cB, NN, .inl f)), (Qc.qq, .inl (cI, (8 * Qc.C), .inl Qc.qf)), (Qc.qe, .inl (cL, (3 * Qc.C), .inr (.inl Qc.ef))), (tv, .inr (12, MF 13 (tw Vc))), (Vc.au, .inl (cC, Vc.U, .inl Vc.un))] := hD
    have hsk_42 := skipH_n (f := f) (show j ≤ n by omega)
    refine w_join (D := (dC, dI)) (cl := classes) (A := A) (H0 := s.heap) (nL := 7) 68 (σ := Unit) (fun _ => hereV f n (skipH f n j) = 46 ∨ hereV f n (skipH f n j) = 91) (fun _ => cQ Q V Qc Vc) (fun _ => sQ Q V Qc Vc) (fun _ => [(mo, .inr (13, MF 30 (rf (rs v Qc o) (skipH f n j) b))), (qx, .inl (cB, NN, .inl f)), (Qc.qq, .inl (cI, (8 * Qc.C), .inl Qc.qf)), (Qc.qe, .inl (cL, (3 * Qc.C), .inr (.inl Qc.ef))), (tv, .inr (12, MF 13 (tw Vc))), (Vc.au, .inl (cC, Vc.U, .inl Vc.un))]) (fun _ => [(0, .ref mo), (1, .int rti), (2, .int 1), (3, .int (nI Q.R)), (4, .int bf), (5, .int (nI j))]) (fun jn68 => ?_) ?_
    · refine lv_aload_n hx hb d_Mo_queryRest_42 rfl (lv_at hl 1 rfl) ?_
      have hPc := hP.sub (ws' := [(mo, .inr (13, MF 30 (rf (rs v Qc o) (skipH f n j) b))), (qx, .inl (cB, NN, .inl f))]) [0, 1] rfl
      have hDc := hD.sub (ws' := [(mo, .inr (13, MF 30 (rf (rs v Qc o) (skipH f n j) b))), (qx, .inl (cB, NN, .inl f))]) [0, 1] (by decide) rfl
      have hKc := hK.sub (tys' := [(cB, .byte)]) [0] rfl
      have hFc := va_free (wc := [(mo, .inr (13, MF 30 (rf (rs v Qc o) (skipH f n j) b))), (qx, .inl (cB, NN, .inl f))]) hD hS hA [0, 1] rfl
      refine va_calli (va_runV (As := []) (rest := []) ⟨hx, hb, hml, hown, hts⟩ (c_Mo_c l dC dI mo H (rf (rs v Qc o) (skipH f n j) b) cB qx NN f n (skipH f n j) (by omega) (by omega) (by omega) ((rf_ne (by decide) (by decide)).trans ((rs_ne (by decide) (by decide) (by decide) (by decide)).trans h6)) rf_7 ((rf_ne (by decide) (by decide)).trans ((rs_ne (by decide) (by decide) (by decide) (by decide)).trans h8))) (cwV 0 hts (gt_V (own := R_Mo) (C := R_Mo) (i := 147) (y := y_Mo_c) i_Mo_c w_1233 w_1235 (gt_sel (y := y_Mo_c) (n := 30) (by decide +kernel)) w_7) rfl rfl rfl (by decide +kernel) ⟨Nat.le_trans (m := 10) (Nat.le_of_ble_eq_true rfl) (Nat.le_add_right 10 F), Nat.le_trans (m := 320) (Nat.le_of_ble_eq_true rfl) (Nat.le_add_right 320 L)⟩) ⟨mp_blind, va_recv hKc hPc (ci := 13) (q0 := 0) rfl rfl, fun U hU hW => ⟨rfl, hU, by rw [hU]; exact hPc, va_K.moved hW.alike hKc, hDc.weaken (fun _ _ _ _ => trivial)⟩⟩ rfl rfl hl.1 rfl (lv_room (Nat.le_of_ble_eq_true rfl)) d_Mo_queryRest_43 ⟨hfit_QcVc.1, hfit_QcVc.2⟩) hS (fun q _ h => hFc q h) hFc (fun r1 _u t9 H1 locs ht hvm hw hB hz1 hk1 hS => ?_)
      obtain ⟨hP1, hK1, hD1⟩ := hB
      rw [ht] at hP1
      obtain ⟨hP, hD⟩ := va_join (wr := [(Qc.qq, .inl (cI, (8 * Qc.C), .inl Qc.qf)), (Qc.qe, .inl (cL, (3 * Qc.C), .inr (.inl Qc.ef))), (tv, .inr (12, MF 13 (tw Vc))), (Vc.au, .inl (cC, Vc.U, .inl Vc.un))]) (w1 := [(mo, .inr (13, MF 30 (rf (rs v Qc o) (skipH f n j) b))), (qx, .inl (cB, NN, .inl f))]) hP hD [0, 1] [2, 3, 4, 5] rfl rfl (by decide) (by decide) hk1 hFc hP1 hD1
      generalize H1 = H at hP hS ⊢
      have hP : va_P (dC, dI) classes [(Qc.qq, .inl (cI, (8 * Qc.C), .inl Qc.qf)), (Qc.qe, .inl (cL, (3 * Qc.C), .inr (.inl Qc.ef))), (tv, .inr (12, MF 13 (tw Vc))), (Vc.au, .inl (cC, Vc.U, .inl Vc.un)), (mo, .inr (13, MF 30 (rf (rs v Qc o) (skipH f n j) b))), (qx, .inl (cB, NN, .inl f))] H := hP
      have hD : va_D A [(Qc.qq, .inl (cI, (8 * Qc.C), .inl Qc.qf)), (Qc.qe, .inl (cL, (3 * Qc.C), .inr (.inl Qc.ef))), (tv, .inr (12, MF 13 (tw Vc))), (Vc.au, .inl (cC, Vc.U, .inl Vc.un)), (mo, .inr (13, MF 30 (rf (rs v Qc o) (skipH f n j) b))), (qx, .inl (cB, NN, .inl f))] := hD
      have hP := hP.sub (ws' := [(mo, .inr (13, MF 30 (rf (rs v Qc o) (skipH f n j) b))), (qx, .inl (cB, NN, .inl f)), (Qc.qq, .inl (cI, (8 * Qc.C), .inl Qc.qf)), (Qc.qe, .inl (cL, (3 * Qc.C), .inr (.inl Qc.ef))), (tv, .inr (12, MF 13 (tw Vc))), (Vc.au, .inl (cC, Vc.U, .inl Vc.un))]) [4, 5, 0, 1, 2, 3] rfl
      have hD := hD.sub (ws' := [(mo, .inr (13, MF 30 (rf (rs v Qc o) (skipH f n j) b))), (qx, .inl (cB, NN, .inl f)), (Qc.qq, .inl (cI, (8 * Qc.C), .inl Qc.qf)), (Qc.qe, .inl (cL, (3 * Qc.C), .inr (.inl Qc.ef))), (tv, .inr (12, MF 13 (tw Vc))), (Vc.au, .inl (cC, Vc.U, .inl Vc.un))]) [4, 5, 0, 1, 2, 3] (by decide) rfl
      have h_r1 : r1 = hereV f n (skipH f n j) := hw
      refine lv_bipush (v := 46) hx hb d_Mo_queryRest_46 (by decide) ?_
      refine lv_icmp_eq (tgt := 68) hx hb d_Mo_queryRest_48 (by decide) (fun c48 => ?_) (fun c48 => ?_)
      · exact jn68 () _ _ _ (Or.inl (h_r1.symm.trans c48)) hP hD hS (lv_sub hl [1, 2, 3, 4, 5, 0] rfl)
      · refine lv_aload_n hx hb d_Mo_queryRest_51 rfl (lv_at hl 1 rfl) ?_
        have hPc := hP.sub (ws' := [(mo, .inr (13, MF 30 (rf (rs v Qc o) (skipH f n j) b))), (qx, .inl (cB, NN, .inl f))]) [0, 1] rfl
        have hDc := hD.sub (ws' := [(mo, .inr (13, MF 30 (rf (rs v Qc o) (skipH f n j) b))), (qx, .inl (cB, NN, .inl f))]) [0, 1] (by decide) rfl
        have hKc := hK.sub (tys' := [(cB, .byte)]) [0] rfl
        have hFc := va_free (wc := [(mo, .inr (13, MF 30 (rf (rs v Qc o) (skipH f n j) b))), (qx, .inl (cB, NN, .inl f))]) hD hS hA [0, 1] rfl
        refine va_calli (va_runV (As := []) (rest := []) ⟨hx, hb, hml, hown, hts⟩ (c_Mo_c l dC dI mo H (rf (rs v Qc o) (skipH f n j) b) cB qx NN f n (skipH f n j) (by omega) (by omega) (by omega) ((rf_ne (by decide) (by decide)).trans ((rs_ne (by decide) (by decide) (by decide) (by decide)).trans h6)) rf_7 ((rf_ne (by decide) (by decide)).trans ((rs_ne (by decide) (by decide) (by decide) (by decide)).trans h8))) (cwV 0 hts (gt_V (own := R_Mo) (C := R_Mo) (i := 147) (y := y_Mo_c) i_Mo_c w_1233 w_1235 (gt_sel (y := y_Mo_c) (n := 30) (by decide +kernel)) w_7) rfl rfl rfl (by decide +kernel) ⟨Nat.le_trans (m := 10) (Nat.le_of_ble_eq_true rfl) (Nat.le_add_right 10 F), Nat.le_trans (m := 320) (Nat.le_of_ble_eq_true rfl) (Nat.le_add_right 320 L)⟩) ⟨mp_blind, va_recv hKc hPc (ci := 13) (q0 := 0) rfl rfl, fun U hU hW => ⟨rfl, hU, by rw [hU]; exact hPc, va_K.moved hW.alike hKc, hDc.weaken (fun _ _ _ _ => trivial)⟩⟩ rfl rfl hl.1 rfl (lv_room (Nat.le_of_ble_eq_true rfl)) d_Mo_queryRest_52 ⟨hfit_QcVc.1, hfit_QcVc.2⟩) hS (fun q _ h => hFc q h) hFc (fun r2 _u t9 H1 locs ht hvm hw hB hz1 hk1 hS => ?_)
        obtain ⟨hP1, hK1, hD1⟩ := hB
        rw [ht] at hP1
        obtain ⟨hP, hD⟩ := va_join (wr := [(Qc.qq, .inl (cI, (8 * Qc.C), .inl Qc.qf)), (Qc.qe, .inl (cL, (3 * Qc.C), .inr (.inl Qc.ef))), (tv, .inr (12, MF 13 (tw Vc))), (Vc.au, .inl (cC, Vc.U, .inl Vc.un))]) (w1 := [(mo, .inr (13, MF 30 (rf (rs v Qc o) (skipH f n j) b))), (qx, .inl (cB, NN, .inl f))]) hP hD [0, 1] [2, 3, 4, 5] rfl rfl (by decide) (by decide) hk1 hFc hP1 hD1
        generalize H1 = H at hP hS ⊢
        have hP : va_P (dC, dI) classes [(Qc.qq, .inl (cI, (8 * Qc.C), .inl Qc.qf)), (Qc.qe, .inl (cL, (3 * Qc.C), .inr (.inl Qc.ef))), (tv, .inr (12, MF 13 (tw Vc))), (Vc.au, .inl (cC, Vc.U, .inl Vc.un)), (mo, .inr (13, MF 30 (rf (rs v Qc o) (skipH f n j) b))), (qx, .inl (cB, NN, .inl f))] H := hP
        have hD : va_D A [(Qc.qq, .inl (cI, (8 * Qc.C), .inl Qc.qf)), (Qc.qe, .inl (cL, (3 * Qc.C), .inr (.inl Qc.ef))), (tv, .inr (12, MF 13 (tw Vc))), (Vc.au, .inl (cC, Vc.U, .inl Vc.un)), (mo, .inr (13, MF 30 (rf (rs v Qc o) (skipH f n j) b))), (qx, .inl (cB, NN, .inl f))] := hD
        have hP := hP.sub (ws' := [(mo, .inr (13, MF 30 (rf (rs v Qc o) (skipH f n j) b))), (qx, .inl (cB, NN, .inl f)), (Qc.qq, .inl (cI, (8 * Qc.C), .inl Qc.qf)), (Qc.qe, .inl (cL, (3 * Qc.C), .inr (.inl Qc.ef))), (tv, .inr (12, MF 13 (tw Vc))), (Vc.au, .inl (cC, Vc.U, .inl Vc.un))]) [4, 5, 0, 1, 2, 3] rfl
        have hD := hD.sub (ws' := [(mo, .inr (13, MF 30 (rf (rs v Qc o) (skipH f n j) b))), (qx, .inl (cB, NN, .inl f)), (Qc.qq, .inl (cI, (8 * Qc.C), .inl Qc.qf)), (Qc.qe, .inl (cL, (3 * Qc.C), .inr (.inl Qc.ef))), (tv, .inr (12, MF 13 (tw Vc))), (Vc.au, .inl (cC, Vc.U, .inl Vc.un))]) [4, 5, 0, 1, 2, 3] (by decide) rfl
        have h_r2 : r2 = hereV f n (skipH f n j) := hw
        refine lv_bipush (v := 91) hx hb d_Mo_queryRest_55 (by decide) ?_
        refine lv_icmp_eq (tgt := 68) hx hb d_Mo_queryRest_57 (by decide) (fun c57 => ?_) (fun c57 => ?_)
        · exact jn68 () _ _ _ (Or.inr (h_r2.symm.trans c57)) hP hD hS (lv_sub hl [1, 2, 3, 4, 5, 0] rfl)
        · refine lv_aload_n hx hb d_Mo_queryRest_60 rfl (lv_at hl 1 rfl) ?_
          refine lv_iload hx hb d_Mo_queryRest_61 (lv_at hl 0 rfl) ?_
          refine va_put (D := (dC, dI)) (ci := 13) (v := .int (nI j)) (ty := .int) (C := R_Mo) (T := F_Mo) (N := 30) hx hb hts in_Mo t_Mo t_Mo_ok n_Mo hown hK hP hD hS 0 rfl rfl 7 (by decide) (hts _ w_1096) (fun _ h9 => h9) rfl (by decide +kernel) rfl rfl (by rw [MFl]; decide) d_Mo_queryRest_63 (fun H locs hP hD hS => ?_)
          rw [MFs (n := 30) (k := 7) (by decide)] at hP hD
          have hP : va_P (dC, dI) classes [(mo, .inr (13, MF 30 (va_up (rf (rs v Qc o) (skipH f n j) b) 7 (.int (nI j))))), (qx, .inl (cB, NN, .inl f)), (Qc.qq, .inl (cI, (8 * Qc.C), .inl Qc.qf)), (Qc.qe, .inl (cL, (3 * Qc.C), .inr (.inl Qc.ef))), (tv, .inr (12, MF 13 (tw Vc))), (Vc.au, .inl (cC, Vc.U, .inl Vc.un))] H := hP
          have hD : va_D A [(mo, .inr (13, MF 30 (va_up (rf (rs v Qc o) (skipH f n j) b) 7 (.int (nI j))))), (qx, .inl (cB, NN, .inl f)), (Qc.qq, .inl (cI, (8 * Qc.C), .inl Qc.qf)), (Qc.qe, .inl (cL, (3 * Qc.C), .inr (.inl Qc.ef))), (tv, .inr (12, MF 13 (tw Vc))), (Vc.au, .inl (cC, Vc.U, .inl Vc.un))] := hD
          rw [rf_u7] at hP hD
          have hP : va_P (dC, dI) classes [(mo, .inr (13, MF 30 (rf (rs v Qc o) j b))), (qx, .inl (cB, NN, .inl f)), (Qc.qq, .inl (cI, (8 * Qc.C), .inl Qc.qf)), (Qc.qe, .inl (cL, (3 * Qc.C), .inr (.inl Qc.ef))), (tv, .inr (12, MF 13 (tw Vc))), (Vc.au, .inl (cC, Vc.U, .inl Vc.un))] H := hP
          have hD : va_D A [(mo, .inr (13, MF 30 (rf (rs v Qc o) j b))), (qx, .inl (cB, NN, .inl f)), (Qc.qq, .inl (cI, (8 * Qc.C), .inl Qc.qf)), (Qc.qe, .inl (cL, (3 * Qc.C), .inr (.inl Qc.ef))), (tv, .inr (12, MF 13 (tw Vc))), (Vc.au, .inl (cC, Vc.U, .inl Vc.un))] := hD
          refine lv_iload_n hx hb d_Mo_queryRest_66 rfl (lv_at hl 4 rfl) ?_
          have hfin : qrP f n ok (orL f n) true rt i = some (j, fl, qryS rt ac) := by rw [hqr0, ← hI6, hm0, qrL_e (fun h => c48 (h_r1.trans h)) (fun h => c57 (h_r2.trans h))]; rfl
          have hds := ds_m hf1
          refine w_same (fun hq => ?_)
          refine W.widen (k := kcap Q (Q.R + 8 * (n - i) + 9) + qcap V (V.us + (n + 12 - i))) (n := 22 * kcap Q (Q.R + 8 * (n - i) + 9) + 2 * qcap V (V.us + (n + 12 - i))) hfit_QcVc.1 hfit_QcVc.2 ?_
          have hPo : QPo n i 9 Q V (Qc, Vc, j, b, o) := ⟨hQk_Qc, hG_QcVc, ⟨_, hXc, by omega⟩, by show Q.R ≤ Qc.R; omega, by show Qc.R ≤ Q.R + 8 * (n - i) + 9; omega⟩
          exact W.iret (v := nI Q.R) hx hb hr (fun t9 ht hW => ⟨⟨nI Q.R, (Qc, Vc, j, b, o), rfl, ⟨hPo, Or.inl ⟨fl, qryS rt ac, rfl, hfin, ⟨Nat.le_refl _, hCH1, hds.1, ac, hCH.all SEGp_in, by rw [hds.2]⟩, hCH.ex, hf3, hI1, hI2, hI3, hCH1, rfl⟩⟩, ⟨by rw [ht]; exact hP, va_K.moved hW.alike hK, hD⟩, by rw [ht]; exact hq⟩, hS.F ht⟩) hS.2.2 d_Mo_queryRest_67
    · rintro _ H locs ls hI68 hP hD hS hl
      have hP : va_P (dC, dI) classes [(mo, .inr (13, MF 30 (rf (rs v Qc o) (skipH f n j) b))), (qx, .inl (cB, NN, .inl f)), (Qc.qq, .inl (cI, (8 * Qc.C), .inl Qc.qf)), (Qc.qe, .inl (cL, (3 * Qc.C), .inr (.inl Qc.ef))), (tv, .inr (12, MF 13 (tw Vc))), (Vc.au, .inl (cC, Vc.U, .inl Vc.un))] H := hP
      have hD : va_D A [(mo, .inr (13, MF 30 (rf (rs v Qc o) (skipH f n j) b))), (qx, .inl (cB, NN, .inl f)), (Qc.qq, .inl (cI, (8 * Qc.C), .inl Qc.qf)), (Qc.qe, .inl (cL, (3 * Qc.C), .inr (.inl Qc.ef))), (tv, .inr (12, MF 13 (tw Vc))), (Vc.au, .inl (cC, Vc.U, .inl Vc.un))] := hD
      have hl : lv_has ls 7 [(0, .ref mo), (1, .int rti), (2, .int 1), (3, .int (nI Q.R)), (4, .int bf), (5, .int (nI j))] := hl
      have hqb_QcVc : Qc.R ≤ Qc.C ∧ Qc.C ≤ 100000 := ⟨hQk_Qc.2.2.1, hQk_Qc.2.1⟩
      have hfit_QcVc := hG_QcVc.fits
      refine lv_aload_n hx hb d_Mo_queryRest_68 rfl (lv_at hl 0 rfl) ?_
      refine lv_iload_n hx hb d_Mo_queryRest_69 rfl (lv_at hl 3 rfl) ?_
      refine lv_iload_n hx hb d_Mo_queryRest_70 rfl (lv_at hl 2 rfl) ?_
      have hPc := hP.sub (ws' := [(mo, .inr (13, MF 30 (rf (rs v Qc o) (skipH f n j) b))), (qx, .inl (cB, NN, .inl f)), (Qc.qq, .inl (cI, (8 * Qc.C), .inl Qc.qf)), (Qc.qe, .inl (cL, (3 * Qc.C), .inr (.inl Qc.ef))), (tv, .inr (12, MF 13 (tw Vc))), (Vc.au, .inl (cC, Vc.U, .inl Vc.un))]) [0, 1, 2, 3, 4, 5] rfl
      have hDc := hD.sub (ws' := [(mo, .inr (13, MF 30 (rf (rs v Qc o) (skipH f n j) b))), (qx, .inl (cB, NN, .inl f)), (Qc.qq, .inl (cI, (8 * Qc.C), .inl Qc.qf)), (Qc.qe, .inl (cL, (3 * Qc.C), .inr (.inl Qc.ef))), (tv, .inr (12, MF 13 (tw Vc))), (Vc.au, .inl (cC, Vc.U, .inl Vc.un))]) [0, 1, 2, 3, 4, 5] (by decide) rfl
      have hKc := hK.sub (tys' := [(cB, .byte), (cI, .int), (cL, .long), (cC, .char)]) [0, 1, 2, 3] rfl
      have hFc := va_free (wc := [(mo, .inr (13, MF 30 (rf (rs v Qc o) (skipH f n j) b))), (qx, .inl (cB, NN, .inl f)), (Qc.qq, .inl (cI, (8 * Qc.C), .inl Qc.qf)), (Qc.qe, .inl (cL, (3 * Qc.C), .inr (.inl Qc.ef))), (tv, .inr (12, MF 13 (tw Vc))), (Vc.au, .inl (cC, Vc.U, .inl Vc.un))]) hD hS hA [0, 1, 2, 3, 4, 5] rfl
      refine w_same (fun hq0 => ?_)
      refine va_calli (va_runV (As := [.int (nI Q.R), .int 1]) (rest := []) ⟨hx, hb, hml, hown, hts⟩ (c_seg1 orL O F L hOf l dC dI mo H v cB cI cL cC qx NN f n K tv Qc Vc o (skipH f n j) b Q.R ok hok ho16 hOR hnN hNN (by omega) h6 h8 h22 hQk_Qc hTk_Vc (by omega) (by omega) hCH1) (cwV 2 hts (gt_V (own := R_Mo) (C := R_Mo) (i := 275) (y := y_Mo_segment) i_Mo_segment w_1415 w_1417 (gt_sel (y := y_Mo_segment) (n := 30) (by decide +kernel)) w_7) rfl rfl rfl (by decide +kernel) ⟨by show 9 + F + 1 ≤ 10 + F; omega, by show 8 + (5 + 11) + (280 + L) ≤ 320 + L; omega⟩) ⟨me_blind, va_recv hKc hPc (ci := 13) (q0 := 0) rfl rfl, fun U hU hW => ⟨rfl, ⟨hU, by rw [hU]; exact hPc, va_K.moved hW.alike hKc, hDc.weaken (fun _ _ _ _ => trivial)⟩, by rw [hU]; exact ME.call hM hS.2.1 hFc hW⟩⟩ rfl rfl hl.1 rfl (lv_room (Nat.le_of_ble_eq_true rfl)) d_Mo_queryRest_71 ⟨(hG_QcVc.step (B2 := Qc.R + 8 * (n - (skipH f n j)) + 8) (C2 := Vc.us + (n + 12 - (skipH f n j))) (by omega) (by omega)).1, (hG_QcVc.step (B2 := Qc.R + 8 * (n - (skipH f n j)) + 8) (C2 := Vc.us + (n + 12 - (skipH f n j))) (by omega) (by omega)).2⟩) hS (fun q _ h => hFc q h) hFc (fun r0 ⟨Qs, Vs, js, bs, os⟩ t9 H1 locs ht hvm hw hB hz1 hk1 hS => ?_)
      obtain ⟨⟨hP1, hK1, hD1⟩, hz9⟩ := hB
      rw [ht] at hP1
      rw [ht] at hz9
      obtain ⟨⟨hQk_Qs, hGn, hTXs, hR1_Qs, hR2_Qs⟩, hw⟩ := hw
      have hQk_Qs : QOK Qs := hQk_Qs
      obtain ⟨hG_QsVs, hGc, hGs⟩ := hG_QcVc.tr hGn (by omega) (by omega)
      have hR1_Qs : Qc.R ≤ Qs.R := hR1_Qs
      have hR2_Qs : Qs.R ≤ Qc.R + 8 * (n - (skipH f n j)) + 8 := hR2_Qs
      obtain ⟨uss, hX_Vs, hln_Vs⟩ := hTXs
      have hX_Vs : TX Vc Vs uss := hX_Vs
      have hXs_Vs := hX_Vs.us
      have hz9 : szk H H1 (cQ Qc Vc Qs Vs) (sQ Qc Vc Qs Vs) := hz9
      have hq1 : szk s.heap H1 (cQ Q V Qs Vs) (sQ Q V Qs Vs) := (hq0.trans hz9).mono hGc hGs
      refine w_tight hq1 ?_
      obtain ⟨hP, hD⟩ := va_join (wr := []) (w1 := [(mo, .inr (13, MF 30 (rf (rs v Qs os) js bs))), (qx, .inl (cB, NN, .inl f)), (Qs.qq, .inl (cI, (8 * Qs.C), .inl Qs.qf)), (Qs.qe, .inl (cL, (3 * Qs.C), .inr (.inl Qs.ef))), (tv, .inr (12, MF 13 (tw Vs))), (Vs.au, .inl (cC, Vs.U, .inl Vs.un))]) hP hD [0, 1, 2, 3, 4, 5] [] rfl rfl (by decide) (by decide) hk1 hFc hP1 hD1
      generalize H1 = H at hP hS ⊢
      have hP : va_P (dC, dI) classes [(mo, .inr (13, MF 30 (rf (rs v Qs os) js bs))), (qx, .inl (cB, NN, .inl f)), (Qs.qq, .inl (cI, (8 * Qs.C), .inl Qs.qf)), (Qs.qe, .inl (cL, (3 * Qs.C), .inr (.inl Qs.ef))), (tv, .inr (12, MF 13 (tw Vs))), (Vs.au, .inl (cC, Vs.U, .inl Vs.un))] H := hP
      have hD : va_D A [(mo, .inr (13, MF 30 (rf (rs v Qs os) js bs))), (qx, .inl (cB, NN, .inl f)), (Qs.qq, .inl (cI, (8 * Qs.C), .inl Qs.qf)), (Qs.qe, .inl (cL, (3 * Qs.C), .inr (.inl Qs.ef))), (tv, .inr (12, MF 13 (tw Vs))), (Vs.au, .inl (cC, Vs.U, .inl Vs.un))] := hD
      have hP := hP.sub (ws' := [(mo, .inr (13, MF 30 (rf (rs v Qs os) js bs))), (qx, .inl (cB, NN, .inl f)), (tv, .inr (12, MF 13 (tw Vs))), (Qs.qq, .inl (cI, (8 * Qs.C), .inl Qs.qf)), (Qs.qe, .inl (cL, (3 * Qs.C), .inr (.inl Qs.ef))), (Vs.au, .inl (cC, Vs.U, .inl Vs.un))]) [0, 1, 4, 2, 3, 5] rfl
      have hD := hD.sub (ws' := [(mo, .inr (13, MF 30 (rf (rs v Qs os) js bs))), (qx, .inl (cB, NN, .inl f)), (tv, .inr (12, MF 13 (tw Vs))), (Qs.qq, .inl (cI, (8 * Qs.C), .inl Qs.qf)), (Qs.qe, .inl (cL, (3 * Qs.C), .inr (.inl Qs.ef))), (Vs.au, .inl (cC, Vs.U, .inl Vs.un))]) [0, 1, 4, 2, 3, 5] (by decide) rfl
      have hP := hP.sub (ws' := [(mo, .inr (13, MF 30 (rf (rs v Qs os) js bs))), (qx, .inl (cB, NN, .inl f)), (Qs.qq, .inl (cI, (8 * Qs.C), .inl Qs.qf)), (Qs.qe, .inl (cL, (3 * Qs.C), .inr (.inl Qs.ef))), (tv, .inr (12, MF 13 (tw Vs))), (Vs.au, .inl (cC, Vs.U, .inl Vs.un))]) [0, 1, 3, 4, 2, 5] rfl
      have hD := hD.sub (ws' := [(mo, .inr (13, MF 30 (rf (rs v Qs os) js bs))), (qx, .inl (cB, NN, .inl f)), (Qs.qq, .inl (cI, (8 * Qs.C), .inl Qs.qf)), (Qs.qe, .inl (cL, (3 * Qs.C), .inr (.inl Qs.ef))), (tv, .inr (12, MF 13 (tw Vs))), (Vs.au, .inl (cC, Vs.U, .inl Vs.un))]) [0, 1, 3, 4, 2, 5] (by decide) rfl
      have hTk_Vs := hX_Vs.ok hTk_Vc (by omega)
      have hqb_QsVs : Qs.R ≤ Qs.C ∧ Qs.C ≤ 100000 := ⟨hQk_Qs.2.2.1, hQk_Qs.2.1⟩
      have hfit_QsVs := hG_QsVs.fits
      rcases hw with ⟨fl1, g1, hv_1, hv_2, hv_3, hv_4, hv_5, hv_6, hv_7, hv_8⟩ | ⟨hv_1, hv_2⟩
      · have hv_8 : o = os := hv_8.symm
        subst hv_8
        have hP : va_P (dC, dI) classes [(mo, .inr (13, MF 30 (rf (rs v Qs o) js bs))), (qx, .inl (cB, NN, .inl f)), (Qs.qq, .inl (cI, (8 * Qs.C), .inl Qs.qf)), (Qs.qe, .inl (cL, (3 * Qs.C), .inr (.inl Qs.ef))), (tv, .inr (12, MF 13 (tw Vs))), (Vs.au, .inl (cC, Vs.U, .inl Vs.un))] H := hP
        have hD : va_D A [(mo, .inr (13, MF 30 (rf (rs v Qs o) js bs))), (qx, .inl (cB, NN, .inl f)), (Qs.qq, .inl (cI, (8 * Qs.C), .inl Qs.qf)), (Qs.qe, .inl (cL, (3 * Qs.C), .inr (.inl Qs.ef))), (tv, .inr (12, MF 13 (tw Vs))), (Vs.au, .inl (cC, Vs.U, .inl Vs.un))] := hD
        have hv_2 : sgP f n ok (orL f n) true (skipH f n j) = some (js, fl1, g1) := hv_2
        have hv_3 : SGf O Qc Vc Qc.R Q.R Qs Vs fl1 g1 := hv_3
        have hv_4 : Qs.R + 8 * (skipH f n j) + 7 ≤ Qc.R + 8 * js := hv_4
        have hv_5 : Vs.us + (skipH f n j) ≤ Vc.us + js := hv_5
        have hv_6 : js ≤ n := hv_6
        have hv_7 : Qc.R < Qs.R := hv_7
        subst hv_1
        refine lv_istore (lv' := [(6, .int (nI Qc.R)), (0, .ref mo), (1, .int rti), (2, .int 1), (3, .int (nI Q.R)), (4, .int bf), (5, .int (nI j))]) hx hb d_Mo_queryRest_74 hl (by decide) rfl (fun ls hl => ?_)
        refine lv_iload hx hb d_Mo_queryRest_76 (lv_at hl 0 rfl) ?_
        refine lv_if_ge (tgt := 83) hx hb d_Mo_queryRest_78 (by decide) (fun _ => ?_) (fun h => absurd (nI_pos' (by omega)) h)
        refine w_join (D := (dC, dI)) (cl := classes) (A := A) (H0 := s.heap) (nL := 7) 108 (σ := QS) (fun Qz => CHi 3 (SEGp O) Q V Q.R Qz Vs (nI Qc.R) (ac ++ [g1]) ∧ Qz.qf (8 * Q.R + 1) = (if rt = true then 1 else 0) ∧ Qz.qf (8 * Q.R + 3) = (if (fl && fl1) = true then 1 else 0) ∧ QOK Qz ∧ GQ (Q.R + 8 * (n - i) + 9) (V.us + (n + 12 - i)) Q V Qz Vs ∧ Qz.R = Qs.R) (fun Qz => cQ Q V Qz Vs) (fun Qz => sQ Q V Qz Vs) (fun Qz => [(mo, .inr (13, MF 30 (rf (rs v Qz o) js bs))), (qx, .inl (cB, NN, .inl f)), (Qz.qq, .inl (cI, (8 * Qz.C), .inl Qz.qf)), (Qz.qe, .inl (cL, (3 * Qz.C), .inr (.inl Qz.ef))), (tv, .inr (12, MF 13 (tw Vs))), (Vs.au, .inl (cC, Vs.U, .inl Vs.un))]) (fun Qz => [(0, .ref mo), (1, .int rti), (2, .int 1), (3, .int (nI Q.R)), (6, .int (nI Qc.R))]) (fun jn108 => ?_) ?_
        · rcases hCH.2.2.1 with ⟨hb1, hb5⟩ | ⟨a9, hb1, hb2, hb3⟩
          · rw [hb1] at hl hCH
            have hl : lv_has ls 7 [(6, .int (nI Qc.R)), (0, .ref mo), (1, .int rti), (2, .int 1), (3, .int (nI Q.R)), (4, .int (-1)), (5, .int (nI j))] := hl
            refine lv_iload hx hb d_Mo_queryRest_83 (lv_at hl 5 rfl) ?_
            refine lv_if_ge (tgt := 99) hx hb d_Mo_queryRest_85 (by decide) (fun h => absurd h (by decide)) (fun _ => ?_)
            refine lv_aload_n hx hb d_Mo_queryRest_88 rfl (lv_at hl 1 rfl) ?_
            refine lv_iload_n hx hb d_Mo_queryRest_89 rfl (lv_at hl 4 rfl) ?_
            refine lv_iconst (v := 2) hx hb d_Mo_queryRest_90 (by decide) ?_
            refine lv_iload hx hb d_Mo_queryRest_91 (lv_at hl 0 rfl) ?_
            refine W.eq (g2 := F0 m 93 ls [.int (nI Qc.R), .int (nI 2), .int (nI Q.R), .ref mo]) rfl ?_
            have hPc := hP.sub (ws' := [(mo, .inr (13, MF 30 (rf (rs v Qs o) js bs))), (Qs.qq, .inl (cI, (8 * Qs.C), .inl Qs.qf))]) [0, 2] rfl
            have hDc := hD.sub (ws' := [(mo, .inr (13, MF 30 (rf (rs v Qs o) js bs))), (Qs.qq, .inl (cI, (8 * Qs.C), .inl Qs.qf))]) [0, 2] (by decide) rfl
            have hKc := hK.sub (tys' := [(cI, .int)]) [1] rfl
            have hFc := va_free (wc := [(mo, .inr (13, MF 30 (rf (rs v Qs o) js bs))), (Qs.qq, .inl (cI, (8 * Qs.C), .inl Qs.qf))]) hD hS hA [0, 2] rfl
            refine va_callv (va_runV (As := [.int (nI Q.R), .int (nI 2), .int (nI Qc.R)]) (rest := []) ⟨hx, hb, hml, hown, hts⟩ (c_Mo_set l dC dI mo H (rf (rs v Qs o) js bs) cI Qs.qq (8 * Qs.C) Qs.qf Q.R 2 ((nI Qc.R)) (by omega) (by omega) ((rf_ne (by decide) (by decide)).trans rs_19)) (cwV 3 hts (gt_V (own := R_Mo) (C := R_Mo) (i := 272) (y := y_Mo_set) i_Mo_set w_1411 w_1413 (gt_sel (y := y_Mo_set) (n := 30) (by decide +kernel)) w_7) rfl rfl rfl (by decide +kernel) ⟨Nat.le_trans (m := 10) (Nat.le_of_ble_eq_true rfl) (Nat.le_add_right 10 F), Nat.le_trans (m := 320) (Nat.le_of_ble_eq_true rfl) (Nat.le_add_right 320 L)⟩) ⟨mp_blind, va_recv hKc hPc (ci := 13) (q0 := 0) rfl rfl, fun U hU hW => ⟨rfl, hU, by rw [hU]; exact hPc, va_K.moved hW.alike hKc, hDc.weaken (fun _ _ _ _ => trivial)⟩⟩ rfl rfl hl.1 rfl (lv_room (Nat.le_of_ble_eq_true rfl)) d_Mo_queryRest_93 ⟨hfit_QsVs.1, hfit_QsVs.2⟩) hS (fun q _ h => hFc q h) hFc (fun _u t9 H1 locs ht hvm hw hB hz1 hk1 hS => ?_)
            obtain ⟨hP1, hK1, hD1⟩ := hB
            rw [ht] at hP1
            obtain ⟨hP, hD⟩ := va_join (wr := [(qx, .inl (cB, NN, .inl f)), (Qs.qe, .inl (cL, (3 * Qs.C), .inr (.inl Qs.ef))), (tv, .inr (12, MF 13 (tw Vs))), (Vs.au, .inl (cC, Vs.U, .inl Vs.un))]) (w1 := [(mo, .inr (13, MF 30 (rf (rs v Qs o) js bs))), (Qs.qq, .inl (cI, (8 * Qs.C), .inl (upd Qs.qf (8 * Q.R + 2) ((nI Qc.R)))))]) hP hD [0, 2] [1, 3, 4, 5] rfl rfl (by decide) (by decide) hk1 hFc hP1 hD1
            generalize H1 = H at hP hS ⊢
            have hP : va_P (dC, dI) classes [(qx, .inl (cB, NN, .inl f)), (Qs.qe, .inl (cL, (3 * Qs.C), .inr (.inl Qs.ef))), (tv, .inr (12, MF 13 (tw Vs))), (Vs.au, .inl (cC, Vs.U, .inl Vs.un)), (mo, .inr (13, MF 30 (rf (rs v Qs o) js bs))), (Qs.qq, .inl (cI, (8 * Qs.C), .inl (upd Qs.qf (8 * Q.R + 2) ((nI Qc.R)))))] H := hP
            have hD : va_D A [(qx, .inl (cB, NN, .inl f)), (Qs.qe, .inl (cL, (3 * Qs.C), .inr (.inl Qs.ef))), (tv, .inr (12, MF 13 (tw Vs))), (Vs.au, .inl (cC, Vs.U, .inl Vs.un)), (mo, .inr (13, MF 30 (rf (rs v Qs o) js bs))), (Qs.qq, .inl (cI, (8 * Qs.C), .inl (upd Qs.qf (8 * Q.R + 2) ((nI Qc.R)))))] := hD
            have hP := hP.sub (ws' := [(mo, .inr (13, MF 30 (rf (rs v Qs o) js bs))), (qx, .inl (cB, NN, .inl f)), (Qs.qq, .inl (cI, (8 * Qs.C), .inl (upd Qs.qf (8 * Q.R + 2) ((nI Qc.R))))), (Qs.qe, .inl (cL, (3 * Qs.C), .inr (.inl Qs.ef))), (tv, .inr (12, MF 13 (tw Vs))), (Vs.au, .inl (cC, Vs.U, .inl Vs.un))]) [4, 0, 5, 1, 2, 3] rfl
            have hD := hD.sub (ws' := [(mo, .inr (13, MF 30 (rf (rs v Qs o) js bs))), (qx, .inl (cB, NN, .inl f)), (Qs.qq, .inl (cI, (8 * Qs.C), .inl (upd Qs.qf (8 * Q.R + 2) ((nI Qc.R))))), (Qs.qe, .inl (cL, (3 * Qs.C), .inr (.inl Qs.ef))), (tv, .inr (12, MF 13 (tw Vs))), (Vs.au, .inl (cC, Vs.U, .inl Vs.un))]) [4, 0, 5, 1, 2, 3] (by decide) rfl
            obtain ⟨Qt, e_Qt⟩ : ∃ z : QS, z = QS.wf Qs (upd Qs.qf (8 * Q.R + 2) ((nI Qc.R))) := ⟨_, rfl⟩
            have hP : va_P (dC, dI) classes [(mo, .inr (13, MF 30 (rf (rs v Qt o) js bs))), (qx, .inl (cB, NN, .inl f)), (Qt.qq, .inl (cI, (8 * Qt.C), .inl Qt.qf)), (Qt.qe, .inl (cL, (3 * Qt.C), .inr (.inl Qt.ef))), (tv, .inr (12, MF 13 (tw Vs))), (Vs.au, .inl (cC, Vs.U, .inl Vs.un))] H := by subst e_Qt; exact hP
            have hD : va_D A [(mo, .inr (13, MF 30 (rf (rs v Qt o) js bs))), (qx, .inl (cB, NN, .inl f)), (Qt.qq, .inl (cI, (8 * Qt.C), .inl Qt.qf)), (Qt.qe, .inl (cL, (3 * Qt.C), .inr (.inl Qt.ef))), (tv, .inr (12, MF 13 (tw Vs))), (Vs.au, .inl (cC, Vs.U, .inl Vs.un))] := by subst e_Qt; exact hD
            have hf_Qt : Qt.C = Qs.C ∧ Qt.R = Qs.R ∧ Qt.qf = upd Qs.qf (8 * Q.R + 2) ((nI Qc.R)) := by rw [e_Qt]; exact ⟨rfl, rfl, rfl⟩
            have he_Qt : Qt.ef = Qs.ef := by rw [e_Qt]; rfl
            have hQk_Qt : QOK Qt := by rw [e_Qt]; exact hQk_Qs
            have hG_QtVs : GQ (Q.R + 8 * (n - i) + 9) (V.us + (n + 12 - i)) Q V Qt Vs := by unfold GQ at hG_QsVs ⊢; rw [hf_Qt.1]; exact hG_QsVs
            refine w_same (fun hq => ?_)
            refine w_tight (k := cQ Q V Qt Vs) (n := sQ Q V Qt Vs) (by unfold cQ sQ at hq ⊢; rw [hf_Qt.1]; exact hq) ?_
            have hR_Qt := hf_Qt.2.1
            have hqb_QtVs : Qt.R ≤ Qt.C ∧ Qt.C ≤ 100000 := ⟨hQk_Qt.2.2.1, hQk_Qt.2.1⟩
            have hfit_QtVs := hG_QtVs.fits
            have hCHt : CHi 3 (SEGp O) Q V Q.R Qt Vs (nI Qc.R) (ac ++ [g1]) := hCH.one (SEGp_fr hOf) SEGp_in (by decide) hb5 hv_3.2.2.1 hv_3.1 hv_3.2.1 hf_Qt.2.2 he_Qt hR_Qt
            have hf1t : Qt.qf (8 * Q.R + 1) = (if rt = true then 1 else 0) := by rw [hf_Qt.2.2, pk_un (by omega), hv_3.2.2.1.1 Q.R 1 (by omega) (by decide) (by omega)]; exact hf1
            have hf3t : Qt.qf (8 * Q.R + 3) = (if (fl && fl1) = true then 1 else 0) := by rw [hf_Qt.2.2, pk_un (by omega)]; exact b_ifs hv_3.2.2.2 hf3
            refine lv_goto (tgt := 108) hx hb d_Mo_queryRest_96 (by decide) ?_
            exact jn108 Qt _ _ _ ⟨hCHt, hf1t, hf3t, hQk_Qt, hG_QtVs, by omega⟩ hP hD hS (lv_sub hl [1, 2, 3, 4, 0] rfl)
          · rw [hb1] at hl hCH
            have hl : lv_has ls 7 [(6, .int (nI Qc.R)), (0, .ref mo), (1, .int rti), (2, .int 1), (3, .int (nI Q.R)), (4, .int (nI a9)), (5, .int (nI j))] := hl
            refine lv_iload hx hb d_Mo_queryRest_83 (lv_at hl 5 rfl) ?_
            refine lv_if_ge (tgt := 99) hx hb d_Mo_queryRest_85 (by decide) (fun _ => ?_) (fun h => absurd (nI_pos' (by omega)) h)
            refine lv_aload_n hx hb d_Mo_queryRest_99 rfl (lv_at hl 1 rfl) ?_
            refine lv_iload hx hb d_Mo_queryRest_100 (lv_at hl 5 rfl) ?_
            refine lv_iconst (v := 3) hx hb d_Mo_queryRest_102 (by decide) ?_
            refine lv_iload hx hb d_Mo_queryRest_103 (lv_at hl 0 rfl) ?_
            refine W.eq (g2 := F0 m 105 ls [.int (nI Qc.R), .int (nI 3), .int (nI a9), .ref mo]) rfl ?_
            have hPc := hP.sub (ws' := [(mo, .inr (13, MF 30 (rf (rs v Qs o) js bs))), (Qs.qq, .inl (cI, (8 * Qs.C), .inl Qs.qf))]) [0, 2] rfl
            have hDc := hD.sub (ws' := [(mo, .inr (13, MF 30 (rf (rs v Qs o) js bs))), (Qs.qq, .inl (cI, (8 * Qs.C), .inl Qs.qf))]) [0, 2] (by decide) rfl
            have hKc := hK.sub (tys' := [(cI, .int)]) [1] rfl
            have hFc := va_free (wc := [(mo, .inr (13, MF 30 (rf (rs v Qs o) js bs))), (Qs.qq, .inl (cI, (8 * Qs.C), .inl Qs.qf))]) hD hS hA [0, 2] rfl
            refine va_callv (va_runV (As := [.int (nI a9), .int (nI 3), .int (nI Qc.R)]) (rest := []) ⟨hx, hb, hml, hown, hts⟩ (c_Mo_set l dC dI mo H (rf (rs v Qs o) js bs) cI Qs.qq (8 * Qs.C) Qs.qf a9 3 ((nI Qc.R)) (by omega) (by omega) ((rf_ne (by decide) (by decide)).trans rs_19)) (cwV 3 hts (gt_V (own := R_Mo) (C := R_Mo) (i := 272) (y := y_Mo_set) i_Mo_set w_1411 w_1413 (gt_sel (y := y_Mo_set) (n := 30) (by decide +kernel)) w_7) rfl rfl rfl (by decide +kernel) ⟨Nat.le_trans (m := 10) (Nat.le_of_ble_eq_true rfl) (Nat.le_add_right 10 F), Nat.le_trans (m := 320) (Nat.le_of_ble_eq_true rfl) (Nat.le_add_right 320 L)⟩) ⟨mp_blind, va_recv hKc hPc (ci := 13) (q0 := 0) rfl rfl, fun U hU hW => ⟨rfl, hU, by rw [hU]; exact hPc, va_K.moved hW.alike hKc, hDc.weaken (fun _ _ _ _ => trivial)⟩⟩ rfl rfl hl.1 rfl (lv_room (Nat.le_of_ble_eq_true rfl)) d_Mo_queryRest_105 ⟨hfit_QsVs.1, hfit_QsVs.2⟩) hS (fun q _ h => hFc q h) hFc (fun _u t9 H1 locs ht hvm hw hB hz1 hk1 hS => ?_)
            obtain ⟨hP1, hK1, hD1⟩ := hB
            rw [ht] at hP1
            obtain ⟨hP, hD⟩ := va_join (wr := [(qx, .inl (cB, NN, .inl f)), (Qs.qe, .inl (cL, (3 * Qs.C), .inr (.inl Qs.ef))), (tv, .inr (12, MF 13 (tw Vs))), (Vs.au, .inl (cC, Vs.U, .inl Vs.un))]) (w1 := [(mo, .inr (13, MF 30 (rf (rs v Qs o) js bs))), (Qs.qq, .inl (cI, (8 * Qs.C), .inl (upd Qs.qf (8 * a9 + 3) ((nI Qc.R)))))]) hP hD [0, 2] [1, 3, 4, 5] rfl rfl (by decide) (by decide) hk1 hFc hP1 hD1
            generalize H1 = H at hP hS ⊢
            have hP : va_P (dC, dI) classes [(qx, .inl (cB, NN, .inl f)), (Qs.qe, .inl (cL, (3 * Qs.C), .inr (.inl Qs.ef))), (tv, .inr (12, MF 13 (tw Vs))), (Vs.au, .inl (cC, Vs.U, .inl Vs.un)), (mo, .inr (13, MF 30 (rf (rs v Qs o) js bs))), (Qs.qq, .inl (cI, (8 * Qs.C), .inl (upd Qs.qf (8 * a9 + 3) ((nI Qc.R)))))] H := hP
            have hD : va_D A [(qx, .inl (cB, NN, .inl f)), (Qs.qe, .inl (cL, (3 * Qs.C), .inr (.inl Qs.ef))), (tv, .inr (12, MF 13 (tw Vs))), (Vs.au, .inl (cC, Vs.U, .inl Vs.un)), (mo, .inr (13, MF 30 (rf (rs v Qs o) js bs))), (Qs.qq, .inl (cI, (8 * Qs.C), .inl (upd Qs.qf (8 * a9 + 3) ((nI Qc.R)))))] := hD
            have hP := hP.sub (ws' := [(mo, .inr (13, MF 30 (rf (rs v Qs o) js bs))), (qx, .inl (cB, NN, .inl f)), (Qs.qq, .inl (cI, (8 * Qs.C), .inl (upd Qs.qf (8 * a9 + 3) ((nI Qc.R))))), (Qs.qe, .inl (cL, (3 * Qs.C), .inr (.inl Qs.ef))), (tv, .inr (12, MF 13 (tw Vs))), (Vs.au, .inl (cC, Vs.U, .inl Vs.un))]) [4, 0, 5, 1, 2, 3] rfl
            have hD := hD.sub (ws' := [(mo, .inr (13, MF 30 (rf (rs v Qs o) js bs))), (qx, .inl (cB, NN, .inl f)), (Qs.qq, .inl (cI, (8 * Qs.C), .inl (upd Qs.qf (8 * a9 + 3) ((nI Qc.R))))), (Qs.qe, .inl (cL, (3 * Qs.C), .inr (.inl Qs.ef))), (tv, .inr (12, MF 13 (tw Vs))), (Vs.au, .inl (cC, Vs.U, .inl Vs.un))]) [4, 0, 5, 1, 2, 3] (by decide) rfl
            obtain ⟨Qt, e_Qt⟩ : ∃ z : QS, z = QS.wf Qs (upd Qs.qf (8 * a9 + 3) ((nI Qc.R))) := ⟨_, rfl⟩
            have hP : va_P (dC, dI) classes [(mo, .inr (13, MF 30 (rf (rs v Qt o) js bs))), (qx, .inl (cB, NN, .inl f)), (Qt.qq, .inl (cI, (8 * Qt.C), .inl Qt.qf)), (Qt.qe, .inl (cL, (3 * Qt.C), .inr (.inl Qt.ef))), (tv, .inr (12, MF 13 (tw Vs))), (Vs.au, .inl (cC, Vs.U, .inl Vs.un))] H := by subst e_Qt; exact hP
            have hD : va_D A [(mo, .inr (13, MF 30 (rf (rs v Qt o) js bs))), (qx, .inl (cB, NN, .inl f)), (Qt.qq, .inl (cI, (8 * Qt.C), .inl Qt.qf)), (Qt.qe, .inl (cL, (3 * Qt.C), .inr (.inl Qt.ef))), (tv, .inr (12, MF 13 (tw Vs))), (Vs.au, .inl (cC, Vs.U, .inl Vs.un))] := by subst e_Qt; exact hD
            have hf_Qt : Qt.C = Qs.C ∧ Qt.R = Qs.R ∧ Qt.qf = upd Qs.qf (8 * a9 + 3) ((nI Qc.R)) := by rw [e_Qt]; exact ⟨rfl, rfl, rfl⟩
            have he_Qt : Qt.ef = Qs.ef := by rw [e_Qt]; rfl
            have hQk_Qt : QOK Qt := by rw [e_Qt]; exact hQk_Qs
            have hG_QtVs : GQ (Q.R + 8 * (n - i) + 9) (V.us + (n + 12 - i)) Q V Qt Vs := by unfold GQ at hG_QsVs ⊢; rw [hf_Qt.1]; exact hG_QsVs
            refine w_same (fun hq => ?_)
            refine w_tight (k := cQ Q V Qt Vs) (n := sQ Q V Qt Vs) (by unfold cQ sQ at hq ⊢; rw [hf_Qt.1]; exact hq) ?_
            have hR_Qt := hf_Qt.2.1
            have hqb_QtVs : Qt.R ≤ Qt.C ∧ Qt.C ≤ 100000 := ⟨hQk_Qt.2.2.1, hQk_Qt.2.1⟩
            have hfit_QtVs := hG_QtVs.fits
            have hCHt : CHi 3 (SEGp O) Q V Q.R Qt Vs (nI Qc.R) (ac ++ [g1]) := hCH.add (SEGp_fr hOf) SEGp_in (by decide) hb2 hb3 (by omega) hv_3.2.2.1 hv_3.1 hv_3.2.1 hf_Qt.2.2 he_Qt hR_Qt
            have hf1t : Qt.qf (8 * Q.R + 1) = (if rt = true then 1 else 0) := by rw [hf_Qt.2.2, pk_un (by omega), hv_3.2.2.1.1 Q.R 1 (by omega) (by decide) (by omega)]; exact hf1
            have hf3t : Qt.qf (8 * Q.R + 3) = (if (fl && fl1) = true then 1 else 0) := by rw [hf_Qt.2.2, pk_un (by omega)]; exact b_ifs hv_3.2.2.2 hf3
            exact jn108 Qt _ _ _ ⟨hCHt, hf1t, hf3t, hQk_Qt, hG_QtVs, by omega⟩ hP hD hS (lv_sub hl [1, 2, 3, 4, 0] rfl)
        · rintro Qz H locs ls hI108 hP hD hS hl
          have hP : va_P (dC, dI) classes [(mo, .inr (13, MF 30 (rf (rs v Qz o) js bs))), (qx, .inl (cB, NN, .inl f)), (Qz.qq, .inl (cI, (8 * Qz.C), .inl Qz.qf)), (Qz.qe, .inl (cL, (3 * Qz.C), .inr (.inl Qz.ef))), (tv, .inr (12, MF 13 (tw Vs))), (Vs.au, .inl (cC, Vs.U, .inl Vs.un))] H := hP
          have hD : va_D A [(mo, .inr (13, MF 30 (rf (rs v Qz o) js bs))), (qx, .inl (cB, NN, .inl f)), (Qz.qq, .inl (cI, (8 * Qz.C), .inl Qz.qf)), (Qz.qe, .inl (cL, (3 * Qz.C), .inr (.inl Qz.ef))), (tv, .inr (12, MF 13 (tw Vs))), (Vs.au, .inl (cC, Vs.U, .inl Vs.un))] := hD
          have hl : lv_has ls 7 [(0, .ref mo), (1, .int rti), (2, .int 1), (3, .int (nI Q.R)), (6, .int (nI Qc.R))] := hl
          obtain ⟨hCHz, hf1z, hf3z, hQk_Qz, hG_QzVs, hR_Qz⟩ := hI108
          have hqb_QzVs : Qz.R ≤ Qz.C ∧ Qz.C ≤ 100000 := ⟨hQk_Qz.2.2.1, hQk_Qz.2.1⟩
          have hfit_QzVs := hG_QzVs.fits
          refine lv_iload hx hb d_Mo_queryRest_108 (lv_at hl 4 rfl) ?_
          refine lv_istore (lv' := [(4, .int (nI Qc.R)), (0, .ref mo), (1, .int rti), (2, .int 1), (3, .int (nI Q.R)), (6, .int (nI Qc.R))]) hx hb d_Mo_queryRest_110 hl (by decide) rfl (fun ls hl => ?_)
          refine lv_goto (tgt := 32) hx hb d_Mo_queryRest_112 (by decide) ?_
          refine w_same (fun hq => ?_)
          refine W.widen (k := kcap Q (Q.R + 8 * (n - i) + 9) + qcap V (V.us + (n + 12 - i))) (n := 22 * kcap Q (Q.R + 8 * (n - i) + 9) + 2 * qcap V (V.us + (n + 12 - i))) hfit_QzVs.1 hfit_QzVs.2 ?_
          have hst : qrL f n ok (orL f n) true m0 js (fl && fl1) (ac ++ [g1]) = qrL f n ok (orL f n) true (n + 1) i true [] := by rw [← hI6, hm0]; exact (qrL_s hI68 hv_2).symm
          exact ih (Qz, Vs, m0, js, bs, nI Qc.R, fl && fl1, ac ++ [g1]) _ _ _ ⟨hCHz, hf1z, hf3z, hQk_Qz, hTk_Vs, hG_QzVs, ⟨_, hXc.trans hX_Vs⟩, by omega, by omega, by omega, by omega, by omega, hst, hq⟩ (by show n + 1 - js < n + 1 - j; omega) hP hD hS (lv_sub hl [1, 2, 3, 4, 0] rfl)
      · have hv_2 : sgP f n ok (orL f n) true (skipH f n j) = none := hv_2
        subst hv_1
        refine lv_istore (lv' := [(6, .int (-1)), (0, .ref mo), (1, .int rti), (2, .int 1), (3, .int (nI Q.R)), (4, .int bf), (5, .int (nI j))]) hx hb d_Mo_queryRest_74 hl (by decide) rfl (fun ls hl => ?_)
        refine lv_iload hx hb d_Mo_queryRest_76 (lv_at hl 0 rfl) ?_
        refine lv_if_ge (tgt := 83) hx hb d_Mo_queryRest_78 (by decide) (fun h => absurd h (by decide)) (fun _ => ?_)
        refine lv_iconst (v := (-1)) hx hb d_Mo_queryRest_81 (by decide) ?_
        have hfin : qrP f n ok (orL f n) true rt i = none := by rw [hqr0, ← hI6, hm0, qrL_n hI68 hv_2]; rfl
        refine w_same (fun hq => ?_)
        refine W.widen (k := kcap Q (Q.R + 8 * (n - i) + 9) + qcap V (V.us + (n + 12 - i))) (n := 22 * kcap Q (Q.R + 8 * (n - i) + 9) + 2 * qcap V (V.us + (n + 12 - i))) hfit_QsVs.1 hfit_QsVs.2 ?_
        have hPo : QPo n i 9 Q V (Qs, Vs, js, bs, os) := ⟨hQk_Qs, hG_QsVs, ⟨_, (hXc.trans hX_Vs), by rw [List.length_append]; omega⟩, by show Q.R ≤ Qs.R; omega, by show Qs.R ≤ Q.R + 8 * (n - i) + 9; omega⟩
        exact W.iret (v := -1) hx hb hr (fun t9 ht hW => ⟨⟨-1, (Qs, Vs, js, bs, os), rfl, ⟨hPo, Or.inr ⟨rfl, hfin⟩⟩, ⟨by rw [ht]; exact hP, va_K.moved hW.alike hK, hD⟩, by rw [ht]; exact hq⟩, hS.F ht⟩) hS.2.2 d_Mo_queryRest_82
