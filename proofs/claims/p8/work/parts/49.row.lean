theorem w_1109 : (.fieldLink "QueryBenchModel" 52 "QueryBenchModel" "ends" "[J" : Cond) ∈ gtbl := gt_in 1109 (by decide +kernel) (by decide +kernel)
theorem w_1110 : (.fieldLink "QueryBenchModel" 263 "QueryBenchModel" "rows" "I" : Cond) ∈ gtbl := gt_in 1110 (by decide +kernel) (by decide +kernel)
/-- the rows of a query: room for how many, how many, where they lie, what they hold -/
def QS : Type := Nat × Nat × Nat × Nat × (Nat → Int32) × (Nat → Int64)
def QS.C (Q : QS) : Nat := Q.1
def QS.R (Q : QS) : Nat := Q.2.1
def QS.qq (Q : QS) : Nat := Q.2.2.1
def QS.qe (Q : QS) : Nat := Q.2.2.2.1
def QS.qf (Q : QS) : (Nat → Int32) := Q.2.2.2.2.1
def QS.ef (Q : QS) : (Nat → Int64) := Q.2.2.2.2.2
def QS.mk (C : Nat) (R : Nat) (qq : Nat) (qe : Nat) (qf : (Nat → Int32)) (ef : (Nat → Int64)) : QS := (C, R, qq, qe, qf, ef)
/-- the reference with these rows, so many brackets open -/
def rs (v : Nat → Value) (Q : QS) (o : Nat) : Nat → Value := va_up (va_up (va_up (va_up v 19 (.ref Q.qq)) 20 (.ref Q.qe)) 21 (.int (nI Q.R))) 23 (.int (nI o))
theorem rs_19 {v : Nat → Value} {Q : QS} {o : Nat} : rs v Q o 19 = .ref Q.qq := by unfold rs; rw [va_up_ne _ _ (by decide), va_up_ne _ _ (by decide), va_up_ne _ _ (by decide), va_up_self]
theorem rs_20 {v : Nat → Value} {Q : QS} {o : Nat} : rs v Q o 20 = .ref Q.qe := by unfold rs; rw [va_up_ne _ _ (by decide), va_up_ne _ _ (by decide), va_up_self]
theorem rs_21 {v : Nat → Value} {Q : QS} {o : Nat} : rs v Q o 21 = .int (nI Q.R) := by unfold rs; rw [va_up_ne _ _ (by decide), va_up_self]
theorem rs_23 {v : Nat → Value} {Q : QS} {o : Nat} : rs v Q o 23 = .int (nI o) := by unfold rs; rw [va_up_self]
theorem rs_ne {v : Nat → Value} {Q : QS} {o j : Nat} (h1 : j ≠ 19) (h2 : j ≠ 20) (h3 : j ≠ 21) (h4 : j ≠ 23) : rs v Q o j = v j := by unfold rs; rw [va_up_ne _ _ h4, va_up_ne _ _ h3, va_up_ne _ _ h2, va_up_ne _ _ h1]
theorem rs_row {v : Nat → Value} {Q Q2 : QS} {o i a c r : Nat} {b : Int32} (h1 : Q2.qq = a) (h2 : Q2.qe = c) (h3 : Q2.R = r) : va_up (va_up (va_up (rf (rs v Q o) i b) 19 (.ref a)) 20 (.ref c)) 21 (.int (nI r)) = rf (rs v Q2 o) i b := by
  funext k
  unfold rf rs va_up
  subst h1
  subst h2
  subst h3
  by_cases e1 : k = 21
  · subst e1; simp
  · by_cases e2 : k = 20
    · subst e2; simp
    · by_cases e3 : k = 19
      · subst e3; simp
      · simp [e1, e2, e3]
theorem rs_r21 {v : Nat → Value} {Q Q2 : QS} {o i r : Nat} {b : Int32} (h1 : Q2.qq = Q.qq) (h2 : Q2.qe = Q.qe) (h3 : Q2.R = r) : va_up (rf (rs v Q o) i b) 21 (.int (nI r)) = rf (rs v Q2 o) i b := by
  funext k
  unfold rf rs va_up
  subst h3
  rw [h1, h2]
  by_cases e1 : k = 21
  · subst e1; simp
  · simp [e1]
theorem rs_o {v : Nat → Value} {Q : QS} {o o2 i : Nat} {b : Int32} : va_up (rf (rs v Q o) i b) 23 (.int (nI o2)) = rf (rs v Q o2) i b := by
  funext k
  unfold rf rs va_up
  by_cases e1 : k = 23
  · subst e1; simp
  · simp [e1]
def QOK (Q : QS) : Prop := 16 ≤ Q.C ∧ Q.C ≤ 100000 ∧ Q.R ≤ Q.C ∧ ∀ j, gL (Q.ef j)
def rwC (Q : QS) : Nat := if Q.R = Q.C then 2 else 0
def rwS (Q : QS) : Nat := if Q.R = Q.C then 22 * Q.C else 0
/-- Q2 is Q and one more row -/
def QAd (Q Q2 : QS) (k : Int32) : Prop := (Q2.C = if Q.R = Q.C then 2 * Q.C else Q.C) ∧ Q2.R = Q.R + 1 ∧ (∀ j, j < 8 * Q.R → Q2.qf j = Q.qf j) ∧ ((∀ j, Q2.ef j = Q.ef j ∨ Q2.ef j = 0) ∧ ∀ j, j < 3 * Q.R → Q2.ef j = Q.ef j) ∧ Q2.qf (8 * Q.R) = k ∧ ∀ j, 0 < j → j < 8 → Q2.qf (8 * Q.R + j) = -1
/-- the first j fields of row R are -1 -/
def m1F (f : Nat → Int32) (b : Nat) (j : Nat) : Nat → Int32 := fun i => if b ≤ i ∧ i < b + j then -1 else f i
theorem m1F_0 (f : Nat → Int32) (b : Nat) : m1F f b 0 = f := by funext i; unfold m1F; rw [if_neg (by omega)]
theorem m1F_s (f : Nat → Int32) (b j : Nat) : upd (m1F f b j) (b + j) (-1) = m1F f b (j + 1) := by
  funext i
  by_cases h : i = b + j
  · subst h; rw [pk_us]; unfold m1F; rw [if_pos (by omega)]
  · rw [pk_un h]
    unfold m1F
    by_cases h2 : b ≤ i ∧ i < b + j
    · rw [if_pos h2, if_pos (by omega)]
    · rw [if_neg h2, if_neg (by omega)]
abbrev b_Mo_row : ByteArray := prog_14_method_33_code
def y_Mo_row : MethodName := ⟨"QueryBenchModel", "row", "(I)I"⟩
abbrev k_Mo_row : Cond := .code y_Mo_row b_Mo_row 5 (some .int)
theorem i_Mo_row : k_Mo_row ∈ gtbl := gt_in 1410 (by decide +kernel) (by decide +kernel)
theorem d_Mo_row_0 : decode b_Mo_row 0 = .ok (.bipush 8, 2) := by decide +kernel
theorem d_Mo_row_2 : decode b_Mo_row 2 = .ok (.aload_n 0, 1) := by decide +kernel
theorem d_Mo_row_3 : decode b_Mo_row 3 = .ok (.getfield 263, 3) := by decide +kernel
theorem d_Mo_row_6 : decode b_Mo_row 6 = .ok (.imul, 1) := by decide +kernel
theorem d_Mo_row_7 : decode b_Mo_row 7 = .ok (.aload_n 0, 1) := by decide +kernel
theorem d_Mo_row_8 : decode b_Mo_row 8 = .ok (.getfield 49, 3) := by decide +kernel
theorem d_Mo_row_11 : decode b_Mo_row 11 = .ok (.arraylength, 1) := by decide +kernel
theorem d_Mo_row_12 : decode b_Mo_row 12 = .ok (.if_icmp .ne 89, 3) := by decide +kernel
theorem d_Mo_row_15 : decode b_Mo_row 15 = .ok (.iconst 2, 1) := by decide +kernel
theorem d_Mo_row_16 : decode b_Mo_row 16 = .ok (.aload_n 0, 1) := by decide +kernel
theorem d_Mo_row_17 : decode b_Mo_row 17 = .ok (.getfield 49, 3) := by decide +kernel
theorem d_Mo_row_20 : decode b_Mo_row 20 = .ok (.arraylength, 1) := by decide +kernel
theorem d_Mo_row_21 : decode b_Mo_row 21 = .ok (.imul, 1) := by decide +kernel
theorem d_Mo_row_22 : decode b_Mo_row 22 = .ok (.newarray .int, 2) := by decide +kernel
theorem d_Mo_row_24 : decode b_Mo_row 24 = .ok (.astore_n 2, 1) := by decide +kernel
theorem d_Mo_row_25 : decode b_Mo_row 25 = .ok (.iconst 0, 1) := by decide +kernel
theorem d_Mo_row_26 : decode b_Mo_row 26 = .ok (.istore_n 3, 1) := by decide +kernel
theorem d_Mo_row_27 : decode b_Mo_row 27 = .ok (.iload_n 3, 1) := by decide +kernel
theorem d_Mo_row_28 : decode b_Mo_row 28 = .ok (.aload_n 0, 1) := by decide +kernel
theorem d_Mo_row_29 : decode b_Mo_row 29 = .ok (.getfield 49, 3) := by decide +kernel
theorem d_Mo_row_32 : decode b_Mo_row 32 = .ok (.arraylength, 1) := by decide +kernel
theorem d_Mo_row_33 : decode b_Mo_row 33 = .ok (.if_icmp .ge 18, 3) := by decide +kernel
theorem d_Mo_row_36 : decode b_Mo_row 36 = .ok (.aload_n 2, 1) := by decide +kernel
theorem d_Mo_row_37 : decode b_Mo_row 37 = .ok (.iload_n 3, 1) := by decide +kernel
theorem d_Mo_row_38 : decode b_Mo_row 38 = .ok (.aload_n 0, 1) := by decide +kernel
theorem d_Mo_row_39 : decode b_Mo_row 39 = .ok (.getfield 49, 3) := by decide +kernel
theorem d_Mo_row_42 : decode b_Mo_row 42 = .ok (.iload_n 3, 1) := by decide +kernel
theorem d_Mo_row_43 : decode b_Mo_row 43 = .ok (.iaload, 1) := by decide +kernel
theorem d_Mo_row_44 : decode b_Mo_row 44 = .ok (.iastore, 1) := by decide +kernel
theorem d_Mo_row_45 : decode b_Mo_row 45 = .ok (.iinc 3 1, 3) := by decide +kernel
theorem d_Mo_row_48 : decode b_Mo_row 48 = .ok (.goto (-21), 3) := by decide +kernel
theorem d_Mo_row_51 : decode b_Mo_row 51 = .ok (.aload_n 0, 1) := by decide +kernel
theorem d_Mo_row_52 : decode b_Mo_row 52 = .ok (.aload_n 2, 1) := by decide +kernel
theorem d_Mo_row_53 : decode b_Mo_row 53 = .ok (.putfield 49, 3) := by decide +kernel
theorem d_Mo_row_56 : decode b_Mo_row 56 = .ok (.iconst 2, 1) := by decide +kernel
theorem d_Mo_row_57 : decode b_Mo_row 57 = .ok (.aload_n 0, 1) := by decide +kernel
theorem d_Mo_row_58 : decode b_Mo_row 58 = .ok (.getfield 52, 3) := by decide +kernel
theorem d_Mo_row_61 : decode b_Mo_row 61 = .ok (.arraylength, 1) := by decide +kernel
theorem d_Mo_row_62 : decode b_Mo_row 62 = .ok (.imul, 1) := by decide +kernel
theorem d_Mo_row_63 : decode b_Mo_row 63 = .ok (.newarray .long, 2) := by decide +kernel
theorem d_Mo_row_65 : decode b_Mo_row 65 = .ok (.astore_n 3, 1) := by decide +kernel
theorem d_Mo_row_66 : decode b_Mo_row 66 = .ok (.iconst 0, 1) := by decide +kernel
theorem d_Mo_row_67 : decode b_Mo_row 67 = .ok (.istore 4, 2) := by decide +kernel
theorem d_Mo_row_69 : decode b_Mo_row 69 = .ok (.iload 4, 2) := by decide +kernel
theorem d_Mo_row_71 : decode b_Mo_row 71 = .ok (.aload_n 0, 1) := by decide +kernel
theorem d_Mo_row_72 : decode b_Mo_row 72 = .ok (.getfield 52, 3) := by decide +kernel
theorem d_Mo_row_75 : decode b_Mo_row 75 = .ok (.arraylength, 1) := by decide +kernel
theorem d_Mo_row_76 : decode b_Mo_row 76 = .ok (.if_icmp .ge 20, 3) := by decide +kernel
theorem d_Mo_row_79 : decode b_Mo_row 79 = .ok (.aload_n 3, 1) := by decide +kernel
theorem d_Mo_row_80 : decode b_Mo_row 80 = .ok (.iload 4, 2) := by decide +kernel
theorem d_Mo_row_82 : decode b_Mo_row 82 = .ok (.aload_n 0, 1) := by decide +kernel
theorem d_Mo_row_83 : decode b_Mo_row 83 = .ok (.getfield 52, 3) := by decide +kernel
theorem d_Mo_row_86 : decode b_Mo_row 86 = .ok (.iload 4, 2) := by decide +kernel
theorem d_Mo_row_88 : decode b_Mo_row 88 = .ok (.laload, 1) := by decide +kernel
theorem d_Mo_row_89 : decode b_Mo_row 89 = .ok (.lastore, 1) := by decide +kernel
theorem d_Mo_row_90 : decode b_Mo_row 90 = .ok (.iinc 4 1, 3) := by decide +kernel
theorem d_Mo_row_93 : decode b_Mo_row 93 = .ok (.goto (-24), 3) := by decide +kernel
theorem d_Mo_row_96 : decode b_Mo_row 96 = .ok (.aload_n 0, 1) := by decide +kernel
theorem d_Mo_row_97 : decode b_Mo_row 97 = .ok (.aload_n 3, 1) := by decide +kernel
theorem d_Mo_row_98 : decode b_Mo_row 98 = .ok (.putfield 52, 3) := by decide +kernel
theorem d_Mo_row_101 : decode b_Mo_row 101 = .ok (.iconst 0, 1) := by decide +kernel
theorem d_Mo_row_102 : decode b_Mo_row 102 = .ok (.istore_n 2, 1) := by decide +kernel
theorem d_Mo_row_103 : decode b_Mo_row 103 = .ok (.iload_n 2, 1) := by decide +kernel
theorem d_Mo_row_104 : decode b_Mo_row 104 = .ok (.bipush 8, 2) := by decide +kernel
theorem d_Mo_row_106 : decode b_Mo_row 106 = .ok (.if_icmp .ge 24, 3) := by decide +kernel
theorem d_Mo_row_109 : decode b_Mo_row 109 = .ok (.aload_n 0, 1) := by decide +kernel
theorem d_Mo_row_110 : decode b_Mo_row 110 = .ok (.getfield 49, 3) := by decide +kernel
theorem d_Mo_row_113 : decode b_Mo_row 113 = .ok (.bipush 8, 2) := by decide +kernel
theorem d_Mo_row_115 : decode b_Mo_row 115 = .ok (.aload_n 0, 1) := by decide +kernel
theorem d_Mo_row_116 : decode b_Mo_row 116 = .ok (.getfield 263, 3) := by decide +kernel
theorem d_Mo_row_119 : decode b_Mo_row 119 = .ok (.imul, 1) := by decide +kernel
theorem d_Mo_row_120 : decode b_Mo_row 120 = .ok (.iload_n 2, 1) := by decide +kernel
theorem d_Mo_row_121 : decode b_Mo_row 121 = .ok (.iadd, 1) := by decide +kernel
theorem d_Mo_row_122 : decode b_Mo_row 122 = .ok (.iconst (-1), 1) := by decide +kernel
theorem d_Mo_row_123 : decode b_Mo_row 123 = .ok (.iastore, 1) := by decide +kernel
theorem d_Mo_row_124 : decode b_Mo_row 124 = .ok (.iinc 2 1, 3) := by decide +kernel
theorem d_Mo_row_127 : decode b_Mo_row 127 = .ok (.goto (-24), 3) := by decide +kernel
theorem d_Mo_row_130 : decode b_Mo_row 130 = .ok (.aload_n 0, 1) := by decide +kernel
theorem d_Mo_row_131 : decode b_Mo_row 131 = .ok (.getfield 49, 3) := by decide +kernel
theorem d_Mo_row_134 : decode b_Mo_row 134 = .ok (.bipush 8, 2) := by decide +kernel
theorem d_Mo_row_136 : decode b_Mo_row 136 = .ok (.aload_n 0, 1) := by decide +kernel
theorem d_Mo_row_137 : decode b_Mo_row 137 = .ok (.getfield 263, 3) := by decide +kernel
theorem d_Mo_row_140 : decode b_Mo_row 140 = .ok (.imul, 1) := by decide +kernel
theorem d_Mo_row_141 : decode b_Mo_row 141 = .ok (.iload_n 1, 1) := by decide +kernel
theorem d_Mo_row_142 : decode b_Mo_row 142 = .ok (.iastore, 1) := by decide +kernel
theorem d_Mo_row_143 : decode b_Mo_row 143 = .ok (.aload_n 0, 1) := by decide +kernel
theorem d_Mo_row_144 : decode b_Mo_row 144 = .ok (.dup, 1) := by decide +kernel
theorem d_Mo_row_145 : decode b_Mo_row 145 = .ok (.getfield 263, 3) := by decide +kernel
theorem d_Mo_row_148 : decode b_Mo_row 148 = .ok (.iconst 1, 1) := by decide +kernel
theorem d_Mo_row_149 : decode b_Mo_row 149 = .ok (.iadd, 1) := by decide +kernel
theorem d_Mo_row_150 : decode b_Mo_row 150 = .ok (.putfield 263, 3) := by decide +kernel
theorem d_Mo_row_153 : decode b_Mo_row 153 = .ok (.aload_n 0, 1) := by decide +kernel
theorem d_Mo_row_154 : decode b_Mo_row 154 = .ok (.getfield 263, 3) := by decide +kernel
theorem d_Mo_row_157 : decode b_Mo_row 157 = .ok (.iconst 1, 1) := by decide +kernel
theorem d_Mo_row_158 : decode b_Mo_row 158 = .ok (.isub, 1) := by decide +kernel
theorem d_Mo_row_159 : decode b_Mo_row 159 = .ok (.ireturn, 1) := by decide +kernel
theorem cap2 {D : va_G} {cl : List vw_C} {H : Heap} {x0 : Nat × va_E} {a b C : Nat} {cI cL : ClassId} {f : Nat → Int32} {g : Nat → Int64} (h : va_P D cl [x0, (a, .inl (cI, (2 * (8 * C)), .inl f)), (b, .inl (cL, (2 * (3 * C)), .inr (.inl g)))] H) : va_P D cl [x0, (a, .inl (cI, (8 * (2 * C)), .inl f)), (b, .inl (cL, (3 * (2 * C)), .inr (.inl g)))] H := by
  rw [show 8 * (2 * C) = 2 * (8 * C) by omega, show 3 * (2 * C) = 2 * (3 * C) by omega]; exact h
theorem cap2D {A : Nat → Prop} {x0 : Nat × va_E} {a b C : Nat} {cI cL : ClassId} {f : Nat → Int32} {g : Nat → Int64} (h : va_D A [x0, (a, .inl (cI, (2 * (8 * C)), .inl f)), (b, .inl (cL, (2 * (3 * C)), .inr (.inl g)))]) : va_D A [x0, (a, .inl (cI, (8 * (2 * C)), .inl f)), (b, .inl (cL, (3 * (2 * C)), .inr (.inl g)))] := by
  rw [show 8 * (2 * C) = 2 * (8 * C) by omega, show 3 * (2 * C) = 2 * (3 * C) by omega]; exact h
set_option maxHeartbeats 4000000 in
set_option maxRecDepth 100000 in
/-- the reference: row -/
theorem c_Mo_row (l : Launch) (dC : Nat → ClassId) (dI : Nat → Nat → Nat) (mo : Nat) (sz : Heap) (v : Nat → Value) (cI cL : ClassId) (Q : QS) (o i : Nat) (br x : Int32) (hQ : QOK Q) : Met l y_Mo_row (k_Mo_row :: gtbl) ({ frames := 0, cells := rwC Q, slots := rwS Q, locals := 0 }) (va_Pc [.ref mo, .int x] (mp dC dI [(mo, .inr (13, MF 30 (rf (rs v Q o) i br))), (Q.qq, .inl (cI, (8 * Q.C), .inl Q.qf)), (Q.qe, .inl (cL, (3 * Q.C), .inr (.inl Q.ef)))] [(cI, .int), (cL, .long)] sz)) (va_Qi (fun (r : Int32) (Q2 : QS) => r = nI Q.R ∧ QAd Q Q2 x) (fun Q2 t9 => mz dC dI [(mo, .inr (13, MF 30 (rf (rs v Q2 o) i br))), (Q2.qq, .inl (cI, (8 * Q2.C), .inl Q2.qf)), (Q2.qe, .inl (cL, (3 * Q2.C), .inr (.inl Q2.ef)))] [(cI, .int), (cL, .long)] (va_A [(mo, .inr (13, MF 30 (rf (rs v Q o) i br))), (Q.qq, .inl (cI, (8 * Q.C), .inl Q.qf)), (Q.qe, .inl (cL, (3 * Q.C), .inr (.inl Q.ef)))] sz.size) t9 ∧ szk sz t9.heap (rwC Q) (rwS Q)) (va_A [(mo, .inr (13, MF 30 (rf (rs v Q o) i br))), (Q.qq, .inl (cI, (8 * Q.C), .inl Q.qf)), (Q.qe, .inl (cL, (3 * Q.C), .inr (.inl Q.ef)))] sz.size)) (rwC Q) (rwS Q) (va_A [(mo, .inr (13, MF 30 (rf (rs v Q o) i br))), (Q.qq, .inl (cI, (8 * Q.C), .inl Q.qf)), (Q.qe, .inl (cL, (3 * Q.C), .inr (.inl Q.ef)))] sz.size) := by
  refine Met.ofW (cc := b_Mo_row) (maxL := 5) (ret := (some .int)) (by decide) rfl ?_
  intro p e s m args below meth c s₁ B hml hv
  obtain ⟨rfl, hsz, hP, hK, hD0⟩ := hv
  have hx := B.exec
  have hb := B.bytes
  have hr := B.returns
  have hts0 := atoms_spec (ws := k_Mo_row :: gtbl) B.pre
  have hts := fun w h => hts0 w (List.mem_cons_of_mem _ h)
  have hown : s.vm.findClass R_Mo = some m.cls := findClass_of_methodNamed B.named
  have hlocks := B.notSynchronized
  subst hsz
  have hD := hD0.self (sz := s.heap.size)
  generalize hAe : va_A [(mo, .inr (13, MF 30 (rf (rs v Q o) i br))), (Q.qq, .inl (cI, (8 * Q.C), .inl Q.qf)), (Q.qe, .inl (cL, (3 * Q.C), .inr (.inl Q.ef)))] s.heap.size = A at hD ⊢
  have hA : ∀ q : Nat, s.heap.size ≤ q → A q := fun q h => by rw [← hAe]; exact Or.inr h
  have hS : va_S A s.heap s.heap [] := va_S.rf
  have hP : va_P (dC, dI) classes [(mo, .inr (13, MF 30 (rf (rs v Q o) i br))), (Q.qq, .inl (cI, (8 * Q.C), .inl Q.qf)), (Q.qe, .inl (cL, (3 * Q.C), .inr (.inl Q.ef)))] s.heap := hP
  have hl := lv_entry ([.ref mo, .int x]) (n := 5) (Nat.le_of_ble_eq_true rfl)
  rw [lg_entry_eq]
  generalize (lg_sl ([.ref mo, .int x]) ++ List.replicate (5 - (lg_sl ([.ref mo, .int x])).length) Slot.unset).toArray = ls at hl ⊢
  have hl : lv_has ls 5 [(0, .ref mo), (1, .int x)] := hl
  obtain ⟨ho1, ho2, ho3, ho4⟩ := hQ
  refine lv_bipush (v := 8) hx hb d_Mo_row_0 (by decide) ?_
  refine lv_aload_n hx hb d_Mo_row_2 rfl (lv_at hl 0 rfl) ?_
  refine va_get (D := (dC, dI)) (ci := 13) (v := .int (nI Q.R)) (C := R_Mo) (T := F_Mo) (N := 30) hx hb hts in_Mo hown hK hP 0 rfl rfl 21 (by decide) (hts _ w_1110) (fun _ h9 => h9) (MFg (by decide) ((rf_ne (by decide) (by decide)).trans rs_21)) d_Mo_row_3 ?_
  refine lv_imul hx hb d_Mo_row_6 ?_
  refine W.eq (g2 := F0 m 7 ls [.int (nI (8 * Q.R))]) (by rw [show (8 * (nI Q.R)) = (nI (8 * Q.R)) from (by rw [show (8 : Int32) = nI 8 from rfl, pk_mul])]) ?_
  refine lv_aload_n hx hb d_Mo_row_7 rfl (lv_at hl 0 rfl) ?_
  refine va_get (D := (dC, dI)) (ci := 13) (v := .ref Q.qq) (C := R_Mo) (T := F_Mo) (N := 30) hx hb hts in_Mo hown hK hP 0 rfl rfl 19 (by decide) (hts _ w_1108) (fun _ h9 => h9) (MFg (by decide) ((rf_ne (by decide) (by decide)).trans rs_19)) d_Mo_row_8 ?_
  refine va_alen (v := nI (8 * Q.C)) hx hb hK hP 1 0 rfl rfl rfl d_Mo_row_11 ?_
  refine lv_icmp_ne (tgt := 101) hx hb d_Mo_row_12 (by decide) (fun c12 => ?_) (fun c12 => ?_)
  · have hkU : ¬ Q.R = Q.C := fun h => c12 (by rw [h])
    refine lv_iconst (v := 0) hx hb d_Mo_row_101 (by decide) ?_
    refine lv_istore_n (lv' := [(2, .int 0), (0, .ref mo), (1, .int x)]) hx hb d_Mo_row_102 rfl hl (by decide) rfl (fun ls hl => ?_)
    have em : Q.qf = m1F Q.qf (8 * Q.R) 0 := (m1F_0 _ _).symm
    have hP : va_P (dC, dI) classes [(mo, .inr (13, MF 30 (rf (rs v Q o) i br))), (Q.qq, .inl (cI, (8 * Q.C), .inl (m1F Q.qf (8 * Q.R) 0))), (Q.qe, .inl (cL, (3 * Q.C), .inr (.inl Q.ef)))] s.heap := by rw [← em]; exact hP
    have hD : va_D A [(mo, .inr (13, MF 30 (rf (rs v Q o) i br))), (Q.qq, .inl (cI, (8 * Q.C), .inl (m1F Q.qf (8 * Q.R) 0))), (Q.qe, .inl (cL, (3 * Q.C), .inr (.inl Q.ef)))] := by rw [← em]; exact hD
    refine w_loop (D := (dC, dI)) (cl := classes) (A := A) (H0 := s.heap) (nL := 5) 103 (σ := Nat) (fun j => j ≤ 8) (fun j => 8 - j) (fun j => [(mo, .inr (13, MF 30 (rf (rs v Q o) i br))), (Q.qq, .inl (cI, (8 * Q.C), .inl (m1F (Q.qf) (8 * Q.R) j))), (Q.qe, .inl (cL, (3 * Q.C), .inr (.inl Q.ef)))]) (fun j => [(0, .ref mo), (1, .int x), (2, .int (nI j))]) ?_ 0 (Nat.zero_le _) hP hD hS (lv_sub hl [1, 2, 0] rfl)
    rintro j H locs ls hI ih hP hD hS hl
    have hP : va_P (dC, dI) classes [(mo, .inr (13, MF 30 (rf (rs v Q o) i br))), (Q.qq, .inl (cI, (8 * Q.C), .inl (m1F (Q.qf) (8 * Q.R) j))), (Q.qe, .inl (cL, (3 * Q.C), .inr (.inl Q.ef)))] H := hP
    have hD : va_D A [(mo, .inr (13, MF 30 (rf (rs v Q o) i br))), (Q.qq, .inl (cI, (8 * Q.C), .inl (m1F (Q.qf) (8 * Q.R) j))), (Q.qe, .inl (cL, (3 * Q.C), .inr (.inl Q.ef)))] := hD
    have hl : lv_has ls 5 [(0, .ref mo), (1, .int x), (2, .int (nI j))] := hl
    refine lv_iload_n hx hb d_Mo_row_103 rfl (lv_at hl 2 rfl) ?_
    refine lv_bipush (v := 8) hx hb d_Mo_row_104 (by decide) ?_
    refine lv_icmp_ge (tgt := 130) hx hb d_Mo_row_106 (by decide) (fun c106 => ?_) (fun c106 => ?_)
    · have hj8 : j = 8 := by rw [show (8 : Int32) = nI 8 from rfl, nI_leI (by omega) (by omega)] at c106; omega
      rw [hj8] at hP hD
      have hP : va_P (dC, dI) classes [(mo, .inr (13, MF 30 (rf (rs v Q o) i br))), (Q.qq, .inl (cI, (8 * Q.C), .inl (m1F (Q.qf) (8 * Q.R) 8))), (Q.qe, .inl (cL, (3 * Q.C), .inr (.inl Q.ef)))] H := hP
      have hD : va_D A [(mo, .inr (13, MF 30 (rf (rs v Q o) i br))), (Q.qq, .inl (cI, (8 * Q.C), .inl (m1F (Q.qf) (8 * Q.R) 8))), (Q.qe, .inl (cL, (3 * Q.C), .inr (.inl Q.ef)))] := hD
      refine lv_aload_n hx hb d_Mo_row_130 rfl (lv_at hl 0 rfl) ?_
      refine va_get (D := (dC, dI)) (ci := 13) (v := .ref Q.qq) (C := R_Mo) (T := F_Mo) (N := 30) hx hb hts in_Mo hown hK hP 0 rfl rfl 19 (by decide) (hts _ w_1108) (fun _ h9 => h9) (MFg (by decide) ((rf_ne (by decide) (by decide)).trans rs_19)) d_Mo_row_131 ?_
      refine lv_bipush (v := 8) hx hb d_Mo_row_134 (by decide) ?_
      refine lv_aload_n hx hb d_Mo_row_136 rfl (lv_at hl 0 rfl) ?_
      refine va_get (D := (dC, dI)) (ci := 13) (v := .int (nI Q.R)) (C := R_Mo) (T := F_Mo) (N := 30) hx hb hts in_Mo hown hK hP 0 rfl rfl 21 (by decide) (hts _ w_1110) (fun _ h9 => h9) (MFg (by decide) ((rf_ne (by decide) (by decide)).trans rs_21)) d_Mo_row_137 ?_
      refine lv_imul hx hb d_Mo_row_140 ?_
      refine W.eq (g2 := F0 m 141 ls [.int (nI (8 * Q.R)), .ref Q.qq]) (by rw [show (8 * (nI Q.R)) = (nI (8 * Q.R)) from (by rw [show (8 : Int32) = nI 8 from rfl, pk_mul])]) ?_
      refine lv_iload_n hx hb d_Mo_row_141 rfl (lv_at hl 1 rfl) ?_
      refine va_iast hx hb hK hP hD hS 1 0 rfl rfl (vp_in_nI (show 8 * Q.R < 8 * Q.C by omega) (by omega)) d_Mo_row_142 (fun H locs hP hD hS => ?_)
      rw [show (nI (8 * Q.R)).toNatClampNeg = 8 * Q.R from nI_clamp (by omega)] at hP hD
      have hP : va_P (dC, dI) classes [(mo, .inr (13, MF 30 (rf (rs v Q o) i br))), (Q.qq, .inl (cI, (8 * Q.C), .inl (upd (m1F (Q.qf) (8 * Q.R) 8) (8 * Q.R) x))), (Q.qe, .inl (cL, (3 * Q.C), .inr (.inl Q.ef)))] H := hP
      have hD : va_D A [(mo, .inr (13, MF 30 (rf (rs v Q o) i br))), (Q.qq, .inl (cI, (8 * Q.C), .inl (upd (m1F (Q.qf) (8 * Q.R) 8) (8 * Q.R) x))), (Q.qe, .inl (cL, (3 * Q.C), .inr (.inl Q.ef)))] := hD
      refine lv_aload_n hx hb d_Mo_row_143 rfl (lv_at hl 0 rfl) ?_
      refine lv_dup hx hb d_Mo_row_144 rfl ?_
      refine va_get (D := (dC, dI)) (ci := 13) (v := .int (nI Q.R)) (C := R_Mo) (T := F_Mo) (N := 30) hx hb hts in_Mo hown hK hP 0 rfl rfl 21 (by decide) (hts _ w_1110) (fun _ h9 => h9) (MFg (by decide) ((rf_ne (by decide) (by decide)).trans rs_21)) d_Mo_row_145 ?_
      refine lv_iconst (v := 1) hx hb d_Mo_row_148 (by decide) ?_
      refine lv_iadd hx hb d_Mo_row_149 ?_
      refine W.eq (g2 := F0 m 150 ls [.int (nI (Q.R + 1)), .ref mo]) (by rw [show ((nI Q.R) + 1) = (nI (Q.R + 1)) from nI_1 _]) ?_
      refine va_put (D := (dC, dI)) (ci := 13) (v := .int (nI (Q.R + 1))) (ty := .int) (C := R_Mo) (T := F_Mo) (N := 30) hx hb hts in_Mo t_Mo t_Mo_ok n_Mo hown hK hP hD hS 0 rfl rfl 21 (by decide) (hts _ w_1110) (fun _ h9 => h9) rfl (by decide +kernel) rfl rfl (by rw [MFl]; decide) d_Mo_row_150 (fun H locs hP hD hS => ?_)
      rw [MFs (n := 30) (k := 21) (by decide)] at hP hD
      have hP : va_P (dC, dI) classes [(mo, .inr (13, MF 30 (va_up (rf (rs v Q o) i br) 21 (.int (nI (Q.R + 1)))))), (Q.qq, .inl (cI, (8 * Q.C), .inl (upd (m1F (Q.qf) (8 * Q.R) 8) (8 * Q.R) x))), (Q.qe, .inl (cL, (3 * Q.C), .inr (.inl Q.ef)))] H := hP
      have hD : va_D A [(mo, .inr (13, MF 30 (va_up (rf (rs v Q o) i br) 21 (.int (nI (Q.R + 1)))))), (Q.qq, .inl (cI, (8 * Q.C), .inl (upd (m1F (Q.qf) (8 * Q.R) 8) (8 * Q.R) x))), (Q.qe, .inl (cL, (3 * Q.C), .inr (.inl Q.ef)))] := hD
      refine lv_aload_n hx hb d_Mo_row_153 rfl (lv_at hl 0 rfl) ?_
      refine va_get (D := (dC, dI)) (ci := 13) (v := .int (nI (Q.R + 1))) (C := R_Mo) (T := F_Mo) (N := 30) hx hb hts in_Mo hown hK hP 0 rfl rfl 21 (by decide) (hts _ w_1110) (fun _ h9 => h9) (MFg (by decide) (va_up_self _ _ _)) d_Mo_row_154 ?_
      refine lv_iconst (v := 1) hx hb d_Mo_row_157 (by decide) ?_
      refine lv_isub hx hb d_Mo_row_158 ?_
      refine W.eq (g2 := F0 m 159 ls [.int (nI Q.R)]) (by rw [show ((nI (Q.R + 1)) - 1) = (nI Q.R) from (nI_pred _)]) ?_
      obtain ⟨Q2, e_Q2⟩ : ∃ z : QS, z = (QS.mk Q.C (Q.R + 1) Q.qq Q.qe (upd (m1F (Q.qf) (8 * Q.R) 8) (8 * Q.R) x) Q.ef) := ⟨_, rfl⟩
      have hQ2 : Q2.C = Q.C ∧ Q2.R = Q.R + 1 ∧ Q2.qq = Q.qq ∧ Q2.qe = Q.qe ∧ Q2.qf = upd (m1F (Q.qf) (8 * Q.R) 8) (8 * Q.R) x ∧ Q2.ef = Q.ef := by rw [e_Q2]; exact ⟨rfl, rfl, rfl, rfl, rfl, rfl⟩
      obtain ⟨g1, g2, g3, g4, g5, g6⟩ := hQ2
      have hQA : QAd Q Q2 x := by
        refine ⟨by rw [g1, if_neg hkU], g2, fun j9 h9 => ?_, ⟨fun j9 => ?_, fun j9 h9 => ?_⟩, by rw [g5]; exact pk_us, fun j9 h8 h9 => ?_⟩
        · rw [g5, pk_un (by omega)]; unfold m1F; rw [if_neg (by omega)]
        · rw [g6]; exact Or.inl rfl
        · rw [g6]
        · rw [g5, pk_un (by omega)]; unfold m1F; rw [if_pos (by omega)]
      rw [rs_r21 (Q2 := Q2) g3 g4 g2] at hP hD
      have hP : va_P (dC, dI) classes [(mo, .inr (13, MF 30 (rf (rs v Q2 o) i br))), (Q2.qq, .inl (cI, (8 * Q2.C), .inl Q2.qf)), (Q2.qe, .inl (cL, (3 * Q2.C), .inr (.inl Q2.ef)))] H := by subst e_Q2; exact hP
      have hD : va_D A [(mo, .inr (13, MF 30 (rf (rs v Q2 o) i br))), (Q2.qq, .inl (cI, (8 * Q2.C), .inl Q2.qf)), (Q2.qe, .inl (cL, (3 * Q2.C), .inr (.inl Q2.ef)))] := by subst e_Q2; exact hD
      refine w_same (fun hq => ?_)
      refine W.widen (k := rwC Q) (n := rwS Q) (Nat.zero_le _) (Nat.zero_le _) ?_
      exact W.iret (v := nI Q.R) hx hb hr (fun t9 ht hW => ⟨⟨nI Q.R, Q2, rfl, ⟨rfl, hQA⟩, ⟨by rw [ht]; exact hP, va_K.moved hW.alike hK, hD⟩, by rw [ht]; exact hq.mono (Nat.zero_le _) (Nat.zero_le _)⟩, hS.F ht⟩) hS.2.2 d_Mo_row_159
    · refine lv_aload_n hx hb d_Mo_row_109 rfl (lv_at hl 0 rfl) ?_
      refine va_get (D := (dC, dI)) (ci := 13) (v := .ref Q.qq) (C := R_Mo) (T := F_Mo) (N := 30) hx hb hts in_Mo hown hK hP 0 rfl rfl 19 (by decide) (hts _ w_1108) (fun _ h9 => h9) (MFg (by decide) ((rf_ne (by decide) (by decide)).trans rs_19)) d_Mo_row_110 ?_
      refine lv_bipush (v := 8) hx hb d_Mo_row_113 (by decide) ?_
      refine lv_aload_n hx hb d_Mo_row_115 rfl (lv_at hl 0 rfl) ?_
      refine va_get (D := (dC, dI)) (ci := 13) (v := .int (nI Q.R)) (C := R_Mo) (T := F_Mo) (N := 30) hx hb hts in_Mo hown hK hP 0 rfl rfl 21 (by decide) (hts _ w_1110) (fun _ h9 => h9) (MFg (by decide) ((rf_ne (by decide) (by decide)).trans rs_21)) d_Mo_row_116 ?_
      refine lv_imul hx hb d_Mo_row_119 ?_
      refine W.eq (g2 := F0 m 120 ls [.int (nI (8 * Q.R)), .ref Q.qq]) (by rw [show (8 * (nI Q.R)) = (nI (8 * Q.R)) from (by rw [show (8 : Int32) = nI 8 from rfl, pk_mul])]) ?_
      refine lv_iload_n hx hb d_Mo_row_120 rfl (lv_at hl 2 rfl) ?_
      refine lv_iadd hx hb d_Mo_row_121 ?_
      refine W.eq (g2 := F0 m 122 ls [.int (nI (8 * Q.R + j)), .ref Q.qq]) (by rw [show ((nI (8 * Q.R)) + (nI j)) = (nI (8 * Q.R + j)) from nI_add _ _]) ?_
      refine lv_iconst (v := (-1)) hx hb d_Mo_row_122 (by decide) ?_
      have hj8 : j < 8 := by rw [show (8 : Int32) = nI 8 from rfl, nI_leI (by omega) (by omega)] at c106; omega
      refine va_iast hx hb hK hP hD hS 1 0 rfl rfl (vp_in_nI (show 8 * Q.R + j < 8 * Q.C by omega) (by omega)) d_Mo_row_123 (fun H locs hP hD hS => ?_)
      rw [show (nI (8 * Q.R + j)).toNatClampNeg = 8 * Q.R + j from nI_clamp (by omega), m1F_s] at hP hD
      have hP : va_P (dC, dI) classes [(mo, .inr (13, MF 30 (rf (rs v Q o) i br))), (Q.qq, .inl (cI, (8 * Q.C), .inl (m1F (Q.qf) (8 * Q.R) (j + 1)))), (Q.qe, .inl (cL, (3 * Q.C), .inr (.inl Q.ef)))] H := hP
      have hD : va_D A [(mo, .inr (13, MF 30 (rf (rs v Q o) i br))), (Q.qq, .inl (cI, (8 * Q.C), .inl (m1F (Q.qf) (8 * Q.R) (j + 1)))), (Q.qe, .inl (cL, (3 * Q.C), .inr (.inl Q.ef)))] := hD
      refine lv_iinc (v := nI (j + 1)) (lv' := [(2, .int (nI (j + 1))), (0, .ref mo), (1, .int x)]) hx hb d_Mo_row_124 hl (k := 2) rfl (nI_1 j) (by decide) rfl (fun ls hl => ?_)
      refine lv_goto (tgt := 103) hx hb d_Mo_row_127 (by decide) ?_
      exact ih (j + 1) _ _ _ (by omega) (by show 8 - (j + 1) < 8 - j; omega) hP hD hS (lv_sub hl [1, 2, 0] rfl)
  · have hkU : Q.R = Q.C := by have := (nI_eq (by omega) (by omega)).mp c12; omega
    have hg1 : rwC Q = 2 := by unfold rwC; rw [if_pos hkU]
    have hg2 : rwS Q = 22 * Q.C := by unfold rwS; rw [if_pos hkU]
    refine lv_iconst (v := 2) hx hb d_Mo_row_15 (by decide) ?_
    refine lv_aload_n hx hb d_Mo_row_16 rfl (lv_at hl 0 rfl) ?_
    refine va_get (D := (dC, dI)) (ci := 13) (v := .ref Q.qq) (C := R_Mo) (T := F_Mo) (N := 30) hx hb hts in_Mo hown hK hP 0 rfl rfl 19 (by decide) (hts _ w_1108) (fun _ h9 => h9) (MFg (by decide) ((rf_ne (by decide) (by decide)).trans rs_19)) d_Mo_row_17 ?_
    refine va_alen (v := nI (8 * Q.C)) hx hb hK hP 1 0 rfl rfl rfl d_Mo_row_20 ?_
    refine lv_imul hx hb d_Mo_row_21 ?_
    refine W.eq (g2 := F0 m 22 ls [.int (nI (2 * (8 * Q.C)))]) (by rw [show (2 * (nI (8 * Q.C))) = (nI (2 * (8 * Q.C))) from (by rw [show (2 : Int32) = nI 2 from rfl, pk_mul])]) ?_
    refine va_newa (atype := .int) (ty := .int) (N' := 2 * (8 * Q.C)) (a0 := (2 * (8 * Q.C), .inl (fun _ => 0))) hx hb (hts _ w_73) rfl hK hP hD hS hA (fun _ => rfl) (nI_pos (by omega)) (nI_clamp (by omega)) (by show 2 * (8 * Q.C) * 4 ≤ 536870912; omega) (by show 0 + 1 ≤ rwC Q; omega) (by show 0 + 2 * (8 * Q.C) ≤ rwS Q; omega) d_Mo_row_22 (fun r1 cA H hK hP hD hS => ?_)
    obtain rfl : cI = cA := Option.some.inj ((hK.2 0 _ rfl).2.symm.trans (hK.2 2 _ rfl).2)
    have hK := hK.sub (tys' := [(cI, .int), (cL, .long)]) [0, 1] rfl
    rw [← cpL_0 Q.qf] at hP hD
    have hP : va_P (dC, dI) classes [(mo, .inr (13, MF 30 (rf (rs v Q o) i br))), (Q.qq, .inl (cI, (8 * Q.C), .inl Q.qf)), (Q.qe, .inl (cL, (3 * Q.C), .inr (.inl Q.ef))), (r1, .inl (cI, (2 * (8 * Q.C)), .inl (cpL Q.qf 0)))] H := hP
    have hD : va_D A [(mo, .inr (13, MF 30 (rf (rs v Q o) i br))), (Q.qq, .inl (cI, (8 * Q.C), .inl Q.qf)), (Q.qe, .inl (cL, (3 * Q.C), .inr (.inl Q.ef))), (r1, .inl (cI, (2 * (8 * Q.C)), .inl (cpL Q.qf 0)))] := hD
    refine lv_astore_n (lv' := [(2, .ref r1), (0, .ref mo), (1, .int x)]) hx hb d_Mo_row_24 rfl hl (by decide) rfl (fun ls hl => ?_)
    refine lv_iconst (v := 0) hx hb d_Mo_row_25 (by decide) ?_
    refine lv_istore_n (lv' := [(3, .int 0), (2, .ref r1), (0, .ref mo), (1, .int x)]) hx hb d_Mo_row_26 rfl hl (by decide) rfl (fun ls hl => ?_)
    refine w_loop (D := (dC, dI)) (cl := classes) (A := A) (H0 := s.heap) (nL := 5) 27 (σ := Nat) (fun j => j ≤ 8 * Q.C) (fun j => 8 * Q.C - j) (fun j => [(mo, .inr (13, MF 30 (rf (rs v Q o) i br))), (Q.qq, .inl (cI, (8 * Q.C), .inl Q.qf)), (Q.qe, .inl (cL, (3 * Q.C), .inr (.inl Q.ef))), (r1, .inl (cI, (2 * (8 * Q.C)), .inl (cpL Q.qf j)))]) (fun j => [(0, .ref mo), (1, .int x), (2, .ref r1), (3, .int (nI j))]) ?_ 0 (Nat.zero_le _) hP hD hS (lv_sub hl [2, 3, 1, 0] rfl)
    rintro j H locs ls hI ih hP hD hS hl
    have hP : va_P (dC, dI) classes [(mo, .inr (13, MF 30 (rf (rs v Q o) i br))), (Q.qq, .inl (cI, (8 * Q.C), .inl Q.qf)), (Q.qe, .inl (cL, (3 * Q.C), .inr (.inl Q.ef))), (r1, .inl (cI, (2 * (8 * Q.C)), .inl (cpL Q.qf j)))] H := hP
    have hD : va_D A [(mo, .inr (13, MF 30 (rf (rs v Q o) i br))), (Q.qq, .inl (cI, (8 * Q.C), .inl Q.qf)), (Q.qe, .inl (cL, (3 * Q.C), .inr (.inl Q.ef))), (r1, .inl (cI, (2 * (8 * Q.C)), .inl (cpL Q.qf j)))] := hD
    have hl : lv_has ls 5 [(0, .ref mo), (1, .int x), (2, .ref r1), (3, .int (nI j))] := hl
    refine lv_iload_n hx hb d_Mo_row_27 rfl (lv_at hl 3 rfl) ?_
    refine lv_aload_n hx hb d_Mo_row_28 rfl (lv_at hl 0 rfl) ?_
    refine va_get (D := (dC, dI)) (ci := 13) (v := .ref Q.qq) (C := R_Mo) (T := F_Mo) (N := 30) hx hb hts in_Mo hown hK hP 0 rfl rfl 19 (by decide) (hts _ w_1108) (fun _ h9 => h9) (MFg (by decide) ((rf_ne (by decide) (by decide)).trans rs_19)) d_Mo_row_29 ?_
    refine va_alen (v := nI (8 * Q.C)) hx hb hK hP 1 0 rfl rfl rfl d_Mo_row_32 ?_
    refine lv_icmp_ge (tgt := 51) hx hb d_Mo_row_33 (by decide) (fun c33 => ?_) (fun c33 => ?_)
    · have hjk51 : j = 8 * Q.C := by rw [nI_leI (by omega) (by omega)] at c33; omega
      rw [hjk51] at hP hD
      have hP : va_P (dC, dI) classes [(mo, .inr (13, MF 30 (rf (rs v Q o) i br))), (Q.qq, .inl (cI, (8 * Q.C), .inl Q.qf)), (Q.qe, .inl (cL, (3 * Q.C), .inr (.inl Q.ef))), (r1, .inl (cI, (2 * (8 * Q.C)), .inl (cpL Q.qf (8 * Q.C))))] H := hP
      have hD : va_D A [(mo, .inr (13, MF 30 (rf (rs v Q o) i br))), (Q.qq, .inl (cI, (8 * Q.C), .inl Q.qf)), (Q.qe, .inl (cL, (3 * Q.C), .inr (.inl Q.ef))), (r1, .inl (cI, (2 * (8 * Q.C)), .inl (cpL Q.qf (8 * Q.C))))] := hD
      refine lv_aload_n hx hb d_Mo_row_51 rfl (lv_at hl 0 rfl) ?_
      refine lv_aload_n hx hb d_Mo_row_52 rfl (lv_at hl 2 rfl) ?_
      refine va_put (D := (dC, dI)) (ci := 13) (v := .ref r1) (ty := .array .int) (C := R_Mo) (T := F_Mo) (N := 30) hx hb hts in_Mo t_Mo t_Mo_ok n_Mo hown hK hP hD hS 0 rfl rfl 19 (by decide) (hts _ w_1108) (fun _ h9 => h9) rfl (by decide +kernel) rfl rfl (by rw [MFl]; decide) d_Mo_row_53 (fun H locs hP hD hS => ?_)
      rw [MFs (n := 30) (k := 19) (by decide)] at hP hD
      have hP : va_P (dC, dI) classes [(mo, .inr (13, MF 30 (va_up (rf (rs v Q o) i br) 19 (.ref r1)))), (Q.qq, .inl (cI, (8 * Q.C), .inl Q.qf)), (Q.qe, .inl (cL, (3 * Q.C), .inr (.inl Q.ef))), (r1, .inl (cI, (2 * (8 * Q.C)), .inl (cpL Q.qf (8 * Q.C))))] H := hP
      have hD : va_D A [(mo, .inr (13, MF 30 (va_up (rf (rs v Q o) i br) 19 (.ref r1)))), (Q.qq, .inl (cI, (8 * Q.C), .inl Q.qf)), (Q.qe, .inl (cL, (3 * Q.C), .inr (.inl Q.ef))), (r1, .inl (cI, (2 * (8 * Q.C)), .inl (cpL Q.qf (8 * Q.C))))] := hD
      refine lv_iconst (v := 2) hx hb d_Mo_row_56 (by decide) ?_
      refine lv_aload_n hx hb d_Mo_row_57 rfl (lv_at hl 0 rfl) ?_
      refine va_get (D := (dC, dI)) (ci := 13) (v := .ref Q.qe) (C := R_Mo) (T := F_Mo) (N := 30) hx hb hts in_Mo hown hK hP 0 rfl rfl 20 (by decide) (hts _ w_1109) (fun _ h9 => h9) (MFg (by decide) ((va_up_ne _ _ (by decide)).trans ((rf_ne (by decide) (by decide)).trans rs_20))) d_Mo_row_58 ?_
      refine va_alen (v := nI (3 * Q.C)) hx hb hK hP 2 1 rfl rfl rfl d_Mo_row_61 ?_
      refine lv_imul hx hb d_Mo_row_62 ?_
      refine W.eq (g2 := F0 m 63 ls [.int (nI (2 * (3 * Q.C)))]) (by rw [show (2 * (nI (3 * Q.C))) = (nI (2 * (3 * Q.C))) from (by rw [show (2 : Int32) = nI 2 from rfl, pk_mul])]) ?_
      refine va_newa (atype := .long) (ty := .long) (N' := 2 * (3 * Q.C)) (a0 := (2 * (3 * Q.C), .inr (.inl (fun _ => 0)))) hx hb (hts _ w_1087) rfl hK hP hD hS hA (fun _ => rfl) (nI_pos (by omega)) (nI_clamp (by omega)) (by show 2 * (3 * Q.C) * 8 ≤ 536870912; omega) (by show 0 + 1 + 1 ≤ rwC Q; omega) (by show 0 + 2 * (8 * Q.C) + 2 * (3 * Q.C) ≤ rwS Q; omega) d_Mo_row_63 (fun r2 cA H hK hP hD hS => ?_)
      obtain rfl : cL = cA := Option.some.inj ((hK.2 1 _ rfl).2.symm.trans (hK.2 2 _ rfl).2)
      have hK := hK.sub (tys' := [(cI, .int), (cL, .long)]) [0, 1] rfl
      rw [← cpLL_0 Q.ef] at hP hD
      have hP : va_P (dC, dI) classes [(mo, .inr (13, MF 30 (va_up (rf (rs v Q o) i br) 19 (.ref r1)))), (Q.qq, .inl (cI, (8 * Q.C), .inl Q.qf)), (Q.qe, .inl (cL, (3 * Q.C), .inr (.inl Q.ef))), (r1, .inl (cI, (2 * (8 * Q.C)), .inl (cpL Q.qf (8 * Q.C)))), (r2, .inl (cL, (2 * (3 * Q.C)), .inr (.inl (cpLL Q.ef 0))))] H := hP
      have hD : va_D A [(mo, .inr (13, MF 30 (va_up (rf (rs v Q o) i br) 19 (.ref r1)))), (Q.qq, .inl (cI, (8 * Q.C), .inl Q.qf)), (Q.qe, .inl (cL, (3 * Q.C), .inr (.inl Q.ef))), (r1, .inl (cI, (2 * (8 * Q.C)), .inl (cpL Q.qf (8 * Q.C)))), (r2, .inl (cL, (2 * (3 * Q.C)), .inr (.inl (cpLL Q.ef 0))))] := hD
      refine lv_astore_n (lv' := [(3, .ref r2), (0, .ref mo), (1, .int x), (2, .ref r1)]) hx hb d_Mo_row_65 rfl hl (by decide) rfl (fun ls hl => ?_)
      refine lv_iconst (v := 0) hx hb d_Mo_row_66 (by decide) ?_
      refine lv_istore (lv' := [(4, .int 0), (3, .ref r2), (0, .ref mo), (1, .int x), (2, .ref r1)]) hx hb d_Mo_row_67 hl (by decide) rfl (fun ls hl => ?_)
      refine w_loop (D := (dC, dI)) (cl := classes) (A := A) (H0 := s.heap) (nL := 5) 69 (σ := Nat) (fun j => j ≤ 3 * Q.C) (fun j => 3 * Q.C - j) (fun j => [(mo, .inr (13, MF 30 (va_up (rf (rs v Q o) i br) 19 (.ref r1)))), (Q.qq, .inl (cI, (8 * Q.C), .inl Q.qf)), (Q.qe, .inl (cL, (3 * Q.C), .inr (.inl Q.ef))), (r1, .inl (cI, (2 * (8 * Q.C)), .inl (cpL Q.qf (8 * Q.C)))), (r2, .inl (cL, (2 * (3 * Q.C)), .inr (.inl (cpLL Q.ef j))))]) (fun j => [(0, .ref mo), (1, .int x), (3, .ref r2), (4, .int (nI j))]) ?_ 0 (Nat.zero_le _) hP hD hS (lv_sub hl [2, 3, 1, 0] rfl)
      rintro j H locs ls hI ih hP hD hS hl
      have hP : va_P (dC, dI) classes [(mo, .inr (13, MF 30 (va_up (rf (rs v Q o) i br) 19 (.ref r1)))), (Q.qq, .inl (cI, (8 * Q.C), .inl Q.qf)), (Q.qe, .inl (cL, (3 * Q.C), .inr (.inl Q.ef))), (r1, .inl (cI, (2 * (8 * Q.C)), .inl (cpL Q.qf (8 * Q.C)))), (r2, .inl (cL, (2 * (3 * Q.C)), .inr (.inl (cpLL Q.ef j))))] H := hP
      have hD : va_D A [(mo, .inr (13, MF 30 (va_up (rf (rs v Q o) i br) 19 (.ref r1)))), (Q.qq, .inl (cI, (8 * Q.C), .inl Q.qf)), (Q.qe, .inl (cL, (3 * Q.C), .inr (.inl Q.ef))), (r1, .inl (cI, (2 * (8 * Q.C)), .inl (cpL Q.qf (8 * Q.C)))), (r2, .inl (cL, (2 * (3 * Q.C)), .inr (.inl (cpLL Q.ef j))))] := hD
      have hl : lv_has ls 5 [(0, .ref mo), (1, .int x), (3, .ref r2), (4, .int (nI j))] := hl
      refine lv_iload hx hb d_Mo_row_69 (lv_at hl 3 rfl) ?_
      refine lv_aload_n hx hb d_Mo_row_71 rfl (lv_at hl 0 rfl) ?_
      refine va_get (D := (dC, dI)) (ci := 13) (v := .ref Q.qe) (C := R_Mo) (T := F_Mo) (N := 30) hx hb hts in_Mo hown hK hP 0 rfl rfl 20 (by decide) (hts _ w_1109) (fun _ h9 => h9) (MFg (by decide) ((va_up_ne _ _ (by decide)).trans ((rf_ne (by decide) (by decide)).trans rs_20))) d_Mo_row_72 ?_
      refine va_alen (v := nI (3 * Q.C)) hx hb hK hP 2 1 rfl rfl rfl d_Mo_row_75 ?_
      refine lv_icmp_ge (tgt := 96) hx hb d_Mo_row_76 (by decide) (fun c76 => ?_) (fun c76 => ?_)
      · have hjk96 : j = 3 * Q.C := by rw [nI_leI (by omega) (by omega)] at c76; omega
        rw [hjk96] at hP hD
        have hP : va_P (dC, dI) classes [(mo, .inr (13, MF 30 (va_up (rf (rs v Q o) i br) 19 (.ref r1)))), (Q.qq, .inl (cI, (8 * Q.C), .inl Q.qf)), (Q.qe, .inl (cL, (3 * Q.C), .inr (.inl Q.ef))), (r1, .inl (cI, (2 * (8 * Q.C)), .inl (cpL Q.qf (8 * Q.C)))), (r2, .inl (cL, (2 * (3 * Q.C)), .inr (.inl (cpLL Q.ef (3 * Q.C)))))] H := hP
        have hD : va_D A [(mo, .inr (13, MF 30 (va_up (rf (rs v Q o) i br) 19 (.ref r1)))), (Q.qq, .inl (cI, (8 * Q.C), .inl Q.qf)), (Q.qe, .inl (cL, (3 * Q.C), .inr (.inl Q.ef))), (r1, .inl (cI, (2 * (8 * Q.C)), .inl (cpL Q.qf (8 * Q.C)))), (r2, .inl (cL, (2 * (3 * Q.C)), .inr (.inl (cpLL Q.ef (3 * Q.C)))))] := hD
        refine lv_aload_n hx hb d_Mo_row_96 rfl (lv_at hl 0 rfl) ?_
        refine lv_aload_n hx hb d_Mo_row_97 rfl (lv_at hl 2 rfl) ?_
        refine va_put (D := (dC, dI)) (ci := 13) (v := .ref r2) (ty := .array .long) (C := R_Mo) (T := F_Mo) (N := 30) hx hb hts in_Mo t_Mo t_Mo_ok n_Mo hown hK hP hD hS 0 rfl rfl 20 (by decide) (hts _ w_1109) (fun _ h9 => h9) rfl (by decide +kernel) rfl rfl (by rw [MFl]; decide) d_Mo_row_98 (fun H locs hP hD hS => ?_)
        rw [MFs (n := 30) (k := 20) (by decide)] at hP hD
        have hP : va_P (dC, dI) classes [(mo, .inr (13, MF 30 (va_up (va_up (rf (rs v Q o) i br) 19 (.ref r1)) 20 (.ref r2)))), (Q.qq, .inl (cI, (8 * Q.C), .inl Q.qf)), (Q.qe, .inl (cL, (3 * Q.C), .inr (.inl Q.ef))), (r1, .inl (cI, (2 * (8 * Q.C)), .inl (cpL Q.qf (8 * Q.C)))), (r2, .inl (cL, (2 * (3 * Q.C)), .inr (.inl (cpLL Q.ef (3 * Q.C)))))] H := hP
        have hD : va_D A [(mo, .inr (13, MF 30 (va_up (va_up (rf (rs v Q o) i br) 19 (.ref r1)) 20 (.ref r2)))), (Q.qq, .inl (cI, (8 * Q.C), .inl Q.qf)), (Q.qe, .inl (cL, (3 * Q.C), .inr (.inl Q.ef))), (r1, .inl (cI, (2 * (8 * Q.C)), .inl (cpL Q.qf (8 * Q.C)))), (r2, .inl (cL, (2 * (3 * Q.C)), .inr (.inl (cpLL Q.ef (3 * Q.C)))))] := hD
        refine lv_iconst (v := 0) hx hb d_Mo_row_101 (by decide) ?_
        refine lv_istore_n (lv' := [(2, .int 0), (0, .ref mo), (1, .int x), (3, .ref r2), (4, .int (nI j))]) hx hb d_Mo_row_102 rfl hl (by decide) rfl (fun ls hl => ?_)
        rw [show cpL Q.qf (8 * Q.C) = m1F (cpL Q.qf (8 * Q.C)) (8 * Q.R) 0 from (m1F_0 _ _).symm] at hP hD
        refine w_loop (D := (dC, dI)) (cl := classes) (A := A) (H0 := s.heap) (nL := 5) 103 (σ := Nat) (fun j => j ≤ 8) (fun j => 8 - j) (fun j => [(mo, .inr (13, MF 30 (va_up (va_up (rf (rs v Q o) i br) 19 (.ref r1)) 20 (.ref r2)))), (Q.qq, .inl (cI, (8 * Q.C), .inl Q.qf)), (Q.qe, .inl (cL, (3 * Q.C), .inr (.inl Q.ef))), (r1, .inl (cI, (2 * (8 * Q.C)), .inl (m1F (cpL Q.qf (8 * Q.C)) (8 * Q.R) j))), (r2, .inl (cL, (2 * (3 * Q.C)), .inr (.inl (cpLL Q.ef (3 * Q.C)))))]) (fun j => [(0, .ref mo), (1, .int x), (2, .int (nI j))]) ?_ 0 (Nat.zero_le _) hP hD hS (lv_sub hl [1, 2, 0] rfl)
        rintro j H locs ls hI ih hP hD hS hl
        have hP : va_P (dC, dI) classes [(mo, .inr (13, MF 30 (va_up (va_up (rf (rs v Q o) i br) 19 (.ref r1)) 20 (.ref r2)))), (Q.qq, .inl (cI, (8 * Q.C), .inl Q.qf)), (Q.qe, .inl (cL, (3 * Q.C), .inr (.inl Q.ef))), (r1, .inl (cI, (2 * (8 * Q.C)), .inl (m1F (cpL Q.qf (8 * Q.C)) (8 * Q.R) j))), (r2, .inl (cL, (2 * (3 * Q.C)), .inr (.inl (cpLL Q.ef (3 * Q.C)))))] H := hP
        have hD : va_D A [(mo, .inr (13, MF 30 (va_up (va_up (rf (rs v Q o) i br) 19 (.ref r1)) 20 (.ref r2)))), (Q.qq, .inl (cI, (8 * Q.C), .inl Q.qf)), (Q.qe, .inl (cL, (3 * Q.C), .inr (.inl Q.ef))), (r1, .inl (cI, (2 * (8 * Q.C)), .inl (m1F (cpL Q.qf (8 * Q.C)) (8 * Q.R) j))), (r2, .inl (cL, (2 * (3 * Q.C)), .inr (.inl (cpLL Q.ef (3 * Q.C)))))] := hD
        have hl : lv_has ls 5 [(0, .ref mo), (1, .int x), (2, .int (nI j))] := hl
        refine lv_iload_n hx hb d_Mo_row_103 rfl (lv_at hl 2 rfl) ?_
        refine lv_bipush (v := 8) hx hb d_Mo_row_104 (by decide) ?_
        refine lv_icmp_ge (tgt := 130) hx hb d_Mo_row_106 (by decide) (fun c106 => ?_) (fun c106 => ?_)
        · have hj8 : j = 8 := by rw [show (8 : Int32) = nI 8 from rfl, nI_leI (by omega) (by omega)] at c106; omega
          rw [hj8] at hP hD
          have hP : va_P (dC, dI) classes [(mo, .inr (13, MF 30 (va_up (va_up (rf (rs v Q o) i br) 19 (.ref r1)) 20 (.ref r2)))), (Q.qq, .inl (cI, (8 * Q.C), .inl Q.qf)), (Q.qe, .inl (cL, (3 * Q.C), .inr (.inl Q.ef))), (r1, .inl (cI, (2 * (8 * Q.C)), .inl (m1F (cpL Q.qf (8 * Q.C)) (8 * Q.R) 8))), (r2, .inl (cL, (2 * (3 * Q.C)), .inr (.inl (cpLL Q.ef (3 * Q.C)))))] H := hP
          have hD : va_D A [(mo, .inr (13, MF 30 (va_up (va_up (rf (rs v Q o) i br) 19 (.ref r1)) 20 (.ref r2)))), (Q.qq, .inl (cI, (8 * Q.C), .inl Q.qf)), (Q.qe, .inl (cL, (3 * Q.C), .inr (.inl Q.ef))), (r1, .inl (cI, (2 * (8 * Q.C)), .inl (m1F (cpL Q.qf (8 * Q.C)) (8 * Q.R) 8))), (r2, .inl (cL, (2 * (3 * Q.C)), .inr (.inl (cpLL Q.ef (3 * Q.C)))))] := hD
          refine lv_aload_n hx hb d_Mo_row_130 rfl (lv_at hl 0 rfl) ?_
          refine va_get (D := (dC, dI)) (ci := 13) (v := .ref r1) (C := R_Mo) (T := F_Mo) (N := 30) hx hb hts in_Mo hown hK hP 0 rfl rfl 19 (by decide) (hts _ w_1108) (fun _ h9 => h9) (MFg (by decide) ((va_up_ne _ _ (by decide)).trans (va_up_self _ _ _))) d_Mo_row_131 ?_
          refine lv_bipush (v := 8) hx hb d_Mo_row_134 (by decide) ?_
          refine lv_aload_n hx hb d_Mo_row_136 rfl (lv_at hl 0 rfl) ?_
          refine va_get (D := (dC, dI)) (ci := 13) (v := .int (nI Q.R)) (C := R_Mo) (T := F_Mo) (N := 30) hx hb hts in_Mo hown hK hP 0 rfl rfl 21 (by decide) (hts _ w_1110) (fun _ h9 => h9) (MFg (by decide) ((va_up_ne _ _ (by decide)).trans ((va_up_ne _ _ (by decide)).trans ((rf_ne (by decide) (by decide)).trans rs_21)))) d_Mo_row_137 ?_
          refine lv_imul hx hb d_Mo_row_140 ?_
          refine W.eq (g2 := F0 m 141 ls [.int (nI (8 * Q.R)), .ref r1]) (by rw [show (8 * (nI Q.R)) = (nI (8 * Q.R)) from (by rw [show (8 : Int32) = nI 8 from rfl, pk_mul])]) ?_
          refine lv_iload_n hx hb d_Mo_row_141 rfl (lv_at hl 1 rfl) ?_
          refine va_iast hx hb hK hP hD hS 3 0 rfl rfl (vp_in_nI (show 8 * Q.R < 2 * (8 * Q.C) by omega) (by omega)) d_Mo_row_142 (fun H locs hP hD hS => ?_)
          rw [show (nI (8 * Q.R)).toNatClampNeg = 8 * Q.R from nI_clamp (by omega)] at hP hD
          have hP : va_P (dC, dI) classes [(mo, .inr (13, MF 30 (va_up (va_up (rf (rs v Q o) i br) 19 (.ref r1)) 20 (.ref r2)))), (Q.qq, .inl (cI, (8 * Q.C), .inl Q.qf)), (Q.qe, .inl (cL, (3 * Q.C), .inr (.inl Q.ef))), (r1, .inl (cI, (2 * (8 * Q.C)), .inl (upd (m1F (cpL Q.qf (8 * Q.C)) (8 * Q.R) 8) (8 * Q.R) x))), (r2, .inl (cL, (2 * (3 * Q.C)), .inr (.inl (cpLL Q.ef (3 * Q.C)))))] H := hP
          have hD : va_D A [(mo, .inr (13, MF 30 (va_up (va_up (rf (rs v Q o) i br) 19 (.ref r1)) 20 (.ref r2)))), (Q.qq, .inl (cI, (8 * Q.C), .inl Q.qf)), (Q.qe, .inl (cL, (3 * Q.C), .inr (.inl Q.ef))), (r1, .inl (cI, (2 * (8 * Q.C)), .inl (upd (m1F (cpL Q.qf (8 * Q.C)) (8 * Q.R) 8) (8 * Q.R) x))), (r2, .inl (cL, (2 * (3 * Q.C)), .inr (.inl (cpLL Q.ef (3 * Q.C)))))] := hD
          refine lv_aload_n hx hb d_Mo_row_143 rfl (lv_at hl 0 rfl) ?_
          refine lv_dup hx hb d_Mo_row_144 rfl ?_
          refine va_get (D := (dC, dI)) (ci := 13) (v := .int (nI Q.R)) (C := R_Mo) (T := F_Mo) (N := 30) hx hb hts in_Mo hown hK hP 0 rfl rfl 21 (by decide) (hts _ w_1110) (fun _ h9 => h9) (MFg (by decide) ((va_up_ne _ _ (by decide)).trans ((va_up_ne _ _ (by decide)).trans ((rf_ne (by decide) (by decide)).trans rs_21)))) d_Mo_row_145 ?_
          refine lv_iconst (v := 1) hx hb d_Mo_row_148 (by decide) ?_
          refine lv_iadd hx hb d_Mo_row_149 ?_
          refine W.eq (g2 := F0 m 150 ls [.int (nI (Q.R + 1)), .ref mo]) (by rw [show ((nI Q.R) + 1) = (nI (Q.R + 1)) from nI_1 _]) ?_
          refine va_put (D := (dC, dI)) (ci := 13) (v := .int (nI (Q.R + 1))) (ty := .int) (C := R_Mo) (T := F_Mo) (N := 30) hx hb hts in_Mo t_Mo t_Mo_ok n_Mo hown hK hP hD hS 0 rfl rfl 21 (by decide) (hts _ w_1110) (fun _ h9 => h9) rfl (by decide +kernel) rfl rfl (by rw [MFl]; decide) d_Mo_row_150 (fun H locs hP hD hS => ?_)
          rw [MFs (n := 30) (k := 21) (by decide)] at hP hD
          have hP : va_P (dC, dI) classes [(mo, .inr (13, MF 30 (va_up (va_up (va_up (rf (rs v Q o) i br) 19 (.ref r1)) 20 (.ref r2)) 21 (.int (nI (Q.R + 1)))))), (Q.qq, .inl (cI, (8 * Q.C), .inl Q.qf)), (Q.qe, .inl (cL, (3 * Q.C), .inr (.inl Q.ef))), (r1, .inl (cI, (2 * (8 * Q.C)), .inl (upd (m1F (cpL Q.qf (8 * Q.C)) (8 * Q.R) 8) (8 * Q.R) x))), (r2, .inl (cL, (2 * (3 * Q.C)), .inr (.inl (cpLL Q.ef (3 * Q.C)))))] H := hP
          have hD : va_D A [(mo, .inr (13, MF 30 (va_up (va_up (va_up (rf (rs v Q o) i br) 19 (.ref r1)) 20 (.ref r2)) 21 (.int (nI (Q.R + 1)))))), (Q.qq, .inl (cI, (8 * Q.C), .inl Q.qf)), (Q.qe, .inl (cL, (3 * Q.C), .inr (.inl Q.ef))), (r1, .inl (cI, (2 * (8 * Q.C)), .inl (upd (m1F (cpL Q.qf (8 * Q.C)) (8 * Q.R) 8) (8 * Q.R) x))), (r2, .inl (cL, (2 * (3 * Q.C)), .inr (.inl (cpLL Q.ef (3 * Q.C)))))] := hD
          refine lv_aload_n hx hb d_Mo_row_153 rfl (lv_at hl 0 rfl) ?_
          refine va_get (D := (dC, dI)) (ci := 13) (v := .int (nI (Q.R + 1))) (C := R_Mo) (T := F_Mo) (N := 30) hx hb hts in_Mo hown hK hP 0 rfl rfl 21 (by decide) (hts _ w_1110) (fun _ h9 => h9) (MFg (by decide) (va_up_self _ _ _)) d_Mo_row_154 ?_
          refine lv_iconst (v := 1) hx hb d_Mo_row_157 (by decide) ?_
          refine lv_isub hx hb d_Mo_row_158 ?_
          refine W.eq (g2 := F0 m 159 ls [.int (nI Q.R)]) (by rw [show ((nI (Q.R + 1)) - 1) = (nI Q.R) from (nI_pred _)]) ?_
          obtain ⟨Q2, e_Q2⟩ : ∃ z : QS, z = (QS.mk (2 * Q.C) (Q.R + 1) r1 r2 (upd (m1F (cpL Q.qf (8 * Q.C)) (8 * Q.R) 8) (8 * Q.R) x) (cpLL Q.ef (3 * Q.C))) := ⟨_, rfl⟩
          have hQ2 : Q2.C = 2 * Q.C ∧ Q2.R = Q.R + 1 ∧ Q2.qq = r1 ∧ Q2.qe = r2 ∧ Q2.qf = upd (m1F (cpL Q.qf (8 * Q.C)) (8 * Q.R) 8) (8 * Q.R) x ∧ Q2.ef = cpLL Q.ef (3 * Q.C) := by rw [e_Q2]; exact ⟨rfl, rfl, rfl, rfl, rfl, rfl⟩
          obtain ⟨g1, g2, g3, g4, g5, g6⟩ := hQ2
          have hQA : QAd Q Q2 x := by
            refine ⟨by rw [g1, if_pos hkU], g2, fun j9 h9 => ?_, ⟨fun j9 => ?_, fun j9 h9 => ?_⟩, by rw [g5]; exact pk_us, fun j9 h8 h9 => ?_⟩
            · rw [g5, pk_un (by omega)]; unfold m1F; rw [if_neg (by omega)]; exact cpL_lt (by omega)
            · rw [g6]; unfold cpLL; split; exact Or.inl rfl; exact Or.inr rfl
            · rw [g6]; unfold cpLL; rw [if_pos (by omega)]
            · rw [g5, pk_un (by omega)]; unfold m1F; rw [if_pos (by omega)]
          rw [rs_row (Q2 := Q2) g3 g4 g2] at hP hD
          have hP : va_P (dC, dI) classes [(mo, .inr (13, MF 30 (rf (rs v Q2 o) i br))), (Q.qq, .inl (cI, (8 * Q.C), .inl Q.qf)), (Q.qe, .inl (cL, (3 * Q.C), .inr (.inl Q.ef))), (r1, .inl (cI, (2 * (8 * Q.C)), .inl (upd (m1F (cpL Q.qf (8 * Q.C)) (8 * Q.R) 8) (8 * Q.R) x))), (r2, .inl (cL, (2 * (3 * Q.C)), .inr (.inl (cpLL Q.ef (3 * Q.C)))))] H := hP
          have hD : va_D A [(mo, .inr (13, MF 30 (rf (rs v Q2 o) i br))), (Q.qq, .inl (cI, (8 * Q.C), .inl Q.qf)), (Q.qe, .inl (cL, (3 * Q.C), .inr (.inl Q.ef))), (r1, .inl (cI, (2 * (8 * Q.C)), .inl (upd (m1F (cpL Q.qf (8 * Q.C)) (8 * Q.R) 8) (8 * Q.R) x))), (r2, .inl (cL, (2 * (3 * Q.C)), .inr (.inl (cpLL Q.ef (3 * Q.C)))))] := hD
          have hP := hP.sub (ws' := [(mo, .inr (13, MF 30 (rf (rs v Q2 o) i br))), (r1, .inl (cI, (2 * (8 * Q.C)), .inl (upd (m1F (cpL Q.qf (8 * Q.C)) (8 * Q.R) 8) (8 * Q.R) x))), (r2, .inl (cL, (2 * (3 * Q.C)), .inr (.inl (cpLL Q.ef (3 * Q.C)))))]) [0, 3, 4] rfl
          have hD := hD.sub (ws' := [(mo, .inr (13, MF 30 (rf (rs v Q2 o) i br))), (r1, .inl (cI, (2 * (8 * Q.C)), .inl (upd (m1F (cpL Q.qf (8 * Q.C)) (8 * Q.R) 8) (8 * Q.R) x))), (r2, .inl (cL, (2 * (3 * Q.C)), .inr (.inl (cpLL Q.ef (3 * Q.C)))))]) [0, 3, 4] (by decide) rfl
          have hP : va_P (dC, dI) classes [(mo, .inr (13, MF 30 (rf (rs v Q2 o) i br))), (Q2.qq, .inl (cI, (8 * Q2.C), .inl Q2.qf)), (Q2.qe, .inl (cL, (3 * Q2.C), .inr (.inl Q2.ef)))] H := by subst e_Q2; exact cap2 hP
          have hD : va_D A [(mo, .inr (13, MF 30 (rf (rs v Q2 o) i br))), (Q2.qq, .inl (cI, (8 * Q2.C), .inl Q2.qf)), (Q2.qe, .inl (cL, (3 * Q2.C), .inr (.inl Q2.ef)))] := by subst e_Q2; exact cap2D hD
          refine w_same (fun hq => ?_)
          refine W.widen (k := rwC Q) (n := rwS Q) (by show 0 + 1 + 1 ≤ rwC Q; omega) (by show 0 + 2 * (8 * Q.C) + 2 * (3 * Q.C) ≤ rwS Q; omega) ?_
          exact W.iret (v := nI Q.R) hx hb hr (fun t9 ht hW => ⟨⟨nI Q.R, Q2, rfl, ⟨rfl, hQA⟩, ⟨by rw [ht]; exact hP, va_K.moved hW.alike hK, hD⟩, by rw [ht]; exact hq.mono (by omega) (by omega)⟩, hS.F ht⟩) hS.2.2 d_Mo_row_159
        · refine lv_aload_n hx hb d_Mo_row_109 rfl (lv_at hl 0 rfl) ?_
          refine va_get (D := (dC, dI)) (ci := 13) (v := .ref r1) (C := R_Mo) (T := F_Mo) (N := 30) hx hb hts in_Mo hown hK hP 0 rfl rfl 19 (by decide) (hts _ w_1108) (fun _ h9 => h9) (MFg (by decide) ((va_up_ne _ _ (by decide)).trans (va_up_self _ _ _))) d_Mo_row_110 ?_
          refine lv_bipush (v := 8) hx hb d_Mo_row_113 (by decide) ?_
          refine lv_aload_n hx hb d_Mo_row_115 rfl (lv_at hl 0 rfl) ?_
          refine va_get (D := (dC, dI)) (ci := 13) (v := .int (nI Q.R)) (C := R_Mo) (T := F_Mo) (N := 30) hx hb hts in_Mo hown hK hP 0 rfl rfl 21 (by decide) (hts _ w_1110) (fun _ h9 => h9) (MFg (by decide) ((va_up_ne _ _ (by decide)).trans ((va_up_ne _ _ (by decide)).trans ((rf_ne (by decide) (by decide)).trans rs_21)))) d_Mo_row_116 ?_
          refine lv_imul hx hb d_Mo_row_119 ?_
          refine W.eq (g2 := F0 m 120 ls [.int (nI (8 * Q.R)), .ref r1]) (by rw [show (8 * (nI Q.R)) = (nI (8 * Q.R)) from (by rw [show (8 : Int32) = nI 8 from rfl, pk_mul])]) ?_
          refine lv_iload_n hx hb d_Mo_row_120 rfl (lv_at hl 2 rfl) ?_
          refine lv_iadd hx hb d_Mo_row_121 ?_
          refine W.eq (g2 := F0 m 122 ls [.int (nI (8 * Q.R + j)), .ref r1]) (by rw [show ((nI (8 * Q.R)) + (nI j)) = (nI (8 * Q.R + j)) from nI_add _ _]) ?_
          refine lv_iconst (v := (-1)) hx hb d_Mo_row_122 (by decide) ?_
          have hj8 : j < 8 := by rw [show (8 : Int32) = nI 8 from rfl, nI_leI (by omega) (by omega)] at c106; omega
          refine va_iast hx hb hK hP hD hS 3 0 rfl rfl (vp_in_nI (show 8 * Q.R + j < 2 * (8 * Q.C) by omega) (by omega)) d_Mo_row_123 (fun H locs hP hD hS => ?_)
          rw [show (nI (8 * Q.R + j)).toNatClampNeg = 8 * Q.R + j from nI_clamp (by omega), m1F_s] at hP hD
          have hP : va_P (dC, dI) classes [(mo, .inr (13, MF 30 (va_up (va_up (rf (rs v Q o) i br) 19 (.ref r1)) 20 (.ref r2)))), (Q.qq, .inl (cI, (8 * Q.C), .inl Q.qf)), (Q.qe, .inl (cL, (3 * Q.C), .inr (.inl Q.ef))), (r1, .inl (cI, (2 * (8 * Q.C)), .inl (m1F (cpL Q.qf (8 * Q.C)) (8 * Q.R) (j + 1)))), (r2, .inl (cL, (2 * (3 * Q.C)), .inr (.inl (cpLL Q.ef (3 * Q.C)))))] H := hP
          have hD : va_D A [(mo, .inr (13, MF 30 (va_up (va_up (rf (rs v Q o) i br) 19 (.ref r1)) 20 (.ref r2)))), (Q.qq, .inl (cI, (8 * Q.C), .inl Q.qf)), (Q.qe, .inl (cL, (3 * Q.C), .inr (.inl Q.ef))), (r1, .inl (cI, (2 * (8 * Q.C)), .inl (m1F (cpL Q.qf (8 * Q.C)) (8 * Q.R) (j + 1)))), (r2, .inl (cL, (2 * (3 * Q.C)), .inr (.inl (cpLL Q.ef (3 * Q.C)))))] := hD
          refine lv_iinc (v := nI (j + 1)) (lv' := [(2, .int (nI (j + 1))), (0, .ref mo), (1, .int x)]) hx hb d_Mo_row_124 hl (k := 2) rfl (nI_1 j) (by decide) rfl (fun ls hl => ?_)
          refine lv_goto (tgt := 103) hx hb d_Mo_row_127 (by decide) ?_
          exact ih (j + 1) _ _ _ (by omega) (by show 8 - (j + 1) < 8 - j; omega) hP hD hS (lv_sub hl [1, 2, 0] rfl)
      · refine lv_aload_n hx hb d_Mo_row_79 rfl (lv_at hl 2 rfl) ?_
        refine lv_iload hx hb d_Mo_row_80 (lv_at hl 3 rfl) ?_
        refine lv_aload_n hx hb d_Mo_row_82 rfl (lv_at hl 0 rfl) ?_
        refine va_get (D := (dC, dI)) (ci := 13) (v := .ref Q.qe) (C := R_Mo) (T := F_Mo) (N := 30) hx hb hts in_Mo hown hK hP 0 rfl rfl 20 (by decide) (hts _ w_1109) (fun _ h9 => h9) (MFg (by decide) ((va_up_ne _ _ (by decide)).trans ((rf_ne (by decide) (by decide)).trans rs_20))) d_Mo_row_83 ?_
        refine lv_iload hx hb d_Mo_row_86 (lv_at hl 3 rfl) ?_
        have hj : j < 3 * Q.C := by rw [nI_leI (by omega) (by omega)] at c76; omega
        refine va_lald hx hb hK hP 2 1 rfl rfl (vp_in_nI hj (by omega)) d_Mo_row_88 ?_
        rw [show (nI j).toNatClampNeg = j from nI_clamp (by omega)]
        refine va_last hx hb hK hP hD hS 4 1 rfl rfl (vp_in_nI (show j < 2 * (3 * Q.C) by omega) (by omega)) d_Mo_row_89 (fun H locs hP hD hS => ?_)
        rw [show (nI j).toNatClampNeg = j from nI_clamp (by omega), cpLL_s] at hP hD
        have hP : va_P (dC, dI) classes [(mo, .inr (13, MF 30 (va_up (rf (rs v Q o) i br) 19 (.ref r1)))), (Q.qq, .inl (cI, (8 * Q.C), .inl Q.qf)), (Q.qe, .inl (cL, (3 * Q.C), .inr (.inl Q.ef))), (r1, .inl (cI, (2 * (8 * Q.C)), .inl (cpL Q.qf (8 * Q.C)))), (r2, .inl (cL, (2 * (3 * Q.C)), .inr (.inl (cpLL Q.ef (j + 1)))))] H := hP
        have hD : va_D A [(mo, .inr (13, MF 30 (va_up (rf (rs v Q o) i br) 19 (.ref r1)))), (Q.qq, .inl (cI, (8 * Q.C), .inl Q.qf)), (Q.qe, .inl (cL, (3 * Q.C), .inr (.inl Q.ef))), (r1, .inl (cI, (2 * (8 * Q.C)), .inl (cpL Q.qf (8 * Q.C)))), (r2, .inl (cL, (2 * (3 * Q.C)), .inr (.inl (cpLL Q.ef (j + 1)))))] := hD
        refine lv_iinc (v := nI (j + 1)) (lv' := [(4, .int (nI (j + 1))), (0, .ref mo), (1, .int x), (3, .ref r2)]) hx hb d_Mo_row_90 hl (k := 3) rfl (nI_1 j) (by decide) rfl (fun ls hl => ?_)
        refine lv_goto (tgt := 69) hx hb d_Mo_row_93 (by decide) ?_
        exact ih (j + 1) _ _ _ (by omega) (by show 3 * Q.C - (j + 1) < 3 * Q.C - j; omega) hP hD hS (lv_sub hl [1, 2, 3, 0] rfl)
    · refine lv_aload_n hx hb d_Mo_row_36 rfl (lv_at hl 2 rfl) ?_
      refine lv_iload_n hx hb d_Mo_row_37 rfl (lv_at hl 3 rfl) ?_
      refine lv_aload_n hx hb d_Mo_row_38 rfl (lv_at hl 0 rfl) ?_
      refine va_get (D := (dC, dI)) (ci := 13) (v := .ref Q.qq) (C := R_Mo) (T := F_Mo) (N := 30) hx hb hts in_Mo hown hK hP 0 rfl rfl 19 (by decide) (hts _ w_1108) (fun _ h9 => h9) (MFg (by decide) ((rf_ne (by decide) (by decide)).trans rs_19)) d_Mo_row_39 ?_
      refine lv_iload_n hx hb d_Mo_row_42 rfl (lv_at hl 3 rfl) ?_
      have hj : j < 8 * Q.C := by rw [nI_leI (by omega) (by omega)] at c33; omega
      refine va_iald hx hb hK hP 1 0 rfl rfl (vp_in_nI hj (by omega)) d_Mo_row_43 ?_
      rw [show (nI j).toNatClampNeg = j from nI_clamp (by omega)]
      refine va_iast hx hb hK hP hD hS 3 0 rfl rfl (vp_in_nI (show j < 2 * (8 * Q.C) by omega) (by omega)) d_Mo_row_44 (fun H locs hP hD hS => ?_)
      rw [show (nI j).toNatClampNeg = j from nI_clamp (by omega), cpL_s] at hP hD
      have hP : va_P (dC, dI) classes [(mo, .inr (13, MF 30 (rf (rs v Q o) i br))), (Q.qq, .inl (cI, (8 * Q.C), .inl Q.qf)), (Q.qe, .inl (cL, (3 * Q.C), .inr (.inl Q.ef))), (r1, .inl (cI, (2 * (8 * Q.C)), .inl (cpL Q.qf (j + 1))))] H := hP
      have hD : va_D A [(mo, .inr (13, MF 30 (rf (rs v Q o) i br))), (Q.qq, .inl (cI, (8 * Q.C), .inl Q.qf)), (Q.qe, .inl (cL, (3 * Q.C), .inr (.inl Q.ef))), (r1, .inl (cI, (2 * (8 * Q.C)), .inl (cpL Q.qf (j + 1))))] := hD
      refine lv_iinc (v := nI (j + 1)) (lv' := [(3, .int (nI (j + 1))), (0, .ref mo), (1, .int x), (2, .ref r1)]) hx hb d_Mo_row_45 hl (k := 3) rfl (nI_1 j) (by decide) rfl (fun ls hl => ?_)
      refine lv_goto (tgt := 27) hx hb d_Mo_row_48 (by decide) ?_
      exact ih (j + 1) _ _ _ (by omega) (by show 8 * Q.C - (j + 1) < 8 * Q.C - j; omega) hP hD hS (lv_sub hl [1, 2, 3, 0] rfl)
