theorem w_1037 : (.fieldLink "QueryBenchModel" 68 "QueryBenchModel$Tree" "numbers" "[J" : Cond) ∈ gtbl := gt_in 1037 (by decide +kernel) (by decide +kernel)
theorem w_1343 : (.constantLong "QueryBenchModel" 215 9007199254740991 : Cond) ∈ gtbl := gt_in 1343 (by decide +kernel) (by decide +kernel)
theorem w_1344 : (.constantLong "QueryBenchModel" 217 10 : Cond) ∈ gtbl := gt_in 1344 (by decide +kernel) (by decide +kernel)
theorem w_1345 : (.constantLong "QueryBenchModel" 219 48 : Cond) ∈ gtbl := gt_in 1345 (by decide +kernel) (by decide +kernel)
abbrev digH (x : Int32) : Prop := 48 ≤ x ∧ x ≤ 57
theorem digH_lt {f : Nat → Int32} {n i : Nat} (h : digH (hereV f n i)) : i < n := Classical.byContradiction (fun hn => by unfold hereV at h; rw [if_neg hn] at h; revert h; decide)
/-- the digits from j on, as the reference goes -/
def dgM (f : Nat → Int32) (n : Nat) : Nat → Nat → Int64 → Int64 × Nat
  | 0, j, a => (a, j)
  | k + 1, j, a => if digH (hereV f n j) then dgM f n k (j + 1) (if 0 < lg_cmp a 9007199254740991 then a else 10 * a + (hereV f n j).toInt64 - 48) else (a, j)
/-- the digits of a number: 0 alone, or more -/
def dgN (f : Nat → Int32) (n i : Nat) : Int64 × Nat := if hereV f n i = 48 then (0, i + 1) else dgM f n (n + 1) i 0
/-- a number of a document: its sign has been read (mi) -/
def nuB (f : Nat → Int32) (n i : Nat) (mi : Bool) : Option (Int64 × Nat) :=
  if ¬ digH (hereV f n i) then none
  else if 0 < lg_cmp (dgN f n i).1 9007199254740991 ∨ hereV f n (dgN f n i).2 = 46 ∨ hereV f n (dgN f n i).2 = 101 ∨ hereV f n (dgN f n i).2 = 69 then none
  else some (if mi = true then -(dgN f n i).1 else (dgN f n i).1, (dgN f n i).2)
def numM (f : Nat → Int32) (n i : Nat) : Option (Int64 × Nat) := if hereV f n i = 45 then nuB f n (i + 1) true else nuB f n i false
theorem dg_01 {x r : Int32} (h : r = if 48 ≤ x ∧ x ≤ 57 then 1 else 0) : (¬ r = 0 → digH x) ∧ (r = 0 → ¬ digH x) := by
  constructor
  · intro h0
    exact Classical.byContradiction (fun hn => h0 (by rw [h, if_neg hn]))
  · intro h0 hd
    rw [h, if_pos hd] at h0
    exact absurd h0 (by decide)
abbrev b_Mo_numberT : ByteArray := prog_14_method_23_code
def y_Mo_numberT : MethodName := ⟨"QueryBenchModel", "number", "(LQueryBenchModel$Tree;I)Z"⟩
abbrev k_Mo_numberT : Cond := .code y_Mo_numberT b_Mo_numberT 7 (some .boolean)
theorem i_Mo_numberT : k_Mo_numberT ∈ gtbl := gt_in 1342 (by decide +kernel) (by decide +kernel)
theorem d_Mo_numberT_0 : decode b_Mo_numberT 0 = .ok (.aload_n 0, 1) := by decide +kernel
theorem d_Mo_numberT_1 : decode b_Mo_numberT 1 = .ok (.getfield 135, 3) := by decide +kernel
theorem d_Mo_numberT_4 : decode b_Mo_numberT 4 = .ok (.istore_n 3, 1) := by decide +kernel
theorem d_Mo_numberT_5 : decode b_Mo_numberT 5 = .ok (.aload_n 0, 1) := by decide +kernel
theorem d_Mo_numberT_6 : decode b_Mo_numberT 6 = .ok (.invokevirtual 147, 3) := by decide +kernel
theorem d_Mo_numberT_9 : decode b_Mo_numberT 9 = .ok (.bipush 45, 2) := by decide +kernel
theorem d_Mo_numberT_11 : decode b_Mo_numberT 11 = .ok (.if_icmp .ne 7, 3) := by decide +kernel
theorem d_Mo_numberT_14 : decode b_Mo_numberT 14 = .ok (.iconst 1, 1) := by decide +kernel
theorem d_Mo_numberT_15 : decode b_Mo_numberT 15 = .ok (.goto 4, 3) := by decide +kernel
theorem d_Mo_numberT_18 : decode b_Mo_numberT 18 = .ok (.iconst 0, 1) := by decide +kernel
theorem d_Mo_numberT_19 : decode b_Mo_numberT 19 = .ok (.istore 4, 2) := by decide +kernel
theorem d_Mo_numberT_21 : decode b_Mo_numberT 21 = .ok (.iload 4, 2) := by decide +kernel
theorem d_Mo_numberT_23 : decode b_Mo_numberT 23 = .ok (.ifCond .eq 13, 3) := by decide +kernel
theorem d_Mo_numberT_26 : decode b_Mo_numberT 26 = .ok (.aload_n 0, 1) := by decide +kernel
theorem d_Mo_numberT_27 : decode b_Mo_numberT 27 = .ok (.dup, 1) := by decide +kernel
theorem d_Mo_numberT_28 : decode b_Mo_numberT 28 = .ok (.getfield 135, 3) := by decide +kernel
theorem d_Mo_numberT_31 : decode b_Mo_numberT 31 = .ok (.iconst 1, 1) := by decide +kernel
theorem d_Mo_numberT_32 : decode b_Mo_numberT 32 = .ok (.iadd, 1) := by decide +kernel
theorem d_Mo_numberT_33 : decode b_Mo_numberT 33 = .ok (.putfield 135, 3) := by decide +kernel
theorem d_Mo_numberT_36 : decode b_Mo_numberT 36 = .ok (.aload_n 0, 1) := by decide +kernel
theorem d_Mo_numberT_37 : decode b_Mo_numberT 37 = .ok (.invokevirtual 147, 3) := by decide +kernel
theorem d_Mo_numberT_40 : decode b_Mo_numberT 40 = .ok (.invokestatic 166, 3) := by decide +kernel
theorem d_Mo_numberT_43 : decode b_Mo_numberT 43 = .ok (.ifCond .ne 12, 3) := by decide +kernel
theorem d_Mo_numberT_46 : decode b_Mo_numberT 46 = .ok (.aload_n 0, 1) := by decide +kernel
theorem d_Mo_numberT_47 : decode b_Mo_numberT 47 = .ok (.aload_n 0, 1) := by decide +kernel
theorem d_Mo_numberT_48 : decode b_Mo_numberT 48 = .ok (.getfield 135, 3) := by decide +kernel
theorem d_Mo_numberT_51 : decode b_Mo_numberT 51 = .ok (.invokevirtual 151, 3) := by decide +kernel
theorem d_Mo_numberT_54 : decode b_Mo_numberT 54 = .ok (.ireturn, 1) := by decide +kernel
theorem d_Mo_numberT_55 : decode b_Mo_numberT 55 = .ok (.lconst 0, 1) := by decide +kernel
theorem d_Mo_numberT_56 : decode b_Mo_numberT 56 = .ok (.lstore 5, 2) := by decide +kernel
theorem d_Mo_numberT_58 : decode b_Mo_numberT 58 = .ok (.aload_n 0, 1) := by decide +kernel
theorem d_Mo_numberT_59 : decode b_Mo_numberT 59 = .ok (.invokevirtual 147, 3) := by decide +kernel
theorem d_Mo_numberT_62 : decode b_Mo_numberT 62 = .ok (.bipush 48, 2) := by decide +kernel
theorem d_Mo_numberT_64 : decode b_Mo_numberT 64 = .ok (.if_icmp .ne 16, 3) := by decide +kernel
theorem d_Mo_numberT_67 : decode b_Mo_numberT 67 = .ok (.aload_n 0, 1) := by decide +kernel
theorem d_Mo_numberT_68 : decode b_Mo_numberT 68 = .ok (.dup, 1) := by decide +kernel
theorem d_Mo_numberT_69 : decode b_Mo_numberT 69 = .ok (.getfield 135, 3) := by decide +kernel
theorem d_Mo_numberT_72 : decode b_Mo_numberT 72 = .ok (.iconst 1, 1) := by decide +kernel
theorem d_Mo_numberT_73 : decode b_Mo_numberT 73 = .ok (.iadd, 1) := by decide +kernel
theorem d_Mo_numberT_74 : decode b_Mo_numberT 74 = .ok (.putfield 135, 3) := by decide +kernel
theorem d_Mo_numberT_77 : decode b_Mo_numberT 77 = .ok (.goto 53, 3) := by decide +kernel
theorem d_Mo_numberT_80 : decode b_Mo_numberT 80 = .ok (.aload_n 0, 1) := by decide +kernel
theorem d_Mo_numberT_81 : decode b_Mo_numberT 81 = .ok (.invokevirtual 147, 3) := by decide +kernel
theorem d_Mo_numberT_84 : decode b_Mo_numberT 84 = .ok (.invokestatic 166, 3) := by decide +kernel
theorem d_Mo_numberT_87 : decode b_Mo_numberT 87 = .ok (.ifCond .eq 43, 3) := by decide +kernel
theorem d_Mo_numberT_90 : decode b_Mo_numberT 90 = .ok (.lload 5, 2) := by decide +kernel
theorem d_Mo_numberT_92 : decode b_Mo_numberT 92 = .ok (.ldc2_w 215, 3) := by decide +kernel
theorem d_Mo_numberT_95 : decode b_Mo_numberT 95 = .ok (.lcmp, 1) := by decide +kernel
theorem d_Mo_numberT_96 : decode b_Mo_numberT 96 = .ok (.ifCond .gt 21, 3) := by decide +kernel
theorem d_Mo_numberT_99 : decode b_Mo_numberT 99 = .ok (.ldc2_w 217, 3) := by decide +kernel
theorem d_Mo_numberT_102 : decode b_Mo_numberT 102 = .ok (.lload 5, 2) := by decide +kernel
theorem d_Mo_numberT_104 : decode b_Mo_numberT 104 = .ok (.lmul, 1) := by decide +kernel
theorem d_Mo_numberT_105 : decode b_Mo_numberT 105 = .ok (.aload_n 0, 1) := by decide +kernel
theorem d_Mo_numberT_106 : decode b_Mo_numberT 106 = .ok (.invokevirtual 147, 3) := by decide +kernel
theorem d_Mo_numberT_109 : decode b_Mo_numberT 109 = .ok (.i2l, 1) := by decide +kernel
theorem d_Mo_numberT_110 : decode b_Mo_numberT 110 = .ok (.ladd, 1) := by decide +kernel
theorem d_Mo_numberT_111 : decode b_Mo_numberT 111 = .ok (.ldc2_w 219, 3) := by decide +kernel
theorem d_Mo_numberT_114 : decode b_Mo_numberT 114 = .ok (.lsub, 1) := by decide +kernel
theorem d_Mo_numberT_115 : decode b_Mo_numberT 115 = .ok (.lstore 5, 2) := by decide +kernel
theorem d_Mo_numberT_117 : decode b_Mo_numberT 117 = .ok (.aload_n 0, 1) := by decide +kernel
theorem d_Mo_numberT_118 : decode b_Mo_numberT 118 = .ok (.dup, 1) := by decide +kernel
theorem d_Mo_numberT_119 : decode b_Mo_numberT 119 = .ok (.getfield 135, 3) := by decide +kernel
theorem d_Mo_numberT_122 : decode b_Mo_numberT 122 = .ok (.iconst 1, 1) := by decide +kernel
theorem d_Mo_numberT_123 : decode b_Mo_numberT 123 = .ok (.iadd, 1) := by decide +kernel
theorem d_Mo_numberT_124 : decode b_Mo_numberT 124 = .ok (.putfield 135, 3) := by decide +kernel
theorem d_Mo_numberT_127 : decode b_Mo_numberT 127 = .ok (.goto (-47), 3) := by decide +kernel
theorem d_Mo_numberT_130 : decode b_Mo_numberT 130 = .ok (.lload 5, 2) := by decide +kernel
theorem d_Mo_numberT_132 : decode b_Mo_numberT 132 = .ok (.ldc2_w 215, 3) := by decide +kernel
theorem d_Mo_numberT_135 : decode b_Mo_numberT 135 = .ok (.lcmp, 1) := by decide +kernel
theorem d_Mo_numberT_136 : decode b_Mo_numberT 136 = .ok (.ifCond .gt 30, 3) := by decide +kernel
theorem d_Mo_numberT_139 : decode b_Mo_numberT 139 = .ok (.aload_n 0, 1) := by decide +kernel
theorem d_Mo_numberT_140 : decode b_Mo_numberT 140 = .ok (.invokevirtual 147, 3) := by decide +kernel
theorem d_Mo_numberT_143 : decode b_Mo_numberT 143 = .ok (.bipush 46, 2) := by decide +kernel
theorem d_Mo_numberT_145 : decode b_Mo_numberT 145 = .ok (.if_icmp .eq 21, 3) := by decide +kernel
theorem d_Mo_numberT_148 : decode b_Mo_numberT 148 = .ok (.aload_n 0, 1) := by decide +kernel
theorem d_Mo_numberT_149 : decode b_Mo_numberT 149 = .ok (.invokevirtual 147, 3) := by decide +kernel
theorem d_Mo_numberT_152 : decode b_Mo_numberT 152 = .ok (.bipush 101, 2) := by decide +kernel
theorem d_Mo_numberT_154 : decode b_Mo_numberT 154 = .ok (.if_icmp .eq 12, 3) := by decide +kernel
theorem d_Mo_numberT_157 : decode b_Mo_numberT 157 = .ok (.aload_n 0, 1) := by decide +kernel
theorem d_Mo_numberT_158 : decode b_Mo_numberT 158 = .ok (.invokevirtual 147, 3) := by decide +kernel
theorem d_Mo_numberT_161 : decode b_Mo_numberT 161 = .ok (.bipush 69, 2) := by decide +kernel
theorem d_Mo_numberT_163 : decode b_Mo_numberT 163 = .ok (.if_icmp .ne 9, 3) := by decide +kernel
theorem d_Mo_numberT_166 : decode b_Mo_numberT 166 = .ok (.aload_n 0, 1) := by decide +kernel
theorem d_Mo_numberT_167 : decode b_Mo_numberT 167 = .ok (.iload_n 3, 1) := by decide +kernel
theorem d_Mo_numberT_168 : decode b_Mo_numberT 168 = .ok (.invokevirtual 151, 3) := by decide +kernel
theorem d_Mo_numberT_171 : decode b_Mo_numberT 171 = .ok (.ireturn, 1) := by decide +kernel
theorem d_Mo_numberT_172 : decode b_Mo_numberT 172 = .ok (.aload_n 1, 1) := by decide +kernel
theorem d_Mo_numberT_173 : decode b_Mo_numberT 173 = .ok (.getfield 68, 3) := by decide +kernel
theorem d_Mo_numberT_176 : decode b_Mo_numberT 176 = .ok (.iload_n 2, 1) := by decide +kernel
theorem d_Mo_numberT_177 : decode b_Mo_numberT 177 = .ok (.iload 4, 2) := by decide +kernel
theorem d_Mo_numberT_179 : decode b_Mo_numberT 179 = .ok (.ifCond .eq 9, 3) := by decide +kernel
theorem d_Mo_numberT_182 : decode b_Mo_numberT 182 = .ok (.lload 5, 2) := by decide +kernel
theorem d_Mo_numberT_184 : decode b_Mo_numberT 184 = .ok (.lneg, 1) := by decide +kernel
theorem d_Mo_numberT_185 : decode b_Mo_numberT 185 = .ok (.goto 5, 3) := by decide +kernel
theorem d_Mo_numberT_188 : decode b_Mo_numberT 188 = .ok (.lload 5, 2) := by decide +kernel
theorem d_Mo_numberT_190 : decode b_Mo_numberT 190 = .ok (.lastore, 1) := by decide +kernel
theorem d_Mo_numberT_191 : decode b_Mo_numberT 191 = .ok (.iconst 1, 1) := by decide +kernel
theorem d_Mo_numberT_192 : decode b_Mo_numberT 192 = .ok (.ireturn, 1) := by decide +kernel
set_option maxHeartbeats 4000000 in
set_option maxRecDepth 100000 in
/-- the reference: number -/
theorem c_Mo_numberT (l : Launch) (dC : Nat → ClassId) (dI : Nat → Nat → Nat) (mo : Nat) (sz : Heap) (v : Nat → Value) (cB cL : ClassId) (qx NN : Nat) (f : Nat → Int32) (n : Nat) (t : Nat) (T : TS) (i : Nat) (br : Int32) (hnN : n ≤ NN) (hNN : NN ≤ 100000) (hi0 : i ≤ n + 12) (h6 : v 6 = .ref qx) (h8 : v 8 = .int (nI n)) (hT : TOK T) (nd : Nat) (hnd : nd < T.ct) : Met l y_Mo_numberT (k_Mo_numberT :: gtbl) ({ frames := 2, cells := 0, slots := 0, locals := 60 }) (va_Pc [.ref mo, .ref t, .int (nI nd)] (mp dC dI [(mo, .inr (13, MF 30 (rf v i br))), (qx, .inl (cB, NN, .inl f)), (t, .inr (12, MF 13 (tw T))), (T.a1, .inl (cL, T.N, .inr (.inl T.nu)))] [(cB, .byte), (cL, .long)] sz)) (va_Qi (fun (r : Int32) (u : Nat × Int32 × (Nat → Int64)) => (r = 1 ∧ ∃ val, numM f n i = some (val, u.1) ∧ u.2.2 = vp_updL T.nu nd val ∧ u.1 ≤ n) ∨ (r = 0 ∧ numM f n i = none ∧ u.2.2 = T.nu ∧ u.1 ≤ n + 30)) (fun u t9 => mz dC dI [(mo, .inr (13, MF 30 (rf v u.1 u.2.1))), (qx, .inl (cB, NN, .inl f)), (t, .inr (12, MF 13 (tw T))), (T.a1, .inl (cL, T.N, .inr (.inl u.2.2)))] [(cB, .byte), (cL, .long)] (va_A [(mo, .inr (13, MF 30 (rf v i br))), (qx, .inl (cB, NN, .inl f)), (t, .inr (12, MF 13 (tw T))), (T.a1, .inl (cL, T.N, .inr (.inl T.nu)))] sz.size) t9) (va_A [(mo, .inr (13, MF 30 (rf v i br))), (qx, .inl (cB, NN, .inl f)), (t, .inr (12, MF 13 (tw T))), (T.a1, .inl (cL, T.N, .inr (.inl T.nu)))] sz.size)) 0 0 (va_A [(mo, .inr (13, MF 30 (rf v i br))), (qx, .inl (cB, NN, .inl f)), (t, .inr (12, MF 13 (tw T))), (T.a1, .inl (cL, T.N, .inr (.inl T.nu)))] sz.size) := by
  refine Met.ofW (cc := b_Mo_numberT) (maxL := 7) (ret := (some .boolean)) (by decide) rfl ?_
  intro p e s m args below meth c s₁ B hml hv
  obtain ⟨rfl, hsz, hP, hK, hD0⟩ := hv
  have hx := B.exec
  have hb := B.bytes
  have hr := B.returns
  have hts0 := atoms_spec (ws := k_Mo_numberT :: gtbl) B.pre
  have hts := fun w h => hts0 w (List.mem_cons_of_mem _ h)
  have hown : s.vm.findClass R_Mo = some m.cls := findClass_of_methodNamed B.named
  have hlocks := B.notSynchronized
  subst hsz
  have hD := hD0.self (sz := s.heap.size)
  generalize hAe : va_A [(mo, .inr (13, MF 30 (rf v i br))), (qx, .inl (cB, NN, .inl f)), (t, .inr (12, MF 13 (tw T))), (T.a1, .inl (cL, T.N, .inr (.inl T.nu)))] s.heap.size = A at hD ⊢
  have hA : ∀ q : Nat, s.heap.size ≤ q → A q := fun q h => by rw [← hAe]; exact Or.inr h
  have hS : va_S A s.heap s.heap [] := va_S.rf
  have hP : va_P (dC, dI) classes [(mo, .inr (13, MF 30 (rf v i br))), (qx, .inl (cB, NN, .inl f)), (t, .inr (12, MF 13 (tw T))), (T.a1, .inl (cL, T.N, .inr (.inl T.nu)))] s.heap := hP
  have hl := lv_entry ([.ref mo, .ref t, .int (nI nd)]) (n := 7) (Nat.le_of_ble_eq_true rfl)
  rw [lg_entry_eq]
  generalize (lg_sl ([.ref mo, .ref t, .int (nI nd)]) ++ List.replicate (7 - (lg_sl ([.ref mo, .ref t, .int (nI nd)])).length) Slot.unset).toArray = ls at hl ⊢
  have hl : lv_has ls 7 [(0, .ref mo), (1, .ref t), (2, .int (nI nd))] := hl
  obtain ⟨ho1, ho2, ho3, ho4, ho5, ho6, ho7⟩ := hT
  refine lv_aload_n hx hb d_Mo_numberT_0 rfl (lv_at hl 0 rfl) ?_
  refine va_get (D := (dC, dI)) (ci := 13) (v := .int (nI i)) (C := R_Mo) (T := F_Mo) (N := 30) hx hb hts in_Mo hown hK hP 0 rfl rfl 7 (by decide) (hts _ w_1096) (fun _ h9 => h9) (MFg (by decide) rf_7) d_Mo_numberT_1 ?_
  refine lv_istore_n (lv' := [(3, .int (nI i)), (0, .ref mo), (1, .ref t), (2, .int (nI nd))]) hx hb d_Mo_numberT_4 rfl hl (by decide) rfl (fun ls hl => ?_)
  refine lv_aload_n hx hb d_Mo_numberT_5 rfl (lv_at hl 1 rfl) ?_
  have hPc := hP.sub (ws' := [(mo, .inr (13, MF 30 (rf v i br))), (qx, .inl (cB, NN, .inl f))]) [0, 1] rfl
  have hDc := hD.sub (ws' := [(mo, .inr (13, MF 30 (rf v i br))), (qx, .inl (cB, NN, .inl f))]) [0, 1] (by decide) rfl
  have hKc := hK.sub (tys' := [(cB, .byte)]) [0] rfl
  have hFc := va_free (wc := [(mo, .inr (13, MF 30 (rf v i br))), (qx, .inl (cB, NN, .inl f))]) hD hS hA [0, 1] rfl
  refine va_calli (va_runV (As := []) (rest := []) ⟨hx, hb, hml, hown, hts⟩ (c_Mo_c l dC dI mo s.heap (rf v i br) cB qx NN f n i (by omega) (by omega) (by omega) ((rf_ne (by decide) (by decide)).trans h6) rf_7 ((rf_ne (by decide) (by decide)).trans h8)) (cwV 0 hts (gt_V (own := R_Mo) (C := R_Mo) (i := 147) (y := y_Mo_c) i_Mo_c w_1233 w_1235 (gt_sel (y := y_Mo_c) (n := 30) (by decide +kernel)) w_7) rfl rfl rfl (by decide +kernel) ⟨Nat.le_of_ble_eq_true rfl, Nat.le_of_ble_eq_true rfl⟩) ⟨mp_blind, va_recv hKc hPc (ci := 13) (q0 := 0) rfl rfl, fun U hU hW => ⟨rfl, hU, by rw [hU]; exact hPc, va_K.moved hW.alike hKc, hDc.weaken (fun _ _ _ _ => trivial)⟩⟩ rfl rfl hl.1 rfl (lv_room (Nat.le_of_ble_eq_true rfl)) d_Mo_numberT_6 ⟨Nat.le_of_ble_eq_true rfl, Nat.le_of_ble_eq_true rfl⟩) hS (fun q _ h => hFc q h) hFc (fun r1 _u t9 H1 locs ht hvm hw hB hz1 hk1 hS => ?_)
  obtain ⟨hP1, hK1, hD1⟩ := hB
  rw [ht] at hP1
  obtain ⟨hP, hD⟩ := va_join (wr := [(t, .inr (12, MF 13 (tw T))), (T.a1, .inl (cL, T.N, .inr (.inl T.nu)))]) (w1 := [(mo, .inr (13, MF 30 (rf v i br))), (qx, .inl (cB, NN, .inl f))]) hP hD [0, 1] [2, 3] rfl rfl (by decide) (by decide) hk1 hFc hP1 hD1
  generalize H1 = H at hP hS ⊢
  have hP : va_P (dC, dI) classes [(t, .inr (12, MF 13 (tw T))), (T.a1, .inl (cL, T.N, .inr (.inl T.nu))), (mo, .inr (13, MF 30 (rf v i br))), (qx, .inl (cB, NN, .inl f))] H := hP
  have hD : va_D A [(t, .inr (12, MF 13 (tw T))), (T.a1, .inl (cL, T.N, .inr (.inl T.nu))), (mo, .inr (13, MF 30 (rf v i br))), (qx, .inl (cB, NN, .inl f))] := hD
  have hP := hP.sub (ws' := [(mo, .inr (13, MF 30 (rf v i br))), (qx, .inl (cB, NN, .inl f)), (t, .inr (12, MF 13 (tw T))), (T.a1, .inl (cL, T.N, .inr (.inl T.nu)))]) [2, 3, 0, 1] rfl
  have hD := hD.sub (ws' := [(mo, .inr (13, MF 30 (rf v i br))), (qx, .inl (cB, NN, .inl f)), (t, .inr (12, MF 13 (tw T))), (T.a1, .inl (cL, T.N, .inr (.inl T.nu)))]) [2, 3, 0, 1] (by decide) rfl
  have h_r1 : r1 = hereV f n i := hw
  refine lv_bipush (v := 45) hx hb d_Mo_numberT_9 (by decide) ?_
  refine lv_icmp_ne (tgt := 18) hx hb d_Mo_numberT_11 (by decide) (fun c11 => ?_) (fun c11 => ?_)
  · refine lv_iconst (v := 0) hx hb d_Mo_numberT_18 (by decide) ?_
    refine lv_istore (lv' := [(4, .int 0), (3, .int (nI i)), (0, .ref mo), (1, .ref t), (2, .int (nI nd))]) hx hb d_Mo_numberT_19 hl (by decide) rfl (fun ls hl => ?_)
    refine lv_iload hx hb d_Mo_numberT_21 (lv_at hl 0 rfl) ?_
    refine lv_if_eq (tgt := 36) hx hb d_Mo_numberT_23 (by decide) (fun _ => ?_) (fun h => absurd (by decide) h)
    refine lv_aload_n hx hb d_Mo_numberT_36 rfl (lv_at hl 2 rfl) ?_
    have hPc := hP.sub (ws' := [(mo, .inr (13, MF 30 (rf v i br))), (qx, .inl (cB, NN, .inl f))]) [0, 1] rfl
    have hDc := hD.sub (ws' := [(mo, .inr (13, MF 30 (rf v i br))), (qx, .inl (cB, NN, .inl f))]) [0, 1] (by decide) rfl
    have hKc := hK.sub (tys' := [(cB, .byte)]) [0] rfl
    have hFc := va_free (wc := [(mo, .inr (13, MF 30 (rf v i br))), (qx, .inl (cB, NN, .inl f))]) hD hS hA [0, 1] rfl
    refine va_calli (va_runV (As := []) (rest := []) ⟨hx, hb, hml, hown, hts⟩ (c_Mo_c l dC dI mo H (rf v i br) cB qx NN f n i (by omega) (by omega) (by omega) ((rf_ne (by decide) (by decide)).trans h6) rf_7 ((rf_ne (by decide) (by decide)).trans h8)) (cwV 0 hts (gt_V (own := R_Mo) (C := R_Mo) (i := 147) (y := y_Mo_c) i_Mo_c w_1233 w_1235 (gt_sel (y := y_Mo_c) (n := 30) (by decide +kernel)) w_7) rfl rfl rfl (by decide +kernel) ⟨Nat.le_of_ble_eq_true rfl, Nat.le_of_ble_eq_true rfl⟩) ⟨mp_blind, va_recv hKc hPc (ci := 13) (q0 := 0) rfl rfl, fun U hU hW => ⟨rfl, hU, by rw [hU]; exact hPc, va_K.moved hW.alike hKc, hDc.weaken (fun _ _ _ _ => trivial)⟩⟩ rfl rfl hl.1 rfl (lv_room (Nat.le_of_ble_eq_true rfl)) d_Mo_numberT_37 ⟨Nat.le_of_ble_eq_true rfl, Nat.le_of_ble_eq_true rfl⟩) hS (fun q _ h => hFc q h) hFc (fun r2 _u t9 H1 locs ht hvm hw hB hz1 hk1 hS => ?_)
    obtain ⟨hP1, hK1, hD1⟩ := hB
    rw [ht] at hP1
    obtain ⟨hP, hD⟩ := va_join (wr := [(t, .inr (12, MF 13 (tw T))), (T.a1, .inl (cL, T.N, .inr (.inl T.nu)))]) (w1 := [(mo, .inr (13, MF 30 (rf v i br))), (qx, .inl (cB, NN, .inl f))]) hP hD [0, 1] [2, 3] rfl rfl (by decide) (by decide) hk1 hFc hP1 hD1
    generalize H1 = H at hP hS ⊢
    have hP : va_P (dC, dI) classes [(t, .inr (12, MF 13 (tw T))), (T.a1, .inl (cL, T.N, .inr (.inl T.nu))), (mo, .inr (13, MF 30 (rf v i br))), (qx, .inl (cB, NN, .inl f))] H := hP
    have hD : va_D A [(t, .inr (12, MF 13 (tw T))), (T.a1, .inl (cL, T.N, .inr (.inl T.nu))), (mo, .inr (13, MF 30 (rf v i br))), (qx, .inl (cB, NN, .inl f))] := hD
    have hP := hP.sub (ws' := [(mo, .inr (13, MF 30 (rf v i br))), (qx, .inl (cB, NN, .inl f)), (t, .inr (12, MF 13 (tw T))), (T.a1, .inl (cL, T.N, .inr (.inl T.nu)))]) [2, 3, 0, 1] rfl
    have hD := hD.sub (ws' := [(mo, .inr (13, MF 30 (rf v i br))), (qx, .inl (cB, NN, .inl f)), (t, .inr (12, MF 13 (tw T))), (T.a1, .inl (cL, T.N, .inr (.inl T.nu)))]) [2, 3, 0, 1] (by decide) rfl
    have h_r2 : r2 = hereV f n i := hw
    have hPc := hP.sub (ws' := []) [] rfl
    have hDc := hD.sub (ws' := []) [] (by decide) rfl
    have hKc := hK.sub (tys' := []) [] rfl
    have hFc := va_free (wc := []) hD hS hA [] rfl
    refine va_calli (va_runS (As := [.int r2]) (rest := []) ⟨hx, hb, hml, hown, hts⟩ (c_Mo_digit l dC dI H r2) (va_cwS 1 hts (gt_S (own := R_Mo) (i := 166) (y := y_Mo_digit) i_Mo_digit w_1332 w_1333 w_7) rfl rfl rfl (by decide +kernel) ⟨Nat.le_of_ble_eq_true rfl, Nat.le_of_ble_eq_true rfl⟩) ⟨mp_blind, fun U hU hW => ⟨rfl, hU, by rw [hU]; exact hPc, va_K.moved hW.alike hKc, hDc.weaken (fun _ _ _ _ => trivial)⟩⟩ rfl rfl hl.1 rfl (lv_room (Nat.le_of_ble_eq_true rfl)) d_Mo_numberT_40 ⟨Nat.le_of_ble_eq_true rfl, Nat.le_of_ble_eq_true rfl⟩) hS (fun q _ h => hFc q h) hFc (fun d2 _u t9 H1 locs ht hvm hw hB hz1 hk1 hS => ?_)
    obtain ⟨hP1, hK1, hD1⟩ := hB
    rw [ht] at hP1
    obtain ⟨hP, hD⟩ := va_join (wr := [(mo, .inr (13, MF 30 (rf v i br))), (qx, .inl (cB, NN, .inl f)), (t, .inr (12, MF 13 (tw T))), (T.a1, .inl (cL, T.N, .inr (.inl T.nu)))]) (w1 := []) hP hD [] [0, 1, 2, 3] rfl rfl (by decide) (by decide) hk1 hFc hP1 hD1
    generalize H1 = H at hP hS ⊢
    have hP : va_P (dC, dI) classes [(mo, .inr (13, MF 30 (rf v i br))), (qx, .inl (cB, NN, .inl f)), (t, .inr (12, MF 13 (tw T))), (T.a1, .inl (cL, T.N, .inr (.inl T.nu)))] H := hP
    have hD : va_D A [(mo, .inr (13, MF 30 (rf v i br))), (qx, .inl (cB, NN, .inl f)), (t, .inr (12, MF 13 (tw T))), (T.a1, .inl (cL, T.N, .inr (.inl T.nu)))] := hD
    have h_d2 := dg_01 hw
    refine lv_if_ne (tgt := 55) hx hb d_Mo_numberT_43 (by decide) (fun c43 => ?_) (fun c43 => ?_)
    · refine lv_lconst (v := 0) hx hb d_Mo_numberT_55 (by decide) ?_
      refine lv_lstore (lv' := [(5, .long 0), (4, .int 0), (3, .int (nI i)), (0, .ref mo), (1, .ref t), (2, .int (nI nd))]) hx hb d_Mo_numberT_56 hl (by decide) rfl (fun ls hl => ?_)
      refine lv_aload_n hx hb d_Mo_numberT_58 rfl (lv_at hl 3 rfl) ?_
      have hPc := hP.sub (ws' := [(mo, .inr (13, MF 30 (rf v i br))), (qx, .inl (cB, NN, .inl f))]) [0, 1] rfl
      have hDc := hD.sub (ws' := [(mo, .inr (13, MF 30 (rf v i br))), (qx, .inl (cB, NN, .inl f))]) [0, 1] (by decide) rfl
      have hKc := hK.sub (tys' := [(cB, .byte)]) [0] rfl
      have hFc := va_free (wc := [(mo, .inr (13, MF 30 (rf v i br))), (qx, .inl (cB, NN, .inl f))]) hD hS hA [0, 1] rfl
      refine va_calli (va_runV (As := []) (rest := []) ⟨hx, hb, hml, hown, hts⟩ (c_Mo_c l dC dI mo H (rf v i br) cB qx NN f n i (by omega) (by omega) (by omega) ((rf_ne (by decide) (by decide)).trans h6) rf_7 ((rf_ne (by decide) (by decide)).trans h8)) (cwV 0 hts (gt_V (own := R_Mo) (C := R_Mo) (i := 147) (y := y_Mo_c) i_Mo_c w_1233 w_1235 (gt_sel (y := y_Mo_c) (n := 30) (by decide +kernel)) w_7) rfl rfl rfl (by decide +kernel) ⟨Nat.le_of_ble_eq_true rfl, Nat.le_of_ble_eq_true rfl⟩) ⟨mp_blind, va_recv hKc hPc (ci := 13) (q0 := 0) rfl rfl, fun U hU hW => ⟨rfl, hU, by rw [hU]; exact hPc, va_K.moved hW.alike hKc, hDc.weaken (fun _ _ _ _ => trivial)⟩⟩ rfl rfl hl.1 rfl (lv_room (Nat.le_of_ble_eq_true rfl)) d_Mo_numberT_59 ⟨Nat.le_of_ble_eq_true rfl, Nat.le_of_ble_eq_true rfl⟩) hS (fun q _ h => hFc q h) hFc (fun r3 _u t9 H1 locs ht hvm hw hB hz1 hk1 hS => ?_)
      obtain ⟨hP1, hK1, hD1⟩ := hB
      rw [ht] at hP1
      obtain ⟨hP, hD⟩ := va_join (wr := [(t, .inr (12, MF 13 (tw T))), (T.a1, .inl (cL, T.N, .inr (.inl T.nu)))]) (w1 := [(mo, .inr (13, MF 30 (rf v i br))), (qx, .inl (cB, NN, .inl f))]) hP hD [0, 1] [2, 3] rfl rfl (by decide) (by decide) hk1 hFc hP1 hD1
      generalize H1 = H at hP hS ⊢
      have hP : va_P (dC, dI) classes [(t, .inr (12, MF 13 (tw T))), (T.a1, .inl (cL, T.N, .inr (.inl T.nu))), (mo, .inr (13, MF 30 (rf v i br))), (qx, .inl (cB, NN, .inl f))] H := hP
      have hD : va_D A [(t, .inr (12, MF 13 (tw T))), (T.a1, .inl (cL, T.N, .inr (.inl T.nu))), (mo, .inr (13, MF 30 (rf v i br))), (qx, .inl (cB, NN, .inl f))] := hD
      have hP := hP.sub (ws' := [(mo, .inr (13, MF 30 (rf v i br))), (qx, .inl (cB, NN, .inl f)), (t, .inr (12, MF 13 (tw T))), (T.a1, .inl (cL, T.N, .inr (.inl T.nu)))]) [2, 3, 0, 1] rfl
      have hD := hD.sub (ws' := [(mo, .inr (13, MF 30 (rf v i br))), (qx, .inl (cB, NN, .inl f)), (t, .inr (12, MF 13 (tw T))), (T.a1, .inl (cL, T.N, .inr (.inl T.nu)))]) [2, 3, 0, 1] (by decide) rfl
      have h_r3 : r3 = hereV f n i := hw
      refine lv_bipush (v := 48) hx hb d_Mo_numberT_62 (by decide) ?_
      refine lv_icmp_ne (tgt := 80) hx hb d_Mo_numberT_64 (by decide) (fun c64 => ?_) (fun c64 => ?_)
      · have hd1 : digH (hereV f n i) := by rw [← h_r2]; exact h_d2.1 c43
        have hlt1 := digH_lt hd1
        refine w_loop (D := (dC, dI)) (cl := classes) (A := A) (H0 := s.heap) (nL := 7) 80 (σ := Nat × Nat × Int64) (fun ⟨k, j, a⟩ => i ≤ j ∧ j ≤ n ∧ n + 1 ≤ k + j ∧ dgM f n k j a = dgM f n (n + 1) i 0) (fun ⟨k, j, a⟩ => n + 1 - j) (fun ⟨k, j, a⟩ => [(mo, .inr (13, MF 30 (rf v j br))), (qx, .inl (cB, NN, .inl f)), (t, .inr (12, MF 13 (tw T))), (T.a1, .inl (cL, T.N, .inr (.inl T.nu)))]) (fun ⟨k, j, a⟩ => [(0, .ref mo), (1, .ref t), (2, .int (nI nd)), (3, .int (nI i)), (4, .int 0), (5, .long a)]) ?_ (n + 1, i, 0) ⟨Nat.le_refl _, by show i ≤ n; omega, by show n + 1 ≤ n + 1 + i; omega, rfl⟩ hP hD hS (lv_sub hl [3, 4, 5, 2, 1, 0] rfl)
        rintro ⟨k, j, a⟩ H locs ls hI ih hP hD hS hl
        have hP : va_P (dC, dI) classes [(mo, .inr (13, MF 30 (rf v j br))), (qx, .inl (cB, NN, .inl f)), (t, .inr (12, MF 13 (tw T))), (T.a1, .inl (cL, T.N, .inr (.inl T.nu)))] H := hP
        have hD : va_D A [(mo, .inr (13, MF 30 (rf v j br))), (qx, .inl (cB, NN, .inl f)), (t, .inr (12, MF 13 (tw T))), (T.a1, .inl (cL, T.N, .inr (.inl T.nu)))] := hD
        have hl : lv_has ls 7 [(0, .ref mo), (1, .ref t), (2, .int (nI nd)), (3, .int (nI i)), (4, .int 0), (5, .long a)] := hl
        obtain ⟨hI1, hI2, hI3, hI4⟩ := hI
        obtain ⟨k0, hk0⟩ : ∃ k0, k = k0 + 1 := ⟨k - 1, by omega⟩
        refine lv_aload_n hx hb d_Mo_numberT_80 rfl (lv_at hl 0 rfl) ?_
        have hPc := hP.sub (ws' := [(mo, .inr (13, MF 30 (rf v j br))), (qx, .inl (cB, NN, .inl f))]) [0, 1] rfl
        have hDc := hD.sub (ws' := [(mo, .inr (13, MF 30 (rf v j br))), (qx, .inl (cB, NN, .inl f))]) [0, 1] (by decide) rfl
        have hKc := hK.sub (tys' := [(cB, .byte)]) [0] rfl
        have hFc := va_free (wc := [(mo, .inr (13, MF 30 (rf v j br))), (qx, .inl (cB, NN, .inl f))]) hD hS hA [0, 1] rfl
        refine va_calli (va_runV (As := []) (rest := []) ⟨hx, hb, hml, hown, hts⟩ (c_Mo_c l dC dI mo H (rf v j br) cB qx NN f n j (by omega) (by omega) (by omega) ((rf_ne (by decide) (by decide)).trans h6) rf_7 ((rf_ne (by decide) (by decide)).trans h8)) (cwV 0 hts (gt_V (own := R_Mo) (C := R_Mo) (i := 147) (y := y_Mo_c) i_Mo_c w_1233 w_1235 (gt_sel (y := y_Mo_c) (n := 30) (by decide +kernel)) w_7) rfl rfl rfl (by decide +kernel) ⟨Nat.le_of_ble_eq_true rfl, Nat.le_of_ble_eq_true rfl⟩) ⟨mp_blind, va_recv hKc hPc (ci := 13) (q0 := 0) rfl rfl, fun U hU hW => ⟨rfl, hU, by rw [hU]; exact hPc, va_K.moved hW.alike hKc, hDc.weaken (fun _ _ _ _ => trivial)⟩⟩ rfl rfl hl.1 rfl (lv_room (Nat.le_of_ble_eq_true rfl)) d_Mo_numberT_81 ⟨Nat.le_of_ble_eq_true rfl, Nat.le_of_ble_eq_true rfl⟩) hS (fun q _ h => hFc q h) hFc (fun r4 _u t9 H1 locs ht hvm hw hB hz1 hk1 hS => ?_)
        obtain ⟨hP1, hK1, hD1⟩ := hB
        rw [ht] at hP1
        obtain ⟨hP, hD⟩ := va_join (wr := [(t, .inr (12, MF 13 (tw T))), (T.a1, .inl (cL, T.N, .inr (.inl T.nu)))]) (w1 := [(mo, .inr (13, MF 30 (rf v j br))), (qx, .inl (cB, NN, .inl f))]) hP hD [0, 1] [2, 3] rfl rfl (by decide) (by decide) hk1 hFc hP1 hD1
        generalize H1 = H at hP hS ⊢
        have hP : va_P (dC, dI) classes [(t, .inr (12, MF 13 (tw T))), (T.a1, .inl (cL, T.N, .inr (.inl T.nu))), (mo, .inr (13, MF 30 (rf v j br))), (qx, .inl (cB, NN, .inl f))] H := hP
        have hD : va_D A [(t, .inr (12, MF 13 (tw T))), (T.a1, .inl (cL, T.N, .inr (.inl T.nu))), (mo, .inr (13, MF 30 (rf v j br))), (qx, .inl (cB, NN, .inl f))] := hD
        have hP := hP.sub (ws' := [(mo, .inr (13, MF 30 (rf v j br))), (qx, .inl (cB, NN, .inl f)), (t, .inr (12, MF 13 (tw T))), (T.a1, .inl (cL, T.N, .inr (.inl T.nu)))]) [2, 3, 0, 1] rfl
        have hD := hD.sub (ws' := [(mo, .inr (13, MF 30 (rf v j br))), (qx, .inl (cB, NN, .inl f)), (t, .inr (12, MF 13 (tw T))), (T.a1, .inl (cL, T.N, .inr (.inl T.nu)))]) [2, 3, 0, 1] (by decide) rfl
        have h_r4 : r4 = hereV f n j := hw
        have hPc := hP.sub (ws' := []) [] rfl
        have hDc := hD.sub (ws' := []) [] (by decide) rfl
        have hKc := hK.sub (tys' := []) [] rfl
        have hFc := va_free (wc := []) hD hS hA [] rfl
        refine va_calli (va_runS (As := [.int r4]) (rest := []) ⟨hx, hb, hml, hown, hts⟩ (c_Mo_digit l dC dI H r4) (va_cwS 1 hts (gt_S (own := R_Mo) (i := 166) (y := y_Mo_digit) i_Mo_digit w_1332 w_1333 w_7) rfl rfl rfl (by decide +kernel) ⟨Nat.le_of_ble_eq_true rfl, Nat.le_of_ble_eq_true rfl⟩) ⟨mp_blind, fun U hU hW => ⟨rfl, hU, by rw [hU]; exact hPc, va_K.moved hW.alike hKc, hDc.weaken (fun _ _ _ _ => trivial)⟩⟩ rfl rfl hl.1 rfl (lv_room (Nat.le_of_ble_eq_true rfl)) d_Mo_numberT_84 ⟨Nat.le_of_ble_eq_true rfl, Nat.le_of_ble_eq_true rfl⟩) hS (fun q _ h => hFc q h) hFc (fun d4 _u t9 H1 locs ht hvm hw hB hz1 hk1 hS => ?_)
        obtain ⟨hP1, hK1, hD1⟩ := hB
        rw [ht] at hP1
        obtain ⟨hP, hD⟩ := va_join (wr := [(mo, .inr (13, MF 30 (rf v j br))), (qx, .inl (cB, NN, .inl f)), (t, .inr (12, MF 13 (tw T))), (T.a1, .inl (cL, T.N, .inr (.inl T.nu)))]) (w1 := []) hP hD [] [0, 1, 2, 3] rfl rfl (by decide) (by decide) hk1 hFc hP1 hD1
        generalize H1 = H at hP hS ⊢
        have hP : va_P (dC, dI) classes [(mo, .inr (13, MF 30 (rf v j br))), (qx, .inl (cB, NN, .inl f)), (t, .inr (12, MF 13 (tw T))), (T.a1, .inl (cL, T.N, .inr (.inl T.nu)))] H := hP
        have hD : va_D A [(mo, .inr (13, MF 30 (rf v j br))), (qx, .inl (cB, NN, .inl f)), (t, .inr (12, MF 13 (tw T))), (T.a1, .inl (cL, T.N, .inr (.inl T.nu)))] := hD
        have h_d4 := dg_01 hw
        refine lv_if_eq (tgt := 130) hx hb d_Mo_numberT_87 (by decide) (fun c87 => ?_) (fun c87 => ?_)
        · have hnd : ¬ digH (hereV f n j) := by rw [← h_r4]; exact h_d4.2 c87
          have hdN : dgN f n i = (a, j) := by
            unfold dgN
            rw [if_neg (fun h => c64 (h_r3.trans h)), ← hI4, hk0]
            simp only [dgM]
            rw [if_neg hnd]
          have hjn : j ≤ n := hI2
          refine lv_lload hx hb d_Mo_numberT_130 (lv_at hl 5 rfl) ?_
          refine lv_ldc2 (v := 9007199254740991) hx hb hown (hts _ w_1343) d_Mo_numberT_132 ?_
          refine W.lcmp hx hb d_Mo_numberT_135 ?_
          refine lv_if_gt (tgt := 166) hx hb d_Mo_numberT_136 (by decide) (fun c136 => ?_) (fun c136 => ?_)
          · refine lv_aload_n hx hb d_Mo_numberT_166 rfl (lv_at hl 0 rfl) ?_
            refine lv_iload_n hx hb d_Mo_numberT_167 rfl (lv_at hl 3 rfl) ?_
            have hPc := hP.sub (ws' := [(mo, .inr (13, MF 30 (rf v j br)))]) [0] rfl
            have hDc := hD.sub (ws' := [(mo, .inr (13, MF 30 (rf v j br)))]) [0] (by decide) rfl
            have hKc := hK.sub (tys' := []) [] rfl
            have hFc := va_free (wc := [(mo, .inr (13, MF 30 (rf v j br)))]) hD hS hA [0] rfl
            refine va_calli (va_runV (As := [.int (nI i)]) (rest := []) ⟨hx, hb, hml, hown, hts⟩ (c_Mo_fail l dC dI mo H (rf v j br) br ((nI i)) rf_9) (cwV 1 hts (gt_V (own := R_Mo) (C := R_Mo) (i := 151) (y := y_Mo_fail) i_Mo_fail w_1250 w_1252 (gt_sel (y := y_Mo_fail) (n := 30) (by decide +kernel)) w_7) rfl rfl rfl (by decide +kernel) ⟨Nat.le_of_ble_eq_true rfl, Nat.le_of_ble_eq_true rfl⟩) ⟨mp_blind, va_recv hKc hPc (ci := 13) (q0 := 0) rfl rfl, fun U hU hW => ⟨rfl, hU, by rw [hU]; exact hPc, va_K.moved hW.alike hKc, hDc.weaken (fun _ _ _ _ => trivial)⟩⟩ rfl rfl hl.1 rfl (lv_room (Nat.le_of_ble_eq_true rfl)) d_Mo_numberT_168 ⟨Nat.le_of_ble_eq_true rfl, Nat.le_of_ble_eq_true rfl⟩) hS (fun q _ h => hFc q h) hFc (fun r0 u2 t9 H1 locs ht hvm hw hB hz1 hk1 hS => ?_)
            obtain ⟨hP1, hK1, hD1⟩ := hB
            rw [ht] at hP1
            obtain ⟨hP, hD⟩ := va_join (wr := [(qx, .inl (cB, NN, .inl f)), (t, .inr (12, MF 13 (tw T))), (T.a1, .inl (cL, T.N, .inr (.inl T.nu)))]) (w1 := [(mo, .inr (13, MF 30 u2))]) hP hD [0] [1, 2, 3] rfl rfl (by decide) (by decide) hk1 hFc hP1 hD1
            generalize H1 = H at hP hS ⊢
            have hP : va_P (dC, dI) classes [(qx, .inl (cB, NN, .inl f)), (t, .inr (12, MF 13 (tw T))), (T.a1, .inl (cL, T.N, .inr (.inl T.nu))), (mo, .inr (13, MF 30 u2))] H := hP
            have hD : va_D A [(qx, .inl (cB, NN, .inl f)), (t, .inr (12, MF 13 (tw T))), (T.a1, .inl (cL, T.N, .inr (.inl T.nu))), (mo, .inr (13, MF 30 u2))] := hD
            have hP := hP.sub (ws' := [(mo, .inr (13, MF 30 u2)), (qx, .inl (cB, NN, .inl f)), (t, .inr (12, MF 13 (tw T))), (T.a1, .inl (cL, T.N, .inr (.inl T.nu)))]) [3, 0, 1, 2] rfl
            have hD := hD.sub (ws' := [(mo, .inr (13, MF 30 u2)), (qx, .inl (cB, NN, .inl f)), (t, .inr (12, MF 13 (tw T))), (T.a1, .inl (cL, T.N, .inr (.inl T.nu)))]) [3, 0, 1, 2] (by decide) rfl
            obtain ⟨b7, h_b7⟩ := rf_fail (v := v) (i := j) (br := br) (b2 := br) (wh := (nI i))
            have hw : r0 = 0 ∧ u2 = _ := hw
            obtain ⟨hw1, hw2⟩ := hw
            rw [h_b7] at hw2
            rw [hw2] at hP hD
            subst hw1
            have hP : va_P (dC, dI) classes [(mo, .inr (13, MF 30 (rf v j b7))), (qx, .inl (cB, NN, .inl f)), (t, .inr (12, MF 13 (tw T))), (T.a1, .inl (cL, T.N, .inr (.inl T.nu)))] H := hP
            have hD : va_D A [(mo, .inr (13, MF 30 (rf v j b7))), (qx, .inl (cB, NN, .inl f)), (t, .inr (12, MF 13 (tw T))), (T.a1, .inl (cL, T.N, .inr (.inl T.nu)))] := hD
            have hfin : numM f n i = none := by unfold numM; rw [if_neg (fun h => c11 (h_r1.trans h))]; unfold nuB; rw [if_neg (fun h => h hd1), hdN, if_pos (Or.inl c136)]
            exact W.zret (v := 0) hx hb hr rfl (fun t9 ht hW => ⟨⟨0, (j, b7, T.nu), rfl, Or.inr ⟨rfl, hfin, rfl, by show j ≤ n + 30; omega⟩, by rw [ht]; exact hP, va_K.moved hW.alike hK, hD⟩, hS.F ht⟩) hS.2.2 d_Mo_numberT_171
          · refine lv_aload_n hx hb d_Mo_numberT_139 rfl (lv_at hl 0 rfl) ?_
            have hPc := hP.sub (ws' := [(mo, .inr (13, MF 30 (rf v j br))), (qx, .inl (cB, NN, .inl f))]) [0, 1] rfl
            have hDc := hD.sub (ws' := [(mo, .inr (13, MF 30 (rf v j br))), (qx, .inl (cB, NN, .inl f))]) [0, 1] (by decide) rfl
            have hKc := hK.sub (tys' := [(cB, .byte)]) [0] rfl
            have hFc := va_free (wc := [(mo, .inr (13, MF 30 (rf v j br))), (qx, .inl (cB, NN, .inl f))]) hD hS hA [0, 1] rfl
            refine va_calli (va_runV (As := []) (rest := []) ⟨hx, hb, hml, hown, hts⟩ (c_Mo_c l dC dI mo H (rf v j br) cB qx NN f n j (by omega) (by omega) (by omega) ((rf_ne (by decide) (by decide)).trans h6) rf_7 ((rf_ne (by decide) (by decide)).trans h8)) (cwV 0 hts (gt_V (own := R_Mo) (C := R_Mo) (i := 147) (y := y_Mo_c) i_Mo_c w_1233 w_1235 (gt_sel (y := y_Mo_c) (n := 30) (by decide +kernel)) w_7) rfl rfl rfl (by decide +kernel) ⟨Nat.le_of_ble_eq_true rfl, Nat.le_of_ble_eq_true rfl⟩) ⟨mp_blind, va_recv hKc hPc (ci := 13) (q0 := 0) rfl rfl, fun U hU hW => ⟨rfl, hU, by rw [hU]; exact hPc, va_K.moved hW.alike hKc, hDc.weaken (fun _ _ _ _ => trivial)⟩⟩ rfl rfl hl.1 rfl (lv_room (Nat.le_of_ble_eq_true rfl)) d_Mo_numberT_140 ⟨Nat.le_of_ble_eq_true rfl, Nat.le_of_ble_eq_true rfl⟩) hS (fun q _ h => hFc q h) hFc (fun r6 _u t9 H1 locs ht hvm hw hB hz1 hk1 hS => ?_)
            obtain ⟨hP1, hK1, hD1⟩ := hB
            rw [ht] at hP1
            obtain ⟨hP, hD⟩ := va_join (wr := [(t, .inr (12, MF 13 (tw T))), (T.a1, .inl (cL, T.N, .inr (.inl T.nu)))]) (w1 := [(mo, .inr (13, MF 30 (rf v j br))), (qx, .inl (cB, NN, .inl f))]) hP hD [0, 1] [2, 3] rfl rfl (by decide) (by decide) hk1 hFc hP1 hD1
            generalize H1 = H at hP hS ⊢
            have hP : va_P (dC, dI) classes [(t, .inr (12, MF 13 (tw T))), (T.a1, .inl (cL, T.N, .inr (.inl T.nu))), (mo, .inr (13, MF 30 (rf v j br))), (qx, .inl (cB, NN, .inl f))] H := hP
            have hD : va_D A [(t, .inr (12, MF 13 (tw T))), (T.a1, .inl (cL, T.N, .inr (.inl T.nu))), (mo, .inr (13, MF 30 (rf v j br))), (qx, .inl (cB, NN, .inl f))] := hD
            have hP := hP.sub (ws' := [(mo, .inr (13, MF 30 (rf v j br))), (qx, .inl (cB, NN, .inl f)), (t, .inr (12, MF 13 (tw T))), (T.a1, .inl (cL, T.N, .inr (.inl T.nu)))]) [2, 3, 0, 1] rfl
            have hD := hD.sub (ws' := [(mo, .inr (13, MF 30 (rf v j br))), (qx, .inl (cB, NN, .inl f)), (t, .inr (12, MF 13 (tw T))), (T.a1, .inl (cL, T.N, .inr (.inl T.nu)))]) [2, 3, 0, 1] (by decide) rfl
            have h_r6 : r6 = hereV f n j := hw
            refine lv_bipush (v := 46) hx hb d_Mo_numberT_143 (by decide) ?_
            refine lv_icmp_eq (tgt := 166) hx hb d_Mo_numberT_145 (by decide) (fun c145 => ?_) (fun c145 => ?_)
            · refine lv_aload_n hx hb d_Mo_numberT_166 rfl (lv_at hl 0 rfl) ?_
              refine lv_iload_n hx hb d_Mo_numberT_167 rfl (lv_at hl 3 rfl) ?_
              have hPc := hP.sub (ws' := [(mo, .inr (13, MF 30 (rf v j br)))]) [0] rfl
              have hDc := hD.sub (ws' := [(mo, .inr (13, MF 30 (rf v j br)))]) [0] (by decide) rfl
              have hKc := hK.sub (tys' := []) [] rfl
              have hFc := va_free (wc := [(mo, .inr (13, MF 30 (rf v j br)))]) hD hS hA [0] rfl
              refine va_calli (va_runV (As := [.int (nI i)]) (rest := []) ⟨hx, hb, hml, hown, hts⟩ (c_Mo_fail l dC dI mo H (rf v j br) br ((nI i)) rf_9) (cwV 1 hts (gt_V (own := R_Mo) (C := R_Mo) (i := 151) (y := y_Mo_fail) i_Mo_fail w_1250 w_1252 (gt_sel (y := y_Mo_fail) (n := 30) (by decide +kernel)) w_7) rfl rfl rfl (by decide +kernel) ⟨Nat.le_of_ble_eq_true rfl, Nat.le_of_ble_eq_true rfl⟩) ⟨mp_blind, va_recv hKc hPc (ci := 13) (q0 := 0) rfl rfl, fun U hU hW => ⟨rfl, hU, by rw [hU]; exact hPc, va_K.moved hW.alike hKc, hDc.weaken (fun _ _ _ _ => trivial)⟩⟩ rfl rfl hl.1 rfl (lv_room (Nat.le_of_ble_eq_true rfl)) d_Mo_numberT_168 ⟨Nat.le_of_ble_eq_true rfl, Nat.le_of_ble_eq_true rfl⟩) hS (fun q _ h => hFc q h) hFc (fun r0 u2 t9 H1 locs ht hvm hw hB hz1 hk1 hS => ?_)
              obtain ⟨hP1, hK1, hD1⟩ := hB
              rw [ht] at hP1
              obtain ⟨hP, hD⟩ := va_join (wr := [(qx, .inl (cB, NN, .inl f)), (t, .inr (12, MF 13 (tw T))), (T.a1, .inl (cL, T.N, .inr (.inl T.nu)))]) (w1 := [(mo, .inr (13, MF 30 u2))]) hP hD [0] [1, 2, 3] rfl rfl (by decide) (by decide) hk1 hFc hP1 hD1
              generalize H1 = H at hP hS ⊢
              have hP : va_P (dC, dI) classes [(qx, .inl (cB, NN, .inl f)), (t, .inr (12, MF 13 (tw T))), (T.a1, .inl (cL, T.N, .inr (.inl T.nu))), (mo, .inr (13, MF 30 u2))] H := hP
              have hD : va_D A [(qx, .inl (cB, NN, .inl f)), (t, .inr (12, MF 13 (tw T))), (T.a1, .inl (cL, T.N, .inr (.inl T.nu))), (mo, .inr (13, MF 30 u2))] := hD
              have hP := hP.sub (ws' := [(mo, .inr (13, MF 30 u2)), (qx, .inl (cB, NN, .inl f)), (t, .inr (12, MF 13 (tw T))), (T.a1, .inl (cL, T.N, .inr (.inl T.nu)))]) [3, 0, 1, 2] rfl
              have hD := hD.sub (ws' := [(mo, .inr (13, MF 30 u2)), (qx, .inl (cB, NN, .inl f)), (t, .inr (12, MF 13 (tw T))), (T.a1, .inl (cL, T.N, .inr (.inl T.nu)))]) [3, 0, 1, 2] (by decide) rfl
              obtain ⟨b7, h_b7⟩ := rf_fail (v := v) (i := j) (br := br) (b2 := br) (wh := (nI i))
              have hw : r0 = 0 ∧ u2 = _ := hw
              obtain ⟨hw1, hw2⟩ := hw
              rw [h_b7] at hw2
              rw [hw2] at hP hD
              subst hw1
              have hP : va_P (dC, dI) classes [(mo, .inr (13, MF 30 (rf v j b7))), (qx, .inl (cB, NN, .inl f)), (t, .inr (12, MF 13 (tw T))), (T.a1, .inl (cL, T.N, .inr (.inl T.nu)))] H := hP
              have hD : va_D A [(mo, .inr (13, MF 30 (rf v j b7))), (qx, .inl (cB, NN, .inl f)), (t, .inr (12, MF 13 (tw T))), (T.a1, .inl (cL, T.N, .inr (.inl T.nu)))] := hD
              have hfin : numM f n i = none := by unfold numM; rw [if_neg (fun h => c11 (h_r1.trans h))]; unfold nuB; rw [if_neg (fun h => h hd1), hdN, if_pos (Or.inr (Or.inl (h_r6.symm.trans c145)))]
              exact W.zret (v := 0) hx hb hr rfl (fun t9 ht hW => ⟨⟨0, (j, b7, T.nu), rfl, Or.inr ⟨rfl, hfin, rfl, by show j ≤ n + 30; omega⟩, by rw [ht]; exact hP, va_K.moved hW.alike hK, hD⟩, hS.F ht⟩) hS.2.2 d_Mo_numberT_171
            · refine lv_aload_n hx hb d_Mo_numberT_148 rfl (lv_at hl 0 rfl) ?_
              have hPc := hP.sub (ws' := [(mo, .inr (13, MF 30 (rf v j br))), (qx, .inl (cB, NN, .inl f))]) [0, 1] rfl
              have hDc := hD.sub (ws' := [(mo, .inr (13, MF 30 (rf v j br))), (qx, .inl (cB, NN, .inl f))]) [0, 1] (by decide) rfl
              have hKc := hK.sub (tys' := [(cB, .byte)]) [0] rfl
              have hFc := va_free (wc := [(mo, .inr (13, MF 30 (rf v j br))), (qx, .inl (cB, NN, .inl f))]) hD hS hA [0, 1] rfl
              refine va_calli (va_runV (As := []) (rest := []) ⟨hx, hb, hml, hown, hts⟩ (c_Mo_c l dC dI mo H (rf v j br) cB qx NN f n j (by omega) (by omega) (by omega) ((rf_ne (by decide) (by decide)).trans h6) rf_7 ((rf_ne (by decide) (by decide)).trans h8)) (cwV 0 hts (gt_V (own := R_Mo) (C := R_Mo) (i := 147) (y := y_Mo_c) i_Mo_c w_1233 w_1235 (gt_sel (y := y_Mo_c) (n := 30) (by decide +kernel)) w_7) rfl rfl rfl (by decide +kernel) ⟨Nat.le_of_ble_eq_true rfl, Nat.le_of_ble_eq_true rfl⟩) ⟨mp_blind, va_recv hKc hPc (ci := 13) (q0 := 0) rfl rfl, fun U hU hW => ⟨rfl, hU, by rw [hU]; exact hPc, va_K.moved hW.alike hKc, hDc.weaken (fun _ _ _ _ => trivial)⟩⟩ rfl rfl hl.1 rfl (lv_room (Nat.le_of_ble_eq_true rfl)) d_Mo_numberT_149 ⟨Nat.le_of_ble_eq_true rfl, Nat.le_of_ble_eq_true rfl⟩) hS (fun q _ h => hFc q h) hFc (fun r7 _u t9 H1 locs ht hvm hw hB hz1 hk1 hS => ?_)
              obtain ⟨hP1, hK1, hD1⟩ := hB
              rw [ht] at hP1
              obtain ⟨hP, hD⟩ := va_join (wr := [(t, .inr (12, MF 13 (tw T))), (T.a1, .inl (cL, T.N, .inr (.inl T.nu)))]) (w1 := [(mo, .inr (13, MF 30 (rf v j br))), (qx, .inl (cB, NN, .inl f))]) hP hD [0, 1] [2, 3] rfl rfl (by decide) (by decide) hk1 hFc hP1 hD1
              generalize H1 = H at hP hS ⊢
              have hP : va_P (dC, dI) classes [(t, .inr (12, MF 13 (tw T))), (T.a1, .inl (cL, T.N, .inr (.inl T.nu))), (mo, .inr (13, MF 30 (rf v j br))), (qx, .inl (cB, NN, .inl f))] H := hP
              have hD : va_D A [(t, .inr (12, MF 13 (tw T))), (T.a1, .inl (cL, T.N, .inr (.inl T.nu))), (mo, .inr (13, MF 30 (rf v j br))), (qx, .inl (cB, NN, .inl f))] := hD
              have hP := hP.sub (ws' := [(mo, .inr (13, MF 30 (rf v j br))), (qx, .inl (cB, NN, .inl f)), (t, .inr (12, MF 13 (tw T))), (T.a1, .inl (cL, T.N, .inr (.inl T.nu)))]) [2, 3, 0, 1] rfl
              have hD := hD.sub (ws' := [(mo, .inr (13, MF 30 (rf v j br))), (qx, .inl (cB, NN, .inl f)), (t, .inr (12, MF 13 (tw T))), (T.a1, .inl (cL, T.N, .inr (.inl T.nu)))]) [2, 3, 0, 1] (by decide) rfl
              have h_r7 : r7 = hereV f n j := hw
              refine lv_bipush (v := 101) hx hb d_Mo_numberT_152 (by decide) ?_
              refine lv_icmp_eq (tgt := 166) hx hb d_Mo_numberT_154 (by decide) (fun c154 => ?_) (fun c154 => ?_)
              · refine lv_aload_n hx hb d_Mo_numberT_166 rfl (lv_at hl 0 rfl) ?_
                refine lv_iload_n hx hb d_Mo_numberT_167 rfl (lv_at hl 3 rfl) ?_
                have hPc := hP.sub (ws' := [(mo, .inr (13, MF 30 (rf v j br)))]) [0] rfl
                have hDc := hD.sub (ws' := [(mo, .inr (13, MF 30 (rf v j br)))]) [0] (by decide) rfl
                have hKc := hK.sub (tys' := []) [] rfl
                have hFc := va_free (wc := [(mo, .inr (13, MF 30 (rf v j br)))]) hD hS hA [0] rfl
                refine va_calli (va_runV (As := [.int (nI i)]) (rest := []) ⟨hx, hb, hml, hown, hts⟩ (c_Mo_fail l dC dI mo H (rf v j br) br ((nI i)) rf_9) (cwV 1 hts (gt_V (own := R_Mo) (C := R_Mo) (i := 151) (y := y_Mo_fail) i_Mo_fail w_1250 w_1252 (gt_sel (y := y_Mo_fail) (n := 30) (by decide +kernel)) w_7) rfl rfl rfl (by decide +kernel) ⟨Nat.le_of_ble_eq_true rfl, Nat.le_of_ble_eq_true rfl⟩) ⟨mp_blind, va_recv hKc hPc (ci := 13) (q0 := 0) rfl rfl, fun U hU hW => ⟨rfl, hU, by rw [hU]; exact hPc, va_K.moved hW.alike hKc, hDc.weaken (fun _ _ _ _ => trivial)⟩⟩ rfl rfl hl.1 rfl (lv_room (Nat.le_of_ble_eq_true rfl)) d_Mo_numberT_168 ⟨Nat.le_of_ble_eq_true rfl, Nat.le_of_ble_eq_true rfl⟩) hS (fun q _ h => hFc q h) hFc (fun r0 u2 t9 H1 locs ht hvm hw hB hz1 hk1 hS => ?_)
                obtain ⟨hP1, hK1, hD1⟩ := hB
                rw [ht] at hP1
                obtain ⟨hP, hD⟩ := va_join (wr := [(qx, .inl (cB, NN, .inl f)), (t, .inr (12, MF 13 (tw T))), (T.a1, .inl (cL, T.N, .inr (.inl T.nu)))]) (w1 := [(mo, .inr (13, MF 30 u2))]) hP hD [0] [1, 2, 3] rfl rfl (by decide) (by decide) hk1 hFc hP1 hD1
                generalize H1 = H at hP hS ⊢
                have hP : va_P (dC, dI) classes [(qx, .inl (cB, NN, .inl f)), (t, .inr (12, MF 13 (tw T))), (T.a1, .inl (cL, T.N, .inr (.inl T.nu))), (mo, .inr (13, MF 30 u2))] H := hP
                have hD : va_D A [(qx, .inl (cB, NN, .inl f)), (t, .inr (12, MF 13 (tw T))), (T.a1, .inl (cL, T.N, .inr (.inl T.nu))), (mo, .inr (13, MF 30 u2))] := hD
                have hP := hP.sub (ws' := [(mo, .inr (13, MF 30 u2)), (qx, .inl (cB, NN, .inl f)), (t, .inr (12, MF 13 (tw T))), (T.a1, .inl (cL, T.N, .inr (.inl T.nu)))]) [3, 0, 1, 2] rfl
                have hD := hD.sub (ws' := [(mo, .inr (13, MF 30 u2)), (qx, .inl (cB, NN, .inl f)), (t, .inr (12, MF 13 (tw T))), (T.a1, .inl (cL, T.N, .inr (.inl T.nu)))]) [3, 0, 1, 2] (by decide) rfl
                obtain ⟨b7, h_b7⟩ := rf_fail (v := v) (i := j) (br := br) (b2 := br) (wh := (nI i))
                have hw : r0 = 0 ∧ u2 = _ := hw
                obtain ⟨hw1, hw2⟩ := hw
                rw [h_b7] at hw2
                rw [hw2] at hP hD
                subst hw1
                have hP : va_P (dC, dI) classes [(mo, .inr (13, MF 30 (rf v j b7))), (qx, .inl (cB, NN, .inl f)), (t, .inr (12, MF 13 (tw T))), (T.a1, .inl (cL, T.N, .inr (.inl T.nu)))] H := hP
                have hD : va_D A [(mo, .inr (13, MF 30 (rf v j b7))), (qx, .inl (cB, NN, .inl f)), (t, .inr (12, MF 13 (tw T))), (T.a1, .inl (cL, T.N, .inr (.inl T.nu)))] := hD
                have hfin : numM f n i = none := by unfold numM; rw [if_neg (fun h => c11 (h_r1.trans h))]; unfold nuB; rw [if_neg (fun h => h hd1), hdN, if_pos (Or.inr (Or.inr (Or.inl (h_r7.symm.trans c154))))]
                exact W.zret (v := 0) hx hb hr rfl (fun t9 ht hW => ⟨⟨0, (j, b7, T.nu), rfl, Or.inr ⟨rfl, hfin, rfl, by show j ≤ n + 30; omega⟩, by rw [ht]; exact hP, va_K.moved hW.alike hK, hD⟩, hS.F ht⟩) hS.2.2 d_Mo_numberT_171
              · refine lv_aload_n hx hb d_Mo_numberT_157 rfl (lv_at hl 0 rfl) ?_
                have hPc := hP.sub (ws' := [(mo, .inr (13, MF 30 (rf v j br))), (qx, .inl (cB, NN, .inl f))]) [0, 1] rfl
                have hDc := hD.sub (ws' := [(mo, .inr (13, MF 30 (rf v j br))), (qx, .inl (cB, NN, .inl f))]) [0, 1] (by decide) rfl
                have hKc := hK.sub (tys' := [(cB, .byte)]) [0] rfl
                have hFc := va_free (wc := [(mo, .inr (13, MF 30 (rf v j br))), (qx, .inl (cB, NN, .inl f))]) hD hS hA [0, 1] rfl
                refine va_calli (va_runV (As := []) (rest := []) ⟨hx, hb, hml, hown, hts⟩ (c_Mo_c l dC dI mo H (rf v j br) cB qx NN f n j (by omega) (by omega) (by omega) ((rf_ne (by decide) (by decide)).trans h6) rf_7 ((rf_ne (by decide) (by decide)).trans h8)) (cwV 0 hts (gt_V (own := R_Mo) (C := R_Mo) (i := 147) (y := y_Mo_c) i_Mo_c w_1233 w_1235 (gt_sel (y := y_Mo_c) (n := 30) (by decide +kernel)) w_7) rfl rfl rfl (by decide +kernel) ⟨Nat.le_of_ble_eq_true rfl, Nat.le_of_ble_eq_true rfl⟩) ⟨mp_blind, va_recv hKc hPc (ci := 13) (q0 := 0) rfl rfl, fun U hU hW => ⟨rfl, hU, by rw [hU]; exact hPc, va_K.moved hW.alike hKc, hDc.weaken (fun _ _ _ _ => trivial)⟩⟩ rfl rfl hl.1 rfl (lv_room (Nat.le_of_ble_eq_true rfl)) d_Mo_numberT_158 ⟨Nat.le_of_ble_eq_true rfl, Nat.le_of_ble_eq_true rfl⟩) hS (fun q _ h => hFc q h) hFc (fun r8 _u t9 H1 locs ht hvm hw hB hz1 hk1 hS => ?_)
                obtain ⟨hP1, hK1, hD1⟩ := hB
                rw [ht] at hP1
                obtain ⟨hP, hD⟩ := va_join (wr := [(t, .inr (12, MF 13 (tw T))), (T.a1, .inl (cL, T.N, .inr (.inl T.nu)))]) (w1 := [(mo, .inr (13, MF 30 (rf v j br))), (qx, .inl (cB, NN, .inl f))]) hP hD [0, 1] [2, 3] rfl rfl (by decide) (by decide) hk1 hFc hP1 hD1
                generalize H1 = H at hP hS ⊢
                have hP : va_P (dC, dI) classes [(t, .inr (12, MF 13 (tw T))), (T.a1, .inl (cL, T.N, .inr (.inl T.nu))), (mo, .inr (13, MF 30 (rf v j br))), (qx, .inl (cB, NN, .inl f))] H := hP
                have hD : va_D A [(t, .inr (12, MF 13 (tw T))), (T.a1, .inl (cL, T.N, .inr (.inl T.nu))), (mo, .inr (13, MF 30 (rf v j br))), (qx, .inl (cB, NN, .inl f))] := hD
                have hP := hP.sub (ws' := [(mo, .inr (13, MF 30 (rf v j br))), (qx, .inl (cB, NN, .inl f)), (t, .inr (12, MF 13 (tw T))), (T.a1, .inl (cL, T.N, .inr (.inl T.nu)))]) [2, 3, 0, 1] rfl
                have hD := hD.sub (ws' := [(mo, .inr (13, MF 30 (rf v j br))), (qx, .inl (cB, NN, .inl f)), (t, .inr (12, MF 13 (tw T))), (T.a1, .inl (cL, T.N, .inr (.inl T.nu)))]) [2, 3, 0, 1] (by decide) rfl
                have h_r8 : r8 = hereV f n j := hw
                refine lv_bipush (v := 69) hx hb d_Mo_numberT_161 (by decide) ?_
                refine lv_icmp_ne (tgt := 172) hx hb d_Mo_numberT_163 (by decide) (fun c163 => ?_) (fun c163 => ?_)
                · refine lv_aload_n hx hb d_Mo_numberT_172 rfl (lv_at hl 1 rfl) ?_
                  refine va_get (D := (dC, dI)) (ci := 12) (v := .ref T.a1) (C := R_Tree) (T := F_Tree) (N := 13) hx hb hts in_Tree hown hK hP 2 rfl rfl 1 (by decide) (hts _ w_1037) (fun _ h9 => h9) (MFg (by decide) rfl) d_Mo_numberT_173 ?_
                  refine lv_iload_n hx hb d_Mo_numberT_176 rfl (lv_at hl 2 rfl) ?_
                  refine lv_iload hx hb d_Mo_numberT_177 (lv_at hl 4 rfl) ?_
                  refine lv_if_eq (tgt := 188) hx hb d_Mo_numberT_179 (by decide) (fun _ => ?_) (fun h => absurd (by decide) h)
                  refine lv_lload hx hb d_Mo_numberT_188 (lv_at hl 5 rfl) ?_
                  refine va_last hx hb hK hP hD hS 3 1 rfl rfl (vp_in_nI (show nd < T.N by omega) (by omega)) d_Mo_numberT_190 (fun H locs hP hD hS => ?_)
                  rw [show (nI nd).toNatClampNeg = nd from nI_clamp (by omega)] at hP hD
                  have hP : va_P (dC, dI) classes [(mo, .inr (13, MF 30 (rf v j br))), (qx, .inl (cB, NN, .inl f)), (t, .inr (12, MF 13 (tw T))), (T.a1, .inl (cL, T.N, .inr (.inl (vp_updL T.nu nd a))))] H := hP
                  have hD : va_D A [(mo, .inr (13, MF 30 (rf v j br))), (qx, .inl (cB, NN, .inl f)), (t, .inr (12, MF 13 (tw T))), (T.a1, .inl (cL, T.N, .inr (.inl (vp_updL T.nu nd a))))] := hD
                  refine lv_iconst (v := 1) hx hb d_Mo_numberT_191 (by decide) ?_
                  have hfin : numM f n i = some (a, j) := by unfold numM; rw [if_neg (fun h => c11 (h_r1.trans h))]; unfold nuB; rw [if_neg (fun h => h hd1), hdN, if_neg (fun h => h.elim c136 (fun h => h.elim (fun h => c145 (h_r6.trans h)) (fun h => h.elim (fun h => c154 (h_r7.trans h)) (fun h => c163 (h_r8.trans h)))))]; rfl
                  exact W.zret (v := 1) hx hb hr rfl (fun t9 ht hW => ⟨⟨1, (j, br, vp_updL T.nu nd a), rfl, Or.inl ⟨rfl, a, hfin, rfl, hjn⟩, by rw [ht]; exact hP, va_K.moved hW.alike hK, hD⟩, hS.F ht⟩) hS.2.2 d_Mo_numberT_192
                · refine lv_aload_n hx hb d_Mo_numberT_166 rfl (lv_at hl 0 rfl) ?_
                  refine lv_iload_n hx hb d_Mo_numberT_167 rfl (lv_at hl 3 rfl) ?_
                  have hPc := hP.sub (ws' := [(mo, .inr (13, MF 30 (rf v j br)))]) [0] rfl
                  have hDc := hD.sub (ws' := [(mo, .inr (13, MF 30 (rf v j br)))]) [0] (by decide) rfl
                  have hKc := hK.sub (tys' := []) [] rfl
                  have hFc := va_free (wc := [(mo, .inr (13, MF 30 (rf v j br)))]) hD hS hA [0] rfl
                  refine va_calli (va_runV (As := [.int (nI i)]) (rest := []) ⟨hx, hb, hml, hown, hts⟩ (c_Mo_fail l dC dI mo H (rf v j br) br ((nI i)) rf_9) (cwV 1 hts (gt_V (own := R_Mo) (C := R_Mo) (i := 151) (y := y_Mo_fail) i_Mo_fail w_1250 w_1252 (gt_sel (y := y_Mo_fail) (n := 30) (by decide +kernel)) w_7) rfl rfl rfl (by decide +kernel) ⟨Nat.le_of_ble_eq_true rfl, Nat.le_of_ble_eq_true rfl⟩) ⟨mp_blind, va_recv hKc hPc (ci := 13) (q0 := 0) rfl rfl, fun U hU hW => ⟨rfl, hU, by rw [hU]; exact hPc, va_K.moved hW.alike hKc, hDc.weaken (fun _ _ _ _ => trivial)⟩⟩ rfl rfl hl.1 rfl (lv_room (Nat.le_of_ble_eq_true rfl)) d_Mo_numberT_168 ⟨Nat.le_of_ble_eq_true rfl, Nat.le_of_ble_eq_true rfl⟩) hS (fun q _ h => hFc q h) hFc (fun r0 u2 t9 H1 locs ht hvm hw hB hz1 hk1 hS => ?_)
                  obtain ⟨hP1, hK1, hD1⟩ := hB
                  rw [ht] at hP1
                  obtain ⟨hP, hD⟩ := va_join (wr := [(qx, .inl (cB, NN, .inl f)), (t, .inr (12, MF 13 (tw T))), (T.a1, .inl (cL, T.N, .inr (.inl T.nu)))]) (w1 := [(mo, .inr (13, MF 30 u2))]) hP hD [0] [1, 2, 3] rfl rfl (by decide) (by decide) hk1 hFc hP1 hD1
                  generalize H1 = H at hP hS ⊢
                  have hP : va_P (dC, dI) classes [(qx, .inl (cB, NN, .inl f)), (t, .inr (12, MF 13 (tw T))), (T.a1, .inl (cL, T.N, .inr (.inl T.nu))), (mo, .inr (13, MF 30 u2))] H := hP
                  have hD : va_D A [(qx, .inl (cB, NN, .inl f)), (t, .inr (12, MF 13 (tw T))), (T.a1, .inl (cL, T.N, .inr (.inl T.nu))), (mo, .inr (13, MF 30 u2))] := hD
                  have hP := hP.sub (ws' := [(mo, .inr (13, MF 30 u2)), (qx, .inl (cB, NN, .inl f)), (t, .inr (12, MF 13 (tw T))), (T.a1, .inl (cL, T.N, .inr (.inl T.nu)))]) [3, 0, 1, 2] rfl
                  have hD := hD.sub (ws' := [(mo, .inr (13, MF 30 u2)), (qx, .inl (cB, NN, .inl f)), (t, .inr (12, MF 13 (tw T))), (T.a1, .inl (cL, T.N, .inr (.inl T.nu)))]) [3, 0, 1, 2] (by decide) rfl
                  obtain ⟨b7, h_b7⟩ := rf_fail (v := v) (i := j) (br := br) (b2 := br) (wh := (nI i))
                  have hw : r0 = 0 ∧ u2 = _ := hw
                  obtain ⟨hw1, hw2⟩ := hw
                  rw [h_b7] at hw2
                  rw [hw2] at hP hD
                  subst hw1
                  have hP : va_P (dC, dI) classes [(mo, .inr (13, MF 30 (rf v j b7))), (qx, .inl (cB, NN, .inl f)), (t, .inr (12, MF 13 (tw T))), (T.a1, .inl (cL, T.N, .inr (.inl T.nu)))] H := hP
                  have hD : va_D A [(mo, .inr (13, MF 30 (rf v j b7))), (qx, .inl (cB, NN, .inl f)), (t, .inr (12, MF 13 (tw T))), (T.a1, .inl (cL, T.N, .inr (.inl T.nu)))] := hD
                  have hfin : numM f n i = none := by unfold numM; rw [if_neg (fun h => c11 (h_r1.trans h))]; unfold nuB; rw [if_neg (fun h => h hd1), hdN, if_pos (Or.inr (Or.inr (Or.inr (h_r8.symm.trans c163))))]
                  exact W.zret (v := 0) hx hb hr rfl (fun t9 ht hW => ⟨⟨0, (j, b7, T.nu), rfl, Or.inr ⟨rfl, hfin, rfl, by show j ≤ n + 30; omega⟩, by rw [ht]; exact hP, va_K.moved hW.alike hK, hD⟩, hS.F ht⟩) hS.2.2 d_Mo_numberT_171
        · refine lv_lload hx hb d_Mo_numberT_90 (lv_at hl 5 rfl) ?_
          refine lv_ldc2 (v := 9007199254740991) hx hb hown (hts _ w_1343) d_Mo_numberT_92 ?_
          refine W.lcmp hx hb d_Mo_numberT_95 ?_
          refine lv_if_gt (tgt := 117) hx hb d_Mo_numberT_96 (by decide) (fun c96 => ?_) (fun c96 => ?_)
          · refine lv_aload_n hx hb d_Mo_numberT_117 rfl (lv_at hl 0 rfl) ?_
            refine lv_dup hx hb d_Mo_numberT_118 rfl ?_
            refine va_get (D := (dC, dI)) (ci := 13) (v := .int (nI j)) (C := R_Mo) (T := F_Mo) (N := 30) hx hb hts in_Mo hown hK hP 0 rfl rfl 7 (by decide) (hts _ w_1096) (fun _ h9 => h9) (MFg (by decide) rf_7) d_Mo_numberT_119 ?_
            refine lv_iconst (v := 1) hx hb d_Mo_numberT_122 (by decide) ?_
            refine lv_iadd hx hb d_Mo_numberT_123 ?_
            refine W.eq (g2 := F0 m 124 ls [.int (nI (j + 1)), .ref mo]) (by rw [show ((nI j) + 1) = (nI (j + 1)) from nI_1 _]) ?_
            refine va_put (D := (dC, dI)) (ci := 13) (v := .int (nI (j + 1))) (ty := .int) (C := R_Mo) (T := F_Mo) (N := 30) hx hb hts in_Mo t_Mo t_Mo_ok n_Mo hown hK hP hD hS 0 rfl rfl 7 (by decide) (hts _ w_1096) (fun _ h9 => h9) rfl (by decide +kernel) rfl rfl (by rw [MFl]; decide) d_Mo_numberT_124 (fun H locs hP hD hS => ?_)
            rw [MFs (n := 30) (k := 7) (by decide)] at hP hD
            have hP : va_P (dC, dI) classes [(mo, .inr (13, MF 30 (va_up (rf v j br) 7 (.int (nI (j + 1)))))), (qx, .inl (cB, NN, .inl f)), (t, .inr (12, MF 13 (tw T))), (T.a1, .inl (cL, T.N, .inr (.inl T.nu)))] H := hP
            have hD : va_D A [(mo, .inr (13, MF 30 (va_up (rf v j br) 7 (.int (nI (j + 1)))))), (qx, .inl (cB, NN, .inl f)), (t, .inr (12, MF 13 (tw T))), (T.a1, .inl (cL, T.N, .inr (.inl T.nu)))] := hD
            rw [rf_u7] at hP hD
            have hP : va_P (dC, dI) classes [(mo, .inr (13, MF 30 (rf v (j + 1) br))), (qx, .inl (cB, NN, .inl f)), (t, .inr (12, MF 13 (tw T))), (T.a1, .inl (cL, T.N, .inr (.inl T.nu)))] H := hP
            have hD : va_D A [(mo, .inr (13, MF 30 (rf v (j + 1) br))), (qx, .inl (cB, NN, .inl f)), (t, .inr (12, MF 13 (tw T))), (T.a1, .inl (cL, T.N, .inr (.inl T.nu)))] := hD
            refine lv_goto (tgt := 80) hx hb d_Mo_numberT_127 (by decide) ?_
            have hdj : digH (hereV f n j) := by rw [← h_r4]; exact h_d4.1 c87
            have hltj := digH_lt hdj
            have hst : dgM f n k0 (j + 1) (a) = dgM f n (n + 1) i 0 := by
              rw [← hI4, hk0]
              simp only [dgM]
              rw [if_pos hdj, if_pos c96]
            exact ih (k0, j + 1, a) _ _ _ ⟨by omega, by omega, by omega, hst⟩ (by show n + 1 - (j + 1) < n + 1 - j; omega) hP hD hS (lv_sub hl [0, 1, 2, 3, 4, 5] rfl)
          · refine lv_ldc2 (v := 10) hx hb hown (hts _ w_1344) d_Mo_numberT_99 ?_
            refine lv_lload hx hb d_Mo_numberT_102 (lv_at hl 5 rfl) ?_
            refine lv_lmul hx hb d_Mo_numberT_104 ?_
            refine lv_aload_n hx hb d_Mo_numberT_105 rfl (lv_at hl 0 rfl) ?_
            have hPc := hP.sub (ws' := [(mo, .inr (13, MF 30 (rf v j br))), (qx, .inl (cB, NN, .inl f))]) [0, 1] rfl
            have hDc := hD.sub (ws' := [(mo, .inr (13, MF 30 (rf v j br))), (qx, .inl (cB, NN, .inl f))]) [0, 1] (by decide) rfl
            have hKc := hK.sub (tys' := [(cB, .byte)]) [0] rfl
            have hFc := va_free (wc := [(mo, .inr (13, MF 30 (rf v j br))), (qx, .inl (cB, NN, .inl f))]) hD hS hA [0, 1] rfl
            refine va_calli (va_runV (As := []) (rest := [.long (10 * a)]) ⟨hx, hb, hml, hown, hts⟩ (c_Mo_c l dC dI mo H (rf v j br) cB qx NN f n j (by omega) (by omega) (by omega) ((rf_ne (by decide) (by decide)).trans h6) rf_7 ((rf_ne (by decide) (by decide)).trans h8)) (cwV 0 hts (gt_V (own := R_Mo) (C := R_Mo) (i := 147) (y := y_Mo_c) i_Mo_c w_1233 w_1235 (gt_sel (y := y_Mo_c) (n := 30) (by decide +kernel)) w_7) rfl rfl rfl (by decide +kernel) ⟨Nat.le_of_ble_eq_true rfl, Nat.le_of_ble_eq_true rfl⟩) ⟨mp_blind, va_recv hKc hPc (ci := 13) (q0 := 0) rfl rfl, fun U hU hW => ⟨rfl, hU, by rw [hU]; exact hPc, va_K.moved hW.alike hKc, hDc.weaken (fun _ _ _ _ => trivial)⟩⟩ rfl rfl hl.1 rfl (lv_room (Nat.le_of_ble_eq_true rfl)) d_Mo_numberT_106 ⟨Nat.le_of_ble_eq_true rfl, Nat.le_of_ble_eq_true rfl⟩) hS (fun q _ h => hFc q h) hFc (fun r5 _u t9 H1 locs ht hvm hw hB hz1 hk1 hS => ?_)
            obtain ⟨hP1, hK1, hD1⟩ := hB
            rw [ht] at hP1
            obtain ⟨hP, hD⟩ := va_join (wr := [(t, .inr (12, MF 13 (tw T))), (T.a1, .inl (cL, T.N, .inr (.inl T.nu)))]) (w1 := [(mo, .inr (13, MF 30 (rf v j br))), (qx, .inl (cB, NN, .inl f))]) hP hD [0, 1] [2, 3] rfl rfl (by decide) (by decide) hk1 hFc hP1 hD1
            generalize H1 = H at hP hS ⊢
            have hP : va_P (dC, dI) classes [(t, .inr (12, MF 13 (tw T))), (T.a1, .inl (cL, T.N, .inr (.inl T.nu))), (mo, .inr (13, MF 30 (rf v j br))), (qx, .inl (cB, NN, .inl f))] H := hP
            have hD : va_D A [(t, .inr (12, MF 13 (tw T))), (T.a1, .inl (cL, T.N, .inr (.inl T.nu))), (mo, .inr (13, MF 30 (rf v j br))), (qx, .inl (cB, NN, .inl f))] := hD
            have hP := hP.sub (ws' := [(mo, .inr (13, MF 30 (rf v j br))), (qx, .inl (cB, NN, .inl f)), (t, .inr (12, MF 13 (tw T))), (T.a1, .inl (cL, T.N, .inr (.inl T.nu)))]) [2, 3, 0, 1] rfl
            have hD := hD.sub (ws' := [(mo, .inr (13, MF 30 (rf v j br))), (qx, .inl (cB, NN, .inl f)), (t, .inr (12, MF 13 (tw T))), (T.a1, .inl (cL, T.N, .inr (.inl T.nu)))]) [2, 3, 0, 1] (by decide) rfl
            have h_r5 : r5 = hereV f n j := hw
            refine lv_i2l (v := r5.toInt64) hx hb d_Mo_numberT_109 rfl ?_
            refine lv_ladd hx hb d_Mo_numberT_110 ?_
            refine lv_ldc2 (v := 48) hx hb hown (hts _ w_1345) d_Mo_numberT_111 ?_
            refine lv_lsub hx hb d_Mo_numberT_114 ?_
            refine lv_lstore (lv' := [(5, .long (((10 * a) + (r5.toInt64)) - 48)), (0, .ref mo), (1, .ref t), (2, .int (nI nd)), (3, .int (nI i)), (4, .int 0)]) hx hb d_Mo_numberT_115 hl (by decide) rfl (fun ls hl => ?_)
            refine lv_aload_n hx hb d_Mo_numberT_117 rfl (lv_at hl 1 rfl) ?_
            refine lv_dup hx hb d_Mo_numberT_118 rfl ?_
            refine va_get (D := (dC, dI)) (ci := 13) (v := .int (nI j)) (C := R_Mo) (T := F_Mo) (N := 30) hx hb hts in_Mo hown hK hP 0 rfl rfl 7 (by decide) (hts _ w_1096) (fun _ h9 => h9) (MFg (by decide) rf_7) d_Mo_numberT_119 ?_
            refine lv_iconst (v := 1) hx hb d_Mo_numberT_122 (by decide) ?_
            refine lv_iadd hx hb d_Mo_numberT_123 ?_
            refine W.eq (g2 := F0 m 124 ls [.int (nI (j + 1)), .ref mo]) (by rw [show ((nI j) + 1) = (nI (j + 1)) from nI_1 _]) ?_
            refine va_put (D := (dC, dI)) (ci := 13) (v := .int (nI (j + 1))) (ty := .int) (C := R_Mo) (T := F_Mo) (N := 30) hx hb hts in_Mo t_Mo t_Mo_ok n_Mo hown hK hP hD hS 0 rfl rfl 7 (by decide) (hts _ w_1096) (fun _ h9 => h9) rfl (by decide +kernel) rfl rfl (by rw [MFl]; decide) d_Mo_numberT_124 (fun H locs hP hD hS => ?_)
            rw [MFs (n := 30) (k := 7) (by decide)] at hP hD
            have hP : va_P (dC, dI) classes [(mo, .inr (13, MF 30 (va_up (rf v j br) 7 (.int (nI (j + 1)))))), (qx, .inl (cB, NN, .inl f)), (t, .inr (12, MF 13 (tw T))), (T.a1, .inl (cL, T.N, .inr (.inl T.nu)))] H := hP
            have hD : va_D A [(mo, .inr (13, MF 30 (va_up (rf v j br) 7 (.int (nI (j + 1)))))), (qx, .inl (cB, NN, .inl f)), (t, .inr (12, MF 13 (tw T))), (T.a1, .inl (cL, T.N, .inr (.inl T.nu)))] := hD
            rw [rf_u7] at hP hD
            have hP : va_P (dC, dI) classes [(mo, .inr (13, MF 30 (rf v (j + 1) br))), (qx, .inl (cB, NN, .inl f)), (t, .inr (12, MF 13 (tw T))), (T.a1, .inl (cL, T.N, .inr (.inl T.nu)))] H := hP
            have hD : va_D A [(mo, .inr (13, MF 30 (rf v (j + 1) br))), (qx, .inl (cB, NN, .inl f)), (t, .inr (12, MF 13 (tw T))), (T.a1, .inl (cL, T.N, .inr (.inl T.nu)))] := hD
            refine lv_goto (tgt := 80) hx hb d_Mo_numberT_127 (by decide) ?_
            have hdj : digH (hereV f n j) := by rw [← h_r4]; exact h_d4.1 c87
            have hltj := digH_lt hdj
            have hst : dgM f n k0 (j + 1) ((((10 * a) + (r5.toInt64)) - 48)) = dgM f n (n + 1) i 0 := by
              rw [← hI4, hk0]
              simp only [dgM]
              rw [if_pos hdj, if_neg c96, h_r5]
            exact ih (k0, j + 1, (((10 * a) + (r5.toInt64)) - 48)) _ _ _ ⟨by omega, by omega, by omega, hst⟩ (by show n + 1 - (j + 1) < n + 1 - j; omega) hP hD hS (lv_sub hl [1, 2, 3, 4, 5, 0] rfl)
      · refine lv_aload_n hx hb d_Mo_numberT_67 rfl (lv_at hl 3 rfl) ?_
        refine lv_dup hx hb d_Mo_numberT_68 rfl ?_
        refine va_get (D := (dC, dI)) (ci := 13) (v := .int (nI i)) (C := R_Mo) (T := F_Mo) (N := 30) hx hb hts in_Mo hown hK hP 0 rfl rfl 7 (by decide) (hts _ w_1096) (fun _ h9 => h9) (MFg (by decide) rf_7) d_Mo_numberT_69 ?_
        refine lv_iconst (v := 1) hx hb d_Mo_numberT_72 (by decide) ?_
        refine lv_iadd hx hb d_Mo_numberT_73 ?_
        refine W.eq (g2 := F0 m 74 ls [.int (nI (i + 1)), .ref mo]) (by rw [show ((nI i) + 1) = (nI (i + 1)) from nI_1 _]) ?_
        refine va_put (D := (dC, dI)) (ci := 13) (v := .int (nI (i + 1))) (ty := .int) (C := R_Mo) (T := F_Mo) (N := 30) hx hb hts in_Mo t_Mo t_Mo_ok n_Mo hown hK hP hD hS 0 rfl rfl 7 (by decide) (hts _ w_1096) (fun _ h9 => h9) rfl (by decide +kernel) rfl rfl (by rw [MFl]; decide) d_Mo_numberT_74 (fun H locs hP hD hS => ?_)
        rw [MFs (n := 30) (k := 7) (by decide)] at hP hD
        have hP : va_P (dC, dI) classes [(mo, .inr (13, MF 30 (va_up (rf v i br) 7 (.int (nI (i + 1)))))), (qx, .inl (cB, NN, .inl f)), (t, .inr (12, MF 13 (tw T))), (T.a1, .inl (cL, T.N, .inr (.inl T.nu)))] H := hP
        have hD : va_D A [(mo, .inr (13, MF 30 (va_up (rf v i br) 7 (.int (nI (i + 1)))))), (qx, .inl (cB, NN, .inl f)), (t, .inr (12, MF 13 (tw T))), (T.a1, .inl (cL, T.N, .inr (.inl T.nu)))] := hD
        rw [rf_u7] at hP hD
        have hP : va_P (dC, dI) classes [(mo, .inr (13, MF 30 (rf v (i + 1) br))), (qx, .inl (cB, NN, .inl f)), (t, .inr (12, MF 13 (tw T))), (T.a1, .inl (cL, T.N, .inr (.inl T.nu)))] H := hP
        have hD : va_D A [(mo, .inr (13, MF 30 (rf v (i + 1) br))), (qx, .inl (cB, NN, .inl f)), (t, .inr (12, MF 13 (tw T))), (T.a1, .inl (cL, T.N, .inr (.inl T.nu)))] := hD
        refine lv_goto (tgt := 130) hx hb d_Mo_numberT_77 (by decide) ?_
        have hd1 : digH (hereV f n i) := by rw [← h_r2]; exact h_d2.1 c43
        have hlt1 := digH_lt hd1
        have hdN : dgN f n i = (0, i + 1) := by unfold dgN; rw [if_pos (h_r3.symm.trans c64)]
        have hjn : i + 1 ≤ n := by omega
        refine lv_lload hx hb d_Mo_numberT_130 (lv_at hl 0 rfl) ?_
        refine lv_ldc2 (v := 9007199254740991) hx hb hown (hts _ w_1343) d_Mo_numberT_132 ?_
        refine W.lcmp hx hb d_Mo_numberT_135 ?_
        refine lv_if_gt (tgt := 166) hx hb d_Mo_numberT_136 (by decide) (fun c136 => ?_) (fun c136 => ?_)
        · refine lv_aload_n hx hb d_Mo_numberT_166 rfl (lv_at hl 3 rfl) ?_
          refine lv_iload_n hx hb d_Mo_numberT_167 rfl (lv_at hl 2 rfl) ?_
          have hPc := hP.sub (ws' := [(mo, .inr (13, MF 30 (rf v (i + 1) br)))]) [0] rfl
          have hDc := hD.sub (ws' := [(mo, .inr (13, MF 30 (rf v (i + 1) br)))]) [0] (by decide) rfl
          have hKc := hK.sub (tys' := []) [] rfl
          have hFc := va_free (wc := [(mo, .inr (13, MF 30 (rf v (i + 1) br)))]) hD hS hA [0] rfl
          refine va_calli (va_runV (As := [.int (nI i)]) (rest := []) ⟨hx, hb, hml, hown, hts⟩ (c_Mo_fail l dC dI mo H (rf v (i + 1) br) br ((nI i)) rf_9) (cwV 1 hts (gt_V (own := R_Mo) (C := R_Mo) (i := 151) (y := y_Mo_fail) i_Mo_fail w_1250 w_1252 (gt_sel (y := y_Mo_fail) (n := 30) (by decide +kernel)) w_7) rfl rfl rfl (by decide +kernel) ⟨Nat.le_of_ble_eq_true rfl, Nat.le_of_ble_eq_true rfl⟩) ⟨mp_blind, va_recv hKc hPc (ci := 13) (q0 := 0) rfl rfl, fun U hU hW => ⟨rfl, hU, by rw [hU]; exact hPc, va_K.moved hW.alike hKc, hDc.weaken (fun _ _ _ _ => trivial)⟩⟩ rfl rfl hl.1 rfl (lv_room (Nat.le_of_ble_eq_true rfl)) d_Mo_numberT_168 ⟨Nat.le_of_ble_eq_true rfl, Nat.le_of_ble_eq_true rfl⟩) hS (fun q _ h => hFc q h) hFc (fun r0 u2 t9 H1 locs ht hvm hw hB hz1 hk1 hS => ?_)
          obtain ⟨hP1, hK1, hD1⟩ := hB
          rw [ht] at hP1
          obtain ⟨hP, hD⟩ := va_join (wr := [(qx, .inl (cB, NN, .inl f)), (t, .inr (12, MF 13 (tw T))), (T.a1, .inl (cL, T.N, .inr (.inl T.nu)))]) (w1 := [(mo, .inr (13, MF 30 u2))]) hP hD [0] [1, 2, 3] rfl rfl (by decide) (by decide) hk1 hFc hP1 hD1
          generalize H1 = H at hP hS ⊢
          have hP : va_P (dC, dI) classes [(qx, .inl (cB, NN, .inl f)), (t, .inr (12, MF 13 (tw T))), (T.a1, .inl (cL, T.N, .inr (.inl T.nu))), (mo, .inr (13, MF 30 u2))] H := hP
          have hD : va_D A [(qx, .inl (cB, NN, .inl f)), (t, .inr (12, MF 13 (tw T))), (T.a1, .inl (cL, T.N, .inr (.inl T.nu))), (mo, .inr (13, MF 30 u2))] := hD
          have hP := hP.sub (ws' := [(mo, .inr (13, MF 30 u2)), (qx, .inl (cB, NN, .inl f)), (t, .inr (12, MF 13 (tw T))), (T.a1, .inl (cL, T.N, .inr (.inl T.nu)))]) [3, 0, 1, 2] rfl
          have hD := hD.sub (ws' := [(mo, .inr (13, MF 30 u2)), (qx, .inl (cB, NN, .inl f)), (t, .inr (12, MF 13 (tw T))), (T.a1, .inl (cL, T.N, .inr (.inl T.nu)))]) [3, 0, 1, 2] (by decide) rfl
          obtain ⟨b7, h_b7⟩ := rf_fail (v := v) (i := (i + 1)) (br := br) (b2 := br) (wh := (nI i))
          have hw : r0 = 0 ∧ u2 = _ := hw
          obtain ⟨hw1, hw2⟩ := hw
          rw [h_b7] at hw2
          rw [hw2] at hP hD
          subst hw1
          have hP : va_P (dC, dI) classes [(mo, .inr (13, MF 30 (rf v (i + 1) b7))), (qx, .inl (cB, NN, .inl f)), (t, .inr (12, MF 13 (tw T))), (T.a1, .inl (cL, T.N, .inr (.inl T.nu)))] H := hP
          have hD : va_D A [(mo, .inr (13, MF 30 (rf v (i + 1) b7))), (qx, .inl (cB, NN, .inl f)), (t, .inr (12, MF 13 (tw T))), (T.a1, .inl (cL, T.N, .inr (.inl T.nu)))] := hD
          have hfin : numM f n i = none := by unfold numM; rw [if_neg (fun h => c11 (h_r1.trans h))]; unfold nuB; rw [if_neg (fun h => h hd1), hdN, if_pos (Or.inl c136)]
          exact W.zret (v := 0) hx hb hr rfl (fun t9 ht hW => ⟨⟨0, ((i + 1), b7, T.nu), rfl, Or.inr ⟨rfl, hfin, rfl, by show (i + 1) ≤ n + 30; omega⟩, by rw [ht]; exact hP, va_K.moved hW.alike hK, hD⟩, hS.F ht⟩) hS.2.2 d_Mo_numberT_171
        · refine lv_aload_n hx hb d_Mo_numberT_139 rfl (lv_at hl 3 rfl) ?_
          have hPc := hP.sub (ws' := [(mo, .inr (13, MF 30 (rf v (i + 1) br))), (qx, .inl (cB, NN, .inl f))]) [0, 1] rfl
          have hDc := hD.sub (ws' := [(mo, .inr (13, MF 30 (rf v (i + 1) br))), (qx, .inl (cB, NN, .inl f))]) [0, 1] (by decide) rfl
          have hKc := hK.sub (tys' := [(cB, .byte)]) [0] rfl
          have hFc := va_free (wc := [(mo, .inr (13, MF 30 (rf v (i + 1) br))), (qx, .inl (cB, NN, .inl f))]) hD hS hA [0, 1] rfl
          refine va_calli (va_runV (As := []) (rest := []) ⟨hx, hb, hml, hown, hts⟩ (c_Mo_c l dC dI mo H (rf v (i + 1) br) cB qx NN f n (i + 1) (by omega) (by omega) (by omega) ((rf_ne (by decide) (by decide)).trans h6) rf_7 ((rf_ne (by decide) (by decide)).trans h8)) (cwV 0 hts (gt_V (own := R_Mo) (C := R_Mo) (i := 147) (y := y_Mo_c) i_Mo_c w_1233 w_1235 (gt_sel (y := y_Mo_c) (n := 30) (by decide +kernel)) w_7) rfl rfl rfl (by decide +kernel) ⟨Nat.le_of_ble_eq_true rfl, Nat.le_of_ble_eq_true rfl⟩) ⟨mp_blind, va_recv hKc hPc (ci := 13) (q0 := 0) rfl rfl, fun U hU hW => ⟨rfl, hU, by rw [hU]; exact hPc, va_K.moved hW.alike hKc, hDc.weaken (fun _ _ _ _ => trivial)⟩⟩ rfl rfl hl.1 rfl (lv_room (Nat.le_of_ble_eq_true rfl)) d_Mo_numberT_140 ⟨Nat.le_of_ble_eq_true rfl, Nat.le_of_ble_eq_true rfl⟩) hS (fun q _ h => hFc q h) hFc (fun r6 _u t9 H1 locs ht hvm hw hB hz1 hk1 hS => ?_)
          obtain ⟨hP1, hK1, hD1⟩ := hB
          rw [ht] at hP1
          obtain ⟨hP, hD⟩ := va_join (wr := [(t, .inr (12, MF 13 (tw T))), (T.a1, .inl (cL, T.N, .inr (.inl T.nu)))]) (w1 := [(mo, .inr (13, MF 30 (rf v (i + 1) br))), (qx, .inl (cB, NN, .inl f))]) hP hD [0, 1] [2, 3] rfl rfl (by decide) (by decide) hk1 hFc hP1 hD1
          generalize H1 = H at hP hS ⊢
          have hP : va_P (dC, dI) classes [(t, .inr (12, MF 13 (tw T))), (T.a1, .inl (cL, T.N, .inr (.inl T.nu))), (mo, .inr (13, MF 30 (rf v (i + 1) br))), (qx, .inl (cB, NN, .inl f))] H := hP
          have hD : va_D A [(t, .inr (12, MF 13 (tw T))), (T.a1, .inl (cL, T.N, .inr (.inl T.nu))), (mo, .inr (13, MF 30 (rf v (i + 1) br))), (qx, .inl (cB, NN, .inl f))] := hD
          have hP := hP.sub (ws' := [(mo, .inr (13, MF 30 (rf v (i + 1) br))), (qx, .inl (cB, NN, .inl f)), (t, .inr (12, MF 13 (tw T))), (T.a1, .inl (cL, T.N, .inr (.inl T.nu)))]) [2, 3, 0, 1] rfl
          have hD := hD.sub (ws' := [(mo, .inr (13, MF 30 (rf v (i + 1) br))), (qx, .inl (cB, NN, .inl f)), (t, .inr (12, MF 13 (tw T))), (T.a1, .inl (cL, T.N, .inr (.inl T.nu)))]) [2, 3, 0, 1] (by decide) rfl
          have h_r6 : r6 = hereV f n (i + 1) := hw
          refine lv_bipush (v := 46) hx hb d_Mo_numberT_143 (by decide) ?_
          refine lv_icmp_eq (tgt := 166) hx hb d_Mo_numberT_145 (by decide) (fun c145 => ?_) (fun c145 => ?_)
          · refine lv_aload_n hx hb d_Mo_numberT_166 rfl (lv_at hl 3 rfl) ?_
            refine lv_iload_n hx hb d_Mo_numberT_167 rfl (lv_at hl 2 rfl) ?_
            have hPc := hP.sub (ws' := [(mo, .inr (13, MF 30 (rf v (i + 1) br)))]) [0] rfl
            have hDc := hD.sub (ws' := [(mo, .inr (13, MF 30 (rf v (i + 1) br)))]) [0] (by decide) rfl
            have hKc := hK.sub (tys' := []) [] rfl
            have hFc := va_free (wc := [(mo, .inr (13, MF 30 (rf v (i + 1) br)))]) hD hS hA [0] rfl
            refine va_calli (va_runV (As := [.int (nI i)]) (rest := []) ⟨hx, hb, hml, hown, hts⟩ (c_Mo_fail l dC dI mo H (rf v (i + 1) br) br ((nI i)) rf_9) (cwV 1 hts (gt_V (own := R_Mo) (C := R_Mo) (i := 151) (y := y_Mo_fail) i_Mo_fail w_1250 w_1252 (gt_sel (y := y_Mo_fail) (n := 30) (by decide +kernel)) w_7) rfl rfl rfl (by decide +kernel) ⟨Nat.le_of_ble_eq_true rfl, Nat.le_of_ble_eq_true rfl⟩) ⟨mp_blind, va_recv hKc hPc (ci := 13) (q0 := 0) rfl rfl, fun U hU hW => ⟨rfl, hU, by rw [hU]; exact hPc, va_K.moved hW.alike hKc, hDc.weaken (fun _ _ _ _ => trivial)⟩⟩ rfl rfl hl.1 rfl (lv_room (Nat.le_of_ble_eq_true rfl)) d_Mo_numberT_168 ⟨Nat.le_of_ble_eq_true rfl, Nat.le_of_ble_eq_true rfl⟩) hS (fun q _ h => hFc q h) hFc (fun r0 u2 t9 H1 locs ht hvm hw hB hz1 hk1 hS => ?_)
            obtain ⟨hP1, hK1, hD1⟩ := hB
            rw [ht] at hP1
            obtain ⟨hP, hD⟩ := va_join (wr := [(qx, .inl (cB, NN, .inl f)), (t, .inr (12, MF 13 (tw T))), (T.a1, .inl (cL, T.N, .inr (.inl T.nu)))]) (w1 := [(mo, .inr (13, MF 30 u2))]) hP hD [0] [1, 2, 3] rfl rfl (by decide) (by decide) hk1 hFc hP1 hD1
            generalize H1 = H at hP hS ⊢
            have hP : va_P (dC, dI) classes [(qx, .inl (cB, NN, .inl f)), (t, .inr (12, MF 13 (tw T))), (T.a1, .inl (cL, T.N, .inr (.inl T.nu))), (mo, .inr (13, MF 30 u2))] H := hP
            have hD : va_D A [(qx, .inl (cB, NN, .inl f)), (t, .inr (12, MF 13 (tw T))), (T.a1, .inl (cL, T.N, .inr (.inl T.nu))), (mo, .inr (13, MF 30 u2))] := hD
            have hP := hP.sub (ws' := [(mo, .inr (13, MF 30 u2)), (qx, .inl (cB, NN, .inl f)), (t, .inr (12, MF 13 (tw T))), (T.a1, .inl (cL, T.N, .inr (.inl T.nu)))]) [3, 0, 1, 2] rfl
            have hD := hD.sub (ws' := [(mo, .inr (13, MF 30 u2)), (qx, .inl (cB, NN, .inl f)), (t, .inr (12, MF 13 (tw T))), (T.a1, .inl (cL, T.N, .inr (.inl T.nu)))]) [3, 0, 1, 2] (by decide) rfl
            obtain ⟨b7, h_b7⟩ := rf_fail (v := v) (i := (i + 1)) (br := br) (b2 := br) (wh := (nI i))
            have hw : r0 = 0 ∧ u2 = _ := hw
            obtain ⟨hw1, hw2⟩ := hw
            rw [h_b7] at hw2
            rw [hw2] at hP hD
            subst hw1
            have hP : va_P (dC, dI) classes [(mo, .inr (13, MF 30 (rf v (i + 1) b7))), (qx, .inl (cB, NN, .inl f)), (t, .inr (12, MF 13 (tw T))), (T.a1, .inl (cL, T.N, .inr (.inl T.nu)))] H := hP
            have hD : va_D A [(mo, .inr (13, MF 30 (rf v (i + 1) b7))), (qx, .inl (cB, NN, .inl f)), (t, .inr (12, MF 13 (tw T))), (T.a1, .inl (cL, T.N, .inr (.inl T.nu)))] := hD
            have hfin : numM f n i = none := by unfold numM; rw [if_neg (fun h => c11 (h_r1.trans h))]; unfold nuB; rw [if_neg (fun h => h hd1), hdN, if_pos (Or.inr (Or.inl (h_r6.symm.trans c145)))]
            exact W.zret (v := 0) hx hb hr rfl (fun t9 ht hW => ⟨⟨0, ((i + 1), b7, T.nu), rfl, Or.inr ⟨rfl, hfin, rfl, by show (i + 1) ≤ n + 30; omega⟩, by rw [ht]; exact hP, va_K.moved hW.alike hK, hD⟩, hS.F ht⟩) hS.2.2 d_Mo_numberT_171
          · refine lv_aload_n hx hb d_Mo_numberT_148 rfl (lv_at hl 3 rfl) ?_
            have hPc := hP.sub (ws' := [(mo, .inr (13, MF 30 (rf v (i + 1) br))), (qx, .inl (cB, NN, .inl f))]) [0, 1] rfl
            have hDc := hD.sub (ws' := [(mo, .inr (13, MF 30 (rf v (i + 1) br))), (qx, .inl (cB, NN, .inl f))]) [0, 1] (by decide) rfl
            have hKc := hK.sub (tys' := [(cB, .byte)]) [0] rfl
            have hFc := va_free (wc := [(mo, .inr (13, MF 30 (rf v (i + 1) br))), (qx, .inl (cB, NN, .inl f))]) hD hS hA [0, 1] rfl
            refine va_calli (va_runV (As := []) (rest := []) ⟨hx, hb, hml, hown, hts⟩ (c_Mo_c l dC dI mo H (rf v (i + 1) br) cB qx NN f n (i + 1) (by omega) (by omega) (by omega) ((rf_ne (by decide) (by decide)).trans h6) rf_7 ((rf_ne (by decide) (by decide)).trans h8)) (cwV 0 hts (gt_V (own := R_Mo) (C := R_Mo) (i := 147) (y := y_Mo_c) i_Mo_c w_1233 w_1235 (gt_sel (y := y_Mo_c) (n := 30) (by decide +kernel)) w_7) rfl rfl rfl (by decide +kernel) ⟨Nat.le_of_ble_eq_true rfl, Nat.le_of_ble_eq_true rfl⟩) ⟨mp_blind, va_recv hKc hPc (ci := 13) (q0 := 0) rfl rfl, fun U hU hW => ⟨rfl, hU, by rw [hU]; exact hPc, va_K.moved hW.alike hKc, hDc.weaken (fun _ _ _ _ => trivial)⟩⟩ rfl rfl hl.1 rfl (lv_room (Nat.le_of_ble_eq_true rfl)) d_Mo_numberT_149 ⟨Nat.le_of_ble_eq_true rfl, Nat.le_of_ble_eq_true rfl⟩) hS (fun q _ h => hFc q h) hFc (fun r7 _u t9 H1 locs ht hvm hw hB hz1 hk1 hS => ?_)
            obtain ⟨hP1, hK1, hD1⟩ := hB
            rw [ht] at hP1
            obtain ⟨hP, hD⟩ := va_join (wr := [(t, .inr (12, MF 13 (tw T))), (T.a1, .inl (cL, T.N, .inr (.inl T.nu)))]) (w1 := [(mo, .inr (13, MF 30 (rf v (i + 1) br))), (qx, .inl (cB, NN, .inl f))]) hP hD [0, 1] [2, 3] rfl rfl (by decide) (by decide) hk1 hFc hP1 hD1
            generalize H1 = H at hP hS ⊢
            have hP : va_P (dC, dI) classes [(t, .inr (12, MF 13 (tw T))), (T.a1, .inl (cL, T.N, .inr (.inl T.nu))), (mo, .inr (13, MF 30 (rf v (i + 1) br))), (qx, .inl (cB, NN, .inl f))] H := hP
            have hD : va_D A [(t, .inr (12, MF 13 (tw T))), (T.a1, .inl (cL, T.N, .inr (.inl T.nu))), (mo, .inr (13, MF 30 (rf v (i + 1) br))), (qx, .inl (cB, NN, .inl f))] := hD
            have hP := hP.sub (ws' := [(mo, .inr (13, MF 30 (rf v (i + 1) br))), (qx, .inl (cB, NN, .inl f)), (t, .inr (12, MF 13 (tw T))), (T.a1, .inl (cL, T.N, .inr (.inl T.nu)))]) [2, 3, 0, 1] rfl
            have hD := hD.sub (ws' := [(mo, .inr (13, MF 30 (rf v (i + 1) br))), (qx, .inl (cB, NN, .inl f)), (t, .inr (12, MF 13 (tw T))), (T.a1, .inl (cL, T.N, .inr (.inl T.nu)))]) [2, 3, 0, 1] (by decide) rfl
            have h_r7 : r7 = hereV f n (i + 1) := hw
            refine lv_bipush (v := 101) hx hb d_Mo_numberT_152 (by decide) ?_
            refine lv_icmp_eq (tgt := 166) hx hb d_Mo_numberT_154 (by decide) (fun c154 => ?_) (fun c154 => ?_)
            · refine lv_aload_n hx hb d_Mo_numberT_166 rfl (lv_at hl 3 rfl) ?_
              refine lv_iload_n hx hb d_Mo_numberT_167 rfl (lv_at hl 2 rfl) ?_
              have hPc := hP.sub (ws' := [(mo, .inr (13, MF 30 (rf v (i + 1) br)))]) [0] rfl
              have hDc := hD.sub (ws' := [(mo, .inr (13, MF 30 (rf v (i + 1) br)))]) [0] (by decide) rfl
              have hKc := hK.sub (tys' := []) [] rfl
              have hFc := va_free (wc := [(mo, .inr (13, MF 30 (rf v (i + 1) br)))]) hD hS hA [0] rfl
              refine va_calli (va_runV (As := [.int (nI i)]) (rest := []) ⟨hx, hb, hml, hown, hts⟩ (c_Mo_fail l dC dI mo H (rf v (i + 1) br) br ((nI i)) rf_9) (cwV 1 hts (gt_V (own := R_Mo) (C := R_Mo) (i := 151) (y := y_Mo_fail) i_Mo_fail w_1250 w_1252 (gt_sel (y := y_Mo_fail) (n := 30) (by decide +kernel)) w_7) rfl rfl rfl (by decide +kernel) ⟨Nat.le_of_ble_eq_true rfl, Nat.le_of_ble_eq_true rfl⟩) ⟨mp_blind, va_recv hKc hPc (ci := 13) (q0 := 0) rfl rfl, fun U hU hW => ⟨rfl, hU, by rw [hU]; exact hPc, va_K.moved hW.alike hKc, hDc.weaken (fun _ _ _ _ => trivial)⟩⟩ rfl rfl hl.1 rfl (lv_room (Nat.le_of_ble_eq_true rfl)) d_Mo_numberT_168 ⟨Nat.le_of_ble_eq_true rfl, Nat.le_of_ble_eq_true rfl⟩) hS (fun q _ h => hFc q h) hFc (fun r0 u2 t9 H1 locs ht hvm hw hB hz1 hk1 hS => ?_)
              obtain ⟨hP1, hK1, hD1⟩ := hB
              rw [ht] at hP1
              obtain ⟨hP, hD⟩ := va_join (wr := [(qx, .inl (cB, NN, .inl f)), (t, .inr (12, MF 13 (tw T))), (T.a1, .inl (cL, T.N, .inr (.inl T.nu)))]) (w1 := [(mo, .inr (13, MF 30 u2))]) hP hD [0] [1, 2, 3] rfl rfl (by decide) (by decide) hk1 hFc hP1 hD1
              generalize H1 = H at hP hS ⊢
              have hP : va_P (dC, dI) classes [(qx, .inl (cB, NN, .inl f)), (t, .inr (12, MF 13 (tw T))), (T.a1, .inl (cL, T.N, .inr (.inl T.nu))), (mo, .inr (13, MF 30 u2))] H := hP
              have hD : va_D A [(qx, .inl (cB, NN, .inl f)), (t, .inr (12, MF 13 (tw T))), (T.a1, .inl (cL, T.N, .inr (.inl T.nu))), (mo, .inr (13, MF 30 u2))] := hD
              have hP := hP.sub (ws' := [(mo, .inr (13, MF 30 u2)), (qx, .inl (cB, NN, .inl f)), (t, .inr (12, MF 13 (tw T))), (T.a1, .inl (cL, T.N, .inr (.inl T.nu)))]) [3, 0, 1, 2] rfl
              have hD := hD.sub (ws' := [(mo, .inr (13, MF 30 u2)), (qx, .inl (cB, NN, .inl f)), (t, .inr (12, MF 13 (tw T))), (T.a1, .inl (cL, T.N, .inr (.inl T.nu)))]) [3, 0, 1, 2] (by decide) rfl
              obtain ⟨b7, h_b7⟩ := rf_fail (v := v) (i := (i + 1)) (br := br) (b2 := br) (wh := (nI i))
              have hw : r0 = 0 ∧ u2 = _ := hw
              obtain ⟨hw1, hw2⟩ := hw
              rw [h_b7] at hw2
              rw [hw2] at hP hD
              subst hw1
              have hP : va_P (dC, dI) classes [(mo, .inr (13, MF 30 (rf v (i + 1) b7))), (qx, .inl (cB, NN, .inl f)), (t, .inr (12, MF 13 (tw T))), (T.a1, .inl (cL, T.N, .inr (.inl T.nu)))] H := hP
              have hD : va_D A [(mo, .inr (13, MF 30 (rf v (i + 1) b7))), (qx, .inl (cB, NN, .inl f)), (t, .inr (12, MF 13 (tw T))), (T.a1, .inl (cL, T.N, .inr (.inl T.nu)))] := hD
              have hfin : numM f n i = none := by unfold numM; rw [if_neg (fun h => c11 (h_r1.trans h))]; unfold nuB; rw [if_neg (fun h => h hd1), hdN, if_pos (Or.inr (Or.inr (Or.inl (h_r7.symm.trans c154))))]
              exact W.zret (v := 0) hx hb hr rfl (fun t9 ht hW => ⟨⟨0, ((i + 1), b7, T.nu), rfl, Or.inr ⟨rfl, hfin, rfl, by show (i + 1) ≤ n + 30; omega⟩, by rw [ht]; exact hP, va_K.moved hW.alike hK, hD⟩, hS.F ht⟩) hS.2.2 d_Mo_numberT_171
            · refine lv_aload_n hx hb d_Mo_numberT_157 rfl (lv_at hl 3 rfl) ?_
              have hPc := hP.sub (ws' := [(mo, .inr (13, MF 30 (rf v (i + 1) br))), (qx, .inl (cB, NN, .inl f))]) [0, 1] rfl
              have hDc := hD.sub (ws' := [(mo, .inr (13, MF 30 (rf v (i + 1) br))), (qx, .inl (cB, NN, .inl f))]) [0, 1] (by decide) rfl
              have hKc := hK.sub (tys' := [(cB, .byte)]) [0] rfl
              have hFc := va_free (wc := [(mo, .inr (13, MF 30 (rf v (i + 1) br))), (qx, .inl (cB, NN, .inl f))]) hD hS hA [0, 1] rfl
              refine va_calli (va_runV (As := []) (rest := []) ⟨hx, hb, hml, hown, hts⟩ (c_Mo_c l dC dI mo H (rf v (i + 1) br) cB qx NN f n (i + 1) (by omega) (by omega) (by omega) ((rf_ne (by decide) (by decide)).trans h6) rf_7 ((rf_ne (by decide) (by decide)).trans h8)) (cwV 0 hts (gt_V (own := R_Mo) (C := R_Mo) (i := 147) (y := y_Mo_c) i_Mo_c w_1233 w_1235 (gt_sel (y := y_Mo_c) (n := 30) (by decide +kernel)) w_7) rfl rfl rfl (by decide +kernel) ⟨Nat.le_of_ble_eq_true rfl, Nat.le_of_ble_eq_true rfl⟩) ⟨mp_blind, va_recv hKc hPc (ci := 13) (q0 := 0) rfl rfl, fun U hU hW => ⟨rfl, hU, by rw [hU]; exact hPc, va_K.moved hW.alike hKc, hDc.weaken (fun _ _ _ _ => trivial)⟩⟩ rfl rfl hl.1 rfl (lv_room (Nat.le_of_ble_eq_true rfl)) d_Mo_numberT_158 ⟨Nat.le_of_ble_eq_true rfl, Nat.le_of_ble_eq_true rfl⟩) hS (fun q _ h => hFc q h) hFc (fun r8 _u t9 H1 locs ht hvm hw hB hz1 hk1 hS => ?_)
              obtain ⟨hP1, hK1, hD1⟩ := hB
              rw [ht] at hP1
              obtain ⟨hP, hD⟩ := va_join (wr := [(t, .inr (12, MF 13 (tw T))), (T.a1, .inl (cL, T.N, .inr (.inl T.nu)))]) (w1 := [(mo, .inr (13, MF 30 (rf v (i + 1) br))), (qx, .inl (cB, NN, .inl f))]) hP hD [0, 1] [2, 3] rfl rfl (by decide) (by decide) hk1 hFc hP1 hD1
              generalize H1 = H at hP hS ⊢
              have hP : va_P (dC, dI) classes [(t, .inr (12, MF 13 (tw T))), (T.a1, .inl (cL, T.N, .inr (.inl T.nu))), (mo, .inr (13, MF 30 (rf v (i + 1) br))), (qx, .inl (cB, NN, .inl f))] H := hP
              have hD : va_D A [(t, .inr (12, MF 13 (tw T))), (T.a1, .inl (cL, T.N, .inr (.inl T.nu))), (mo, .inr (13, MF 30 (rf v (i + 1) br))), (qx, .inl (cB, NN, .inl f))] := hD
              have hP := hP.sub (ws' := [(mo, .inr (13, MF 30 (rf v (i + 1) br))), (qx, .inl (cB, NN, .inl f)), (t, .inr (12, MF 13 (tw T))), (T.a1, .inl (cL, T.N, .inr (.inl T.nu)))]) [2, 3, 0, 1] rfl
              have hD := hD.sub (ws' := [(mo, .inr (13, MF 30 (rf v (i + 1) br))), (qx, .inl (cB, NN, .inl f)), (t, .inr (12, MF 13 (tw T))), (T.a1, .inl (cL, T.N, .inr (.inl T.nu)))]) [2, 3, 0, 1] (by decide) rfl
              have h_r8 : r8 = hereV f n (i + 1) := hw
              refine lv_bipush (v := 69) hx hb d_Mo_numberT_161 (by decide) ?_
              refine lv_icmp_ne (tgt := 172) hx hb d_Mo_numberT_163 (by decide) (fun c163 => ?_) (fun c163 => ?_)
              · refine lv_aload_n hx hb d_Mo_numberT_172 rfl (lv_at hl 4 rfl) ?_
                refine va_get (D := (dC, dI)) (ci := 12) (v := .ref T.a1) (C := R_Tree) (T := F_Tree) (N := 13) hx hb hts in_Tree hown hK hP 2 rfl rfl 1 (by decide) (hts _ w_1037) (fun _ h9 => h9) (MFg (by decide) rfl) d_Mo_numberT_173 ?_
                refine lv_iload_n hx hb d_Mo_numberT_176 rfl (lv_at hl 5 rfl) ?_
                refine lv_iload hx hb d_Mo_numberT_177 (lv_at hl 1 rfl) ?_
                refine lv_if_eq (tgt := 188) hx hb d_Mo_numberT_179 (by decide) (fun _ => ?_) (fun h => absurd (by decide) h)
                refine lv_lload hx hb d_Mo_numberT_188 (lv_at hl 0 rfl) ?_
                refine va_last hx hb hK hP hD hS 3 1 rfl rfl (vp_in_nI (show nd < T.N by omega) (by omega)) d_Mo_numberT_190 (fun H locs hP hD hS => ?_)
                rw [show (nI nd).toNatClampNeg = nd from nI_clamp (by omega)] at hP hD
                have hP : va_P (dC, dI) classes [(mo, .inr (13, MF 30 (rf v (i + 1) br))), (qx, .inl (cB, NN, .inl f)), (t, .inr (12, MF 13 (tw T))), (T.a1, .inl (cL, T.N, .inr (.inl (vp_updL T.nu nd 0))))] H := hP
                have hD : va_D A [(mo, .inr (13, MF 30 (rf v (i + 1) br))), (qx, .inl (cB, NN, .inl f)), (t, .inr (12, MF 13 (tw T))), (T.a1, .inl (cL, T.N, .inr (.inl (vp_updL T.nu nd 0))))] := hD
                refine lv_iconst (v := 1) hx hb d_Mo_numberT_191 (by decide) ?_
                have hfin : numM f n i = some (0, (i + 1)) := by unfold numM; rw [if_neg (fun h => c11 (h_r1.trans h))]; unfold nuB; rw [if_neg (fun h => h hd1), hdN, if_neg (fun h => h.elim c136 (fun h => h.elim (fun h => c145 (h_r6.trans h)) (fun h => h.elim (fun h => c154 (h_r7.trans h)) (fun h => c163 (h_r8.trans h)))))]; rfl
                exact W.zret (v := 1) hx hb hr rfl (fun t9 ht hW => ⟨⟨1, ((i + 1), br, vp_updL T.nu nd 0), rfl, Or.inl ⟨rfl, 0, hfin, rfl, hjn⟩, by rw [ht]; exact hP, va_K.moved hW.alike hK, hD⟩, hS.F ht⟩) hS.2.2 d_Mo_numberT_192
              · refine lv_aload_n hx hb d_Mo_numberT_166 rfl (lv_at hl 3 rfl) ?_
                refine lv_iload_n hx hb d_Mo_numberT_167 rfl (lv_at hl 2 rfl) ?_
                have hPc := hP.sub (ws' := [(mo, .inr (13, MF 30 (rf v (i + 1) br)))]) [0] rfl
                have hDc := hD.sub (ws' := [(mo, .inr (13, MF 30 (rf v (i + 1) br)))]) [0] (by decide) rfl
                have hKc := hK.sub (tys' := []) [] rfl
                have hFc := va_free (wc := [(mo, .inr (13, MF 30 (rf v (i + 1) br)))]) hD hS hA [0] rfl
                refine va_calli (va_runV (As := [.int (nI i)]) (rest := []) ⟨hx, hb, hml, hown, hts⟩ (c_Mo_fail l dC dI mo H (rf v (i + 1) br) br ((nI i)) rf_9) (cwV 1 hts (gt_V (own := R_Mo) (C := R_Mo) (i := 151) (y := y_Mo_fail) i_Mo_fail w_1250 w_1252 (gt_sel (y := y_Mo_fail) (n := 30) (by decide +kernel)) w_7) rfl rfl rfl (by decide +kernel) ⟨Nat.le_of_ble_eq_true rfl, Nat.le_of_ble_eq_true rfl⟩) ⟨mp_blind, va_recv hKc hPc (ci := 13) (q0 := 0) rfl rfl, fun U hU hW => ⟨rfl, hU, by rw [hU]; exact hPc, va_K.moved hW.alike hKc, hDc.weaken (fun _ _ _ _ => trivial)⟩⟩ rfl rfl hl.1 rfl (lv_room (Nat.le_of_ble_eq_true rfl)) d_Mo_numberT_168 ⟨Nat.le_of_ble_eq_true rfl, Nat.le_of_ble_eq_true rfl⟩) hS (fun q _ h => hFc q h) hFc (fun r0 u2 t9 H1 locs ht hvm hw hB hz1 hk1 hS => ?_)
                obtain ⟨hP1, hK1, hD1⟩ := hB
                rw [ht] at hP1
                obtain ⟨hP, hD⟩ := va_join (wr := [(qx, .inl (cB, NN, .inl f)), (t, .inr (12, MF 13 (tw T))), (T.a1, .inl (cL, T.N, .inr (.inl T.nu)))]) (w1 := [(mo, .inr (13, MF 30 u2))]) hP hD [0] [1, 2, 3] rfl rfl (by decide) (by decide) hk1 hFc hP1 hD1
                generalize H1 = H at hP hS ⊢
                have hP : va_P (dC, dI) classes [(qx, .inl (cB, NN, .inl f)), (t, .inr (12, MF 13 (tw T))), (T.a1, .inl (cL, T.N, .inr (.inl T.nu))), (mo, .inr (13, MF 30 u2))] H := hP
                have hD : va_D A [(qx, .inl (cB, NN, .inl f)), (t, .inr (12, MF 13 (tw T))), (T.a1, .inl (cL, T.N, .inr (.inl T.nu))), (mo, .inr (13, MF 30 u2))] := hD
                have hP := hP.sub (ws' := [(mo, .inr (13, MF 30 u2)), (qx, .inl (cB, NN, .inl f)), (t, .inr (12, MF 13 (tw T))), (T.a1, .inl (cL, T.N, .inr (.inl T.nu)))]) [3, 0, 1, 2] rfl
                have hD := hD.sub (ws' := [(mo, .inr (13, MF 30 u2)), (qx, .inl (cB, NN, .inl f)), (t, .inr (12, MF 13 (tw T))), (T.a1, .inl (cL, T.N, .inr (.inl T.nu)))]) [3, 0, 1, 2] (by decide) rfl
                obtain ⟨b7, h_b7⟩ := rf_fail (v := v) (i := (i + 1)) (br := br) (b2 := br) (wh := (nI i))
                have hw : r0 = 0 ∧ u2 = _ := hw
                obtain ⟨hw1, hw2⟩ := hw
                rw [h_b7] at hw2
                rw [hw2] at hP hD
                subst hw1
                have hP : va_P (dC, dI) classes [(mo, .inr (13, MF 30 (rf v (i + 1) b7))), (qx, .inl (cB, NN, .inl f)), (t, .inr (12, MF 13 (tw T))), (T.a1, .inl (cL, T.N, .inr (.inl T.nu)))] H := hP
                have hD : va_D A [(mo, .inr (13, MF 30 (rf v (i + 1) b7))), (qx, .inl (cB, NN, .inl f)), (t, .inr (12, MF 13 (tw T))), (T.a1, .inl (cL, T.N, .inr (.inl T.nu)))] := hD
                have hfin : numM f n i = none := by unfold numM; rw [if_neg (fun h => c11 (h_r1.trans h))]; unfold nuB; rw [if_neg (fun h => h hd1), hdN, if_pos (Or.inr (Or.inr (Or.inr (h_r8.symm.trans c163))))]
                exact W.zret (v := 0) hx hb hr rfl (fun t9 ht hW => ⟨⟨0, ((i + 1), b7, T.nu), rfl, Or.inr ⟨rfl, hfin, rfl, by show (i + 1) ≤ n + 30; omega⟩, by rw [ht]; exact hP, va_K.moved hW.alike hK, hD⟩, hS.F ht⟩) hS.2.2 d_Mo_numberT_171
    · refine lv_aload_n hx hb d_Mo_numberT_46 rfl (lv_at hl 2 rfl) ?_
      refine lv_aload_n hx hb d_Mo_numberT_47 rfl (lv_at hl 2 rfl) ?_
      refine va_get (D := (dC, dI)) (ci := 13) (v := .int (nI i)) (C := R_Mo) (T := F_Mo) (N := 30) hx hb hts in_Mo hown hK hP 0 rfl rfl 7 (by decide) (hts _ w_1096) (fun _ h9 => h9) (MFg (by decide) rf_7) d_Mo_numberT_48 ?_
      have hPc := hP.sub (ws' := [(mo, .inr (13, MF 30 (rf v i br)))]) [0] rfl
      have hDc := hD.sub (ws' := [(mo, .inr (13, MF 30 (rf v i br)))]) [0] (by decide) rfl
      have hKc := hK.sub (tys' := []) [] rfl
      have hFc := va_free (wc := [(mo, .inr (13, MF 30 (rf v i br)))]) hD hS hA [0] rfl
      refine va_calli (va_runV (As := [.int (nI i)]) (rest := []) ⟨hx, hb, hml, hown, hts⟩ (c_Mo_fail l dC dI mo H (rf v i br) br ((nI i)) rf_9) (cwV 1 hts (gt_V (own := R_Mo) (C := R_Mo) (i := 151) (y := y_Mo_fail) i_Mo_fail w_1250 w_1252 (gt_sel (y := y_Mo_fail) (n := 30) (by decide +kernel)) w_7) rfl rfl rfl (by decide +kernel) ⟨Nat.le_of_ble_eq_true rfl, Nat.le_of_ble_eq_true rfl⟩) ⟨mp_blind, va_recv hKc hPc (ci := 13) (q0 := 0) rfl rfl, fun U hU hW => ⟨rfl, hU, by rw [hU]; exact hPc, va_K.moved hW.alike hKc, hDc.weaken (fun _ _ _ _ => trivial)⟩⟩ rfl rfl hl.1 rfl (lv_room (Nat.le_of_ble_eq_true rfl)) d_Mo_numberT_51 ⟨Nat.le_of_ble_eq_true rfl, Nat.le_of_ble_eq_true rfl⟩) hS (fun q _ h => hFc q h) hFc (fun r0 u2 t9 H1 locs ht hvm hw hB hz1 hk1 hS => ?_)
      obtain ⟨hP1, hK1, hD1⟩ := hB
      rw [ht] at hP1
      obtain ⟨hP, hD⟩ := va_join (wr := [(qx, .inl (cB, NN, .inl f)), (t, .inr (12, MF 13 (tw T))), (T.a1, .inl (cL, T.N, .inr (.inl T.nu)))]) (w1 := [(mo, .inr (13, MF 30 u2))]) hP hD [0] [1, 2, 3] rfl rfl (by decide) (by decide) hk1 hFc hP1 hD1
      generalize H1 = H at hP hS ⊢
      have hP : va_P (dC, dI) classes [(qx, .inl (cB, NN, .inl f)), (t, .inr (12, MF 13 (tw T))), (T.a1, .inl (cL, T.N, .inr (.inl T.nu))), (mo, .inr (13, MF 30 u2))] H := hP
      have hD : va_D A [(qx, .inl (cB, NN, .inl f)), (t, .inr (12, MF 13 (tw T))), (T.a1, .inl (cL, T.N, .inr (.inl T.nu))), (mo, .inr (13, MF 30 u2))] := hD
      have hP := hP.sub (ws' := [(mo, .inr (13, MF 30 u2)), (qx, .inl (cB, NN, .inl f)), (t, .inr (12, MF 13 (tw T))), (T.a1, .inl (cL, T.N, .inr (.inl T.nu)))]) [3, 0, 1, 2] rfl
      have hD := hD.sub (ws' := [(mo, .inr (13, MF 30 u2)), (qx, .inl (cB, NN, .inl f)), (t, .inr (12, MF 13 (tw T))), (T.a1, .inl (cL, T.N, .inr (.inl T.nu)))]) [3, 0, 1, 2] (by decide) rfl
      obtain ⟨b7, h_b7⟩ := rf_fail (v := v) (i := i) (br := br) (b2 := br) (wh := (nI i))
      have hw : r0 = 0 ∧ u2 = _ := hw
      obtain ⟨hw1, hw2⟩ := hw
      rw [h_b7] at hw2
      rw [hw2] at hP hD
      subst hw1
      have hP : va_P (dC, dI) classes [(mo, .inr (13, MF 30 (rf v i b7))), (qx, .inl (cB, NN, .inl f)), (t, .inr (12, MF 13 (tw T))), (T.a1, .inl (cL, T.N, .inr (.inl T.nu)))] H := hP
      have hD : va_D A [(mo, .inr (13, MF 30 (rf v i b7))), (qx, .inl (cB, NN, .inl f)), (t, .inr (12, MF 13 (tw T))), (T.a1, .inl (cL, T.N, .inr (.inl T.nu)))] := hD
      have hfin : numM f n i = none := by unfold numM; rw [if_neg (fun h => c11 (h_r1.trans h))]; unfold nuB; rw [if_pos (by rw [← h_r2]; exact h_d2.2 c43)]
      exact W.zret (v := 0) hx hb hr rfl (fun t9 ht hW => ⟨⟨0, (i, b7, T.nu), rfl, Or.inr ⟨rfl, hfin, rfl, by show i ≤ n + 30; omega⟩, by rw [ht]; exact hP, va_K.moved hW.alike hK, hD⟩, hS.F ht⟩) hS.2.2 d_Mo_numberT_54
  · refine lv_iconst (v := 1) hx hb d_Mo_numberT_14 (by decide) ?_
    refine lv_goto (tgt := 19) hx hb d_Mo_numberT_15 (by decide) ?_
    refine lv_istore (lv' := [(4, .int 1), (3, .int (nI i)), (0, .ref mo), (1, .ref t), (2, .int (nI nd))]) hx hb d_Mo_numberT_19 hl (by decide) rfl (fun ls hl => ?_)
    refine lv_iload hx hb d_Mo_numberT_21 (lv_at hl 0 rfl) ?_
    refine lv_if_eq (tgt := 36) hx hb d_Mo_numberT_23 (by decide) (fun h => absurd h (by decide)) (fun _ => ?_)
    refine lv_aload_n hx hb d_Mo_numberT_26 rfl (lv_at hl 2 rfl) ?_
    refine lv_dup hx hb d_Mo_numberT_27 rfl ?_
    refine va_get (D := (dC, dI)) (ci := 13) (v := .int (nI i)) (C := R_Mo) (T := F_Mo) (N := 30) hx hb hts in_Mo hown hK hP 0 rfl rfl 7 (by decide) (hts _ w_1096) (fun _ h9 => h9) (MFg (by decide) rf_7) d_Mo_numberT_28 ?_
    refine lv_iconst (v := 1) hx hb d_Mo_numberT_31 (by decide) ?_
    refine lv_iadd hx hb d_Mo_numberT_32 ?_
    refine W.eq (g2 := F0 m 33 ls [.int (nI (i + 1)), .ref mo]) (by rw [show ((nI i) + 1) = (nI (i + 1)) from nI_1 _]) ?_
    refine va_put (D := (dC, dI)) (ci := 13) (v := .int (nI (i + 1))) (ty := .int) (C := R_Mo) (T := F_Mo) (N := 30) hx hb hts in_Mo t_Mo t_Mo_ok n_Mo hown hK hP hD hS 0 rfl rfl 7 (by decide) (hts _ w_1096) (fun _ h9 => h9) rfl (by decide +kernel) rfl rfl (by rw [MFl]; decide) d_Mo_numberT_33 (fun H locs hP hD hS => ?_)
    rw [MFs (n := 30) (k := 7) (by decide)] at hP hD
    have hP : va_P (dC, dI) classes [(mo, .inr (13, MF 30 (va_up (rf v i br) 7 (.int (nI (i + 1)))))), (qx, .inl (cB, NN, .inl f)), (t, .inr (12, MF 13 (tw T))), (T.a1, .inl (cL, T.N, .inr (.inl T.nu)))] H := hP
    have hD : va_D A [(mo, .inr (13, MF 30 (va_up (rf v i br) 7 (.int (nI (i + 1)))))), (qx, .inl (cB, NN, .inl f)), (t, .inr (12, MF 13 (tw T))), (T.a1, .inl (cL, T.N, .inr (.inl T.nu)))] := hD
    rw [rf_u7] at hP hD
    have hP : va_P (dC, dI) classes [(mo, .inr (13, MF 30 (rf v (i + 1) br))), (qx, .inl (cB, NN, .inl f)), (t, .inr (12, MF 13 (tw T))), (T.a1, .inl (cL, T.N, .inr (.inl T.nu)))] H := hP
    have hD : va_D A [(mo, .inr (13, MF 30 (rf v (i + 1) br))), (qx, .inl (cB, NN, .inl f)), (t, .inr (12, MF 13 (tw T))), (T.a1, .inl (cL, T.N, .inr (.inl T.nu)))] := hD
    refine lv_aload_n hx hb d_Mo_numberT_36 rfl (lv_at hl 2 rfl) ?_
    have hPc := hP.sub (ws' := [(mo, .inr (13, MF 30 (rf v (i + 1) br))), (qx, .inl (cB, NN, .inl f))]) [0, 1] rfl
    have hDc := hD.sub (ws' := [(mo, .inr (13, MF 30 (rf v (i + 1) br))), (qx, .inl (cB, NN, .inl f))]) [0, 1] (by decide) rfl
    have hKc := hK.sub (tys' := [(cB, .byte)]) [0] rfl
    have hFc := va_free (wc := [(mo, .inr (13, MF 30 (rf v (i + 1) br))), (qx, .inl (cB, NN, .inl f))]) hD hS hA [0, 1] rfl
    refine va_calli (va_runV (As := []) (rest := []) ⟨hx, hb, hml, hown, hts⟩ (c_Mo_c l dC dI mo H (rf v (i + 1) br) cB qx NN f n (i + 1) (by omega) (by omega) (by omega) ((rf_ne (by decide) (by decide)).trans h6) rf_7 ((rf_ne (by decide) (by decide)).trans h8)) (cwV 0 hts (gt_V (own := R_Mo) (C := R_Mo) (i := 147) (y := y_Mo_c) i_Mo_c w_1233 w_1235 (gt_sel (y := y_Mo_c) (n := 30) (by decide +kernel)) w_7) rfl rfl rfl (by decide +kernel) ⟨Nat.le_of_ble_eq_true rfl, Nat.le_of_ble_eq_true rfl⟩) ⟨mp_blind, va_recv hKc hPc (ci := 13) (q0 := 0) rfl rfl, fun U hU hW => ⟨rfl, hU, by rw [hU]; exact hPc, va_K.moved hW.alike hKc, hDc.weaken (fun _ _ _ _ => trivial)⟩⟩ rfl rfl hl.1 rfl (lv_room (Nat.le_of_ble_eq_true rfl)) d_Mo_numberT_37 ⟨Nat.le_of_ble_eq_true rfl, Nat.le_of_ble_eq_true rfl⟩) hS (fun q _ h => hFc q h) hFc (fun r2 _u t9 H1 locs ht hvm hw hB hz1 hk1 hS => ?_)
    obtain ⟨hP1, hK1, hD1⟩ := hB
    rw [ht] at hP1
    obtain ⟨hP, hD⟩ := va_join (wr := [(t, .inr (12, MF 13 (tw T))), (T.a1, .inl (cL, T.N, .inr (.inl T.nu)))]) (w1 := [(mo, .inr (13, MF 30 (rf v (i + 1) br))), (qx, .inl (cB, NN, .inl f))]) hP hD [0, 1] [2, 3] rfl rfl (by decide) (by decide) hk1 hFc hP1 hD1
    generalize H1 = H at hP hS ⊢
    have hP : va_P (dC, dI) classes [(t, .inr (12, MF 13 (tw T))), (T.a1, .inl (cL, T.N, .inr (.inl T.nu))), (mo, .inr (13, MF 30 (rf v (i + 1) br))), (qx, .inl (cB, NN, .inl f))] H := hP
    have hD : va_D A [(t, .inr (12, MF 13 (tw T))), (T.a1, .inl (cL, T.N, .inr (.inl T.nu))), (mo, .inr (13, MF 30 (rf v (i + 1) br))), (qx, .inl (cB, NN, .inl f))] := hD
    have hP := hP.sub (ws' := [(mo, .inr (13, MF 30 (rf v (i + 1) br))), (qx, .inl (cB, NN, .inl f)), (t, .inr (12, MF 13 (tw T))), (T.a1, .inl (cL, T.N, .inr (.inl T.nu)))]) [2, 3, 0, 1] rfl
    have hD := hD.sub (ws' := [(mo, .inr (13, MF 30 (rf v (i + 1) br))), (qx, .inl (cB, NN, .inl f)), (t, .inr (12, MF 13 (tw T))), (T.a1, .inl (cL, T.N, .inr (.inl T.nu)))]) [2, 3, 0, 1] (by decide) rfl
    have h_r2 : r2 = hereV f n (i + 1) := hw
    have hPc := hP.sub (ws' := []) [] rfl
    have hDc := hD.sub (ws' := []) [] (by decide) rfl
    have hKc := hK.sub (tys' := []) [] rfl
    have hFc := va_free (wc := []) hD hS hA [] rfl
    refine va_calli (va_runS (As := [.int r2]) (rest := []) ⟨hx, hb, hml, hown, hts⟩ (c_Mo_digit l dC dI H r2) (va_cwS 1 hts (gt_S (own := R_Mo) (i := 166) (y := y_Mo_digit) i_Mo_digit w_1332 w_1333 w_7) rfl rfl rfl (by decide +kernel) ⟨Nat.le_of_ble_eq_true rfl, Nat.le_of_ble_eq_true rfl⟩) ⟨mp_blind, fun U hU hW => ⟨rfl, hU, by rw [hU]; exact hPc, va_K.moved hW.alike hKc, hDc.weaken (fun _ _ _ _ => trivial)⟩⟩ rfl rfl hl.1 rfl (lv_room (Nat.le_of_ble_eq_true rfl)) d_Mo_numberT_40 ⟨Nat.le_of_ble_eq_true rfl, Nat.le_of_ble_eq_true rfl⟩) hS (fun q _ h => hFc q h) hFc (fun d2 _u t9 H1 locs ht hvm hw hB hz1 hk1 hS => ?_)
    obtain ⟨hP1, hK1, hD1⟩ := hB
    rw [ht] at hP1
    obtain ⟨hP, hD⟩ := va_join (wr := [(mo, .inr (13, MF 30 (rf v (i + 1) br))), (qx, .inl (cB, NN, .inl f)), (t, .inr (12, MF 13 (tw T))), (T.a1, .inl (cL, T.N, .inr (.inl T.nu)))]) (w1 := []) hP hD [] [0, 1, 2, 3] rfl rfl (by decide) (by decide) hk1 hFc hP1 hD1
    generalize H1 = H at hP hS ⊢
    have hP : va_P (dC, dI) classes [(mo, .inr (13, MF 30 (rf v (i + 1) br))), (qx, .inl (cB, NN, .inl f)), (t, .inr (12, MF 13 (tw T))), (T.a1, .inl (cL, T.N, .inr (.inl T.nu)))] H := hP
    have hD : va_D A [(mo, .inr (13, MF 30 (rf v (i + 1) br))), (qx, .inl (cB, NN, .inl f)), (t, .inr (12, MF 13 (tw T))), (T.a1, .inl (cL, T.N, .inr (.inl T.nu)))] := hD
    have h_d2 := dg_01 hw
    refine lv_if_ne (tgt := 55) hx hb d_Mo_numberT_43 (by decide) (fun c43 => ?_) (fun c43 => ?_)
    · refine lv_lconst (v := 0) hx hb d_Mo_numberT_55 (by decide) ?_
      refine lv_lstore (lv' := [(5, .long 0), (4, .int 1), (3, .int (nI i)), (0, .ref mo), (1, .ref t), (2, .int (nI nd))]) hx hb d_Mo_numberT_56 hl (by decide) rfl (fun ls hl => ?_)
      refine lv_aload_n hx hb d_Mo_numberT_58 rfl (lv_at hl 3 rfl) ?_
      have hPc := hP.sub (ws' := [(mo, .inr (13, MF 30 (rf v (i + 1) br))), (qx, .inl (cB, NN, .inl f))]) [0, 1] rfl
      have hDc := hD.sub (ws' := [(mo, .inr (13, MF 30 (rf v (i + 1) br))), (qx, .inl (cB, NN, .inl f))]) [0, 1] (by decide) rfl
      have hKc := hK.sub (tys' := [(cB, .byte)]) [0] rfl
      have hFc := va_free (wc := [(mo, .inr (13, MF 30 (rf v (i + 1) br))), (qx, .inl (cB, NN, .inl f))]) hD hS hA [0, 1] rfl
      refine va_calli (va_runV (As := []) (rest := []) ⟨hx, hb, hml, hown, hts⟩ (c_Mo_c l dC dI mo H (rf v (i + 1) br) cB qx NN f n (i + 1) (by omega) (by omega) (by omega) ((rf_ne (by decide) (by decide)).trans h6) rf_7 ((rf_ne (by decide) (by decide)).trans h8)) (cwV 0 hts (gt_V (own := R_Mo) (C := R_Mo) (i := 147) (y := y_Mo_c) i_Mo_c w_1233 w_1235 (gt_sel (y := y_Mo_c) (n := 30) (by decide +kernel)) w_7) rfl rfl rfl (by decide +kernel) ⟨Nat.le_of_ble_eq_true rfl, Nat.le_of_ble_eq_true rfl⟩) ⟨mp_blind, va_recv hKc hPc (ci := 13) (q0 := 0) rfl rfl, fun U hU hW => ⟨rfl, hU, by rw [hU]; exact hPc, va_K.moved hW.alike hKc, hDc.weaken (fun _ _ _ _ => trivial)⟩⟩ rfl rfl hl.1 rfl (lv_room (Nat.le_of_ble_eq_true rfl)) d_Mo_numberT_59 ⟨Nat.le_of_ble_eq_true rfl, Nat.le_of_ble_eq_true rfl⟩) hS (fun q _ h => hFc q h) hFc (fun r3 _u t9 H1 locs ht hvm hw hB hz1 hk1 hS => ?_)
      obtain ⟨hP1, hK1, hD1⟩ := hB
      rw [ht] at hP1
      obtain ⟨hP, hD⟩ := va_join (wr := [(t, .inr (12, MF 13 (tw T))), (T.a1, .inl (cL, T.N, .inr (.inl T.nu)))]) (w1 := [(mo, .inr (13, MF 30 (rf v (i + 1) br))), (qx, .inl (cB, NN, .inl f))]) hP hD [0, 1] [2, 3] rfl rfl (by decide) (by decide) hk1 hFc hP1 hD1
      generalize H1 = H at hP hS ⊢
      have hP : va_P (dC, dI) classes [(t, .inr (12, MF 13 (tw T))), (T.a1, .inl (cL, T.N, .inr (.inl T.nu))), (mo, .inr (13, MF 30 (rf v (i + 1) br))), (qx, .inl (cB, NN, .inl f))] H := hP
      have hD : va_D A [(t, .inr (12, MF 13 (tw T))), (T.a1, .inl (cL, T.N, .inr (.inl T.nu))), (mo, .inr (13, MF 30 (rf v (i + 1) br))), (qx, .inl (cB, NN, .inl f))] := hD
      have hP := hP.sub (ws' := [(mo, .inr (13, MF 30 (rf v (i + 1) br))), (qx, .inl (cB, NN, .inl f)), (t, .inr (12, MF 13 (tw T))), (T.a1, .inl (cL, T.N, .inr (.inl T.nu)))]) [2, 3, 0, 1] rfl
      have hD := hD.sub (ws' := [(mo, .inr (13, MF 30 (rf v (i + 1) br))), (qx, .inl (cB, NN, .inl f)), (t, .inr (12, MF 13 (tw T))), (T.a1, .inl (cL, T.N, .inr (.inl T.nu)))]) [2, 3, 0, 1] (by decide) rfl
      have h_r3 : r3 = hereV f n (i + 1) := hw
      refine lv_bipush (v := 48) hx hb d_Mo_numberT_62 (by decide) ?_
      refine lv_icmp_ne (tgt := 80) hx hb d_Mo_numberT_64 (by decide) (fun c64 => ?_) (fun c64 => ?_)
      · have hd1 : digH (hereV f n (i + 1)) := by rw [← h_r2]; exact h_d2.1 c43
        have hlt1 := digH_lt hd1
        refine w_loop (D := (dC, dI)) (cl := classes) (A := A) (H0 := s.heap) (nL := 7) 80 (σ := Nat × Nat × Int64) (fun ⟨k, j, a⟩ => (i + 1) ≤ j ∧ j ≤ n ∧ n + 1 ≤ k + j ∧ dgM f n k j a = dgM f n (n + 1) (i + 1) 0) (fun ⟨k, j, a⟩ => n + 1 - j) (fun ⟨k, j, a⟩ => [(mo, .inr (13, MF 30 (rf v j br))), (qx, .inl (cB, NN, .inl f)), (t, .inr (12, MF 13 (tw T))), (T.a1, .inl (cL, T.N, .inr (.inl T.nu)))]) (fun ⟨k, j, a⟩ => [(0, .ref mo), (1, .ref t), (2, .int (nI nd)), (3, .int (nI i)), (4, .int 1), (5, .long a)]) ?_ (n + 1, (i + 1), 0) ⟨Nat.le_refl _, by show (i + 1) ≤ n; omega, by show n + 1 ≤ n + 1 + (i + 1); omega, rfl⟩ hP hD hS (lv_sub hl [3, 4, 5, 2, 1, 0] rfl)
        rintro ⟨k, j, a⟩ H locs ls hI ih hP hD hS hl
        have hP : va_P (dC, dI) classes [(mo, .inr (13, MF 30 (rf v j br))), (qx, .inl (cB, NN, .inl f)), (t, .inr (12, MF 13 (tw T))), (T.a1, .inl (cL, T.N, .inr (.inl T.nu)))] H := hP
        have hD : va_D A [(mo, .inr (13, MF 30 (rf v j br))), (qx, .inl (cB, NN, .inl f)), (t, .inr (12, MF 13 (tw T))), (T.a1, .inl (cL, T.N, .inr (.inl T.nu)))] := hD
        have hl : lv_has ls 7 [(0, .ref mo), (1, .ref t), (2, .int (nI nd)), (3, .int (nI i)), (4, .int 1), (5, .long a)] := hl
        obtain ⟨hI1, hI2, hI3, hI4⟩ := hI
        obtain ⟨k0, hk0⟩ : ∃ k0, k = k0 + 1 := ⟨k - 1, by omega⟩
        refine lv_aload_n hx hb d_Mo_numberT_80 rfl (lv_at hl 0 rfl) ?_
        have hPc := hP.sub (ws' := [(mo, .inr (13, MF 30 (rf v j br))), (qx, .inl (cB, NN, .inl f))]) [0, 1] rfl
        have hDc := hD.sub (ws' := [(mo, .inr (13, MF 30 (rf v j br))), (qx, .inl (cB, NN, .inl f))]) [0, 1] (by decide) rfl
        have hKc := hK.sub (tys' := [(cB, .byte)]) [0] rfl
        have hFc := va_free (wc := [(mo, .inr (13, MF 30 (rf v j br))), (qx, .inl (cB, NN, .inl f))]) hD hS hA [0, 1] rfl
        refine va_calli (va_runV (As := []) (rest := []) ⟨hx, hb, hml, hown, hts⟩ (c_Mo_c l dC dI mo H (rf v j br) cB qx NN f n j (by omega) (by omega) (by omega) ((rf_ne (by decide) (by decide)).trans h6) rf_7 ((rf_ne (by decide) (by decide)).trans h8)) (cwV 0 hts (gt_V (own := R_Mo) (C := R_Mo) (i := 147) (y := y_Mo_c) i_Mo_c w_1233 w_1235 (gt_sel (y := y_Mo_c) (n := 30) (by decide +kernel)) w_7) rfl rfl rfl (by decide +kernel) ⟨Nat.le_of_ble_eq_true rfl, Nat.le_of_ble_eq_true rfl⟩) ⟨mp_blind, va_recv hKc hPc (ci := 13) (q0 := 0) rfl rfl, fun U hU hW => ⟨rfl, hU, by rw [hU]; exact hPc, va_K.moved hW.alike hKc, hDc.weaken (fun _ _ _ _ => trivial)⟩⟩ rfl rfl hl.1 rfl (lv_room (Nat.le_of_ble_eq_true rfl)) d_Mo_numberT_81 ⟨Nat.le_of_ble_eq_true rfl, Nat.le_of_ble_eq_true rfl⟩) hS (fun q _ h => hFc q h) hFc (fun r4 _u t9 H1 locs ht hvm hw hB hz1 hk1 hS => ?_)
        obtain ⟨hP1, hK1, hD1⟩ := hB
        rw [ht] at hP1
        obtain ⟨hP, hD⟩ := va_join (wr := [(t, .inr (12, MF 13 (tw T))), (T.a1, .inl (cL, T.N, .inr (.inl T.nu)))]) (w1 := [(mo, .inr (13, MF 30 (rf v j br))), (qx, .inl (cB, NN, .inl f))]) hP hD [0, 1] [2, 3] rfl rfl (by decide) (by decide) hk1 hFc hP1 hD1
        generalize H1 = H at hP hS ⊢
        have hP : va_P (dC, dI) classes [(t, .inr (12, MF 13 (tw T))), (T.a1, .inl (cL, T.N, .inr (.inl T.nu))), (mo, .inr (13, MF 30 (rf v j br))), (qx, .inl (cB, NN, .inl f))] H := hP
        have hD : va_D A [(t, .inr (12, MF 13 (tw T))), (T.a1, .inl (cL, T.N, .inr (.inl T.nu))), (mo, .inr (13, MF 30 (rf v j br))), (qx, .inl (cB, NN, .inl f))] := hD
        have hP := hP.sub (ws' := [(mo, .inr (13, MF 30 (rf v j br))), (qx, .inl (cB, NN, .inl f)), (t, .inr (12, MF 13 (tw T))), (T.a1, .inl (cL, T.N, .inr (.inl T.nu)))]) [2, 3, 0, 1] rfl
        have hD := hD.sub (ws' := [(mo, .inr (13, MF 30 (rf v j br))), (qx, .inl (cB, NN, .inl f)), (t, .inr (12, MF 13 (tw T))), (T.a1, .inl (cL, T.N, .inr (.inl T.nu)))]) [2, 3, 0, 1] (by decide) rfl
        have h_r4 : r4 = hereV f n j := hw
        have hPc := hP.sub (ws' := []) [] rfl
        have hDc := hD.sub (ws' := []) [] (by decide) rfl
        have hKc := hK.sub (tys' := []) [] rfl
        have hFc := va_free (wc := []) hD hS hA [] rfl
        refine va_calli (va_runS (As := [.int r4]) (rest := []) ⟨hx, hb, hml, hown, hts⟩ (c_Mo_digit l dC dI H r4) (va_cwS 1 hts (gt_S (own := R_Mo) (i := 166) (y := y_Mo_digit) i_Mo_digit w_1332 w_1333 w_7) rfl rfl rfl (by decide +kernel) ⟨Nat.le_of_ble_eq_true rfl, Nat.le_of_ble_eq_true rfl⟩) ⟨mp_blind, fun U hU hW => ⟨rfl, hU, by rw [hU]; exact hPc, va_K.moved hW.alike hKc, hDc.weaken (fun _ _ _ _ => trivial)⟩⟩ rfl rfl hl.1 rfl (lv_room (Nat.le_of_ble_eq_true rfl)) d_Mo_numberT_84 ⟨Nat.le_of_ble_eq_true rfl, Nat.le_of_ble_eq_true rfl⟩) hS (fun q _ h => hFc q h) hFc (fun d4 _u t9 H1 locs ht hvm hw hB hz1 hk1 hS => ?_)
        obtain ⟨hP1, hK1, hD1⟩ := hB
        rw [ht] at hP1
        obtain ⟨hP, hD⟩ := va_join (wr := [(mo, .inr (13, MF 30 (rf v j br))), (qx, .inl (cB, NN, .inl f)), (t, .inr (12, MF 13 (tw T))), (T.a1, .inl (cL, T.N, .inr (.inl T.nu)))]) (w1 := []) hP hD [] [0, 1, 2, 3] rfl rfl (by decide) (by decide) hk1 hFc hP1 hD1
        generalize H1 = H at hP hS ⊢
        have hP : va_P (dC, dI) classes [(mo, .inr (13, MF 30 (rf v j br))), (qx, .inl (cB, NN, .inl f)), (t, .inr (12, MF 13 (tw T))), (T.a1, .inl (cL, T.N, .inr (.inl T.nu)))] H := hP
        have hD : va_D A [(mo, .inr (13, MF 30 (rf v j br))), (qx, .inl (cB, NN, .inl f)), (t, .inr (12, MF 13 (tw T))), (T.a1, .inl (cL, T.N, .inr (.inl T.nu)))] := hD
        have h_d4 := dg_01 hw
        refine lv_if_eq (tgt := 130) hx hb d_Mo_numberT_87 (by decide) (fun c87 => ?_) (fun c87 => ?_)
        · have hnd : ¬ digH (hereV f n j) := by rw [← h_r4]; exact h_d4.2 c87
          have hdN : dgN f n (i + 1) = (a, j) := by
            unfold dgN
            rw [if_neg (fun h => c64 (h_r3.trans h)), ← hI4, hk0]
            simp only [dgM]
            rw [if_neg hnd]
          have hjn : j ≤ n := hI2
          refine lv_lload hx hb d_Mo_numberT_130 (lv_at hl 5 rfl) ?_
          refine lv_ldc2 (v := 9007199254740991) hx hb hown (hts _ w_1343) d_Mo_numberT_132 ?_
          refine W.lcmp hx hb d_Mo_numberT_135 ?_
          refine lv_if_gt (tgt := 166) hx hb d_Mo_numberT_136 (by decide) (fun c136 => ?_) (fun c136 => ?_)
          · refine lv_aload_n hx hb d_Mo_numberT_166 rfl (lv_at hl 0 rfl) ?_
            refine lv_iload_n hx hb d_Mo_numberT_167 rfl (lv_at hl 3 rfl) ?_
            have hPc := hP.sub (ws' := [(mo, .inr (13, MF 30 (rf v j br)))]) [0] rfl
            have hDc := hD.sub (ws' := [(mo, .inr (13, MF 30 (rf v j br)))]) [0] (by decide) rfl
            have hKc := hK.sub (tys' := []) [] rfl
            have hFc := va_free (wc := [(mo, .inr (13, MF 30 (rf v j br)))]) hD hS hA [0] rfl
            refine va_calli (va_runV (As := [.int (nI i)]) (rest := []) ⟨hx, hb, hml, hown, hts⟩ (c_Mo_fail l dC dI mo H (rf v j br) br ((nI i)) rf_9) (cwV 1 hts (gt_V (own := R_Mo) (C := R_Mo) (i := 151) (y := y_Mo_fail) i_Mo_fail w_1250 w_1252 (gt_sel (y := y_Mo_fail) (n := 30) (by decide +kernel)) w_7) rfl rfl rfl (by decide +kernel) ⟨Nat.le_of_ble_eq_true rfl, Nat.le_of_ble_eq_true rfl⟩) ⟨mp_blind, va_recv hKc hPc (ci := 13) (q0 := 0) rfl rfl, fun U hU hW => ⟨rfl, hU, by rw [hU]; exact hPc, va_K.moved hW.alike hKc, hDc.weaken (fun _ _ _ _ => trivial)⟩⟩ rfl rfl hl.1 rfl (lv_room (Nat.le_of_ble_eq_true rfl)) d_Mo_numberT_168 ⟨Nat.le_of_ble_eq_true rfl, Nat.le_of_ble_eq_true rfl⟩) hS (fun q _ h => hFc q h) hFc (fun r0 u2 t9 H1 locs ht hvm hw hB hz1 hk1 hS => ?_)
            obtain ⟨hP1, hK1, hD1⟩ := hB
            rw [ht] at hP1
            obtain ⟨hP, hD⟩ := va_join (wr := [(qx, .inl (cB, NN, .inl f)), (t, .inr (12, MF 13 (tw T))), (T.a1, .inl (cL, T.N, .inr (.inl T.nu)))]) (w1 := [(mo, .inr (13, MF 30 u2))]) hP hD [0] [1, 2, 3] rfl rfl (by decide) (by decide) hk1 hFc hP1 hD1
            generalize H1 = H at hP hS ⊢
            have hP : va_P (dC, dI) classes [(qx, .inl (cB, NN, .inl f)), (t, .inr (12, MF 13 (tw T))), (T.a1, .inl (cL, T.N, .inr (.inl T.nu))), (mo, .inr (13, MF 30 u2))] H := hP
            have hD : va_D A [(qx, .inl (cB, NN, .inl f)), (t, .inr (12, MF 13 (tw T))), (T.a1, .inl (cL, T.N, .inr (.inl T.nu))), (mo, .inr (13, MF 30 u2))] := hD
            have hP := hP.sub (ws' := [(mo, .inr (13, MF 30 u2)), (qx, .inl (cB, NN, .inl f)), (t, .inr (12, MF 13 (tw T))), (T.a1, .inl (cL, T.N, .inr (.inl T.nu)))]) [3, 0, 1, 2] rfl
            have hD := hD.sub (ws' := [(mo, .inr (13, MF 30 u2)), (qx, .inl (cB, NN, .inl f)), (t, .inr (12, MF 13 (tw T))), (T.a1, .inl (cL, T.N, .inr (.inl T.nu)))]) [3, 0, 1, 2] (by decide) rfl
            obtain ⟨b7, h_b7⟩ := rf_fail (v := v) (i := j) (br := br) (b2 := br) (wh := (nI i))
            have hw : r0 = 0 ∧ u2 = _ := hw
            obtain ⟨hw1, hw2⟩ := hw
            rw [h_b7] at hw2
            rw [hw2] at hP hD
            subst hw1
            have hP : va_P (dC, dI) classes [(mo, .inr (13, MF 30 (rf v j b7))), (qx, .inl (cB, NN, .inl f)), (t, .inr (12, MF 13 (tw T))), (T.a1, .inl (cL, T.N, .inr (.inl T.nu)))] H := hP
            have hD : va_D A [(mo, .inr (13, MF 30 (rf v j b7))), (qx, .inl (cB, NN, .inl f)), (t, .inr (12, MF 13 (tw T))), (T.a1, .inl (cL, T.N, .inr (.inl T.nu)))] := hD
            have hfin : numM f n i = none := by unfold numM; rw [if_pos (h_r1.symm.trans c11)]; unfold nuB; rw [if_neg (fun h => h hd1), hdN, if_pos (Or.inl c136)]
            exact W.zret (v := 0) hx hb hr rfl (fun t9 ht hW => ⟨⟨0, (j, b7, T.nu), rfl, Or.inr ⟨rfl, hfin, rfl, by show j ≤ n + 30; omega⟩, by rw [ht]; exact hP, va_K.moved hW.alike hK, hD⟩, hS.F ht⟩) hS.2.2 d_Mo_numberT_171
          · refine lv_aload_n hx hb d_Mo_numberT_139 rfl (lv_at hl 0 rfl) ?_
            have hPc := hP.sub (ws' := [(mo, .inr (13, MF 30 (rf v j br))), (qx, .inl (cB, NN, .inl f))]) [0, 1] rfl
            have hDc := hD.sub (ws' := [(mo, .inr (13, MF 30 (rf v j br))), (qx, .inl (cB, NN, .inl f))]) [0, 1] (by decide) rfl
            have hKc := hK.sub (tys' := [(cB, .byte)]) [0] rfl
            have hFc := va_free (wc := [(mo, .inr (13, MF 30 (rf v j br))), (qx, .inl (cB, NN, .inl f))]) hD hS hA [0, 1] rfl
            refine va_calli (va_runV (As := []) (rest := []) ⟨hx, hb, hml, hown, hts⟩ (c_Mo_c l dC dI mo H (rf v j br) cB qx NN f n j (by omega) (by omega) (by omega) ((rf_ne (by decide) (by decide)).trans h6) rf_7 ((rf_ne (by decide) (by decide)).trans h8)) (cwV 0 hts (gt_V (own := R_Mo) (C := R_Mo) (i := 147) (y := y_Mo_c) i_Mo_c w_1233 w_1235 (gt_sel (y := y_Mo_c) (n := 30) (by decide +kernel)) w_7) rfl rfl rfl (by decide +kernel) ⟨Nat.le_of_ble_eq_true rfl, Nat.le_of_ble_eq_true rfl⟩) ⟨mp_blind, va_recv hKc hPc (ci := 13) (q0 := 0) rfl rfl, fun U hU hW => ⟨rfl, hU, by rw [hU]; exact hPc, va_K.moved hW.alike hKc, hDc.weaken (fun _ _ _ _ => trivial)⟩⟩ rfl rfl hl.1 rfl (lv_room (Nat.le_of_ble_eq_true rfl)) d_Mo_numberT_140 ⟨Nat.le_of_ble_eq_true rfl, Nat.le_of_ble_eq_true rfl⟩) hS (fun q _ h => hFc q h) hFc (fun r6 _u t9 H1 locs ht hvm hw hB hz1 hk1 hS => ?_)
            obtain ⟨hP1, hK1, hD1⟩ := hB
            rw [ht] at hP1
            obtain ⟨hP, hD⟩ := va_join (wr := [(t, .inr (12, MF 13 (tw T))), (T.a1, .inl (cL, T.N, .inr (.inl T.nu)))]) (w1 := [(mo, .inr (13, MF 30 (rf v j br))), (qx, .inl (cB, NN, .inl f))]) hP hD [0, 1] [2, 3] rfl rfl (by decide) (by decide) hk1 hFc hP1 hD1
            generalize H1 = H at hP hS ⊢
            have hP : va_P (dC, dI) classes [(t, .inr (12, MF 13 (tw T))), (T.a1, .inl (cL, T.N, .inr (.inl T.nu))), (mo, .inr (13, MF 30 (rf v j br))), (qx, .inl (cB, NN, .inl f))] H := hP
            have hD : va_D A [(t, .inr (12, MF 13 (tw T))), (T.a1, .inl (cL, T.N, .inr (.inl T.nu))), (mo, .inr (13, MF 30 (rf v j br))), (qx, .inl (cB, NN, .inl f))] := hD
            have hP := hP.sub (ws' := [(mo, .inr (13, MF 30 (rf v j br))), (qx, .inl (cB, NN, .inl f)), (t, .inr (12, MF 13 (tw T))), (T.a1, .inl (cL, T.N, .inr (.inl T.nu)))]) [2, 3, 0, 1] rfl
            have hD := hD.sub (ws' := [(mo, .inr (13, MF 30 (rf v j br))), (qx, .inl (cB, NN, .inl f)), (t, .inr (12, MF 13 (tw T))), (T.a1, .inl (cL, T.N, .inr (.inl T.nu)))]) [2, 3, 0, 1] (by decide) rfl
            have h_r6 : r6 = hereV f n j := hw
            refine lv_bipush (v := 46) hx hb d_Mo_numberT_143 (by decide) ?_
            refine lv_icmp_eq (tgt := 166) hx hb d_Mo_numberT_145 (by decide) (fun c145 => ?_) (fun c145 => ?_)
            · refine lv_aload_n hx hb d_Mo_numberT_166 rfl (lv_at hl 0 rfl) ?_
              refine lv_iload_n hx hb d_Mo_numberT_167 rfl (lv_at hl 3 rfl) ?_
              have hPc := hP.sub (ws' := [(mo, .inr (13, MF 30 (rf v j br)))]) [0] rfl
              have hDc := hD.sub (ws' := [(mo, .inr (13, MF 30 (rf v j br)))]) [0] (by decide) rfl
              have hKc := hK.sub (tys' := []) [] rfl
              have hFc := va_free (wc := [(mo, .inr (13, MF 30 (rf v j br)))]) hD hS hA [0] rfl
              refine va_calli (va_runV (As := [.int (nI i)]) (rest := []) ⟨hx, hb, hml, hown, hts⟩ (c_Mo_fail l dC dI mo H (rf v j br) br ((nI i)) rf_9) (cwV 1 hts (gt_V (own := R_Mo) (C := R_Mo) (i := 151) (y := y_Mo_fail) i_Mo_fail w_1250 w_1252 (gt_sel (y := y_Mo_fail) (n := 30) (by decide +kernel)) w_7) rfl rfl rfl (by decide +kernel) ⟨Nat.le_of_ble_eq_true rfl, Nat.le_of_ble_eq_true rfl⟩) ⟨mp_blind, va_recv hKc hPc (ci := 13) (q0 := 0) rfl rfl, fun U hU hW => ⟨rfl, hU, by rw [hU]; exact hPc, va_K.moved hW.alike hKc, hDc.weaken (fun _ _ _ _ => trivial)⟩⟩ rfl rfl hl.1 rfl (lv_room (Nat.le_of_ble_eq_true rfl)) d_Mo_numberT_168 ⟨Nat.le_of_ble_eq_true rfl, Nat.le_of_ble_eq_true rfl⟩) hS (fun q _ h => hFc q h) hFc (fun r0 u2 t9 H1 locs ht hvm hw hB hz1 hk1 hS => ?_)
              obtain ⟨hP1, hK1, hD1⟩ := hB
              rw [ht] at hP1
              obtain ⟨hP, hD⟩ := va_join (wr := [(qx, .inl (cB, NN, .inl f)), (t, .inr (12, MF 13 (tw T))), (T.a1, .inl (cL, T.N, .inr (.inl T.nu)))]) (w1 := [(mo, .inr (13, MF 30 u2))]) hP hD [0] [1, 2, 3] rfl rfl (by decide) (by decide) hk1 hFc hP1 hD1
              generalize H1 = H at hP hS ⊢
              have hP : va_P (dC, dI) classes [(qx, .inl (cB, NN, .inl f)), (t, .inr (12, MF 13 (tw T))), (T.a1, .inl (cL, T.N, .inr (.inl T.nu))), (mo, .inr (13, MF 30 u2))] H := hP
              have hD : va_D A [(qx, .inl (cB, NN, .inl f)), (t, .inr (12, MF 13 (tw T))), (T.a1, .inl (cL, T.N, .inr (.inl T.nu))), (mo, .inr (13, MF 30 u2))] := hD
              have hP := hP.sub (ws' := [(mo, .inr (13, MF 30 u2)), (qx, .inl (cB, NN, .inl f)), (t, .inr (12, MF 13 (tw T))), (T.a1, .inl (cL, T.N, .inr (.inl T.nu)))]) [3, 0, 1, 2] rfl
              have hD := hD.sub (ws' := [(mo, .inr (13, MF 30 u2)), (qx, .inl (cB, NN, .inl f)), (t, .inr (12, MF 13 (tw T))), (T.a1, .inl (cL, T.N, .inr (.inl T.nu)))]) [3, 0, 1, 2] (by decide) rfl
              obtain ⟨b7, h_b7⟩ := rf_fail (v := v) (i := j) (br := br) (b2 := br) (wh := (nI i))
              have hw : r0 = 0 ∧ u2 = _ := hw
              obtain ⟨hw1, hw2⟩ := hw
              rw [h_b7] at hw2
              rw [hw2] at hP hD
              subst hw1
              have hP : va_P (dC, dI) classes [(mo, .inr (13, MF 30 (rf v j b7))), (qx, .inl (cB, NN, .inl f)), (t, .inr (12, MF 13 (tw T))), (T.a1, .inl (cL, T.N, .inr (.inl T.nu)))] H := hP
              have hD : va_D A [(mo, .inr (13, MF 30 (rf v j b7))), (qx, .inl (cB, NN, .inl f)), (t, .inr (12, MF 13 (tw T))), (T.a1, .inl (cL, T.N, .inr (.inl T.nu)))] := hD
              have hfin : numM f n i = none := by unfold numM; rw [if_pos (h_r1.symm.trans c11)]; unfold nuB; rw [if_neg (fun h => h hd1), hdN, if_pos (Or.inr (Or.inl (h_r6.symm.trans c145)))]
              exact W.zret (v := 0) hx hb hr rfl (fun t9 ht hW => ⟨⟨0, (j, b7, T.nu), rfl, Or.inr ⟨rfl, hfin, rfl, by show j ≤ n + 30; omega⟩, by rw [ht]; exact hP, va_K.moved hW.alike hK, hD⟩, hS.F ht⟩) hS.2.2 d_Mo_numberT_171
            · refine lv_aload_n hx hb d_Mo_numberT_148 rfl (lv_at hl 0 rfl) ?_
              have hPc := hP.sub (ws' := [(mo, .inr (13, MF 30 (rf v j br))), (qx, .inl (cB, NN, .inl f))]) [0, 1] rfl
              have hDc := hD.sub (ws' := [(mo, .inr (13, MF 30 (rf v j br))), (qx, .inl (cB, NN, .inl f))]) [0, 1] (by decide) rfl
              have hKc := hK.sub (tys' := [(cB, .byte)]) [0] rfl
              have hFc := va_free (wc := [(mo, .inr (13, MF 30 (rf v j br))), (qx, .inl (cB, NN, .inl f))]) hD hS hA [0, 1] rfl
              refine va_calli (va_runV (As := []) (rest := []) ⟨hx, hb, hml, hown, hts⟩ (c_Mo_c l dC dI mo H (rf v j br) cB qx NN f n j (by omega) (by omega) (by omega) ((rf_ne (by decide) (by decide)).trans h6) rf_7 ((rf_ne (by decide) (by decide)).trans h8)) (cwV 0 hts (gt_V (own := R_Mo) (C := R_Mo) (i := 147) (y := y_Mo_c) i_Mo_c w_1233 w_1235 (gt_sel (y := y_Mo_c) (n := 30) (by decide +kernel)) w_7) rfl rfl rfl (by decide +kernel) ⟨Nat.le_of_ble_eq_true rfl, Nat.le_of_ble_eq_true rfl⟩) ⟨mp_blind, va_recv hKc hPc (ci := 13) (q0 := 0) rfl rfl, fun U hU hW => ⟨rfl, hU, by rw [hU]; exact hPc, va_K.moved hW.alike hKc, hDc.weaken (fun _ _ _ _ => trivial)⟩⟩ rfl rfl hl.1 rfl (lv_room (Nat.le_of_ble_eq_true rfl)) d_Mo_numberT_149 ⟨Nat.le_of_ble_eq_true rfl, Nat.le_of_ble_eq_true rfl⟩) hS (fun q _ h => hFc q h) hFc (fun r7 _u t9 H1 locs ht hvm hw hB hz1 hk1 hS => ?_)
              obtain ⟨hP1, hK1, hD1⟩ := hB
              rw [ht] at hP1
              obtain ⟨hP, hD⟩ := va_join (wr := [(t, .inr (12, MF 13 (tw T))), (T.a1, .inl (cL, T.N, .inr (.inl T.nu)))]) (w1 := [(mo, .inr (13, MF 30 (rf v j br))), (qx, .inl (cB, NN, .inl f))]) hP hD [0, 1] [2, 3] rfl rfl (by decide) (by decide) hk1 hFc hP1 hD1
              generalize H1 = H at hP hS ⊢
              have hP : va_P (dC, dI) classes [(t, .inr (12, MF 13 (tw T))), (T.a1, .inl (cL, T.N, .inr (.inl T.nu))), (mo, .inr (13, MF 30 (rf v j br))), (qx, .inl (cB, NN, .inl f))] H := hP
              have hD : va_D A [(t, .inr (12, MF 13 (tw T))), (T.a1, .inl (cL, T.N, .inr (.inl T.nu))), (mo, .inr (13, MF 30 (rf v j br))), (qx, .inl (cB, NN, .inl f))] := hD
              have hP := hP.sub (ws' := [(mo, .inr (13, MF 30 (rf v j br))), (qx, .inl (cB, NN, .inl f)), (t, .inr (12, MF 13 (tw T))), (T.a1, .inl (cL, T.N, .inr (.inl T.nu)))]) [2, 3, 0, 1] rfl
              have hD := hD.sub (ws' := [(mo, .inr (13, MF 30 (rf v j br))), (qx, .inl (cB, NN, .inl f)), (t, .inr (12, MF 13 (tw T))), (T.a1, .inl (cL, T.N, .inr (.inl T.nu)))]) [2, 3, 0, 1] (by decide) rfl
              have h_r7 : r7 = hereV f n j := hw
              refine lv_bipush (v := 101) hx hb d_Mo_numberT_152 (by decide) ?_
              refine lv_icmp_eq (tgt := 166) hx hb d_Mo_numberT_154 (by decide) (fun c154 => ?_) (fun c154 => ?_)
              · refine lv_aload_n hx hb d_Mo_numberT_166 rfl (lv_at hl 0 rfl) ?_
                refine lv_iload_n hx hb d_Mo_numberT_167 rfl (lv_at hl 3 rfl) ?_
                have hPc := hP.sub (ws' := [(mo, .inr (13, MF 30 (rf v j br)))]) [0] rfl
                have hDc := hD.sub (ws' := [(mo, .inr (13, MF 30 (rf v j br)))]) [0] (by decide) rfl
                have hKc := hK.sub (tys' := []) [] rfl
                have hFc := va_free (wc := [(mo, .inr (13, MF 30 (rf v j br)))]) hD hS hA [0] rfl
                refine va_calli (va_runV (As := [.int (nI i)]) (rest := []) ⟨hx, hb, hml, hown, hts⟩ (c_Mo_fail l dC dI mo H (rf v j br) br ((nI i)) rf_9) (cwV 1 hts (gt_V (own := R_Mo) (C := R_Mo) (i := 151) (y := y_Mo_fail) i_Mo_fail w_1250 w_1252 (gt_sel (y := y_Mo_fail) (n := 30) (by decide +kernel)) w_7) rfl rfl rfl (by decide +kernel) ⟨Nat.le_of_ble_eq_true rfl, Nat.le_of_ble_eq_true rfl⟩) ⟨mp_blind, va_recv hKc hPc (ci := 13) (q0 := 0) rfl rfl, fun U hU hW => ⟨rfl, hU, by rw [hU]; exact hPc, va_K.moved hW.alike hKc, hDc.weaken (fun _ _ _ _ => trivial)⟩⟩ rfl rfl hl.1 rfl (lv_room (Nat.le_of_ble_eq_true rfl)) d_Mo_numberT_168 ⟨Nat.le_of_ble_eq_true rfl, Nat.le_of_ble_eq_true rfl⟩) hS (fun q _ h => hFc q h) hFc (fun r0 u2 t9 H1 locs ht hvm hw hB hz1 hk1 hS => ?_)
                obtain ⟨hP1, hK1, hD1⟩ := hB
                rw [ht] at hP1
                obtain ⟨hP, hD⟩ := va_join (wr := [(qx, .inl (cB, NN, .inl f)), (t, .inr (12, MF 13 (tw T))), (T.a1, .inl (cL, T.N, .inr (.inl T.nu)))]) (w1 := [(mo, .inr (13, MF 30 u2))]) hP hD [0] [1, 2, 3] rfl rfl (by decide) (by decide) hk1 hFc hP1 hD1
                generalize H1 = H at hP hS ⊢
                have hP : va_P (dC, dI) classes [(qx, .inl (cB, NN, .inl f)), (t, .inr (12, MF 13 (tw T))), (T.a1, .inl (cL, T.N, .inr (.inl T.nu))), (mo, .inr (13, MF 30 u2))] H := hP
                have hD : va_D A [(qx, .inl (cB, NN, .inl f)), (t, .inr (12, MF 13 (tw T))), (T.a1, .inl (cL, T.N, .inr (.inl T.nu))), (mo, .inr (13, MF 30 u2))] := hD
                have hP := hP.sub (ws' := [(mo, .inr (13, MF 30 u2)), (qx, .inl (cB, NN, .inl f)), (t, .inr (12, MF 13 (tw T))), (T.a1, .inl (cL, T.N, .inr (.inl T.nu)))]) [3, 0, 1, 2] rfl
                have hD := hD.sub (ws' := [(mo, .inr (13, MF 30 u2)), (qx, .inl (cB, NN, .inl f)), (t, .inr (12, MF 13 (tw T))), (T.a1, .inl (cL, T.N, .inr (.inl T.nu)))]) [3, 0, 1, 2] (by decide) rfl
                obtain ⟨b7, h_b7⟩ := rf_fail (v := v) (i := j) (br := br) (b2 := br) (wh := (nI i))
                have hw : r0 = 0 ∧ u2 = _ := hw
                obtain ⟨hw1, hw2⟩ := hw
                rw [h_b7] at hw2
                rw [hw2] at hP hD
                subst hw1
                have hP : va_P (dC, dI) classes [(mo, .inr (13, MF 30 (rf v j b7))), (qx, .inl (cB, NN, .inl f)), (t, .inr (12, MF 13 (tw T))), (T.a1, .inl (cL, T.N, .inr (.inl T.nu)))] H := hP
                have hD : va_D A [(mo, .inr (13, MF 30 (rf v j b7))), (qx, .inl (cB, NN, .inl f)), (t, .inr (12, MF 13 (tw T))), (T.a1, .inl (cL, T.N, .inr (.inl T.nu)))] := hD
                have hfin : numM f n i = none := by unfold numM; rw [if_pos (h_r1.symm.trans c11)]; unfold nuB; rw [if_neg (fun h => h hd1), hdN, if_pos (Or.inr (Or.inr (Or.inl (h_r7.symm.trans c154))))]
                exact W.zret (v := 0) hx hb hr rfl (fun t9 ht hW => ⟨⟨0, (j, b7, T.nu), rfl, Or.inr ⟨rfl, hfin, rfl, by show j ≤ n + 30; omega⟩, by rw [ht]; exact hP, va_K.moved hW.alike hK, hD⟩, hS.F ht⟩) hS.2.2 d_Mo_numberT_171
              · refine lv_aload_n hx hb d_Mo_numberT_157 rfl (lv_at hl 0 rfl) ?_
                have hPc := hP.sub (ws' := [(mo, .inr (13, MF 30 (rf v j br))), (qx, .inl (cB, NN, .inl f))]) [0, 1] rfl
                have hDc := hD.sub (ws' := [(mo, .inr (13, MF 30 (rf v j br))), (qx, .inl (cB, NN, .inl f))]) [0, 1] (by decide) rfl
                have hKc := hK.sub (tys' := [(cB, .byte)]) [0] rfl
                have hFc := va_free (wc := [(mo, .inr (13, MF 30 (rf v j br))), (qx, .inl (cB, NN, .inl f))]) hD hS hA [0, 1] rfl
                refine va_calli (va_runV (As := []) (rest := []) ⟨hx, hb, hml, hown, hts⟩ (c_Mo_c l dC dI mo H (rf v j br) cB qx NN f n j (by omega) (by omega) (by omega) ((rf_ne (by decide) (by decide)).trans h6) rf_7 ((rf_ne (by decide) (by decide)).trans h8)) (cwV 0 hts (gt_V (own := R_Mo) (C := R_Mo) (i := 147) (y := y_Mo_c) i_Mo_c w_1233 w_1235 (gt_sel (y := y_Mo_c) (n := 30) (by decide +kernel)) w_7) rfl rfl rfl (by decide +kernel) ⟨Nat.le_of_ble_eq_true rfl, Nat.le_of_ble_eq_true rfl⟩) ⟨mp_blind, va_recv hKc hPc (ci := 13) (q0 := 0) rfl rfl, fun U hU hW => ⟨rfl, hU, by rw [hU]; exact hPc, va_K.moved hW.alike hKc, hDc.weaken (fun _ _ _ _ => trivial)⟩⟩ rfl rfl hl.1 rfl (lv_room (Nat.le_of_ble_eq_true rfl)) d_Mo_numberT_158 ⟨Nat.le_of_ble_eq_true rfl, Nat.le_of_ble_eq_true rfl⟩) hS (fun q _ h => hFc q h) hFc (fun r8 _u t9 H1 locs ht hvm hw hB hz1 hk1 hS => ?_)
                obtain ⟨hP1, hK1, hD1⟩ := hB
                rw [ht] at hP1
                obtain ⟨hP, hD⟩ := va_join (wr := [(t, .inr (12, MF 13 (tw T))), (T.a1, .inl (cL, T.N, .inr (.inl T.nu)))]) (w1 := [(mo, .inr (13, MF 30 (rf v j br))), (qx, .inl (cB, NN, .inl f))]) hP hD [0, 1] [2, 3] rfl rfl (by decide) (by decide) hk1 hFc hP1 hD1
                generalize H1 = H at hP hS ⊢
                have hP : va_P (dC, dI) classes [(t, .inr (12, MF 13 (tw T))), (T.a1, .inl (cL, T.N, .inr (.inl T.nu))), (mo, .inr (13, MF 30 (rf v j br))), (qx, .inl (cB, NN, .inl f))] H := hP
                have hD : va_D A [(t, .inr (12, MF 13 (tw T))), (T.a1, .inl (cL, T.N, .inr (.inl T.nu))), (mo, .inr (13, MF 30 (rf v j br))), (qx, .inl (cB, NN, .inl f))] := hD
                have hP := hP.sub (ws' := [(mo, .inr (13, MF 30 (rf v j br))), (qx, .inl (cB, NN, .inl f)), (t, .inr (12, MF 13 (tw T))), (T.a1, .inl (cL, T.N, .inr (.inl T.nu)))]) [2, 3, 0, 1] rfl
                have hD := hD.sub (ws' := [(mo, .inr (13, MF 30 (rf v j br))), (qx, .inl (cB, NN, .inl f)), (t, .inr (12, MF 13 (tw T))), (T.a1, .inl (cL, T.N, .inr (.inl T.nu)))]) [2, 3, 0, 1] (by decide) rfl
                have h_r8 : r8 = hereV f n j := hw
                refine lv_bipush (v := 69) hx hb d_Mo_numberT_161 (by decide) ?_
                refine lv_icmp_ne (tgt := 172) hx hb d_Mo_numberT_163 (by decide) (fun c163 => ?_) (fun c163 => ?_)
                · refine lv_aload_n hx hb d_Mo_numberT_172 rfl (lv_at hl 1 rfl) ?_
                  refine va_get (D := (dC, dI)) (ci := 12) (v := .ref T.a1) (C := R_Tree) (T := F_Tree) (N := 13) hx hb hts in_Tree hown hK hP 2 rfl rfl 1 (by decide) (hts _ w_1037) (fun _ h9 => h9) (MFg (by decide) rfl) d_Mo_numberT_173 ?_
                  refine lv_iload_n hx hb d_Mo_numberT_176 rfl (lv_at hl 2 rfl) ?_
                  refine lv_iload hx hb d_Mo_numberT_177 (lv_at hl 4 rfl) ?_
                  refine lv_if_eq (tgt := 188) hx hb d_Mo_numberT_179 (by decide) (fun h => absurd h (by decide)) (fun _ => ?_)
                  refine lv_lload hx hb d_Mo_numberT_182 (lv_at hl 5 rfl) ?_
                  refine lv_lneg hx hb d_Mo_numberT_184 ?_
                  refine lv_goto (tgt := 190) hx hb d_Mo_numberT_185 (by decide) ?_
                  refine va_last hx hb hK hP hD hS 3 1 rfl rfl (vp_in_nI (show nd < T.N by omega) (by omega)) d_Mo_numberT_190 (fun H locs hP hD hS => ?_)
                  rw [show (nI nd).toNatClampNeg = nd from nI_clamp (by omega)] at hP hD
                  have hP : va_P (dC, dI) classes [(mo, .inr (13, MF 30 (rf v j br))), (qx, .inl (cB, NN, .inl f)), (t, .inr (12, MF 13 (tw T))), (T.a1, .inl (cL, T.N, .inr (.inl (vp_updL T.nu nd (-a)))))] H := hP
                  have hD : va_D A [(mo, .inr (13, MF 30 (rf v j br))), (qx, .inl (cB, NN, .inl f)), (t, .inr (12, MF 13 (tw T))), (T.a1, .inl (cL, T.N, .inr (.inl (vp_updL T.nu nd (-a)))))] := hD
                  refine lv_iconst (v := 1) hx hb d_Mo_numberT_191 (by decide) ?_
                  have hfin : numM f n i = some ((-a), j) := by unfold numM; rw [if_pos (h_r1.symm.trans c11)]; unfold nuB; rw [if_neg (fun h => h hd1), hdN, if_neg (fun h => h.elim c136 (fun h => h.elim (fun h => c145 (h_r6.trans h)) (fun h => h.elim (fun h => c154 (h_r7.trans h)) (fun h => c163 (h_r8.trans h)))))]; rfl
                  exact W.zret (v := 1) hx hb hr rfl (fun t9 ht hW => ⟨⟨1, (j, br, vp_updL T.nu nd (-a)), rfl, Or.inl ⟨rfl, (-a), hfin, rfl, hjn⟩, by rw [ht]; exact hP, va_K.moved hW.alike hK, hD⟩, hS.F ht⟩) hS.2.2 d_Mo_numberT_192
                · refine lv_aload_n hx hb d_Mo_numberT_166 rfl (lv_at hl 0 rfl) ?_
                  refine lv_iload_n hx hb d_Mo_numberT_167 rfl (lv_at hl 3 rfl) ?_
                  have hPc := hP.sub (ws' := [(mo, .inr (13, MF 30 (rf v j br)))]) [0] rfl
                  have hDc := hD.sub (ws' := [(mo, .inr (13, MF 30 (rf v j br)))]) [0] (by decide) rfl
                  have hKc := hK.sub (tys' := []) [] rfl
                  have hFc := va_free (wc := [(mo, .inr (13, MF 30 (rf v j br)))]) hD hS hA [0] rfl
                  refine va_calli (va_runV (As := [.int (nI i)]) (rest := []) ⟨hx, hb, hml, hown, hts⟩ (c_Mo_fail l dC dI mo H (rf v j br) br ((nI i)) rf_9) (cwV 1 hts (gt_V (own := R_Mo) (C := R_Mo) (i := 151) (y := y_Mo_fail) i_Mo_fail w_1250 w_1252 (gt_sel (y := y_Mo_fail) (n := 30) (by decide +kernel)) w_7) rfl rfl rfl (by decide +kernel) ⟨Nat.le_of_ble_eq_true rfl, Nat.le_of_ble_eq_true rfl⟩) ⟨mp_blind, va_recv hKc hPc (ci := 13) (q0 := 0) rfl rfl, fun U hU hW => ⟨rfl, hU, by rw [hU]; exact hPc, va_K.moved hW.alike hKc, hDc.weaken (fun _ _ _ _ => trivial)⟩⟩ rfl rfl hl.1 rfl (lv_room (Nat.le_of_ble_eq_true rfl)) d_Mo_numberT_168 ⟨Nat.le_of_ble_eq_true rfl, Nat.le_of_ble_eq_true rfl⟩) hS (fun q _ h => hFc q h) hFc (fun r0 u2 t9 H1 locs ht hvm hw hB hz1 hk1 hS => ?_)
                  obtain ⟨hP1, hK1, hD1⟩ := hB
                  rw [ht] at hP1
                  obtain ⟨hP, hD⟩ := va_join (wr := [(qx, .inl (cB, NN, .inl f)), (t, .inr (12, MF 13 (tw T))), (T.a1, .inl (cL, T.N, .inr (.inl T.nu)))]) (w1 := [(mo, .inr (13, MF 30 u2))]) hP hD [0] [1, 2, 3] rfl rfl (by decide) (by decide) hk1 hFc hP1 hD1
                  generalize H1 = H at hP hS ⊢
                  have hP : va_P (dC, dI) classes [(qx, .inl (cB, NN, .inl f)), (t, .inr (12, MF 13 (tw T))), (T.a1, .inl (cL, T.N, .inr (.inl T.nu))), (mo, .inr (13, MF 30 u2))] H := hP
                  have hD : va_D A [(qx, .inl (cB, NN, .inl f)), (t, .inr (12, MF 13 (tw T))), (T.a1, .inl (cL, T.N, .inr (.inl T.nu))), (mo, .inr (13, MF 30 u2))] := hD
                  have hP := hP.sub (ws' := [(mo, .inr (13, MF 30 u2)), (qx, .inl (cB, NN, .inl f)), (t, .inr (12, MF 13 (tw T))), (T.a1, .inl (cL, T.N, .inr (.inl T.nu)))]) [3, 0, 1, 2] rfl
                  have hD := hD.sub (ws' := [(mo, .inr (13, MF 30 u2)), (qx, .inl (cB, NN, .inl f)), (t, .inr (12, MF 13 (tw T))), (T.a1, .inl (cL, T.N, .inr (.inl T.nu)))]) [3, 0, 1, 2] (by decide) rfl
                  obtain ⟨b7, h_b7⟩ := rf_fail (v := v) (i := j) (br := br) (b2 := br) (wh := (nI i))
                  have hw : r0 = 0 ∧ u2 = _ := hw
                  obtain ⟨hw1, hw2⟩ := hw
                  rw [h_b7] at hw2
                  rw [hw2] at hP hD
                  subst hw1
                  have hP : va_P (dC, dI) classes [(mo, .inr (13, MF 30 (rf v j b7))), (qx, .inl (cB, NN, .inl f)), (t, .inr (12, MF 13 (tw T))), (T.a1, .inl (cL, T.N, .inr (.inl T.nu)))] H := hP
                  have hD : va_D A [(mo, .inr (13, MF 30 (rf v j b7))), (qx, .inl (cB, NN, .inl f)), (t, .inr (12, MF 13 (tw T))), (T.a1, .inl (cL, T.N, .inr (.inl T.nu)))] := hD
                  have hfin : numM f n i = none := by unfold numM; rw [if_pos (h_r1.symm.trans c11)]; unfold nuB; rw [if_neg (fun h => h hd1), hdN, if_pos (Or.inr (Or.inr (Or.inr (h_r8.symm.trans c163))))]
                  exact W.zret (v := 0) hx hb hr rfl (fun t9 ht hW => ⟨⟨0, (j, b7, T.nu), rfl, Or.inr ⟨rfl, hfin, rfl, by show j ≤ n + 30; omega⟩, by rw [ht]; exact hP, va_K.moved hW.alike hK, hD⟩, hS.F ht⟩) hS.2.2 d_Mo_numberT_171
        · refine lv_lload hx hb d_Mo_numberT_90 (lv_at hl 5 rfl) ?_
          refine lv_ldc2 (v := 9007199254740991) hx hb hown (hts _ w_1343) d_Mo_numberT_92 ?_
          refine W.lcmp hx hb d_Mo_numberT_95 ?_
          refine lv_if_gt (tgt := 117) hx hb d_Mo_numberT_96 (by decide) (fun c96 => ?_) (fun c96 => ?_)
          · refine lv_aload_n hx hb d_Mo_numberT_117 rfl (lv_at hl 0 rfl) ?_
            refine lv_dup hx hb d_Mo_numberT_118 rfl ?_
            refine va_get (D := (dC, dI)) (ci := 13) (v := .int (nI j)) (C := R_Mo) (T := F_Mo) (N := 30) hx hb hts in_Mo hown hK hP 0 rfl rfl 7 (by decide) (hts _ w_1096) (fun _ h9 => h9) (MFg (by decide) rf_7) d_Mo_numberT_119 ?_
            refine lv_iconst (v := 1) hx hb d_Mo_numberT_122 (by decide) ?_
            refine lv_iadd hx hb d_Mo_numberT_123 ?_
            refine W.eq (g2 := F0 m 124 ls [.int (nI (j + 1)), .ref mo]) (by rw [show ((nI j) + 1) = (nI (j + 1)) from nI_1 _]) ?_
            refine va_put (D := (dC, dI)) (ci := 13) (v := .int (nI (j + 1))) (ty := .int) (C := R_Mo) (T := F_Mo) (N := 30) hx hb hts in_Mo t_Mo t_Mo_ok n_Mo hown hK hP hD hS 0 rfl rfl 7 (by decide) (hts _ w_1096) (fun _ h9 => h9) rfl (by decide +kernel) rfl rfl (by rw [MFl]; decide) d_Mo_numberT_124 (fun H locs hP hD hS => ?_)
            rw [MFs (n := 30) (k := 7) (by decide)] at hP hD
            have hP : va_P (dC, dI) classes [(mo, .inr (13, MF 30 (va_up (rf v j br) 7 (.int (nI (j + 1)))))), (qx, .inl (cB, NN, .inl f)), (t, .inr (12, MF 13 (tw T))), (T.a1, .inl (cL, T.N, .inr (.inl T.nu)))] H := hP
            have hD : va_D A [(mo, .inr (13, MF 30 (va_up (rf v j br) 7 (.int (nI (j + 1)))))), (qx, .inl (cB, NN, .inl f)), (t, .inr (12, MF 13 (tw T))), (T.a1, .inl (cL, T.N, .inr (.inl T.nu)))] := hD
            rw [rf_u7] at hP hD
            have hP : va_P (dC, dI) classes [(mo, .inr (13, MF 30 (rf v (j + 1) br))), (qx, .inl (cB, NN, .inl f)), (t, .inr (12, MF 13 (tw T))), (T.a1, .inl (cL, T.N, .inr (.inl T.nu)))] H := hP
            have hD : va_D A [(mo, .inr (13, MF 30 (rf v (j + 1) br))), (qx, .inl (cB, NN, .inl f)), (t, .inr (12, MF 13 (tw T))), (T.a1, .inl (cL, T.N, .inr (.inl T.nu)))] := hD
            refine lv_goto (tgt := 80) hx hb d_Mo_numberT_127 (by decide) ?_
            have hdj : digH (hereV f n j) := by rw [← h_r4]; exact h_d4.1 c87
            have hltj := digH_lt hdj
            have hst : dgM f n k0 (j + 1) (a) = dgM f n (n + 1) (i + 1) 0 := by
              rw [← hI4, hk0]
              simp only [dgM]
              rw [if_pos hdj, if_pos c96]
            exact ih (k0, j + 1, a) _ _ _ ⟨by omega, by omega, by omega, hst⟩ (by show n + 1 - (j + 1) < n + 1 - j; omega) hP hD hS (lv_sub hl [0, 1, 2, 3, 4, 5] rfl)
          · refine lv_ldc2 (v := 10) hx hb hown (hts _ w_1344) d_Mo_numberT_99 ?_
            refine lv_lload hx hb d_Mo_numberT_102 (lv_at hl 5 rfl) ?_
            refine lv_lmul hx hb d_Mo_numberT_104 ?_
            refine lv_aload_n hx hb d_Mo_numberT_105 rfl (lv_at hl 0 rfl) ?_
            have hPc := hP.sub (ws' := [(mo, .inr (13, MF 30 (rf v j br))), (qx, .inl (cB, NN, .inl f))]) [0, 1] rfl
            have hDc := hD.sub (ws' := [(mo, .inr (13, MF 30 (rf v j br))), (qx, .inl (cB, NN, .inl f))]) [0, 1] (by decide) rfl
            have hKc := hK.sub (tys' := [(cB, .byte)]) [0] rfl
            have hFc := va_free (wc := [(mo, .inr (13, MF 30 (rf v j br))), (qx, .inl (cB, NN, .inl f))]) hD hS hA [0, 1] rfl
            refine va_calli (va_runV (As := []) (rest := [.long (10 * a)]) ⟨hx, hb, hml, hown, hts⟩ (c_Mo_c l dC dI mo H (rf v j br) cB qx NN f n j (by omega) (by omega) (by omega) ((rf_ne (by decide) (by decide)).trans h6) rf_7 ((rf_ne (by decide) (by decide)).trans h8)) (cwV 0 hts (gt_V (own := R_Mo) (C := R_Mo) (i := 147) (y := y_Mo_c) i_Mo_c w_1233 w_1235 (gt_sel (y := y_Mo_c) (n := 30) (by decide +kernel)) w_7) rfl rfl rfl (by decide +kernel) ⟨Nat.le_of_ble_eq_true rfl, Nat.le_of_ble_eq_true rfl⟩) ⟨mp_blind, va_recv hKc hPc (ci := 13) (q0 := 0) rfl rfl, fun U hU hW => ⟨rfl, hU, by rw [hU]; exact hPc, va_K.moved hW.alike hKc, hDc.weaken (fun _ _ _ _ => trivial)⟩⟩ rfl rfl hl.1 rfl (lv_room (Nat.le_of_ble_eq_true rfl)) d_Mo_numberT_106 ⟨Nat.le_of_ble_eq_true rfl, Nat.le_of_ble_eq_true rfl⟩) hS (fun q _ h => hFc q h) hFc (fun r5 _u t9 H1 locs ht hvm hw hB hz1 hk1 hS => ?_)
            obtain ⟨hP1, hK1, hD1⟩ := hB
            rw [ht] at hP1
            obtain ⟨hP, hD⟩ := va_join (wr := [(t, .inr (12, MF 13 (tw T))), (T.a1, .inl (cL, T.N, .inr (.inl T.nu)))]) (w1 := [(mo, .inr (13, MF 30 (rf v j br))), (qx, .inl (cB, NN, .inl f))]) hP hD [0, 1] [2, 3] rfl rfl (by decide) (by decide) hk1 hFc hP1 hD1
            generalize H1 = H at hP hS ⊢
            have hP : va_P (dC, dI) classes [(t, .inr (12, MF 13 (tw T))), (T.a1, .inl (cL, T.N, .inr (.inl T.nu))), (mo, .inr (13, MF 30 (rf v j br))), (qx, .inl (cB, NN, .inl f))] H := hP
            have hD : va_D A [(t, .inr (12, MF 13 (tw T))), (T.a1, .inl (cL, T.N, .inr (.inl T.nu))), (mo, .inr (13, MF 30 (rf v j br))), (qx, .inl (cB, NN, .inl f))] := hD
            have hP := hP.sub (ws' := [(mo, .inr (13, MF 30 (rf v j br))), (qx, .inl (cB, NN, .inl f)), (t, .inr (12, MF 13 (tw T))), (T.a1, .inl (cL, T.N, .inr (.inl T.nu)))]) [2, 3, 0, 1] rfl
            have hD := hD.sub (ws' := [(mo, .inr (13, MF 30 (rf v j br))), (qx, .inl (cB, NN, .inl f)), (t, .inr (12, MF 13 (tw T))), (T.a1, .inl (cL, T.N, .inr (.inl T.nu)))]) [2, 3, 0, 1] (by decide) rfl
            have h_r5 : r5 = hereV f n j := hw
            refine lv_i2l (v := r5.toInt64) hx hb d_Mo_numberT_109 rfl ?_
            refine lv_ladd hx hb d_Mo_numberT_110 ?_
            refine lv_ldc2 (v := 48) hx hb hown (hts _ w_1345) d_Mo_numberT_111 ?_
            refine lv_lsub hx hb d_Mo_numberT_114 ?_
            refine lv_lstore (lv' := [(5, .long (((10 * a) + (r5.toInt64)) - 48)), (0, .ref mo), (1, .ref t), (2, .int (nI nd)), (3, .int (nI i)), (4, .int 1)]) hx hb d_Mo_numberT_115 hl (by decide) rfl (fun ls hl => ?_)
            refine lv_aload_n hx hb d_Mo_numberT_117 rfl (lv_at hl 1 rfl) ?_
            refine lv_dup hx hb d_Mo_numberT_118 rfl ?_
            refine va_get (D := (dC, dI)) (ci := 13) (v := .int (nI j)) (C := R_Mo) (T := F_Mo) (N := 30) hx hb hts in_Mo hown hK hP 0 rfl rfl 7 (by decide) (hts _ w_1096) (fun _ h9 => h9) (MFg (by decide) rf_7) d_Mo_numberT_119 ?_
            refine lv_iconst (v := 1) hx hb d_Mo_numberT_122 (by decide) ?_
            refine lv_iadd hx hb d_Mo_numberT_123 ?_
            refine W.eq (g2 := F0 m 124 ls [.int (nI (j + 1)), .ref mo]) (by rw [show ((nI j) + 1) = (nI (j + 1)) from nI_1 _]) ?_
            refine va_put (D := (dC, dI)) (ci := 13) (v := .int (nI (j + 1))) (ty := .int) (C := R_Mo) (T := F_Mo) (N := 30) hx hb hts in_Mo t_Mo t_Mo_ok n_Mo hown hK hP hD hS 0 rfl rfl 7 (by decide) (hts _ w_1096) (fun _ h9 => h9) rfl (by decide +kernel) rfl rfl (by rw [MFl]; decide) d_Mo_numberT_124 (fun H locs hP hD hS => ?_)
            rw [MFs (n := 30) (k := 7) (by decide)] at hP hD
            have hP : va_P (dC, dI) classes [(mo, .inr (13, MF 30 (va_up (rf v j br) 7 (.int (nI (j + 1)))))), (qx, .inl (cB, NN, .inl f)), (t, .inr (12, MF 13 (tw T))), (T.a1, .inl (cL, T.N, .inr (.inl T.nu)))] H := hP
            have hD : va_D A [(mo, .inr (13, MF 30 (va_up (rf v j br) 7 (.int (nI (j + 1)))))), (qx, .inl (cB, NN, .inl f)), (t, .inr (12, MF 13 (tw T))), (T.a1, .inl (cL, T.N, .inr (.inl T.nu)))] := hD
            rw [rf_u7] at hP hD
            have hP : va_P (dC, dI) classes [(mo, .inr (13, MF 30 (rf v (j + 1) br))), (qx, .inl (cB, NN, .inl f)), (t, .inr (12, MF 13 (tw T))), (T.a1, .inl (cL, T.N, .inr (.inl T.nu)))] H := hP
            have hD : va_D A [(mo, .inr (13, MF 30 (rf v (j + 1) br))), (qx, .inl (cB, NN, .inl f)), (t, .inr (12, MF 13 (tw T))), (T.a1, .inl (cL, T.N, .inr (.inl T.nu)))] := hD
            refine lv_goto (tgt := 80) hx hb d_Mo_numberT_127 (by decide) ?_
            have hdj : digH (hereV f n j) := by rw [← h_r4]; exact h_d4.1 c87
            have hltj := digH_lt hdj
            have hst : dgM f n k0 (j + 1) ((((10 * a) + (r5.toInt64)) - 48)) = dgM f n (n + 1) (i + 1) 0 := by
              rw [← hI4, hk0]
              simp only [dgM]
              rw [if_pos hdj, if_neg c96, h_r5]
            exact ih (k0, j + 1, (((10 * a) + (r5.toInt64)) - 48)) _ _ _ ⟨by omega, by omega, by omega, hst⟩ (by show n + 1 - (j + 1) < n + 1 - j; omega) hP hD hS (lv_sub hl [1, 2, 3, 4, 5, 0] rfl)
      · refine lv_aload_n hx hb d_Mo_numberT_67 rfl (lv_at hl 3 rfl) ?_
        refine lv_dup hx hb d_Mo_numberT_68 rfl ?_
        refine va_get (D := (dC, dI)) (ci := 13) (v := .int (nI (i + 1))) (C := R_Mo) (T := F_Mo) (N := 30) hx hb hts in_Mo hown hK hP 0 rfl rfl 7 (by decide) (hts _ w_1096) (fun _ h9 => h9) (MFg (by decide) rf_7) d_Mo_numberT_69 ?_
        refine lv_iconst (v := 1) hx hb d_Mo_numberT_72 (by decide) ?_
        refine lv_iadd hx hb d_Mo_numberT_73 ?_
        refine W.eq (g2 := F0 m 74 ls [.int (nI ((i + 1) + 1)), .ref mo]) (by rw [show ((nI (i + 1)) + 1) = (nI ((i + 1) + 1)) from nI_1 _]) ?_
        refine va_put (D := (dC, dI)) (ci := 13) (v := .int (nI ((i + 1) + 1))) (ty := .int) (C := R_Mo) (T := F_Mo) (N := 30) hx hb hts in_Mo t_Mo t_Mo_ok n_Mo hown hK hP hD hS 0 rfl rfl 7 (by decide) (hts _ w_1096) (fun _ h9 => h9) rfl (by decide +kernel) rfl rfl (by rw [MFl]; decide) d_Mo_numberT_74 (fun H locs hP hD hS => ?_)
        rw [MFs (n := 30) (k := 7) (by decide)] at hP hD
        have hP : va_P (dC, dI) classes [(mo, .inr (13, MF 30 (va_up (rf v (i + 1) br) 7 (.int (nI ((i + 1) + 1)))))), (qx, .inl (cB, NN, .inl f)), (t, .inr (12, MF 13 (tw T))), (T.a1, .inl (cL, T.N, .inr (.inl T.nu)))] H := hP
        have hD : va_D A [(mo, .inr (13, MF 30 (va_up (rf v (i + 1) br) 7 (.int (nI ((i + 1) + 1)))))), (qx, .inl (cB, NN, .inl f)), (t, .inr (12, MF 13 (tw T))), (T.a1, .inl (cL, T.N, .inr (.inl T.nu)))] := hD
        rw [rf_u7] at hP hD
        have hP : va_P (dC, dI) classes [(mo, .inr (13, MF 30 (rf v ((i + 1) + 1) br))), (qx, .inl (cB, NN, .inl f)), (t, .inr (12, MF 13 (tw T))), (T.a1, .inl (cL, T.N, .inr (.inl T.nu)))] H := hP
        have hD : va_D A [(mo, .inr (13, MF 30 (rf v ((i + 1) + 1) br))), (qx, .inl (cB, NN, .inl f)), (t, .inr (12, MF 13 (tw T))), (T.a1, .inl (cL, T.N, .inr (.inl T.nu)))] := hD
        refine lv_goto (tgt := 130) hx hb d_Mo_numberT_77 (by decide) ?_
        have hd1 : digH (hereV f n (i + 1)) := by rw [← h_r2]; exact h_d2.1 c43
        have hlt1 := digH_lt hd1
        have hdN : dgN f n (i + 1) = (0, (i + 1) + 1) := by unfold dgN; rw [if_pos (h_r3.symm.trans c64)]
        have hjn : (i + 1) + 1 ≤ n := by omega
        refine lv_lload hx hb d_Mo_numberT_130 (lv_at hl 0 rfl) ?_
        refine lv_ldc2 (v := 9007199254740991) hx hb hown (hts _ w_1343) d_Mo_numberT_132 ?_
        refine W.lcmp hx hb d_Mo_numberT_135 ?_
        refine lv_if_gt (tgt := 166) hx hb d_Mo_numberT_136 (by decide) (fun c136 => ?_) (fun c136 => ?_)
        · refine lv_aload_n hx hb d_Mo_numberT_166 rfl (lv_at hl 3 rfl) ?_
          refine lv_iload_n hx hb d_Mo_numberT_167 rfl (lv_at hl 2 rfl) ?_
          have hPc := hP.sub (ws' := [(mo, .inr (13, MF 30 (rf v ((i + 1) + 1) br)))]) [0] rfl
          have hDc := hD.sub (ws' := [(mo, .inr (13, MF 30 (rf v ((i + 1) + 1) br)))]) [0] (by decide) rfl
          have hKc := hK.sub (tys' := []) [] rfl
          have hFc := va_free (wc := [(mo, .inr (13, MF 30 (rf v ((i + 1) + 1) br)))]) hD hS hA [0] rfl
          refine va_calli (va_runV (As := [.int (nI i)]) (rest := []) ⟨hx, hb, hml, hown, hts⟩ (c_Mo_fail l dC dI mo H (rf v ((i + 1) + 1) br) br ((nI i)) rf_9) (cwV 1 hts (gt_V (own := R_Mo) (C := R_Mo) (i := 151) (y := y_Mo_fail) i_Mo_fail w_1250 w_1252 (gt_sel (y := y_Mo_fail) (n := 30) (by decide +kernel)) w_7) rfl rfl rfl (by decide +kernel) ⟨Nat.le_of_ble_eq_true rfl, Nat.le_of_ble_eq_true rfl⟩) ⟨mp_blind, va_recv hKc hPc (ci := 13) (q0 := 0) rfl rfl, fun U hU hW => ⟨rfl, hU, by rw [hU]; exact hPc, va_K.moved hW.alike hKc, hDc.weaken (fun _ _ _ _ => trivial)⟩⟩ rfl rfl hl.1 rfl (lv_room (Nat.le_of_ble_eq_true rfl)) d_Mo_numberT_168 ⟨Nat.le_of_ble_eq_true rfl, Nat.le_of_ble_eq_true rfl⟩) hS (fun q _ h => hFc q h) hFc (fun r0 u2 t9 H1 locs ht hvm hw hB hz1 hk1 hS => ?_)
          obtain ⟨hP1, hK1, hD1⟩ := hB
          rw [ht] at hP1
          obtain ⟨hP, hD⟩ := va_join (wr := [(qx, .inl (cB, NN, .inl f)), (t, .inr (12, MF 13 (tw T))), (T.a1, .inl (cL, T.N, .inr (.inl T.nu)))]) (w1 := [(mo, .inr (13, MF 30 u2))]) hP hD [0] [1, 2, 3] rfl rfl (by decide) (by decide) hk1 hFc hP1 hD1
          generalize H1 = H at hP hS ⊢
          have hP : va_P (dC, dI) classes [(qx, .inl (cB, NN, .inl f)), (t, .inr (12, MF 13 (tw T))), (T.a1, .inl (cL, T.N, .inr (.inl T.nu))), (mo, .inr (13, MF 30 u2))] H := hP
          have hD : va_D A [(qx, .inl (cB, NN, .inl f)), (t, .inr (12, MF 13 (tw T))), (T.a1, .inl (cL, T.N, .inr (.inl T.nu))), (mo, .inr (13, MF 30 u2))] := hD
          have hP := hP.sub (ws' := [(mo, .inr (13, MF 30 u2)), (qx, .inl (cB, NN, .inl f)), (t, .inr (12, MF 13 (tw T))), (T.a1, .inl (cL, T.N, .inr (.inl T.nu)))]) [3, 0, 1, 2] rfl
          have hD := hD.sub (ws' := [(mo, .inr (13, MF 30 u2)), (qx, .inl (cB, NN, .inl f)), (t, .inr (12, MF 13 (tw T))), (T.a1, .inl (cL, T.N, .inr (.inl T.nu)))]) [3, 0, 1, 2] (by decide) rfl
          obtain ⟨b7, h_b7⟩ := rf_fail (v := v) (i := ((i + 1) + 1)) (br := br) (b2 := br) (wh := (nI i))
          have hw : r0 = 0 ∧ u2 = _ := hw
          obtain ⟨hw1, hw2⟩ := hw
          rw [h_b7] at hw2
          rw [hw2] at hP hD
          subst hw1
          have hP : va_P (dC, dI) classes [(mo, .inr (13, MF 30 (rf v ((i + 1) + 1) b7))), (qx, .inl (cB, NN, .inl f)), (t, .inr (12, MF 13 (tw T))), (T.a1, .inl (cL, T.N, .inr (.inl T.nu)))] H := hP
          have hD : va_D A [(mo, .inr (13, MF 30 (rf v ((i + 1) + 1) b7))), (qx, .inl (cB, NN, .inl f)), (t, .inr (12, MF 13 (tw T))), (T.a1, .inl (cL, T.N, .inr (.inl T.nu)))] := hD
          have hfin : numM f n i = none := by unfold numM; rw [if_pos (h_r1.symm.trans c11)]; unfold nuB; rw [if_neg (fun h => h hd1), hdN, if_pos (Or.inl c136)]
          exact W.zret (v := 0) hx hb hr rfl (fun t9 ht hW => ⟨⟨0, (((i + 1) + 1), b7, T.nu), rfl, Or.inr ⟨rfl, hfin, rfl, by show ((i + 1) + 1) ≤ n + 30; omega⟩, by rw [ht]; exact hP, va_K.moved hW.alike hK, hD⟩, hS.F ht⟩) hS.2.2 d_Mo_numberT_171
        · refine lv_aload_n hx hb d_Mo_numberT_139 rfl (lv_at hl 3 rfl) ?_
          have hPc := hP.sub (ws' := [(mo, .inr (13, MF 30 (rf v ((i + 1) + 1) br))), (qx, .inl (cB, NN, .inl f))]) [0, 1] rfl
          have hDc := hD.sub (ws' := [(mo, .inr (13, MF 30 (rf v ((i + 1) + 1) br))), (qx, .inl (cB, NN, .inl f))]) [0, 1] (by decide) rfl
          have hKc := hK.sub (tys' := [(cB, .byte)]) [0] rfl
          have hFc := va_free (wc := [(mo, .inr (13, MF 30 (rf v ((i + 1) + 1) br))), (qx, .inl (cB, NN, .inl f))]) hD hS hA [0, 1] rfl
          refine va_calli (va_runV (As := []) (rest := []) ⟨hx, hb, hml, hown, hts⟩ (c_Mo_c l dC dI mo H (rf v ((i + 1) + 1) br) cB qx NN f n ((i + 1) + 1) (by omega) (by omega) (by omega) ((rf_ne (by decide) (by decide)).trans h6) rf_7 ((rf_ne (by decide) (by decide)).trans h8)) (cwV 0 hts (gt_V (own := R_Mo) (C := R_Mo) (i := 147) (y := y_Mo_c) i_Mo_c w_1233 w_1235 (gt_sel (y := y_Mo_c) (n := 30) (by decide +kernel)) w_7) rfl rfl rfl (by decide +kernel) ⟨Nat.le_of_ble_eq_true rfl, Nat.le_of_ble_eq_true rfl⟩) ⟨mp_blind, va_recv hKc hPc (ci := 13) (q0 := 0) rfl rfl, fun U hU hW => ⟨rfl, hU, by rw [hU]; exact hPc, va_K.moved hW.alike hKc, hDc.weaken (fun _ _ _ _ => trivial)⟩⟩ rfl rfl hl.1 rfl (lv_room (Nat.le_of_ble_eq_true rfl)) d_Mo_numberT_140 ⟨Nat.le_of_ble_eq_true rfl, Nat.le_of_ble_eq_true rfl⟩) hS (fun q _ h => hFc q h) hFc (fun r6 _u t9 H1 locs ht hvm hw hB hz1 hk1 hS => ?_)
          obtain ⟨hP1, hK1, hD1⟩ := hB
          rw [ht] at hP1
          obtain ⟨hP, hD⟩ := va_join (wr := [(t, .inr (12, MF 13 (tw T))), (T.a1, .inl (cL, T.N, .inr (.inl T.nu)))]) (w1 := [(mo, .inr (13, MF 30 (rf v ((i + 1) + 1) br))), (qx, .inl (cB, NN, .inl f))]) hP hD [0, 1] [2, 3] rfl rfl (by decide) (by decide) hk1 hFc hP1 hD1
          generalize H1 = H at hP hS ⊢
          have hP : va_P (dC, dI) classes [(t, .inr (12, MF 13 (tw T))), (T.a1, .inl (cL, T.N, .inr (.inl T.nu))), (mo, .inr (13, MF 30 (rf v ((i + 1) + 1) br))), (qx, .inl (cB, NN, .inl f))] H := hP
          have hD : va_D A [(t, .inr (12, MF 13 (tw T))), (T.a1, .inl (cL, T.N, .inr (.inl T.nu))), (mo, .inr (13, MF 30 (rf v ((i + 1) + 1) br))), (qx, .inl (cB, NN, .inl f))] := hD
          have hP := hP.sub (ws' := [(mo, .inr (13, MF 30 (rf v ((i + 1) + 1) br))), (qx, .inl (cB, NN, .inl f)), (t, .inr (12, MF 13 (tw T))), (T.a1, .inl (cL, T.N, .inr (.inl T.nu)))]) [2, 3, 0, 1] rfl
          have hD := hD.sub (ws' := [(mo, .inr (13, MF 30 (rf v ((i + 1) + 1) br))), (qx, .inl (cB, NN, .inl f)), (t, .inr (12, MF 13 (tw T))), (T.a1, .inl (cL, T.N, .inr (.inl T.nu)))]) [2, 3, 0, 1] (by decide) rfl
          have h_r6 : r6 = hereV f n ((i + 1) + 1) := hw
          refine lv_bipush (v := 46) hx hb d_Mo_numberT_143 (by decide) ?_
          refine lv_icmp_eq (tgt := 166) hx hb d_Mo_numberT_145 (by decide) (fun c145 => ?_) (fun c145 => ?_)
          · refine lv_aload_n hx hb d_Mo_numberT_166 rfl (lv_at hl 3 rfl) ?_
            refine lv_iload_n hx hb d_Mo_numberT_167 rfl (lv_at hl 2 rfl) ?_
            have hPc := hP.sub (ws' := [(mo, .inr (13, MF 30 (rf v ((i + 1) + 1) br)))]) [0] rfl
            have hDc := hD.sub (ws' := [(mo, .inr (13, MF 30 (rf v ((i + 1) + 1) br)))]) [0] (by decide) rfl
            have hKc := hK.sub (tys' := []) [] rfl
            have hFc := va_free (wc := [(mo, .inr (13, MF 30 (rf v ((i + 1) + 1) br)))]) hD hS hA [0] rfl
            refine va_calli (va_runV (As := [.int (nI i)]) (rest := []) ⟨hx, hb, hml, hown, hts⟩ (c_Mo_fail l dC dI mo H (rf v ((i + 1) + 1) br) br ((nI i)) rf_9) (cwV 1 hts (gt_V (own := R_Mo) (C := R_Mo) (i := 151) (y := y_Mo_fail) i_Mo_fail w_1250 w_1252 (gt_sel (y := y_Mo_fail) (n := 30) (by decide +kernel)) w_7) rfl rfl rfl (by decide +kernel) ⟨Nat.le_of_ble_eq_true rfl, Nat.le_of_ble_eq_true rfl⟩) ⟨mp_blind, va_recv hKc hPc (ci := 13) (q0 := 0) rfl rfl, fun U hU hW => ⟨rfl, hU, by rw [hU]; exact hPc, va_K.moved hW.alike hKc, hDc.weaken (fun _ _ _ _ => trivial)⟩⟩ rfl rfl hl.1 rfl (lv_room (Nat.le_of_ble_eq_true rfl)) d_Mo_numberT_168 ⟨Nat.le_of_ble_eq_true rfl, Nat.le_of_ble_eq_true rfl⟩) hS (fun q _ h => hFc q h) hFc (fun r0 u2 t9 H1 locs ht hvm hw hB hz1 hk1 hS => ?_)
            obtain ⟨hP1, hK1, hD1⟩ := hB
            rw [ht] at hP1
            obtain ⟨hP, hD⟩ := va_join (wr := [(qx, .inl (cB, NN, .inl f)), (t, .inr (12, MF 13 (tw T))), (T.a1, .inl (cL, T.N, .inr (.inl T.nu)))]) (w1 := [(mo, .inr (13, MF 30 u2))]) hP hD [0] [1, 2, 3] rfl rfl (by decide) (by decide) hk1 hFc hP1 hD1
            generalize H1 = H at hP hS ⊢
            have hP : va_P (dC, dI) classes [(qx, .inl (cB, NN, .inl f)), (t, .inr (12, MF 13 (tw T))), (T.a1, .inl (cL, T.N, .inr (.inl T.nu))), (mo, .inr (13, MF 30 u2))] H := hP
            have hD : va_D A [(qx, .inl (cB, NN, .inl f)), (t, .inr (12, MF 13 (tw T))), (T.a1, .inl (cL, T.N, .inr (.inl T.nu))), (mo, .inr (13, MF 30 u2))] := hD
            have hP := hP.sub (ws' := [(mo, .inr (13, MF 30 u2)), (qx, .inl (cB, NN, .inl f)), (t, .inr (12, MF 13 (tw T))), (T.a1, .inl (cL, T.N, .inr (.inl T.nu)))]) [3, 0, 1, 2] rfl
            have hD := hD.sub (ws' := [(mo, .inr (13, MF 30 u2)), (qx, .inl (cB, NN, .inl f)), (t, .inr (12, MF 13 (tw T))), (T.a1, .inl (cL, T.N, .inr (.inl T.nu)))]) [3, 0, 1, 2] (by decide) rfl
            obtain ⟨b7, h_b7⟩ := rf_fail (v := v) (i := ((i + 1) + 1)) (br := br) (b2 := br) (wh := (nI i))
            have hw : r0 = 0 ∧ u2 = _ := hw
            obtain ⟨hw1, hw2⟩ := hw
            rw [h_b7] at hw2
            rw [hw2] at hP hD
            subst hw1
            have hP : va_P (dC, dI) classes [(mo, .inr (13, MF 30 (rf v ((i + 1) + 1) b7))), (qx, .inl (cB, NN, .inl f)), (t, .inr (12, MF 13 (tw T))), (T.a1, .inl (cL, T.N, .inr (.inl T.nu)))] H := hP
            have hD : va_D A [(mo, .inr (13, MF 30 (rf v ((i + 1) + 1) b7))), (qx, .inl (cB, NN, .inl f)), (t, .inr (12, MF 13 (tw T))), (T.a1, .inl (cL, T.N, .inr (.inl T.nu)))] := hD
            have hfin : numM f n i = none := by unfold numM; rw [if_pos (h_r1.symm.trans c11)]; unfold nuB; rw [if_neg (fun h => h hd1), hdN, if_pos (Or.inr (Or.inl (h_r6.symm.trans c145)))]
            exact W.zret (v := 0) hx hb hr rfl (fun t9 ht hW => ⟨⟨0, (((i + 1) + 1), b7, T.nu), rfl, Or.inr ⟨rfl, hfin, rfl, by show ((i + 1) + 1) ≤ n + 30; omega⟩, by rw [ht]; exact hP, va_K.moved hW.alike hK, hD⟩, hS.F ht⟩) hS.2.2 d_Mo_numberT_171
          · refine lv_aload_n hx hb d_Mo_numberT_148 rfl (lv_at hl 3 rfl) ?_
            have hPc := hP.sub (ws' := [(mo, .inr (13, MF 30 (rf v ((i + 1) + 1) br))), (qx, .inl (cB, NN, .inl f))]) [0, 1] rfl
            have hDc := hD.sub (ws' := [(mo, .inr (13, MF 30 (rf v ((i + 1) + 1) br))), (qx, .inl (cB, NN, .inl f))]) [0, 1] (by decide) rfl
            have hKc := hK.sub (tys' := [(cB, .byte)]) [0] rfl
            have hFc := va_free (wc := [(mo, .inr (13, MF 30 (rf v ((i + 1) + 1) br))), (qx, .inl (cB, NN, .inl f))]) hD hS hA [0, 1] rfl
            refine va_calli (va_runV (As := []) (rest := []) ⟨hx, hb, hml, hown, hts⟩ (c_Mo_c l dC dI mo H (rf v ((i + 1) + 1) br) cB qx NN f n ((i + 1) + 1) (by omega) (by omega) (by omega) ((rf_ne (by decide) (by decide)).trans h6) rf_7 ((rf_ne (by decide) (by decide)).trans h8)) (cwV 0 hts (gt_V (own := R_Mo) (C := R_Mo) (i := 147) (y := y_Mo_c) i_Mo_c w_1233 w_1235 (gt_sel (y := y_Mo_c) (n := 30) (by decide +kernel)) w_7) rfl rfl rfl (by decide +kernel) ⟨Nat.le_of_ble_eq_true rfl, Nat.le_of_ble_eq_true rfl⟩) ⟨mp_blind, va_recv hKc hPc (ci := 13) (q0 := 0) rfl rfl, fun U hU hW => ⟨rfl, hU, by rw [hU]; exact hPc, va_K.moved hW.alike hKc, hDc.weaken (fun _ _ _ _ => trivial)⟩⟩ rfl rfl hl.1 rfl (lv_room (Nat.le_of_ble_eq_true rfl)) d_Mo_numberT_149 ⟨Nat.le_of_ble_eq_true rfl, Nat.le_of_ble_eq_true rfl⟩) hS (fun q _ h => hFc q h) hFc (fun r7 _u t9 H1 locs ht hvm hw hB hz1 hk1 hS => ?_)
            obtain ⟨hP1, hK1, hD1⟩ := hB
            rw [ht] at hP1
            obtain ⟨hP, hD⟩ := va_join (wr := [(t, .inr (12, MF 13 (tw T))), (T.a1, .inl (cL, T.N, .inr (.inl T.nu)))]) (w1 := [(mo, .inr (13, MF 30 (rf v ((i + 1) + 1) br))), (qx, .inl (cB, NN, .inl f))]) hP hD [0, 1] [2, 3] rfl rfl (by decide) (by decide) hk1 hFc hP1 hD1
            generalize H1 = H at hP hS ⊢
            have hP : va_P (dC, dI) classes [(t, .inr (12, MF 13 (tw T))), (T.a1, .inl (cL, T.N, .inr (.inl T.nu))), (mo, .inr (13, MF 30 (rf v ((i + 1) + 1) br))), (qx, .inl (cB, NN, .inl f))] H := hP
            have hD : va_D A [(t, .inr (12, MF 13 (tw T))), (T.a1, .inl (cL, T.N, .inr (.inl T.nu))), (mo, .inr (13, MF 30 (rf v ((i + 1) + 1) br))), (qx, .inl (cB, NN, .inl f))] := hD
            have hP := hP.sub (ws' := [(mo, .inr (13, MF 30 (rf v ((i + 1) + 1) br))), (qx, .inl (cB, NN, .inl f)), (t, .inr (12, MF 13 (tw T))), (T.a1, .inl (cL, T.N, .inr (.inl T.nu)))]) [2, 3, 0, 1] rfl
            have hD := hD.sub (ws' := [(mo, .inr (13, MF 30 (rf v ((i + 1) + 1) br))), (qx, .inl (cB, NN, .inl f)), (t, .inr (12, MF 13 (tw T))), (T.a1, .inl (cL, T.N, .inr (.inl T.nu)))]) [2, 3, 0, 1] (by decide) rfl
            have h_r7 : r7 = hereV f n ((i + 1) + 1) := hw
            refine lv_bipush (v := 101) hx hb d_Mo_numberT_152 (by decide) ?_
            refine lv_icmp_eq (tgt := 166) hx hb d_Mo_numberT_154 (by decide) (fun c154 => ?_) (fun c154 => ?_)
            · refine lv_aload_n hx hb d_Mo_numberT_166 rfl (lv_at hl 3 rfl) ?_
              refine lv_iload_n hx hb d_Mo_numberT_167 rfl (lv_at hl 2 rfl) ?_
              have hPc := hP.sub (ws' := [(mo, .inr (13, MF 30 (rf v ((i + 1) + 1) br)))]) [0] rfl
              have hDc := hD.sub (ws' := [(mo, .inr (13, MF 30 (rf v ((i + 1) + 1) br)))]) [0] (by decide) rfl
              have hKc := hK.sub (tys' := []) [] rfl
              have hFc := va_free (wc := [(mo, .inr (13, MF 30 (rf v ((i + 1) + 1) br)))]) hD hS hA [0] rfl
              refine va_calli (va_runV (As := [.int (nI i)]) (rest := []) ⟨hx, hb, hml, hown, hts⟩ (c_Mo_fail l dC dI mo H (rf v ((i + 1) + 1) br) br ((nI i)) rf_9) (cwV 1 hts (gt_V (own := R_Mo) (C := R_Mo) (i := 151) (y := y_Mo_fail) i_Mo_fail w_1250 w_1252 (gt_sel (y := y_Mo_fail) (n := 30) (by decide +kernel)) w_7) rfl rfl rfl (by decide +kernel) ⟨Nat.le_of_ble_eq_true rfl, Nat.le_of_ble_eq_true rfl⟩) ⟨mp_blind, va_recv hKc hPc (ci := 13) (q0 := 0) rfl rfl, fun U hU hW => ⟨rfl, hU, by rw [hU]; exact hPc, va_K.moved hW.alike hKc, hDc.weaken (fun _ _ _ _ => trivial)⟩⟩ rfl rfl hl.1 rfl (lv_room (Nat.le_of_ble_eq_true rfl)) d_Mo_numberT_168 ⟨Nat.le_of_ble_eq_true rfl, Nat.le_of_ble_eq_true rfl⟩) hS (fun q _ h => hFc q h) hFc (fun r0 u2 t9 H1 locs ht hvm hw hB hz1 hk1 hS => ?_)
              obtain ⟨hP1, hK1, hD1⟩ := hB
              rw [ht] at hP1
              obtain ⟨hP, hD⟩ := va_join (wr := [(qx, .inl (cB, NN, .inl f)), (t, .inr (12, MF 13 (tw T))), (T.a1, .inl (cL, T.N, .inr (.inl T.nu)))]) (w1 := [(mo, .inr (13, MF 30 u2))]) hP hD [0] [1, 2, 3] rfl rfl (by decide) (by decide) hk1 hFc hP1 hD1
              generalize H1 = H at hP hS ⊢
              have hP : va_P (dC, dI) classes [(qx, .inl (cB, NN, .inl f)), (t, .inr (12, MF 13 (tw T))), (T.a1, .inl (cL, T.N, .inr (.inl T.nu))), (mo, .inr (13, MF 30 u2))] H := hP
              have hD : va_D A [(qx, .inl (cB, NN, .inl f)), (t, .inr (12, MF 13 (tw T))), (T.a1, .inl (cL, T.N, .inr (.inl T.nu))), (mo, .inr (13, MF 30 u2))] := hD
              have hP := hP.sub (ws' := [(mo, .inr (13, MF 30 u2)), (qx, .inl (cB, NN, .inl f)), (t, .inr (12, MF 13 (tw T))), (T.a1, .inl (cL, T.N, .inr (.inl T.nu)))]) [3, 0, 1, 2] rfl
              have hD := hD.sub (ws' := [(mo, .inr (13, MF 30 u2)), (qx, .inl (cB, NN, .inl f)), (t, .inr (12, MF 13 (tw T))), (T.a1, .inl (cL, T.N, .inr (.inl T.nu)))]) [3, 0, 1, 2] (by decide) rfl
              obtain ⟨b7, h_b7⟩ := rf_fail (v := v) (i := ((i + 1) + 1)) (br := br) (b2 := br) (wh := (nI i))
              have hw : r0 = 0 ∧ u2 = _ := hw
              obtain ⟨hw1, hw2⟩ := hw
              rw [h_b7] at hw2
              rw [hw2] at hP hD
              subst hw1
              have hP : va_P (dC, dI) classes [(mo, .inr (13, MF 30 (rf v ((i + 1) + 1) b7))), (qx, .inl (cB, NN, .inl f)), (t, .inr (12, MF 13 (tw T))), (T.a1, .inl (cL, T.N, .inr (.inl T.nu)))] H := hP
              have hD : va_D A [(mo, .inr (13, MF 30 (rf v ((i + 1) + 1) b7))), (qx, .inl (cB, NN, .inl f)), (t, .inr (12, MF 13 (tw T))), (T.a1, .inl (cL, T.N, .inr (.inl T.nu)))] := hD
              have hfin : numM f n i = none := by unfold numM; rw [if_pos (h_r1.symm.trans c11)]; unfold nuB; rw [if_neg (fun h => h hd1), hdN, if_pos (Or.inr (Or.inr (Or.inl (h_r7.symm.trans c154))))]
              exact W.zret (v := 0) hx hb hr rfl (fun t9 ht hW => ⟨⟨0, (((i + 1) + 1), b7, T.nu), rfl, Or.inr ⟨rfl, hfin, rfl, by show ((i + 1) + 1) ≤ n + 30; omega⟩, by rw [ht]; exact hP, va_K.moved hW.alike hK, hD⟩, hS.F ht⟩) hS.2.2 d_Mo_numberT_171
            · refine lv_aload_n hx hb d_Mo_numberT_157 rfl (lv_at hl 3 rfl) ?_
              have hPc := hP.sub (ws' := [(mo, .inr (13, MF 30 (rf v ((i + 1) + 1) br))), (qx, .inl (cB, NN, .inl f))]) [0, 1] rfl
              have hDc := hD.sub (ws' := [(mo, .inr (13, MF 30 (rf v ((i + 1) + 1) br))), (qx, .inl (cB, NN, .inl f))]) [0, 1] (by decide) rfl
              have hKc := hK.sub (tys' := [(cB, .byte)]) [0] rfl
              have hFc := va_free (wc := [(mo, .inr (13, MF 30 (rf v ((i + 1) + 1) br))), (qx, .inl (cB, NN, .inl f))]) hD hS hA [0, 1] rfl
              refine va_calli (va_runV (As := []) (rest := []) ⟨hx, hb, hml, hown, hts⟩ (c_Mo_c l dC dI mo H (rf v ((i + 1) + 1) br) cB qx NN f n ((i + 1) + 1) (by omega) (by omega) (by omega) ((rf_ne (by decide) (by decide)).trans h6) rf_7 ((rf_ne (by decide) (by decide)).trans h8)) (cwV 0 hts (gt_V (own := R_Mo) (C := R_Mo) (i := 147) (y := y_Mo_c) i_Mo_c w_1233 w_1235 (gt_sel (y := y_Mo_c) (n := 30) (by decide +kernel)) w_7) rfl rfl rfl (by decide +kernel) ⟨Nat.le_of_ble_eq_true rfl, Nat.le_of_ble_eq_true rfl⟩) ⟨mp_blind, va_recv hKc hPc (ci := 13) (q0 := 0) rfl rfl, fun U hU hW => ⟨rfl, hU, by rw [hU]; exact hPc, va_K.moved hW.alike hKc, hDc.weaken (fun _ _ _ _ => trivial)⟩⟩ rfl rfl hl.1 rfl (lv_room (Nat.le_of_ble_eq_true rfl)) d_Mo_numberT_158 ⟨Nat.le_of_ble_eq_true rfl, Nat.le_of_ble_eq_true rfl⟩) hS (fun q _ h => hFc q h) hFc (fun r8 _u t9 H1 locs ht hvm hw hB hz1 hk1 hS => ?_)
              obtain ⟨hP1, hK1, hD1⟩ := hB
              rw [ht] at hP1
              obtain ⟨hP, hD⟩ := va_join (wr := [(t, .inr (12, MF 13 (tw T))), (T.a1, .inl (cL, T.N, .inr (.inl T.nu)))]) (w1 := [(mo, .inr (13, MF 30 (rf v ((i + 1) + 1) br))), (qx, .inl (cB, NN, .inl f))]) hP hD [0, 1] [2, 3] rfl rfl (by decide) (by decide) hk1 hFc hP1 hD1
              generalize H1 = H at hP hS ⊢
              have hP : va_P (dC, dI) classes [(t, .inr (12, MF 13 (tw T))), (T.a1, .inl (cL, T.N, .inr (.inl T.nu))), (mo, .inr (13, MF 30 (rf v ((i + 1) + 1) br))), (qx, .inl (cB, NN, .inl f))] H := hP
              have hD : va_D A [(t, .inr (12, MF 13 (tw T))), (T.a1, .inl (cL, T.N, .inr (.inl T.nu))), (mo, .inr (13, MF 30 (rf v ((i + 1) + 1) br))), (qx, .inl (cB, NN, .inl f))] := hD
              have hP := hP.sub (ws' := [(mo, .inr (13, MF 30 (rf v ((i + 1) + 1) br))), (qx, .inl (cB, NN, .inl f)), (t, .inr (12, MF 13 (tw T))), (T.a1, .inl (cL, T.N, .inr (.inl T.nu)))]) [2, 3, 0, 1] rfl
              have hD := hD.sub (ws' := [(mo, .inr (13, MF 30 (rf v ((i + 1) + 1) br))), (qx, .inl (cB, NN, .inl f)), (t, .inr (12, MF 13 (tw T))), (T.a1, .inl (cL, T.N, .inr (.inl T.nu)))]) [2, 3, 0, 1] (by decide) rfl
              have h_r8 : r8 = hereV f n ((i + 1) + 1) := hw
              refine lv_bipush (v := 69) hx hb d_Mo_numberT_161 (by decide) ?_
              refine lv_icmp_ne (tgt := 172) hx hb d_Mo_numberT_163 (by decide) (fun c163 => ?_) (fun c163 => ?_)
              · refine lv_aload_n hx hb d_Mo_numberT_172 rfl (lv_at hl 4 rfl) ?_
                refine va_get (D := (dC, dI)) (ci := 12) (v := .ref T.a1) (C := R_Tree) (T := F_Tree) (N := 13) hx hb hts in_Tree hown hK hP 2 rfl rfl 1 (by decide) (hts _ w_1037) (fun _ h9 => h9) (MFg (by decide) rfl) d_Mo_numberT_173 ?_
                refine lv_iload_n hx hb d_Mo_numberT_176 rfl (lv_at hl 5 rfl) ?_
                refine lv_iload hx hb d_Mo_numberT_177 (lv_at hl 1 rfl) ?_
                refine lv_if_eq (tgt := 188) hx hb d_Mo_numberT_179 (by decide) (fun h => absurd h (by decide)) (fun _ => ?_)
                refine lv_lload hx hb d_Mo_numberT_182 (lv_at hl 0 rfl) ?_
                refine lv_lneg hx hb d_Mo_numberT_184 ?_
                refine lv_goto (tgt := 190) hx hb d_Mo_numberT_185 (by decide) ?_
                refine va_last hx hb hK hP hD hS 3 1 rfl rfl (vp_in_nI (show nd < T.N by omega) (by omega)) d_Mo_numberT_190 (fun H locs hP hD hS => ?_)
                rw [show (nI nd).toNatClampNeg = nd from nI_clamp (by omega)] at hP hD
                have hP : va_P (dC, dI) classes [(mo, .inr (13, MF 30 (rf v ((i + 1) + 1) br))), (qx, .inl (cB, NN, .inl f)), (t, .inr (12, MF 13 (tw T))), (T.a1, .inl (cL, T.N, .inr (.inl (vp_updL T.nu nd (-0)))))] H := hP
                have hD : va_D A [(mo, .inr (13, MF 30 (rf v ((i + 1) + 1) br))), (qx, .inl (cB, NN, .inl f)), (t, .inr (12, MF 13 (tw T))), (T.a1, .inl (cL, T.N, .inr (.inl (vp_updL T.nu nd (-0)))))] := hD
                refine lv_iconst (v := 1) hx hb d_Mo_numberT_191 (by decide) ?_
                have hfin : numM f n i = some ((-0), ((i + 1) + 1)) := by unfold numM; rw [if_pos (h_r1.symm.trans c11)]; unfold nuB; rw [if_neg (fun h => h hd1), hdN, if_neg (fun h => h.elim c136 (fun h => h.elim (fun h => c145 (h_r6.trans h)) (fun h => h.elim (fun h => c154 (h_r7.trans h)) (fun h => c163 (h_r8.trans h)))))]; rfl
                exact W.zret (v := 1) hx hb hr rfl (fun t9 ht hW => ⟨⟨1, (((i + 1) + 1), br, vp_updL T.nu nd (-0)), rfl, Or.inl ⟨rfl, (-0), hfin, rfl, hjn⟩, by rw [ht]; exact hP, va_K.moved hW.alike hK, hD⟩, hS.F ht⟩) hS.2.2 d_Mo_numberT_192
              · refine lv_aload_n hx hb d_Mo_numberT_166 rfl (lv_at hl 3 rfl) ?_
                refine lv_iload_n hx hb d_Mo_numberT_167 rfl (lv_at hl 2 rfl) ?_
                have hPc := hP.sub (ws' := [(mo, .inr (13, MF 30 (rf v ((i + 1) + 1) br)))]) [0] rfl
                have hDc := hD.sub (ws' := [(mo, .inr (13, MF 30 (rf v ((i + 1) + 1) br)))]) [0] (by decide) rfl
                have hKc := hK.sub (tys' := []) [] rfl
                have hFc := va_free (wc := [(mo, .inr (13, MF 30 (rf v ((i + 1) + 1) br)))]) hD hS hA [0] rfl
                refine va_calli (va_runV (As := [.int (nI i)]) (rest := []) ⟨hx, hb, hml, hown, hts⟩ (c_Mo_fail l dC dI mo H (rf v ((i + 1) + 1) br) br ((nI i)) rf_9) (cwV 1 hts (gt_V (own := R_Mo) (C := R_Mo) (i := 151) (y := y_Mo_fail) i_Mo_fail w_1250 w_1252 (gt_sel (y := y_Mo_fail) (n := 30) (by decide +kernel)) w_7) rfl rfl rfl (by decide +kernel) ⟨Nat.le_of_ble_eq_true rfl, Nat.le_of_ble_eq_true rfl⟩) ⟨mp_blind, va_recv hKc hPc (ci := 13) (q0 := 0) rfl rfl, fun U hU hW => ⟨rfl, hU, by rw [hU]; exact hPc, va_K.moved hW.alike hKc, hDc.weaken (fun _ _ _ _ => trivial)⟩⟩ rfl rfl hl.1 rfl (lv_room (Nat.le_of_ble_eq_true rfl)) d_Mo_numberT_168 ⟨Nat.le_of_ble_eq_true rfl, Nat.le_of_ble_eq_true rfl⟩) hS (fun q _ h => hFc q h) hFc (fun r0 u2 t9 H1 locs ht hvm hw hB hz1 hk1 hS => ?_)
                obtain ⟨hP1, hK1, hD1⟩ := hB
                rw [ht] at hP1
                obtain ⟨hP, hD⟩ := va_join (wr := [(qx, .inl (cB, NN, .inl f)), (t, .inr (12, MF 13 (tw T))), (T.a1, .inl (cL, T.N, .inr (.inl T.nu)))]) (w1 := [(mo, .inr (13, MF 30 u2))]) hP hD [0] [1, 2, 3] rfl rfl (by decide) (by decide) hk1 hFc hP1 hD1
                generalize H1 = H at hP hS ⊢
                have hP : va_P (dC, dI) classes [(qx, .inl (cB, NN, .inl f)), (t, .inr (12, MF 13 (tw T))), (T.a1, .inl (cL, T.N, .inr (.inl T.nu))), (mo, .inr (13, MF 30 u2))] H := hP
                have hD : va_D A [(qx, .inl (cB, NN, .inl f)), (t, .inr (12, MF 13 (tw T))), (T.a1, .inl (cL, T.N, .inr (.inl T.nu))), (mo, .inr (13, MF 30 u2))] := hD
                have hP := hP.sub (ws' := [(mo, .inr (13, MF 30 u2)), (qx, .inl (cB, NN, .inl f)), (t, .inr (12, MF 13 (tw T))), (T.a1, .inl (cL, T.N, .inr (.inl T.nu)))]) [3, 0, 1, 2] rfl
                have hD := hD.sub (ws' := [(mo, .inr (13, MF 30 u2)), (qx, .inl (cB, NN, .inl f)), (t, .inr (12, MF 13 (tw T))), (T.a1, .inl (cL, T.N, .inr (.inl T.nu)))]) [3, 0, 1, 2] (by decide) rfl
                obtain ⟨b7, h_b7⟩ := rf_fail (v := v) (i := ((i + 1) + 1)) (br := br) (b2 := br) (wh := (nI i))
                have hw : r0 = 0 ∧ u2 = _ := hw
                obtain ⟨hw1, hw2⟩ := hw
                rw [h_b7] at hw2
                rw [hw2] at hP hD
                subst hw1
                have hP : va_P (dC, dI) classes [(mo, .inr (13, MF 30 (rf v ((i + 1) + 1) b7))), (qx, .inl (cB, NN, .inl f)), (t, .inr (12, MF 13 (tw T))), (T.a1, .inl (cL, T.N, .inr (.inl T.nu)))] H := hP
                have hD : va_D A [(mo, .inr (13, MF 30 (rf v ((i + 1) + 1) b7))), (qx, .inl (cB, NN, .inl f)), (t, .inr (12, MF 13 (tw T))), (T.a1, .inl (cL, T.N, .inr (.inl T.nu)))] := hD
                have hfin : numM f n i = none := by unfold numM; rw [if_pos (h_r1.symm.trans c11)]; unfold nuB; rw [if_neg (fun h => h hd1), hdN, if_pos (Or.inr (Or.inr (Or.inr (h_r8.symm.trans c163))))]
                exact W.zret (v := 0) hx hb hr rfl (fun t9 ht hW => ⟨⟨0, (((i + 1) + 1), b7, T.nu), rfl, Or.inr ⟨rfl, hfin, rfl, by show ((i + 1) + 1) ≤ n + 30; omega⟩, by rw [ht]; exact hP, va_K.moved hW.alike hK, hD⟩, hS.F ht⟩) hS.2.2 d_Mo_numberT_171
    · refine lv_aload_n hx hb d_Mo_numberT_46 rfl (lv_at hl 2 rfl) ?_
      refine lv_aload_n hx hb d_Mo_numberT_47 rfl (lv_at hl 2 rfl) ?_
      refine va_get (D := (dC, dI)) (ci := 13) (v := .int (nI (i + 1))) (C := R_Mo) (T := F_Mo) (N := 30) hx hb hts in_Mo hown hK hP 0 rfl rfl 7 (by decide) (hts _ w_1096) (fun _ h9 => h9) (MFg (by decide) rf_7) d_Mo_numberT_48 ?_
      have hPc := hP.sub (ws' := [(mo, .inr (13, MF 30 (rf v (i + 1) br)))]) [0] rfl
      have hDc := hD.sub (ws' := [(mo, .inr (13, MF 30 (rf v (i + 1) br)))]) [0] (by decide) rfl
      have hKc := hK.sub (tys' := []) [] rfl
      have hFc := va_free (wc := [(mo, .inr (13, MF 30 (rf v (i + 1) br)))]) hD hS hA [0] rfl
      refine va_calli (va_runV (As := [.int (nI (i + 1))]) (rest := []) ⟨hx, hb, hml, hown, hts⟩ (c_Mo_fail l dC dI mo H (rf v (i + 1) br) br ((nI (i + 1))) rf_9) (cwV 1 hts (gt_V (own := R_Mo) (C := R_Mo) (i := 151) (y := y_Mo_fail) i_Mo_fail w_1250 w_1252 (gt_sel (y := y_Mo_fail) (n := 30) (by decide +kernel)) w_7) rfl rfl rfl (by decide +kernel) ⟨Nat.le_of_ble_eq_true rfl, Nat.le_of_ble_eq_true rfl⟩) ⟨mp_blind, va_recv hKc hPc (ci := 13) (q0 := 0) rfl rfl, fun U hU hW => ⟨rfl, hU, by rw [hU]; exact hPc, va_K.moved hW.alike hKc, hDc.weaken (fun _ _ _ _ => trivial)⟩⟩ rfl rfl hl.1 rfl (lv_room (Nat.le_of_ble_eq_true rfl)) d_Mo_numberT_51 ⟨Nat.le_of_ble_eq_true rfl, Nat.le_of_ble_eq_true rfl⟩) hS (fun q _ h => hFc q h) hFc (fun r0 u2 t9 H1 locs ht hvm hw hB hz1 hk1 hS => ?_)
      obtain ⟨hP1, hK1, hD1⟩ := hB
      rw [ht] at hP1
      obtain ⟨hP, hD⟩ := va_join (wr := [(qx, .inl (cB, NN, .inl f)), (t, .inr (12, MF 13 (tw T))), (T.a1, .inl (cL, T.N, .inr (.inl T.nu)))]) (w1 := [(mo, .inr (13, MF 30 u2))]) hP hD [0] [1, 2, 3] rfl rfl (by decide) (by decide) hk1 hFc hP1 hD1
      generalize H1 = H at hP hS ⊢
      have hP : va_P (dC, dI) classes [(qx, .inl (cB, NN, .inl f)), (t, .inr (12, MF 13 (tw T))), (T.a1, .inl (cL, T.N, .inr (.inl T.nu))), (mo, .inr (13, MF 30 u2))] H := hP
      have hD : va_D A [(qx, .inl (cB, NN, .inl f)), (t, .inr (12, MF 13 (tw T))), (T.a1, .inl (cL, T.N, .inr (.inl T.nu))), (mo, .inr (13, MF 30 u2))] := hD
      have hP := hP.sub (ws' := [(mo, .inr (13, MF 30 u2)), (qx, .inl (cB, NN, .inl f)), (t, .inr (12, MF 13 (tw T))), (T.a1, .inl (cL, T.N, .inr (.inl T.nu)))]) [3, 0, 1, 2] rfl
      have hD := hD.sub (ws' := [(mo, .inr (13, MF 30 u2)), (qx, .inl (cB, NN, .inl f)), (t, .inr (12, MF 13 (tw T))), (T.a1, .inl (cL, T.N, .inr (.inl T.nu)))]) [3, 0, 1, 2] (by decide) rfl
      obtain ⟨b7, h_b7⟩ := rf_fail (v := v) (i := (i + 1)) (br := br) (b2 := br) (wh := (nI (i + 1)))
      have hw : r0 = 0 ∧ u2 = _ := hw
      obtain ⟨hw1, hw2⟩ := hw
      rw [h_b7] at hw2
      rw [hw2] at hP hD
      subst hw1
      have hP : va_P (dC, dI) classes [(mo, .inr (13, MF 30 (rf v (i + 1) b7))), (qx, .inl (cB, NN, .inl f)), (t, .inr (12, MF 13 (tw T))), (T.a1, .inl (cL, T.N, .inr (.inl T.nu)))] H := hP
      have hD : va_D A [(mo, .inr (13, MF 30 (rf v (i + 1) b7))), (qx, .inl (cB, NN, .inl f)), (t, .inr (12, MF 13 (tw T))), (T.a1, .inl (cL, T.N, .inr (.inl T.nu)))] := hD
      have hfin : numM f n i = none := by unfold numM; rw [if_pos (h_r1.symm.trans c11)]; unfold nuB; rw [if_pos (by rw [← h_r2]; exact h_d2.2 c43)]
      exact W.zret (v := 0) hx hb hr rfl (fun t9 ht hW => ⟨⟨0, ((i + 1), b7, T.nu), rfl, Or.inr ⟨rfl, hfin, rfl, by show (i + 1) ≤ n + 30; omega⟩, by rw [ht]; exact hP, va_K.moved hW.alike hK, hD⟩, hS.F ht⟩) hS.2.2 d_Mo_numberT_54
