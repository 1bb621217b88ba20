theorem w_1411 : (.methodLink "QueryBenchModel" 272 ⟨"QueryBenchModel", "set", "(III)V"⟩ : Cond) ∈ gtbl := gt_in 1411 (by decide +kernel) (by decide +kernel)
theorem w_1413 : (.instanceMethod ⟨"QueryBenchModel", "set", "(III)V"⟩ : Cond) ∈ gtbl := gt_in 1413 (by decide +kernel) (by decide +kernel)
theorem w_1431 : (.methodLink "QueryBenchModel" 286 ⟨"QueryBenchModel", "field", "(II)I"⟩ : Cond) ∈ gtbl := gt_in 1431 (by decide +kernel) (by decide +kernel)
theorem w_1433 : (.instanceMethod ⟨"QueryBenchModel", "field", "(II)I"⟩ : Cond) ∈ gtbl := gt_in 1433 (by decide +kernel) (by decide +kernel)
/-- a whole number of a query: its sign has been read (mi) -/
def whB (f : Nat → Int32) (n i : Nat) (mi : Bool) : Option (Int64 × Nat) :=
  if ¬ digH (hereV f n i) ∨ (mi = true ∧ hereV f n i = 48) then none
  else if 0 < lg_cmp (dgN f n i).1 9007199254740991 then none
  else some (if mi = true then -(dgN f n i).1 else (dgN f n i).1, (dgN f n i).2)
def whM (f : Nat → Int32) (n i : Nat) : Option (Int64 × Nat) := if hereV f n i = 45 then whB f n (i + 1) true else whB f n i false
def QS.wf (Q : QS) (g : Nat → Int32) : QS := QS.mk Q.C Q.R Q.qq Q.qe g Q.ef
abbrev b_Mo_whole : ByteArray := prog_14_method_43_code
def y_Mo_whole : MethodName := ⟨"QueryBenchModel", "whole", "(II)Z"⟩
abbrev k_Mo_whole : Cond := .code y_Mo_whole b_Mo_whole 7 (some .boolean)
theorem i_Mo_whole : k_Mo_whole ∈ gtbl := gt_in 1468 (by decide +kernel) (by decide +kernel)
theorem d_Mo_whole_0 : decode b_Mo_whole 0 = .ok (.aload_n 0, 1) := by decide +kernel
theorem d_Mo_whole_1 : decode b_Mo_whole 1 = .ok (.getfield 135, 3) := by decide +kernel
theorem d_Mo_whole_4 : decode b_Mo_whole 4 = .ok (.istore_n 3, 1) := by decide +kernel
theorem d_Mo_whole_5 : decode b_Mo_whole 5 = .ok (.aload_n 0, 1) := by decide +kernel
theorem d_Mo_whole_6 : decode b_Mo_whole 6 = .ok (.invokevirtual 147, 3) := by decide +kernel
theorem d_Mo_whole_9 : decode b_Mo_whole 9 = .ok (.bipush 45, 2) := by decide +kernel
theorem d_Mo_whole_11 : decode b_Mo_whole 11 = .ok (.if_icmp .ne 7, 3) := by decide +kernel
theorem d_Mo_whole_14 : decode b_Mo_whole 14 = .ok (.iconst 1, 1) := by decide +kernel
theorem d_Mo_whole_15 : decode b_Mo_whole 15 = .ok (.goto 4, 3) := by decide +kernel
theorem d_Mo_whole_18 : decode b_Mo_whole 18 = .ok (.iconst 0, 1) := by decide +kernel
theorem d_Mo_whole_19 : decode b_Mo_whole 19 = .ok (.istore 4, 2) := by decide +kernel
theorem d_Mo_whole_21 : decode b_Mo_whole 21 = .ok (.iload 4, 2) := by decide +kernel
theorem d_Mo_whole_23 : decode b_Mo_whole 23 = .ok (.ifCond .eq 13, 3) := by decide +kernel
theorem d_Mo_whole_26 : decode b_Mo_whole 26 = .ok (.aload_n 0, 1) := by decide +kernel
theorem d_Mo_whole_27 : decode b_Mo_whole 27 = .ok (.dup, 1) := by decide +kernel
theorem d_Mo_whole_28 : decode b_Mo_whole 28 = .ok (.getfield 135, 3) := by decide +kernel
theorem d_Mo_whole_31 : decode b_Mo_whole 31 = .ok (.iconst 1, 1) := by decide +kernel
theorem d_Mo_whole_32 : decode b_Mo_whole 32 = .ok (.iadd, 1) := by decide +kernel
theorem d_Mo_whole_33 : decode b_Mo_whole 33 = .ok (.putfield 135, 3) := by decide +kernel
theorem d_Mo_whole_36 : decode b_Mo_whole 36 = .ok (.aload_n 0, 1) := by decide +kernel
theorem d_Mo_whole_37 : decode b_Mo_whole 37 = .ok (.invokevirtual 147, 3) := by decide +kernel
theorem d_Mo_whole_40 : decode b_Mo_whole 40 = .ok (.invokestatic 166, 3) := by decide +kernel
theorem d_Mo_whole_43 : decode b_Mo_whole 43 = .ok (.ifCond .eq 17, 3) := by decide +kernel
theorem d_Mo_whole_46 : decode b_Mo_whole 46 = .ok (.iload 4, 2) := by decide +kernel
theorem d_Mo_whole_48 : decode b_Mo_whole 48 = .ok (.ifCond .eq 21, 3) := by decide +kernel
theorem d_Mo_whole_51 : decode b_Mo_whole 51 = .ok (.aload_n 0, 1) := by decide +kernel
theorem d_Mo_whole_52 : decode b_Mo_whole 52 = .ok (.invokevirtual 147, 3) := by decide +kernel
theorem d_Mo_whole_55 : decode b_Mo_whole 55 = .ok (.bipush 48, 2) := by decide +kernel
theorem d_Mo_whole_57 : decode b_Mo_whole 57 = .ok (.if_icmp .ne 12, 3) := by decide +kernel
theorem d_Mo_whole_60 : decode b_Mo_whole 60 = .ok (.aload_n 0, 1) := by decide +kernel
theorem d_Mo_whole_61 : decode b_Mo_whole 61 = .ok (.aload_n 0, 1) := by decide +kernel
theorem d_Mo_whole_62 : decode b_Mo_whole 62 = .ok (.getfield 135, 3) := by decide +kernel
theorem d_Mo_whole_65 : decode b_Mo_whole 65 = .ok (.invokevirtual 151, 3) := by decide +kernel
theorem d_Mo_whole_68 : decode b_Mo_whole 68 = .ok (.ireturn, 1) := by decide +kernel
theorem d_Mo_whole_69 : decode b_Mo_whole 69 = .ok (.lconst 0, 1) := by decide +kernel
theorem d_Mo_whole_70 : decode b_Mo_whole 70 = .ok (.lstore 5, 2) := by decide +kernel
theorem d_Mo_whole_72 : decode b_Mo_whole 72 = .ok (.aload_n 0, 1) := by decide +kernel
theorem d_Mo_whole_73 : decode b_Mo_whole 73 = .ok (.invokevirtual 147, 3) := by decide +kernel
theorem d_Mo_whole_76 : decode b_Mo_whole 76 = .ok (.bipush 48, 2) := by decide +kernel
theorem d_Mo_whole_78 : decode b_Mo_whole 78 = .ok (.if_icmp .ne 16, 3) := by decide +kernel
theorem d_Mo_whole_81 : decode b_Mo_whole 81 = .ok (.aload_n 0, 1) := by decide +kernel
theorem d_Mo_whole_82 : decode b_Mo_whole 82 = .ok (.dup, 1) := by decide +kernel
theorem d_Mo_whole_83 : decode b_Mo_whole 83 = .ok (.getfield 135, 3) := by decide +kernel
theorem d_Mo_whole_86 : decode b_Mo_whole 86 = .ok (.iconst 1, 1) := by decide +kernel
theorem d_Mo_whole_87 : decode b_Mo_whole 87 = .ok (.iadd, 1) := by decide +kernel
theorem d_Mo_whole_88 : decode b_Mo_whole 88 = .ok (.putfield 135, 3) := by decide +kernel
theorem d_Mo_whole_91 : decode b_Mo_whole 91 = .ok (.goto 53, 3) := by decide +kernel
theorem d_Mo_whole_94 : decode b_Mo_whole 94 = .ok (.aload_n 0, 1) := by decide +kernel
theorem d_Mo_whole_95 : decode b_Mo_whole 95 = .ok (.invokevirtual 147, 3) := by decide +kernel
theorem d_Mo_whole_98 : decode b_Mo_whole 98 = .ok (.invokestatic 166, 3) := by decide +kernel
theorem d_Mo_whole_101 : decode b_Mo_whole 101 = .ok (.ifCond .eq 43, 3) := by decide +kernel
theorem d_Mo_whole_104 : decode b_Mo_whole 104 = .ok (.lload 5, 2) := by decide +kernel
theorem d_Mo_whole_106 : decode b_Mo_whole 106 = .ok (.ldc2_w 215, 3) := by decide +kernel
theorem d_Mo_whole_109 : decode b_Mo_whole 109 = .ok (.lcmp, 1) := by decide +kernel
theorem d_Mo_whole_110 : decode b_Mo_whole 110 = .ok (.ifCond .gt 21, 3) := by decide +kernel
theorem d_Mo_whole_113 : decode b_Mo_whole 113 = .ok (.ldc2_w 217, 3) := by decide +kernel
theorem d_Mo_whole_116 : decode b_Mo_whole 116 = .ok (.lload 5, 2) := by decide +kernel
theorem d_Mo_whole_118 : decode b_Mo_whole 118 = .ok (.lmul, 1) := by decide +kernel
theorem d_Mo_whole_119 : decode b_Mo_whole 119 = .ok (.aload_n 0, 1) := by decide +kernel
theorem d_Mo_whole_120 : decode b_Mo_whole 120 = .ok (.invokevirtual 147, 3) := by decide +kernel
theorem d_Mo_whole_123 : decode b_Mo_whole 123 = .ok (.i2l, 1) := by decide +kernel
theorem d_Mo_whole_124 : decode b_Mo_whole 124 = .ok (.ladd, 1) := by decide +kernel
theorem d_Mo_whole_125 : decode b_Mo_whole 125 = .ok (.ldc2_w 219, 3) := by decide +kernel
theorem d_Mo_whole_128 : decode b_Mo_whole 128 = .ok (.lsub, 1) := by decide +kernel
theorem d_Mo_whole_129 : decode b_Mo_whole 129 = .ok (.lstore 5, 2) := by decide +kernel
theorem d_Mo_whole_131 : decode b_Mo_whole 131 = .ok (.aload_n 0, 1) := by decide +kernel
theorem d_Mo_whole_132 : decode b_Mo_whole 132 = .ok (.dup, 1) := by decide +kernel
theorem d_Mo_whole_133 : decode b_Mo_whole 133 = .ok (.getfield 135, 3) := by decide +kernel
theorem d_Mo_whole_136 : decode b_Mo_whole 136 = .ok (.iconst 1, 1) := by decide +kernel
theorem d_Mo_whole_137 : decode b_Mo_whole 137 = .ok (.iadd, 1) := by decide +kernel
theorem d_Mo_whole_138 : decode b_Mo_whole 138 = .ok (.putfield 135, 3) := by decide +kernel
theorem d_Mo_whole_141 : decode b_Mo_whole 141 = .ok (.goto (-47), 3) := by decide +kernel
theorem d_Mo_whole_144 : decode b_Mo_whole 144 = .ok (.lload 5, 2) := by decide +kernel
theorem d_Mo_whole_146 : decode b_Mo_whole 146 = .ok (.ldc2_w 215, 3) := by decide +kernel
theorem d_Mo_whole_149 : decode b_Mo_whole 149 = .ok (.lcmp, 1) := by decide +kernel
theorem d_Mo_whole_150 : decode b_Mo_whole 150 = .ok (.ifCond .le 9, 3) := by decide +kernel
theorem d_Mo_whole_153 : decode b_Mo_whole 153 = .ok (.aload_n 0, 1) := by decide +kernel
theorem d_Mo_whole_154 : decode b_Mo_whole 154 = .ok (.iload_n 3, 1) := by decide +kernel
theorem d_Mo_whole_155 : decode b_Mo_whole 155 = .ok (.invokevirtual 151, 3) := by decide +kernel
theorem d_Mo_whole_158 : decode b_Mo_whole 158 = .ok (.ireturn, 1) := by decide +kernel
theorem d_Mo_whole_159 : decode b_Mo_whole 159 = .ok (.aload_n 0, 1) := by decide +kernel
theorem d_Mo_whole_160 : decode b_Mo_whole 160 = .ok (.getfield 52, 3) := by decide +kernel
theorem d_Mo_whole_163 : decode b_Mo_whole 163 = .ok (.iconst 3, 1) := by decide +kernel
theorem d_Mo_whole_164 : decode b_Mo_whole 164 = .ok (.iload_n 1, 1) := by decide +kernel
theorem d_Mo_whole_165 : decode b_Mo_whole 165 = .ok (.imul, 1) := by decide +kernel
theorem d_Mo_whole_166 : decode b_Mo_whole 166 = .ok (.iload_n 2, 1) := by decide +kernel
theorem d_Mo_whole_167 : decode b_Mo_whole 167 = .ok (.iadd, 1) := by decide +kernel
theorem d_Mo_whole_168 : decode b_Mo_whole 168 = .ok (.iload 4, 2) := by decide +kernel
theorem d_Mo_whole_170 : decode b_Mo_whole 170 = .ok (.ifCond .eq 9, 3) := by decide +kernel
theorem d_Mo_whole_173 : decode b_Mo_whole 173 = .ok (.lload 5, 2) := by decide +kernel
theorem d_Mo_whole_175 : decode b_Mo_whole 175 = .ok (.lneg, 1) := by decide +kernel
theorem d_Mo_whole_176 : decode b_Mo_whole 176 = .ok (.goto 5, 3) := by decide +kernel
theorem d_Mo_whole_179 : decode b_Mo_whole 179 = .ok (.lload 5, 2) := by decide +kernel
theorem d_Mo_whole_181 : decode b_Mo_whole 181 = .ok (.lastore, 1) := by decide +kernel
theorem d_Mo_whole_182 : decode b_Mo_whole 182 = .ok (.aload_n 0, 1) := by decide +kernel
theorem d_Mo_whole_183 : decode b_Mo_whole 183 = .ok (.iload_n 1, 1) := by decide +kernel
theorem d_Mo_whole_184 : decode b_Mo_whole 184 = .ok (.iconst 2, 1) := by decide +kernel
theorem d_Mo_whole_185 : decode b_Mo_whole 185 = .ok (.aload_n 0, 1) := by decide +kernel
theorem d_Mo_whole_186 : decode b_Mo_whole 186 = .ok (.iload_n 1, 1) := by decide +kernel
theorem d_Mo_whole_187 : decode b_Mo_whole 187 = .ok (.iconst 2, 1) := by decide +kernel
theorem d_Mo_whole_188 : decode b_Mo_whole 188 = .ok (.invokevirtual 286, 3) := by decide +kernel
theorem d_Mo_whole_191 : decode b_Mo_whole 191 = .ok (.iconst 1, 1) := by decide +kernel
theorem d_Mo_whole_192 : decode b_Mo_whole 192 = .ok (.iload_n 2, 1) := by decide +kernel
theorem d_Mo_whole_193 : decode b_Mo_whole 193 = .ok (.ishl, 1) := by decide +kernel
theorem d_Mo_whole_194 : decode b_Mo_whole 194 = .ok (.ior, 1) := by decide +kernel
theorem d_Mo_whole_195 : decode b_Mo_whole 195 = .ok (.invokevirtual 272, 3) := by decide +kernel
theorem d_Mo_whole_198 : decode b_Mo_whole 198 = .ok (.iconst 1, 1) := by decide +kernel
theorem d_Mo_whole_199 : decode b_Mo_whole 199 = .ok (.ireturn, 1) := by decide +kernel
set_option maxHeartbeats 4000000 in
set_option maxRecDepth 100000 in
/-- the reference: whole -/
theorem c_Mo_whole (l : Launch) (dC : Nat → ClassId) (dI : Nat → Nat → Nat) (mo : Nat) (sz : Heap) (v : Nat → Value) (cB cI cL : ClassId) (qx NN : Nat) (f : Nat → Int32) (n : Nat) (Q : QS) (o i : Nat) (br : Int32) (s9 wh : Nat) (hnN : n ≤ NN) (hNN : NN ≤ 100000) (hi0 : i ≤ n) (h6 : v 6 = .ref qx) (h8 : v 8 = .int (nI n)) (hQ : QOK Q) (hs9 : s9 < Q.R) (hwh : wh ≤ 2) : Met l y_Mo_whole (k_Mo_whole :: gtbl) ({ frames := 2, cells := 0, slots := 0, locals := 60 }) (va_Pc [.ref mo, .int (nI s9), .int (nI wh)] (mp dC dI [(mo, .inr (13, MF 30 (rf (rs v Q o) i br))), (qx, .inl (cB, NN, .inl f)), (Q.qq, .inl (cI, (8 * Q.C), .inl Q.qf)), (Q.qe, .inl (cL, (3 * Q.C), .inr (.inl Q.ef)))] [(cB, .byte), (cI, .int), (cL, .long)] sz)) (va_Qi (fun (r : Int32) (u : Nat × Int32 × (Nat → Int32) × (Nat → Int64)) => (r = 1 ∧ ∃ val, whM f n i = some (val, u.1) ∧ u.2.2.1 = upd Q.qf (8 * s9 + 2) (Q.qf (8 * s9 + 2) ||| 1 <<< (nI wh &&& 31)) ∧ u.2.2.2 = vp_updL Q.ef (3 * s9 + wh) val ∧ u.1 ≤ n) ∨ (r = 0 ∧ whM f n i = none ∧ u.2.2.1 = Q.qf ∧ u.2.2.2 = Q.ef)) (fun u t9 => mz dC dI [(mo, .inr (13, MF 30 (rf (rs v Q o) u.1 u.2.1))), (qx, .inl (cB, NN, .inl f)), (Q.qq, .inl (cI, (8 * Q.C), .inl u.2.2.1)), (Q.qe, .inl (cL, (3 * Q.C), .inr (.inl u.2.2.2)))] [(cB, .byte), (cI, .int), (cL, .long)] (va_A [(mo, .inr (13, MF 30 (rf (rs v Q o) i br))), (qx, .inl (cB, NN, .inl f)), (Q.qq, .inl (cI, (8 * Q.C), .inl Q.qf)), (Q.qe, .inl (cL, (3 * Q.C), .inr (.inl Q.ef)))] sz.size) t9) (va_A [(mo, .inr (13, MF 30 (rf (rs v Q o) i br))), (qx, .inl (cB, NN, .inl f)), (Q.qq, .inl (cI, (8 * Q.C), .inl Q.qf)), (Q.qe, .inl (cL, (3 * Q.C), .inr (.inl Q.ef)))] sz.size)) 0 0 (va_A [(mo, .inr (13, MF 30 (rf (rs v Q o) i br))), (qx, .inl (cB, NN, .inl f)), (Q.qq, .inl (cI, (8 * Q.C), .inl Q.qf)), (Q.qe, .inl (cL, (3 * Q.C), .inr (.inl Q.ef)))] sz.size) := by
  refine Met.ofW (cc := b_Mo_whole) (maxL := 7) (ret := (some .boolean)) (by decide) rfl ?_
  intro p e s m args below meth c s₁ B hml hv
  obtain ⟨rfl, hsz, hP, hK, hD0⟩ := hv
  have hx := B.exec
  have hb := B.bytes
  have hr := B.returns
  have hts0 := atoms_spec (ws := k_Mo_whole :: gtbl) B.pre
  have hts := fun w h => hts0 w (List.mem_cons_of_mem _ h)
  have hown : s.vm.findClass R_Mo = some m.cls := findClass_of_methodNamed B.named
  have hlocks := B.notSynchronized
  subst hsz
  have hD := hD0.self (sz := s.heap.size)
  generalize hAe : va_A [(mo, .inr (13, MF 30 (rf (rs v Q o) i br))), (qx, .inl (cB, NN, .inl f)), (Q.qq, .inl (cI, (8 * Q.C), .inl Q.qf)), (Q.qe, .inl (cL, (3 * Q.C), .inr (.inl Q.ef)))] s.heap.size = A at hD ⊢
  have hA : ∀ q : Nat, s.heap.size ≤ q → A q := fun q h => by rw [← hAe]; exact Or.inr h
  have hS : va_S A s.heap s.heap [] := va_S.rf
  have hP : va_P (dC, dI) classes [(mo, .inr (13, MF 30 (rf (rs v Q o) i br))), (qx, .inl (cB, NN, .inl f)), (Q.qq, .inl (cI, (8 * Q.C), .inl Q.qf)), (Q.qe, .inl (cL, (3 * Q.C), .inr (.inl Q.ef)))] s.heap := hP
  have hl := lv_entry ([.ref mo, .int (nI s9), .int (nI wh)]) (n := 7) (Nat.le_of_ble_eq_true rfl)
  rw [lg_entry_eq]
  generalize (lg_sl ([.ref mo, .int (nI s9), .int (nI wh)]) ++ List.replicate (7 - (lg_sl ([.ref mo, .int (nI s9), .int (nI wh)])).length) Slot.unset).toArray = ls at hl ⊢
  have hl : lv_has ls 7 [(0, .ref mo), (1, .int (nI s9)), (2, .int (nI wh))] := hl
  obtain ⟨ho1, ho2, ho3, ho4⟩ := hQ
  refine lv_aload_n hx hb d_Mo_whole_0 rfl (lv_at hl 0 rfl) ?_
  refine va_get (D := (dC, dI)) (ci := 13) (v := .int (nI i)) (C := R_Mo) (T := F_Mo) (N := 30) hx hb hts in_Mo hown hK hP 0 rfl rfl 7 (by decide) (hts _ w_1096) (fun _ h9 => h9) (MFg (by decide) rf_7) d_Mo_whole_1 ?_
  refine lv_istore_n (lv' := [(3, .int (nI i)), (0, .ref mo), (1, .int (nI s9)), (2, .int (nI wh))]) hx hb d_Mo_whole_4 rfl hl (by decide) rfl (fun ls hl => ?_)
  refine lv_aload_n hx hb d_Mo_whole_5 rfl (lv_at hl 1 rfl) ?_
  have hPc := hP.sub (ws' := [(mo, .inr (13, MF 30 (rf (rs v Q o) i br))), (qx, .inl (cB, NN, .inl f))]) [0, 1] rfl
  have hDc := hD.sub (ws' := [(mo, .inr (13, MF 30 (rf (rs v Q o) i br))), (qx, .inl (cB, NN, .inl f))]) [0, 1] (by decide) rfl
  have hKc := hK.sub (tys' := [(cB, .byte)]) [0] rfl
  have hFc := va_free (wc := [(mo, .inr (13, MF 30 (rf (rs v Q o) i br))), (qx, .inl (cB, NN, .inl f))]) hD hS hA [0, 1] rfl
  refine va_calli (va_runV (As := []) (rest := []) ⟨hx, hb, hml, hown, hts⟩ (c_Mo_c l dC dI mo s.heap (rf (rs v Q o) i br) cB qx NN f n i (by omega) (by omega) (by omega) ((rf_ne (by decide) (by decide)).trans ((rs_ne (by decide) (by decide) (by decide) (by decide)).trans h6)) rf_7 ((rf_ne (by decide) (by decide)).trans ((rs_ne (by decide) (by decide) (by decide) (by decide)).trans h8))) (cwV 0 hts (gt_V (own := R_Mo) (C := R_Mo) (i := 147) (y := y_Mo_c) i_Mo_c w_1233 w_1235 (gt_sel (y := y_Mo_c) (n := 30) (by decide +kernel)) w_7) rfl rfl rfl (by decide +kernel) ⟨Nat.le_of_ble_eq_true rfl, Nat.le_of_ble_eq_true rfl⟩) ⟨mp_blind, va_recv hKc hPc (ci := 13) (q0 := 0) rfl rfl, fun U hU hW => ⟨rfl, hU, by rw [hU]; exact hPc, va_K.moved hW.alike hKc, hDc.weaken (fun _ _ _ _ => trivial)⟩⟩ rfl rfl hl.1 rfl (lv_room (Nat.le_of_ble_eq_true rfl)) d_Mo_whole_6 ⟨Nat.le_of_ble_eq_true rfl, Nat.le_of_ble_eq_true rfl⟩) hS (fun q _ h => hFc q h) hFc (fun r1 _u t9 H1 locs ht hvm hw hB hz1 hk1 hS => ?_)
  obtain ⟨hP1, hK1, hD1⟩ := hB
  rw [ht] at hP1
  obtain ⟨hP, hD⟩ := va_join (wr := [(Q.qq, .inl (cI, (8 * Q.C), .inl Q.qf)), (Q.qe, .inl (cL, (3 * Q.C), .inr (.inl Q.ef)))]) (w1 := [(mo, .inr (13, MF 30 (rf (rs v Q o) i br))), (qx, .inl (cB, NN, .inl f))]) hP hD [0, 1] [2, 3] rfl rfl (by decide) (by decide) hk1 hFc hP1 hD1
  generalize H1 = H at hP hS ⊢
  have hP : va_P (dC, dI) classes [(Q.qq, .inl (cI, (8 * Q.C), .inl Q.qf)), (Q.qe, .inl (cL, (3 * Q.C), .inr (.inl Q.ef))), (mo, .inr (13, MF 30 (rf (rs v Q o) i br))), (qx, .inl (cB, NN, .inl f))] H := hP
  have hD : va_D A [(Q.qq, .inl (cI, (8 * Q.C), .inl Q.qf)), (Q.qe, .inl (cL, (3 * Q.C), .inr (.inl Q.ef))), (mo, .inr (13, MF 30 (rf (rs v Q o) i br))), (qx, .inl (cB, NN, .inl f))] := hD
  have hP := hP.sub (ws' := [(mo, .inr (13, MF 30 (rf (rs v Q o) i br))), (qx, .inl (cB, NN, .inl f)), (Q.qq, .inl (cI, (8 * Q.C), .inl Q.qf)), (Q.qe, .inl (cL, (3 * Q.C), .inr (.inl Q.ef)))]) [2, 3, 0, 1] rfl
  have hD := hD.sub (ws' := [(mo, .inr (13, MF 30 (rf (rs v Q o) i br))), (qx, .inl (cB, NN, .inl f)), (Q.qq, .inl (cI, (8 * Q.C), .inl Q.qf)), (Q.qe, .inl (cL, (3 * Q.C), .inr (.inl Q.ef)))]) [2, 3, 0, 1] (by decide) rfl
  have h_r1 : r1 = hereV f n i := hw
  refine lv_bipush (v := 45) hx hb d_Mo_whole_9 (by decide) ?_
  refine lv_icmp_ne (tgt := 18) hx hb d_Mo_whole_11 (by decide) (fun c11 => ?_) (fun c11 => ?_)
  · refine lv_iconst (v := 0) hx hb d_Mo_whole_18 (by decide) ?_
    refine lv_istore (lv' := [(4, .int 0), (3, .int (nI i)), (0, .ref mo), (1, .int (nI s9)), (2, .int (nI wh))]) hx hb d_Mo_whole_19 hl (by decide) rfl (fun ls hl => ?_)
    refine lv_iload hx hb d_Mo_whole_21 (lv_at hl 0 rfl) ?_
    refine lv_if_eq (tgt := 36) hx hb d_Mo_whole_23 (by decide) (fun _ => ?_) (fun h => absurd (by decide) h)
    refine lv_aload_n hx hb d_Mo_whole_36 rfl (lv_at hl 2 rfl) ?_
    have hPc := hP.sub (ws' := [(mo, .inr (13, MF 30 (rf (rs v Q o) i br))), (qx, .inl (cB, NN, .inl f))]) [0, 1] rfl
    have hDc := hD.sub (ws' := [(mo, .inr (13, MF 30 (rf (rs v Q o) i br))), (qx, .inl (cB, NN, .inl f))]) [0, 1] (by decide) rfl
    have hKc := hK.sub (tys' := [(cB, .byte)]) [0] rfl
    have hFc := va_free (wc := [(mo, .inr (13, MF 30 (rf (rs v Q o) i br))), (qx, .inl (cB, NN, .inl f))]) hD hS hA [0, 1] rfl
    refine va_calli (va_runV (As := []) (rest := []) ⟨hx, hb, hml, hown, hts⟩ (c_Mo_c l dC dI mo H (rf (rs v Q o) i br) cB qx NN f n i (by omega) (by omega) (by omega) ((rf_ne (by decide) (by decide)).trans ((rs_ne (by decide) (by decide) (by decide) (by decide)).trans h6)) rf_7 ((rf_ne (by decide) (by decide)).trans ((rs_ne (by decide) (by decide) (by decide) (by decide)).trans h8))) (cwV 0 hts (gt_V (own := R_Mo) (C := R_Mo) (i := 147) (y := y_Mo_c) i_Mo_c w_1233 w_1235 (gt_sel (y := y_Mo_c) (n := 30) (by decide +kernel)) w_7) rfl rfl rfl (by decide +kernel) ⟨Nat.le_of_ble_eq_true rfl, Nat.le_of_ble_eq_true rfl⟩) ⟨mp_blind, va_recv hKc hPc (ci := 13) (q0 := 0) rfl rfl, fun U hU hW => ⟨rfl, hU, by rw [hU]; exact hPc, va_K.moved hW.alike hKc, hDc.weaken (fun _ _ _ _ => trivial)⟩⟩ rfl rfl hl.1 rfl (lv_room (Nat.le_of_ble_eq_true rfl)) d_Mo_whole_37 ⟨Nat.le_of_ble_eq_true rfl, Nat.le_of_ble_eq_true rfl⟩) hS (fun q _ h => hFc q h) hFc (fun r2 _u t9 H1 locs ht hvm hw hB hz1 hk1 hS => ?_)
    obtain ⟨hP1, hK1, hD1⟩ := hB
    rw [ht] at hP1
    obtain ⟨hP, hD⟩ := va_join (wr := [(Q.qq, .inl (cI, (8 * Q.C), .inl Q.qf)), (Q.qe, .inl (cL, (3 * Q.C), .inr (.inl Q.ef)))]) (w1 := [(mo, .inr (13, MF 30 (rf (rs v Q o) i br))), (qx, .inl (cB, NN, .inl f))]) hP hD [0, 1] [2, 3] rfl rfl (by decide) (by decide) hk1 hFc hP1 hD1
    generalize H1 = H at hP hS ⊢
    have hP : va_P (dC, dI) classes [(Q.qq, .inl (cI, (8 * Q.C), .inl Q.qf)), (Q.qe, .inl (cL, (3 * Q.C), .inr (.inl Q.ef))), (mo, .inr (13, MF 30 (rf (rs v Q o) i br))), (qx, .inl (cB, NN, .inl f))] H := hP
    have hD : va_D A [(Q.qq, .inl (cI, (8 * Q.C), .inl Q.qf)), (Q.qe, .inl (cL, (3 * Q.C), .inr (.inl Q.ef))), (mo, .inr (13, MF 30 (rf (rs v Q o) i br))), (qx, .inl (cB, NN, .inl f))] := hD
    have hP := hP.sub (ws' := [(mo, .inr (13, MF 30 (rf (rs v Q o) i br))), (qx, .inl (cB, NN, .inl f)), (Q.qq, .inl (cI, (8 * Q.C), .inl Q.qf)), (Q.qe, .inl (cL, (3 * Q.C), .inr (.inl Q.ef)))]) [2, 3, 0, 1] rfl
    have hD := hD.sub (ws' := [(mo, .inr (13, MF 30 (rf (rs v Q o) i br))), (qx, .inl (cB, NN, .inl f)), (Q.qq, .inl (cI, (8 * Q.C), .inl Q.qf)), (Q.qe, .inl (cL, (3 * Q.C), .inr (.inl Q.ef)))]) [2, 3, 0, 1] (by decide) rfl
    have h_r2 : r2 = hereV f n i := hw
    have hPc := hP.sub (ws' := []) [] rfl
    have hDc := hD.sub (ws' := []) [] (by decide) rfl
    have hKc := hK.sub (tys' := []) [] rfl
    have hFc := va_free (wc := []) hD hS hA [] rfl
    refine va_calli (va_runS (As := [.int r2]) (rest := []) ⟨hx, hb, hml, hown, hts⟩ (c_Mo_digit l dC dI H r2) (va_cwS 1 hts (gt_S (own := R_Mo) (i := 166) (y := y_Mo_digit) i_Mo_digit w_1332 w_1333 w_7) rfl rfl rfl (by decide +kernel) ⟨Nat.le_of_ble_eq_true rfl, Nat.le_of_ble_eq_true rfl⟩) ⟨mp_blind, fun U hU hW => ⟨rfl, hU, by rw [hU]; exact hPc, va_K.moved hW.alike hKc, hDc.weaken (fun _ _ _ _ => trivial)⟩⟩ rfl rfl hl.1 rfl (lv_room (Nat.le_of_ble_eq_true rfl)) d_Mo_whole_40 ⟨Nat.le_of_ble_eq_true rfl, Nat.le_of_ble_eq_true rfl⟩) hS (fun q _ h => hFc q h) hFc (fun d2 _u t9 H1 locs ht hvm hw hB hz1 hk1 hS => ?_)
    obtain ⟨hP1, hK1, hD1⟩ := hB
    rw [ht] at hP1
    obtain ⟨hP, hD⟩ := va_join (wr := [(mo, .inr (13, MF 30 (rf (rs v Q o) i br))), (qx, .inl (cB, NN, .inl f)), (Q.qq, .inl (cI, (8 * Q.C), .inl Q.qf)), (Q.qe, .inl (cL, (3 * Q.C), .inr (.inl Q.ef)))]) (w1 := []) hP hD [] [0, 1, 2, 3] rfl rfl (by decide) (by decide) hk1 hFc hP1 hD1
    generalize H1 = H at hP hS ⊢
    have hP : va_P (dC, dI) classes [(mo, .inr (13, MF 30 (rf (rs v Q o) i br))), (qx, .inl (cB, NN, .inl f)), (Q.qq, .inl (cI, (8 * Q.C), .inl Q.qf)), (Q.qe, .inl (cL, (3 * Q.C), .inr (.inl Q.ef)))] H := hP
    have hD : va_D A [(mo, .inr (13, MF 30 (rf (rs v Q o) i br))), (qx, .inl (cB, NN, .inl f)), (Q.qq, .inl (cI, (8 * Q.C), .inl Q.qf)), (Q.qe, .inl (cL, (3 * Q.C), .inr (.inl Q.ef)))] := hD
    have h_d2 := dg_01 hw
    refine lv_if_eq (tgt := 60) hx hb d_Mo_whole_43 (by decide) (fun c43 => ?_) (fun c43 => ?_)
    · refine lv_aload_n hx hb d_Mo_whole_60 rfl (lv_at hl 2 rfl) ?_
      refine lv_aload_n hx hb d_Mo_whole_61 rfl (lv_at hl 2 rfl) ?_
      refine va_get (D := (dC, dI)) (ci := 13) (v := .int (nI i)) (C := R_Mo) (T := F_Mo) (N := 30) hx hb hts in_Mo hown hK hP 0 rfl rfl 7 (by decide) (hts _ w_1096) (fun _ h9 => h9) (MFg (by decide) rf_7) d_Mo_whole_62 ?_
      have hPc := hP.sub (ws' := [(mo, .inr (13, MF 30 (rf (rs v Q o) i br)))]) [0] rfl
      have hDc := hD.sub (ws' := [(mo, .inr (13, MF 30 (rf (rs v Q o) i br)))]) [0] (by decide) rfl
      have hKc := hK.sub (tys' := []) [] rfl
      have hFc := va_free (wc := [(mo, .inr (13, MF 30 (rf (rs v Q o) i br)))]) hD hS hA [0] rfl
      refine va_calli (va_runV (As := [.int (nI i)]) (rest := []) ⟨hx, hb, hml, hown, hts⟩ (c_Mo_fail l dC dI mo H (rf (rs v Q o) i br) br ((nI i)) rf_9) (cwV 1 hts (gt_V (own := R_Mo) (C := R_Mo) (i := 151) (y := y_Mo_fail) i_Mo_fail w_1250 w_1252 (gt_sel (y := y_Mo_fail) (n := 30) (by decide +kernel)) w_7) rfl rfl rfl (by decide +kernel) ⟨Nat.le_of_ble_eq_true rfl, Nat.le_of_ble_eq_true rfl⟩) ⟨mp_blind, va_recv hKc hPc (ci := 13) (q0 := 0) rfl rfl, fun U hU hW => ⟨rfl, hU, by rw [hU]; exact hPc, va_K.moved hW.alike hKc, hDc.weaken (fun _ _ _ _ => trivial)⟩⟩ rfl rfl hl.1 rfl (lv_room (Nat.le_of_ble_eq_true rfl)) d_Mo_whole_65 ⟨Nat.le_of_ble_eq_true rfl, Nat.le_of_ble_eq_true rfl⟩) hS (fun q _ h => hFc q h) hFc (fun r0 u2 t9 H1 locs ht hvm hw hB hz1 hk1 hS => ?_)
      obtain ⟨hP1, hK1, hD1⟩ := hB
      rw [ht] at hP1
      obtain ⟨hP, hD⟩ := va_join (wr := [(qx, .inl (cB, NN, .inl f)), (Q.qq, .inl (cI, (8 * Q.C), .inl Q.qf)), (Q.qe, .inl (cL, (3 * Q.C), .inr (.inl Q.ef)))]) (w1 := [(mo, .inr (13, MF 30 u2))]) hP hD [0] [1, 2, 3] rfl rfl (by decide) (by decide) hk1 hFc hP1 hD1
      generalize H1 = H at hP hS ⊢
      have hP : va_P (dC, dI) classes [(qx, .inl (cB, NN, .inl f)), (Q.qq, .inl (cI, (8 * Q.C), .inl Q.qf)), (Q.qe, .inl (cL, (3 * Q.C), .inr (.inl Q.ef))), (mo, .inr (13, MF 30 u2))] H := hP
      have hD : va_D A [(qx, .inl (cB, NN, .inl f)), (Q.qq, .inl (cI, (8 * Q.C), .inl Q.qf)), (Q.qe, .inl (cL, (3 * Q.C), .inr (.inl Q.ef))), (mo, .inr (13, MF 30 u2))] := hD
      have hP := hP.sub (ws' := [(mo, .inr (13, MF 30 u2)), (qx, .inl (cB, NN, .inl f)), (Q.qq, .inl (cI, (8 * Q.C), .inl Q.qf)), (Q.qe, .inl (cL, (3 * Q.C), .inr (.inl Q.ef)))]) [3, 0, 1, 2] rfl
      have hD := hD.sub (ws' := [(mo, .inr (13, MF 30 u2)), (qx, .inl (cB, NN, .inl f)), (Q.qq, .inl (cI, (8 * Q.C), .inl Q.qf)), (Q.qe, .inl (cL, (3 * Q.C), .inr (.inl Q.ef)))]) [3, 0, 1, 2] (by decide) rfl
      obtain ⟨b7, h_b7⟩ := rf_fail (v := (rs v Q o)) (i := i) (br := br) (b2 := br) (wh := (nI i))
      have hw : r0 = 0 ∧ u2 = _ := hw
      obtain ⟨hw1, hw2⟩ := hw
      rw [h_b7] at hw2
      rw [hw2] at hP hD
      subst hw1
      have hP : va_P (dC, dI) classes [(mo, .inr (13, MF 30 (rf (rs v Q o) i b7))), (qx, .inl (cB, NN, .inl f)), (Q.qq, .inl (cI, (8 * Q.C), .inl Q.qf)), (Q.qe, .inl (cL, (3 * Q.C), .inr (.inl Q.ef)))] H := hP
      have hD : va_D A [(mo, .inr (13, MF 30 (rf (rs v Q o) i b7))), (qx, .inl (cB, NN, .inl f)), (Q.qq, .inl (cI, (8 * Q.C), .inl Q.qf)), (Q.qe, .inl (cL, (3 * Q.C), .inr (.inl Q.ef)))] := hD
      have hfin : whM f n i = none := by unfold whM; rw [if_neg (fun h => c11 (h_r1.trans h))]; unfold whB; rw [if_pos (Or.inl (by rw [← h_r2]; exact h_d2.2 c43))]
      exact W.zret (v := 0) hx hb hr rfl (fun t9 ht hW => ⟨⟨0, (i, b7, Q.qf, Q.ef), rfl, Or.inr ⟨rfl, hfin, rfl, rfl⟩, by rw [ht]; exact hP, va_K.moved hW.alike hK, hD⟩, hS.F ht⟩) hS.2.2 d_Mo_whole_68
    · refine lv_iload hx hb d_Mo_whole_46 (lv_at hl 0 rfl) ?_
      refine lv_if_eq (tgt := 69) hx hb d_Mo_whole_48 (by decide) (fun _ => ?_) (fun h => absurd (by decide) h)
      have hd1 : digH (hereV f n i) := by rw [← h_r2]; exact h_d2.1 c43
      have hlt1 := digH_lt hd1
      have hgo : ¬ (¬ digH (hereV f n i) ∨ (false = true ∧ hereV f n i = 48)) := fun h => h.elim (fun q => q hd1) (fun q => absurd q.1 (by decide))
      refine lv_lconst (v := 0) hx hb d_Mo_whole_69 (by decide) ?_
      refine lv_lstore (lv' := [(5, .long 0), (4, .int 0), (3, .int (nI i)), (0, .ref mo), (1, .int (nI s9)), (2, .int (nI wh))]) hx hb d_Mo_whole_70 hl (by decide) rfl (fun ls hl => ?_)
      refine lv_aload_n hx hb d_Mo_whole_72 rfl (lv_at hl 3 rfl) ?_
      have hPc := hP.sub (ws' := [(mo, .inr (13, MF 30 (rf (rs v Q o) i br))), (qx, .inl (cB, NN, .inl f))]) [0, 1] rfl
      have hDc := hD.sub (ws' := [(mo, .inr (13, MF 30 (rf (rs v Q o) i br))), (qx, .inl (cB, NN, .inl f))]) [0, 1] (by decide) rfl
      have hKc := hK.sub (tys' := [(cB, .byte)]) [0] rfl
      have hFc := va_free (wc := [(mo, .inr (13, MF 30 (rf (rs v Q o) i br))), (qx, .inl (cB, NN, .inl f))]) hD hS hA [0, 1] rfl
      refine va_calli (va_runV (As := []) (rest := []) ⟨hx, hb, hml, hown, hts⟩ (c_Mo_c l dC dI mo H (rf (rs v Q o) i br) cB qx NN f n i (by omega) (by omega) (by omega) ((rf_ne (by decide) (by decide)).trans ((rs_ne (by decide) (by decide) (by decide) (by decide)).trans h6)) rf_7 ((rf_ne (by decide) (by decide)).trans ((rs_ne (by decide) (by decide) (by decide) (by decide)).trans h8))) (cwV 0 hts (gt_V (own := R_Mo) (C := R_Mo) (i := 147) (y := y_Mo_c) i_Mo_c w_1233 w_1235 (gt_sel (y := y_Mo_c) (n := 30) (by decide +kernel)) w_7) rfl rfl rfl (by decide +kernel) ⟨Nat.le_of_ble_eq_true rfl, Nat.le_of_ble_eq_true rfl⟩) ⟨mp_blind, va_recv hKc hPc (ci := 13) (q0 := 0) rfl rfl, fun U hU hW => ⟨rfl, hU, by rw [hU]; exact hPc, va_K.moved hW.alike hKc, hDc.weaken (fun _ _ _ _ => trivial)⟩⟩ rfl rfl hl.1 rfl (lv_room (Nat.le_of_ble_eq_true rfl)) d_Mo_whole_73 ⟨Nat.le_of_ble_eq_true rfl, Nat.le_of_ble_eq_true rfl⟩) hS (fun q _ h => hFc q h) hFc (fun r3 _u t9 H1 locs ht hvm hw hB hz1 hk1 hS => ?_)
      obtain ⟨hP1, hK1, hD1⟩ := hB
      rw [ht] at hP1
      obtain ⟨hP, hD⟩ := va_join (wr := [(Q.qq, .inl (cI, (8 * Q.C), .inl Q.qf)), (Q.qe, .inl (cL, (3 * Q.C), .inr (.inl Q.ef)))]) (w1 := [(mo, .inr (13, MF 30 (rf (rs v Q o) i br))), (qx, .inl (cB, NN, .inl f))]) hP hD [0, 1] [2, 3] rfl rfl (by decide) (by decide) hk1 hFc hP1 hD1
      generalize H1 = H at hP hS ⊢
      have hP : va_P (dC, dI) classes [(Q.qq, .inl (cI, (8 * Q.C), .inl Q.qf)), (Q.qe, .inl (cL, (3 * Q.C), .inr (.inl Q.ef))), (mo, .inr (13, MF 30 (rf (rs v Q o) i br))), (qx, .inl (cB, NN, .inl f))] H := hP
      have hD : va_D A [(Q.qq, .inl (cI, (8 * Q.C), .inl Q.qf)), (Q.qe, .inl (cL, (3 * Q.C), .inr (.inl Q.ef))), (mo, .inr (13, MF 30 (rf (rs v Q o) i br))), (qx, .inl (cB, NN, .inl f))] := hD
      have hP := hP.sub (ws' := [(mo, .inr (13, MF 30 (rf (rs v Q o) i br))), (qx, .inl (cB, NN, .inl f)), (Q.qq, .inl (cI, (8 * Q.C), .inl Q.qf)), (Q.qe, .inl (cL, (3 * Q.C), .inr (.inl Q.ef)))]) [2, 3, 0, 1] rfl
      have hD := hD.sub (ws' := [(mo, .inr (13, MF 30 (rf (rs v Q o) i br))), (qx, .inl (cB, NN, .inl f)), (Q.qq, .inl (cI, (8 * Q.C), .inl Q.qf)), (Q.qe, .inl (cL, (3 * Q.C), .inr (.inl Q.ef)))]) [2, 3, 0, 1] (by decide) rfl
      have h_r3 : r3 = hereV f n i := hw
      refine lv_bipush (v := 48) hx hb d_Mo_whole_76 (by decide) ?_
      refine lv_icmp_ne (tgt := 94) hx hb d_Mo_whole_78 (by decide) (fun c78 => ?_) (fun c78 => ?_)
      · refine w_loop (D := (dC, dI)) (cl := classes) (A := A) (H0 := s.heap) (nL := 7) 94 (σ := Nat × Nat × Int64) (fun ⟨k, j, a⟩ => i ≤ j ∧ j ≤ n ∧ n + 1 ≤ k + j ∧ dgM f n k j a = dgM f n (n + 1) i 0) (fun ⟨k, j, a⟩ => n + 1 - j) (fun ⟨k, j, a⟩ => [(mo, .inr (13, MF 30 (rf (rs v Q o) j br))), (qx, .inl (cB, NN, .inl f)), (Q.qq, .inl (cI, (8 * Q.C), .inl Q.qf)), (Q.qe, .inl (cL, (3 * Q.C), .inr (.inl Q.ef)))]) (fun ⟨k, j, a⟩ => [(0, .ref mo), (1, .int (nI s9)), (2, .int (nI wh)), (3, .int (nI i)), (4, .int 0), (5, .long a)]) ?_ (n + 1, i, 0) ⟨Nat.le_refl _, by show i ≤ n; omega, by show n + 1 ≤ n + 1 + i; omega, rfl⟩ hP hD hS (lv_sub hl [3, 4, 5, 2, 1, 0] rfl)
        rintro ⟨k, j, a⟩ H locs ls hI ih hP hD hS hl
        have hP : va_P (dC, dI) classes [(mo, .inr (13, MF 30 (rf (rs v Q o) j br))), (qx, .inl (cB, NN, .inl f)), (Q.qq, .inl (cI, (8 * Q.C), .inl Q.qf)), (Q.qe, .inl (cL, (3 * Q.C), .inr (.inl Q.ef)))] H := hP
        have hD : va_D A [(mo, .inr (13, MF 30 (rf (rs v Q o) j br))), (qx, .inl (cB, NN, .inl f)), (Q.qq, .inl (cI, (8 * Q.C), .inl Q.qf)), (Q.qe, .inl (cL, (3 * Q.C), .inr (.inl Q.ef)))] := hD
        have hl : lv_has ls 7 [(0, .ref mo), (1, .int (nI s9)), (2, .int (nI wh)), (3, .int (nI i)), (4, .int 0), (5, .long a)] := hl
        obtain ⟨hI1, hI2, hI3, hI4⟩ := hI
        obtain ⟨k0, hk0⟩ : ∃ k0, k = k0 + 1 := ⟨k - 1, by omega⟩
        refine lv_aload_n hx hb d_Mo_whole_94 rfl (lv_at hl 0 rfl) ?_
        have hPc := hP.sub (ws' := [(mo, .inr (13, MF 30 (rf (rs v Q o) j br))), (qx, .inl (cB, NN, .inl f))]) [0, 1] rfl
        have hDc := hD.sub (ws' := [(mo, .inr (13, MF 30 (rf (rs v Q o) j br))), (qx, .inl (cB, NN, .inl f))]) [0, 1] (by decide) rfl
        have hKc := hK.sub (tys' := [(cB, .byte)]) [0] rfl
        have hFc := va_free (wc := [(mo, .inr (13, MF 30 (rf (rs v Q o) j br))), (qx, .inl (cB, NN, .inl f))]) hD hS hA [0, 1] rfl
        refine va_calli (va_runV (As := []) (rest := []) ⟨hx, hb, hml, hown, hts⟩ (c_Mo_c l dC dI mo H (rf (rs v Q o) j br) cB qx NN f n j (by omega) (by omega) (by omega) ((rf_ne (by decide) (by decide)).trans ((rs_ne (by decide) (by decide) (by decide) (by decide)).trans h6)) rf_7 ((rf_ne (by decide) (by decide)).trans ((rs_ne (by decide) (by decide) (by decide) (by decide)).trans h8))) (cwV 0 hts (gt_V (own := R_Mo) (C := R_Mo) (i := 147) (y := y_Mo_c) i_Mo_c w_1233 w_1235 (gt_sel (y := y_Mo_c) (n := 30) (by decide +kernel)) w_7) rfl rfl rfl (by decide +kernel) ⟨Nat.le_of_ble_eq_true rfl, Nat.le_of_ble_eq_true rfl⟩) ⟨mp_blind, va_recv hKc hPc (ci := 13) (q0 := 0) rfl rfl, fun U hU hW => ⟨rfl, hU, by rw [hU]; exact hPc, va_K.moved hW.alike hKc, hDc.weaken (fun _ _ _ _ => trivial)⟩⟩ rfl rfl hl.1 rfl (lv_room (Nat.le_of_ble_eq_true rfl)) d_Mo_whole_95 ⟨Nat.le_of_ble_eq_true rfl, Nat.le_of_ble_eq_true rfl⟩) hS (fun q _ h => hFc q h) hFc (fun r4 _u t9 H1 locs ht hvm hw hB hz1 hk1 hS => ?_)
        obtain ⟨hP1, hK1, hD1⟩ := hB
        rw [ht] at hP1
        obtain ⟨hP, hD⟩ := va_join (wr := [(Q.qq, .inl (cI, (8 * Q.C), .inl Q.qf)), (Q.qe, .inl (cL, (3 * Q.C), .inr (.inl Q.ef)))]) (w1 := [(mo, .inr (13, MF 30 (rf (rs v Q o) j br))), (qx, .inl (cB, NN, .inl f))]) hP hD [0, 1] [2, 3] rfl rfl (by decide) (by decide) hk1 hFc hP1 hD1
        generalize H1 = H at hP hS ⊢
        have hP : va_P (dC, dI) classes [(Q.qq, .inl (cI, (8 * Q.C), .inl Q.qf)), (Q.qe, .inl (cL, (3 * Q.C), .inr (.inl Q.ef))), (mo, .inr (13, MF 30 (rf (rs v Q o) j br))), (qx, .inl (cB, NN, .inl f))] H := hP
        have hD : va_D A [(Q.qq, .inl (cI, (8 * Q.C), .inl Q.qf)), (Q.qe, .inl (cL, (3 * Q.C), .inr (.inl Q.ef))), (mo, .inr (13, MF 30 (rf (rs v Q o) j br))), (qx, .inl (cB, NN, .inl f))] := hD
        have hP := hP.sub (ws' := [(mo, .inr (13, MF 30 (rf (rs v Q o) j br))), (qx, .inl (cB, NN, .inl f)), (Q.qq, .inl (cI, (8 * Q.C), .inl Q.qf)), (Q.qe, .inl (cL, (3 * Q.C), .inr (.inl Q.ef)))]) [2, 3, 0, 1] rfl
        have hD := hD.sub (ws' := [(mo, .inr (13, MF 30 (rf (rs v Q o) j br))), (qx, .inl (cB, NN, .inl f)), (Q.qq, .inl (cI, (8 * Q.C), .inl Q.qf)), (Q.qe, .inl (cL, (3 * Q.C), .inr (.inl Q.ef)))]) [2, 3, 0, 1] (by decide) rfl
        have h_r4 : r4 = hereV f n j := hw
        have hPc := hP.sub (ws' := []) [] rfl
        have hDc := hD.sub (ws' := []) [] (by decide) rfl
        have hKc := hK.sub (tys' := []) [] rfl
        have hFc := va_free (wc := []) hD hS hA [] rfl
        refine va_calli (va_runS (As := [.int r4]) (rest := []) ⟨hx, hb, hml, hown, hts⟩ (c_Mo_digit l dC dI H r4) (va_cwS 1 hts (gt_S (own := R_Mo) (i := 166) (y := y_Mo_digit) i_Mo_digit w_1332 w_1333 w_7) rfl rfl rfl (by decide +kernel) ⟨Nat.le_of_ble_eq_true rfl, Nat.le_of_ble_eq_true rfl⟩) ⟨mp_blind, fun U hU hW => ⟨rfl, hU, by rw [hU]; exact hPc, va_K.moved hW.alike hKc, hDc.weaken (fun _ _ _ _ => trivial)⟩⟩ rfl rfl hl.1 rfl (lv_room (Nat.le_of_ble_eq_true rfl)) d_Mo_whole_98 ⟨Nat.le_of_ble_eq_true rfl, Nat.le_of_ble_eq_true rfl⟩) hS (fun q _ h => hFc q h) hFc (fun d4 _u t9 H1 locs ht hvm hw hB hz1 hk1 hS => ?_)
        obtain ⟨hP1, hK1, hD1⟩ := hB
        rw [ht] at hP1
        obtain ⟨hP, hD⟩ := va_join (wr := [(mo, .inr (13, MF 30 (rf (rs v Q o) j br))), (qx, .inl (cB, NN, .inl f)), (Q.qq, .inl (cI, (8 * Q.C), .inl Q.qf)), (Q.qe, .inl (cL, (3 * Q.C), .inr (.inl Q.ef)))]) (w1 := []) hP hD [] [0, 1, 2, 3] rfl rfl (by decide) (by decide) hk1 hFc hP1 hD1
        generalize H1 = H at hP hS ⊢
        have hP : va_P (dC, dI) classes [(mo, .inr (13, MF 30 (rf (rs v Q o) j br))), (qx, .inl (cB, NN, .inl f)), (Q.qq, .inl (cI, (8 * Q.C), .inl Q.qf)), (Q.qe, .inl (cL, (3 * Q.C), .inr (.inl Q.ef)))] H := hP
        have hD : va_D A [(mo, .inr (13, MF 30 (rf (rs v Q o) j br))), (qx, .inl (cB, NN, .inl f)), (Q.qq, .inl (cI, (8 * Q.C), .inl Q.qf)), (Q.qe, .inl (cL, (3 * Q.C), .inr (.inl Q.ef)))] := hD
        have h_d4 := dg_01 hw
        refine lv_if_eq (tgt := 144) hx hb d_Mo_whole_101 (by decide) (fun c101 => ?_) (fun c101 => ?_)
        · have hnd : ¬ digH (hereV f n j) := by rw [← h_r4]; exact h_d4.2 c101
          have hdN : dgN f n i = (a, j) := by
            unfold dgN
            rw [if_neg (fun h => c78 (h_r3.trans h)), ← hI4, hk0]
            simp only [dgM]
            rw [if_neg hnd]
          have hjn : j ≤ n := hI2
          refine lv_lload hx hb d_Mo_whole_144 (lv_at hl 5 rfl) ?_
          refine lv_ldc2 (v := 9007199254740991) hx hb hown (hts _ w_1343) d_Mo_whole_146 ?_
          refine W.lcmp hx hb d_Mo_whole_149 ?_
          refine lv_if_le (tgt := 159) hx hb d_Mo_whole_150 (by decide) (fun c150 => ?_) (fun c150 => ?_)
          · refine lv_aload_n hx hb d_Mo_whole_159 rfl (lv_at hl 0 rfl) ?_
            refine va_get (D := (dC, dI)) (ci := 13) (v := .ref Q.qe) (C := R_Mo) (T := F_Mo) (N := 30) hx hb hts in_Mo hown hK hP 0 rfl rfl 20 (by decide) (hts _ w_1109) (fun _ h9 => h9) (MFg (by decide) ((rf_ne (by decide) (by decide)).trans rs_20)) d_Mo_whole_160 ?_
            refine lv_iconst (v := 3) hx hb d_Mo_whole_163 (by decide) ?_
            refine lv_iload_n hx hb d_Mo_whole_164 rfl (lv_at hl 1 rfl) ?_
            refine lv_imul hx hb d_Mo_whole_165 ?_
            refine W.eq (g2 := F0 m 166 ls [.int (nI (3 * s9)), .ref Q.qe]) (by rw [show (3 * (nI s9)) = (nI (3 * s9)) from (by rw [show (3 : Int32) = nI 3 from rfl, pk_mul])]) ?_
            refine lv_iload_n hx hb d_Mo_whole_166 rfl (lv_at hl 2 rfl) ?_
            refine lv_iadd hx hb d_Mo_whole_167 ?_
            refine W.eq (g2 := F0 m 168 ls [.int (nI (3 * s9 + wh)), .ref Q.qe]) (by rw [show ((nI (3 * s9)) + (nI wh)) = (nI (3 * s9 + wh)) from nI_add _ _]) ?_
            refine lv_iload hx hb d_Mo_whole_168 (lv_at hl 4 rfl) ?_
            refine lv_if_eq (tgt := 179) hx hb d_Mo_whole_170 (by decide) (fun _ => ?_) (fun h => absurd (by decide) h)
            refine lv_lload hx hb d_Mo_whole_179 (lv_at hl 5 rfl) ?_
            refine va_last hx hb hK hP hD hS 3 2 rfl rfl (vp_in_nI (show 3 * s9 + wh < 3 * Q.C by omega) (by omega)) d_Mo_whole_181 (fun H locs hP hD hS => ?_)
            rw [show (nI (3 * s9 + wh)).toNatClampNeg = 3 * s9 + wh from nI_clamp (by omega)] at hP hD
            have hP : va_P (dC, dI) classes [(mo, .inr (13, MF 30 (rf (rs v Q o) j br))), (qx, .inl (cB, NN, .inl f)), (Q.qq, .inl (cI, (8 * Q.C), .inl Q.qf)), (Q.qe, .inl (cL, (3 * Q.C), .inr (.inl (vp_updL Q.ef (3 * s9 + wh) a))))] H := hP
            have hD : va_D A [(mo, .inr (13, MF 30 (rf (rs v Q o) j br))), (qx, .inl (cB, NN, .inl f)), (Q.qq, .inl (cI, (8 * Q.C), .inl Q.qf)), (Q.qe, .inl (cL, (3 * Q.C), .inr (.inl (vp_updL Q.ef (3 * s9 + wh) a))))] := hD
            refine lv_aload_n hx hb d_Mo_whole_182 rfl (lv_at hl 0 rfl) ?_
            refine lv_iload_n hx hb d_Mo_whole_183 rfl (lv_at hl 1 rfl) ?_
            refine lv_iconst (v := 2) hx hb d_Mo_whole_184 (by decide) ?_
            refine lv_aload_n hx hb d_Mo_whole_185 rfl (lv_at hl 0 rfl) ?_
            refine lv_iload_n hx hb d_Mo_whole_186 rfl (lv_at hl 1 rfl) ?_
            refine lv_iconst (v := 2) hx hb d_Mo_whole_187 (by decide) ?_
            refine W.eq (g2 := F0 m 188 ls [.int (nI 2), .int (nI s9), .ref mo, .int 2, .int (nI s9), .ref mo]) rfl ?_
            have hPc := hP.sub (ws' := [(mo, .inr (13, MF 30 (rf (rs v Q o) j br))), (Q.qq, .inl (cI, (8 * Q.C), .inl Q.qf))]) [0, 2] rfl
            have hDc := hD.sub (ws' := [(mo, .inr (13, MF 30 (rf (rs v Q o) j br))), (Q.qq, .inl (cI, (8 * Q.C), .inl Q.qf))]) [0, 2] (by decide) rfl
            have hKc := hK.sub (tys' := [(cI, .int)]) [1] rfl
            have hFc := va_free (wc := [(mo, .inr (13, MF 30 (rf (rs v Q o) j br))), (Q.qq, .inl (cI, (8 * Q.C), .inl Q.qf))]) hD hS hA [0, 2] rfl
            refine va_calli (va_runV (As := [.int (nI s9), .int (nI 2)]) (rest := [.int 2, .int (nI s9), .ref mo]) ⟨hx, hb, hml, hown, hts⟩ (c_Mo_field l dC dI mo H (rf (rs v Q o) j br) cI Q.qq (8 * Q.C) Q.qf s9 2 (by omega) (by omega) ((rf_ne (by decide) (by decide)).trans rs_19)) (cwV 2 hts (gt_V (own := R_Mo) (C := R_Mo) (i := 286) (y := y_Mo_field) i_Mo_field w_1431 w_1433 (gt_sel (y := y_Mo_field) (n := 30) (by decide +kernel)) w_7) rfl rfl rfl (by decide +kernel) ⟨Nat.le_of_ble_eq_true rfl, Nat.le_of_ble_eq_true rfl⟩) ⟨mp_blind, va_recv hKc hPc (ci := 13) (q0 := 0) rfl rfl, fun U hU hW => ⟨rfl, hU, by rw [hU]; exact hPc, va_K.moved hW.alike hKc, hDc.weaken (fun _ _ _ _ => trivial)⟩⟩ rfl rfl hl.1 rfl (lv_room (Nat.le_of_ble_eq_true rfl)) d_Mo_whole_188 ⟨Nat.le_of_ble_eq_true rfl, Nat.le_of_ble_eq_true rfl⟩) hS (fun q _ h => hFc q h) hFc (fun r7 _u t9 H1 locs ht hvm hw hB hz1 hk1 hS => ?_)
            obtain ⟨hP1, hK1, hD1⟩ := hB
            rw [ht] at hP1
            obtain ⟨hP, hD⟩ := va_join (wr := [(qx, .inl (cB, NN, .inl f)), (Q.qe, .inl (cL, (3 * Q.C), .inr (.inl (vp_updL Q.ef (3 * s9 + wh) a))))]) (w1 := [(mo, .inr (13, MF 30 (rf (rs v Q o) j br))), (Q.qq, .inl (cI, (8 * Q.C), .inl Q.qf))]) hP hD [0, 2] [1, 3] rfl rfl (by decide) (by decide) hk1 hFc hP1 hD1
            generalize H1 = H at hP hS ⊢
            have hP : va_P (dC, dI) classes [(qx, .inl (cB, NN, .inl f)), (Q.qe, .inl (cL, (3 * Q.C), .inr (.inl (vp_updL Q.ef (3 * s9 + wh) a)))), (mo, .inr (13, MF 30 (rf (rs v Q o) j br))), (Q.qq, .inl (cI, (8 * Q.C), .inl Q.qf))] H := hP
            have hD : va_D A [(qx, .inl (cB, NN, .inl f)), (Q.qe, .inl (cL, (3 * Q.C), .inr (.inl (vp_updL Q.ef (3 * s9 + wh) a)))), (mo, .inr (13, MF 30 (rf (rs v Q o) j br))), (Q.qq, .inl (cI, (8 * Q.C), .inl Q.qf))] := hD
            have hP := hP.sub (ws' := [(mo, .inr (13, MF 30 (rf (rs v Q o) j br))), (qx, .inl (cB, NN, .inl f)), (Q.qq, .inl (cI, (8 * Q.C), .inl Q.qf)), (Q.qe, .inl (cL, (3 * Q.C), .inr (.inl (vp_updL Q.ef (3 * s9 + wh) a))))]) [2, 0, 3, 1] rfl
            have hD := hD.sub (ws' := [(mo, .inr (13, MF 30 (rf (rs v Q o) j br))), (qx, .inl (cB, NN, .inl f)), (Q.qq, .inl (cI, (8 * Q.C), .inl Q.qf)), (Q.qe, .inl (cL, (3 * Q.C), .inr (.inl (vp_updL Q.ef (3 * s9 + wh) a))))]) [2, 0, 3, 1] (by decide) rfl
            have h_r7 : r7 = Q.qf (8 * s9 + 2) := hw
            refine lv_iconst (v := 1) hx hb d_Mo_whole_191 (by decide) ?_
            refine lv_iload_n hx hb d_Mo_whole_192 rfl (lv_at hl 2 rfl) ?_
            refine lv_ishl hx hb d_Mo_whole_193 ?_
            refine lv_ior hx hb d_Mo_whole_194 ?_
            refine W.eq (g2 := F0 m 195 ls [.int (r7 ||| (1 <<< ((nI wh) &&& 31))), .int (nI 2), .int (nI s9), .ref mo]) rfl ?_
            rw [h_r7]
            have hPc := hP.sub (ws' := [(mo, .inr (13, MF 30 (rf (rs v Q o) j br))), (Q.qq, .inl (cI, (8 * Q.C), .inl Q.qf))]) [0, 2] rfl
            have hDc := hD.sub (ws' := [(mo, .inr (13, MF 30 (rf (rs v Q o) j br))), (Q.qq, .inl (cI, (8 * Q.C), .inl Q.qf))]) [0, 2] (by decide) rfl
            have hKc := hK.sub (tys' := [(cI, .int)]) [1] rfl
            have hFc := va_free (wc := [(mo, .inr (13, MF 30 (rf (rs v Q o) j br))), (Q.qq, .inl (cI, (8 * Q.C), .inl Q.qf))]) hD hS hA [0, 2] rfl
            refine va_callv (va_runV (As := [.int (nI s9), .int (nI 2), .int (Q.qf (8 * s9 + 2) ||| (1 <<< ((nI wh) &&& 31)))]) (rest := []) ⟨hx, hb, hml, hown, hts⟩ (c_Mo_set l dC dI mo H (rf (rs v Q o) j br) cI Q.qq (8 * Q.C) Q.qf s9 2 ((Q.qf (8 * s9 + 2) ||| (1 <<< ((nI wh) &&& 31)))) (by omega) (by omega) ((rf_ne (by decide) (by decide)).trans rs_19)) (cwV 3 hts (gt_V (own := R_Mo) (C := R_Mo) (i := 272) (y := y_Mo_set) i_Mo_set w_1411 w_1413 (gt_sel (y := y_Mo_set) (n := 30) (by decide +kernel)) w_7) rfl rfl rfl (by decide +kernel) ⟨Nat.le_of_ble_eq_true rfl, Nat.le_of_ble_eq_true rfl⟩) ⟨mp_blind, va_recv hKc hPc (ci := 13) (q0 := 0) rfl rfl, fun U hU hW => ⟨rfl, hU, by rw [hU]; exact hPc, va_K.moved hW.alike hKc, hDc.weaken (fun _ _ _ _ => trivial)⟩⟩ rfl rfl hl.1 rfl (lv_room (Nat.le_of_ble_eq_true rfl)) d_Mo_whole_195 ⟨Nat.le_of_ble_eq_true rfl, Nat.le_of_ble_eq_true rfl⟩) hS (fun q _ h => hFc q h) hFc (fun _u t9 H1 locs ht hvm hw hB hz1 hk1 hS => ?_)
            obtain ⟨hP1, hK1, hD1⟩ := hB
            rw [ht] at hP1
            obtain ⟨hP, hD⟩ := va_join (wr := [(qx, .inl (cB, NN, .inl f)), (Q.qe, .inl (cL, (3 * Q.C), .inr (.inl (vp_updL Q.ef (3 * s9 + wh) a))))]) (w1 := [(mo, .inr (13, MF 30 (rf (rs v Q o) j br))), (Q.qq, .inl (cI, (8 * Q.C), .inl (upd Q.qf (8 * s9 + 2) ((Q.qf (8 * s9 + 2) ||| (1 <<< ((nI wh) &&& 31)))))))]) hP hD [0, 2] [1, 3] rfl rfl (by decide) (by decide) hk1 hFc hP1 hD1
            generalize H1 = H at hP hS ⊢
            have hP : va_P (dC, dI) classes [(qx, .inl (cB, NN, .inl f)), (Q.qe, .inl (cL, (3 * Q.C), .inr (.inl (vp_updL Q.ef (3 * s9 + wh) a)))), (mo, .inr (13, MF 30 (rf (rs v Q o) j br))), (Q.qq, .inl (cI, (8 * Q.C), .inl (upd Q.qf (8 * s9 + 2) ((Q.qf (8 * s9 + 2) ||| (1 <<< ((nI wh) &&& 31)))))))] H := hP
            have hD : va_D A [(qx, .inl (cB, NN, .inl f)), (Q.qe, .inl (cL, (3 * Q.C), .inr (.inl (vp_updL Q.ef (3 * s9 + wh) a)))), (mo, .inr (13, MF 30 (rf (rs v Q o) j br))), (Q.qq, .inl (cI, (8 * Q.C), .inl (upd Q.qf (8 * s9 + 2) ((Q.qf (8 * s9 + 2) ||| (1 <<< ((nI wh) &&& 31)))))))] := hD
            have hP := hP.sub (ws' := [(mo, .inr (13, MF 30 (rf (rs v Q o) j br))), (qx, .inl (cB, NN, .inl f)), (Q.qq, .inl (cI, (8 * Q.C), .inl (upd Q.qf (8 * s9 + 2) ((Q.qf (8 * s9 + 2) ||| (1 <<< ((nI wh) &&& 31))))))), (Q.qe, .inl (cL, (3 * Q.C), .inr (.inl (vp_updL Q.ef (3 * s9 + wh) a))))]) [2, 0, 3, 1] rfl
            have hD := hD.sub (ws' := [(mo, .inr (13, MF 30 (rf (rs v Q o) j br))), (qx, .inl (cB, NN, .inl f)), (Q.qq, .inl (cI, (8 * Q.C), .inl (upd Q.qf (8 * s9 + 2) ((Q.qf (8 * s9 + 2) ||| (1 <<< ((nI wh) &&& 31))))))), (Q.qe, .inl (cL, (3 * Q.C), .inr (.inl (vp_updL Q.ef (3 * s9 + wh) a))))]) [2, 0, 3, 1] (by decide) rfl
            refine lv_iconst (v := 1) hx hb d_Mo_whole_198 (by decide) ?_
            have hfin : whM f n i = some (a, j) := by unfold whM; rw [if_neg (fun h => c11 (h_r1.trans h))]; unfold whB; rw [if_neg hgo, hdN, if_neg (Int32.not_lt.mpr c150)]; rfl
            exact W.zret (v := 1) hx hb hr rfl (fun t9 ht hW => ⟨⟨1, (j, br, upd Q.qf (8 * s9 + 2) ((Q.qf (8 * s9 + 2) ||| (1 <<< ((nI wh) &&& 31)))), vp_updL Q.ef (3 * s9 + wh) a), rfl, Or.inl ⟨rfl, a, hfin, rfl, rfl, hjn⟩, by rw [ht]; exact hP, va_K.moved hW.alike hK, hD⟩, hS.F ht⟩) hS.2.2 d_Mo_whole_199
          · refine lv_aload_n hx hb d_Mo_whole_153 rfl (lv_at hl 0 rfl) ?_
            refine lv_iload_n hx hb d_Mo_whole_154 rfl (lv_at hl 3 rfl) ?_
            have hPc := hP.sub (ws' := [(mo, .inr (13, MF 30 (rf (rs v Q o) j br)))]) [0] rfl
            have hDc := hD.sub (ws' := [(mo, .inr (13, MF 30 (rf (rs v Q o) j br)))]) [0] (by decide) rfl
            have hKc := hK.sub (tys' := []) [] rfl
            have hFc := va_free (wc := [(mo, .inr (13, MF 30 (rf (rs v Q o) j br)))]) hD hS hA [0] rfl
            refine va_calli (va_runV (As := [.int (nI i)]) (rest := []) ⟨hx, hb, hml, hown, hts⟩ (c_Mo_fail l dC dI mo H (rf (rs v Q o) j br) br ((nI i)) rf_9) (cwV 1 hts (gt_V (own := R_Mo) (C := R_Mo) (i := 151) (y := y_Mo_fail) i_Mo_fail w_1250 w_1252 (gt_sel (y := y_Mo_fail) (n := 30) (by decide +kernel)) w_7) rfl rfl rfl (by decide +kernel) ⟨Nat.le_of_ble_eq_true rfl, Nat.le_of_ble_eq_true rfl⟩) ⟨mp_blind, va_recv hKc hPc (ci := 13) (q0 := 0) rfl rfl, fun U hU hW => ⟨rfl, hU, by rw [hU]; exact hPc, va_K.moved hW.alike hKc, hDc.weaken (fun _ _ _ _ => trivial)⟩⟩ rfl rfl hl.1 rfl (lv_room (Nat.le_of_ble_eq_true rfl)) d_Mo_whole_155 ⟨Nat.le_of_ble_eq_true rfl, Nat.le_of_ble_eq_true rfl⟩) hS (fun q _ h => hFc q h) hFc (fun r0 u2 t9 H1 locs ht hvm hw hB hz1 hk1 hS => ?_)
            obtain ⟨hP1, hK1, hD1⟩ := hB
            rw [ht] at hP1
            obtain ⟨hP, hD⟩ := va_join (wr := [(qx, .inl (cB, NN, .inl f)), (Q.qq, .inl (cI, (8 * Q.C), .inl Q.qf)), (Q.qe, .inl (cL, (3 * Q.C), .inr (.inl Q.ef)))]) (w1 := [(mo, .inr (13, MF 30 u2))]) hP hD [0] [1, 2, 3] rfl rfl (by decide) (by decide) hk1 hFc hP1 hD1
            generalize H1 = H at hP hS ⊢
            have hP : va_P (dC, dI) classes [(qx, .inl (cB, NN, .inl f)), (Q.qq, .inl (cI, (8 * Q.C), .inl Q.qf)), (Q.qe, .inl (cL, (3 * Q.C), .inr (.inl Q.ef))), (mo, .inr (13, MF 30 u2))] H := hP
            have hD : va_D A [(qx, .inl (cB, NN, .inl f)), (Q.qq, .inl (cI, (8 * Q.C), .inl Q.qf)), (Q.qe, .inl (cL, (3 * Q.C), .inr (.inl Q.ef))), (mo, .inr (13, MF 30 u2))] := hD
            have hP := hP.sub (ws' := [(mo, .inr (13, MF 30 u2)), (qx, .inl (cB, NN, .inl f)), (Q.qq, .inl (cI, (8 * Q.C), .inl Q.qf)), (Q.qe, .inl (cL, (3 * Q.C), .inr (.inl Q.ef)))]) [3, 0, 1, 2] rfl
            have hD := hD.sub (ws' := [(mo, .inr (13, MF 30 u2)), (qx, .inl (cB, NN, .inl f)), (Q.qq, .inl (cI, (8 * Q.C), .inl Q.qf)), (Q.qe, .inl (cL, (3 * Q.C), .inr (.inl Q.ef)))]) [3, 0, 1, 2] (by decide) rfl
            obtain ⟨b7, h_b7⟩ := rf_fail (v := (rs v Q o)) (i := j) (br := br) (b2 := br) (wh := (nI i))
            have hw : r0 = 0 ∧ u2 = _ := hw
            obtain ⟨hw1, hw2⟩ := hw
            rw [h_b7] at hw2
            rw [hw2] at hP hD
            subst hw1
            have hP : va_P (dC, dI) classes [(mo, .inr (13, MF 30 (rf (rs v Q o) j b7))), (qx, .inl (cB, NN, .inl f)), (Q.qq, .inl (cI, (8 * Q.C), .inl Q.qf)), (Q.qe, .inl (cL, (3 * Q.C), .inr (.inl Q.ef)))] H := hP
            have hD : va_D A [(mo, .inr (13, MF 30 (rf (rs v Q o) j b7))), (qx, .inl (cB, NN, .inl f)), (Q.qq, .inl (cI, (8 * Q.C), .inl Q.qf)), (Q.qe, .inl (cL, (3 * Q.C), .inr (.inl Q.ef)))] := hD
            have hfin : whM f n i = none := by unfold whM; rw [if_neg (fun h => c11 (h_r1.trans h))]; unfold whB; rw [if_neg hgo, hdN, if_pos (Int32.not_le.mp c150)]
            exact W.zret (v := 0) hx hb hr rfl (fun t9 ht hW => ⟨⟨0, (j, b7, Q.qf, Q.ef), rfl, Or.inr ⟨rfl, hfin, rfl, rfl⟩, by rw [ht]; exact hP, va_K.moved hW.alike hK, hD⟩, hS.F ht⟩) hS.2.2 d_Mo_whole_158
        · refine lv_lload hx hb d_Mo_whole_104 (lv_at hl 5 rfl) ?_
          refine lv_ldc2 (v := 9007199254740991) hx hb hown (hts _ w_1343) d_Mo_whole_106 ?_
          refine W.lcmp hx hb d_Mo_whole_109 ?_
          refine lv_if_gt (tgt := 131) hx hb d_Mo_whole_110 (by decide) (fun c110 => ?_) (fun c110 => ?_)
          · refine lv_aload_n hx hb d_Mo_whole_131 rfl (lv_at hl 0 rfl) ?_
            refine lv_dup hx hb d_Mo_whole_132 rfl ?_
            refine va_get (D := (dC, dI)) (ci := 13) (v := .int (nI j)) (C := R_Mo) (T := F_Mo) (N := 30) hx hb hts in_Mo hown hK hP 0 rfl rfl 7 (by decide) (hts _ w_1096) (fun _ h9 => h9) (MFg (by decide) rf_7) d_Mo_whole_133 ?_
            refine lv_iconst (v := 1) hx hb d_Mo_whole_136 (by decide) ?_
            refine lv_iadd hx hb d_Mo_whole_137 ?_
            refine W.eq (g2 := F0 m 138 ls [.int (nI (j + 1)), .ref mo]) (by rw [show ((nI j) + 1) = (nI (j + 1)) from nI_1 _]) ?_
            refine va_put (D := (dC, dI)) (ci := 13) (v := .int (nI (j + 1))) (ty := .int) (C := R_Mo) (T := F_Mo) (N := 30) hx hb hts in_Mo t_Mo t_Mo_ok n_Mo hown hK hP hD hS 0 rfl rfl 7 (by decide) (hts _ w_1096) (fun _ h9 => h9) rfl (by decide +kernel) rfl rfl (by rw [MFl]; decide) d_Mo_whole_138 (fun H locs hP hD hS => ?_)
            rw [MFs (n := 30) (k := 7) (by decide)] at hP hD
            have hP : va_P (dC, dI) classes [(mo, .inr (13, MF 30 (va_up (rf (rs v Q o) j br) 7 (.int (nI (j + 1)))))), (qx, .inl (cB, NN, .inl f)), (Q.qq, .inl (cI, (8 * Q.C), .inl Q.qf)), (Q.qe, .inl (cL, (3 * Q.C), .inr (.inl Q.ef)))] H := hP
            have hD : va_D A [(mo, .inr (13, MF 30 (va_up (rf (rs v Q o) j br) 7 (.int (nI (j + 1)))))), (qx, .inl (cB, NN, .inl f)), (Q.qq, .inl (cI, (8 * Q.C), .inl Q.qf)), (Q.qe, .inl (cL, (3 * Q.C), .inr (.inl Q.ef)))] := hD
            rw [rf_u7] at hP hD
            have hP : va_P (dC, dI) classes [(mo, .inr (13, MF 30 (rf (rs v Q o) (j + 1) br))), (qx, .inl (cB, NN, .inl f)), (Q.qq, .inl (cI, (8 * Q.C), .inl Q.qf)), (Q.qe, .inl (cL, (3 * Q.C), .inr (.inl Q.ef)))] H := hP
            have hD : va_D A [(mo, .inr (13, MF 30 (rf (rs v Q o) (j + 1) br))), (qx, .inl (cB, NN, .inl f)), (Q.qq, .inl (cI, (8 * Q.C), .inl Q.qf)), (Q.qe, .inl (cL, (3 * Q.C), .inr (.inl Q.ef)))] := hD
            refine lv_goto (tgt := 94) hx hb d_Mo_whole_141 (by decide) ?_
            have hdj : digH (hereV f n j) := by rw [← h_r4]; exact h_d4.1 c101
            have hltj := digH_lt hdj
            have hst : dgM f n k0 (j + 1) (a) = dgM f n (n + 1) i 0 := by
              rw [← hI4, hk0]
              simp only [dgM]
              rw [if_pos hdj, if_pos c110]
            exact ih (k0, j + 1, a) _ _ _ ⟨by omega, by omega, by omega, hst⟩ (by show n + 1 - (j + 1) < n + 1 - j; omega) hP hD hS (lv_sub hl [0, 1, 2, 3, 4, 5] rfl)
          · refine lv_ldc2 (v := 10) hx hb hown (hts _ w_1344) d_Mo_whole_113 ?_
            refine lv_lload hx hb d_Mo_whole_116 (lv_at hl 5 rfl) ?_
            refine lv_lmul hx hb d_Mo_whole_118 ?_
            refine lv_aload_n hx hb d_Mo_whole_119 rfl (lv_at hl 0 rfl) ?_
            have hPc := hP.sub (ws' := [(mo, .inr (13, MF 30 (rf (rs v Q o) j br))), (qx, .inl (cB, NN, .inl f))]) [0, 1] rfl
            have hDc := hD.sub (ws' := [(mo, .inr (13, MF 30 (rf (rs v Q o) j br))), (qx, .inl (cB, NN, .inl f))]) [0, 1] (by decide) rfl
            have hKc := hK.sub (tys' := [(cB, .byte)]) [0] rfl
            have hFc := va_free (wc := [(mo, .inr (13, MF 30 (rf (rs v Q o) j br))), (qx, .inl (cB, NN, .inl f))]) hD hS hA [0, 1] rfl
            refine va_calli (va_runV (As := []) (rest := [.long (10 * a)]) ⟨hx, hb, hml, hown, hts⟩ (c_Mo_c l dC dI mo H (rf (rs v Q o) j br) cB qx NN f n j (by omega) (by omega) (by omega) ((rf_ne (by decide) (by decide)).trans ((rs_ne (by decide) (by decide) (by decide) (by decide)).trans h6)) rf_7 ((rf_ne (by decide) (by decide)).trans ((rs_ne (by decide) (by decide) (by decide) (by decide)).trans h8))) (cwV 0 hts (gt_V (own := R_Mo) (C := R_Mo) (i := 147) (y := y_Mo_c) i_Mo_c w_1233 w_1235 (gt_sel (y := y_Mo_c) (n := 30) (by decide +kernel)) w_7) rfl rfl rfl (by decide +kernel) ⟨Nat.le_of_ble_eq_true rfl, Nat.le_of_ble_eq_true rfl⟩) ⟨mp_blind, va_recv hKc hPc (ci := 13) (q0 := 0) rfl rfl, fun U hU hW => ⟨rfl, hU, by rw [hU]; exact hPc, va_K.moved hW.alike hKc, hDc.weaken (fun _ _ _ _ => trivial)⟩⟩ rfl rfl hl.1 rfl (lv_room (Nat.le_of_ble_eq_true rfl)) d_Mo_whole_120 ⟨Nat.le_of_ble_eq_true rfl, Nat.le_of_ble_eq_true rfl⟩) hS (fun q _ h => hFc q h) hFc (fun r5 _u t9 H1 locs ht hvm hw hB hz1 hk1 hS => ?_)
            obtain ⟨hP1, hK1, hD1⟩ := hB
            rw [ht] at hP1
            obtain ⟨hP, hD⟩ := va_join (wr := [(Q.qq, .inl (cI, (8 * Q.C), .inl Q.qf)), (Q.qe, .inl (cL, (3 * Q.C), .inr (.inl Q.ef)))]) (w1 := [(mo, .inr (13, MF 30 (rf (rs v Q o) j br))), (qx, .inl (cB, NN, .inl f))]) hP hD [0, 1] [2, 3] rfl rfl (by decide) (by decide) hk1 hFc hP1 hD1
            generalize H1 = H at hP hS ⊢
            have hP : va_P (dC, dI) classes [(Q.qq, .inl (cI, (8 * Q.C), .inl Q.qf)), (Q.qe, .inl (cL, (3 * Q.C), .inr (.inl Q.ef))), (mo, .inr (13, MF 30 (rf (rs v Q o) j br))), (qx, .inl (cB, NN, .inl f))] H := hP
            have hD : va_D A [(Q.qq, .inl (cI, (8 * Q.C), .inl Q.qf)), (Q.qe, .inl (cL, (3 * Q.C), .inr (.inl Q.ef))), (mo, .inr (13, MF 30 (rf (rs v Q o) j br))), (qx, .inl (cB, NN, .inl f))] := hD
            have hP := hP.sub (ws' := [(mo, .inr (13, MF 30 (rf (rs v Q o) j br))), (qx, .inl (cB, NN, .inl f)), (Q.qq, .inl (cI, (8 * Q.C), .inl Q.qf)), (Q.qe, .inl (cL, (3 * Q.C), .inr (.inl Q.ef)))]) [2, 3, 0, 1] rfl
            have hD := hD.sub (ws' := [(mo, .inr (13, MF 30 (rf (rs v Q o) j br))), (qx, .inl (cB, NN, .inl f)), (Q.qq, .inl (cI, (8 * Q.C), .inl Q.qf)), (Q.qe, .inl (cL, (3 * Q.C), .inr (.inl Q.ef)))]) [2, 3, 0, 1] (by decide) rfl
            have h_r5 : r5 = hereV f n j := hw
            refine lv_i2l (v := r5.toInt64) hx hb d_Mo_whole_123 rfl ?_
            refine lv_ladd hx hb d_Mo_whole_124 ?_
            refine lv_ldc2 (v := 48) hx hb hown (hts _ w_1345) d_Mo_whole_125 ?_
            refine lv_lsub hx hb d_Mo_whole_128 ?_
            refine lv_lstore (lv' := [(5, .long (((10 * a) + (r5.toInt64)) - 48)), (0, .ref mo), (1, .int (nI s9)), (2, .int (nI wh)), (3, .int (nI i)), (4, .int 0)]) hx hb d_Mo_whole_129 hl (by decide) rfl (fun ls hl => ?_)
            refine lv_aload_n hx hb d_Mo_whole_131 rfl (lv_at hl 1 rfl) ?_
            refine lv_dup hx hb d_Mo_whole_132 rfl ?_
            refine va_get (D := (dC, dI)) (ci := 13) (v := .int (nI j)) (C := R_Mo) (T := F_Mo) (N := 30) hx hb hts in_Mo hown hK hP 0 rfl rfl 7 (by decide) (hts _ w_1096) (fun _ h9 => h9) (MFg (by decide) rf_7) d_Mo_whole_133 ?_
            refine lv_iconst (v := 1) hx hb d_Mo_whole_136 (by decide) ?_
            refine lv_iadd hx hb d_Mo_whole_137 ?_
            refine W.eq (g2 := F0 m 138 ls [.int (nI (j + 1)), .ref mo]) (by rw [show ((nI j) + 1) = (nI (j + 1)) from nI_1 _]) ?_
            refine va_put (D := (dC, dI)) (ci := 13) (v := .int (nI (j + 1))) (ty := .int) (C := R_Mo) (T := F_Mo) (N := 30) hx hb hts in_Mo t_Mo t_Mo_ok n_Mo hown hK hP hD hS 0 rfl rfl 7 (by decide) (hts _ w_1096) (fun _ h9 => h9) rfl (by decide +kernel) rfl rfl (by rw [MFl]; decide) d_Mo_whole_138 (fun H locs hP hD hS => ?_)
            rw [MFs (n := 30) (k := 7) (by decide)] at hP hD
            have hP : va_P (dC, dI) classes [(mo, .inr (13, MF 30 (va_up (rf (rs v Q o) j br) 7 (.int (nI (j + 1)))))), (qx, .inl (cB, NN, .inl f)), (Q.qq, .inl (cI, (8 * Q.C), .inl Q.qf)), (Q.qe, .inl (cL, (3 * Q.C), .inr (.inl Q.ef)))] H := hP
            have hD : va_D A [(mo, .inr (13, MF 30 (va_up (rf (rs v Q o) j br) 7 (.int (nI (j + 1)))))), (qx, .inl (cB, NN, .inl f)), (Q.qq, .inl (cI, (8 * Q.C), .inl Q.qf)), (Q.qe, .inl (cL, (3 * Q.C), .inr (.inl Q.ef)))] := hD
            rw [rf_u7] at hP hD
            have hP : va_P (dC, dI) classes [(mo, .inr (13, MF 30 (rf (rs v Q o) (j + 1) br))), (qx, .inl (cB, NN, .inl f)), (Q.qq, .inl (cI, (8 * Q.C), .inl Q.qf)), (Q.qe, .inl (cL, (3 * Q.C), .inr (.inl Q.ef)))] H := hP
            have hD : va_D A [(mo, .inr (13, MF 30 (rf (rs v Q o) (j + 1) br))), (qx, .inl (cB, NN, .inl f)), (Q.qq, .inl (cI, (8 * Q.C), .inl Q.qf)), (Q.qe, .inl (cL, (3 * Q.C), .inr (.inl Q.ef)))] := hD
            refine lv_goto (tgt := 94) hx hb d_Mo_whole_141 (by decide) ?_
            have hdj : digH (hereV f n j) := by rw [← h_r4]; exact h_d4.1 c101
            have hltj := digH_lt hdj
            have hst : dgM f n k0 (j + 1) ((((10 * a) + (r5.toInt64)) - 48)) = dgM f n (n + 1) i 0 := by
              rw [← hI4, hk0]
              simp only [dgM]
              rw [if_pos hdj, if_neg c110, h_r5]
            exact ih (k0, j + 1, (((10 * a) + (r5.toInt64)) - 48)) _ _ _ ⟨by omega, by omega, by omega, hst⟩ (by show n + 1 - (j + 1) < n + 1 - j; omega) hP hD hS (lv_sub hl [1, 2, 3, 4, 5, 0] rfl)
      · refine lv_aload_n hx hb d_Mo_whole_81 rfl (lv_at hl 3 rfl) ?_
        refine lv_dup hx hb d_Mo_whole_82 rfl ?_
        refine va_get (D := (dC, dI)) (ci := 13) (v := .int (nI i)) (C := R_Mo) (T := F_Mo) (N := 30) hx hb hts in_Mo hown hK hP 0 rfl rfl 7 (by decide) (hts _ w_1096) (fun _ h9 => h9) (MFg (by decide) rf_7) d_Mo_whole_83 ?_
        refine lv_iconst (v := 1) hx hb d_Mo_whole_86 (by decide) ?_
        refine lv_iadd hx hb d_Mo_whole_87 ?_
        refine W.eq (g2 := F0 m 88 ls [.int (nI (i + 1)), .ref mo]) (by rw [show ((nI i) + 1) = (nI (i + 1)) from nI_1 _]) ?_
        refine va_put (D := (dC, dI)) (ci := 13) (v := .int (nI (i + 1))) (ty := .int) (C := R_Mo) (T := F_Mo) (N := 30) hx hb hts in_Mo t_Mo t_Mo_ok n_Mo hown hK hP hD hS 0 rfl rfl 7 (by decide) (hts _ w_1096) (fun _ h9 => h9) rfl (by decide +kernel) rfl rfl (by rw [MFl]; decide) d_Mo_whole_88 (fun H locs hP hD hS => ?_)
        rw [MFs (n := 30) (k := 7) (by decide)] at hP hD
        have hP : va_P (dC, dI) classes [(mo, .inr (13, MF 30 (va_up (rf (rs v Q o) i br) 7 (.int (nI (i + 1)))))), (qx, .inl (cB, NN, .inl f)), (Q.qq, .inl (cI, (8 * Q.C), .inl Q.qf)), (Q.qe, .inl (cL, (3 * Q.C), .inr (.inl Q.ef)))] H := hP
        have hD : va_D A [(mo, .inr (13, MF 30 (va_up (rf (rs v Q o) i br) 7 (.int (nI (i + 1)))))), (qx, .inl (cB, NN, .inl f)), (Q.qq, .inl (cI, (8 * Q.C), .inl Q.qf)), (Q.qe, .inl (cL, (3 * Q.C), .inr (.inl Q.ef)))] := hD
        rw [rf_u7] at hP hD
        have hP : va_P (dC, dI) classes [(mo, .inr (13, MF 30 (rf (rs v Q o) (i + 1) br))), (qx, .inl (cB, NN, .inl f)), (Q.qq, .inl (cI, (8 * Q.C), .inl Q.qf)), (Q.qe, .inl (cL, (3 * Q.C), .inr (.inl Q.ef)))] H := hP
        have hD : va_D A [(mo, .inr (13, MF 30 (rf (rs v Q o) (i + 1) br))), (qx, .inl (cB, NN, .inl f)), (Q.qq, .inl (cI, (8 * Q.C), .inl Q.qf)), (Q.qe, .inl (cL, (3 * Q.C), .inr (.inl Q.ef)))] := hD
        refine lv_goto (tgt := 144) hx hb d_Mo_whole_91 (by decide) ?_
        have hdN : dgN f n i = (0, i + 1) := by unfold dgN; rw [if_pos (h_r3.symm.trans c78)]
        have hjn : i + 1 ≤ n := by omega
        refine lv_lload hx hb d_Mo_whole_144 (lv_at hl 0 rfl) ?_
        refine lv_ldc2 (v := 9007199254740991) hx hb hown (hts _ w_1343) d_Mo_whole_146 ?_
        refine W.lcmp hx hb d_Mo_whole_149 ?_
        refine lv_if_le (tgt := 159) hx hb d_Mo_whole_150 (by decide) (fun c150 => ?_) (fun c150 => ?_)
        · refine lv_aload_n hx hb d_Mo_whole_159 rfl (lv_at hl 3 rfl) ?_
          refine va_get (D := (dC, dI)) (ci := 13) (v := .ref Q.qe) (C := R_Mo) (T := F_Mo) (N := 30) hx hb hts in_Mo hown hK hP 0 rfl rfl 20 (by decide) (hts _ w_1109) (fun _ h9 => h9) (MFg (by decide) ((rf_ne (by decide) (by decide)).trans rs_20)) d_Mo_whole_160 ?_
          refine lv_iconst (v := 3) hx hb d_Mo_whole_163 (by decide) ?_
          refine lv_iload_n hx hb d_Mo_whole_164 rfl (lv_at hl 4 rfl) ?_
          refine lv_imul hx hb d_Mo_whole_165 ?_
          refine W.eq (g2 := F0 m 166 ls [.int (nI (3 * s9)), .ref Q.qe]) (by rw [show (3 * (nI s9)) = (nI (3 * s9)) from (by rw [show (3 : Int32) = nI 3 from rfl, pk_mul])]) ?_
          refine lv_iload_n hx hb d_Mo_whole_166 rfl (lv_at hl 5 rfl) ?_
          refine lv_iadd hx hb d_Mo_whole_167 ?_
          refine W.eq (g2 := F0 m 168 ls [.int (nI (3 * s9 + wh)), .ref Q.qe]) (by rw [show ((nI (3 * s9)) + (nI wh)) = (nI (3 * s9 + wh)) from nI_add _ _]) ?_
          refine lv_iload hx hb d_Mo_whole_168 (lv_at hl 1 rfl) ?_
          refine lv_if_eq (tgt := 179) hx hb d_Mo_whole_170 (by decide) (fun _ => ?_) (fun h => absurd (by decide) h)
          refine lv_lload hx hb d_Mo_whole_179 (lv_at hl 0 rfl) ?_
          refine va_last hx hb hK hP hD hS 3 2 rfl rfl (vp_in_nI (show 3 * s9 + wh < 3 * Q.C by omega) (by omega)) d_Mo_whole_181 (fun H locs hP hD hS => ?_)
          rw [show (nI (3 * s9 + wh)).toNatClampNeg = 3 * s9 + wh from nI_clamp (by omega)] at hP hD
          have hP : va_P (dC, dI) classes [(mo, .inr (13, MF 30 (rf (rs v Q o) (i + 1) br))), (qx, .inl (cB, NN, .inl f)), (Q.qq, .inl (cI, (8 * Q.C), .inl Q.qf)), (Q.qe, .inl (cL, (3 * Q.C), .inr (.inl (vp_updL Q.ef (3 * s9 + wh) 0))))] H := hP
          have hD : va_D A [(mo, .inr (13, MF 30 (rf (rs v Q o) (i + 1) br))), (qx, .inl (cB, NN, .inl f)), (Q.qq, .inl (cI, (8 * Q.C), .inl Q.qf)), (Q.qe, .inl (cL, (3 * Q.C), .inr (.inl (vp_updL Q.ef (3 * s9 + wh) 0))))] := hD
          refine lv_aload_n hx hb d_Mo_whole_182 rfl (lv_at hl 3 rfl) ?_
          refine lv_iload_n hx hb d_Mo_whole_183 rfl (lv_at hl 4 rfl) ?_
          refine lv_iconst (v := 2) hx hb d_Mo_whole_184 (by decide) ?_
          refine lv_aload_n hx hb d_Mo_whole_185 rfl (lv_at hl 3 rfl) ?_
          refine lv_iload_n hx hb d_Mo_whole_186 rfl (lv_at hl 4 rfl) ?_
          refine lv_iconst (v := 2) hx hb d_Mo_whole_187 (by decide) ?_
          refine W.eq (g2 := F0 m 188 ls [.int (nI 2), .int (nI s9), .ref mo, .int 2, .int (nI s9), .ref mo]) rfl ?_
          have hPc := hP.sub (ws' := [(mo, .inr (13, MF 30 (rf (rs v Q o) (i + 1) br))), (Q.qq, .inl (cI, (8 * Q.C), .inl Q.qf))]) [0, 2] rfl
          have hDc := hD.sub (ws' := [(mo, .inr (13, MF 30 (rf (rs v Q o) (i + 1) br))), (Q.qq, .inl (cI, (8 * Q.C), .inl Q.qf))]) [0, 2] (by decide) rfl
          have hKc := hK.sub (tys' := [(cI, .int)]) [1] rfl
          have hFc := va_free (wc := [(mo, .inr (13, MF 30 (rf (rs v Q o) (i + 1) br))), (Q.qq, .inl (cI, (8 * Q.C), .inl Q.qf))]) hD hS hA [0, 2] rfl
          refine va_calli (va_runV (As := [.int (nI s9), .int (nI 2)]) (rest := [.int 2, .int (nI s9), .ref mo]) ⟨hx, hb, hml, hown, hts⟩ (c_Mo_field l dC dI mo H (rf (rs v Q o) (i + 1) br) cI Q.qq (8 * Q.C) Q.qf s9 2 (by omega) (by omega) ((rf_ne (by decide) (by decide)).trans rs_19)) (cwV 2 hts (gt_V (own := R_Mo) (C := R_Mo) (i := 286) (y := y_Mo_field) i_Mo_field w_1431 w_1433 (gt_sel (y := y_Mo_field) (n := 30) (by decide +kernel)) w_7) rfl rfl rfl (by decide +kernel) ⟨Nat.le_of_ble_eq_true rfl, Nat.le_of_ble_eq_true rfl⟩) ⟨mp_blind, va_recv hKc hPc (ci := 13) (q0 := 0) rfl rfl, fun U hU hW => ⟨rfl, hU, by rw [hU]; exact hPc, va_K.moved hW.alike hKc, hDc.weaken (fun _ _ _ _ => trivial)⟩⟩ rfl rfl hl.1 rfl (lv_room (Nat.le_of_ble_eq_true rfl)) d_Mo_whole_188 ⟨Nat.le_of_ble_eq_true rfl, Nat.le_of_ble_eq_true rfl⟩) hS (fun q _ h => hFc q h) hFc (fun r7 _u t9 H1 locs ht hvm hw hB hz1 hk1 hS => ?_)
          obtain ⟨hP1, hK1, hD1⟩ := hB
          rw [ht] at hP1
          obtain ⟨hP, hD⟩ := va_join (wr := [(qx, .inl (cB, NN, .inl f)), (Q.qe, .inl (cL, (3 * Q.C), .inr (.inl (vp_updL Q.ef (3 * s9 + wh) 0))))]) (w1 := [(mo, .inr (13, MF 30 (rf (rs v Q o) (i + 1) br))), (Q.qq, .inl (cI, (8 * Q.C), .inl Q.qf))]) hP hD [0, 2] [1, 3] rfl rfl (by decide) (by decide) hk1 hFc hP1 hD1
          generalize H1 = H at hP hS ⊢
          have hP : va_P (dC, dI) classes [(qx, .inl (cB, NN, .inl f)), (Q.qe, .inl (cL, (3 * Q.C), .inr (.inl (vp_updL Q.ef (3 * s9 + wh) 0)))), (mo, .inr (13, MF 30 (rf (rs v Q o) (i + 1) br))), (Q.qq, .inl (cI, (8 * Q.C), .inl Q.qf))] H := hP
          have hD : va_D A [(qx, .inl (cB, NN, .inl f)), (Q.qe, .inl (cL, (3 * Q.C), .inr (.inl (vp_updL Q.ef (3 * s9 + wh) 0)))), (mo, .inr (13, MF 30 (rf (rs v Q o) (i + 1) br))), (Q.qq, .inl (cI, (8 * Q.C), .inl Q.qf))] := hD
          have hP := hP.sub (ws' := [(mo, .inr (13, MF 30 (rf (rs v Q o) (i + 1) br))), (qx, .inl (cB, NN, .inl f)), (Q.qq, .inl (cI, (8 * Q.C), .inl Q.qf)), (Q.qe, .inl (cL, (3 * Q.C), .inr (.inl (vp_updL Q.ef (3 * s9 + wh) 0))))]) [2, 0, 3, 1] rfl
          have hD := hD.sub (ws' := [(mo, .inr (13, MF 30 (rf (rs v Q o) (i + 1) br))), (qx, .inl (cB, NN, .inl f)), (Q.qq, .inl (cI, (8 * Q.C), .inl Q.qf)), (Q.qe, .inl (cL, (3 * Q.C), .inr (.inl (vp_updL Q.ef (3 * s9 + wh) 0))))]) [2, 0, 3, 1] (by decide) rfl
          have h_r7 : r7 = Q.qf (8 * s9 + 2) := hw
          refine lv_iconst (v := 1) hx hb d_Mo_whole_191 (by decide) ?_
          refine lv_iload_n hx hb d_Mo_whole_192 rfl (lv_at hl 5 rfl) ?_
          refine lv_ishl hx hb d_Mo_whole_193 ?_
          refine lv_ior hx hb d_Mo_whole_194 ?_
          refine W.eq (g2 := F0 m 195 ls [.int (r7 ||| (1 <<< ((nI wh) &&& 31))), .int (nI 2), .int (nI s9), .ref mo]) rfl ?_
          rw [h_r7]
          have hPc := hP.sub (ws' := [(mo, .inr (13, MF 30 (rf (rs v Q o) (i + 1) br))), (Q.qq, .inl (cI, (8 * Q.C), .inl Q.qf))]) [0, 2] rfl
          have hDc := hD.sub (ws' := [(mo, .inr (13, MF 30 (rf (rs v Q o) (i + 1) br))), (Q.qq, .inl (cI, (8 * Q.C), .inl Q.qf))]) [0, 2] (by decide) rfl
          have hKc := hK.sub (tys' := [(cI, .int)]) [1] rfl
          have hFc := va_free (wc := [(mo, .inr (13, MF 30 (rf (rs v Q o) (i + 1) br))), (Q.qq, .inl (cI, (8 * Q.C), .inl Q.qf))]) hD hS hA [0, 2] rfl
          refine va_callv (va_runV (As := [.int (nI s9), .int (nI 2), .int (Q.qf (8 * s9 + 2) ||| (1 <<< ((nI wh) &&& 31)))]) (rest := []) ⟨hx, hb, hml, hown, hts⟩ (c_Mo_set l dC dI mo H (rf (rs v Q o) (i + 1) br) cI Q.qq (8 * Q.C) Q.qf s9 2 ((Q.qf (8 * s9 + 2) ||| (1 <<< ((nI wh) &&& 31)))) (by omega) (by omega) ((rf_ne (by decide) (by decide)).trans rs_19)) (cwV 3 hts (gt_V (own := R_Mo) (C := R_Mo) (i := 272) (y := y_Mo_set) i_Mo_set w_1411 w_1413 (gt_sel (y := y_Mo_set) (n := 30) (by decide +kernel)) w_7) rfl rfl rfl (by decide +kernel) ⟨Nat.le_of_ble_eq_true rfl, Nat.le_of_ble_eq_true rfl⟩) ⟨mp_blind, va_recv hKc hPc (ci := 13) (q0 := 0) rfl rfl, fun U hU hW => ⟨rfl, hU, by rw [hU]; exact hPc, va_K.moved hW.alike hKc, hDc.weaken (fun _ _ _ _ => trivial)⟩⟩ rfl rfl hl.1 rfl (lv_room (Nat.le_of_ble_eq_true rfl)) d_Mo_whole_195 ⟨Nat.le_of_ble_eq_true rfl, Nat.le_of_ble_eq_true rfl⟩) hS (fun q _ h => hFc q h) hFc (fun _u t9 H1 locs ht hvm hw hB hz1 hk1 hS => ?_)
          obtain ⟨hP1, hK1, hD1⟩ := hB
          rw [ht] at hP1
          obtain ⟨hP, hD⟩ := va_join (wr := [(qx, .inl (cB, NN, .inl f)), (Q.qe, .inl (cL, (3 * Q.C), .inr (.inl (vp_updL Q.ef (3 * s9 + wh) 0))))]) (w1 := [(mo, .inr (13, MF 30 (rf (rs v Q o) (i + 1) br))), (Q.qq, .inl (cI, (8 * Q.C), .inl (upd Q.qf (8 * s9 + 2) ((Q.qf (8 * s9 + 2) ||| (1 <<< ((nI wh) &&& 31)))))))]) hP hD [0, 2] [1, 3] rfl rfl (by decide) (by decide) hk1 hFc hP1 hD1
          generalize H1 = H at hP hS ⊢
          have hP : va_P (dC, dI) classes [(qx, .inl (cB, NN, .inl f)), (Q.qe, .inl (cL, (3 * Q.C), .inr (.inl (vp_updL Q.ef (3 * s9 + wh) 0)))), (mo, .inr (13, MF 30 (rf (rs v Q o) (i + 1) br))), (Q.qq, .inl (cI, (8 * Q.C), .inl (upd Q.qf (8 * s9 + 2) ((Q.qf (8 * s9 + 2) ||| (1 <<< ((nI wh) &&& 31)))))))] H := hP
          have hD : va_D A [(qx, .inl (cB, NN, .inl f)), (Q.qe, .inl (cL, (3 * Q.C), .inr (.inl (vp_updL Q.ef (3 * s9 + wh) 0)))), (mo, .inr (13, MF 30 (rf (rs v Q o) (i + 1) br))), (Q.qq, .inl (cI, (8 * Q.C), .inl (upd Q.qf (8 * s9 + 2) ((Q.qf (8 * s9 + 2) ||| (1 <<< ((nI wh) &&& 31)))))))] := hD
          have hP := hP.sub (ws' := [(mo, .inr (13, MF 30 (rf (rs v Q o) (i + 1) br))), (qx, .inl (cB, NN, .inl f)), (Q.qq, .inl (cI, (8 * Q.C), .inl (upd Q.qf (8 * s9 + 2) ((Q.qf (8 * s9 + 2) ||| (1 <<< ((nI wh) &&& 31))))))), (Q.qe, .inl (cL, (3 * Q.C), .inr (.inl (vp_updL Q.ef (3 * s9 + wh) 0))))]) [2, 0, 3, 1] rfl
          have hD := hD.sub (ws' := [(mo, .inr (13, MF 30 (rf (rs v Q o) (i + 1) br))), (qx, .inl (cB, NN, .inl f)), (Q.qq, .inl (cI, (8 * Q.C), .inl (upd Q.qf (8 * s9 + 2) ((Q.qf (8 * s9 + 2) ||| (1 <<< ((nI wh) &&& 31))))))), (Q.qe, .inl (cL, (3 * Q.C), .inr (.inl (vp_updL Q.ef (3 * s9 + wh) 0))))]) [2, 0, 3, 1] (by decide) rfl
          refine lv_iconst (v := 1) hx hb d_Mo_whole_198 (by decide) ?_
          have hfin : whM f n i = some (0, (i + 1)) := by unfold whM; rw [if_neg (fun h => c11 (h_r1.trans h))]; unfold whB; rw [if_neg hgo, hdN, if_neg (Int32.not_lt.mpr c150)]; rfl
          exact W.zret (v := 1) hx hb hr rfl (fun t9 ht hW => ⟨⟨1, ((i + 1), br, upd Q.qf (8 * s9 + 2) ((Q.qf (8 * s9 + 2) ||| (1 <<< ((nI wh) &&& 31)))), vp_updL Q.ef (3 * s9 + wh) 0), rfl, Or.inl ⟨rfl, 0, hfin, rfl, rfl, hjn⟩, by rw [ht]; exact hP, va_K.moved hW.alike hK, hD⟩, hS.F ht⟩) hS.2.2 d_Mo_whole_199
        · refine lv_aload_n hx hb d_Mo_whole_153 rfl (lv_at hl 3 rfl) ?_
          refine lv_iload_n hx hb d_Mo_whole_154 rfl (lv_at hl 2 rfl) ?_
          have hPc := hP.sub (ws' := [(mo, .inr (13, MF 30 (rf (rs v Q o) (i + 1) br)))]) [0] rfl
          have hDc := hD.sub (ws' := [(mo, .inr (13, MF 30 (rf (rs v Q o) (i + 1) br)))]) [0] (by decide) rfl
          have hKc := hK.sub (tys' := []) [] rfl
          have hFc := va_free (wc := [(mo, .inr (13, MF 30 (rf (rs v Q o) (i + 1) br)))]) hD hS hA [0] rfl
          refine va_calli (va_runV (As := [.int (nI i)]) (rest := []) ⟨hx, hb, hml, hown, hts⟩ (c_Mo_fail l dC dI mo H (rf (rs v Q o) (i + 1) br) br ((nI i)) rf_9) (cwV 1 hts (gt_V (own := R_Mo) (C := R_Mo) (i := 151) (y := y_Mo_fail) i_Mo_fail w_1250 w_1252 (gt_sel (y := y_Mo_fail) (n := 30) (by decide +kernel)) w_7) rfl rfl rfl (by decide +kernel) ⟨Nat.le_of_ble_eq_true rfl, Nat.le_of_ble_eq_true rfl⟩) ⟨mp_blind, va_recv hKc hPc (ci := 13) (q0 := 0) rfl rfl, fun U hU hW => ⟨rfl, hU, by rw [hU]; exact hPc, va_K.moved hW.alike hKc, hDc.weaken (fun _ _ _ _ => trivial)⟩⟩ rfl rfl hl.1 rfl (lv_room (Nat.le_of_ble_eq_true rfl)) d_Mo_whole_155 ⟨Nat.le_of_ble_eq_true rfl, Nat.le_of_ble_eq_true rfl⟩) hS (fun q _ h => hFc q h) hFc (fun r0 u2 t9 H1 locs ht hvm hw hB hz1 hk1 hS => ?_)
          obtain ⟨hP1, hK1, hD1⟩ := hB
          rw [ht] at hP1
          obtain ⟨hP, hD⟩ := va_join (wr := [(qx, .inl (cB, NN, .inl f)), (Q.qq, .inl (cI, (8 * Q.C), .inl Q.qf)), (Q.qe, .inl (cL, (3 * Q.C), .inr (.inl Q.ef)))]) (w1 := [(mo, .inr (13, MF 30 u2))]) hP hD [0] [1, 2, 3] rfl rfl (by decide) (by decide) hk1 hFc hP1 hD1
          generalize H1 = H at hP hS ⊢
          have hP : va_P (dC, dI) classes [(qx, .inl (cB, NN, .inl f)), (Q.qq, .inl (cI, (8 * Q.C), .inl Q.qf)), (Q.qe, .inl (cL, (3 * Q.C), .inr (.inl Q.ef))), (mo, .inr (13, MF 30 u2))] H := hP
          have hD : va_D A [(qx, .inl (cB, NN, .inl f)), (Q.qq, .inl (cI, (8 * Q.C), .inl Q.qf)), (Q.qe, .inl (cL, (3 * Q.C), .inr (.inl Q.ef))), (mo, .inr (13, MF 30 u2))] := hD
          have hP := hP.sub (ws' := [(mo, .inr (13, MF 30 u2)), (qx, .inl (cB, NN, .inl f)), (Q.qq, .inl (cI, (8 * Q.C), .inl Q.qf)), (Q.qe, .inl (cL, (3 * Q.C), .inr (.inl Q.ef)))]) [3, 0, 1, 2] rfl
          have hD := hD.sub (ws' := [(mo, .inr (13, MF 30 u2)), (qx, .inl (cB, NN, .inl f)), (Q.qq, .inl (cI, (8 * Q.C), .inl Q.qf)), (Q.qe, .inl (cL, (3 * Q.C), .inr (.inl Q.ef)))]) [3, 0, 1, 2] (by decide) rfl
          obtain ⟨b7, h_b7⟩ := rf_fail (v := (rs v Q o)) (i := (i + 1)) (br := br) (b2 := br) (wh := (nI i))
          have hw : r0 = 0 ∧ u2 = _ := hw
          obtain ⟨hw1, hw2⟩ := hw
          rw [h_b7] at hw2
          rw [hw2] at hP hD
          subst hw1
          have hP : va_P (dC, dI) classes [(mo, .inr (13, MF 30 (rf (rs v Q o) (i + 1) b7))), (qx, .inl (cB, NN, .inl f)), (Q.qq, .inl (cI, (8 * Q.C), .inl Q.qf)), (Q.qe, .inl (cL, (3 * Q.C), .inr (.inl Q.ef)))] H := hP
          have hD : va_D A [(mo, .inr (13, MF 30 (rf (rs v Q o) (i + 1) b7))), (qx, .inl (cB, NN, .inl f)), (Q.qq, .inl (cI, (8 * Q.C), .inl Q.qf)), (Q.qe, .inl (cL, (3 * Q.C), .inr (.inl Q.ef)))] := hD
          have hfin : whM f n i = none := by unfold whM; rw [if_neg (fun h => c11 (h_r1.trans h))]; unfold whB; rw [if_neg hgo, hdN, if_pos (Int32.not_le.mp c150)]
          exact W.zret (v := 0) hx hb hr rfl (fun t9 ht hW => ⟨⟨0, ((i + 1), b7, Q.qf, Q.ef), rfl, Or.inr ⟨rfl, hfin, rfl, rfl⟩, by rw [ht]; exact hP, va_K.moved hW.alike hK, hD⟩, hS.F ht⟩) hS.2.2 d_Mo_whole_158
  · refine lv_iconst (v := 1) hx hb d_Mo_whole_14 (by decide) ?_
    refine lv_goto (tgt := 19) hx hb d_Mo_whole_15 (by decide) ?_
    refine lv_istore (lv' := [(4, .int 1), (3, .int (nI i)), (0, .ref mo), (1, .int (nI s9)), (2, .int (nI wh))]) hx hb d_Mo_whole_19 hl (by decide) rfl (fun ls hl => ?_)
    refine lv_iload hx hb d_Mo_whole_21 (lv_at hl 0 rfl) ?_
    refine lv_if_eq (tgt := 36) hx hb d_Mo_whole_23 (by decide) (fun h => absurd h (by decide)) (fun _ => ?_)
    refine lv_aload_n hx hb d_Mo_whole_26 rfl (lv_at hl 2 rfl) ?_
    refine lv_dup hx hb d_Mo_whole_27 rfl ?_
    refine va_get (D := (dC, dI)) (ci := 13) (v := .int (nI i)) (C := R_Mo) (T := F_Mo) (N := 30) hx hb hts in_Mo hown hK hP 0 rfl rfl 7 (by decide) (hts _ w_1096) (fun _ h9 => h9) (MFg (by decide) rf_7) d_Mo_whole_28 ?_
    refine lv_iconst (v := 1) hx hb d_Mo_whole_31 (by decide) ?_
    refine lv_iadd hx hb d_Mo_whole_32 ?_
    refine W.eq (g2 := F0 m 33 ls [.int (nI (i + 1)), .ref mo]) (by rw [show ((nI i) + 1) = (nI (i + 1)) from nI_1 _]) ?_
    refine va_put (D := (dC, dI)) (ci := 13) (v := .int (nI (i + 1))) (ty := .int) (C := R_Mo) (T := F_Mo) (N := 30) hx hb hts in_Mo t_Mo t_Mo_ok n_Mo hown hK hP hD hS 0 rfl rfl 7 (by decide) (hts _ w_1096) (fun _ h9 => h9) rfl (by decide +kernel) rfl rfl (by rw [MFl]; decide) d_Mo_whole_33 (fun H locs hP hD hS => ?_)
    rw [MFs (n := 30) (k := 7) (by decide)] at hP hD
    have hP : va_P (dC, dI) classes [(mo, .inr (13, MF 30 (va_up (rf (rs v Q o) i br) 7 (.int (nI (i + 1)))))), (qx, .inl (cB, NN, .inl f)), (Q.qq, .inl (cI, (8 * Q.C), .inl Q.qf)), (Q.qe, .inl (cL, (3 * Q.C), .inr (.inl Q.ef)))] H := hP
    have hD : va_D A [(mo, .inr (13, MF 30 (va_up (rf (rs v Q o) i br) 7 (.int (nI (i + 1)))))), (qx, .inl (cB, NN, .inl f)), (Q.qq, .inl (cI, (8 * Q.C), .inl Q.qf)), (Q.qe, .inl (cL, (3 * Q.C), .inr (.inl Q.ef)))] := hD
    rw [rf_u7] at hP hD
    have hP : va_P (dC, dI) classes [(mo, .inr (13, MF 30 (rf (rs v Q o) (i + 1) br))), (qx, .inl (cB, NN, .inl f)), (Q.qq, .inl (cI, (8 * Q.C), .inl Q.qf)), (Q.qe, .inl (cL, (3 * Q.C), .inr (.inl Q.ef)))] H := hP
    have hD : va_D A [(mo, .inr (13, MF 30 (rf (rs v Q o) (i + 1) br))), (qx, .inl (cB, NN, .inl f)), (Q.qq, .inl (cI, (8 * Q.C), .inl Q.qf)), (Q.qe, .inl (cL, (3 * Q.C), .inr (.inl Q.ef)))] := hD
    refine lv_aload_n hx hb d_Mo_whole_36 rfl (lv_at hl 2 rfl) ?_
    have hPc := hP.sub (ws' := [(mo, .inr (13, MF 30 (rf (rs v Q o) (i + 1) br))), (qx, .inl (cB, NN, .inl f))]) [0, 1] rfl
    have hDc := hD.sub (ws' := [(mo, .inr (13, MF 30 (rf (rs v Q o) (i + 1) br))), (qx, .inl (cB, NN, .inl f))]) [0, 1] (by decide) rfl
    have hKc := hK.sub (tys' := [(cB, .byte)]) [0] rfl
    have hFc := va_free (wc := [(mo, .inr (13, MF 30 (rf (rs v Q o) (i + 1) br))), (qx, .inl (cB, NN, .inl f))]) hD hS hA [0, 1] rfl
    refine va_calli (va_runV (As := []) (rest := []) ⟨hx, hb, hml, hown, hts⟩ (c_Mo_c l dC dI mo H (rf (rs v Q o) (i + 1) br) cB qx NN f n (i + 1) (by omega) (by omega) (by omega) ((rf_ne (by decide) (by decide)).trans ((rs_ne (by decide) (by decide) (by decide) (by decide)).trans h6)) rf_7 ((rf_ne (by decide) (by decide)).trans ((rs_ne (by decide) (by decide) (by decide) (by decide)).trans h8))) (cwV 0 hts (gt_V (own := R_Mo) (C := R_Mo) (i := 147) (y := y_Mo_c) i_Mo_c w_1233 w_1235 (gt_sel (y := y_Mo_c) (n := 30) (by decide +kernel)) w_7) rfl rfl rfl (by decide +kernel) ⟨Nat.le_of_ble_eq_true rfl, Nat.le_of_ble_eq_true rfl⟩) ⟨mp_blind, va_recv hKc hPc (ci := 13) (q0 := 0) rfl rfl, fun U hU hW => ⟨rfl, hU, by rw [hU]; exact hPc, va_K.moved hW.alike hKc, hDc.weaken (fun _ _ _ _ => trivial)⟩⟩ rfl rfl hl.1 rfl (lv_room (Nat.le_of_ble_eq_true rfl)) d_Mo_whole_37 ⟨Nat.le_of_ble_eq_true rfl, Nat.le_of_ble_eq_true rfl⟩) hS (fun q _ h => hFc q h) hFc (fun r2 _u t9 H1 locs ht hvm hw hB hz1 hk1 hS => ?_)
    obtain ⟨hP1, hK1, hD1⟩ := hB
    rw [ht] at hP1
    obtain ⟨hP, hD⟩ := va_join (wr := [(Q.qq, .inl (cI, (8 * Q.C), .inl Q.qf)), (Q.qe, .inl (cL, (3 * Q.C), .inr (.inl Q.ef)))]) (w1 := [(mo, .inr (13, MF 30 (rf (rs v Q o) (i + 1) br))), (qx, .inl (cB, NN, .inl f))]) hP hD [0, 1] [2, 3] rfl rfl (by decide) (by decide) hk1 hFc hP1 hD1
    generalize H1 = H at hP hS ⊢
    have hP : va_P (dC, dI) classes [(Q.qq, .inl (cI, (8 * Q.C), .inl Q.qf)), (Q.qe, .inl (cL, (3 * Q.C), .inr (.inl Q.ef))), (mo, .inr (13, MF 30 (rf (rs v Q o) (i + 1) br))), (qx, .inl (cB, NN, .inl f))] H := hP
    have hD : va_D A [(Q.qq, .inl (cI, (8 * Q.C), .inl Q.qf)), (Q.qe, .inl (cL, (3 * Q.C), .inr (.inl Q.ef))), (mo, .inr (13, MF 30 (rf (rs v Q o) (i + 1) br))), (qx, .inl (cB, NN, .inl f))] := hD
    have hP := hP.sub (ws' := [(mo, .inr (13, MF 30 (rf (rs v Q o) (i + 1) br))), (qx, .inl (cB, NN, .inl f)), (Q.qq, .inl (cI, (8 * Q.C), .inl Q.qf)), (Q.qe, .inl (cL, (3 * Q.C), .inr (.inl Q.ef)))]) [2, 3, 0, 1] rfl
    have hD := hD.sub (ws' := [(mo, .inr (13, MF 30 (rf (rs v Q o) (i + 1) br))), (qx, .inl (cB, NN, .inl f)), (Q.qq, .inl (cI, (8 * Q.C), .inl Q.qf)), (Q.qe, .inl (cL, (3 * Q.C), .inr (.inl Q.ef)))]) [2, 3, 0, 1] (by decide) rfl
    have h_r2 : r2 = hereV f n (i + 1) := hw
    have hPc := hP.sub (ws' := []) [] rfl
    have hDc := hD.sub (ws' := []) [] (by decide) rfl
    have hKc := hK.sub (tys' := []) [] rfl
    have hFc := va_free (wc := []) hD hS hA [] rfl
    refine va_calli (va_runS (As := [.int r2]) (rest := []) ⟨hx, hb, hml, hown, hts⟩ (c_Mo_digit l dC dI H r2) (va_cwS 1 hts (gt_S (own := R_Mo) (i := 166) (y := y_Mo_digit) i_Mo_digit w_1332 w_1333 w_7) rfl rfl rfl (by decide +kernel) ⟨Nat.le_of_ble_eq_true rfl, Nat.le_of_ble_eq_true rfl⟩) ⟨mp_blind, fun U hU hW => ⟨rfl, hU, by rw [hU]; exact hPc, va_K.moved hW.alike hKc, hDc.weaken (fun _ _ _ _ => trivial)⟩⟩ rfl rfl hl.1 rfl (lv_room (Nat.le_of_ble_eq_true rfl)) d_Mo_whole_40 ⟨Nat.le_of_ble_eq_true rfl, Nat.le_of_ble_eq_true rfl⟩) hS (fun q _ h => hFc q h) hFc (fun d2 _u t9 H1 locs ht hvm hw hB hz1 hk1 hS => ?_)
    obtain ⟨hP1, hK1, hD1⟩ := hB
    rw [ht] at hP1
    obtain ⟨hP, hD⟩ := va_join (wr := [(mo, .inr (13, MF 30 (rf (rs v Q o) (i + 1) br))), (qx, .inl (cB, NN, .inl f)), (Q.qq, .inl (cI, (8 * Q.C), .inl Q.qf)), (Q.qe, .inl (cL, (3 * Q.C), .inr (.inl Q.ef)))]) (w1 := []) hP hD [] [0, 1, 2, 3] rfl rfl (by decide) (by decide) hk1 hFc hP1 hD1
    generalize H1 = H at hP hS ⊢
    have hP : va_P (dC, dI) classes [(mo, .inr (13, MF 30 (rf (rs v Q o) (i + 1) br))), (qx, .inl (cB, NN, .inl f)), (Q.qq, .inl (cI, (8 * Q.C), .inl Q.qf)), (Q.qe, .inl (cL, (3 * Q.C), .inr (.inl Q.ef)))] H := hP
    have hD : va_D A [(mo, .inr (13, MF 30 (rf (rs v Q o) (i + 1) br))), (qx, .inl (cB, NN, .inl f)), (Q.qq, .inl (cI, (8 * Q.C), .inl Q.qf)), (Q.qe, .inl (cL, (3 * Q.C), .inr (.inl Q.ef)))] := hD
    have h_d2 := dg_01 hw
    refine lv_if_eq (tgt := 60) hx hb d_Mo_whole_43 (by decide) (fun c43 => ?_) (fun c43 => ?_)
    · refine lv_aload_n hx hb d_Mo_whole_60 rfl (lv_at hl 2 rfl) ?_
      refine lv_aload_n hx hb d_Mo_whole_61 rfl (lv_at hl 2 rfl) ?_
      refine va_get (D := (dC, dI)) (ci := 13) (v := .int (nI (i + 1))) (C := R_Mo) (T := F_Mo) (N := 30) hx hb hts in_Mo hown hK hP 0 rfl rfl 7 (by decide) (hts _ w_1096) (fun _ h9 => h9) (MFg (by decide) rf_7) d_Mo_whole_62 ?_
      have hPc := hP.sub (ws' := [(mo, .inr (13, MF 30 (rf (rs v Q o) (i + 1) br)))]) [0] rfl
      have hDc := hD.sub (ws' := [(mo, .inr (13, MF 30 (rf (rs v Q o) (i + 1) br)))]) [0] (by decide) rfl
      have hKc := hK.sub (tys' := []) [] rfl
      have hFc := va_free (wc := [(mo, .inr (13, MF 30 (rf (rs v Q o) (i + 1) br)))]) hD hS hA [0] rfl
      refine va_calli (va_runV (As := [.int (nI (i + 1))]) (rest := []) ⟨hx, hb, hml, hown, hts⟩ (c_Mo_fail l dC dI mo H (rf (rs v Q o) (i + 1) br) br ((nI (i + 1))) rf_9) (cwV 1 hts (gt_V (own := R_Mo) (C := R_Mo) (i := 151) (y := y_Mo_fail) i_Mo_fail w_1250 w_1252 (gt_sel (y := y_Mo_fail) (n := 30) (by decide +kernel)) w_7) rfl rfl rfl (by decide +kernel) ⟨Nat.le_of_ble_eq_true rfl, Nat.le_of_ble_eq_true rfl⟩) ⟨mp_blind, va_recv hKc hPc (ci := 13) (q0 := 0) rfl rfl, fun U hU hW => ⟨rfl, hU, by rw [hU]; exact hPc, va_K.moved hW.alike hKc, hDc.weaken (fun _ _ _ _ => trivial)⟩⟩ rfl rfl hl.1 rfl (lv_room (Nat.le_of_ble_eq_true rfl)) d_Mo_whole_65 ⟨Nat.le_of_ble_eq_true rfl, Nat.le_of_ble_eq_true rfl⟩) hS (fun q _ h => hFc q h) hFc (fun r0 u2 t9 H1 locs ht hvm hw hB hz1 hk1 hS => ?_)
      obtain ⟨hP1, hK1, hD1⟩ := hB
      rw [ht] at hP1
      obtain ⟨hP, hD⟩ := va_join (wr := [(qx, .inl (cB, NN, .inl f)), (Q.qq, .inl (cI, (8 * Q.C), .inl Q.qf)), (Q.qe, .inl (cL, (3 * Q.C), .inr (.inl Q.ef)))]) (w1 := [(mo, .inr (13, MF 30 u2))]) hP hD [0] [1, 2, 3] rfl rfl (by decide) (by decide) hk1 hFc hP1 hD1
      generalize H1 = H at hP hS ⊢
      have hP : va_P (dC, dI) classes [(qx, .inl (cB, NN, .inl f)), (Q.qq, .inl (cI, (8 * Q.C), .inl Q.qf)), (Q.qe, .inl (cL, (3 * Q.C), .inr (.inl Q.ef))), (mo, .inr (13, MF 30 u2))] H := hP
      have hD : va_D A [(qx, .inl (cB, NN, .inl f)), (Q.qq, .inl (cI, (8 * Q.C), .inl Q.qf)), (Q.qe, .inl (cL, (3 * Q.C), .inr (.inl Q.ef))), (mo, .inr (13, MF 30 u2))] := hD
      have hP := hP.sub (ws' := [(mo, .inr (13, MF 30 u2)), (qx, .inl (cB, NN, .inl f)), (Q.qq, .inl (cI, (8 * Q.C), .inl Q.qf)), (Q.qe, .inl (cL, (3 * Q.C), .inr (.inl Q.ef)))]) [3, 0, 1, 2] rfl
      have hD := hD.sub (ws' := [(mo, .inr (13, MF 30 u2)), (qx, .inl (cB, NN, .inl f)), (Q.qq, .inl (cI, (8 * Q.C), .inl Q.qf)), (Q.qe, .inl (cL, (3 * Q.C), .inr (.inl Q.ef)))]) [3, 0, 1, 2] (by decide) rfl
      obtain ⟨b7, h_b7⟩ := rf_fail (v := (rs v Q o)) (i := (i + 1)) (br := br) (b2 := br) (wh := (nI (i + 1)))
      have hw : r0 = 0 ∧ u2 = _ := hw
      obtain ⟨hw1, hw2⟩ := hw
      rw [h_b7] at hw2
      rw [hw2] at hP hD
      subst hw1
      have hP : va_P (dC, dI) classes [(mo, .inr (13, MF 30 (rf (rs v Q o) (i + 1) b7))), (qx, .inl (cB, NN, .inl f)), (Q.qq, .inl (cI, (8 * Q.C), .inl Q.qf)), (Q.qe, .inl (cL, (3 * Q.C), .inr (.inl Q.ef)))] H := hP
      have hD : va_D A [(mo, .inr (13, MF 30 (rf (rs v Q o) (i + 1) b7))), (qx, .inl (cB, NN, .inl f)), (Q.qq, .inl (cI, (8 * Q.C), .inl Q.qf)), (Q.qe, .inl (cL, (3 * Q.C), .inr (.inl Q.ef)))] := hD
      have hfin : whM f n i = none := by unfold whM; rw [if_pos (h_r1.symm.trans c11)]; unfold whB; rw [if_pos (Or.inl (by rw [← h_r2]; exact h_d2.2 c43))]
      exact W.zret (v := 0) hx hb hr rfl (fun t9 ht hW => ⟨⟨0, ((i + 1), b7, Q.qf, Q.ef), rfl, Or.inr ⟨rfl, hfin, rfl, rfl⟩, by rw [ht]; exact hP, va_K.moved hW.alike hK, hD⟩, hS.F ht⟩) hS.2.2 d_Mo_whole_68
    · refine lv_iload hx hb d_Mo_whole_46 (lv_at hl 0 rfl) ?_
      refine lv_if_eq (tgt := 69) hx hb d_Mo_whole_48 (by decide) (fun h => absurd h (by decide)) (fun _ => ?_)
      refine lv_aload_n hx hb d_Mo_whole_51 rfl (lv_at hl 2 rfl) ?_
      have hPc := hP.sub (ws' := [(mo, .inr (13, MF 30 (rf (rs v Q o) (i + 1) br))), (qx, .inl (cB, NN, .inl f))]) [0, 1] rfl
      have hDc := hD.sub (ws' := [(mo, .inr (13, MF 30 (rf (rs v Q o) (i + 1) br))), (qx, .inl (cB, NN, .inl f))]) [0, 1] (by decide) rfl
      have hKc := hK.sub (tys' := [(cB, .byte)]) [0] rfl
      have hFc := va_free (wc := [(mo, .inr (13, MF 30 (rf (rs v Q o) (i + 1) br))), (qx, .inl (cB, NN, .inl f))]) hD hS hA [0, 1] rfl
      refine va_calli (va_runV (As := []) (rest := []) ⟨hx, hb, hml, hown, hts⟩ (c_Mo_c l dC dI mo H (rf (rs v Q o) (i + 1) br) cB qx NN f n (i + 1) (by omega) (by omega) (by omega) ((rf_ne (by decide) (by decide)).trans ((rs_ne (by decide) (by decide) (by decide) (by decide)).trans h6)) rf_7 ((rf_ne (by decide) (by decide)).trans ((rs_ne (by decide) (by decide) (by decide) (by decide)).trans h8))) (cwV 0 hts (gt_V (own := R_Mo) (C := R_Mo) (i := 147) (y := y_Mo_c) i_Mo_c w_1233 w_1235 (gt_sel (y := y_Mo_c) (n := 30) (by decide +kernel)) w_7) rfl rfl rfl (by decide +kernel) ⟨Nat.le_of_ble_eq_true rfl, Nat.le_of_ble_eq_true rfl⟩) ⟨mp_blind, va_recv hKc hPc (ci := 13) (q0 := 0) rfl rfl, fun U hU hW => ⟨rfl, hU, by rw [hU]; exact hPc, va_K.moved hW.alike hKc, hDc.weaken (fun _ _ _ _ => trivial)⟩⟩ rfl rfl hl.1 rfl (lv_room (Nat.le_of_ble_eq_true rfl)) d_Mo_whole_52 ⟨Nat.le_of_ble_eq_true rfl, Nat.le_of_ble_eq_true rfl⟩) hS (fun q _ h => hFc q h) hFc (fun r9 _u t9 H1 locs ht hvm hw hB hz1 hk1 hS => ?_)
      obtain ⟨hP1, hK1, hD1⟩ := hB
      rw [ht] at hP1
      obtain ⟨hP, hD⟩ := va_join (wr := [(Q.qq, .inl (cI, (8 * Q.C), .inl Q.qf)), (Q.qe, .inl (cL, (3 * Q.C), .inr (.inl Q.ef)))]) (w1 := [(mo, .inr (13, MF 30 (rf (rs v Q o) (i + 1) br))), (qx, .inl (cB, NN, .inl f))]) hP hD [0, 1] [2, 3] rfl rfl (by decide) (by decide) hk1 hFc hP1 hD1
      generalize H1 = H at hP hS ⊢
      have hP : va_P (dC, dI) classes [(Q.qq, .inl (cI, (8 * Q.C), .inl Q.qf)), (Q.qe, .inl (cL, (3 * Q.C), .inr (.inl Q.ef))), (mo, .inr (13, MF 30 (rf (rs v Q o) (i + 1) br))), (qx, .inl (cB, NN, .inl f))] H := hP
      have hD : va_D A [(Q.qq, .inl (cI, (8 * Q.C), .inl Q.qf)), (Q.qe, .inl (cL, (3 * Q.C), .inr (.inl Q.ef))), (mo, .inr (13, MF 30 (rf (rs v Q o) (i + 1) br))), (qx, .inl (cB, NN, .inl f))] := hD
      have hP := hP.sub (ws' := [(mo, .inr (13, MF 30 (rf (rs v Q o) (i + 1) br))), (qx, .inl (cB, NN, .inl f)), (Q.qq, .inl (cI, (8 * Q.C), .inl Q.qf)), (Q.qe, .inl (cL, (3 * Q.C), .inr (.inl Q.ef)))]) [2, 3, 0, 1] rfl
      have hD := hD.sub (ws' := [(mo, .inr (13, MF 30 (rf (rs v Q o) (i + 1) br))), (qx, .inl (cB, NN, .inl f)), (Q.qq, .inl (cI, (8 * Q.C), .inl Q.qf)), (Q.qe, .inl (cL, (3 * Q.C), .inr (.inl Q.ef)))]) [2, 3, 0, 1] (by decide) rfl
      have h_r9 : r9 = hereV f n (i + 1) := hw
      refine lv_bipush (v := 48) hx hb d_Mo_whole_55 (by decide) ?_
      refine lv_icmp_ne (tgt := 69) hx hb d_Mo_whole_57 (by decide) (fun c57 => ?_) (fun c57 => ?_)
      · have hd1 : digH (hereV f n (i + 1)) := by rw [← h_r2]; exact h_d2.1 c43
        have hlt1 := digH_lt hd1
        have hn48 : ¬ hereV f n (i + 1) = 48 := fun h => c57 (h_r9.trans h)
        have hgo : ¬ (¬ digH (hereV f n (i + 1)) ∨ (true = true ∧ hereV f n (i + 1) = 48)) := fun h => h.elim (fun q => q hd1) (fun q => hn48 q.2)
        refine lv_lconst (v := 0) hx hb d_Mo_whole_69 (by decide) ?_
        refine lv_lstore (lv' := [(5, .long 0), (4, .int 1), (3, .int (nI i)), (0, .ref mo), (1, .int (nI s9)), (2, .int (nI wh))]) hx hb d_Mo_whole_70 hl (by decide) rfl (fun ls hl => ?_)
        refine lv_aload_n hx hb d_Mo_whole_72 rfl (lv_at hl 3 rfl) ?_
        have hPc := hP.sub (ws' := [(mo, .inr (13, MF 30 (rf (rs v Q o) (i + 1) br))), (qx, .inl (cB, NN, .inl f))]) [0, 1] rfl
        have hDc := hD.sub (ws' := [(mo, .inr (13, MF 30 (rf (rs v Q o) (i + 1) br))), (qx, .inl (cB, NN, .inl f))]) [0, 1] (by decide) rfl
        have hKc := hK.sub (tys' := [(cB, .byte)]) [0] rfl
        have hFc := va_free (wc := [(mo, .inr (13, MF 30 (rf (rs v Q o) (i + 1) br))), (qx, .inl (cB, NN, .inl f))]) hD hS hA [0, 1] rfl
        refine va_calli (va_runV (As := []) (rest := []) ⟨hx, hb, hml, hown, hts⟩ (c_Mo_c l dC dI mo H (rf (rs v Q o) (i + 1) br) cB qx NN f n (i + 1) (by omega) (by omega) (by omega) ((rf_ne (by decide) (by decide)).trans ((rs_ne (by decide) (by decide) (by decide) (by decide)).trans h6)) rf_7 ((rf_ne (by decide) (by decide)).trans ((rs_ne (by decide) (by decide) (by decide) (by decide)).trans h8))) (cwV 0 hts (gt_V (own := R_Mo) (C := R_Mo) (i := 147) (y := y_Mo_c) i_Mo_c w_1233 w_1235 (gt_sel (y := y_Mo_c) (n := 30) (by decide +kernel)) w_7) rfl rfl rfl (by decide +kernel) ⟨Nat.le_of_ble_eq_true rfl, Nat.le_of_ble_eq_true rfl⟩) ⟨mp_blind, va_recv hKc hPc (ci := 13) (q0 := 0) rfl rfl, fun U hU hW => ⟨rfl, hU, by rw [hU]; exact hPc, va_K.moved hW.alike hKc, hDc.weaken (fun _ _ _ _ => trivial)⟩⟩ rfl rfl hl.1 rfl (lv_room (Nat.le_of_ble_eq_true rfl)) d_Mo_whole_73 ⟨Nat.le_of_ble_eq_true rfl, Nat.le_of_ble_eq_true rfl⟩) hS (fun q _ h => hFc q h) hFc (fun r3 _u t9 H1 locs ht hvm hw hB hz1 hk1 hS => ?_)
        obtain ⟨hP1, hK1, hD1⟩ := hB
        rw [ht] at hP1
        obtain ⟨hP, hD⟩ := va_join (wr := [(Q.qq, .inl (cI, (8 * Q.C), .inl Q.qf)), (Q.qe, .inl (cL, (3 * Q.C), .inr (.inl Q.ef)))]) (w1 := [(mo, .inr (13, MF 30 (rf (rs v Q o) (i + 1) br))), (qx, .inl (cB, NN, .inl f))]) hP hD [0, 1] [2, 3] rfl rfl (by decide) (by decide) hk1 hFc hP1 hD1
        generalize H1 = H at hP hS ⊢
        have hP : va_P (dC, dI) classes [(Q.qq, .inl (cI, (8 * Q.C), .inl Q.qf)), (Q.qe, .inl (cL, (3 * Q.C), .inr (.inl Q.ef))), (mo, .inr (13, MF 30 (rf (rs v Q o) (i + 1) br))), (qx, .inl (cB, NN, .inl f))] H := hP
        have hD : va_D A [(Q.qq, .inl (cI, (8 * Q.C), .inl Q.qf)), (Q.qe, .inl (cL, (3 * Q.C), .inr (.inl Q.ef))), (mo, .inr (13, MF 30 (rf (rs v Q o) (i + 1) br))), (qx, .inl (cB, NN, .inl f))] := hD
        have hP := hP.sub (ws' := [(mo, .inr (13, MF 30 (rf (rs v Q o) (i + 1) br))), (qx, .inl (cB, NN, .inl f)), (Q.qq, .inl (cI, (8 * Q.C), .inl Q.qf)), (Q.qe, .inl (cL, (3 * Q.C), .inr (.inl Q.ef)))]) [2, 3, 0, 1] rfl
        have hD := hD.sub (ws' := [(mo, .inr (13, MF 30 (rf (rs v Q o) (i + 1) br))), (qx, .inl (cB, NN, .inl f)), (Q.qq, .inl (cI, (8 * Q.C), .inl Q.qf)), (Q.qe, .inl (cL, (3 * Q.C), .inr (.inl Q.ef)))]) [2, 3, 0, 1] (by decide) rfl
        have h_r3 : r3 = hereV f n (i + 1) := hw
        refine lv_bipush (v := 48) hx hb d_Mo_whole_76 (by decide) ?_
        refine lv_icmp_ne (tgt := 94) hx hb d_Mo_whole_78 (by decide) (fun c78 => ?_) (fun c78 => ?_)
        · refine w_loop (D := (dC, dI)) (cl := classes) (A := A) (H0 := s.heap) (nL := 7) 94 (σ := Nat × Nat × Int64) (fun ⟨k, j, a⟩ => (i + 1) ≤ j ∧ j ≤ n ∧ n + 1 ≤ k + j ∧ dgM f n k j a = dgM f n (n + 1) (i + 1) 0) (fun ⟨k, j, a⟩ => n + 1 - j) (fun ⟨k, j, a⟩ => [(mo, .inr (13, MF 30 (rf (rs v Q o) j br))), (qx, .inl (cB, NN, .inl f)), (Q.qq, .inl (cI, (8 * Q.C), .inl Q.qf)), (Q.qe, .inl (cL, (3 * Q.C), .inr (.inl Q.ef)))]) (fun ⟨k, j, a⟩ => [(0, .ref mo), (1, .int (nI s9)), (2, .int (nI wh)), (3, .int (nI i)), (4, .int 1), (5, .long a)]) ?_ (n + 1, (i + 1), 0) ⟨Nat.le_refl _, by show (i + 1) ≤ n; omega, by show n + 1 ≤ n + 1 + (i + 1); omega, rfl⟩ hP hD hS (lv_sub hl [3, 4, 5, 2, 1, 0] rfl)
          rintro ⟨k, j, a⟩ H locs ls hI ih hP hD hS hl
          have hP : va_P (dC, dI) classes [(mo, .inr (13, MF 30 (rf (rs v Q o) j br))), (qx, .inl (cB, NN, .inl f)), (Q.qq, .inl (cI, (8 * Q.C), .inl Q.qf)), (Q.qe, .inl (cL, (3 * Q.C), .inr (.inl Q.ef)))] H := hP
          have hD : va_D A [(mo, .inr (13, MF 30 (rf (rs v Q o) j br))), (qx, .inl (cB, NN, .inl f)), (Q.qq, .inl (cI, (8 * Q.C), .inl Q.qf)), (Q.qe, .inl (cL, (3 * Q.C), .inr (.inl Q.ef)))] := hD
          have hl : lv_has ls 7 [(0, .ref mo), (1, .int (nI s9)), (2, .int (nI wh)), (3, .int (nI i)), (4, .int 1), (5, .long a)] := hl
          obtain ⟨hI1, hI2, hI3, hI4⟩ := hI
          obtain ⟨k0, hk0⟩ : ∃ k0, k = k0 + 1 := ⟨k - 1, by omega⟩
          refine lv_aload_n hx hb d_Mo_whole_94 rfl (lv_at hl 0 rfl) ?_
          have hPc := hP.sub (ws' := [(mo, .inr (13, MF 30 (rf (rs v Q o) j br))), (qx, .inl (cB, NN, .inl f))]) [0, 1] rfl
          have hDc := hD.sub (ws' := [(mo, .inr (13, MF 30 (rf (rs v Q o) j br))), (qx, .inl (cB, NN, .inl f))]) [0, 1] (by decide) rfl
          have hKc := hK.sub (tys' := [(cB, .byte)]) [0] rfl
          have hFc := va_free (wc := [(mo, .inr (13, MF 30 (rf (rs v Q o) j br))), (qx, .inl (cB, NN, .inl f))]) hD hS hA [0, 1] rfl
          refine va_calli (va_runV (As := []) (rest := []) ⟨hx, hb, hml, hown, hts⟩ (c_Mo_c l dC dI mo H (rf (rs v Q o) j br) cB qx NN f n j (by omega) (by omega) (by omega) ((rf_ne (by decide) (by decide)).trans ((rs_ne (by decide) (by decide) (by decide) (by decide)).trans h6)) rf_7 ((rf_ne (by decide) (by decide)).trans ((rs_ne (by decide) (by decide) (by decide) (by decide)).trans h8))) (cwV 0 hts (gt_V (own := R_Mo) (C := R_Mo) (i := 147) (y := y_Mo_c) i_Mo_c w_1233 w_1235 (gt_sel (y := y_Mo_c) (n := 30) (by decide +kernel)) w_7) rfl rfl rfl (by decide +kernel) ⟨Nat.le_of_ble_eq_true rfl, Nat.le_of_ble_eq_true rfl⟩) ⟨mp_blind, va_recv hKc hPc (ci := 13) (q0 := 0) rfl rfl, fun U hU hW => ⟨rfl, hU, by rw [hU]; exact hPc, va_K.moved hW.alike hKc, hDc.weaken (fun _ _ _ _ => trivial)⟩⟩ rfl rfl hl.1 rfl (lv_room (Nat.le_of_ble_eq_true rfl)) d_Mo_whole_95 ⟨Nat.le_of_ble_eq_true rfl, Nat.le_of_ble_eq_true rfl⟩) hS (fun q _ h => hFc q h) hFc (fun r4 _u t9 H1 locs ht hvm hw hB hz1 hk1 hS => ?_)
          obtain ⟨hP1, hK1, hD1⟩ := hB
          rw [ht] at hP1
          obtain ⟨hP, hD⟩ := va_join (wr := [(Q.qq, .inl (cI, (8 * Q.C), .inl Q.qf)), (Q.qe, .inl (cL, (3 * Q.C), .inr (.inl Q.ef)))]) (w1 := [(mo, .inr (13, MF 30 (rf (rs v Q o) j br))), (qx, .inl (cB, NN, .inl f))]) hP hD [0, 1] [2, 3] rfl rfl (by decide) (by decide) hk1 hFc hP1 hD1
          generalize H1 = H at hP hS ⊢
          have hP : va_P (dC, dI) classes [(Q.qq, .inl (cI, (8 * Q.C), .inl Q.qf)), (Q.qe, .inl (cL, (3 * Q.C), .inr (.inl Q.ef))), (mo, .inr (13, MF 30 (rf (rs v Q o) j br))), (qx, .inl (cB, NN, .inl f))] H := hP
          have hD : va_D A [(Q.qq, .inl (cI, (8 * Q.C), .inl Q.qf)), (Q.qe, .inl (cL, (3 * Q.C), .inr (.inl Q.ef))), (mo, .inr (13, MF 30 (rf (rs v Q o) j br))), (qx, .inl (cB, NN, .inl f))] := hD
          have hP := hP.sub (ws' := [(mo, .inr (13, MF 30 (rf (rs v Q o) j br))), (qx, .inl (cB, NN, .inl f)), (Q.qq, .inl (cI, (8 * Q.C), .inl Q.qf)), (Q.qe, .inl (cL, (3 * Q.C), .inr (.inl Q.ef)))]) [2, 3, 0, 1] rfl
          have hD := hD.sub (ws' := [(mo, .inr (13, MF 30 (rf (rs v Q o) j br))), (qx, .inl (cB, NN, .inl f)), (Q.qq, .inl (cI, (8 * Q.C), .inl Q.qf)), (Q.qe, .inl (cL, (3 * Q.C), .inr (.inl Q.ef)))]) [2, 3, 0, 1] (by decide) rfl
          have h_r4 : r4 = hereV f n j := hw
          have hPc := hP.sub (ws' := []) [] rfl
          have hDc := hD.sub (ws' := []) [] (by decide) rfl
          have hKc := hK.sub (tys' := []) [] rfl
          have hFc := va_free (wc := []) hD hS hA [] rfl
          refine va_calli (va_runS (As := [.int r4]) (rest := []) ⟨hx, hb, hml, hown, hts⟩ (c_Mo_digit l dC dI H r4) (va_cwS 1 hts (gt_S (own := R_Mo) (i := 166) (y := y_Mo_digit) i_Mo_digit w_1332 w_1333 w_7) rfl rfl rfl (by decide +kernel) ⟨Nat.le_of_ble_eq_true rfl, Nat.le_of_ble_eq_true rfl⟩) ⟨mp_blind, fun U hU hW => ⟨rfl, hU, by rw [hU]; exact hPc, va_K.moved hW.alike hKc, hDc.weaken (fun _ _ _ _ => trivial)⟩⟩ rfl rfl hl.1 rfl (lv_room (Nat.le_of_ble_eq_true rfl)) d_Mo_whole_98 ⟨Nat.le_of_ble_eq_true rfl, Nat.le_of_ble_eq_true rfl⟩) hS (fun q _ h => hFc q h) hFc (fun d4 _u t9 H1 locs ht hvm hw hB hz1 hk1 hS => ?_)
          obtain ⟨hP1, hK1, hD1⟩ := hB
          rw [ht] at hP1
          obtain ⟨hP, hD⟩ := va_join (wr := [(mo, .inr (13, MF 30 (rf (rs v Q o) j br))), (qx, .inl (cB, NN, .inl f)), (Q.qq, .inl (cI, (8 * Q.C), .inl Q.qf)), (Q.qe, .inl (cL, (3 * Q.C), .inr (.inl Q.ef)))]) (w1 := []) hP hD [] [0, 1, 2, 3] rfl rfl (by decide) (by decide) hk1 hFc hP1 hD1
          generalize H1 = H at hP hS ⊢
          have hP : va_P (dC, dI) classes [(mo, .inr (13, MF 30 (rf (rs v Q o) j br))), (qx, .inl (cB, NN, .inl f)), (Q.qq, .inl (cI, (8 * Q.C), .inl Q.qf)), (Q.qe, .inl (cL, (3 * Q.C), .inr (.inl Q.ef)))] H := hP
          have hD : va_D A [(mo, .inr (13, MF 30 (rf (rs v Q o) j br))), (qx, .inl (cB, NN, .inl f)), (Q.qq, .inl (cI, (8 * Q.C), .inl Q.qf)), (Q.qe, .inl (cL, (3 * Q.C), .inr (.inl Q.ef)))] := hD
          have h_d4 := dg_01 hw
          refine lv_if_eq (tgt := 144) hx hb d_Mo_whole_101 (by decide) (fun c101 => ?_) (fun c101 => ?_)
          · have hnd : ¬ digH (hereV f n j) := by rw [← h_r4]; exact h_d4.2 c101
            have hdN : dgN f n (i + 1) = (a, j) := by
              unfold dgN
              rw [if_neg (fun h => c78 (h_r3.trans h)), ← hI4, hk0]
              simp only [dgM]
              rw [if_neg hnd]
            have hjn : j ≤ n := hI2
            refine lv_lload hx hb d_Mo_whole_144 (lv_at hl 5 rfl) ?_
            refine lv_ldc2 (v := 9007199254740991) hx hb hown (hts _ w_1343) d_Mo_whole_146 ?_
            refine W.lcmp hx hb d_Mo_whole_149 ?_
            refine lv_if_le (tgt := 159) hx hb d_Mo_whole_150 (by decide) (fun c150 => ?_) (fun c150 => ?_)
            · refine lv_aload_n hx hb d_Mo_whole_159 rfl (lv_at hl 0 rfl) ?_
              refine va_get (D := (dC, dI)) (ci := 13) (v := .ref Q.qe) (C := R_Mo) (T := F_Mo) (N := 30) hx hb hts in_Mo hown hK hP 0 rfl rfl 20 (by decide) (hts _ w_1109) (fun _ h9 => h9) (MFg (by decide) ((rf_ne (by decide) (by decide)).trans rs_20)) d_Mo_whole_160 ?_
              refine lv_iconst (v := 3) hx hb d_Mo_whole_163 (by decide) ?_
              refine lv_iload_n hx hb d_Mo_whole_164 rfl (lv_at hl 1 rfl) ?_
              refine lv_imul hx hb d_Mo_whole_165 ?_
              refine W.eq (g2 := F0 m 166 ls [.int (nI (3 * s9)), .ref Q.qe]) (by rw [show (3 * (nI s9)) = (nI (3 * s9)) from (by rw [show (3 : Int32) = nI 3 from rfl, pk_mul])]) ?_
              refine lv_iload_n hx hb d_Mo_whole_166 rfl (lv_at hl 2 rfl) ?_
              refine lv_iadd hx hb d_Mo_whole_167 ?_
              refine W.eq (g2 := F0 m 168 ls [.int (nI (3 * s9 + wh)), .ref Q.qe]) (by rw [show ((nI (3 * s9)) + (nI wh)) = (nI (3 * s9 + wh)) from nI_add _ _]) ?_
              refine lv_iload hx hb d_Mo_whole_168 (lv_at hl 4 rfl) ?_
              refine lv_if_eq (tgt := 179) hx hb d_Mo_whole_170 (by decide) (fun h => absurd h (by decide)) (fun _ => ?_)
              refine lv_lload hx hb d_Mo_whole_173 (lv_at hl 5 rfl) ?_
              refine lv_lneg hx hb d_Mo_whole_175 ?_
              refine lv_goto (tgt := 181) hx hb d_Mo_whole_176 (by decide) ?_
              refine va_last hx hb hK hP hD hS 3 2 rfl rfl (vp_in_nI (show 3 * s9 + wh < 3 * Q.C by omega) (by omega)) d_Mo_whole_181 (fun H locs hP hD hS => ?_)
              rw [show (nI (3 * s9 + wh)).toNatClampNeg = 3 * s9 + wh from nI_clamp (by omega)] at hP hD
              have hP : va_P (dC, dI) classes [(mo, .inr (13, MF 30 (rf (rs v Q o) j br))), (qx, .inl (cB, NN, .inl f)), (Q.qq, .inl (cI, (8 * Q.C), .inl Q.qf)), (Q.qe, .inl (cL, (3 * Q.C), .inr (.inl (vp_updL Q.ef (3 * s9 + wh) (-a)))))] H := hP
              have hD : va_D A [(mo, .inr (13, MF 30 (rf (rs v Q o) j br))), (qx, .inl (cB, NN, .inl f)), (Q.qq, .inl (cI, (8 * Q.C), .inl Q.qf)), (Q.qe, .inl (cL, (3 * Q.C), .inr (.inl (vp_updL Q.ef (3 * s9 + wh) (-a)))))] := hD
              refine lv_aload_n hx hb d_Mo_whole_182 rfl (lv_at hl 0 rfl) ?_
              refine lv_iload_n hx hb d_Mo_whole_183 rfl (lv_at hl 1 rfl) ?_
              refine lv_iconst (v := 2) hx hb d_Mo_whole_184 (by decide) ?_
              refine lv_aload_n hx hb d_Mo_whole_185 rfl (lv_at hl 0 rfl) ?_
              refine lv_iload_n hx hb d_Mo_whole_186 rfl (lv_at hl 1 rfl) ?_
              refine lv_iconst (v := 2) hx hb d_Mo_whole_187 (by decide) ?_
              refine W.eq (g2 := F0 m 188 ls [.int (nI 2), .int (nI s9), .ref mo, .int 2, .int (nI s9), .ref mo]) rfl ?_
              have hPc := hP.sub (ws' := [(mo, .inr (13, MF 30 (rf (rs v Q o) j br))), (Q.qq, .inl (cI, (8 * Q.C), .inl Q.qf))]) [0, 2] rfl
              have hDc := hD.sub (ws' := [(mo, .inr (13, MF 30 (rf (rs v Q o) j br))), (Q.qq, .inl (cI, (8 * Q.C), .inl Q.qf))]) [0, 2] (by decide) rfl
              have hKc := hK.sub (tys' := [(cI, .int)]) [1] rfl
              have hFc := va_free (wc := [(mo, .inr (13, MF 30 (rf (rs v Q o) j br))), (Q.qq, .inl (cI, (8 * Q.C), .inl Q.qf))]) hD hS hA [0, 2] rfl
              refine va_calli (va_runV (As := [.int (nI s9), .int (nI 2)]) (rest := [.int 2, .int (nI s9), .ref mo]) ⟨hx, hb, hml, hown, hts⟩ (c_Mo_field l dC dI mo H (rf (rs v Q o) j br) cI Q.qq (8 * Q.C) Q.qf s9 2 (by omega) (by omega) ((rf_ne (by decide) (by decide)).trans rs_19)) (cwV 2 hts (gt_V (own := R_Mo) (C := R_Mo) (i := 286) (y := y_Mo_field) i_Mo_field w_1431 w_1433 (gt_sel (y := y_Mo_field) (n := 30) (by decide +kernel)) w_7) rfl rfl rfl (by decide +kernel) ⟨Nat.le_of_ble_eq_true rfl, Nat.le_of_ble_eq_true rfl⟩) ⟨mp_blind, va_recv hKc hPc (ci := 13) (q0 := 0) rfl rfl, fun U hU hW => ⟨rfl, hU, by rw [hU]; exact hPc, va_K.moved hW.alike hKc, hDc.weaken (fun _ _ _ _ => trivial)⟩⟩ rfl rfl hl.1 rfl (lv_room (Nat.le_of_ble_eq_true rfl)) d_Mo_whole_188 ⟨Nat.le_of_ble_eq_true rfl, Nat.le_of_ble_eq_true rfl⟩) hS (fun q _ h => hFc q h) hFc (fun r7 _u t9 H1 locs ht hvm hw hB hz1 hk1 hS => ?_)
              obtain ⟨hP1, hK1, hD1⟩ := hB
              rw [ht] at hP1
              obtain ⟨hP, hD⟩ := va_join (wr := [(qx, .inl (cB, NN, .inl f)), (Q.qe, .inl (cL, (3 * Q.C), .inr (.inl (vp_updL Q.ef (3 * s9 + wh) (-a)))))]) (w1 := [(mo, .inr (13, MF 30 (rf (rs v Q o) j br))), (Q.qq, .inl (cI, (8 * Q.C), .inl Q.qf))]) hP hD [0, 2] [1, 3] rfl rfl (by decide) (by decide) hk1 hFc hP1 hD1
              generalize H1 = H at hP hS ⊢
              have hP : va_P (dC, dI) classes [(qx, .inl (cB, NN, .inl f)), (Q.qe, .inl (cL, (3 * Q.C), .inr (.inl (vp_updL Q.ef (3 * s9 + wh) (-a))))), (mo, .inr (13, MF 30 (rf (rs v Q o) j br))), (Q.qq, .inl (cI, (8 * Q.C), .inl Q.qf))] H := hP
              have hD : va_D A [(qx, .inl (cB, NN, .inl f)), (Q.qe, .inl (cL, (3 * Q.C), .inr (.inl (vp_updL Q.ef (3 * s9 + wh) (-a))))), (mo, .inr (13, MF 30 (rf (rs v Q o) j br))), (Q.qq, .inl (cI, (8 * Q.C), .inl Q.qf))] := hD
              have hP := hP.sub (ws' := [(mo, .inr (13, MF 30 (rf (rs v Q o) j br))), (qx, .inl (cB, NN, .inl f)), (Q.qq, .inl (cI, (8 * Q.C), .inl Q.qf)), (Q.qe, .inl (cL, (3 * Q.C), .inr (.inl (vp_updL Q.ef (3 * s9 + wh) (-a)))))]) [2, 0, 3, 1] rfl
              have hD := hD.sub (ws' := [(mo, .inr (13, MF 30 (rf (rs v Q o) j br))), (qx, .inl (cB, NN, .inl f)), (Q.qq, .inl (cI, (8 * Q.C), .inl Q.qf)), (Q.qe, .inl (cL, (3 * Q.C), .inr (.inl (vp_updL Q.ef (3 * s9 + wh) (-a)))))]) [2, 0, 3, 1] (by decide) rfl
              have h_r7 : r7 = Q.qf (8 * s9 + 2) := hw
              refine lv_iconst (v := 1) hx hb d_Mo_whole_191 (by decide) ?_
              refine lv_iload_n hx hb d_Mo_whole_192 rfl (lv_at hl 2 rfl) ?_
              refine lv_ishl hx hb d_Mo_whole_193 ?_
              refine lv_ior hx hb d_Mo_whole_194 ?_
              refine W.eq (g2 := F0 m 195 ls [.int (r7 ||| (1 <<< ((nI wh) &&& 31))), .int (nI 2), .int (nI s9), .ref mo]) rfl ?_
              rw [h_r7]
              have hPc := hP.sub (ws' := [(mo, .inr (13, MF 30 (rf (rs v Q o) j br))), (Q.qq, .inl (cI, (8 * Q.C), .inl Q.qf))]) [0, 2] rfl
              have hDc := hD.sub (ws' := [(mo, .inr (13, MF 30 (rf (rs v Q o) j br))), (Q.qq, .inl (cI, (8 * Q.C), .inl Q.qf))]) [0, 2] (by decide) rfl
              have hKc := hK.sub (tys' := [(cI, .int)]) [1] rfl
              have hFc := va_free (wc := [(mo, .inr (13, MF 30 (rf (rs v Q o) j br))), (Q.qq, .inl (cI, (8 * Q.C), .inl Q.qf))]) hD hS hA [0, 2] rfl
              refine va_callv (va_runV (As := [.int (nI s9), .int (nI 2), .int (Q.qf (8 * s9 + 2) ||| (1 <<< ((nI wh) &&& 31)))]) (rest := []) ⟨hx, hb, hml, hown, hts⟩ (c_Mo_set l dC dI mo H (rf (rs v Q o) j br) cI Q.qq (8 * Q.C) Q.qf s9 2 ((Q.qf (8 * s9 + 2) ||| (1 <<< ((nI wh) &&& 31)))) (by omega) (by omega) ((rf_ne (by decide) (by decide)).trans rs_19)) (cwV 3 hts (gt_V (own := R_Mo) (C := R_Mo) (i := 272) (y := y_Mo_set) i_Mo_set w_1411 w_1413 (gt_sel (y := y_Mo_set) (n := 30) (by decide +kernel)) w_7) rfl rfl rfl (by decide +kernel) ⟨Nat.le_of_ble_eq_true rfl, Nat.le_of_ble_eq_true rfl⟩) ⟨mp_blind, va_recv hKc hPc (ci := 13) (q0 := 0) rfl rfl, fun U hU hW => ⟨rfl, hU, by rw [hU]; exact hPc, va_K.moved hW.alike hKc, hDc.weaken (fun _ _ _ _ => trivial)⟩⟩ rfl rfl hl.1 rfl (lv_room (Nat.le_of_ble_eq_true rfl)) d_Mo_whole_195 ⟨Nat.le_of_ble_eq_true rfl, Nat.le_of_ble_eq_true rfl⟩) hS (fun q _ h => hFc q h) hFc (fun _u t9 H1 locs ht hvm hw hB hz1 hk1 hS => ?_)
              obtain ⟨hP1, hK1, hD1⟩ := hB
              rw [ht] at hP1
              obtain ⟨hP, hD⟩ := va_join (wr := [(qx, .inl (cB, NN, .inl f)), (Q.qe, .inl (cL, (3 * Q.C), .inr (.inl (vp_updL Q.ef (3 * s9 + wh) (-a)))))]) (w1 := [(mo, .inr (13, MF 30 (rf (rs v Q o) j br))), (Q.qq, .inl (cI, (8 * Q.C), .inl (upd Q.qf (8 * s9 + 2) ((Q.qf (8 * s9 + 2) ||| (1 <<< ((nI wh) &&& 31)))))))]) hP hD [0, 2] [1, 3] rfl rfl (by decide) (by decide) hk1 hFc hP1 hD1
              generalize H1 = H at hP hS ⊢
              have hP : va_P (dC, dI) classes [(qx, .inl (cB, NN, .inl f)), (Q.qe, .inl (cL, (3 * Q.C), .inr (.inl (vp_updL Q.ef (3 * s9 + wh) (-a))))), (mo, .inr (13, MF 30 (rf (rs v Q o) j br))), (Q.qq, .inl (cI, (8 * Q.C), .inl (upd Q.qf (8 * s9 + 2) ((Q.qf (8 * s9 + 2) ||| (1 <<< ((nI wh) &&& 31)))))))] H := hP
              have hD : va_D A [(qx, .inl (cB, NN, .inl f)), (Q.qe, .inl (cL, (3 * Q.C), .inr (.inl (vp_updL Q.ef (3 * s9 + wh) (-a))))), (mo, .inr (13, MF 30 (rf (rs v Q o) j br))), (Q.qq, .inl (cI, (8 * Q.C), .inl (upd Q.qf (8 * s9 + 2) ((Q.qf (8 * s9 + 2) ||| (1 <<< ((nI wh) &&& 31)))))))] := hD
              have hP := hP.sub (ws' := [(mo, .inr (13, MF 30 (rf (rs v Q o) j br))), (qx, .inl (cB, NN, .inl f)), (Q.qq, .inl (cI, (8 * Q.C), .inl (upd Q.qf (8 * s9 + 2) ((Q.qf (8 * s9 + 2) ||| (1 <<< ((nI wh) &&& 31))))))), (Q.qe, .inl (cL, (3 * Q.C), .inr (.inl (vp_updL Q.ef (3 * s9 + wh) (-a)))))]) [2, 0, 3, 1] rfl
              have hD := hD.sub (ws' := [(mo, .inr (13, MF 30 (rf (rs v Q o) j br))), (qx, .inl (cB, NN, .inl f)), (Q.qq, .inl (cI, (8 * Q.C), .inl (upd Q.qf (8 * s9 + 2) ((Q.qf (8 * s9 + 2) ||| (1 <<< ((nI wh) &&& 31))))))), (Q.qe, .inl (cL, (3 * Q.C), .inr (.inl (vp_updL Q.ef (3 * s9 + wh) (-a)))))]) [2, 0, 3, 1] (by decide) rfl
              refine lv_iconst (v := 1) hx hb d_Mo_whole_198 (by decide) ?_
              have hfin : whM f n i = some ((-a), j) := by unfold whM; rw [if_pos (h_r1.symm.trans c11)]; unfold whB; rw [if_neg hgo, hdN, if_neg (Int32.not_lt.mpr c150)]; rfl
              exact W.zret (v := 1) hx hb hr rfl (fun t9 ht hW => ⟨⟨1, (j, br, upd Q.qf (8 * s9 + 2) ((Q.qf (8 * s9 + 2) ||| (1 <<< ((nI wh) &&& 31)))), vp_updL Q.ef (3 * s9 + wh) (-a)), rfl, Or.inl ⟨rfl, (-a), hfin, rfl, rfl, hjn⟩, by rw [ht]; exact hP, va_K.moved hW.alike hK, hD⟩, hS.F ht⟩) hS.2.2 d_Mo_whole_199
            · refine lv_aload_n hx hb d_Mo_whole_153 rfl (lv_at hl 0 rfl) ?_
              refine lv_iload_n hx hb d_Mo_whole_154 rfl (lv_at hl 3 rfl) ?_
              have hPc := hP.sub (ws' := [(mo, .inr (13, MF 30 (rf (rs v Q o) j br)))]) [0] rfl
              have hDc := hD.sub (ws' := [(mo, .inr (13, MF 30 (rf (rs v Q o) j br)))]) [0] (by decide) rfl
              have hKc := hK.sub (tys' := []) [] rfl
              have hFc := va_free (wc := [(mo, .inr (13, MF 30 (rf (rs v Q o) j br)))]) hD hS hA [0] rfl
              refine va_calli (va_runV (As := [.int (nI i)]) (rest := []) ⟨hx, hb, hml, hown, hts⟩ (c_Mo_fail l dC dI mo H (rf (rs v Q o) j br) br ((nI i)) rf_9) (cwV 1 hts (gt_V (own := R_Mo) (C := R_Mo) (i := 151) (y := y_Mo_fail) i_Mo_fail w_1250 w_1252 (gt_sel (y := y_Mo_fail) (n := 30) (by decide +kernel)) w_7) rfl rfl rfl (by decide +kernel) ⟨Nat.le_of_ble_eq_true rfl, Nat.le_of_ble_eq_true rfl⟩) ⟨mp_blind, va_recv hKc hPc (ci := 13) (q0 := 0) rfl rfl, fun U hU hW => ⟨rfl, hU, by rw [hU]; exact hPc, va_K.moved hW.alike hKc, hDc.weaken (fun _ _ _ _ => trivial)⟩⟩ rfl rfl hl.1 rfl (lv_room (Nat.le_of_ble_eq_true rfl)) d_Mo_whole_155 ⟨Nat.le_of_ble_eq_true rfl, Nat.le_of_ble_eq_true rfl⟩) hS (fun q _ h => hFc q h) hFc (fun r0 u2 t9 H1 locs ht hvm hw hB hz1 hk1 hS => ?_)
              obtain ⟨hP1, hK1, hD1⟩ := hB
              rw [ht] at hP1
              obtain ⟨hP, hD⟩ := va_join (wr := [(qx, .inl (cB, NN, .inl f)), (Q.qq, .inl (cI, (8 * Q.C), .inl Q.qf)), (Q.qe, .inl (cL, (3 * Q.C), .inr (.inl Q.ef)))]) (w1 := [(mo, .inr (13, MF 30 u2))]) hP hD [0] [1, 2, 3] rfl rfl (by decide) (by decide) hk1 hFc hP1 hD1
              generalize H1 = H at hP hS ⊢
              have hP : va_P (dC, dI) classes [(qx, .inl (cB, NN, .inl f)), (Q.qq, .inl (cI, (8 * Q.C), .inl Q.qf)), (Q.qe, .inl (cL, (3 * Q.C), .inr (.inl Q.ef))), (mo, .inr (13, MF 30 u2))] H := hP
              have hD : va_D A [(qx, .inl (cB, NN, .inl f)), (Q.qq, .inl (cI, (8 * Q.C), .inl Q.qf)), (Q.qe, .inl (cL, (3 * Q.C), .inr (.inl Q.ef))), (mo, .inr (13, MF 30 u2))] := hD
              have hP := hP.sub (ws' := [(mo, .inr (13, MF 30 u2)), (qx, .inl (cB, NN, .inl f)), (Q.qq, .inl (cI, (8 * Q.C), .inl Q.qf)), (Q.qe, .inl (cL, (3 * Q.C), .inr (.inl Q.ef)))]) [3, 0, 1, 2] rfl
              have hD := hD.sub (ws' := [(mo, .inr (13, MF 30 u2)), (qx, .inl (cB, NN, .inl f)), (Q.qq, .inl (cI, (8 * Q.C), .inl Q.qf)), (Q.qe, .inl (cL, (3 * Q.C), .inr (.inl Q.ef)))]) [3, 0, 1, 2] (by decide) rfl
              obtain ⟨b7, h_b7⟩ := rf_fail (v := (rs v Q o)) (i := j) (br := br) (b2 := br) (wh := (nI i))
              have hw : r0 = 0 ∧ u2 = _ := hw
              obtain ⟨hw1, hw2⟩ := hw
              rw [h_b7] at hw2
              rw [hw2] at hP hD
              subst hw1
              have hP : va_P (dC, dI) classes [(mo, .inr (13, MF 30 (rf (rs v Q o) j b7))), (qx, .inl (cB, NN, .inl f)), (Q.qq, .inl (cI, (8 * Q.C), .inl Q.qf)), (Q.qe, .inl (cL, (3 * Q.C), .inr (.inl Q.ef)))] H := hP
              have hD : va_D A [(mo, .inr (13, MF 30 (rf (rs v Q o) j b7))), (qx, .inl (cB, NN, .inl f)), (Q.qq, .inl (cI, (8 * Q.C), .inl Q.qf)), (Q.qe, .inl (cL, (3 * Q.C), .inr (.inl Q.ef)))] := hD
              have hfin : whM f n i = none := by unfold whM; rw [if_pos (h_r1.symm.trans c11)]; unfold whB; rw [if_neg hgo, hdN, if_pos (Int32.not_le.mp c150)]
              exact W.zret (v := 0) hx hb hr rfl (fun t9 ht hW => ⟨⟨0, (j, b7, Q.qf, Q.ef), rfl, Or.inr ⟨rfl, hfin, rfl, rfl⟩, by rw [ht]; exact hP, va_K.moved hW.alike hK, hD⟩, hS.F ht⟩) hS.2.2 d_Mo_whole_158
          · refine lv_lload hx hb d_Mo_whole_104 (lv_at hl 5 rfl) ?_
            refine lv_ldc2 (v := 9007199254740991) hx hb hown (hts _ w_1343) d_Mo_whole_106 ?_
            refine W.lcmp hx hb d_Mo_whole_109 ?_
            refine lv_if_gt (tgt := 131) hx hb d_Mo_whole_110 (by decide) (fun c110 => ?_) (fun c110 => ?_)
            · refine lv_aload_n hx hb d_Mo_whole_131 rfl (lv_at hl 0 rfl) ?_
              refine lv_dup hx hb d_Mo_whole_132 rfl ?_
              refine va_get (D := (dC, dI)) (ci := 13) (v := .int (nI j)) (C := R_Mo) (T := F_Mo) (N := 30) hx hb hts in_Mo hown hK hP 0 rfl rfl 7 (by decide) (hts _ w_1096) (fun _ h9 => h9) (MFg (by decide) rf_7) d_Mo_whole_133 ?_
              refine lv_iconst (v := 1) hx hb d_Mo_whole_136 (by decide) ?_
              refine lv_iadd hx hb d_Mo_whole_137 ?_
              refine W.eq (g2 := F0 m 138 ls [.int (nI (j + 1)), .ref mo]) (by rw [show ((nI j) + 1) = (nI (j + 1)) from nI_1 _]) ?_
              refine va_put (D := (dC, dI)) (ci := 13) (v := .int (nI (j + 1))) (ty := .int) (C := R_Mo) (T := F_Mo) (N := 30) hx hb hts in_Mo t_Mo t_Mo_ok n_Mo hown hK hP hD hS 0 rfl rfl 7 (by decide) (hts _ w_1096) (fun _ h9 => h9) rfl (by decide +kernel) rfl rfl (by rw [MFl]; decide) d_Mo_whole_138 (fun H locs hP hD hS => ?_)
              rw [MFs (n := 30) (k := 7) (by decide)] at hP hD
              have hP : va_P (dC, dI) classes [(mo, .inr (13, MF 30 (va_up (rf (rs v Q o) j br) 7 (.int (nI (j + 1)))))), (qx, .inl (cB, NN, .inl f)), (Q.qq, .inl (cI, (8 * Q.C), .inl Q.qf)), (Q.qe, .inl (cL, (3 * Q.C), .inr (.inl Q.ef)))] H := hP
              have hD : va_D A [(mo, .inr (13, MF 30 (va_up (rf (rs v Q o) j br) 7 (.int (nI (j + 1)))))), (qx, .inl (cB, NN, .inl f)), (Q.qq, .inl (cI, (8 * Q.C), .inl Q.qf)), (Q.qe, .inl (cL, (3 * Q.C), .inr (.inl Q.ef)))] := hD
              rw [rf_u7] at hP hD
              have hP : va_P (dC, dI) classes [(mo, .inr (13, MF 30 (rf (rs v Q o) (j + 1) br))), (qx, .inl (cB, NN, .inl f)), (Q.qq, .inl (cI, (8 * Q.C), .inl Q.qf)), (Q.qe, .inl (cL, (3 * Q.C), .inr (.inl Q.ef)))] H := hP
              have hD : va_D A [(mo, .inr (13, MF 30 (rf (rs v Q o) (j + 1) br))), (qx, .inl (cB, NN, .inl f)), (Q.qq, .inl (cI, (8 * Q.C), .inl Q.qf)), (Q.qe, .inl (cL, (3 * Q.C), .inr (.inl Q.ef)))] := hD
              refine lv_goto (tgt := 94) hx hb d_Mo_whole_141 (by decide) ?_
              have hdj : digH (hereV f n j) := by rw [← h_r4]; exact h_d4.1 c101
              have hltj := digH_lt hdj
              have hst : dgM f n k0 (j + 1) (a) = dgM f n (n + 1) (i + 1) 0 := by
                rw [← hI4, hk0]
                simp only [dgM]
                rw [if_pos hdj, if_pos c110]
              exact ih (k0, j + 1, a) _ _ _ ⟨by omega, by omega, by omega, hst⟩ (by show n + 1 - (j + 1) < n + 1 - j; omega) hP hD hS (lv_sub hl [0, 1, 2, 3, 4, 5] rfl)
            · refine lv_ldc2 (v := 10) hx hb hown (hts _ w_1344) d_Mo_whole_113 ?_
              refine lv_lload hx hb d_Mo_whole_116 (lv_at hl 5 rfl) ?_
              refine lv_lmul hx hb d_Mo_whole_118 ?_
              refine lv_aload_n hx hb d_Mo_whole_119 rfl (lv_at hl 0 rfl) ?_
              have hPc := hP.sub (ws' := [(mo, .inr (13, MF 30 (rf (rs v Q o) j br))), (qx, .inl (cB, NN, .inl f))]) [0, 1] rfl
              have hDc := hD.sub (ws' := [(mo, .inr (13, MF 30 (rf (rs v Q o) j br))), (qx, .inl (cB, NN, .inl f))]) [0, 1] (by decide) rfl
              have hKc := hK.sub (tys' := [(cB, .byte)]) [0] rfl
              have hFc := va_free (wc := [(mo, .inr (13, MF 30 (rf (rs v Q o) j br))), (qx, .inl (cB, NN, .inl f))]) hD hS hA [0, 1] rfl
              refine va_calli (va_runV (As := []) (rest := [.long (10 * a)]) ⟨hx, hb, hml, hown, hts⟩ (c_Mo_c l dC dI mo H (rf (rs v Q o) j br) cB qx NN f n j (by omega) (by omega) (by omega) ((rf_ne (by decide) (by decide)).trans ((rs_ne (by decide) (by decide) (by decide) (by decide)).trans h6)) rf_7 ((rf_ne (by decide) (by decide)).trans ((rs_ne (by decide) (by decide) (by decide) (by decide)).trans h8))) (cwV 0 hts (gt_V (own := R_Mo) (C := R_Mo) (i := 147) (y := y_Mo_c) i_Mo_c w_1233 w_1235 (gt_sel (y := y_Mo_c) (n := 30) (by decide +kernel)) w_7) rfl rfl rfl (by decide +kernel) ⟨Nat.le_of_ble_eq_true rfl, Nat.le_of_ble_eq_true rfl⟩) ⟨mp_blind, va_recv hKc hPc (ci := 13) (q0 := 0) rfl rfl, fun U hU hW => ⟨rfl, hU, by rw [hU]; exact hPc, va_K.moved hW.alike hKc, hDc.weaken (fun _ _ _ _ => trivial)⟩⟩ rfl rfl hl.1 rfl (lv_room (Nat.le_of_ble_eq_true rfl)) d_Mo_whole_120 ⟨Nat.le_of_ble_eq_true rfl, Nat.le_of_ble_eq_true rfl⟩) hS (fun q _ h => hFc q h) hFc (fun r5 _u t9 H1 locs ht hvm hw hB hz1 hk1 hS => ?_)
              obtain ⟨hP1, hK1, hD1⟩ := hB
              rw [ht] at hP1
              obtain ⟨hP, hD⟩ := va_join (wr := [(Q.qq, .inl (cI, (8 * Q.C), .inl Q.qf)), (Q.qe, .inl (cL, (3 * Q.C), .inr (.inl Q.ef)))]) (w1 := [(mo, .inr (13, MF 30 (rf (rs v Q o) j br))), (qx, .inl (cB, NN, .inl f))]) hP hD [0, 1] [2, 3] rfl rfl (by decide) (by decide) hk1 hFc hP1 hD1
              generalize H1 = H at hP hS ⊢
              have hP : va_P (dC, dI) classes [(Q.qq, .inl (cI, (8 * Q.C), .inl Q.qf)), (Q.qe, .inl (cL, (3 * Q.C), .inr (.inl Q.ef))), (mo, .inr (13, MF 30 (rf (rs v Q o) j br))), (qx, .inl (cB, NN, .inl f))] H := hP
              have hD : va_D A [(Q.qq, .inl (cI, (8 * Q.C), .inl Q.qf)), (Q.qe, .inl (cL, (3 * Q.C), .inr (.inl Q.ef))), (mo, .inr (13, MF 30 (rf (rs v Q o) j br))), (qx, .inl (cB, NN, .inl f))] := hD
              have hP := hP.sub (ws' := [(mo, .inr (13, MF 30 (rf (rs v Q o) j br))), (qx, .inl (cB, NN, .inl f)), (Q.qq, .inl (cI, (8 * Q.C), .inl Q.qf)), (Q.qe, .inl (cL, (3 * Q.C), .inr (.inl Q.ef)))]) [2, 3, 0, 1] rfl
              have hD := hD.sub (ws' := [(mo, .inr (13, MF 30 (rf (rs v Q o) j br))), (qx, .inl (cB, NN, .inl f)), (Q.qq, .inl (cI, (8 * Q.C), .inl Q.qf)), (Q.qe, .inl (cL, (3 * Q.C), .inr (.inl Q.ef)))]) [2, 3, 0, 1] (by decide) rfl
              have h_r5 : r5 = hereV f n j := hw
              refine lv_i2l (v := r5.toInt64) hx hb d_Mo_whole_123 rfl ?_
              refine lv_ladd hx hb d_Mo_whole_124 ?_
              refine lv_ldc2 (v := 48) hx hb hown (hts _ w_1345) d_Mo_whole_125 ?_
              refine lv_lsub hx hb d_Mo_whole_128 ?_
              refine lv_lstore (lv' := [(5, .long (((10 * a) + (r5.toInt64)) - 48)), (0, .ref mo), (1, .int (nI s9)), (2, .int (nI wh)), (3, .int (nI i)), (4, .int 1)]) hx hb d_Mo_whole_129 hl (by decide) rfl (fun ls hl => ?_)
              refine lv_aload_n hx hb d_Mo_whole_131 rfl (lv_at hl 1 rfl) ?_
              refine lv_dup hx hb d_Mo_whole_132 rfl ?_
              refine va_get (D := (dC, dI)) (ci := 13) (v := .int (nI j)) (C := R_Mo) (T := F_Mo) (N := 30) hx hb hts in_Mo hown hK hP 0 rfl rfl 7 (by decide) (hts _ w_1096) (fun _ h9 => h9) (MFg (by decide) rf_7) d_Mo_whole_133 ?_
              refine lv_iconst (v := 1) hx hb d_Mo_whole_136 (by decide) ?_
              refine lv_iadd hx hb d_Mo_whole_137 ?_
              refine W.eq (g2 := F0 m 138 ls [.int (nI (j + 1)), .ref mo]) (by rw [show ((nI j) + 1) = (nI (j + 1)) from nI_1 _]) ?_
              refine va_put (D := (dC, dI)) (ci := 13) (v := .int (nI (j + 1))) (ty := .int) (C := R_Mo) (T := F_Mo) (N := 30) hx hb hts in_Mo t_Mo t_Mo_ok n_Mo hown hK hP hD hS 0 rfl rfl 7 (by decide) (hts _ w_1096) (fun _ h9 => h9) rfl (by decide +kernel) rfl rfl (by rw [MFl]; decide) d_Mo_whole_138 (fun H locs hP hD hS => ?_)
              rw [MFs (n := 30) (k := 7) (by decide)] at hP hD
              have hP : va_P (dC, dI) classes [(mo, .inr (13, MF 30 (va_up (rf (rs v Q o) j br) 7 (.int (nI (j + 1)))))), (qx, .inl (cB, NN, .inl f)), (Q.qq, .inl (cI, (8 * Q.C), .inl Q.qf)), (Q.qe, .inl (cL, (3 * Q.C), .inr (.inl Q.ef)))] H := hP
              have hD : va_D A [(mo, .inr (13, MF 30 (va_up (rf (rs v Q o) j br) 7 (.int (nI (j + 1)))))), (qx, .inl (cB, NN, .inl f)), (Q.qq, .inl (cI, (8 * Q.C), .inl Q.qf)), (Q.qe, .inl (cL, (3 * Q.C), .inr (.inl Q.ef)))] := hD
              rw [rf_u7] at hP hD
              have hP : va_P (dC, dI) classes [(mo, .inr (13, MF 30 (rf (rs v Q o) (j + 1) br))), (qx, .inl (cB, NN, .inl f)), (Q.qq, .inl (cI, (8 * Q.C), .inl Q.qf)), (Q.qe, .inl (cL, (3 * Q.C), .inr (.inl Q.ef)))] H := hP
              have hD : va_D A [(mo, .inr (13, MF 30 (rf (rs v Q o) (j + 1) br))), (qx, .inl (cB, NN, .inl f)), (Q.qq, .inl (cI, (8 * Q.C), .inl Q.qf)), (Q.qe, .inl (cL, (3 * Q.C), .inr (.inl Q.ef)))] := hD
              refine lv_goto (tgt := 94) hx hb d_Mo_whole_141 (by decide) ?_
              have hdj : digH (hereV f n j) := by rw [← h_r4]; exact h_d4.1 c101
              have hltj := digH_lt hdj
              have hst : dgM f n k0 (j + 1) ((((10 * a) + (r5.toInt64)) - 48)) = dgM f n (n + 1) (i + 1) 0 := by
                rw [← hI4, hk0]
                simp only [dgM]
                rw [if_pos hdj, if_neg c110, h_r5]
              exact ih (k0, j + 1, (((10 * a) + (r5.toInt64)) - 48)) _ _ _ ⟨by omega, by omega, by omega, hst⟩ (by show n + 1 - (j + 1) < n + 1 - j; omega) hP hD hS (lv_sub hl [1, 2, 3, 4, 5, 0] rfl)
        · refine lv_aload_n hx hb d_Mo_whole_81 rfl (lv_at hl 3 rfl) ?_
          refine lv_dup hx hb d_Mo_whole_82 rfl ?_
          refine va_get (D := (dC, dI)) (ci := 13) (v := .int (nI (i + 1))) (C := R_Mo) (T := F_Mo) (N := 30) hx hb hts in_Mo hown hK hP 0 rfl rfl 7 (by decide) (hts _ w_1096) (fun _ h9 => h9) (MFg (by decide) rf_7) d_Mo_whole_83 ?_
          refine lv_iconst (v := 1) hx hb d_Mo_whole_86 (by decide) ?_
          refine lv_iadd hx hb d_Mo_whole_87 ?_
          refine W.eq (g2 := F0 m 88 ls [.int (nI ((i + 1) + 1)), .ref mo]) (by rw [show ((nI (i + 1)) + 1) = (nI ((i + 1) + 1)) from nI_1 _]) ?_
          refine va_put (D := (dC, dI)) (ci := 13) (v := .int (nI ((i + 1) + 1))) (ty := .int) (C := R_Mo) (T := F_Mo) (N := 30) hx hb hts in_Mo t_Mo t_Mo_ok n_Mo hown hK hP hD hS 0 rfl rfl 7 (by decide) (hts _ w_1096) (fun _ h9 => h9) rfl (by decide +kernel) rfl rfl (by rw [MFl]; decide) d_Mo_whole_88 (fun H locs hP hD hS => ?_)
          rw [MFs (n := 30) (k := 7) (by decide)] at hP hD
          have hP : va_P (dC, dI) classes [(mo, .inr (13, MF 30 (va_up (rf (rs v Q o) (i + 1) br) 7 (.int (nI ((i + 1) + 1)))))), (qx, .inl (cB, NN, .inl f)), (Q.qq, .inl (cI, (8 * Q.C), .inl Q.qf)), (Q.qe, .inl (cL, (3 * Q.C), .inr (.inl Q.ef)))] H := hP
          have hD : va_D A [(mo, .inr (13, MF 30 (va_up (rf (rs v Q o) (i + 1) br) 7 (.int (nI ((i + 1) + 1)))))), (qx, .inl (cB, NN, .inl f)), (Q.qq, .inl (cI, (8 * Q.C), .inl Q.qf)), (Q.qe, .inl (cL, (3 * Q.C), .inr (.inl Q.ef)))] := hD
          rw [rf_u7] at hP hD
          have hP : va_P (dC, dI) classes [(mo, .inr (13, MF 30 (rf (rs v Q o) ((i + 1) + 1) br))), (qx, .inl (cB, NN, .inl f)), (Q.qq, .inl (cI, (8 * Q.C), .inl Q.qf)), (Q.qe, .inl (cL, (3 * Q.C), .inr (.inl Q.ef)))] H := hP
          have hD : va_D A [(mo, .inr (13, MF 30 (rf (rs v Q o) ((i + 1) + 1) br))), (qx, .inl (cB, NN, .inl f)), (Q.qq, .inl (cI, (8 * Q.C), .inl Q.qf)), (Q.qe, .inl (cL, (3 * Q.C), .inr (.inl Q.ef)))] := hD
          refine lv_goto (tgt := 144) hx hb d_Mo_whole_91 (by decide) ?_
          have hdN : dgN f n (i + 1) = (0, (i + 1) + 1) := by unfold dgN; rw [if_pos (h_r3.symm.trans c78)]
          have hjn : (i + 1) + 1 ≤ n := by omega
          refine lv_lload hx hb d_Mo_whole_144 (lv_at hl 0 rfl) ?_
          refine lv_ldc2 (v := 9007199254740991) hx hb hown (hts _ w_1343) d_Mo_whole_146 ?_
          refine W.lcmp hx hb d_Mo_whole_149 ?_
          refine lv_if_le (tgt := 159) hx hb d_Mo_whole_150 (by decide) (fun c150 => ?_) (fun c150 => ?_)
          · refine lv_aload_n hx hb d_Mo_whole_159 rfl (lv_at hl 3 rfl) ?_
            refine va_get (D := (dC, dI)) (ci := 13) (v := .ref Q.qe) (C := R_Mo) (T := F_Mo) (N := 30) hx hb hts in_Mo hown hK hP 0 rfl rfl 20 (by decide) (hts _ w_1109) (fun _ h9 => h9) (MFg (by decide) ((rf_ne (by decide) (by decide)).trans rs_20)) d_Mo_whole_160 ?_
            refine lv_iconst (v := 3) hx hb d_Mo_whole_163 (by decide) ?_
            refine lv_iload_n hx hb d_Mo_whole_164 rfl (lv_at hl 4 rfl) ?_
            refine lv_imul hx hb d_Mo_whole_165 ?_
            refine W.eq (g2 := F0 m 166 ls [.int (nI (3 * s9)), .ref Q.qe]) (by rw [show (3 * (nI s9)) = (nI (3 * s9)) from (by rw [show (3 : Int32) = nI 3 from rfl, pk_mul])]) ?_
            refine lv_iload_n hx hb d_Mo_whole_166 rfl (lv_at hl 5 rfl) ?_
            refine lv_iadd hx hb d_Mo_whole_167 ?_
            refine W.eq (g2 := F0 m 168 ls [.int (nI (3 * s9 + wh)), .ref Q.qe]) (by rw [show ((nI (3 * s9)) + (nI wh)) = (nI (3 * s9 + wh)) from nI_add _ _]) ?_
            refine lv_iload hx hb d_Mo_whole_168 (lv_at hl 1 rfl) ?_
            refine lv_if_eq (tgt := 179) hx hb d_Mo_whole_170 (by decide) (fun h => absurd h (by decide)) (fun _ => ?_)
            refine lv_lload hx hb d_Mo_whole_173 (lv_at hl 0 rfl) ?_
            refine lv_lneg hx hb d_Mo_whole_175 ?_
            refine lv_goto (tgt := 181) hx hb d_Mo_whole_176 (by decide) ?_
            refine va_last hx hb hK hP hD hS 3 2 rfl rfl (vp_in_nI (show 3 * s9 + wh < 3 * Q.C by omega) (by omega)) d_Mo_whole_181 (fun H locs hP hD hS => ?_)
            rw [show (nI (3 * s9 + wh)).toNatClampNeg = 3 * s9 + wh from nI_clamp (by omega)] at hP hD
            have hP : va_P (dC, dI) classes [(mo, .inr (13, MF 30 (rf (rs v Q o) ((i + 1) + 1) br))), (qx, .inl (cB, NN, .inl f)), (Q.qq, .inl (cI, (8 * Q.C), .inl Q.qf)), (Q.qe, .inl (cL, (3 * Q.C), .inr (.inl (vp_updL Q.ef (3 * s9 + wh) (-0)))))] H := hP
            have hD : va_D A [(mo, .inr (13, MF 30 (rf (rs v Q o) ((i + 1) + 1) br))), (qx, .inl (cB, NN, .inl f)), (Q.qq, .inl (cI, (8 * Q.C), .inl Q.qf)), (Q.qe, .inl (cL, (3 * Q.C), .inr (.inl (vp_updL Q.ef (3 * s9 + wh) (-0)))))] := hD
            refine lv_aload_n hx hb d_Mo_whole_182 rfl (lv_at hl 3 rfl) ?_
            refine lv_iload_n hx hb d_Mo_whole_183 rfl (lv_at hl 4 rfl) ?_
            refine lv_iconst (v := 2) hx hb d_Mo_whole_184 (by decide) ?_
            refine lv_aload_n hx hb d_Mo_whole_185 rfl (lv_at hl 3 rfl) ?_
            refine lv_iload_n hx hb d_Mo_whole_186 rfl (lv_at hl 4 rfl) ?_
            refine lv_iconst (v := 2) hx hb d_Mo_whole_187 (by decide) ?_
            refine W.eq (g2 := F0 m 188 ls [.int (nI 2), .int (nI s9), .ref mo, .int 2, .int (nI s9), .ref mo]) rfl ?_
            have hPc := hP.sub (ws' := [(mo, .inr (13, MF 30 (rf (rs v Q o) ((i + 1) + 1) br))), (Q.qq, .inl (cI, (8 * Q.C), .inl Q.qf))]) [0, 2] rfl
            have hDc := hD.sub (ws' := [(mo, .inr (13, MF 30 (rf (rs v Q o) ((i + 1) + 1) br))), (Q.qq, .inl (cI, (8 * Q.C), .inl Q.qf))]) [0, 2] (by decide) rfl
            have hKc := hK.sub (tys' := [(cI, .int)]) [1] rfl
            have hFc := va_free (wc := [(mo, .inr (13, MF 30 (rf (rs v Q o) ((i + 1) + 1) br))), (Q.qq, .inl (cI, (8 * Q.C), .inl Q.qf))]) hD hS hA [0, 2] rfl
            refine va_calli (va_runV (As := [.int (nI s9), .int (nI 2)]) (rest := [.int 2, .int (nI s9), .ref mo]) ⟨hx, hb, hml, hown, hts⟩ (c_Mo_field l dC dI mo H (rf (rs v Q o) ((i + 1) + 1) br) cI Q.qq (8 * Q.C) Q.qf s9 2 (by omega) (by omega) ((rf_ne (by decide) (by decide)).trans rs_19)) (cwV 2 hts (gt_V (own := R_Mo) (C := R_Mo) (i := 286) (y := y_Mo_field) i_Mo_field w_1431 w_1433 (gt_sel (y := y_Mo_field) (n := 30) (by decide +kernel)) w_7) rfl rfl rfl (by decide +kernel) ⟨Nat.le_of_ble_eq_true rfl, Nat.le_of_ble_eq_true rfl⟩) ⟨mp_blind, va_recv hKc hPc (ci := 13) (q0 := 0) rfl rfl, fun U hU hW => ⟨rfl, hU, by rw [hU]; exact hPc, va_K.moved hW.alike hKc, hDc.weaken (fun _ _ _ _ => trivial)⟩⟩ rfl rfl hl.1 rfl (lv_room (Nat.le_of_ble_eq_true rfl)) d_Mo_whole_188 ⟨Nat.le_of_ble_eq_true rfl, Nat.le_of_ble_eq_true rfl⟩) hS (fun q _ h => hFc q h) hFc (fun r7 _u t9 H1 locs ht hvm hw hB hz1 hk1 hS => ?_)
            obtain ⟨hP1, hK1, hD1⟩ := hB
            rw [ht] at hP1
            obtain ⟨hP, hD⟩ := va_join (wr := [(qx, .inl (cB, NN, .inl f)), (Q.qe, .inl (cL, (3 * Q.C), .inr (.inl (vp_updL Q.ef (3 * s9 + wh) (-0)))))]) (w1 := [(mo, .inr (13, MF 30 (rf (rs v Q o) ((i + 1) + 1) br))), (Q.qq, .inl (cI, (8 * Q.C), .inl Q.qf))]) hP hD [0, 2] [1, 3] rfl rfl (by decide) (by decide) hk1 hFc hP1 hD1
            generalize H1 = H at hP hS ⊢
            have hP : va_P (dC, dI) classes [(qx, .inl (cB, NN, .inl f)), (Q.qe, .inl (cL, (3 * Q.C), .inr (.inl (vp_updL Q.ef (3 * s9 + wh) (-0))))), (mo, .inr (13, MF 30 (rf (rs v Q o) ((i + 1) + 1) br))), (Q.qq, .inl (cI, (8 * Q.C), .inl Q.qf))] H := hP
            have hD : va_D A [(qx, .inl (cB, NN, .inl f)), (Q.qe, .inl (cL, (3 * Q.C), .inr (.inl (vp_updL Q.ef (3 * s9 + wh) (-0))))), (mo, .inr (13, MF 30 (rf (rs v Q o) ((i + 1) + 1) br))), (Q.qq, .inl (cI, (8 * Q.C), .inl Q.qf))] := hD
            have hP := hP.sub (ws' := [(mo, .inr (13, MF 30 (rf (rs v Q o) ((i + 1) + 1) br))), (qx, .inl (cB, NN, .inl f)), (Q.qq, .inl (cI, (8 * Q.C), .inl Q.qf)), (Q.qe, .inl (cL, (3 * Q.C), .inr (.inl (vp_updL Q.ef (3 * s9 + wh) (-0)))))]) [2, 0, 3, 1] rfl
            have hD := hD.sub (ws' := [(mo, .inr (13, MF 30 (rf (rs v Q o) ((i + 1) + 1) br))), (qx, .inl (cB, NN, .inl f)), (Q.qq, .inl (cI, (8 * Q.C), .inl Q.qf)), (Q.qe, .inl (cL, (3 * Q.C), .inr (.inl (vp_updL Q.ef (3 * s9 + wh) (-0)))))]) [2, 0, 3, 1] (by decide) rfl
            have h_r7 : r7 = Q.qf (8 * s9 + 2) := hw
            refine lv_iconst (v := 1) hx hb d_Mo_whole_191 (by decide) ?_
            refine lv_iload_n hx hb d_Mo_whole_192 rfl (lv_at hl 5 rfl) ?_
            refine lv_ishl hx hb d_Mo_whole_193 ?_
            refine lv_ior hx hb d_Mo_whole_194 ?_
            refine W.eq (g2 := F0 m 195 ls [.int (r7 ||| (1 <<< ((nI wh) &&& 31))), .int (nI 2), .int (nI s9), .ref mo]) rfl ?_
            rw [h_r7]
            have hPc := hP.sub (ws' := [(mo, .inr (13, MF 30 (rf (rs v Q o) ((i + 1) + 1) br))), (Q.qq, .inl (cI, (8 * Q.C), .inl Q.qf))]) [0, 2] rfl
            have hDc := hD.sub (ws' := [(mo, .inr (13, MF 30 (rf (rs v Q o) ((i + 1) + 1) br))), (Q.qq, .inl (cI, (8 * Q.C), .inl Q.qf))]) [0, 2] (by decide) rfl
            have hKc := hK.sub (tys' := [(cI, .int)]) [1] rfl
            have hFc := va_free (wc := [(mo, .inr (13, MF 30 (rf (rs v Q o) ((i + 1) + 1) br))), (Q.qq, .inl (cI, (8 * Q.C), .inl Q.qf))]) hD hS hA [0, 2] rfl
            refine va_callv (va_runV (As := [.int (nI s9), .int (nI 2), .int (Q.qf (8 * s9 + 2) ||| (1 <<< ((nI wh) &&& 31)))]) (rest := []) ⟨hx, hb, hml, hown, hts⟩ (c_Mo_set l dC dI mo H (rf (rs v Q o) ((i + 1) + 1) br) cI Q.qq (8 * Q.C) Q.qf s9 2 ((Q.qf (8 * s9 + 2) ||| (1 <<< ((nI wh) &&& 31)))) (by omega) (by omega) ((rf_ne (by decide) (by decide)).trans rs_19)) (cwV 3 hts (gt_V (own := R_Mo) (C := R_Mo) (i := 272) (y := y_Mo_set) i_Mo_set w_1411 w_1413 (gt_sel (y := y_Mo_set) (n := 30) (by decide +kernel)) w_7) rfl rfl rfl (by decide +kernel) ⟨Nat.le_of_ble_eq_true rfl, Nat.le_of_ble_eq_true rfl⟩) ⟨mp_blind, va_recv hKc hPc (ci := 13) (q0 := 0) rfl rfl, fun U hU hW => ⟨rfl, hU, by rw [hU]; exact hPc, va_K.moved hW.alike hKc, hDc.weaken (fun _ _ _ _ => trivial)⟩⟩ rfl rfl hl.1 rfl (lv_room (Nat.le_of_ble_eq_true rfl)) d_Mo_whole_195 ⟨Nat.le_of_ble_eq_true rfl, Nat.le_of_ble_eq_true rfl⟩) hS (fun q _ h => hFc q h) hFc (fun _u t9 H1 locs ht hvm hw hB hz1 hk1 hS => ?_)
            obtain ⟨hP1, hK1, hD1⟩ := hB
            rw [ht] at hP1
            obtain ⟨hP, hD⟩ := va_join (wr := [(qx, .inl (cB, NN, .inl f)), (Q.qe, .inl (cL, (3 * Q.C), .inr (.inl (vp_updL Q.ef (3 * s9 + wh) (-0)))))]) (w1 := [(mo, .inr (13, MF 30 (rf (rs v Q o) ((i + 1) + 1) br))), (Q.qq, .inl (cI, (8 * Q.C), .inl (upd Q.qf (8 * s9 + 2) ((Q.qf (8 * s9 + 2) ||| (1 <<< ((nI wh) &&& 31)))))))]) hP hD [0, 2] [1, 3] rfl rfl (by decide) (by decide) hk1 hFc hP1 hD1
            generalize H1 = H at hP hS ⊢
            have hP : va_P (dC, dI) classes [(qx, .inl (cB, NN, .inl f)), (Q.qe, .inl (cL, (3 * Q.C), .inr (.inl (vp_updL Q.ef (3 * s9 + wh) (-0))))), (mo, .inr (13, MF 30 (rf (rs v Q o) ((i + 1) + 1) br))), (Q.qq, .inl (cI, (8 * Q.C), .inl (upd Q.qf (8 * s9 + 2) ((Q.qf (8 * s9 + 2) ||| (1 <<< ((nI wh) &&& 31)))))))] H := hP
            have hD : va_D A [(qx, .inl (cB, NN, .inl f)), (Q.qe, .inl (cL, (3 * Q.C), .inr (.inl (vp_updL Q.ef (3 * s9 + wh) (-0))))), (mo, .inr (13, MF 30 (rf (rs v Q o) ((i + 1) + 1) br))), (Q.qq, .inl (cI, (8 * Q.C), .inl (upd Q.qf (8 * s9 + 2) ((Q.qf (8 * s9 + 2) ||| (1 <<< ((nI wh) &&& 31)))))))] := hD
            have hP := hP.sub (ws' := [(mo, .inr (13, MF 30 (rf (rs v Q o) ((i + 1) + 1) br))), (qx, .inl (cB, NN, .inl f)), (Q.qq, .inl (cI, (8 * Q.C), .inl (upd Q.qf (8 * s9 + 2) ((Q.qf (8 * s9 + 2) ||| (1 <<< ((nI wh) &&& 31))))))), (Q.qe, .inl (cL, (3 * Q.C), .inr (.inl (vp_updL Q.ef (3 * s9 + wh) (-0)))))]) [2, 0, 3, 1] rfl
            have hD := hD.sub (ws' := [(mo, .inr (13, MF 30 (rf (rs v Q o) ((i + 1) + 1) br))), (qx, .inl (cB, NN, .inl f)), (Q.qq, .inl (cI, (8 * Q.C), .inl (upd Q.qf (8 * s9 + 2) ((Q.qf (8 * s9 + 2) ||| (1 <<< ((nI wh) &&& 31))))))), (Q.qe, .inl (cL, (3 * Q.C), .inr (.inl (vp_updL Q.ef (3 * s9 + wh) (-0)))))]) [2, 0, 3, 1] (by decide) rfl
            refine lv_iconst (v := 1) hx hb d_Mo_whole_198 (by decide) ?_
            have hfin : whM f n i = some ((-0), ((i + 1) + 1)) := by unfold whM; rw [if_pos (h_r1.symm.trans c11)]; unfold whB; rw [if_neg hgo, hdN, if_neg (Int32.not_lt.mpr c150)]; rfl
            exact W.zret (v := 1) hx hb hr rfl (fun t9 ht hW => ⟨⟨1, (((i + 1) + 1), br, upd Q.qf (8 * s9 + 2) ((Q.qf (8 * s9 + 2) ||| (1 <<< ((nI wh) &&& 31)))), vp_updL Q.ef (3 * s9 + wh) (-0)), rfl, Or.inl ⟨rfl, (-0), hfin, rfl, rfl, hjn⟩, by rw [ht]; exact hP, va_K.moved hW.alike hK, hD⟩, hS.F ht⟩) hS.2.2 d_Mo_whole_199
          · refine lv_aload_n hx hb d_Mo_whole_153 rfl (lv_at hl 3 rfl) ?_
            refine lv_iload_n hx hb d_Mo_whole_154 rfl (lv_at hl 2 rfl) ?_
            have hPc := hP.sub (ws' := [(mo, .inr (13, MF 30 (rf (rs v Q o) ((i + 1) + 1) br)))]) [0] rfl
            have hDc := hD.sub (ws' := [(mo, .inr (13, MF 30 (rf (rs v Q o) ((i + 1) + 1) br)))]) [0] (by decide) rfl
            have hKc := hK.sub (tys' := []) [] rfl
            have hFc := va_free (wc := [(mo, .inr (13, MF 30 (rf (rs v Q o) ((i + 1) + 1) br)))]) hD hS hA [0] rfl
            refine va_calli (va_runV (As := [.int (nI i)]) (rest := []) ⟨hx, hb, hml, hown, hts⟩ (c_Mo_fail l dC dI mo H (rf (rs v Q o) ((i + 1) + 1) br) br ((nI i)) rf_9) (cwV 1 hts (gt_V (own := R_Mo) (C := R_Mo) (i := 151) (y := y_Mo_fail) i_Mo_fail w_1250 w_1252 (gt_sel (y := y_Mo_fail) (n := 30) (by decide +kernel)) w_7) rfl rfl rfl (by decide +kernel) ⟨Nat.le_of_ble_eq_true rfl, Nat.le_of_ble_eq_true rfl⟩) ⟨mp_blind, va_recv hKc hPc (ci := 13) (q0 := 0) rfl rfl, fun U hU hW => ⟨rfl, hU, by rw [hU]; exact hPc, va_K.moved hW.alike hKc, hDc.weaken (fun _ _ _ _ => trivial)⟩⟩ rfl rfl hl.1 rfl (lv_room (Nat.le_of_ble_eq_true rfl)) d_Mo_whole_155 ⟨Nat.le_of_ble_eq_true rfl, Nat.le_of_ble_eq_true rfl⟩) hS (fun q _ h => hFc q h) hFc (fun r0 u2 t9 H1 locs ht hvm hw hB hz1 hk1 hS => ?_)
            obtain ⟨hP1, hK1, hD1⟩ := hB
            rw [ht] at hP1
            obtain ⟨hP, hD⟩ := va_join (wr := [(qx, .inl (cB, NN, .inl f)), (Q.qq, .inl (cI, (8 * Q.C), .inl Q.qf)), (Q.qe, .inl (cL, (3 * Q.C), .inr (.inl Q.ef)))]) (w1 := [(mo, .inr (13, MF 30 u2))]) hP hD [0] [1, 2, 3] rfl rfl (by decide) (by decide) hk1 hFc hP1 hD1
            generalize H1 = H at hP hS ⊢
            have hP : va_P (dC, dI) classes [(qx, .inl (cB, NN, .inl f)), (Q.qq, .inl (cI, (8 * Q.C), .inl Q.qf)), (Q.qe, .inl (cL, (3 * Q.C), .inr (.inl Q.ef))), (mo, .inr (13, MF 30 u2))] H := hP
            have hD : va_D A [(qx, .inl (cB, NN, .inl f)), (Q.qq, .inl (cI, (8 * Q.C), .inl Q.qf)), (Q.qe, .inl (cL, (3 * Q.C), .inr (.inl Q.ef))), (mo, .inr (13, MF 30 u2))] := hD
            have hP := hP.sub (ws' := [(mo, .inr (13, MF 30 u2)), (qx, .inl (cB, NN, .inl f)), (Q.qq, .inl (cI, (8 * Q.C), .inl Q.qf)), (Q.qe, .inl (cL, (3 * Q.C), .inr (.inl Q.ef)))]) [3, 0, 1, 2] rfl
            have hD := hD.sub (ws' := [(mo, .inr (13, MF 30 u2)), (qx, .inl (cB, NN, .inl f)), (Q.qq, .inl (cI, (8 * Q.C), .inl Q.qf)), (Q.qe, .inl (cL, (3 * Q.C), .inr (.inl Q.ef)))]) [3, 0, 1, 2] (by decide) rfl
            obtain ⟨b7, h_b7⟩ := rf_fail (v := (rs v Q o)) (i := ((i + 1) + 1)) (br := br) (b2 := br) (wh := (nI i))
            have hw : r0 = 0 ∧ u2 = _ := hw
            obtain ⟨hw1, hw2⟩ := hw
            rw [h_b7] at hw2
            rw [hw2] at hP hD
            subst hw1
            have hP : va_P (dC, dI) classes [(mo, .inr (13, MF 30 (rf (rs v Q o) ((i + 1) + 1) b7))), (qx, .inl (cB, NN, .inl f)), (Q.qq, .inl (cI, (8 * Q.C), .inl Q.qf)), (Q.qe, .inl (cL, (3 * Q.C), .inr (.inl Q.ef)))] H := hP
            have hD : va_D A [(mo, .inr (13, MF 30 (rf (rs v Q o) ((i + 1) + 1) b7))), (qx, .inl (cB, NN, .inl f)), (Q.qq, .inl (cI, (8 * Q.C), .inl Q.qf)), (Q.qe, .inl (cL, (3 * Q.C), .inr (.inl Q.ef)))] := hD
            have hfin : whM f n i = none := by unfold whM; rw [if_pos (h_r1.symm.trans c11)]; unfold whB; rw [if_neg hgo, hdN, if_pos (Int32.not_le.mp c150)]
            exact W.zret (v := 0) hx hb hr rfl (fun t9 ht hW => ⟨⟨0, (((i + 1) + 1), b7, Q.qf, Q.ef), rfl, Or.inr ⟨rfl, hfin, rfl, rfl⟩, by rw [ht]; exact hP, va_K.moved hW.alike hK, hD⟩, hS.F ht⟩) hS.2.2 d_Mo_whole_158
      · refine lv_aload_n hx hb d_Mo_whole_60 rfl (lv_at hl 2 rfl) ?_
        refine lv_aload_n hx hb d_Mo_whole_61 rfl (lv_at hl 2 rfl) ?_
        refine va_get (D := (dC, dI)) (ci := 13) (v := .int (nI (i + 1))) (C := R_Mo) (T := F_Mo) (N := 30) hx hb hts in_Mo hown hK hP 0 rfl rfl 7 (by decide) (hts _ w_1096) (fun _ h9 => h9) (MFg (by decide) rf_7) d_Mo_whole_62 ?_
        have hPc := hP.sub (ws' := [(mo, .inr (13, MF 30 (rf (rs v Q o) (i + 1) br)))]) [0] rfl
        have hDc := hD.sub (ws' := [(mo, .inr (13, MF 30 (rf (rs v Q o) (i + 1) br)))]) [0] (by decide) rfl
        have hKc := hK.sub (tys' := []) [] rfl
        have hFc := va_free (wc := [(mo, .inr (13, MF 30 (rf (rs v Q o) (i + 1) br)))]) hD hS hA [0] rfl
        refine va_calli (va_runV (As := [.int (nI (i + 1))]) (rest := []) ⟨hx, hb, hml, hown, hts⟩ (c_Mo_fail l dC dI mo H (rf (rs v Q o) (i + 1) br) br ((nI (i + 1))) rf_9) (cwV 1 hts (gt_V (own := R_Mo) (C := R_Mo) (i := 151) (y := y_Mo_fail) i_Mo_fail w_1250 w_1252 (gt_sel (y := y_Mo_fail) (n := 30) (by decide +kernel)) w_7) rfl rfl rfl (by decide +kernel) ⟨Nat.le_of_ble_eq_true rfl, Nat.le_of_ble_eq_true rfl⟩) ⟨mp_blind, va_recv hKc hPc (ci := 13) (q0 := 0) rfl rfl, fun U hU hW => ⟨rfl, hU, by rw [hU]; exact hPc, va_K.moved hW.alike hKc, hDc.weaken (fun _ _ _ _ => trivial)⟩⟩ rfl rfl hl.1 rfl (lv_room (Nat.le_of_ble_eq_true rfl)) d_Mo_whole_65 ⟨Nat.le_of_ble_eq_true rfl, Nat.le_of_ble_eq_true rfl⟩) hS (fun q _ h => hFc q h) hFc (fun r0 u2 t9 H1 locs ht hvm hw hB hz1 hk1 hS => ?_)
        obtain ⟨hP1, hK1, hD1⟩ := hB
        rw [ht] at hP1
        obtain ⟨hP, hD⟩ := va_join (wr := [(qx, .inl (cB, NN, .inl f)), (Q.qq, .inl (cI, (8 * Q.C), .inl Q.qf)), (Q.qe, .inl (cL, (3 * Q.C), .inr (.inl Q.ef)))]) (w1 := [(mo, .inr (13, MF 30 u2))]) hP hD [0] [1, 2, 3] rfl rfl (by decide) (by decide) hk1 hFc hP1 hD1
        generalize H1 = H at hP hS ⊢
        have hP : va_P (dC, dI) classes [(qx, .inl (cB, NN, .inl f)), (Q.qq, .inl (cI, (8 * Q.C), .inl Q.qf)), (Q.qe, .inl (cL, (3 * Q.C), .inr (.inl Q.ef))), (mo, .inr (13, MF 30 u2))] H := hP
        have hD : va_D A [(qx, .inl (cB, NN, .inl f)), (Q.qq, .inl (cI, (8 * Q.C), .inl Q.qf)), (Q.qe, .inl (cL, (3 * Q.C), .inr (.inl Q.ef))), (mo, .inr (13, MF 30 u2))] := hD
        have hP := hP.sub (ws' := [(mo, .inr (13, MF 30 u2)), (qx, .inl (cB, NN, .inl f)), (Q.qq, .inl (cI, (8 * Q.C), .inl Q.qf)), (Q.qe, .inl (cL, (3 * Q.C), .inr (.inl Q.ef)))]) [3, 0, 1, 2] rfl
        have hD := hD.sub (ws' := [(mo, .inr (13, MF 30 u2)), (qx, .inl (cB, NN, .inl f)), (Q.qq, .inl (cI, (8 * Q.C), .inl Q.qf)), (Q.qe, .inl (cL, (3 * Q.C), .inr (.inl Q.ef)))]) [3, 0, 1, 2] (by decide) rfl
        obtain ⟨b7, h_b7⟩ := rf_fail (v := (rs v Q o)) (i := (i + 1)) (br := br) (b2 := br) (wh := (nI (i + 1)))
        have hw : r0 = 0 ∧ u2 = _ := hw
        obtain ⟨hw1, hw2⟩ := hw
        rw [h_b7] at hw2
        rw [hw2] at hP hD
        subst hw1
        have hP : va_P (dC, dI) classes [(mo, .inr (13, MF 30 (rf (rs v Q o) (i + 1) b7))), (qx, .inl (cB, NN, .inl f)), (Q.qq, .inl (cI, (8 * Q.C), .inl Q.qf)), (Q.qe, .inl (cL, (3 * Q.C), .inr (.inl Q.ef)))] H := hP
        have hD : va_D A [(mo, .inr (13, MF 30 (rf (rs v Q o) (i + 1) b7))), (qx, .inl (cB, NN, .inl f)), (Q.qq, .inl (cI, (8 * Q.C), .inl Q.qf)), (Q.qe, .inl (cL, (3 * Q.C), .inr (.inl Q.ef)))] := hD
        have hfin : whM f n i = none := by unfold whM; rw [if_pos (h_r1.symm.trans c11)]; unfold whB; rw [if_pos (Or.inr ⟨rfl, h_r9.symm.trans c57⟩)]
        exact W.zret (v := 0) hx hb hr rfl (fun t9 ht hW => ⟨⟨0, ((i + 1), b7, Q.qf, Q.ef), rfl, Or.inr ⟨rfl, hfin, rfl, rfl⟩, by rw [ht]; exact hP, va_K.moved hW.alike hK, hD⟩, hS.F ht⟩) hS.2.2 d_Mo_whole_68
