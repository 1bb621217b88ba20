theorem w_1274 : (.methodLink "QueryBenchModel" 171 ⟨"java/lang/String", "indexOf", "(I)I"⟩ : Cond) ∈ gtbl := gt_in 1274 (by decide +kernel) (by decide +kernel)
theorem w_1275 : (.instanceMethod ⟨"java/lang/String", "indexOf", "(I)I"⟩ : Cond) ∈ gtbl := gt_in 1275 (by decide +kernel) (by decide +kernel)
theorem w_1276 : (.selects "java/lang/String" ⟨"java/lang/String", "indexOf", "(I)I"⟩ ⟨"java/lang/String", "indexOf", "(I)I"⟩ : Cond) ∈ gtbl := gt_in 1276 (by decide +kernel) (by decide +kernel)
theorem w_1329 : (.methodLink "QueryBenchModel" 174 ⟨"QueryBenchModel", "hex", "(I)I"⟩ : Cond) ∈ gtbl := gt_in 1329 (by decide +kernel) (by decide +kernel)
theorem w_1330 : (.static ⟨"QueryBenchModel", "hex", "(I)I"⟩ : Cond) ∈ gtbl := gt_in 1330 (by decide +kernel) (by decide +kernel)
/-- the text of the five letters -/
def bfB (j : Nat) : Int32 := [98, 102, 110, 114, 116].getD j 0
abbrev mbf (sa av : Nat) (dC : Nat → ClassId) (dI : Nat → Nat → Nat) (ws : va_W) (tys : List (ClassId × FieldType)) (sz : Heap) (U : State) : Prop := mp dC dI ws tys sz U ∧ SX sa av 5 bfB (va_A ws sz.size) U U.heap ∧ vk_R "QueryBenchModel" 169 "bfnrt" sa U
theorem mbf_blind {sa av : Nat} {dC : Nat → ClassId} {dI : Nat → Nat → Nat} {ws : va_W} {tys : List (ClassId × FieldType)} {sz : Heap} {vs : List Value} : FrameBlind (va_Pc vs (mbf sa av dC dI ws tys sz)) := fun a U g mk q => by
  obtain ⟨q0, ⟨q1, qP, qK, qD⟩, qE, qR⟩ := q
  exact ⟨q0, ⟨q1, qP, va_K.moved (u := U) (U := U.calling g mk a) (Vm.Alike.refl U.vm) qK, qD⟩, SX.moved' (u := U) (U := U.calling g mk a) (Vm.Alike.refl U.vm) qE, vk_R.same (u := U) (U := U.calling g mk a) rfl qR⟩
/-- four hexadecimal digits as the reference goes: the value (or -1), and where it stops -/
def hexM (f : Nat → Int32) (n : Nat) : Nat → Nat → Int32 → Int32 × Nat
  | 0, j, a => (a, j)
  | k + 1, j, a => if hexV (hereV f n j) < 0 then (-1, j) else hexM f n k (j + 1) (16 * a + hexV (hereV f n j))
theorem hexM_s {f : Nat → Int32} {n k j : Nat} {a d : Int32} (hd : d = hexV (hereV f n j)) (h : ¬ d < 0) : hexM f n (k + 1) j a = hexM f n k (j + 1) (16 * a + d) := by
  subst hd; simp only [hexM]; rw [if_neg h]
theorem hexM_f {f : Nat → Int32} {n k j : Nat} {a d : Int32} (hd : d = hexV (hereV f n j)) (h : d < 0) : hexM f n (k + 1) j a = (-1, j) := by
  subst hd; simp only [hexM]; rw [if_pos h]
def ixV (k : Int32) : Int32 := if k = 0 then 8 else if k = 1 then 12 else if k = 2 then 10 else if k = 3 then 13 else 9
def bfI (x : Int32) : Int32 := if x < 0 then -1 else ixS bfB 5 x
abbrev b_Mo_escaped : ByteArray := prog_14_method_20_code
def y_Mo_escaped : MethodName := ⟨"QueryBenchModel", "escaped", "(I)I"⟩
abbrev k_Mo_escaped : Cond := .code y_Mo_escaped b_Mo_escaped 8 (some .int)
theorem i_Mo_escaped : k_Mo_escaped ∈ gtbl := gt_in 1272 (by decide +kernel) (by decide +kernel)
theorem d_Mo_escaped_0 : decode b_Mo_escaped 0 = .ok (.aload_n 0, 1) := by decide +kernel
theorem d_Mo_escaped_1 : decode b_Mo_escaped 1 = .ok (.getfield 135, 3) := by decide +kernel
theorem d_Mo_escaped_4 : decode b_Mo_escaped 4 = .ok (.istore_n 2, 1) := by decide +kernel
theorem d_Mo_escaped_5 : decode b_Mo_escaped 5 = .ok (.aload_n 0, 1) := by decide +kernel
theorem d_Mo_escaped_6 : decode b_Mo_escaped 6 = .ok (.dup, 1) := by decide +kernel
theorem d_Mo_escaped_7 : decode b_Mo_escaped 7 = .ok (.getfield 135, 3) := by decide +kernel
theorem d_Mo_escaped_10 : decode b_Mo_escaped 10 = .ok (.iconst 1, 1) := by decide +kernel
theorem d_Mo_escaped_11 : decode b_Mo_escaped 11 = .ok (.iadd, 1) := by decide +kernel
theorem d_Mo_escaped_12 : decode b_Mo_escaped 12 = .ok (.putfield 135, 3) := by decide +kernel
theorem d_Mo_escaped_15 : decode b_Mo_escaped 15 = .ok (.aload_n 0, 1) := by decide +kernel
theorem d_Mo_escaped_16 : decode b_Mo_escaped 16 = .ok (.invokevirtual 147, 3) := by decide +kernel
theorem d_Mo_escaped_19 : decode b_Mo_escaped 19 = .ok (.istore_n 3, 1) := by decide +kernel
theorem d_Mo_escaped_20 : decode b_Mo_escaped 20 = .ok (.aload_n 0, 1) := by decide +kernel
theorem d_Mo_escaped_21 : decode b_Mo_escaped 21 = .ok (.dup, 1) := by decide +kernel
theorem d_Mo_escaped_22 : decode b_Mo_escaped 22 = .ok (.getfield 135, 3) := by decide +kernel
theorem d_Mo_escaped_25 : decode b_Mo_escaped 25 = .ok (.iconst 1, 1) := by decide +kernel
theorem d_Mo_escaped_26 : decode b_Mo_escaped 26 = .ok (.iadd, 1) := by decide +kernel
theorem d_Mo_escaped_27 : decode b_Mo_escaped 27 = .ok (.putfield 135, 3) := by decide +kernel
theorem d_Mo_escaped_30 : decode b_Mo_escaped 30 = .ok (.iload_n 3, 1) := by decide +kernel
theorem d_Mo_escaped_31 : decode b_Mo_escaped 31 = .ok (.iload_n 1, 1) := by decide +kernel
theorem d_Mo_escaped_32 : decode b_Mo_escaped 32 = .ok (.if_icmp .eq 15, 3) := by decide +kernel
theorem d_Mo_escaped_35 : decode b_Mo_escaped 35 = .ok (.iload_n 3, 1) := by decide +kernel
theorem d_Mo_escaped_36 : decode b_Mo_escaped 36 = .ok (.bipush 92, 2) := by decide +kernel
theorem d_Mo_escaped_38 : decode b_Mo_escaped 38 = .ok (.if_icmp .eq 9, 3) := by decide +kernel
theorem d_Mo_escaped_41 : decode b_Mo_escaped 41 = .ok (.iload_n 3, 1) := by decide +kernel
theorem d_Mo_escaped_42 : decode b_Mo_escaped 42 = .ok (.bipush 47, 2) := by decide +kernel
theorem d_Mo_escaped_44 : decode b_Mo_escaped 44 = .ok (.if_icmp .ne 5, 3) := by decide +kernel
theorem d_Mo_escaped_47 : decode b_Mo_escaped 47 = .ok (.iload_n 3, 1) := by decide +kernel
theorem d_Mo_escaped_48 : decode b_Mo_escaped 48 = .ok (.ireturn, 1) := by decide +kernel
theorem d_Mo_escaped_49 : decode b_Mo_escaped 49 = .ok (.iload_n 3, 1) := by decide +kernel
theorem d_Mo_escaped_50 : decode b_Mo_escaped 50 = .ok (.ifCond .ge 7, 3) := by decide +kernel
theorem d_Mo_escaped_53 : decode b_Mo_escaped 53 = .ok (.iconst (-1), 1) := by decide +kernel
theorem d_Mo_escaped_54 : decode b_Mo_escaped 54 = .ok (.goto 9, 3) := by decide +kernel
theorem d_Mo_escaped_57 : decode b_Mo_escaped 57 = .ok (.ldc 169, 2) := by decide +kernel
theorem d_Mo_escaped_59 : decode b_Mo_escaped 59 = .ok (.iload_n 3, 1) := by decide +kernel
theorem d_Mo_escaped_60 : decode b_Mo_escaped 60 = .ok (.invokevirtual 171, 3) := by decide +kernel
theorem d_Mo_escaped_63 : decode b_Mo_escaped 63 = .ok (.istore 4, 2) := by decide +kernel
theorem d_Mo_escaped_65 : decode b_Mo_escaped 65 = .ok (.iload 4, 2) := by decide +kernel
theorem d_Mo_escaped_67 : decode b_Mo_escaped 67 = .ok (.ifCond .lt 49, 3) := by decide +kernel
theorem d_Mo_escaped_70 : decode b_Mo_escaped 70 = .ok (.iload 4, 2) := by decide +kernel
theorem d_Mo_escaped_72 : decode b_Mo_escaped 72 = .ok (.ifCond .ne 8, 3) := by decide +kernel
theorem d_Mo_escaped_75 : decode b_Mo_escaped 75 = .ok (.bipush 8, 2) := by decide +kernel
theorem d_Mo_escaped_77 : decode b_Mo_escaped 77 = .ok (.goto 38, 3) := by decide +kernel
theorem d_Mo_escaped_80 : decode b_Mo_escaped 80 = .ok (.iload 4, 2) := by decide +kernel
theorem d_Mo_escaped_82 : decode b_Mo_escaped 82 = .ok (.iconst 1, 1) := by decide +kernel
theorem d_Mo_escaped_83 : decode b_Mo_escaped 83 = .ok (.if_icmp .ne 8, 3) := by decide +kernel
theorem d_Mo_escaped_86 : decode b_Mo_escaped 86 = .ok (.bipush 12, 2) := by decide +kernel
theorem d_Mo_escaped_88 : decode b_Mo_escaped 88 = .ok (.goto 27, 3) := by decide +kernel
theorem d_Mo_escaped_91 : decode b_Mo_escaped 91 = .ok (.iload 4, 2) := by decide +kernel
theorem d_Mo_escaped_93 : decode b_Mo_escaped 93 = .ok (.iconst 2, 1) := by decide +kernel
theorem d_Mo_escaped_94 : decode b_Mo_escaped 94 = .ok (.if_icmp .ne 8, 3) := by decide +kernel
theorem d_Mo_escaped_97 : decode b_Mo_escaped 97 = .ok (.bipush 10, 2) := by decide +kernel
theorem d_Mo_escaped_99 : decode b_Mo_escaped 99 = .ok (.goto 16, 3) := by decide +kernel
theorem d_Mo_escaped_102 : decode b_Mo_escaped 102 = .ok (.iload 4, 2) := by decide +kernel
theorem d_Mo_escaped_104 : decode b_Mo_escaped 104 = .ok (.iconst 3, 1) := by decide +kernel
theorem d_Mo_escaped_105 : decode b_Mo_escaped 105 = .ok (.if_icmp .ne 8, 3) := by decide +kernel
theorem d_Mo_escaped_108 : decode b_Mo_escaped 108 = .ok (.bipush 13, 2) := by decide +kernel
theorem d_Mo_escaped_110 : decode b_Mo_escaped 110 = .ok (.goto 5, 3) := by decide +kernel
theorem d_Mo_escaped_113 : decode b_Mo_escaped 113 = .ok (.bipush 9, 2) := by decide +kernel
theorem d_Mo_escaped_115 : decode b_Mo_escaped 115 = .ok (.ireturn, 1) := by decide +kernel
theorem d_Mo_escaped_116 : decode b_Mo_escaped 116 = .ok (.iload_n 3, 1) := by decide +kernel
theorem d_Mo_escaped_117 : decode b_Mo_escaped 117 = .ok (.bipush 117, 2) := by decide +kernel
theorem d_Mo_escaped_119 : decode b_Mo_escaped 119 = .ok (.if_icmp .ne 84, 3) := by decide +kernel
theorem d_Mo_escaped_122 : decode b_Mo_escaped 122 = .ok (.iconst 0, 1) := by decide +kernel
theorem d_Mo_escaped_123 : decode b_Mo_escaped 123 = .ok (.istore 5, 2) := by decide +kernel
theorem d_Mo_escaped_125 : decode b_Mo_escaped 125 = .ok (.iconst 0, 1) := by decide +kernel
theorem d_Mo_escaped_126 : decode b_Mo_escaped 126 = .ok (.istore 6, 2) := by decide +kernel
theorem d_Mo_escaped_128 : decode b_Mo_escaped 128 = .ok (.iload 6, 2) := by decide +kernel
theorem d_Mo_escaped_130 : decode b_Mo_escaped 130 = .ok (.iconst 4, 1) := by decide +kernel
theorem d_Mo_escaped_131 : decode b_Mo_escaped 131 = .ok (.if_icmp .ge 69, 3) := by decide +kernel
theorem d_Mo_escaped_134 : decode b_Mo_escaped 134 = .ok (.aload_n 0, 1) := by decide +kernel
theorem d_Mo_escaped_135 : decode b_Mo_escaped 135 = .ok (.invokevirtual 147, 3) := by decide +kernel
theorem d_Mo_escaped_138 : decode b_Mo_escaped 138 = .ok (.invokestatic 174, 3) := by decide +kernel
theorem d_Mo_escaped_141 : decode b_Mo_escaped 141 = .ok (.istore 7, 2) := by decide +kernel
theorem d_Mo_escaped_143 : decode b_Mo_escaped 143 = .ok (.iload 7, 2) := by decide +kernel
theorem d_Mo_escaped_145 : decode b_Mo_escaped 145 = .ok (.ifCond .ge 29, 3) := by decide +kernel
theorem d_Mo_escaped_148 : decode b_Mo_escaped 148 = .ok (.aload_n 0, 1) := by decide +kernel
theorem d_Mo_escaped_149 : decode b_Mo_escaped 149 = .ok (.aload_n 0, 1) := by decide +kernel
theorem d_Mo_escaped_150 : decode b_Mo_escaped 150 = .ok (.getfield 135, 3) := by decide +kernel
theorem d_Mo_escaped_153 : decode b_Mo_escaped 153 = .ok (.aload_n 0, 1) := by decide +kernel
theorem d_Mo_escaped_154 : decode b_Mo_escaped 154 = .ok (.getfield 138, 3) := by decide +kernel
theorem d_Mo_escaped_157 : decode b_Mo_escaped 157 = .ok (.if_icmp .lt 10, 3) := by decide +kernel
theorem d_Mo_escaped_160 : decode b_Mo_escaped 160 = .ok (.aload_n 0, 1) := by decide +kernel
theorem d_Mo_escaped_161 : decode b_Mo_escaped 161 = .ok (.getfield 138, 3) := by decide +kernel
theorem d_Mo_escaped_164 : decode b_Mo_escaped 164 = .ok (.goto 4, 3) := by decide +kernel
theorem d_Mo_escaped_167 : decode b_Mo_escaped 167 = .ok (.iload_n 2, 1) := by decide +kernel
theorem d_Mo_escaped_168 : decode b_Mo_escaped 168 = .ok (.invokevirtual 151, 3) := by decide +kernel
theorem d_Mo_escaped_171 : decode b_Mo_escaped 171 = .ok (.pop, 1) := by decide +kernel
theorem d_Mo_escaped_172 : decode b_Mo_escaped 172 = .ok (.iconst (-1), 1) := by decide +kernel
theorem d_Mo_escaped_173 : decode b_Mo_escaped 173 = .ok (.ireturn, 1) := by decide +kernel
theorem d_Mo_escaped_174 : decode b_Mo_escaped 174 = .ok (.bipush 16, 2) := by decide +kernel
theorem d_Mo_escaped_176 : decode b_Mo_escaped 176 = .ok (.iload 5, 2) := by decide +kernel
theorem d_Mo_escaped_178 : decode b_Mo_escaped 178 = .ok (.imul, 1) := by decide +kernel
theorem d_Mo_escaped_179 : decode b_Mo_escaped 179 = .ok (.iload 7, 2) := by decide +kernel
theorem d_Mo_escaped_181 : decode b_Mo_escaped 181 = .ok (.iadd, 1) := by decide +kernel
theorem d_Mo_escaped_182 : decode b_Mo_escaped 182 = .ok (.istore 5, 2) := by decide +kernel
theorem d_Mo_escaped_184 : decode b_Mo_escaped 184 = .ok (.aload_n 0, 1) := by decide +kernel
theorem d_Mo_escaped_185 : decode b_Mo_escaped 185 = .ok (.dup, 1) := by decide +kernel
theorem d_Mo_escaped_186 : decode b_Mo_escaped 186 = .ok (.getfield 135, 3) := by decide +kernel
theorem d_Mo_escaped_189 : decode b_Mo_escaped 189 = .ok (.iconst 1, 1) := by decide +kernel
theorem d_Mo_escaped_190 : decode b_Mo_escaped 190 = .ok (.iadd, 1) := by decide +kernel
theorem d_Mo_escaped_191 : decode b_Mo_escaped 191 = .ok (.putfield 135, 3) := by decide +kernel
theorem d_Mo_escaped_194 : decode b_Mo_escaped 194 = .ok (.iinc 6 1, 3) := by decide +kernel
theorem d_Mo_escaped_197 : decode b_Mo_escaped 197 = .ok (.goto (-69), 3) := by decide +kernel
theorem d_Mo_escaped_200 : decode b_Mo_escaped 200 = .ok (.iload 5, 2) := by decide +kernel
theorem d_Mo_escaped_202 : decode b_Mo_escaped 202 = .ok (.ireturn, 1) := by decide +kernel
theorem d_Mo_escaped_203 : decode b_Mo_escaped 203 = .ok (.aload_n 0, 1) := by decide +kernel
theorem d_Mo_escaped_204 : decode b_Mo_escaped 204 = .ok (.iload_n 3, 1) := by decide +kernel
theorem d_Mo_escaped_205 : decode b_Mo_escaped 205 = .ok (.ifCond .ge 10, 3) := by decide +kernel
theorem d_Mo_escaped_208 : decode b_Mo_escaped 208 = .ok (.aload_n 0, 1) := by decide +kernel
theorem d_Mo_escaped_209 : decode b_Mo_escaped 209 = .ok (.getfield 138, 3) := by decide +kernel
theorem d_Mo_escaped_212 : decode b_Mo_escaped 212 = .ok (.goto 4, 3) := by decide +kernel
theorem d_Mo_escaped_215 : decode b_Mo_escaped 215 = .ok (.iload_n 2, 1) := by decide +kernel
theorem d_Mo_escaped_216 : decode b_Mo_escaped 216 = .ok (.invokevirtual 151, 3) := by decide +kernel
theorem d_Mo_escaped_219 : decode b_Mo_escaped 219 = .ok (.pop, 1) := by decide +kernel
theorem d_Mo_escaped_220 : decode b_Mo_escaped 220 = .ok (.iconst (-1), 1) := by decide +kernel
theorem d_Mo_escaped_221 : decode b_Mo_escaped 221 = .ok (.ireturn, 1) := by decide +kernel
set_option maxHeartbeats 4000000 in
set_option maxRecDepth 100000 in
/-- the reference: escaped -/
theorem c_Mo_escaped (l : Launch) (dC : Nat → ClassId) (dI : Nat → Nat → Nat) (mo : Nat) (sz : Heap) (v : Nat → Value) (cB : ClassId) (qx NN : Nat) (f : Nat → Int32) (sa av : Nat) (n i : Nat) (hnN : n ≤ NN) (hNN : NN ≤ 1000000) (hi0 : i ≤ 800000) (h6 : v 6 = .ref qx) (h7 : v 7 = .int (nI i)) (h8 : v 8 = .int (nI n)) (br : Int32) (h9 : v 9 = .int br) (q : Int32) : Met l y_Mo_escaped (k_Mo_escaped :: gtbl) ({ frames := 4, cells := 0, slots := 0, locals := 110 }) (va_Pc [.ref mo, .int q] (mbf sa av dC dI [(mo, .inr (13, MF 30 v)), (qx, .inl (cB, NN, .inl f))] [(cB, .byte)] sz)) (va_Qi (fun (r : Int32) (u : Nat → Value) => (r = hereV f n (i + 1) ∧ (hereV f n (i + 1) = q ∨ hereV f n (i + 1) = 92 ∨ hereV f n (i + 1) = 47) ∧ u = va_up v 7 (.int (nI (i + 1 + 1)))) ∨ (¬ (hereV f n (i + 1) = q ∨ hereV f n (i + 1) = 92 ∨ hereV f n (i + 1) = 47) ∧ ¬ bfI (hereV f n (i + 1)) < 0 ∧ r = ixV (bfI (hereV f n (i + 1))) ∧ u = va_up v 7 (.int (nI (i + 1 + 1)))) ∨ (¬ (hereV f n (i + 1) = q ∨ hereV f n (i + 1) = 92 ∨ hereV f n (i + 1) = 47) ∧ bfI (hereV f n (i + 1)) < 0 ∧ hereV f n (i + 1) = 117 ∧ hexM f n 4 (i + 1 + 1) 0 = (r, i + 6) ∧ u = va_up v 7 (.int (nI (i + 6)))) ∨ (¬ (hereV f n (i + 1) = q ∨ hereV f n (i + 1) = 92 ∨ hereV f n (i + 1) = 47) ∧ bfI (hereV f n (i + 1)) < 0 ∧ hereV f n (i + 1) = 117 ∧ r = -1 ∧ ∃ j, j < i + 6 ∧ hexM f n 4 (i + 1 + 1) 0 = (-1, j) ∧ u = mfail (va_up v 7 (.int (nI j))) br (if j < n then nI i else nI n)) ∨ (¬ (hereV f n (i + 1) = q ∨ hereV f n (i + 1) = 92 ∨ hereV f n (i + 1) = 47) ∧ bfI (hereV f n (i + 1)) < 0 ∧ ¬ hereV f n (i + 1) = 117 ∧ r = -1 ∧ u = mfail (va_up v 7 (.int (nI (i + 1 + 1)))) br (if hereV f n (i + 1) < 0 then nI n else nI i))) (fun u => mz dC dI [(mo, .inr (13, MF 30 u)), (qx, .inl (cB, NN, .inl f))] [(cB, .byte)] (va_A [(mo, .inr (13, MF 30 v)), (qx, .inl (cB, NN, .inl f))] sz.size)) (va_A [(mo, .inr (13, MF 30 v)), (qx, .inl (cB, NN, .inl f))] sz.size)) 0 0 (va_A [(mo, .inr (13, MF 30 v)), (qx, .inl (cB, NN, .inl f))] sz.size) := by
  refine Met.ofW (cc := b_Mo_escaped) (maxL := 8) (ret := (some .int)) (by decide) rfl ?_
  intro p e s m args below meth c s₁ B hml hv
  obtain ⟨rfl, ⟨hsz, hP, hK, hD0⟩, hE, hR⟩ := hv
  have hx := B.exec
  have hb := B.bytes
  have hr := B.returns
  have hts0 := atoms_spec (ws := k_Mo_escaped :: gtbl) B.pre
  have hts := fun w h => hts0 w (List.mem_cons_of_mem _ h)
  have hown : s.vm.findClass R_Mo = some m.cls := findClass_of_methodNamed B.named
  have hlocks := B.notSynchronized
  subst hsz
  have hD := hD0.self (sz := s.heap.size)
  generalize hAe : va_A [(mo, .inr (13, MF 30 v)), (qx, .inl (cB, NN, .inl f))] s.heap.size = A at hD hE ⊢
  have hA : ∀ q : Nat, s.heap.size ≤ q → A q := fun q h => by rw [← hAe]; exact Or.inr h
  have hS : va_S A s.heap s.heap [] := va_S.rf
  have hP : va_P (dC, dI) classes [(mo, .inr (13, MF 30 v)), (qx, .inl (cB, NN, .inl f))] s.heap := hP
  have hl := lv_entry ([.ref mo, .int q]) (n := 8) (Nat.le_of_ble_eq_true rfl)
  rw [lg_entry_eq]
  generalize (lg_sl ([.ref mo, .int q]) ++ List.replicate (8 - (lg_sl ([.ref mo, .int q])).length) Slot.unset).toArray = ls at hl ⊢
  have hl : lv_has ls 8 [(0, .ref mo), (1, .int q)] := hl
  refine lv_aload_n hx hb d_Mo_escaped_0 rfl (lv_at hl 0 rfl) ?_
  refine va_get (D := (dC, dI)) (ci := 13) (v := .int (nI i)) (C := R_Mo) (T := F_Mo) (N := 30) hx hb hts in_Mo hown hK hP 0 rfl rfl 7 (by decide) (hts _ w_1096) (fun _ h9 => h9) (MFg (by decide) h7) d_Mo_escaped_1 ?_
  refine lv_istore_n (lv' := [(2, .int (nI i)), (0, .ref mo), (1, .int q)]) hx hb d_Mo_escaped_4 rfl hl (by decide) rfl (fun ls hl => ?_)
  refine lv_aload_n hx hb d_Mo_escaped_5 rfl (lv_at hl 1 rfl) ?_
  refine lv_dup hx hb d_Mo_escaped_6 rfl ?_
  refine va_get (D := (dC, dI)) (ci := 13) (v := .int (nI i)) (C := R_Mo) (T := F_Mo) (N := 30) hx hb hts in_Mo hown hK hP 0 rfl rfl 7 (by decide) (hts _ w_1096) (fun _ h9 => h9) (MFg (by decide) h7) d_Mo_escaped_7 ?_
  refine lv_iconst (v := 1) hx hb d_Mo_escaped_10 (by decide) ?_
  refine lv_iadd hx hb d_Mo_escaped_11 ?_
  refine W.eq (g2 := F0 m 12 ls [.int (nI (i + 1)), .ref mo]) (by rw [show ((nI i) + 1) = (nI (i + 1)) from nI_1 _]) ?_
  refine va_put (D := (dC, dI)) (ci := 13) (v := .int (nI (i + 1))) (ty := .int) (C := R_Mo) (T := F_Mo) (N := 30) hx hb hts in_Mo t_Mo t_Mo_ok n_Mo hown hK hP hD hS 0 rfl rfl 7 (by decide) (hts _ w_1096) (fun _ h9 => h9) rfl (by decide +kernel) rfl rfl (by rw [MFl]; decide) d_Mo_escaped_12 (fun H locs hP hD hS => ?_)
  rw [MFs (n := 30) (k := 7) (by decide)] at hP hD
  have hP : va_P (dC, dI) classes [(mo, .inr (13, MF 30 (va_up v 7 (.int (nI (i + 1)))))), (qx, .inl (cB, NN, .inl f))] H := hP
  have hD : va_D A [(mo, .inr (13, MF 30 (va_up v 7 (.int (nI (i + 1)))))), (qx, .inl (cB, NN, .inl f))] := hD
  refine lv_aload_n hx hb d_Mo_escaped_15 rfl (lv_at hl 1 rfl) ?_
  have hPc := hP.sub (ws' := [(mo, .inr (13, MF 30 (va_up v 7 (.int (nI (i + 1)))))), (qx, .inl (cB, NN, .inl f))]) [0, 1] rfl
  have hDc := hD.sub (ws' := [(mo, .inr (13, MF 30 (va_up v 7 (.int (nI (i + 1)))))), (qx, .inl (cB, NN, .inl f))]) [0, 1] (by decide) rfl
  have hKc := hK.sub (tys' := [(cB, .byte)]) [0] rfl
  have hFc := va_free (wc := [(mo, .inr (13, MF 30 (va_up v 7 (.int (nI (i + 1)))))), (qx, .inl (cB, NN, .inl f))]) hD hS hA [0, 1] rfl
  refine va_calli (va_runV (As := []) (rest := []) ⟨hx, hb, hml, hown, hts⟩ (c_Mo_c l dC dI mo H (va_up v 7 (.int (nI (i + 1)))) cB qx NN f n (i + 1) (by omega) (by omega) (by omega) ((va_up_ne _ _ (by decide)).trans (h6)) (va_up_self _ _ _) ((va_up_ne _ _ (by decide)).trans (h8))) (cwV 0 hts (gt_V (own := R_Mo) (C := R_Mo) (i := 147) (y := y_Mo_c) i_Mo_c w_1233 w_1235 (gt_sel (y := y_Mo_c) (n := 30) (by decide +kernel)) w_7) rfl rfl rfl (by decide +kernel) ⟨Nat.le_of_ble_eq_true rfl, Nat.le_of_ble_eq_true rfl⟩) ⟨mp_blind, va_recv hKc hPc (ci := 13) (q0 := 0) rfl rfl, fun U hU hW => ⟨rfl, hU, by rw [hU]; exact hPc, va_K.moved hW.alike hKc, hDc.weaken (fun _ _ _ _ => trivial)⟩⟩ rfl rfl hl.1 rfl (lv_room (Nat.le_of_ble_eq_true rfl)) d_Mo_escaped_16 ⟨Nat.le_of_ble_eq_true rfl, Nat.le_of_ble_eq_true rfl⟩) hS (fun q _ h => hFc q h) hFc (fun r1 _u t H1 locs ht hvm hw hB hz1 hk1 hS => ?_)
  obtain ⟨hP1, hK1, hD1⟩ := hB
  rw [ht] at hP1
  obtain ⟨hP, hD⟩ := va_join (wr := []) (w1 := [(mo, .inr (13, MF 30 (va_up v 7 (.int (nI (i + 1)))))), (qx, .inl (cB, NN, .inl f))]) hP hD [0, 1] [] rfl rfl (by decide) (by decide) hk1 hFc hP1 hD1
  generalize H1 = H at hP hS ⊢
  have hP : va_P (dC, dI) classes [(mo, .inr (13, MF 30 (va_up v 7 (.int (nI (i + 1)))))), (qx, .inl (cB, NN, .inl f))] H := hP
  have hD : va_D A [(mo, .inr (13, MF 30 (va_up v 7 (.int (nI (i + 1)))))), (qx, .inl (cB, NN, .inl f))] := hD
  have h_r1 : r1 = hereV f n (i + 1) := hw
  refine lv_istore_n (lv' := [(3, .int r1), (2, .int (nI i)), (0, .ref mo), (1, .int q)]) hx hb d_Mo_escaped_19 rfl hl (by decide) rfl (fun ls hl => ?_)
  refine lv_aload_n hx hb d_Mo_escaped_20 rfl (lv_at hl 2 rfl) ?_
  refine lv_dup hx hb d_Mo_escaped_21 rfl ?_
  refine va_get (D := (dC, dI)) (ci := 13) (v := .int (nI (i + 1))) (C := R_Mo) (T := F_Mo) (N := 30) hx hb hts in_Mo hown hK hP 0 rfl rfl 7 (by decide) (hts _ w_1096) (fun _ h9 => h9) (MFg (by decide) (va_up_self _ _ _)) d_Mo_escaped_22 ?_
  refine lv_iconst (v := 1) hx hb d_Mo_escaped_25 (by decide) ?_
  refine lv_iadd hx hb d_Mo_escaped_26 ?_
  refine W.eq (g2 := F0 m 27 ls [.int (nI (i + 1 + 1)), .ref mo]) (by rw [show ((nI (i + 1)) + 1) = (nI (i + 1 + 1)) from nI_1 _]) ?_
  refine va_put (D := (dC, dI)) (ci := 13) (v := .int (nI (i + 1 + 1))) (ty := .int) (C := R_Mo) (T := F_Mo) (N := 30) hx hb hts in_Mo t_Mo t_Mo_ok n_Mo hown hK hP hD hS 0 rfl rfl 7 (by decide) (hts _ w_1096) (fun _ h9 => h9) rfl (by decide +kernel) rfl rfl (by rw [MFl]; decide) d_Mo_escaped_27 (fun H locs hP hD hS => ?_)
  rw [MFs (n := 30) (k := 7) (by decide)] at hP hD
  rw [bx_uu] at hP hD
  have hP : va_P (dC, dI) classes [(mo, .inr (13, MF 30 (va_up v 7 (.int (nI (i + 1 + 1)))))), (qx, .inl (cB, NN, .inl f))] H := hP
  have hD : va_D A [(mo, .inr (13, MF 30 (va_up v 7 (.int (nI (i + 1 + 1)))))), (qx, .inl (cB, NN, .inl f))] := hD
  refine lv_iload_n hx hb d_Mo_escaped_30 rfl (lv_at hl 0 rfl) ?_
  refine lv_iload_n hx hb d_Mo_escaped_31 rfl (lv_at hl 3 rfl) ?_
  refine lv_icmp_eq (tgt := 47) hx hb d_Mo_escaped_32 (by decide) (fun c32 => ?_) (fun c32 => ?_)
  · refine lv_iload_n hx hb d_Mo_escaped_47 rfl (lv_at hl 0 rfl) ?_
    exact W.iret (v := r1) hx hb hr (fun t ht hW => ⟨⟨r1, va_up v 7 (.int (nI (i + 1 + 1))), rfl, by rw [← h_r1]; exact Or.inl ⟨rfl, Or.inl c32, rfl⟩, by rw [ht]; exact hP, va_K.moved hW.alike hK, hD⟩, hS.F ht⟩) hS.2.2 d_Mo_escaped_48
  · refine lv_iload_n hx hb d_Mo_escaped_35 rfl (lv_at hl 0 rfl) ?_
    refine lv_bipush (v := 92) hx hb d_Mo_escaped_36 (by decide) ?_
    refine lv_icmp_eq (tgt := 47) hx hb d_Mo_escaped_38 (by decide) (fun c38 => ?_) (fun c38 => ?_)
    · refine lv_iload_n hx hb d_Mo_escaped_47 rfl (lv_at hl 0 rfl) ?_
      exact W.iret (v := r1) hx hb hr (fun t ht hW => ⟨⟨r1, va_up v 7 (.int (nI (i + 1 + 1))), rfl, by rw [← h_r1]; exact Or.inl ⟨rfl, Or.inr (Or.inl c38), rfl⟩, by rw [ht]; exact hP, va_K.moved hW.alike hK, hD⟩, hS.F ht⟩) hS.2.2 d_Mo_escaped_48
    · refine lv_iload_n hx hb d_Mo_escaped_41 rfl (lv_at hl 0 rfl) ?_
      refine lv_bipush (v := 47) hx hb d_Mo_escaped_42 (by decide) ?_
      refine lv_icmp_ne (tgt := 49) hx hb d_Mo_escaped_44 (by decide) (fun c44 => ?_) (fun c44 => ?_)
      · have hne : ¬ (r1 = q ∨ r1 = 92 ∨ r1 = 47) := by rintro (h | h | h) <;> first | exact c32 h | exact c38 h | exact c44 h
        refine lv_iload_n hx hb d_Mo_escaped_49 rfl (lv_at hl 0 rfl) ?_
        refine lv_if_ge (tgt := 57) hx hb d_Mo_escaped_50 (by decide) (fun c50 => ?_) (fun c50 => ?_)
        · refine va_ldcS hx hb hown hR d_Mo_escaped_57 ?_
          refine lv_iload_n hx hb d_Mo_escaped_59 rfl (lv_at hl 0 rfl) ?_
          have hPc := hP.sub (ws' := []) [] rfl
          have hDc := hD.sub (ws' := []) [] (by decide) rfl
          have hKc := hK.sub (tys' := []) [] rfl
          have hFc := va_free (wc := []) hD hS hA [] rfl
          refine va_calli (va_runV (As := [.int r1]) (rest := []) ⟨hx, hb, hml, hown, hts⟩ (c_Str_indexOf l dC dI H sa av 5 bfB r1 (by decide)) (cwV 1 hts (gt_V (own := R_Mo) (C := R_Str) (i := 171) (y := y_Str_indexOf) i_Str_indexOf w_1274 w_1275 w_1276 w_18) rfl rfl rfl (by decide +kernel) ⟨Nat.le_of_ble_eq_true rfl, Nat.le_of_ble_eq_true rfl⟩) ⟨mstr_blind, (by obtain ⟨cell, h1, h2, h3, -⟩ := va_O.kept hE.1 hS.2.1; exact ⟨cell, h1, h2, h3⟩), fun U hU hW => ⟨rfl, ⟨hU, by rw [hU]; exact hPc, va_K.moved hW.alike hKc, hDc.weaken (fun _ _ _ _ => trivial)⟩, by rw [hU]; exact SX.moved' hW.alike (SX.narrow' (SX.kept' hE hS.2.1) hFc)⟩⟩ rfl rfl hl.1 rfl (lv_room (Nat.le_of_ble_eq_true rfl)) d_Mo_escaped_60 ⟨Nat.le_of_ble_eq_true rfl, Nat.le_of_ble_eq_true rfl⟩) hS (fun q _ h => hFc q h) hFc (fun r2 _u t H1 locs ht hvm hw hB hz1 hk1 hS => ?_)
          obtain ⟨hP1, hK1, hD1⟩ := hB
          rw [ht] at hP1
          obtain ⟨hP, hD⟩ := va_join (wr := [(mo, .inr (13, MF 30 (va_up v 7 (.int (nI (i + 1 + 1)))))), (qx, .inl (cB, NN, .inl f))]) (w1 := []) hP hD [] [0, 1] rfl rfl (by decide) (by decide) hk1 hFc hP1 hD1
          generalize H1 = H at hP hS ⊢
          have hP : va_P (dC, dI) classes [(mo, .inr (13, MF 30 (va_up v 7 (.int (nI (i + 1 + 1)))))), (qx, .inl (cB, NN, .inl f))] H := hP
          have hD : va_D A [(mo, .inr (13, MF 30 (va_up v 7 (.int (nI (i + 1 + 1)))))), (qx, .inl (cB, NN, .inl f))] := hD
          have h_r2 : r2 = ixS bfB 5 r1 := hw
          have hk : bfI r1 = r2 := by unfold bfI; rw [if_neg (Int32.not_lt.mpr c50)]; exact h_r2.symm
          refine lv_istore (lv' := [(4, .int r2), (3, .int r1), (2, .int (nI i)), (0, .ref mo), (1, .int q)]) hx hb d_Mo_escaped_63 hl (by decide) rfl (fun ls hl => ?_)
          refine lv_iload hx hb d_Mo_escaped_65 (lv_at hl 0 rfl) ?_
          refine lv_if_lt (tgt := 116) hx hb d_Mo_escaped_67 (by decide) (fun c67 => ?_) (fun c67 => ?_)
          · have hk0 : bfI r1 < 0 := by rw [hk]; exact c67
            refine lv_iload_n hx hb d_Mo_escaped_116 rfl (lv_at hl 1 rfl) ?_
            refine lv_bipush (v := 117) hx hb d_Mo_escaped_117 (by decide) ?_
            refine lv_icmp_ne (tgt := 203) hx hb d_Mo_escaped_119 (by decide) (fun c119 => ?_) (fun c119 => ?_)
            · refine lv_aload_n hx hb d_Mo_escaped_203 rfl (lv_at hl 3 rfl) ?_
              refine lv_iload_n hx hb d_Mo_escaped_204 rfl (lv_at hl 1 rfl) ?_
              refine lv_if_ge (tgt := 215) hx hb d_Mo_escaped_205 (by decide) (fun c205 => ?_) (fun c205 => ?_)
              · refine lv_iload_n hx hb d_Mo_escaped_215 rfl (lv_at hl 2 rfl) ?_
                have hPc := hP.sub (ws' := [(mo, .inr (13, MF 30 (va_up v 7 (.int (nI (i + 1 + 1))))))]) [0] rfl
                have hDc := hD.sub (ws' := [(mo, .inr (13, MF 30 (va_up v 7 (.int (nI (i + 1 + 1))))))]) [0] (by decide) rfl
                have hKc := hK.sub (tys' := []) [] rfl
                have hFc := va_free (wc := [(mo, .inr (13, MF 30 (va_up v 7 (.int (nI (i + 1 + 1))))))]) hD hS hA [0] rfl
                refine va_calli (va_runV (As := [.int (nI i)]) (rest := []) ⟨hx, hb, hml, hown, hts⟩ (c_Mo_fail l dC dI mo H (va_up v 7 (.int (nI (i + 1 + 1)))) br ((nI i)) ((va_up_ne _ _ (by decide)).trans (h9))) (cwV 1 hts (gt_V (own := R_Mo) (C := R_Mo) (i := 151) (y := y_Mo_fail) i_Mo_fail w_1250 w_1252 (gt_sel (y := y_Mo_fail) (n := 30) (by decide +kernel)) w_7) rfl rfl rfl (by decide +kernel) ⟨Nat.le_of_ble_eq_true rfl, Nat.le_of_ble_eq_true rfl⟩) ⟨mp_blind, va_recv hKc hPc (ci := 13) (q0 := 0) rfl rfl, fun U hU hW => ⟨rfl, hU, by rw [hU]; exact hPc, va_K.moved hW.alike hKc, hDc.weaken (fun _ _ _ _ => trivial)⟩⟩ rfl rfl hl.1 rfl (lv_room (Nat.le_of_ble_eq_true rfl)) d_Mo_escaped_216 ⟨Nat.le_of_ble_eq_true rfl, Nat.le_of_ble_eq_true rfl⟩) hS (fun q _ h => hFc q h) hFc (fun r u2 t H1 locs ht hvm hw hB hz1 hk1 hS => ?_)
                obtain ⟨hP1, hK1, hD1⟩ := hB
                rw [ht] at hP1
                obtain ⟨hP, hD⟩ := va_join (wr := [(qx, .inl (cB, NN, .inl f))]) (w1 := [(mo, .inr (13, MF 30 u2))]) hP hD [0] [1] rfl rfl (by decide) (by decide) hk1 hFc hP1 hD1
                generalize H1 = H at hP hS ⊢
                have hP : va_P (dC, dI) classes [(qx, .inl (cB, NN, .inl f)), (mo, .inr (13, MF 30 u2))] H := hP
                have hD : va_D A [(qx, .inl (cB, NN, .inl f)), (mo, .inr (13, MF 30 u2))] := hD
                have hP := hP.sub (ws' := [(mo, .inr (13, MF 30 u2)), (qx, .inl (cB, NN, .inl f))]) [1, 0] rfl
                have hD := hD.sub (ws' := [(mo, .inr (13, MF 30 u2)), (qx, .inl (cB, NN, .inl f))]) [1, 0] (by decide) rfl
                obtain ⟨rfl, rfl⟩ : r = 0 ∧ u2 = mfail (va_up v 7 (.int (nI (i + 1 + 1)))) br ((nI i)) := hw
                have hP : va_P (dC, dI) classes [(mo, .inr (13, MF 30 (mfail (va_up v 7 (.int (nI (i + 1 + 1)))) br ((nI i))))), (qx, .inl (cB, NN, .inl f))] H := hP
                have hD : va_D A [(mo, .inr (13, MF 30 (mfail (va_up v 7 (.int (nI (i + 1 + 1)))) br ((nI i))))), (qx, .inl (cB, NN, .inl f))] := hD
                refine lv_pop hx hb d_Mo_escaped_219 rfl ?_
                refine lv_iconst (v := (-1)) hx hb d_Mo_escaped_220 (by decide) ?_
                exact W.iret (v := (-1)) hx hb hr (fun t ht hW => ⟨⟨(-1), mfail (va_up v 7 (.int (nI (i + 1 + 1)))) br ((nI i)), rfl, by rw [← h_r1]; exact Or.inr (Or.inr (Or.inr (Or.inr ⟨hne, hk0, c119, rfl, by rw [if_neg (Int32.not_lt.mpr c205)]⟩))), by rw [ht]; exact hP, va_K.moved hW.alike hK, hD⟩, hS.F ht⟩) hS.2.2 d_Mo_escaped_221
              · refine lv_aload_n hx hb d_Mo_escaped_208 rfl (lv_at hl 3 rfl) ?_
                refine va_get (D := (dC, dI)) (ci := 13) (v := .int (nI n)) (C := R_Mo) (T := F_Mo) (N := 30) hx hb hts in_Mo hown hK hP 0 rfl rfl 8 (by decide) (hts _ w_1097) (fun _ h9 => h9) (MFg (by decide) ((va_up_ne _ _ (by decide)).trans (h8))) d_Mo_escaped_209 ?_
                refine lv_goto (tgt := 216) hx hb d_Mo_escaped_212 (by decide) ?_
                have hPc := hP.sub (ws' := [(mo, .inr (13, MF 30 (va_up v 7 (.int (nI (i + 1 + 1))))))]) [0] rfl
                have hDc := hD.sub (ws' := [(mo, .inr (13, MF 30 (va_up v 7 (.int (nI (i + 1 + 1))))))]) [0] (by decide) rfl
                have hKc := hK.sub (tys' := []) [] rfl
                have hFc := va_free (wc := [(mo, .inr (13, MF 30 (va_up v 7 (.int (nI (i + 1 + 1))))))]) hD hS hA [0] rfl
                refine va_calli (va_runV (As := [.int (nI n)]) (rest := []) ⟨hx, hb, hml, hown, hts⟩ (c_Mo_fail l dC dI mo H (va_up v 7 (.int (nI (i + 1 + 1)))) br ((nI n)) ((va_up_ne _ _ (by decide)).trans (h9))) (cwV 1 hts (gt_V (own := R_Mo) (C := R_Mo) (i := 151) (y := y_Mo_fail) i_Mo_fail w_1250 w_1252 (gt_sel (y := y_Mo_fail) (n := 30) (by decide +kernel)) w_7) rfl rfl rfl (by decide +kernel) ⟨Nat.le_of_ble_eq_true rfl, Nat.le_of_ble_eq_true rfl⟩) ⟨mp_blind, va_recv hKc hPc (ci := 13) (q0 := 0) rfl rfl, fun U hU hW => ⟨rfl, hU, by rw [hU]; exact hPc, va_K.moved hW.alike hKc, hDc.weaken (fun _ _ _ _ => trivial)⟩⟩ rfl rfl hl.1 rfl (lv_room (Nat.le_of_ble_eq_true rfl)) d_Mo_escaped_216 ⟨Nat.le_of_ble_eq_true rfl, Nat.le_of_ble_eq_true rfl⟩) hS (fun q _ h => hFc q h) hFc (fun r u2 t H1 locs ht hvm hw hB hz1 hk1 hS => ?_)
                obtain ⟨hP1, hK1, hD1⟩ := hB
                rw [ht] at hP1
                obtain ⟨hP, hD⟩ := va_join (wr := [(qx, .inl (cB, NN, .inl f))]) (w1 := [(mo, .inr (13, MF 30 u2))]) hP hD [0] [1] rfl rfl (by decide) (by decide) hk1 hFc hP1 hD1
                generalize H1 = H at hP hS ⊢
                have hP : va_P (dC, dI) classes [(qx, .inl (cB, NN, .inl f)), (mo, .inr (13, MF 30 u2))] H := hP
                have hD : va_D A [(qx, .inl (cB, NN, .inl f)), (mo, .inr (13, MF 30 u2))] := hD
                have hP := hP.sub (ws' := [(mo, .inr (13, MF 30 u2)), (qx, .inl (cB, NN, .inl f))]) [1, 0] rfl
                have hD := hD.sub (ws' := [(mo, .inr (13, MF 30 u2)), (qx, .inl (cB, NN, .inl f))]) [1, 0] (by decide) rfl
                obtain ⟨rfl, rfl⟩ : r = 0 ∧ u2 = mfail (va_up v 7 (.int (nI (i + 1 + 1)))) br ((nI n)) := hw
                have hP : va_P (dC, dI) classes [(mo, .inr (13, MF 30 (mfail (va_up v 7 (.int (nI (i + 1 + 1)))) br ((nI n))))), (qx, .inl (cB, NN, .inl f))] H := hP
                have hD : va_D A [(mo, .inr (13, MF 30 (mfail (va_up v 7 (.int (nI (i + 1 + 1)))) br ((nI n))))), (qx, .inl (cB, NN, .inl f))] := hD
                refine lv_pop hx hb d_Mo_escaped_219 rfl ?_
                refine lv_iconst (v := (-1)) hx hb d_Mo_escaped_220 (by decide) ?_
                exact W.iret (v := (-1)) hx hb hr (fun t ht hW => ⟨⟨(-1), mfail (va_up v 7 (.int (nI (i + 1 + 1)))) br ((nI n)), rfl, by rw [← h_r1]; exact Or.inr (Or.inr (Or.inr (Or.inr ⟨hne, hk0, c119, rfl, by rw [if_pos (Int32.not_le.mp c205)]⟩))), by rw [ht]; exact hP, va_K.moved hW.alike hK, hD⟩, hS.F ht⟩) hS.2.2 d_Mo_escaped_221
            · refine lv_iconst (v := 0) hx hb d_Mo_escaped_122 (by decide) ?_
              refine lv_istore (lv' := [(5, .int 0), (4, .int r2), (3, .int r1), (2, .int (nI i)), (0, .ref mo), (1, .int q)]) hx hb d_Mo_escaped_123 hl (by decide) rfl (fun ls hl => ?_)
              refine lv_iconst (v := 0) hx hb d_Mo_escaped_125 (by decide) ?_
              refine lv_istore (lv' := [(6, .int 0), (5, .int 0), (4, .int r2), (3, .int r1), (2, .int (nI i)), (0, .ref mo), (1, .int q)]) hx hb d_Mo_escaped_126 hl (by decide) rfl (fun ls hl => ?_)
              refine w_loop (D := (dC, dI)) (cl := classes) (A := A) (H0 := s.heap) (nL := 8) 128 (σ := Nat × Nat × Int32) (fun ⟨kk, j, a⟩ => kk ≤ 4 ∧ j + kk = i + 6 ∧ hexM f n kk j a = hexM f n 4 (i + 1 + 1) 0) (fun ⟨kk, j, a⟩ => kk) (fun ⟨kk, j, a⟩ => [(mo, .inr (13, MF 30 (va_up v 7 (.int (nI j))))), (qx, .inl (cB, NN, .inl f))]) (fun ⟨kk, j, a⟩ => [(0, .ref mo), (2, .int (nI i)), (5, .int a), (6, .int (nI (4 - kk)))]) ?_ (4, i + 1 + 1, 0) ⟨by omega, by omega, rfl⟩ hP hD hS (lv_sub hl [5, 4, 1, 0] rfl)
              rintro ⟨kk, j, a⟩ H locs ls hI ih hP hD hS hl
              have hP : va_P (dC, dI) classes [(mo, .inr (13, MF 30 (va_up v 7 (.int (nI j))))), (qx, .inl (cB, NN, .inl f))] H := hP
              have hD : va_D A [(mo, .inr (13, MF 30 (va_up v 7 (.int (nI j))))), (qx, .inl (cB, NN, .inl f))] := hD
              have hl : lv_has ls 8 [(0, .ref mo), (2, .int (nI i)), (5, .int a), (6, .int (nI (4 - kk)))] := hl
              obtain ⟨hI1, hI2, hI3⟩ := hI
              refine lv_iload hx hb d_Mo_escaped_128 (lv_at hl 3 rfl) ?_
              refine lv_iconst (v := 4) hx hb d_Mo_escaped_130 (by decide) ?_
              refine lv_icmp_ge (tgt := 200) hx hb d_Mo_escaped_131 (by decide) (fun c131 => ?_) (fun c131 => ?_)
              · refine lv_iload hx hb d_Mo_escaped_200 (lv_at hl 2 rfl) ?_
                have hk9 : kk = 0 := Nat.eq_zero_of_not_pos (fun h => absurd c131 (by rw [show (4 : Int32) = nI 4 from rfl, nI_leI (by omega) (by omega)]; omega))
                have hj6 : j = i + 6 := by omega
                rw [hj6] at hP hD
                have hfin : hexM f n 4 (i + 1 + 1) 0 = (a, i + 6) := by rw [← hI3, hk9, hj6]; rfl
                exact W.iret (v := a) hx hb hr (fun t ht hW => ⟨⟨a, va_up v 7 (.int (nI (i + 6))), rfl, by rw [← h_r1]; exact Or.inr (Or.inr (Or.inl ⟨hne, hk0, c119, hfin, rfl⟩)), by rw [ht]; exact hP, va_K.moved hW.alike hK, hD⟩, hS.F ht⟩) hS.2.2 d_Mo_escaped_202
              · refine lv_aload_n hx hb d_Mo_escaped_134 rfl (lv_at hl 0 rfl) ?_
                have hPc := hP.sub (ws' := [(mo, .inr (13, MF 30 (va_up v 7 (.int (nI j))))), (qx, .inl (cB, NN, .inl f))]) [0, 1] rfl
                have hDc := hD.sub (ws' := [(mo, .inr (13, MF 30 (va_up v 7 (.int (nI j))))), (qx, .inl (cB, NN, .inl f))]) [0, 1] (by decide) rfl
                have hKc := hK.sub (tys' := [(cB, .byte)]) [0] rfl
                have hFc := va_free (wc := [(mo, .inr (13, MF 30 (va_up v 7 (.int (nI j))))), (qx, .inl (cB, NN, .inl f))]) hD hS hA [0, 1] rfl
                refine va_calli (va_runV (As := []) (rest := []) ⟨hx, hb, hml, hown, hts⟩ (c_Mo_c l dC dI mo H (va_up v 7 (.int (nI j))) cB qx NN f n j (by omega) (by omega) (by omega) ((va_up_ne _ _ (by decide)).trans (h6)) (va_up_self _ _ _) ((va_up_ne _ _ (by decide)).trans (h8))) (cwV 0 hts (gt_V (own := R_Mo) (C := R_Mo) (i := 147) (y := y_Mo_c) i_Mo_c w_1233 w_1235 (gt_sel (y := y_Mo_c) (n := 30) (by decide +kernel)) w_7) rfl rfl rfl (by decide +kernel) ⟨Nat.le_of_ble_eq_true rfl, Nat.le_of_ble_eq_true rfl⟩) ⟨mp_blind, va_recv hKc hPc (ci := 13) (q0 := 0) rfl rfl, fun U hU hW => ⟨rfl, hU, by rw [hU]; exact hPc, va_K.moved hW.alike hKc, hDc.weaken (fun _ _ _ _ => trivial)⟩⟩ rfl rfl hl.1 rfl (lv_room (Nat.le_of_ble_eq_true rfl)) d_Mo_escaped_135 ⟨Nat.le_of_ble_eq_true rfl, Nat.le_of_ble_eq_true rfl⟩) hS (fun q _ h => hFc q h) hFc (fun r3 _u t H1 locs ht hvm hw hB hz1 hk1 hS => ?_)
                obtain ⟨hP1, hK1, hD1⟩ := hB
                rw [ht] at hP1
                obtain ⟨hP, hD⟩ := va_join (wr := []) (w1 := [(mo, .inr (13, MF 30 (va_up v 7 (.int (nI j))))), (qx, .inl (cB, NN, .inl f))]) hP hD [0, 1] [] rfl rfl (by decide) (by decide) hk1 hFc hP1 hD1
                generalize H1 = H at hP hS ⊢
                have hP : va_P (dC, dI) classes [(mo, .inr (13, MF 30 (va_up v 7 (.int (nI j))))), (qx, .inl (cB, NN, .inl f))] H := hP
                have hD : va_D A [(mo, .inr (13, MF 30 (va_up v 7 (.int (nI j))))), (qx, .inl (cB, NN, .inl f))] := hD
                have h_r3 : r3 = hereV f n j := hw
                have hkk : 0 < kk := Nat.pos_of_ne_zero (fun h => by subst h; exact c131 (by decide))
                have hPc := hP.sub (ws' := []) [] rfl
                have hDc := hD.sub (ws' := []) [] (by decide) rfl
                have hKc := hK.sub (tys' := []) [] rfl
                have hFc := va_free (wc := []) hD hS hA [] rfl
                refine va_calli (va_runS (As := [.int r3]) (rest := []) ⟨hx, hb, hml, hown, hts⟩ (c_Mo_hex l dC dI H r3) (va_cwS 1 hts (gt_S (own := R_Mo) (i := 174) (y := y_Mo_hex) i_Mo_hex w_1329 w_1330 w_7) rfl rfl rfl (by decide +kernel) ⟨Nat.le_of_ble_eq_true rfl, Nat.le_of_ble_eq_true rfl⟩) ⟨mp_blind, fun U hU hW => ⟨rfl, hU, by rw [hU]; exact hPc, va_K.moved hW.alike hKc, hDc.weaken (fun _ _ _ _ => trivial)⟩⟩ rfl rfl hl.1 rfl (lv_room (Nat.le_of_ble_eq_true rfl)) d_Mo_escaped_138 ⟨Nat.le_of_ble_eq_true rfl, Nat.le_of_ble_eq_true rfl⟩) hS (fun q _ h => hFc q h) hFc (fun r4 _u t H1 locs ht hvm hw hB hz1 hk1 hS => ?_)
                obtain ⟨hP1, hK1, hD1⟩ := hB
                rw [ht] at hP1
                obtain ⟨hP, hD⟩ := va_join (wr := [(mo, .inr (13, MF 30 (va_up v 7 (.int (nI j))))), (qx, .inl (cB, NN, .inl f))]) (w1 := []) hP hD [] [0, 1] rfl rfl (by decide) (by decide) hk1 hFc hP1 hD1
                generalize H1 = H at hP hS ⊢
                have hP : va_P (dC, dI) classes [(mo, .inr (13, MF 30 (va_up v 7 (.int (nI j))))), (qx, .inl (cB, NN, .inl f))] H := hP
                have hD : va_D A [(mo, .inr (13, MF 30 (va_up v 7 (.int (nI j))))), (qx, .inl (cB, NN, .inl f))] := hD
                have h_r4 : r4 = hexV (hereV f n j) := by rw [← h_r3]; exact hw
                refine lv_istore (lv' := [(7, .int r4), (0, .ref mo), (2, .int (nI i)), (5, .int a), (6, .int (nI (4 - kk)))]) hx hb d_Mo_escaped_141 hl (by decide) rfl (fun ls hl => ?_)
                refine lv_iload hx hb d_Mo_escaped_143 (lv_at hl 0 rfl) ?_
                refine lv_if_ge (tgt := 174) hx hb d_Mo_escaped_145 (by decide) (fun c145 => ?_) (fun c145 => ?_)
                · refine lv_bipush (v := 16) hx hb d_Mo_escaped_174 (by decide) ?_
                  refine lv_iload hx hb d_Mo_escaped_176 (lv_at hl 3 rfl) ?_
                  refine lv_imul hx hb d_Mo_escaped_178 ?_
                  refine lv_iload hx hb d_Mo_escaped_179 (lv_at hl 0 rfl) ?_
                  refine lv_iadd hx hb d_Mo_escaped_181 ?_
                  refine lv_istore (lv' := [(5, .int ((16 * a) + r4)), (7, .int r4), (0, .ref mo), (2, .int (nI i)), (6, .int (nI (4 - kk)))]) hx hb d_Mo_escaped_182 hl (by decide) rfl (fun ls hl => ?_)
                  refine lv_aload_n hx hb d_Mo_escaped_184 rfl (lv_at hl 2 rfl) ?_
                  refine lv_dup hx hb d_Mo_escaped_185 rfl ?_
                  refine va_get (D := (dC, dI)) (ci := 13) (v := .int (nI j)) (C := R_Mo) (T := F_Mo) (N := 30) hx hb hts in_Mo hown hK hP 0 rfl rfl 7 (by decide) (hts _ w_1096) (fun _ h9 => h9) (MFg (by decide) (va_up_self _ _ _)) d_Mo_escaped_186 ?_
                  refine lv_iconst (v := 1) hx hb d_Mo_escaped_189 (by decide) ?_
                  refine lv_iadd hx hb d_Mo_escaped_190 ?_
                  refine W.eq (g2 := F0 m 191 ls [.int (nI (j + 1)), .ref mo]) (by rw [show ((nI j) + 1) = (nI (j + 1)) from nI_1 _]) ?_
                  refine va_put (D := (dC, dI)) (ci := 13) (v := .int (nI (j + 1))) (ty := .int) (C := R_Mo) (T := F_Mo) (N := 30) hx hb hts in_Mo t_Mo t_Mo_ok n_Mo hown hK hP hD hS 0 rfl rfl 7 (by decide) (hts _ w_1096) (fun _ h9 => h9) rfl (by decide +kernel) rfl rfl (by rw [MFl]; decide) d_Mo_escaped_191 (fun H locs hP hD hS => ?_)
                  rw [MFs (n := 30) (k := 7) (by decide)] at hP hD
                  rw [bx_uu] at hP hD
                  have hP : va_P (dC, dI) classes [(mo, .inr (13, MF 30 (va_up v 7 (.int (nI (j + 1)))))), (qx, .inl (cB, NN, .inl f))] H := hP
                  have hD : va_D A [(mo, .inr (13, MF 30 (va_up v 7 (.int (nI (j + 1)))))), (qx, .inl (cB, NN, .inl f))] := hD
                  refine lv_iinc (v := nI (4 - kk) + 1) (lv' := [(6, .int (nI (4 - kk) + 1)), (5, .int ((16 * a) + r4)), (7, .int r4), (0, .ref mo), (2, .int (nI i))]) hx hb d_Mo_escaped_194 hl (k := 4) rfl rfl (by decide) rfl (fun ls hl => ?_)
                  refine lv_goto (tgt := 128) hx hb d_Mo_escaped_197 (by decide) ?_
                  rw [show (nI (4 - kk) + 1 : Int32) = nI (4 - (kk - 1)) by rw [nI_1]; congr 1; omega] at hl
                  have hst : hexM f n kk j a = hexM f n (kk - 1) (j + 1) (16 * a + r4) := by obtain ⟨k0, rfl⟩ : ∃ k0, kk = k0 + 1 := ⟨kk - 1, by omega⟩; exact hexM_s h_r4 (Int32.not_lt.mpr c145)
                  exact ih (kk - 1, j + 1, 16 * a + r4) _ _ _ ⟨by omega, by omega, by rw [← hI3]; exact hst.symm⟩ (by show kk - 1 < kk; omega) hP hD hS (lv_sub hl [3, 4, 1, 0] rfl)
                · refine lv_aload_n hx hb d_Mo_escaped_148 rfl (lv_at hl 1 rfl) ?_
                  refine lv_aload_n hx hb d_Mo_escaped_149 rfl (lv_at hl 1 rfl) ?_
                  refine va_get (D := (dC, dI)) (ci := 13) (v := .int (nI j)) (C := R_Mo) (T := F_Mo) (N := 30) hx hb hts in_Mo hown hK hP 0 rfl rfl 7 (by decide) (hts _ w_1096) (fun _ h9 => h9) (MFg (by decide) (va_up_self _ _ _)) d_Mo_escaped_150 ?_
                  refine lv_aload_n hx hb d_Mo_escaped_153 rfl (lv_at hl 1 rfl) ?_
                  refine va_get (D := (dC, dI)) (ci := 13) (v := .int (nI n)) (C := R_Mo) (T := F_Mo) (N := 30) hx hb hts in_Mo hown hK hP 0 rfl rfl 8 (by decide) (hts _ w_1097) (fun _ h9 => h9) (MFg (by decide) ((va_up_ne _ _ (by decide)).trans (h8))) d_Mo_escaped_154 ?_
                  refine lv_icmp_lt (tgt := 167) hx hb d_Mo_escaped_157 (by decide) (fun c157 => ?_) (fun c157 => ?_)
                  · refine lv_iload_n hx hb d_Mo_escaped_167 rfl (lv_at hl 2 rfl) ?_
                    have hPc := hP.sub (ws' := [(mo, .inr (13, MF 30 (va_up v 7 (.int (nI j)))))]) [0] rfl
                    have hDc := hD.sub (ws' := [(mo, .inr (13, MF 30 (va_up v 7 (.int (nI j)))))]) [0] (by decide) rfl
                    have hKc := hK.sub (tys' := []) [] rfl
                    have hFc := va_free (wc := [(mo, .inr (13, MF 30 (va_up v 7 (.int (nI j)))))]) hD hS hA [0] rfl
                    refine va_calli (va_runV (As := [.int (nI i)]) (rest := []) ⟨hx, hb, hml, hown, hts⟩ (c_Mo_fail l dC dI mo H (va_up v 7 (.int (nI j))) br ((nI i)) ((va_up_ne _ _ (by decide)).trans (h9))) (cwV 1 hts (gt_V (own := R_Mo) (C := R_Mo) (i := 151) (y := y_Mo_fail) i_Mo_fail w_1250 w_1252 (gt_sel (y := y_Mo_fail) (n := 30) (by decide +kernel)) w_7) rfl rfl rfl (by decide +kernel) ⟨Nat.le_of_ble_eq_true rfl, Nat.le_of_ble_eq_true rfl⟩) ⟨mp_blind, va_recv hKc hPc (ci := 13) (q0 := 0) rfl rfl, fun U hU hW => ⟨rfl, hU, by rw [hU]; exact hPc, va_K.moved hW.alike hKc, hDc.weaken (fun _ _ _ _ => trivial)⟩⟩ rfl rfl hl.1 rfl (lv_room (Nat.le_of_ble_eq_true rfl)) d_Mo_escaped_168 ⟨Nat.le_of_ble_eq_true rfl, Nat.le_of_ble_eq_true rfl⟩) hS (fun q _ h => hFc q h) hFc (fun r u2 t H1 locs ht hvm hw hB hz1 hk1 hS => ?_)
                    obtain ⟨hP1, hK1, hD1⟩ := hB
                    rw [ht] at hP1
                    obtain ⟨hP, hD⟩ := va_join (wr := [(qx, .inl (cB, NN, .inl f))]) (w1 := [(mo, .inr (13, MF 30 u2))]) hP hD [0] [1] rfl rfl (by decide) (by decide) hk1 hFc hP1 hD1
                    generalize H1 = H at hP hS ⊢
                    have hP : va_P (dC, dI) classes [(qx, .inl (cB, NN, .inl f)), (mo, .inr (13, MF 30 u2))] H := hP
                    have hD : va_D A [(qx, .inl (cB, NN, .inl f)), (mo, .inr (13, MF 30 u2))] := hD
                    have hP := hP.sub (ws' := [(mo, .inr (13, MF 30 u2)), (qx, .inl (cB, NN, .inl f))]) [1, 0] rfl
                    have hD := hD.sub (ws' := [(mo, .inr (13, MF 30 u2)), (qx, .inl (cB, NN, .inl f))]) [1, 0] (by decide) rfl
                    obtain ⟨rfl, rfl⟩ : r = 0 ∧ u2 = mfail (va_up v 7 (.int (nI j))) br ((nI i)) := hw
                    have hP : va_P (dC, dI) classes [(mo, .inr (13, MF 30 (mfail (va_up v 7 (.int (nI j))) br ((nI i))))), (qx, .inl (cB, NN, .inl f))] H := hP
                    have hD : va_D A [(mo, .inr (13, MF 30 (mfail (va_up v 7 (.int (nI j))) br ((nI i))))), (qx, .inl (cB, NN, .inl f))] := hD
                    refine lv_pop hx hb d_Mo_escaped_171 rfl ?_
                    refine lv_iconst (v := (-1)) hx hb d_Mo_escaped_172 (by decide) ?_
                    have hfm : hexM f n 4 (i + 1 + 1) 0 = (-1, j) := by rw [← hI3]; obtain ⟨k0, rfl⟩ : ∃ k0, kk = k0 + 1 := ⟨kk - 1, by omega⟩; exact hexM_f h_r4 (Int32.not_le.mp c145)
                    exact W.iret (v := (-1)) hx hb hr (fun t ht hW => ⟨⟨(-1), mfail (va_up v 7 (.int (nI j))) br ((nI i)), rfl, by rw [← h_r1]; exact Or.inr (Or.inr (Or.inr (Or.inl ⟨hne, hk0, c119, rfl, j, by omega, hfm, by rw [if_pos (show j < n by rw [nI_ltI (by omega) (by omega)] at c157; exact c157)]⟩))), by rw [ht]; exact hP, va_K.moved hW.alike hK, hD⟩, hS.F ht⟩) hS.2.2 d_Mo_escaped_173
                  · refine lv_aload_n hx hb d_Mo_escaped_160 rfl (lv_at hl 1 rfl) ?_
                    refine va_get (D := (dC, dI)) (ci := 13) (v := .int (nI n)) (C := R_Mo) (T := F_Mo) (N := 30) hx hb hts in_Mo hown hK hP 0 rfl rfl 8 (by decide) (hts _ w_1097) (fun _ h9 => h9) (MFg (by decide) ((va_up_ne _ _ (by decide)).trans (h8))) d_Mo_escaped_161 ?_
                    refine lv_goto (tgt := 168) hx hb d_Mo_escaped_164 (by decide) ?_
                    have hPc := hP.sub (ws' := [(mo, .inr (13, MF 30 (va_up v 7 (.int (nI j)))))]) [0] rfl
                    have hDc := hD.sub (ws' := [(mo, .inr (13, MF 30 (va_up v 7 (.int (nI j)))))]) [0] (by decide) rfl
                    have hKc := hK.sub (tys' := []) [] rfl
                    have hFc := va_free (wc := [(mo, .inr (13, MF 30 (va_up v 7 (.int (nI j)))))]) hD hS hA [0] rfl
                    refine va_calli (va_runV (As := [.int (nI n)]) (rest := []) ⟨hx, hb, hml, hown, hts⟩ (c_Mo_fail l dC dI mo H (va_up v 7 (.int (nI j))) br ((nI n)) ((va_up_ne _ _ (by decide)).trans (h9))) (cwV 1 hts (gt_V (own := R_Mo) (C := R_Mo) (i := 151) (y := y_Mo_fail) i_Mo_fail w_1250 w_1252 (gt_sel (y := y_Mo_fail) (n := 30) (by decide +kernel)) w_7) rfl rfl rfl (by decide +kernel) ⟨Nat.le_of_ble_eq_true rfl, Nat.le_of_ble_eq_true rfl⟩) ⟨mp_blind, va_recv hKc hPc (ci := 13) (q0 := 0) rfl rfl, fun U hU hW => ⟨rfl, hU, by rw [hU]; exact hPc, va_K.moved hW.alike hKc, hDc.weaken (fun _ _ _ _ => trivial)⟩⟩ rfl rfl hl.1 rfl (lv_room (Nat.le_of_ble_eq_true rfl)) d_Mo_escaped_168 ⟨Nat.le_of_ble_eq_true rfl, Nat.le_of_ble_eq_true rfl⟩) hS (fun q _ h => hFc q h) hFc (fun r u2 t H1 locs ht hvm hw hB hz1 hk1 hS => ?_)
                    obtain ⟨hP1, hK1, hD1⟩ := hB
                    rw [ht] at hP1
                    obtain ⟨hP, hD⟩ := va_join (wr := [(qx, .inl (cB, NN, .inl f))]) (w1 := [(mo, .inr (13, MF 30 u2))]) hP hD [0] [1] rfl rfl (by decide) (by decide) hk1 hFc hP1 hD1
                    generalize H1 = H at hP hS ⊢
                    have hP : va_P (dC, dI) classes [(qx, .inl (cB, NN, .inl f)), (mo, .inr (13, MF 30 u2))] H := hP
                    have hD : va_D A [(qx, .inl (cB, NN, .inl f)), (mo, .inr (13, MF 30 u2))] := hD
                    have hP := hP.sub (ws' := [(mo, .inr (13, MF 30 u2)), (qx, .inl (cB, NN, .inl f))]) [1, 0] rfl
                    have hD := hD.sub (ws' := [(mo, .inr (13, MF 30 u2)), (qx, .inl (cB, NN, .inl f))]) [1, 0] (by decide) rfl
                    obtain ⟨rfl, rfl⟩ : r = 0 ∧ u2 = mfail (va_up v 7 (.int (nI j))) br ((nI n)) := hw
                    have hP : va_P (dC, dI) classes [(mo, .inr (13, MF 30 (mfail (va_up v 7 (.int (nI j))) br ((nI n))))), (qx, .inl (cB, NN, .inl f))] H := hP
                    have hD : va_D A [(mo, .inr (13, MF 30 (mfail (va_up v 7 (.int (nI j))) br ((nI n))))), (qx, .inl (cB, NN, .inl f))] := hD
                    refine lv_pop hx hb d_Mo_escaped_171 rfl ?_
                    refine lv_iconst (v := (-1)) hx hb d_Mo_escaped_172 (by decide) ?_
                    have hfm : hexM f n 4 (i + 1 + 1) 0 = (-1, j) := by rw [← hI3]; obtain ⟨k0, rfl⟩ : ∃ k0, kk = k0 + 1 := ⟨kk - 1, by omega⟩; exact hexM_f h_r4 (Int32.not_le.mp c145)
                    exact W.iret (v := (-1)) hx hb hr (fun t ht hW => ⟨⟨(-1), mfail (va_up v 7 (.int (nI j))) br ((nI n)), rfl, by rw [← h_r1]; exact Or.inr (Or.inr (Or.inr (Or.inl ⟨hne, hk0, c119, rfl, j, by omega, hfm, by rw [if_neg (show ¬ j < n from fun h => c157 (by rw [nI_ltI (by omega) (by omega)]; exact h))]⟩))), by rw [ht]; exact hP, va_K.moved hW.alike hK, hD⟩, hS.F ht⟩) hS.2.2 d_Mo_escaped_173
          · refine lv_iload hx hb d_Mo_escaped_70 (lv_at hl 0 rfl) ?_
            refine lv_if_ne (tgt := 80) hx hb d_Mo_escaped_72 (by decide) (fun c72 => ?_) (fun c72 => ?_)
            · refine lv_iload hx hb d_Mo_escaped_80 (lv_at hl 0 rfl) ?_
              refine lv_iconst (v := 1) hx hb d_Mo_escaped_82 (by decide) ?_
              refine lv_icmp_ne (tgt := 91) hx hb d_Mo_escaped_83 (by decide) (fun c83 => ?_) (fun c83 => ?_)
              · refine lv_iload hx hb d_Mo_escaped_91 (lv_at hl 0 rfl) ?_
                refine lv_iconst (v := 2) hx hb d_Mo_escaped_93 (by decide) ?_
                refine lv_icmp_ne (tgt := 102) hx hb d_Mo_escaped_94 (by decide) (fun c94 => ?_) (fun c94 => ?_)
                · refine lv_iload hx hb d_Mo_escaped_102 (lv_at hl 0 rfl) ?_
                  refine lv_iconst (v := 3) hx hb d_Mo_escaped_104 (by decide) ?_
                  refine lv_icmp_ne (tgt := 113) hx hb d_Mo_escaped_105 (by decide) (fun c105 => ?_) (fun c105 => ?_)
                  · refine lv_bipush (v := 9) hx hb d_Mo_escaped_113 (by decide) ?_
                    exact W.iret (v := 9) hx hb hr (fun t ht hW => ⟨⟨9, va_up v 7 (.int (nI (i + 1 + 1))), rfl, by rw [← h_r1]; exact Or.inr (Or.inl ⟨hne, by rw [hk]; exact c67, by rw [hk]; unfold ixV; rw [if_neg c72, if_neg c83, if_neg c94, if_neg c105], rfl⟩), by rw [ht]; exact hP, va_K.moved hW.alike hK, hD⟩, hS.F ht⟩) hS.2.2 d_Mo_escaped_115
                  · refine lv_bipush (v := 13) hx hb d_Mo_escaped_108 (by decide) ?_
                    refine lv_goto (tgt := 115) hx hb d_Mo_escaped_110 (by decide) ?_
                    exact W.iret (v := 13) hx hb hr (fun t ht hW => ⟨⟨13, va_up v 7 (.int (nI (i + 1 + 1))), rfl, by rw [← h_r1]; exact Or.inr (Or.inl ⟨hne, by rw [hk]; exact c67, by rw [hk]; unfold ixV; rw [if_neg c72, if_neg c83, if_neg c94, if_pos c105], rfl⟩), by rw [ht]; exact hP, va_K.moved hW.alike hK, hD⟩, hS.F ht⟩) hS.2.2 d_Mo_escaped_115
                · refine lv_bipush (v := 10) hx hb d_Mo_escaped_97 (by decide) ?_
                  refine lv_goto (tgt := 115) hx hb d_Mo_escaped_99 (by decide) ?_
                  exact W.iret (v := 10) hx hb hr (fun t ht hW => ⟨⟨10, va_up v 7 (.int (nI (i + 1 + 1))), rfl, by rw [← h_r1]; exact Or.inr (Or.inl ⟨hne, by rw [hk]; exact c67, by rw [hk]; unfold ixV; rw [if_neg c72, if_neg c83, if_pos c94], rfl⟩), by rw [ht]; exact hP, va_K.moved hW.alike hK, hD⟩, hS.F ht⟩) hS.2.2 d_Mo_escaped_115
              · refine lv_bipush (v := 12) hx hb d_Mo_escaped_86 (by decide) ?_
                refine lv_goto (tgt := 115) hx hb d_Mo_escaped_88 (by decide) ?_
                exact W.iret (v := 12) hx hb hr (fun t ht hW => ⟨⟨12, va_up v 7 (.int (nI (i + 1 + 1))), rfl, by rw [← h_r1]; exact Or.inr (Or.inl ⟨hne, by rw [hk]; exact c67, by rw [hk]; unfold ixV; rw [if_neg c72, if_pos c83], rfl⟩), by rw [ht]; exact hP, va_K.moved hW.alike hK, hD⟩, hS.F ht⟩) hS.2.2 d_Mo_escaped_115
            · refine lv_bipush (v := 8) hx hb d_Mo_escaped_75 (by decide) ?_
              refine lv_goto (tgt := 115) hx hb d_Mo_escaped_77 (by decide) ?_
              exact W.iret (v := 8) hx hb hr (fun t ht hW => ⟨⟨8, va_up v 7 (.int (nI (i + 1 + 1))), rfl, by rw [← h_r1]; exact Or.inr (Or.inl ⟨hne, by rw [hk]; exact c67, by rw [hk]; unfold ixV; rw [if_pos c72], rfl⟩), by rw [ht]; exact hP, va_K.moved hW.alike hK, hD⟩, hS.F ht⟩) hS.2.2 d_Mo_escaped_115
        · refine lv_iconst (v := (-1)) hx hb d_Mo_escaped_53 (by decide) ?_
          refine lv_goto (tgt := 63) hx hb d_Mo_escaped_54 (by decide) ?_
          have hk : bfI r1 = -1 := by unfold bfI; rw [if_pos (Int32.not_le.mp c50)]
          refine lv_istore (lv' := [(4, .int (-1)), (3, .int r1), (2, .int (nI i)), (0, .ref mo), (1, .int q)]) hx hb d_Mo_escaped_63 hl (by decide) rfl (fun ls hl => ?_)
          refine lv_iload hx hb d_Mo_escaped_65 (lv_at hl 0 rfl) ?_
          refine lv_if_lt (tgt := 116) hx hb d_Mo_escaped_67 (by decide) (fun _ => ?_) (fun h => absurd (by decide) h)
          have hk0 : bfI r1 < 0 := by rw [hk]; decide
          refine lv_iload_n hx hb d_Mo_escaped_116 rfl (lv_at hl 1 rfl) ?_
          refine lv_bipush (v := 117) hx hb d_Mo_escaped_117 (by decide) ?_
          refine lv_icmp_ne (tgt := 203) hx hb d_Mo_escaped_119 (by decide) (fun c119 => ?_) (fun c119 => ?_)
          · refine lv_aload_n hx hb d_Mo_escaped_203 rfl (lv_at hl 3 rfl) ?_
            refine lv_iload_n hx hb d_Mo_escaped_204 rfl (lv_at hl 1 rfl) ?_
            refine lv_if_ge (tgt := 215) hx hb d_Mo_escaped_205 (by decide) (fun c205 => ?_) (fun c205 => ?_)
            · refine lv_iload_n hx hb d_Mo_escaped_215 rfl (lv_at hl 2 rfl) ?_
              have hPc := hP.sub (ws' := [(mo, .inr (13, MF 30 (va_up v 7 (.int (nI (i + 1 + 1))))))]) [0] rfl
              have hDc := hD.sub (ws' := [(mo, .inr (13, MF 30 (va_up v 7 (.int (nI (i + 1 + 1))))))]) [0] (by decide) rfl
              have hKc := hK.sub (tys' := []) [] rfl
              have hFc := va_free (wc := [(mo, .inr (13, MF 30 (va_up v 7 (.int (nI (i + 1 + 1))))))]) hD hS hA [0] rfl
              refine va_calli (va_runV (As := [.int (nI i)]) (rest := []) ⟨hx, hb, hml, hown, hts⟩ (c_Mo_fail l dC dI mo H (va_up v 7 (.int (nI (i + 1 + 1)))) br ((nI i)) ((va_up_ne _ _ (by decide)).trans (h9))) (cwV 1 hts (gt_V (own := R_Mo) (C := R_Mo) (i := 151) (y := y_Mo_fail) i_Mo_fail w_1250 w_1252 (gt_sel (y := y_Mo_fail) (n := 30) (by decide +kernel)) w_7) rfl rfl rfl (by decide +kernel) ⟨Nat.le_of_ble_eq_true rfl, Nat.le_of_ble_eq_true rfl⟩) ⟨mp_blind, va_recv hKc hPc (ci := 13) (q0 := 0) rfl rfl, fun U hU hW => ⟨rfl, hU, by rw [hU]; exact hPc, va_K.moved hW.alike hKc, hDc.weaken (fun _ _ _ _ => trivial)⟩⟩ rfl rfl hl.1 rfl (lv_room (Nat.le_of_ble_eq_true rfl)) d_Mo_escaped_216 ⟨Nat.le_of_ble_eq_true rfl, Nat.le_of_ble_eq_true rfl⟩) hS (fun q _ h => hFc q h) hFc (fun r u2 t H1 locs ht hvm hw hB hz1 hk1 hS => ?_)
              obtain ⟨hP1, hK1, hD1⟩ := hB
              rw [ht] at hP1
              obtain ⟨hP, hD⟩ := va_join (wr := [(qx, .inl (cB, NN, .inl f))]) (w1 := [(mo, .inr (13, MF 30 u2))]) hP hD [0] [1] rfl rfl (by decide) (by decide) hk1 hFc hP1 hD1
              generalize H1 = H at hP hS ⊢
              have hP : va_P (dC, dI) classes [(qx, .inl (cB, NN, .inl f)), (mo, .inr (13, MF 30 u2))] H := hP
              have hD : va_D A [(qx, .inl (cB, NN, .inl f)), (mo, .inr (13, MF 30 u2))] := hD
              have hP := hP.sub (ws' := [(mo, .inr (13, MF 30 u2)), (qx, .inl (cB, NN, .inl f))]) [1, 0] rfl
              have hD := hD.sub (ws' := [(mo, .inr (13, MF 30 u2)), (qx, .inl (cB, NN, .inl f))]) [1, 0] (by decide) rfl
              obtain ⟨rfl, rfl⟩ : r = 0 ∧ u2 = mfail (va_up v 7 (.int (nI (i + 1 + 1)))) br ((nI i)) := hw
              have hP : va_P (dC, dI) classes [(mo, .inr (13, MF 30 (mfail (va_up v 7 (.int (nI (i + 1 + 1)))) br ((nI i))))), (qx, .inl (cB, NN, .inl f))] H := hP
              have hD : va_D A [(mo, .inr (13, MF 30 (mfail (va_up v 7 (.int (nI (i + 1 + 1)))) br ((nI i))))), (qx, .inl (cB, NN, .inl f))] := hD
              refine lv_pop hx hb d_Mo_escaped_219 rfl ?_
              refine lv_iconst (v := (-1)) hx hb d_Mo_escaped_220 (by decide) ?_
              exact W.iret (v := (-1)) hx hb hr (fun t ht hW => ⟨⟨(-1), mfail (va_up v 7 (.int (nI (i + 1 + 1)))) br ((nI i)), rfl, by rw [← h_r1]; exact Or.inr (Or.inr (Or.inr (Or.inr ⟨hne, hk0, c119, rfl, by rw [if_neg (Int32.not_lt.mpr c205)]⟩))), by rw [ht]; exact hP, va_K.moved hW.alike hK, hD⟩, hS.F ht⟩) hS.2.2 d_Mo_escaped_221
            · refine lv_aload_n hx hb d_Mo_escaped_208 rfl (lv_at hl 3 rfl) ?_
              refine va_get (D := (dC, dI)) (ci := 13) (v := .int (nI n)) (C := R_Mo) (T := F_Mo) (N := 30) hx hb hts in_Mo hown hK hP 0 rfl rfl 8 (by decide) (hts _ w_1097) (fun _ h9 => h9) (MFg (by decide) ((va_up_ne _ _ (by decide)).trans (h8))) d_Mo_escaped_209 ?_
              refine lv_goto (tgt := 216) hx hb d_Mo_escaped_212 (by decide) ?_
              have hPc := hP.sub (ws' := [(mo, .inr (13, MF 30 (va_up v 7 (.int (nI (i + 1 + 1))))))]) [0] rfl
              have hDc := hD.sub (ws' := [(mo, .inr (13, MF 30 (va_up v 7 (.int (nI (i + 1 + 1))))))]) [0] (by decide) rfl
              have hKc := hK.sub (tys' := []) [] rfl
              have hFc := va_free (wc := [(mo, .inr (13, MF 30 (va_up v 7 (.int (nI (i + 1 + 1))))))]) hD hS hA [0] rfl
              refine va_calli (va_runV (As := [.int (nI n)]) (rest := []) ⟨hx, hb, hml, hown, hts⟩ (c_Mo_fail l dC dI mo H (va_up v 7 (.int (nI (i + 1 + 1)))) br ((nI n)) ((va_up_ne _ _ (by decide)).trans (h9))) (cwV 1 hts (gt_V (own := R_Mo) (C := R_Mo) (i := 151) (y := y_Mo_fail) i_Mo_fail w_1250 w_1252 (gt_sel (y := y_Mo_fail) (n := 30) (by decide +kernel)) w_7) rfl rfl rfl (by decide +kernel) ⟨Nat.le_of_ble_eq_true rfl, Nat.le_of_ble_eq_true rfl⟩) ⟨mp_blind, va_recv hKc hPc (ci := 13) (q0 := 0) rfl rfl, fun U hU hW => ⟨rfl, hU, by rw [hU]; exact hPc, va_K.moved hW.alike hKc, hDc.weaken (fun _ _ _ _ => trivial)⟩⟩ rfl rfl hl.1 rfl (lv_room (Nat.le_of_ble_eq_true rfl)) d_Mo_escaped_216 ⟨Nat.le_of_ble_eq_true rfl, Nat.le_of_ble_eq_true rfl⟩) hS (fun q _ h => hFc q h) hFc (fun r u2 t H1 locs ht hvm hw hB hz1 hk1 hS => ?_)
              obtain ⟨hP1, hK1, hD1⟩ := hB
              rw [ht] at hP1
              obtain ⟨hP, hD⟩ := va_join (wr := [(qx, .inl (cB, NN, .inl f))]) (w1 := [(mo, .inr (13, MF 30 u2))]) hP hD [0] [1] rfl rfl (by decide) (by decide) hk1 hFc hP1 hD1
              generalize H1 = H at hP hS ⊢
              have hP : va_P (dC, dI) classes [(qx, .inl (cB, NN, .inl f)), (mo, .inr (13, MF 30 u2))] H := hP
              have hD : va_D A [(qx, .inl (cB, NN, .inl f)), (mo, .inr (13, MF 30 u2))] := hD
              have hP := hP.sub (ws' := [(mo, .inr (13, MF 30 u2)), (qx, .inl (cB, NN, .inl f))]) [1, 0] rfl
              have hD := hD.sub (ws' := [(mo, .inr (13, MF 30 u2)), (qx, .inl (cB, NN, .inl f))]) [1, 0] (by decide) rfl
              obtain ⟨rfl, rfl⟩ : r = 0 ∧ u2 = mfail (va_up v 7 (.int (nI (i + 1 + 1)))) br ((nI n)) := hw
              have hP : va_P (dC, dI) classes [(mo, .inr (13, MF 30 (mfail (va_up v 7 (.int (nI (i + 1 + 1)))) br ((nI n))))), (qx, .inl (cB, NN, .inl f))] H := hP
              have hD : va_D A [(mo, .inr (13, MF 30 (mfail (va_up v 7 (.int (nI (i + 1 + 1)))) br ((nI n))))), (qx, .inl (cB, NN, .inl f))] := hD
              refine lv_pop hx hb d_Mo_escaped_219 rfl ?_
              refine lv_iconst (v := (-1)) hx hb d_Mo_escaped_220 (by decide) ?_
              exact W.iret (v := (-1)) hx hb hr (fun t ht hW => ⟨⟨(-1), mfail (va_up v 7 (.int (nI (i + 1 + 1)))) br ((nI n)), rfl, by rw [← h_r1]; exact Or.inr (Or.inr (Or.inr (Or.inr ⟨hne, hk0, c119, rfl, by rw [if_pos (Int32.not_le.mp c205)]⟩))), by rw [ht]; exact hP, va_K.moved hW.alike hK, hD⟩, hS.F ht⟩) hS.2.2 d_Mo_escaped_221
          · refine lv_iconst (v := 0) hx hb d_Mo_escaped_122 (by decide) ?_
            refine lv_istore (lv' := [(5, .int 0), (4, .int (-1)), (3, .int r1), (2, .int (nI i)), (0, .ref mo), (1, .int q)]) hx hb d_Mo_escaped_123 hl (by decide) rfl (fun ls hl => ?_)
            refine lv_iconst (v := 0) hx hb d_Mo_escaped_125 (by decide) ?_
            refine lv_istore (lv' := [(6, .int 0), (5, .int 0), (4, .int (-1)), (3, .int r1), (2, .int (nI i)), (0, .ref mo), (1, .int q)]) hx hb d_Mo_escaped_126 hl (by decide) rfl (fun ls hl => ?_)
            refine w_loop (D := (dC, dI)) (cl := classes) (A := A) (H0 := s.heap) (nL := 8) 128 (σ := Nat × Nat × Int32) (fun ⟨kk, j, a⟩ => kk ≤ 4 ∧ j + kk = i + 6 ∧ hexM f n kk j a = hexM f n 4 (i + 1 + 1) 0) (fun ⟨kk, j, a⟩ => kk) (fun ⟨kk, j, a⟩ => [(mo, .inr (13, MF 30 (va_up v 7 (.int (nI j))))), (qx, .inl (cB, NN, .inl f))]) (fun ⟨kk, j, a⟩ => [(0, .ref mo), (2, .int (nI i)), (5, .int a), (6, .int (nI (4 - kk)))]) ?_ (4, i + 1 + 1, 0) ⟨by omega, by omega, rfl⟩ hP hD hS (lv_sub hl [5, 4, 1, 0] rfl)
            rintro ⟨kk, j, a⟩ H locs ls hI ih hP hD hS hl
            have hP : va_P (dC, dI) classes [(mo, .inr (13, MF 30 (va_up v 7 (.int (nI j))))), (qx, .inl (cB, NN, .inl f))] H := hP
            have hD : va_D A [(mo, .inr (13, MF 30 (va_up v 7 (.int (nI j))))), (qx, .inl (cB, NN, .inl f))] := hD
            have hl : lv_has ls 8 [(0, .ref mo), (2, .int (nI i)), (5, .int a), (6, .int (nI (4 - kk)))] := hl
            obtain ⟨hI1, hI2, hI3⟩ := hI
            refine lv_iload hx hb d_Mo_escaped_128 (lv_at hl 3 rfl) ?_
            refine lv_iconst (v := 4) hx hb d_Mo_escaped_130 (by decide) ?_
            refine lv_icmp_ge (tgt := 200) hx hb d_Mo_escaped_131 (by decide) (fun c131 => ?_) (fun c131 => ?_)
            · refine lv_iload hx hb d_Mo_escaped_200 (lv_at hl 2 rfl) ?_
              have hk9 : kk = 0 := Nat.eq_zero_of_not_pos (fun h => absurd c131 (by rw [show (4 : Int32) = nI 4 from rfl, nI_leI (by omega) (by omega)]; omega))
              have hj6 : j = i + 6 := by omega
              rw [hj6] at hP hD
              have hfin : hexM f n 4 (i + 1 + 1) 0 = (a, i + 6) := by rw [← hI3, hk9, hj6]; rfl
              exact W.iret (v := a) hx hb hr (fun t ht hW => ⟨⟨a, va_up v 7 (.int (nI (i + 6))), rfl, by rw [← h_r1]; exact Or.inr (Or.inr (Or.inl ⟨hne, hk0, c119, hfin, rfl⟩)), by rw [ht]; exact hP, va_K.moved hW.alike hK, hD⟩, hS.F ht⟩) hS.2.2 d_Mo_escaped_202
            · refine lv_aload_n hx hb d_Mo_escaped_134 rfl (lv_at hl 0 rfl) ?_
              have hPc := hP.sub (ws' := [(mo, .inr (13, MF 30 (va_up v 7 (.int (nI j))))), (qx, .inl (cB, NN, .inl f))]) [0, 1] rfl
              have hDc := hD.sub (ws' := [(mo, .inr (13, MF 30 (va_up v 7 (.int (nI j))))), (qx, .inl (cB, NN, .inl f))]) [0, 1] (by decide) rfl
              have hKc := hK.sub (tys' := [(cB, .byte)]) [0] rfl
              have hFc := va_free (wc := [(mo, .inr (13, MF 30 (va_up v 7 (.int (nI j))))), (qx, .inl (cB, NN, .inl f))]) hD hS hA [0, 1] rfl
              refine va_calli (va_runV (As := []) (rest := []) ⟨hx, hb, hml, hown, hts⟩ (c_Mo_c l dC dI mo H (va_up v 7 (.int (nI j))) cB qx NN f n j (by omega) (by omega) (by omega) ((va_up_ne _ _ (by decide)).trans (h6)) (va_up_self _ _ _) ((va_up_ne _ _ (by decide)).trans (h8))) (cwV 0 hts (gt_V (own := R_Mo) (C := R_Mo) (i := 147) (y := y_Mo_c) i_Mo_c w_1233 w_1235 (gt_sel (y := y_Mo_c) (n := 30) (by decide +kernel)) w_7) rfl rfl rfl (by decide +kernel) ⟨Nat.le_of_ble_eq_true rfl, Nat.le_of_ble_eq_true rfl⟩) ⟨mp_blind, va_recv hKc hPc (ci := 13) (q0 := 0) rfl rfl, fun U hU hW => ⟨rfl, hU, by rw [hU]; exact hPc, va_K.moved hW.alike hKc, hDc.weaken (fun _ _ _ _ => trivial)⟩⟩ rfl rfl hl.1 rfl (lv_room (Nat.le_of_ble_eq_true rfl)) d_Mo_escaped_135 ⟨Nat.le_of_ble_eq_true rfl, Nat.le_of_ble_eq_true rfl⟩) hS (fun q _ h => hFc q h) hFc (fun r3 _u t H1 locs ht hvm hw hB hz1 hk1 hS => ?_)
              obtain ⟨hP1, hK1, hD1⟩ := hB
              rw [ht] at hP1
              obtain ⟨hP, hD⟩ := va_join (wr := []) (w1 := [(mo, .inr (13, MF 30 (va_up v 7 (.int (nI j))))), (qx, .inl (cB, NN, .inl f))]) hP hD [0, 1] [] rfl rfl (by decide) (by decide) hk1 hFc hP1 hD1
              generalize H1 = H at hP hS ⊢
              have hP : va_P (dC, dI) classes [(mo, .inr (13, MF 30 (va_up v 7 (.int (nI j))))), (qx, .inl (cB, NN, .inl f))] H := hP
              have hD : va_D A [(mo, .inr (13, MF 30 (va_up v 7 (.int (nI j))))), (qx, .inl (cB, NN, .inl f))] := hD
              have h_r3 : r3 = hereV f n j := hw
              have hkk : 0 < kk := Nat.pos_of_ne_zero (fun h => by subst h; exact c131 (by decide))
              have hPc := hP.sub (ws' := []) [] rfl
              have hDc := hD.sub (ws' := []) [] (by decide) rfl
              have hKc := hK.sub (tys' := []) [] rfl
              have hFc := va_free (wc := []) hD hS hA [] rfl
              refine va_calli (va_runS (As := [.int r3]) (rest := []) ⟨hx, hb, hml, hown, hts⟩ (c_Mo_hex l dC dI H r3) (va_cwS 1 hts (gt_S (own := R_Mo) (i := 174) (y := y_Mo_hex) i_Mo_hex w_1329 w_1330 w_7) rfl rfl rfl (by decide +kernel) ⟨Nat.le_of_ble_eq_true rfl, Nat.le_of_ble_eq_true rfl⟩) ⟨mp_blind, fun U hU hW => ⟨rfl, hU, by rw [hU]; exact hPc, va_K.moved hW.alike hKc, hDc.weaken (fun _ _ _ _ => trivial)⟩⟩ rfl rfl hl.1 rfl (lv_room (Nat.le_of_ble_eq_true rfl)) d_Mo_escaped_138 ⟨Nat.le_of_ble_eq_true rfl, Nat.le_of_ble_eq_true rfl⟩) hS (fun q _ h => hFc q h) hFc (fun r4 _u t H1 locs ht hvm hw hB hz1 hk1 hS => ?_)
              obtain ⟨hP1, hK1, hD1⟩ := hB
              rw [ht] at hP1
              obtain ⟨hP, hD⟩ := va_join (wr := [(mo, .inr (13, MF 30 (va_up v 7 (.int (nI j))))), (qx, .inl (cB, NN, .inl f))]) (w1 := []) hP hD [] [0, 1] rfl rfl (by decide) (by decide) hk1 hFc hP1 hD1
              generalize H1 = H at hP hS ⊢
              have hP : va_P (dC, dI) classes [(mo, .inr (13, MF 30 (va_up v 7 (.int (nI j))))), (qx, .inl (cB, NN, .inl f))] H := hP
              have hD : va_D A [(mo, .inr (13, MF 30 (va_up v 7 (.int (nI j))))), (qx, .inl (cB, NN, .inl f))] := hD
              have h_r4 : r4 = hexV (hereV f n j) := by rw [← h_r3]; exact hw
              refine lv_istore (lv' := [(7, .int r4), (0, .ref mo), (2, .int (nI i)), (5, .int a), (6, .int (nI (4 - kk)))]) hx hb d_Mo_escaped_141 hl (by decide) rfl (fun ls hl => ?_)
              refine lv_iload hx hb d_Mo_escaped_143 (lv_at hl 0 rfl) ?_
              refine lv_if_ge (tgt := 174) hx hb d_Mo_escaped_145 (by decide) (fun c145 => ?_) (fun c145 => ?_)
              · refine lv_bipush (v := 16) hx hb d_Mo_escaped_174 (by decide) ?_
                refine lv_iload hx hb d_Mo_escaped_176 (lv_at hl 3 rfl) ?_
                refine lv_imul hx hb d_Mo_escaped_178 ?_
                refine lv_iload hx hb d_Mo_escaped_179 (lv_at hl 0 rfl) ?_
                refine lv_iadd hx hb d_Mo_escaped_181 ?_
                refine lv_istore (lv' := [(5, .int ((16 * a) + r4)), (7, .int r4), (0, .ref mo), (2, .int (nI i)), (6, .int (nI (4 - kk)))]) hx hb d_Mo_escaped_182 hl (by decide) rfl (fun ls hl => ?_)
                refine lv_aload_n hx hb d_Mo_escaped_184 rfl (lv_at hl 2 rfl) ?_
                refine lv_dup hx hb d_Mo_escaped_185 rfl ?_
                refine va_get (D := (dC, dI)) (ci := 13) (v := .int (nI j)) (C := R_Mo) (T := F_Mo) (N := 30) hx hb hts in_Mo hown hK hP 0 rfl rfl 7 (by decide) (hts _ w_1096) (fun _ h9 => h9) (MFg (by decide) (va_up_self _ _ _)) d_Mo_escaped_186 ?_
                refine lv_iconst (v := 1) hx hb d_Mo_escaped_189 (by decide) ?_
                refine lv_iadd hx hb d_Mo_escaped_190 ?_
                refine W.eq (g2 := F0 m 191 ls [.int (nI (j + 1)), .ref mo]) (by rw [show ((nI j) + 1) = (nI (j + 1)) from nI_1 _]) ?_
                refine va_put (D := (dC, dI)) (ci := 13) (v := .int (nI (j + 1))) (ty := .int) (C := R_Mo) (T := F_Mo) (N := 30) hx hb hts in_Mo t_Mo t_Mo_ok n_Mo hown hK hP hD hS 0 rfl rfl 7 (by decide) (hts _ w_1096) (fun _ h9 => h9) rfl (by decide +kernel) rfl rfl (by rw [MFl]; decide) d_Mo_escaped_191 (fun H locs hP hD hS => ?_)
                rw [MFs (n := 30) (k := 7) (by decide)] at hP hD
                rw [bx_uu] at hP hD
                have hP : va_P (dC, dI) classes [(mo, .inr (13, MF 30 (va_up v 7 (.int (nI (j + 1)))))), (qx, .inl (cB, NN, .inl f))] H := hP
                have hD : va_D A [(mo, .inr (13, MF 30 (va_up v 7 (.int (nI (j + 1)))))), (qx, .inl (cB, NN, .inl f))] := hD
                refine lv_iinc (v := nI (4 - kk) + 1) (lv' := [(6, .int (nI (4 - kk) + 1)), (5, .int ((16 * a) + r4)), (7, .int r4), (0, .ref mo), (2, .int (nI i))]) hx hb d_Mo_escaped_194 hl (k := 4) rfl rfl (by decide) rfl (fun ls hl => ?_)
                refine lv_goto (tgt := 128) hx hb d_Mo_escaped_197 (by decide) ?_
                rw [show (nI (4 - kk) + 1 : Int32) = nI (4 - (kk - 1)) by rw [nI_1]; congr 1; omega] at hl
                have hst : hexM f n kk j a = hexM f n (kk - 1) (j + 1) (16 * a + r4) := by obtain ⟨k0, rfl⟩ : ∃ k0, kk = k0 + 1 := ⟨kk - 1, by omega⟩; exact hexM_s h_r4 (Int32.not_lt.mpr c145)
                exact ih (kk - 1, j + 1, 16 * a + r4) _ _ _ ⟨by omega, by omega, by rw [← hI3]; exact hst.symm⟩ (by show kk - 1 < kk; omega) hP hD hS (lv_sub hl [3, 4, 1, 0] rfl)
              · refine lv_aload_n hx hb d_Mo_escaped_148 rfl (lv_at hl 1 rfl) ?_
                refine lv_aload_n hx hb d_Mo_escaped_149 rfl (lv_at hl 1 rfl) ?_
                refine va_get (D := (dC, dI)) (ci := 13) (v := .int (nI j)) (C := R_Mo) (T := F_Mo) (N := 30) hx hb hts in_Mo hown hK hP 0 rfl rfl 7 (by decide) (hts _ w_1096) (fun _ h9 => h9) (MFg (by decide) (va_up_self _ _ _)) d_Mo_escaped_150 ?_
                refine lv_aload_n hx hb d_Mo_escaped_153 rfl (lv_at hl 1 rfl) ?_
                refine va_get (D := (dC, dI)) (ci := 13) (v := .int (nI n)) (C := R_Mo) (T := F_Mo) (N := 30) hx hb hts in_Mo hown hK hP 0 rfl rfl 8 (by decide) (hts _ w_1097) (fun _ h9 => h9) (MFg (by decide) ((va_up_ne _ _ (by decide)).trans (h8))) d_Mo_escaped_154 ?_
                refine lv_icmp_lt (tgt := 167) hx hb d_Mo_escaped_157 (by decide) (fun c157 => ?_) (fun c157 => ?_)
                · refine lv_iload_n hx hb d_Mo_escaped_167 rfl (lv_at hl 2 rfl) ?_
                  have hPc := hP.sub (ws' := [(mo, .inr (13, MF 30 (va_up v 7 (.int (nI j)))))]) [0] rfl
                  have hDc := hD.sub (ws' := [(mo, .inr (13, MF 30 (va_up v 7 (.int (nI j)))))]) [0] (by decide) rfl
                  have hKc := hK.sub (tys' := []) [] rfl
                  have hFc := va_free (wc := [(mo, .inr (13, MF 30 (va_up v 7 (.int (nI j)))))]) hD hS hA [0] rfl
                  refine va_calli (va_runV (As := [.int (nI i)]) (rest := []) ⟨hx, hb, hml, hown, hts⟩ (c_Mo_fail l dC dI mo H (va_up v 7 (.int (nI j))) br ((nI i)) ((va_up_ne _ _ (by decide)).trans (h9))) (cwV 1 hts (gt_V (own := R_Mo) (C := R_Mo) (i := 151) (y := y_Mo_fail) i_Mo_fail w_1250 w_1252 (gt_sel (y := y_Mo_fail) (n := 30) (by decide +kernel)) w_7) rfl rfl rfl (by decide +kernel) ⟨Nat.le_of_ble_eq_true rfl, Nat.le_of_ble_eq_true rfl⟩) ⟨mp_blind, va_recv hKc hPc (ci := 13) (q0 := 0) rfl rfl, fun U hU hW => ⟨rfl, hU, by rw [hU]; exact hPc, va_K.moved hW.alike hKc, hDc.weaken (fun _ _ _ _ => trivial)⟩⟩ rfl rfl hl.1 rfl (lv_room (Nat.le_of_ble_eq_true rfl)) d_Mo_escaped_168 ⟨Nat.le_of_ble_eq_true rfl, Nat.le_of_ble_eq_true rfl⟩) hS (fun q _ h => hFc q h) hFc (fun r u2 t H1 locs ht hvm hw hB hz1 hk1 hS => ?_)
                  obtain ⟨hP1, hK1, hD1⟩ := hB
                  rw [ht] at hP1
                  obtain ⟨hP, hD⟩ := va_join (wr := [(qx, .inl (cB, NN, .inl f))]) (w1 := [(mo, .inr (13, MF 30 u2))]) hP hD [0] [1] rfl rfl (by decide) (by decide) hk1 hFc hP1 hD1
                  generalize H1 = H at hP hS ⊢
                  have hP : va_P (dC, dI) classes [(qx, .inl (cB, NN, .inl f)), (mo, .inr (13, MF 30 u2))] H := hP
                  have hD : va_D A [(qx, .inl (cB, NN, .inl f)), (mo, .inr (13, MF 30 u2))] := hD
                  have hP := hP.sub (ws' := [(mo, .inr (13, MF 30 u2)), (qx, .inl (cB, NN, .inl f))]) [1, 0] rfl
                  have hD := hD.sub (ws' := [(mo, .inr (13, MF 30 u2)), (qx, .inl (cB, NN, .inl f))]) [1, 0] (by decide) rfl
                  obtain ⟨rfl, rfl⟩ : r = 0 ∧ u2 = mfail (va_up v 7 (.int (nI j))) br ((nI i)) := hw
                  have hP : va_P (dC, dI) classes [(mo, .inr (13, MF 30 (mfail (va_up v 7 (.int (nI j))) br ((nI i))))), (qx, .inl (cB, NN, .inl f))] H := hP
                  have hD : va_D A [(mo, .inr (13, MF 30 (mfail (va_up v 7 (.int (nI j))) br ((nI i))))), (qx, .inl (cB, NN, .inl f))] := hD
                  refine lv_pop hx hb d_Mo_escaped_171 rfl ?_
                  refine lv_iconst (v := (-1)) hx hb d_Mo_escaped_172 (by decide) ?_
                  have hfm : hexM f n 4 (i + 1 + 1) 0 = (-1, j) := by rw [← hI3]; obtain ⟨k0, rfl⟩ : ∃ k0, kk = k0 + 1 := ⟨kk - 1, by omega⟩; exact hexM_f h_r4 (Int32.not_le.mp c145)
                  exact W.iret (v := (-1)) hx hb hr (fun t ht hW => ⟨⟨(-1), mfail (va_up v 7 (.int (nI j))) br ((nI i)), rfl, by rw [← h_r1]; exact Or.inr (Or.inr (Or.inr (Or.inl ⟨hne, hk0, c119, rfl, j, by omega, hfm, by rw [if_pos (show j < n by rw [nI_ltI (by omega) (by omega)] at c157; exact c157)]⟩))), by rw [ht]; exact hP, va_K.moved hW.alike hK, hD⟩, hS.F ht⟩) hS.2.2 d_Mo_escaped_173
                · refine lv_aload_n hx hb d_Mo_escaped_160 rfl (lv_at hl 1 rfl) ?_
                  refine va_get (D := (dC, dI)) (ci := 13) (v := .int (nI n)) (C := R_Mo) (T := F_Mo) (N := 30) hx hb hts in_Mo hown hK hP 0 rfl rfl 8 (by decide) (hts _ w_1097) (fun _ h9 => h9) (MFg (by decide) ((va_up_ne _ _ (by decide)).trans (h8))) d_Mo_escaped_161 ?_
                  refine lv_goto (tgt := 168) hx hb d_Mo_escaped_164 (by decide) ?_
                  have hPc := hP.sub (ws' := [(mo, .inr (13, MF 30 (va_up v 7 (.int (nI j)))))]) [0] rfl
                  have hDc := hD.sub (ws' := [(mo, .inr (13, MF 30 (va_up v 7 (.int (nI j)))))]) [0] (by decide) rfl
                  have hKc := hK.sub (tys' := []) [] rfl
                  have hFc := va_free (wc := [(mo, .inr (13, MF 30 (va_up v 7 (.int (nI j)))))]) hD hS hA [0] rfl
                  refine va_calli (va_runV (As := [.int (nI n)]) (rest := []) ⟨hx, hb, hml, hown, hts⟩ (c_Mo_fail l dC dI mo H (va_up v 7 (.int (nI j))) br ((nI n)) ((va_up_ne _ _ (by decide)).trans (h9))) (cwV 1 hts (gt_V (own := R_Mo) (C := R_Mo) (i := 151) (y := y_Mo_fail) i_Mo_fail w_1250 w_1252 (gt_sel (y := y_Mo_fail) (n := 30) (by decide +kernel)) w_7) rfl rfl rfl (by decide +kernel) ⟨Nat.le_of_ble_eq_true rfl, Nat.le_of_ble_eq_true rfl⟩) ⟨mp_blind, va_recv hKc hPc (ci := 13) (q0 := 0) rfl rfl, fun U hU hW => ⟨rfl, hU, by rw [hU]; exact hPc, va_K.moved hW.alike hKc, hDc.weaken (fun _ _ _ _ => trivial)⟩⟩ rfl rfl hl.1 rfl (lv_room (Nat.le_of_ble_eq_true rfl)) d_Mo_escaped_168 ⟨Nat.le_of_ble_eq_true rfl, Nat.le_of_ble_eq_true rfl⟩) hS (fun q _ h => hFc q h) hFc (fun r u2 t H1 locs ht hvm hw hB hz1 hk1 hS => ?_)
                  obtain ⟨hP1, hK1, hD1⟩ := hB
                  rw [ht] at hP1
                  obtain ⟨hP, hD⟩ := va_join (wr := [(qx, .inl (cB, NN, .inl f))]) (w1 := [(mo, .inr (13, MF 30 u2))]) hP hD [0] [1] rfl rfl (by decide) (by decide) hk1 hFc hP1 hD1
                  generalize H1 = H at hP hS ⊢
                  have hP : va_P (dC, dI) classes [(qx, .inl (cB, NN, .inl f)), (mo, .inr (13, MF 30 u2))] H := hP
                  have hD : va_D A [(qx, .inl (cB, NN, .inl f)), (mo, .inr (13, MF 30 u2))] := hD
                  have hP := hP.sub (ws' := [(mo, .inr (13, MF 30 u2)), (qx, .inl (cB, NN, .inl f))]) [1, 0] rfl
                  have hD := hD.sub (ws' := [(mo, .inr (13, MF 30 u2)), (qx, .inl (cB, NN, .inl f))]) [1, 0] (by decide) rfl
                  obtain ⟨rfl, rfl⟩ : r = 0 ∧ u2 = mfail (va_up v 7 (.int (nI j))) br ((nI n)) := hw
                  have hP : va_P (dC, dI) classes [(mo, .inr (13, MF 30 (mfail (va_up v 7 (.int (nI j))) br ((nI n))))), (qx, .inl (cB, NN, .inl f))] H := hP
                  have hD : va_D A [(mo, .inr (13, MF 30 (mfail (va_up v 7 (.int (nI j))) br ((nI n))))), (qx, .inl (cB, NN, .inl f))] := hD
                  refine lv_pop hx hb d_Mo_escaped_171 rfl ?_
                  refine lv_iconst (v := (-1)) hx hb d_Mo_escaped_172 (by decide) ?_
                  have hfm : hexM f n 4 (i + 1 + 1) 0 = (-1, j) := by rw [← hI3]; obtain ⟨k0, rfl⟩ : ∃ k0, kk = k0 + 1 := ⟨kk - 1, by omega⟩; exact hexM_f h_r4 (Int32.not_le.mp c145)
                  exact W.iret (v := (-1)) hx hb hr (fun t ht hW => ⟨⟨(-1), mfail (va_up v 7 (.int (nI j))) br ((nI n)), rfl, by rw [← h_r1]; exact Or.inr (Or.inr (Or.inr (Or.inl ⟨hne, hk0, c119, rfl, j, by omega, hfm, by rw [if_neg (show ¬ j < n from fun h => c157 (by rw [nI_ltI (by omega) (by omega)]; exact h))]⟩))), by rw [ht]; exact hP, va_K.moved hW.alike hK, hD⟩, hS.F ht⟩) hS.2.2 d_Mo_escaped_173
      · refine lv_iload_n hx hb d_Mo_escaped_47 rfl (lv_at hl 0 rfl) ?_
        exact W.iret (v := r1) hx hb hr (fun t ht hW => ⟨⟨r1, va_up v 7 (.int (nI (i + 1 + 1))), rfl, by rw [← h_r1]; exact Or.inl ⟨rfl, Or.inr (Or.inr c44), rfl⟩, by rw [ht]; exact hP, va_K.moved hW.alike hK, hD⟩, hS.F ht⟩) hS.2.2 d_Mo_escaped_48
