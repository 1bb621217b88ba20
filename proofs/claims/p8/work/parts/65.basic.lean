theorem w_1451 : (.methodLink "QueryBenchModel" 321 ⟨"QueryBenchModel", "operator", "()Z"⟩ : Cond) ∈ gtbl := gt_in 1451 (by decide +kernel) (by decide +kernel)
theorem w_1453 : (.instanceMethod ⟨"QueryBenchModel", "operator", "()Z"⟩ : Cond) ∈ gtbl := gt_in 1453 (by decide +kernel) (by decide +kernel)
theorem w_1455 : (.methodLink "QueryBenchModel" 325 ⟨"QueryBenchModel", "comparison", "(I)I"⟩ : Cond) ∈ gtbl := gt_in 1455 (by decide +kernel) (by decide +kernel)
theorem w_1457 : (.instanceMethod ⟨"QueryBenchModel", "comparison", "(I)I"⟩ : Cond) ∈ gtbl := gt_in 1457 (by decide +kernel) (by decide +kernel)
theorem w_1472 : (.methodLink "QueryBenchModel" 331 ⟨"QueryBenchModel", "wrap", "(I)I"⟩ : Cond) ∈ gtbl := gt_in 1472 (by decide +kernel) (by decide +kernel)
theorem w_1474 : (.instanceMethod ⟨"QueryBenchModel", "wrap", "(I)I"⟩ : Cond) ∈ gtbl := gt_in 1474 (by decide +kernel) (by decide +kernel)
def BAo (ba : Nat → Option (Nat × CT)) (P : QP CT) (n i k d o : Nat) (Q : QS) (V : TS) (res : Int32) (u : QS × TS × Nat × Int32 × Nat) : Prop := QPo n i k Q V u ∧ ((∃ a m, res = nI a ∧ ba i = some (u.2.2.1, m) ∧ P u.1 u.2.1 Q.R u.1.R a m ∧ a < u.1.R ∧ u.1.qf (8 * a + 1) = -1 ∧ alr Q V u.1 u.2.1 0 Q.R ∧ u.1.R + 8 * i + d ≤ Q.R + 8 * u.2.2.1 ∧ u.2.1.us + i ≤ V.us + u.2.2.1 ∧ u.2.2.1 ≤ n ∧ Q.R < u.1.R ∧ u.2.2.2.2 = o) ∨ (res = -1 ∧ ba i = none))
theorem op_01 {x r : Int32} (h : r = if opH x then 1 else 0) : (¬ r = 0 → opH x) ∧ (r = 0 → ¬ opH x) := by
  constructor
  · intro h0
    exact Classical.byContradiction (fun hn => h0 (by rw [h, if_neg hn]))
  · intro h0 hd
    rw [h, if_pos hd] at h0
    exact absurd h0 (by decide)
theorem fl_01 {r : Int32} {fl : Bool} (h : r = (if fl = true then 1 else 0)) : (¬ r = 0 → ¬ fl = false) ∧ (r = 0 → fl = false) := by
  cases fl
  · exact ⟨fun h0 => absurd h h0, fun _ => rfl⟩
  · exact ⟨fun _ => by decide, fun h0 => absurd (h.symm.trans h0) (by decide)⟩
abbrev b_Mo_basic : ByteArray := prog_14_method_46_code
def y_Mo_basic : MethodName := ⟨"QueryBenchModel", "basic", "()I"⟩
abbrev k_Mo_basic : Cond := .code y_Mo_basic b_Mo_basic 7 (some .int)
theorem i_Mo_basic : k_Mo_basic ∈ gtbl := gt_in 1446 (by decide +kernel) (by decide +kernel)
theorem d_Mo_basic_0 : decode b_Mo_basic 0 = .ok (.aload_n 0, 1) := by decide +kernel
theorem d_Mo_basic_1 : decode b_Mo_basic 1 = .ok (.invokevirtual 147, 3) := by decide +kernel
theorem d_Mo_basic_4 : decode b_Mo_basic 4 = .ok (.bipush 33, 2) := by decide +kernel
theorem d_Mo_basic_6 : decode b_Mo_basic 6 = .ok (.if_icmp .ne 7, 3) := by decide +kernel
theorem d_Mo_basic_9 : decode b_Mo_basic 9 = .ok (.iconst 1, 1) := by decide +kernel
theorem d_Mo_basic_10 : decode b_Mo_basic 10 = .ok (.goto 4, 3) := by decide +kernel
theorem d_Mo_basic_13 : decode b_Mo_basic 13 = .ok (.iconst 0, 1) := by decide +kernel
theorem d_Mo_basic_14 : decode b_Mo_basic 14 = .ok (.istore_n 1, 1) := by decide +kernel
theorem d_Mo_basic_15 : decode b_Mo_basic 15 = .ok (.iload_n 1, 1) := by decide +kernel
theorem d_Mo_basic_16 : decode b_Mo_basic 16 = .ok (.ifCond .eq 17, 3) := by decide +kernel
theorem d_Mo_basic_19 : decode b_Mo_basic 19 = .ok (.aload_n 0, 1) := by decide +kernel
theorem d_Mo_basic_20 : decode b_Mo_basic 20 = .ok (.dup, 1) := by decide +kernel
theorem d_Mo_basic_21 : decode b_Mo_basic 21 = .ok (.getfield 135, 3) := by decide +kernel
theorem d_Mo_basic_24 : decode b_Mo_basic 24 = .ok (.iconst 1, 1) := by decide +kernel
theorem d_Mo_basic_25 : decode b_Mo_basic 25 = .ok (.iadd, 1) := by decide +kernel
theorem d_Mo_basic_26 : decode b_Mo_basic 26 = .ok (.putfield 135, 3) := by decide +kernel
theorem d_Mo_basic_29 : decode b_Mo_basic 29 = .ok (.aload_n 0, 1) := by decide +kernel
theorem d_Mo_basic_30 : decode b_Mo_basic 30 = .ok (.invokevirtual 184, 3) := by decide +kernel
theorem d_Mo_basic_33 : decode b_Mo_basic 33 = .ok (.aload_n 0, 1) := by decide +kernel
theorem d_Mo_basic_34 : decode b_Mo_basic 34 = .ok (.invokevirtual 147, 3) := by decide +kernel
theorem d_Mo_basic_37 : decode b_Mo_basic 37 = .ok (.bipush 40, 2) := by decide +kernel
theorem d_Mo_basic_39 : decode b_Mo_basic 39 = .ok (.if_icmp .ne 44, 3) := by decide +kernel
theorem d_Mo_basic_42 : decode b_Mo_basic 42 = .ok (.aload_n 0, 1) := by decide +kernel
theorem d_Mo_basic_43 : decode b_Mo_basic 43 = .ok (.bipush 40, 2) := by decide +kernel
theorem d_Mo_basic_45 : decode b_Mo_basic 45 = .ok (.invokevirtual 290, 3) := by decide +kernel
theorem d_Mo_basic_48 : decode b_Mo_basic 48 = .ok (.ifCond .ne 5, 3) := by decide +kernel
theorem d_Mo_basic_51 : decode b_Mo_basic 51 = .ok (.iconst (-1), 1) := by decide +kernel
theorem d_Mo_basic_52 : decode b_Mo_basic 52 = .ok (.ireturn, 1) := by decide +kernel
theorem d_Mo_basic_53 : decode b_Mo_basic 53 = .ok (.aload_n 0, 1) := by decide +kernel
theorem d_Mo_basic_54 : decode b_Mo_basic 54 = .ok (.invokevirtual 184, 3) := by decide +kernel
theorem d_Mo_basic_57 : decode b_Mo_basic 57 = .ok (.aload_n 0, 1) := by decide +kernel
theorem d_Mo_basic_58 : decode b_Mo_basic 58 = .ok (.invokevirtual 300, 3) := by decide +kernel
theorem d_Mo_basic_61 : decode b_Mo_basic 61 = .ok (.istore_n 2, 1) := by decide +kernel
theorem d_Mo_basic_62 : decode b_Mo_basic 62 = .ok (.iload_n 2, 1) := by decide +kernel
theorem d_Mo_basic_63 : decode b_Mo_basic 63 = .ok (.ifCond .ge 5, 3) := by decide +kernel
theorem d_Mo_basic_66 : decode b_Mo_basic 66 = .ok (.iconst (-1), 1) := by decide +kernel
theorem d_Mo_basic_67 : decode b_Mo_basic 67 = .ok (.ireturn, 1) := by decide +kernel
theorem d_Mo_basic_68 : decode b_Mo_basic 68 = .ok (.aload_n 0, 1) := by decide +kernel
theorem d_Mo_basic_69 : decode b_Mo_basic 69 = .ok (.invokevirtual 184, 3) := by decide +kernel
theorem d_Mo_basic_72 : decode b_Mo_basic 72 = .ok (.aload_n 0, 1) := by decide +kernel
theorem d_Mo_basic_73 : decode b_Mo_basic 73 = .ok (.bipush 41, 2) := by decide +kernel
theorem d_Mo_basic_75 : decode b_Mo_basic 75 = .ok (.invokevirtual 297, 3) := by decide +kernel
theorem d_Mo_basic_78 : decode b_Mo_basic 78 = .ok (.ifCond .ne 189, 3) := by decide +kernel
theorem d_Mo_basic_81 : decode b_Mo_basic 81 = .ok (.iconst (-1), 1) := by decide +kernel
theorem d_Mo_basic_82 : decode b_Mo_basic 82 = .ok (.ireturn, 1) := by decide +kernel
theorem d_Mo_basic_83 : decode b_Mo_basic 83 = .ok (.aload_n 0, 1) := by decide +kernel
theorem d_Mo_basic_84 : decode b_Mo_basic 84 = .ok (.invokevirtual 147, 3) := by decide +kernel
theorem d_Mo_basic_87 : decode b_Mo_basic 87 = .ok (.bipush 64, 2) := by decide +kernel
theorem d_Mo_basic_89 : decode b_Mo_basic 89 = .ok (.if_icmp .eq 12, 3) := by decide +kernel
theorem d_Mo_basic_92 : decode b_Mo_basic 92 = .ok (.aload_n 0, 1) := by decide +kernel
theorem d_Mo_basic_93 : decode b_Mo_basic 93 = .ok (.invokevirtual 147, 3) := by decide +kernel
theorem d_Mo_basic_96 : decode b_Mo_basic 96 = .ok (.bipush 36, 2) := by decide +kernel
theorem d_Mo_basic_98 : decode b_Mo_basic 98 = .ok (.if_icmp .ne 133, 3) := by decide +kernel
theorem d_Mo_basic_101 : decode b_Mo_basic 101 = .ok (.aload_n 0, 1) := by decide +kernel
theorem d_Mo_basic_102 : decode b_Mo_basic 102 = .ok (.invokevirtual 147, 3) := by decide +kernel
theorem d_Mo_basic_105 : decode b_Mo_basic 105 = .ok (.bipush 36, 2) := by decide +kernel
theorem d_Mo_basic_107 : decode b_Mo_basic 107 = .ok (.if_icmp .ne 7, 3) := by decide +kernel
theorem d_Mo_basic_110 : decode b_Mo_basic 110 = .ok (.iconst 1, 1) := by decide +kernel
theorem d_Mo_basic_111 : decode b_Mo_basic 111 = .ok (.goto 4, 3) := by decide +kernel
theorem d_Mo_basic_114 : decode b_Mo_basic 114 = .ok (.iconst 0, 1) := by decide +kernel
theorem d_Mo_basic_115 : decode b_Mo_basic 115 = .ok (.istore_n 3, 1) := by decide +kernel
theorem d_Mo_basic_116 : decode b_Mo_basic 116 = .ok (.aload_n 0, 1) := by decide +kernel
theorem d_Mo_basic_117 : decode b_Mo_basic 117 = .ok (.dup, 1) := by decide +kernel
theorem d_Mo_basic_118 : decode b_Mo_basic 118 = .ok (.getfield 135, 3) := by decide +kernel
theorem d_Mo_basic_121 : decode b_Mo_basic 121 = .ok (.iconst 1, 1) := by decide +kernel
theorem d_Mo_basic_122 : decode b_Mo_basic 122 = .ok (.iadd, 1) := by decide +kernel
theorem d_Mo_basic_123 : decode b_Mo_basic 123 = .ok (.putfield 135, 3) := by decide +kernel
theorem d_Mo_basic_126 : decode b_Mo_basic 126 = .ok (.aload_n 0, 1) := by decide +kernel
theorem d_Mo_basic_127 : decode b_Mo_basic 127 = .ok (.iload_n 3, 1) := by decide +kernel
theorem d_Mo_basic_128 : decode b_Mo_basic 128 = .ok (.iconst 0, 1) := by decide +kernel
theorem d_Mo_basic_129 : decode b_Mo_basic 129 = .ok (.invokevirtual 317, 3) := by decide +kernel
theorem d_Mo_basic_132 : decode b_Mo_basic 132 = .ok (.istore 4, 2) := by decide +kernel
theorem d_Mo_basic_134 : decode b_Mo_basic 134 = .ok (.iload 4, 2) := by decide +kernel
theorem d_Mo_basic_136 : decode b_Mo_basic 136 = .ok (.ifCond .ge 5, 3) := by decide +kernel
theorem d_Mo_basic_139 : decode b_Mo_basic 139 = .ok (.iconst (-1), 1) := by decide +kernel
theorem d_Mo_basic_140 : decode b_Mo_basic 140 = .ok (.ireturn, 1) := by decide +kernel
theorem d_Mo_basic_141 : decode b_Mo_basic 141 = .ok (.aload_n 0, 1) := by decide +kernel
theorem d_Mo_basic_142 : decode b_Mo_basic 142 = .ok (.getfield 135, 3) := by decide +kernel
theorem d_Mo_basic_145 : decode b_Mo_basic 145 = .ok (.istore 5, 2) := by decide +kernel
theorem d_Mo_basic_147 : decode b_Mo_basic 147 = .ok (.aload_n 0, 1) := by decide +kernel
theorem d_Mo_basic_148 : decode b_Mo_basic 148 = .ok (.invokevirtual 184, 3) := by decide +kernel
theorem d_Mo_basic_151 : decode b_Mo_basic 151 = .ok (.iload_n 1, 1) := by decide +kernel
theorem d_Mo_basic_152 : decode b_Mo_basic 152 = .ok (.ifCond .ne 55, 3) := by decide +kernel
theorem d_Mo_basic_155 : decode b_Mo_basic 155 = .ok (.aload_n 0, 1) := by decide +kernel
theorem d_Mo_basic_156 : decode b_Mo_basic 156 = .ok (.invokevirtual 321, 3) := by decide +kernel
theorem d_Mo_basic_159 : decode b_Mo_basic 159 = .ok (.ifCond .eq 48, 3) := by decide +kernel
theorem d_Mo_basic_162 : decode b_Mo_basic 162 = .ok (.aload_n 0, 1) := by decide +kernel
theorem d_Mo_basic_163 : decode b_Mo_basic 163 = .ok (.iload 4, 2) := by decide +kernel
theorem d_Mo_basic_165 : decode b_Mo_basic 165 = .ok (.iconst 3, 1) := by decide +kernel
theorem d_Mo_basic_166 : decode b_Mo_basic 166 = .ok (.invokevirtual 286, 3) := by decide +kernel
theorem d_Mo_basic_169 : decode b_Mo_basic 169 = .ok (.ifCond .ne 14, 3) := by decide +kernel
theorem d_Mo_basic_172 : decode b_Mo_basic 172 = .ok (.aload_n 0, 1) := by decide +kernel
theorem d_Mo_basic_173 : decode b_Mo_basic 173 = .ok (.aload_n 0, 1) := by decide +kernel
theorem d_Mo_basic_174 : decode b_Mo_basic 174 = .ok (.getfield 135, 3) := by decide +kernel
theorem d_Mo_basic_177 : decode b_Mo_basic 177 = .ok (.invokevirtual 151, 3) := by decide +kernel
theorem d_Mo_basic_180 : decode b_Mo_basic 180 = .ok (.pop, 1) := by decide +kernel
theorem d_Mo_basic_181 : decode b_Mo_basic 181 = .ok (.iconst (-1), 1) := by decide +kernel
theorem d_Mo_basic_182 : decode b_Mo_basic 182 = .ok (.ireturn, 1) := by decide +kernel
theorem d_Mo_basic_183 : decode b_Mo_basic 183 = .ok (.aload_n 0, 1) := by decide +kernel
theorem d_Mo_basic_184 : decode b_Mo_basic 184 = .ok (.bipush 45, 2) := by decide +kernel
theorem d_Mo_basic_186 : decode b_Mo_basic 186 = .ok (.invokevirtual 269, 3) := by decide +kernel
theorem d_Mo_basic_189 : decode b_Mo_basic 189 = .ok (.istore 6, 2) := by decide +kernel
theorem d_Mo_basic_191 : decode b_Mo_basic 191 = .ok (.aload_n 0, 1) := by decide +kernel
theorem d_Mo_basic_192 : decode b_Mo_basic 192 = .ok (.iload 6, 2) := by decide +kernel
theorem d_Mo_basic_194 : decode b_Mo_basic 194 = .ok (.iconst 2, 1) := by decide +kernel
theorem d_Mo_basic_195 : decode b_Mo_basic 195 = .ok (.iload 4, 2) := by decide +kernel
theorem d_Mo_basic_197 : decode b_Mo_basic 197 = .ok (.invokevirtual 272, 3) := by decide +kernel
theorem d_Mo_basic_200 : decode b_Mo_basic 200 = .ok (.aload_n 0, 1) := by decide +kernel
theorem d_Mo_basic_201 : decode b_Mo_basic 201 = .ok (.iload 6, 2) := by decide +kernel
theorem d_Mo_basic_203 : decode b_Mo_basic 203 = .ok (.invokevirtual 325, 3) := by decide +kernel
theorem d_Mo_basic_206 : decode b_Mo_basic 206 = .ok (.ireturn, 1) := by decide +kernel
theorem d_Mo_basic_207 : decode b_Mo_basic 207 = .ok (.aload_n 0, 1) := by decide +kernel
theorem d_Mo_basic_208 : decode b_Mo_basic 208 = .ok (.iload 5, 2) := by decide +kernel
theorem d_Mo_basic_210 : decode b_Mo_basic 210 = .ok (.putfield 135, 3) := by decide +kernel
theorem d_Mo_basic_213 : decode b_Mo_basic 213 = .ok (.aload_n 0, 1) := by decide +kernel
theorem d_Mo_basic_214 : decode b_Mo_basic 214 = .ok (.bipush 34, 2) := by decide +kernel
theorem d_Mo_basic_216 : decode b_Mo_basic 216 = .ok (.invokevirtual 269, 3) := by decide +kernel
theorem d_Mo_basic_219 : decode b_Mo_basic 219 = .ok (.istore_n 2, 1) := by decide +kernel
theorem d_Mo_basic_220 : decode b_Mo_basic 220 = .ok (.aload_n 0, 1) := by decide +kernel
theorem d_Mo_basic_221 : decode b_Mo_basic 221 = .ok (.iload_n 2, 1) := by decide +kernel
theorem d_Mo_basic_222 : decode b_Mo_basic 222 = .ok (.iconst 2, 1) := by decide +kernel
theorem d_Mo_basic_223 : decode b_Mo_basic 223 = .ok (.iload 4, 2) := by decide +kernel
theorem d_Mo_basic_225 : decode b_Mo_basic 225 = .ok (.invokevirtual 272, 3) := by decide +kernel
theorem d_Mo_basic_228 : decode b_Mo_basic 228 = .ok (.goto 39, 3) := by decide +kernel
theorem d_Mo_basic_231 : decode b_Mo_basic 231 = .ok (.iload_n 1, 1) := by decide +kernel
theorem d_Mo_basic_232 : decode b_Mo_basic 232 = .ok (.ifCond .eq 14, 3) := by decide +kernel
theorem d_Mo_basic_235 : decode b_Mo_basic 235 = .ok (.aload_n 0, 1) := by decide +kernel
theorem d_Mo_basic_236 : decode b_Mo_basic 236 = .ok (.aload_n 0, 1) := by decide +kernel
theorem d_Mo_basic_237 : decode b_Mo_basic 237 = .ok (.getfield 135, 3) := by decide +kernel
theorem d_Mo_basic_240 : decode b_Mo_basic 240 = .ok (.invokevirtual 151, 3) := by decide +kernel
theorem d_Mo_basic_243 : decode b_Mo_basic 243 = .ok (.pop, 1) := by decide +kernel
theorem d_Mo_basic_244 : decode b_Mo_basic 244 = .ok (.iconst (-1), 1) := by decide +kernel
theorem d_Mo_basic_245 : decode b_Mo_basic 245 = .ok (.ireturn, 1) := by decide +kernel
theorem d_Mo_basic_246 : decode b_Mo_basic 246 = .ok (.aload_n 0, 1) := by decide +kernel
theorem d_Mo_basic_247 : decode b_Mo_basic 247 = .ok (.invokevirtual 328, 3) := by decide +kernel
theorem d_Mo_basic_250 : decode b_Mo_basic 250 = .ok (.istore_n 3, 1) := by decide +kernel
theorem d_Mo_basic_251 : decode b_Mo_basic 251 = .ok (.iload_n 3, 1) := by decide +kernel
theorem d_Mo_basic_252 : decode b_Mo_basic 252 = .ok (.ifCond .ge 5, 3) := by decide +kernel
theorem d_Mo_basic_255 : decode b_Mo_basic 255 = .ok (.iconst (-1), 1) := by decide +kernel
theorem d_Mo_basic_256 : decode b_Mo_basic 256 = .ok (.ireturn, 1) := by decide +kernel
theorem d_Mo_basic_257 : decode b_Mo_basic 257 = .ok (.aload_n 0, 1) := by decide +kernel
theorem d_Mo_basic_258 : decode b_Mo_basic 258 = .ok (.invokevirtual 184, 3) := by decide +kernel
theorem d_Mo_basic_261 : decode b_Mo_basic 261 = .ok (.aload_n 0, 1) := by decide +kernel
theorem d_Mo_basic_262 : decode b_Mo_basic 262 = .ok (.iload_n 3, 1) := by decide +kernel
theorem d_Mo_basic_263 : decode b_Mo_basic 263 = .ok (.invokevirtual 325, 3) := by decide +kernel
theorem d_Mo_basic_266 : decode b_Mo_basic 266 = .ok (.ireturn, 1) := by decide +kernel
theorem d_Mo_basic_267 : decode b_Mo_basic 267 = .ok (.iload_n 1, 1) := by decide +kernel
theorem d_Mo_basic_268 : decode b_Mo_basic 268 = .ok (.ifCond .ne 9, 3) := by decide +kernel
theorem d_Mo_basic_271 : decode b_Mo_basic 271 = .ok (.aload_n 0, 1) := by decide +kernel
theorem d_Mo_basic_272 : decode b_Mo_basic 272 = .ok (.iload_n 2, 1) := by decide +kernel
theorem d_Mo_basic_273 : decode b_Mo_basic 273 = .ok (.invokevirtual 331, 3) := by decide +kernel
theorem d_Mo_basic_276 : decode b_Mo_basic 276 = .ok (.ireturn, 1) := by decide +kernel
theorem d_Mo_basic_277 : decode b_Mo_basic 277 = .ok (.aload_n 0, 1) := by decide +kernel
theorem d_Mo_basic_278 : decode b_Mo_basic 278 = .ok (.bipush 32, 2) := by decide +kernel
theorem d_Mo_basic_280 : decode b_Mo_basic 280 = .ok (.invokevirtual 269, 3) := by decide +kernel
theorem d_Mo_basic_283 : decode b_Mo_basic 283 = .ok (.istore_n 3, 1) := by decide +kernel
theorem d_Mo_basic_284 : decode b_Mo_basic 284 = .ok (.aload_n 0, 1) := by decide +kernel
theorem d_Mo_basic_285 : decode b_Mo_basic 285 = .ok (.iload_n 3, 1) := by decide +kernel
theorem d_Mo_basic_286 : decode b_Mo_basic 286 = .ok (.iconst 2, 1) := by decide +kernel
theorem d_Mo_basic_287 : decode b_Mo_basic 287 = .ok (.iload_n 2, 1) := by decide +kernel
theorem d_Mo_basic_288 : decode b_Mo_basic 288 = .ok (.invokevirtual 272, 3) := by decide +kernel
theorem d_Mo_basic_291 : decode b_Mo_basic 291 = .ok (.iload_n 3, 1) := by decide +kernel
theorem d_Mo_basic_292 : decode b_Mo_basic 292 = .ok (.ireturn, 1) := by decide +kernel
set_option maxHeartbeats 4000000 in
set_option maxRecDepth 100000 in
/-- the reference: basic -/
theorem c_bas (orL : (Nat → Int32) → Nat → Nat → Option (Nat × CT)) (cmL : (Nat → Int32) → Nat → Nat → Option (Nat × OT)) (qyL : (Nat → Int32) → Nat → Bool → Nat → Option (Nat × Bool × QT)) (O : QP CT) (C : QP OT) (Y : QP QT) (G M : Nat) (hOf : Frm 8 O) (hCf : Frm 8 C) (hYf : Frm 8 Y) (l : Launch) (dC : Nat → ClassId) (dI : Nat → Nat → Nat) (mo : Nat) (sz : Heap) (v : Nat → Value) (cB cI cL cC : ClassId) (qx NN : Nat) (f : Nat → Int32) (n : Nat) (K : Nat → Nat × Nat) (tv : Nat) (Q : QS) (V : TS) (o i : Nat) (br : Int32) (ok : Bool) (hok : ok = true ↔ ¬ o = 16) (ho16 : o ≤ 16) (hOR : ¬ o = 16 → ORC orL O (o + 1) (15 + G) (600 + M)) (hCM : ¬ o = 16 → CMC cmL C (o + 1) (11 + G) (400 + M)) (hQY : ¬ o = 16 → QYC qyL Y (o + 1) (10 + G) (320 + M)) (hnN : n ≤ NN) (hNN : NN ≤ 4096) (hi0 : i ≤ n) (h6 : v 6 = .ref qx) (h8 : v 8 = .int (nI n)) (h22 : v 22 = .ref tv) (hQ : QOK Q) (hV : TOK V) (hcu : V.us + (n + 12 - i) ≤ 400000) (hcr : Q.R + 8 * (n - i) + 1 ≤ 40000) : Met l y_Mo_basic (k_Mo_basic :: gtbl) ({ frames := 13 + (15 + G), cells := kcap Q (Q.R + 8 * (n - i) + 1) + qcap V (V.us + (n + 12 - i)), slots := 22 * kcap Q (Q.R + 8 * (n - i) + 1) + 2 * qcap V (V.us + (n + 12 - i)), locals := 500 + (600 + M) }) (va_Pc [.ref mo] (me K dC dI [(mo, .inr (13, MF 30 (rf (rs v Q o) i br))), (qx, .inl (cB, NN, .inl f)), (Q.qq, .inl (cI, (8 * Q.C), .inl Q.qf)), (Q.qe, .inl (cL, (3 * Q.C), .inr (.inl Q.ef))), (tv, .inr (12, MF 13 (tw V))), (V.au, .inl (cC, V.U, .inl V.un))] [(cB, .byte), (cI, .int), (cL, .long), (cC, .char)] sz)) (va_Qi (fun (res : Int32) (u : QS × TS × Nat × Int32 × Nat) => BAo (baP f n ok (orL f n) (cmL f n) (qyL f n)) (BASf O C Y) n i 1 5 o Q V res u) (fun u t9 => mz dC dI [(mo, .inr (13, MF 30 (rf (rs v u.1 u.2.2.2.2) u.2.2.1 u.2.2.2.1))), (qx, .inl (cB, NN, .inl f)), (u.1.qq, .inl (cI, (8 * u.1.C), .inl u.1.qf)), (u.1.qe, .inl (cL, (3 * u.1.C), .inr (.inl u.1.ef))), (tv, .inr (12, MF 13 (tw u.2.1))), (u.2.1.au, .inl (cC, u.2.1.U, .inl u.2.1.un))] [(cB, .byte), (cI, .int), (cL, .long), (cC, .char)] (va_A [(mo, .inr (13, MF 30 (rf (rs v Q o) i br))), (qx, .inl (cB, NN, .inl f)), (Q.qq, .inl (cI, (8 * Q.C), .inl Q.qf)), (Q.qe, .inl (cL, (3 * Q.C), .inr (.inl Q.ef))), (tv, .inr (12, MF 13 (tw V))), (V.au, .inl (cC, V.U, .inl V.un))] sz.size) t9 ∧ szk sz t9.heap (cQ Q V u.1 u.2.1) (sQ Q V u.1 u.2.1)) (va_A [(mo, .inr (13, MF 30 (rf (rs v Q o) i br))), (qx, .inl (cB, NN, .inl f)), (Q.qq, .inl (cI, (8 * Q.C), .inl Q.qf)), (Q.qe, .inl (cL, (3 * Q.C), .inr (.inl Q.ef))), (tv, .inr (12, MF 13 (tw V))), (V.au, .inl (cC, V.U, .inl V.un))] sz.size)) (kcap Q (Q.R + 8 * (n - i) + 1) + qcap V (V.us + (n + 12 - i))) (22 * kcap Q (Q.R + 8 * (n - i) + 1) + 2 * qcap V (V.us + (n + 12 - i))) (va_A [(mo, .inr (13, MF 30 (rf (rs v Q o) i br))), (qx, .inl (cB, NN, .inl f)), (Q.qq, .inl (cI, (8 * Q.C), .inl Q.qf)), (Q.qe, .inl (cL, (3 * Q.C), .inr (.inl Q.ef))), (tv, .inr (12, MF 13 (tw V))), (V.au, .inl (cC, V.U, .inl V.un))] sz.size) := by
  refine Met.ofW (cc := b_Mo_basic) (maxL := 7) (ret := (some .int)) (by decide) rfl ?_
  intro p e s m args below meth c s₁ B hml hv
  obtain ⟨rfl, ⟨hsz, hP, hK, hD0⟩, hM⟩ := hv
  have hx := B.exec
  have hb := B.bytes
  have hr := B.returns
  have hts0 := atoms_spec (ws := k_Mo_basic :: gtbl) B.pre
  have hts := fun w h => hts0 w (List.mem_cons_of_mem _ h)
  have hown : s.vm.findClass R_Mo = some m.cls := findClass_of_methodNamed B.named
  have hlocks := B.notSynchronized
  subst hsz
  have hD := hD0.self (sz := s.heap.size)
  generalize hAe : va_A [(mo, .inr (13, MF 30 (rf (rs v Q o) i br))), (qx, .inl (cB, NN, .inl f)), (Q.qq, .inl (cI, (8 * Q.C), .inl Q.qf)), (Q.qe, .inl (cL, (3 * Q.C), .inr (.inl Q.ef))), (tv, .inr (12, MF 13 (tw V))), (V.au, .inl (cC, V.U, .inl V.un))] s.heap.size = A at hD hM ⊢
  have hA : ∀ q : Nat, s.heap.size ≤ q → A q := fun q h => by rw [← hAe]; exact Or.inr h
  have hS : va_S A s.heap s.heap [] := va_S.rf
  have hP : va_P (dC, dI) classes [(mo, .inr (13, MF 30 (rf (rs v Q o) i br))), (qx, .inl (cB, NN, .inl f)), (Q.qq, .inl (cI, (8 * Q.C), .inl Q.qf)), (Q.qe, .inl (cL, (3 * Q.C), .inr (.inl Q.ef))), (tv, .inr (12, MF 13 (tw V))), (V.au, .inl (cC, V.U, .inl V.un))] s.heap := hP
  have hl := lv_entry ([.ref mo]) (n := 7) (Nat.le_of_ble_eq_true rfl)
  rw [lg_entry_eq]
  generalize (lg_sl ([.ref mo]) ++ List.replicate (7 - (lg_sl ([.ref mo])).length) Slot.unset).toArray = ls at hl ⊢
  have hl : lv_has ls 7 [(0, .ref mo)] := hl
  have hQk_Q := hQ
  have hTk_V := hV
  have hCo := hQ.2.2.1
  have hCo2 := hQ.2.1
  clear hQ hV
  have hG_QV : GQ (Q.R + 8 * (n - i) + 1) (V.us + (n + 12 - i)) Q V Q V := GQ.rf
  refine w_same (fun hq => ?_)
  refine w_tight (k := cQ Q V Q V) (n := sQ Q V Q V) (by rw [cQ_rf.1, cQ_rf.2]; exact hq) ?_
  have hqb_QV : Q.R ≤ Q.C ∧ Q.C ≤ 100000 := ⟨hQk_Q.2.2.1, hQk_Q.2.1⟩
  have hfit_QV := hG_QV.fits
  refine lv_aload_n hx hb d_Mo_basic_0 rfl (lv_at hl 0 rfl) ?_
  have hPc := hP.sub (ws' := [(mo, .inr (13, MF 30 (rf (rs v Q o) i br))), (qx, .inl (cB, NN, .inl f))]) [0, 1] rfl
  have hDc := hD.sub (ws' := [(mo, .inr (13, MF 30 (rf (rs v Q o) i br))), (qx, .inl (cB, NN, .inl f))]) [0, 1] (by decide) rfl
  have hKc := hK.sub (tys' := [(cB, .byte)]) [0] rfl
  have hFc := va_free (wc := [(mo, .inr (13, MF 30 (rf (rs v Q o) i br))), (qx, .inl (cB, NN, .inl f))]) hD hS hA [0, 1] rfl
  refine va_calli (va_runV (As := []) (rest := []) ⟨hx, hb, hml, hown, hts⟩ (c_Mo_c l dC dI mo s.heap (rf (rs v Q o) i br) cB qx NN f n i (by omega) (by omega) (by omega) ((rf_ne (by decide) (by decide)).trans ((rs_ne (by decide) (by decide) (by decide) (by decide)).trans h6)) rf_7 ((rf_ne (by decide) (by decide)).trans ((rs_ne (by decide) (by decide) (by decide) (by decide)).trans h8))) (cwV 0 hts (gt_V (own := R_Mo) (C := R_Mo) (i := 147) (y := y_Mo_c) i_Mo_c w_1233 w_1235 (gt_sel (y := y_Mo_c) (n := 30) (by decide +kernel)) w_7) rfl rfl rfl (by decide +kernel) ⟨Nat.le_trans (m := 13) (Nat.le_of_ble_eq_true rfl) (Nat.le_add_right 13 (15 + G)), Nat.le_trans (m := 500) (Nat.le_of_ble_eq_true rfl) (Nat.le_add_right 500 (600 + M))⟩) ⟨mp_blind, va_recv hKc hPc (ci := 13) (q0 := 0) rfl rfl, fun U hU hW => ⟨rfl, hU, by rw [hU]; exact hPc, va_K.moved hW.alike hKc, hDc.weaken (fun _ _ _ _ => trivial)⟩⟩ rfl rfl hl.1 rfl (lv_room (Nat.le_of_ble_eq_true rfl)) d_Mo_basic_1 ⟨hfit_QV.1, hfit_QV.2⟩) hS (fun q _ h => hFc q h) hFc (fun r1 _u t9 H1 locs ht hvm hw hB hz1 hk1 hS => ?_)
  obtain ⟨hP1, hK1, hD1⟩ := hB
  rw [ht] at hP1
  obtain ⟨hP, hD⟩ := va_join (wr := [(Q.qq, .inl (cI, (8 * Q.C), .inl Q.qf)), (Q.qe, .inl (cL, (3 * Q.C), .inr (.inl Q.ef))), (tv, .inr (12, MF 13 (tw V))), (V.au, .inl (cC, V.U, .inl V.un))]) (w1 := [(mo, .inr (13, MF 30 (rf (rs v Q o) i br))), (qx, .inl (cB, NN, .inl f))]) hP hD [0, 1] [2, 3, 4, 5] rfl rfl (by decide) (by decide) hk1 hFc hP1 hD1
  generalize H1 = H at hP hS ⊢
  have hP : va_P (dC, dI) classes [(Q.qq, .inl (cI, (8 * Q.C), .inl Q.qf)), (Q.qe, .inl (cL, (3 * Q.C), .inr (.inl Q.ef))), (tv, .inr (12, MF 13 (tw V))), (V.au, .inl (cC, V.U, .inl V.un)), (mo, .inr (13, MF 30 (rf (rs v Q o) i br))), (qx, .inl (cB, NN, .inl f))] H := hP
  have hD : va_D A [(Q.qq, .inl (cI, (8 * Q.C), .inl Q.qf)), (Q.qe, .inl (cL, (3 * Q.C), .inr (.inl Q.ef))), (tv, .inr (12, MF 13 (tw V))), (V.au, .inl (cC, V.U, .inl V.un)), (mo, .inr (13, MF 30 (rf (rs v Q o) i br))), (qx, .inl (cB, NN, .inl f))] := hD
  have hP := hP.sub (ws' := [(mo, .inr (13, MF 30 (rf (rs v Q o) i br))), (qx, .inl (cB, NN, .inl f)), (Q.qq, .inl (cI, (8 * Q.C), .inl Q.qf)), (Q.qe, .inl (cL, (3 * Q.C), .inr (.inl Q.ef))), (tv, .inr (12, MF 13 (tw V))), (V.au, .inl (cC, V.U, .inl V.un))]) [4, 5, 0, 1, 2, 3] rfl
  have hD := hD.sub (ws' := [(mo, .inr (13, MF 30 (rf (rs v Q o) i br))), (qx, .inl (cB, NN, .inl f)), (Q.qq, .inl (cI, (8 * Q.C), .inl Q.qf)), (Q.qe, .inl (cL, (3 * Q.C), .inr (.inl Q.ef))), (tv, .inr (12, MF 13 (tw V))), (V.au, .inl (cC, V.U, .inl V.un))]) [4, 5, 0, 1, 2, 3] (by decide) rfl
  have h_r1 : r1 = hereV f n i := hw
  refine lv_bipush (v := 33) hx hb d_Mo_basic_4 (by decide) ?_
  refine lv_icmp_ne (tgt := 13) hx hb d_Mo_basic_6 (by decide) (fun c6 => ?_) (fun c6 => ?_)
  · refine lv_iconst (v := 0) hx hb d_Mo_basic_13 (by decide) ?_
    refine lv_istore_n (lv' := [(1, .int 0), (0, .ref mo)]) hx hb d_Mo_basic_14 rfl hl (by decide) rfl (fun ls hl => ?_)
    refine lv_iload_n hx hb d_Mo_basic_15 rfl (lv_at hl 0 rfl) ?_
    refine lv_if_eq (tgt := 33) hx hb d_Mo_basic_16 (by decide) (fun _ => ?_) (fun h => absurd (by decide) h)
    have hbp : baP f n ok (orL f n) (cmL f n) (qyL f n) i = baB f n ok (orL f n) (cmL f n) (qyL f n) false i := baP_n (fun h => c6 (h_r1.trans h))
    have hi1 : i ≤ i ∧ i ≤ n := by omega
    refine lv_aload_n hx hb d_Mo_basic_33 rfl (lv_at hl 1 rfl) ?_
    have hPc := hP.sub (ws' := [(mo, .inr (13, MF 30 (rf (rs v Q o) i br))), (qx, .inl (cB, NN, .inl f))]) [0, 1] rfl
    have hDc := hD.sub (ws' := [(mo, .inr (13, MF 30 (rf (rs v Q o) i br))), (qx, .inl (cB, NN, .inl f))]) [0, 1] (by decide) rfl
    have hKc := hK.sub (tys' := [(cB, .byte)]) [0] rfl
    have hFc := va_free (wc := [(mo, .inr (13, MF 30 (rf (rs v Q o) i br))), (qx, .inl (cB, NN, .inl f))]) hD hS hA [0, 1] rfl
    refine va_calli (va_runV (As := []) (rest := []) ⟨hx, hb, hml, hown, hts⟩ (c_Mo_c l dC dI mo H (rf (rs v Q o) i br) cB qx NN f n i (by omega) (by omega) (by omega) ((rf_ne (by decide) (by decide)).trans ((rs_ne (by decide) (by decide) (by decide) (by decide)).trans h6)) rf_7 ((rf_ne (by decide) (by decide)).trans ((rs_ne (by decide) (by decide) (by decide) (by decide)).trans h8))) (cwV 0 hts (gt_V (own := R_Mo) (C := R_Mo) (i := 147) (y := y_Mo_c) i_Mo_c w_1233 w_1235 (gt_sel (y := y_Mo_c) (n := 30) (by decide +kernel)) w_7) rfl rfl rfl (by decide +kernel) ⟨Nat.le_trans (m := 13) (Nat.le_of_ble_eq_true rfl) (Nat.le_add_right 13 (15 + G)), Nat.le_trans (m := 500) (Nat.le_of_ble_eq_true rfl) (Nat.le_add_right 500 (600 + M))⟩) ⟨mp_blind, va_recv hKc hPc (ci := 13) (q0 := 0) rfl rfl, fun U hU hW => ⟨rfl, hU, by rw [hU]; exact hPc, va_K.moved hW.alike hKc, hDc.weaken (fun _ _ _ _ => trivial)⟩⟩ rfl rfl hl.1 rfl (lv_room (Nat.le_of_ble_eq_true rfl)) d_Mo_basic_34 ⟨hfit_QV.1, hfit_QV.2⟩) hS (fun q _ h => hFc q h) hFc (fun r2 _u t9 H1 locs ht hvm hw hB hz1 hk1 hS => ?_)
    obtain ⟨hP1, hK1, hD1⟩ := hB
    rw [ht] at hP1
    obtain ⟨hP, hD⟩ := va_join (wr := [(Q.qq, .inl (cI, (8 * Q.C), .inl Q.qf)), (Q.qe, .inl (cL, (3 * Q.C), .inr (.inl Q.ef))), (tv, .inr (12, MF 13 (tw V))), (V.au, .inl (cC, V.U, .inl V.un))]) (w1 := [(mo, .inr (13, MF 30 (rf (rs v Q o) i br))), (qx, .inl (cB, NN, .inl f))]) hP hD [0, 1] [2, 3, 4, 5] rfl rfl (by decide) (by decide) hk1 hFc hP1 hD1
    generalize H1 = H at hP hS ⊢
    have hP : va_P (dC, dI) classes [(Q.qq, .inl (cI, (8 * Q.C), .inl Q.qf)), (Q.qe, .inl (cL, (3 * Q.C), .inr (.inl Q.ef))), (tv, .inr (12, MF 13 (tw V))), (V.au, .inl (cC, V.U, .inl V.un)), (mo, .inr (13, MF 30 (rf (rs v Q o) i br))), (qx, .inl (cB, NN, .inl f))] H := hP
    have hD : va_D A [(Q.qq, .inl (cI, (8 * Q.C), .inl Q.qf)), (Q.qe, .inl (cL, (3 * Q.C), .inr (.inl Q.ef))), (tv, .inr (12, MF 13 (tw V))), (V.au, .inl (cC, V.U, .inl V.un)), (mo, .inr (13, MF 30 (rf (rs v Q o) i br))), (qx, .inl (cB, NN, .inl f))] := hD
    have hP := hP.sub (ws' := [(mo, .inr (13, MF 30 (rf (rs v Q o) i br))), (qx, .inl (cB, NN, .inl f)), (Q.qq, .inl (cI, (8 * Q.C), .inl Q.qf)), (Q.qe, .inl (cL, (3 * Q.C), .inr (.inl Q.ef))), (tv, .inr (12, MF 13 (tw V))), (V.au, .inl (cC, V.U, .inl V.un))]) [4, 5, 0, 1, 2, 3] rfl
    have hD := hD.sub (ws' := [(mo, .inr (13, MF 30 (rf (rs v Q o) i br))), (qx, .inl (cB, NN, .inl f)), (Q.qq, .inl (cI, (8 * Q.C), .inl Q.qf)), (Q.qe, .inl (cL, (3 * Q.C), .inr (.inl Q.ef))), (tv, .inr (12, MF 13 (tw V))), (V.au, .inl (cC, V.U, .inl V.un))]) [4, 5, 0, 1, 2, 3] (by decide) rfl
    have h_r2 : r2 = hereV f n i := hw
    refine lv_bipush (v := 40) hx hb d_Mo_basic_37 (by decide) ?_
    refine lv_icmp_ne (tgt := 83) hx hb d_Mo_basic_39 (by decide) (fun c39 => ?_) (fun c39 => ?_)
    · have hn40 : ¬ hereV f n i = 40 := fun h => c39 (h_r2.trans h)
      refine lv_aload_n hx hb d_Mo_basic_83 rfl (lv_at hl 1 rfl) ?_
      have hPc := hP.sub (ws' := [(mo, .inr (13, MF 30 (rf (rs v Q o) i br))), (qx, .inl (cB, NN, .inl f))]) [0, 1] rfl
      have hDc := hD.sub (ws' := [(mo, .inr (13, MF 30 (rf (rs v Q o) i br))), (qx, .inl (cB, NN, .inl f))]) [0, 1] (by decide) rfl
      have hKc := hK.sub (tys' := [(cB, .byte)]) [0] rfl
      have hFc := va_free (wc := [(mo, .inr (13, MF 30 (rf (rs v Q o) i br))), (qx, .inl (cB, NN, .inl f))]) hD hS hA [0, 1] rfl
      refine va_calli (va_runV (As := []) (rest := []) ⟨hx, hb, hml, hown, hts⟩ (c_Mo_c l dC dI mo H (rf (rs v Q o) i br) cB qx NN f n i (by omega) (by omega) (by omega) ((rf_ne (by decide) (by decide)).trans ((rs_ne (by decide) (by decide) (by decide) (by decide)).trans h6)) rf_7 ((rf_ne (by decide) (by decide)).trans ((rs_ne (by decide) (by decide) (by decide) (by decide)).trans h8))) (cwV 0 hts (gt_V (own := R_Mo) (C := R_Mo) (i := 147) (y := y_Mo_c) i_Mo_c w_1233 w_1235 (gt_sel (y := y_Mo_c) (n := 30) (by decide +kernel)) w_7) rfl rfl rfl (by decide +kernel) ⟨Nat.le_trans (m := 13) (Nat.le_of_ble_eq_true rfl) (Nat.le_add_right 13 (15 + G)), Nat.le_trans (m := 500) (Nat.le_of_ble_eq_true rfl) (Nat.le_add_right 500 (600 + M))⟩) ⟨mp_blind, va_recv hKc hPc (ci := 13) (q0 := 0) rfl rfl, fun U hU hW => ⟨rfl, hU, by rw [hU]; exact hPc, va_K.moved hW.alike hKc, hDc.weaken (fun _ _ _ _ => trivial)⟩⟩ rfl rfl hl.1 rfl (lv_room (Nat.le_of_ble_eq_true rfl)) d_Mo_basic_84 ⟨hfit_QV.1, hfit_QV.2⟩) hS (fun q _ h => hFc q h) hFc (fun r3 _u t9 H1 locs ht hvm hw hB hz1 hk1 hS => ?_)
      obtain ⟨hP1, hK1, hD1⟩ := hB
      rw [ht] at hP1
      obtain ⟨hP, hD⟩ := va_join (wr := [(Q.qq, .inl (cI, (8 * Q.C), .inl Q.qf)), (Q.qe, .inl (cL, (3 * Q.C), .inr (.inl Q.ef))), (tv, .inr (12, MF 13 (tw V))), (V.au, .inl (cC, V.U, .inl V.un))]) (w1 := [(mo, .inr (13, MF 30 (rf (rs v Q o) i br))), (qx, .inl (cB, NN, .inl f))]) hP hD [0, 1] [2, 3, 4, 5] rfl rfl (by decide) (by decide) hk1 hFc hP1 hD1
      generalize H1 = H at hP hS ⊢
      have hP : va_P (dC, dI) classes [(Q.qq, .inl (cI, (8 * Q.C), .inl Q.qf)), (Q.qe, .inl (cL, (3 * Q.C), .inr (.inl Q.ef))), (tv, .inr (12, MF 13 (tw V))), (V.au, .inl (cC, V.U, .inl V.un)), (mo, .inr (13, MF 30 (rf (rs v Q o) i br))), (qx, .inl (cB, NN, .inl f))] H := hP
      have hD : va_D A [(Q.qq, .inl (cI, (8 * Q.C), .inl Q.qf)), (Q.qe, .inl (cL, (3 * Q.C), .inr (.inl Q.ef))), (tv, .inr (12, MF 13 (tw V))), (V.au, .inl (cC, V.U, .inl V.un)), (mo, .inr (13, MF 30 (rf (rs v Q o) i br))), (qx, .inl (cB, NN, .inl f))] := hD
      have hP := hP.sub (ws' := [(mo, .inr (13, MF 30 (rf (rs v Q o) i br))), (qx, .inl (cB, NN, .inl f)), (Q.qq, .inl (cI, (8 * Q.C), .inl Q.qf)), (Q.qe, .inl (cL, (3 * Q.C), .inr (.inl Q.ef))), (tv, .inr (12, MF 13 (tw V))), (V.au, .inl (cC, V.U, .inl V.un))]) [4, 5, 0, 1, 2, 3] rfl
      have hD := hD.sub (ws' := [(mo, .inr (13, MF 30 (rf (rs v Q o) i br))), (qx, .inl (cB, NN, .inl f)), (Q.qq, .inl (cI, (8 * Q.C), .inl Q.qf)), (Q.qe, .inl (cL, (3 * Q.C), .inr (.inl Q.ef))), (tv, .inr (12, MF 13 (tw V))), (V.au, .inl (cC, V.U, .inl V.un))]) [4, 5, 0, 1, 2, 3] (by decide) rfl
      have h_r3 : r3 = hereV f n i := hw
      refine lv_bipush (v := 64) hx hb d_Mo_basic_87 (by decide) ?_
      refine lv_icmp_eq (tgt := 101) hx hb d_Mo_basic_89 (by decide) (fun c89 => ?_) (fun c89 => ?_)
      · refine lv_aload_n hx hb d_Mo_basic_101 rfl (lv_at hl 1 rfl) ?_
        have hPc := hP.sub (ws' := [(mo, .inr (13, MF 30 (rf (rs v Q o) i br))), (qx, .inl (cB, NN, .inl f))]) [0, 1] rfl
        have hDc := hD.sub (ws' := [(mo, .inr (13, MF 30 (rf (rs v Q o) i br))), (qx, .inl (cB, NN, .inl f))]) [0, 1] (by decide) rfl
        have hKc := hK.sub (tys' := [(cB, .byte)]) [0] rfl
        have hFc := va_free (wc := [(mo, .inr (13, MF 30 (rf (rs v Q o) i br))), (qx, .inl (cB, NN, .inl f))]) hD hS hA [0, 1] rfl
        refine va_calli (va_runV (As := []) (rest := []) ⟨hx, hb, hml, hown, hts⟩ (c_Mo_c l dC dI mo H (rf (rs v Q o) i br) cB qx NN f n i (by omega) (by omega) (by omega) ((rf_ne (by decide) (by decide)).trans ((rs_ne (by decide) (by decide) (by decide) (by decide)).trans h6)) rf_7 ((rf_ne (by decide) (by decide)).trans ((rs_ne (by decide) (by decide) (by decide) (by decide)).trans h8))) (cwV 0 hts (gt_V (own := R_Mo) (C := R_Mo) (i := 147) (y := y_Mo_c) i_Mo_c w_1233 w_1235 (gt_sel (y := y_Mo_c) (n := 30) (by decide +kernel)) w_7) rfl rfl rfl (by decide +kernel) ⟨Nat.le_trans (m := 13) (Nat.le_of_ble_eq_true rfl) (Nat.le_add_right 13 (15 + G)), Nat.le_trans (m := 500) (Nat.le_of_ble_eq_true rfl) (Nat.le_add_right 500 (600 + M))⟩) ⟨mp_blind, va_recv hKc hPc (ci := 13) (q0 := 0) rfl rfl, fun U hU hW => ⟨rfl, hU, by rw [hU]; exact hPc, va_K.moved hW.alike hKc, hDc.weaken (fun _ _ _ _ => trivial)⟩⟩ rfl rfl hl.1 rfl (lv_room (Nat.le_of_ble_eq_true rfl)) d_Mo_basic_102 ⟨hfit_QV.1, hfit_QV.2⟩) hS (fun q _ h => hFc q h) hFc (fun r5 _u t9 H1 locs ht hvm hw hB hz1 hk1 hS => ?_)
        obtain ⟨hP1, hK1, hD1⟩ := hB
        rw [ht] at hP1
        obtain ⟨hP, hD⟩ := va_join (wr := [(Q.qq, .inl (cI, (8 * Q.C), .inl Q.qf)), (Q.qe, .inl (cL, (3 * Q.C), .inr (.inl Q.ef))), (tv, .inr (12, MF 13 (tw V))), (V.au, .inl (cC, V.U, .inl V.un))]) (w1 := [(mo, .inr (13, MF 30 (rf (rs v Q o) i br))), (qx, .inl (cB, NN, .inl f))]) hP hD [0, 1] [2, 3, 4, 5] rfl rfl (by decide) (by decide) hk1 hFc hP1 hD1
        generalize H1 = H at hP hS ⊢
        have hP : va_P (dC, dI) classes [(Q.qq, .inl (cI, (8 * Q.C), .inl Q.qf)), (Q.qe, .inl (cL, (3 * Q.C), .inr (.inl Q.ef))), (tv, .inr (12, MF 13 (tw V))), (V.au, .inl (cC, V.U, .inl V.un)), (mo, .inr (13, MF 30 (rf (rs v Q o) i br))), (qx, .inl (cB, NN, .inl f))] H := hP
        have hD : va_D A [(Q.qq, .inl (cI, (8 * Q.C), .inl Q.qf)), (Q.qe, .inl (cL, (3 * Q.C), .inr (.inl Q.ef))), (tv, .inr (12, MF 13 (tw V))), (V.au, .inl (cC, V.U, .inl V.un)), (mo, .inr (13, MF 30 (rf (rs v Q o) i br))), (qx, .inl (cB, NN, .inl f))] := hD
        have hP := hP.sub (ws' := [(mo, .inr (13, MF 30 (rf (rs v Q o) i br))), (qx, .inl (cB, NN, .inl f)), (Q.qq, .inl (cI, (8 * Q.C), .inl Q.qf)), (Q.qe, .inl (cL, (3 * Q.C), .inr (.inl Q.ef))), (tv, .inr (12, MF 13 (tw V))), (V.au, .inl (cC, V.U, .inl V.un))]) [4, 5, 0, 1, 2, 3] rfl
        have hD := hD.sub (ws' := [(mo, .inr (13, MF 30 (rf (rs v Q o) i br))), (qx, .inl (cB, NN, .inl f)), (Q.qq, .inl (cI, (8 * Q.C), .inl Q.qf)), (Q.qe, .inl (cL, (3 * Q.C), .inr (.inl Q.ef))), (tv, .inr (12, MF 13 (tw V))), (V.au, .inl (cC, V.U, .inl V.un))]) [4, 5, 0, 1, 2, 3] (by decide) rfl
        have h_r5 : r5 = hereV f n i := hw
        refine lv_bipush (v := 36) hx hb d_Mo_basic_105 (by decide) ?_
        refine lv_icmp_ne (tgt := 114) hx hb d_Mo_basic_107 (by decide) (fun _ => ?_) (fun h => absurd h (fun h => absurd ((c89.symm.trans (h_r3.trans h_r5.symm)).trans h) (by decide)))
        refine lv_iconst (v := 0) hx hb d_Mo_basic_114 (by decide) ?_
        refine lv_istore_n (lv' := [(3, .int 0), (1, .int 0), (0, .ref mo)]) hx hb d_Mo_basic_115 rfl hl (by decide) rfl (fun ls hl => ?_)
        refine lv_aload_n hx hb d_Mo_basic_116 rfl (lv_at hl 2 rfl) ?_
        refine lv_dup hx hb d_Mo_basic_117 rfl ?_
        refine va_get (D := (dC, dI)) (ci := 13) (v := .int (nI i)) (C := R_Mo) (T := F_Mo) (N := 30) hx hb hts in_Mo hown hK hP 0 rfl rfl 7 (by decide) (hts _ w_1096) (fun _ h9 => h9) (MFg (by decide) rf_7) d_Mo_basic_118 ?_
        refine lv_iconst (v := 1) hx hb d_Mo_basic_121 (by decide) ?_
        refine lv_iadd hx hb d_Mo_basic_122 ?_
        have hbeg : begC (hereV f n i) := Or.inl (h_r3.symm.trans c89)
        have hltb : i < n := hbeg.elim (fun h => here_in h (by decide)) (fun h => here_in h (by decide))
        have hrtb : decide (hereV f n i = 36) = false := decide_eq_false (by rw [← h_r3, c89]; decide)
        refine W.eq (g2 := F0 m 123 ls [.int (nI (i + 1)), .ref mo]) (by rw [show ((nI i) + 1) = (nI (i + 1)) from nI_1 _]) ?_
        refine va_put (D := (dC, dI)) (ci := 13) (v := .int (nI (i + 1))) (ty := .int) (C := R_Mo) (T := F_Mo) (N := 30) hx hb hts in_Mo t_Mo t_Mo_ok n_Mo hown hK hP hD hS 0 rfl rfl 7 (by decide) (hts _ w_1096) (fun _ h9 => h9) rfl (by decide +kernel) rfl rfl (by rw [MFl]; decide) d_Mo_basic_123 (fun H locs hP hD hS => ?_)
        rw [MFs (n := 30) (k := 7) (by decide)] at hP hD
        have hP : va_P (dC, dI) classes [(mo, .inr (13, MF 30 (va_up (rf (rs v Q o) i br) 7 (.int (nI (i + 1)))))), (qx, .inl (cB, NN, .inl f)), (Q.qq, .inl (cI, (8 * Q.C), .inl Q.qf)), (Q.qe, .inl (cL, (3 * Q.C), .inr (.inl Q.ef))), (tv, .inr (12, MF 13 (tw V))), (V.au, .inl (cC, V.U, .inl V.un))] H := hP
        have hD : va_D A [(mo, .inr (13, MF 30 (va_up (rf (rs v Q o) i br) 7 (.int (nI (i + 1)))))), (qx, .inl (cB, NN, .inl f)), (Q.qq, .inl (cI, (8 * Q.C), .inl Q.qf)), (Q.qe, .inl (cL, (3 * Q.C), .inr (.inl Q.ef))), (tv, .inr (12, MF 13 (tw V))), (V.au, .inl (cC, V.U, .inl V.un))] := hD
        rw [rf_u7] at hP hD
        have hP : va_P (dC, dI) classes [(mo, .inr (13, MF 30 (rf (rs v Q o) (i + 1) br))), (qx, .inl (cB, NN, .inl f)), (Q.qq, .inl (cI, (8 * Q.C), .inl Q.qf)), (Q.qe, .inl (cL, (3 * Q.C), .inr (.inl Q.ef))), (tv, .inr (12, MF 13 (tw V))), (V.au, .inl (cC, V.U, .inl V.un))] H := hP
        have hD : va_D A [(mo, .inr (13, MF 30 (rf (rs v Q o) (i + 1) br))), (qx, .inl (cB, NN, .inl f)), (Q.qq, .inl (cI, (8 * Q.C), .inl Q.qf)), (Q.qe, .inl (cL, (3 * Q.C), .inr (.inl Q.ef))), (tv, .inr (12, MF 13 (tw V))), (V.au, .inl (cC, V.U, .inl V.un))] := hD
        refine lv_aload_n hx hb d_Mo_basic_126 rfl (lv_at hl 2 rfl) ?_
        refine lv_iload_n hx hb d_Mo_basic_127 rfl (lv_at hl 0 rfl) ?_
        refine lv_iconst (v := 0) hx hb d_Mo_basic_128 (by decide) ?_
        have hPc := hP.sub (ws' := [(mo, .inr (13, MF 30 (rf (rs v Q o) (i + 1) br))), (qx, .inl (cB, NN, .inl f)), (Q.qq, .inl (cI, (8 * Q.C), .inl Q.qf)), (Q.qe, .inl (cL, (3 * Q.C), .inr (.inl Q.ef))), (tv, .inr (12, MF 13 (tw V))), (V.au, .inl (cC, V.U, .inl V.un))]) [0, 1, 2, 3, 4, 5] rfl
        have hDc := hD.sub (ws' := [(mo, .inr (13, MF 30 (rf (rs v Q o) (i + 1) br))), (qx, .inl (cB, NN, .inl f)), (Q.qq, .inl (cI, (8 * Q.C), .inl Q.qf)), (Q.qe, .inl (cL, (3 * Q.C), .inr (.inl Q.ef))), (tv, .inr (12, MF 13 (tw V))), (V.au, .inl (cC, V.U, .inl V.un))]) [0, 1, 2, 3, 4, 5] (by decide) rfl
        have hKc := hK.sub (tys' := [(cB, .byte), (cI, .int), (cL, .long), (cC, .char)]) [0, 1, 2, 3] rfl
        have hFc := va_free (wc := [(mo, .inr (13, MF 30 (rf (rs v Q o) (i + 1) br))), (qx, .inl (cB, NN, .inl f)), (Q.qq, .inl (cI, (8 * Q.C), .inl Q.qf)), (Q.qe, .inl (cL, (3 * Q.C), .inr (.inl Q.ef))), (tv, .inr (12, MF 13 (tw V))), (V.au, .inl (cC, V.U, .inl V.un))]) hD hS hA [0, 1, 2, 3, 4, 5] rfl
        refine w_same (fun hq0 => ?_)
        refine va_calli (va_runV (As := [.int 0, .int 0]) (rest := []) ⟨hx, hb, hml, hown, hts⟩ (c_qr0 orL O (15 + G) (600 + M) hOf l dC dI mo H v cB cI cL cC qx NN f n K tv Q V o (i + 1) br false 0 (by decide) ok hok ho16 hOR hnN hNN (by omega) h6 h8 h22 hQk_Q hTk_V (by omega) (by omega)) (cwV 2 hts (gt_V (own := R_Mo) (C := R_Mo) (i := 317) (y := y_Mo_queryRest) i_Mo_queryRest w_1403 w_1405 (gt_sel (y := y_Mo_queryRest) (n := 30) (by decide +kernel)) w_7) rfl rfl rfl (by decide +kernel) ⟨by show 10 + (15 + G) + 1 ≤ 13 + (15 + G); omega, by show 8 + (7 + 11) + (320 + (600 + M)) ≤ 500 + (600 + M); omega⟩) ⟨me_blind, va_recv hKc hPc (ci := 13) (q0 := 0) rfl rfl, fun U hU hW => ⟨rfl, ⟨hU, by rw [hU]; exact hPc, va_K.moved hW.alike hKc, hDc.weaken (fun _ _ _ _ => trivial)⟩, by rw [hU]; exact ME.call hM hS.2.1 hFc hW⟩⟩ rfl rfl hl.1 rfl (lv_room (Nat.le_of_ble_eq_true rfl)) d_Mo_basic_129 ⟨(hG_QV.step (B2 := Q.R + 8 * (n - (i + 1)) + 9) (C2 := V.us + (n + 12 - (i + 1))) (by omega) (by omega)).1, (hG_QV.step (B2 := Q.R + 8 * (n - (i + 1)) + 9) (C2 := V.us + (n + 12 - (i + 1))) (by omega) (by omega)).2⟩) hS (fun q _ h => hFc q h) hFc (fun r0 ⟨Qs, Vs, js, bs, os⟩ t9 H1 locs ht hvm hw hB hz1 hk1 hS => ?_)
        obtain ⟨⟨hP1, hK1, hD1⟩, hz9⟩ := hB
        rw [ht] at hP1
        rw [ht] at hz9
        obtain ⟨⟨hQk_Qs, hGn, hTXs, hR1_Qs, hR2_Qs⟩, hw⟩ := hw
        have hQk_Qs : QOK Qs := hQk_Qs
        obtain ⟨hG_QsVs, hGc, hGs⟩ := hG_QV.tr hGn (by omega) (by omega)
        have hR1_Qs : Q.R ≤ Qs.R := hR1_Qs
        have hR2_Qs : Qs.R ≤ Q.R + 8 * (n - (i + 1)) + 9 := hR2_Qs
        obtain ⟨uss, hX_Vs, hln_Vs⟩ := hTXs
        have hX_Vs : TX V Vs uss := hX_Vs
        have hXs_Vs := hX_Vs.us
        have hz9 : szk H H1 (cQ Q V Qs Vs) (sQ Q V Qs Vs) := hz9
        have hq1 : szk s.heap H1 (cQ Q V Qs Vs) (sQ Q V Qs Vs) := (hq0.trans hz9).mono hGc hGs
        refine w_tight hq1 ?_
        obtain ⟨hP, hD⟩ := va_join (wr := []) (w1 := [(mo, .inr (13, MF 30 (rf (rs v Qs os) js bs))), (qx, .inl (cB, NN, .inl f)), (Qs.qq, .inl (cI, (8 * Qs.C), .inl Qs.qf)), (Qs.qe, .inl (cL, (3 * Qs.C), .inr (.inl Qs.ef))), (tv, .inr (12, MF 13 (tw Vs))), (Vs.au, .inl (cC, Vs.U, .inl Vs.un))]) hP hD [0, 1, 2, 3, 4, 5] [] rfl rfl (by decide) (by decide) hk1 hFc hP1 hD1
        generalize H1 = H at hP hS ⊢
        have hP : va_P (dC, dI) classes [(mo, .inr (13, MF 30 (rf (rs v Qs os) js bs))), (qx, .inl (cB, NN, .inl f)), (Qs.qq, .inl (cI, (8 * Qs.C), .inl Qs.qf)), (Qs.qe, .inl (cL, (3 * Qs.C), .inr (.inl Qs.ef))), (tv, .inr (12, MF 13 (tw Vs))), (Vs.au, .inl (cC, Vs.U, .inl Vs.un))] H := hP
        have hD : va_D A [(mo, .inr (13, MF 30 (rf (rs v Qs os) js bs))), (qx, .inl (cB, NN, .inl f)), (Qs.qq, .inl (cI, (8 * Qs.C), .inl Qs.qf)), (Qs.qe, .inl (cL, (3 * Qs.C), .inr (.inl Qs.ef))), (tv, .inr (12, MF 13 (tw Vs))), (Vs.au, .inl (cC, Vs.U, .inl Vs.un))] := hD
        have hP := hP.sub (ws' := [(mo, .inr (13, MF 30 (rf (rs v Qs os) js bs))), (qx, .inl (cB, NN, .inl f)), (tv, .inr (12, MF 13 (tw Vs))), (Qs.qq, .inl (cI, (8 * Qs.C), .inl Qs.qf)), (Qs.qe, .inl (cL, (3 * Qs.C), .inr (.inl Qs.ef))), (Vs.au, .inl (cC, Vs.U, .inl Vs.un))]) [0, 1, 4, 2, 3, 5] rfl
        have hD := hD.sub (ws' := [(mo, .inr (13, MF 30 (rf (rs v Qs os) js bs))), (qx, .inl (cB, NN, .inl f)), (tv, .inr (12, MF 13 (tw Vs))), (Qs.qq, .inl (cI, (8 * Qs.C), .inl Qs.qf)), (Qs.qe, .inl (cL, (3 * Qs.C), .inr (.inl Qs.ef))), (Vs.au, .inl (cC, Vs.U, .inl Vs.un))]) [0, 1, 4, 2, 3, 5] (by decide) rfl
        have hP := hP.sub (ws' := [(mo, .inr (13, MF 30 (rf (rs v Qs os) js bs))), (qx, .inl (cB, NN, .inl f)), (Qs.qq, .inl (cI, (8 * Qs.C), .inl Qs.qf)), (Qs.qe, .inl (cL, (3 * Qs.C), .inr (.inl Qs.ef))), (tv, .inr (12, MF 13 (tw Vs))), (Vs.au, .inl (cC, Vs.U, .inl Vs.un))]) [0, 1, 3, 4, 2, 5] rfl
        have hD := hD.sub (ws' := [(mo, .inr (13, MF 30 (rf (rs v Qs os) js bs))), (qx, .inl (cB, NN, .inl f)), (Qs.qq, .inl (cI, (8 * Qs.C), .inl Qs.qf)), (Qs.qe, .inl (cL, (3 * Qs.C), .inr (.inl Qs.ef))), (tv, .inr (12, MF 13 (tw Vs))), (Vs.au, .inl (cC, Vs.U, .inl Vs.un))]) [0, 1, 3, 4, 2, 5] (by decide) rfl
        have hTk_Vs := hX_Vs.ok hTk_V (by omega)
        have hqb_QsVs : Qs.R ≤ Qs.C ∧ Qs.C ≤ 100000 := ⟨hQk_Qs.2.2.1, hQk_Qs.2.1⟩
        have hfit_QsVs := hG_QsVs.fits
        rcases hw with ⟨fl, g9, hv_1, hv_2, hv_3, hv_4, hv_5, hv_6, hv_7, hv_8, hv_9, hv_10⟩ | ⟨hv_1, hv_2⟩
        · have hv_10 : o = os := hv_10.symm
          subst hv_10
          have hP : va_P (dC, dI) classes [(mo, .inr (13, MF 30 (rf (rs v Qs o) js bs))), (qx, .inl (cB, NN, .inl f)), (Qs.qq, .inl (cI, (8 * Qs.C), .inl Qs.qf)), (Qs.qe, .inl (cL, (3 * Qs.C), .inr (.inl Qs.ef))), (tv, .inr (12, MF 13 (tw Vs))), (Vs.au, .inl (cC, Vs.U, .inl Vs.un))] H := hP
          have hD : va_D A [(mo, .inr (13, MF 30 (rf (rs v Qs o) js bs))), (qx, .inl (cB, NN, .inl f)), (Qs.qq, .inl (cI, (8 * Qs.C), .inl Qs.qf)), (Qs.qe, .inl (cL, (3 * Qs.C), .inr (.inl Qs.ef))), (tv, .inr (12, MF 13 (tw Vs))), (Vs.au, .inl (cC, Vs.U, .inl Vs.un))] := hD
          have hv_2 : qrP f n ok (orL f n) false (decide (hereV f n i = 36)) (i + 1) = some (js, fl, g9) := by rw [hrtb]; exact hv_2
          have hv_3 : QRYp O Qs Vs Q.R Qs.R Q.R g9 := hv_3
          have hv_4 : alr Q V Qs Vs 0 Q.R := hv_4
          have hv_5 : Qs.qf (8 * Q.R + 3) = (if fl = true then 1 else 0) := hv_5
          have hv_6 : Qs.R + 8 * (i + 1) ≤ Q.R + 8 * js + 1 := hv_6
          have hv_7 : Vs.us + (i + 1) ≤ V.us + js := hv_7
          have hv_8 : js ≤ n := hv_8
          have hv_9 : Q.R < Qs.R := hv_9
          subst hv_1
          refine lv_istore (lv' := [(4, .int (nI Q.R)), (3, .int 0), (1, .int 0), (0, .ref mo)]) hx hb d_Mo_basic_132 hl (by decide) rfl (fun ls hl => ?_)
          refine lv_iload hx hb d_Mo_basic_134 (lv_at hl 0 rfl) ?_
          refine lv_if_ge (tgt := 141) hx hb d_Mo_basic_136 (by decide) (fun _ => ?_) (fun h => absurd (nI_pos' (by omega)) h)
          refine lv_aload_n hx hb d_Mo_basic_141 rfl (lv_at hl 3 rfl) ?_
          refine va_get (D := (dC, dI)) (ci := 13) (v := .int (nI js)) (C := R_Mo) (T := F_Mo) (N := 30) hx hb hts in_Mo hown hK hP 0 rfl rfl 7 (by decide) (hts _ w_1096) (fun _ h9 => h9) (MFg (by decide) rf_7) d_Mo_basic_142 ?_
          refine lv_istore (lv' := [(5, .int (nI js)), (4, .int (nI Q.R)), (3, .int 0), (1, .int 0), (0, .ref mo)]) hx hb d_Mo_basic_145 hl (by decide) rfl (fun ls hl => ?_)
          refine lv_aload_n hx hb d_Mo_basic_147 rfl (lv_at hl 4 rfl) ?_
          have hPc := hP.sub (ws' := [(mo, .inr (13, MF 30 (rf (rs v Qs o) js bs))), (qx, .inl (cB, NN, .inl f))]) [0, 1] rfl
          have hDc := hD.sub (ws' := [(mo, .inr (13, MF 30 (rf (rs v Qs o) js bs))), (qx, .inl (cB, NN, .inl f))]) [0, 1] (by decide) rfl
          have hKc := hK.sub (tys' := [(cB, .byte)]) [0] rfl
          have hFc := va_free (wc := [(mo, .inr (13, MF 30 (rf (rs v Qs o) js bs))), (qx, .inl (cB, NN, .inl f))]) hD hS hA [0, 1] rfl
          refine va_callv (va_runV (As := []) (rest := []) ⟨hx, hb, hml, hown, hts⟩ (c_Mo_blanks l dC dI mo H (rf (rs v Qs o) js bs) cB qx NN f n js (by omega) (by omega) (by omega) ((rf_ne (by decide) (by decide)).trans ((rs_ne (by decide) (by decide) (by decide) (by decide)).trans h6)) rf_7 ((rf_ne (by decide) (by decide)).trans ((rs_ne (by decide) (by decide) (by decide) (by decide)).trans h8))) (cwV 0 hts (gt_V (own := R_Mo) (C := R_Mo) (i := 184) (y := y_Mo_blanks) i_Mo_blanks w_1229 w_1231 (gt_sel (y := y_Mo_blanks) (n := 30) (by decide +kernel)) w_7) rfl rfl rfl (by decide +kernel) ⟨Nat.le_trans (m := 13) (Nat.le_of_ble_eq_true rfl) (Nat.le_add_right 13 (15 + G)), Nat.le_trans (m := 500) (Nat.le_of_ble_eq_true rfl) (Nat.le_add_right 500 (600 + M))⟩) ⟨mp_blind, va_recv hKc hPc (ci := 13) (q0 := 0) rfl rfl, fun U hU hW => ⟨rfl, hU, by rw [hU]; exact hPc, va_K.moved hW.alike hKc, hDc.weaken (fun _ _ _ _ => trivial)⟩⟩ rfl rfl hl.1 rfl (lv_room (Nat.le_of_ble_eq_true rfl)) d_Mo_basic_148 ⟨hfit_QsVs.1, hfit_QsVs.2⟩) hS (fun q _ h => hFc q h) hFc (fun _u t9 H1 locs ht hvm hw hB hz1 hk1 hS => ?_)
          obtain ⟨hP1, hK1, hD1⟩ := hB
          rw [ht] at hP1
          obtain ⟨hP, hD⟩ := va_join (wr := [(Qs.qq, .inl (cI, (8 * Qs.C), .inl Qs.qf)), (Qs.qe, .inl (cL, (3 * Qs.C), .inr (.inl Qs.ef))), (tv, .inr (12, MF 13 (tw Vs))), (Vs.au, .inl (cC, Vs.U, .inl Vs.un))]) (w1 := [(mo, .inr (13, MF 30 (va_up (rf (rs v Qs o) js bs) 7 (.int (nI (skipH f n js)))))), (qx, .inl (cB, NN, .inl f))]) hP hD [0, 1] [2, 3, 4, 5] rfl rfl (by decide) (by decide) hk1 hFc hP1 hD1
          generalize H1 = H at hP hS ⊢
          have hP : va_P (dC, dI) classes [(Qs.qq, .inl (cI, (8 * Qs.C), .inl Qs.qf)), (Qs.qe, .inl (cL, (3 * Qs.C), .inr (.inl Qs.ef))), (tv, .inr (12, MF 13 (tw Vs))), (Vs.au, .inl (cC, Vs.U, .inl Vs.un)), (mo, .inr (13, MF 30 (va_up (rf (rs v Qs o) js bs) 7 (.int (nI (skipH f n js)))))), (qx, .inl (cB, NN, .inl f))] H := hP
          have hD : va_D A [(Qs.qq, .inl (cI, (8 * Qs.C), .inl Qs.qf)), (Qs.qe, .inl (cL, (3 * Qs.C), .inr (.inl Qs.ef))), (tv, .inr (12, MF 13 (tw Vs))), (Vs.au, .inl (cC, Vs.U, .inl Vs.un)), (mo, .inr (13, MF 30 (va_up (rf (rs v Qs o) js bs) 7 (.int (nI (skipH f n js)))))), (qx, .inl (cB, NN, .inl f))] := hD
          have hP := hP.sub (ws' := [(mo, .inr (13, MF 30 (va_up (rf (rs v Qs o) js bs) 7 (.int (nI (skipH f n js)))))), (qx, .inl (cB, NN, .inl f)), (Qs.qq, .inl (cI, (8 * Qs.C), .inl Qs.qf)), (Qs.qe, .inl (cL, (3 * Qs.C), .inr (.inl Qs.ef))), (tv, .inr (12, MF 13 (tw Vs))), (Vs.au, .inl (cC, Vs.U, .inl Vs.un))]) [4, 5, 0, 1, 2, 3] rfl
          have hD := hD.sub (ws' := [(mo, .inr (13, MF 30 (va_up (rf (rs v Qs o) js bs) 7 (.int (nI (skipH f n js)))))), (qx, .inl (cB, NN, .inl f)), (Qs.qq, .inl (cI, (8 * Qs.C), .inl Qs.qf)), (Qs.qe, .inl (cL, (3 * Qs.C), .inr (.inl Qs.ef))), (tv, .inr (12, MF 13 (tw Vs))), (Vs.au, .inl (cC, Vs.U, .inl Vs.un))]) [4, 5, 0, 1, 2, 3] (by decide) rfl
          rw [rf_u7] at hP hD
          have hP : va_P (dC, dI) classes [(mo, .inr (13, MF 30 (rf (rs v Qs o) (skipH f n js) bs))), (qx, .inl (cB, NN, .inl f)), (Qs.qq, .inl (cI, (8 * Qs.C), .inl Qs.qf)), (Qs.qe, .inl (cL, (3 * Qs.C), .inr (.inl Qs.ef))), (tv, .inr (12, MF 13 (tw Vs))), (Vs.au, .inl (cC, Vs.U, .inl Vs.un))] H := hP
          have hD : va_D A [(mo, .inr (13, MF 30 (rf (rs v Qs o) (skipH f n js) bs))), (qx, .inl (cB, NN, .inl f)), (Qs.qq, .inl (cI, (8 * Qs.C), .inl Qs.qf)), (Qs.qe, .inl (cL, (3 * Qs.C), .inr (.inl Qs.ef))), (tv, .inr (12, MF 13 (tw Vs))), (Vs.au, .inl (cC, Vs.U, .inl Vs.un))] := hD
          have hsk_151 := skipH_n (f := f) (show js ≤ n by omega)
          refine lv_iload_n hx hb d_Mo_basic_151 rfl (lv_at hl 3 rfl) ?_
          refine lv_if_ne (tgt := 207) hx hb d_Mo_basic_152 (by decide) (fun h => absurd h (by decide)) (fun _ => ?_)
          refine lv_aload_n hx hb d_Mo_basic_155 rfl (lv_at hl 4 rfl) ?_
          have hPc := hP.sub (ws' := [(mo, .inr (13, MF 30 (rf (rs v Qs o) (skipH f n js) bs))), (qx, .inl (cB, NN, .inl f))]) [0, 1] rfl
          have hDc := hD.sub (ws' := [(mo, .inr (13, MF 30 (rf (rs v Qs o) (skipH f n js) bs))), (qx, .inl (cB, NN, .inl f))]) [0, 1] (by decide) rfl
          have hKc := hK.sub (tys' := [(cB, .byte)]) [0] rfl
          have hFc := va_free (wc := [(mo, .inr (13, MF 30 (rf (rs v Qs o) (skipH f n js) bs))), (qx, .inl (cB, NN, .inl f))]) hD hS hA [0, 1] rfl
          refine va_calli (va_runV (As := []) (rest := []) ⟨hx, hb, hml, hown, hts⟩ (c_Mo_operator l dC dI mo H (rf (rs v Qs o) (skipH f n js) bs) cB qx NN f n (skipH f n js) (by omega) (by omega) (by omega) ((rf_ne (by decide) (by decide)).trans ((rs_ne (by decide) (by decide) (by decide) (by decide)).trans h6)) rf_7 ((rf_ne (by decide) (by decide)).trans ((rs_ne (by decide) (by decide) (by decide) (by decide)).trans h8))) (cwV 0 hts (gt_V (own := R_Mo) (C := R_Mo) (i := 321) (y := y_Mo_operator) i_Mo_operator w_1451 w_1453 (gt_sel (y := y_Mo_operator) (n := 30) (by decide +kernel)) w_7) rfl rfl rfl (by decide +kernel) ⟨Nat.le_trans (m := 13) (Nat.le_of_ble_eq_true rfl) (Nat.le_add_right 13 (15 + G)), Nat.le_trans (m := 500) (Nat.le_of_ble_eq_true rfl) (Nat.le_add_right 500 (600 + M))⟩) ⟨mp_blind, va_recv hKc hPc (ci := 13) (q0 := 0) rfl rfl, fun U hU hW => ⟨rfl, hU, by rw [hU]; exact hPc, va_K.moved hW.alike hKc, hDc.weaken (fun _ _ _ _ => trivial)⟩⟩ rfl rfl hl.1 rfl (lv_room (Nat.le_of_ble_eq_true rfl)) d_Mo_basic_156 ⟨hfit_QsVs.1, hfit_QsVs.2⟩) hS (fun q _ h => hFc q h) hFc (fun t6 _u t9 H1 locs ht hvm hw hB hz1 hk1 hS => ?_)
          obtain ⟨hP1, hK1, hD1⟩ := hB
          rw [ht] at hP1
          obtain ⟨hP, hD⟩ := va_join (wr := [(Qs.qq, .inl (cI, (8 * Qs.C), .inl Qs.qf)), (Qs.qe, .inl (cL, (3 * Qs.C), .inr (.inl Qs.ef))), (tv, .inr (12, MF 13 (tw Vs))), (Vs.au, .inl (cC, Vs.U, .inl Vs.un))]) (w1 := [(mo, .inr (13, MF 30 (rf (rs v Qs o) (skipH f n js) bs))), (qx, .inl (cB, NN, .inl f))]) hP hD [0, 1] [2, 3, 4, 5] rfl rfl (by decide) (by decide) hk1 hFc hP1 hD1
          generalize H1 = H at hP hS ⊢
          have hP : va_P (dC, dI) classes [(Qs.qq, .inl (cI, (8 * Qs.C), .inl Qs.qf)), (Qs.qe, .inl (cL, (3 * Qs.C), .inr (.inl Qs.ef))), (tv, .inr (12, MF 13 (tw Vs))), (Vs.au, .inl (cC, Vs.U, .inl Vs.un)), (mo, .inr (13, MF 30 (rf (rs v Qs o) (skipH f n js) bs))), (qx, .inl (cB, NN, .inl f))] H := hP
          have hD : va_D A [(Qs.qq, .inl (cI, (8 * Qs.C), .inl Qs.qf)), (Qs.qe, .inl (cL, (3 * Qs.C), .inr (.inl Qs.ef))), (tv, .inr (12, MF 13 (tw Vs))), (Vs.au, .inl (cC, Vs.U, .inl Vs.un)), (mo, .inr (13, MF 30 (rf (rs v Qs o) (skipH f n js) bs))), (qx, .inl (cB, NN, .inl f))] := hD
          have hP := hP.sub (ws' := [(mo, .inr (13, MF 30 (rf (rs v Qs o) (skipH f n js) bs))), (qx, .inl (cB, NN, .inl f)), (Qs.qq, .inl (cI, (8 * Qs.C), .inl Qs.qf)), (Qs.qe, .inl (cL, (3 * Qs.C), .inr (.inl Qs.ef))), (tv, .inr (12, MF 13 (tw Vs))), (Vs.au, .inl (cC, Vs.U, .inl Vs.un))]) [4, 5, 0, 1, 2, 3] rfl
          have hD := hD.sub (ws' := [(mo, .inr (13, MF 30 (rf (rs v Qs o) (skipH f n js) bs))), (qx, .inl (cB, NN, .inl f)), (Qs.qq, .inl (cI, (8 * Qs.C), .inl Qs.qf)), (Qs.qe, .inl (cL, (3 * Qs.C), .inr (.inl Qs.ef))), (tv, .inr (12, MF 13 (tw Vs))), (Vs.au, .inl (cC, Vs.U, .inl Vs.un))]) [4, 5, 0, 1, 2, 3] (by decide) rfl
          have h_t6 := op_01 hw
          refine lv_if_eq (tgt := 207) hx hb d_Mo_basic_159 (by decide) (fun c159 => ?_) (fun c159 => ?_)
          · refine lv_aload_n hx hb d_Mo_basic_207 rfl (lv_at hl 4 rfl) ?_
            refine lv_iload hx hb d_Mo_basic_208 (lv_at hl 0 rfl) ?_
            refine va_put (D := (dC, dI)) (ci := 13) (v := .int (nI js)) (ty := .int) (C := R_Mo) (T := F_Mo) (N := 30) hx hb hts in_Mo t_Mo t_Mo_ok n_Mo hown hK hP hD hS 0 rfl rfl 7 (by decide) (hts _ w_1096) (fun _ h9 => h9) rfl (by decide +kernel) rfl rfl (by rw [MFl]; decide) d_Mo_basic_210 (fun H locs hP hD hS => ?_)
            rw [MFs (n := 30) (k := 7) (by decide)] at hP hD
            have hP : va_P (dC, dI) classes [(mo, .inr (13, MF 30 (va_up (rf (rs v Qs o) (skipH f n js) bs) 7 (.int (nI js))))), (qx, .inl (cB, NN, .inl f)), (Qs.qq, .inl (cI, (8 * Qs.C), .inl Qs.qf)), (Qs.qe, .inl (cL, (3 * Qs.C), .inr (.inl Qs.ef))), (tv, .inr (12, MF 13 (tw Vs))), (Vs.au, .inl (cC, Vs.U, .inl Vs.un))] H := hP
            have hD : va_D A [(mo, .inr (13, MF 30 (va_up (rf (rs v Qs o) (skipH f n js) bs) 7 (.int (nI js))))), (qx, .inl (cB, NN, .inl f)), (Qs.qq, .inl (cI, (8 * Qs.C), .inl Qs.qf)), (Qs.qe, .inl (cL, (3 * Qs.C), .inr (.inl Qs.ef))), (tv, .inr (12, MF 13 (tw Vs))), (Vs.au, .inl (cC, Vs.U, .inl Vs.un))] := hD
            rw [rf_u7] at hP hD
            have hP : va_P (dC, dI) classes [(mo, .inr (13, MF 30 (rf (rs v Qs o) js bs))), (qx, .inl (cB, NN, .inl f)), (Qs.qq, .inl (cI, (8 * Qs.C), .inl Qs.qf)), (Qs.qe, .inl (cL, (3 * Qs.C), .inr (.inl Qs.ef))), (tv, .inr (12, MF 13 (tw Vs))), (Vs.au, .inl (cC, Vs.U, .inl Vs.un))] H := hP
            have hD : va_D A [(mo, .inr (13, MF 30 (rf (rs v Qs o) js bs))), (qx, .inl (cB, NN, .inl f)), (Qs.qq, .inl (cI, (8 * Qs.C), .inl Qs.qf)), (Qs.qe, .inl (cL, (3 * Qs.C), .inr (.inl Qs.ef))), (tv, .inr (12, MF 13 (tw Vs))), (Vs.au, .inl (cC, Vs.U, .inl Vs.un))] := hD
            refine lv_aload_n hx hb d_Mo_basic_213 rfl (lv_at hl 4 rfl) ?_
            refine lv_bipush (v := 34) hx hb d_Mo_basic_214 (by decide) ?_
            have hPc := hP.sub (ws' := [(mo, .inr (13, MF 30 (rf (rs v Qs o) js bs))), (Qs.qq, .inl (cI, (8 * Qs.C), .inl Qs.qf)), (Qs.qe, .inl (cL, (3 * Qs.C), .inr (.inl Qs.ef)))]) [0, 2, 3] rfl
            have hDc := hD.sub (ws' := [(mo, .inr (13, MF 30 (rf (rs v Qs o) js bs))), (Qs.qq, .inl (cI, (8 * Qs.C), .inl Qs.qf)), (Qs.qe, .inl (cL, (3 * Qs.C), .inr (.inl Qs.ef)))]) [0, 2, 3] (by decide) rfl
            have hKc := hK.sub (tys' := [(cI, .int), (cL, .long)]) [1, 2] rfl
            have hFc := va_free (wc := [(mo, .inr (13, MF 30 (rf (rs v Qs o) js bs))), (Qs.qq, .inl (cI, (8 * Qs.C), .inl Qs.qf)), (Qs.qe, .inl (cL, (3 * Qs.C), .inr (.inl Qs.ef)))]) hD hS hA [0, 2, 3] rfl
            refine w_same (fun hq0 => ?_)
            refine va_calli (va_runV (As := [.int 34]) (rest := []) ⟨hx, hb, hml, hown, hts⟩ (c_Mo_row l dC dI mo H v cI cL Qs o js bs 34 hQk_Qs) (cwV 1 hts (gt_V (own := R_Mo) (C := R_Mo) (i := 269) (y := y_Mo_row) i_Mo_row w_1407 w_1409 (gt_sel (y := y_Mo_row) (n := 30) (by decide +kernel)) w_7) rfl rfl rfl (by decide +kernel) ⟨Nat.le_trans (m := 13) (Nat.le_of_ble_eq_true rfl) (Nat.le_add_right 13 (15 + G)), Nat.le_trans (m := 500) (Nat.le_of_ble_eq_true rfl) (Nat.le_add_right 500 (600 + M))⟩) ⟨mp_blind, va_recv hKc hPc (ci := 13) (q0 := 0) rfl rfl, fun U hU hW => ⟨rfl, hU, by rw [hU]; exact hPc, va_K.moved hW.alike hKc, hDc.weaken (fun _ _ _ _ => trivial)⟩⟩ rfl rfl hl.1 rfl (lv_room (Nat.le_of_ble_eq_true rfl)) d_Mo_basic_216 ⟨(QAd.fit hG_QsVs hQk_Qs (by omega)).1, (QAd.fit hG_QsVs hQk_Qs (by omega)).2⟩) hS (fun q _ h => hFc q h) hFc (fun r0 Qa t9 H1 locs ht hvm hw hB hz1 hk1 hS => ?_)
            obtain ⟨⟨hP1, hK1, hD1⟩, hz9⟩ := hB
            rw [ht] at hP1
            rw [ht] at hz9
            obtain ⟨hr0, hA_Qa⟩ := hw
            have hA_Qa : QAd Qs Qa 34 := hA_Qa
            obtain ⟨hQk_Qa, hGa, hGb, hGd, hR_Qa⟩ := hA_Qa.gq hQk_Qs (by omega) Vs
            obtain ⟨hG_QaVs, hGc, hGs⟩ := hG_QsVs.tr hGa (show Qs.R + 1 ≤ Q.R + 8 * (n - i) + 1 by omega) (Nat.zero_le _)
            have hGc := Nat.le_trans (Nat.add_le_add_left hGb _) hGc
            have hGs := Nat.le_trans (Nat.add_le_add_left hGd _) hGs
            have hq1 : szk s.heap H1 (cQ Q V Qa Vs) (sQ Q V Qa Vs) := (hq0.trans hz9).mono hGc hGs
            refine w_tight hq1 ?_
            obtain ⟨hP, hD⟩ := va_join (wr := [(qx, .inl (cB, NN, .inl f)), (tv, .inr (12, MF 13 (tw Vs))), (Vs.au, .inl (cC, Vs.U, .inl Vs.un))]) (w1 := [(mo, .inr (13, MF 30 (rf (rs v Qa o) js bs))), (Qa.qq, .inl (cI, (8 * Qa.C), .inl Qa.qf)), (Qa.qe, .inl (cL, (3 * Qa.C), .inr (.inl Qa.ef)))]) hP hD [0, 2, 3] [1, 4, 5] rfl rfl (by decide) (by decide) hk1 hFc hP1 hD1
            generalize H1 = H at hP hS ⊢
            have hP : va_P (dC, dI) classes [(qx, .inl (cB, NN, .inl f)), (tv, .inr (12, MF 13 (tw Vs))), (Vs.au, .inl (cC, Vs.U, .inl Vs.un)), (mo, .inr (13, MF 30 (rf (rs v Qa o) js bs))), (Qa.qq, .inl (cI, (8 * Qa.C), .inl Qa.qf)), (Qa.qe, .inl (cL, (3 * Qa.C), .inr (.inl Qa.ef)))] H := hP
            have hD : va_D A [(qx, .inl (cB, NN, .inl f)), (tv, .inr (12, MF 13 (tw Vs))), (Vs.au, .inl (cC, Vs.U, .inl Vs.un)), (mo, .inr (13, MF 30 (rf (rs v Qa o) js bs))), (Qa.qq, .inl (cI, (8 * Qa.C), .inl Qa.qf)), (Qa.qe, .inl (cL, (3 * Qa.C), .inr (.inl Qa.ef)))] := hD
            have hP := hP.sub (ws' := [(mo, .inr (13, MF 30 (rf (rs v Qa o) js bs))), (qx, .inl (cB, NN, .inl f)), (tv, .inr (12, MF 13 (tw Vs))), (Vs.au, .inl (cC, Vs.U, .inl Vs.un)), (Qa.qq, .inl (cI, (8 * Qa.C), .inl Qa.qf)), (Qa.qe, .inl (cL, (3 * Qa.C), .inr (.inl Qa.ef)))]) [3, 0, 1, 2, 4, 5] rfl
            have hD := hD.sub (ws' := [(mo, .inr (13, MF 30 (rf (rs v Qa o) js bs))), (qx, .inl (cB, NN, .inl f)), (tv, .inr (12, MF 13 (tw Vs))), (Vs.au, .inl (cC, Vs.U, .inl Vs.un)), (Qa.qq, .inl (cI, (8 * Qa.C), .inl Qa.qf)), (Qa.qe, .inl (cL, (3 * Qa.C), .inr (.inl Qa.ef)))]) [3, 0, 1, 2, 4, 5] (by decide) rfl
            have hP := hP.sub (ws' := [(mo, .inr (13, MF 30 (rf (rs v Qa o) js bs))), (qx, .inl (cB, NN, .inl f)), (Qa.qq, .inl (cI, (8 * Qa.C), .inl Qa.qf)), (Qa.qe, .inl (cL, (3 * Qa.C), .inr (.inl Qa.ef))), (tv, .inr (12, MF 13 (tw Vs))), (Vs.au, .inl (cC, Vs.U, .inl Vs.un))]) [0, 1, 4, 5, 2, 3] rfl
            have hD := hD.sub (ws' := [(mo, .inr (13, MF 30 (rf (rs v Qa o) js bs))), (qx, .inl (cB, NN, .inl f)), (Qa.qq, .inl (cI, (8 * Qa.C), .inl Qa.qf)), (Qa.qe, .inl (cL, (3 * Qa.C), .inr (.inl Qa.ef))), (tv, .inr (12, MF 13 (tw Vs))), (Vs.au, .inl (cC, Vs.U, .inl Vs.un))]) [0, 1, 4, 5, 2, 3] (by decide) rfl
            have hr0 : r0 = nI Qs.R := hr0
            subst hr0
            have hqb_QaVs : Qa.R ≤ Qa.C ∧ Qa.C ≤ 100000 := ⟨hQk_Qa.2.2.1, hQk_Qa.2.1⟩
            have hfit_QaVs := hG_QaVs.fits
            have hE_Qa : alr Qs Vs Qa Vs 0 Qs.R := ⟨fun r9 k9 _ h1 h2 => hA_Qa.2.2.1 _ (by omega), ⟨fun r9 k9 _ h1 h2 => hA_Qa.2.2.2.1.2 _ (by omega), Nat.le_refl _, fun _ _ => rfl⟩⟩
            refine lv_istore_n (lv' := [(2, .int (nI Qs.R)), (5, .int (nI js)), (4, .int (nI Q.R)), (3, .int 0), (1, .int 0), (0, .ref mo)]) hx hb d_Mo_basic_219 rfl hl (by decide) rfl (fun ls hl => ?_)
            refine lv_aload_n hx hb d_Mo_basic_220 rfl (lv_at hl 5 rfl) ?_
            refine lv_iload_n hx hb d_Mo_basic_221 rfl (lv_at hl 0 rfl) ?_
            refine lv_iconst (v := 2) hx hb d_Mo_basic_222 (by decide) ?_
            refine lv_iload hx hb d_Mo_basic_223 (lv_at hl 2 rfl) ?_
            refine W.eq (g2 := F0 m 225 ls [.int (nI Q.R), .int (nI 2), .int (nI Qs.R), .ref mo]) rfl ?_
            have hPc := hP.sub (ws' := [(mo, .inr (13, MF 30 (rf (rs v Qa o) js bs))), (Qa.qq, .inl (cI, (8 * Qa.C), .inl Qa.qf))]) [0, 2] rfl
            have hDc := hD.sub (ws' := [(mo, .inr (13, MF 30 (rf (rs v Qa o) js bs))), (Qa.qq, .inl (cI, (8 * Qa.C), .inl Qa.qf))]) [0, 2] (by decide) rfl
            have hKc := hK.sub (tys' := [(cI, .int)]) [1] rfl
            have hFc := va_free (wc := [(mo, .inr (13, MF 30 (rf (rs v Qa o) js bs))), (Qa.qq, .inl (cI, (8 * Qa.C), .inl Qa.qf))]) hD hS hA [0, 2] rfl
            refine va_callv (va_runV (As := [.int (nI Qs.R), .int (nI 2), .int (nI Q.R)]) (rest := []) ⟨hx, hb, hml, hown, hts⟩ (c_Mo_set l dC dI mo H (rf (rs v Qa o) js bs) cI Qa.qq (8 * Qa.C) Qa.qf Qs.R 2 ((nI Q.R)) (by omega) (by omega) ((rf_ne (by decide) (by decide)).trans rs_19)) (cwV 3 hts (gt_V (own := R_Mo) (C := R_Mo) (i := 272) (y := y_Mo_set) i_Mo_set w_1411 w_1413 (gt_sel (y := y_Mo_set) (n := 30) (by decide +kernel)) w_7) rfl rfl rfl (by decide +kernel) ⟨Nat.le_trans (m := 13) (Nat.le_of_ble_eq_true rfl) (Nat.le_add_right 13 (15 + G)), Nat.le_trans (m := 500) (Nat.le_of_ble_eq_true rfl) (Nat.le_add_right 500 (600 + M))⟩) ⟨mp_blind, va_recv hKc hPc (ci := 13) (q0 := 0) rfl rfl, fun U hU hW => ⟨rfl, hU, by rw [hU]; exact hPc, va_K.moved hW.alike hKc, hDc.weaken (fun _ _ _ _ => trivial)⟩⟩ rfl rfl hl.1 rfl (lv_room (Nat.le_of_ble_eq_true rfl)) d_Mo_basic_225 ⟨hfit_QaVs.1, hfit_QaVs.2⟩) hS (fun q _ h => hFc q h) hFc (fun _u t9 H1 locs ht hvm hw hB hz1 hk1 hS => ?_)
            obtain ⟨hP1, hK1, hD1⟩ := hB
            rw [ht] at hP1
            obtain ⟨hP, hD⟩ := va_join (wr := [(qx, .inl (cB, NN, .inl f)), (Qa.qe, .inl (cL, (3 * Qa.C), .inr (.inl Qa.ef))), (tv, .inr (12, MF 13 (tw Vs))), (Vs.au, .inl (cC, Vs.U, .inl Vs.un))]) (w1 := [(mo, .inr (13, MF 30 (rf (rs v Qa o) js bs))), (Qa.qq, .inl (cI, (8 * Qa.C), .inl (upd Qa.qf (8 * Qs.R + 2) ((nI Q.R)))))]) hP hD [0, 2] [1, 3, 4, 5] rfl rfl (by decide) (by decide) hk1 hFc hP1 hD1
            generalize H1 = H at hP hS ⊢
            have hP : va_P (dC, dI) classes [(qx, .inl (cB, NN, .inl f)), (Qa.qe, .inl (cL, (3 * Qa.C), .inr (.inl Qa.ef))), (tv, .inr (12, MF 13 (tw Vs))), (Vs.au, .inl (cC, Vs.U, .inl Vs.un)), (mo, .inr (13, MF 30 (rf (rs v Qa o) js bs))), (Qa.qq, .inl (cI, (8 * Qa.C), .inl (upd Qa.qf (8 * Qs.R + 2) ((nI Q.R)))))] H := hP
            have hD : va_D A [(qx, .inl (cB, NN, .inl f)), (Qa.qe, .inl (cL, (3 * Qa.C), .inr (.inl Qa.ef))), (tv, .inr (12, MF 13 (tw Vs))), (Vs.au, .inl (cC, Vs.U, .inl Vs.un)), (mo, .inr (13, MF 30 (rf (rs v Qa o) js bs))), (Qa.qq, .inl (cI, (8 * Qa.C), .inl (upd Qa.qf (8 * Qs.R + 2) ((nI Q.R)))))] := hD
            have hP := hP.sub (ws' := [(mo, .inr (13, MF 30 (rf (rs v Qa o) js bs))), (qx, .inl (cB, NN, .inl f)), (Qa.qq, .inl (cI, (8 * Qa.C), .inl (upd Qa.qf (8 * Qs.R + 2) ((nI Q.R))))), (Qa.qe, .inl (cL, (3 * Qa.C), .inr (.inl Qa.ef))), (tv, .inr (12, MF 13 (tw Vs))), (Vs.au, .inl (cC, Vs.U, .inl Vs.un))]) [4, 0, 5, 1, 2, 3] rfl
            have hD := hD.sub (ws' := [(mo, .inr (13, MF 30 (rf (rs v Qa o) js bs))), (qx, .inl (cB, NN, .inl f)), (Qa.qq, .inl (cI, (8 * Qa.C), .inl (upd Qa.qf (8 * Qs.R + 2) ((nI Q.R))))), (Qa.qe, .inl (cL, (3 * Qa.C), .inr (.inl Qa.ef))), (tv, .inr (12, MF 13 (tw Vs))), (Vs.au, .inl (cC, Vs.U, .inl Vs.un))]) [4, 0, 5, 1, 2, 3] (by decide) rfl
            obtain ⟨Qb, e_Qb⟩ : ∃ z : QS, z = QS.wf Qa (upd Qa.qf (8 * Qs.R + 2) ((nI Q.R))) := ⟨_, rfl⟩
            have hP : va_P (dC, dI) classes [(mo, .inr (13, MF 30 (rf (rs v Qb o) js bs))), (qx, .inl (cB, NN, .inl f)), (Qb.qq, .inl (cI, (8 * Qb.C), .inl Qb.qf)), (Qb.qe, .inl (cL, (3 * Qb.C), .inr (.inl Qb.ef))), (tv, .inr (12, MF 13 (tw Vs))), (Vs.au, .inl (cC, Vs.U, .inl Vs.un))] H := by subst e_Qb; exact hP
            have hD : va_D A [(mo, .inr (13, MF 30 (rf (rs v Qb o) js bs))), (qx, .inl (cB, NN, .inl f)), (Qb.qq, .inl (cI, (8 * Qb.C), .inl Qb.qf)), (Qb.qe, .inl (cL, (3 * Qb.C), .inr (.inl Qb.ef))), (tv, .inr (12, MF 13 (tw Vs))), (Vs.au, .inl (cC, Vs.U, .inl Vs.un))] := by subst e_Qb; exact hD
            have hf_Qb : Qb.C = Qa.C ∧ Qb.R = Qa.R ∧ Qb.qf = upd Qa.qf (8 * Qs.R + 2) ((nI Q.R)) := by rw [e_Qb]; exact ⟨rfl, rfl, rfl⟩
            have he_Qb : Qb.ef = Qa.ef := by rw [e_Qb]; rfl
            have hQk_Qb : QOK Qb := by rw [e_Qb]; exact hQk_Qa
            have hG_QbVs : GQ (Q.R + 8 * (n - i) + 1) (V.us + (n + 12 - i)) Q V Qb Vs := by unfold GQ at hG_QaVs ⊢; rw [hf_Qb.1]; exact hG_QaVs
            refine w_same (fun hq => ?_)
            refine w_tight (k := cQ Q V Qb Vs) (n := sQ Q V Qb Vs) (by unfold cQ sQ at hq ⊢; rw [hf_Qb.1]; exact hq) ?_
            have hR_Qb := hf_Qb.2.1
            have hqb_QbVs : Qb.R ≤ Qb.C ∧ Qb.C ≤ 100000 := ⟨hQk_Qb.2.2.1, hQk_Qb.2.1⟩
            have hfit_QbVs := hG_QbVs.fits
            have hkb : Qb.qf (8 * Qs.R + 0) = 34 := by rw [hf_Qb.2.2, pk_un (by omega)]; exact hA_Qa.2.2.2.2.1
            have hWb : Wth (QRYp O) Qb Vs Q.R Qb.R Qs.R Q.R g9 := Wth_up (Frm8 (QRYp_fr hOf)) hv_3 (Nat.le_refl _) (by omega) (by omega) ((hE_Qa.sub (Nat.zero_le _) (Nat.le_refl _)).tr (alr.upd hf_Qb.2.2 he_Qb (by decide) (by omega)))
            have hExb : alr Q V Qb Vs 0 Q.R := (hv_4.tr (hE_Qa.sub (Nat.le_refl _) (by omega))).tr (alr.upd hf_Qb.2.2 he_Qb (by decide) (by omega))
            have hT : TSTp O Qb Vs Q.R Qb.R Qs.R (tstC g9) := ⟨by omega, by omega, hkb, Q.R, g9, by rw [hf_Qb.2.2]; exact pk_us, hWb, rfl⟩
            have hfin : baP f n ok (orL f n) (cmL f n) (qyL f n) i = some (js, tstC g9) := by rw [hbp]; exact baB_q1 hn40 hbeg hv_2 (fun h => h_t6.2 c159 h.2)
            refine lv_goto (tgt := 267) hx hb d_Mo_basic_228 (by decide) ?_
            refine lv_iload_n hx hb d_Mo_basic_267 rfl (lv_at hl 4 rfl) ?_
            refine lv_if_ne (tgt := 277) hx hb d_Mo_basic_268 (by decide) (fun h => absurd h (by decide)) (fun _ => ?_)
            refine lv_aload_n hx hb d_Mo_basic_271 rfl (lv_at hl 5 rfl) ?_
            refine lv_iload_n hx hb d_Mo_basic_272 rfl (lv_at hl 0 rfl) ?_
            have hPc := hP.sub (ws' := [(mo, .inr (13, MF 30 (rf (rs v Qb o) js bs))), (qx, .inl (cB, NN, .inl f)), (Qb.qq, .inl (cI, (8 * Qb.C), .inl Qb.qf)), (Qb.qe, .inl (cL, (3 * Qb.C), .inr (.inl Qb.ef))), (tv, .inr (12, MF 13 (tw Vs))), (Vs.au, .inl (cC, Vs.U, .inl Vs.un))]) [0, 1, 2, 3, 4, 5] rfl
            have hDc := hD.sub (ws' := [(mo, .inr (13, MF 30 (rf (rs v Qb o) js bs))), (qx, .inl (cB, NN, .inl f)), (Qb.qq, .inl (cI, (8 * Qb.C), .inl Qb.qf)), (Qb.qe, .inl (cL, (3 * Qb.C), .inr (.inl Qb.ef))), (tv, .inr (12, MF 13 (tw Vs))), (Vs.au, .inl (cC, Vs.U, .inl Vs.un))]) [0, 1, 2, 3, 4, 5] (by decide) rfl
            have hKc := hK.sub (tys' := [(cB, .byte), (cI, .int), (cL, .long), (cC, .char)]) [0, 1, 2, 3] rfl
            have hFc := va_free (wc := [(mo, .inr (13, MF 30 (rf (rs v Qb o) js bs))), (qx, .inl (cB, NN, .inl f)), (Qb.qq, .inl (cI, (8 * Qb.C), .inl Qb.qf)), (Qb.qe, .inl (cL, (3 * Qb.C), .inr (.inl Qb.ef))), (tv, .inr (12, MF 13 (tw Vs))), (Vs.au, .inl (cC, Vs.U, .inl Vs.un))]) hD hS hA [0, 1, 2, 3, 4, 5] rfl
            refine w_same (fun hq0 => ?_)
            refine va_calli (va_runV (As := [.int (nI Qs.R)]) (rest := []) ⟨hx, hb, hml, hown, hts⟩ (c_Mo_wrap l dC dI mo H v cB cI cL cC qx NN f n K tv Qb Vs o js bs Qs.R hnN hNN (by omega) h6 h8 h22 hQk_Qb hTk_Vs (by omega) (by omega)) (cwV 1 hts (gt_V (own := R_Mo) (C := R_Mo) (i := 331) (y := y_Mo_wrap) i_Mo_wrap w_1472 w_1474 (gt_sel (y := y_Mo_wrap) (n := 30) (by decide +kernel)) w_7) rfl rfl rfl (by decide +kernel) ⟨Nat.le_trans (m := 13) (Nat.le_of_ble_eq_true rfl) (Nat.le_add_right 13 (15 + G)), Nat.le_trans (m := 500) (Nat.le_of_ble_eq_true rfl) (Nat.le_add_right 500 (600 + M))⟩) ⟨me_blind, va_recv hKc hPc (ci := 13) (q0 := 0) rfl rfl, fun U hU hW => ⟨rfl, ⟨hU, by rw [hU]; exact hPc, va_K.moved hW.alike hKc, hDc.weaken (fun _ _ _ _ => trivial)⟩, by rw [hU]; exact ME.call hM hS.2.1 hFc hW⟩⟩ rfl rfl hl.1 rfl (lv_room (Nat.le_of_ble_eq_true rfl)) d_Mo_basic_273 ⟨(hG_QbVs.step (B2 := Qb.R + 8 * (n - js) + 1) (C2 := Vs.us + (n + 12 - js)) (by omega) (by omega)).1, (hG_QbVs.step (B2 := Qb.R + 8 * (n - js) + 1) (C2 := Vs.us + (n + 12 - js)) (by omega) (by omega)).2⟩) hS (fun q _ h => hFc q h) hFc (fun r0 Qw t9 H1 locs ht hvm hw hB hz1 hk1 hS => ?_)
            obtain ⟨⟨hP1, hK1, hD1⟩, hz9⟩ := hB
            rw [ht] at hP1
            rw [ht] at hz9
            obtain ⟨hr0, hQk_Qw, hGn, hR_Qw, hE_Qw, hk_w, hl_w, hf_w⟩ := hw
            have hQk_Qw : QOK Qw := hQk_Qw
            have hR_Qw : Qw.R = Qb.R + 1 := hR_Qw
            obtain ⟨hG_QwVs, hGc, hGs⟩ := hG_QbVs.tr hGn (by omega) (by omega)
            have hz9 : szk H H1 (cQ Qb Vs Qw Vs) (sQ Qb Vs Qw Vs) := hz9
            have hq1 : szk s.heap H1 (cQ Q V Qw Vs) (sQ Q V Qw Vs) := (hq0.trans hz9).mono hGc hGs
            refine w_tight hq1 ?_
            obtain ⟨hP, hD⟩ := va_join (wr := []) (w1 := [(mo, .inr (13, MF 30 (rf (rs v Qw o) js bs))), (qx, .inl (cB, NN, .inl f)), (Qw.qq, .inl (cI, (8 * Qw.C), .inl Qw.qf)), (Qw.qe, .inl (cL, (3 * Qw.C), .inr (.inl Qw.ef))), (tv, .inr (12, MF 13 (tw Vs))), (Vs.au, .inl (cC, Vs.U, .inl Vs.un))]) hP hD [0, 1, 2, 3, 4, 5] [] rfl rfl (by decide) (by decide) hk1 hFc hP1 hD1
            generalize H1 = H at hP hS ⊢
            have hP : va_P (dC, dI) classes [(mo, .inr (13, MF 30 (rf (rs v Qw o) js bs))), (qx, .inl (cB, NN, .inl f)), (Qw.qq, .inl (cI, (8 * Qw.C), .inl Qw.qf)), (Qw.qe, .inl (cL, (3 * Qw.C), .inr (.inl Qw.ef))), (tv, .inr (12, MF 13 (tw Vs))), (Vs.au, .inl (cC, Vs.U, .inl Vs.un))] H := hP
            have hD : va_D A [(mo, .inr (13, MF 30 (rf (rs v Qw o) js bs))), (qx, .inl (cB, NN, .inl f)), (Qw.qq, .inl (cI, (8 * Qw.C), .inl Qw.qf)), (Qw.qe, .inl (cL, (3 * Qw.C), .inr (.inl Qw.ef))), (tv, .inr (12, MF 13 (tw Vs))), (Vs.au, .inl (cC, Vs.U, .inl Vs.un))] := hD
            have hP := hP.sub (ws' := [(mo, .inr (13, MF 30 (rf (rs v Qw o) js bs))), (qx, .inl (cB, NN, .inl f)), (tv, .inr (12, MF 13 (tw Vs))), (Vs.au, .inl (cC, Vs.U, .inl Vs.un)), (Qw.qq, .inl (cI, (8 * Qw.C), .inl Qw.qf)), (Qw.qe, .inl (cL, (3 * Qw.C), .inr (.inl Qw.ef)))]) [0, 1, 4, 5, 2, 3] rfl
            have hD := hD.sub (ws' := [(mo, .inr (13, MF 30 (rf (rs v Qw o) js bs))), (qx, .inl (cB, NN, .inl f)), (tv, .inr (12, MF 13 (tw Vs))), (Vs.au, .inl (cC, Vs.U, .inl Vs.un)), (Qw.qq, .inl (cI, (8 * Qw.C), .inl Qw.qf)), (Qw.qe, .inl (cL, (3 * Qw.C), .inr (.inl Qw.ef)))]) [0, 1, 4, 5, 2, 3] (by decide) rfl
            have hP := hP.sub (ws' := [(mo, .inr (13, MF 30 (rf (rs v Qw o) js bs))), (qx, .inl (cB, NN, .inl f)), (Qw.qq, .inl (cI, (8 * Qw.C), .inl Qw.qf)), (Qw.qe, .inl (cL, (3 * Qw.C), .inr (.inl Qw.ef))), (tv, .inr (12, MF 13 (tw Vs))), (Vs.au, .inl (cC, Vs.U, .inl Vs.un))]) [0, 1, 4, 5, 2, 3] rfl
            have hD := hD.sub (ws' := [(mo, .inr (13, MF 30 (rf (rs v Qw o) js bs))), (qx, .inl (cB, NN, .inl f)), (Qw.qq, .inl (cI, (8 * Qw.C), .inl Qw.qf)), (Qw.qe, .inl (cL, (3 * Qw.C), .inr (.inl Qw.ef))), (tv, .inr (12, MF 13 (tw Vs))), (Vs.au, .inl (cC, Vs.U, .inl Vs.un))]) [0, 1, 4, 5, 2, 3] (by decide) rfl
            have hr0 : r0 = nI Qb.R := hr0
            subst hr0
            have hqb_QwVs : Qw.R ≤ Qw.C ∧ Qw.C ≤ 100000 := ⟨hQk_Qw.2.2.1, hQk_Qw.2.1⟩
            have hfit_QwVs := hG_QwVs.fits
            have hE_Qw : alr Qb Vs Qw Vs 0 Qb.R := hE_Qw
            have hkw : Qw.qf (8 * Qb.R + 0) = 35 := hk_w
            have hlw : Qw.qf (8 * Qb.R + 1) = -1 := hl_w
            have hfw : Qw.qf (8 * Qb.R + 2) = nI Qs.R := hf_w
            have holdw : alr Qb Vs Qw Vs 0 Qb.R := hE_Qw
            have hWw : Wth (TSTp O) Qw Vs Q.R Qw.R Qb.R Qs.R (tstC g9) := Wth_up (TSTp_fr hOf) hT (Nat.le_refl _) (by omega) (by omega) (holdw.sub (Nat.zero_le _) (Nat.le_refl _))
            have hB : BASf O C Y Qw Vs Q.R Qw.R Qb.R ((tstC g9)) := ⟨by omega, by omega, Or.inr (Or.inr ⟨hkw, Qs.R, (tstC g9), hfw, Or.inr hWw, rfl⟩)⟩
            have hExw : alr Q V Qw Vs 0 Q.R := hExb.tr (holdw.sub (Nat.le_refl _) (by omega))
            refine w_same (fun hq => ?_)
            refine W.widen (k := kcap Q (Q.R + 8 * (n - i) + 1) + qcap V (V.us + (n + 12 - i))) (n := 22 * kcap Q (Q.R + 8 * (n - i) + 1) + 2 * qcap V (V.us + (n + 12 - i))) hfit_QwVs.1 hfit_QwVs.2 ?_
            have hPo : QPo n i 1 Q V (Qw, Vs, js, bs, o) := ⟨hQk_Qw, hG_QwVs, ⟨_, hX_Vs, by omega⟩, by show Q.R ≤ Qw.R; omega, by show Qw.R ≤ Q.R + 8 * (n - i) + 1; omega⟩
            exact W.iret (v := nI Qb.R) hx hb hr (fun t9 ht hW => ⟨⟨nI Qb.R, (Qw, Vs, js, bs, o), rfl, ⟨hPo, Or.inl ⟨Qb.R, (tstC g9), rfl, hfin, hB, by show Qb.R < Qw.R; omega, hlw, hExw, by show Qw.R + 8 * i + 5 ≤ Q.R + 8 * js; omega, by show Vs.us + i ≤ V.us + js; omega, by show js ≤ n; omega, by show Q.R < Qw.R; omega, rfl⟩⟩, ⟨by rw [ht]; exact hP, va_K.moved hW.alike hK, hD⟩, by rw [ht]; exact hq⟩, hS.F ht⟩) hS.2.2 d_Mo_basic_276
          · refine lv_aload_n hx hb d_Mo_basic_162 rfl (lv_at hl 4 rfl) ?_
            refine lv_iload hx hb d_Mo_basic_163 (lv_at hl 1 rfl) ?_
            refine lv_iconst (v := 3) hx hb d_Mo_basic_165 (by decide) ?_
            refine W.eq (g2 := F0 m 166 ls [.int (nI 3), .int (nI Q.R), .ref mo]) rfl ?_
            have hPc := hP.sub (ws' := [(mo, .inr (13, MF 30 (rf (rs v Qs o) (skipH f n js) bs))), (Qs.qq, .inl (cI, (8 * Qs.C), .inl Qs.qf))]) [0, 2] rfl
            have hDc := hD.sub (ws' := [(mo, .inr (13, MF 30 (rf (rs v Qs o) (skipH f n js) bs))), (Qs.qq, .inl (cI, (8 * Qs.C), .inl Qs.qf))]) [0, 2] (by decide) rfl
            have hKc := hK.sub (tys' := [(cI, .int)]) [1] rfl
            have hFc := va_free (wc := [(mo, .inr (13, MF 30 (rf (rs v Qs o) (skipH f n js) bs))), (Qs.qq, .inl (cI, (8 * Qs.C), .inl Qs.qf))]) hD hS hA [0, 2] rfl
            refine va_calli (va_runV (As := [.int (nI Q.R), .int (nI 3)]) (rest := []) ⟨hx, hb, hml, hown, hts⟩ (c_Mo_field l dC dI mo H (rf (rs v Qs o) (skipH f n js) bs) cI Qs.qq (8 * Qs.C) Qs.qf Q.R 3 (by omega) (by omega) ((rf_ne (by decide) (by decide)).trans rs_19)) (cwV 2 hts (gt_V (own := R_Mo) (C := R_Mo) (i := 286) (y := y_Mo_field) i_Mo_field w_1431 w_1433 (gt_sel (y := y_Mo_field) (n := 30) (by decide +kernel)) w_7) rfl rfl rfl (by decide +kernel) ⟨Nat.le_trans (m := 13) (Nat.le_of_ble_eq_true rfl) (Nat.le_add_right 13 (15 + G)), Nat.le_trans (m := 500) (Nat.le_of_ble_eq_true rfl) (Nat.le_add_right 500 (600 + M))⟩) ⟨mp_blind, va_recv hKc hPc (ci := 13) (q0 := 0) rfl rfl, fun U hU hW => ⟨rfl, hU, by rw [hU]; exact hPc, va_K.moved hW.alike hKc, hDc.weaken (fun _ _ _ _ => trivial)⟩⟩ rfl rfl hl.1 rfl (lv_room (Nat.le_of_ble_eq_true rfl)) d_Mo_basic_166 ⟨hfit_QsVs.1, hfit_QsVs.2⟩) hS (fun q _ h => hFc q h) hFc (fun r7 _u t9 H1 locs ht hvm hw hB hz1 hk1 hS => ?_)
            obtain ⟨hP1, hK1, hD1⟩ := hB
            rw [ht] at hP1
            obtain ⟨hP, hD⟩ := va_join (wr := [(qx, .inl (cB, NN, .inl f)), (Qs.qe, .inl (cL, (3 * Qs.C), .inr (.inl Qs.ef))), (tv, .inr (12, MF 13 (tw Vs))), (Vs.au, .inl (cC, Vs.U, .inl Vs.un))]) (w1 := [(mo, .inr (13, MF 30 (rf (rs v Qs o) (skipH f n js) bs))), (Qs.qq, .inl (cI, (8 * Qs.C), .inl Qs.qf))]) hP hD [0, 2] [1, 3, 4, 5] rfl rfl (by decide) (by decide) hk1 hFc hP1 hD1
            generalize H1 = H at hP hS ⊢
            have hP : va_P (dC, dI) classes [(qx, .inl (cB, NN, .inl f)), (Qs.qe, .inl (cL, (3 * Qs.C), .inr (.inl Qs.ef))), (tv, .inr (12, MF 13 (tw Vs))), (Vs.au, .inl (cC, Vs.U, .inl Vs.un)), (mo, .inr (13, MF 30 (rf (rs v Qs o) (skipH f n js) bs))), (Qs.qq, .inl (cI, (8 * Qs.C), .inl Qs.qf))] H := hP
            have hD : va_D A [(qx, .inl (cB, NN, .inl f)), (Qs.qe, .inl (cL, (3 * Qs.C), .inr (.inl Qs.ef))), (tv, .inr (12, MF 13 (tw Vs))), (Vs.au, .inl (cC, Vs.U, .inl Vs.un)), (mo, .inr (13, MF 30 (rf (rs v Qs o) (skipH f n js) bs))), (Qs.qq, .inl (cI, (8 * Qs.C), .inl Qs.qf))] := hD
            have hP := hP.sub (ws' := [(mo, .inr (13, MF 30 (rf (rs v Qs o) (skipH f n js) bs))), (qx, .inl (cB, NN, .inl f)), (Qs.qq, .inl (cI, (8 * Qs.C), .inl Qs.qf)), (Qs.qe, .inl (cL, (3 * Qs.C), .inr (.inl Qs.ef))), (tv, .inr (12, MF 13 (tw Vs))), (Vs.au, .inl (cC, Vs.U, .inl Vs.un))]) [4, 0, 5, 1, 2, 3] rfl
            have hD := hD.sub (ws' := [(mo, .inr (13, MF 30 (rf (rs v Qs o) (skipH f n js) bs))), (qx, .inl (cB, NN, .inl f)), (Qs.qq, .inl (cI, (8 * Qs.C), .inl Qs.qf)), (Qs.qe, .inl (cL, (3 * Qs.C), .inr (.inl Qs.ef))), (tv, .inr (12, MF 13 (tw Vs))), (Vs.au, .inl (cC, Vs.U, .inl Vs.un))]) [4, 0, 5, 1, 2, 3] (by decide) rfl
            have h_r7 : r7 = Qs.qf (8 * Q.R + 3) := hw
            have h_f7 := fl_01 (h_r7.trans hv_5)
            refine lv_if_ne (tgt := 183) hx hb d_Mo_basic_169 (by decide) (fun c169 => ?_) (fun c169 => ?_)
            · refine lv_aload_n hx hb d_Mo_basic_183 rfl (lv_at hl 4 rfl) ?_
              refine lv_bipush (v := 45) hx hb d_Mo_basic_184 (by decide) ?_
              have hPc := hP.sub (ws' := [(mo, .inr (13, MF 30 (rf (rs v Qs o) (skipH f n js) bs))), (Qs.qq, .inl (cI, (8 * Qs.C), .inl Qs.qf)), (Qs.qe, .inl (cL, (3 * Qs.C), .inr (.inl Qs.ef)))]) [0, 2, 3] rfl
              have hDc := hD.sub (ws' := [(mo, .inr (13, MF 30 (rf (rs v Qs o) (skipH f n js) bs))), (Qs.qq, .inl (cI, (8 * Qs.C), .inl Qs.qf)), (Qs.qe, .inl (cL, (3 * Qs.C), .inr (.inl Qs.ef)))]) [0, 2, 3] (by decide) rfl
              have hKc := hK.sub (tys' := [(cI, .int), (cL, .long)]) [1, 2] rfl
              have hFc := va_free (wc := [(mo, .inr (13, MF 30 (rf (rs v Qs o) (skipH f n js) bs))), (Qs.qq, .inl (cI, (8 * Qs.C), .inl Qs.qf)), (Qs.qe, .inl (cL, (3 * Qs.C), .inr (.inl Qs.ef)))]) hD hS hA [0, 2, 3] rfl
              refine w_same (fun hq0 => ?_)
              refine va_calli (va_runV (As := [.int 45]) (rest := []) ⟨hx, hb, hml, hown, hts⟩ (c_Mo_row l dC dI mo H v cI cL Qs o (skipH f n js) bs 45 hQk_Qs) (cwV 1 hts (gt_V (own := R_Mo) (C := R_Mo) (i := 269) (y := y_Mo_row) i_Mo_row w_1407 w_1409 (gt_sel (y := y_Mo_row) (n := 30) (by decide +kernel)) w_7) rfl rfl rfl (by decide +kernel) ⟨Nat.le_trans (m := 13) (Nat.le_of_ble_eq_true rfl) (Nat.le_add_right 13 (15 + G)), Nat.le_trans (m := 500) (Nat.le_of_ble_eq_true rfl) (Nat.le_add_right 500 (600 + M))⟩) ⟨mp_blind, va_recv hKc hPc (ci := 13) (q0 := 0) rfl rfl, fun U hU hW => ⟨rfl, hU, by rw [hU]; exact hPc, va_K.moved hW.alike hKc, hDc.weaken (fun _ _ _ _ => trivial)⟩⟩ rfl rfl hl.1 rfl (lv_room (Nat.le_of_ble_eq_true rfl)) d_Mo_basic_186 ⟨(QAd.fit hG_QsVs hQk_Qs (by omega)).1, (QAd.fit hG_QsVs hQk_Qs (by omega)).2⟩) hS (fun q _ h => hFc q h) hFc (fun r0 Qa t9 H1 locs ht hvm hw hB hz1 hk1 hS => ?_)
              obtain ⟨⟨hP1, hK1, hD1⟩, hz9⟩ := hB
              rw [ht] at hP1
              rw [ht] at hz9
              obtain ⟨hr0, hA_Qa⟩ := hw
              have hA_Qa : QAd Qs Qa 45 := hA_Qa
              obtain ⟨hQk_Qa, hGa, hGb, hGd, hR_Qa⟩ := hA_Qa.gq hQk_Qs (by omega) Vs
              obtain ⟨hG_QaVs, hGc, hGs⟩ := hG_QsVs.tr hGa (show Qs.R + 1 ≤ Q.R + 8 * (n - i) + 1 by omega) (Nat.zero_le _)
              have hGc := Nat.le_trans (Nat.add_le_add_left hGb _) hGc
              have hGs := Nat.le_trans (Nat.add_le_add_left hGd _) hGs
              have hq1 : szk s.heap H1 (cQ Q V Qa Vs) (sQ Q V Qa Vs) := (hq0.trans hz9).mono hGc hGs
              refine w_tight hq1 ?_
              obtain ⟨hP, hD⟩ := va_join (wr := [(qx, .inl (cB, NN, .inl f)), (tv, .inr (12, MF 13 (tw Vs))), (Vs.au, .inl (cC, Vs.U, .inl Vs.un))]) (w1 := [(mo, .inr (13, MF 30 (rf (rs v Qa o) (skipH f n js) bs))), (Qa.qq, .inl (cI, (8 * Qa.C), .inl Qa.qf)), (Qa.qe, .inl (cL, (3 * Qa.C), .inr (.inl Qa.ef)))]) hP hD [0, 2, 3] [1, 4, 5] rfl rfl (by decide) (by decide) hk1 hFc hP1 hD1
              generalize H1 = H at hP hS ⊢
              have hP : va_P (dC, dI) classes [(qx, .inl (cB, NN, .inl f)), (tv, .inr (12, MF 13 (tw Vs))), (Vs.au, .inl (cC, Vs.U, .inl Vs.un)), (mo, .inr (13, MF 30 (rf (rs v Qa o) (skipH f n js) bs))), (Qa.qq, .inl (cI, (8 * Qa.C), .inl Qa.qf)), (Qa.qe, .inl (cL, (3 * Qa.C), .inr (.inl Qa.ef)))] H := hP
              have hD : va_D A [(qx, .inl (cB, NN, .inl f)), (tv, .inr (12, MF 13 (tw Vs))), (Vs.au, .inl (cC, Vs.U, .inl Vs.un)), (mo, .inr (13, MF 30 (rf (rs v Qa o) (skipH f n js) bs))), (Qa.qq, .inl (cI, (8 * Qa.C), .inl Qa.qf)), (Qa.qe, .inl (cL, (3 * Qa.C), .inr (.inl Qa.ef)))] := hD
              have hP := hP.sub (ws' := [(mo, .inr (13, MF 30 (rf (rs v Qa o) (skipH f n js) bs))), (qx, .inl (cB, NN, .inl f)), (tv, .inr (12, MF 13 (tw Vs))), (Vs.au, .inl (cC, Vs.U, .inl Vs.un)), (Qa.qq, .inl (cI, (8 * Qa.C), .inl Qa.qf)), (Qa.qe, .inl (cL, (3 * Qa.C), .inr (.inl Qa.ef)))]) [3, 0, 1, 2, 4, 5] rfl
              have hD := hD.sub (ws' := [(mo, .inr (13, MF 30 (rf (rs v Qa o) (skipH f n js) bs))), (qx, .inl (cB, NN, .inl f)), (tv, .inr (12, MF 13 (tw Vs))), (Vs.au, .inl (cC, Vs.U, .inl Vs.un)), (Qa.qq, .inl (cI, (8 * Qa.C), .inl Qa.qf)), (Qa.qe, .inl (cL, (3 * Qa.C), .inr (.inl Qa.ef)))]) [3, 0, 1, 2, 4, 5] (by decide) rfl
              have hP := hP.sub (ws' := [(mo, .inr (13, MF 30 (rf (rs v Qa o) (skipH f n js) bs))), (qx, .inl (cB, NN, .inl f)), (Qa.qq, .inl (cI, (8 * Qa.C), .inl Qa.qf)), (Qa.qe, .inl (cL, (3 * Qa.C), .inr (.inl Qa.ef))), (tv, .inr (12, MF 13 (tw Vs))), (Vs.au, .inl (cC, Vs.U, .inl Vs.un))]) [0, 1, 4, 5, 2, 3] rfl
              have hD := hD.sub (ws' := [(mo, .inr (13, MF 30 (rf (rs v Qa o) (skipH f n js) bs))), (qx, .inl (cB, NN, .inl f)), (Qa.qq, .inl (cI, (8 * Qa.C), .inl Qa.qf)), (Qa.qe, .inl (cL, (3 * Qa.C), .inr (.inl Qa.ef))), (tv, .inr (12, MF 13 (tw Vs))), (Vs.au, .inl (cC, Vs.U, .inl Vs.un))]) [0, 1, 4, 5, 2, 3] (by decide) rfl
              have hr0 : r0 = nI Qs.R := hr0
              subst hr0
              have hqb_QaVs : Qa.R ≤ Qa.C ∧ Qa.C ≤ 100000 := ⟨hQk_Qa.2.2.1, hQk_Qa.2.1⟩
              have hfit_QaVs := hG_QaVs.fits
              have hE_Qa : alr Qs Vs Qa Vs 0 Qs.R := ⟨fun r9 k9 _ h1 h2 => hA_Qa.2.2.1 _ (by omega), ⟨fun r9 k9 _ h1 h2 => hA_Qa.2.2.2.1.2 _ (by omega), Nat.le_refl _, fun _ _ => rfl⟩⟩
              refine lv_istore (lv' := [(6, .int (nI Qs.R)), (5, .int (nI js)), (4, .int (nI Q.R)), (3, .int 0), (1, .int 0), (0, .ref mo)]) hx hb d_Mo_basic_189 hl (by decide) rfl (fun ls hl => ?_)
              refine lv_aload_n hx hb d_Mo_basic_191 rfl (lv_at hl 5 rfl) ?_
              refine lv_iload hx hb d_Mo_basic_192 (lv_at hl 0 rfl) ?_
              refine lv_iconst (v := 2) hx hb d_Mo_basic_194 (by decide) ?_
              refine lv_iload hx hb d_Mo_basic_195 (lv_at hl 2 rfl) ?_
              refine W.eq (g2 := F0 m 197 ls [.int (nI Q.R), .int (nI 2), .int (nI Qs.R), .ref mo]) rfl ?_
              have hPc := hP.sub (ws' := [(mo, .inr (13, MF 30 (rf (rs v Qa o) (skipH f n js) bs))), (Qa.qq, .inl (cI, (8 * Qa.C), .inl Qa.qf))]) [0, 2] rfl
              have hDc := hD.sub (ws' := [(mo, .inr (13, MF 30 (rf (rs v Qa o) (skipH f n js) bs))), (Qa.qq, .inl (cI, (8 * Qa.C), .inl Qa.qf))]) [0, 2] (by decide) rfl
              have hKc := hK.sub (tys' := [(cI, .int)]) [1] rfl
              have hFc := va_free (wc := [(mo, .inr (13, MF 30 (rf (rs v Qa o) (skipH f n js) bs))), (Qa.qq, .inl (cI, (8 * Qa.C), .inl Qa.qf))]) hD hS hA [0, 2] rfl
              refine va_callv (va_runV (As := [.int (nI Qs.R), .int (nI 2), .int (nI Q.R)]) (rest := []) ⟨hx, hb, hml, hown, hts⟩ (c_Mo_set l dC dI mo H (rf (rs v Qa o) (skipH f n js) bs) cI Qa.qq (8 * Qa.C) Qa.qf Qs.R 2 ((nI Q.R)) (by omega) (by omega) ((rf_ne (by decide) (by decide)).trans rs_19)) (cwV 3 hts (gt_V (own := R_Mo) (C := R_Mo) (i := 272) (y := y_Mo_set) i_Mo_set w_1411 w_1413 (gt_sel (y := y_Mo_set) (n := 30) (by decide +kernel)) w_7) rfl rfl rfl (by decide +kernel) ⟨Nat.le_trans (m := 13) (Nat.le_of_ble_eq_true rfl) (Nat.le_add_right 13 (15 + G)), Nat.le_trans (m := 500) (Nat.le_of_ble_eq_true rfl) (Nat.le_add_right 500 (600 + M))⟩) ⟨mp_blind, va_recv hKc hPc (ci := 13) (q0 := 0) rfl rfl, fun U hU hW => ⟨rfl, hU, by rw [hU]; exact hPc, va_K.moved hW.alike hKc, hDc.weaken (fun _ _ _ _ => trivial)⟩⟩ rfl rfl hl.1 rfl (lv_room (Nat.le_of_ble_eq_true rfl)) d_Mo_basic_197 ⟨hfit_QaVs.1, hfit_QaVs.2⟩) hS (fun q _ h => hFc q h) hFc (fun _u t9 H1 locs ht hvm hw hB hz1 hk1 hS => ?_)
              obtain ⟨hP1, hK1, hD1⟩ := hB
              rw [ht] at hP1
              obtain ⟨hP, hD⟩ := va_join (wr := [(qx, .inl (cB, NN, .inl f)), (Qa.qe, .inl (cL, (3 * Qa.C), .inr (.inl Qa.ef))), (tv, .inr (12, MF 13 (tw Vs))), (Vs.au, .inl (cC, Vs.U, .inl Vs.un))]) (w1 := [(mo, .inr (13, MF 30 (rf (rs v Qa o) (skipH f n js) bs))), (Qa.qq, .inl (cI, (8 * Qa.C), .inl (upd Qa.qf (8 * Qs.R + 2) ((nI Q.R)))))]) hP hD [0, 2] [1, 3, 4, 5] rfl rfl (by decide) (by decide) hk1 hFc hP1 hD1
              generalize H1 = H at hP hS ⊢
              have hP : va_P (dC, dI) classes [(qx, .inl (cB, NN, .inl f)), (Qa.qe, .inl (cL, (3 * Qa.C), .inr (.inl Qa.ef))), (tv, .inr (12, MF 13 (tw Vs))), (Vs.au, .inl (cC, Vs.U, .inl Vs.un)), (mo, .inr (13, MF 30 (rf (rs v Qa o) (skipH f n js) bs))), (Qa.qq, .inl (cI, (8 * Qa.C), .inl (upd Qa.qf (8 * Qs.R + 2) ((nI Q.R)))))] H := hP
              have hD : va_D A [(qx, .inl (cB, NN, .inl f)), (Qa.qe, .inl (cL, (3 * Qa.C), .inr (.inl Qa.ef))), (tv, .inr (12, MF 13 (tw Vs))), (Vs.au, .inl (cC, Vs.U, .inl Vs.un)), (mo, .inr (13, MF 30 (rf (rs v Qa o) (skipH f n js) bs))), (Qa.qq, .inl (cI, (8 * Qa.C), .inl (upd Qa.qf (8 * Qs.R + 2) ((nI Q.R)))))] := hD
              have hP := hP.sub (ws' := [(mo, .inr (13, MF 30 (rf (rs v Qa o) (skipH f n js) bs))), (qx, .inl (cB, NN, .inl f)), (Qa.qq, .inl (cI, (8 * Qa.C), .inl (upd Qa.qf (8 * Qs.R + 2) ((nI Q.R))))), (Qa.qe, .inl (cL, (3 * Qa.C), .inr (.inl Qa.ef))), (tv, .inr (12, MF 13 (tw Vs))), (Vs.au, .inl (cC, Vs.U, .inl Vs.un))]) [4, 0, 5, 1, 2, 3] rfl
              have hD := hD.sub (ws' := [(mo, .inr (13, MF 30 (rf (rs v Qa o) (skipH f n js) bs))), (qx, .inl (cB, NN, .inl f)), (Qa.qq, .inl (cI, (8 * Qa.C), .inl (upd Qa.qf (8 * Qs.R + 2) ((nI Q.R))))), (Qa.qe, .inl (cL, (3 * Qa.C), .inr (.inl Qa.ef))), (tv, .inr (12, MF 13 (tw Vs))), (Vs.au, .inl (cC, Vs.U, .inl Vs.un))]) [4, 0, 5, 1, 2, 3] (by decide) rfl
              obtain ⟨Qb, e_Qb⟩ : ∃ z : QS, z = QS.wf Qa (upd Qa.qf (8 * Qs.R + 2) ((nI Q.R))) := ⟨_, rfl⟩
              have hP : va_P (dC, dI) classes [(mo, .inr (13, MF 30 (rf (rs v Qb o) (skipH f n js) bs))), (qx, .inl (cB, NN, .inl f)), (Qb.qq, .inl (cI, (8 * Qb.C), .inl Qb.qf)), (Qb.qe, .inl (cL, (3 * Qb.C), .inr (.inl Qb.ef))), (tv, .inr (12, MF 13 (tw Vs))), (Vs.au, .inl (cC, Vs.U, .inl Vs.un))] H := by subst e_Qb; exact hP
              have hD : va_D A [(mo, .inr (13, MF 30 (rf (rs v Qb o) (skipH f n js) bs))), (qx, .inl (cB, NN, .inl f)), (Qb.qq, .inl (cI, (8 * Qb.C), .inl Qb.qf)), (Qb.qe, .inl (cL, (3 * Qb.C), .inr (.inl Qb.ef))), (tv, .inr (12, MF 13 (tw Vs))), (Vs.au, .inl (cC, Vs.U, .inl Vs.un))] := by subst e_Qb; exact hD
              have hf_Qb : Qb.C = Qa.C ∧ Qb.R = Qa.R ∧ Qb.qf = upd Qa.qf (8 * Qs.R + 2) ((nI Q.R)) := by rw [e_Qb]; exact ⟨rfl, rfl, rfl⟩
              have he_Qb : Qb.ef = Qa.ef := by rw [e_Qb]; rfl
              have hQk_Qb : QOK Qb := by rw [e_Qb]; exact hQk_Qa
              have hG_QbVs : GQ (Q.R + 8 * (n - i) + 1) (V.us + (n + 12 - i)) Q V Qb Vs := by unfold GQ at hG_QaVs ⊢; rw [hf_Qb.1]; exact hG_QaVs
              refine w_same (fun hq => ?_)
              refine w_tight (k := cQ Q V Qb Vs) (n := sQ Q V Qb Vs) (by unfold cQ sQ at hq ⊢; rw [hf_Qb.1]; exact hq) ?_
              have hR_Qb := hf_Qb.2.1
              have hqb_QbVs : Qb.R ≤ Qb.C ∧ Qb.C ≤ 100000 := ⟨hQk_Qb.2.2.1, hQk_Qb.2.1⟩
              have hfit_QbVs := hG_QbVs.fits
              refine lv_aload_n hx hb d_Mo_basic_200 rfl (lv_at hl 5 rfl) ?_
              refine lv_iload hx hb d_Mo_basic_201 (lv_at hl 0 rfl) ?_
              have hkb : Qb.qf (8 * Qs.R + 0) = 45 := by rw [hf_Qb.2.2, pk_un (by omega)]; exact hA_Qa.2.2.2.2.1
              have hWb : Wth (QRYp O) Qb Vs Q.R Qb.R Qs.R Q.R g9 := Wth_up (Frm8 (QRYp_fr hOf)) hv_3 (Nat.le_refl _) (by omega) (by omega) ((hE_Qa.sub (Nat.zero_le _) (Nat.le_refl _)).tr (alr.upd hf_Qb.2.2 he_Qb (by decide) (by omega)))
              have hExb : alr Q V Qb Vs 0 Q.R := (hv_4.tr (hE_Qa.sub (Nat.le_refl _) (by omega))).tr (alr.upd hf_Qb.2.2 he_Qb (by decide) (by omega))
              have hLb : CMPf O C Y Qb Vs Q.R Qb.R Qs.R (onlO g9) := ⟨by omega, by omega, Or.inr (Or.inr (Or.inr (Or.inr (Or.inr (Or.inl ⟨hkb, Q.R, g9, by rw [hf_Qb.2.2]; exact pk_us, hWb, rfl⟩)))))⟩
              have hPc := hP.sub (ws' := [(mo, .inr (13, MF 30 (rf (rs v Qb o) (skipH f n js) bs))), (qx, .inl (cB, NN, .inl f)), (Qb.qq, .inl (cI, (8 * Qb.C), .inl Qb.qf)), (Qb.qe, .inl (cL, (3 * Qb.C), .inr (.inl Qb.ef))), (tv, .inr (12, MF 13 (tw Vs))), (Vs.au, .inl (cC, Vs.U, .inl Vs.un))]) [0, 1, 2, 3, 4, 5] rfl
              have hDc := hD.sub (ws' := [(mo, .inr (13, MF 30 (rf (rs v Qb o) (skipH f n js) bs))), (qx, .inl (cB, NN, .inl f)), (Qb.qq, .inl (cI, (8 * Qb.C), .inl Qb.qf)), (Qb.qe, .inl (cL, (3 * Qb.C), .inr (.inl Qb.ef))), (tv, .inr (12, MF 13 (tw Vs))), (Vs.au, .inl (cC, Vs.U, .inl Vs.un))]) [0, 1, 2, 3, 4, 5] (by decide) rfl
              have hKc := hK.sub (tys' := [(cB, .byte), (cI, .int), (cL, .long), (cC, .char)]) [0, 1, 2, 3] rfl
              have hFc := va_free (wc := [(mo, .inr (13, MF 30 (rf (rs v Qb o) (skipH f n js) bs))), (qx, .inl (cB, NN, .inl f)), (Qb.qq, .inl (cI, (8 * Qb.C), .inl Qb.qf)), (Qb.qe, .inl (cL, (3 * Qb.C), .inr (.inl Qb.ef))), (tv, .inr (12, MF 13 (tw Vs))), (Vs.au, .inl (cC, Vs.U, .inl Vs.un))]) hD hS hA [0, 1, 2, 3, 4, 5] rfl
              refine w_same (fun hq0 => ?_)
              refine va_calli (va_runV (As := [.int (nI Qs.R)]) (rest := []) ⟨hx, hb, hml, hown, hts⟩ (c_cpr orL cmL qyL O C Y G M hOf hCf hYf l dC dI mo H v cB cI cL cC qx NN f n K tv Qb Vs o (skipH f n js) bs Q.R Qs.R (onlO g9) ok hok ho16 hOR hCM hQY hnN hNN (by omega) h6 h8 h22 hQk_Qb hTk_Vs (by omega) (by omega) (by omega) hLb) (cwV 1 hts (gt_V (own := R_Mo) (C := R_Mo) (i := 325) (y := y_Mo_comparison) i_Mo_comparison w_1455 w_1457 (gt_sel (y := y_Mo_comparison) (n := 30) (by decide +kernel)) w_7) rfl rfl rfl (by decide +kernel) ⟨by show 12 + (15 + G) + 1 ≤ 13 + (15 + G); omega, by show 8 + (5 + 11) + (440 + (600 + M)) ≤ 500 + (600 + M); omega⟩) ⟨me_blind, va_recv hKc hPc (ci := 13) (q0 := 0) rfl rfl, fun U hU hW => ⟨rfl, ⟨hU, by rw [hU]; exact hPc, va_K.moved hW.alike hKc, hDc.weaken (fun _ _ _ _ => trivial)⟩, by rw [hU]; exact ME.call hM hS.2.1 hFc hW⟩⟩ rfl rfl hl.1 rfl (lv_room (Nat.le_of_ble_eq_true rfl)) d_Mo_basic_203 ⟨(hG_QbVs.step (B2 := Qb.R + 8 * (n - (skipH f n js)) + 1) (C2 := Vs.us + (n + 12 - (skipH f n js))) (by omega) (by omega)).1, (hG_QbVs.step (B2 := Qb.R + 8 * (n - (skipH f n js)) + 1) (C2 := Vs.us + (n + 12 - (skipH f n js))) (by omega) (by omega)).2⟩) hS (fun q _ h => hFc q h) hFc (fun r0 ⟨Qc, Vc, jc, bc, oc⟩ t9 H1 locs ht hvm hw hB hz1 hk1 hS => ?_)
              obtain ⟨⟨hP1, hK1, hD1⟩, hz9⟩ := hB
              rw [ht] at hP1
              rw [ht] at hz9
              obtain ⟨⟨hQk_Qc, hGn, hTXs, hR1_Qc, hR2_Qc⟩, hw⟩ := hw
              have hQk_Qc : QOK Qc := hQk_Qc
              obtain ⟨hG_QcVc, hGc, hGs⟩ := hG_QbVs.tr hGn (by omega) (by omega)
              have hR1_Qc : Qb.R ≤ Qc.R := hR1_Qc
              have hR2_Qc : Qc.R ≤ Qb.R + 8 * (n - (skipH f n js)) + 1 := hR2_Qc
              obtain ⟨usc, hX_Vc, hln_Vc⟩ := hTXs
              have hX_Vc : TX Vs Vc usc := hX_Vc
              have hXs_Vc := hX_Vc.us
              have hz9 : szk H H1 (cQ Qb Vs Qc Vc) (sQ Qb Vs Qc Vc) := hz9
              have hq1 : szk s.heap H1 (cQ Q V Qc Vc) (sQ Q V Qc Vc) := (hq0.trans hz9).mono hGc hGs
              refine w_tight hq1 ?_
              obtain ⟨hP, hD⟩ := va_join (wr := []) (w1 := [(mo, .inr (13, MF 30 (rf (rs v Qc oc) jc bc))), (qx, .inl (cB, NN, .inl f)), (Qc.qq, .inl (cI, (8 * Qc.C), .inl Qc.qf)), (Qc.qe, .inl (cL, (3 * Qc.C), .inr (.inl Qc.ef))), (tv, .inr (12, MF 13 (tw Vc))), (Vc.au, .inl (cC, Vc.U, .inl Vc.un))]) hP hD [0, 1, 2, 3, 4, 5] [] rfl rfl (by decide) (by decide) hk1 hFc hP1 hD1
              generalize H1 = H at hP hS ⊢
              have hP : va_P (dC, dI) classes [(mo, .inr (13, MF 30 (rf (rs v Qc oc) jc bc))), (qx, .inl (cB, NN, .inl f)), (Qc.qq, .inl (cI, (8 * Qc.C), .inl Qc.qf)), (Qc.qe, .inl (cL, (3 * Qc.C), .inr (.inl Qc.ef))), (tv, .inr (12, MF 13 (tw Vc))), (Vc.au, .inl (cC, Vc.U, .inl Vc.un))] H := hP
              have hD : va_D A [(mo, .inr (13, MF 30 (rf (rs v Qc oc) jc bc))), (qx, .inl (cB, NN, .inl f)), (Qc.qq, .inl (cI, (8 * Qc.C), .inl Qc.qf)), (Qc.qe, .inl (cL, (3 * Qc.C), .inr (.inl Qc.ef))), (tv, .inr (12, MF 13 (tw Vc))), (Vc.au, .inl (cC, Vc.U, .inl Vc.un))] := hD
              have hP := hP.sub (ws' := [(mo, .inr (13, MF 30 (rf (rs v Qc oc) jc bc))), (qx, .inl (cB, NN, .inl f)), (tv, .inr (12, MF 13 (tw Vc))), (Qc.qq, .inl (cI, (8 * Qc.C), .inl Qc.qf)), (Qc.qe, .inl (cL, (3 * Qc.C), .inr (.inl Qc.ef))), (Vc.au, .inl (cC, Vc.U, .inl Vc.un))]) [0, 1, 4, 2, 3, 5] rfl
              have hD := hD.sub (ws' := [(mo, .inr (13, MF 30 (rf (rs v Qc oc) jc bc))), (qx, .inl (cB, NN, .inl f)), (tv, .inr (12, MF 13 (tw Vc))), (Qc.qq, .inl (cI, (8 * Qc.C), .inl Qc.qf)), (Qc.qe, .inl (cL, (3 * Qc.C), .inr (.inl Qc.ef))), (Vc.au, .inl (cC, Vc.U, .inl Vc.un))]) [0, 1, 4, 2, 3, 5] (by decide) rfl
              have hP := hP.sub (ws' := [(mo, .inr (13, MF 30 (rf (rs v Qc oc) jc bc))), (qx, .inl (cB, NN, .inl f)), (Qc.qq, .inl (cI, (8 * Qc.C), .inl Qc.qf)), (Qc.qe, .inl (cL, (3 * Qc.C), .inr (.inl Qc.ef))), (tv, .inr (12, MF 13 (tw Vc))), (Vc.au, .inl (cC, Vc.U, .inl Vc.un))]) [0, 1, 3, 4, 2, 5] rfl
              have hD := hD.sub (ws' := [(mo, .inr (13, MF 30 (rf (rs v Qc oc) jc bc))), (qx, .inl (cB, NN, .inl f)), (Qc.qq, .inl (cI, (8 * Qc.C), .inl Qc.qf)), (Qc.qe, .inl (cL, (3 * Qc.C), .inr (.inl Qc.ef))), (tv, .inr (12, MF 13 (tw Vc))), (Vc.au, .inl (cC, Vc.U, .inl Vc.un))]) [0, 1, 3, 4, 2, 5] (by decide) rfl
              have hTk_Vc := hX_Vc.ok hTk_Vs (by omega)
              have hqb_QcVc : Qc.R ≤ Qc.C ∧ Qc.C ≤ 100000 := ⟨hQk_Qc.2.2.1, hQk_Qc.2.1⟩
              have hfit_QcVc := hG_QcVc.fits
              rcases hw with ⟨c9, m8, hu_1, hu_2, hu_3, hu_4, hu_5, hu_6, hu_7, hu_8, hu_9, hu_10, hu_11⟩ | ⟨hu_1, hu_2⟩
              · have hu_11 : o = oc := hu_11.symm
                subst hu_11
                have hP : va_P (dC, dI) classes [(mo, .inr (13, MF 30 (rf (rs v Qc o) jc bc))), (qx, .inl (cB, NN, .inl f)), (Qc.qq, .inl (cI, (8 * Qc.C), .inl Qc.qf)), (Qc.qe, .inl (cL, (3 * Qc.C), .inr (.inl Qc.ef))), (tv, .inr (12, MF 13 (tw Vc))), (Vc.au, .inl (cC, Vc.U, .inl Vc.un))] H := hP
                have hD : va_D A [(mo, .inr (13, MF 30 (rf (rs v Qc o) jc bc))), (qx, .inl (cB, NN, .inl f)), (Qc.qq, .inl (cI, (8 * Qc.C), .inl Qc.qf)), (Qc.qe, .inl (cL, (3 * Qc.C), .inr (.inl Qc.ef))), (tv, .inr (12, MF 13 (tw Vc))), (Vc.au, .inl (cC, Vc.U, .inl Vc.un))] := hD
                have hu_2 : cpP f n (cmP f n ok (orL f n) (cmL f n) (qyL f n)) (onlO g9) (skipH f n js) = some (jc, m8) := hu_2
                have hu_3 : BASf O C Y Qc Vc Q.R Qc.R c9 m8 := hu_3
                have hu_4 : c9 < Qc.R := hu_4
                have hu_5 : Qc.qf (8 * c9 + 1) = -1 := hu_5
                have hu_6 : alr Qb Vs Qc Vc 0 Qb.R := hu_6
                have hu_7 : Qc.R + 8 * (skipH f n js) + 13 ≤ Qb.R + 8 * jc := hu_7
                have hu_8 : Vc.us + (skipH f n js) ≤ Vs.us + jc := hu_8
                have hu_9 : jc ≤ n := hu_9
                have hu_10 : Qb.R < Qc.R := hu_10
                have hExc : alr Q V Qc Vc 0 Q.R := hExb.tr (hu_6.sub (Nat.le_refl _) (by omega))
                subst hu_1
                have hfin : baP f n ok (orL f n) (cmL f n) (qyL f n) i = some (jc, m8) := by rw [hbp, baB_q3 hn40 hbeg hv_2 ⟨rfl, h_t6.1 c159⟩ (h_f7.1 c169)]; exact hu_2
                refine w_same (fun hq => ?_)
                refine W.widen (k := kcap Q (Q.R + 8 * (n - i) + 1) + qcap V (V.us + (n + 12 - i))) (n := 22 * kcap Q (Q.R + 8 * (n - i) + 1) + 2 * qcap V (V.us + (n + 12 - i))) hfit_QcVc.1 hfit_QcVc.2 ?_
                have hPo : QPo n i 1 Q V (Qc, Vc, jc, bc, o) := ⟨hQk_Qc, hG_QcVc, ⟨_, (hX_Vs.trans hX_Vc), by rw [List.length_append]; omega⟩, by show Q.R ≤ Qc.R; omega, by show Qc.R ≤ Q.R + 8 * (n - i) + 1; omega⟩
                exact W.iret (v := nI c9) hx hb hr (fun t9 ht hW => ⟨⟨nI c9, (Qc, Vc, jc, bc, o), rfl, ⟨hPo, Or.inl ⟨c9, m8, rfl, hfin, hu_3, by show c9 < Qc.R; omega, hu_5, hExc, by show Qc.R + 8 * i + 5 ≤ Q.R + 8 * jc; omega, by show Vc.us + i ≤ V.us + jc; omega, by show jc ≤ n; omega, by show Q.R < Qc.R; omega, rfl⟩⟩, ⟨by rw [ht]; exact hP, va_K.moved hW.alike hK, hD⟩, by rw [ht]; exact hq⟩, hS.F ht⟩) hS.2.2 d_Mo_basic_206
              · have hu_2 : cpP f n (cmP f n ok (orL f n) (cmL f n) (qyL f n)) (onlO g9) (skipH f n js) = none := hu_2
                subst hu_1
                have hfin : baP f n ok (orL f n) (cmL f n) (qyL f n) i = none := by rw [hbp, baB_q3 hn40 hbeg hv_2 ⟨rfl, h_t6.1 c159⟩ (h_f7.1 c169)]; exact hu_2
                refine w_same (fun hq => ?_)
                refine W.widen (k := kcap Q (Q.R + 8 * (n - i) + 1) + qcap V (V.us + (n + 12 - i))) (n := 22 * kcap Q (Q.R + 8 * (n - i) + 1) + 2 * qcap V (V.us + (n + 12 - i))) hfit_QcVc.1 hfit_QcVc.2 ?_
                have hPo : QPo n i 1 Q V (Qc, Vc, jc, bc, oc) := ⟨hQk_Qc, hG_QcVc, ⟨_, (hX_Vs.trans hX_Vc), by rw [List.length_append]; omega⟩, by show Q.R ≤ Qc.R; omega, by show Qc.R ≤ Q.R + 8 * (n - i) + 1; omega⟩
                exact W.iret (v := -1) hx hb hr (fun t9 ht hW => ⟨⟨-1, (Qc, Vc, jc, bc, oc), rfl, ⟨hPo, Or.inr ⟨rfl, hfin⟩⟩, ⟨by rw [ht]; exact hP, va_K.moved hW.alike hK, hD⟩, by rw [ht]; exact hq⟩, hS.F ht⟩) hS.2.2 d_Mo_basic_206
            · refine lv_aload_n hx hb d_Mo_basic_172 rfl (lv_at hl 4 rfl) ?_
              refine lv_aload_n hx hb d_Mo_basic_173 rfl (lv_at hl 4 rfl) ?_
              refine va_get (D := (dC, dI)) (ci := 13) (v := .int (nI (skipH f n js))) (C := R_Mo) (T := F_Mo) (N := 30) hx hb hts in_Mo hown hK hP 0 rfl rfl 7 (by decide) (hts _ w_1096) (fun _ h9 => h9) (MFg (by decide) rf_7) d_Mo_basic_174 ?_
              have hPc := hP.sub (ws' := [(mo, .inr (13, MF 30 (rf (rs v Qs o) (skipH f n js) bs)))]) [0] rfl
              have hDc := hD.sub (ws' := [(mo, .inr (13, MF 30 (rf (rs v Qs o) (skipH f n js) bs)))]) [0] (by decide) rfl
              have hKc := hK.sub (tys' := []) [] rfl
              have hFc := va_free (wc := [(mo, .inr (13, MF 30 (rf (rs v Qs o) (skipH f n js) bs)))]) hD hS hA [0] rfl
              refine va_calli (va_runV (As := [.int (nI (skipH f n js))]) (rest := []) ⟨hx, hb, hml, hown, hts⟩ (c_Mo_fail l dC dI mo H (rf (rs v Qs o) (skipH f n js) bs) bs ((nI (skipH f n js))) rf_9) (cwV 1 hts (gt_V (own := R_Mo) (C := R_Mo) (i := 151) (y := y_Mo_fail) i_Mo_fail w_1250 w_1252 (gt_sel (y := y_Mo_fail) (n := 30) (by decide +kernel)) w_7) rfl rfl rfl (by decide +kernel) ⟨Nat.le_trans (m := 13) (Nat.le_of_ble_eq_true rfl) (Nat.le_add_right 13 (15 + G)), Nat.le_trans (m := 500) (Nat.le_of_ble_eq_true rfl) (Nat.le_add_right 500 (600 + M))⟩) ⟨mp_blind, va_recv hKc hPc (ci := 13) (q0 := 0) rfl rfl, fun U hU hW => ⟨rfl, hU, by rw [hU]; exact hPc, va_K.moved hW.alike hKc, hDc.weaken (fun _ _ _ _ => trivial)⟩⟩ rfl rfl hl.1 rfl (lv_room (Nat.le_of_ble_eq_true rfl)) d_Mo_basic_177 ⟨hfit_QsVs.1, hfit_QsVs.2⟩) hS (fun q _ h => hFc q h) hFc (fun r0 u2 t9 H1 locs ht hvm hw hB hz1 hk1 hS => ?_)
              obtain ⟨hP1, hK1, hD1⟩ := hB
              rw [ht] at hP1
              obtain ⟨hP, hD⟩ := va_join (wr := [(qx, .inl (cB, NN, .inl f)), (Qs.qq, .inl (cI, (8 * Qs.C), .inl Qs.qf)), (Qs.qe, .inl (cL, (3 * Qs.C), .inr (.inl Qs.ef))), (tv, .inr (12, MF 13 (tw Vs))), (Vs.au, .inl (cC, Vs.U, .inl Vs.un))]) (w1 := [(mo, .inr (13, MF 30 u2))]) hP hD [0] [1, 2, 3, 4, 5] rfl rfl (by decide) (by decide) hk1 hFc hP1 hD1
              generalize H1 = H at hP hS ⊢
              have hP : va_P (dC, dI) classes [(qx, .inl (cB, NN, .inl f)), (Qs.qq, .inl (cI, (8 * Qs.C), .inl Qs.qf)), (Qs.qe, .inl (cL, (3 * Qs.C), .inr (.inl Qs.ef))), (tv, .inr (12, MF 13 (tw Vs))), (Vs.au, .inl (cC, Vs.U, .inl Vs.un)), (mo, .inr (13, MF 30 u2))] H := hP
              have hD : va_D A [(qx, .inl (cB, NN, .inl f)), (Qs.qq, .inl (cI, (8 * Qs.C), .inl Qs.qf)), (Qs.qe, .inl (cL, (3 * Qs.C), .inr (.inl Qs.ef))), (tv, .inr (12, MF 13 (tw Vs))), (Vs.au, .inl (cC, Vs.U, .inl Vs.un)), (mo, .inr (13, MF 30 u2))] := hD
              have hP := hP.sub (ws' := [(mo, .inr (13, MF 30 u2)), (qx, .inl (cB, NN, .inl f)), (Qs.qq, .inl (cI, (8 * Qs.C), .inl Qs.qf)), (Qs.qe, .inl (cL, (3 * Qs.C), .inr (.inl Qs.ef))), (tv, .inr (12, MF 13 (tw Vs))), (Vs.au, .inl (cC, Vs.U, .inl Vs.un))]) [5, 0, 1, 2, 3, 4] rfl
              have hD := hD.sub (ws' := [(mo, .inr (13, MF 30 u2)), (qx, .inl (cB, NN, .inl f)), (Qs.qq, .inl (cI, (8 * Qs.C), .inl Qs.qf)), (Qs.qe, .inl (cL, (3 * Qs.C), .inr (.inl Qs.ef))), (tv, .inr (12, MF 13 (tw Vs))), (Vs.au, .inl (cC, Vs.U, .inl Vs.un))]) [5, 0, 1, 2, 3, 4] (by decide) rfl
              obtain ⟨b7, h_b7⟩ := rf_fail (v := (rs v Qs o)) (i := (skipH f n js)) (br := bs) (b2 := bs) (wh := (nI (skipH f n js)))
              have hw : r0 = 0 ∧ u2 = _ := hw
              obtain ⟨hw1, hw2⟩ := hw
              rw [h_b7] at hw2
              rw [hw2] at hP hD
              subst hw1
              have hP : va_P (dC, dI) classes [(mo, .inr (13, MF 30 (rf (rs v Qs o) (skipH f n js) b7))), (qx, .inl (cB, NN, .inl f)), (Qs.qq, .inl (cI, (8 * Qs.C), .inl Qs.qf)), (Qs.qe, .inl (cL, (3 * Qs.C), .inr (.inl Qs.ef))), (tv, .inr (12, MF 13 (tw Vs))), (Vs.au, .inl (cC, Vs.U, .inl Vs.un))] H := hP
              have hD : va_D A [(mo, .inr (13, MF 30 (rf (rs v Qs o) (skipH f n js) b7))), (qx, .inl (cB, NN, .inl f)), (Qs.qq, .inl (cI, (8 * Qs.C), .inl Qs.qf)), (Qs.qe, .inl (cL, (3 * Qs.C), .inr (.inl Qs.ef))), (tv, .inr (12, MF 13 (tw Vs))), (Vs.au, .inl (cC, Vs.U, .inl Vs.un))] := hD
              refine lv_pop hx hb d_Mo_basic_180 rfl ?_
              refine lv_iconst (v := (-1)) hx hb d_Mo_basic_181 (by decide) ?_
              have hfin : baP f n ok (orL f n) (cmL f n) (qyL f n) i = none := by rw [hbp]; exact baB_q2 hn40 hbeg hv_2 ⟨rfl, h_t6.1 c159⟩ (h_f7.2 c169)
              refine w_same (fun hq => ?_)
              refine W.widen (k := kcap Q (Q.R + 8 * (n - i) + 1) + qcap V (V.us + (n + 12 - i))) (n := 22 * kcap Q (Q.R + 8 * (n - i) + 1) + 2 * qcap V (V.us + (n + 12 - i))) hfit_QsVs.1 hfit_QsVs.2 ?_
              have hPo : QPo n i 1 Q V (Qs, Vs, (skipH f n js), b7, o) := ⟨hQk_Qs, hG_QsVs, ⟨_, hX_Vs, by omega⟩, by show Q.R ≤ Qs.R; omega, by show Qs.R ≤ Q.R + 8 * (n - i) + 1; omega⟩
              exact W.iret (v := -1) hx hb hr (fun t9 ht hW => ⟨⟨-1, (Qs, Vs, (skipH f n js), b7, o), rfl, ⟨hPo, Or.inr ⟨rfl, hfin⟩⟩, ⟨by rw [ht]; exact hP, va_K.moved hW.alike hK, hD⟩, by rw [ht]; exact hq⟩, hS.F ht⟩) hS.2.2 d_Mo_basic_182
        · have hv_2 : qrP f n ok (orL f n) false (decide (hereV f n i = 36)) (i + 1) = none := by rw [hrtb]; exact hv_2
          subst hv_1
          refine lv_istore (lv' := [(4, .int (-1)), (3, .int 0), (1, .int 0), (0, .ref mo)]) hx hb d_Mo_basic_132 hl (by decide) rfl (fun ls hl => ?_)
          refine lv_iload hx hb d_Mo_basic_134 (lv_at hl 0 rfl) ?_
          refine lv_if_ge (tgt := 141) hx hb d_Mo_basic_136 (by decide) (fun h => absurd h (by decide)) (fun _ => ?_)
          refine lv_iconst (v := (-1)) hx hb d_Mo_basic_139 (by decide) ?_
          have hfin : baP f n ok (orL f n) (cmL f n) (qyL f n) i = none := by rw [hbp]; exact baB_q0 hn40 hbeg hv_2
          refine w_same (fun hq => ?_)
          refine W.widen (k := kcap Q (Q.R + 8 * (n - i) + 1) + qcap V (V.us + (n + 12 - i))) (n := 22 * kcap Q (Q.R + 8 * (n - i) + 1) + 2 * qcap V (V.us + (n + 12 - i))) hfit_QsVs.1 hfit_QsVs.2 ?_
          have hPo : QPo n i 1 Q V (Qs, Vs, js, bs, os) := ⟨hQk_Qs, hG_QsVs, ⟨_, hX_Vs, by omega⟩, by show Q.R ≤ Qs.R; omega, by show Qs.R ≤ Q.R + 8 * (n - i) + 1; omega⟩
          exact W.iret (v := -1) hx hb hr (fun t9 ht hW => ⟨⟨-1, (Qs, Vs, js, bs, os), rfl, ⟨hPo, Or.inr ⟨rfl, hfin⟩⟩, ⟨by rw [ht]; exact hP, va_K.moved hW.alike hK, hD⟩, by rw [ht]; exact hq⟩, hS.F ht⟩) hS.2.2 d_Mo_basic_140
      · refine lv_aload_n hx hb d_Mo_basic_92 rfl (lv_at hl 1 rfl) ?_
        have hPc := hP.sub (ws' := [(mo, .inr (13, MF 30 (rf (rs v Q o) i br))), (qx, .inl (cB, NN, .inl f))]) [0, 1] rfl
        have hDc := hD.sub (ws' := [(mo, .inr (13, MF 30 (rf (rs v Q o) i br))), (qx, .inl (cB, NN, .inl f))]) [0, 1] (by decide) rfl
        have hKc := hK.sub (tys' := [(cB, .byte)]) [0] rfl
        have hFc := va_free (wc := [(mo, .inr (13, MF 30 (rf (rs v Q o) i br))), (qx, .inl (cB, NN, .inl f))]) hD hS hA [0, 1] rfl
        refine va_calli (va_runV (As := []) (rest := []) ⟨hx, hb, hml, hown, hts⟩ (c_Mo_c l dC dI mo H (rf (rs v Q o) i br) cB qx NN f n i (by omega) (by omega) (by omega) ((rf_ne (by decide) (by decide)).trans ((rs_ne (by decide) (by decide) (by decide) (by decide)).trans h6)) rf_7 ((rf_ne (by decide) (by decide)).trans ((rs_ne (by decide) (by decide) (by decide) (by decide)).trans h8))) (cwV 0 hts (gt_V (own := R_Mo) (C := R_Mo) (i := 147) (y := y_Mo_c) i_Mo_c w_1233 w_1235 (gt_sel (y := y_Mo_c) (n := 30) (by decide +kernel)) w_7) rfl rfl rfl (by decide +kernel) ⟨Nat.le_trans (m := 13) (Nat.le_of_ble_eq_true rfl) (Nat.le_add_right 13 (15 + G)), Nat.le_trans (m := 500) (Nat.le_of_ble_eq_true rfl) (Nat.le_add_right 500 (600 + M))⟩) ⟨mp_blind, va_recv hKc hPc (ci := 13) (q0 := 0) rfl rfl, fun U hU hW => ⟨rfl, hU, by rw [hU]; exact hPc, va_K.moved hW.alike hKc, hDc.weaken (fun _ _ _ _ => trivial)⟩⟩ rfl rfl hl.1 rfl (lv_room (Nat.le_of_ble_eq_true rfl)) d_Mo_basic_93 ⟨hfit_QV.1, hfit_QV.2⟩) hS (fun q _ h => hFc q h) hFc (fun r4 _u t9 H1 locs ht hvm hw hB hz1 hk1 hS => ?_)
        obtain ⟨hP1, hK1, hD1⟩ := hB
        rw [ht] at hP1
        obtain ⟨hP, hD⟩ := va_join (wr := [(Q.qq, .inl (cI, (8 * Q.C), .inl Q.qf)), (Q.qe, .inl (cL, (3 * Q.C), .inr (.inl Q.ef))), (tv, .inr (12, MF 13 (tw V))), (V.au, .inl (cC, V.U, .inl V.un))]) (w1 := [(mo, .inr (13, MF 30 (rf (rs v Q o) i br))), (qx, .inl (cB, NN, .inl f))]) hP hD [0, 1] [2, 3, 4, 5] rfl rfl (by decide) (by decide) hk1 hFc hP1 hD1
        generalize H1 = H at hP hS ⊢
        have hP : va_P (dC, dI) classes [(Q.qq, .inl (cI, (8 * Q.C), .inl Q.qf)), (Q.qe, .inl (cL, (3 * Q.C), .inr (.inl Q.ef))), (tv, .inr (12, MF 13 (tw V))), (V.au, .inl (cC, V.U, .inl V.un)), (mo, .inr (13, MF 30 (rf (rs v Q o) i br))), (qx, .inl (cB, NN, .inl f))] H := hP
        have hD : va_D A [(Q.qq, .inl (cI, (8 * Q.C), .inl Q.qf)), (Q.qe, .inl (cL, (3 * Q.C), .inr (.inl Q.ef))), (tv, .inr (12, MF 13 (tw V))), (V.au, .inl (cC, V.U, .inl V.un)), (mo, .inr (13, MF 30 (rf (rs v Q o) i br))), (qx, .inl (cB, NN, .inl f))] := hD
        have hP := hP.sub (ws' := [(mo, .inr (13, MF 30 (rf (rs v Q o) i br))), (qx, .inl (cB, NN, .inl f)), (Q.qq, .inl (cI, (8 * Q.C), .inl Q.qf)), (Q.qe, .inl (cL, (3 * Q.C), .inr (.inl Q.ef))), (tv, .inr (12, MF 13 (tw V))), (V.au, .inl (cC, V.U, .inl V.un))]) [4, 5, 0, 1, 2, 3] rfl
        have hD := hD.sub (ws' := [(mo, .inr (13, MF 30 (rf (rs v Q o) i br))), (qx, .inl (cB, NN, .inl f)), (Q.qq, .inl (cI, (8 * Q.C), .inl Q.qf)), (Q.qe, .inl (cL, (3 * Q.C), .inr (.inl Q.ef))), (tv, .inr (12, MF 13 (tw V))), (V.au, .inl (cC, V.U, .inl V.un))]) [4, 5, 0, 1, 2, 3] (by decide) rfl
        have h_r4 : r4 = hereV f n i := hw
        refine lv_bipush (v := 36) hx hb d_Mo_basic_96 (by decide) ?_
        refine lv_icmp_ne (tgt := 231) hx hb d_Mo_basic_98 (by decide) (fun c98 => ?_) (fun c98 => ?_)
        · have hnb : ¬ begC (hereV f n i) := fun h => h.elim (fun q => c89 (h_r3.trans q)) (fun q => c98 (h_r4.trans q))
          refine lv_iload_n hx hb d_Mo_basic_231 rfl (lv_at hl 0 rfl) ?_
          refine lv_if_eq (tgt := 246) hx hb d_Mo_basic_232 (by decide) (fun _ => ?_) (fun h => absurd (by decide) h)
          refine lv_aload_n hx hb d_Mo_basic_246 rfl (lv_at hl 1 rfl) ?_
          have hPc := hP.sub (ws' := [(mo, .inr (13, MF 30 (rf (rs v Q o) i br))), (qx, .inl (cB, NN, .inl f)), (Q.qq, .inl (cI, (8 * Q.C), .inl Q.qf)), (Q.qe, .inl (cL, (3 * Q.C), .inr (.inl Q.ef))), (tv, .inr (12, MF 13 (tw V))), (V.au, .inl (cC, V.U, .inl V.un))]) [0, 1, 2, 3, 4, 5] rfl
          have hDc := hD.sub (ws' := [(mo, .inr (13, MF 30 (rf (rs v Q o) i br))), (qx, .inl (cB, NN, .inl f)), (Q.qq, .inl (cI, (8 * Q.C), .inl Q.qf)), (Q.qe, .inl (cL, (3 * Q.C), .inr (.inl Q.ef))), (tv, .inr (12, MF 13 (tw V))), (V.au, .inl (cC, V.U, .inl V.un))]) [0, 1, 2, 3, 4, 5] (by decide) rfl
          have hKc := hK.sub (tys' := [(cB, .byte), (cI, .int), (cL, .long), (cC, .char)]) [0, 1, 2, 3] rfl
          have hFc := va_free (wc := [(mo, .inr (13, MF 30 (rf (rs v Q o) i br))), (qx, .inl (cB, NN, .inl f)), (Q.qq, .inl (cI, (8 * Q.C), .inl Q.qf)), (Q.qe, .inl (cL, (3 * Q.C), .inr (.inl Q.ef))), (tv, .inr (12, MF 13 (tw V))), (V.au, .inl (cC, V.U, .inl V.un))]) hD hS hA [0, 1, 2, 3, 4, 5] rfl
          refine w_same (fun hq0 => ?_)
          refine va_calli (va_runV (As := []) (rest := []) ⟨hx, hb, hml, hown, hts⟩ (c_cmp orL cmL qyL O C Y G M hOf hCf hYf l dC dI mo H v cB cI cL cC qx NN f n K tv Q V o i br ok hok ho16 hOR hCM hQY hnN hNN (by omega) h6 h8 h22 hQk_Q hTk_V (by omega) (by omega)) (cwV 0 hts (gt_V (own := R_Mo) (C := R_Mo) (i := 328) (y := y_Mo_comparable) i_Mo_comparable w_1461 w_1463 (gt_sel (y := y_Mo_comparable) (n := 30) (by decide +kernel)) w_7) rfl rfl rfl (by decide +kernel) ⟨by show 11 + (15 + G) + 1 ≤ 13 + (15 + G); omega, by show 8 + (5 + 11) + (400 + (600 + M)) ≤ 500 + (600 + M); omega⟩) ⟨me_blind, va_recv hKc hPc (ci := 13) (q0 := 0) rfl rfl, fun U hU hW => ⟨rfl, ⟨hU, by rw [hU]; exact hPc, va_K.moved hW.alike hKc, hDc.weaken (fun _ _ _ _ => trivial)⟩, by rw [hU]; exact ME.call hM hS.2.1 hFc hW⟩⟩ rfl rfl hl.1 rfl (lv_room (Nat.le_of_ble_eq_true rfl)) d_Mo_basic_247 ⟨(hG_QV.step (B2 := Q.R + 8 * (n - i) + 1) (C2 := V.us + (n + 12 - i)) (by omega) (by omega)).1, (hG_QV.step (B2 := Q.R + 8 * (n - i) + 1) (C2 := V.us + (n + 12 - i)) (by omega) (by omega)).2⟩) hS (fun q _ h => hFc q h) hFc (fun r0 ⟨Q1, V1, j1, b1, o1⟩ t9 H1 locs ht hvm hw hB hz1 hk1 hS => ?_)
          obtain ⟨⟨hP1, hK1, hD1⟩, hz9⟩ := hB
          rw [ht] at hP1
          rw [ht] at hz9
          obtain ⟨⟨hQk_Q1, hGn, hTXs, hR1_Q1, hR2_Q1⟩, hw⟩ := hw
          have hQk_Q1 : QOK Q1 := hQk_Q1
          obtain ⟨hG_Q1V1, hGc, hGs⟩ := hG_QV.tr hGn (by omega) (by omega)
          have hR1_Q1 : Q.R ≤ Q1.R := hR1_Q1
          have hR2_Q1 : Q1.R ≤ Q.R + 8 * (n - i) + 1 := hR2_Q1
          obtain ⟨us1, hX_V1, hln_V1⟩ := hTXs
          have hX_V1 : TX V V1 us1 := hX_V1
          have hXs_V1 := hX_V1.us
          have hz9 : szk H H1 (cQ Q V Q1 V1) (sQ Q V Q1 V1) := hz9
          have hq1 : szk s.heap H1 (cQ Q V Q1 V1) (sQ Q V Q1 V1) := (hq0.trans hz9).mono hGc hGs
          refine w_tight hq1 ?_
          obtain ⟨hP, hD⟩ := va_join (wr := []) (w1 := [(mo, .inr (13, MF 30 (rf (rs v Q1 o1) j1 b1))), (qx, .inl (cB, NN, .inl f)), (Q1.qq, .inl (cI, (8 * Q1.C), .inl Q1.qf)), (Q1.qe, .inl (cL, (3 * Q1.C), .inr (.inl Q1.ef))), (tv, .inr (12, MF 13 (tw V1))), (V1.au, .inl (cC, V1.U, .inl V1.un))]) hP hD [0, 1, 2, 3, 4, 5] [] rfl rfl (by decide) (by decide) hk1 hFc hP1 hD1
          generalize H1 = H at hP hS ⊢
          have hP : va_P (dC, dI) classes [(mo, .inr (13, MF 30 (rf (rs v Q1 o1) j1 b1))), (qx, .inl (cB, NN, .inl f)), (Q1.qq, .inl (cI, (8 * Q1.C), .inl Q1.qf)), (Q1.qe, .inl (cL, (3 * Q1.C), .inr (.inl Q1.ef))), (tv, .inr (12, MF 13 (tw V1))), (V1.au, .inl (cC, V1.U, .inl V1.un))] H := hP
          have hD : va_D A [(mo, .inr (13, MF 30 (rf (rs v Q1 o1) j1 b1))), (qx, .inl (cB, NN, .inl f)), (Q1.qq, .inl (cI, (8 * Q1.C), .inl Q1.qf)), (Q1.qe, .inl (cL, (3 * Q1.C), .inr (.inl Q1.ef))), (tv, .inr (12, MF 13 (tw V1))), (V1.au, .inl (cC, V1.U, .inl V1.un))] := hD
          have hP := hP.sub (ws' := [(mo, .inr (13, MF 30 (rf (rs v Q1 o1) j1 b1))), (qx, .inl (cB, NN, .inl f)), (tv, .inr (12, MF 13 (tw V1))), (Q1.qq, .inl (cI, (8 * Q1.C), .inl Q1.qf)), (Q1.qe, .inl (cL, (3 * Q1.C), .inr (.inl Q1.ef))), (V1.au, .inl (cC, V1.U, .inl V1.un))]) [0, 1, 4, 2, 3, 5] rfl
          have hD := hD.sub (ws' := [(mo, .inr (13, MF 30 (rf (rs v Q1 o1) j1 b1))), (qx, .inl (cB, NN, .inl f)), (tv, .inr (12, MF 13 (tw V1))), (Q1.qq, .inl (cI, (8 * Q1.C), .inl Q1.qf)), (Q1.qe, .inl (cL, (3 * Q1.C), .inr (.inl Q1.ef))), (V1.au, .inl (cC, V1.U, .inl V1.un))]) [0, 1, 4, 2, 3, 5] (by decide) rfl
          have hP := hP.sub (ws' := [(mo, .inr (13, MF 30 (rf (rs v Q1 o1) j1 b1))), (qx, .inl (cB, NN, .inl f)), (Q1.qq, .inl (cI, (8 * Q1.C), .inl Q1.qf)), (Q1.qe, .inl (cL, (3 * Q1.C), .inr (.inl Q1.ef))), (tv, .inr (12, MF 13 (tw V1))), (V1.au, .inl (cC, V1.U, .inl V1.un))]) [0, 1, 3, 4, 2, 5] rfl
          have hD := hD.sub (ws' := [(mo, .inr (13, MF 30 (rf (rs v Q1 o1) j1 b1))), (qx, .inl (cB, NN, .inl f)), (Q1.qq, .inl (cI, (8 * Q1.C), .inl Q1.qf)), (Q1.qe, .inl (cL, (3 * Q1.C), .inr (.inl Q1.ef))), (tv, .inr (12, MF 13 (tw V1))), (V1.au, .inl (cC, V1.U, .inl V1.un))]) [0, 1, 3, 4, 2, 5] (by decide) rfl
          have hTk_V1 := hX_V1.ok hTk_V (by omega)
          have hqb_Q1V1 : Q1.R ≤ Q1.C ∧ Q1.C ≤ 100000 := ⟨hQk_Q1.2.2.1, hQk_Q1.2.1⟩
          have hfit_Q1V1 := hG_Q1V1.fits
          rcases hw with ⟨a9, g9, hv_1, hv_2, hv_3, hv_4, hv_5, hv_6, hv_7, hv_8, hv_9, hv_10⟩ | ⟨hv_1, hv_2⟩
          · have hv_10 : o = o1 := hv_10.symm
            subst hv_10
            have hP : va_P (dC, dI) classes [(mo, .inr (13, MF 30 (rf (rs v Q1 o) j1 b1))), (qx, .inl (cB, NN, .inl f)), (Q1.qq, .inl (cI, (8 * Q1.C), .inl Q1.qf)), (Q1.qe, .inl (cL, (3 * Q1.C), .inr (.inl Q1.ef))), (tv, .inr (12, MF 13 (tw V1))), (V1.au, .inl (cC, V1.U, .inl V1.un))] H := hP
            have hD : va_D A [(mo, .inr (13, MF 30 (rf (rs v Q1 o) j1 b1))), (qx, .inl (cB, NN, .inl f)), (Q1.qq, .inl (cI, (8 * Q1.C), .inl Q1.qf)), (Q1.qe, .inl (cL, (3 * Q1.C), .inr (.inl Q1.ef))), (tv, .inr (12, MF 13 (tw V1))), (V1.au, .inl (cC, V1.U, .inl V1.un))] := hD
            have hv_2 : cmP f n ok (orL f n) (cmL f n) (qyL f n) i = some (j1, g9) := hv_2
            have hv_3 : CMPf O C Y Q1 V1 Q.R Q1.R a9 g9 := hv_3
            have hv_4 : a9 < Q1.R := hv_4
            have hv_5 : alr Q V Q1 V1 0 Q.R := hv_5
            have hv_6 : Q1.R + 8 * i + 6 ≤ Q.R + 8 * j1 := hv_6
            have hv_7 : V1.us + i ≤ V.us + j1 := hv_7
            have hv_8 : j1 ≤ n := hv_8
            have hv_9 : Q.R < Q1.R := hv_9
            subst hv_1
            refine lv_istore_n (lv' := [(3, .int (nI a9)), (1, .int 0), (0, .ref mo)]) hx hb d_Mo_basic_250 rfl hl (by decide) rfl (fun ls hl => ?_)
            refine lv_iload_n hx hb d_Mo_basic_251 rfl (lv_at hl 0 rfl) ?_
            refine lv_if_ge (tgt := 257) hx hb d_Mo_basic_252 (by decide) (fun _ => ?_) (fun h => absurd (nI_pos' (by omega)) h)
            refine lv_aload_n hx hb d_Mo_basic_257 rfl (lv_at hl 2 rfl) ?_
            have hPc := hP.sub (ws' := [(mo, .inr (13, MF 30 (rf (rs v Q1 o) j1 b1))), (qx, .inl (cB, NN, .inl f))]) [0, 1] rfl
            have hDc := hD.sub (ws' := [(mo, .inr (13, MF 30 (rf (rs v Q1 o) j1 b1))), (qx, .inl (cB, NN, .inl f))]) [0, 1] (by decide) rfl
            have hKc := hK.sub (tys' := [(cB, .byte)]) [0] rfl
            have hFc := va_free (wc := [(mo, .inr (13, MF 30 (rf (rs v Q1 o) j1 b1))), (qx, .inl (cB, NN, .inl f))]) hD hS hA [0, 1] rfl
            refine va_callv (va_runV (As := []) (rest := []) ⟨hx, hb, hml, hown, hts⟩ (c_Mo_blanks l dC dI mo H (rf (rs v Q1 o) j1 b1) cB qx NN f n j1 (by omega) (by omega) (by omega) ((rf_ne (by decide) (by decide)).trans ((rs_ne (by decide) (by decide) (by decide) (by decide)).trans h6)) rf_7 ((rf_ne (by decide) (by decide)).trans ((rs_ne (by decide) (by decide) (by decide) (by decide)).trans h8))) (cwV 0 hts (gt_V (own := R_Mo) (C := R_Mo) (i := 184) (y := y_Mo_blanks) i_Mo_blanks w_1229 w_1231 (gt_sel (y := y_Mo_blanks) (n := 30) (by decide +kernel)) w_7) rfl rfl rfl (by decide +kernel) ⟨Nat.le_trans (m := 13) (Nat.le_of_ble_eq_true rfl) (Nat.le_add_right 13 (15 + G)), Nat.le_trans (m := 500) (Nat.le_of_ble_eq_true rfl) (Nat.le_add_right 500 (600 + M))⟩) ⟨mp_blind, va_recv hKc hPc (ci := 13) (q0 := 0) rfl rfl, fun U hU hW => ⟨rfl, hU, by rw [hU]; exact hPc, va_K.moved hW.alike hKc, hDc.weaken (fun _ _ _ _ => trivial)⟩⟩ rfl rfl hl.1 rfl (lv_room (Nat.le_of_ble_eq_true rfl)) d_Mo_basic_258 ⟨hfit_Q1V1.1, hfit_Q1V1.2⟩) hS (fun q _ h => hFc q h) hFc (fun _u t9 H1 locs ht hvm hw hB hz1 hk1 hS => ?_)
            obtain ⟨hP1, hK1, hD1⟩ := hB
            rw [ht] at hP1
            obtain ⟨hP, hD⟩ := va_join (wr := [(Q1.qq, .inl (cI, (8 * Q1.C), .inl Q1.qf)), (Q1.qe, .inl (cL, (3 * Q1.C), .inr (.inl Q1.ef))), (tv, .inr (12, MF 13 (tw V1))), (V1.au, .inl (cC, V1.U, .inl V1.un))]) (w1 := [(mo, .inr (13, MF 30 (va_up (rf (rs v Q1 o) j1 b1) 7 (.int (nI (skipH f n j1)))))), (qx, .inl (cB, NN, .inl f))]) hP hD [0, 1] [2, 3, 4, 5] rfl rfl (by decide) (by decide) hk1 hFc hP1 hD1
            generalize H1 = H at hP hS ⊢
            have hP : va_P (dC, dI) classes [(Q1.qq, .inl (cI, (8 * Q1.C), .inl Q1.qf)), (Q1.qe, .inl (cL, (3 * Q1.C), .inr (.inl Q1.ef))), (tv, .inr (12, MF 13 (tw V1))), (V1.au, .inl (cC, V1.U, .inl V1.un)), (mo, .inr (13, MF 30 (va_up (rf (rs v Q1 o) j1 b1) 7 (.int (nI (skipH f n j1)))))), (qx, .inl (cB, NN, .inl f))] H := hP
            have hD : va_D A [(Q1.qq, .inl (cI, (8 * Q1.C), .inl Q1.qf)), (Q1.qe, .inl (cL, (3 * Q1.C), .inr (.inl Q1.ef))), (tv, .inr (12, MF 13 (tw V1))), (V1.au, .inl (cC, V1.U, .inl V1.un)), (mo, .inr (13, MF 30 (va_up (rf (rs v Q1 o) j1 b1) 7 (.int (nI (skipH f n j1)))))), (qx, .inl (cB, NN, .inl f))] := hD
            have hP := hP.sub (ws' := [(mo, .inr (13, MF 30 (va_up (rf (rs v Q1 o) j1 b1) 7 (.int (nI (skipH f n j1)))))), (qx, .inl (cB, NN, .inl f)), (Q1.qq, .inl (cI, (8 * Q1.C), .inl Q1.qf)), (Q1.qe, .inl (cL, (3 * Q1.C), .inr (.inl Q1.ef))), (tv, .inr (12, MF 13 (tw V1))), (V1.au, .inl (cC, V1.U, .inl V1.un))]) [4, 5, 0, 1, 2, 3] rfl
            have hD := hD.sub (ws' := [(mo, .inr (13, MF 30 (va_up (rf (rs v Q1 o) j1 b1) 7 (.int (nI (skipH f n j1)))))), (qx, .inl (cB, NN, .inl f)), (Q1.qq, .inl (cI, (8 * Q1.C), .inl Q1.qf)), (Q1.qe, .inl (cL, (3 * Q1.C), .inr (.inl Q1.ef))), (tv, .inr (12, MF 13 (tw V1))), (V1.au, .inl (cC, V1.U, .inl V1.un))]) [4, 5, 0, 1, 2, 3] (by decide) rfl
            rw [rf_u7] at hP hD
            have hP : va_P (dC, dI) classes [(mo, .inr (13, MF 30 (rf (rs v Q1 o) (skipH f n j1) b1))), (qx, .inl (cB, NN, .inl f)), (Q1.qq, .inl (cI, (8 * Q1.C), .inl Q1.qf)), (Q1.qe, .inl (cL, (3 * Q1.C), .inr (.inl Q1.ef))), (tv, .inr (12, MF 13 (tw V1))), (V1.au, .inl (cC, V1.U, .inl V1.un))] H := hP
            have hD : va_D A [(mo, .inr (13, MF 30 (rf (rs v Q1 o) (skipH f n j1) b1))), (qx, .inl (cB, NN, .inl f)), (Q1.qq, .inl (cI, (8 * Q1.C), .inl Q1.qf)), (Q1.qe, .inl (cL, (3 * Q1.C), .inr (.inl Q1.ef))), (tv, .inr (12, MF 13 (tw V1))), (V1.au, .inl (cC, V1.U, .inl V1.un))] := hD
            have hsk_261 := skipH_n (f := f) (show j1 ≤ n by omega)
            refine lv_aload_n hx hb d_Mo_basic_261 rfl (lv_at hl 2 rfl) ?_
            refine lv_iload_n hx hb d_Mo_basic_262 rfl (lv_at hl 0 rfl) ?_
            have hPc := hP.sub (ws' := [(mo, .inr (13, MF 30 (rf (rs v Q1 o) (skipH f n j1) b1))), (qx, .inl (cB, NN, .inl f)), (Q1.qq, .inl (cI, (8 * Q1.C), .inl Q1.qf)), (Q1.qe, .inl (cL, (3 * Q1.C), .inr (.inl Q1.ef))), (tv, .inr (12, MF 13 (tw V1))), (V1.au, .inl (cC, V1.U, .inl V1.un))]) [0, 1, 2, 3, 4, 5] rfl
            have hDc := hD.sub (ws' := [(mo, .inr (13, MF 30 (rf (rs v Q1 o) (skipH f n j1) b1))), (qx, .inl (cB, NN, .inl f)), (Q1.qq, .inl (cI, (8 * Q1.C), .inl Q1.qf)), (Q1.qe, .inl (cL, (3 * Q1.C), .inr (.inl Q1.ef))), (tv, .inr (12, MF 13 (tw V1))), (V1.au, .inl (cC, V1.U, .inl V1.un))]) [0, 1, 2, 3, 4, 5] (by decide) rfl
            have hKc := hK.sub (tys' := [(cB, .byte), (cI, .int), (cL, .long), (cC, .char)]) [0, 1, 2, 3] rfl
            have hFc := va_free (wc := [(mo, .inr (13, MF 30 (rf (rs v Q1 o) (skipH f n j1) b1))), (qx, .inl (cB, NN, .inl f)), (Q1.qq, .inl (cI, (8 * Q1.C), .inl Q1.qf)), (Q1.qe, .inl (cL, (3 * Q1.C), .inr (.inl Q1.ef))), (tv, .inr (12, MF 13 (tw V1))), (V1.au, .inl (cC, V1.U, .inl V1.un))]) hD hS hA [0, 1, 2, 3, 4, 5] rfl
            refine w_same (fun hq0 => ?_)
            refine va_calli (va_runV (As := [.int (nI a9)]) (rest := []) ⟨hx, hb, hml, hown, hts⟩ (c_cpr orL cmL qyL O C Y G M hOf hCf hYf l dC dI mo H v cB cI cL cC qx NN f n K tv Q1 V1 o (skipH f n j1) b1 Q.R a9 g9 ok hok ho16 hOR hCM hQY hnN hNN (by omega) h6 h8 h22 hQk_Q1 hTk_V1 (by omega) (by omega) (by omega) hv_3) (cwV 1 hts (gt_V (own := R_Mo) (C := R_Mo) (i := 325) (y := y_Mo_comparison) i_Mo_comparison w_1455 w_1457 (gt_sel (y := y_Mo_comparison) (n := 30) (by decide +kernel)) w_7) rfl rfl rfl (by decide +kernel) ⟨by show 12 + (15 + G) + 1 ≤ 13 + (15 + G); omega, by show 8 + (5 + 11) + (440 + (600 + M)) ≤ 500 + (600 + M); omega⟩) ⟨me_blind, va_recv hKc hPc (ci := 13) (q0 := 0) rfl rfl, fun U hU hW => ⟨rfl, ⟨hU, by rw [hU]; exact hPc, va_K.moved hW.alike hKc, hDc.weaken (fun _ _ _ _ => trivial)⟩, by rw [hU]; exact ME.call hM hS.2.1 hFc hW⟩⟩ rfl rfl hl.1 rfl (lv_room (Nat.le_of_ble_eq_true rfl)) d_Mo_basic_263 ⟨(hG_Q1V1.step (B2 := Q1.R + 8 * (n - (skipH f n j1)) + 1) (C2 := V1.us + (n + 12 - (skipH f n j1))) (by omega) (by omega)).1, (hG_Q1V1.step (B2 := Q1.R + 8 * (n - (skipH f n j1)) + 1) (C2 := V1.us + (n + 12 - (skipH f n j1))) (by omega) (by omega)).2⟩) hS (fun q _ h => hFc q h) hFc (fun r0 ⟨Qc, Vc, jc, bc, oc⟩ t9 H1 locs ht hvm hw hB hz1 hk1 hS => ?_)
            obtain ⟨⟨hP1, hK1, hD1⟩, hz9⟩ := hB
            rw [ht] at hP1
            rw [ht] at hz9
            obtain ⟨⟨hQk_Qc, hGn, hTXs, hR1_Qc, hR2_Qc⟩, hw⟩ := hw
            have hQk_Qc : QOK Qc := hQk_Qc
            obtain ⟨hG_QcVc, hGc, hGs⟩ := hG_Q1V1.tr hGn (by omega) (by omega)
            have hR1_Qc : Q1.R ≤ Qc.R := hR1_Qc
            have hR2_Qc : Qc.R ≤ Q1.R + 8 * (n - (skipH f n j1)) + 1 := hR2_Qc
            obtain ⟨usc, hX_Vc, hln_Vc⟩ := hTXs
            have hX_Vc : TX V1 Vc usc := hX_Vc
            have hXs_Vc := hX_Vc.us
            have hz9 : szk H H1 (cQ Q1 V1 Qc Vc) (sQ Q1 V1 Qc Vc) := hz9
            have hq1 : szk s.heap H1 (cQ Q V Qc Vc) (sQ Q V Qc Vc) := (hq0.trans hz9).mono hGc hGs
            refine w_tight hq1 ?_
            obtain ⟨hP, hD⟩ := va_join (wr := []) (w1 := [(mo, .inr (13, MF 30 (rf (rs v Qc oc) jc bc))), (qx, .inl (cB, NN, .inl f)), (Qc.qq, .inl (cI, (8 * Qc.C), .inl Qc.qf)), (Qc.qe, .inl (cL, (3 * Qc.C), .inr (.inl Qc.ef))), (tv, .inr (12, MF 13 (tw Vc))), (Vc.au, .inl (cC, Vc.U, .inl Vc.un))]) hP hD [0, 1, 2, 3, 4, 5] [] rfl rfl (by decide) (by decide) hk1 hFc hP1 hD1
            generalize H1 = H at hP hS ⊢
            have hP : va_P (dC, dI) classes [(mo, .inr (13, MF 30 (rf (rs v Qc oc) jc bc))), (qx, .inl (cB, NN, .inl f)), (Qc.qq, .inl (cI, (8 * Qc.C), .inl Qc.qf)), (Qc.qe, .inl (cL, (3 * Qc.C), .inr (.inl Qc.ef))), (tv, .inr (12, MF 13 (tw Vc))), (Vc.au, .inl (cC, Vc.U, .inl Vc.un))] H := hP
            have hD : va_D A [(mo, .inr (13, MF 30 (rf (rs v Qc oc) jc bc))), (qx, .inl (cB, NN, .inl f)), (Qc.qq, .inl (cI, (8 * Qc.C), .inl Qc.qf)), (Qc.qe, .inl (cL, (3 * Qc.C), .inr (.inl Qc.ef))), (tv, .inr (12, MF 13 (tw Vc))), (Vc.au, .inl (cC, Vc.U, .inl Vc.un))] := hD
            have hP := hP.sub (ws' := [(mo, .inr (13, MF 30 (rf (rs v Qc oc) jc bc))), (qx, .inl (cB, NN, .inl f)), (tv, .inr (12, MF 13 (tw Vc))), (Qc.qq, .inl (cI, (8 * Qc.C), .inl Qc.qf)), (Qc.qe, .inl (cL, (3 * Qc.C), .inr (.inl Qc.ef))), (Vc.au, .inl (cC, Vc.U, .inl Vc.un))]) [0, 1, 4, 2, 3, 5] rfl
            have hD := hD.sub (ws' := [(mo, .inr (13, MF 30 (rf (rs v Qc oc) jc bc))), (qx, .inl (cB, NN, .inl f)), (tv, .inr (12, MF 13 (tw Vc))), (Qc.qq, .inl (cI, (8 * Qc.C), .inl Qc.qf)), (Qc.qe, .inl (cL, (3 * Qc.C), .inr (.inl Qc.ef))), (Vc.au, .inl (cC, Vc.U, .inl Vc.un))]) [0, 1, 4, 2, 3, 5] (by decide) rfl
            have hP := hP.sub (ws' := [(mo, .inr (13, MF 30 (rf (rs v Qc oc) jc bc))), (qx, .inl (cB, NN, .inl f)), (Qc.qq, .inl (cI, (8 * Qc.C), .inl Qc.qf)), (Qc.qe, .inl (cL, (3 * Qc.C), .inr (.inl Qc.ef))), (tv, .inr (12, MF 13 (tw Vc))), (Vc.au, .inl (cC, Vc.U, .inl Vc.un))]) [0, 1, 3, 4, 2, 5] rfl
            have hD := hD.sub (ws' := [(mo, .inr (13, MF 30 (rf (rs v Qc oc) jc bc))), (qx, .inl (cB, NN, .inl f)), (Qc.qq, .inl (cI, (8 * Qc.C), .inl Qc.qf)), (Qc.qe, .inl (cL, (3 * Qc.C), .inr (.inl Qc.ef))), (tv, .inr (12, MF 13 (tw Vc))), (Vc.au, .inl (cC, Vc.U, .inl Vc.un))]) [0, 1, 3, 4, 2, 5] (by decide) rfl
            have hTk_Vc := hX_Vc.ok hTk_V1 (by omega)
            have hqb_QcVc : Qc.R ≤ Qc.C ∧ Qc.C ≤ 100000 := ⟨hQk_Qc.2.2.1, hQk_Qc.2.1⟩
            have hfit_QcVc := hG_QcVc.fits
            rcases hw with ⟨c9, m8, hu_1, hu_2, hu_3, hu_4, hu_5, hu_6, hu_7, hu_8, hu_9, hu_10, hu_11⟩ | ⟨hu_1, hu_2⟩
            · have hu_11 : o = oc := hu_11.symm
              subst hu_11
              have hP : va_P (dC, dI) classes [(mo, .inr (13, MF 30 (rf (rs v Qc o) jc bc))), (qx, .inl (cB, NN, .inl f)), (Qc.qq, .inl (cI, (8 * Qc.C), .inl Qc.qf)), (Qc.qe, .inl (cL, (3 * Qc.C), .inr (.inl Qc.ef))), (tv, .inr (12, MF 13 (tw Vc))), (Vc.au, .inl (cC, Vc.U, .inl Vc.un))] H := hP
              have hD : va_D A [(mo, .inr (13, MF 30 (rf (rs v Qc o) jc bc))), (qx, .inl (cB, NN, .inl f)), (Qc.qq, .inl (cI, (8 * Qc.C), .inl Qc.qf)), (Qc.qe, .inl (cL, (3 * Qc.C), .inr (.inl Qc.ef))), (tv, .inr (12, MF 13 (tw Vc))), (Vc.au, .inl (cC, Vc.U, .inl Vc.un))] := hD
              have hu_2 : cpP f n (cmP f n ok (orL f n) (cmL f n) (qyL f n)) (g9) (skipH f n j1) = some (jc, m8) := hu_2
              have hu_3 : BASf O C Y Qc Vc Q.R Qc.R c9 m8 := hu_3
              have hu_4 : c9 < Qc.R := hu_4
              have hu_5 : Qc.qf (8 * c9 + 1) = -1 := hu_5
              have hu_6 : alr Q1 V1 Qc Vc 0 Q1.R := hu_6
              have hu_7 : Qc.R + 8 * (skipH f n j1) + 13 ≤ Q1.R + 8 * jc := hu_7
              have hu_8 : Vc.us + (skipH f n j1) ≤ V1.us + jc := hu_8
              have hu_9 : jc ≤ n := hu_9
              have hu_10 : Q1.R < Qc.R := hu_10
              have hExc : alr Q V Qc Vc 0 Q.R := hv_5.tr (hu_6.sub (Nat.le_refl _) (by omega))
              subst hu_1
              have hfin : baP f n ok (orL f n) (cmL f n) (qyL f n) i = some (jc, m8) := by rw [hbp, baB_c1 hn40 hnb (by decide) hv_2]; exact hu_2
              refine w_same (fun hq => ?_)
              refine W.widen (k := kcap Q (Q.R + 8 * (n - i) + 1) + qcap V (V.us + (n + 12 - i))) (n := 22 * kcap Q (Q.R + 8 * (n - i) + 1) + 2 * qcap V (V.us + (n + 12 - i))) hfit_QcVc.1 hfit_QcVc.2 ?_
              have hPo : QPo n i 1 Q V (Qc, Vc, jc, bc, o) := ⟨hQk_Qc, hG_QcVc, ⟨_, (hX_V1.trans hX_Vc), by rw [List.length_append]; omega⟩, by show Q.R ≤ Qc.R; omega, by show Qc.R ≤ Q.R + 8 * (n - i) + 1; omega⟩
              exact W.iret (v := nI c9) hx hb hr (fun t9 ht hW => ⟨⟨nI c9, (Qc, Vc, jc, bc, o), rfl, ⟨hPo, Or.inl ⟨c9, m8, rfl, hfin, hu_3, by show c9 < Qc.R; omega, hu_5, hExc, by show Qc.R + 8 * i + 5 ≤ Q.R + 8 * jc; omega, by show Vc.us + i ≤ V.us + jc; omega, by show jc ≤ n; omega, by show Q.R < Qc.R; omega, rfl⟩⟩, ⟨by rw [ht]; exact hP, va_K.moved hW.alike hK, hD⟩, by rw [ht]; exact hq⟩, hS.F ht⟩) hS.2.2 d_Mo_basic_266
            · have hu_2 : cpP f n (cmP f n ok (orL f n) (cmL f n) (qyL f n)) (g9) (skipH f n j1) = none := hu_2
              subst hu_1
              have hfin : baP f n ok (orL f n) (cmL f n) (qyL f n) i = none := by rw [hbp, baB_c1 hn40 hnb (by decide) hv_2]; exact hu_2
              refine w_same (fun hq => ?_)
              refine W.widen (k := kcap Q (Q.R + 8 * (n - i) + 1) + qcap V (V.us + (n + 12 - i))) (n := 22 * kcap Q (Q.R + 8 * (n - i) + 1) + 2 * qcap V (V.us + (n + 12 - i))) hfit_QcVc.1 hfit_QcVc.2 ?_
              have hPo : QPo n i 1 Q V (Qc, Vc, jc, bc, oc) := ⟨hQk_Qc, hG_QcVc, ⟨_, (hX_V1.trans hX_Vc), by rw [List.length_append]; omega⟩, by show Q.R ≤ Qc.R; omega, by show Qc.R ≤ Q.R + 8 * (n - i) + 1; omega⟩
              exact W.iret (v := -1) hx hb hr (fun t9 ht hW => ⟨⟨-1, (Qc, Vc, jc, bc, oc), rfl, ⟨hPo, Or.inr ⟨rfl, hfin⟩⟩, ⟨by rw [ht]; exact hP, va_K.moved hW.alike hK, hD⟩, by rw [ht]; exact hq⟩, hS.F ht⟩) hS.2.2 d_Mo_basic_266
          · have hv_2 : cmP f n ok (orL f n) (cmL f n) (qyL f n) i = none := hv_2
            subst hv_1
            refine lv_istore_n (lv' := [(3, .int (-1)), (1, .int 0), (0, .ref mo)]) hx hb d_Mo_basic_250 rfl hl (by decide) rfl (fun ls hl => ?_)
            refine lv_iload_n hx hb d_Mo_basic_251 rfl (lv_at hl 0 rfl) ?_
            refine lv_if_ge (tgt := 257) hx hb d_Mo_basic_252 (by decide) (fun h => absurd h (by decide)) (fun _ => ?_)
            refine lv_iconst (v := (-1)) hx hb d_Mo_basic_255 (by decide) ?_
            have hfin : baP f n ok (orL f n) (cmL f n) (qyL f n) i = none := by rw [hbp]; exact baB_c0 hn40 hnb (by decide) hv_2
            refine w_same (fun hq => ?_)
            refine W.widen (k := kcap Q (Q.R + 8 * (n - i) + 1) + qcap V (V.us + (n + 12 - i))) (n := 22 * kcap Q (Q.R + 8 * (n - i) + 1) + 2 * qcap V (V.us + (n + 12 - i))) hfit_Q1V1.1 hfit_Q1V1.2 ?_
            have hPo : QPo n i 1 Q V (Q1, V1, j1, b1, o1) := ⟨hQk_Q1, hG_Q1V1, ⟨_, hX_V1, by omega⟩, by show Q.R ≤ Q1.R; omega, by show Q1.R ≤ Q.R + 8 * (n - i) + 1; omega⟩
            exact W.iret (v := -1) hx hb hr (fun t9 ht hW => ⟨⟨-1, (Q1, V1, j1, b1, o1), rfl, ⟨hPo, Or.inr ⟨rfl, hfin⟩⟩, ⟨by rw [ht]; exact hP, va_K.moved hW.alike hK, hD⟩, by rw [ht]; exact hq⟩, hS.F ht⟩) hS.2.2 d_Mo_basic_256
        · refine lv_aload_n hx hb d_Mo_basic_101 rfl (lv_at hl 1 rfl) ?_
          have hPc := hP.sub (ws' := [(mo, .inr (13, MF 30 (rf (rs v Q o) i br))), (qx, .inl (cB, NN, .inl f))]) [0, 1] rfl
          have hDc := hD.sub (ws' := [(mo, .inr (13, MF 30 (rf (rs v Q o) i br))), (qx, .inl (cB, NN, .inl f))]) [0, 1] (by decide) rfl
          have hKc := hK.sub (tys' := [(cB, .byte)]) [0] rfl
          have hFc := va_free (wc := [(mo, .inr (13, MF 30 (rf (rs v Q o) i br))), (qx, .inl (cB, NN, .inl f))]) hD hS hA [0, 1] rfl
          refine va_calli (va_runV (As := []) (rest := []) ⟨hx, hb, hml, hown, hts⟩ (c_Mo_c l dC dI mo H (rf (rs v Q o) i br) cB qx NN f n i (by omega) (by omega) (by omega) ((rf_ne (by decide) (by decide)).trans ((rs_ne (by decide) (by decide) (by decide) (by decide)).trans h6)) rf_7 ((rf_ne (by decide) (by decide)).trans ((rs_ne (by decide) (by decide) (by decide) (by decide)).trans h8))) (cwV 0 hts (gt_V (own := R_Mo) (C := R_Mo) (i := 147) (y := y_Mo_c) i_Mo_c w_1233 w_1235 (gt_sel (y := y_Mo_c) (n := 30) (by decide +kernel)) w_7) rfl rfl rfl (by decide +kernel) ⟨Nat.le_trans (m := 13) (Nat.le_of_ble_eq_true rfl) (Nat.le_add_right 13 (15 + G)), Nat.le_trans (m := 500) (Nat.le_of_ble_eq_true rfl) (Nat.le_add_right 500 (600 + M))⟩) ⟨mp_blind, va_recv hKc hPc (ci := 13) (q0 := 0) rfl rfl, fun U hU hW => ⟨rfl, hU, by rw [hU]; exact hPc, va_K.moved hW.alike hKc, hDc.weaken (fun _ _ _ _ => trivial)⟩⟩ rfl rfl hl.1 rfl (lv_room (Nat.le_of_ble_eq_true rfl)) d_Mo_basic_102 ⟨hfit_QV.1, hfit_QV.2⟩) hS (fun q _ h => hFc q h) hFc (fun r5 _u t9 H1 locs ht hvm hw hB hz1 hk1 hS => ?_)
          obtain ⟨hP1, hK1, hD1⟩ := hB
          rw [ht] at hP1
          obtain ⟨hP, hD⟩ := va_join (wr := [(Q.qq, .inl (cI, (8 * Q.C), .inl Q.qf)), (Q.qe, .inl (cL, (3 * Q.C), .inr (.inl Q.ef))), (tv, .inr (12, MF 13 (tw V))), (V.au, .inl (cC, V.U, .inl V.un))]) (w1 := [(mo, .inr (13, MF 30 (rf (rs v Q o) i br))), (qx, .inl (cB, NN, .inl f))]) hP hD [0, 1] [2, 3, 4, 5] rfl rfl (by decide) (by decide) hk1 hFc hP1 hD1
          generalize H1 = H at hP hS ⊢
          have hP : va_P (dC, dI) classes [(Q.qq, .inl (cI, (8 * Q.C), .inl Q.qf)), (Q.qe, .inl (cL, (3 * Q.C), .inr (.inl Q.ef))), (tv, .inr (12, MF 13 (tw V))), (V.au, .inl (cC, V.U, .inl V.un)), (mo, .inr (13, MF 30 (rf (rs v Q o) i br))), (qx, .inl (cB, NN, .inl f))] H := hP
          have hD : va_D A [(Q.qq, .inl (cI, (8 * Q.C), .inl Q.qf)), (Q.qe, .inl (cL, (3 * Q.C), .inr (.inl Q.ef))), (tv, .inr (12, MF 13 (tw V))), (V.au, .inl (cC, V.U, .inl V.un)), (mo, .inr (13, MF 30 (rf (rs v Q o) i br))), (qx, .inl (cB, NN, .inl f))] := hD
          have hP := hP.sub (ws' := [(mo, .inr (13, MF 30 (rf (rs v Q o) i br))), (qx, .inl (cB, NN, .inl f)), (Q.qq, .inl (cI, (8 * Q.C), .inl Q.qf)), (Q.qe, .inl (cL, (3 * Q.C), .inr (.inl Q.ef))), (tv, .inr (12, MF 13 (tw V))), (V.au, .inl (cC, V.U, .inl V.un))]) [4, 5, 0, 1, 2, 3] rfl
          have hD := hD.sub (ws' := [(mo, .inr (13, MF 30 (rf (rs v Q o) i br))), (qx, .inl (cB, NN, .inl f)), (Q.qq, .inl (cI, (8 * Q.C), .inl Q.qf)), (Q.qe, .inl (cL, (3 * Q.C), .inr (.inl Q.ef))), (tv, .inr (12, MF 13 (tw V))), (V.au, .inl (cC, V.U, .inl V.un))]) [4, 5, 0, 1, 2, 3] (by decide) rfl
          have h_r5 : r5 = hereV f n i := hw
          refine lv_bipush (v := 36) hx hb d_Mo_basic_105 (by decide) ?_
          refine lv_icmp_ne (tgt := 114) hx hb d_Mo_basic_107 (by decide) (fun h => absurd h (fun q => q (h_r5.trans (h_r4.symm.trans c98)))) (fun _ => ?_)
          refine lv_iconst (v := 1) hx hb d_Mo_basic_110 (by decide) ?_
          refine lv_goto (tgt := 115) hx hb d_Mo_basic_111 (by decide) ?_
          refine lv_istore_n (lv' := [(3, .int 1), (1, .int 0), (0, .ref mo)]) hx hb d_Mo_basic_115 rfl hl (by decide) rfl (fun ls hl => ?_)
          refine lv_aload_n hx hb d_Mo_basic_116 rfl (lv_at hl 2 rfl) ?_
          refine lv_dup hx hb d_Mo_basic_117 rfl ?_
          refine va_get (D := (dC, dI)) (ci := 13) (v := .int (nI i)) (C := R_Mo) (T := F_Mo) (N := 30) hx hb hts in_Mo hown hK hP 0 rfl rfl 7 (by decide) (hts _ w_1096) (fun _ h9 => h9) (MFg (by decide) rf_7) d_Mo_basic_118 ?_
          refine lv_iconst (v := 1) hx hb d_Mo_basic_121 (by decide) ?_
          refine lv_iadd hx hb d_Mo_basic_122 ?_
          have hbeg : begC (hereV f n i) := Or.inr (h_r4.symm.trans c98)
          have hltb : i < n := hbeg.elim (fun h => here_in h (by decide)) (fun h => here_in h (by decide))
          have hrtb : decide (hereV f n i = 36) = true := decide_eq_true (h_r4.symm.trans c98)
          refine W.eq (g2 := F0 m 123 ls [.int (nI (i + 1)), .ref mo]) (by rw [show ((nI i) + 1) = (nI (i + 1)) from nI_1 _]) ?_
          refine va_put (D := (dC, dI)) (ci := 13) (v := .int (nI (i + 1))) (ty := .int) (C := R_Mo) (T := F_Mo) (N := 30) hx hb hts in_Mo t_Mo t_Mo_ok n_Mo hown hK hP hD hS 0 rfl rfl 7 (by decide) (hts _ w_1096) (fun _ h9 => h9) rfl (by decide +kernel) rfl rfl (by rw [MFl]; decide) d_Mo_basic_123 (fun H locs hP hD hS => ?_)
          rw [MFs (n := 30) (k := 7) (by decide)] at hP hD
          have hP : va_P (dC, dI) classes [(mo, .inr (13, MF 30 (va_up (rf (rs v Q o) i br) 7 (.int (nI (i + 1)))))), (qx, .inl (cB, NN, .inl f)), (Q.qq, .inl (cI, (8 * Q.C), .inl Q.qf)), (Q.qe, .inl (cL, (3 * Q.C), .inr (.inl Q.ef))), (tv, .inr (12, MF 13 (tw V))), (V.au, .inl (cC, V.U, .inl V.un))] H := hP
          have hD : va_D A [(mo, .inr (13, MF 30 (va_up (rf (rs v Q o) i br) 7 (.int (nI (i + 1)))))), (qx, .inl (cB, NN, .inl f)), (Q.qq, .inl (cI, (8 * Q.C), .inl Q.qf)), (Q.qe, .inl (cL, (3 * Q.C), .inr (.inl Q.ef))), (tv, .inr (12, MF 13 (tw V))), (V.au, .inl (cC, V.U, .inl V.un))] := hD
          rw [rf_u7] at hP hD
          have hP : va_P (dC, dI) classes [(mo, .inr (13, MF 30 (rf (rs v Q o) (i + 1) br))), (qx, .inl (cB, NN, .inl f)), (Q.qq, .inl (cI, (8 * Q.C), .inl Q.qf)), (Q.qe, .inl (cL, (3 * Q.C), .inr (.inl Q.ef))), (tv, .inr (12, MF 13 (tw V))), (V.au, .inl (cC, V.U, .inl V.un))] H := hP
          have hD : va_D A [(mo, .inr (13, MF 30 (rf (rs v Q o) (i + 1) br))), (qx, .inl (cB, NN, .inl f)), (Q.qq, .inl (cI, (8 * Q.C), .inl Q.qf)), (Q.qe, .inl (cL, (3 * Q.C), .inr (.inl Q.ef))), (tv, .inr (12, MF 13 (tw V))), (V.au, .inl (cC, V.U, .inl V.un))] := hD
          refine lv_aload_n hx hb d_Mo_basic_126 rfl (lv_at hl 2 rfl) ?_
          refine lv_iload_n hx hb d_Mo_basic_127 rfl (lv_at hl 0 rfl) ?_
          refine lv_iconst (v := 0) hx hb d_Mo_basic_128 (by decide) ?_
          have hPc := hP.sub (ws' := [(mo, .inr (13, MF 30 (rf (rs v Q o) (i + 1) br))), (qx, .inl (cB, NN, .inl f)), (Q.qq, .inl (cI, (8 * Q.C), .inl Q.qf)), (Q.qe, .inl (cL, (3 * Q.C), .inr (.inl Q.ef))), (tv, .inr (12, MF 13 (tw V))), (V.au, .inl (cC, V.U, .inl V.un))]) [0, 1, 2, 3, 4, 5] rfl
          have hDc := hD.sub (ws' := [(mo, .inr (13, MF 30 (rf (rs v Q o) (i + 1) br))), (qx, .inl (cB, NN, .inl f)), (Q.qq, .inl (cI, (8 * Q.C), .inl Q.qf)), (Q.qe, .inl (cL, (3 * Q.C), .inr (.inl Q.ef))), (tv, .inr (12, MF 13 (tw V))), (V.au, .inl (cC, V.U, .inl V.un))]) [0, 1, 2, 3, 4, 5] (by decide) rfl
          have hKc := hK.sub (tys' := [(cB, .byte), (cI, .int), (cL, .long), (cC, .char)]) [0, 1, 2, 3] rfl
          have hFc := va_free (wc := [(mo, .inr (13, MF 30 (rf (rs v Q o) (i + 1) br))), (qx, .inl (cB, NN, .inl f)), (Q.qq, .inl (cI, (8 * Q.C), .inl Q.qf)), (Q.qe, .inl (cL, (3 * Q.C), .inr (.inl Q.ef))), (tv, .inr (12, MF 13 (tw V))), (V.au, .inl (cC, V.U, .inl V.un))]) hD hS hA [0, 1, 2, 3, 4, 5] rfl
          refine w_same (fun hq0 => ?_)
          refine va_calli (va_runV (As := [.int 1, .int 0]) (rest := []) ⟨hx, hb, hml, hown, hts⟩ (c_qr0 orL O (15 + G) (600 + M) hOf l dC dI mo H v cB cI cL cC qx NN f n K tv Q V o (i + 1) br true 1 (by decide) ok hok ho16 hOR hnN hNN (by omega) h6 h8 h22 hQk_Q hTk_V (by omega) (by omega)) (cwV 2 hts (gt_V (own := R_Mo) (C := R_Mo) (i := 317) (y := y_Mo_queryRest) i_Mo_queryRest w_1403 w_1405 (gt_sel (y := y_Mo_queryRest) (n := 30) (by decide +kernel)) w_7) rfl rfl rfl (by decide +kernel) ⟨by show 10 + (15 + G) + 1 ≤ 13 + (15 + G); omega, by show 8 + (7 + 11) + (320 + (600 + M)) ≤ 500 + (600 + M); omega⟩) ⟨me_blind, va_recv hKc hPc (ci := 13) (q0 := 0) rfl rfl, fun U hU hW => ⟨rfl, ⟨hU, by rw [hU]; exact hPc, va_K.moved hW.alike hKc, hDc.weaken (fun _ _ _ _ => trivial)⟩, by rw [hU]; exact ME.call hM hS.2.1 hFc hW⟩⟩ rfl rfl hl.1 rfl (lv_room (Nat.le_of_ble_eq_true rfl)) d_Mo_basic_129 ⟨(hG_QV.step (B2 := Q.R + 8 * (n - (i + 1)) + 9) (C2 := V.us + (n + 12 - (i + 1))) (by omega) (by omega)).1, (hG_QV.step (B2 := Q.R + 8 * (n - (i + 1)) + 9) (C2 := V.us + (n + 12 - (i + 1))) (by omega) (by omega)).2⟩) hS (fun q _ h => hFc q h) hFc (fun r0 ⟨Qs, Vs, js, bs, os⟩ t9 H1 locs ht hvm hw hB hz1 hk1 hS => ?_)
          obtain ⟨⟨hP1, hK1, hD1⟩, hz9⟩ := hB
          rw [ht] at hP1
          rw [ht] at hz9
          obtain ⟨⟨hQk_Qs, hGn, hTXs, hR1_Qs, hR2_Qs⟩, hw⟩ := hw
          have hQk_Qs : QOK Qs := hQk_Qs
          obtain ⟨hG_QsVs, hGc, hGs⟩ := hG_QV.tr hGn (by omega) (by omega)
          have hR1_Qs : Q.R ≤ Qs.R := hR1_Qs
          have hR2_Qs : Qs.R ≤ Q.R + 8 * (n - (i + 1)) + 9 := hR2_Qs
          obtain ⟨uss, hX_Vs, hln_Vs⟩ := hTXs
          have hX_Vs : TX V Vs uss := hX_Vs
          have hXs_Vs := hX_Vs.us
          have hz9 : szk H H1 (cQ Q V Qs Vs) (sQ Q V Qs Vs) := hz9
          have hq1 : szk s.heap H1 (cQ Q V Qs Vs) (sQ Q V Qs Vs) := (hq0.trans hz9).mono hGc hGs
          refine w_tight hq1 ?_
          obtain ⟨hP, hD⟩ := va_join (wr := []) (w1 := [(mo, .inr (13, MF 30 (rf (rs v Qs os) js bs))), (qx, .inl (cB, NN, .inl f)), (Qs.qq, .inl (cI, (8 * Qs.C), .inl Qs.qf)), (Qs.qe, .inl (cL, (3 * Qs.C), .inr (.inl Qs.ef))), (tv, .inr (12, MF 13 (tw Vs))), (Vs.au, .inl (cC, Vs.U, .inl Vs.un))]) hP hD [0, 1, 2, 3, 4, 5] [] rfl rfl (by decide) (by decide) hk1 hFc hP1 hD1
          generalize H1 = H at hP hS ⊢
          have hP : va_P (dC, dI) classes [(mo, .inr (13, MF 30 (rf (rs v Qs os) js bs))), (qx, .inl (cB, NN, .inl f)), (Qs.qq, .inl (cI, (8 * Qs.C), .inl Qs.qf)), (Qs.qe, .inl (cL, (3 * Qs.C), .inr (.inl Qs.ef))), (tv, .inr (12, MF 13 (tw Vs))), (Vs.au, .inl (cC, Vs.U, .inl Vs.un))] H := hP
          have hD : va_D A [(mo, .inr (13, MF 30 (rf (rs v Qs os) js bs))), (qx, .inl (cB, NN, .inl f)), (Qs.qq, .inl (cI, (8 * Qs.C), .inl Qs.qf)), (Qs.qe, .inl (cL, (3 * Qs.C), .inr (.inl Qs.ef))), (tv, .inr (12, MF 13 (tw Vs))), (Vs.au, .inl (cC, Vs.U, .inl Vs.un))] := hD
          have hP := hP.sub (ws' := [(mo, .inr (13, MF 30 (rf (rs v Qs os) js bs))), (qx, .inl (cB, NN, .inl f)), (tv, .inr (12, MF 13 (tw Vs))), (Qs.qq, .inl (cI, (8 * Qs.C), .inl Qs.qf)), (Qs.qe, .inl (cL, (3 * Qs.C), .inr (.inl Qs.ef))), (Vs.au, .inl (cC, Vs.U, .inl Vs.un))]) [0, 1, 4, 2, 3, 5] rfl
          have hD := hD.sub (ws' := [(mo, .inr (13, MF 30 (rf (rs v Qs os) js bs))), (qx, .inl (cB, NN, .inl f)), (tv, .inr (12, MF 13 (tw Vs))), (Qs.qq, .inl (cI, (8 * Qs.C), .inl Qs.qf)), (Qs.qe, .inl (cL, (3 * Qs.C), .inr (.inl Qs.ef))), (Vs.au, .inl (cC, Vs.U, .inl Vs.un))]) [0, 1, 4, 2, 3, 5] (by decide) rfl
          have hP := hP.sub (ws' := [(mo, .inr (13, MF 30 (rf (rs v Qs os) js bs))), (qx, .inl (cB, NN, .inl f)), (Qs.qq, .inl (cI, (8 * Qs.C), .inl Qs.qf)), (Qs.qe, .inl (cL, (3 * Qs.C), .inr (.inl Qs.ef))), (tv, .inr (12, MF 13 (tw Vs))), (Vs.au, .inl (cC, Vs.U, .inl Vs.un))]) [0, 1, 3, 4, 2, 5] rfl
          have hD := hD.sub (ws' := [(mo, .inr (13, MF 30 (rf (rs v Qs os) js bs))), (qx, .inl (cB, NN, .inl f)), (Qs.qq, .inl (cI, (8 * Qs.C), .inl Qs.qf)), (Qs.qe, .inl (cL, (3 * Qs.C), .inr (.inl Qs.ef))), (tv, .inr (12, MF 13 (tw Vs))), (Vs.au, .inl (cC, Vs.U, .inl Vs.un))]) [0, 1, 3, 4, 2, 5] (by decide) rfl
          have hTk_Vs := hX_Vs.ok hTk_V (by omega)
          have hqb_QsVs : Qs.R ≤ Qs.C ∧ Qs.C ≤ 100000 := ⟨hQk_Qs.2.2.1, hQk_Qs.2.1⟩
          have hfit_QsVs := hG_QsVs.fits
          rcases hw with ⟨fl, g9, hv_1, hv_2, hv_3, hv_4, hv_5, hv_6, hv_7, hv_8, hv_9, hv_10⟩ | ⟨hv_1, hv_2⟩
          · have hv_10 : o = os := hv_10.symm
            subst hv_10
            have hP : va_P (dC, dI) classes [(mo, .inr (13, MF 30 (rf (rs v Qs o) js bs))), (qx, .inl (cB, NN, .inl f)), (Qs.qq, .inl (cI, (8 * Qs.C), .inl Qs.qf)), (Qs.qe, .inl (cL, (3 * Qs.C), .inr (.inl Qs.ef))), (tv, .inr (12, MF 13 (tw Vs))), (Vs.au, .inl (cC, Vs.U, .inl Vs.un))] H := hP
            have hD : va_D A [(mo, .inr (13, MF 30 (rf (rs v Qs o) js bs))), (qx, .inl (cB, NN, .inl f)), (Qs.qq, .inl (cI, (8 * Qs.C), .inl Qs.qf)), (Qs.qe, .inl (cL, (3 * Qs.C), .inr (.inl Qs.ef))), (tv, .inr (12, MF 13 (tw Vs))), (Vs.au, .inl (cC, Vs.U, .inl Vs.un))] := hD
            have hv_2 : qrP f n ok (orL f n) false (decide (hereV f n i = 36)) (i + 1) = some (js, fl, g9) := by rw [hrtb]; exact hv_2
            have hv_3 : QRYp O Qs Vs Q.R Qs.R Q.R g9 := hv_3
            have hv_4 : alr Q V Qs Vs 0 Q.R := hv_4
            have hv_5 : Qs.qf (8 * Q.R + 3) = (if fl = true then 1 else 0) := hv_5
            have hv_6 : Qs.R + 8 * (i + 1) ≤ Q.R + 8 * js + 1 := hv_6
            have hv_7 : Vs.us + (i + 1) ≤ V.us + js := hv_7
            have hv_8 : js ≤ n := hv_8
            have hv_9 : Q.R < Qs.R := hv_9
            subst hv_1
            refine lv_istore (lv' := [(4, .int (nI Q.R)), (3, .int 1), (1, .int 0), (0, .ref mo)]) hx hb d_Mo_basic_132 hl (by decide) rfl (fun ls hl => ?_)
            refine lv_iload hx hb d_Mo_basic_134 (lv_at hl 0 rfl) ?_
            refine lv_if_ge (tgt := 141) hx hb d_Mo_basic_136 (by decide) (fun _ => ?_) (fun h => absurd (nI_pos' (by omega)) h)
            refine lv_aload_n hx hb d_Mo_basic_141 rfl (lv_at hl 3 rfl) ?_
            refine va_get (D := (dC, dI)) (ci := 13) (v := .int (nI js)) (C := R_Mo) (T := F_Mo) (N := 30) hx hb hts in_Mo hown hK hP 0 rfl rfl 7 (by decide) (hts _ w_1096) (fun _ h9 => h9) (MFg (by decide) rf_7) d_Mo_basic_142 ?_
            refine lv_istore (lv' := [(5, .int (nI js)), (4, .int (nI Q.R)), (3, .int 1), (1, .int 0), (0, .ref mo)]) hx hb d_Mo_basic_145 hl (by decide) rfl (fun ls hl => ?_)
            refine lv_aload_n hx hb d_Mo_basic_147 rfl (lv_at hl 4 rfl) ?_
            have hPc := hP.sub (ws' := [(mo, .inr (13, MF 30 (rf (rs v Qs o) js bs))), (qx, .inl (cB, NN, .inl f))]) [0, 1] rfl
            have hDc := hD.sub (ws' := [(mo, .inr (13, MF 30 (rf (rs v Qs o) js bs))), (qx, .inl (cB, NN, .inl f))]) [0, 1] (by decide) rfl
            have hKc := hK.sub (tys' := [(cB, .byte)]) [0] rfl
            have hFc := va_free (wc := [(mo, .inr (13, MF 30 (rf (rs v Qs o) js bs))), (qx, .inl (cB, NN, .inl f))]) hD hS hA [0, 1] rfl
            refine va_callv (va_runV (As := []) (rest := []) ⟨hx, hb, hml, hown, hts⟩ (c_Mo_blanks l dC dI mo H (rf (rs v Qs o) js bs) cB qx NN f n js (by omega) (by omega) (by omega) ((rf_ne (by decide) (by decide)).trans ((rs_ne (by decide) (by decide) (by decide) (by decide)).trans h6)) rf_7 ((rf_ne (by decide) (by decide)).trans ((rs_ne (by decide) (by decide) (by decide) (by decide)).trans h8))) (cwV 0 hts (gt_V (own := R_Mo) (C := R_Mo) (i := 184) (y := y_Mo_blanks) i_Mo_blanks w_1229 w_1231 (gt_sel (y := y_Mo_blanks) (n := 30) (by decide +kernel)) w_7) rfl rfl rfl (by decide +kernel) ⟨Nat.le_trans (m := 13) (Nat.le_of_ble_eq_true rfl) (Nat.le_add_right 13 (15 + G)), Nat.le_trans (m := 500) (Nat.le_of_ble_eq_true rfl) (Nat.le_add_right 500 (600 + M))⟩) ⟨mp_blind, va_recv hKc hPc (ci := 13) (q0 := 0) rfl rfl, fun U hU hW => ⟨rfl, hU, by rw [hU]; exact hPc, va_K.moved hW.alike hKc, hDc.weaken (fun _ _ _ _ => trivial)⟩⟩ rfl rfl hl.1 rfl (lv_room (Nat.le_of_ble_eq_true rfl)) d_Mo_basic_148 ⟨hfit_QsVs.1, hfit_QsVs.2⟩) hS (fun q _ h => hFc q h) hFc (fun _u t9 H1 locs ht hvm hw hB hz1 hk1 hS => ?_)
            obtain ⟨hP1, hK1, hD1⟩ := hB
            rw [ht] at hP1
            obtain ⟨hP, hD⟩ := va_join (wr := [(Qs.qq, .inl (cI, (8 * Qs.C), .inl Qs.qf)), (Qs.qe, .inl (cL, (3 * Qs.C), .inr (.inl Qs.ef))), (tv, .inr (12, MF 13 (tw Vs))), (Vs.au, .inl (cC, Vs.U, .inl Vs.un))]) (w1 := [(mo, .inr (13, MF 30 (va_up (rf (rs v Qs o) js bs) 7 (.int (nI (skipH f n js)))))), (qx, .inl (cB, NN, .inl f))]) hP hD [0, 1] [2, 3, 4, 5] rfl rfl (by decide) (by decide) hk1 hFc hP1 hD1
            generalize H1 = H at hP hS ⊢
            have hP : va_P (dC, dI) classes [(Qs.qq, .inl (cI, (8 * Qs.C), .inl Qs.qf)), (Qs.qe, .inl (cL, (3 * Qs.C), .inr (.inl Qs.ef))), (tv, .inr (12, MF 13 (tw Vs))), (Vs.au, .inl (cC, Vs.U, .inl Vs.un)), (mo, .inr (13, MF 30 (va_up (rf (rs v Qs o) js bs) 7 (.int (nI (skipH f n js)))))), (qx, .inl (cB, NN, .inl f))] H := hP
            have hD : va_D A [(Qs.qq, .inl (cI, (8 * Qs.C), .inl Qs.qf)), (Qs.qe, .inl (cL, (3 * Qs.C), .inr (.inl Qs.ef))), (tv, .inr (12, MF 13 (tw Vs))), (Vs.au, .inl (cC, Vs.U, .inl Vs.un)), (mo, .inr (13, MF 30 (va_up (rf (rs v Qs o) js bs) 7 (.int (nI (skipH f n js)))))), (qx, .inl (cB, NN, .inl f))] := hD
            have hP := hP.sub (ws' := [(mo, .inr (13, MF 30 (va_up (rf (rs v Qs o) js bs) 7 (.int (nI (skipH f n js)))))), (qx, .inl (cB, NN, .inl f)), (Qs.qq, .inl (cI, (8 * Qs.C), .inl Qs.qf)), (Qs.qe, .inl (cL, (3 * Qs.C), .inr (.inl Qs.ef))), (tv, .inr (12, MF 13 (tw Vs))), (Vs.au, .inl (cC, Vs.U, .inl Vs.un))]) [4, 5, 0, 1, 2, 3] rfl
            have hD := hD.sub (ws' := [(mo, .inr (13, MF 30 (va_up (rf (rs v Qs o) js bs) 7 (.int (nI (skipH f n js)))))), (qx, .inl (cB, NN, .inl f)), (Qs.qq, .inl (cI, (8 * Qs.C), .inl Qs.qf)), (Qs.qe, .inl (cL, (3 * Qs.C), .inr (.inl Qs.ef))), (tv, .inr (12, MF 13 (tw Vs))), (Vs.au, .inl (cC, Vs.U, .inl Vs.un))]) [4, 5, 0, 1, 2, 3] (by decide) rfl
            rw [rf_u7] at hP hD
            have hP : va_P (dC, dI) classes [(mo, .inr (13, MF 30 (rf (rs v Qs o) (skipH f n js) bs))), (qx, .inl (cB, NN, .inl f)), (Qs.qq, .inl (cI, (8 * Qs.C), .inl Qs.qf)), (Qs.qe, .inl (cL, (3 * Qs.C), .inr (.inl Qs.ef))), (tv, .inr (12, MF 13 (tw Vs))), (Vs.au, .inl (cC, Vs.U, .inl Vs.un))] H := hP
            have hD : va_D A [(mo, .inr (13, MF 30 (rf (rs v Qs o) (skipH f n js) bs))), (qx, .inl (cB, NN, .inl f)), (Qs.qq, .inl (cI, (8 * Qs.C), .inl Qs.qf)), (Qs.qe, .inl (cL, (3 * Qs.C), .inr (.inl Qs.ef))), (tv, .inr (12, MF 13 (tw Vs))), (Vs.au, .inl (cC, Vs.U, .inl Vs.un))] := hD
            have hsk_151 := skipH_n (f := f) (show js ≤ n by omega)
            refine lv_iload_n hx hb d_Mo_basic_151 rfl (lv_at hl 3 rfl) ?_
            refine lv_if_ne (tgt := 207) hx hb d_Mo_basic_152 (by decide) (fun h => absurd h (by decide)) (fun _ => ?_)
            refine lv_aload_n hx hb d_Mo_basic_155 rfl (lv_at hl 4 rfl) ?_
            have hPc := hP.sub (ws' := [(mo, .inr (13, MF 30 (rf (rs v Qs o) (skipH f n js) bs))), (qx, .inl (cB, NN, .inl f))]) [0, 1] rfl
            have hDc := hD.sub (ws' := [(mo, .inr (13, MF 30 (rf (rs v Qs o) (skipH f n js) bs))), (qx, .inl (cB, NN, .inl f))]) [0, 1] (by decide) rfl
            have hKc := hK.sub (tys' := [(cB, .byte)]) [0] rfl
            have hFc := va_free (wc := [(mo, .inr (13, MF 30 (rf (rs v Qs o) (skipH f n js) bs))), (qx, .inl (cB, NN, .inl f))]) hD hS hA [0, 1] rfl
            refine va_calli (va_runV (As := []) (rest := []) ⟨hx, hb, hml, hown, hts⟩ (c_Mo_operator l dC dI mo H (rf (rs v Qs o) (skipH f n js) bs) cB qx NN f n (skipH f n js) (by omega) (by omega) (by omega) ((rf_ne (by decide) (by decide)).trans ((rs_ne (by decide) (by decide) (by decide) (by decide)).trans h6)) rf_7 ((rf_ne (by decide) (by decide)).trans ((rs_ne (by decide) (by decide) (by decide) (by decide)).trans h8))) (cwV 0 hts (gt_V (own := R_Mo) (C := R_Mo) (i := 321) (y := y_Mo_operator) i_Mo_operator w_1451 w_1453 (gt_sel (y := y_Mo_operator) (n := 30) (by decide +kernel)) w_7) rfl rfl rfl (by decide +kernel) ⟨Nat.le_trans (m := 13) (Nat.le_of_ble_eq_true rfl) (Nat.le_add_right 13 (15 + G)), Nat.le_trans (m := 500) (Nat.le_of_ble_eq_true rfl) (Nat.le_add_right 500 (600 + M))⟩) ⟨mp_blind, va_recv hKc hPc (ci := 13) (q0 := 0) rfl rfl, fun U hU hW => ⟨rfl, hU, by rw [hU]; exact hPc, va_K.moved hW.alike hKc, hDc.weaken (fun _ _ _ _ => trivial)⟩⟩ rfl rfl hl.1 rfl (lv_room (Nat.le_of_ble_eq_true rfl)) d_Mo_basic_156 ⟨hfit_QsVs.1, hfit_QsVs.2⟩) hS (fun q _ h => hFc q h) hFc (fun t6 _u t9 H1 locs ht hvm hw hB hz1 hk1 hS => ?_)
            obtain ⟨hP1, hK1, hD1⟩ := hB
            rw [ht] at hP1
            obtain ⟨hP, hD⟩ := va_join (wr := [(Qs.qq, .inl (cI, (8 * Qs.C), .inl Qs.qf)), (Qs.qe, .inl (cL, (3 * Qs.C), .inr (.inl Qs.ef))), (tv, .inr (12, MF 13 (tw Vs))), (Vs.au, .inl (cC, Vs.U, .inl Vs.un))]) (w1 := [(mo, .inr (13, MF 30 (rf (rs v Qs o) (skipH f n js) bs))), (qx, .inl (cB, NN, .inl f))]) hP hD [0, 1] [2, 3, 4, 5] rfl rfl (by decide) (by decide) hk1 hFc hP1 hD1
            generalize H1 = H at hP hS ⊢
            have hP : va_P (dC, dI) classes [(Qs.qq, .inl (cI, (8 * Qs.C), .inl Qs.qf)), (Qs.qe, .inl (cL, (3 * Qs.C), .inr (.inl Qs.ef))), (tv, .inr (12, MF 13 (tw Vs))), (Vs.au, .inl (cC, Vs.U, .inl Vs.un)), (mo, .inr (13, MF 30 (rf (rs v Qs o) (skipH f n js) bs))), (qx, .inl (cB, NN, .inl f))] H := hP
            have hD : va_D A [(Qs.qq, .inl (cI, (8 * Qs.C), .inl Qs.qf)), (Qs.qe, .inl (cL, (3 * Qs.C), .inr (.inl Qs.ef))), (tv, .inr (12, MF 13 (tw Vs))), (Vs.au, .inl (cC, Vs.U, .inl Vs.un)), (mo, .inr (13, MF 30 (rf (rs v Qs o) (skipH f n js) bs))), (qx, .inl (cB, NN, .inl f))] := hD
            have hP := hP.sub (ws' := [(mo, .inr (13, MF 30 (rf (rs v Qs o) (skipH f n js) bs))), (qx, .inl (cB, NN, .inl f)), (Qs.qq, .inl (cI, (8 * Qs.C), .inl Qs.qf)), (Qs.qe, .inl (cL, (3 * Qs.C), .inr (.inl Qs.ef))), (tv, .inr (12, MF 13 (tw Vs))), (Vs.au, .inl (cC, Vs.U, .inl Vs.un))]) [4, 5, 0, 1, 2, 3] rfl
            have hD := hD.sub (ws' := [(mo, .inr (13, MF 30 (rf (rs v Qs o) (skipH f n js) bs))), (qx, .inl (cB, NN, .inl f)), (Qs.qq, .inl (cI, (8 * Qs.C), .inl Qs.qf)), (Qs.qe, .inl (cL, (3 * Qs.C), .inr (.inl Qs.ef))), (tv, .inr (12, MF 13 (tw Vs))), (Vs.au, .inl (cC, Vs.U, .inl Vs.un))]) [4, 5, 0, 1, 2, 3] (by decide) rfl
            have h_t6 := op_01 hw
            refine lv_if_eq (tgt := 207) hx hb d_Mo_basic_159 (by decide) (fun c159 => ?_) (fun c159 => ?_)
            · refine lv_aload_n hx hb d_Mo_basic_207 rfl (lv_at hl 4 rfl) ?_
              refine lv_iload hx hb d_Mo_basic_208 (lv_at hl 0 rfl) ?_
              refine va_put (D := (dC, dI)) (ci := 13) (v := .int (nI js)) (ty := .int) (C := R_Mo) (T := F_Mo) (N := 30) hx hb hts in_Mo t_Mo t_Mo_ok n_Mo hown hK hP hD hS 0 rfl rfl 7 (by decide) (hts _ w_1096) (fun _ h9 => h9) rfl (by decide +kernel) rfl rfl (by rw [MFl]; decide) d_Mo_basic_210 (fun H locs hP hD hS => ?_)
              rw [MFs (n := 30) (k := 7) (by decide)] at hP hD
              have hP : va_P (dC, dI) classes [(mo, .inr (13, MF 30 (va_up (rf (rs v Qs o) (skipH f n js) bs) 7 (.int (nI js))))), (qx, .inl (cB, NN, .inl f)), (Qs.qq, .inl (cI, (8 * Qs.C), .inl Qs.qf)), (Qs.qe, .inl (cL, (3 * Qs.C), .inr (.inl Qs.ef))), (tv, .inr (12, MF 13 (tw Vs))), (Vs.au, .inl (cC, Vs.U, .inl Vs.un))] H := hP
              have hD : va_D A [(mo, .inr (13, MF 30 (va_up (rf (rs v Qs o) (skipH f n js) bs) 7 (.int (nI js))))), (qx, .inl (cB, NN, .inl f)), (Qs.qq, .inl (cI, (8 * Qs.C), .inl Qs.qf)), (Qs.qe, .inl (cL, (3 * Qs.C), .inr (.inl Qs.ef))), (tv, .inr (12, MF 13 (tw Vs))), (Vs.au, .inl (cC, Vs.U, .inl Vs.un))] := hD
              rw [rf_u7] at hP hD
              have hP : va_P (dC, dI) classes [(mo, .inr (13, MF 30 (rf (rs v Qs o) js bs))), (qx, .inl (cB, NN, .inl f)), (Qs.qq, .inl (cI, (8 * Qs.C), .inl Qs.qf)), (Qs.qe, .inl (cL, (3 * Qs.C), .inr (.inl Qs.ef))), (tv, .inr (12, MF 13 (tw Vs))), (Vs.au, .inl (cC, Vs.U, .inl Vs.un))] H := hP
              have hD : va_D A [(mo, .inr (13, MF 30 (rf (rs v Qs o) js bs))), (qx, .inl (cB, NN, .inl f)), (Qs.qq, .inl (cI, (8 * Qs.C), .inl Qs.qf)), (Qs.qe, .inl (cL, (3 * Qs.C), .inr (.inl Qs.ef))), (tv, .inr (12, MF 13 (tw Vs))), (Vs.au, .inl (cC, Vs.U, .inl Vs.un))] := hD
              refine lv_aload_n hx hb d_Mo_basic_213 rfl (lv_at hl 4 rfl) ?_
              refine lv_bipush (v := 34) hx hb d_Mo_basic_214 (by decide) ?_
              have hPc := hP.sub (ws' := [(mo, .inr (13, MF 30 (rf (rs v Qs o) js bs))), (Qs.qq, .inl (cI, (8 * Qs.C), .inl Qs.qf)), (Qs.qe, .inl (cL, (3 * Qs.C), .inr (.inl Qs.ef)))]) [0, 2, 3] rfl
              have hDc := hD.sub (ws' := [(mo, .inr (13, MF 30 (rf (rs v Qs o) js bs))), (Qs.qq, .inl (cI, (8 * Qs.C), .inl Qs.qf)), (Qs.qe, .inl (cL, (3 * Qs.C), .inr (.inl Qs.ef)))]) [0, 2, 3] (by decide) rfl
              have hKc := hK.sub (tys' := [(cI, .int), (cL, .long)]) [1, 2] rfl
              have hFc := va_free (wc := [(mo, .inr (13, MF 30 (rf (rs v Qs o) js bs))), (Qs.qq, .inl (cI, (8 * Qs.C), .inl Qs.qf)), (Qs.qe, .inl (cL, (3 * Qs.C), .inr (.inl Qs.ef)))]) hD hS hA [0, 2, 3] rfl
              refine w_same (fun hq0 => ?_)
              refine va_calli (va_runV (As := [.int 34]) (rest := []) ⟨hx, hb, hml, hown, hts⟩ (c_Mo_row l dC dI mo H v cI cL Qs o js bs 34 hQk_Qs) (cwV 1 hts (gt_V (own := R_Mo) (C := R_Mo) (i := 269) (y := y_Mo_row) i_Mo_row w_1407 w_1409 (gt_sel (y := y_Mo_row) (n := 30) (by decide +kernel)) w_7) rfl rfl rfl (by decide +kernel) ⟨Nat.le_trans (m := 13) (Nat.le_of_ble_eq_true rfl) (Nat.le_add_right 13 (15 + G)), Nat.le_trans (m := 500) (Nat.le_of_ble_eq_true rfl) (Nat.le_add_right 500 (600 + M))⟩) ⟨mp_blind, va_recv hKc hPc (ci := 13) (q0 := 0) rfl rfl, fun U hU hW => ⟨rfl, hU, by rw [hU]; exact hPc, va_K.moved hW.alike hKc, hDc.weaken (fun _ _ _ _ => trivial)⟩⟩ rfl rfl hl.1 rfl (lv_room (Nat.le_of_ble_eq_true rfl)) d_Mo_basic_216 ⟨(QAd.fit hG_QsVs hQk_Qs (by omega)).1, (QAd.fit hG_QsVs hQk_Qs (by omega)).2⟩) hS (fun q _ h => hFc q h) hFc (fun r0 Qa t9 H1 locs ht hvm hw hB hz1 hk1 hS => ?_)
              obtain ⟨⟨hP1, hK1, hD1⟩, hz9⟩ := hB
              rw [ht] at hP1
              rw [ht] at hz9
              obtain ⟨hr0, hA_Qa⟩ := hw
              have hA_Qa : QAd Qs Qa 34 := hA_Qa
              obtain ⟨hQk_Qa, hGa, hGb, hGd, hR_Qa⟩ := hA_Qa.gq hQk_Qs (by omega) Vs
              obtain ⟨hG_QaVs, hGc, hGs⟩ := hG_QsVs.tr hGa (show Qs.R + 1 ≤ Q.R + 8 * (n - i) + 1 by omega) (Nat.zero_le _)
              have hGc := Nat.le_trans (Nat.add_le_add_left hGb _) hGc
              have hGs := Nat.le_trans (Nat.add_le_add_left hGd _) hGs
              have hq1 : szk s.heap H1 (cQ Q V Qa Vs) (sQ Q V Qa Vs) := (hq0.trans hz9).mono hGc hGs
              refine w_tight hq1 ?_
              obtain ⟨hP, hD⟩ := va_join (wr := [(qx, .inl (cB, NN, .inl f)), (tv, .inr (12, MF 13 (tw Vs))), (Vs.au, .inl (cC, Vs.U, .inl Vs.un))]) (w1 := [(mo, .inr (13, MF 30 (rf (rs v Qa o) js bs))), (Qa.qq, .inl (cI, (8 * Qa.C), .inl Qa.qf)), (Qa.qe, .inl (cL, (3 * Qa.C), .inr (.inl Qa.ef)))]) hP hD [0, 2, 3] [1, 4, 5] rfl rfl (by decide) (by decide) hk1 hFc hP1 hD1
              generalize H1 = H at hP hS ⊢
              have hP : va_P (dC, dI) classes [(qx, .inl (cB, NN, .inl f)), (tv, .inr (12, MF 13 (tw Vs))), (Vs.au, .inl (cC, Vs.U, .inl Vs.un)), (mo, .inr (13, MF 30 (rf (rs v Qa o) js bs))), (Qa.qq, .inl (cI, (8 * Qa.C), .inl Qa.qf)), (Qa.qe, .inl (cL, (3 * Qa.C), .inr (.inl Qa.ef)))] H := hP
              have hD : va_D A [(qx, .inl (cB, NN, .inl f)), (tv, .inr (12, MF 13 (tw Vs))), (Vs.au, .inl (cC, Vs.U, .inl Vs.un)), (mo, .inr (13, MF 30 (rf (rs v Qa o) js bs))), (Qa.qq, .inl (cI, (8 * Qa.C), .inl Qa.qf)), (Qa.qe, .inl (cL, (3 * Qa.C), .inr (.inl Qa.ef)))] := hD
              have hP := hP.sub (ws' := [(mo, .inr (13, MF 30 (rf (rs v Qa o) js bs))), (qx, .inl (cB, NN, .inl f)), (tv, .inr (12, MF 13 (tw Vs))), (Vs.au, .inl (cC, Vs.U, .inl Vs.un)), (Qa.qq, .inl (cI, (8 * Qa.C), .inl Qa.qf)), (Qa.qe, .inl (cL, (3 * Qa.C), .inr (.inl Qa.ef)))]) [3, 0, 1, 2, 4, 5] rfl
              have hD := hD.sub (ws' := [(mo, .inr (13, MF 30 (rf (rs v Qa o) js bs))), (qx, .inl (cB, NN, .inl f)), (tv, .inr (12, MF 13 (tw Vs))), (Vs.au, .inl (cC, Vs.U, .inl Vs.un)), (Qa.qq, .inl (cI, (8 * Qa.C), .inl Qa.qf)), (Qa.qe, .inl (cL, (3 * Qa.C), .inr (.inl Qa.ef)))]) [3, 0, 1, 2, 4, 5] (by decide) rfl
              have hP := hP.sub (ws' := [(mo, .inr (13, MF 30 (rf (rs v Qa o) js bs))), (qx, .inl (cB, NN, .inl f)), (Qa.qq, .inl (cI, (8 * Qa.C), .inl Qa.qf)), (Qa.qe, .inl (cL, (3 * Qa.C), .inr (.inl Qa.ef))), (tv, .inr (12, MF 13 (tw Vs))), (Vs.au, .inl (cC, Vs.U, .inl Vs.un))]) [0, 1, 4, 5, 2, 3] rfl
              have hD := hD.sub (ws' := [(mo, .inr (13, MF 30 (rf (rs v Qa o) js bs))), (qx, .inl (cB, NN, .inl f)), (Qa.qq, .inl (cI, (8 * Qa.C), .inl Qa.qf)), (Qa.qe, .inl (cL, (3 * Qa.C), .inr (.inl Qa.ef))), (tv, .inr (12, MF 13 (tw Vs))), (Vs.au, .inl (cC, Vs.U, .inl Vs.un))]) [0, 1, 4, 5, 2, 3] (by decide) rfl
              have hr0 : r0 = nI Qs.R := hr0
              subst hr0
              have hqb_QaVs : Qa.R ≤ Qa.C ∧ Qa.C ≤ 100000 := ⟨hQk_Qa.2.2.1, hQk_Qa.2.1⟩
              have hfit_QaVs := hG_QaVs.fits
              have hE_Qa : alr Qs Vs Qa Vs 0 Qs.R := ⟨fun r9 k9 _ h1 h2 => hA_Qa.2.2.1 _ (by omega), ⟨fun r9 k9 _ h1 h2 => hA_Qa.2.2.2.1.2 _ (by omega), Nat.le_refl _, fun _ _ => rfl⟩⟩
              refine lv_istore_n (lv' := [(2, .int (nI Qs.R)), (5, .int (nI js)), (4, .int (nI Q.R)), (3, .int 1), (1, .int 0), (0, .ref mo)]) hx hb d_Mo_basic_219 rfl hl (by decide) rfl (fun ls hl => ?_)
              refine lv_aload_n hx hb d_Mo_basic_220 rfl (lv_at hl 5 rfl) ?_
              refine lv_iload_n hx hb d_Mo_basic_221 rfl (lv_at hl 0 rfl) ?_
              refine lv_iconst (v := 2) hx hb d_Mo_basic_222 (by decide) ?_
              refine lv_iload hx hb d_Mo_basic_223 (lv_at hl 2 rfl) ?_
              refine W.eq (g2 := F0 m 225 ls [.int (nI Q.R), .int (nI 2), .int (nI Qs.R), .ref mo]) rfl ?_
              have hPc := hP.sub (ws' := [(mo, .inr (13, MF 30 (rf (rs v Qa o) js bs))), (Qa.qq, .inl (cI, (8 * Qa.C), .inl Qa.qf))]) [0, 2] rfl
              have hDc := hD.sub (ws' := [(mo, .inr (13, MF 30 (rf (rs v Qa o) js bs))), (Qa.qq, .inl (cI, (8 * Qa.C), .inl Qa.qf))]) [0, 2] (by decide) rfl
              have hKc := hK.sub (tys' := [(cI, .int)]) [1] rfl
              have hFc := va_free (wc := [(mo, .inr (13, MF 30 (rf (rs v Qa o) js bs))), (Qa.qq, .inl (cI, (8 * Qa.C), .inl Qa.qf))]) hD hS hA [0, 2] rfl
              refine va_callv (va_runV (As := [.int (nI Qs.R), .int (nI 2), .int (nI Q.R)]) (rest := []) ⟨hx, hb, hml, hown, hts⟩ (c_Mo_set l dC dI mo H (rf (rs v Qa o) js bs) cI Qa.qq (8 * Qa.C) Qa.qf Qs.R 2 ((nI Q.R)) (by omega) (by omega) ((rf_ne (by decide) (by decide)).trans rs_19)) (cwV 3 hts (gt_V (own := R_Mo) (C := R_Mo) (i := 272) (y := y_Mo_set) i_Mo_set w_1411 w_1413 (gt_sel (y := y_Mo_set) (n := 30) (by decide +kernel)) w_7) rfl rfl rfl (by decide +kernel) ⟨Nat.le_trans (m := 13) (Nat.le_of_ble_eq_true rfl) (Nat.le_add_right 13 (15 + G)), Nat.le_trans (m := 500) (Nat.le_of_ble_eq_true rfl) (Nat.le_add_right 500 (600 + M))⟩) ⟨mp_blind, va_recv hKc hPc (ci := 13) (q0 := 0) rfl rfl, fun U hU hW => ⟨rfl, hU, by rw [hU]; exact hPc, va_K.moved hW.alike hKc, hDc.weaken (fun _ _ _ _ => trivial)⟩⟩ rfl rfl hl.1 rfl (lv_room (Nat.le_of_ble_eq_true rfl)) d_Mo_basic_225 ⟨hfit_QaVs.1, hfit_QaVs.2⟩) hS (fun q _ h => hFc q h) hFc (fun _u t9 H1 locs ht hvm hw hB hz1 hk1 hS => ?_)
              obtain ⟨hP1, hK1, hD1⟩ := hB
              rw [ht] at hP1
              obtain ⟨hP, hD⟩ := va_join (wr := [(qx, .inl (cB, NN, .inl f)), (Qa.qe, .inl (cL, (3 * Qa.C), .inr (.inl Qa.ef))), (tv, .inr (12, MF 13 (tw Vs))), (Vs.au, .inl (cC, Vs.U, .inl Vs.un))]) (w1 := [(mo, .inr (13, MF 30 (rf (rs v Qa o) js bs))), (Qa.qq, .inl (cI, (8 * Qa.C), .inl (upd Qa.qf (8 * Qs.R + 2) ((nI Q.R)))))]) hP hD [0, 2] [1, 3, 4, 5] rfl rfl (by decide) (by decide) hk1 hFc hP1 hD1
              generalize H1 = H at hP hS ⊢
              have hP : va_P (dC, dI) classes [(qx, .inl (cB, NN, .inl f)), (Qa.qe, .inl (cL, (3 * Qa.C), .inr (.inl Qa.ef))), (tv, .inr (12, MF 13 (tw Vs))), (Vs.au, .inl (cC, Vs.U, .inl Vs.un)), (mo, .inr (13, MF 30 (rf (rs v Qa o) js bs))), (Qa.qq, .inl (cI, (8 * Qa.C), .inl (upd Qa.qf (8 * Qs.R + 2) ((nI Q.R)))))] H := hP
              have hD : va_D A [(qx, .inl (cB, NN, .inl f)), (Qa.qe, .inl (cL, (3 * Qa.C), .inr (.inl Qa.ef))), (tv, .inr (12, MF 13 (tw Vs))), (Vs.au, .inl (cC, Vs.U, .inl Vs.un)), (mo, .inr (13, MF 30 (rf (rs v Qa o) js bs))), (Qa.qq, .inl (cI, (8 * Qa.C), .inl (upd Qa.qf (8 * Qs.R + 2) ((nI Q.R)))))] := hD
              have hP := hP.sub (ws' := [(mo, .inr (13, MF 30 (rf (rs v Qa o) js bs))), (qx, .inl (cB, NN, .inl f)), (Qa.qq, .inl (cI, (8 * Qa.C), .inl (upd Qa.qf (8 * Qs.R + 2) ((nI Q.R))))), (Qa.qe, .inl (cL, (3 * Qa.C), .inr (.inl Qa.ef))), (tv, .inr (12, MF 13 (tw Vs))), (Vs.au, .inl (cC, Vs.U, .inl Vs.un))]) [4, 0, 5, 1, 2, 3] rfl
              have hD := hD.sub (ws' := [(mo, .inr (13, MF 30 (rf (rs v Qa o) js bs))), (qx, .inl (cB, NN, .inl f)), (Qa.qq, .inl (cI, (8 * Qa.C), .inl (upd Qa.qf (8 * Qs.R + 2) ((nI Q.R))))), (Qa.qe, .inl (cL, (3 * Qa.C), .inr (.inl Qa.ef))), (tv, .inr (12, MF 13 (tw Vs))), (Vs.au, .inl (cC, Vs.U, .inl Vs.un))]) [4, 0, 5, 1, 2, 3] (by decide) rfl
              obtain ⟨Qb, e_Qb⟩ : ∃ z : QS, z = QS.wf Qa (upd Qa.qf (8 * Qs.R + 2) ((nI Q.R))) := ⟨_, rfl⟩
              have hP : va_P (dC, dI) classes [(mo, .inr (13, MF 30 (rf (rs v Qb o) js bs))), (qx, .inl (cB, NN, .inl f)), (Qb.qq, .inl (cI, (8 * Qb.C), .inl Qb.qf)), (Qb.qe, .inl (cL, (3 * Qb.C), .inr (.inl Qb.ef))), (tv, .inr (12, MF 13 (tw Vs))), (Vs.au, .inl (cC, Vs.U, .inl Vs.un))] H := by subst e_Qb; exact hP
              have hD : va_D A [(mo, .inr (13, MF 30 (rf (rs v Qb o) js bs))), (qx, .inl (cB, NN, .inl f)), (Qb.qq, .inl (cI, (8 * Qb.C), .inl Qb.qf)), (Qb.qe, .inl (cL, (3 * Qb.C), .inr (.inl Qb.ef))), (tv, .inr (12, MF 13 (tw Vs))), (Vs.au, .inl (cC, Vs.U, .inl Vs.un))] := by subst e_Qb; exact hD
              have hf_Qb : Qb.C = Qa.C ∧ Qb.R = Qa.R ∧ Qb.qf = upd Qa.qf (8 * Qs.R + 2) ((nI Q.R)) := by rw [e_Qb]; exact ⟨rfl, rfl, rfl⟩
              have he_Qb : Qb.ef = Qa.ef := by rw [e_Qb]; rfl
              have hQk_Qb : QOK Qb := by rw [e_Qb]; exact hQk_Qa
              have hG_QbVs : GQ (Q.R + 8 * (n - i) + 1) (V.us + (n + 12 - i)) Q V Qb Vs := by unfold GQ at hG_QaVs ⊢; rw [hf_Qb.1]; exact hG_QaVs
              refine w_same (fun hq => ?_)
              refine w_tight (k := cQ Q V Qb Vs) (n := sQ Q V Qb Vs) (by unfold cQ sQ at hq ⊢; rw [hf_Qb.1]; exact hq) ?_
              have hR_Qb := hf_Qb.2.1
              have hqb_QbVs : Qb.R ≤ Qb.C ∧ Qb.C ≤ 100000 := ⟨hQk_Qb.2.2.1, hQk_Qb.2.1⟩
              have hfit_QbVs := hG_QbVs.fits
              have hkb : Qb.qf (8 * Qs.R + 0) = 34 := by rw [hf_Qb.2.2, pk_un (by omega)]; exact hA_Qa.2.2.2.2.1
              have hWb : Wth (QRYp O) Qb Vs Q.R Qb.R Qs.R Q.R g9 := Wth_up (Frm8 (QRYp_fr hOf)) hv_3 (Nat.le_refl _) (by omega) (by omega) ((hE_Qa.sub (Nat.zero_le _) (Nat.le_refl _)).tr (alr.upd hf_Qb.2.2 he_Qb (by decide) (by omega)))
              have hExb : alr Q V Qb Vs 0 Q.R := (hv_4.tr (hE_Qa.sub (Nat.le_refl _) (by omega))).tr (alr.upd hf_Qb.2.2 he_Qb (by decide) (by omega))
              have hT : TSTp O Qb Vs Q.R Qb.R Qs.R (tstC g9) := ⟨by omega, by omega, hkb, Q.R, g9, by rw [hf_Qb.2.2]; exact pk_us, hWb, rfl⟩
              have hfin : baP f n ok (orL f n) (cmL f n) (qyL f n) i = some (js, tstC g9) := by rw [hbp]; exact baB_q1 hn40 hbeg hv_2 (fun h => h_t6.2 c159 h.2)
              refine lv_goto (tgt := 267) hx hb d_Mo_basic_228 (by decide) ?_
              refine lv_iload_n hx hb d_Mo_basic_267 rfl (lv_at hl 4 rfl) ?_
              refine lv_if_ne (tgt := 277) hx hb d_Mo_basic_268 (by decide) (fun h => absurd h (by decide)) (fun _ => ?_)
              refine lv_aload_n hx hb d_Mo_basic_271 rfl (lv_at hl 5 rfl) ?_
              refine lv_iload_n hx hb d_Mo_basic_272 rfl (lv_at hl 0 rfl) ?_
              have hPc := hP.sub (ws' := [(mo, .inr (13, MF 30 (rf (rs v Qb o) js bs))), (qx, .inl (cB, NN, .inl f)), (Qb.qq, .inl (cI, (8 * Qb.C), .inl Qb.qf)), (Qb.qe, .inl (cL, (3 * Qb.C), .inr (.inl Qb.ef))), (tv, .inr (12, MF 13 (tw Vs))), (Vs.au, .inl (cC, Vs.U, .inl Vs.un))]) [0, 1, 2, 3, 4, 5] rfl
              have hDc := hD.sub (ws' := [(mo, .inr (13, MF 30 (rf (rs v Qb o) js bs))), (qx, .inl (cB, NN, .inl f)), (Qb.qq, .inl (cI, (8 * Qb.C), .inl Qb.qf)), (Qb.qe, .inl (cL, (3 * Qb.C), .inr (.inl Qb.ef))), (tv, .inr (12, MF 13 (tw Vs))), (Vs.au, .inl (cC, Vs.U, .inl Vs.un))]) [0, 1, 2, 3, 4, 5] (by decide) rfl
              have hKc := hK.sub (tys' := [(cB, .byte), (cI, .int), (cL, .long), (cC, .char)]) [0, 1, 2, 3] rfl
              have hFc := va_free (wc := [(mo, .inr (13, MF 30 (rf (rs v Qb o) js bs))), (qx, .inl (cB, NN, .inl f)), (Qb.qq, .inl (cI, (8 * Qb.C), .inl Qb.qf)), (Qb.qe, .inl (cL, (3 * Qb.C), .inr (.inl Qb.ef))), (tv, .inr (12, MF 13 (tw Vs))), (Vs.au, .inl (cC, Vs.U, .inl Vs.un))]) hD hS hA [0, 1, 2, 3, 4, 5] rfl
              refine w_same (fun hq0 => ?_)
              refine va_calli (va_runV (As := [.int (nI Qs.R)]) (rest := []) ⟨hx, hb, hml, hown, hts⟩ (c_Mo_wrap l dC dI mo H v cB cI cL cC qx NN f n K tv Qb Vs o js bs Qs.R hnN hNN (by omega) h6 h8 h22 hQk_Qb hTk_Vs (by omega) (by omega)) (cwV 1 hts (gt_V (own := R_Mo) (C := R_Mo) (i := 331) (y := y_Mo_wrap) i_Mo_wrap w_1472 w_1474 (gt_sel (y := y_Mo_wrap) (n := 30) (by decide +kernel)) w_7) rfl rfl rfl (by decide +kernel) ⟨Nat.le_trans (m := 13) (Nat.le_of_ble_eq_true rfl) (Nat.le_add_right 13 (15 + G)), Nat.le_trans (m := 500) (Nat.le_of_ble_eq_true rfl) (Nat.le_add_right 500 (600 + M))⟩) ⟨me_blind, va_recv hKc hPc (ci := 13) (q0 := 0) rfl rfl, fun U hU hW => ⟨rfl, ⟨hU, by rw [hU]; exact hPc, va_K.moved hW.alike hKc, hDc.weaken (fun _ _ _ _ => trivial)⟩, by rw [hU]; exact ME.call hM hS.2.1 hFc hW⟩⟩ rfl rfl hl.1 rfl (lv_room (Nat.le_of_ble_eq_true rfl)) d_Mo_basic_273 ⟨(hG_QbVs.step (B2 := Qb.R + 8 * (n - js) + 1) (C2 := Vs.us + (n + 12 - js)) (by omega) (by omega)).1, (hG_QbVs.step (B2 := Qb.R + 8 * (n - js) + 1) (C2 := Vs.us + (n + 12 - js)) (by omega) (by omega)).2⟩) hS (fun q _ h => hFc q h) hFc (fun r0 Qw t9 H1 locs ht hvm hw hB hz1 hk1 hS => ?_)
              obtain ⟨⟨hP1, hK1, hD1⟩, hz9⟩ := hB
              rw [ht] at hP1
              rw [ht] at hz9
              obtain ⟨hr0, hQk_Qw, hGn, hR_Qw, hE_Qw, hk_w, hl_w, hf_w⟩ := hw
              have hQk_Qw : QOK Qw := hQk_Qw
              have hR_Qw : Qw.R = Qb.R + 1 := hR_Qw
              obtain ⟨hG_QwVs, hGc, hGs⟩ := hG_QbVs.tr hGn (by omega) (by omega)
              have hz9 : szk H H1 (cQ Qb Vs Qw Vs) (sQ Qb Vs Qw Vs) := hz9
              have hq1 : szk s.heap H1 (cQ Q V Qw Vs) (sQ Q V Qw Vs) := (hq0.trans hz9).mono hGc hGs
              refine w_tight hq1 ?_
              obtain ⟨hP, hD⟩ := va_join (wr := []) (w1 := [(mo, .inr (13, MF 30 (rf (rs v Qw o) js bs))), (qx, .inl (cB, NN, .inl f)), (Qw.qq, .inl (cI, (8 * Qw.C), .inl Qw.qf)), (Qw.qe, .inl (cL, (3 * Qw.C), .inr (.inl Qw.ef))), (tv, .inr (12, MF 13 (tw Vs))), (Vs.au, .inl (cC, Vs.U, .inl Vs.un))]) hP hD [0, 1, 2, 3, 4, 5] [] rfl rfl (by decide) (by decide) hk1 hFc hP1 hD1
              generalize H1 = H at hP hS ⊢
              have hP : va_P (dC, dI) classes [(mo, .inr (13, MF 30 (rf (rs v Qw o) js bs))), (qx, .inl (cB, NN, .inl f)), (Qw.qq, .inl (cI, (8 * Qw.C), .inl Qw.qf)), (Qw.qe, .inl (cL, (3 * Qw.C), .inr (.inl Qw.ef))), (tv, .inr (12, MF 13 (tw Vs))), (Vs.au, .inl (cC, Vs.U, .inl Vs.un))] H := hP
              have hD : va_D A [(mo, .inr (13, MF 30 (rf (rs v Qw o) js bs))), (qx, .inl (cB, NN, .inl f)), (Qw.qq, .inl (cI, (8 * Qw.C), .inl Qw.qf)), (Qw.qe, .inl (cL, (3 * Qw.C), .inr (.inl Qw.ef))), (tv, .inr (12, MF 13 (tw Vs))), (Vs.au, .inl (cC, Vs.U, .inl Vs.un))] := hD
              have hP := hP.sub (ws' := [(mo, .inr (13, MF 30 (rf (rs v Qw o) js bs))), (qx, .inl (cB, NN, .inl f)), (tv, .inr (12, MF 13 (tw Vs))), (Vs.au, .inl (cC, Vs.U, .inl Vs.un)), (Qw.qq, .inl (cI, (8 * Qw.C), .inl Qw.qf)), (Qw.qe, .inl (cL, (3 * Qw.C), .inr (.inl Qw.ef)))]) [0, 1, 4, 5, 2, 3] rfl
              have hD := hD.sub (ws' := [(mo, .inr (13, MF 30 (rf (rs v Qw o) js bs))), (qx, .inl (cB, NN, .inl f)), (tv, .inr (12, MF 13 (tw Vs))), (Vs.au, .inl (cC, Vs.U, .inl Vs.un)), (Qw.qq, .inl (cI, (8 * Qw.C), .inl Qw.qf)), (Qw.qe, .inl (cL, (3 * Qw.C), .inr (.inl Qw.ef)))]) [0, 1, 4, 5, 2, 3] (by decide) rfl
              have hP := hP.sub (ws' := [(mo, .inr (13, MF 30 (rf (rs v Qw o) js bs))), (qx, .inl (cB, NN, .inl f)), (Qw.qq, .inl (cI, (8 * Qw.C), .inl Qw.qf)), (Qw.qe, .inl (cL, (3 * Qw.C), .inr (.inl Qw.ef))), (tv, .inr (12, MF 13 (tw Vs))), (Vs.au, .inl (cC, Vs.U, .inl Vs.un))]) [0, 1, 4, 5, 2, 3] rfl
              have hD := hD.sub (ws' := [(mo, .inr (13, MF 30 (rf (rs v Qw o) js bs))), (qx, .inl (cB, NN, .inl f)), (Qw.qq, .inl (cI, (8 * Qw.C), .inl Qw.qf)), (Qw.qe, .inl (cL, (3 * Qw.C), .inr (.inl Qw.ef))), (tv, .inr (12, MF 13 (tw Vs))), (Vs.au, .inl (cC, Vs.U, .inl Vs.un))]) [0, 1, 4, 5, 2, 3] (by decide) rfl
              have hr0 : r0 = nI Qb.R := hr0
              subst hr0
              have hqb_QwVs : Qw.R ≤ Qw.C ∧ Qw.C ≤ 100000 := ⟨hQk_Qw.2.2.1, hQk_Qw.2.1⟩
              have hfit_QwVs := hG_QwVs.fits
              have hE_Qw : alr Qb Vs Qw Vs 0 Qb.R := hE_Qw
              have hkw : Qw.qf (8 * Qb.R + 0) = 35 := hk_w
              have hlw : Qw.qf (8 * Qb.R + 1) = -1 := hl_w
              have hfw : Qw.qf (8 * Qb.R + 2) = nI Qs.R := hf_w
              have holdw : alr Qb Vs Qw Vs 0 Qb.R := hE_Qw
              have hWw : Wth (TSTp O) Qw Vs Q.R Qw.R Qb.R Qs.R (tstC g9) := Wth_up (TSTp_fr hOf) hT (Nat.le_refl _) (by omega) (by omega) (holdw.sub (Nat.zero_le _) (Nat.le_refl _))
              have hB : BASf O C Y Qw Vs Q.R Qw.R Qb.R ((tstC g9)) := ⟨by omega, by omega, Or.inr (Or.inr ⟨hkw, Qs.R, (tstC g9), hfw, Or.inr hWw, rfl⟩)⟩
              have hExw : alr Q V Qw Vs 0 Q.R := hExb.tr (holdw.sub (Nat.le_refl _) (by omega))
              refine w_same (fun hq => ?_)
              refine W.widen (k := kcap Q (Q.R + 8 * (n - i) + 1) + qcap V (V.us + (n + 12 - i))) (n := 22 * kcap Q (Q.R + 8 * (n - i) + 1) + 2 * qcap V (V.us + (n + 12 - i))) hfit_QwVs.1 hfit_QwVs.2 ?_
              have hPo : QPo n i 1 Q V (Qw, Vs, js, bs, o) := ⟨hQk_Qw, hG_QwVs, ⟨_, hX_Vs, by omega⟩, by show Q.R ≤ Qw.R; omega, by show Qw.R ≤ Q.R + 8 * (n - i) + 1; omega⟩
              exact W.iret (v := nI Qb.R) hx hb hr (fun t9 ht hW => ⟨⟨nI Qb.R, (Qw, Vs, js, bs, o), rfl, ⟨hPo, Or.inl ⟨Qb.R, (tstC g9), rfl, hfin, hB, by show Qb.R < Qw.R; omega, hlw, hExw, by show Qw.R + 8 * i + 5 ≤ Q.R + 8 * js; omega, by show Vs.us + i ≤ V.us + js; omega, by show js ≤ n; omega, by show Q.R < Qw.R; omega, rfl⟩⟩, ⟨by rw [ht]; exact hP, va_K.moved hW.alike hK, hD⟩, by rw [ht]; exact hq⟩, hS.F ht⟩) hS.2.2 d_Mo_basic_276
            · refine lv_aload_n hx hb d_Mo_basic_162 rfl (lv_at hl 4 rfl) ?_
              refine lv_iload hx hb d_Mo_basic_163 (lv_at hl 1 rfl) ?_
              refine lv_iconst (v := 3) hx hb d_Mo_basic_165 (by decide) ?_
              refine W.eq (g2 := F0 m 166 ls [.int (nI 3), .int (nI Q.R), .ref mo]) rfl ?_
              have hPc := hP.sub (ws' := [(mo, .inr (13, MF 30 (rf (rs v Qs o) (skipH f n js) bs))), (Qs.qq, .inl (cI, (8 * Qs.C), .inl Qs.qf))]) [0, 2] rfl
              have hDc := hD.sub (ws' := [(mo, .inr (13, MF 30 (rf (rs v Qs o) (skipH f n js) bs))), (Qs.qq, .inl (cI, (8 * Qs.C), .inl Qs.qf))]) [0, 2] (by decide) rfl
              have hKc := hK.sub (tys' := [(cI, .int)]) [1] rfl
              have hFc := va_free (wc := [(mo, .inr (13, MF 30 (rf (rs v Qs o) (skipH f n js) bs))), (Qs.qq, .inl (cI, (8 * Qs.C), .inl Qs.qf))]) hD hS hA [0, 2] rfl
              refine va_calli (va_runV (As := [.int (nI Q.R), .int (nI 3)]) (rest := []) ⟨hx, hb, hml, hown, hts⟩ (c_Mo_field l dC dI mo H (rf (rs v Qs o) (skipH f n js) bs) cI Qs.qq (8 * Qs.C) Qs.qf Q.R 3 (by omega) (by omega) ((rf_ne (by decide) (by decide)).trans rs_19)) (cwV 2 hts (gt_V (own := R_Mo) (C := R_Mo) (i := 286) (y := y_Mo_field) i_Mo_field w_1431 w_1433 (gt_sel (y := y_Mo_field) (n := 30) (by decide +kernel)) w_7) rfl rfl rfl (by decide +kernel) ⟨Nat.le_trans (m := 13) (Nat.le_of_ble_eq_true rfl) (Nat.le_add_right 13 (15 + G)), Nat.le_trans (m := 500) (Nat.le_of_ble_eq_true rfl) (Nat.le_add_right 500 (600 + M))⟩) ⟨mp_blind, va_recv hKc hPc (ci := 13) (q0 := 0) rfl rfl, fun U hU hW => ⟨rfl, hU, by rw [hU]; exact hPc, va_K.moved hW.alike hKc, hDc.weaken (fun _ _ _ _ => trivial)⟩⟩ rfl rfl hl.1 rfl (lv_room (Nat.le_of_ble_eq_true rfl)) d_Mo_basic_166 ⟨hfit_QsVs.1, hfit_QsVs.2⟩) hS (fun q _ h => hFc q h) hFc (fun r7 _u t9 H1 locs ht hvm hw hB hz1 hk1 hS => ?_)
              obtain ⟨hP1, hK1, hD1⟩ := hB
              rw [ht] at hP1
              obtain ⟨hP, hD⟩ := va_join (wr := [(qx, .inl (cB, NN, .inl f)), (Qs.qe, .inl (cL, (3 * Qs.C), .inr (.inl Qs.ef))), (tv, .inr (12, MF 13 (tw Vs))), (Vs.au, .inl (cC, Vs.U, .inl Vs.un))]) (w1 := [(mo, .inr (13, MF 30 (rf (rs v Qs o) (skipH f n js) bs))), (Qs.qq, .inl (cI, (8 * Qs.C), .inl Qs.qf))]) hP hD [0, 2] [1, 3, 4, 5] rfl rfl (by decide) (by decide) hk1 hFc hP1 hD1
              generalize H1 = H at hP hS ⊢
              have hP : va_P (dC, dI) classes [(qx, .inl (cB, NN, .inl f)), (Qs.qe, .inl (cL, (3 * Qs.C), .inr (.inl Qs.ef))), (tv, .inr (12, MF 13 (tw Vs))), (Vs.au, .inl (cC, Vs.U, .inl Vs.un)), (mo, .inr (13, MF 30 (rf (rs v Qs o) (skipH f n js) bs))), (Qs.qq, .inl (cI, (8 * Qs.C), .inl Qs.qf))] H := hP
              have hD : va_D A [(qx, .inl (cB, NN, .inl f)), (Qs.qe, .inl (cL, (3 * Qs.C), .inr (.inl Qs.ef))), (tv, .inr (12, MF 13 (tw Vs))), (Vs.au, .inl (cC, Vs.U, .inl Vs.un)), (mo, .inr (13, MF 30 (rf (rs v Qs o) (skipH f n js) bs))), (Qs.qq, .inl (cI, (8 * Qs.C), .inl Qs.qf))] := hD
              have hP := hP.sub (ws' := [(mo, .inr (13, MF 30 (rf (rs v Qs o) (skipH f n js) bs))), (qx, .inl (cB, NN, .inl f)), (Qs.qq, .inl (cI, (8 * Qs.C), .inl Qs.qf)), (Qs.qe, .inl (cL, (3 * Qs.C), .inr (.inl Qs.ef))), (tv, .inr (12, MF 13 (tw Vs))), (Vs.au, .inl (cC, Vs.U, .inl Vs.un))]) [4, 0, 5, 1, 2, 3] rfl
              have hD := hD.sub (ws' := [(mo, .inr (13, MF 30 (rf (rs v Qs o) (skipH f n js) bs))), (qx, .inl (cB, NN, .inl f)), (Qs.qq, .inl (cI, (8 * Qs.C), .inl Qs.qf)), (Qs.qe, .inl (cL, (3 * Qs.C), .inr (.inl Qs.ef))), (tv, .inr (12, MF 13 (tw Vs))), (Vs.au, .inl (cC, Vs.U, .inl Vs.un))]) [4, 0, 5, 1, 2, 3] (by decide) rfl
              have h_r7 : r7 = Qs.qf (8 * Q.R + 3) := hw
              have h_f7 := fl_01 (h_r7.trans hv_5)
              refine lv_if_ne (tgt := 183) hx hb d_Mo_basic_169 (by decide) (fun c169 => ?_) (fun c169 => ?_)
              · refine lv_aload_n hx hb d_Mo_basic_183 rfl (lv_at hl 4 rfl) ?_
                refine lv_bipush (v := 45) hx hb d_Mo_basic_184 (by decide) ?_
                have hPc := hP.sub (ws' := [(mo, .inr (13, MF 30 (rf (rs v Qs o) (skipH f n js) bs))), (Qs.qq, .inl (cI, (8 * Qs.C), .inl Qs.qf)), (Qs.qe, .inl (cL, (3 * Qs.C), .inr (.inl Qs.ef)))]) [0, 2, 3] rfl
                have hDc := hD.sub (ws' := [(mo, .inr (13, MF 30 (rf (rs v Qs o) (skipH f n js) bs))), (Qs.qq, .inl (cI, (8 * Qs.C), .inl Qs.qf)), (Qs.qe, .inl (cL, (3 * Qs.C), .inr (.inl Qs.ef)))]) [0, 2, 3] (by decide) rfl
                have hKc := hK.sub (tys' := [(cI, .int), (cL, .long)]) [1, 2] rfl
                have hFc := va_free (wc := [(mo, .inr (13, MF 30 (rf (rs v Qs o) (skipH f n js) bs))), (Qs.qq, .inl (cI, (8 * Qs.C), .inl Qs.qf)), (Qs.qe, .inl (cL, (3 * Qs.C), .inr (.inl Qs.ef)))]) hD hS hA [0, 2, 3] rfl
                refine w_same (fun hq0 => ?_)
                refine va_calli (va_runV (As := [.int 45]) (rest := []) ⟨hx, hb, hml, hown, hts⟩ (c_Mo_row l dC dI mo H v cI cL Qs o (skipH f n js) bs 45 hQk_Qs) (cwV 1 hts (gt_V (own := R_Mo) (C := R_Mo) (i := 269) (y := y_Mo_row) i_Mo_row w_1407 w_1409 (gt_sel (y := y_Mo_row) (n := 30) (by decide +kernel)) w_7) rfl rfl rfl (by decide +kernel) ⟨Nat.le_trans (m := 13) (Nat.le_of_ble_eq_true rfl) (Nat.le_add_right 13 (15 + G)), Nat.le_trans (m := 500) (Nat.le_of_ble_eq_true rfl) (Nat.le_add_right 500 (600 + M))⟩) ⟨mp_blind, va_recv hKc hPc (ci := 13) (q0 := 0) rfl rfl, fun U hU hW => ⟨rfl, hU, by rw [hU]; exact hPc, va_K.moved hW.alike hKc, hDc.weaken (fun _ _ _ _ => trivial)⟩⟩ rfl rfl hl.1 rfl (lv_room (Nat.le_of_ble_eq_true rfl)) d_Mo_basic_186 ⟨(QAd.fit hG_QsVs hQk_Qs (by omega)).1, (QAd.fit hG_QsVs hQk_Qs (by omega)).2⟩) hS (fun q _ h => hFc q h) hFc (fun r0 Qa t9 H1 locs ht hvm hw hB hz1 hk1 hS => ?_)
                obtain ⟨⟨hP1, hK1, hD1⟩, hz9⟩ := hB
                rw [ht] at hP1
                rw [ht] at hz9
                obtain ⟨hr0, hA_Qa⟩ := hw
                have hA_Qa : QAd Qs Qa 45 := hA_Qa
                obtain ⟨hQk_Qa, hGa, hGb, hGd, hR_Qa⟩ := hA_Qa.gq hQk_Qs (by omega) Vs
                obtain ⟨hG_QaVs, hGc, hGs⟩ := hG_QsVs.tr hGa (show Qs.R + 1 ≤ Q.R + 8 * (n - i) + 1 by omega) (Nat.zero_le _)
                have hGc := Nat.le_trans (Nat.add_le_add_left hGb _) hGc
                have hGs := Nat.le_trans (Nat.add_le_add_left hGd _) hGs
                have hq1 : szk s.heap H1 (cQ Q V Qa Vs) (sQ Q V Qa Vs) := (hq0.trans hz9).mono hGc hGs
                refine w_tight hq1 ?_
                obtain ⟨hP, hD⟩ := va_join (wr := [(qx, .inl (cB, NN, .inl f)), (tv, .inr (12, MF 13 (tw Vs))), (Vs.au, .inl (cC, Vs.U, .inl Vs.un))]) (w1 := [(mo, .inr (13, MF 30 (rf (rs v Qa o) (skipH f n js) bs))), (Qa.qq, .inl (cI, (8 * Qa.C), .inl Qa.qf)), (Qa.qe, .inl (cL, (3 * Qa.C), .inr (.inl Qa.ef)))]) hP hD [0, 2, 3] [1, 4, 5] rfl rfl (by decide) (by decide) hk1 hFc hP1 hD1
                generalize H1 = H at hP hS ⊢
                have hP : va_P (dC, dI) classes [(qx, .inl (cB, NN, .inl f)), (tv, .inr (12, MF 13 (tw Vs))), (Vs.au, .inl (cC, Vs.U, .inl Vs.un)), (mo, .inr (13, MF 30 (rf (rs v Qa o) (skipH f n js) bs))), (Qa.qq, .inl (cI, (8 * Qa.C), .inl Qa.qf)), (Qa.qe, .inl (cL, (3 * Qa.C), .inr (.inl Qa.ef)))] H := hP
                have hD : va_D A [(qx, .inl (cB, NN, .inl f)), (tv, .inr (12, MF 13 (tw Vs))), (Vs.au, .inl (cC, Vs.U, .inl Vs.un)), (mo, .inr (13, MF 30 (rf (rs v Qa o) (skipH f n js) bs))), (Qa.qq, .inl (cI, (8 * Qa.C), .inl Qa.qf)), (Qa.qe, .inl (cL, (3 * Qa.C), .inr (.inl Qa.ef)))] := hD
                have hP := hP.sub (ws' := [(mo, .inr (13, MF 30 (rf (rs v Qa o) (skipH f n js) bs))), (qx, .inl (cB, NN, .inl f)), (tv, .inr (12, MF 13 (tw Vs))), (Vs.au, .inl (cC, Vs.U, .inl Vs.un)), (Qa.qq, .inl (cI, (8 * Qa.C), .inl Qa.qf)), (Qa.qe, .inl (cL, (3 * Qa.C), .inr (.inl Qa.ef)))]) [3, 0, 1, 2, 4, 5] rfl
                have hD := hD.sub (ws' := [(mo, .inr (13, MF 30 (rf (rs v Qa o) (skipH f n js) bs))), (qx, .inl (cB, NN, .inl f)), (tv, .inr (12, MF 13 (tw Vs))), (Vs.au, .inl (cC, Vs.U, .inl Vs.un)), (Qa.qq, .inl (cI, (8 * Qa.C), .inl Qa.qf)), (Qa.qe, .inl (cL, (3 * Qa.C), .inr (.inl Qa.ef)))]) [3, 0, 1, 2, 4, 5] (by decide) rfl
                have hP := hP.sub (ws' := [(mo, .inr (13, MF 30 (rf (rs v Qa o) (skipH f n js) bs))), (qx, .inl (cB, NN, .inl f)), (Qa.qq, .inl (cI, (8 * Qa.C), .inl Qa.qf)), (Qa.qe, .inl (cL, (3 * Qa.C), .inr (.inl Qa.ef))), (tv, .inr (12, MF 13 (tw Vs))), (Vs.au, .inl (cC, Vs.U, .inl Vs.un))]) [0, 1, 4, 5, 2, 3] rfl
                have hD := hD.sub (ws' := [(mo, .inr (13, MF 30 (rf (rs v Qa o) (skipH f n js) bs))), (qx, .inl (cB, NN, .inl f)), (Qa.qq, .inl (cI, (8 * Qa.C), .inl Qa.qf)), (Qa.qe, .inl (cL, (3 * Qa.C), .inr (.inl Qa.ef))), (tv, .inr (12, MF 13 (tw Vs))), (Vs.au, .inl (cC, Vs.U, .inl Vs.un))]) [0, 1, 4, 5, 2, 3] (by decide) rfl
                have hr0 : r0 = nI Qs.R := hr0
                subst hr0
                have hqb_QaVs : Qa.R ≤ Qa.C ∧ Qa.C ≤ 100000 := ⟨hQk_Qa.2.2.1, hQk_Qa.2.1⟩
                have hfit_QaVs := hG_QaVs.fits
                have hE_Qa : alr Qs Vs Qa Vs 0 Qs.R := ⟨fun r9 k9 _ h1 h2 => hA_Qa.2.2.1 _ (by omega), ⟨fun r9 k9 _ h1 h2 => hA_Qa.2.2.2.1.2 _ (by omega), Nat.le_refl _, fun _ _ => rfl⟩⟩
                refine lv_istore (lv' := [(6, .int (nI Qs.R)), (5, .int (nI js)), (4, .int (nI Q.R)), (3, .int 1), (1, .int 0), (0, .ref mo)]) hx hb d_Mo_basic_189 hl (by decide) rfl (fun ls hl => ?_)
                refine lv_aload_n hx hb d_Mo_basic_191 rfl (lv_at hl 5 rfl) ?_
                refine lv_iload hx hb d_Mo_basic_192 (lv_at hl 0 rfl) ?_
                refine lv_iconst (v := 2) hx hb d_Mo_basic_194 (by decide) ?_
                refine lv_iload hx hb d_Mo_basic_195 (lv_at hl 2 rfl) ?_
                refine W.eq (g2 := F0 m 197 ls [.int (nI Q.R), .int (nI 2), .int (nI Qs.R), .ref mo]) rfl ?_
                have hPc := hP.sub (ws' := [(mo, .inr (13, MF 30 (rf (rs v Qa o) (skipH f n js) bs))), (Qa.qq, .inl (cI, (8 * Qa.C), .inl Qa.qf))]) [0, 2] rfl
                have hDc := hD.sub (ws' := [(mo, .inr (13, MF 30 (rf (rs v Qa o) (skipH f n js) bs))), (Qa.qq, .inl (cI, (8 * Qa.C), .inl Qa.qf))]) [0, 2] (by decide) rfl
                have hKc := hK.sub (tys' := [(cI, .int)]) [1] rfl
                have hFc := va_free (wc := [(mo, .inr (13, MF 30 (rf (rs v Qa o) (skipH f n js) bs))), (Qa.qq, .inl (cI, (8 * Qa.C), .inl Qa.qf))]) hD hS hA [0, 2] rfl
                refine va_callv (va_runV (As := [.int (nI Qs.R), .int (nI 2), .int (nI Q.R)]) (rest := []) ⟨hx, hb, hml, hown, hts⟩ (c_Mo_set l dC dI mo H (rf (rs v Qa o) (skipH f n js) bs) cI Qa.qq (8 * Qa.C) Qa.qf Qs.R 2 ((nI Q.R)) (by omega) (by omega) ((rf_ne (by decide) (by decide)).trans rs_19)) (cwV 3 hts (gt_V (own := R_Mo) (C := R_Mo) (i := 272) (y := y_Mo_set) i_Mo_set w_1411 w_1413 (gt_sel (y := y_Mo_set) (n := 30) (by decide +kernel)) w_7) rfl rfl rfl (by decide +kernel) ⟨Nat.le_trans (m := 13) (Nat.le_of_ble_eq_true rfl) (Nat.le_add_right 13 (15 + G)), Nat.le_trans (m := 500) (Nat.le_of_ble_eq_true rfl) (Nat.le_add_right 500 (600 + M))⟩) ⟨mp_blind, va_recv hKc hPc (ci := 13) (q0 := 0) rfl rfl, fun U hU hW => ⟨rfl, hU, by rw [hU]; exact hPc, va_K.moved hW.alike hKc, hDc.weaken (fun _ _ _ _ => trivial)⟩⟩ rfl rfl hl.1 rfl (lv_room (Nat.le_of_ble_eq_true rfl)) d_Mo_basic_197 ⟨hfit_QaVs.1, hfit_QaVs.2⟩) hS (fun q _ h => hFc q h) hFc (fun _u t9 H1 locs ht hvm hw hB hz1 hk1 hS => ?_)
                obtain ⟨hP1, hK1, hD1⟩ := hB
                rw [ht] at hP1
                obtain ⟨hP, hD⟩ := va_join (wr := [(qx, .inl (cB, NN, .inl f)), (Qa.qe, .inl (cL, (3 * Qa.C), .inr (.inl Qa.ef))), (tv, .inr (12, MF 13 (tw Vs))), (Vs.au, .inl (cC, Vs.U, .inl Vs.un))]) (w1 := [(mo, .inr (13, MF 30 (rf (rs v Qa o) (skipH f n js) bs))), (Qa.qq, .inl (cI, (8 * Qa.C), .inl (upd Qa.qf (8 * Qs.R + 2) ((nI Q.R)))))]) hP hD [0, 2] [1, 3, 4, 5] rfl rfl (by decide) (by decide) hk1 hFc hP1 hD1
                generalize H1 = H at hP hS ⊢
                have hP : va_P (dC, dI) classes [(qx, .inl (cB, NN, .inl f)), (Qa.qe, .inl (cL, (3 * Qa.C), .inr (.inl Qa.ef))), (tv, .inr (12, MF 13 (tw Vs))), (Vs.au, .inl (cC, Vs.U, .inl Vs.un)), (mo, .inr (13, MF 30 (rf (rs v Qa o) (skipH f n js) bs))), (Qa.qq, .inl (cI, (8 * Qa.C), .inl (upd Qa.qf (8 * Qs.R + 2) ((nI Q.R)))))] H := hP
                have hD : va_D A [(qx, .inl (cB, NN, .inl f)), (Qa.qe, .inl (cL, (3 * Qa.C), .inr (.inl Qa.ef))), (tv, .inr (12, MF 13 (tw Vs))), (Vs.au, .inl (cC, Vs.U, .inl Vs.un)), (mo, .inr (13, MF 30 (rf (rs v Qa o) (skipH f n js) bs))), (Qa.qq, .inl (cI, (8 * Qa.C), .inl (upd Qa.qf (8 * Qs.R + 2) ((nI Q.R)))))] := hD
                have hP := hP.sub (ws' := [(mo, .inr (13, MF 30 (rf (rs v Qa o) (skipH f n js) bs))), (qx, .inl (cB, NN, .inl f)), (Qa.qq, .inl (cI, (8 * Qa.C), .inl (upd Qa.qf (8 * Qs.R + 2) ((nI Q.R))))), (Qa.qe, .inl (cL, (3 * Qa.C), .inr (.inl Qa.ef))), (tv, .inr (12, MF 13 (tw Vs))), (Vs.au, .inl (cC, Vs.U, .inl Vs.un))]) [4, 0, 5, 1, 2, 3] rfl
                have hD := hD.sub (ws' := [(mo, .inr (13, MF 30 (rf (rs v Qa o) (skipH f n js) bs))), (qx, .inl (cB, NN, .inl f)), (Qa.qq, .inl (cI, (8 * Qa.C), .inl (upd Qa.qf (8 * Qs.R + 2) ((nI Q.R))))), (Qa.qe, .inl (cL, (3 * Qa.C), .inr (.inl Qa.ef))), (tv, .inr (12, MF 13 (tw Vs))), (Vs.au, .inl (cC, Vs.U, .inl Vs.un))]) [4, 0, 5, 1, 2, 3] (by decide) rfl
                obtain ⟨Qb, e_Qb⟩ : ∃ z : QS, z = QS.wf Qa (upd Qa.qf (8 * Qs.R + 2) ((nI Q.R))) := ⟨_, rfl⟩
                have hP : va_P (dC, dI) classes [(mo, .inr (13, MF 30 (rf (rs v Qb o) (skipH f n js) bs))), (qx, .inl (cB, NN, .inl f)), (Qb.qq, .inl (cI, (8 * Qb.C), .inl Qb.qf)), (Qb.qe, .inl (cL, (3 * Qb.C), .inr (.inl Qb.ef))), (tv, .inr (12, MF 13 (tw Vs))), (Vs.au, .inl (cC, Vs.U, .inl Vs.un))] H := by subst e_Qb; exact hP
                have hD : va_D A [(mo, .inr (13, MF 30 (rf (rs v Qb o) (skipH f n js) bs))), (qx, .inl (cB, NN, .inl f)), (Qb.qq, .inl (cI, (8 * Qb.C), .inl Qb.qf)), (Qb.qe, .inl (cL, (3 * Qb.C), .inr (.inl Qb.ef))), (tv, .inr (12, MF 13 (tw Vs))), (Vs.au, .inl (cC, Vs.U, .inl Vs.un))] := by subst e_Qb; exact hD
                have hf_Qb : Qb.C = Qa.C ∧ Qb.R = Qa.R ∧ Qb.qf = upd Qa.qf (8 * Qs.R + 2) ((nI Q.R)) := by rw [e_Qb]; exact ⟨rfl, rfl, rfl⟩
                have he_Qb : Qb.ef = Qa.ef := by rw [e_Qb]; rfl
                have hQk_Qb : QOK Qb := by rw [e_Qb]; exact hQk_Qa
                have hG_QbVs : GQ (Q.R + 8 * (n - i) + 1) (V.us + (n + 12 - i)) Q V Qb Vs := by unfold GQ at hG_QaVs ⊢; rw [hf_Qb.1]; exact hG_QaVs
                refine w_same (fun hq => ?_)
                refine w_tight (k := cQ Q V Qb Vs) (n := sQ Q V Qb Vs) (by unfold cQ sQ at hq ⊢; rw [hf_Qb.1]; exact hq) ?_
                have hR_Qb := hf_Qb.2.1
                have hqb_QbVs : Qb.R ≤ Qb.C ∧ Qb.C ≤ 100000 := ⟨hQk_Qb.2.2.1, hQk_Qb.2.1⟩
                have hfit_QbVs := hG_QbVs.fits
                refine lv_aload_n hx hb d_Mo_basic_200 rfl (lv_at hl 5 rfl) ?_
                refine lv_iload hx hb d_Mo_basic_201 (lv_at hl 0 rfl) ?_
                have hkb : Qb.qf (8 * Qs.R + 0) = 45 := by rw [hf_Qb.2.2, pk_un (by omega)]; exact hA_Qa.2.2.2.2.1
                have hWb : Wth (QRYp O) Qb Vs Q.R Qb.R Qs.R Q.R g9 := Wth_up (Frm8 (QRYp_fr hOf)) hv_3 (Nat.le_refl _) (by omega) (by omega) ((hE_Qa.sub (Nat.zero_le _) (Nat.le_refl _)).tr (alr.upd hf_Qb.2.2 he_Qb (by decide) (by omega)))
                have hExb : alr Q V Qb Vs 0 Q.R := (hv_4.tr (hE_Qa.sub (Nat.le_refl _) (by omega))).tr (alr.upd hf_Qb.2.2 he_Qb (by decide) (by omega))
                have hLb : CMPf O C Y Qb Vs Q.R Qb.R Qs.R (onlO g9) := ⟨by omega, by omega, Or.inr (Or.inr (Or.inr (Or.inr (Or.inr (Or.inl ⟨hkb, Q.R, g9, by rw [hf_Qb.2.2]; exact pk_us, hWb, rfl⟩)))))⟩
                have hPc := hP.sub (ws' := [(mo, .inr (13, MF 30 (rf (rs v Qb o) (skipH f n js) bs))), (qx, .inl (cB, NN, .inl f)), (Qb.qq, .inl (cI, (8 * Qb.C), .inl Qb.qf)), (Qb.qe, .inl (cL, (3 * Qb.C), .inr (.inl Qb.ef))), (tv, .inr (12, MF 13 (tw Vs))), (Vs.au, .inl (cC, Vs.U, .inl Vs.un))]) [0, 1, 2, 3, 4, 5] rfl
                have hDc := hD.sub (ws' := [(mo, .inr (13, MF 30 (rf (rs v Qb o) (skipH f n js) bs))), (qx, .inl (cB, NN, .inl f)), (Qb.qq, .inl (cI, (8 * Qb.C), .inl Qb.qf)), (Qb.qe, .inl (cL, (3 * Qb.C), .inr (.inl Qb.ef))), (tv, .inr (12, MF 13 (tw Vs))), (Vs.au, .inl (cC, Vs.U, .inl Vs.un))]) [0, 1, 2, 3, 4, 5] (by decide) rfl
                have hKc := hK.sub (tys' := [(cB, .byte), (cI, .int), (cL, .long), (cC, .char)]) [0, 1, 2, 3] rfl
                have hFc := va_free (wc := [(mo, .inr (13, MF 30 (rf (rs v Qb o) (skipH f n js) bs))), (qx, .inl (cB, NN, .inl f)), (Qb.qq, .inl (cI, (8 * Qb.C), .inl Qb.qf)), (Qb.qe, .inl (cL, (3 * Qb.C), .inr (.inl Qb.ef))), (tv, .inr (12, MF 13 (tw Vs))), (Vs.au, .inl (cC, Vs.U, .inl Vs.un))]) hD hS hA [0, 1, 2, 3, 4, 5] rfl
                refine w_same (fun hq0 => ?_)
                refine va_calli (va_runV (As := [.int (nI Qs.R)]) (rest := []) ⟨hx, hb, hml, hown, hts⟩ (c_cpr orL cmL qyL O C Y G M hOf hCf hYf l dC dI mo H v cB cI cL cC qx NN f n K tv Qb Vs o (skipH f n js) bs Q.R Qs.R (onlO g9) ok hok ho16 hOR hCM hQY hnN hNN (by omega) h6 h8 h22 hQk_Qb hTk_Vs (by omega) (by omega) (by omega) hLb) (cwV 1 hts (gt_V (own := R_Mo) (C := R_Mo) (i := 325) (y := y_Mo_comparison) i_Mo_comparison w_1455 w_1457 (gt_sel (y := y_Mo_comparison) (n := 30) (by decide +kernel)) w_7) rfl rfl rfl (by decide +kernel) ⟨by show 12 + (15 + G) + 1 ≤ 13 + (15 + G); omega, by show 8 + (5 + 11) + (440 + (600 + M)) ≤ 500 + (600 + M); omega⟩) ⟨me_blind, va_recv hKc hPc (ci := 13) (q0 := 0) rfl rfl, fun U hU hW => ⟨rfl, ⟨hU, by rw [hU]; exact hPc, va_K.moved hW.alike hKc, hDc.weaken (fun _ _ _ _ => trivial)⟩, by rw [hU]; exact ME.call hM hS.2.1 hFc hW⟩⟩ rfl rfl hl.1 rfl (lv_room (Nat.le_of_ble_eq_true rfl)) d_Mo_basic_203 ⟨(hG_QbVs.step (B2 := Qb.R + 8 * (n - (skipH f n js)) + 1) (C2 := Vs.us + (n + 12 - (skipH f n js))) (by omega) (by omega)).1, (hG_QbVs.step (B2 := Qb.R + 8 * (n - (skipH f n js)) + 1) (C2 := Vs.us + (n + 12 - (skipH f n js))) (by omega) (by omega)).2⟩) hS (fun q _ h => hFc q h) hFc (fun r0 ⟨Qc, Vc, jc, bc, oc⟩ t9 H1 locs ht hvm hw hB hz1 hk1 hS => ?_)
                obtain ⟨⟨hP1, hK1, hD1⟩, hz9⟩ := hB
                rw [ht] at hP1
                rw [ht] at hz9
                obtain ⟨⟨hQk_Qc, hGn, hTXs, hR1_Qc, hR2_Qc⟩, hw⟩ := hw
                have hQk_Qc : QOK Qc := hQk_Qc
                obtain ⟨hG_QcVc, hGc, hGs⟩ := hG_QbVs.tr hGn (by omega) (by omega)
                have hR1_Qc : Qb.R ≤ Qc.R := hR1_Qc
                have hR2_Qc : Qc.R ≤ Qb.R + 8 * (n - (skipH f n js)) + 1 := hR2_Qc
                obtain ⟨usc, hX_Vc, hln_Vc⟩ := hTXs
                have hX_Vc : TX Vs Vc usc := hX_Vc
                have hXs_Vc := hX_Vc.us
                have hz9 : szk H H1 (cQ Qb Vs Qc Vc) (sQ Qb Vs Qc Vc) := hz9
                have hq1 : szk s.heap H1 (cQ Q V Qc Vc) (sQ Q V Qc Vc) := (hq0.trans hz9).mono hGc hGs
                refine w_tight hq1 ?_
                obtain ⟨hP, hD⟩ := va_join (wr := []) (w1 := [(mo, .inr (13, MF 30 (rf (rs v Qc oc) jc bc))), (qx, .inl (cB, NN, .inl f)), (Qc.qq, .inl (cI, (8 * Qc.C), .inl Qc.qf)), (Qc.qe, .inl (cL, (3 * Qc.C), .inr (.inl Qc.ef))), (tv, .inr (12, MF 13 (tw Vc))), (Vc.au, .inl (cC, Vc.U, .inl Vc.un))]) hP hD [0, 1, 2, 3, 4, 5] [] rfl rfl (by decide) (by decide) hk1 hFc hP1 hD1
                generalize H1 = H at hP hS ⊢
                have hP : va_P (dC, dI) classes [(mo, .inr (13, MF 30 (rf (rs v Qc oc) jc bc))), (qx, .inl (cB, NN, .inl f)), (Qc.qq, .inl (cI, (8 * Qc.C), .inl Qc.qf)), (Qc.qe, .inl (cL, (3 * Qc.C), .inr (.inl Qc.ef))), (tv, .inr (12, MF 13 (tw Vc))), (Vc.au, .inl (cC, Vc.U, .inl Vc.un))] H := hP
                have hD : va_D A [(mo, .inr (13, MF 30 (rf (rs v Qc oc) jc bc))), (qx, .inl (cB, NN, .inl f)), (Qc.qq, .inl (cI, (8 * Qc.C), .inl Qc.qf)), (Qc.qe, .inl (cL, (3 * Qc.C), .inr (.inl Qc.ef))), (tv, .inr (12, MF 13 (tw Vc))), (Vc.au, .inl (cC, Vc.U, .inl Vc.un))] := hD
                have hP := hP.sub (ws' := [(mo, .inr (13, MF 30 (rf (rs v Qc oc) jc bc))), (qx, .inl (cB, NN, .inl f)), (tv, .inr (12, MF 13 (tw Vc))), (Qc.qq, .inl (cI, (8 * Qc.C), .inl Qc.qf)), (Qc.qe, .inl (cL, (3 * Qc.C), .inr (.inl Qc.ef))), (Vc.au, .inl (cC, Vc.U, .inl Vc.un))]) [0, 1, 4, 2, 3, 5] rfl
                have hD := hD.sub (ws' := [(mo, .inr (13, MF 30 (rf (rs v Qc oc) jc bc))), (qx, .inl (cB, NN, .inl f)), (tv, .inr (12, MF 13 (tw Vc))), (Qc.qq, .inl (cI, (8 * Qc.C), .inl Qc.qf)), (Qc.qe, .inl (cL, (3 * Qc.C), .inr (.inl Qc.ef))), (Vc.au, .inl (cC, Vc.U, .inl Vc.un))]) [0, 1, 4, 2, 3, 5] (by decide) rfl
                have hP := hP.sub (ws' := [(mo, .inr (13, MF 30 (rf (rs v Qc oc) jc bc))), (qx, .inl (cB, NN, .inl f)), (Qc.qq, .inl (cI, (8 * Qc.C), .inl Qc.qf)), (Qc.qe, .inl (cL, (3 * Qc.C), .inr (.inl Qc.ef))), (tv, .inr (12, MF 13 (tw Vc))), (Vc.au, .inl (cC, Vc.U, .inl Vc.un))]) [0, 1, 3, 4, 2, 5] rfl
                have hD := hD.sub (ws' := [(mo, .inr (13, MF 30 (rf (rs v Qc oc) jc bc))), (qx, .inl (cB, NN, .inl f)), (Qc.qq, .inl (cI, (8 * Qc.C), .inl Qc.qf)), (Qc.qe, .inl (cL, (3 * Qc.C), .inr (.inl Qc.ef))), (tv, .inr (12, MF 13 (tw Vc))), (Vc.au, .inl (cC, Vc.U, .inl Vc.un))]) [0, 1, 3, 4, 2, 5] (by decide) rfl
                have hTk_Vc := hX_Vc.ok hTk_Vs (by omega)
                have hqb_QcVc : Qc.R ≤ Qc.C ∧ Qc.C ≤ 100000 := ⟨hQk_Qc.2.2.1, hQk_Qc.2.1⟩
                have hfit_QcVc := hG_QcVc.fits
                rcases hw with ⟨c9, m8, hu_1, hu_2, hu_3, hu_4, hu_5, hu_6, hu_7, hu_8, hu_9, hu_10, hu_11⟩ | ⟨hu_1, hu_2⟩
                · have hu_11 : o = oc := hu_11.symm
                  subst hu_11
                  have hP : va_P (dC, dI) classes [(mo, .inr (13, MF 30 (rf (rs v Qc o) jc bc))), (qx, .inl (cB, NN, .inl f)), (Qc.qq, .inl (cI, (8 * Qc.C), .inl Qc.qf)), (Qc.qe, .inl (cL, (3 * Qc.C), .inr (.inl Qc.ef))), (tv, .inr (12, MF 13 (tw Vc))), (Vc.au, .inl (cC, Vc.U, .inl Vc.un))] H := hP
                  have hD : va_D A [(mo, .inr (13, MF 30 (rf (rs v Qc o) jc bc))), (qx, .inl (cB, NN, .inl f)), (Qc.qq, .inl (cI, (8 * Qc.C), .inl Qc.qf)), (Qc.qe, .inl (cL, (3 * Qc.C), .inr (.inl Qc.ef))), (tv, .inr (12, MF 13 (tw Vc))), (Vc.au, .inl (cC, Vc.U, .inl Vc.un))] := hD
                  have hu_2 : cpP f n (cmP f n ok (orL f n) (cmL f n) (qyL f n)) (onlO g9) (skipH f n js) = some (jc, m8) := hu_2
                  have hu_3 : BASf O C Y Qc Vc Q.R Qc.R c9 m8 := hu_3
                  have hu_4 : c9 < Qc.R := hu_4
                  have hu_5 : Qc.qf (8 * c9 + 1) = -1 := hu_5
                  have hu_6 : alr Qb Vs Qc Vc 0 Qb.R := hu_6
                  have hu_7 : Qc.R + 8 * (skipH f n js) + 13 ≤ Qb.R + 8 * jc := hu_7
                  have hu_8 : Vc.us + (skipH f n js) ≤ Vs.us + jc := hu_8
                  have hu_9 : jc ≤ n := hu_9
                  have hu_10 : Qb.R < Qc.R := hu_10
                  have hExc : alr Q V Qc Vc 0 Q.R := hExb.tr (hu_6.sub (Nat.le_refl _) (by omega))
                  subst hu_1
                  have hfin : baP f n ok (orL f n) (cmL f n) (qyL f n) i = some (jc, m8) := by rw [hbp, baB_q3 hn40 hbeg hv_2 ⟨rfl, h_t6.1 c159⟩ (h_f7.1 c169)]; exact hu_2
                  refine w_same (fun hq => ?_)
                  refine W.widen (k := kcap Q (Q.R + 8 * (n - i) + 1) + qcap V (V.us + (n + 12 - i))) (n := 22 * kcap Q (Q.R + 8 * (n - i) + 1) + 2 * qcap V (V.us + (n + 12 - i))) hfit_QcVc.1 hfit_QcVc.2 ?_
                  have hPo : QPo n i 1 Q V (Qc, Vc, jc, bc, o) := ⟨hQk_Qc, hG_QcVc, ⟨_, (hX_Vs.trans hX_Vc), by rw [List.length_append]; omega⟩, by show Q.R ≤ Qc.R; omega, by show Qc.R ≤ Q.R + 8 * (n - i) + 1; omega⟩
                  exact W.iret (v := nI c9) hx hb hr (fun t9 ht hW => ⟨⟨nI c9, (Qc, Vc, jc, bc, o), rfl, ⟨hPo, Or.inl ⟨c9, m8, rfl, hfin, hu_3, by show c9 < Qc.R; omega, hu_5, hExc, by show Qc.R + 8 * i + 5 ≤ Q.R + 8 * jc; omega, by show Vc.us + i ≤ V.us + jc; omega, by show jc ≤ n; omega, by show Q.R < Qc.R; omega, rfl⟩⟩, ⟨by rw [ht]; exact hP, va_K.moved hW.alike hK, hD⟩, by rw [ht]; exact hq⟩, hS.F ht⟩) hS.2.2 d_Mo_basic_206
                · have hu_2 : cpP f n (cmP f n ok (orL f n) (cmL f n) (qyL f n)) (onlO g9) (skipH f n js) = none := hu_2
                  subst hu_1
                  have hfin : baP f n ok (orL f n) (cmL f n) (qyL f n) i = none := by rw [hbp, baB_q3 hn40 hbeg hv_2 ⟨rfl, h_t6.1 c159⟩ (h_f7.1 c169)]; exact hu_2
                  refine w_same (fun hq => ?_)
                  refine W.widen (k := kcap Q (Q.R + 8 * (n - i) + 1) + qcap V (V.us + (n + 12 - i))) (n := 22 * kcap Q (Q.R + 8 * (n - i) + 1) + 2 * qcap V (V.us + (n + 12 - i))) hfit_QcVc.1 hfit_QcVc.2 ?_
                  have hPo : QPo n i 1 Q V (Qc, Vc, jc, bc, oc) := ⟨hQk_Qc, hG_QcVc, ⟨_, (hX_Vs.trans hX_Vc), by rw [List.length_append]; omega⟩, by show Q.R ≤ Qc.R; omega, by show Qc.R ≤ Q.R + 8 * (n - i) + 1; omega⟩
                  exact W.iret (v := -1) hx hb hr (fun t9 ht hW => ⟨⟨-1, (Qc, Vc, jc, bc, oc), rfl, ⟨hPo, Or.inr ⟨rfl, hfin⟩⟩, ⟨by rw [ht]; exact hP, va_K.moved hW.alike hK, hD⟩, by rw [ht]; exact hq⟩, hS.F ht⟩) hS.2.2 d_Mo_basic_206
              · refine lv_aload_n hx hb d_Mo_basic_172 rfl (lv_at hl 4 rfl) ?_
                refine lv_aload_n hx hb d_Mo_basic_173 rfl (lv_at hl 4 rfl) ?_
                refine va_get (D := (dC, dI)) (ci := 13) (v := .int (nI (skipH f n js))) (C := R_Mo) (T := F_Mo) (N := 30) hx hb hts in_Mo hown hK hP 0 rfl rfl 7 (by decide) (hts _ w_1096) (fun _ h9 => h9) (MFg (by decide) rf_7) d_Mo_basic_174 ?_
                have hPc := hP.sub (ws' := [(mo, .inr (13, MF 30 (rf (rs v Qs o) (skipH f n js) bs)))]) [0] rfl
                have hDc := hD.sub (ws' := [(mo, .inr (13, MF 30 (rf (rs v Qs o) (skipH f n js) bs)))]) [0] (by decide) rfl
                have hKc := hK.sub (tys' := []) [] rfl
                have hFc := va_free (wc := [(mo, .inr (13, MF 30 (rf (rs v Qs o) (skipH f n js) bs)))]) hD hS hA [0] rfl
                refine va_calli (va_runV (As := [.int (nI (skipH f n js))]) (rest := []) ⟨hx, hb, hml, hown, hts⟩ (c_Mo_fail l dC dI mo H (rf (rs v Qs o) (skipH f n js) bs) bs ((nI (skipH f n js))) rf_9) (cwV 1 hts (gt_V (own := R_Mo) (C := R_Mo) (i := 151) (y := y_Mo_fail) i_Mo_fail w_1250 w_1252 (gt_sel (y := y_Mo_fail) (n := 30) (by decide +kernel)) w_7) rfl rfl rfl (by decide +kernel) ⟨Nat.le_trans (m := 13) (Nat.le_of_ble_eq_true rfl) (Nat.le_add_right 13 (15 + G)), Nat.le_trans (m := 500) (Nat.le_of_ble_eq_true rfl) (Nat.le_add_right 500 (600 + M))⟩) ⟨mp_blind, va_recv hKc hPc (ci := 13) (q0 := 0) rfl rfl, fun U hU hW => ⟨rfl, hU, by rw [hU]; exact hPc, va_K.moved hW.alike hKc, hDc.weaken (fun _ _ _ _ => trivial)⟩⟩ rfl rfl hl.1 rfl (lv_room (Nat.le_of_ble_eq_true rfl)) d_Mo_basic_177 ⟨hfit_QsVs.1, hfit_QsVs.2⟩) hS (fun q _ h => hFc q h) hFc (fun r0 u2 t9 H1 locs ht hvm hw hB hz1 hk1 hS => ?_)
                obtain ⟨hP1, hK1, hD1⟩ := hB
                rw [ht] at hP1
                obtain ⟨hP, hD⟩ := va_join (wr := [(qx, .inl (cB, NN, .inl f)), (Qs.qq, .inl (cI, (8 * Qs.C), .inl Qs.qf)), (Qs.qe, .inl (cL, (3 * Qs.C), .inr (.inl Qs.ef))), (tv, .inr (12, MF 13 (tw Vs))), (Vs.au, .inl (cC, Vs.U, .inl Vs.un))]) (w1 := [(mo, .inr (13, MF 30 u2))]) hP hD [0] [1, 2, 3, 4, 5] rfl rfl (by decide) (by decide) hk1 hFc hP1 hD1
                generalize H1 = H at hP hS ⊢
                have hP : va_P (dC, dI) classes [(qx, .inl (cB, NN, .inl f)), (Qs.qq, .inl (cI, (8 * Qs.C), .inl Qs.qf)), (Qs.qe, .inl (cL, (3 * Qs.C), .inr (.inl Qs.ef))), (tv, .inr (12, MF 13 (tw Vs))), (Vs.au, .inl (cC, Vs.U, .inl Vs.un)), (mo, .inr (13, MF 30 u2))] H := hP
                have hD : va_D A [(qx, .inl (cB, NN, .inl f)), (Qs.qq, .inl (cI, (8 * Qs.C), .inl Qs.qf)), (Qs.qe, .inl (cL, (3 * Qs.C), .inr (.inl Qs.ef))), (tv, .inr (12, MF 13 (tw Vs))), (Vs.au, .inl (cC, Vs.U, .inl Vs.un)), (mo, .inr (13, MF 30 u2))] := hD
                have hP := hP.sub (ws' := [(mo, .inr (13, MF 30 u2)), (qx, .inl (cB, NN, .inl f)), (Qs.qq, .inl (cI, (8 * Qs.C), .inl Qs.qf)), (Qs.qe, .inl (cL, (3 * Qs.C), .inr (.inl Qs.ef))), (tv, .inr (12, MF 13 (tw Vs))), (Vs.au, .inl (cC, Vs.U, .inl Vs.un))]) [5, 0, 1, 2, 3, 4] rfl
                have hD := hD.sub (ws' := [(mo, .inr (13, MF 30 u2)), (qx, .inl (cB, NN, .inl f)), (Qs.qq, .inl (cI, (8 * Qs.C), .inl Qs.qf)), (Qs.qe, .inl (cL, (3 * Qs.C), .inr (.inl Qs.ef))), (tv, .inr (12, MF 13 (tw Vs))), (Vs.au, .inl (cC, Vs.U, .inl Vs.un))]) [5, 0, 1, 2, 3, 4] (by decide) rfl
                obtain ⟨b7, h_b7⟩ := rf_fail (v := (rs v Qs o)) (i := (skipH f n js)) (br := bs) (b2 := bs) (wh := (nI (skipH f n js)))
                have hw : r0 = 0 ∧ u2 = _ := hw
                obtain ⟨hw1, hw2⟩ := hw
                rw [h_b7] at hw2
                rw [hw2] at hP hD
                subst hw1
                have hP : va_P (dC, dI) classes [(mo, .inr (13, MF 30 (rf (rs v Qs o) (skipH f n js) b7))), (qx, .inl (cB, NN, .inl f)), (Qs.qq, .inl (cI, (8 * Qs.C), .inl Qs.qf)), (Qs.qe, .inl (cL, (3 * Qs.C), .inr (.inl Qs.ef))), (tv, .inr (12, MF 13 (tw Vs))), (Vs.au, .inl (cC, Vs.U, .inl Vs.un))] H := hP
                have hD : va_D A [(mo, .inr (13, MF 30 (rf (rs v Qs o) (skipH f n js) b7))), (qx, .inl (cB, NN, .inl f)), (Qs.qq, .inl (cI, (8 * Qs.C), .inl Qs.qf)), (Qs.qe, .inl (cL, (3 * Qs.C), .inr (.inl Qs.ef))), (tv, .inr (12, MF 13 (tw Vs))), (Vs.au, .inl (cC, Vs.U, .inl Vs.un))] := hD
                refine lv_pop hx hb d_Mo_basic_180 rfl ?_
                refine lv_iconst (v := (-1)) hx hb d_Mo_basic_181 (by decide) ?_
                have hfin : baP f n ok (orL f n) (cmL f n) (qyL f n) i = none := by rw [hbp]; exact baB_q2 hn40 hbeg hv_2 ⟨rfl, h_t6.1 c159⟩ (h_f7.2 c169)
                refine w_same (fun hq => ?_)
                refine W.widen (k := kcap Q (Q.R + 8 * (n - i) + 1) + qcap V (V.us + (n + 12 - i))) (n := 22 * kcap Q (Q.R + 8 * (n - i) + 1) + 2 * qcap V (V.us + (n + 12 - i))) hfit_QsVs.1 hfit_QsVs.2 ?_
                have hPo : QPo n i 1 Q V (Qs, Vs, (skipH f n js), b7, o) := ⟨hQk_Qs, hG_QsVs, ⟨_, hX_Vs, by omega⟩, by show Q.R ≤ Qs.R; omega, by show Qs.R ≤ Q.R + 8 * (n - i) + 1; omega⟩
                exact W.iret (v := -1) hx hb hr (fun t9 ht hW => ⟨⟨-1, (Qs, Vs, (skipH f n js), b7, o), rfl, ⟨hPo, Or.inr ⟨rfl, hfin⟩⟩, ⟨by rw [ht]; exact hP, va_K.moved hW.alike hK, hD⟩, by rw [ht]; exact hq⟩, hS.F ht⟩) hS.2.2 d_Mo_basic_182
          · have hv_2 : qrP f n ok (orL f n) false (decide (hereV f n i = 36)) (i + 1) = none := by rw [hrtb]; exact hv_2
            subst hv_1
            refine lv_istore (lv' := [(4, .int (-1)), (3, .int 1), (1, .int 0), (0, .ref mo)]) hx hb d_Mo_basic_132 hl (by decide) rfl (fun ls hl => ?_)
            refine lv_iload hx hb d_Mo_basic_134 (lv_at hl 0 rfl) ?_
            refine lv_if_ge (tgt := 141) hx hb d_Mo_basic_136 (by decide) (fun h => absurd h (by decide)) (fun _ => ?_)
            refine lv_iconst (v := (-1)) hx hb d_Mo_basic_139 (by decide) ?_
            have hfin : baP f n ok (orL f n) (cmL f n) (qyL f n) i = none := by rw [hbp]; exact baB_q0 hn40 hbeg hv_2
            refine w_same (fun hq => ?_)
            refine W.widen (k := kcap Q (Q.R + 8 * (n - i) + 1) + qcap V (V.us + (n + 12 - i))) (n := 22 * kcap Q (Q.R + 8 * (n - i) + 1) + 2 * qcap V (V.us + (n + 12 - i))) hfit_QsVs.1 hfit_QsVs.2 ?_
            have hPo : QPo n i 1 Q V (Qs, Vs, js, bs, os) := ⟨hQk_Qs, hG_QsVs, ⟨_, hX_Vs, by omega⟩, by show Q.R ≤ Qs.R; omega, by show Qs.R ≤ Q.R + 8 * (n - i) + 1; omega⟩
            exact W.iret (v := -1) hx hb hr (fun t9 ht hW => ⟨⟨-1, (Qs, Vs, js, bs, os), rfl, ⟨hPo, Or.inr ⟨rfl, hfin⟩⟩, ⟨by rw [ht]; exact hP, va_K.moved hW.alike hK, hD⟩, by rw [ht]; exact hq⟩, hS.F ht⟩) hS.2.2 d_Mo_basic_140
    · refine lv_aload_n hx hb d_Mo_basic_42 rfl (lv_at hl 1 rfl) ?_
      refine lv_bipush (v := 40) hx hb d_Mo_basic_43 (by decide) ?_
      have h40 : hereV f n i = 40 := h_r2.symm.trans c39
      have hlt1 := here_in h40 (by decide)
      have hPc := hP.sub (ws' := [(mo, .inr (13, MF 30 (rf (rs v Q o) i br))), (qx, .inl (cB, NN, .inl f))]) [0, 1] rfl
      have hDc := hD.sub (ws' := [(mo, .inr (13, MF 30 (rf (rs v Q o) i br))), (qx, .inl (cB, NN, .inl f))]) [0, 1] (by decide) rfl
      have hKc := hK.sub (tys' := [(cB, .byte)]) [0] rfl
      have hFc := va_free (wc := [(mo, .inr (13, MF 30 (rf (rs v Q o) i br))), (qx, .inl (cB, NN, .inl f))]) hD hS hA [0, 1] rfl
      refine va_calli (va_runV (As := [.int 40]) (rest := []) ⟨hx, hb, hml, hown, hts⟩ (c_Mo_enter l dC dI mo H (rf (rs v Q o) i br) cB qx NN f n i (by omega) (by omega) (by omega) ((rf_ne (by decide) (by decide)).trans ((rs_ne (by decide) (by decide) (by decide) (by decide)).trans h6)) rf_7 ((rf_ne (by decide) (by decide)).trans ((rs_ne (by decide) (by decide) (by decide) (by decide)).trans h8)) br rf_9 40 o (by omega) ((rf_ne (by decide) (by decide)).trans rs_23)) (cwV 1 hts (gt_V (own := R_Mo) (C := R_Mo) (i := 290) (y := y_Mo_enter) i_Mo_enter w_1423 w_1425 (gt_sel (y := y_Mo_enter) (n := 30) (by decide +kernel)) w_7) rfl rfl rfl (by decide +kernel) ⟨Nat.le_trans (m := 13) (Nat.le_of_ble_eq_true rfl) (Nat.le_add_right 13 (15 + G)), Nat.le_trans (m := 500) (Nat.le_of_ble_eq_true rfl) (Nat.le_add_right 500 (600 + M))⟩) ⟨mp_blind, va_recv hKc hPc (ci := 13) (q0 := 0) rfl rfl, fun U hU hW => ⟨rfl, hU, by rw [hU]; exact hPc, va_K.moved hW.alike hKc, hDc.weaken (fun _ _ _ _ => trivial)⟩⟩ rfl rfl hl.1 rfl (lv_room (Nat.le_of_ble_eq_true rfl)) d_Mo_basic_45 ⟨hfit_QV.1, hfit_QV.2⟩) hS (fun q _ h => hFc q h) hFc (fun r0 u2 t9 H1 locs ht hvm hw hB hz1 hk1 hS => ?_)
      obtain ⟨hP1, hK1, hD1⟩ := hB
      rw [ht] at hP1
      obtain ⟨hP, hD⟩ := va_join (wr := [(Q.qq, .inl (cI, (8 * Q.C), .inl Q.qf)), (Q.qe, .inl (cL, (3 * Q.C), .inr (.inl Q.ef))), (tv, .inr (12, MF 13 (tw V))), (V.au, .inl (cC, V.U, .inl V.un))]) (w1 := [(mo, .inr (13, MF 30 u2)), (qx, .inl (cB, NN, .inl f))]) hP hD [0, 1] [2, 3, 4, 5] rfl rfl (by decide) (by decide) hk1 hFc hP1 hD1
      generalize H1 = H at hP hS ⊢
      have hP : va_P (dC, dI) classes [(Q.qq, .inl (cI, (8 * Q.C), .inl Q.qf)), (Q.qe, .inl (cL, (3 * Q.C), .inr (.inl Q.ef))), (tv, .inr (12, MF 13 (tw V))), (V.au, .inl (cC, V.U, .inl V.un)), (mo, .inr (13, MF 30 u2)), (qx, .inl (cB, NN, .inl f))] H := hP
      have hD : va_D A [(Q.qq, .inl (cI, (8 * Q.C), .inl Q.qf)), (Q.qe, .inl (cL, (3 * Q.C), .inr (.inl Q.ef))), (tv, .inr (12, MF 13 (tw V))), (V.au, .inl (cC, V.U, .inl V.un)), (mo, .inr (13, MF 30 u2)), (qx, .inl (cB, NN, .inl f))] := hD
      have hP := hP.sub (ws' := [(mo, .inr (13, MF 30 u2)), (qx, .inl (cB, NN, .inl f)), (Q.qq, .inl (cI, (8 * Q.C), .inl Q.qf)), (Q.qe, .inl (cL, (3 * Q.C), .inr (.inl Q.ef))), (tv, .inr (12, MF 13 (tw V))), (V.au, .inl (cC, V.U, .inl V.un))]) [4, 5, 0, 1, 2, 3] rfl
      have hD := hD.sub (ws' := [(mo, .inr (13, MF 30 u2)), (qx, .inl (cB, NN, .inl f)), (Q.qq, .inl (cI, (8 * Q.C), .inl Q.qf)), (Q.qe, .inl (cL, (3 * Q.C), .inr (.inl Q.ef))), (tv, .inr (12, MF 13 (tw V))), (V.au, .inl (cC, V.U, .inl V.un))]) [4, 5, 0, 1, 2, 3] (by decide) rfl
      rcases hw with ⟨hn1, ht2, ht3⟩ | ⟨hn1, ht2, ht3⟩
      · rw [rs_o, rf_u7] at ht3
        rw [ht3] at hP hD
        subst ht2
        have hP : va_P (dC, dI) classes [(mo, .inr (13, MF 30 (rf (rs v Q (o + 1)) (i + 1) br))), (qx, .inl (cB, NN, .inl f)), (Q.qq, .inl (cI, (8 * Q.C), .inl Q.qf)), (Q.qe, .inl (cL, (3 * Q.C), .inr (.inl Q.ef))), (tv, .inr (12, MF 13 (tw V))), (V.au, .inl (cC, V.U, .inl V.un))] H := hP
        have hD : va_D A [(mo, .inr (13, MF 30 (rf (rs v Q (o + 1)) (i + 1) br))), (qx, .inl (cB, NN, .inl f)), (Q.qq, .inl (cI, (8 * Q.C), .inl Q.qf)), (Q.qe, .inl (cL, (3 * Q.C), .inr (.inl Q.ef))), (tv, .inr (12, MF 13 (tw V))), (V.au, .inl (cC, V.U, .inl V.un))] := hD
        refine lv_if_ne (tgt := 53) hx hb d_Mo_basic_48 (by decide) (fun _ => ?_) (fun h => absurd h (by decide))
        refine lv_aload_n hx hb d_Mo_basic_53 rfl (lv_at hl 1 rfl) ?_
        have hPc := hP.sub (ws' := [(mo, .inr (13, MF 30 (rf (rs v Q (o + 1)) (i + 1) br))), (qx, .inl (cB, NN, .inl f))]) [0, 1] rfl
        have hDc := hD.sub (ws' := [(mo, .inr (13, MF 30 (rf (rs v Q (o + 1)) (i + 1) br))), (qx, .inl (cB, NN, .inl f))]) [0, 1] (by decide) rfl
        have hKc := hK.sub (tys' := [(cB, .byte)]) [0] rfl
        have hFc := va_free (wc := [(mo, .inr (13, MF 30 (rf (rs v Q (o + 1)) (i + 1) br))), (qx, .inl (cB, NN, .inl f))]) hD hS hA [0, 1] rfl
        refine va_callv (va_runV (As := []) (rest := []) ⟨hx, hb, hml, hown, hts⟩ (c_Mo_blanks l dC dI mo H (rf (rs v Q (o + 1)) (i + 1) br) cB qx NN f n (i + 1) (by omega) (by omega) (by omega) ((rf_ne (by decide) (by decide)).trans ((rs_ne (by decide) (by decide) (by decide) (by decide)).trans h6)) rf_7 ((rf_ne (by decide) (by decide)).trans ((rs_ne (by decide) (by decide) (by decide) (by decide)).trans h8))) (cwV 0 hts (gt_V (own := R_Mo) (C := R_Mo) (i := 184) (y := y_Mo_blanks) i_Mo_blanks w_1229 w_1231 (gt_sel (y := y_Mo_blanks) (n := 30) (by decide +kernel)) w_7) rfl rfl rfl (by decide +kernel) ⟨Nat.le_trans (m := 13) (Nat.le_of_ble_eq_true rfl) (Nat.le_add_right 13 (15 + G)), Nat.le_trans (m := 500) (Nat.le_of_ble_eq_true rfl) (Nat.le_add_right 500 (600 + M))⟩) ⟨mp_blind, va_recv hKc hPc (ci := 13) (q0 := 0) rfl rfl, fun U hU hW => ⟨rfl, hU, by rw [hU]; exact hPc, va_K.moved hW.alike hKc, hDc.weaken (fun _ _ _ _ => trivial)⟩⟩ rfl rfl hl.1 rfl (lv_room (Nat.le_of_ble_eq_true rfl)) d_Mo_basic_54 ⟨hfit_QV.1, hfit_QV.2⟩) hS (fun q _ h => hFc q h) hFc (fun _u t9 H1 locs ht hvm hw hB hz1 hk1 hS => ?_)
        obtain ⟨hP1, hK1, hD1⟩ := hB
        rw [ht] at hP1
        obtain ⟨hP, hD⟩ := va_join (wr := [(Q.qq, .inl (cI, (8 * Q.C), .inl Q.qf)), (Q.qe, .inl (cL, (3 * Q.C), .inr (.inl Q.ef))), (tv, .inr (12, MF 13 (tw V))), (V.au, .inl (cC, V.U, .inl V.un))]) (w1 := [(mo, .inr (13, MF 30 (va_up (rf (rs v Q (o + 1)) (i + 1) br) 7 (.int (nI (skipH f n (i + 1))))))), (qx, .inl (cB, NN, .inl f))]) hP hD [0, 1] [2, 3, 4, 5] rfl rfl (by decide) (by decide) hk1 hFc hP1 hD1
        generalize H1 = H at hP hS ⊢
        have hP : va_P (dC, dI) classes [(Q.qq, .inl (cI, (8 * Q.C), .inl Q.qf)), (Q.qe, .inl (cL, (3 * Q.C), .inr (.inl Q.ef))), (tv, .inr (12, MF 13 (tw V))), (V.au, .inl (cC, V.U, .inl V.un)), (mo, .inr (13, MF 30 (va_up (rf (rs v Q (o + 1)) (i + 1) br) 7 (.int (nI (skipH f n (i + 1))))))), (qx, .inl (cB, NN, .inl f))] H := hP
        have hD : va_D A [(Q.qq, .inl (cI, (8 * Q.C), .inl Q.qf)), (Q.qe, .inl (cL, (3 * Q.C), .inr (.inl Q.ef))), (tv, .inr (12, MF 13 (tw V))), (V.au, .inl (cC, V.U, .inl V.un)), (mo, .inr (13, MF 30 (va_up (rf (rs v Q (o + 1)) (i + 1) br) 7 (.int (nI (skipH f n (i + 1))))))), (qx, .inl (cB, NN, .inl f))] := hD
        have hP := hP.sub (ws' := [(mo, .inr (13, MF 30 (va_up (rf (rs v Q (o + 1)) (i + 1) br) 7 (.int (nI (skipH f n (i + 1))))))), (qx, .inl (cB, NN, .inl f)), (Q.qq, .inl (cI, (8 * Q.C), .inl Q.qf)), (Q.qe, .inl (cL, (3 * Q.C), .inr (.inl Q.ef))), (tv, .inr (12, MF 13 (tw V))), (V.au, .inl (cC, V.U, .inl V.un))]) [4, 5, 0, 1, 2, 3] rfl
        have hD := hD.sub (ws' := [(mo, .inr (13, MF 30 (va_up (rf (rs v Q (o + 1)) (i + 1) br) 7 (.int (nI (skipH f n (i + 1))))))), (qx, .inl (cB, NN, .inl f)), (Q.qq, .inl (cI, (8 * Q.C), .inl Q.qf)), (Q.qe, .inl (cL, (3 * Q.C), .inr (.inl Q.ef))), (tv, .inr (12, MF 13 (tw V))), (V.au, .inl (cC, V.U, .inl V.un))]) [4, 5, 0, 1, 2, 3] (by decide) rfl
        rw [rf_u7] at hP hD
        have hP : va_P (dC, dI) classes [(mo, .inr (13, MF 30 (rf (rs v Q (o + 1)) (skipH f n (i + 1)) br))), (qx, .inl (cB, NN, .inl f)), (Q.qq, .inl (cI, (8 * Q.C), .inl Q.qf)), (Q.qe, .inl (cL, (3 * Q.C), .inr (.inl Q.ef))), (tv, .inr (12, MF 13 (tw V))), (V.au, .inl (cC, V.U, .inl V.un))] H := hP
        have hD : va_D A [(mo, .inr (13, MF 30 (rf (rs v Q (o + 1)) (skipH f n (i + 1)) br))), (qx, .inl (cB, NN, .inl f)), (Q.qq, .inl (cI, (8 * Q.C), .inl Q.qf)), (Q.qe, .inl (cL, (3 * Q.C), .inr (.inl Q.ef))), (tv, .inr (12, MF 13 (tw V))), (V.au, .inl (cC, V.U, .inl V.un))] := hD
        have hsk_57 := skipH_n (f := f) (show (i + 1) ≤ n by omega)
        refine lv_aload_n hx hb d_Mo_basic_57 rfl (lv_at hl 1 rfl) ?_
        have hPc := hP.sub (ws' := [(mo, .inr (13, MF 30 (rf (rs v Q (o + 1)) (skipH f n (i + 1)) br))), (qx, .inl (cB, NN, .inl f)), (Q.qq, .inl (cI, (8 * Q.C), .inl Q.qf)), (Q.qe, .inl (cL, (3 * Q.C), .inr (.inl Q.ef))), (tv, .inr (12, MF 13 (tw V))), (V.au, .inl (cC, V.U, .inl V.un))]) [0, 1, 2, 3, 4, 5] rfl
        have hDc := hD.sub (ws' := [(mo, .inr (13, MF 30 (rf (rs v Q (o + 1)) (skipH f n (i + 1)) br))), (qx, .inl (cB, NN, .inl f)), (Q.qq, .inl (cI, (8 * Q.C), .inl Q.qf)), (Q.qe, .inl (cL, (3 * Q.C), .inr (.inl Q.ef))), (tv, .inr (12, MF 13 (tw V))), (V.au, .inl (cC, V.U, .inl V.un))]) [0, 1, 2, 3, 4, 5] (by decide) rfl
        have hKc := hK.sub (tys' := [(cB, .byte), (cI, .int), (cL, .long), (cC, .char)]) [0, 1, 2, 3] rfl
        have hFc := va_free (wc := [(mo, .inr (13, MF 30 (rf (rs v Q (o + 1)) (skipH f n (i + 1)) br))), (qx, .inl (cB, NN, .inl f)), (Q.qq, .inl (cI, (8 * Q.C), .inl Q.qf)), (Q.qe, .inl (cL, (3 * Q.C), .inr (.inl Q.ef))), (tv, .inr (12, MF 13 (tw V))), (V.au, .inl (cC, V.U, .inl V.un))]) hD hS hA [0, 1, 2, 3, 4, 5] rfl
        refine w_same (fun hq0 => ?_)
        refine va_calli (va_runV (As := []) (rest := []) ⟨hx, hb, hml, hown, hts⟩ (hOR hn1.2 l dC dI mo H v cB cI cL cC qx NN f n K tv Q V (skipH f n (i + 1)) br hnN hNN (by omega) h6 h8 h22 hQk_Q hTk_V (by omega) (by omega)) (cwV 0 hts (gt_V (own := R_Mo) (C := R_Mo) (i := 300) (y := y_Mo_or) i_Mo_or w_1435 w_1437 (gt_sel (y := y_Mo_or) (n := 30) (by decide +kernel)) w_7) rfl rfl rfl (by decide +kernel) ⟨by show 15 + G + 1 ≤ 13 + (15 + G); omega, by show 8 + (5 + 11) + (600 + M) ≤ 500 + (600 + M); omega⟩) ⟨me_blind, va_recv hKc hPc (ci := 13) (q0 := 0) rfl rfl, fun U hU hW => ⟨rfl, ⟨hU, by rw [hU]; exact hPc, va_K.moved hW.alike hKc, hDc.weaken (fun _ _ _ _ => trivial)⟩, by rw [hU]; exact ME.call hM hS.2.1 hFc hW⟩⟩ rfl rfl hl.1 rfl (lv_room (Nat.le_of_ble_eq_true rfl)) d_Mo_basic_58 ⟨(hG_QV.step (B2 := Q.R + 8 * (n - (skipH f n (i + 1))) + 3) (C2 := V.us + (n + 12 - (skipH f n (i + 1)))) (by omega) (by omega)).1, (hG_QV.step (B2 := Q.R + 8 * (n - (skipH f n (i + 1))) + 3) (C2 := V.us + (n + 12 - (skipH f n (i + 1)))) (by omega) (by omega)).2⟩) hS (fun q _ h => hFc q h) hFc (fun r0 ⟨Q2, V2, j2, b2, o2⟩ t9 H1 locs ht hvm hw hB hz1 hk1 hS => ?_)
        obtain ⟨⟨hP1, hK1, hD1⟩, hz9⟩ := hB
        rw [ht] at hP1
        rw [ht] at hz9
        obtain ⟨⟨hQk_Q2, hGn, hTXs, hR1_Q2, hR2_Q2⟩, hw⟩ := hw
        have hQk_Q2 : QOK Q2 := hQk_Q2
        obtain ⟨hG_Q2V2, hGc, hGs⟩ := hG_QV.tr hGn (by omega) (by omega)
        have hR1_Q2 : Q.R ≤ Q2.R := hR1_Q2
        have hR2_Q2 : Q2.R ≤ Q.R + 8 * (n - (skipH f n (i + 1))) + 3 := hR2_Q2
        obtain ⟨us2, hX_V2, hln_V2⟩ := hTXs
        have hX_V2 : TX V V2 us2 := hX_V2
        have hXs_V2 := hX_V2.us
        have hz9 : szk H H1 (cQ Q V Q2 V2) (sQ Q V Q2 V2) := hz9
        have hq1 : szk s.heap H1 (cQ Q V Q2 V2) (sQ Q V Q2 V2) := (hq0.trans hz9).mono hGc hGs
        refine w_tight hq1 ?_
        obtain ⟨hP, hD⟩ := va_join (wr := []) (w1 := [(mo, .inr (13, MF 30 (rf (rs v Q2 o2) j2 b2))), (qx, .inl (cB, NN, .inl f)), (Q2.qq, .inl (cI, (8 * Q2.C), .inl Q2.qf)), (Q2.qe, .inl (cL, (3 * Q2.C), .inr (.inl Q2.ef))), (tv, .inr (12, MF 13 (tw V2))), (V2.au, .inl (cC, V2.U, .inl V2.un))]) hP hD [0, 1, 2, 3, 4, 5] [] rfl rfl (by decide) (by decide) hk1 hFc hP1 hD1
        generalize H1 = H at hP hS ⊢
        have hP : va_P (dC, dI) classes [(mo, .inr (13, MF 30 (rf (rs v Q2 o2) j2 b2))), (qx, .inl (cB, NN, .inl f)), (Q2.qq, .inl (cI, (8 * Q2.C), .inl Q2.qf)), (Q2.qe, .inl (cL, (3 * Q2.C), .inr (.inl Q2.ef))), (tv, .inr (12, MF 13 (tw V2))), (V2.au, .inl (cC, V2.U, .inl V2.un))] H := hP
        have hD : va_D A [(mo, .inr (13, MF 30 (rf (rs v Q2 o2) j2 b2))), (qx, .inl (cB, NN, .inl f)), (Q2.qq, .inl (cI, (8 * Q2.C), .inl Q2.qf)), (Q2.qe, .inl (cL, (3 * Q2.C), .inr (.inl Q2.ef))), (tv, .inr (12, MF 13 (tw V2))), (V2.au, .inl (cC, V2.U, .inl V2.un))] := hD
        have hP := hP.sub (ws' := [(mo, .inr (13, MF 30 (rf (rs v Q2 o2) j2 b2))), (qx, .inl (cB, NN, .inl f)), (tv, .inr (12, MF 13 (tw V2))), (Q2.qq, .inl (cI, (8 * Q2.C), .inl Q2.qf)), (Q2.qe, .inl (cL, (3 * Q2.C), .inr (.inl Q2.ef))), (V2.au, .inl (cC, V2.U, .inl V2.un))]) [0, 1, 4, 2, 3, 5] rfl
        have hD := hD.sub (ws' := [(mo, .inr (13, MF 30 (rf (rs v Q2 o2) j2 b2))), (qx, .inl (cB, NN, .inl f)), (tv, .inr (12, MF 13 (tw V2))), (Q2.qq, .inl (cI, (8 * Q2.C), .inl Q2.qf)), (Q2.qe, .inl (cL, (3 * Q2.C), .inr (.inl Q2.ef))), (V2.au, .inl (cC, V2.U, .inl V2.un))]) [0, 1, 4, 2, 3, 5] (by decide) rfl
        have hP := hP.sub (ws' := [(mo, .inr (13, MF 30 (rf (rs v Q2 o2) j2 b2))), (qx, .inl (cB, NN, .inl f)), (Q2.qq, .inl (cI, (8 * Q2.C), .inl Q2.qf)), (Q2.qe, .inl (cL, (3 * Q2.C), .inr (.inl Q2.ef))), (tv, .inr (12, MF 13 (tw V2))), (V2.au, .inl (cC, V2.U, .inl V2.un))]) [0, 1, 3, 4, 2, 5] rfl
        have hD := hD.sub (ws' := [(mo, .inr (13, MF 30 (rf (rs v Q2 o2) j2 b2))), (qx, .inl (cB, NN, .inl f)), (Q2.qq, .inl (cI, (8 * Q2.C), .inl Q2.qf)), (Q2.qe, .inl (cL, (3 * Q2.C), .inr (.inl Q2.ef))), (tv, .inr (12, MF 13 (tw V2))), (V2.au, .inl (cC, V2.U, .inl V2.un))]) [0, 1, 3, 4, 2, 5] (by decide) rfl
        have hTk_V2 := hX_V2.ok hTk_V (by omega)
        have hqb_Q2V2 : Q2.R ≤ Q2.C ∧ Q2.C ≤ 100000 := ⟨hQk_Q2.2.2.1, hQk_Q2.2.1⟩
        have hfit_Q2V2 := hG_Q2V2.fits
        rcases hw with ⟨g9, hv_1, hv_2, hv_3, hv_4, hv_5, hv_6, hv_7, hv_8, hv_9⟩ | ⟨hv_1, hv_2⟩
        · have hv_9 : (o + 1) = o2 := hv_9.symm
          subst hv_9
          have hP : va_P (dC, dI) classes [(mo, .inr (13, MF 30 (rf (rs v Q2 (o + 1)) j2 b2))), (qx, .inl (cB, NN, .inl f)), (Q2.qq, .inl (cI, (8 * Q2.C), .inl Q2.qf)), (Q2.qe, .inl (cL, (3 * Q2.C), .inr (.inl Q2.ef))), (tv, .inr (12, MF 13 (tw V2))), (V2.au, .inl (cC, V2.U, .inl V2.un))] H := hP
          have hD : va_D A [(mo, .inr (13, MF 30 (rf (rs v Q2 (o + 1)) j2 b2))), (qx, .inl (cB, NN, .inl f)), (Q2.qq, .inl (cI, (8 * Q2.C), .inl Q2.qf)), (Q2.qe, .inl (cL, (3 * Q2.C), .inr (.inl Q2.ef))), (tv, .inr (12, MF 13 (tw V2))), (V2.au, .inl (cC, V2.U, .inl V2.un))] := hD
          have hv_2 : orL f n (skipH f n (i + 1)) = some (j2, g9) := hv_2
          have hv_3 : O Q2 V2 Q.R Q2.R Q.R g9 := hv_3
          have hv_4 : alr Q V Q2 V2 0 Q.R := hv_4
          have hv_5 : Q2.R + 8 * (skipH f n (i + 1)) + 3 ≤ Q.R + 8 * j2 := hv_5
          have hv_6 : V2.us + (skipH f n (i + 1)) ≤ V.us + j2 := hv_6
          have hv_7 : j2 ≤ n := hv_7
          have hv_8 : Q.R < Q2.R := hv_8
          subst hv_1
          refine lv_istore_n (lv' := [(2, .int (nI Q.R)), (1, .int 0), (0, .ref mo)]) hx hb d_Mo_basic_61 rfl hl (by decide) rfl (fun ls hl => ?_)
          refine lv_iload_n hx hb d_Mo_basic_62 rfl (lv_at hl 0 rfl) ?_
          refine lv_if_ge (tgt := 68) hx hb d_Mo_basic_63 (by decide) (fun _ => ?_) (fun h => absurd (nI_pos' (by omega)) h)
          refine lv_aload_n hx hb d_Mo_basic_68 rfl (lv_at hl 2 rfl) ?_
          have hPc := hP.sub (ws' := [(mo, .inr (13, MF 30 (rf (rs v Q2 (o + 1)) j2 b2))), (qx, .inl (cB, NN, .inl f))]) [0, 1] rfl
          have hDc := hD.sub (ws' := [(mo, .inr (13, MF 30 (rf (rs v Q2 (o + 1)) j2 b2))), (qx, .inl (cB, NN, .inl f))]) [0, 1] (by decide) rfl
          have hKc := hK.sub (tys' := [(cB, .byte)]) [0] rfl
          have hFc := va_free (wc := [(mo, .inr (13, MF 30 (rf (rs v Q2 (o + 1)) j2 b2))), (qx, .inl (cB, NN, .inl f))]) hD hS hA [0, 1] rfl
          refine va_callv (va_runV (As := []) (rest := []) ⟨hx, hb, hml, hown, hts⟩ (c_Mo_blanks l dC dI mo H (rf (rs v Q2 (o + 1)) j2 b2) cB qx NN f n j2 (by omega) (by omega) (by omega) ((rf_ne (by decide) (by decide)).trans ((rs_ne (by decide) (by decide) (by decide) (by decide)).trans h6)) rf_7 ((rf_ne (by decide) (by decide)).trans ((rs_ne (by decide) (by decide) (by decide) (by decide)).trans h8))) (cwV 0 hts (gt_V (own := R_Mo) (C := R_Mo) (i := 184) (y := y_Mo_blanks) i_Mo_blanks w_1229 w_1231 (gt_sel (y := y_Mo_blanks) (n := 30) (by decide +kernel)) w_7) rfl rfl rfl (by decide +kernel) ⟨Nat.le_trans (m := 13) (Nat.le_of_ble_eq_true rfl) (Nat.le_add_right 13 (15 + G)), Nat.le_trans (m := 500) (Nat.le_of_ble_eq_true rfl) (Nat.le_add_right 500 (600 + M))⟩) ⟨mp_blind, va_recv hKc hPc (ci := 13) (q0 := 0) rfl rfl, fun U hU hW => ⟨rfl, hU, by rw [hU]; exact hPc, va_K.moved hW.alike hKc, hDc.weaken (fun _ _ _ _ => trivial)⟩⟩ rfl rfl hl.1 rfl (lv_room (Nat.le_of_ble_eq_true rfl)) d_Mo_basic_69 ⟨hfit_Q2V2.1, hfit_Q2V2.2⟩) hS (fun q _ h => hFc q h) hFc (fun _u t9 H1 locs ht hvm hw hB hz1 hk1 hS => ?_)
          obtain ⟨hP1, hK1, hD1⟩ := hB
          rw [ht] at hP1
          obtain ⟨hP, hD⟩ := va_join (wr := [(Q2.qq, .inl (cI, (8 * Q2.C), .inl Q2.qf)), (Q2.qe, .inl (cL, (3 * Q2.C), .inr (.inl Q2.ef))), (tv, .inr (12, MF 13 (tw V2))), (V2.au, .inl (cC, V2.U, .inl V2.un))]) (w1 := [(mo, .inr (13, MF 30 (va_up (rf (rs v Q2 (o + 1)) j2 b2) 7 (.int (nI (skipH f n j2)))))), (qx, .inl (cB, NN, .inl f))]) hP hD [0, 1] [2, 3, 4, 5] rfl rfl (by decide) (by decide) hk1 hFc hP1 hD1
          generalize H1 = H at hP hS ⊢
          have hP : va_P (dC, dI) classes [(Q2.qq, .inl (cI, (8 * Q2.C), .inl Q2.qf)), (Q2.qe, .inl (cL, (3 * Q2.C), .inr (.inl Q2.ef))), (tv, .inr (12, MF 13 (tw V2))), (V2.au, .inl (cC, V2.U, .inl V2.un)), (mo, .inr (13, MF 30 (va_up (rf (rs v Q2 (o + 1)) j2 b2) 7 (.int (nI (skipH f n j2)))))), (qx, .inl (cB, NN, .inl f))] H := hP
          have hD : va_D A [(Q2.qq, .inl (cI, (8 * Q2.C), .inl Q2.qf)), (Q2.qe, .inl (cL, (3 * Q2.C), .inr (.inl Q2.ef))), (tv, .inr (12, MF 13 (tw V2))), (V2.au, .inl (cC, V2.U, .inl V2.un)), (mo, .inr (13, MF 30 (va_up (rf (rs v Q2 (o + 1)) j2 b2) 7 (.int (nI (skipH f n j2)))))), (qx, .inl (cB, NN, .inl f))] := hD
          have hP := hP.sub (ws' := [(mo, .inr (13, MF 30 (va_up (rf (rs v Q2 (o + 1)) j2 b2) 7 (.int (nI (skipH f n j2)))))), (qx, .inl (cB, NN, .inl f)), (Q2.qq, .inl (cI, (8 * Q2.C), .inl Q2.qf)), (Q2.qe, .inl (cL, (3 * Q2.C), .inr (.inl Q2.ef))), (tv, .inr (12, MF 13 (tw V2))), (V2.au, .inl (cC, V2.U, .inl V2.un))]) [4, 5, 0, 1, 2, 3] rfl
          have hD := hD.sub (ws' := [(mo, .inr (13, MF 30 (va_up (rf (rs v Q2 (o + 1)) j2 b2) 7 (.int (nI (skipH f n j2)))))), (qx, .inl (cB, NN, .inl f)), (Q2.qq, .inl (cI, (8 * Q2.C), .inl Q2.qf)), (Q2.qe, .inl (cL, (3 * Q2.C), .inr (.inl Q2.ef))), (tv, .inr (12, MF 13 (tw V2))), (V2.au, .inl (cC, V2.U, .inl V2.un))]) [4, 5, 0, 1, 2, 3] (by decide) rfl
          rw [rf_u7] at hP hD
          have hP : va_P (dC, dI) classes [(mo, .inr (13, MF 30 (rf (rs v Q2 (o + 1)) (skipH f n j2) b2))), (qx, .inl (cB, NN, .inl f)), (Q2.qq, .inl (cI, (8 * Q2.C), .inl Q2.qf)), (Q2.qe, .inl (cL, (3 * Q2.C), .inr (.inl Q2.ef))), (tv, .inr (12, MF 13 (tw V2))), (V2.au, .inl (cC, V2.U, .inl V2.un))] H := hP
          have hD : va_D A [(mo, .inr (13, MF 30 (rf (rs v Q2 (o + 1)) (skipH f n j2) b2))), (qx, .inl (cB, NN, .inl f)), (Q2.qq, .inl (cI, (8 * Q2.C), .inl Q2.qf)), (Q2.qe, .inl (cL, (3 * Q2.C), .inr (.inl Q2.ef))), (tv, .inr (12, MF 13 (tw V2))), (V2.au, .inl (cC, V2.U, .inl V2.un))] := hD
          have hsk_72 := skipH_n (f := f) (show j2 ≤ n by omega)
          refine lv_aload_n hx hb d_Mo_basic_72 rfl (lv_at hl 2 rfl) ?_
          refine lv_bipush (v := 41) hx hb d_Mo_basic_73 (by decide) ?_
          have hPc := hP.sub (ws' := [(mo, .inr (13, MF 30 (rf (rs v Q2 (o + 1)) (skipH f n j2) b2))), (qx, .inl (cB, NN, .inl f))]) [0, 1] rfl
          have hDc := hD.sub (ws' := [(mo, .inr (13, MF 30 (rf (rs v Q2 (o + 1)) (skipH f n j2) b2))), (qx, .inl (cB, NN, .inl f))]) [0, 1] (by decide) rfl
          have hKc := hK.sub (tys' := [(cB, .byte)]) [0] rfl
          have hFc := va_free (wc := [(mo, .inr (13, MF 30 (rf (rs v Q2 (o + 1)) (skipH f n j2) b2))), (qx, .inl (cB, NN, .inl f))]) hD hS hA [0, 1] rfl
          refine va_calli (va_runV (As := [.int 41]) (rest := []) ⟨hx, hb, hml, hown, hts⟩ (c_Mo_shut l dC dI mo H (rf (rs v Q2 (o + 1)) (skipH f n j2) b2) cB qx NN f n (skipH f n j2) (by omega) (by omega) (by omega) ((rf_ne (by decide) (by decide)).trans ((rs_ne (by decide) (by decide) (by decide) (by decide)).trans h6)) rf_7 ((rf_ne (by decide) (by decide)).trans ((rs_ne (by decide) (by decide) (by decide) (by decide)).trans h8)) b2 rf_9 41 o ((rf_ne (by decide) (by decide)).trans rs_23)) (cwV 1 hts (gt_V (own := R_Mo) (C := R_Mo) (i := 297) (y := y_Mo_shut) i_Mo_shut w_1447 w_1449 (gt_sel (y := y_Mo_shut) (n := 30) (by decide +kernel)) w_7) rfl rfl rfl (by decide +kernel) ⟨Nat.le_trans (m := 13) (Nat.le_of_ble_eq_true rfl) (Nat.le_add_right 13 (15 + G)), Nat.le_trans (m := 500) (Nat.le_of_ble_eq_true rfl) (Nat.le_add_right 500 (600 + M))⟩) ⟨mp_blind, va_recv hKc hPc (ci := 13) (q0 := 0) rfl rfl, fun U hU hW => ⟨rfl, hU, by rw [hU]; exact hPc, va_K.moved hW.alike hKc, hDc.weaken (fun _ _ _ _ => trivial)⟩⟩ rfl rfl hl.1 rfl (lv_room (Nat.le_of_ble_eq_true rfl)) d_Mo_basic_75 ⟨hfit_Q2V2.1, hfit_Q2V2.2⟩) hS (fun q _ h => hFc q h) hFc (fun r0 u2 t9 H1 locs ht hvm hw hB hz1 hk1 hS => ?_)
          obtain ⟨hP1, hK1, hD1⟩ := hB
          rw [ht] at hP1
          obtain ⟨hP, hD⟩ := va_join (wr := [(Q2.qq, .inl (cI, (8 * Q2.C), .inl Q2.qf)), (Q2.qe, .inl (cL, (3 * Q2.C), .inr (.inl Q2.ef))), (tv, .inr (12, MF 13 (tw V2))), (V2.au, .inl (cC, V2.U, .inl V2.un))]) (w1 := [(mo, .inr (13, MF 30 u2)), (qx, .inl (cB, NN, .inl f))]) hP hD [0, 1] [2, 3, 4, 5] rfl rfl (by decide) (by decide) hk1 hFc hP1 hD1
          generalize H1 = H at hP hS ⊢
          have hP : va_P (dC, dI) classes [(Q2.qq, .inl (cI, (8 * Q2.C), .inl Q2.qf)), (Q2.qe, .inl (cL, (3 * Q2.C), .inr (.inl Q2.ef))), (tv, .inr (12, MF 13 (tw V2))), (V2.au, .inl (cC, V2.U, .inl V2.un)), (mo, .inr (13, MF 30 u2)), (qx, .inl (cB, NN, .inl f))] H := hP
          have hD : va_D A [(Q2.qq, .inl (cI, (8 * Q2.C), .inl Q2.qf)), (Q2.qe, .inl (cL, (3 * Q2.C), .inr (.inl Q2.ef))), (tv, .inr (12, MF 13 (tw V2))), (V2.au, .inl (cC, V2.U, .inl V2.un)), (mo, .inr (13, MF 30 u2)), (qx, .inl (cB, NN, .inl f))] := hD
          have hP := hP.sub (ws' := [(mo, .inr (13, MF 30 u2)), (qx, .inl (cB, NN, .inl f)), (Q2.qq, .inl (cI, (8 * Q2.C), .inl Q2.qf)), (Q2.qe, .inl (cL, (3 * Q2.C), .inr (.inl Q2.ef))), (tv, .inr (12, MF 13 (tw V2))), (V2.au, .inl (cC, V2.U, .inl V2.un))]) [4, 5, 0, 1, 2, 3] rfl
          have hD := hD.sub (ws' := [(mo, .inr (13, MF 30 u2)), (qx, .inl (cB, NN, .inl f)), (Q2.qq, .inl (cI, (8 * Q2.C), .inl Q2.qf)), (Q2.qe, .inl (cL, (3 * Q2.C), .inr (.inl Q2.ef))), (tv, .inr (12, MF 13 (tw V2))), (V2.au, .inl (cC, V2.U, .inl V2.un))]) [4, 5, 0, 1, 2, 3] (by decide) rfl
          rcases hw with ⟨hn2, ht2, ht3⟩ | ⟨hn2, ht2, ht3⟩
          · rw [rf_u7, rs_o] at ht3
            rw [ht3] at hP hD
            subst ht2
            have hP : va_P (dC, dI) classes [(mo, .inr (13, MF 30 (rf (rs v Q2 o) ((skipH f n j2) + 1) b2))), (qx, .inl (cB, NN, .inl f)), (Q2.qq, .inl (cI, (8 * Q2.C), .inl Q2.qf)), (Q2.qe, .inl (cL, (3 * Q2.C), .inr (.inl Q2.ef))), (tv, .inr (12, MF 13 (tw V2))), (V2.au, .inl (cC, V2.U, .inl V2.un))] H := hP
            have hD : va_D A [(mo, .inr (13, MF 30 (rf (rs v Q2 o) ((skipH f n j2) + 1) b2))), (qx, .inl (cB, NN, .inl f)), (Q2.qq, .inl (cI, (8 * Q2.C), .inl Q2.qf)), (Q2.qe, .inl (cL, (3 * Q2.C), .inr (.inl Q2.ef))), (tv, .inr (12, MF 13 (tw V2))), (V2.au, .inl (cC, V2.U, .inl V2.un))] := hD
            have hlt41 := here_in hn2 (by decide)
            have hfin : baP f n ok (orL f n) (cmL f n) (qyL f n) i = some (((skipH f n j2) + 1), g9) := by rw [hbp]; exact baB_p2 h40 (fun h => absurd (hok.mpr hn1.2) (by rw [h]; decide)) hv_2 hn2
            refine lv_if_ne (tgt := 267) hx hb d_Mo_basic_78 (by decide) (fun _ => ?_) (fun h => absurd h (by decide))
            refine lv_iload_n hx hb d_Mo_basic_267 rfl (lv_at hl 1 rfl) ?_
            refine lv_if_ne (tgt := 277) hx hb d_Mo_basic_268 (by decide) (fun h => absurd h (by decide)) (fun _ => ?_)
            refine lv_aload_n hx hb d_Mo_basic_271 rfl (lv_at hl 2 rfl) ?_
            refine lv_iload_n hx hb d_Mo_basic_272 rfl (lv_at hl 0 rfl) ?_
            have hPc := hP.sub (ws' := [(mo, .inr (13, MF 30 (rf (rs v Q2 o) ((skipH f n j2) + 1) b2))), (qx, .inl (cB, NN, .inl f)), (Q2.qq, .inl (cI, (8 * Q2.C), .inl Q2.qf)), (Q2.qe, .inl (cL, (3 * Q2.C), .inr (.inl Q2.ef))), (tv, .inr (12, MF 13 (tw V2))), (V2.au, .inl (cC, V2.U, .inl V2.un))]) [0, 1, 2, 3, 4, 5] rfl
            have hDc := hD.sub (ws' := [(mo, .inr (13, MF 30 (rf (rs v Q2 o) ((skipH f n j2) + 1) b2))), (qx, .inl (cB, NN, .inl f)), (Q2.qq, .inl (cI, (8 * Q2.C), .inl Q2.qf)), (Q2.qe, .inl (cL, (3 * Q2.C), .inr (.inl Q2.ef))), (tv, .inr (12, MF 13 (tw V2))), (V2.au, .inl (cC, V2.U, .inl V2.un))]) [0, 1, 2, 3, 4, 5] (by decide) rfl
            have hKc := hK.sub (tys' := [(cB, .byte), (cI, .int), (cL, .long), (cC, .char)]) [0, 1, 2, 3] rfl
            have hFc := va_free (wc := [(mo, .inr (13, MF 30 (rf (rs v Q2 o) ((skipH f n j2) + 1) b2))), (qx, .inl (cB, NN, .inl f)), (Q2.qq, .inl (cI, (8 * Q2.C), .inl Q2.qf)), (Q2.qe, .inl (cL, (3 * Q2.C), .inr (.inl Q2.ef))), (tv, .inr (12, MF 13 (tw V2))), (V2.au, .inl (cC, V2.U, .inl V2.un))]) hD hS hA [0, 1, 2, 3, 4, 5] rfl
            refine w_same (fun hq0 => ?_)
            refine va_calli (va_runV (As := [.int (nI Q.R)]) (rest := []) ⟨hx, hb, hml, hown, hts⟩ (c_Mo_wrap l dC dI mo H v cB cI cL cC qx NN f n K tv Q2 V2 o ((skipH f n j2) + 1) b2 Q.R hnN hNN (by omega) h6 h8 h22 hQk_Q2 hTk_V2 (by omega) (by omega)) (cwV 1 hts (gt_V (own := R_Mo) (C := R_Mo) (i := 331) (y := y_Mo_wrap) i_Mo_wrap w_1472 w_1474 (gt_sel (y := y_Mo_wrap) (n := 30) (by decide +kernel)) w_7) rfl rfl rfl (by decide +kernel) ⟨Nat.le_trans (m := 13) (Nat.le_of_ble_eq_true rfl) (Nat.le_add_right 13 (15 + G)), Nat.le_trans (m := 500) (Nat.le_of_ble_eq_true rfl) (Nat.le_add_right 500 (600 + M))⟩) ⟨me_blind, va_recv hKc hPc (ci := 13) (q0 := 0) rfl rfl, fun U hU hW => ⟨rfl, ⟨hU, by rw [hU]; exact hPc, va_K.moved hW.alike hKc, hDc.weaken (fun _ _ _ _ => trivial)⟩, by rw [hU]; exact ME.call hM hS.2.1 hFc hW⟩⟩ rfl rfl hl.1 rfl (lv_room (Nat.le_of_ble_eq_true rfl)) d_Mo_basic_273 ⟨(hG_Q2V2.step (B2 := Q2.R + 8 * (n - ((skipH f n j2) + 1)) + 1) (C2 := V2.us + (n + 12 - ((skipH f n j2) + 1))) (by omega) (by omega)).1, (hG_Q2V2.step (B2 := Q2.R + 8 * (n - ((skipH f n j2) + 1)) + 1) (C2 := V2.us + (n + 12 - ((skipH f n j2) + 1))) (by omega) (by omega)).2⟩) hS (fun q _ h => hFc q h) hFc (fun r0 Qw t9 H1 locs ht hvm hw hB hz1 hk1 hS => ?_)
            obtain ⟨⟨hP1, hK1, hD1⟩, hz9⟩ := hB
            rw [ht] at hP1
            rw [ht] at hz9
            obtain ⟨hr0, hQk_Qw, hGn, hR_Qw, hE_Qw, hk_w, hl_w, hf_w⟩ := hw
            have hQk_Qw : QOK Qw := hQk_Qw
            have hR_Qw : Qw.R = Q2.R + 1 := hR_Qw
            obtain ⟨hG_QwV2, hGc, hGs⟩ := hG_Q2V2.tr hGn (by omega) (by omega)
            have hz9 : szk H H1 (cQ Q2 V2 Qw V2) (sQ Q2 V2 Qw V2) := hz9
            have hq1 : szk s.heap H1 (cQ Q V Qw V2) (sQ Q V Qw V2) := (hq0.trans hz9).mono hGc hGs
            refine w_tight hq1 ?_
            obtain ⟨hP, hD⟩ := va_join (wr := []) (w1 := [(mo, .inr (13, MF 30 (rf (rs v Qw o) ((skipH f n j2) + 1) b2))), (qx, .inl (cB, NN, .inl f)), (Qw.qq, .inl (cI, (8 * Qw.C), .inl Qw.qf)), (Qw.qe, .inl (cL, (3 * Qw.C), .inr (.inl Qw.ef))), (tv, .inr (12, MF 13 (tw V2))), (V2.au, .inl (cC, V2.U, .inl V2.un))]) hP hD [0, 1, 2, 3, 4, 5] [] rfl rfl (by decide) (by decide) hk1 hFc hP1 hD1
            generalize H1 = H at hP hS ⊢
            have hP : va_P (dC, dI) classes [(mo, .inr (13, MF 30 (rf (rs v Qw o) ((skipH f n j2) + 1) b2))), (qx, .inl (cB, NN, .inl f)), (Qw.qq, .inl (cI, (8 * Qw.C), .inl Qw.qf)), (Qw.qe, .inl (cL, (3 * Qw.C), .inr (.inl Qw.ef))), (tv, .inr (12, MF 13 (tw V2))), (V2.au, .inl (cC, V2.U, .inl V2.un))] H := hP
            have hD : va_D A [(mo, .inr (13, MF 30 (rf (rs v Qw o) ((skipH f n j2) + 1) b2))), (qx, .inl (cB, NN, .inl f)), (Qw.qq, .inl (cI, (8 * Qw.C), .inl Qw.qf)), (Qw.qe, .inl (cL, (3 * Qw.C), .inr (.inl Qw.ef))), (tv, .inr (12, MF 13 (tw V2))), (V2.au, .inl (cC, V2.U, .inl V2.un))] := hD
            have hP := hP.sub (ws' := [(mo, .inr (13, MF 30 (rf (rs v Qw o) ((skipH f n j2) + 1) b2))), (qx, .inl (cB, NN, .inl f)), (tv, .inr (12, MF 13 (tw V2))), (V2.au, .inl (cC, V2.U, .inl V2.un)), (Qw.qq, .inl (cI, (8 * Qw.C), .inl Qw.qf)), (Qw.qe, .inl (cL, (3 * Qw.C), .inr (.inl Qw.ef)))]) [0, 1, 4, 5, 2, 3] rfl
            have hD := hD.sub (ws' := [(mo, .inr (13, MF 30 (rf (rs v Qw o) ((skipH f n j2) + 1) b2))), (qx, .inl (cB, NN, .inl f)), (tv, .inr (12, MF 13 (tw V2))), (V2.au, .inl (cC, V2.U, .inl V2.un)), (Qw.qq, .inl (cI, (8 * Qw.C), .inl Qw.qf)), (Qw.qe, .inl (cL, (3 * Qw.C), .inr (.inl Qw.ef)))]) [0, 1, 4, 5, 2, 3] (by decide) rfl
            have hP := hP.sub (ws' := [(mo, .inr (13, MF 30 (rf (rs v Qw o) ((skipH f n j2) + 1) b2))), (qx, .inl (cB, NN, .inl f)), (Qw.qq, .inl (cI, (8 * Qw.C), .inl Qw.qf)), (Qw.qe, .inl (cL, (3 * Qw.C), .inr (.inl Qw.ef))), (tv, .inr (12, MF 13 (tw V2))), (V2.au, .inl (cC, V2.U, .inl V2.un))]) [0, 1, 4, 5, 2, 3] rfl
            have hD := hD.sub (ws' := [(mo, .inr (13, MF 30 (rf (rs v Qw o) ((skipH f n j2) + 1) b2))), (qx, .inl (cB, NN, .inl f)), (Qw.qq, .inl (cI, (8 * Qw.C), .inl Qw.qf)), (Qw.qe, .inl (cL, (3 * Qw.C), .inr (.inl Qw.ef))), (tv, .inr (12, MF 13 (tw V2))), (V2.au, .inl (cC, V2.U, .inl V2.un))]) [0, 1, 4, 5, 2, 3] (by decide) rfl
            have hr0 : r0 = nI Q2.R := hr0
            subst hr0
            have hqb_QwV2 : Qw.R ≤ Qw.C ∧ Qw.C ≤ 100000 := ⟨hQk_Qw.2.2.1, hQk_Qw.2.1⟩
            have hfit_QwV2 := hG_QwV2.fits
            have hE_Qw : alr Q2 V2 Qw V2 0 Q2.R := hE_Qw
            have hkw : Qw.qf (8 * Q2.R + 0) = 35 := hk_w
            have hlw : Qw.qf (8 * Q2.R + 1) = -1 := hl_w
            have hfw : Qw.qf (8 * Q2.R + 2) = nI Q.R := hf_w
            have holdw : alr Q2 V2 Qw V2 0 Q2.R := hE_Qw
            have hWw : Wth O Qw V2 Q.R Qw.R Q2.R Q.R g9 := Wth_up hOf hv_3 (Nat.le_refl _) (by omega) (by omega) (holdw.sub (Nat.zero_le _) (Nat.le_refl _))
            have hB : BASf O C Y Qw V2 Q.R Qw.R Q2.R (g9) := ⟨by omega, by omega, Or.inr (Or.inr ⟨hkw, Q.R, g9, hfw, Or.inl hWw, rfl⟩)⟩
            have hExw : alr Q V Qw V2 0 Q.R := hv_4.tr (holdw.sub (Nat.le_refl _) (by omega))
            refine w_same (fun hq => ?_)
            refine W.widen (k := kcap Q (Q.R + 8 * (n - i) + 1) + qcap V (V.us + (n + 12 - i))) (n := 22 * kcap Q (Q.R + 8 * (n - i) + 1) + 2 * qcap V (V.us + (n + 12 - i))) hfit_QwV2.1 hfit_QwV2.2 ?_
            have hPo : QPo n i 1 Q V (Qw, V2, ((skipH f n j2) + 1), b2, o) := ⟨hQk_Qw, hG_QwV2, ⟨_, hX_V2, by omega⟩, by show Q.R ≤ Qw.R; omega, by show Qw.R ≤ Q.R + 8 * (n - i) + 1; omega⟩
            exact W.iret (v := nI Q2.R) hx hb hr (fun t9 ht hW => ⟨⟨nI Q2.R, (Qw, V2, ((skipH f n j2) + 1), b2, o), rfl, ⟨hPo, Or.inl ⟨Q2.R, g9, rfl, hfin, hB, by show Q2.R < Qw.R; omega, hlw, hExw, by show Qw.R + 8 * i + 5 ≤ Q.R + 8 * ((skipH f n j2) + 1); omega, by show V2.us + i ≤ V.us + ((skipH f n j2) + 1); omega, by show ((skipH f n j2) + 1) ≤ n; omega, by show Q.R < Qw.R; omega, rfl⟩⟩, ⟨by rw [ht]; exact hP, va_K.moved hW.alike hK, hD⟩, by rw [ht]; exact hq⟩, hS.F ht⟩) hS.2.2 d_Mo_basic_276
          · obtain ⟨b6, h_b6⟩ := rf_fail (v := (rs v Q2 (o + 1))) (i := (skipH f n j2)) (br := b2) (b2 := b2) (wh := nI (skipH f n j2))
            rw [h_b6] at ht3
            rw [ht3] at hP hD
            subst ht2
            have hP : va_P (dC, dI) classes [(mo, .inr (13, MF 30 (rf (rs v Q2 (o + 1)) (skipH f n j2) b6))), (qx, .inl (cB, NN, .inl f)), (Q2.qq, .inl (cI, (8 * Q2.C), .inl Q2.qf)), (Q2.qe, .inl (cL, (3 * Q2.C), .inr (.inl Q2.ef))), (tv, .inr (12, MF 13 (tw V2))), (V2.au, .inl (cC, V2.U, .inl V2.un))] H := hP
            have hD : va_D A [(mo, .inr (13, MF 30 (rf (rs v Q2 (o + 1)) (skipH f n j2) b6))), (qx, .inl (cB, NN, .inl f)), (Q2.qq, .inl (cI, (8 * Q2.C), .inl Q2.qf)), (Q2.qe, .inl (cL, (3 * Q2.C), .inr (.inl Q2.ef))), (tv, .inr (12, MF 13 (tw V2))), (V2.au, .inl (cC, V2.U, .inl V2.un))] := hD
            refine lv_if_ne (tgt := 267) hx hb d_Mo_basic_78 (by decide) (fun h => absurd h (by decide)) (fun _ => ?_)
            refine lv_iconst (v := (-1)) hx hb d_Mo_basic_81 (by decide) ?_
            have hfin : baP f n ok (orL f n) (cmL f n) (qyL f n) i = none := by rw [hbp]; exact baB_p3 h40 (fun h => absurd (hok.mpr hn1.2) (by rw [h]; decide)) hv_2 hn2
            refine w_same (fun hq => ?_)
            refine W.widen (k := kcap Q (Q.R + 8 * (n - i) + 1) + qcap V (V.us + (n + 12 - i))) (n := 22 * kcap Q (Q.R + 8 * (n - i) + 1) + 2 * qcap V (V.us + (n + 12 - i))) hfit_Q2V2.1 hfit_Q2V2.2 ?_
            have hPo : QPo n i 1 Q V (Q2, V2, (skipH f n j2), b6, (o + 1)) := ⟨hQk_Q2, hG_Q2V2, ⟨_, hX_V2, by omega⟩, by show Q.R ≤ Q2.R; omega, by show Q2.R ≤ Q.R + 8 * (n - i) + 1; omega⟩
            exact W.iret (v := -1) hx hb hr (fun t9 ht hW => ⟨⟨-1, (Q2, V2, (skipH f n j2), b6, (o + 1)), rfl, ⟨hPo, Or.inr ⟨rfl, hfin⟩⟩, ⟨by rw [ht]; exact hP, va_K.moved hW.alike hK, hD⟩, by rw [ht]; exact hq⟩, hS.F ht⟩) hS.2.2 d_Mo_basic_82
        · have hv_2 : orL f n (skipH f n (i + 1)) = none := hv_2
          subst hv_1
          refine lv_istore_n (lv' := [(2, .int (-1)), (1, .int 0), (0, .ref mo)]) hx hb d_Mo_basic_61 rfl hl (by decide) rfl (fun ls hl => ?_)
          refine lv_iload_n hx hb d_Mo_basic_62 rfl (lv_at hl 0 rfl) ?_
          refine lv_if_ge (tgt := 68) hx hb d_Mo_basic_63 (by decide) (fun h => absurd h (by decide)) (fun _ => ?_)
          refine lv_iconst (v := (-1)) hx hb d_Mo_basic_66 (by decide) ?_
          have hfin : baP f n ok (orL f n) (cmL f n) (qyL f n) i = none := by rw [hbp]; exact baB_p1 h40 (fun h => absurd (hok.mpr hn1.2) (by rw [h]; decide)) hv_2
          refine w_same (fun hq => ?_)
          refine W.widen (k := kcap Q (Q.R + 8 * (n - i) + 1) + qcap V (V.us + (n + 12 - i))) (n := 22 * kcap Q (Q.R + 8 * (n - i) + 1) + 2 * qcap V (V.us + (n + 12 - i))) hfit_Q2V2.1 hfit_Q2V2.2 ?_
          have hPo : QPo n i 1 Q V (Q2, V2, j2, b2, o2) := ⟨hQk_Q2, hG_Q2V2, ⟨_, hX_V2, by omega⟩, by show Q.R ≤ Q2.R; omega, by show Q2.R ≤ Q.R + 8 * (n - i) + 1; omega⟩
          exact W.iret (v := -1) hx hb hr (fun t9 ht hW => ⟨⟨-1, (Q2, V2, j2, b2, o2), rfl, ⟨hPo, Or.inr ⟨rfl, hfin⟩⟩, ⟨by rw [ht]; exact hP, va_K.moved hW.alike hK, hD⟩, by rw [ht]; exact hq⟩, hS.F ht⟩) hS.2.2 d_Mo_basic_67
      · obtain ⟨b5, h_b5⟩ := rf_fail (v := (rs v Q o)) (i := i) (br := br) (b2 := br) (wh := nI i)
        rw [h_b5] at ht3
        rw [ht3] at hP hD
        subst ht2
        have hP : va_P (dC, dI) classes [(mo, .inr (13, MF 30 (rf (rs v Q o) i b5))), (qx, .inl (cB, NN, .inl f)), (Q.qq, .inl (cI, (8 * Q.C), .inl Q.qf)), (Q.qe, .inl (cL, (3 * Q.C), .inr (.inl Q.ef))), (tv, .inr (12, MF 13 (tw V))), (V.au, .inl (cC, V.U, .inl V.un))] H := hP
        have hD : va_D A [(mo, .inr (13, MF 30 (rf (rs v Q o) i b5))), (qx, .inl (cB, NN, .inl f)), (Q.qq, .inl (cI, (8 * Q.C), .inl Q.qf)), (Q.qe, .inl (cL, (3 * Q.C), .inr (.inl Q.ef))), (tv, .inr (12, MF 13 (tw V))), (V.au, .inl (cC, V.U, .inl V.un))] := hD
        refine lv_if_ne (tgt := 53) hx hb d_Mo_basic_48 (by decide) (fun h => absurd h (by decide)) (fun _ => ?_)
        refine lv_iconst (v := (-1)) hx hb d_Mo_basic_51 (by decide) ?_
        have hfin : baP f n ok (orL f n) (cmL f n) (qyL f n) i = none := by rw [hbp]; exact baB_p0 h40 (Bool.eq_false_iff.mpr (fun h => hn1 ⟨h40, hok.mp h⟩))
        refine w_same (fun hq => ?_)
        refine W.widen (k := kcap Q (Q.R + 8 * (n - i) + 1) + qcap V (V.us + (n + 12 - i))) (n := 22 * kcap Q (Q.R + 8 * (n - i) + 1) + 2 * qcap V (V.us + (n + 12 - i))) hfit_QV.1 hfit_QV.2 ?_
        have hPo : QPo n i 1 Q V (Q, V, i, b5, o) := ⟨hQk_Q, hG_QV, ⟨[], TX.rf hTk_V, Nat.zero_le _⟩, by show Q.R ≤ Q.R; omega, by show Q.R ≤ Q.R + 8 * (n - i) + 1; omega⟩
        exact W.iret (v := -1) hx hb hr (fun t9 ht hW => ⟨⟨-1, (Q, V, i, b5, o), rfl, ⟨hPo, Or.inr ⟨rfl, hfin⟩⟩, ⟨by rw [ht]; exact hP, va_K.moved hW.alike hK, hD⟩, by rw [ht]; exact hq⟩, hS.F ht⟩) hS.2.2 d_Mo_basic_52
  · refine lv_iconst (v := 1) hx hb d_Mo_basic_9 (by decide) ?_
    refine lv_goto (tgt := 14) hx hb d_Mo_basic_10 (by decide) ?_
    refine lv_istore_n (lv' := [(1, .int 1), (0, .ref mo)]) hx hb d_Mo_basic_14 rfl hl (by decide) rfl (fun ls hl => ?_)
    refine lv_iload_n hx hb d_Mo_basic_15 rfl (lv_at hl 0 rfl) ?_
    refine lv_if_eq (tgt := 33) hx hb d_Mo_basic_16 (by decide) (fun h => absurd h (by decide)) (fun _ => ?_)
    refine lv_aload_n hx hb d_Mo_basic_19 rfl (lv_at hl 1 rfl) ?_
    refine lv_dup hx hb d_Mo_basic_20 rfl ?_
    refine va_get (D := (dC, dI)) (ci := 13) (v := .int (nI i)) (C := R_Mo) (T := F_Mo) (N := 30) hx hb hts in_Mo hown hK hP 0 rfl rfl 7 (by decide) (hts _ w_1096) (fun _ h9 => h9) (MFg (by decide) rf_7) d_Mo_basic_21 ?_
    refine lv_iconst (v := 1) hx hb d_Mo_basic_24 (by decide) ?_
    refine lv_iadd hx hb d_Mo_basic_25 ?_
    have hlt0 := here_in (h_r1.symm.trans c6) (by decide)
    refine W.eq (g2 := F0 m 26 ls [.int (nI (i + 1)), .ref mo]) (by rw [show ((nI i) + 1) = (nI (i + 1)) from nI_1 _]) ?_
    refine va_put (D := (dC, dI)) (ci := 13) (v := .int (nI (i + 1))) (ty := .int) (C := R_Mo) (T := F_Mo) (N := 30) hx hb hts in_Mo t_Mo t_Mo_ok n_Mo hown hK hP hD hS 0 rfl rfl 7 (by decide) (hts _ w_1096) (fun _ h9 => h9) rfl (by decide +kernel) rfl rfl (by rw [MFl]; decide) d_Mo_basic_26 (fun H locs hP hD hS => ?_)
    rw [MFs (n := 30) (k := 7) (by decide)] at hP hD
    have hP : va_P (dC, dI) classes [(mo, .inr (13, MF 30 (va_up (rf (rs v Q o) i br) 7 (.int (nI (i + 1)))))), (qx, .inl (cB, NN, .inl f)), (Q.qq, .inl (cI, (8 * Q.C), .inl Q.qf)), (Q.qe, .inl (cL, (3 * Q.C), .inr (.inl Q.ef))), (tv, .inr (12, MF 13 (tw V))), (V.au, .inl (cC, V.U, .inl V.un))] H := hP
    have hD : va_D A [(mo, .inr (13, MF 30 (va_up (rf (rs v Q o) i br) 7 (.int (nI (i + 1)))))), (qx, .inl (cB, NN, .inl f)), (Q.qq, .inl (cI, (8 * Q.C), .inl Q.qf)), (Q.qe, .inl (cL, (3 * Q.C), .inr (.inl Q.ef))), (tv, .inr (12, MF 13 (tw V))), (V.au, .inl (cC, V.U, .inl V.un))] := hD
    rw [rf_u7] at hP hD
    have hP : va_P (dC, dI) classes [(mo, .inr (13, MF 30 (rf (rs v Q o) (i + 1) br))), (qx, .inl (cB, NN, .inl f)), (Q.qq, .inl (cI, (8 * Q.C), .inl Q.qf)), (Q.qe, .inl (cL, (3 * Q.C), .inr (.inl Q.ef))), (tv, .inr (12, MF 13 (tw V))), (V.au, .inl (cC, V.U, .inl V.un))] H := hP
    have hD : va_D A [(mo, .inr (13, MF 30 (rf (rs v Q o) (i + 1) br))), (qx, .inl (cB, NN, .inl f)), (Q.qq, .inl (cI, (8 * Q.C), .inl Q.qf)), (Q.qe, .inl (cL, (3 * Q.C), .inr (.inl Q.ef))), (tv, .inr (12, MF 13 (tw V))), (V.au, .inl (cC, V.U, .inl V.un))] := hD
    refine lv_aload_n hx hb d_Mo_basic_29 rfl (lv_at hl 1 rfl) ?_
    have hPc := hP.sub (ws' := [(mo, .inr (13, MF 30 (rf (rs v Q o) (i + 1) br))), (qx, .inl (cB, NN, .inl f))]) [0, 1] rfl
    have hDc := hD.sub (ws' := [(mo, .inr (13, MF 30 (rf (rs v Q o) (i + 1) br))), (qx, .inl (cB, NN, .inl f))]) [0, 1] (by decide) rfl
    have hKc := hK.sub (tys' := [(cB, .byte)]) [0] rfl
    have hFc := va_free (wc := [(mo, .inr (13, MF 30 (rf (rs v Q o) (i + 1) br))), (qx, .inl (cB, NN, .inl f))]) hD hS hA [0, 1] rfl
    refine va_callv (va_runV (As := []) (rest := []) ⟨hx, hb, hml, hown, hts⟩ (c_Mo_blanks l dC dI mo H (rf (rs v Q o) (i + 1) br) cB qx NN f n (i + 1) (by omega) (by omega) (by omega) ((rf_ne (by decide) (by decide)).trans ((rs_ne (by decide) (by decide) (by decide) (by decide)).trans h6)) rf_7 ((rf_ne (by decide) (by decide)).trans ((rs_ne (by decide) (by decide) (by decide) (by decide)).trans h8))) (cwV 0 hts (gt_V (own := R_Mo) (C := R_Mo) (i := 184) (y := y_Mo_blanks) i_Mo_blanks w_1229 w_1231 (gt_sel (y := y_Mo_blanks) (n := 30) (by decide +kernel)) w_7) rfl rfl rfl (by decide +kernel) ⟨Nat.le_trans (m := 13) (Nat.le_of_ble_eq_true rfl) (Nat.le_add_right 13 (15 + G)), Nat.le_trans (m := 500) (Nat.le_of_ble_eq_true rfl) (Nat.le_add_right 500 (600 + M))⟩) ⟨mp_blind, va_recv hKc hPc (ci := 13) (q0 := 0) rfl rfl, fun U hU hW => ⟨rfl, hU, by rw [hU]; exact hPc, va_K.moved hW.alike hKc, hDc.weaken (fun _ _ _ _ => trivial)⟩⟩ rfl rfl hl.1 rfl (lv_room (Nat.le_of_ble_eq_true rfl)) d_Mo_basic_30 ⟨hfit_QV.1, hfit_QV.2⟩) hS (fun q _ h => hFc q h) hFc (fun _u t9 H1 locs ht hvm hw hB hz1 hk1 hS => ?_)
    obtain ⟨hP1, hK1, hD1⟩ := hB
    rw [ht] at hP1
    obtain ⟨hP, hD⟩ := va_join (wr := [(Q.qq, .inl (cI, (8 * Q.C), .inl Q.qf)), (Q.qe, .inl (cL, (3 * Q.C), .inr (.inl Q.ef))), (tv, .inr (12, MF 13 (tw V))), (V.au, .inl (cC, V.U, .inl V.un))]) (w1 := [(mo, .inr (13, MF 30 (va_up (rf (rs v Q o) (i + 1) br) 7 (.int (nI (skipH f n (i + 1))))))), (qx, .inl (cB, NN, .inl f))]) hP hD [0, 1] [2, 3, 4, 5] rfl rfl (by decide) (by decide) hk1 hFc hP1 hD1
    generalize H1 = H at hP hS ⊢
    have hP : va_P (dC, dI) classes [(Q.qq, .inl (cI, (8 * Q.C), .inl Q.qf)), (Q.qe, .inl (cL, (3 * Q.C), .inr (.inl Q.ef))), (tv, .inr (12, MF 13 (tw V))), (V.au, .inl (cC, V.U, .inl V.un)), (mo, .inr (13, MF 30 (va_up (rf (rs v Q o) (i + 1) br) 7 (.int (nI (skipH f n (i + 1))))))), (qx, .inl (cB, NN, .inl f))] H := hP
    have hD : va_D A [(Q.qq, .inl (cI, (8 * Q.C), .inl Q.qf)), (Q.qe, .inl (cL, (3 * Q.C), .inr (.inl Q.ef))), (tv, .inr (12, MF 13 (tw V))), (V.au, .inl (cC, V.U, .inl V.un)), (mo, .inr (13, MF 30 (va_up (rf (rs v Q o) (i + 1) br) 7 (.int (nI (skipH f n (i + 1))))))), (qx, .inl (cB, NN, .inl f))] := hD
    have hP := hP.sub (ws' := [(mo, .inr (13, MF 30 (va_up (rf (rs v Q o) (i + 1) br) 7 (.int (nI (skipH f n (i + 1))))))), (qx, .inl (cB, NN, .inl f)), (Q.qq, .inl (cI, (8 * Q.C), .inl Q.qf)), (Q.qe, .inl (cL, (3 * Q.C), .inr (.inl Q.ef))), (tv, .inr (12, MF 13 (tw V))), (V.au, .inl (cC, V.U, .inl V.un))]) [4, 5, 0, 1, 2, 3] rfl
    have hD := hD.sub (ws' := [(mo, .inr (13, MF 30 (va_up (rf (rs v Q o) (i + 1) br) 7 (.int (nI (skipH f n (i + 1))))))), (qx, .inl (cB, NN, .inl f)), (Q.qq, .inl (cI, (8 * Q.C), .inl Q.qf)), (Q.qe, .inl (cL, (3 * Q.C), .inr (.inl Q.ef))), (tv, .inr (12, MF 13 (tw V))), (V.au, .inl (cC, V.U, .inl V.un))]) [4, 5, 0, 1, 2, 3] (by decide) rfl
    rw [rf_u7] at hP hD
    have hP : va_P (dC, dI) classes [(mo, .inr (13, MF 30 (rf (rs v Q o) (skipH f n (i + 1)) br))), (qx, .inl (cB, NN, .inl f)), (Q.qq, .inl (cI, (8 * Q.C), .inl Q.qf)), (Q.qe, .inl (cL, (3 * Q.C), .inr (.inl Q.ef))), (tv, .inr (12, MF 13 (tw V))), (V.au, .inl (cC, V.U, .inl V.un))] H := hP
    have hD : va_D A [(mo, .inr (13, MF 30 (rf (rs v Q o) (skipH f n (i + 1)) br))), (qx, .inl (cB, NN, .inl f)), (Q.qq, .inl (cI, (8 * Q.C), .inl Q.qf)), (Q.qe, .inl (cL, (3 * Q.C), .inr (.inl Q.ef))), (tv, .inr (12, MF 13 (tw V))), (V.au, .inl (cC, V.U, .inl V.un))] := hD
    have hsk_33 := skipH_n (f := f) (show (i + 1) ≤ n by omega)
    have hbp : baP f n ok (orL f n) (cmL f n) (qyL f n) i = baB f n ok (orL f n) (cmL f n) (qyL f n) true (skipH f n (i + 1)) := baP_y (h_r1.symm.trans c6)
    have hi1 : i ≤ (skipH f n (i + 1)) ∧ (skipH f n (i + 1)) ≤ n := by omega
    refine lv_aload_n hx hb d_Mo_basic_33 rfl (lv_at hl 1 rfl) ?_
    have hPc := hP.sub (ws' := [(mo, .inr (13, MF 30 (rf (rs v Q o) (skipH f n (i + 1)) br))), (qx, .inl (cB, NN, .inl f))]) [0, 1] rfl
    have hDc := hD.sub (ws' := [(mo, .inr (13, MF 30 (rf (rs v Q o) (skipH f n (i + 1)) br))), (qx, .inl (cB, NN, .inl f))]) [0, 1] (by decide) rfl
    have hKc := hK.sub (tys' := [(cB, .byte)]) [0] rfl
    have hFc := va_free (wc := [(mo, .inr (13, MF 30 (rf (rs v Q o) (skipH f n (i + 1)) br))), (qx, .inl (cB, NN, .inl f))]) hD hS hA [0, 1] rfl
    refine va_calli (va_runV (As := []) (rest := []) ⟨hx, hb, hml, hown, hts⟩ (c_Mo_c l dC dI mo H (rf (rs v Q o) (skipH f n (i + 1)) br) cB qx NN f n (skipH f n (i + 1)) (by omega) (by omega) (by omega) ((rf_ne (by decide) (by decide)).trans ((rs_ne (by decide) (by decide) (by decide) (by decide)).trans h6)) rf_7 ((rf_ne (by decide) (by decide)).trans ((rs_ne (by decide) (by decide) (by decide) (by decide)).trans h8))) (cwV 0 hts (gt_V (own := R_Mo) (C := R_Mo) (i := 147) (y := y_Mo_c) i_Mo_c w_1233 w_1235 (gt_sel (y := y_Mo_c) (n := 30) (by decide +kernel)) w_7) rfl rfl rfl (by decide +kernel) ⟨Nat.le_trans (m := 13) (Nat.le_of_ble_eq_true rfl) (Nat.le_add_right 13 (15 + G)), Nat.le_trans (m := 500) (Nat.le_of_ble_eq_true rfl) (Nat.le_add_right 500 (600 + M))⟩) ⟨mp_blind, va_recv hKc hPc (ci := 13) (q0 := 0) rfl rfl, fun U hU hW => ⟨rfl, hU, by rw [hU]; exact hPc, va_K.moved hW.alike hKc, hDc.weaken (fun _ _ _ _ => trivial)⟩⟩ rfl rfl hl.1 rfl (lv_room (Nat.le_of_ble_eq_true rfl)) d_Mo_basic_34 ⟨hfit_QV.1, hfit_QV.2⟩) hS (fun q _ h => hFc q h) hFc (fun r2 _u t9 H1 locs ht hvm hw hB hz1 hk1 hS => ?_)
    obtain ⟨hP1, hK1, hD1⟩ := hB
    rw [ht] at hP1
    obtain ⟨hP, hD⟩ := va_join (wr := [(Q.qq, .inl (cI, (8 * Q.C), .inl Q.qf)), (Q.qe, .inl (cL, (3 * Q.C), .inr (.inl Q.ef))), (tv, .inr (12, MF 13 (tw V))), (V.au, .inl (cC, V.U, .inl V.un))]) (w1 := [(mo, .inr (13, MF 30 (rf (rs v Q o) (skipH f n (i + 1)) br))), (qx, .inl (cB, NN, .inl f))]) hP hD [0, 1] [2, 3, 4, 5] rfl rfl (by decide) (by decide) hk1 hFc hP1 hD1
    generalize H1 = H at hP hS ⊢
    have hP : va_P (dC, dI) classes [(Q.qq, .inl (cI, (8 * Q.C), .inl Q.qf)), (Q.qe, .inl (cL, (3 * Q.C), .inr (.inl Q.ef))), (tv, .inr (12, MF 13 (tw V))), (V.au, .inl (cC, V.U, .inl V.un)), (mo, .inr (13, MF 30 (rf (rs v Q o) (skipH f n (i + 1)) br))), (qx, .inl (cB, NN, .inl f))] H := hP
    have hD : va_D A [(Q.qq, .inl (cI, (8 * Q.C), .inl Q.qf)), (Q.qe, .inl (cL, (3 * Q.C), .inr (.inl Q.ef))), (tv, .inr (12, MF 13 (tw V))), (V.au, .inl (cC, V.U, .inl V.un)), (mo, .inr (13, MF 30 (rf (rs v Q o) (skipH f n (i + 1)) br))), (qx, .inl (cB, NN, .inl f))] := hD
    have hP := hP.sub (ws' := [(mo, .inr (13, MF 30 (rf (rs v Q o) (skipH f n (i + 1)) br))), (qx, .inl (cB, NN, .inl f)), (Q.qq, .inl (cI, (8 * Q.C), .inl Q.qf)), (Q.qe, .inl (cL, (3 * Q.C), .inr (.inl Q.ef))), (tv, .inr (12, MF 13 (tw V))), (V.au, .inl (cC, V.U, .inl V.un))]) [4, 5, 0, 1, 2, 3] rfl
    have hD := hD.sub (ws' := [(mo, .inr (13, MF 30 (rf (rs v Q o) (skipH f n (i + 1)) br))), (qx, .inl (cB, NN, .inl f)), (Q.qq, .inl (cI, (8 * Q.C), .inl Q.qf)), (Q.qe, .inl (cL, (3 * Q.C), .inr (.inl Q.ef))), (tv, .inr (12, MF 13 (tw V))), (V.au, .inl (cC, V.U, .inl V.un))]) [4, 5, 0, 1, 2, 3] (by decide) rfl
    have h_r2 : r2 = hereV f n (skipH f n (i + 1)) := hw
    refine lv_bipush (v := 40) hx hb d_Mo_basic_37 (by decide) ?_
    refine lv_icmp_ne (tgt := 83) hx hb d_Mo_basic_39 (by decide) (fun c39 => ?_) (fun c39 => ?_)
    · have hn40 : ¬ hereV f n (skipH f n (i + 1)) = 40 := fun h => c39 (h_r2.trans h)
      refine lv_aload_n hx hb d_Mo_basic_83 rfl (lv_at hl 1 rfl) ?_
      have hPc := hP.sub (ws' := [(mo, .inr (13, MF 30 (rf (rs v Q o) (skipH f n (i + 1)) br))), (qx, .inl (cB, NN, .inl f))]) [0, 1] rfl
      have hDc := hD.sub (ws' := [(mo, .inr (13, MF 30 (rf (rs v Q o) (skipH f n (i + 1)) br))), (qx, .inl (cB, NN, .inl f))]) [0, 1] (by decide) rfl
      have hKc := hK.sub (tys' := [(cB, .byte)]) [0] rfl
      have hFc := va_free (wc := [(mo, .inr (13, MF 30 (rf (rs v Q o) (skipH f n (i + 1)) br))), (qx, .inl (cB, NN, .inl f))]) hD hS hA [0, 1] rfl
      refine va_calli (va_runV (As := []) (rest := []) ⟨hx, hb, hml, hown, hts⟩ (c_Mo_c l dC dI mo H (rf (rs v Q o) (skipH f n (i + 1)) br) cB qx NN f n (skipH f n (i + 1)) (by omega) (by omega) (by omega) ((rf_ne (by decide) (by decide)).trans ((rs_ne (by decide) (by decide) (by decide) (by decide)).trans h6)) rf_7 ((rf_ne (by decide) (by decide)).trans ((rs_ne (by decide) (by decide) (by decide) (by decide)).trans h8))) (cwV 0 hts (gt_V (own := R_Mo) (C := R_Mo) (i := 147) (y := y_Mo_c) i_Mo_c w_1233 w_1235 (gt_sel (y := y_Mo_c) (n := 30) (by decide +kernel)) w_7) rfl rfl rfl (by decide +kernel) ⟨Nat.le_trans (m := 13) (Nat.le_of_ble_eq_true rfl) (Nat.le_add_right 13 (15 + G)), Nat.le_trans (m := 500) (Nat.le_of_ble_eq_true rfl) (Nat.le_add_right 500 (600 + M))⟩) ⟨mp_blind, va_recv hKc hPc (ci := 13) (q0 := 0) rfl rfl, fun U hU hW => ⟨rfl, hU, by rw [hU]; exact hPc, va_K.moved hW.alike hKc, hDc.weaken (fun _ _ _ _ => trivial)⟩⟩ rfl rfl hl.1 rfl (lv_room (Nat.le_of_ble_eq_true rfl)) d_Mo_basic_84 ⟨hfit_QV.1, hfit_QV.2⟩) hS (fun q _ h => hFc q h) hFc (fun r3 _u t9 H1 locs ht hvm hw hB hz1 hk1 hS => ?_)
      obtain ⟨hP1, hK1, hD1⟩ := hB
      rw [ht] at hP1
      obtain ⟨hP, hD⟩ := va_join (wr := [(Q.qq, .inl (cI, (8 * Q.C), .inl Q.qf)), (Q.qe, .inl (cL, (3 * Q.C), .inr (.inl Q.ef))), (tv, .inr (12, MF 13 (tw V))), (V.au, .inl (cC, V.U, .inl V.un))]) (w1 := [(mo, .inr (13, MF 30 (rf (rs v Q o) (skipH f n (i + 1)) br))), (qx, .inl (cB, NN, .inl f))]) hP hD [0, 1] [2, 3, 4, 5] rfl rfl (by decide) (by decide) hk1 hFc hP1 hD1
      generalize H1 = H at hP hS ⊢
      have hP : va_P (dC, dI) classes [(Q.qq, .inl (cI, (8 * Q.C), .inl Q.qf)), (Q.qe, .inl (cL, (3 * Q.C), .inr (.inl Q.ef))), (tv, .inr (12, MF 13 (tw V))), (V.au, .inl (cC, V.U, .inl V.un)), (mo, .inr (13, MF 30 (rf (rs v Q o) (skipH f n (i + 1)) br))), (qx, .inl (cB, NN, .inl f))] H := hP
      have hD : va_D A [(Q.qq, .inl (cI, (8 * Q.C), .inl Q.qf)), (Q.qe, .inl (cL, (3 * Q.C), .inr (.inl Q.ef))), (tv, .inr (12, MF 13 (tw V))), (V.au, .inl (cC, V.U, .inl V.un)), (mo, .inr (13, MF 30 (rf (rs v Q o) (skipH f n (i + 1)) br))), (qx, .inl (cB, NN, .inl f))] := hD
      have hP := hP.sub (ws' := [(mo, .inr (13, MF 30 (rf (rs v Q o) (skipH f n (i + 1)) br))), (qx, .inl (cB, NN, .inl f)), (Q.qq, .inl (cI, (8 * Q.C), .inl Q.qf)), (Q.qe, .inl (cL, (3 * Q.C), .inr (.inl Q.ef))), (tv, .inr (12, MF 13 (tw V))), (V.au, .inl (cC, V.U, .inl V.un))]) [4, 5, 0, 1, 2, 3] rfl
      have hD := hD.sub (ws' := [(mo, .inr (13, MF 30 (rf (rs v Q o) (skipH f n (i + 1)) br))), (qx, .inl (cB, NN, .inl f)), (Q.qq, .inl (cI, (8 * Q.C), .inl Q.qf)), (Q.qe, .inl (cL, (3 * Q.C), .inr (.inl Q.ef))), (tv, .inr (12, MF 13 (tw V))), (V.au, .inl (cC, V.U, .inl V.un))]) [4, 5, 0, 1, 2, 3] (by decide) rfl
      have h_r3 : r3 = hereV f n (skipH f n (i + 1)) := hw
      refine lv_bipush (v := 64) hx hb d_Mo_basic_87 (by decide) ?_
      refine lv_icmp_eq (tgt := 101) hx hb d_Mo_basic_89 (by decide) (fun c89 => ?_) (fun c89 => ?_)
      · refine lv_aload_n hx hb d_Mo_basic_101 rfl (lv_at hl 1 rfl) ?_
        have hPc := hP.sub (ws' := [(mo, .inr (13, MF 30 (rf (rs v Q o) (skipH f n (i + 1)) br))), (qx, .inl (cB, NN, .inl f))]) [0, 1] rfl
        have hDc := hD.sub (ws' := [(mo, .inr (13, MF 30 (rf (rs v Q o) (skipH f n (i + 1)) br))), (qx, .inl (cB, NN, .inl f))]) [0, 1] (by decide) rfl
        have hKc := hK.sub (tys' := [(cB, .byte)]) [0] rfl
        have hFc := va_free (wc := [(mo, .inr (13, MF 30 (rf (rs v Q o) (skipH f n (i + 1)) br))), (qx, .inl (cB, NN, .inl f))]) hD hS hA [0, 1] rfl
        refine va_calli (va_runV (As := []) (rest := []) ⟨hx, hb, hml, hown, hts⟩ (c_Mo_c l dC dI mo H (rf (rs v Q o) (skipH f n (i + 1)) br) cB qx NN f n (skipH f n (i + 1)) (by omega) (by omega) (by omega) ((rf_ne (by decide) (by decide)).trans ((rs_ne (by decide) (by decide) (by decide) (by decide)).trans h6)) rf_7 ((rf_ne (by decide) (by decide)).trans ((rs_ne (by decide) (by decide) (by decide) (by decide)).trans h8))) (cwV 0 hts (gt_V (own := R_Mo) (C := R_Mo) (i := 147) (y := y_Mo_c) i_Mo_c w_1233 w_1235 (gt_sel (y := y_Mo_c) (n := 30) (by decide +kernel)) w_7) rfl rfl rfl (by decide +kernel) ⟨Nat.le_trans (m := 13) (Nat.le_of_ble_eq_true rfl) (Nat.le_add_right 13 (15 + G)), Nat.le_trans (m := 500) (Nat.le_of_ble_eq_true rfl) (Nat.le_add_right 500 (600 + M))⟩) ⟨mp_blind, va_recv hKc hPc (ci := 13) (q0 := 0) rfl rfl, fun U hU hW => ⟨rfl, hU, by rw [hU]; exact hPc, va_K.moved hW.alike hKc, hDc.weaken (fun _ _ _ _ => trivial)⟩⟩ rfl rfl hl.1 rfl (lv_room (Nat.le_of_ble_eq_true rfl)) d_Mo_basic_102 ⟨hfit_QV.1, hfit_QV.2⟩) hS (fun q _ h => hFc q h) hFc (fun r5 _u t9 H1 locs ht hvm hw hB hz1 hk1 hS => ?_)
        obtain ⟨hP1, hK1, hD1⟩ := hB
        rw [ht] at hP1
        obtain ⟨hP, hD⟩ := va_join (wr := [(Q.qq, .inl (cI, (8 * Q.C), .inl Q.qf)), (Q.qe, .inl (cL, (3 * Q.C), .inr (.inl Q.ef))), (tv, .inr (12, MF 13 (tw V))), (V.au, .inl (cC, V.U, .inl V.un))]) (w1 := [(mo, .inr (13, MF 30 (rf (rs v Q o) (skipH f n (i + 1)) br))), (qx, .inl (cB, NN, .inl f))]) hP hD [0, 1] [2, 3, 4, 5] rfl rfl (by decide) (by decide) hk1 hFc hP1 hD1
        generalize H1 = H at hP hS ⊢
        have hP : va_P (dC, dI) classes [(Q.qq, .inl (cI, (8 * Q.C), .inl Q.qf)), (Q.qe, .inl (cL, (3 * Q.C), .inr (.inl Q.ef))), (tv, .inr (12, MF 13 (tw V))), (V.au, .inl (cC, V.U, .inl V.un)), (mo, .inr (13, MF 30 (rf (rs v Q o) (skipH f n (i + 1)) br))), (qx, .inl (cB, NN, .inl f))] H := hP
        have hD : va_D A [(Q.qq, .inl (cI, (8 * Q.C), .inl Q.qf)), (Q.qe, .inl (cL, (3 * Q.C), .inr (.inl Q.ef))), (tv, .inr (12, MF 13 (tw V))), (V.au, .inl (cC, V.U, .inl V.un)), (mo, .inr (13, MF 30 (rf (rs v Q o) (skipH f n (i + 1)) br))), (qx, .inl (cB, NN, .inl f))] := hD
        have hP := hP.sub (ws' := [(mo, .inr (13, MF 30 (rf (rs v Q o) (skipH f n (i + 1)) br))), (qx, .inl (cB, NN, .inl f)), (Q.qq, .inl (cI, (8 * Q.C), .inl Q.qf)), (Q.qe, .inl (cL, (3 * Q.C), .inr (.inl Q.ef))), (tv, .inr (12, MF 13 (tw V))), (V.au, .inl (cC, V.U, .inl V.un))]) [4, 5, 0, 1, 2, 3] rfl
        have hD := hD.sub (ws' := [(mo, .inr (13, MF 30 (rf (rs v Q o) (skipH f n (i + 1)) br))), (qx, .inl (cB, NN, .inl f)), (Q.qq, .inl (cI, (8 * Q.C), .inl Q.qf)), (Q.qe, .inl (cL, (3 * Q.C), .inr (.inl Q.ef))), (tv, .inr (12, MF 13 (tw V))), (V.au, .inl (cC, V.U, .inl V.un))]) [4, 5, 0, 1, 2, 3] (by decide) rfl
        have h_r5 : r5 = hereV f n (skipH f n (i + 1)) := hw
        refine lv_bipush (v := 36) hx hb d_Mo_basic_105 (by decide) ?_
        refine lv_icmp_ne (tgt := 114) hx hb d_Mo_basic_107 (by decide) (fun _ => ?_) (fun h => absurd h (fun h => absurd ((c89.symm.trans (h_r3.trans h_r5.symm)).trans h) (by decide)))
        refine lv_iconst (v := 0) hx hb d_Mo_basic_114 (by decide) ?_
        refine lv_istore_n (lv' := [(3, .int 0), (1, .int 1), (0, .ref mo)]) hx hb d_Mo_basic_115 rfl hl (by decide) rfl (fun ls hl => ?_)
        refine lv_aload_n hx hb d_Mo_basic_116 rfl (lv_at hl 2 rfl) ?_
        refine lv_dup hx hb d_Mo_basic_117 rfl ?_
        refine va_get (D := (dC, dI)) (ci := 13) (v := .int (nI (skipH f n (i + 1)))) (C := R_Mo) (T := F_Mo) (N := 30) hx hb hts in_Mo hown hK hP 0 rfl rfl 7 (by decide) (hts _ w_1096) (fun _ h9 => h9) (MFg (by decide) rf_7) d_Mo_basic_118 ?_
        refine lv_iconst (v := 1) hx hb d_Mo_basic_121 (by decide) ?_
        refine lv_iadd hx hb d_Mo_basic_122 ?_
        have hbeg : begC (hereV f n (skipH f n (i + 1))) := Or.inl (h_r3.symm.trans c89)
        have hltb : (skipH f n (i + 1)) < n := hbeg.elim (fun h => here_in h (by decide)) (fun h => here_in h (by decide))
        have hrtb : decide (hereV f n (skipH f n (i + 1)) = 36) = false := decide_eq_false (by rw [← h_r3, c89]; decide)
        refine W.eq (g2 := F0 m 123 ls [.int (nI ((skipH f n (i + 1)) + 1)), .ref mo]) (by rw [show ((nI (skipH f n (i + 1))) + 1) = (nI ((skipH f n (i + 1)) + 1)) from nI_1 _]) ?_
        refine va_put (D := (dC, dI)) (ci := 13) (v := .int (nI ((skipH f n (i + 1)) + 1))) (ty := .int) (C := R_Mo) (T := F_Mo) (N := 30) hx hb hts in_Mo t_Mo t_Mo_ok n_Mo hown hK hP hD hS 0 rfl rfl 7 (by decide) (hts _ w_1096) (fun _ h9 => h9) rfl (by decide +kernel) rfl rfl (by rw [MFl]; decide) d_Mo_basic_123 (fun H locs hP hD hS => ?_)
        rw [MFs (n := 30) (k := 7) (by decide)] at hP hD
        have hP : va_P (dC, dI) classes [(mo, .inr (13, MF 30 (va_up (rf (rs v Q o) (skipH f n (i + 1)) br) 7 (.int (nI ((skipH f n (i + 1)) + 1)))))), (qx, .inl (cB, NN, .inl f)), (Q.qq, .inl (cI, (8 * Q.C), .inl Q.qf)), (Q.qe, .inl (cL, (3 * Q.C), .inr (.inl Q.ef))), (tv, .inr (12, MF 13 (tw V))), (V.au, .inl (cC, V.U, .inl V.un))] H := hP
        have hD : va_D A [(mo, .inr (13, MF 30 (va_up (rf (rs v Q o) (skipH f n (i + 1)) br) 7 (.int (nI ((skipH f n (i + 1)) + 1)))))), (qx, .inl (cB, NN, .inl f)), (Q.qq, .inl (cI, (8 * Q.C), .inl Q.qf)), (Q.qe, .inl (cL, (3 * Q.C), .inr (.inl Q.ef))), (tv, .inr (12, MF 13 (tw V))), (V.au, .inl (cC, V.U, .inl V.un))] := hD
        rw [rf_u7] at hP hD
        have hP : va_P (dC, dI) classes [(mo, .inr (13, MF 30 (rf (rs v Q o) ((skipH f n (i + 1)) + 1) br))), (qx, .inl (cB, NN, .inl f)), (Q.qq, .inl (cI, (8 * Q.C), .inl Q.qf)), (Q.qe, .inl (cL, (3 * Q.C), .inr (.inl Q.ef))), (tv, .inr (12, MF 13 (tw V))), (V.au, .inl (cC, V.U, .inl V.un))] H := hP
        have hD : va_D A [(mo, .inr (13, MF 30 (rf (rs v Q o) ((skipH f n (i + 1)) + 1) br))), (qx, .inl (cB, NN, .inl f)), (Q.qq, .inl (cI, (8 * Q.C), .inl Q.qf)), (Q.qe, .inl (cL, (3 * Q.C), .inr (.inl Q.ef))), (tv, .inr (12, MF 13 (tw V))), (V.au, .inl (cC, V.U, .inl V.un))] := hD
        refine lv_aload_n hx hb d_Mo_basic_126 rfl (lv_at hl 2 rfl) ?_
        refine lv_iload_n hx hb d_Mo_basic_127 rfl (lv_at hl 0 rfl) ?_
        refine lv_iconst (v := 0) hx hb d_Mo_basic_128 (by decide) ?_
        have hPc := hP.sub (ws' := [(mo, .inr (13, MF 30 (rf (rs v Q o) ((skipH f n (i + 1)) + 1) br))), (qx, .inl (cB, NN, .inl f)), (Q.qq, .inl (cI, (8 * Q.C), .inl Q.qf)), (Q.qe, .inl (cL, (3 * Q.C), .inr (.inl Q.ef))), (tv, .inr (12, MF 13 (tw V))), (V.au, .inl (cC, V.U, .inl V.un))]) [0, 1, 2, 3, 4, 5] rfl
        have hDc := hD.sub (ws' := [(mo, .inr (13, MF 30 (rf (rs v Q o) ((skipH f n (i + 1)) + 1) br))), (qx, .inl (cB, NN, .inl f)), (Q.qq, .inl (cI, (8 * Q.C), .inl Q.qf)), (Q.qe, .inl (cL, (3 * Q.C), .inr (.inl Q.ef))), (tv, .inr (12, MF 13 (tw V))), (V.au, .inl (cC, V.U, .inl V.un))]) [0, 1, 2, 3, 4, 5] (by decide) rfl
        have hKc := hK.sub (tys' := [(cB, .byte), (cI, .int), (cL, .long), (cC, .char)]) [0, 1, 2, 3] rfl
        have hFc := va_free (wc := [(mo, .inr (13, MF 30 (rf (rs v Q o) ((skipH f n (i + 1)) + 1) br))), (qx, .inl (cB, NN, .inl f)), (Q.qq, .inl (cI, (8 * Q.C), .inl Q.qf)), (Q.qe, .inl (cL, (3 * Q.C), .inr (.inl Q.ef))), (tv, .inr (12, MF 13 (tw V))), (V.au, .inl (cC, V.U, .inl V.un))]) hD hS hA [0, 1, 2, 3, 4, 5] rfl
        refine w_same (fun hq0 => ?_)
        refine va_calli (va_runV (As := [.int 0, .int 0]) (rest := []) ⟨hx, hb, hml, hown, hts⟩ (c_qr0 orL O (15 + G) (600 + M) hOf l dC dI mo H v cB cI cL cC qx NN f n K tv Q V o ((skipH f n (i + 1)) + 1) br false 0 (by decide) ok hok ho16 hOR hnN hNN (by omega) h6 h8 h22 hQk_Q hTk_V (by omega) (by omega)) (cwV 2 hts (gt_V (own := R_Mo) (C := R_Mo) (i := 317) (y := y_Mo_queryRest) i_Mo_queryRest w_1403 w_1405 (gt_sel (y := y_Mo_queryRest) (n := 30) (by decide +kernel)) w_7) rfl rfl rfl (by decide +kernel) ⟨by show 10 + (15 + G) + 1 ≤ 13 + (15 + G); omega, by show 8 + (7 + 11) + (320 + (600 + M)) ≤ 500 + (600 + M); omega⟩) ⟨me_blind, va_recv hKc hPc (ci := 13) (q0 := 0) rfl rfl, fun U hU hW => ⟨rfl, ⟨hU, by rw [hU]; exact hPc, va_K.moved hW.alike hKc, hDc.weaken (fun _ _ _ _ => trivial)⟩, by rw [hU]; exact ME.call hM hS.2.1 hFc hW⟩⟩ rfl rfl hl.1 rfl (lv_room (Nat.le_of_ble_eq_true rfl)) d_Mo_basic_129 ⟨(hG_QV.step (B2 := Q.R + 8 * (n - ((skipH f n (i + 1)) + 1)) + 9) (C2 := V.us + (n + 12 - ((skipH f n (i + 1)) + 1))) (by omega) (by omega)).1, (hG_QV.step (B2 := Q.R + 8 * (n - ((skipH f n (i + 1)) + 1)) + 9) (C2 := V.us + (n + 12 - ((skipH f n (i + 1)) + 1))) (by omega) (by omega)).2⟩) hS (fun q _ h => hFc q h) hFc (fun r0 ⟨Qs, Vs, js, bs, os⟩ t9 H1 locs ht hvm hw hB hz1 hk1 hS => ?_)
        obtain ⟨⟨hP1, hK1, hD1⟩, hz9⟩ := hB
        rw [ht] at hP1
        rw [ht] at hz9
        obtain ⟨⟨hQk_Qs, hGn, hTXs, hR1_Qs, hR2_Qs⟩, hw⟩ := hw
        have hQk_Qs : QOK Qs := hQk_Qs
        obtain ⟨hG_QsVs, hGc, hGs⟩ := hG_QV.tr hGn (by omega) (by omega)
        have hR1_Qs : Q.R ≤ Qs.R := hR1_Qs
        have hR2_Qs : Qs.R ≤ Q.R + 8 * (n - ((skipH f n (i + 1)) + 1)) + 9 := hR2_Qs
        obtain ⟨uss, hX_Vs, hln_Vs⟩ := hTXs
        have hX_Vs : TX V Vs uss := hX_Vs
        have hXs_Vs := hX_Vs.us
        have hz9 : szk H H1 (cQ Q V Qs Vs) (sQ Q V Qs Vs) := hz9
        have hq1 : szk s.heap H1 (cQ Q V Qs Vs) (sQ Q V Qs Vs) := (hq0.trans hz9).mono hGc hGs
        refine w_tight hq1 ?_
        obtain ⟨hP, hD⟩ := va_join (wr := []) (w1 := [(mo, .inr (13, MF 30 (rf (rs v Qs os) js bs))), (qx, .inl (cB, NN, .inl f)), (Qs.qq, .inl (cI, (8 * Qs.C), .inl Qs.qf)), (Qs.qe, .inl (cL, (3 * Qs.C), .inr (.inl Qs.ef))), (tv, .inr (12, MF 13 (tw Vs))), (Vs.au, .inl (cC, Vs.U, .inl Vs.un))]) hP hD [0, 1, 2, 3, 4, 5] [] rfl rfl (by decide) (by decide) hk1 hFc hP1 hD1
        generalize H1 = H at hP hS ⊢
        have hP : va_P (dC, dI) classes [(mo, .inr (13, MF 30 (rf (rs v Qs os) js bs))), (qx, .inl (cB, NN, .inl f)), (Qs.qq, .inl (cI, (8 * Qs.C), .inl Qs.qf)), (Qs.qe, .inl (cL, (3 * Qs.C), .inr (.inl Qs.ef))), (tv, .inr (12, MF 13 (tw Vs))), (Vs.au, .inl (cC, Vs.U, .inl Vs.un))] H := hP
        have hD : va_D A [(mo, .inr (13, MF 30 (rf (rs v Qs os) js bs))), (qx, .inl (cB, NN, .inl f)), (Qs.qq, .inl (cI, (8 * Qs.C), .inl Qs.qf)), (Qs.qe, .inl (cL, (3 * Qs.C), .inr (.inl Qs.ef))), (tv, .inr (12, MF 13 (tw Vs))), (Vs.au, .inl (cC, Vs.U, .inl Vs.un))] := hD
        have hP := hP.sub (ws' := [(mo, .inr (13, MF 30 (rf (rs v Qs os) js bs))), (qx, .inl (cB, NN, .inl f)), (tv, .inr (12, MF 13 (tw Vs))), (Qs.qq, .inl (cI, (8 * Qs.C), .inl Qs.qf)), (Qs.qe, .inl (cL, (3 * Qs.C), .inr (.inl Qs.ef))), (Vs.au, .inl (cC, Vs.U, .inl Vs.un))]) [0, 1, 4, 2, 3, 5] rfl
        have hD := hD.sub (ws' := [(mo, .inr (13, MF 30 (rf (rs v Qs os) js bs))), (qx, .inl (cB, NN, .inl f)), (tv, .inr (12, MF 13 (tw Vs))), (Qs.qq, .inl (cI, (8 * Qs.C), .inl Qs.qf)), (Qs.qe, .inl (cL, (3 * Qs.C), .inr (.inl Qs.ef))), (Vs.au, .inl (cC, Vs.U, .inl Vs.un))]) [0, 1, 4, 2, 3, 5] (by decide) rfl
        have hP := hP.sub (ws' := [(mo, .inr (13, MF 30 (rf (rs v Qs os) js bs))), (qx, .inl (cB, NN, .inl f)), (Qs.qq, .inl (cI, (8 * Qs.C), .inl Qs.qf)), (Qs.qe, .inl (cL, (3 * Qs.C), .inr (.inl Qs.ef))), (tv, .inr (12, MF 13 (tw Vs))), (Vs.au, .inl (cC, Vs.U, .inl Vs.un))]) [0, 1, 3, 4, 2, 5] rfl
        have hD := hD.sub (ws' := [(mo, .inr (13, MF 30 (rf (rs v Qs os) js bs))), (qx, .inl (cB, NN, .inl f)), (Qs.qq, .inl (cI, (8 * Qs.C), .inl Qs.qf)), (Qs.qe, .inl (cL, (3 * Qs.C), .inr (.inl Qs.ef))), (tv, .inr (12, MF 13 (tw Vs))), (Vs.au, .inl (cC, Vs.U, .inl Vs.un))]) [0, 1, 3, 4, 2, 5] (by decide) rfl
        have hTk_Vs := hX_Vs.ok hTk_V (by omega)
        have hqb_QsVs : Qs.R ≤ Qs.C ∧ Qs.C ≤ 100000 := ⟨hQk_Qs.2.2.1, hQk_Qs.2.1⟩
        have hfit_QsVs := hG_QsVs.fits
        rcases hw with ⟨fl, g9, hv_1, hv_2, hv_3, hv_4, hv_5, hv_6, hv_7, hv_8, hv_9, hv_10⟩ | ⟨hv_1, hv_2⟩
        · have hv_10 : o = os := hv_10.symm
          subst hv_10
          have hP : va_P (dC, dI) classes [(mo, .inr (13, MF 30 (rf (rs v Qs o) js bs))), (qx, .inl (cB, NN, .inl f)), (Qs.qq, .inl (cI, (8 * Qs.C), .inl Qs.qf)), (Qs.qe, .inl (cL, (3 * Qs.C), .inr (.inl Qs.ef))), (tv, .inr (12, MF 13 (tw Vs))), (Vs.au, .inl (cC, Vs.U, .inl Vs.un))] H := hP
          have hD : va_D A [(mo, .inr (13, MF 30 (rf (rs v Qs o) js bs))), (qx, .inl (cB, NN, .inl f)), (Qs.qq, .inl (cI, (8 * Qs.C), .inl Qs.qf)), (Qs.qe, .inl (cL, (3 * Qs.C), .inr (.inl Qs.ef))), (tv, .inr (12, MF 13 (tw Vs))), (Vs.au, .inl (cC, Vs.U, .inl Vs.un))] := hD
          have hv_2 : qrP f n ok (orL f n) false (decide (hereV f n (skipH f n (i + 1)) = 36)) ((skipH f n (i + 1)) + 1) = some (js, fl, g9) := by rw [hrtb]; exact hv_2
          have hv_3 : QRYp O Qs Vs Q.R Qs.R Q.R g9 := hv_3
          have hv_4 : alr Q V Qs Vs 0 Q.R := hv_4
          have hv_5 : Qs.qf (8 * Q.R + 3) = (if fl = true then 1 else 0) := hv_5
          have hv_6 : Qs.R + 8 * ((skipH f n (i + 1)) + 1) ≤ Q.R + 8 * js + 1 := hv_6
          have hv_7 : Vs.us + ((skipH f n (i + 1)) + 1) ≤ V.us + js := hv_7
          have hv_8 : js ≤ n := hv_8
          have hv_9 : Q.R < Qs.R := hv_9
          subst hv_1
          refine lv_istore (lv' := [(4, .int (nI Q.R)), (3, .int 0), (1, .int 1), (0, .ref mo)]) hx hb d_Mo_basic_132 hl (by decide) rfl (fun ls hl => ?_)
          refine lv_iload hx hb d_Mo_basic_134 (lv_at hl 0 rfl) ?_
          refine lv_if_ge (tgt := 141) hx hb d_Mo_basic_136 (by decide) (fun _ => ?_) (fun h => absurd (nI_pos' (by omega)) h)
          refine lv_aload_n hx hb d_Mo_basic_141 rfl (lv_at hl 3 rfl) ?_
          refine va_get (D := (dC, dI)) (ci := 13) (v := .int (nI js)) (C := R_Mo) (T := F_Mo) (N := 30) hx hb hts in_Mo hown hK hP 0 rfl rfl 7 (by decide) (hts _ w_1096) (fun _ h9 => h9) (MFg (by decide) rf_7) d_Mo_basic_142 ?_
          refine lv_istore (lv' := [(5, .int (nI js)), (4, .int (nI Q.R)), (3, .int 0), (1, .int 1), (0, .ref mo)]) hx hb d_Mo_basic_145 hl (by decide) rfl (fun ls hl => ?_)
          refine lv_aload_n hx hb d_Mo_basic_147 rfl (lv_at hl 4 rfl) ?_
          have hPc := hP.sub (ws' := [(mo, .inr (13, MF 30 (rf (rs v Qs o) js bs))), (qx, .inl (cB, NN, .inl f))]) [0, 1] rfl
          have hDc := hD.sub (ws' := [(mo, .inr (13, MF 30 (rf (rs v Qs o) js bs))), (qx, .inl (cB, NN, .inl f))]) [0, 1] (by decide) rfl
          have hKc := hK.sub (tys' := [(cB, .byte)]) [0] rfl
          have hFc := va_free (wc := [(mo, .inr (13, MF 30 (rf (rs v Qs o) js bs))), (qx, .inl (cB, NN, .inl f))]) hD hS hA [0, 1] rfl
          refine va_callv (va_runV (As := []) (rest := []) ⟨hx, hb, hml, hown, hts⟩ (c_Mo_blanks l dC dI mo H (rf (rs v Qs o) js bs) cB qx NN f n js (by omega) (by omega) (by omega) ((rf_ne (by decide) (by decide)).trans ((rs_ne (by decide) (by decide) (by decide) (by decide)).trans h6)) rf_7 ((rf_ne (by decide) (by decide)).trans ((rs_ne (by decide) (by decide) (by decide) (by decide)).trans h8))) (cwV 0 hts (gt_V (own := R_Mo) (C := R_Mo) (i := 184) (y := y_Mo_blanks) i_Mo_blanks w_1229 w_1231 (gt_sel (y := y_Mo_blanks) (n := 30) (by decide +kernel)) w_7) rfl rfl rfl (by decide +kernel) ⟨Nat.le_trans (m := 13) (Nat.le_of_ble_eq_true rfl) (Nat.le_add_right 13 (15 + G)), Nat.le_trans (m := 500) (Nat.le_of_ble_eq_true rfl) (Nat.le_add_right 500 (600 + M))⟩) ⟨mp_blind, va_recv hKc hPc (ci := 13) (q0 := 0) rfl rfl, fun U hU hW => ⟨rfl, hU, by rw [hU]; exact hPc, va_K.moved hW.alike hKc, hDc.weaken (fun _ _ _ _ => trivial)⟩⟩ rfl rfl hl.1 rfl (lv_room (Nat.le_of_ble_eq_true rfl)) d_Mo_basic_148 ⟨hfit_QsVs.1, hfit_QsVs.2⟩) hS (fun q _ h => hFc q h) hFc (fun _u t9 H1 locs ht hvm hw hB hz1 hk1 hS => ?_)
          obtain ⟨hP1, hK1, hD1⟩ := hB
          rw [ht] at hP1
          obtain ⟨hP, hD⟩ := va_join (wr := [(Qs.qq, .inl (cI, (8 * Qs.C), .inl Qs.qf)), (Qs.qe, .inl (cL, (3 * Qs.C), .inr (.inl Qs.ef))), (tv, .inr (12, MF 13 (tw Vs))), (Vs.au, .inl (cC, Vs.U, .inl Vs.un))]) (w1 := [(mo, .inr (13, MF 30 (va_up (rf (rs v Qs o) js bs) 7 (.int (nI (skipH f n js)))))), (qx, .inl (cB, NN, .inl f))]) hP hD [0, 1] [2, 3, 4, 5] rfl rfl (by decide) (by decide) hk1 hFc hP1 hD1
          generalize H1 = H at hP hS ⊢
          have hP : va_P (dC, dI) classes [(Qs.qq, .inl (cI, (8 * Qs.C), .inl Qs.qf)), (Qs.qe, .inl (cL, (3 * Qs.C), .inr (.inl Qs.ef))), (tv, .inr (12, MF 13 (tw Vs))), (Vs.au, .inl (cC, Vs.U, .inl Vs.un)), (mo, .inr (13, MF 30 (va_up (rf (rs v Qs o) js bs) 7 (.int (nI (skipH f n js)))))), (qx, .inl (cB, NN, .inl f))] H := hP
          have hD : va_D A [(Qs.qq, .inl (cI, (8 * Qs.C), .inl Qs.qf)), (Qs.qe, .inl (cL, (3 * Qs.C), .inr (.inl Qs.ef))), (tv, .inr (12, MF 13 (tw Vs))), (Vs.au, .inl (cC, Vs.U, .inl Vs.un)), (mo, .inr (13, MF 30 (va_up (rf (rs v Qs o) js bs) 7 (.int (nI (skipH f n js)))))), (qx, .inl (cB, NN, .inl f))] := hD
          have hP := hP.sub (ws' := [(mo, .inr (13, MF 30 (va_up (rf (rs v Qs o) js bs) 7 (.int (nI (skipH f n js)))))), (qx, .inl (cB, NN, .inl f)), (Qs.qq, .inl (cI, (8 * Qs.C), .inl Qs.qf)), (Qs.qe, .inl (cL, (3 * Qs.C), .inr (.inl Qs.ef))), (tv, .inr (12, MF 13 (tw Vs))), (Vs.au, .inl (cC, Vs.U, .inl Vs.un))]) [4, 5, 0, 1, 2, 3] rfl
          have hD := hD.sub (ws' := [(mo, .inr (13, MF 30 (va_up (rf (rs v Qs o) js bs) 7 (.int (nI (skipH f n js)))))), (qx, .inl (cB, NN, .inl f)), (Qs.qq, .inl (cI, (8 * Qs.C), .inl Qs.qf)), (Qs.qe, .inl (cL, (3 * Qs.C), .inr (.inl Qs.ef))), (tv, .inr (12, MF 13 (tw Vs))), (Vs.au, .inl (cC, Vs.U, .inl Vs.un))]) [4, 5, 0, 1, 2, 3] (by decide) rfl
          rw [rf_u7] at hP hD
          have hP : va_P (dC, dI) classes [(mo, .inr (13, MF 30 (rf (rs v Qs o) (skipH f n js) bs))), (qx, .inl (cB, NN, .inl f)), (Qs.qq, .inl (cI, (8 * Qs.C), .inl Qs.qf)), (Qs.qe, .inl (cL, (3 * Qs.C), .inr (.inl Qs.ef))), (tv, .inr (12, MF 13 (tw Vs))), (Vs.au, .inl (cC, Vs.U, .inl Vs.un))] H := hP
          have hD : va_D A [(mo, .inr (13, MF 30 (rf (rs v Qs o) (skipH f n js) bs))), (qx, .inl (cB, NN, .inl f)), (Qs.qq, .inl (cI, (8 * Qs.C), .inl Qs.qf)), (Qs.qe, .inl (cL, (3 * Qs.C), .inr (.inl Qs.ef))), (tv, .inr (12, MF 13 (tw Vs))), (Vs.au, .inl (cC, Vs.U, .inl Vs.un))] := hD
          have hsk_151 := skipH_n (f := f) (show js ≤ n by omega)
          refine lv_iload_n hx hb d_Mo_basic_151 rfl (lv_at hl 3 rfl) ?_
          refine lv_if_ne (tgt := 207) hx hb d_Mo_basic_152 (by decide) (fun _ => ?_) (fun h => absurd h (by decide))
          refine lv_aload_n hx hb d_Mo_basic_207 rfl (lv_at hl 4 rfl) ?_
          refine lv_iload hx hb d_Mo_basic_208 (lv_at hl 0 rfl) ?_
          refine va_put (D := (dC, dI)) (ci := 13) (v := .int (nI js)) (ty := .int) (C := R_Mo) (T := F_Mo) (N := 30) hx hb hts in_Mo t_Mo t_Mo_ok n_Mo hown hK hP hD hS 0 rfl rfl 7 (by decide) (hts _ w_1096) (fun _ h9 => h9) rfl (by decide +kernel) rfl rfl (by rw [MFl]; decide) d_Mo_basic_210 (fun H locs hP hD hS => ?_)
          rw [MFs (n := 30) (k := 7) (by decide)] at hP hD
          have hP : va_P (dC, dI) classes [(mo, .inr (13, MF 30 (va_up (rf (rs v Qs o) (skipH f n js) bs) 7 (.int (nI js))))), (qx, .inl (cB, NN, .inl f)), (Qs.qq, .inl (cI, (8 * Qs.C), .inl Qs.qf)), (Qs.qe, .inl (cL, (3 * Qs.C), .inr (.inl Qs.ef))), (tv, .inr (12, MF 13 (tw Vs))), (Vs.au, .inl (cC, Vs.U, .inl Vs.un))] H := hP
          have hD : va_D A [(mo, .inr (13, MF 30 (va_up (rf (rs v Qs o) (skipH f n js) bs) 7 (.int (nI js))))), (qx, .inl (cB, NN, .inl f)), (Qs.qq, .inl (cI, (8 * Qs.C), .inl Qs.qf)), (Qs.qe, .inl (cL, (3 * Qs.C), .inr (.inl Qs.ef))), (tv, .inr (12, MF 13 (tw Vs))), (Vs.au, .inl (cC, Vs.U, .inl Vs.un))] := hD
          rw [rf_u7] at hP hD
          have hP : va_P (dC, dI) classes [(mo, .inr (13, MF 30 (rf (rs v Qs o) js bs))), (qx, .inl (cB, NN, .inl f)), (Qs.qq, .inl (cI, (8 * Qs.C), .inl Qs.qf)), (Qs.qe, .inl (cL, (3 * Qs.C), .inr (.inl Qs.ef))), (tv, .inr (12, MF 13 (tw Vs))), (Vs.au, .inl (cC, Vs.U, .inl Vs.un))] H := hP
          have hD : va_D A [(mo, .inr (13, MF 30 (rf (rs v Qs o) js bs))), (qx, .inl (cB, NN, .inl f)), (Qs.qq, .inl (cI, (8 * Qs.C), .inl Qs.qf)), (Qs.qe, .inl (cL, (3 * Qs.C), .inr (.inl Qs.ef))), (tv, .inr (12, MF 13 (tw Vs))), (Vs.au, .inl (cC, Vs.U, .inl Vs.un))] := hD
          refine lv_aload_n hx hb d_Mo_basic_213 rfl (lv_at hl 4 rfl) ?_
          refine lv_bipush (v := 34) hx hb d_Mo_basic_214 (by decide) ?_
          have hPc := hP.sub (ws' := [(mo, .inr (13, MF 30 (rf (rs v Qs o) js bs))), (Qs.qq, .inl (cI, (8 * Qs.C), .inl Qs.qf)), (Qs.qe, .inl (cL, (3 * Qs.C), .inr (.inl Qs.ef)))]) [0, 2, 3] rfl
          have hDc := hD.sub (ws' := [(mo, .inr (13, MF 30 (rf (rs v Qs o) js bs))), (Qs.qq, .inl (cI, (8 * Qs.C), .inl Qs.qf)), (Qs.qe, .inl (cL, (3 * Qs.C), .inr (.inl Qs.ef)))]) [0, 2, 3] (by decide) rfl
          have hKc := hK.sub (tys' := [(cI, .int), (cL, .long)]) [1, 2] rfl
          have hFc := va_free (wc := [(mo, .inr (13, MF 30 (rf (rs v Qs o) js bs))), (Qs.qq, .inl (cI, (8 * Qs.C), .inl Qs.qf)), (Qs.qe, .inl (cL, (3 * Qs.C), .inr (.inl Qs.ef)))]) hD hS hA [0, 2, 3] rfl
          refine w_same (fun hq0 => ?_)
          refine va_calli (va_runV (As := [.int 34]) (rest := []) ⟨hx, hb, hml, hown, hts⟩ (c_Mo_row l dC dI mo H v cI cL Qs o js bs 34 hQk_Qs) (cwV 1 hts (gt_V (own := R_Mo) (C := R_Mo) (i := 269) (y := y_Mo_row) i_Mo_row w_1407 w_1409 (gt_sel (y := y_Mo_row) (n := 30) (by decide +kernel)) w_7) rfl rfl rfl (by decide +kernel) ⟨Nat.le_trans (m := 13) (Nat.le_of_ble_eq_true rfl) (Nat.le_add_right 13 (15 + G)), Nat.le_trans (m := 500) (Nat.le_of_ble_eq_true rfl) (Nat.le_add_right 500 (600 + M))⟩) ⟨mp_blind, va_recv hKc hPc (ci := 13) (q0 := 0) rfl rfl, fun U hU hW => ⟨rfl, hU, by rw [hU]; exact hPc, va_K.moved hW.alike hKc, hDc.weaken (fun _ _ _ _ => trivial)⟩⟩ rfl rfl hl.1 rfl (lv_room (Nat.le_of_ble_eq_true rfl)) d_Mo_basic_216 ⟨(QAd.fit hG_QsVs hQk_Qs (by omega)).1, (QAd.fit hG_QsVs hQk_Qs (by omega)).2⟩) hS (fun q _ h => hFc q h) hFc (fun r0 Qa t9 H1 locs ht hvm hw hB hz1 hk1 hS => ?_)
          obtain ⟨⟨hP1, hK1, hD1⟩, hz9⟩ := hB
          rw [ht] at hP1
          rw [ht] at hz9
          obtain ⟨hr0, hA_Qa⟩ := hw
          have hA_Qa : QAd Qs Qa 34 := hA_Qa
          obtain ⟨hQk_Qa, hGa, hGb, hGd, hR_Qa⟩ := hA_Qa.gq hQk_Qs (by omega) Vs
          obtain ⟨hG_QaVs, hGc, hGs⟩ := hG_QsVs.tr hGa (show Qs.R + 1 ≤ Q.R + 8 * (n - i) + 1 by omega) (Nat.zero_le _)
          have hGc := Nat.le_trans (Nat.add_le_add_left hGb _) hGc
          have hGs := Nat.le_trans (Nat.add_le_add_left hGd _) hGs
          have hq1 : szk s.heap H1 (cQ Q V Qa Vs) (sQ Q V Qa Vs) := (hq0.trans hz9).mono hGc hGs
          refine w_tight hq1 ?_
          obtain ⟨hP, hD⟩ := va_join (wr := [(qx, .inl (cB, NN, .inl f)), (tv, .inr (12, MF 13 (tw Vs))), (Vs.au, .inl (cC, Vs.U, .inl Vs.un))]) (w1 := [(mo, .inr (13, MF 30 (rf (rs v Qa o) js bs))), (Qa.qq, .inl (cI, (8 * Qa.C), .inl Qa.qf)), (Qa.qe, .inl (cL, (3 * Qa.C), .inr (.inl Qa.ef)))]) hP hD [0, 2, 3] [1, 4, 5] rfl rfl (by decide) (by decide) hk1 hFc hP1 hD1
          generalize H1 = H at hP hS ⊢
          have hP : va_P (dC, dI) classes [(qx, .inl (cB, NN, .inl f)), (tv, .inr (12, MF 13 (tw Vs))), (Vs.au, .inl (cC, Vs.U, .inl Vs.un)), (mo, .inr (13, MF 30 (rf (rs v Qa o) js bs))), (Qa.qq, .inl (cI, (8 * Qa.C), .inl Qa.qf)), (Qa.qe, .inl (cL, (3 * Qa.C), .inr (.inl Qa.ef)))] H := hP
          have hD : va_D A [(qx, .inl (cB, NN, .inl f)), (tv, .inr (12, MF 13 (tw Vs))), (Vs.au, .inl (cC, Vs.U, .inl Vs.un)), (mo, .inr (13, MF 30 (rf (rs v Qa o) js bs))), (Qa.qq, .inl (cI, (8 * Qa.C), .inl Qa.qf)), (Qa.qe, .inl (cL, (3 * Qa.C), .inr (.inl Qa.ef)))] := hD
          have hP := hP.sub (ws' := [(mo, .inr (13, MF 30 (rf (rs v Qa o) js bs))), (qx, .inl (cB, NN, .inl f)), (tv, .inr (12, MF 13 (tw Vs))), (Vs.au, .inl (cC, Vs.U, .inl Vs.un)), (Qa.qq, .inl (cI, (8 * Qa.C), .inl Qa.qf)), (Qa.qe, .inl (cL, (3 * Qa.C), .inr (.inl Qa.ef)))]) [3, 0, 1, 2, 4, 5] rfl
          have hD := hD.sub (ws' := [(mo, .inr (13, MF 30 (rf (rs v Qa o) js bs))), (qx, .inl (cB, NN, .inl f)), (tv, .inr (12, MF 13 (tw Vs))), (Vs.au, .inl (cC, Vs.U, .inl Vs.un)), (Qa.qq, .inl (cI, (8 * Qa.C), .inl Qa.qf)), (Qa.qe, .inl (cL, (3 * Qa.C), .inr (.inl Qa.ef)))]) [3, 0, 1, 2, 4, 5] (by decide) rfl
          have hP := hP.sub (ws' := [(mo, .inr (13, MF 30 (rf (rs v Qa o) js bs))), (qx, .inl (cB, NN, .inl f)), (Qa.qq, .inl (cI, (8 * Qa.C), .inl Qa.qf)), (Qa.qe, .inl (cL, (3 * Qa.C), .inr (.inl Qa.ef))), (tv, .inr (12, MF 13 (tw Vs))), (Vs.au, .inl (cC, Vs.U, .inl Vs.un))]) [0, 1, 4, 5, 2, 3] rfl
          have hD := hD.sub (ws' := [(mo, .inr (13, MF 30 (rf (rs v Qa o) js bs))), (qx, .inl (cB, NN, .inl f)), (Qa.qq, .inl (cI, (8 * Qa.C), .inl Qa.qf)), (Qa.qe, .inl (cL, (3 * Qa.C), .inr (.inl Qa.ef))), (tv, .inr (12, MF 13 (tw Vs))), (Vs.au, .inl (cC, Vs.U, .inl Vs.un))]) [0, 1, 4, 5, 2, 3] (by decide) rfl
          have hr0 : r0 = nI Qs.R := hr0
          subst hr0
          have hqb_QaVs : Qa.R ≤ Qa.C ∧ Qa.C ≤ 100000 := ⟨hQk_Qa.2.2.1, hQk_Qa.2.1⟩
          have hfit_QaVs := hG_QaVs.fits
          have hE_Qa : alr Qs Vs Qa Vs 0 Qs.R := ⟨fun r9 k9 _ h1 h2 => hA_Qa.2.2.1 _ (by omega), ⟨fun r9 k9 _ h1 h2 => hA_Qa.2.2.2.1.2 _ (by omega), Nat.le_refl _, fun _ _ => rfl⟩⟩
          refine lv_istore_n (lv' := [(2, .int (nI Qs.R)), (5, .int (nI js)), (4, .int (nI Q.R)), (3, .int 0), (1, .int 1), (0, .ref mo)]) hx hb d_Mo_basic_219 rfl hl (by decide) rfl (fun ls hl => ?_)
          refine lv_aload_n hx hb d_Mo_basic_220 rfl (lv_at hl 5 rfl) ?_
          refine lv_iload_n hx hb d_Mo_basic_221 rfl (lv_at hl 0 rfl) ?_
          refine lv_iconst (v := 2) hx hb d_Mo_basic_222 (by decide) ?_
          refine lv_iload hx hb d_Mo_basic_223 (lv_at hl 2 rfl) ?_
          refine W.eq (g2 := F0 m 225 ls [.int (nI Q.R), .int (nI 2), .int (nI Qs.R), .ref mo]) rfl ?_
          have hPc := hP.sub (ws' := [(mo, .inr (13, MF 30 (rf (rs v Qa o) js bs))), (Qa.qq, .inl (cI, (8 * Qa.C), .inl Qa.qf))]) [0, 2] rfl
          have hDc := hD.sub (ws' := [(mo, .inr (13, MF 30 (rf (rs v Qa o) js bs))), (Qa.qq, .inl (cI, (8 * Qa.C), .inl Qa.qf))]) [0, 2] (by decide) rfl
          have hKc := hK.sub (tys' := [(cI, .int)]) [1] rfl
          have hFc := va_free (wc := [(mo, .inr (13, MF 30 (rf (rs v Qa o) js bs))), (Qa.qq, .inl (cI, (8 * Qa.C), .inl Qa.qf))]) hD hS hA [0, 2] rfl
          refine va_callv (va_runV (As := [.int (nI Qs.R), .int (nI 2), .int (nI Q.R)]) (rest := []) ⟨hx, hb, hml, hown, hts⟩ (c_Mo_set l dC dI mo H (rf (rs v Qa o) js bs) cI Qa.qq (8 * Qa.C) Qa.qf Qs.R 2 ((nI Q.R)) (by omega) (by omega) ((rf_ne (by decide) (by decide)).trans rs_19)) (cwV 3 hts (gt_V (own := R_Mo) (C := R_Mo) (i := 272) (y := y_Mo_set) i_Mo_set w_1411 w_1413 (gt_sel (y := y_Mo_set) (n := 30) (by decide +kernel)) w_7) rfl rfl rfl (by decide +kernel) ⟨Nat.le_trans (m := 13) (Nat.le_of_ble_eq_true rfl) (Nat.le_add_right 13 (15 + G)), Nat.le_trans (m := 500) (Nat.le_of_ble_eq_true rfl) (Nat.le_add_right 500 (600 + M))⟩) ⟨mp_blind, va_recv hKc hPc (ci := 13) (q0 := 0) rfl rfl, fun U hU hW => ⟨rfl, hU, by rw [hU]; exact hPc, va_K.moved hW.alike hKc, hDc.weaken (fun _ _ _ _ => trivial)⟩⟩ rfl rfl hl.1 rfl (lv_room (Nat.le_of_ble_eq_true rfl)) d_Mo_basic_225 ⟨hfit_QaVs.1, hfit_QaVs.2⟩) hS (fun q _ h => hFc q h) hFc (fun _u t9 H1 locs ht hvm hw hB hz1 hk1 hS => ?_)
          obtain ⟨hP1, hK1, hD1⟩ := hB
          rw [ht] at hP1
          obtain ⟨hP, hD⟩ := va_join (wr := [(qx, .inl (cB, NN, .inl f)), (Qa.qe, .inl (cL, (3 * Qa.C), .inr (.inl Qa.ef))), (tv, .inr (12, MF 13 (tw Vs))), (Vs.au, .inl (cC, Vs.U, .inl Vs.un))]) (w1 := [(mo, .inr (13, MF 30 (rf (rs v Qa o) js bs))), (Qa.qq, .inl (cI, (8 * Qa.C), .inl (upd Qa.qf (8 * Qs.R + 2) ((nI Q.R)))))]) hP hD [0, 2] [1, 3, 4, 5] rfl rfl (by decide) (by decide) hk1 hFc hP1 hD1
          generalize H1 = H at hP hS ⊢
          have hP : va_P (dC, dI) classes [(qx, .inl (cB, NN, .inl f)), (Qa.qe, .inl (cL, (3 * Qa.C), .inr (.inl Qa.ef))), (tv, .inr (12, MF 13 (tw Vs))), (Vs.au, .inl (cC, Vs.U, .inl Vs.un)), (mo, .inr (13, MF 30 (rf (rs v Qa o) js bs))), (Qa.qq, .inl (cI, (8 * Qa.C), .inl (upd Qa.qf (8 * Qs.R + 2) ((nI Q.R)))))] H := hP
          have hD : va_D A [(qx, .inl (cB, NN, .inl f)), (Qa.qe, .inl (cL, (3 * Qa.C), .inr (.inl Qa.ef))), (tv, .inr (12, MF 13 (tw Vs))), (Vs.au, .inl (cC, Vs.U, .inl Vs.un)), (mo, .inr (13, MF 30 (rf (rs v Qa o) js bs))), (Qa.qq, .inl (cI, (8 * Qa.C), .inl (upd Qa.qf (8 * Qs.R + 2) ((nI Q.R)))))] := hD
          have hP := hP.sub (ws' := [(mo, .inr (13, MF 30 (rf (rs v Qa o) js bs))), (qx, .inl (cB, NN, .inl f)), (Qa.qq, .inl (cI, (8 * Qa.C), .inl (upd Qa.qf (8 * Qs.R + 2) ((nI Q.R))))), (Qa.qe, .inl (cL, (3 * Qa.C), .inr (.inl Qa.ef))), (tv, .inr (12, MF 13 (tw Vs))), (Vs.au, .inl (cC, Vs.U, .inl Vs.un))]) [4, 0, 5, 1, 2, 3] rfl
          have hD := hD.sub (ws' := [(mo, .inr (13, MF 30 (rf (rs v Qa o) js bs))), (qx, .inl (cB, NN, .inl f)), (Qa.qq, .inl (cI, (8 * Qa.C), .inl (upd Qa.qf (8 * Qs.R + 2) ((nI Q.R))))), (Qa.qe, .inl (cL, (3 * Qa.C), .inr (.inl Qa.ef))), (tv, .inr (12, MF 13 (tw Vs))), (Vs.au, .inl (cC, Vs.U, .inl Vs.un))]) [4, 0, 5, 1, 2, 3] (by decide) rfl
          obtain ⟨Qb, e_Qb⟩ : ∃ z : QS, z = QS.wf Qa (upd Qa.qf (8 * Qs.R + 2) ((nI Q.R))) := ⟨_, rfl⟩
          have hP : va_P (dC, dI) classes [(mo, .inr (13, MF 30 (rf (rs v Qb o) js bs))), (qx, .inl (cB, NN, .inl f)), (Qb.qq, .inl (cI, (8 * Qb.C), .inl Qb.qf)), (Qb.qe, .inl (cL, (3 * Qb.C), .inr (.inl Qb.ef))), (tv, .inr (12, MF 13 (tw Vs))), (Vs.au, .inl (cC, Vs.U, .inl Vs.un))] H := by subst e_Qb; exact hP
          have hD : va_D A [(mo, .inr (13, MF 30 (rf (rs v Qb o) js bs))), (qx, .inl (cB, NN, .inl f)), (Qb.qq, .inl (cI, (8 * Qb.C), .inl Qb.qf)), (Qb.qe, .inl (cL, (3 * Qb.C), .inr (.inl Qb.ef))), (tv, .inr (12, MF 13 (tw Vs))), (Vs.au, .inl (cC, Vs.U, .inl Vs.un))] := by subst e_Qb; exact hD
          have hf_Qb : Qb.C = Qa.C ∧ Qb.R = Qa.R ∧ Qb.qf = upd Qa.qf (8 * Qs.R + 2) ((nI Q.R)) := by rw [e_Qb]; exact ⟨rfl, rfl, rfl⟩
          have he_Qb : Qb.ef = Qa.ef := by rw [e_Qb]; rfl
          have hQk_Qb : QOK Qb := by rw [e_Qb]; exact hQk_Qa
          have hG_QbVs : GQ (Q.R + 8 * (n - i) + 1) (V.us + (n + 12 - i)) Q V Qb Vs := by unfold GQ at hG_QaVs ⊢; rw [hf_Qb.1]; exact hG_QaVs
          refine w_same (fun hq => ?_)
          refine w_tight (k := cQ Q V Qb Vs) (n := sQ Q V Qb Vs) (by unfold cQ sQ at hq ⊢; rw [hf_Qb.1]; exact hq) ?_
          have hR_Qb := hf_Qb.2.1
          have hqb_QbVs : Qb.R ≤ Qb.C ∧ Qb.C ≤ 100000 := ⟨hQk_Qb.2.2.1, hQk_Qb.2.1⟩
          have hfit_QbVs := hG_QbVs.fits
          have hkb : Qb.qf (8 * Qs.R + 0) = 34 := by rw [hf_Qb.2.2, pk_un (by omega)]; exact hA_Qa.2.2.2.2.1
          have hWb : Wth (QRYp O) Qb Vs Q.R Qb.R Qs.R Q.R g9 := Wth_up (Frm8 (QRYp_fr hOf)) hv_3 (Nat.le_refl _) (by omega) (by omega) ((hE_Qa.sub (Nat.zero_le _) (Nat.le_refl _)).tr (alr.upd hf_Qb.2.2 he_Qb (by decide) (by omega)))
          have hExb : alr Q V Qb Vs 0 Q.R := (hv_4.tr (hE_Qa.sub (Nat.le_refl _) (by omega))).tr (alr.upd hf_Qb.2.2 he_Qb (by decide) (by omega))
          have hT : TSTp O Qb Vs Q.R Qb.R Qs.R (tstC g9) := ⟨by omega, by omega, hkb, Q.R, g9, by rw [hf_Qb.2.2]; exact pk_us, hWb, rfl⟩
          have hfin : baP f n ok (orL f n) (cmL f n) (qyL f n) i = some (js, notC (tstC g9)) := by rw [hbp]; exact baB_q1 hn40 hbeg hv_2 (fun h => absurd h.1 (by decide))
          refine lv_goto (tgt := 267) hx hb d_Mo_basic_228 (by decide) ?_
          refine lv_iload_n hx hb d_Mo_basic_267 rfl (lv_at hl 4 rfl) ?_
          refine lv_if_ne (tgt := 277) hx hb d_Mo_basic_268 (by decide) (fun _ => ?_) (fun h => absurd h (by decide))
          refine lv_aload_n hx hb d_Mo_basic_277 rfl (lv_at hl 5 rfl) ?_
          refine lv_bipush (v := 32) hx hb d_Mo_basic_278 (by decide) ?_
          have hPc := hP.sub (ws' := [(mo, .inr (13, MF 30 (rf (rs v Qb o) js bs))), (Qb.qq, .inl (cI, (8 * Qb.C), .inl Qb.qf)), (Qb.qe, .inl (cL, (3 * Qb.C), .inr (.inl Qb.ef)))]) [0, 2, 3] rfl
          have hDc := hD.sub (ws' := [(mo, .inr (13, MF 30 (rf (rs v Qb o) js bs))), (Qb.qq, .inl (cI, (8 * Qb.C), .inl Qb.qf)), (Qb.qe, .inl (cL, (3 * Qb.C), .inr (.inl Qb.ef)))]) [0, 2, 3] (by decide) rfl
          have hKc := hK.sub (tys' := [(cI, .int), (cL, .long)]) [1, 2] rfl
          have hFc := va_free (wc := [(mo, .inr (13, MF 30 (rf (rs v Qb o) js bs))), (Qb.qq, .inl (cI, (8 * Qb.C), .inl Qb.qf)), (Qb.qe, .inl (cL, (3 * Qb.C), .inr (.inl Qb.ef)))]) hD hS hA [0, 2, 3] rfl
          refine w_same (fun hq0 => ?_)
          refine va_calli (va_runV (As := [.int 32]) (rest := []) ⟨hx, hb, hml, hown, hts⟩ (c_Mo_row l dC dI mo H v cI cL Qb o js bs 32 hQk_Qb) (cwV 1 hts (gt_V (own := R_Mo) (C := R_Mo) (i := 269) (y := y_Mo_row) i_Mo_row w_1407 w_1409 (gt_sel (y := y_Mo_row) (n := 30) (by decide +kernel)) w_7) rfl rfl rfl (by decide +kernel) ⟨Nat.le_trans (m := 13) (Nat.le_of_ble_eq_true rfl) (Nat.le_add_right 13 (15 + G)), Nat.le_trans (m := 500) (Nat.le_of_ble_eq_true rfl) (Nat.le_add_right 500 (600 + M))⟩) ⟨mp_blind, va_recv hKc hPc (ci := 13) (q0 := 0) rfl rfl, fun U hU hW => ⟨rfl, hU, by rw [hU]; exact hPc, va_K.moved hW.alike hKc, hDc.weaken (fun _ _ _ _ => trivial)⟩⟩ rfl rfl hl.1 rfl (lv_room (Nat.le_of_ble_eq_true rfl)) d_Mo_basic_280 ⟨(QAd.fit hG_QbVs hQk_Qb (by omega)).1, (QAd.fit hG_QbVs hQk_Qb (by omega)).2⟩) hS (fun q _ h => hFc q h) hFc (fun r0 Qn t9 H1 locs ht hvm hw hB hz1 hk1 hS => ?_)
          obtain ⟨⟨hP1, hK1, hD1⟩, hz9⟩ := hB
          rw [ht] at hP1
          rw [ht] at hz9
          obtain ⟨hr0, hA_Qn⟩ := hw
          have hA_Qn : QAd Qb Qn 32 := hA_Qn
          obtain ⟨hQk_Qn, hGa, hGb, hGd, hR_Qn⟩ := hA_Qn.gq hQk_Qb (by omega) Vs
          obtain ⟨hG_QnVs, hGc, hGs⟩ := hG_QbVs.tr hGa (show Qb.R + 1 ≤ Q.R + 8 * (n - i) + 1 by omega) (Nat.zero_le _)
          have hGc := Nat.le_trans (Nat.add_le_add_left hGb _) hGc
          have hGs := Nat.le_trans (Nat.add_le_add_left hGd _) hGs
          have hq1 : szk s.heap H1 (cQ Q V Qn Vs) (sQ Q V Qn Vs) := (hq0.trans hz9).mono hGc hGs
          refine w_tight hq1 ?_
          obtain ⟨hP, hD⟩ := va_join (wr := [(qx, .inl (cB, NN, .inl f)), (tv, .inr (12, MF 13 (tw Vs))), (Vs.au, .inl (cC, Vs.U, .inl Vs.un))]) (w1 := [(mo, .inr (13, MF 30 (rf (rs v Qn o) js bs))), (Qn.qq, .inl (cI, (8 * Qn.C), .inl Qn.qf)), (Qn.qe, .inl (cL, (3 * Qn.C), .inr (.inl Qn.ef)))]) hP hD [0, 2, 3] [1, 4, 5] rfl rfl (by decide) (by decide) hk1 hFc hP1 hD1
          generalize H1 = H at hP hS ⊢
          have hP : va_P (dC, dI) classes [(qx, .inl (cB, NN, .inl f)), (tv, .inr (12, MF 13 (tw Vs))), (Vs.au, .inl (cC, Vs.U, .inl Vs.un)), (mo, .inr (13, MF 30 (rf (rs v Qn o) js bs))), (Qn.qq, .inl (cI, (8 * Qn.C), .inl Qn.qf)), (Qn.qe, .inl (cL, (3 * Qn.C), .inr (.inl Qn.ef)))] H := hP
          have hD : va_D A [(qx, .inl (cB, NN, .inl f)), (tv, .inr (12, MF 13 (tw Vs))), (Vs.au, .inl (cC, Vs.U, .inl Vs.un)), (mo, .inr (13, MF 30 (rf (rs v Qn o) js bs))), (Qn.qq, .inl (cI, (8 * Qn.C), .inl Qn.qf)), (Qn.qe, .inl (cL, (3 * Qn.C), .inr (.inl Qn.ef)))] := hD
          have hP := hP.sub (ws' := [(mo, .inr (13, MF 30 (rf (rs v Qn o) js bs))), (qx, .inl (cB, NN, .inl f)), (tv, .inr (12, MF 13 (tw Vs))), (Vs.au, .inl (cC, Vs.U, .inl Vs.un)), (Qn.qq, .inl (cI, (8 * Qn.C), .inl Qn.qf)), (Qn.qe, .inl (cL, (3 * Qn.C), .inr (.inl Qn.ef)))]) [3, 0, 1, 2, 4, 5] rfl
          have hD := hD.sub (ws' := [(mo, .inr (13, MF 30 (rf (rs v Qn o) js bs))), (qx, .inl (cB, NN, .inl f)), (tv, .inr (12, MF 13 (tw Vs))), (Vs.au, .inl (cC, Vs.U, .inl Vs.un)), (Qn.qq, .inl (cI, (8 * Qn.C), .inl Qn.qf)), (Qn.qe, .inl (cL, (3 * Qn.C), .inr (.inl Qn.ef)))]) [3, 0, 1, 2, 4, 5] (by decide) rfl
          have hP := hP.sub (ws' := [(mo, .inr (13, MF 30 (rf (rs v Qn o) js bs))), (qx, .inl (cB, NN, .inl f)), (Qn.qq, .inl (cI, (8 * Qn.C), .inl Qn.qf)), (Qn.qe, .inl (cL, (3 * Qn.C), .inr (.inl Qn.ef))), (tv, .inr (12, MF 13 (tw Vs))), (Vs.au, .inl (cC, Vs.U, .inl Vs.un))]) [0, 1, 4, 5, 2, 3] rfl
          have hD := hD.sub (ws' := [(mo, .inr (13, MF 30 (rf (rs v Qn o) js bs))), (qx, .inl (cB, NN, .inl f)), (Qn.qq, .inl (cI, (8 * Qn.C), .inl Qn.qf)), (Qn.qe, .inl (cL, (3 * Qn.C), .inr (.inl Qn.ef))), (tv, .inr (12, MF 13 (tw Vs))), (Vs.au, .inl (cC, Vs.U, .inl Vs.un))]) [0, 1, 4, 5, 2, 3] (by decide) rfl
          have hr0 : r0 = nI Qb.R := hr0
          subst hr0
          have hqb_QnVs : Qn.R ≤ Qn.C ∧ Qn.C ≤ 100000 := ⟨hQk_Qn.2.2.1, hQk_Qn.2.1⟩
          have hfit_QnVs := hG_QnVs.fits
          have hE_Qn : alr Qb Vs Qn Vs 0 Qb.R := ⟨fun r9 k9 _ h1 h2 => hA_Qn.2.2.1 _ (by omega), ⟨fun r9 k9 _ h1 h2 => hA_Qn.2.2.2.1.2 _ (by omega), Nat.le_refl _, fun _ _ => rfl⟩⟩
          refine lv_istore_n (lv' := [(3, .int (nI Qb.R)), (2, .int (nI Qs.R)), (5, .int (nI js)), (4, .int (nI Q.R)), (1, .int 1), (0, .ref mo)]) hx hb d_Mo_basic_283 rfl hl (by decide) rfl (fun ls hl => ?_)
          refine lv_aload_n hx hb d_Mo_basic_284 rfl (lv_at hl 5 rfl) ?_
          refine lv_iload_n hx hb d_Mo_basic_285 rfl (lv_at hl 0 rfl) ?_
          refine lv_iconst (v := 2) hx hb d_Mo_basic_286 (by decide) ?_
          refine lv_iload_n hx hb d_Mo_basic_287 rfl (lv_at hl 1 rfl) ?_
          refine W.eq (g2 := F0 m 288 ls [.int (nI Qs.R), .int (nI 2), .int (nI Qb.R), .ref mo]) rfl ?_
          have hPc := hP.sub (ws' := [(mo, .inr (13, MF 30 (rf (rs v Qn o) js bs))), (Qn.qq, .inl (cI, (8 * Qn.C), .inl Qn.qf))]) [0, 2] rfl
          have hDc := hD.sub (ws' := [(mo, .inr (13, MF 30 (rf (rs v Qn o) js bs))), (Qn.qq, .inl (cI, (8 * Qn.C), .inl Qn.qf))]) [0, 2] (by decide) rfl
          have hKc := hK.sub (tys' := [(cI, .int)]) [1] rfl
          have hFc := va_free (wc := [(mo, .inr (13, MF 30 (rf (rs v Qn o) js bs))), (Qn.qq, .inl (cI, (8 * Qn.C), .inl Qn.qf))]) hD hS hA [0, 2] rfl
          refine va_callv (va_runV (As := [.int (nI Qb.R), .int (nI 2), .int (nI Qs.R)]) (rest := []) ⟨hx, hb, hml, hown, hts⟩ (c_Mo_set l dC dI mo H (rf (rs v Qn o) js bs) cI Qn.qq (8 * Qn.C) Qn.qf Qb.R 2 ((nI Qs.R)) (by omega) (by omega) ((rf_ne (by decide) (by decide)).trans rs_19)) (cwV 3 hts (gt_V (own := R_Mo) (C := R_Mo) (i := 272) (y := y_Mo_set) i_Mo_set w_1411 w_1413 (gt_sel (y := y_Mo_set) (n := 30) (by decide +kernel)) w_7) rfl rfl rfl (by decide +kernel) ⟨Nat.le_trans (m := 13) (Nat.le_of_ble_eq_true rfl) (Nat.le_add_right 13 (15 + G)), Nat.le_trans (m := 500) (Nat.le_of_ble_eq_true rfl) (Nat.le_add_right 500 (600 + M))⟩) ⟨mp_blind, va_recv hKc hPc (ci := 13) (q0 := 0) rfl rfl, fun U hU hW => ⟨rfl, hU, by rw [hU]; exact hPc, va_K.moved hW.alike hKc, hDc.weaken (fun _ _ _ _ => trivial)⟩⟩ rfl rfl hl.1 rfl (lv_room (Nat.le_of_ble_eq_true rfl)) d_Mo_basic_288 ⟨hfit_QnVs.1, hfit_QnVs.2⟩) hS (fun q _ h => hFc q h) hFc (fun _u t9 H1 locs ht hvm hw hB hz1 hk1 hS => ?_)
          obtain ⟨hP1, hK1, hD1⟩ := hB
          rw [ht] at hP1
          obtain ⟨hP, hD⟩ := va_join (wr := [(qx, .inl (cB, NN, .inl f)), (Qn.qe, .inl (cL, (3 * Qn.C), .inr (.inl Qn.ef))), (tv, .inr (12, MF 13 (tw Vs))), (Vs.au, .inl (cC, Vs.U, .inl Vs.un))]) (w1 := [(mo, .inr (13, MF 30 (rf (rs v Qn o) js bs))), (Qn.qq, .inl (cI, (8 * Qn.C), .inl (upd Qn.qf (8 * Qb.R + 2) ((nI Qs.R)))))]) hP hD [0, 2] [1, 3, 4, 5] rfl rfl (by decide) (by decide) hk1 hFc hP1 hD1
          generalize H1 = H at hP hS ⊢
          have hP : va_P (dC, dI) classes [(qx, .inl (cB, NN, .inl f)), (Qn.qe, .inl (cL, (3 * Qn.C), .inr (.inl Qn.ef))), (tv, .inr (12, MF 13 (tw Vs))), (Vs.au, .inl (cC, Vs.U, .inl Vs.un)), (mo, .inr (13, MF 30 (rf (rs v Qn o) js bs))), (Qn.qq, .inl (cI, (8 * Qn.C), .inl (upd Qn.qf (8 * Qb.R + 2) ((nI Qs.R)))))] H := hP
          have hD : va_D A [(qx, .inl (cB, NN, .inl f)), (Qn.qe, .inl (cL, (3 * Qn.C), .inr (.inl Qn.ef))), (tv, .inr (12, MF 13 (tw Vs))), (Vs.au, .inl (cC, Vs.U, .inl Vs.un)), (mo, .inr (13, MF 30 (rf (rs v Qn o) js bs))), (Qn.qq, .inl (cI, (8 * Qn.C), .inl (upd Qn.qf (8 * Qb.R + 2) ((nI Qs.R)))))] := hD
          have hP := hP.sub (ws' := [(mo, .inr (13, MF 30 (rf (rs v Qn o) js bs))), (qx, .inl (cB, NN, .inl f)), (Qn.qq, .inl (cI, (8 * Qn.C), .inl (upd Qn.qf (8 * Qb.R + 2) ((nI Qs.R))))), (Qn.qe, .inl (cL, (3 * Qn.C), .inr (.inl Qn.ef))), (tv, .inr (12, MF 13 (tw Vs))), (Vs.au, .inl (cC, Vs.U, .inl Vs.un))]) [4, 0, 5, 1, 2, 3] rfl
          have hD := hD.sub (ws' := [(mo, .inr (13, MF 30 (rf (rs v Qn o) js bs))), (qx, .inl (cB, NN, .inl f)), (Qn.qq, .inl (cI, (8 * Qn.C), .inl (upd Qn.qf (8 * Qb.R + 2) ((nI Qs.R))))), (Qn.qe, .inl (cL, (3 * Qn.C), .inr (.inl Qn.ef))), (tv, .inr (12, MF 13 (tw Vs))), (Vs.au, .inl (cC, Vs.U, .inl Vs.un))]) [4, 0, 5, 1, 2, 3] (by decide) rfl
          obtain ⟨Qw, e_Qw⟩ : ∃ z : QS, z = QS.wf Qn (upd Qn.qf (8 * Qb.R + 2) ((nI Qs.R))) := ⟨_, rfl⟩
          have hP : va_P (dC, dI) classes [(mo, .inr (13, MF 30 (rf (rs v Qw o) js bs))), (qx, .inl (cB, NN, .inl f)), (Qw.qq, .inl (cI, (8 * Qw.C), .inl Qw.qf)), (Qw.qe, .inl (cL, (3 * Qw.C), .inr (.inl Qw.ef))), (tv, .inr (12, MF 13 (tw Vs))), (Vs.au, .inl (cC, Vs.U, .inl Vs.un))] H := by subst e_Qw; exact hP
          have hD : va_D A [(mo, .inr (13, MF 30 (rf (rs v Qw o) js bs))), (qx, .inl (cB, NN, .inl f)), (Qw.qq, .inl (cI, (8 * Qw.C), .inl Qw.qf)), (Qw.qe, .inl (cL, (3 * Qw.C), .inr (.inl Qw.ef))), (tv, .inr (12, MF 13 (tw Vs))), (Vs.au, .inl (cC, Vs.U, .inl Vs.un))] := by subst e_Qw; exact hD
          have hf_Qw : Qw.C = Qn.C ∧ Qw.R = Qn.R ∧ Qw.qf = upd Qn.qf (8 * Qb.R + 2) ((nI Qs.R)) := by rw [e_Qw]; exact ⟨rfl, rfl, rfl⟩
          have he_Qw : Qw.ef = Qn.ef := by rw [e_Qw]; rfl
          have hQk_Qw : QOK Qw := by rw [e_Qw]; exact hQk_Qn
          have hG_QwVs : GQ (Q.R + 8 * (n - i) + 1) (V.us + (n + 12 - i)) Q V Qw Vs := by unfold GQ at hG_QnVs ⊢; rw [hf_Qw.1]; exact hG_QnVs
          refine w_same (fun hq => ?_)
          refine w_tight (k := cQ Q V Qw Vs) (n := sQ Q V Qw Vs) (by unfold cQ sQ at hq ⊢; rw [hf_Qw.1]; exact hq) ?_
          have hR_Qw := hf_Qw.2.1
          have hqb_QwVs : Qw.R ≤ Qw.C ∧ Qw.C ≤ 100000 := ⟨hQk_Qw.2.2.1, hQk_Qw.2.1⟩
          have hfit_QwVs := hG_QwVs.fits
          have hkw : Qw.qf (8 * Qb.R + 0) = 32 := by rw [hf_Qw.2.2, pk_un (by omega)]; exact hA_Qn.2.2.2.2.1
          have hlw : Qw.qf (8 * Qb.R + 1) = -1 := by rw [hf_Qw.2.2, pk_un (by omega)]; exact hA_Qn.2.2.2.2.2 1 (by decide) (by decide)
          have hfw : Qw.qf (8 * Qb.R + 2) = nI Qs.R := by rw [hf_Qw.2.2]; exact pk_us
          have holdw : alr Qb Vs Qw Vs 0 Qb.R := hE_Qn.tr (alr.upd hf_Qw.2.2 he_Qw (by decide) (by omega))
          refine lv_iload_n hx hb d_Mo_basic_291 rfl (lv_at hl 0 rfl) ?_
          have hWw : Wth (TSTp O) Qw Vs Q.R Qw.R Qb.R Qs.R (tstC g9) := Wth_up (TSTp_fr hOf) hT (Nat.le_refl _) (by omega) (by omega) (holdw.sub (Nat.zero_le _) (Nat.le_refl _))
          have hB : BASf O C Y Qw Vs Q.R Qw.R Qb.R (notC (tstC g9)) := ⟨by omega, by omega, Or.inr (Or.inl ⟨hkw, Qs.R, (tstC g9), hfw, Or.inr hWw, rfl⟩)⟩
          have hExw : alr Q V Qw Vs 0 Q.R := hExb.tr (holdw.sub (Nat.le_refl _) (by omega))
          refine w_same (fun hq => ?_)
          refine W.widen (k := kcap Q (Q.R + 8 * (n - i) + 1) + qcap V (V.us + (n + 12 - i))) (n := 22 * kcap Q (Q.R + 8 * (n - i) + 1) + 2 * qcap V (V.us + (n + 12 - i))) hfit_QwVs.1 hfit_QwVs.2 ?_
          have hPo : QPo n i 1 Q V (Qw, Vs, js, bs, o) := ⟨hQk_Qw, hG_QwVs, ⟨_, hX_Vs, by omega⟩, by show Q.R ≤ Qw.R; omega, by show Qw.R ≤ Q.R + 8 * (n - i) + 1; omega⟩
          exact W.iret (v := nI Qb.R) hx hb hr (fun t9 ht hW => ⟨⟨nI Qb.R, (Qw, Vs, js, bs, o), rfl, ⟨hPo, Or.inl ⟨Qb.R, notC (tstC g9), rfl, hfin, hB, by show Qb.R < Qw.R; omega, hlw, hExw, by show Qw.R + 8 * i + 5 ≤ Q.R + 8 * js; omega, by show Vs.us + i ≤ V.us + js; omega, by show js ≤ n; omega, by show Q.R < Qw.R; omega, rfl⟩⟩, ⟨by rw [ht]; exact hP, va_K.moved hW.alike hK, hD⟩, by rw [ht]; exact hq⟩, hS.F ht⟩) hS.2.2 d_Mo_basic_292
        · have hv_2 : qrP f n ok (orL f n) false (decide (hereV f n (skipH f n (i + 1)) = 36)) ((skipH f n (i + 1)) + 1) = none := by rw [hrtb]; exact hv_2
          subst hv_1
          refine lv_istore (lv' := [(4, .int (-1)), (3, .int 0), (1, .int 1), (0, .ref mo)]) hx hb d_Mo_basic_132 hl (by decide) rfl (fun ls hl => ?_)
          refine lv_iload hx hb d_Mo_basic_134 (lv_at hl 0 rfl) ?_
          refine lv_if_ge (tgt := 141) hx hb d_Mo_basic_136 (by decide) (fun h => absurd h (by decide)) (fun _ => ?_)
          refine lv_iconst (v := (-1)) hx hb d_Mo_basic_139 (by decide) ?_
          have hfin : baP f n ok (orL f n) (cmL f n) (qyL f n) i = none := by rw [hbp]; exact baB_q0 hn40 hbeg hv_2
          refine w_same (fun hq => ?_)
          refine W.widen (k := kcap Q (Q.R + 8 * (n - i) + 1) + qcap V (V.us + (n + 12 - i))) (n := 22 * kcap Q (Q.R + 8 * (n - i) + 1) + 2 * qcap V (V.us + (n + 12 - i))) hfit_QsVs.1 hfit_QsVs.2 ?_
          have hPo : QPo n i 1 Q V (Qs, Vs, js, bs, os) := ⟨hQk_Qs, hG_QsVs, ⟨_, hX_Vs, by omega⟩, by show Q.R ≤ Qs.R; omega, by show Qs.R ≤ Q.R + 8 * (n - i) + 1; omega⟩
          exact W.iret (v := -1) hx hb hr (fun t9 ht hW => ⟨⟨-1, (Qs, Vs, js, bs, os), rfl, ⟨hPo, Or.inr ⟨rfl, hfin⟩⟩, ⟨by rw [ht]; exact hP, va_K.moved hW.alike hK, hD⟩, by rw [ht]; exact hq⟩, hS.F ht⟩) hS.2.2 d_Mo_basic_140
      · refine lv_aload_n hx hb d_Mo_basic_92 rfl (lv_at hl 1 rfl) ?_
        have hPc := hP.sub (ws' := [(mo, .inr (13, MF 30 (rf (rs v Q o) (skipH f n (i + 1)) br))), (qx, .inl (cB, NN, .inl f))]) [0, 1] rfl
        have hDc := hD.sub (ws' := [(mo, .inr (13, MF 30 (rf (rs v Q o) (skipH f n (i + 1)) br))), (qx, .inl (cB, NN, .inl f))]) [0, 1] (by decide) rfl
        have hKc := hK.sub (tys' := [(cB, .byte)]) [0] rfl
        have hFc := va_free (wc := [(mo, .inr (13, MF 30 (rf (rs v Q o) (skipH f n (i + 1)) br))), (qx, .inl (cB, NN, .inl f))]) hD hS hA [0, 1] rfl
        refine va_calli (va_runV (As := []) (rest := []) ⟨hx, hb, hml, hown, hts⟩ (c_Mo_c l dC dI mo H (rf (rs v Q o) (skipH f n (i + 1)) br) cB qx NN f n (skipH f n (i + 1)) (by omega) (by omega) (by omega) ((rf_ne (by decide) (by decide)).trans ((rs_ne (by decide) (by decide) (by decide) (by decide)).trans h6)) rf_7 ((rf_ne (by decide) (by decide)).trans ((rs_ne (by decide) (by decide) (by decide) (by decide)).trans h8))) (cwV 0 hts (gt_V (own := R_Mo) (C := R_Mo) (i := 147) (y := y_Mo_c) i_Mo_c w_1233 w_1235 (gt_sel (y := y_Mo_c) (n := 30) (by decide +kernel)) w_7) rfl rfl rfl (by decide +kernel) ⟨Nat.le_trans (m := 13) (Nat.le_of_ble_eq_true rfl) (Nat.le_add_right 13 (15 + G)), Nat.le_trans (m := 500) (Nat.le_of_ble_eq_true rfl) (Nat.le_add_right 500 (600 + M))⟩) ⟨mp_blind, va_recv hKc hPc (ci := 13) (q0 := 0) rfl rfl, fun U hU hW => ⟨rfl, hU, by rw [hU]; exact hPc, va_K.moved hW.alike hKc, hDc.weaken (fun _ _ _ _ => trivial)⟩⟩ rfl rfl hl.1 rfl (lv_room (Nat.le_of_ble_eq_true rfl)) d_Mo_basic_93 ⟨hfit_QV.1, hfit_QV.2⟩) hS (fun q _ h => hFc q h) hFc (fun r4 _u t9 H1 locs ht hvm hw hB hz1 hk1 hS => ?_)
        obtain ⟨hP1, hK1, hD1⟩ := hB
        rw [ht] at hP1
        obtain ⟨hP, hD⟩ := va_join (wr := [(Q.qq, .inl (cI, (8 * Q.C), .inl Q.qf)), (Q.qe, .inl (cL, (3 * Q.C), .inr (.inl Q.ef))), (tv, .inr (12, MF 13 (tw V))), (V.au, .inl (cC, V.U, .inl V.un))]) (w1 := [(mo, .inr (13, MF 30 (rf (rs v Q o) (skipH f n (i + 1)) br))), (qx, .inl (cB, NN, .inl f))]) hP hD [0, 1] [2, 3, 4, 5] rfl rfl (by decide) (by decide) hk1 hFc hP1 hD1
        generalize H1 = H at hP hS ⊢
        have hP : va_P (dC, dI) classes [(Q.qq, .inl (cI, (8 * Q.C), .inl Q.qf)), (Q.qe, .inl (cL, (3 * Q.C), .inr (.inl Q.ef))), (tv, .inr (12, MF 13 (tw V))), (V.au, .inl (cC, V.U, .inl V.un)), (mo, .inr (13, MF 30 (rf (rs v Q o) (skipH f n (i + 1)) br))), (qx, .inl (cB, NN, .inl f))] H := hP
        have hD : va_D A [(Q.qq, .inl (cI, (8 * Q.C), .inl Q.qf)), (Q.qe, .inl (cL, (3 * Q.C), .inr (.inl Q.ef))), (tv, .inr (12, MF 13 (tw V))), (V.au, .inl (cC, V.U, .inl V.un)), (mo, .inr (13, MF 30 (rf (rs v Q o) (skipH f n (i + 1)) br))), (qx, .inl (cB, NN, .inl f))] := hD
        have hP := hP.sub (ws' := [(mo, .inr (13, MF 30 (rf (rs v Q o) (skipH f n (i + 1)) br))), (qx, .inl (cB, NN, .inl f)), (Q.qq, .inl (cI, (8 * Q.C), .inl Q.qf)), (Q.qe, .inl (cL, (3 * Q.C), .inr (.inl Q.ef))), (tv, .inr (12, MF 13 (tw V))), (V.au, .inl (cC, V.U, .inl V.un))]) [4, 5, 0, 1, 2, 3] rfl
        have hD := hD.sub (ws' := [(mo, .inr (13, MF 30 (rf (rs v Q o) (skipH f n (i + 1)) br))), (qx, .inl (cB, NN, .inl f)), (Q.qq, .inl (cI, (8 * Q.C), .inl Q.qf)), (Q.qe, .inl (cL, (3 * Q.C), .inr (.inl Q.ef))), (tv, .inr (12, MF 13 (tw V))), (V.au, .inl (cC, V.U, .inl V.un))]) [4, 5, 0, 1, 2, 3] (by decide) rfl
        have h_r4 : r4 = hereV f n (skipH f n (i + 1)) := hw
        refine lv_bipush (v := 36) hx hb d_Mo_basic_96 (by decide) ?_
        refine lv_icmp_ne (tgt := 231) hx hb d_Mo_basic_98 (by decide) (fun c98 => ?_) (fun c98 => ?_)
        · have hnb : ¬ begC (hereV f n (skipH f n (i + 1))) := fun h => h.elim (fun q => c89 (h_r3.trans q)) (fun q => c98 (h_r4.trans q))
          refine lv_iload_n hx hb d_Mo_basic_231 rfl (lv_at hl 0 rfl) ?_
          refine lv_if_eq (tgt := 246) hx hb d_Mo_basic_232 (by decide) (fun h => absurd h (by decide)) (fun _ => ?_)
          refine lv_aload_n hx hb d_Mo_basic_235 rfl (lv_at hl 1 rfl) ?_
          refine lv_aload_n hx hb d_Mo_basic_236 rfl (lv_at hl 1 rfl) ?_
          refine va_get (D := (dC, dI)) (ci := 13) (v := .int (nI (skipH f n (i + 1)))) (C := R_Mo) (T := F_Mo) (N := 30) hx hb hts in_Mo hown hK hP 0 rfl rfl 7 (by decide) (hts _ w_1096) (fun _ h9 => h9) (MFg (by decide) rf_7) d_Mo_basic_237 ?_
          have hPc := hP.sub (ws' := [(mo, .inr (13, MF 30 (rf (rs v Q o) (skipH f n (i + 1)) br)))]) [0] rfl
          have hDc := hD.sub (ws' := [(mo, .inr (13, MF 30 (rf (rs v Q o) (skipH f n (i + 1)) br)))]) [0] (by decide) rfl
          have hKc := hK.sub (tys' := []) [] rfl
          have hFc := va_free (wc := [(mo, .inr (13, MF 30 (rf (rs v Q o) (skipH f n (i + 1)) br)))]) hD hS hA [0] rfl
          refine va_calli (va_runV (As := [.int (nI (skipH f n (i + 1)))]) (rest := []) ⟨hx, hb, hml, hown, hts⟩ (c_Mo_fail l dC dI mo H (rf (rs v Q o) (skipH f n (i + 1)) br) br ((nI (skipH f n (i + 1)))) rf_9) (cwV 1 hts (gt_V (own := R_Mo) (C := R_Mo) (i := 151) (y := y_Mo_fail) i_Mo_fail w_1250 w_1252 (gt_sel (y := y_Mo_fail) (n := 30) (by decide +kernel)) w_7) rfl rfl rfl (by decide +kernel) ⟨Nat.le_trans (m := 13) (Nat.le_of_ble_eq_true rfl) (Nat.le_add_right 13 (15 + G)), Nat.le_trans (m := 500) (Nat.le_of_ble_eq_true rfl) (Nat.le_add_right 500 (600 + M))⟩) ⟨mp_blind, va_recv hKc hPc (ci := 13) (q0 := 0) rfl rfl, fun U hU hW => ⟨rfl, hU, by rw [hU]; exact hPc, va_K.moved hW.alike hKc, hDc.weaken (fun _ _ _ _ => trivial)⟩⟩ rfl rfl hl.1 rfl (lv_room (Nat.le_of_ble_eq_true rfl)) d_Mo_basic_240 ⟨hfit_QV.1, hfit_QV.2⟩) hS (fun q _ h => hFc q h) hFc (fun r0 u2 t9 H1 locs ht hvm hw hB hz1 hk1 hS => ?_)
          obtain ⟨hP1, hK1, hD1⟩ := hB
          rw [ht] at hP1
          obtain ⟨hP, hD⟩ := va_join (wr := [(qx, .inl (cB, NN, .inl f)), (Q.qq, .inl (cI, (8 * Q.C), .inl Q.qf)), (Q.qe, .inl (cL, (3 * Q.C), .inr (.inl Q.ef))), (tv, .inr (12, MF 13 (tw V))), (V.au, .inl (cC, V.U, .inl V.un))]) (w1 := [(mo, .inr (13, MF 30 u2))]) hP hD [0] [1, 2, 3, 4, 5] rfl rfl (by decide) (by decide) hk1 hFc hP1 hD1
          generalize H1 = H at hP hS ⊢
          have hP : va_P (dC, dI) classes [(qx, .inl (cB, NN, .inl f)), (Q.qq, .inl (cI, (8 * Q.C), .inl Q.qf)), (Q.qe, .inl (cL, (3 * Q.C), .inr (.inl Q.ef))), (tv, .inr (12, MF 13 (tw V))), (V.au, .inl (cC, V.U, .inl V.un)), (mo, .inr (13, MF 30 u2))] H := hP
          have hD : va_D A [(qx, .inl (cB, NN, .inl f)), (Q.qq, .inl (cI, (8 * Q.C), .inl Q.qf)), (Q.qe, .inl (cL, (3 * Q.C), .inr (.inl Q.ef))), (tv, .inr (12, MF 13 (tw V))), (V.au, .inl (cC, V.U, .inl V.un)), (mo, .inr (13, MF 30 u2))] := hD
          have hP := hP.sub (ws' := [(mo, .inr (13, MF 30 u2)), (qx, .inl (cB, NN, .inl f)), (Q.qq, .inl (cI, (8 * Q.C), .inl Q.qf)), (Q.qe, .inl (cL, (3 * Q.C), .inr (.inl Q.ef))), (tv, .inr (12, MF 13 (tw V))), (V.au, .inl (cC, V.U, .inl V.un))]) [5, 0, 1, 2, 3, 4] rfl
          have hD := hD.sub (ws' := [(mo, .inr (13, MF 30 u2)), (qx, .inl (cB, NN, .inl f)), (Q.qq, .inl (cI, (8 * Q.C), .inl Q.qf)), (Q.qe, .inl (cL, (3 * Q.C), .inr (.inl Q.ef))), (tv, .inr (12, MF 13 (tw V))), (V.au, .inl (cC, V.U, .inl V.un))]) [5, 0, 1, 2, 3, 4] (by decide) rfl
          obtain ⟨b7, h_b7⟩ := rf_fail (v := (rs v Q o)) (i := (skipH f n (i + 1))) (br := br) (b2 := br) (wh := (nI (skipH f n (i + 1))))
          have hw : r0 = 0 ∧ u2 = _ := hw
          obtain ⟨hw1, hw2⟩ := hw
          rw [h_b7] at hw2
          rw [hw2] at hP hD
          subst hw1
          have hP : va_P (dC, dI) classes [(mo, .inr (13, MF 30 (rf (rs v Q o) (skipH f n (i + 1)) b7))), (qx, .inl (cB, NN, .inl f)), (Q.qq, .inl (cI, (8 * Q.C), .inl Q.qf)), (Q.qe, .inl (cL, (3 * Q.C), .inr (.inl Q.ef))), (tv, .inr (12, MF 13 (tw V))), (V.au, .inl (cC, V.U, .inl V.un))] H := hP
          have hD : va_D A [(mo, .inr (13, MF 30 (rf (rs v Q o) (skipH f n (i + 1)) b7))), (qx, .inl (cB, NN, .inl f)), (Q.qq, .inl (cI, (8 * Q.C), .inl Q.qf)), (Q.qe, .inl (cL, (3 * Q.C), .inr (.inl Q.ef))), (tv, .inr (12, MF 13 (tw V))), (V.au, .inl (cC, V.U, .inl V.un))] := hD
          refine lv_pop hx hb d_Mo_basic_243 rfl ?_
          refine lv_iconst (v := (-1)) hx hb d_Mo_basic_244 (by decide) ?_
          have hfin : baP f n ok (orL f n) (cmL f n) (qyL f n) i = none := by rw [hbp]; exact baB_n hn40 hnb rfl
          refine w_same (fun hq => ?_)
          refine W.widen (k := kcap Q (Q.R + 8 * (n - i) + 1) + qcap V (V.us + (n + 12 - i))) (n := 22 * kcap Q (Q.R + 8 * (n - i) + 1) + 2 * qcap V (V.us + (n + 12 - i))) hfit_QV.1 hfit_QV.2 ?_
          have hPo : QPo n i 1 Q V (Q, V, (skipH f n (i + 1)), b7, o) := ⟨hQk_Q, hG_QV, ⟨[], TX.rf hTk_V, Nat.zero_le _⟩, by show Q.R ≤ Q.R; omega, by show Q.R ≤ Q.R + 8 * (n - i) + 1; omega⟩
          exact W.iret (v := -1) hx hb hr (fun t9 ht hW => ⟨⟨-1, (Q, V, (skipH f n (i + 1)), b7, o), rfl, ⟨hPo, Or.inr ⟨rfl, hfin⟩⟩, ⟨by rw [ht]; exact hP, va_K.moved hW.alike hK, hD⟩, by rw [ht]; exact hq⟩, hS.F ht⟩) hS.2.2 d_Mo_basic_245
        · refine lv_aload_n hx hb d_Mo_basic_101 rfl (lv_at hl 1 rfl) ?_
          have hPc := hP.sub (ws' := [(mo, .inr (13, MF 30 (rf (rs v Q o) (skipH f n (i + 1)) br))), (qx, .inl (cB, NN, .inl f))]) [0, 1] rfl
          have hDc := hD.sub (ws' := [(mo, .inr (13, MF 30 (rf (rs v Q o) (skipH f n (i + 1)) br))), (qx, .inl (cB, NN, .inl f))]) [0, 1] (by decide) rfl
          have hKc := hK.sub (tys' := [(cB, .byte)]) [0] rfl
          have hFc := va_free (wc := [(mo, .inr (13, MF 30 (rf (rs v Q o) (skipH f n (i + 1)) br))), (qx, .inl (cB, NN, .inl f))]) hD hS hA [0, 1] rfl
          refine va_calli (va_runV (As := []) (rest := []) ⟨hx, hb, hml, hown, hts⟩ (c_Mo_c l dC dI mo H (rf (rs v Q o) (skipH f n (i + 1)) br) cB qx NN f n (skipH f n (i + 1)) (by omega) (by omega) (by omega) ((rf_ne (by decide) (by decide)).trans ((rs_ne (by decide) (by decide) (by decide) (by decide)).trans h6)) rf_7 ((rf_ne (by decide) (by decide)).trans ((rs_ne (by decide) (by decide) (by decide) (by decide)).trans h8))) (cwV 0 hts (gt_V (own := R_Mo) (C := R_Mo) (i := 147) (y := y_Mo_c) i_Mo_c w_1233 w_1235 (gt_sel (y := y_Mo_c) (n := 30) (by decide +kernel)) w_7) rfl rfl rfl (by decide +kernel) ⟨Nat.le_trans (m := 13) (Nat.le_of_ble_eq_true rfl) (Nat.le_add_right 13 (15 + G)), Nat.le_trans (m := 500) (Nat.le_of_ble_eq_true rfl) (Nat.le_add_right 500 (600 + M))⟩) ⟨mp_blind, va_recv hKc hPc (ci := 13) (q0 := 0) rfl rfl, fun U hU hW => ⟨rfl, hU, by rw [hU]; exact hPc, va_K.moved hW.alike hKc, hDc.weaken (fun _ _ _ _ => trivial)⟩⟩ rfl rfl hl.1 rfl (lv_room (Nat.le_of_ble_eq_true rfl)) d_Mo_basic_102 ⟨hfit_QV.1, hfit_QV.2⟩) hS (fun q _ h => hFc q h) hFc (fun r5 _u t9 H1 locs ht hvm hw hB hz1 hk1 hS => ?_)
          obtain ⟨hP1, hK1, hD1⟩ := hB
          rw [ht] at hP1
          obtain ⟨hP, hD⟩ := va_join (wr := [(Q.qq, .inl (cI, (8 * Q.C), .inl Q.qf)), (Q.qe, .inl (cL, (3 * Q.C), .inr (.inl Q.ef))), (tv, .inr (12, MF 13 (tw V))), (V.au, .inl (cC, V.U, .inl V.un))]) (w1 := [(mo, .inr (13, MF 30 (rf (rs v Q o) (skipH f n (i + 1)) br))), (qx, .inl (cB, NN, .inl f))]) hP hD [0, 1] [2, 3, 4, 5] rfl rfl (by decide) (by decide) hk1 hFc hP1 hD1
          generalize H1 = H at hP hS ⊢
          have hP : va_P (dC, dI) classes [(Q.qq, .inl (cI, (8 * Q.C), .inl Q.qf)), (Q.qe, .inl (cL, (3 * Q.C), .inr (.inl Q.ef))), (tv, .inr (12, MF 13 (tw V))), (V.au, .inl (cC, V.U, .inl V.un)), (mo, .inr (13, MF 30 (rf (rs v Q o) (skipH f n (i + 1)) br))), (qx, .inl (cB, NN, .inl f))] H := hP
          have hD : va_D A [(Q.qq, .inl (cI, (8 * Q.C), .inl Q.qf)), (Q.qe, .inl (cL, (3 * Q.C), .inr (.inl Q.ef))), (tv, .inr (12, MF 13 (tw V))), (V.au, .inl (cC, V.U, .inl V.un)), (mo, .inr (13, MF 30 (rf (rs v Q o) (skipH f n (i + 1)) br))), (qx, .inl (cB, NN, .inl f))] := hD
          have hP := hP.sub (ws' := [(mo, .inr (13, MF 30 (rf (rs v Q o) (skipH f n (i + 1)) br))), (qx, .inl (cB, NN, .inl f)), (Q.qq, .inl (cI, (8 * Q.C), .inl Q.qf)), (Q.qe, .inl (cL, (3 * Q.C), .inr (.inl Q.ef))), (tv, .inr (12, MF 13 (tw V))), (V.au, .inl (cC, V.U, .inl V.un))]) [4, 5, 0, 1, 2, 3] rfl
          have hD := hD.sub (ws' := [(mo, .inr (13, MF 30 (rf (rs v Q o) (skipH f n (i + 1)) br))), (qx, .inl (cB, NN, .inl f)), (Q.qq, .inl (cI, (8 * Q.C), .inl Q.qf)), (Q.qe, .inl (cL, (3 * Q.C), .inr (.inl Q.ef))), (tv, .inr (12, MF 13 (tw V))), (V.au, .inl (cC, V.U, .inl V.un))]) [4, 5, 0, 1, 2, 3] (by decide) rfl
          have h_r5 : r5 = hereV f n (skipH f n (i + 1)) := hw
          refine lv_bipush (v := 36) hx hb d_Mo_basic_105 (by decide) ?_
          refine lv_icmp_ne (tgt := 114) hx hb d_Mo_basic_107 (by decide) (fun h => absurd h (fun q => q (h_r5.trans (h_r4.symm.trans c98)))) (fun _ => ?_)
          refine lv_iconst (v := 1) hx hb d_Mo_basic_110 (by decide) ?_
          refine lv_goto (tgt := 115) hx hb d_Mo_basic_111 (by decide) ?_
          refine lv_istore_n (lv' := [(3, .int 1), (1, .int 1), (0, .ref mo)]) hx hb d_Mo_basic_115 rfl hl (by decide) rfl (fun ls hl => ?_)
          refine lv_aload_n hx hb d_Mo_basic_116 rfl (lv_at hl 2 rfl) ?_
          refine lv_dup hx hb d_Mo_basic_117 rfl ?_
          refine va_get (D := (dC, dI)) (ci := 13) (v := .int (nI (skipH f n (i + 1)))) (C := R_Mo) (T := F_Mo) (N := 30) hx hb hts in_Mo hown hK hP 0 rfl rfl 7 (by decide) (hts _ w_1096) (fun _ h9 => h9) (MFg (by decide) rf_7) d_Mo_basic_118 ?_
          refine lv_iconst (v := 1) hx hb d_Mo_basic_121 (by decide) ?_
          refine lv_iadd hx hb d_Mo_basic_122 ?_
          have hbeg : begC (hereV f n (skipH f n (i + 1))) := Or.inr (h_r4.symm.trans c98)
          have hltb : (skipH f n (i + 1)) < n := hbeg.elim (fun h => here_in h (by decide)) (fun h => here_in h (by decide))
          have hrtb : decide (hereV f n (skipH f n (i + 1)) = 36) = true := decide_eq_true (h_r4.symm.trans c98)
          refine W.eq (g2 := F0 m 123 ls [.int (nI ((skipH f n (i + 1)) + 1)), .ref mo]) (by rw [show ((nI (skipH f n (i + 1))) + 1) = (nI ((skipH f n (i + 1)) + 1)) from nI_1 _]) ?_
          refine va_put (D := (dC, dI)) (ci := 13) (v := .int (nI ((skipH f n (i + 1)) + 1))) (ty := .int) (C := R_Mo) (T := F_Mo) (N := 30) hx hb hts in_Mo t_Mo t_Mo_ok n_Mo hown hK hP hD hS 0 rfl rfl 7 (by decide) (hts _ w_1096) (fun _ h9 => h9) rfl (by decide +kernel) rfl rfl (by rw [MFl]; decide) d_Mo_basic_123 (fun H locs hP hD hS => ?_)
          rw [MFs (n := 30) (k := 7) (by decide)] at hP hD
          have hP : va_P (dC, dI) classes [(mo, .inr (13, MF 30 (va_up (rf (rs v Q o) (skipH f n (i + 1)) br) 7 (.int (nI ((skipH f n (i + 1)) + 1)))))), (qx, .inl (cB, NN, .inl f)), (Q.qq, .inl (cI, (8 * Q.C), .inl Q.qf)), (Q.qe, .inl (cL, (3 * Q.C), .inr (.inl Q.ef))), (tv, .inr (12, MF 13 (tw V))), (V.au, .inl (cC, V.U, .inl V.un))] H := hP
          have hD : va_D A [(mo, .inr (13, MF 30 (va_up (rf (rs v Q o) (skipH f n (i + 1)) br) 7 (.int (nI ((skipH f n (i + 1)) + 1)))))), (qx, .inl (cB, NN, .inl f)), (Q.qq, .inl (cI, (8 * Q.C), .inl Q.qf)), (Q.qe, .inl (cL, (3 * Q.C), .inr (.inl Q.ef))), (tv, .inr (12, MF 13 (tw V))), (V.au, .inl (cC, V.U, .inl V.un))] := hD
          rw [rf_u7] at hP hD
          have hP : va_P (dC, dI) classes [(mo, .inr (13, MF 30 (rf (rs v Q o) ((skipH f n (i + 1)) + 1) br))), (qx, .inl (cB, NN, .inl f)), (Q.qq, .inl (cI, (8 * Q.C), .inl Q.qf)), (Q.qe, .inl (cL, (3 * Q.C), .inr (.inl Q.ef))), (tv, .inr (12, MF 13 (tw V))), (V.au, .inl (cC, V.U, .inl V.un))] H := hP
          have hD : va_D A [(mo, .inr (13, MF 30 (rf (rs v Q o) ((skipH f n (i + 1)) + 1) br))), (qx, .inl (cB, NN, .inl f)), (Q.qq, .inl (cI, (8 * Q.C), .inl Q.qf)), (Q.qe, .inl (cL, (3 * Q.C), .inr (.inl Q.ef))), (tv, .inr (12, MF 13 (tw V))), (V.au, .inl (cC, V.U, .inl V.un))] := hD
          refine lv_aload_n hx hb d_Mo_basic_126 rfl (lv_at hl 2 rfl) ?_
          refine lv_iload_n hx hb d_Mo_basic_127 rfl (lv_at hl 0 rfl) ?_
          refine lv_iconst (v := 0) hx hb d_Mo_basic_128 (by decide) ?_
          have hPc := hP.sub (ws' := [(mo, .inr (13, MF 30 (rf (rs v Q o) ((skipH f n (i + 1)) + 1) br))), (qx, .inl (cB, NN, .inl f)), (Q.qq, .inl (cI, (8 * Q.C), .inl Q.qf)), (Q.qe, .inl (cL, (3 * Q.C), .inr (.inl Q.ef))), (tv, .inr (12, MF 13 (tw V))), (V.au, .inl (cC, V.U, .inl V.un))]) [0, 1, 2, 3, 4, 5] rfl
          have hDc := hD.sub (ws' := [(mo, .inr (13, MF 30 (rf (rs v Q o) ((skipH f n (i + 1)) + 1) br))), (qx, .inl (cB, NN, .inl f)), (Q.qq, .inl (cI, (8 * Q.C), .inl Q.qf)), (Q.qe, .inl (cL, (3 * Q.C), .inr (.inl Q.ef))), (tv, .inr (12, MF 13 (tw V))), (V.au, .inl (cC, V.U, .inl V.un))]) [0, 1, 2, 3, 4, 5] (by decide) rfl
          have hKc := hK.sub (tys' := [(cB, .byte), (cI, .int), (cL, .long), (cC, .char)]) [0, 1, 2, 3] rfl
          have hFc := va_free (wc := [(mo, .inr (13, MF 30 (rf (rs v Q o) ((skipH f n (i + 1)) + 1) br))), (qx, .inl (cB, NN, .inl f)), (Q.qq, .inl (cI, (8 * Q.C), .inl Q.qf)), (Q.qe, .inl (cL, (3 * Q.C), .inr (.inl Q.ef))), (tv, .inr (12, MF 13 (tw V))), (V.au, .inl (cC, V.U, .inl V.un))]) hD hS hA [0, 1, 2, 3, 4, 5] rfl
          refine w_same (fun hq0 => ?_)
          refine va_calli (va_runV (As := [.int 1, .int 0]) (rest := []) ⟨hx, hb, hml, hown, hts⟩ (c_qr0 orL O (15 + G) (600 + M) hOf l dC dI mo H v cB cI cL cC qx NN f n K tv Q V o ((skipH f n (i + 1)) + 1) br true 1 (by decide) ok hok ho16 hOR hnN hNN (by omega) h6 h8 h22 hQk_Q hTk_V (by omega) (by omega)) (cwV 2 hts (gt_V (own := R_Mo) (C := R_Mo) (i := 317) (y := y_Mo_queryRest) i_Mo_queryRest w_1403 w_1405 (gt_sel (y := y_Mo_queryRest) (n := 30) (by decide +kernel)) w_7) rfl rfl rfl (by decide +kernel) ⟨by show 10 + (15 + G) + 1 ≤ 13 + (15 + G); omega, by show 8 + (7 + 11) + (320 + (600 + M)) ≤ 500 + (600 + M); omega⟩) ⟨me_blind, va_recv hKc hPc (ci := 13) (q0 := 0) rfl rfl, fun U hU hW => ⟨rfl, ⟨hU, by rw [hU]; exact hPc, va_K.moved hW.alike hKc, hDc.weaken (fun _ _ _ _ => trivial)⟩, by rw [hU]; exact ME.call hM hS.2.1 hFc hW⟩⟩ rfl rfl hl.1 rfl (lv_room (Nat.le_of_ble_eq_true rfl)) d_Mo_basic_129 ⟨(hG_QV.step (B2 := Q.R + 8 * (n - ((skipH f n (i + 1)) + 1)) + 9) (C2 := V.us + (n + 12 - ((skipH f n (i + 1)) + 1))) (by omega) (by omega)).1, (hG_QV.step (B2 := Q.R + 8 * (n - ((skipH f n (i + 1)) + 1)) + 9) (C2 := V.us + (n + 12 - ((skipH f n (i + 1)) + 1))) (by omega) (by omega)).2⟩) hS (fun q _ h => hFc q h) hFc (fun r0 ⟨Qs, Vs, js, bs, os⟩ t9 H1 locs ht hvm hw hB hz1 hk1 hS => ?_)
          obtain ⟨⟨hP1, hK1, hD1⟩, hz9⟩ := hB
          rw [ht] at hP1
          rw [ht] at hz9
          obtain ⟨⟨hQk_Qs, hGn, hTXs, hR1_Qs, hR2_Qs⟩, hw⟩ := hw
          have hQk_Qs : QOK Qs := hQk_Qs
          obtain ⟨hG_QsVs, hGc, hGs⟩ := hG_QV.tr hGn (by omega) (by omega)
          have hR1_Qs : Q.R ≤ Qs.R := hR1_Qs
          have hR2_Qs : Qs.R ≤ Q.R + 8 * (n - ((skipH f n (i + 1)) + 1)) + 9 := hR2_Qs
          obtain ⟨uss, hX_Vs, hln_Vs⟩ := hTXs
          have hX_Vs : TX V Vs uss := hX_Vs
          have hXs_Vs := hX_Vs.us
          have hz9 : szk H H1 (cQ Q V Qs Vs) (sQ Q V Qs Vs) := hz9
          have hq1 : szk s.heap H1 (cQ Q V Qs Vs) (sQ Q V Qs Vs) := (hq0.trans hz9).mono hGc hGs
          refine w_tight hq1 ?_
          obtain ⟨hP, hD⟩ := va_join (wr := []) (w1 := [(mo, .inr (13, MF 30 (rf (rs v Qs os) js bs))), (qx, .inl (cB, NN, .inl f)), (Qs.qq, .inl (cI, (8 * Qs.C), .inl Qs.qf)), (Qs.qe, .inl (cL, (3 * Qs.C), .inr (.inl Qs.ef))), (tv, .inr (12, MF 13 (tw Vs))), (Vs.au, .inl (cC, Vs.U, .inl Vs.un))]) hP hD [0, 1, 2, 3, 4, 5] [] rfl rfl (by decide) (by decide) hk1 hFc hP1 hD1
          generalize H1 = H at hP hS ⊢
          have hP : va_P (dC, dI) classes [(mo, .inr (13, MF 30 (rf (rs v Qs os) js bs))), (qx, .inl (cB, NN, .inl f)), (Qs.qq, .inl (cI, (8 * Qs.C), .inl Qs.qf)), (Qs.qe, .inl (cL, (3 * Qs.C), .inr (.inl Qs.ef))), (tv, .inr (12, MF 13 (tw Vs))), (Vs.au, .inl (cC, Vs.U, .inl Vs.un))] H := hP
          have hD : va_D A [(mo, .inr (13, MF 30 (rf (rs v Qs os) js bs))), (qx, .inl (cB, NN, .inl f)), (Qs.qq, .inl (cI, (8 * Qs.C), .inl Qs.qf)), (Qs.qe, .inl (cL, (3 * Qs.C), .inr (.inl Qs.ef))), (tv, .inr (12, MF 13 (tw Vs))), (Vs.au, .inl (cC, Vs.U, .inl Vs.un))] := hD
          have hP := hP.sub (ws' := [(mo, .inr (13, MF 30 (rf (rs v Qs os) js bs))), (qx, .inl (cB, NN, .inl f)), (tv, .inr (12, MF 13 (tw Vs))), (Qs.qq, .inl (cI, (8 * Qs.C), .inl Qs.qf)), (Qs.qe, .inl (cL, (3 * Qs.C), .inr (.inl Qs.ef))), (Vs.au, .inl (cC, Vs.U, .inl Vs.un))]) [0, 1, 4, 2, 3, 5] rfl
          have hD := hD.sub (ws' := [(mo, .inr (13, MF 30 (rf (rs v Qs os) js bs))), (qx, .inl (cB, NN, .inl f)), (tv, .inr (12, MF 13 (tw Vs))), (Qs.qq, .inl (cI, (8 * Qs.C), .inl Qs.qf)), (Qs.qe, .inl (cL, (3 * Qs.C), .inr (.inl Qs.ef))), (Vs.au, .inl (cC, Vs.U, .inl Vs.un))]) [0, 1, 4, 2, 3, 5] (by decide) rfl
          have hP := hP.sub (ws' := [(mo, .inr (13, MF 30 (rf (rs v Qs os) js bs))), (qx, .inl (cB, NN, .inl f)), (Qs.qq, .inl (cI, (8 * Qs.C), .inl Qs.qf)), (Qs.qe, .inl (cL, (3 * Qs.C), .inr (.inl Qs.ef))), (tv, .inr (12, MF 13 (tw Vs))), (Vs.au, .inl (cC, Vs.U, .inl Vs.un))]) [0, 1, 3, 4, 2, 5] rfl
          have hD := hD.sub (ws' := [(mo, .inr (13, MF 30 (rf (rs v Qs os) js bs))), (qx, .inl (cB, NN, .inl f)), (Qs.qq, .inl (cI, (8 * Qs.C), .inl Qs.qf)), (Qs.qe, .inl (cL, (3 * Qs.C), .inr (.inl Qs.ef))), (tv, .inr (12, MF 13 (tw Vs))), (Vs.au, .inl (cC, Vs.U, .inl Vs.un))]) [0, 1, 3, 4, 2, 5] (by decide) rfl
          have hTk_Vs := hX_Vs.ok hTk_V (by omega)
          have hqb_QsVs : Qs.R ≤ Qs.C ∧ Qs.C ≤ 100000 := ⟨hQk_Qs.2.2.1, hQk_Qs.2.1⟩
          have hfit_QsVs := hG_QsVs.fits
          rcases hw with ⟨fl, g9, hv_1, hv_2, hv_3, hv_4, hv_5, hv_6, hv_7, hv_8, hv_9, hv_10⟩ | ⟨hv_1, hv_2⟩
          · have hv_10 : o = os := hv_10.symm
            subst hv_10
            have hP : va_P (dC, dI) classes [(mo, .inr (13, MF 30 (rf (rs v Qs o) js bs))), (qx, .inl (cB, NN, .inl f)), (Qs.qq, .inl (cI, (8 * Qs.C), .inl Qs.qf)), (Qs.qe, .inl (cL, (3 * Qs.C), .inr (.inl Qs.ef))), (tv, .inr (12, MF 13 (tw Vs))), (Vs.au, .inl (cC, Vs.U, .inl Vs.un))] H := hP
            have hD : va_D A [(mo, .inr (13, MF 30 (rf (rs v Qs o) js bs))), (qx, .inl (cB, NN, .inl f)), (Qs.qq, .inl (cI, (8 * Qs.C), .inl Qs.qf)), (Qs.qe, .inl (cL, (3 * Qs.C), .inr (.inl Qs.ef))), (tv, .inr (12, MF 13 (tw Vs))), (Vs.au, .inl (cC, Vs.U, .inl Vs.un))] := hD
            have hv_2 : qrP f n ok (orL f n) false (decide (hereV f n (skipH f n (i + 1)) = 36)) ((skipH f n (i + 1)) + 1) = some (js, fl, g9) := by rw [hrtb]; exact hv_2
            have hv_3 : QRYp O Qs Vs Q.R Qs.R Q.R g9 := hv_3
            have hv_4 : alr Q V Qs Vs 0 Q.R := hv_4
            have hv_5 : Qs.qf (8 * Q.R + 3) = (if fl = true then 1 else 0) := hv_5
            have hv_6 : Qs.R + 8 * ((skipH f n (i + 1)) + 1) ≤ Q.R + 8 * js + 1 := hv_6
            have hv_7 : Vs.us + ((skipH f n (i + 1)) + 1) ≤ V.us + js := hv_7
            have hv_8 : js ≤ n := hv_8
            have hv_9 : Q.R < Qs.R := hv_9
            subst hv_1
            refine lv_istore (lv' := [(4, .int (nI Q.R)), (3, .int 1), (1, .int 1), (0, .ref mo)]) hx hb d_Mo_basic_132 hl (by decide) rfl (fun ls hl => ?_)
            refine lv_iload hx hb d_Mo_basic_134 (lv_at hl 0 rfl) ?_
            refine lv_if_ge (tgt := 141) hx hb d_Mo_basic_136 (by decide) (fun _ => ?_) (fun h => absurd (nI_pos' (by omega)) h)
            refine lv_aload_n hx hb d_Mo_basic_141 rfl (lv_at hl 3 rfl) ?_
            refine va_get (D := (dC, dI)) (ci := 13) (v := .int (nI js)) (C := R_Mo) (T := F_Mo) (N := 30) hx hb hts in_Mo hown hK hP 0 rfl rfl 7 (by decide) (hts _ w_1096) (fun _ h9 => h9) (MFg (by decide) rf_7) d_Mo_basic_142 ?_
            refine lv_istore (lv' := [(5, .int (nI js)), (4, .int (nI Q.R)), (3, .int 1), (1, .int 1), (0, .ref mo)]) hx hb d_Mo_basic_145 hl (by decide) rfl (fun ls hl => ?_)
            refine lv_aload_n hx hb d_Mo_basic_147 rfl (lv_at hl 4 rfl) ?_
            have hPc := hP.sub (ws' := [(mo, .inr (13, MF 30 (rf (rs v Qs o) js bs))), (qx, .inl (cB, NN, .inl f))]) [0, 1] rfl
            have hDc := hD.sub (ws' := [(mo, .inr (13, MF 30 (rf (rs v Qs o) js bs))), (qx, .inl (cB, NN, .inl f))]) [0, 1] (by decide) rfl
            have hKc := hK.sub (tys' := [(cB, .byte)]) [0] rfl
            have hFc := va_free (wc := [(mo, .inr (13, MF 30 (rf (rs v Qs o) js bs))), (qx, .inl (cB, NN, .inl f))]) hD hS hA [0, 1] rfl
            refine va_callv (va_runV (As := []) (rest := []) ⟨hx, hb, hml, hown, hts⟩ (c_Mo_blanks l dC dI mo H (rf (rs v Qs o) js bs) cB qx NN f n js (by omega) (by omega) (by omega) ((rf_ne (by decide) (by decide)).trans ((rs_ne (by decide) (by decide) (by decide) (by decide)).trans h6)) rf_7 ((rf_ne (by decide) (by decide)).trans ((rs_ne (by decide) (by decide) (by decide) (by decide)).trans h8))) (cwV 0 hts (gt_V (own := R_Mo) (C := R_Mo) (i := 184) (y := y_Mo_blanks) i_Mo_blanks w_1229 w_1231 (gt_sel (y := y_Mo_blanks) (n := 30) (by decide +kernel)) w_7) rfl rfl rfl (by decide +kernel) ⟨Nat.le_trans (m := 13) (Nat.le_of_ble_eq_true rfl) (Nat.le_add_right 13 (15 + G)), Nat.le_trans (m := 500) (Nat.le_of_ble_eq_true rfl) (Nat.le_add_right 500 (600 + M))⟩) ⟨mp_blind, va_recv hKc hPc (ci := 13) (q0 := 0) rfl rfl, fun U hU hW => ⟨rfl, hU, by rw [hU]; exact hPc, va_K.moved hW.alike hKc, hDc.weaken (fun _ _ _ _ => trivial)⟩⟩ rfl rfl hl.1 rfl (lv_room (Nat.le_of_ble_eq_true rfl)) d_Mo_basic_148 ⟨hfit_QsVs.1, hfit_QsVs.2⟩) hS (fun q _ h => hFc q h) hFc (fun _u t9 H1 locs ht hvm hw hB hz1 hk1 hS => ?_)
            obtain ⟨hP1, hK1, hD1⟩ := hB
            rw [ht] at hP1
            obtain ⟨hP, hD⟩ := va_join (wr := [(Qs.qq, .inl (cI, (8 * Qs.C), .inl Qs.qf)), (Qs.qe, .inl (cL, (3 * Qs.C), .inr (.inl Qs.ef))), (tv, .inr (12, MF 13 (tw Vs))), (Vs.au, .inl (cC, Vs.U, .inl Vs.un))]) (w1 := [(mo, .inr (13, MF 30 (va_up (rf (rs v Qs o) js bs) 7 (.int (nI (skipH f n js)))))), (qx, .inl (cB, NN, .inl f))]) hP hD [0, 1] [2, 3, 4, 5] rfl rfl (by decide) (by decide) hk1 hFc hP1 hD1
            generalize H1 = H at hP hS ⊢
            have hP : va_P (dC, dI) classes [(Qs.qq, .inl (cI, (8 * Qs.C), .inl Qs.qf)), (Qs.qe, .inl (cL, (3 * Qs.C), .inr (.inl Qs.ef))), (tv, .inr (12, MF 13 (tw Vs))), (Vs.au, .inl (cC, Vs.U, .inl Vs.un)), (mo, .inr (13, MF 30 (va_up (rf (rs v Qs o) js bs) 7 (.int (nI (skipH f n js)))))), (qx, .inl (cB, NN, .inl f))] H := hP
            have hD : va_D A [(Qs.qq, .inl (cI, (8 * Qs.C), .inl Qs.qf)), (Qs.qe, .inl (cL, (3 * Qs.C), .inr (.inl Qs.ef))), (tv, .inr (12, MF 13 (tw Vs))), (Vs.au, .inl (cC, Vs.U, .inl Vs.un)), (mo, .inr (13, MF 30 (va_up (rf (rs v Qs o) js bs) 7 (.int (nI (skipH f n js)))))), (qx, .inl (cB, NN, .inl f))] := hD
            have hP := hP.sub (ws' := [(mo, .inr (13, MF 30 (va_up (rf (rs v Qs o) js bs) 7 (.int (nI (skipH f n js)))))), (qx, .inl (cB, NN, .inl f)), (Qs.qq, .inl (cI, (8 * Qs.C), .inl Qs.qf)), (Qs.qe, .inl (cL, (3 * Qs.C), .inr (.inl Qs.ef))), (tv, .inr (12, MF 13 (tw Vs))), (Vs.au, .inl (cC, Vs.U, .inl Vs.un))]) [4, 5, 0, 1, 2, 3] rfl
            have hD := hD.sub (ws' := [(mo, .inr (13, MF 30 (va_up (rf (rs v Qs o) js bs) 7 (.int (nI (skipH f n js)))))), (qx, .inl (cB, NN, .inl f)), (Qs.qq, .inl (cI, (8 * Qs.C), .inl Qs.qf)), (Qs.qe, .inl (cL, (3 * Qs.C), .inr (.inl Qs.ef))), (tv, .inr (12, MF 13 (tw Vs))), (Vs.au, .inl (cC, Vs.U, .inl Vs.un))]) [4, 5, 0, 1, 2, 3] (by decide) rfl
            rw [rf_u7] at hP hD
            have hP : va_P (dC, dI) classes [(mo, .inr (13, MF 30 (rf (rs v Qs o) (skipH f n js) bs))), (qx, .inl (cB, NN, .inl f)), (Qs.qq, .inl (cI, (8 * Qs.C), .inl Qs.qf)), (Qs.qe, .inl (cL, (3 * Qs.C), .inr (.inl Qs.ef))), (tv, .inr (12, MF 13 (tw Vs))), (Vs.au, .inl (cC, Vs.U, .inl Vs.un))] H := hP
            have hD : va_D A [(mo, .inr (13, MF 30 (rf (rs v Qs o) (skipH f n js) bs))), (qx, .inl (cB, NN, .inl f)), (Qs.qq, .inl (cI, (8 * Qs.C), .inl Qs.qf)), (Qs.qe, .inl (cL, (3 * Qs.C), .inr (.inl Qs.ef))), (tv, .inr (12, MF 13 (tw Vs))), (Vs.au, .inl (cC, Vs.U, .inl Vs.un))] := hD
            have hsk_151 := skipH_n (f := f) (show js ≤ n by omega)
            refine lv_iload_n hx hb d_Mo_basic_151 rfl (lv_at hl 3 rfl) ?_
            refine lv_if_ne (tgt := 207) hx hb d_Mo_basic_152 (by decide) (fun _ => ?_) (fun h => absurd h (by decide))
            refine lv_aload_n hx hb d_Mo_basic_207 rfl (lv_at hl 4 rfl) ?_
            refine lv_iload hx hb d_Mo_basic_208 (lv_at hl 0 rfl) ?_
            refine va_put (D := (dC, dI)) (ci := 13) (v := .int (nI js)) (ty := .int) (C := R_Mo) (T := F_Mo) (N := 30) hx hb hts in_Mo t_Mo t_Mo_ok n_Mo hown hK hP hD hS 0 rfl rfl 7 (by decide) (hts _ w_1096) (fun _ h9 => h9) rfl (by decide +kernel) rfl rfl (by rw [MFl]; decide) d_Mo_basic_210 (fun H locs hP hD hS => ?_)
            rw [MFs (n := 30) (k := 7) (by decide)] at hP hD
            have hP : va_P (dC, dI) classes [(mo, .inr (13, MF 30 (va_up (rf (rs v Qs o) (skipH f n js) bs) 7 (.int (nI js))))), (qx, .inl (cB, NN, .inl f)), (Qs.qq, .inl (cI, (8 * Qs.C), .inl Qs.qf)), (Qs.qe, .inl (cL, (3 * Qs.C), .inr (.inl Qs.ef))), (tv, .inr (12, MF 13 (tw Vs))), (Vs.au, .inl (cC, Vs.U, .inl Vs.un))] H := hP
            have hD : va_D A [(mo, .inr (13, MF 30 (va_up (rf (rs v Qs o) (skipH f n js) bs) 7 (.int (nI js))))), (qx, .inl (cB, NN, .inl f)), (Qs.qq, .inl (cI, (8 * Qs.C), .inl Qs.qf)), (Qs.qe, .inl (cL, (3 * Qs.C), .inr (.inl Qs.ef))), (tv, .inr (12, MF 13 (tw Vs))), (Vs.au, .inl (cC, Vs.U, .inl Vs.un))] := hD
            rw [rf_u7] at hP hD
            have hP : va_P (dC, dI) classes [(mo, .inr (13, MF 30 (rf (rs v Qs o) js bs))), (qx, .inl (cB, NN, .inl f)), (Qs.qq, .inl (cI, (8 * Qs.C), .inl Qs.qf)), (Qs.qe, .inl (cL, (3 * Qs.C), .inr (.inl Qs.ef))), (tv, .inr (12, MF 13 (tw Vs))), (Vs.au, .inl (cC, Vs.U, .inl Vs.un))] H := hP
            have hD : va_D A [(mo, .inr (13, MF 30 (rf (rs v Qs o) js bs))), (qx, .inl (cB, NN, .inl f)), (Qs.qq, .inl (cI, (8 * Qs.C), .inl Qs.qf)), (Qs.qe, .inl (cL, (3 * Qs.C), .inr (.inl Qs.ef))), (tv, .inr (12, MF 13 (tw Vs))), (Vs.au, .inl (cC, Vs.U, .inl Vs.un))] := hD
            refine lv_aload_n hx hb d_Mo_basic_213 rfl (lv_at hl 4 rfl) ?_
            refine lv_bipush (v := 34) hx hb d_Mo_basic_214 (by decide) ?_
            have hPc := hP.sub (ws' := [(mo, .inr (13, MF 30 (rf (rs v Qs o) js bs))), (Qs.qq, .inl (cI, (8 * Qs.C), .inl Qs.qf)), (Qs.qe, .inl (cL, (3 * Qs.C), .inr (.inl Qs.ef)))]) [0, 2, 3] rfl
            have hDc := hD.sub (ws' := [(mo, .inr (13, MF 30 (rf (rs v Qs o) js bs))), (Qs.qq, .inl (cI, (8 * Qs.C), .inl Qs.qf)), (Qs.qe, .inl (cL, (3 * Qs.C), .inr (.inl Qs.ef)))]) [0, 2, 3] (by decide) rfl
            have hKc := hK.sub (tys' := [(cI, .int), (cL, .long)]) [1, 2] rfl
            have hFc := va_free (wc := [(mo, .inr (13, MF 30 (rf (rs v Qs o) js bs))), (Qs.qq, .inl (cI, (8 * Qs.C), .inl Qs.qf)), (Qs.qe, .inl (cL, (3 * Qs.C), .inr (.inl Qs.ef)))]) hD hS hA [0, 2, 3] rfl
            refine w_same (fun hq0 => ?_)
            refine va_calli (va_runV (As := [.int 34]) (rest := []) ⟨hx, hb, hml, hown, hts⟩ (c_Mo_row l dC dI mo H v cI cL Qs o js bs 34 hQk_Qs) (cwV 1 hts (gt_V (own := R_Mo) (C := R_Mo) (i := 269) (y := y_Mo_row) i_Mo_row w_1407 w_1409 (gt_sel (y := y_Mo_row) (n := 30) (by decide +kernel)) w_7) rfl rfl rfl (by decide +kernel) ⟨Nat.le_trans (m := 13) (Nat.le_of_ble_eq_true rfl) (Nat.le_add_right 13 (15 + G)), Nat.le_trans (m := 500) (Nat.le_of_ble_eq_true rfl) (Nat.le_add_right 500 (600 + M))⟩) ⟨mp_blind, va_recv hKc hPc (ci := 13) (q0 := 0) rfl rfl, fun U hU hW => ⟨rfl, hU, by rw [hU]; exact hPc, va_K.moved hW.alike hKc, hDc.weaken (fun _ _ _ _ => trivial)⟩⟩ rfl rfl hl.1 rfl (lv_room (Nat.le_of_ble_eq_true rfl)) d_Mo_basic_216 ⟨(QAd.fit hG_QsVs hQk_Qs (by omega)).1, (QAd.fit hG_QsVs hQk_Qs (by omega)).2⟩) hS (fun q _ h => hFc q h) hFc (fun r0 Qa t9 H1 locs ht hvm hw hB hz1 hk1 hS => ?_)
            obtain ⟨⟨hP1, hK1, hD1⟩, hz9⟩ := hB
            rw [ht] at hP1
            rw [ht] at hz9
            obtain ⟨hr0, hA_Qa⟩ := hw
            have hA_Qa : QAd Qs Qa 34 := hA_Qa
            obtain ⟨hQk_Qa, hGa, hGb, hGd, hR_Qa⟩ := hA_Qa.gq hQk_Qs (by omega) Vs
            obtain ⟨hG_QaVs, hGc, hGs⟩ := hG_QsVs.tr hGa (show Qs.R + 1 ≤ Q.R + 8 * (n - i) + 1 by omega) (Nat.zero_le _)
            have hGc := Nat.le_trans (Nat.add_le_add_left hGb _) hGc
            have hGs := Nat.le_trans (Nat.add_le_add_left hGd _) hGs
            have hq1 : szk s.heap H1 (cQ Q V Qa Vs) (sQ Q V Qa Vs) := (hq0.trans hz9).mono hGc hGs
            refine w_tight hq1 ?_
            obtain ⟨hP, hD⟩ := va_join (wr := [(qx, .inl (cB, NN, .inl f)), (tv, .inr (12, MF 13 (tw Vs))), (Vs.au, .inl (cC, Vs.U, .inl Vs.un))]) (w1 := [(mo, .inr (13, MF 30 (rf (rs v Qa o) js bs))), (Qa.qq, .inl (cI, (8 * Qa.C), .inl Qa.qf)), (Qa.qe, .inl (cL, (3 * Qa.C), .inr (.inl Qa.ef)))]) hP hD [0, 2, 3] [1, 4, 5] rfl rfl (by decide) (by decide) hk1 hFc hP1 hD1
            generalize H1 = H at hP hS ⊢
            have hP : va_P (dC, dI) classes [(qx, .inl (cB, NN, .inl f)), (tv, .inr (12, MF 13 (tw Vs))), (Vs.au, .inl (cC, Vs.U, .inl Vs.un)), (mo, .inr (13, MF 30 (rf (rs v Qa o) js bs))), (Qa.qq, .inl (cI, (8 * Qa.C), .inl Qa.qf)), (Qa.qe, .inl (cL, (3 * Qa.C), .inr (.inl Qa.ef)))] H := hP
            have hD : va_D A [(qx, .inl (cB, NN, .inl f)), (tv, .inr (12, MF 13 (tw Vs))), (Vs.au, .inl (cC, Vs.U, .inl Vs.un)), (mo, .inr (13, MF 30 (rf (rs v Qa o) js bs))), (Qa.qq, .inl (cI, (8 * Qa.C), .inl Qa.qf)), (Qa.qe, .inl (cL, (3 * Qa.C), .inr (.inl Qa.ef)))] := hD
            have hP := hP.sub (ws' := [(mo, .inr (13, MF 30 (rf (rs v Qa o) js bs))), (qx, .inl (cB, NN, .inl f)), (tv, .inr (12, MF 13 (tw Vs))), (Vs.au, .inl (cC, Vs.U, .inl Vs.un)), (Qa.qq, .inl (cI, (8 * Qa.C), .inl Qa.qf)), (Qa.qe, .inl (cL, (3 * Qa.C), .inr (.inl Qa.ef)))]) [3, 0, 1, 2, 4, 5] rfl
            have hD := hD.sub (ws' := [(mo, .inr (13, MF 30 (rf (rs v Qa o) js bs))), (qx, .inl (cB, NN, .inl f)), (tv, .inr (12, MF 13 (tw Vs))), (Vs.au, .inl (cC, Vs.U, .inl Vs.un)), (Qa.qq, .inl (cI, (8 * Qa.C), .inl Qa.qf)), (Qa.qe, .inl (cL, (3 * Qa.C), .inr (.inl Qa.ef)))]) [3, 0, 1, 2, 4, 5] (by decide) rfl
            have hP := hP.sub (ws' := [(mo, .inr (13, MF 30 (rf (rs v Qa o) js bs))), (qx, .inl (cB, NN, .inl f)), (Qa.qq, .inl (cI, (8 * Qa.C), .inl Qa.qf)), (Qa.qe, .inl (cL, (3 * Qa.C), .inr (.inl Qa.ef))), (tv, .inr (12, MF 13 (tw Vs))), (Vs.au, .inl (cC, Vs.U, .inl Vs.un))]) [0, 1, 4, 5, 2, 3] rfl
            have hD := hD.sub (ws' := [(mo, .inr (13, MF 30 (rf (rs v Qa o) js bs))), (qx, .inl (cB, NN, .inl f)), (Qa.qq, .inl (cI, (8 * Qa.C), .inl Qa.qf)), (Qa.qe, .inl (cL, (3 * Qa.C), .inr (.inl Qa.ef))), (tv, .inr (12, MF 13 (tw Vs))), (Vs.au, .inl (cC, Vs.U, .inl Vs.un))]) [0, 1, 4, 5, 2, 3] (by decide) rfl
            have hr0 : r0 = nI Qs.R := hr0
            subst hr0
            have hqb_QaVs : Qa.R ≤ Qa.C ∧ Qa.C ≤ 100000 := ⟨hQk_Qa.2.2.1, hQk_Qa.2.1⟩
            have hfit_QaVs := hG_QaVs.fits
            have hE_Qa : alr Qs Vs Qa Vs 0 Qs.R := ⟨fun r9 k9 _ h1 h2 => hA_Qa.2.2.1 _ (by omega), ⟨fun r9 k9 _ h1 h2 => hA_Qa.2.2.2.1.2 _ (by omega), Nat.le_refl _, fun _ _ => rfl⟩⟩
            refine lv_istore_n (lv' := [(2, .int (nI Qs.R)), (5, .int (nI js)), (4, .int (nI Q.R)), (3, .int 1), (1, .int 1), (0, .ref mo)]) hx hb d_Mo_basic_219 rfl hl (by decide) rfl (fun ls hl => ?_)
            refine lv_aload_n hx hb d_Mo_basic_220 rfl (lv_at hl 5 rfl) ?_
            refine lv_iload_n hx hb d_Mo_basic_221 rfl (lv_at hl 0 rfl) ?_
            refine lv_iconst (v := 2) hx hb d_Mo_basic_222 (by decide) ?_
            refine lv_iload hx hb d_Mo_basic_223 (lv_at hl 2 rfl) ?_
            refine W.eq (g2 := F0 m 225 ls [.int (nI Q.R), .int (nI 2), .int (nI Qs.R), .ref mo]) rfl ?_
            have hPc := hP.sub (ws' := [(mo, .inr (13, MF 30 (rf (rs v Qa o) js bs))), (Qa.qq, .inl (cI, (8 * Qa.C), .inl Qa.qf))]) [0, 2] rfl
            have hDc := hD.sub (ws' := [(mo, .inr (13, MF 30 (rf (rs v Qa o) js bs))), (Qa.qq, .inl (cI, (8 * Qa.C), .inl Qa.qf))]) [0, 2] (by decide) rfl
            have hKc := hK.sub (tys' := [(cI, .int)]) [1] rfl
            have hFc := va_free (wc := [(mo, .inr (13, MF 30 (rf (rs v Qa o) js bs))), (Qa.qq, .inl (cI, (8 * Qa.C), .inl Qa.qf))]) hD hS hA [0, 2] rfl
            refine va_callv (va_runV (As := [.int (nI Qs.R), .int (nI 2), .int (nI Q.R)]) (rest := []) ⟨hx, hb, hml, hown, hts⟩ (c_Mo_set l dC dI mo H (rf (rs v Qa o) js bs) cI Qa.qq (8 * Qa.C) Qa.qf Qs.R 2 ((nI Q.R)) (by omega) (by omega) ((rf_ne (by decide) (by decide)).trans rs_19)) (cwV 3 hts (gt_V (own := R_Mo) (C := R_Mo) (i := 272) (y := y_Mo_set) i_Mo_set w_1411 w_1413 (gt_sel (y := y_Mo_set) (n := 30) (by decide +kernel)) w_7) rfl rfl rfl (by decide +kernel) ⟨Nat.le_trans (m := 13) (Nat.le_of_ble_eq_true rfl) (Nat.le_add_right 13 (15 + G)), Nat.le_trans (m := 500) (Nat.le_of_ble_eq_true rfl) (Nat.le_add_right 500 (600 + M))⟩) ⟨mp_blind, va_recv hKc hPc (ci := 13) (q0 := 0) rfl rfl, fun U hU hW => ⟨rfl, hU, by rw [hU]; exact hPc, va_K.moved hW.alike hKc, hDc.weaken (fun _ _ _ _ => trivial)⟩⟩ rfl rfl hl.1 rfl (lv_room (Nat.le_of_ble_eq_true rfl)) d_Mo_basic_225 ⟨hfit_QaVs.1, hfit_QaVs.2⟩) hS (fun q _ h => hFc q h) hFc (fun _u t9 H1 locs ht hvm hw hB hz1 hk1 hS => ?_)
            obtain ⟨hP1, hK1, hD1⟩ := hB
            rw [ht] at hP1
            obtain ⟨hP, hD⟩ := va_join (wr := [(qx, .inl (cB, NN, .inl f)), (Qa.qe, .inl (cL, (3 * Qa.C), .inr (.inl Qa.ef))), (tv, .inr (12, MF 13 (tw Vs))), (Vs.au, .inl (cC, Vs.U, .inl Vs.un))]) (w1 := [(mo, .inr (13, MF 30 (rf (rs v Qa o) js bs))), (Qa.qq, .inl (cI, (8 * Qa.C), .inl (upd Qa.qf (8 * Qs.R + 2) ((nI Q.R)))))]) hP hD [0, 2] [1, 3, 4, 5] rfl rfl (by decide) (by decide) hk1 hFc hP1 hD1
            generalize H1 = H at hP hS ⊢
            have hP : va_P (dC, dI) classes [(qx, .inl (cB, NN, .inl f)), (Qa.qe, .inl (cL, (3 * Qa.C), .inr (.inl Qa.ef))), (tv, .inr (12, MF 13 (tw Vs))), (Vs.au, .inl (cC, Vs.U, .inl Vs.un)), (mo, .inr (13, MF 30 (rf (rs v Qa o) js bs))), (Qa.qq, .inl (cI, (8 * Qa.C), .inl (upd Qa.qf (8 * Qs.R + 2) ((nI Q.R)))))] H := hP
            have hD : va_D A [(qx, .inl (cB, NN, .inl f)), (Qa.qe, .inl (cL, (3 * Qa.C), .inr (.inl Qa.ef))), (tv, .inr (12, MF 13 (tw Vs))), (Vs.au, .inl (cC, Vs.U, .inl Vs.un)), (mo, .inr (13, MF 30 (rf (rs v Qa o) js bs))), (Qa.qq, .inl (cI, (8 * Qa.C), .inl (upd Qa.qf (8 * Qs.R + 2) ((nI Q.R)))))] := hD
            have hP := hP.sub (ws' := [(mo, .inr (13, MF 30 (rf (rs v Qa o) js bs))), (qx, .inl (cB, NN, .inl f)), (Qa.qq, .inl (cI, (8 * Qa.C), .inl (upd Qa.qf (8 * Qs.R + 2) ((nI Q.R))))), (Qa.qe, .inl (cL, (3 * Qa.C), .inr (.inl Qa.ef))), (tv, .inr (12, MF 13 (tw Vs))), (Vs.au, .inl (cC, Vs.U, .inl Vs.un))]) [4, 0, 5, 1, 2, 3] rfl
            have hD := hD.sub (ws' := [(mo, .inr (13, MF 30 (rf (rs v Qa o) js bs))), (qx, .inl (cB, NN, .inl f)), (Qa.qq, .inl (cI, (8 * Qa.C), .inl (upd Qa.qf (8 * Qs.R + 2) ((nI Q.R))))), (Qa.qe, .inl (cL, (3 * Qa.C), .inr (.inl Qa.ef))), (tv, .inr (12, MF 13 (tw Vs))), (Vs.au, .inl (cC, Vs.U, .inl Vs.un))]) [4, 0, 5, 1, 2, 3] (by decide) rfl
            obtain ⟨Qb, e_Qb⟩ : ∃ z : QS, z = QS.wf Qa (upd Qa.qf (8 * Qs.R + 2) ((nI Q.R))) := ⟨_, rfl⟩
            have hP : va_P (dC, dI) classes [(mo, .inr (13, MF 30 (rf (rs v Qb o) js bs))), (qx, .inl (cB, NN, .inl f)), (Qb.qq, .inl (cI, (8 * Qb.C), .inl Qb.qf)), (Qb.qe, .inl (cL, (3 * Qb.C), .inr (.inl Qb.ef))), (tv, .inr (12, MF 13 (tw Vs))), (Vs.au, .inl (cC, Vs.U, .inl Vs.un))] H := by subst e_Qb; exact hP
            have hD : va_D A [(mo, .inr (13, MF 30 (rf (rs v Qb o) js bs))), (qx, .inl (cB, NN, .inl f)), (Qb.qq, .inl (cI, (8 * Qb.C), .inl Qb.qf)), (Qb.qe, .inl (cL, (3 * Qb.C), .inr (.inl Qb.ef))), (tv, .inr (12, MF 13 (tw Vs))), (Vs.au, .inl (cC, Vs.U, .inl Vs.un))] := by subst e_Qb; exact hD
            have hf_Qb : Qb.C = Qa.C ∧ Qb.R = Qa.R ∧ Qb.qf = upd Qa.qf (8 * Qs.R + 2) ((nI Q.R)) := by rw [e_Qb]; exact ⟨rfl, rfl, rfl⟩
            have he_Qb : Qb.ef = Qa.ef := by rw [e_Qb]; rfl
            have hQk_Qb : QOK Qb := by rw [e_Qb]; exact hQk_Qa
            have hG_QbVs : GQ (Q.R + 8 * (n - i) + 1) (V.us + (n + 12 - i)) Q V Qb Vs := by unfold GQ at hG_QaVs ⊢; rw [hf_Qb.1]; exact hG_QaVs
            refine w_same (fun hq => ?_)
            refine w_tight (k := cQ Q V Qb Vs) (n := sQ Q V Qb Vs) (by unfold cQ sQ at hq ⊢; rw [hf_Qb.1]; exact hq) ?_
            have hR_Qb := hf_Qb.2.1
            have hqb_QbVs : Qb.R ≤ Qb.C ∧ Qb.C ≤ 100000 := ⟨hQk_Qb.2.2.1, hQk_Qb.2.1⟩
            have hfit_QbVs := hG_QbVs.fits
            have hkb : Qb.qf (8 * Qs.R + 0) = 34 := by rw [hf_Qb.2.2, pk_un (by omega)]; exact hA_Qa.2.2.2.2.1
            have hWb : Wth (QRYp O) Qb Vs Q.R Qb.R Qs.R Q.R g9 := Wth_up (Frm8 (QRYp_fr hOf)) hv_3 (Nat.le_refl _) (by omega) (by omega) ((hE_Qa.sub (Nat.zero_le _) (Nat.le_refl _)).tr (alr.upd hf_Qb.2.2 he_Qb (by decide) (by omega)))
            have hExb : alr Q V Qb Vs 0 Q.R := (hv_4.tr (hE_Qa.sub (Nat.le_refl _) (by omega))).tr (alr.upd hf_Qb.2.2 he_Qb (by decide) (by omega))
            have hT : TSTp O Qb Vs Q.R Qb.R Qs.R (tstC g9) := ⟨by omega, by omega, hkb, Q.R, g9, by rw [hf_Qb.2.2]; exact pk_us, hWb, rfl⟩
            have hfin : baP f n ok (orL f n) (cmL f n) (qyL f n) i = some (js, notC (tstC g9)) := by rw [hbp]; exact baB_q1 hn40 hbeg hv_2 (fun h => absurd h.1 (by decide))
            refine lv_goto (tgt := 267) hx hb d_Mo_basic_228 (by decide) ?_
            refine lv_iload_n hx hb d_Mo_basic_267 rfl (lv_at hl 4 rfl) ?_
            refine lv_if_ne (tgt := 277) hx hb d_Mo_basic_268 (by decide) (fun _ => ?_) (fun h => absurd h (by decide))
            refine lv_aload_n hx hb d_Mo_basic_277 rfl (lv_at hl 5 rfl) ?_
            refine lv_bipush (v := 32) hx hb d_Mo_basic_278 (by decide) ?_
            have hPc := hP.sub (ws' := [(mo, .inr (13, MF 30 (rf (rs v Qb o) js bs))), (Qb.qq, .inl (cI, (8 * Qb.C), .inl Qb.qf)), (Qb.qe, .inl (cL, (3 * Qb.C), .inr (.inl Qb.ef)))]) [0, 2, 3] rfl
            have hDc := hD.sub (ws' := [(mo, .inr (13, MF 30 (rf (rs v Qb o) js bs))), (Qb.qq, .inl (cI, (8 * Qb.C), .inl Qb.qf)), (Qb.qe, .inl (cL, (3 * Qb.C), .inr (.inl Qb.ef)))]) [0, 2, 3] (by decide) rfl
            have hKc := hK.sub (tys' := [(cI, .int), (cL, .long)]) [1, 2] rfl
            have hFc := va_free (wc := [(mo, .inr (13, MF 30 (rf (rs v Qb o) js bs))), (Qb.qq, .inl (cI, (8 * Qb.C), .inl Qb.qf)), (Qb.qe, .inl (cL, (3 * Qb.C), .inr (.inl Qb.ef)))]) hD hS hA [0, 2, 3] rfl
            refine w_same (fun hq0 => ?_)
            refine va_calli (va_runV (As := [.int 32]) (rest := []) ⟨hx, hb, hml, hown, hts⟩ (c_Mo_row l dC dI mo H v cI cL Qb o js bs 32 hQk_Qb) (cwV 1 hts (gt_V (own := R_Mo) (C := R_Mo) (i := 269) (y := y_Mo_row) i_Mo_row w_1407 w_1409 (gt_sel (y := y_Mo_row) (n := 30) (by decide +kernel)) w_7) rfl rfl rfl (by decide +kernel) ⟨Nat.le_trans (m := 13) (Nat.le_of_ble_eq_true rfl) (Nat.le_add_right 13 (15 + G)), Nat.le_trans (m := 500) (Nat.le_of_ble_eq_true rfl) (Nat.le_add_right 500 (600 + M))⟩) ⟨mp_blind, va_recv hKc hPc (ci := 13) (q0 := 0) rfl rfl, fun U hU hW => ⟨rfl, hU, by rw [hU]; exact hPc, va_K.moved hW.alike hKc, hDc.weaken (fun _ _ _ _ => trivial)⟩⟩ rfl rfl hl.1 rfl (lv_room (Nat.le_of_ble_eq_true rfl)) d_Mo_basic_280 ⟨(QAd.fit hG_QbVs hQk_Qb (by omega)).1, (QAd.fit hG_QbVs hQk_Qb (by omega)).2⟩) hS (fun q _ h => hFc q h) hFc (fun r0 Qn t9 H1 locs ht hvm hw hB hz1 hk1 hS => ?_)
            obtain ⟨⟨hP1, hK1, hD1⟩, hz9⟩ := hB
            rw [ht] at hP1
            rw [ht] at hz9
            obtain ⟨hr0, hA_Qn⟩ := hw
            have hA_Qn : QAd Qb Qn 32 := hA_Qn
            obtain ⟨hQk_Qn, hGa, hGb, hGd, hR_Qn⟩ := hA_Qn.gq hQk_Qb (by omega) Vs
            obtain ⟨hG_QnVs, hGc, hGs⟩ := hG_QbVs.tr hGa (show Qb.R + 1 ≤ Q.R + 8 * (n - i) + 1 by omega) (Nat.zero_le _)
            have hGc := Nat.le_trans (Nat.add_le_add_left hGb _) hGc
            have hGs := Nat.le_trans (Nat.add_le_add_left hGd _) hGs
            have hq1 : szk s.heap H1 (cQ Q V Qn Vs) (sQ Q V Qn Vs) := (hq0.trans hz9).mono hGc hGs
            refine w_tight hq1 ?_
            obtain ⟨hP, hD⟩ := va_join (wr := [(qx, .inl (cB, NN, .inl f)), (tv, .inr (12, MF 13 (tw Vs))), (Vs.au, .inl (cC, Vs.U, .inl Vs.un))]) (w1 := [(mo, .inr (13, MF 30 (rf (rs v Qn o) js bs))), (Qn.qq, .inl (cI, (8 * Qn.C), .inl Qn.qf)), (Qn.qe, .inl (cL, (3 * Qn.C), .inr (.inl Qn.ef)))]) hP hD [0, 2, 3] [1, 4, 5] rfl rfl (by decide) (by decide) hk1 hFc hP1 hD1
            generalize H1 = H at hP hS ⊢
            have hP : va_P (dC, dI) classes [(qx, .inl (cB, NN, .inl f)), (tv, .inr (12, MF 13 (tw Vs))), (Vs.au, .inl (cC, Vs.U, .inl Vs.un)), (mo, .inr (13, MF 30 (rf (rs v Qn o) js bs))), (Qn.qq, .inl (cI, (8 * Qn.C), .inl Qn.qf)), (Qn.qe, .inl (cL, (3 * Qn.C), .inr (.inl Qn.ef)))] H := hP
            have hD : va_D A [(qx, .inl (cB, NN, .inl f)), (tv, .inr (12, MF 13 (tw Vs))), (Vs.au, .inl (cC, Vs.U, .inl Vs.un)), (mo, .inr (13, MF 30 (rf (rs v Qn o) js bs))), (Qn.qq, .inl (cI, (8 * Qn.C), .inl Qn.qf)), (Qn.qe, .inl (cL, (3 * Qn.C), .inr (.inl Qn.ef)))] := hD
            have hP := hP.sub (ws' := [(mo, .inr (13, MF 30 (rf (rs v Qn o) js bs))), (qx, .inl (cB, NN, .inl f)), (tv, .inr (12, MF 13 (tw Vs))), (Vs.au, .inl (cC, Vs.U, .inl Vs.un)), (Qn.qq, .inl (cI, (8 * Qn.C), .inl Qn.qf)), (Qn.qe, .inl (cL, (3 * Qn.C), .inr (.inl Qn.ef)))]) [3, 0, 1, 2, 4, 5] rfl
            have hD := hD.sub (ws' := [(mo, .inr (13, MF 30 (rf (rs v Qn o) js bs))), (qx, .inl (cB, NN, .inl f)), (tv, .inr (12, MF 13 (tw Vs))), (Vs.au, .inl (cC, Vs.U, .inl Vs.un)), (Qn.qq, .inl (cI, (8 * Qn.C), .inl Qn.qf)), (Qn.qe, .inl (cL, (3 * Qn.C), .inr (.inl Qn.ef)))]) [3, 0, 1, 2, 4, 5] (by decide) rfl
            have hP := hP.sub (ws' := [(mo, .inr (13, MF 30 (rf (rs v Qn o) js bs))), (qx, .inl (cB, NN, .inl f)), (Qn.qq, .inl (cI, (8 * Qn.C), .inl Qn.qf)), (Qn.qe, .inl (cL, (3 * Qn.C), .inr (.inl Qn.ef))), (tv, .inr (12, MF 13 (tw Vs))), (Vs.au, .inl (cC, Vs.U, .inl Vs.un))]) [0, 1, 4, 5, 2, 3] rfl
            have hD := hD.sub (ws' := [(mo, .inr (13, MF 30 (rf (rs v Qn o) js bs))), (qx, .inl (cB, NN, .inl f)), (Qn.qq, .inl (cI, (8 * Qn.C), .inl Qn.qf)), (Qn.qe, .inl (cL, (3 * Qn.C), .inr (.inl Qn.ef))), (tv, .inr (12, MF 13 (tw Vs))), (Vs.au, .inl (cC, Vs.U, .inl Vs.un))]) [0, 1, 4, 5, 2, 3] (by decide) rfl
            have hr0 : r0 = nI Qb.R := hr0
            subst hr0
            have hqb_QnVs : Qn.R ≤ Qn.C ∧ Qn.C ≤ 100000 := ⟨hQk_Qn.2.2.1, hQk_Qn.2.1⟩
            have hfit_QnVs := hG_QnVs.fits
            have hE_Qn : alr Qb Vs Qn Vs 0 Qb.R := ⟨fun r9 k9 _ h1 h2 => hA_Qn.2.2.1 _ (by omega), ⟨fun r9 k9 _ h1 h2 => hA_Qn.2.2.2.1.2 _ (by omega), Nat.le_refl _, fun _ _ => rfl⟩⟩
            refine lv_istore_n (lv' := [(3, .int (nI Qb.R)), (2, .int (nI Qs.R)), (5, .int (nI js)), (4, .int (nI Q.R)), (1, .int 1), (0, .ref mo)]) hx hb d_Mo_basic_283 rfl hl (by decide) rfl (fun ls hl => ?_)
            refine lv_aload_n hx hb d_Mo_basic_284 rfl (lv_at hl 5 rfl) ?_
            refine lv_iload_n hx hb d_Mo_basic_285 rfl (lv_at hl 0 rfl) ?_
            refine lv_iconst (v := 2) hx hb d_Mo_basic_286 (by decide) ?_
            refine lv_iload_n hx hb d_Mo_basic_287 rfl (lv_at hl 1 rfl) ?_
            refine W.eq (g2 := F0 m 288 ls [.int (nI Qs.R), .int (nI 2), .int (nI Qb.R), .ref mo]) rfl ?_
            have hPc := hP.sub (ws' := [(mo, .inr (13, MF 30 (rf (rs v Qn o) js bs))), (Qn.qq, .inl (cI, (8 * Qn.C), .inl Qn.qf))]) [0, 2] rfl
            have hDc := hD.sub (ws' := [(mo, .inr (13, MF 30 (rf (rs v Qn o) js bs))), (Qn.qq, .inl (cI, (8 * Qn.C), .inl Qn.qf))]) [0, 2] (by decide) rfl
            have hKc := hK.sub (tys' := [(cI, .int)]) [1] rfl
            have hFc := va_free (wc := [(mo, .inr (13, MF 30 (rf (rs v Qn o) js bs))), (Qn.qq, .inl (cI, (8 * Qn.C), .inl Qn.qf))]) hD hS hA [0, 2] rfl
            refine va_callv (va_runV (As := [.int (nI Qb.R), .int (nI 2), .int (nI Qs.R)]) (rest := []) ⟨hx, hb, hml, hown, hts⟩ (c_Mo_set l dC dI mo H (rf (rs v Qn o) js bs) cI Qn.qq (8 * Qn.C) Qn.qf Qb.R 2 ((nI Qs.R)) (by omega) (by omega) ((rf_ne (by decide) (by decide)).trans rs_19)) (cwV 3 hts (gt_V (own := R_Mo) (C := R_Mo) (i := 272) (y := y_Mo_set) i_Mo_set w_1411 w_1413 (gt_sel (y := y_Mo_set) (n := 30) (by decide +kernel)) w_7) rfl rfl rfl (by decide +kernel) ⟨Nat.le_trans (m := 13) (Nat.le_of_ble_eq_true rfl) (Nat.le_add_right 13 (15 + G)), Nat.le_trans (m := 500) (Nat.le_of_ble_eq_true rfl) (Nat.le_add_right 500 (600 + M))⟩) ⟨mp_blind, va_recv hKc hPc (ci := 13) (q0 := 0) rfl rfl, fun U hU hW => ⟨rfl, hU, by rw [hU]; exact hPc, va_K.moved hW.alike hKc, hDc.weaken (fun _ _ _ _ => trivial)⟩⟩ rfl rfl hl.1 rfl (lv_room (Nat.le_of_ble_eq_true rfl)) d_Mo_basic_288 ⟨hfit_QnVs.1, hfit_QnVs.2⟩) hS (fun q _ h => hFc q h) hFc (fun _u t9 H1 locs ht hvm hw hB hz1 hk1 hS => ?_)
            obtain ⟨hP1, hK1, hD1⟩ := hB
            rw [ht] at hP1
            obtain ⟨hP, hD⟩ := va_join (wr := [(qx, .inl (cB, NN, .inl f)), (Qn.qe, .inl (cL, (3 * Qn.C), .inr (.inl Qn.ef))), (tv, .inr (12, MF 13 (tw Vs))), (Vs.au, .inl (cC, Vs.U, .inl Vs.un))]) (w1 := [(mo, .inr (13, MF 30 (rf (rs v Qn o) js bs))), (Qn.qq, .inl (cI, (8 * Qn.C), .inl (upd Qn.qf (8 * Qb.R + 2) ((nI Qs.R)))))]) hP hD [0, 2] [1, 3, 4, 5] rfl rfl (by decide) (by decide) hk1 hFc hP1 hD1
            generalize H1 = H at hP hS ⊢
            have hP : va_P (dC, dI) classes [(qx, .inl (cB, NN, .inl f)), (Qn.qe, .inl (cL, (3 * Qn.C), .inr (.inl Qn.ef))), (tv, .inr (12, MF 13 (tw Vs))), (Vs.au, .inl (cC, Vs.U, .inl Vs.un)), (mo, .inr (13, MF 30 (rf (rs v Qn o) js bs))), (Qn.qq, .inl (cI, (8 * Qn.C), .inl (upd Qn.qf (8 * Qb.R + 2) ((nI Qs.R)))))] H := hP
            have hD : va_D A [(qx, .inl (cB, NN, .inl f)), (Qn.qe, .inl (cL, (3 * Qn.C), .inr (.inl Qn.ef))), (tv, .inr (12, MF 13 (tw Vs))), (Vs.au, .inl (cC, Vs.U, .inl Vs.un)), (mo, .inr (13, MF 30 (rf (rs v Qn o) js bs))), (Qn.qq, .inl (cI, (8 * Qn.C), .inl (upd Qn.qf (8 * Qb.R + 2) ((nI Qs.R)))))] := hD
            have hP := hP.sub (ws' := [(mo, .inr (13, MF 30 (rf (rs v Qn o) js bs))), (qx, .inl (cB, NN, .inl f)), (Qn.qq, .inl (cI, (8 * Qn.C), .inl (upd Qn.qf (8 * Qb.R + 2) ((nI Qs.R))))), (Qn.qe, .inl (cL, (3 * Qn.C), .inr (.inl Qn.ef))), (tv, .inr (12, MF 13 (tw Vs))), (Vs.au, .inl (cC, Vs.U, .inl Vs.un))]) [4, 0, 5, 1, 2, 3] rfl
            have hD := hD.sub (ws' := [(mo, .inr (13, MF 30 (rf (rs v Qn o) js bs))), (qx, .inl (cB, NN, .inl f)), (Qn.qq, .inl (cI, (8 * Qn.C), .inl (upd Qn.qf (8 * Qb.R + 2) ((nI Qs.R))))), (Qn.qe, .inl (cL, (3 * Qn.C), .inr (.inl Qn.ef))), (tv, .inr (12, MF 13 (tw Vs))), (Vs.au, .inl (cC, Vs.U, .inl Vs.un))]) [4, 0, 5, 1, 2, 3] (by decide) rfl
            obtain ⟨Qw, e_Qw⟩ : ∃ z : QS, z = QS.wf Qn (upd Qn.qf (8 * Qb.R + 2) ((nI Qs.R))) := ⟨_, rfl⟩
            have hP : va_P (dC, dI) classes [(mo, .inr (13, MF 30 (rf (rs v Qw o) js bs))), (qx, .inl (cB, NN, .inl f)), (Qw.qq, .inl (cI, (8 * Qw.C), .inl Qw.qf)), (Qw.qe, .inl (cL, (3 * Qw.C), .inr (.inl Qw.ef))), (tv, .inr (12, MF 13 (tw Vs))), (Vs.au, .inl (cC, Vs.U, .inl Vs.un))] H := by subst e_Qw; exact hP
            have hD : va_D A [(mo, .inr (13, MF 30 (rf (rs v Qw o) js bs))), (qx, .inl (cB, NN, .inl f)), (Qw.qq, .inl (cI, (8 * Qw.C), .inl Qw.qf)), (Qw.qe, .inl (cL, (3 * Qw.C), .inr (.inl Qw.ef))), (tv, .inr (12, MF 13 (tw Vs))), (Vs.au, .inl (cC, Vs.U, .inl Vs.un))] := by subst e_Qw; exact hD
            have hf_Qw : Qw.C = Qn.C ∧ Qw.R = Qn.R ∧ Qw.qf = upd Qn.qf (8 * Qb.R + 2) ((nI Qs.R)) := by rw [e_Qw]; exact ⟨rfl, rfl, rfl⟩
            have he_Qw : Qw.ef = Qn.ef := by rw [e_Qw]; rfl
            have hQk_Qw : QOK Qw := by rw [e_Qw]; exact hQk_Qn
            have hG_QwVs : GQ (Q.R + 8 * (n - i) + 1) (V.us + (n + 12 - i)) Q V Qw Vs := by unfold GQ at hG_QnVs ⊢; rw [hf_Qw.1]; exact hG_QnVs
            refine w_same (fun hq => ?_)
            refine w_tight (k := cQ Q V Qw Vs) (n := sQ Q V Qw Vs) (by unfold cQ sQ at hq ⊢; rw [hf_Qw.1]; exact hq) ?_
            have hR_Qw := hf_Qw.2.1
            have hqb_QwVs : Qw.R ≤ Qw.C ∧ Qw.C ≤ 100000 := ⟨hQk_Qw.2.2.1, hQk_Qw.2.1⟩
            have hfit_QwVs := hG_QwVs.fits
            have hkw : Qw.qf (8 * Qb.R + 0) = 32 := by rw [hf_Qw.2.2, pk_un (by omega)]; exact hA_Qn.2.2.2.2.1
            have hlw : Qw.qf (8 * Qb.R + 1) = -1 := by rw [hf_Qw.2.2, pk_un (by omega)]; exact hA_Qn.2.2.2.2.2 1 (by decide) (by decide)
            have hfw : Qw.qf (8 * Qb.R + 2) = nI Qs.R := by rw [hf_Qw.2.2]; exact pk_us
            have holdw : alr Qb Vs Qw Vs 0 Qb.R := hE_Qn.tr (alr.upd hf_Qw.2.2 he_Qw (by decide) (by omega))
            refine lv_iload_n hx hb d_Mo_basic_291 rfl (lv_at hl 0 rfl) ?_
            have hWw : Wth (TSTp O) Qw Vs Q.R Qw.R Qb.R Qs.R (tstC g9) := Wth_up (TSTp_fr hOf) hT (Nat.le_refl _) (by omega) (by omega) (holdw.sub (Nat.zero_le _) (Nat.le_refl _))
            have hB : BASf O C Y Qw Vs Q.R Qw.R Qb.R (notC (tstC g9)) := ⟨by omega, by omega, Or.inr (Or.inl ⟨hkw, Qs.R, (tstC g9), hfw, Or.inr hWw, rfl⟩)⟩
            have hExw : alr Q V Qw Vs 0 Q.R := hExb.tr (holdw.sub (Nat.le_refl _) (by omega))
            refine w_same (fun hq => ?_)
            refine W.widen (k := kcap Q (Q.R + 8 * (n - i) + 1) + qcap V (V.us + (n + 12 - i))) (n := 22 * kcap Q (Q.R + 8 * (n - i) + 1) + 2 * qcap V (V.us + (n + 12 - i))) hfit_QwVs.1 hfit_QwVs.2 ?_
            have hPo : QPo n i 1 Q V (Qw, Vs, js, bs, o) := ⟨hQk_Qw, hG_QwVs, ⟨_, hX_Vs, by omega⟩, by show Q.R ≤ Qw.R; omega, by show Qw.R ≤ Q.R + 8 * (n - i) + 1; omega⟩
            exact W.iret (v := nI Qb.R) hx hb hr (fun t9 ht hW => ⟨⟨nI Qb.R, (Qw, Vs, js, bs, o), rfl, ⟨hPo, Or.inl ⟨Qb.R, notC (tstC g9), rfl, hfin, hB, by show Qb.R < Qw.R; omega, hlw, hExw, by show Qw.R + 8 * i + 5 ≤ Q.R + 8 * js; omega, by show Vs.us + i ≤ V.us + js; omega, by show js ≤ n; omega, by show Q.R < Qw.R; omega, rfl⟩⟩, ⟨by rw [ht]; exact hP, va_K.moved hW.alike hK, hD⟩, by rw [ht]; exact hq⟩, hS.F ht⟩) hS.2.2 d_Mo_basic_292
          · have hv_2 : qrP f n ok (orL f n) false (decide (hereV f n (skipH f n (i + 1)) = 36)) ((skipH f n (i + 1)) + 1) = none := by rw [hrtb]; exact hv_2
            subst hv_1
            refine lv_istore (lv' := [(4, .int (-1)), (3, .int 1), (1, .int 1), (0, .ref mo)]) hx hb d_Mo_basic_132 hl (by decide) rfl (fun ls hl => ?_)
            refine lv_iload hx hb d_Mo_basic_134 (lv_at hl 0 rfl) ?_
            refine lv_if_ge (tgt := 141) hx hb d_Mo_basic_136 (by decide) (fun h => absurd h (by decide)) (fun _ => ?_)
            refine lv_iconst (v := (-1)) hx hb d_Mo_basic_139 (by decide) ?_
            have hfin : baP f n ok (orL f n) (cmL f n) (qyL f n) i = none := by rw [hbp]; exact baB_q0 hn40 hbeg hv_2
            refine w_same (fun hq => ?_)
            refine W.widen (k := kcap Q (Q.R + 8 * (n - i) + 1) + qcap V (V.us + (n + 12 - i))) (n := 22 * kcap Q (Q.R + 8 * (n - i) + 1) + 2 * qcap V (V.us + (n + 12 - i))) hfit_QsVs.1 hfit_QsVs.2 ?_
            have hPo : QPo n i 1 Q V (Qs, Vs, js, bs, os) := ⟨hQk_Qs, hG_QsVs, ⟨_, hX_Vs, by omega⟩, by show Q.R ≤ Qs.R; omega, by show Qs.R ≤ Q.R + 8 * (n - i) + 1; omega⟩
            exact W.iret (v := -1) hx hb hr (fun t9 ht hW => ⟨⟨-1, (Qs, Vs, js, bs, os), rfl, ⟨hPo, Or.inr ⟨rfl, hfin⟩⟩, ⟨by rw [ht]; exact hP, va_K.moved hW.alike hK, hD⟩, by rw [ht]; exact hq⟩, hS.F ht⟩) hS.2.2 d_Mo_basic_140
    · refine lv_aload_n hx hb d_Mo_basic_42 rfl (lv_at hl 1 rfl) ?_
      refine lv_bipush (v := 40) hx hb d_Mo_basic_43 (by decide) ?_
      have h40 : hereV f n (skipH f n (i + 1)) = 40 := h_r2.symm.trans c39
      have hlt1 := here_in h40 (by decide)
      have hPc := hP.sub (ws' := [(mo, .inr (13, MF 30 (rf (rs v Q o) (skipH f n (i + 1)) br))), (qx, .inl (cB, NN, .inl f))]) [0, 1] rfl
      have hDc := hD.sub (ws' := [(mo, .inr (13, MF 30 (rf (rs v Q o) (skipH f n (i + 1)) br))), (qx, .inl (cB, NN, .inl f))]) [0, 1] (by decide) rfl
      have hKc := hK.sub (tys' := [(cB, .byte)]) [0] rfl
      have hFc := va_free (wc := [(mo, .inr (13, MF 30 (rf (rs v Q o) (skipH f n (i + 1)) br))), (qx, .inl (cB, NN, .inl f))]) hD hS hA [0, 1] rfl
      refine va_calli (va_runV (As := [.int 40]) (rest := []) ⟨hx, hb, hml, hown, hts⟩ (c_Mo_enter l dC dI mo H (rf (rs v Q o) (skipH f n (i + 1)) br) cB qx NN f n (skipH f n (i + 1)) (by omega) (by omega) (by omega) ((rf_ne (by decide) (by decide)).trans ((rs_ne (by decide) (by decide) (by decide) (by decide)).trans h6)) rf_7 ((rf_ne (by decide) (by decide)).trans ((rs_ne (by decide) (by decide) (by decide) (by decide)).trans h8)) br rf_9 40 o (by omega) ((rf_ne (by decide) (by decide)).trans rs_23)) (cwV 1 hts (gt_V (own := R_Mo) (C := R_Mo) (i := 290) (y := y_Mo_enter) i_Mo_enter w_1423 w_1425 (gt_sel (y := y_Mo_enter) (n := 30) (by decide +kernel)) w_7) rfl rfl rfl (by decide +kernel) ⟨Nat.le_trans (m := 13) (Nat.le_of_ble_eq_true rfl) (Nat.le_add_right 13 (15 + G)), Nat.le_trans (m := 500) (Nat.le_of_ble_eq_true rfl) (Nat.le_add_right 500 (600 + M))⟩) ⟨mp_blind, va_recv hKc hPc (ci := 13) (q0 := 0) rfl rfl, fun U hU hW => ⟨rfl, hU, by rw [hU]; exact hPc, va_K.moved hW.alike hKc, hDc.weaken (fun _ _ _ _ => trivial)⟩⟩ rfl rfl hl.1 rfl (lv_room (Nat.le_of_ble_eq_true rfl)) d_Mo_basic_45 ⟨hfit_QV.1, hfit_QV.2⟩) hS (fun q _ h => hFc q h) hFc (fun r0 u2 t9 H1 locs ht hvm hw hB hz1 hk1 hS => ?_)
      obtain ⟨hP1, hK1, hD1⟩ := hB
      rw [ht] at hP1
      obtain ⟨hP, hD⟩ := va_join (wr := [(Q.qq, .inl (cI, (8 * Q.C), .inl Q.qf)), (Q.qe, .inl (cL, (3 * Q.C), .inr (.inl Q.ef))), (tv, .inr (12, MF 13 (tw V))), (V.au, .inl (cC, V.U, .inl V.un))]) (w1 := [(mo, .inr (13, MF 30 u2)), (qx, .inl (cB, NN, .inl f))]) hP hD [0, 1] [2, 3, 4, 5] rfl rfl (by decide) (by decide) hk1 hFc hP1 hD1
      generalize H1 = H at hP hS ⊢
      have hP : va_P (dC, dI) classes [(Q.qq, .inl (cI, (8 * Q.C), .inl Q.qf)), (Q.qe, .inl (cL, (3 * Q.C), .inr (.inl Q.ef))), (tv, .inr (12, MF 13 (tw V))), (V.au, .inl (cC, V.U, .inl V.un)), (mo, .inr (13, MF 30 u2)), (qx, .inl (cB, NN, .inl f))] H := hP
      have hD : va_D A [(Q.qq, .inl (cI, (8 * Q.C), .inl Q.qf)), (Q.qe, .inl (cL, (3 * Q.C), .inr (.inl Q.ef))), (tv, .inr (12, MF 13 (tw V))), (V.au, .inl (cC, V.U, .inl V.un)), (mo, .inr (13, MF 30 u2)), (qx, .inl (cB, NN, .inl f))] := hD
      have hP := hP.sub (ws' := [(mo, .inr (13, MF 30 u2)), (qx, .inl (cB, NN, .inl f)), (Q.qq, .inl (cI, (8 * Q.C), .inl Q.qf)), (Q.qe, .inl (cL, (3 * Q.C), .inr (.inl Q.ef))), (tv, .inr (12, MF 13 (tw V))), (V.au, .inl (cC, V.U, .inl V.un))]) [4, 5, 0, 1, 2, 3] rfl
      have hD := hD.sub (ws' := [(mo, .inr (13, MF 30 u2)), (qx, .inl (cB, NN, .inl f)), (Q.qq, .inl (cI, (8 * Q.C), .inl Q.qf)), (Q.qe, .inl (cL, (3 * Q.C), .inr (.inl Q.ef))), (tv, .inr (12, MF 13 (tw V))), (V.au, .inl (cC, V.U, .inl V.un))]) [4, 5, 0, 1, 2, 3] (by decide) rfl
      rcases hw with ⟨hn1, ht2, ht3⟩ | ⟨hn1, ht2, ht3⟩
      · rw [rs_o, rf_u7] at ht3
        rw [ht3] at hP hD
        subst ht2
        have hP : va_P (dC, dI) classes [(mo, .inr (13, MF 30 (rf (rs v Q (o + 1)) ((skipH f n (i + 1)) + 1) br))), (qx, .inl (cB, NN, .inl f)), (Q.qq, .inl (cI, (8 * Q.C), .inl Q.qf)), (Q.qe, .inl (cL, (3 * Q.C), .inr (.inl Q.ef))), (tv, .inr (12, MF 13 (tw V))), (V.au, .inl (cC, V.U, .inl V.un))] H := hP
        have hD : va_D A [(mo, .inr (13, MF 30 (rf (rs v Q (o + 1)) ((skipH f n (i + 1)) + 1) br))), (qx, .inl (cB, NN, .inl f)), (Q.qq, .inl (cI, (8 * Q.C), .inl Q.qf)), (Q.qe, .inl (cL, (3 * Q.C), .inr (.inl Q.ef))), (tv, .inr (12, MF 13 (tw V))), (V.au, .inl (cC, V.U, .inl V.un))] := hD
        refine lv_if_ne (tgt := 53) hx hb d_Mo_basic_48 (by decide) (fun _ => ?_) (fun h => absurd h (by decide))
        refine lv_aload_n hx hb d_Mo_basic_53 rfl (lv_at hl 1 rfl) ?_
        have hPc := hP.sub (ws' := [(mo, .inr (13, MF 30 (rf (rs v Q (o + 1)) ((skipH f n (i + 1)) + 1) br))), (qx, .inl (cB, NN, .inl f))]) [0, 1] rfl
        have hDc := hD.sub (ws' := [(mo, .inr (13, MF 30 (rf (rs v Q (o + 1)) ((skipH f n (i + 1)) + 1) br))), (qx, .inl (cB, NN, .inl f))]) [0, 1] (by decide) rfl
        have hKc := hK.sub (tys' := [(cB, .byte)]) [0] rfl
        have hFc := va_free (wc := [(mo, .inr (13, MF 30 (rf (rs v Q (o + 1)) ((skipH f n (i + 1)) + 1) br))), (qx, .inl (cB, NN, .inl f))]) hD hS hA [0, 1] rfl
        refine va_callv (va_runV (As := []) (rest := []) ⟨hx, hb, hml, hown, hts⟩ (c_Mo_blanks l dC dI mo H (rf (rs v Q (o + 1)) ((skipH f n (i + 1)) + 1) br) cB qx NN f n ((skipH f n (i + 1)) + 1) (by omega) (by omega) (by omega) ((rf_ne (by decide) (by decide)).trans ((rs_ne (by decide) (by decide) (by decide) (by decide)).trans h6)) rf_7 ((rf_ne (by decide) (by decide)).trans ((rs_ne (by decide) (by decide) (by decide) (by decide)).trans h8))) (cwV 0 hts (gt_V (own := R_Mo) (C := R_Mo) (i := 184) (y := y_Mo_blanks) i_Mo_blanks w_1229 w_1231 (gt_sel (y := y_Mo_blanks) (n := 30) (by decide +kernel)) w_7) rfl rfl rfl (by decide +kernel) ⟨Nat.le_trans (m := 13) (Nat.le_of_ble_eq_true rfl) (Nat.le_add_right 13 (15 + G)), Nat.le_trans (m := 500) (Nat.le_of_ble_eq_true rfl) (Nat.le_add_right 500 (600 + M))⟩) ⟨mp_blind, va_recv hKc hPc (ci := 13) (q0 := 0) rfl rfl, fun U hU hW => ⟨rfl, hU, by rw [hU]; exact hPc, va_K.moved hW.alike hKc, hDc.weaken (fun _ _ _ _ => trivial)⟩⟩ rfl rfl hl.1 rfl (lv_room (Nat.le_of_ble_eq_true rfl)) d_Mo_basic_54 ⟨hfit_QV.1, hfit_QV.2⟩) hS (fun q _ h => hFc q h) hFc (fun _u t9 H1 locs ht hvm hw hB hz1 hk1 hS => ?_)
        obtain ⟨hP1, hK1, hD1⟩ := hB
        rw [ht] at hP1
        obtain ⟨hP, hD⟩ := va_join (wr := [(Q.qq, .inl (cI, (8 * Q.C), .inl Q.qf)), (Q.qe, .inl (cL, (3 * Q.C), .inr (.inl Q.ef))), (tv, .inr (12, MF 13 (tw V))), (V.au, .inl (cC, V.U, .inl V.un))]) (w1 := [(mo, .inr (13, MF 30 (va_up (rf (rs v Q (o + 1)) ((skipH f n (i + 1)) + 1) br) 7 (.int (nI (skipH f n ((skipH f n (i + 1)) + 1))))))), (qx, .inl (cB, NN, .inl f))]) hP hD [0, 1] [2, 3, 4, 5] rfl rfl (by decide) (by decide) hk1 hFc hP1 hD1
        generalize H1 = H at hP hS ⊢
        have hP : va_P (dC, dI) classes [(Q.qq, .inl (cI, (8 * Q.C), .inl Q.qf)), (Q.qe, .inl (cL, (3 * Q.C), .inr (.inl Q.ef))), (tv, .inr (12, MF 13 (tw V))), (V.au, .inl (cC, V.U, .inl V.un)), (mo, .inr (13, MF 30 (va_up (rf (rs v Q (o + 1)) ((skipH f n (i + 1)) + 1) br) 7 (.int (nI (skipH f n ((skipH f n (i + 1)) + 1))))))), (qx, .inl (cB, NN, .inl f))] H := hP
        have hD : va_D A [(Q.qq, .inl (cI, (8 * Q.C), .inl Q.qf)), (Q.qe, .inl (cL, (3 * Q.C), .inr (.inl Q.ef))), (tv, .inr (12, MF 13 (tw V))), (V.au, .inl (cC, V.U, .inl V.un)), (mo, .inr (13, MF 30 (va_up (rf (rs v Q (o + 1)) ((skipH f n (i + 1)) + 1) br) 7 (.int (nI (skipH f n ((skipH f n (i + 1)) + 1))))))), (qx, .inl (cB, NN, .inl f))] := hD
        have hP := hP.sub (ws' := [(mo, .inr (13, MF 30 (va_up (rf (rs v Q (o + 1)) ((skipH f n (i + 1)) + 1) br) 7 (.int (nI (skipH f n ((skipH f n (i + 1)) + 1))))))), (qx, .inl (cB, NN, .inl f)), (Q.qq, .inl (cI, (8 * Q.C), .inl Q.qf)), (Q.qe, .inl (cL, (3 * Q.C), .inr (.inl Q.ef))), (tv, .inr (12, MF 13 (tw V))), (V.au, .inl (cC, V.U, .inl V.un))]) [4, 5, 0, 1, 2, 3] rfl
        have hD := hD.sub (ws' := [(mo, .inr (13, MF 30 (va_up (rf (rs v Q (o + 1)) ((skipH f n (i + 1)) + 1) br) 7 (.int (nI (skipH f n ((skipH f n (i + 1)) + 1))))))), (qx, .inl (cB, NN, .inl f)), (Q.qq, .inl (cI, (8 * Q.C), .inl Q.qf)), (Q.qe, .inl (cL, (3 * Q.C), .inr (.inl Q.ef))), (tv, .inr (12, MF 13 (tw V))), (V.au, .inl (cC, V.U, .inl V.un))]) [4, 5, 0, 1, 2, 3] (by decide) rfl
        rw [rf_u7] at hP hD
        have hP : va_P (dC, dI) classes [(mo, .inr (13, MF 30 (rf (rs v Q (o + 1)) (skipH f n ((skipH f n (i + 1)) + 1)) br))), (qx, .inl (cB, NN, .inl f)), (Q.qq, .inl (cI, (8 * Q.C), .inl Q.qf)), (Q.qe, .inl (cL, (3 * Q.C), .inr (.inl Q.ef))), (tv, .inr (12, MF 13 (tw V))), (V.au, .inl (cC, V.U, .inl V.un))] H := hP
        have hD : va_D A [(mo, .inr (13, MF 30 (rf (rs v Q (o + 1)) (skipH f n ((skipH f n (i + 1)) + 1)) br))), (qx, .inl (cB, NN, .inl f)), (Q.qq, .inl (cI, (8 * Q.C), .inl Q.qf)), (Q.qe, .inl (cL, (3 * Q.C), .inr (.inl Q.ef))), (tv, .inr (12, MF 13 (tw V))), (V.au, .inl (cC, V.U, .inl V.un))] := hD
        have hsk_57 := skipH_n (f := f) (show ((skipH f n (i + 1)) + 1) ≤ n by omega)
        refine lv_aload_n hx hb d_Mo_basic_57 rfl (lv_at hl 1 rfl) ?_
        have hPc := hP.sub (ws' := [(mo, .inr (13, MF 30 (rf (rs v Q (o + 1)) (skipH f n ((skipH f n (i + 1)) + 1)) br))), (qx, .inl (cB, NN, .inl f)), (Q.qq, .inl (cI, (8 * Q.C), .inl Q.qf)), (Q.qe, .inl (cL, (3 * Q.C), .inr (.inl Q.ef))), (tv, .inr (12, MF 13 (tw V))), (V.au, .inl (cC, V.U, .inl V.un))]) [0, 1, 2, 3, 4, 5] rfl
        have hDc := hD.sub (ws' := [(mo, .inr (13, MF 30 (rf (rs v Q (o + 1)) (skipH f n ((skipH f n (i + 1)) + 1)) br))), (qx, .inl (cB, NN, .inl f)), (Q.qq, .inl (cI, (8 * Q.C), .inl Q.qf)), (Q.qe, .inl (cL, (3 * Q.C), .inr (.inl Q.ef))), (tv, .inr (12, MF 13 (tw V))), (V.au, .inl (cC, V.U, .inl V.un))]) [0, 1, 2, 3, 4, 5] (by decide) rfl
        have hKc := hK.sub (tys' := [(cB, .byte), (cI, .int), (cL, .long), (cC, .char)]) [0, 1, 2, 3] rfl
        have hFc := va_free (wc := [(mo, .inr (13, MF 30 (rf (rs v Q (o + 1)) (skipH f n ((skipH f n (i + 1)) + 1)) br))), (qx, .inl (cB, NN, .inl f)), (Q.qq, .inl (cI, (8 * Q.C), .inl Q.qf)), (Q.qe, .inl (cL, (3 * Q.C), .inr (.inl Q.ef))), (tv, .inr (12, MF 13 (tw V))), (V.au, .inl (cC, V.U, .inl V.un))]) hD hS hA [0, 1, 2, 3, 4, 5] rfl
        refine w_same (fun hq0 => ?_)
        refine va_calli (va_runV (As := []) (rest := []) ⟨hx, hb, hml, hown, hts⟩ (hOR hn1.2 l dC dI mo H v cB cI cL cC qx NN f n K tv Q V (skipH f n ((skipH f n (i + 1)) + 1)) br hnN hNN (by omega) h6 h8 h22 hQk_Q hTk_V (by omega) (by omega)) (cwV 0 hts (gt_V (own := R_Mo) (C := R_Mo) (i := 300) (y := y_Mo_or) i_Mo_or w_1435 w_1437 (gt_sel (y := y_Mo_or) (n := 30) (by decide +kernel)) w_7) rfl rfl rfl (by decide +kernel) ⟨by show 15 + G + 1 ≤ 13 + (15 + G); omega, by show 8 + (5 + 11) + (600 + M) ≤ 500 + (600 + M); omega⟩) ⟨me_blind, va_recv hKc hPc (ci := 13) (q0 := 0) rfl rfl, fun U hU hW => ⟨rfl, ⟨hU, by rw [hU]; exact hPc, va_K.moved hW.alike hKc, hDc.weaken (fun _ _ _ _ => trivial)⟩, by rw [hU]; exact ME.call hM hS.2.1 hFc hW⟩⟩ rfl rfl hl.1 rfl (lv_room (Nat.le_of_ble_eq_true rfl)) d_Mo_basic_58 ⟨(hG_QV.step (B2 := Q.R + 8 * (n - (skipH f n ((skipH f n (i + 1)) + 1))) + 3) (C2 := V.us + (n + 12 - (skipH f n ((skipH f n (i + 1)) + 1)))) (by omega) (by omega)).1, (hG_QV.step (B2 := Q.R + 8 * (n - (skipH f n ((skipH f n (i + 1)) + 1))) + 3) (C2 := V.us + (n + 12 - (skipH f n ((skipH f n (i + 1)) + 1)))) (by omega) (by omega)).2⟩) hS (fun q _ h => hFc q h) hFc (fun r0 ⟨Q2, V2, j2, b2, o2⟩ t9 H1 locs ht hvm hw hB hz1 hk1 hS => ?_)
        obtain ⟨⟨hP1, hK1, hD1⟩, hz9⟩ := hB
        rw [ht] at hP1
        rw [ht] at hz9
        obtain ⟨⟨hQk_Q2, hGn, hTXs, hR1_Q2, hR2_Q2⟩, hw⟩ := hw
        have hQk_Q2 : QOK Q2 := hQk_Q2
        obtain ⟨hG_Q2V2, hGc, hGs⟩ := hG_QV.tr hGn (by omega) (by omega)
        have hR1_Q2 : Q.R ≤ Q2.R := hR1_Q2
        have hR2_Q2 : Q2.R ≤ Q.R + 8 * (n - (skipH f n ((skipH f n (i + 1)) + 1))) + 3 := hR2_Q2
        obtain ⟨us2, hX_V2, hln_V2⟩ := hTXs
        have hX_V2 : TX V V2 us2 := hX_V2
        have hXs_V2 := hX_V2.us
        have hz9 : szk H H1 (cQ Q V Q2 V2) (sQ Q V Q2 V2) := hz9
        have hq1 : szk s.heap H1 (cQ Q V Q2 V2) (sQ Q V Q2 V2) := (hq0.trans hz9).mono hGc hGs
        refine w_tight hq1 ?_
        obtain ⟨hP, hD⟩ := va_join (wr := []) (w1 := [(mo, .inr (13, MF 30 (rf (rs v Q2 o2) j2 b2))), (qx, .inl (cB, NN, .inl f)), (Q2.qq, .inl (cI, (8 * Q2.C), .inl Q2.qf)), (Q2.qe, .inl (cL, (3 * Q2.C), .inr (.inl Q2.ef))), (tv, .inr (12, MF 13 (tw V2))), (V2.au, .inl (cC, V2.U, .inl V2.un))]) hP hD [0, 1, 2, 3, 4, 5] [] rfl rfl (by decide) (by decide) hk1 hFc hP1 hD1
        generalize H1 = H at hP hS ⊢
        have hP : va_P (dC, dI) classes [(mo, .inr (13, MF 30 (rf (rs v Q2 o2) j2 b2))), (qx, .inl (cB, NN, .inl f)), (Q2.qq, .inl (cI, (8 * Q2.C), .inl Q2.qf)), (Q2.qe, .inl (cL, (3 * Q2.C), .inr (.inl Q2.ef))), (tv, .inr (12, MF 13 (tw V2))), (V2.au, .inl (cC, V2.U, .inl V2.un))] H := hP
        have hD : va_D A [(mo, .inr (13, MF 30 (rf (rs v Q2 o2) j2 b2))), (qx, .inl (cB, NN, .inl f)), (Q2.qq, .inl (cI, (8 * Q2.C), .inl Q2.qf)), (Q2.qe, .inl (cL, (3 * Q2.C), .inr (.inl Q2.ef))), (tv, .inr (12, MF 13 (tw V2))), (V2.au, .inl (cC, V2.U, .inl V2.un))] := hD
        have hP := hP.sub (ws' := [(mo, .inr (13, MF 30 (rf (rs v Q2 o2) j2 b2))), (qx, .inl (cB, NN, .inl f)), (tv, .inr (12, MF 13 (tw V2))), (Q2.qq, .inl (cI, (8 * Q2.C), .inl Q2.qf)), (Q2.qe, .inl (cL, (3 * Q2.C), .inr (.inl Q2.ef))), (V2.au, .inl (cC, V2.U, .inl V2.un))]) [0, 1, 4, 2, 3, 5] rfl
        have hD := hD.sub (ws' := [(mo, .inr (13, MF 30 (rf (rs v Q2 o2) j2 b2))), (qx, .inl (cB, NN, .inl f)), (tv, .inr (12, MF 13 (tw V2))), (Q2.qq, .inl (cI, (8 * Q2.C), .inl Q2.qf)), (Q2.qe, .inl (cL, (3 * Q2.C), .inr (.inl Q2.ef))), (V2.au, .inl (cC, V2.U, .inl V2.un))]) [0, 1, 4, 2, 3, 5] (by decide) rfl
        have hP := hP.sub (ws' := [(mo, .inr (13, MF 30 (rf (rs v Q2 o2) j2 b2))), (qx, .inl (cB, NN, .inl f)), (Q2.qq, .inl (cI, (8 * Q2.C), .inl Q2.qf)), (Q2.qe, .inl (cL, (3 * Q2.C), .inr (.inl Q2.ef))), (tv, .inr (12, MF 13 (tw V2))), (V2.au, .inl (cC, V2.U, .inl V2.un))]) [0, 1, 3, 4, 2, 5] rfl
        have hD := hD.sub (ws' := [(mo, .inr (13, MF 30 (rf (rs v Q2 o2) j2 b2))), (qx, .inl (cB, NN, .inl f)), (Q2.qq, .inl (cI, (8 * Q2.C), .inl Q2.qf)), (Q2.qe, .inl (cL, (3 * Q2.C), .inr (.inl Q2.ef))), (tv, .inr (12, MF 13 (tw V2))), (V2.au, .inl (cC, V2.U, .inl V2.un))]) [0, 1, 3, 4, 2, 5] (by decide) rfl
        have hTk_V2 := hX_V2.ok hTk_V (by omega)
        have hqb_Q2V2 : Q2.R ≤ Q2.C ∧ Q2.C ≤ 100000 := ⟨hQk_Q2.2.2.1, hQk_Q2.2.1⟩
        have hfit_Q2V2 := hG_Q2V2.fits
        rcases hw with ⟨g9, hv_1, hv_2, hv_3, hv_4, hv_5, hv_6, hv_7, hv_8, hv_9⟩ | ⟨hv_1, hv_2⟩
        · have hv_9 : (o + 1) = o2 := hv_9.symm
          subst hv_9
          have hP : va_P (dC, dI) classes [(mo, .inr (13, MF 30 (rf (rs v Q2 (o + 1)) j2 b2))), (qx, .inl (cB, NN, .inl f)), (Q2.qq, .inl (cI, (8 * Q2.C), .inl Q2.qf)), (Q2.qe, .inl (cL, (3 * Q2.C), .inr (.inl Q2.ef))), (tv, .inr (12, MF 13 (tw V2))), (V2.au, .inl (cC, V2.U, .inl V2.un))] H := hP
          have hD : va_D A [(mo, .inr (13, MF 30 (rf (rs v Q2 (o + 1)) j2 b2))), (qx, .inl (cB, NN, .inl f)), (Q2.qq, .inl (cI, (8 * Q2.C), .inl Q2.qf)), (Q2.qe, .inl (cL, (3 * Q2.C), .inr (.inl Q2.ef))), (tv, .inr (12, MF 13 (tw V2))), (V2.au, .inl (cC, V2.U, .inl V2.un))] := hD
          have hv_2 : orL f n (skipH f n ((skipH f n (i + 1)) + 1)) = some (j2, g9) := hv_2
          have hv_3 : O Q2 V2 Q.R Q2.R Q.R g9 := hv_3
          have hv_4 : alr Q V Q2 V2 0 Q.R := hv_4
          have hv_5 : Q2.R + 8 * (skipH f n ((skipH f n (i + 1)) + 1)) + 3 ≤ Q.R + 8 * j2 := hv_5
          have hv_6 : V2.us + (skipH f n ((skipH f n (i + 1)) + 1)) ≤ V.us + j2 := hv_6
          have hv_7 : j2 ≤ n := hv_7
          have hv_8 : Q.R < Q2.R := hv_8
          subst hv_1
          refine lv_istore_n (lv' := [(2, .int (nI Q.R)), (1, .int 1), (0, .ref mo)]) hx hb d_Mo_basic_61 rfl hl (by decide) rfl (fun ls hl => ?_)
          refine lv_iload_n hx hb d_Mo_basic_62 rfl (lv_at hl 0 rfl) ?_
          refine lv_if_ge (tgt := 68) hx hb d_Mo_basic_63 (by decide) (fun _ => ?_) (fun h => absurd (nI_pos' (by omega)) h)
          refine lv_aload_n hx hb d_Mo_basic_68 rfl (lv_at hl 2 rfl) ?_
          have hPc := hP.sub (ws' := [(mo, .inr (13, MF 30 (rf (rs v Q2 (o + 1)) j2 b2))), (qx, .inl (cB, NN, .inl f))]) [0, 1] rfl
          have hDc := hD.sub (ws' := [(mo, .inr (13, MF 30 (rf (rs v Q2 (o + 1)) j2 b2))), (qx, .inl (cB, NN, .inl f))]) [0, 1] (by decide) rfl
          have hKc := hK.sub (tys' := [(cB, .byte)]) [0] rfl
          have hFc := va_free (wc := [(mo, .inr (13, MF 30 (rf (rs v Q2 (o + 1)) j2 b2))), (qx, .inl (cB, NN, .inl f))]) hD hS hA [0, 1] rfl
          refine va_callv (va_runV (As := []) (rest := []) ⟨hx, hb, hml, hown, hts⟩ (c_Mo_blanks l dC dI mo H (rf (rs v Q2 (o + 1)) j2 b2) cB qx NN f n j2 (by omega) (by omega) (by omega) ((rf_ne (by decide) (by decide)).trans ((rs_ne (by decide) (by decide) (by decide) (by decide)).trans h6)) rf_7 ((rf_ne (by decide) (by decide)).trans ((rs_ne (by decide) (by decide) (by decide) (by decide)).trans h8))) (cwV 0 hts (gt_V (own := R_Mo) (C := R_Mo) (i := 184) (y := y_Mo_blanks) i_Mo_blanks w_1229 w_1231 (gt_sel (y := y_Mo_blanks) (n := 30) (by decide +kernel)) w_7) rfl rfl rfl (by decide +kernel) ⟨Nat.le_trans (m := 13) (Nat.le_of_ble_eq_true rfl) (Nat.le_add_right 13 (15 + G)), Nat.le_trans (m := 500) (Nat.le_of_ble_eq_true rfl) (Nat.le_add_right 500 (600 + M))⟩) ⟨mp_blind, va_recv hKc hPc (ci := 13) (q0 := 0) rfl rfl, fun U hU hW => ⟨rfl, hU, by rw [hU]; exact hPc, va_K.moved hW.alike hKc, hDc.weaken (fun _ _ _ _ => trivial)⟩⟩ rfl rfl hl.1 rfl (lv_room (Nat.le_of_ble_eq_true rfl)) d_Mo_basic_69 ⟨hfit_Q2V2.1, hfit_Q2V2.2⟩) hS (fun q _ h => hFc q h) hFc (fun _u t9 H1 locs ht hvm hw hB hz1 hk1 hS => ?_)
          obtain ⟨hP1, hK1, hD1⟩ := hB
          rw [ht] at hP1
          obtain ⟨hP, hD⟩ := va_join (wr := [(Q2.qq, .inl (cI, (8 * Q2.C), .inl Q2.qf)), (Q2.qe, .inl (cL, (3 * Q2.C), .inr (.inl Q2.ef))), (tv, .inr (12, MF 13 (tw V2))), (V2.au, .inl (cC, V2.U, .inl V2.un))]) (w1 := [(mo, .inr (13, MF 30 (va_up (rf (rs v Q2 (o + 1)) j2 b2) 7 (.int (nI (skipH f n j2)))))), (qx, .inl (cB, NN, .inl f))]) hP hD [0, 1] [2, 3, 4, 5] rfl rfl (by decide) (by decide) hk1 hFc hP1 hD1
          generalize H1 = H at hP hS ⊢
          have hP : va_P (dC, dI) classes [(Q2.qq, .inl (cI, (8 * Q2.C), .inl Q2.qf)), (Q2.qe, .inl (cL, (3 * Q2.C), .inr (.inl Q2.ef))), (tv, .inr (12, MF 13 (tw V2))), (V2.au, .inl (cC, V2.U, .inl V2.un)), (mo, .inr (13, MF 30 (va_up (rf (rs v Q2 (o + 1)) j2 b2) 7 (.int (nI (skipH f n j2)))))), (qx, .inl (cB, NN, .inl f))] H := hP
          have hD : va_D A [(Q2.qq, .inl (cI, (8 * Q2.C), .inl Q2.qf)), (Q2.qe, .inl (cL, (3 * Q2.C), .inr (.inl Q2.ef))), (tv, .inr (12, MF 13 (tw V2))), (V2.au, .inl (cC, V2.U, .inl V2.un)), (mo, .inr (13, MF 30 (va_up (rf (rs v Q2 (o + 1)) j2 b2) 7 (.int (nI (skipH f n j2)))))), (qx, .inl (cB, NN, .inl f))] := hD
          have hP := hP.sub (ws' := [(mo, .inr (13, MF 30 (va_up (rf (rs v Q2 (o + 1)) j2 b2) 7 (.int (nI (skipH f n j2)))))), (qx, .inl (cB, NN, .inl f)), (Q2.qq, .inl (cI, (8 * Q2.C), .inl Q2.qf)), (Q2.qe, .inl (cL, (3 * Q2.C), .inr (.inl Q2.ef))), (tv, .inr (12, MF 13 (tw V2))), (V2.au, .inl (cC, V2.U, .inl V2.un))]) [4, 5, 0, 1, 2, 3] rfl
          have hD := hD.sub (ws' := [(mo, .inr (13, MF 30 (va_up (rf (rs v Q2 (o + 1)) j2 b2) 7 (.int (nI (skipH f n j2)))))), (qx, .inl (cB, NN, .inl f)), (Q2.qq, .inl (cI, (8 * Q2.C), .inl Q2.qf)), (Q2.qe, .inl (cL, (3 * Q2.C), .inr (.inl Q2.ef))), (tv, .inr (12, MF 13 (tw V2))), (V2.au, .inl (cC, V2.U, .inl V2.un))]) [4, 5, 0, 1, 2, 3] (by decide) rfl
          rw [rf_u7] at hP hD
          have hP : va_P (dC, dI) classes [(mo, .inr (13, MF 30 (rf (rs v Q2 (o + 1)) (skipH f n j2) b2))), (qx, .inl (cB, NN, .inl f)), (Q2.qq, .inl (cI, (8 * Q2.C), .inl Q2.qf)), (Q2.qe, .inl (cL, (3 * Q2.C), .inr (.inl Q2.ef))), (tv, .inr (12, MF 13 (tw V2))), (V2.au, .inl (cC, V2.U, .inl V2.un))] H := hP
          have hD : va_D A [(mo, .inr (13, MF 30 (rf (rs v Q2 (o + 1)) (skipH f n j2) b2))), (qx, .inl (cB, NN, .inl f)), (Q2.qq, .inl (cI, (8 * Q2.C), .inl Q2.qf)), (Q2.qe, .inl (cL, (3 * Q2.C), .inr (.inl Q2.ef))), (tv, .inr (12, MF 13 (tw V2))), (V2.au, .inl (cC, V2.U, .inl V2.un))] := hD
          have hsk_72 := skipH_n (f := f) (show j2 ≤ n by omega)
          refine lv_aload_n hx hb d_Mo_basic_72 rfl (lv_at hl 2 rfl) ?_
          refine lv_bipush (v := 41) hx hb d_Mo_basic_73 (by decide) ?_
          have hPc := hP.sub (ws' := [(mo, .inr (13, MF 30 (rf (rs v Q2 (o + 1)) (skipH f n j2) b2))), (qx, .inl (cB, NN, .inl f))]) [0, 1] rfl
          have hDc := hD.sub (ws' := [(mo, .inr (13, MF 30 (rf (rs v Q2 (o + 1)) (skipH f n j2) b2))), (qx, .inl (cB, NN, .inl f))]) [0, 1] (by decide) rfl
          have hKc := hK.sub (tys' := [(cB, .byte)]) [0] rfl
          have hFc := va_free (wc := [(mo, .inr (13, MF 30 (rf (rs v Q2 (o + 1)) (skipH f n j2) b2))), (qx, .inl (cB, NN, .inl f))]) hD hS hA [0, 1] rfl
          refine va_calli (va_runV (As := [.int 41]) (rest := []) ⟨hx, hb, hml, hown, hts⟩ (c_Mo_shut l dC dI mo H (rf (rs v Q2 (o + 1)) (skipH f n j2) b2) cB qx NN f n (skipH f n j2) (by omega) (by omega) (by omega) ((rf_ne (by decide) (by decide)).trans ((rs_ne (by decide) (by decide) (by decide) (by decide)).trans h6)) rf_7 ((rf_ne (by decide) (by decide)).trans ((rs_ne (by decide) (by decide) (by decide) (by decide)).trans h8)) b2 rf_9 41 o ((rf_ne (by decide) (by decide)).trans rs_23)) (cwV 1 hts (gt_V (own := R_Mo) (C := R_Mo) (i := 297) (y := y_Mo_shut) i_Mo_shut w_1447 w_1449 (gt_sel (y := y_Mo_shut) (n := 30) (by decide +kernel)) w_7) rfl rfl rfl (by decide +kernel) ⟨Nat.le_trans (m := 13) (Nat.le_of_ble_eq_true rfl) (Nat.le_add_right 13 (15 + G)), Nat.le_trans (m := 500) (Nat.le_of_ble_eq_true rfl) (Nat.le_add_right 500 (600 + M))⟩) ⟨mp_blind, va_recv hKc hPc (ci := 13) (q0 := 0) rfl rfl, fun U hU hW => ⟨rfl, hU, by rw [hU]; exact hPc, va_K.moved hW.alike hKc, hDc.weaken (fun _ _ _ _ => trivial)⟩⟩ rfl rfl hl.1 rfl (lv_room (Nat.le_of_ble_eq_true rfl)) d_Mo_basic_75 ⟨hfit_Q2V2.1, hfit_Q2V2.2⟩) hS (fun q _ h => hFc q h) hFc (fun r0 u2 t9 H1 locs ht hvm hw hB hz1 hk1 hS => ?_)
          obtain ⟨hP1, hK1, hD1⟩ := hB
          rw [ht] at hP1
          obtain ⟨hP, hD⟩ := va_join (wr := [(Q2.qq, .inl (cI, (8 * Q2.C), .inl Q2.qf)), (Q2.qe, .inl (cL, (3 * Q2.C), .inr (.inl Q2.ef))), (tv, .inr (12, MF 13 (tw V2))), (V2.au, .inl (cC, V2.U, .inl V2.un))]) (w1 := [(mo, .inr (13, MF 30 u2)), (qx, .inl (cB, NN, .inl f))]) hP hD [0, 1] [2, 3, 4, 5] rfl rfl (by decide) (by decide) hk1 hFc hP1 hD1
          generalize H1 = H at hP hS ⊢
          have hP : va_P (dC, dI) classes [(Q2.qq, .inl (cI, (8 * Q2.C), .inl Q2.qf)), (Q2.qe, .inl (cL, (3 * Q2.C), .inr (.inl Q2.ef))), (tv, .inr (12, MF 13 (tw V2))), (V2.au, .inl (cC, V2.U, .inl V2.un)), (mo, .inr (13, MF 30 u2)), (qx, .inl (cB, NN, .inl f))] H := hP
          have hD : va_D A [(Q2.qq, .inl (cI, (8 * Q2.C), .inl Q2.qf)), (Q2.qe, .inl (cL, (3 * Q2.C), .inr (.inl Q2.ef))), (tv, .inr (12, MF 13 (tw V2))), (V2.au, .inl (cC, V2.U, .inl V2.un)), (mo, .inr (13, MF 30 u2)), (qx, .inl (cB, NN, .inl f))] := hD
          have hP := hP.sub (ws' := [(mo, .inr (13, MF 30 u2)), (qx, .inl (cB, NN, .inl f)), (Q2.qq, .inl (cI, (8 * Q2.C), .inl Q2.qf)), (Q2.qe, .inl (cL, (3 * Q2.C), .inr (.inl Q2.ef))), (tv, .inr (12, MF 13 (tw V2))), (V2.au, .inl (cC, V2.U, .inl V2.un))]) [4, 5, 0, 1, 2, 3] rfl
          have hD := hD.sub (ws' := [(mo, .inr (13, MF 30 u2)), (qx, .inl (cB, NN, .inl f)), (Q2.qq, .inl (cI, (8 * Q2.C), .inl Q2.qf)), (Q2.qe, .inl (cL, (3 * Q2.C), .inr (.inl Q2.ef))), (tv, .inr (12, MF 13 (tw V2))), (V2.au, .inl (cC, V2.U, .inl V2.un))]) [4, 5, 0, 1, 2, 3] (by decide) rfl
          rcases hw with ⟨hn2, ht2, ht3⟩ | ⟨hn2, ht2, ht3⟩
          · rw [rf_u7, rs_o] at ht3
            rw [ht3] at hP hD
            subst ht2
            have hP : va_P (dC, dI) classes [(mo, .inr (13, MF 30 (rf (rs v Q2 o) ((skipH f n j2) + 1) b2))), (qx, .inl (cB, NN, .inl f)), (Q2.qq, .inl (cI, (8 * Q2.C), .inl Q2.qf)), (Q2.qe, .inl (cL, (3 * Q2.C), .inr (.inl Q2.ef))), (tv, .inr (12, MF 13 (tw V2))), (V2.au, .inl (cC, V2.U, .inl V2.un))] H := hP
            have hD : va_D A [(mo, .inr (13, MF 30 (rf (rs v Q2 o) ((skipH f n j2) + 1) b2))), (qx, .inl (cB, NN, .inl f)), (Q2.qq, .inl (cI, (8 * Q2.C), .inl Q2.qf)), (Q2.qe, .inl (cL, (3 * Q2.C), .inr (.inl Q2.ef))), (tv, .inr (12, MF 13 (tw V2))), (V2.au, .inl (cC, V2.U, .inl V2.un))] := hD
            have hlt41 := here_in hn2 (by decide)
            have hfin : baP f n ok (orL f n) (cmL f n) (qyL f n) i = some (((skipH f n j2) + 1), notC g9) := by rw [hbp]; exact baB_p2 h40 (fun h => absurd (hok.mpr hn1.2) (by rw [h]; decide)) hv_2 hn2
            refine lv_if_ne (tgt := 267) hx hb d_Mo_basic_78 (by decide) (fun _ => ?_) (fun h => absurd h (by decide))
            refine lv_iload_n hx hb d_Mo_basic_267 rfl (lv_at hl 1 rfl) ?_
            refine lv_if_ne (tgt := 277) hx hb d_Mo_basic_268 (by decide) (fun _ => ?_) (fun h => absurd h (by decide))
            refine lv_aload_n hx hb d_Mo_basic_277 rfl (lv_at hl 2 rfl) ?_
            refine lv_bipush (v := 32) hx hb d_Mo_basic_278 (by decide) ?_
            have hPc := hP.sub (ws' := [(mo, .inr (13, MF 30 (rf (rs v Q2 o) ((skipH f n j2) + 1) b2))), (Q2.qq, .inl (cI, (8 * Q2.C), .inl Q2.qf)), (Q2.qe, .inl (cL, (3 * Q2.C), .inr (.inl Q2.ef)))]) [0, 2, 3] rfl
            have hDc := hD.sub (ws' := [(mo, .inr (13, MF 30 (rf (rs v Q2 o) ((skipH f n j2) + 1) b2))), (Q2.qq, .inl (cI, (8 * Q2.C), .inl Q2.qf)), (Q2.qe, .inl (cL, (3 * Q2.C), .inr (.inl Q2.ef)))]) [0, 2, 3] (by decide) rfl
            have hKc := hK.sub (tys' := [(cI, .int), (cL, .long)]) [1, 2] rfl
            have hFc := va_free (wc := [(mo, .inr (13, MF 30 (rf (rs v Q2 o) ((skipH f n j2) + 1) b2))), (Q2.qq, .inl (cI, (8 * Q2.C), .inl Q2.qf)), (Q2.qe, .inl (cL, (3 * Q2.C), .inr (.inl Q2.ef)))]) hD hS hA [0, 2, 3] rfl
            refine w_same (fun hq0 => ?_)
            refine va_calli (va_runV (As := [.int 32]) (rest := []) ⟨hx, hb, hml, hown, hts⟩ (c_Mo_row l dC dI mo H v cI cL Q2 o ((skipH f n j2) + 1) b2 32 hQk_Q2) (cwV 1 hts (gt_V (own := R_Mo) (C := R_Mo) (i := 269) (y := y_Mo_row) i_Mo_row w_1407 w_1409 (gt_sel (y := y_Mo_row) (n := 30) (by decide +kernel)) w_7) rfl rfl rfl (by decide +kernel) ⟨Nat.le_trans (m := 13) (Nat.le_of_ble_eq_true rfl) (Nat.le_add_right 13 (15 + G)), Nat.le_trans (m := 500) (Nat.le_of_ble_eq_true rfl) (Nat.le_add_right 500 (600 + M))⟩) ⟨mp_blind, va_recv hKc hPc (ci := 13) (q0 := 0) rfl rfl, fun U hU hW => ⟨rfl, hU, by rw [hU]; exact hPc, va_K.moved hW.alike hKc, hDc.weaken (fun _ _ _ _ => trivial)⟩⟩ rfl rfl hl.1 rfl (lv_room (Nat.le_of_ble_eq_true rfl)) d_Mo_basic_280 ⟨(QAd.fit hG_Q2V2 hQk_Q2 (by omega)).1, (QAd.fit hG_Q2V2 hQk_Q2 (by omega)).2⟩) hS (fun q _ h => hFc q h) hFc (fun r0 Qn t9 H1 locs ht hvm hw hB hz1 hk1 hS => ?_)
            obtain ⟨⟨hP1, hK1, hD1⟩, hz9⟩ := hB
            rw [ht] at hP1
            rw [ht] at hz9
            obtain ⟨hr0, hA_Qn⟩ := hw
            have hA_Qn : QAd Q2 Qn 32 := hA_Qn
            obtain ⟨hQk_Qn, hGa, hGb, hGd, hR_Qn⟩ := hA_Qn.gq hQk_Q2 (by omega) V2
            obtain ⟨hG_QnV2, hGc, hGs⟩ := hG_Q2V2.tr hGa (show Q2.R + 1 ≤ Q.R + 8 * (n - i) + 1 by omega) (Nat.zero_le _)
            have hGc := Nat.le_trans (Nat.add_le_add_left hGb _) hGc
            have hGs := Nat.le_trans (Nat.add_le_add_left hGd _) hGs
            have hq1 : szk s.heap H1 (cQ Q V Qn V2) (sQ Q V Qn V2) := (hq0.trans hz9).mono hGc hGs
            refine w_tight hq1 ?_
            obtain ⟨hP, hD⟩ := va_join (wr := [(qx, .inl (cB, NN, .inl f)), (tv, .inr (12, MF 13 (tw V2))), (V2.au, .inl (cC, V2.U, .inl V2.un))]) (w1 := [(mo, .inr (13, MF 30 (rf (rs v Qn o) ((skipH f n j2) + 1) b2))), (Qn.qq, .inl (cI, (8 * Qn.C), .inl Qn.qf)), (Qn.qe, .inl (cL, (3 * Qn.C), .inr (.inl Qn.ef)))]) hP hD [0, 2, 3] [1, 4, 5] rfl rfl (by decide) (by decide) hk1 hFc hP1 hD1
            generalize H1 = H at hP hS ⊢
            have hP : va_P (dC, dI) classes [(qx, .inl (cB, NN, .inl f)), (tv, .inr (12, MF 13 (tw V2))), (V2.au, .inl (cC, V2.U, .inl V2.un)), (mo, .inr (13, MF 30 (rf (rs v Qn o) ((skipH f n j2) + 1) b2))), (Qn.qq, .inl (cI, (8 * Qn.C), .inl Qn.qf)), (Qn.qe, .inl (cL, (3 * Qn.C), .inr (.inl Qn.ef)))] H := hP
            have hD : va_D A [(qx, .inl (cB, NN, .inl f)), (tv, .inr (12, MF 13 (tw V2))), (V2.au, .inl (cC, V2.U, .inl V2.un)), (mo, .inr (13, MF 30 (rf (rs v Qn o) ((skipH f n j2) + 1) b2))), (Qn.qq, .inl (cI, (8 * Qn.C), .inl Qn.qf)), (Qn.qe, .inl (cL, (3 * Qn.C), .inr (.inl Qn.ef)))] := hD
            have hP := hP.sub (ws' := [(mo, .inr (13, MF 30 (rf (rs v Qn o) ((skipH f n j2) + 1) b2))), (qx, .inl (cB, NN, .inl f)), (tv, .inr (12, MF 13 (tw V2))), (V2.au, .inl (cC, V2.U, .inl V2.un)), (Qn.qq, .inl (cI, (8 * Qn.C), .inl Qn.qf)), (Qn.qe, .inl (cL, (3 * Qn.C), .inr (.inl Qn.ef)))]) [3, 0, 1, 2, 4, 5] rfl
            have hD := hD.sub (ws' := [(mo, .inr (13, MF 30 (rf (rs v Qn o) ((skipH f n j2) + 1) b2))), (qx, .inl (cB, NN, .inl f)), (tv, .inr (12, MF 13 (tw V2))), (V2.au, .inl (cC, V2.U, .inl V2.un)), (Qn.qq, .inl (cI, (8 * Qn.C), .inl Qn.qf)), (Qn.qe, .inl (cL, (3 * Qn.C), .inr (.inl Qn.ef)))]) [3, 0, 1, 2, 4, 5] (by decide) rfl
            have hP := hP.sub (ws' := [(mo, .inr (13, MF 30 (rf (rs v Qn o) ((skipH f n j2) + 1) b2))), (qx, .inl (cB, NN, .inl f)), (Qn.qq, .inl (cI, (8 * Qn.C), .inl Qn.qf)), (Qn.qe, .inl (cL, (3 * Qn.C), .inr (.inl Qn.ef))), (tv, .inr (12, MF 13 (tw V2))), (V2.au, .inl (cC, V2.U, .inl V2.un))]) [0, 1, 4, 5, 2, 3] rfl
            have hD := hD.sub (ws' := [(mo, .inr (13, MF 30 (rf (rs v Qn o) ((skipH f n j2) + 1) b2))), (qx, .inl (cB, NN, .inl f)), (Qn.qq, .inl (cI, (8 * Qn.C), .inl Qn.qf)), (Qn.qe, .inl (cL, (3 * Qn.C), .inr (.inl Qn.ef))), (tv, .inr (12, MF 13 (tw V2))), (V2.au, .inl (cC, V2.U, .inl V2.un))]) [0, 1, 4, 5, 2, 3] (by decide) rfl
            have hr0 : r0 = nI Q2.R := hr0
            subst hr0
            have hqb_QnV2 : Qn.R ≤ Qn.C ∧ Qn.C ≤ 100000 := ⟨hQk_Qn.2.2.1, hQk_Qn.2.1⟩
            have hfit_QnV2 := hG_QnV2.fits
            have hE_Qn : alr Q2 V2 Qn V2 0 Q2.R := ⟨fun r9 k9 _ h1 h2 => hA_Qn.2.2.1 _ (by omega), ⟨fun r9 k9 _ h1 h2 => hA_Qn.2.2.2.1.2 _ (by omega), Nat.le_refl _, fun _ _ => rfl⟩⟩
            refine lv_istore_n (lv' := [(3, .int (nI Q2.R)), (2, .int (nI Q.R)), (1, .int 1), (0, .ref mo)]) hx hb d_Mo_basic_283 rfl hl (by decide) rfl (fun ls hl => ?_)
            refine lv_aload_n hx hb d_Mo_basic_284 rfl (lv_at hl 3 rfl) ?_
            refine lv_iload_n hx hb d_Mo_basic_285 rfl (lv_at hl 0 rfl) ?_
            refine lv_iconst (v := 2) hx hb d_Mo_basic_286 (by decide) ?_
            refine lv_iload_n hx hb d_Mo_basic_287 rfl (lv_at hl 1 rfl) ?_
            refine W.eq (g2 := F0 m 288 ls [.int (nI Q.R), .int (nI 2), .int (nI Q2.R), .ref mo]) rfl ?_
            have hPc := hP.sub (ws' := [(mo, .inr (13, MF 30 (rf (rs v Qn o) ((skipH f n j2) + 1) b2))), (Qn.qq, .inl (cI, (8 * Qn.C), .inl Qn.qf))]) [0, 2] rfl
            have hDc := hD.sub (ws' := [(mo, .inr (13, MF 30 (rf (rs v Qn o) ((skipH f n j2) + 1) b2))), (Qn.qq, .inl (cI, (8 * Qn.C), .inl Qn.qf))]) [0, 2] (by decide) rfl
            have hKc := hK.sub (tys' := [(cI, .int)]) [1] rfl
            have hFc := va_free (wc := [(mo, .inr (13, MF 30 (rf (rs v Qn o) ((skipH f n j2) + 1) b2))), (Qn.qq, .inl (cI, (8 * Qn.C), .inl Qn.qf))]) hD hS hA [0, 2] rfl
            refine va_callv (va_runV (As := [.int (nI Q2.R), .int (nI 2), .int (nI Q.R)]) (rest := []) ⟨hx, hb, hml, hown, hts⟩ (c_Mo_set l dC dI mo H (rf (rs v Qn o) ((skipH f n j2) + 1) b2) cI Qn.qq (8 * Qn.C) Qn.qf Q2.R 2 ((nI Q.R)) (by omega) (by omega) ((rf_ne (by decide) (by decide)).trans rs_19)) (cwV 3 hts (gt_V (own := R_Mo) (C := R_Mo) (i := 272) (y := y_Mo_set) i_Mo_set w_1411 w_1413 (gt_sel (y := y_Mo_set) (n := 30) (by decide +kernel)) w_7) rfl rfl rfl (by decide +kernel) ⟨Nat.le_trans (m := 13) (Nat.le_of_ble_eq_true rfl) (Nat.le_add_right 13 (15 + G)), Nat.le_trans (m := 500) (Nat.le_of_ble_eq_true rfl) (Nat.le_add_right 500 (600 + M))⟩) ⟨mp_blind, va_recv hKc hPc (ci := 13) (q0 := 0) rfl rfl, fun U hU hW => ⟨rfl, hU, by rw [hU]; exact hPc, va_K.moved hW.alike hKc, hDc.weaken (fun _ _ _ _ => trivial)⟩⟩ rfl rfl hl.1 rfl (lv_room (Nat.le_of_ble_eq_true rfl)) d_Mo_basic_288 ⟨hfit_QnV2.1, hfit_QnV2.2⟩) hS (fun q _ h => hFc q h) hFc (fun _u t9 H1 locs ht hvm hw hB hz1 hk1 hS => ?_)
            obtain ⟨hP1, hK1, hD1⟩ := hB
            rw [ht] at hP1
            obtain ⟨hP, hD⟩ := va_join (wr := [(qx, .inl (cB, NN, .inl f)), (Qn.qe, .inl (cL, (3 * Qn.C), .inr (.inl Qn.ef))), (tv, .inr (12, MF 13 (tw V2))), (V2.au, .inl (cC, V2.U, .inl V2.un))]) (w1 := [(mo, .inr (13, MF 30 (rf (rs v Qn o) ((skipH f n j2) + 1) b2))), (Qn.qq, .inl (cI, (8 * Qn.C), .inl (upd Qn.qf (8 * Q2.R + 2) ((nI Q.R)))))]) hP hD [0, 2] [1, 3, 4, 5] rfl rfl (by decide) (by decide) hk1 hFc hP1 hD1
            generalize H1 = H at hP hS ⊢
            have hP : va_P (dC, dI) classes [(qx, .inl (cB, NN, .inl f)), (Qn.qe, .inl (cL, (3 * Qn.C), .inr (.inl Qn.ef))), (tv, .inr (12, MF 13 (tw V2))), (V2.au, .inl (cC, V2.U, .inl V2.un)), (mo, .inr (13, MF 30 (rf (rs v Qn o) ((skipH f n j2) + 1) b2))), (Qn.qq, .inl (cI, (8 * Qn.C), .inl (upd Qn.qf (8 * Q2.R + 2) ((nI Q.R)))))] H := hP
            have hD : va_D A [(qx, .inl (cB, NN, .inl f)), (Qn.qe, .inl (cL, (3 * Qn.C), .inr (.inl Qn.ef))), (tv, .inr (12, MF 13 (tw V2))), (V2.au, .inl (cC, V2.U, .inl V2.un)), (mo, .inr (13, MF 30 (rf (rs v Qn o) ((skipH f n j2) + 1) b2))), (Qn.qq, .inl (cI, (8 * Qn.C), .inl (upd Qn.qf (8 * Q2.R + 2) ((nI Q.R)))))] := hD
            have hP := hP.sub (ws' := [(mo, .inr (13, MF 30 (rf (rs v Qn o) ((skipH f n j2) + 1) b2))), (qx, .inl (cB, NN, .inl f)), (Qn.qq, .inl (cI, (8 * Qn.C), .inl (upd Qn.qf (8 * Q2.R + 2) ((nI Q.R))))), (Qn.qe, .inl (cL, (3 * Qn.C), .inr (.inl Qn.ef))), (tv, .inr (12, MF 13 (tw V2))), (V2.au, .inl (cC, V2.U, .inl V2.un))]) [4, 0, 5, 1, 2, 3] rfl
            have hD := hD.sub (ws' := [(mo, .inr (13, MF 30 (rf (rs v Qn o) ((skipH f n j2) + 1) b2))), (qx, .inl (cB, NN, .inl f)), (Qn.qq, .inl (cI, (8 * Qn.C), .inl (upd Qn.qf (8 * Q2.R + 2) ((nI Q.R))))), (Qn.qe, .inl (cL, (3 * Qn.C), .inr (.inl Qn.ef))), (tv, .inr (12, MF 13 (tw V2))), (V2.au, .inl (cC, V2.U, .inl V2.un))]) [4, 0, 5, 1, 2, 3] (by decide) rfl
            obtain ⟨Qw, e_Qw⟩ : ∃ z : QS, z = QS.wf Qn (upd Qn.qf (8 * Q2.R + 2) ((nI Q.R))) := ⟨_, rfl⟩
            have hP : va_P (dC, dI) classes [(mo, .inr (13, MF 30 (rf (rs v Qw o) ((skipH f n j2) + 1) b2))), (qx, .inl (cB, NN, .inl f)), (Qw.qq, .inl (cI, (8 * Qw.C), .inl Qw.qf)), (Qw.qe, .inl (cL, (3 * Qw.C), .inr (.inl Qw.ef))), (tv, .inr (12, MF 13 (tw V2))), (V2.au, .inl (cC, V2.U, .inl V2.un))] H := by subst e_Qw; exact hP
            have hD : va_D A [(mo, .inr (13, MF 30 (rf (rs v Qw o) ((skipH f n j2) + 1) b2))), (qx, .inl (cB, NN, .inl f)), (Qw.qq, .inl (cI, (8 * Qw.C), .inl Qw.qf)), (Qw.qe, .inl (cL, (3 * Qw.C), .inr (.inl Qw.ef))), (tv, .inr (12, MF 13 (tw V2))), (V2.au, .inl (cC, V2.U, .inl V2.un))] := by subst e_Qw; exact hD
            have hf_Qw : Qw.C = Qn.C ∧ Qw.R = Qn.R ∧ Qw.qf = upd Qn.qf (8 * Q2.R + 2) ((nI Q.R)) := by rw [e_Qw]; exact ⟨rfl, rfl, rfl⟩
            have he_Qw : Qw.ef = Qn.ef := by rw [e_Qw]; rfl
            have hQk_Qw : QOK Qw := by rw [e_Qw]; exact hQk_Qn
            have hG_QwV2 : GQ (Q.R + 8 * (n - i) + 1) (V.us + (n + 12 - i)) Q V Qw V2 := by unfold GQ at hG_QnV2 ⊢; rw [hf_Qw.1]; exact hG_QnV2
            refine w_same (fun hq => ?_)
            refine w_tight (k := cQ Q V Qw V2) (n := sQ Q V Qw V2) (by unfold cQ sQ at hq ⊢; rw [hf_Qw.1]; exact hq) ?_
            have hR_Qw := hf_Qw.2.1
            have hqb_QwV2 : Qw.R ≤ Qw.C ∧ Qw.C ≤ 100000 := ⟨hQk_Qw.2.2.1, hQk_Qw.2.1⟩
            have hfit_QwV2 := hG_QwV2.fits
            have hkw : Qw.qf (8 * Q2.R + 0) = 32 := by rw [hf_Qw.2.2, pk_un (by omega)]; exact hA_Qn.2.2.2.2.1
            have hlw : Qw.qf (8 * Q2.R + 1) = -1 := by rw [hf_Qw.2.2, pk_un (by omega)]; exact hA_Qn.2.2.2.2.2 1 (by decide) (by decide)
            have hfw : Qw.qf (8 * Q2.R + 2) = nI Q.R := by rw [hf_Qw.2.2]; exact pk_us
            have holdw : alr Q2 V2 Qw V2 0 Q2.R := hE_Qn.tr (alr.upd hf_Qw.2.2 he_Qw (by decide) (by omega))
            refine lv_iload_n hx hb d_Mo_basic_291 rfl (lv_at hl 0 rfl) ?_
            have hWw : Wth O Qw V2 Q.R Qw.R Q2.R Q.R g9 := Wth_up hOf hv_3 (Nat.le_refl _) (by omega) (by omega) (holdw.sub (Nat.zero_le _) (Nat.le_refl _))
            have hB : BASf O C Y Qw V2 Q.R Qw.R Q2.R (notC g9) := ⟨by omega, by omega, Or.inr (Or.inl ⟨hkw, Q.R, g9, hfw, Or.inl hWw, rfl⟩)⟩
            have hExw : alr Q V Qw V2 0 Q.R := hv_4.tr (holdw.sub (Nat.le_refl _) (by omega))
            refine w_same (fun hq => ?_)
            refine W.widen (k := kcap Q (Q.R + 8 * (n - i) + 1) + qcap V (V.us + (n + 12 - i))) (n := 22 * kcap Q (Q.R + 8 * (n - i) + 1) + 2 * qcap V (V.us + (n + 12 - i))) hfit_QwV2.1 hfit_QwV2.2 ?_
            have hPo : QPo n i 1 Q V (Qw, V2, ((skipH f n j2) + 1), b2, o) := ⟨hQk_Qw, hG_QwV2, ⟨_, hX_V2, by omega⟩, by show Q.R ≤ Qw.R; omega, by show Qw.R ≤ Q.R + 8 * (n - i) + 1; omega⟩
            exact W.iret (v := nI Q2.R) hx hb hr (fun t9 ht hW => ⟨⟨nI Q2.R, (Qw, V2, ((skipH f n j2) + 1), b2, o), rfl, ⟨hPo, Or.inl ⟨Q2.R, notC g9, rfl, hfin, hB, by show Q2.R < Qw.R; omega, hlw, hExw, by show Qw.R + 8 * i + 5 ≤ Q.R + 8 * ((skipH f n j2) + 1); omega, by show V2.us + i ≤ V.us + ((skipH f n j2) + 1); omega, by show ((skipH f n j2) + 1) ≤ n; omega, by show Q.R < Qw.R; omega, rfl⟩⟩, ⟨by rw [ht]; exact hP, va_K.moved hW.alike hK, hD⟩, by rw [ht]; exact hq⟩, hS.F ht⟩) hS.2.2 d_Mo_basic_292
          · obtain ⟨b6, h_b6⟩ := rf_fail (v := (rs v Q2 (o + 1))) (i := (skipH f n j2)) (br := b2) (b2 := b2) (wh := nI (skipH f n j2))
            rw [h_b6] at ht3
            rw [ht3] at hP hD
            subst ht2
            have hP : va_P (dC, dI) classes [(mo, .inr (13, MF 30 (rf (rs v Q2 (o + 1)) (skipH f n j2) b6))), (qx, .inl (cB, NN, .inl f)), (Q2.qq, .inl (cI, (8 * Q2.C), .inl Q2.qf)), (Q2.qe, .inl (cL, (3 * Q2.C), .inr (.inl Q2.ef))), (tv, .inr (12, MF 13 (tw V2))), (V2.au, .inl (cC, V2.U, .inl V2.un))] H := hP
            have hD : va_D A [(mo, .inr (13, MF 30 (rf (rs v Q2 (o + 1)) (skipH f n j2) b6))), (qx, .inl (cB, NN, .inl f)), (Q2.qq, .inl (cI, (8 * Q2.C), .inl Q2.qf)), (Q2.qe, .inl (cL, (3 * Q2.C), .inr (.inl Q2.ef))), (tv, .inr (12, MF 13 (tw V2))), (V2.au, .inl (cC, V2.U, .inl V2.un))] := hD
            refine lv_if_ne (tgt := 267) hx hb d_Mo_basic_78 (by decide) (fun h => absurd h (by decide)) (fun _ => ?_)
            refine lv_iconst (v := (-1)) hx hb d_Mo_basic_81 (by decide) ?_
            have hfin : baP f n ok (orL f n) (cmL f n) (qyL f n) i = none := by rw [hbp]; exact baB_p3 h40 (fun h => absurd (hok.mpr hn1.2) (by rw [h]; decide)) hv_2 hn2
            refine w_same (fun hq => ?_)
            refine W.widen (k := kcap Q (Q.R + 8 * (n - i) + 1) + qcap V (V.us + (n + 12 - i))) (n := 22 * kcap Q (Q.R + 8 * (n - i) + 1) + 2 * qcap V (V.us + (n + 12 - i))) hfit_Q2V2.1 hfit_Q2V2.2 ?_
            have hPo : QPo n i 1 Q V (Q2, V2, (skipH f n j2), b6, (o + 1)) := ⟨hQk_Q2, hG_Q2V2, ⟨_, hX_V2, by omega⟩, by show Q.R ≤ Q2.R; omega, by show Q2.R ≤ Q.R + 8 * (n - i) + 1; omega⟩
            exact W.iret (v := -1) hx hb hr (fun t9 ht hW => ⟨⟨-1, (Q2, V2, (skipH f n j2), b6, (o + 1)), rfl, ⟨hPo, Or.inr ⟨rfl, hfin⟩⟩, ⟨by rw [ht]; exact hP, va_K.moved hW.alike hK, hD⟩, by rw [ht]; exact hq⟩, hS.F ht⟩) hS.2.2 d_Mo_basic_82
        · have hv_2 : orL f n (skipH f n ((skipH f n (i + 1)) + 1)) = none := hv_2
          subst hv_1
          refine lv_istore_n (lv' := [(2, .int (-1)), (1, .int 1), (0, .ref mo)]) hx hb d_Mo_basic_61 rfl hl (by decide) rfl (fun ls hl => ?_)
          refine lv_iload_n hx hb d_Mo_basic_62 rfl (lv_at hl 0 rfl) ?_
          refine lv_if_ge (tgt := 68) hx hb d_Mo_basic_63 (by decide) (fun h => absurd h (by decide)) (fun _ => ?_)
          refine lv_iconst (v := (-1)) hx hb d_Mo_basic_66 (by decide) ?_
          have hfin : baP f n ok (orL f n) (cmL f n) (qyL f n) i = none := by rw [hbp]; exact baB_p1 h40 (fun h => absurd (hok.mpr hn1.2) (by rw [h]; decide)) hv_2
          refine w_same (fun hq => ?_)
          refine W.widen (k := kcap Q (Q.R + 8 * (n - i) + 1) + qcap V (V.us + (n + 12 - i))) (n := 22 * kcap Q (Q.R + 8 * (n - i) + 1) + 2 * qcap V (V.us + (n + 12 - i))) hfit_Q2V2.1 hfit_Q2V2.2 ?_
          have hPo : QPo n i 1 Q V (Q2, V2, j2, b2, o2) := ⟨hQk_Q2, hG_Q2V2, ⟨_, hX_V2, by omega⟩, by show Q.R ≤ Q2.R; omega, by show Q2.R ≤ Q.R + 8 * (n - i) + 1; omega⟩
          exact W.iret (v := -1) hx hb hr (fun t9 ht hW => ⟨⟨-1, (Q2, V2, j2, b2, o2), rfl, ⟨hPo, Or.inr ⟨rfl, hfin⟩⟩, ⟨by rw [ht]; exact hP, va_K.moved hW.alike hK, hD⟩, by rw [ht]; exact hq⟩, hS.F ht⟩) hS.2.2 d_Mo_basic_67
      · obtain ⟨b5, h_b5⟩ := rf_fail (v := (rs v Q o)) (i := (skipH f n (i + 1))) (br := br) (b2 := br) (wh := nI (skipH f n (i + 1)))
        rw [h_b5] at ht3
        rw [ht3] at hP hD
        subst ht2
        have hP : va_P (dC, dI) classes [(mo, .inr (13, MF 30 (rf (rs v Q o) (skipH f n (i + 1)) b5))), (qx, .inl (cB, NN, .inl f)), (Q.qq, .inl (cI, (8 * Q.C), .inl Q.qf)), (Q.qe, .inl (cL, (3 * Q.C), .inr (.inl Q.ef))), (tv, .inr (12, MF 13 (tw V))), (V.au, .inl (cC, V.U, .inl V.un))] H := hP
        have hD : va_D A [(mo, .inr (13, MF 30 (rf (rs v Q o) (skipH f n (i + 1)) b5))), (qx, .inl (cB, NN, .inl f)), (Q.qq, .inl (cI, (8 * Q.C), .inl Q.qf)), (Q.qe, .inl (cL, (3 * Q.C), .inr (.inl Q.ef))), (tv, .inr (12, MF 13 (tw V))), (V.au, .inl (cC, V.U, .inl V.un))] := hD
        refine lv_if_ne (tgt := 53) hx hb d_Mo_basic_48 (by decide) (fun h => absurd h (by decide)) (fun _ => ?_)
        refine lv_iconst (v := (-1)) hx hb d_Mo_basic_51 (by decide) ?_
        have hfin : baP f n ok (orL f n) (cmL f n) (qyL f n) i = none := by rw [hbp]; exact baB_p0 h40 (Bool.eq_false_iff.mpr (fun h => hn1 ⟨h40, hok.mp h⟩))
        refine w_same (fun hq => ?_)
        refine W.widen (k := kcap Q (Q.R + 8 * (n - i) + 1) + qcap V (V.us + (n + 12 - i))) (n := 22 * kcap Q (Q.R + 8 * (n - i) + 1) + 2 * qcap V (V.us + (n + 12 - i))) hfit_QV.1 hfit_QV.2 ?_
        have hPo : QPo n i 1 Q V (Q, V, (skipH f n (i + 1)), b5, o) := ⟨hQk_Q, hG_QV, ⟨[], TX.rf hTk_V, Nat.zero_le _⟩, by show Q.R ≤ Q.R; omega, by show Q.R ≤ Q.R + 8 * (n - i) + 1; omega⟩
        exact W.iret (v := -1) hx hb hr (fun t9 ht hW => ⟨⟨-1, (Q, V, (skipH f n (i + 1)), b5, o), rfl, ⟨hPo, Or.inr ⟨rfl, hfin⟩⟩, ⟨by rw [ht]; exact hP, va_K.moved hW.alike hK, hD⟩, by rw [ht]; exact hq⟩, hS.F ht⟩) hS.2.2 d_Mo_basic_52
