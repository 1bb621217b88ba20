theorem w_1265 : (.methodLink "QueryBenchModel" 177 ⟨"QueryBenchModel$Tree", "unit", "(I)V"⟩ : Cond) ∈ gtbl := gt_in 1265 (by decide +kernel) (by decide +kernel)
theorem w_1266 : (.instanceMethod ⟨"QueryBenchModel$Tree", "unit", "(I)V"⟩ : Cond) ∈ gtbl := gt_in 1266 (by decide +kernel) (by decide +kernel)
theorem w_1267 : (.selects "QueryBenchModel$Tree" ⟨"QueryBenchModel$Tree", "unit", "(I)V"⟩ ⟨"QueryBenchModel$Tree", "unit", "(I)V"⟩ : Cond) ∈ gtbl := gt_in 1267 (by decide +kernel) (by decide +kernel)
theorem w_1269 : (.methodLink "QueryBenchModel" 180 ⟨"QueryBenchModel", "escaped", "(I)I"⟩ : Cond) ∈ gtbl := gt_in 1269 (by decide +kernel) (by decide +kernel)
theorem w_1271 : (.instanceMethod ⟨"QueryBenchModel", "escaped", "(I)I"⟩ : Cond) ∈ gtbl := gt_in 1271 (by decide +kernel) (by decide +kernel)
theorem w_1335 : (.constant "QueryBenchModel" 102 56320 : Cond) ∈ gtbl := gt_in 1335 (by decide +kernel) (by decide +kernel)
theorem w_1336 : (.constant "QueryBenchModel" 183 57343 : Cond) ∈ gtbl := gt_in 1336 (by decide +kernel) (by decide +kernel)
theorem w_1337 : (.constant "QueryBenchModel" 99 55296 : Cond) ∈ gtbl := gt_in 1337 (by decide +kernel) (by decide +kernel)
theorem w_1338 : (.constant "QueryBenchModel" 100 56319 : Cond) ∈ gtbl := gt_in 1338 (by decide +kernel) (by decide +kernel)
/-- the units up to the quote, as the reference goes, and where it is then -/
def qtM (f : Nat → Int32) (n : Nat) (q : Int32) : Nat → Nat → List Int32 → Option (List Int32 × Nat)
  | 0, _, _ => none
  | k + 1, i, us =>
    if hereV f n i = q then some (us, i + 1)
    else if hereV f n i < 32 ∨ ¬ hereV f n i ≤ 126 then none
    else if ¬ hereV f n i = 92 then qtM f n q k (i + 1) (us ++ [hereV f n i])
    else if ¬ 0 ≤ (escM f n q i).1 then none
    else if ¬ (escM f n q i).1 < 56320 ∧ ¬ 57343 < (escM f n q i).1 then none
    else if (escM f n q i).1 < 55296 ∨ ¬ (escM f n q i).1 ≤ 56319 then qtM f n q k (escM f n q i).2 (us ++ [(escM f n q i).1])
    else if ¬ (escM f n q i).2 < n then none
    else if ¬ hereV f n (escM f n q i).2 = 92 then none
    else if ¬ (escM f n q i).2 + 1 < n then none
    else if ¬ f ((escM f n q i).2 + 1) = 117 then none
    else if ¬ 0 ≤ (escM f n q (escM f n q i).2).1 then none
    else if (escM f n q (escM f n q i).2).1 < 56320 ∨ ¬ (escM f n q (escM f n q i).2).1 ≤ 57343 then none
    else qtM f n q k (escM f n q (escM f n q i).2).2 (us ++ [(escM f n q i).1] ++ [(escM f n q (escM f n q i).2).1])
def qtQ (f : Nat → Int32) (n : Nat) (q : Int32) (i : Nat) : Option (List Int32 × Nat) := if hereV f n i = q then qtM f n q (n + 13) (i + 1) [] else none
def qcap (T : TS) (B : Nat) : Nat := max T.U (2 * B) - T.U
theorem q_fit {T Tc : TS} {us : List Int32} (h : TX T Tc us) (hT : TOK T) {B : Nat} (hB : T.us + us.length + 1 ≤ B) : (Tc.U - T.U) + grC Tc.U Tc.us ≤ qcap T B ∧ 2 * (Tc.U - T.U) + grS Tc.U Tc.us ≤ 2 * qcap T B := by
  have h1 := h.us
  have h2 := h.U
  have h3 := hT.2.2.2.1
  unfold qcap grC grS
  split <;> omega
theorem q_cap {T Tc : TS} {us : List Int32} (h : TX T Tc us) {B : Nat} (hB : T.us + us.length ≤ B) : Tc.U - T.U ≤ qcap T B := by
  have h2 := h.U
  unfold qcap
  omega
theorem here_l32 {f : Nat → Int32} {n i : Nat} (h : ¬ hereV f n i < 32) : i < n := Classical.byContradiction (fun hn => h (by unfold hereV; rw [if_neg hn]; decide))
abbrev b_Mo_quoted : ByteArray := prog_14_method_21_code
def y_Mo_quoted : MethodName := ⟨"QueryBenchModel", "quoted", "(ILQueryBenchModel$Tree;)Z"⟩
abbrev k_Mo_quoted : Cond := .code y_Mo_quoted b_Mo_quoted 7 (some .boolean)
theorem i_Mo_quoted : k_Mo_quoted ∈ gtbl := gt_in 1264 (by decide +kernel) (by decide +kernel)
theorem d_Mo_quoted_0 : decode b_Mo_quoted 0 = .ok (.aload_n 0, 1) := by decide +kernel
theorem d_Mo_quoted_1 : decode b_Mo_quoted 1 = .ok (.iload_n 1, 1) := by decide +kernel
theorem d_Mo_quoted_2 : decode b_Mo_quoted 2 = .ok (.invokevirtual 163, 3) := by decide +kernel
theorem d_Mo_quoted_5 : decode b_Mo_quoted 5 = .ok (.ifCond .ne 5, 3) := by decide +kernel
theorem d_Mo_quoted_8 : decode b_Mo_quoted 8 = .ok (.iconst 0, 1) := by decide +kernel
theorem d_Mo_quoted_9 : decode b_Mo_quoted 9 = .ok (.ireturn, 1) := by decide +kernel
theorem d_Mo_quoted_10 : decode b_Mo_quoted 10 = .ok (.aload_n 0, 1) := by decide +kernel
theorem d_Mo_quoted_11 : decode b_Mo_quoted 11 = .ok (.invokevirtual 147, 3) := by decide +kernel
theorem d_Mo_quoted_14 : decode b_Mo_quoted 14 = .ok (.iload_n 1, 1) := by decide +kernel
theorem d_Mo_quoted_15 : decode b_Mo_quoted 15 = .ok (.if_icmp .eq 276, 3) := by decide +kernel
theorem d_Mo_quoted_18 : decode b_Mo_quoted 18 = .ok (.aload_n 0, 1) := by decide +kernel
theorem d_Mo_quoted_19 : decode b_Mo_quoted 19 = .ok (.getfield 135, 3) := by decide +kernel
theorem d_Mo_quoted_22 : decode b_Mo_quoted 22 = .ok (.istore_n 3, 1) := by decide +kernel
theorem d_Mo_quoted_23 : decode b_Mo_quoted 23 = .ok (.aload_n 0, 1) := by decide +kernel
theorem d_Mo_quoted_24 : decode b_Mo_quoted 24 = .ok (.invokevirtual 147, 3) := by decide +kernel
theorem d_Mo_quoted_27 : decode b_Mo_quoted 27 = .ok (.istore 4, 2) := by decide +kernel
theorem d_Mo_quoted_29 : decode b_Mo_quoted 29 = .ok (.iload 4, 2) := by decide +kernel
theorem d_Mo_quoted_31 : decode b_Mo_quoted 31 = .ok (.bipush 32, 2) := by decide +kernel
theorem d_Mo_quoted_33 : decode b_Mo_quoted 33 = .ok (.if_icmp .lt 10, 3) := by decide +kernel
theorem d_Mo_quoted_36 : decode b_Mo_quoted 36 = .ok (.iload 4, 2) := by decide +kernel
theorem d_Mo_quoted_38 : decode b_Mo_quoted 38 = .ok (.bipush 126, 2) := by decide +kernel
theorem d_Mo_quoted_40 : decode b_Mo_quoted 40 = .ok (.if_icmp .le 30, 3) := by decide +kernel
theorem d_Mo_quoted_43 : decode b_Mo_quoted 43 = .ok (.aload_n 0, 1) := by decide +kernel
theorem d_Mo_quoted_44 : decode b_Mo_quoted 44 = .ok (.aload_n 0, 1) := by decide +kernel
theorem d_Mo_quoted_45 : decode b_Mo_quoted 45 = .ok (.getfield 135, 3) := by decide +kernel
theorem d_Mo_quoted_48 : decode b_Mo_quoted 48 = .ok (.aload_n 0, 1) := by decide +kernel
theorem d_Mo_quoted_49 : decode b_Mo_quoted 49 = .ok (.getfield 138, 3) := by decide +kernel
theorem d_Mo_quoted_52 : decode b_Mo_quoted 52 = .ok (.if_icmp .lt 10, 3) := by decide +kernel
theorem d_Mo_quoted_55 : decode b_Mo_quoted 55 = .ok (.aload_n 0, 1) := by decide +kernel
theorem d_Mo_quoted_56 : decode b_Mo_quoted 56 = .ok (.getfield 138, 3) := by decide +kernel
theorem d_Mo_quoted_59 : decode b_Mo_quoted 59 = .ok (.goto 7, 3) := by decide +kernel
theorem d_Mo_quoted_62 : decode b_Mo_quoted 62 = .ok (.aload_n 0, 1) := by decide +kernel
theorem d_Mo_quoted_63 : decode b_Mo_quoted 63 = .ok (.getfield 135, 3) := by decide +kernel
theorem d_Mo_quoted_66 : decode b_Mo_quoted 66 = .ok (.invokevirtual 151, 3) := by decide +kernel
theorem d_Mo_quoted_69 : decode b_Mo_quoted 69 = .ok (.ireturn, 1) := by decide +kernel
theorem d_Mo_quoted_70 : decode b_Mo_quoted 70 = .ok (.iload 4, 2) := by decide +kernel
theorem d_Mo_quoted_72 : decode b_Mo_quoted 72 = .ok (.bipush 92, 2) := by decide +kernel
theorem d_Mo_quoted_74 : decode b_Mo_quoted 74 = .ok (.if_icmp .eq 22, 3) := by decide +kernel
theorem d_Mo_quoted_77 : decode b_Mo_quoted 77 = .ok (.aload_n 2, 1) := by decide +kernel
theorem d_Mo_quoted_78 : decode b_Mo_quoted 78 = .ok (.iload 4, 2) := by decide +kernel
theorem d_Mo_quoted_80 : decode b_Mo_quoted 80 = .ok (.invokevirtual 177, 3) := by decide +kernel
theorem d_Mo_quoted_83 : decode b_Mo_quoted 83 = .ok (.aload_n 0, 1) := by decide +kernel
theorem d_Mo_quoted_84 : decode b_Mo_quoted 84 = .ok (.dup, 1) := by decide +kernel
theorem d_Mo_quoted_85 : decode b_Mo_quoted 85 = .ok (.getfield 135, 3) := by decide +kernel
theorem d_Mo_quoted_88 : decode b_Mo_quoted 88 = .ok (.iconst 1, 1) := by decide +kernel
theorem d_Mo_quoted_89 : decode b_Mo_quoted 89 = .ok (.iadd, 1) := by decide +kernel
theorem d_Mo_quoted_90 : decode b_Mo_quoted 90 = .ok (.putfield 135, 3) := by decide +kernel
theorem d_Mo_quoted_93 : decode b_Mo_quoted 93 = .ok (.goto (-83), 3) := by decide +kernel
theorem d_Mo_quoted_96 : decode b_Mo_quoted 96 = .ok (.aload_n 0, 1) := by decide +kernel
theorem d_Mo_quoted_97 : decode b_Mo_quoted 97 = .ok (.iload_n 1, 1) := by decide +kernel
theorem d_Mo_quoted_98 : decode b_Mo_quoted 98 = .ok (.invokevirtual 180, 3) := by decide +kernel
theorem d_Mo_quoted_101 : decode b_Mo_quoted 101 = .ok (.istore 5, 2) := by decide +kernel
theorem d_Mo_quoted_103 : decode b_Mo_quoted 103 = .ok (.iload 5, 2) := by decide +kernel
theorem d_Mo_quoted_105 : decode b_Mo_quoted 105 = .ok (.ifCond .ge 5, 3) := by decide +kernel
theorem d_Mo_quoted_108 : decode b_Mo_quoted 108 = .ok (.iconst 0, 1) := by decide +kernel
theorem d_Mo_quoted_109 : decode b_Mo_quoted 109 = .ok (.ireturn, 1) := by decide +kernel
theorem d_Mo_quoted_110 : decode b_Mo_quoted 110 = .ok (.iload 5, 2) := by decide +kernel
theorem d_Mo_quoted_112 : decode b_Mo_quoted 112 = .ok (.ldc 102, 2) := by decide +kernel
theorem d_Mo_quoted_114 : decode b_Mo_quoted 114 = .ok (.if_icmp .lt 16, 3) := by decide +kernel
theorem d_Mo_quoted_117 : decode b_Mo_quoted 117 = .ok (.iload 5, 2) := by decide +kernel
theorem d_Mo_quoted_119 : decode b_Mo_quoted 119 = .ok (.ldc 183, 2) := by decide +kernel
theorem d_Mo_quoted_121 : decode b_Mo_quoted 121 = .ok (.if_icmp .gt 9, 3) := by decide +kernel
theorem d_Mo_quoted_124 : decode b_Mo_quoted 124 = .ok (.aload_n 0, 1) := by decide +kernel
theorem d_Mo_quoted_125 : decode b_Mo_quoted 125 = .ok (.iload_n 3, 1) := by decide +kernel
theorem d_Mo_quoted_126 : decode b_Mo_quoted 126 = .ok (.invokevirtual 151, 3) := by decide +kernel
theorem d_Mo_quoted_129 : decode b_Mo_quoted 129 = .ok (.ireturn, 1) := by decide +kernel
theorem d_Mo_quoted_130 : decode b_Mo_quoted 130 = .ok (.aload_n 2, 1) := by decide +kernel
theorem d_Mo_quoted_131 : decode b_Mo_quoted 131 = .ok (.iload 5, 2) := by decide +kernel
theorem d_Mo_quoted_133 : decode b_Mo_quoted 133 = .ok (.invokevirtual 177, 3) := by decide +kernel
theorem d_Mo_quoted_136 : decode b_Mo_quoted 136 = .ok (.iload 5, 2) := by decide +kernel
theorem d_Mo_quoted_138 : decode b_Mo_quoted 138 = .ok (.ldc 99, 2) := by decide +kernel
theorem d_Mo_quoted_140 : decode b_Mo_quoted 140 = .ok (.if_icmp .lt (-130), 3) := by decide +kernel
theorem d_Mo_quoted_143 : decode b_Mo_quoted 143 = .ok (.iload 5, 2) := by decide +kernel
theorem d_Mo_quoted_145 : decode b_Mo_quoted 145 = .ok (.ldc 100, 2) := by decide +kernel
theorem d_Mo_quoted_147 : decode b_Mo_quoted 147 = .ok (.if_icmp .le 6, 3) := by decide +kernel
theorem d_Mo_quoted_150 : decode b_Mo_quoted 150 = .ok (.goto (-140), 3) := by decide +kernel
theorem d_Mo_quoted_153 : decode b_Mo_quoted 153 = .ok (.aload_n 0, 1) := by decide +kernel
theorem d_Mo_quoted_154 : decode b_Mo_quoted 154 = .ok (.getfield 135, 3) := by decide +kernel
theorem d_Mo_quoted_157 : decode b_Mo_quoted 157 = .ok (.aload_n 0, 1) := by decide +kernel
theorem d_Mo_quoted_158 : decode b_Mo_quoted 158 = .ok (.getfield 138, 3) := by decide +kernel
theorem d_Mo_quoted_161 : decode b_Mo_quoted 161 = .ok (.if_icmp .lt 12, 3) := by decide +kernel
theorem d_Mo_quoted_164 : decode b_Mo_quoted 164 = .ok (.aload_n 0, 1) := by decide +kernel
theorem d_Mo_quoted_165 : decode b_Mo_quoted 165 = .ok (.aload_n 0, 1) := by decide +kernel
theorem d_Mo_quoted_166 : decode b_Mo_quoted 166 = .ok (.getfield 138, 3) := by decide +kernel
theorem d_Mo_quoted_169 : decode b_Mo_quoted 169 = .ok (.invokevirtual 151, 3) := by decide +kernel
theorem d_Mo_quoted_172 : decode b_Mo_quoted 172 = .ok (.ireturn, 1) := by decide +kernel
theorem d_Mo_quoted_173 : decode b_Mo_quoted 173 = .ok (.aload_n 0, 1) := by decide +kernel
theorem d_Mo_quoted_174 : decode b_Mo_quoted 174 = .ok (.invokevirtual 147, 3) := by decide +kernel
theorem d_Mo_quoted_177 : decode b_Mo_quoted 177 = .ok (.bipush 92, 2) := by decide +kernel
theorem d_Mo_quoted_179 : decode b_Mo_quoted 179 = .ok (.if_icmp .eq 9, 3) := by decide +kernel
theorem d_Mo_quoted_182 : decode b_Mo_quoted 182 = .ok (.aload_n 0, 1) := by decide +kernel
theorem d_Mo_quoted_183 : decode b_Mo_quoted 183 = .ok (.iload_n 3, 1) := by decide +kernel
theorem d_Mo_quoted_184 : decode b_Mo_quoted 184 = .ok (.invokevirtual 151, 3) := by decide +kernel
theorem d_Mo_quoted_187 : decode b_Mo_quoted 187 = .ok (.ireturn, 1) := by decide +kernel
theorem d_Mo_quoted_188 : decode b_Mo_quoted 188 = .ok (.aload_n 0, 1) := by decide +kernel
theorem d_Mo_quoted_189 : decode b_Mo_quoted 189 = .ok (.getfield 135, 3) := by decide +kernel
theorem d_Mo_quoted_192 : decode b_Mo_quoted 192 = .ok (.iconst 1, 1) := by decide +kernel
theorem d_Mo_quoted_193 : decode b_Mo_quoted 193 = .ok (.iadd, 1) := by decide +kernel
theorem d_Mo_quoted_194 : decode b_Mo_quoted 194 = .ok (.aload_n 0, 1) := by decide +kernel
theorem d_Mo_quoted_195 : decode b_Mo_quoted 195 = .ok (.getfield 138, 3) := by decide +kernel
theorem d_Mo_quoted_198 : decode b_Mo_quoted 198 = .ok (.if_icmp .lt 12, 3) := by decide +kernel
theorem d_Mo_quoted_201 : decode b_Mo_quoted 201 = .ok (.aload_n 0, 1) := by decide +kernel
theorem d_Mo_quoted_202 : decode b_Mo_quoted 202 = .ok (.aload_n 0, 1) := by decide +kernel
theorem d_Mo_quoted_203 : decode b_Mo_quoted 203 = .ok (.getfield 138, 3) := by decide +kernel
theorem d_Mo_quoted_206 : decode b_Mo_quoted 206 = .ok (.invokevirtual 151, 3) := by decide +kernel
theorem d_Mo_quoted_209 : decode b_Mo_quoted 209 = .ok (.ireturn, 1) := by decide +kernel
theorem d_Mo_quoted_210 : decode b_Mo_quoted 210 = .ok (.aload_n 0, 1) := by decide +kernel
theorem d_Mo_quoted_211 : decode b_Mo_quoted 211 = .ok (.getfield 141, 3) := by decide +kernel
theorem d_Mo_quoted_214 : decode b_Mo_quoted 214 = .ok (.aload_n 0, 1) := by decide +kernel
theorem d_Mo_quoted_215 : decode b_Mo_quoted 215 = .ok (.getfield 135, 3) := by decide +kernel
theorem d_Mo_quoted_218 : decode b_Mo_quoted 218 = .ok (.iconst 1, 1) := by decide +kernel
theorem d_Mo_quoted_219 : decode b_Mo_quoted 219 = .ok (.iadd, 1) := by decide +kernel
theorem d_Mo_quoted_220 : decode b_Mo_quoted 220 = .ok (.baload, 1) := by decide +kernel
theorem d_Mo_quoted_221 : decode b_Mo_quoted 221 = .ok (.bipush 117, 2) := by decide +kernel
theorem d_Mo_quoted_223 : decode b_Mo_quoted 223 = .ok (.if_icmp .eq 9, 3) := by decide +kernel
theorem d_Mo_quoted_226 : decode b_Mo_quoted 226 = .ok (.aload_n 0, 1) := by decide +kernel
theorem d_Mo_quoted_227 : decode b_Mo_quoted 227 = .ok (.iload_n 3, 1) := by decide +kernel
theorem d_Mo_quoted_228 : decode b_Mo_quoted 228 = .ok (.invokevirtual 151, 3) := by decide +kernel
theorem d_Mo_quoted_231 : decode b_Mo_quoted 231 = .ok (.ireturn, 1) := by decide +kernel
theorem d_Mo_quoted_232 : decode b_Mo_quoted 232 = .ok (.aload_n 0, 1) := by decide +kernel
theorem d_Mo_quoted_233 : decode b_Mo_quoted 233 = .ok (.iload_n 1, 1) := by decide +kernel
theorem d_Mo_quoted_234 : decode b_Mo_quoted 234 = .ok (.invokevirtual 180, 3) := by decide +kernel
theorem d_Mo_quoted_237 : decode b_Mo_quoted 237 = .ok (.istore 6, 2) := by decide +kernel
theorem d_Mo_quoted_239 : decode b_Mo_quoted 239 = .ok (.iload 6, 2) := by decide +kernel
theorem d_Mo_quoted_241 : decode b_Mo_quoted 241 = .ok (.ifCond .ge 21, 3) := by decide +kernel
theorem d_Mo_quoted_244 : decode b_Mo_quoted 244 = .ok (.aload_n 0, 1) := by decide +kernel
theorem d_Mo_quoted_245 : decode b_Mo_quoted 245 = .ok (.getfield 144, 3) := by decide +kernel
theorem d_Mo_quoted_248 : decode b_Mo_quoted 248 = .ok (.aload_n 0, 1) := by decide +kernel
theorem d_Mo_quoted_249 : decode b_Mo_quoted 249 = .ok (.getfield 138, 3) := by decide +kernel
theorem d_Mo_quoted_252 : decode b_Mo_quoted 252 = .ok (.if_icmp .ge 8, 3) := by decide +kernel
theorem d_Mo_quoted_255 : decode b_Mo_quoted 255 = .ok (.aload_n 0, 1) := by decide +kernel
theorem d_Mo_quoted_256 : decode b_Mo_quoted 256 = .ok (.iload_n 3, 1) := by decide +kernel
theorem d_Mo_quoted_257 : decode b_Mo_quoted 257 = .ok (.putfield 144, 3) := by decide +kernel
theorem d_Mo_quoted_260 : decode b_Mo_quoted 260 = .ok (.iconst 0, 1) := by decide +kernel
theorem d_Mo_quoted_261 : decode b_Mo_quoted 261 = .ok (.ireturn, 1) := by decide +kernel
theorem d_Mo_quoted_262 : decode b_Mo_quoted 262 = .ok (.iload 6, 2) := by decide +kernel
theorem d_Mo_quoted_264 : decode b_Mo_quoted 264 = .ok (.ldc 102, 2) := by decide +kernel
theorem d_Mo_quoted_266 : decode b_Mo_quoted 266 = .ok (.if_icmp .lt 10, 3) := by decide +kernel
theorem d_Mo_quoted_269 : decode b_Mo_quoted 269 = .ok (.iload 6, 2) := by decide +kernel
theorem d_Mo_quoted_271 : decode b_Mo_quoted 271 = .ok (.ldc 183, 2) := by decide +kernel
theorem d_Mo_quoted_273 : decode b_Mo_quoted 273 = .ok (.if_icmp .le 9, 3) := by decide +kernel
theorem d_Mo_quoted_276 : decode b_Mo_quoted 276 = .ok (.aload_n 0, 1) := by decide +kernel
theorem d_Mo_quoted_277 : decode b_Mo_quoted 277 = .ok (.iload_n 3, 1) := by decide +kernel
theorem d_Mo_quoted_278 : decode b_Mo_quoted 278 = .ok (.invokevirtual 151, 3) := by decide +kernel
theorem d_Mo_quoted_281 : decode b_Mo_quoted 281 = .ok (.ireturn, 1) := by decide +kernel
theorem d_Mo_quoted_282 : decode b_Mo_quoted 282 = .ok (.aload_n 2, 1) := by decide +kernel
theorem d_Mo_quoted_283 : decode b_Mo_quoted 283 = .ok (.iload 6, 2) := by decide +kernel
theorem d_Mo_quoted_285 : decode b_Mo_quoted 285 = .ok (.invokevirtual 177, 3) := by decide +kernel
theorem d_Mo_quoted_288 : decode b_Mo_quoted 288 = .ok (.goto (-278), 3) := by decide +kernel
theorem d_Mo_quoted_291 : decode b_Mo_quoted 291 = .ok (.aload_n 0, 1) := by decide +kernel
theorem d_Mo_quoted_292 : decode b_Mo_quoted 292 = .ok (.dup, 1) := by decide +kernel
theorem d_Mo_quoted_293 : decode b_Mo_quoted 293 = .ok (.getfield 135, 3) := by decide +kernel
theorem d_Mo_quoted_296 : decode b_Mo_quoted 296 = .ok (.iconst 1, 1) := by decide +kernel
theorem d_Mo_quoted_297 : decode b_Mo_quoted 297 = .ok (.iadd, 1) := by decide +kernel
theorem d_Mo_quoted_298 : decode b_Mo_quoted 298 = .ok (.putfield 135, 3) := by decide +kernel
theorem d_Mo_quoted_301 : decode b_Mo_quoted 301 = .ok (.iconst 1, 1) := by decide +kernel
theorem d_Mo_quoted_302 : decode b_Mo_quoted 302 = .ok (.ireturn, 1) := by decide +kernel
set_option maxHeartbeats 4000000 in
set_option maxRecDepth 100000 in
/-- the reference: quoted -/
theorem c_Mo_quoted (l : Launch) (dC : Nat → ClassId) (dI : Nat → Nat → Nat) (mo : Nat) (sz : Heap) (v : Nat → Value) (cB cC : ClassId) (qx NN : Nat) (f : Nat → Int32) (n : Nat) (K : Nat → Nat × Nat) (t : Nat) (T : TS) (i : Nat) (br : Int32) (q : Int32) (hnN : n ≤ NN) (hNN : NN ≤ 100000) (hi0 : i ≤ n + 12) (h6 : v 6 = .ref qx) (h8 : v 8 = .int (nI n)) (hq34 : 0 ≤ q) (hT : TOK T) (hcp : T.us + (n + 12 - i) ≤ 400000) : Met l y_Mo_quoted (k_Mo_quoted :: gtbl) ({ frames := 5, cells := qcap T (T.us + (n + 12 - i)), slots := 2 * qcap T (T.us + (n + 12 - i)), locals := 140 }) (va_Pc [.ref mo, .int q, .ref t] (me K dC dI [(mo, .inr (13, MF 30 (rf v i br))), (qx, .inl (cB, NN, .inl f)), (t, .inr (12, MF 13 (tw T))), (T.au, .inl (cC, T.U, .inl T.un))] [(cB, .byte), (cC, .char)] sz)) (va_Qi (fun (r : Int32) (u : TS × List Int32 × Nat × Int32) => TX T u.1 u.2.1 ∧ ((r = 1 ∧ qtQ f n q i = some (u.2.1, u.2.2.1) ∧ u.2.2.1 ≤ n ∧ u.2.1.length + i + 2 ≤ u.2.2.1) ∨ (r = 0 ∧ qtQ f n q i = none ∧ u.2.1.length ≤ n + 12 - i ∧ u.2.2.1 ≤ n + 30))) (fun u t9 => mz dC dI [(mo, .inr (13, MF 30 (rf v u.2.2.1 u.2.2.2))), (qx, .inl (cB, NN, .inl f)), (t, .inr (12, MF 13 (tw u.1))), (u.1.au, .inl (cC, u.1.U, .inl u.1.un))] [(cB, .byte), (cC, .char)] (va_A [(mo, .inr (13, MF 30 (rf v i br))), (qx, .inl (cB, NN, .inl f)), (t, .inr (12, MF 13 (tw T))), (T.au, .inl (cC, T.U, .inl T.un))] sz.size) t9 ∧ szk sz t9.heap (u.1.U - T.U) (2 * (u.1.U - T.U))) (va_A [(mo, .inr (13, MF 30 (rf v i br))), (qx, .inl (cB, NN, .inl f)), (t, .inr (12, MF 13 (tw T))), (T.au, .inl (cC, T.U, .inl T.un))] sz.size)) (qcap T (T.us + (n + 12 - i))) (2 * qcap T (T.us + (n + 12 - i))) (va_A [(mo, .inr (13, MF 30 (rf v i br))), (qx, .inl (cB, NN, .inl f)), (t, .inr (12, MF 13 (tw T))), (T.au, .inl (cC, T.U, .inl T.un))] sz.size) := by
  refine Met.ofW (cc := b_Mo_quoted) (maxL := 7) (ret := (some .boolean)) (by decide) rfl ?_
  intro p e s m args below meth c s₁ B hml hv
  obtain ⟨rfl, ⟨hsz, hP, hK, hD0⟩, hM⟩ := hv
  have hx := B.exec
  have hb := B.bytes
  have hr := B.returns
  have hts0 := atoms_spec (ws := k_Mo_quoted :: gtbl) B.pre
  have hts := fun w h => hts0 w (List.mem_cons_of_mem _ h)
  have hown : s.vm.findClass R_Mo = some m.cls := findClass_of_methodNamed B.named
  have hlocks := B.notSynchronized
  subst hsz
  have hD := hD0.self (sz := s.heap.size)
  generalize hAe : va_A [(mo, .inr (13, MF 30 (rf v i br))), (qx, .inl (cB, NN, .inl f)), (t, .inr (12, MF 13 (tw T))), (T.au, .inl (cC, T.U, .inl T.un))] s.heap.size = A at hD hM ⊢
  have hA : ∀ q : Nat, s.heap.size ≤ q → A q := fun q h => by rw [← hAe]; exact Or.inr h
  have hS : va_S A s.heap s.heap [] := va_S.rf
  have hP : va_P (dC, dI) classes [(mo, .inr (13, MF 30 (rf v i br))), (qx, .inl (cB, NN, .inl f)), (t, .inr (12, MF 13 (tw T))), (T.au, .inl (cC, T.U, .inl T.un))] s.heap := hP
  have hl := lv_entry ([.ref mo, .int q, .ref t]) (n := 7) (Nat.le_of_ble_eq_true rfl)
  rw [lg_entry_eq]
  generalize (lg_sl ([.ref mo, .int q, .ref t]) ++ List.replicate (7 - (lg_sl ([.ref mo, .int q, .ref t])).length) Slot.unset).toArray = ls at hl ⊢
  have hl : lv_has ls 7 [(0, .ref mo), (1, .int q), (2, .ref t)] := hl
  have hT0 := hT
  obtain ⟨ho1, ho2, ho3, ho4, ho5, ho6, ho7⟩ := hT
  refine lv_aload_n hx hb d_Mo_quoted_0 rfl (lv_at hl 0 rfl) ?_
  refine lv_iload_n hx hb d_Mo_quoted_1 rfl (lv_at hl 1 rfl) ?_
  have hPc := hP.sub (ws' := [(mo, .inr (13, MF 30 (rf v i br))), (qx, .inl (cB, NN, .inl f))]) [0, 1] rfl
  have hDc := hD.sub (ws' := [(mo, .inr (13, MF 30 (rf v i br))), (qx, .inl (cB, NN, .inl f))]) [0, 1] (by decide) rfl
  have hKc := hK.sub (tys' := [(cB, .byte)]) [0] rfl
  have hFc := va_free (wc := [(mo, .inr (13, MF 30 (rf v i br))), (qx, .inl (cB, NN, .inl f))]) hD hS hA [0, 1] rfl
  refine va_calli (va_runV (As := [.int q]) (rest := []) ⟨hx, hb, hml, hown, hts⟩ (c_Mo_take l dC dI mo s.heap (rf v i br) cB qx NN f n i (by omega) (by omega) (by omega) ((rf_ne (by decide) (by decide)).trans h6) rf_7 ((rf_ne (by decide) (by decide)).trans h8) br rf_9 q) (cwV 1 hts (gt_V (own := R_Mo) (C := R_Mo) (i := 163) (y := y_Mo_take) i_Mo_take w_1246 w_1248 (gt_sel (y := y_Mo_take) (n := 30) (by decide +kernel)) w_7) rfl rfl rfl (by decide +kernel) ⟨Nat.le_of_ble_eq_true rfl, Nat.le_of_ble_eq_true rfl⟩) ⟨mp_blind, va_recv hKc hPc (ci := 13) (q0 := 0) rfl rfl, fun U hU hW => ⟨rfl, hU, by rw [hU]; exact hPc, va_K.moved hW.alike hKc, hDc.weaken (fun _ _ _ _ => trivial)⟩⟩ rfl rfl hl.1 rfl (lv_room (Nat.le_of_ble_eq_true rfl)) d_Mo_quoted_2 ⟨Nat.zero_le _, Nat.zero_le _⟩) hS (fun q _ h => hFc q h) hFc (fun r0 u2 t9 H1 locs ht hvm hw hB hz1 hk1 hS => ?_)
  obtain ⟨hP1, hK1, hD1⟩ := hB
  rw [ht] at hP1
  obtain ⟨hP, hD⟩ := va_join (wr := [(t, .inr (12, MF 13 (tw T))), (T.au, .inl (cC, T.U, .inl T.un))]) (w1 := [(mo, .inr (13, MF 30 u2)), (qx, .inl (cB, NN, .inl f))]) hP hD [0, 1] [2, 3] rfl rfl (by decide) (by decide) hk1 hFc hP1 hD1
  generalize H1 = H at hP hS ⊢
  have hP : va_P (dC, dI) classes [(t, .inr (12, MF 13 (tw T))), (T.au, .inl (cC, T.U, .inl T.un)), (mo, .inr (13, MF 30 u2)), (qx, .inl (cB, NN, .inl f))] H := hP
  have hD : va_D A [(t, .inr (12, MF 13 (tw T))), (T.au, .inl (cC, T.U, .inl T.un)), (mo, .inr (13, MF 30 u2)), (qx, .inl (cB, NN, .inl f))] := hD
  have hP := hP.sub (ws' := [(mo, .inr (13, MF 30 u2)), (qx, .inl (cB, NN, .inl f)), (t, .inr (12, MF 13 (tw T))), (T.au, .inl (cC, T.U, .inl T.un))]) [2, 3, 0, 1] rfl
  have hD := hD.sub (ws' := [(mo, .inr (13, MF 30 u2)), (qx, .inl (cB, NN, .inl f)), (t, .inr (12, MF 13 (tw T))), (T.au, .inl (cC, T.U, .inl T.un))]) [2, 3, 0, 1] (by decide) rfl
  rcases hw with ⟨ht1, ht2, ht3⟩ | ⟨ht1, ht2, ht3⟩
  · rw [rf_u7] at ht3
    rw [ht3] at hP hD
    subst ht2
    have hP : va_P (dC, dI) classes [(mo, .inr (13, MF 30 (rf v (i + 1) br))), (qx, .inl (cB, NN, .inl f)), (t, .inr (12, MF 13 (tw T))), (T.au, .inl (cC, T.U, .inl T.un))] H := hP
    have hD : va_D A [(mo, .inr (13, MF 30 (rf v (i + 1) br))), (qx, .inl (cB, NN, .inl f)), (t, .inr (12, MF 13 (tw T))), (T.au, .inl (cC, T.U, .inl T.un))] := hD
    refine lv_if_ne (tgt := 10) hx hb d_Mo_quoted_5 (by decide) (fun _ => ?_) (fun h => absurd h (by decide))
    have hi9 : i < n := Classical.byContradiction (fun hn => by unfold hereV at ht1; rw [if_neg hn] at ht1; rw [← ht1] at hq34; revert hq34; decide)
    have hqQ : qtQ f n q i = qtM f n q (n + 13) (i + 1) [] := by unfold qtQ; rw [if_pos ht1]
    refine w_same (fun hq => ?_)
    refine W.widen (k := qcap T (T.us + (n + 12 - i))) (n := 2 * qcap T (T.us + (n + 12 - i))) (Nat.zero_le _) (Nat.zero_le _) ?_
    refine w_loopH (D := (dC, dI)) (cl := classes) (A := A) (H0 := s.heap) (nL := 7) 10 (σ := TS × List Int32 × Nat × Nat × Int32) (fun ⟨Tc, us, k, j, b⟩ H => TX T Tc us ∧ us.length + (i + 1) ≤ j ∧ j ≤ n + 12 ∧ n + 13 ≤ k + j ∧ qtM f n q k j us = qtM f n q (n + 13) (i + 1) [] ∧ szk s.heap H (Tc.U - T.U) (2 * (Tc.U - T.U))) (fun ⟨Tc, us, k, j, b⟩ => n + 13 - j) (fun ⟨Tc, us, k, j, b⟩ => [(mo, .inr (13, MF 30 (rf v j b))), (qx, .inl (cB, NN, .inl f)), (t, .inr (12, MF 13 (tw Tc))), (Tc.au, .inl (cC, Tc.U, .inl Tc.un))]) (fun ⟨Tc, us, k, j, b⟩ => [(0, .ref mo), (1, .int q), (2, .ref t)]) ?_ (T, [], n + 13, i + 1, br) ⟨TX.rf hT0, Nat.le_of_eq (by simp), by omega, by omega, rfl, hq.mono (Nat.zero_le _) (Nat.zero_le _)⟩ hP hD hS (lv_sub hl [0, 1, 2] rfl)
    rintro ⟨Tc, us, k, j, b⟩ H locs ls hI ih hP hD hS hl
    have hP : va_P (dC, dI) classes [(mo, .inr (13, MF 30 (rf v j b))), (qx, .inl (cB, NN, .inl f)), (t, .inr (12, MF 13 (tw Tc))), (Tc.au, .inl (cC, Tc.U, .inl Tc.un))] H := hP
    have hD : va_D A [(mo, .inr (13, MF 30 (rf v j b))), (qx, .inl (cB, NN, .inl f)), (t, .inr (12, MF 13 (tw Tc))), (Tc.au, .inl (cC, Tc.U, .inl Tc.un))] := hD
    have hl : lv_has ls 7 [(0, .ref mo), (1, .int q), (2, .ref t)] := hl
    obtain ⟨hTX, hI1, hI2, hI3, hI4, hI5⟩ := hI
    refine w_tight hI5 ?_
    have hTc := hTX.ok hT0 (by omega)
    obtain ⟨k0, hk0⟩ : ∃ k0, k = k0 + 1 := ⟨k - 1, by omega⟩
    have hcap := q_cap hTX (B := (T.us + (n + 12 - i))) (by omega)
    have hcap2 : 2 * (Tc.U - T.U) ≤ 2 * qcap T (T.us + (n + 12 - i)) := by omega
    refine lv_aload_n hx hb d_Mo_quoted_10 rfl (lv_at hl 0 rfl) ?_
    have hPc := hP.sub (ws' := [(mo, .inr (13, MF 30 (rf v j b))), (qx, .inl (cB, NN, .inl f))]) [0, 1] rfl
    have hDc := hD.sub (ws' := [(mo, .inr (13, MF 30 (rf v j b))), (qx, .inl (cB, NN, .inl f))]) [0, 1] (by decide) rfl
    have hKc := hK.sub (tys' := [(cB, .byte)]) [0] rfl
    have hFc := va_free (wc := [(mo, .inr (13, MF 30 (rf v j b))), (qx, .inl (cB, NN, .inl f))]) hD hS hA [0, 1] rfl
    refine va_calli (va_runV (As := []) (rest := []) ⟨hx, hb, hml, hown, hts⟩ (c_Mo_c l dC dI mo H (rf v j b) cB qx NN f n j (by omega) (by omega) (by omega) ((rf_ne (by decide) (by decide)).trans h6) rf_7 ((rf_ne (by decide) (by decide)).trans h8)) (cwV 0 hts (gt_V (own := R_Mo) (C := R_Mo) (i := 147) (y := y_Mo_c) i_Mo_c w_1233 w_1235 (gt_sel (y := y_Mo_c) (n := 30) (by decide +kernel)) w_7) rfl rfl rfl (by decide +kernel) ⟨Nat.le_of_ble_eq_true rfl, Nat.le_of_ble_eq_true rfl⟩) ⟨mp_blind, va_recv hKc hPc (ci := 13) (q0 := 0) rfl rfl, fun U hU hW => ⟨rfl, hU, by rw [hU]; exact hPc, va_K.moved hW.alike hKc, hDc.weaken (fun _ _ _ _ => trivial)⟩⟩ rfl rfl hl.1 rfl (lv_room (Nat.le_of_ble_eq_true rfl)) d_Mo_quoted_11 ⟨hcap, hcap2⟩) hS (fun q _ h => hFc q h) hFc (fun r1 _u t9 H1 locs ht hvm hw hB hz1 hk1 hS => ?_)
    obtain ⟨hP1, hK1, hD1⟩ := hB
    rw [ht] at hP1
    obtain ⟨hP, hD⟩ := va_join (wr := [(t, .inr (12, MF 13 (tw Tc))), (Tc.au, .inl (cC, Tc.U, .inl Tc.un))]) (w1 := [(mo, .inr (13, MF 30 (rf v j b))), (qx, .inl (cB, NN, .inl f))]) hP hD [0, 1] [2, 3] rfl rfl (by decide) (by decide) hk1 hFc hP1 hD1
    generalize H1 = H at hP hS ⊢
    have hP : va_P (dC, dI) classes [(t, .inr (12, MF 13 (tw Tc))), (Tc.au, .inl (cC, Tc.U, .inl Tc.un)), (mo, .inr (13, MF 30 (rf v j b))), (qx, .inl (cB, NN, .inl f))] H := hP
    have hD : va_D A [(t, .inr (12, MF 13 (tw Tc))), (Tc.au, .inl (cC, Tc.U, .inl Tc.un)), (mo, .inr (13, MF 30 (rf v j b))), (qx, .inl (cB, NN, .inl f))] := hD
    have hP := hP.sub (ws' := [(mo, .inr (13, MF 30 (rf v j b))), (qx, .inl (cB, NN, .inl f)), (t, .inr (12, MF 13 (tw Tc))), (Tc.au, .inl (cC, Tc.U, .inl Tc.un))]) [2, 3, 0, 1] rfl
    have hD := hD.sub (ws' := [(mo, .inr (13, MF 30 (rf v j b))), (qx, .inl (cB, NN, .inl f)), (t, .inr (12, MF 13 (tw Tc))), (Tc.au, .inl (cC, Tc.U, .inl Tc.un))]) [2, 3, 0, 1] (by decide) rfl
    have h_r1 : r1 = hereV f n j := hw
    refine lv_iload_n hx hb d_Mo_quoted_14 rfl (lv_at hl 1 rfl) ?_
    refine lv_icmp_eq (tgt := 291) hx hb d_Mo_quoted_15 (by decide) (fun c15 => ?_) (fun c15 => ?_)
    · refine lv_aload_n hx hb d_Mo_quoted_291 rfl (lv_at hl 0 rfl) ?_
      refine lv_dup hx hb d_Mo_quoted_292 rfl ?_
      refine va_get (D := (dC, dI)) (ci := 13) (v := .int (nI j)) (C := R_Mo) (T := F_Mo) (N := 30) hx hb hts in_Mo hown hK hP 0 rfl rfl 7 (by decide) (hts _ w_1096) (fun _ h9 => h9) (MFg (by decide) rf_7) d_Mo_quoted_293 ?_
      refine lv_iconst (v := 1) hx hb d_Mo_quoted_296 (by decide) ?_
      refine lv_iadd hx hb d_Mo_quoted_297 ?_
      refine W.eq (g2 := F0 m 298 ls [.int (nI (j + 1)), .ref mo]) (by rw [show ((nI j) + 1) = (nI (j + 1)) from nI_1 _]) ?_
      refine va_put (D := (dC, dI)) (ci := 13) (v := .int (nI (j + 1))) (ty := .int) (C := R_Mo) (T := F_Mo) (N := 30) hx hb hts in_Mo t_Mo t_Mo_ok n_Mo hown hK hP hD hS 0 rfl rfl 7 (by decide) (hts _ w_1096) (fun _ h9 => h9) rfl (by decide +kernel) rfl rfl (by rw [MFl]; decide) d_Mo_quoted_298 (fun H locs hP hD hS => ?_)
      rw [MFs (n := 30) (k := 7) (by decide)] at hP hD
      have hP : va_P (dC, dI) classes [(mo, .inr (13, MF 30 (va_up (rf v j b) 7 (.int (nI (j + 1)))))), (qx, .inl (cB, NN, .inl f)), (t, .inr (12, MF 13 (tw Tc))), (Tc.au, .inl (cC, Tc.U, .inl Tc.un))] H := hP
      have hD : va_D A [(mo, .inr (13, MF 30 (va_up (rf v j b) 7 (.int (nI (j + 1)))))), (qx, .inl (cB, NN, .inl f)), (t, .inr (12, MF 13 (tw Tc))), (Tc.au, .inl (cC, Tc.U, .inl Tc.un))] := hD
      rw [rf_u7] at hP hD
      have hP : va_P (dC, dI) classes [(mo, .inr (13, MF 30 (rf v (j + 1) b))), (qx, .inl (cB, NN, .inl f)), (t, .inr (12, MF 13 (tw Tc))), (Tc.au, .inl (cC, Tc.U, .inl Tc.un))] H := hP
      have hD : va_D A [(mo, .inr (13, MF 30 (rf v (j + 1) b))), (qx, .inl (cB, NN, .inl f)), (t, .inr (12, MF 13 (tw Tc))), (Tc.au, .inl (cC, Tc.U, .inl Tc.un))] := hD
      refine lv_iconst (v := 1) hx hb d_Mo_quoted_301 (by decide) ?_
      have hfin : qtM f n q (n + 13) (i + 1) [] = some (us, j + 1) := by
        rw [← hI4, hk0]
        simp only [qtM]
        rw [if_pos (h_r1.symm.trans c15)]
      have hjn : j < n := Classical.byContradiction (fun hn => by have h9 := h_r1.symm.trans c15; unfold hereV at h9; rw [if_neg hn] at h9; rw [← h9] at hq34; revert hq34; decide)
      refine w_same (fun hq => ?_)
      refine W.widen (k := qcap T (T.us + (n + 12 - i))) (n := 2 * qcap T (T.us + (n + 12 - i))) (by omega) (by omega) ?_
      exact W.zret (v := 1) hx hb hr rfl (fun t9 ht hW => ⟨⟨1, (Tc, us, (j + 1), b), rfl, ⟨hTX, Or.inl ⟨rfl, hqQ.trans hfin, by show j + 1 ≤ n; omega, by show us.length + i + 2 ≤ j + 1; omega⟩⟩, ⟨by rw [ht]; exact hP, va_K.moved hW.alike hK, hD⟩, by rw [ht]; exact hq.mono (Nat.le_refl _) (Nat.le_refl _)⟩, hS.F ht⟩) hS.2.2 d_Mo_quoted_302
    · refine lv_aload_n hx hb d_Mo_quoted_18 rfl (lv_at hl 0 rfl) ?_
      refine va_get (D := (dC, dI)) (ci := 13) (v := .int (nI j)) (C := R_Mo) (T := F_Mo) (N := 30) hx hb hts in_Mo hown hK hP 0 rfl rfl 7 (by decide) (hts _ w_1096) (fun _ h9 => h9) (MFg (by decide) rf_7) d_Mo_quoted_19 ?_
      refine lv_istore_n (lv' := [(3, .int (nI j)), (0, .ref mo), (1, .int q), (2, .ref t)]) hx hb d_Mo_quoted_22 rfl hl (by decide) rfl (fun ls hl => ?_)
      refine lv_aload_n hx hb d_Mo_quoted_23 rfl (lv_at hl 1 rfl) ?_
      have hPc := hP.sub (ws' := [(mo, .inr (13, MF 30 (rf v j b))), (qx, .inl (cB, NN, .inl f))]) [0, 1] rfl
      have hDc := hD.sub (ws' := [(mo, .inr (13, MF 30 (rf v j b))), (qx, .inl (cB, NN, .inl f))]) [0, 1] (by decide) rfl
      have hKc := hK.sub (tys' := [(cB, .byte)]) [0] rfl
      have hFc := va_free (wc := [(mo, .inr (13, MF 30 (rf v j b))), (qx, .inl (cB, NN, .inl f))]) hD hS hA [0, 1] rfl
      refine va_calli (va_runV (As := []) (rest := []) ⟨hx, hb, hml, hown, hts⟩ (c_Mo_c l dC dI mo H (rf v j b) cB qx NN f n j (by omega) (by omega) (by omega) ((rf_ne (by decide) (by decide)).trans h6) rf_7 ((rf_ne (by decide) (by decide)).trans h8)) (cwV 0 hts (gt_V (own := R_Mo) (C := R_Mo) (i := 147) (y := y_Mo_c) i_Mo_c w_1233 w_1235 (gt_sel (y := y_Mo_c) (n := 30) (by decide +kernel)) w_7) rfl rfl rfl (by decide +kernel) ⟨Nat.le_of_ble_eq_true rfl, Nat.le_of_ble_eq_true rfl⟩) ⟨mp_blind, va_recv hKc hPc (ci := 13) (q0 := 0) rfl rfl, fun U hU hW => ⟨rfl, hU, by rw [hU]; exact hPc, va_K.moved hW.alike hKc, hDc.weaken (fun _ _ _ _ => trivial)⟩⟩ rfl rfl hl.1 rfl (lv_room (Nat.le_of_ble_eq_true rfl)) d_Mo_quoted_24 ⟨hcap, hcap2⟩) hS (fun q _ h => hFc q h) hFc (fun r2 _u t9 H1 locs ht hvm hw hB hz1 hk1 hS => ?_)
      obtain ⟨hP1, hK1, hD1⟩ := hB
      rw [ht] at hP1
      obtain ⟨hP, hD⟩ := va_join (wr := [(t, .inr (12, MF 13 (tw Tc))), (Tc.au, .inl (cC, Tc.U, .inl Tc.un))]) (w1 := [(mo, .inr (13, MF 30 (rf v j b))), (qx, .inl (cB, NN, .inl f))]) hP hD [0, 1] [2, 3] rfl rfl (by decide) (by decide) hk1 hFc hP1 hD1
      generalize H1 = H at hP hS ⊢
      have hP : va_P (dC, dI) classes [(t, .inr (12, MF 13 (tw Tc))), (Tc.au, .inl (cC, Tc.U, .inl Tc.un)), (mo, .inr (13, MF 30 (rf v j b))), (qx, .inl (cB, NN, .inl f))] H := hP
      have hD : va_D A [(t, .inr (12, MF 13 (tw Tc))), (Tc.au, .inl (cC, Tc.U, .inl Tc.un)), (mo, .inr (13, MF 30 (rf v j b))), (qx, .inl (cB, NN, .inl f))] := hD
      have hP := hP.sub (ws' := [(mo, .inr (13, MF 30 (rf v j b))), (qx, .inl (cB, NN, .inl f)), (t, .inr (12, MF 13 (tw Tc))), (Tc.au, .inl (cC, Tc.U, .inl Tc.un))]) [2, 3, 0, 1] rfl
      have hD := hD.sub (ws' := [(mo, .inr (13, MF 30 (rf v j b))), (qx, .inl (cB, NN, .inl f)), (t, .inr (12, MF 13 (tw Tc))), (Tc.au, .inl (cC, Tc.U, .inl Tc.un))]) [2, 3, 0, 1] (by decide) rfl
      have h_r2 : r2 = hereV f n j := hw
      refine lv_istore (lv' := [(4, .int r2), (3, .int (nI j)), (0, .ref mo), (1, .int q), (2, .ref t)]) hx hb d_Mo_quoted_27 hl (by decide) rfl (fun ls hl => ?_)
      refine lv_iload hx hb d_Mo_quoted_29 (lv_at hl 0 rfl) ?_
      refine lv_bipush (v := 32) hx hb d_Mo_quoted_31 (by decide) ?_
      refine lv_icmp_lt (tgt := 43) hx hb d_Mo_quoted_33 (by decide) (fun c33 => ?_) (fun c33 => ?_)
      · refine lv_aload_n hx hb d_Mo_quoted_43 rfl (lv_at hl 2 rfl) ?_
        refine lv_aload_n hx hb d_Mo_quoted_44 rfl (lv_at hl 2 rfl) ?_
        refine va_get (D := (dC, dI)) (ci := 13) (v := .int (nI j)) (C := R_Mo) (T := F_Mo) (N := 30) hx hb hts in_Mo hown hK hP 0 rfl rfl 7 (by decide) (hts _ w_1096) (fun _ h9 => h9) (MFg (by decide) rf_7) d_Mo_quoted_45 ?_
        refine lv_aload_n hx hb d_Mo_quoted_48 rfl (lv_at hl 2 rfl) ?_
        refine va_get (D := (dC, dI)) (ci := 13) (v := .int (nI n)) (C := R_Mo) (T := F_Mo) (N := 30) hx hb hts in_Mo hown hK hP 0 rfl rfl 8 (by decide) (hts _ w_1097) (fun _ h9 => h9) (MFg (by decide) ((rf_ne (by decide) (by decide)).trans h8)) d_Mo_quoted_49 ?_
        refine lv_icmp_lt (tgt := 62) hx hb d_Mo_quoted_52 (by decide) (fun c52 => ?_) (fun c52 => ?_)
        · refine lv_aload_n hx hb d_Mo_quoted_62 rfl (lv_at hl 2 rfl) ?_
          refine va_get (D := (dC, dI)) (ci := 13) (v := .int (nI j)) (C := R_Mo) (T := F_Mo) (N := 30) hx hb hts in_Mo hown hK hP 0 rfl rfl 7 (by decide) (hts _ w_1096) (fun _ h9 => h9) (MFg (by decide) rf_7) d_Mo_quoted_63 ?_
          have hPc := hP.sub (ws' := [(mo, .inr (13, MF 30 (rf v j b)))]) [0] rfl
          have hDc := hD.sub (ws' := [(mo, .inr (13, MF 30 (rf v j b)))]) [0] (by decide) rfl
          have hKc := hK.sub (tys' := []) [] rfl
          have hFc := va_free (wc := [(mo, .inr (13, MF 30 (rf v j b)))]) hD hS hA [0] rfl
          refine va_calli (va_runV (As := [.int (nI j)]) (rest := []) ⟨hx, hb, hml, hown, hts⟩ (c_Mo_fail l dC dI mo H (rf v j b) b ((nI j)) rf_9) (cwV 1 hts (gt_V (own := R_Mo) (C := R_Mo) (i := 151) (y := y_Mo_fail) i_Mo_fail w_1250 w_1252 (gt_sel (y := y_Mo_fail) (n := 30) (by decide +kernel)) w_7) rfl rfl rfl (by decide +kernel) ⟨Nat.le_of_ble_eq_true rfl, Nat.le_of_ble_eq_true rfl⟩) ⟨mp_blind, va_recv hKc hPc (ci := 13) (q0 := 0) rfl rfl, fun U hU hW => ⟨rfl, hU, by rw [hU]; exact hPc, va_K.moved hW.alike hKc, hDc.weaken (fun _ _ _ _ => trivial)⟩⟩ rfl rfl hl.1 rfl (lv_room (Nat.le_of_ble_eq_true rfl)) d_Mo_quoted_66 ⟨hcap, hcap2⟩) hS (fun q _ h => hFc q h) hFc (fun r0 u2 t9 H1 locs ht hvm hw hB hz1 hk1 hS => ?_)
          obtain ⟨hP1, hK1, hD1⟩ := hB
          rw [ht] at hP1
          obtain ⟨hP, hD⟩ := va_join (wr := [(qx, .inl (cB, NN, .inl f)), (t, .inr (12, MF 13 (tw Tc))), (Tc.au, .inl (cC, Tc.U, .inl Tc.un))]) (w1 := [(mo, .inr (13, MF 30 u2))]) hP hD [0] [1, 2, 3] rfl rfl (by decide) (by decide) hk1 hFc hP1 hD1
          generalize H1 = H at hP hS ⊢
          have hP : va_P (dC, dI) classes [(qx, .inl (cB, NN, .inl f)), (t, .inr (12, MF 13 (tw Tc))), (Tc.au, .inl (cC, Tc.U, .inl Tc.un)), (mo, .inr (13, MF 30 u2))] H := hP
          have hD : va_D A [(qx, .inl (cB, NN, .inl f)), (t, .inr (12, MF 13 (tw Tc))), (Tc.au, .inl (cC, Tc.U, .inl Tc.un)), (mo, .inr (13, MF 30 u2))] := hD
          have hP := hP.sub (ws' := [(mo, .inr (13, MF 30 u2)), (qx, .inl (cB, NN, .inl f)), (t, .inr (12, MF 13 (tw Tc))), (Tc.au, .inl (cC, Tc.U, .inl Tc.un))]) [3, 0, 1, 2] rfl
          have hD := hD.sub (ws' := [(mo, .inr (13, MF 30 u2)), (qx, .inl (cB, NN, .inl f)), (t, .inr (12, MF 13 (tw Tc))), (Tc.au, .inl (cC, Tc.U, .inl Tc.un))]) [3, 0, 1, 2] (by decide) rfl
          obtain ⟨b7, h_b7⟩ := rf_fail (v := v) (i := j) (br := b) (b2 := b) (wh := (nI j))
          have hw : r0 = 0 ∧ u2 = _ := hw
          obtain ⟨hw1, hw2⟩ := hw
          rw [h_b7] at hw2
          rw [hw2] at hP hD
          subst hw1
          have hP : va_P (dC, dI) classes [(mo, .inr (13, MF 30 (rf v j b7))), (qx, .inl (cB, NN, .inl f)), (t, .inr (12, MF 13 (tw Tc))), (Tc.au, .inl (cC, Tc.U, .inl Tc.un))] H := hP
          have hD : va_D A [(mo, .inr (13, MF 30 (rf v j b7))), (qx, .inl (cB, NN, .inl f)), (t, .inr (12, MF 13 (tw Tc))), (Tc.au, .inl (cC, Tc.U, .inl Tc.un))] := hD
          have hfin : qtM f n q (n + 13) (i + 1) [] = none := by
            rw [← hI4, hk0]
            simp only [qtM]
            rw [if_neg (fun h => c15 (h_r1.trans h)), if_pos (Or.inl (by rw [← h_r2]; exact c33))]
          have hcp3 := q_cap hTX (B := (T.us + (n + 12 - i))) (by first | omega | (simp only [List.length_append, List.length_singleton]; omega))
          refine w_same (fun hq => ?_)
          refine W.widen (k := qcap T (T.us + (n + 12 - i))) (n := 2 * qcap T (T.us + (n + 12 - i))) (by omega) (by omega) ?_
          exact W.zret (v := 0) hx hb hr rfl (fun t9 ht hW => ⟨⟨0, (Tc, us, j, b7), rfl, ⟨hTX, Or.inr ⟨rfl, hqQ.trans hfin, by show (us).length ≤ n + 12 - i; first | omega | (simp only [List.length_append, List.length_singleton]; omega), by show j ≤ n + 30; omega⟩⟩, ⟨by rw [ht]; exact hP, va_K.moved hW.alike hK, hD⟩, by rw [ht]; exact hq.mono (Nat.le_refl _) (Nat.le_refl _)⟩, hS.F ht⟩) hS.2.2 d_Mo_quoted_69
        · refine lv_aload_n hx hb d_Mo_quoted_55 rfl (lv_at hl 2 rfl) ?_
          refine va_get (D := (dC, dI)) (ci := 13) (v := .int (nI n)) (C := R_Mo) (T := F_Mo) (N := 30) hx hb hts in_Mo hown hK hP 0 rfl rfl 8 (by decide) (hts _ w_1097) (fun _ h9 => h9) (MFg (by decide) ((rf_ne (by decide) (by decide)).trans h8)) d_Mo_quoted_56 ?_
          refine lv_goto (tgt := 66) hx hb d_Mo_quoted_59 (by decide) ?_
          have hPc := hP.sub (ws' := [(mo, .inr (13, MF 30 (rf v j b)))]) [0] rfl
          have hDc := hD.sub (ws' := [(mo, .inr (13, MF 30 (rf v j b)))]) [0] (by decide) rfl
          have hKc := hK.sub (tys' := []) [] rfl
          have hFc := va_free (wc := [(mo, .inr (13, MF 30 (rf v j b)))]) hD hS hA [0] rfl
          refine va_calli (va_runV (As := [.int (nI n)]) (rest := []) ⟨hx, hb, hml, hown, hts⟩ (c_Mo_fail l dC dI mo H (rf v j b) b ((nI n)) rf_9) (cwV 1 hts (gt_V (own := R_Mo) (C := R_Mo) (i := 151) (y := y_Mo_fail) i_Mo_fail w_1250 w_1252 (gt_sel (y := y_Mo_fail) (n := 30) (by decide +kernel)) w_7) rfl rfl rfl (by decide +kernel) ⟨Nat.le_of_ble_eq_true rfl, Nat.le_of_ble_eq_true rfl⟩) ⟨mp_blind, va_recv hKc hPc (ci := 13) (q0 := 0) rfl rfl, fun U hU hW => ⟨rfl, hU, by rw [hU]; exact hPc, va_K.moved hW.alike hKc, hDc.weaken (fun _ _ _ _ => trivial)⟩⟩ rfl rfl hl.1 rfl (lv_room (Nat.le_of_ble_eq_true rfl)) d_Mo_quoted_66 ⟨hcap, hcap2⟩) hS (fun q _ h => hFc q h) hFc (fun r0 u2 t9 H1 locs ht hvm hw hB hz1 hk1 hS => ?_)
          obtain ⟨hP1, hK1, hD1⟩ := hB
          rw [ht] at hP1
          obtain ⟨hP, hD⟩ := va_join (wr := [(qx, .inl (cB, NN, .inl f)), (t, .inr (12, MF 13 (tw Tc))), (Tc.au, .inl (cC, Tc.U, .inl Tc.un))]) (w1 := [(mo, .inr (13, MF 30 u2))]) hP hD [0] [1, 2, 3] rfl rfl (by decide) (by decide) hk1 hFc hP1 hD1
          generalize H1 = H at hP hS ⊢
          have hP : va_P (dC, dI) classes [(qx, .inl (cB, NN, .inl f)), (t, .inr (12, MF 13 (tw Tc))), (Tc.au, .inl (cC, Tc.U, .inl Tc.un)), (mo, .inr (13, MF 30 u2))] H := hP
          have hD : va_D A [(qx, .inl (cB, NN, .inl f)), (t, .inr (12, MF 13 (tw Tc))), (Tc.au, .inl (cC, Tc.U, .inl Tc.un)), (mo, .inr (13, MF 30 u2))] := hD
          have hP := hP.sub (ws' := [(mo, .inr (13, MF 30 u2)), (qx, .inl (cB, NN, .inl f)), (t, .inr (12, MF 13 (tw Tc))), (Tc.au, .inl (cC, Tc.U, .inl Tc.un))]) [3, 0, 1, 2] rfl
          have hD := hD.sub (ws' := [(mo, .inr (13, MF 30 u2)), (qx, .inl (cB, NN, .inl f)), (t, .inr (12, MF 13 (tw Tc))), (Tc.au, .inl (cC, Tc.U, .inl Tc.un))]) [3, 0, 1, 2] (by decide) rfl
          obtain ⟨b7, h_b7⟩ := rf_fail (v := v) (i := j) (br := b) (b2 := b) (wh := (nI n))
          have hw : r0 = 0 ∧ u2 = _ := hw
          obtain ⟨hw1, hw2⟩ := hw
          rw [h_b7] at hw2
          rw [hw2] at hP hD
          subst hw1
          have hP : va_P (dC, dI) classes [(mo, .inr (13, MF 30 (rf v j b7))), (qx, .inl (cB, NN, .inl f)), (t, .inr (12, MF 13 (tw Tc))), (Tc.au, .inl (cC, Tc.U, .inl Tc.un))] H := hP
          have hD : va_D A [(mo, .inr (13, MF 30 (rf v j b7))), (qx, .inl (cB, NN, .inl f)), (t, .inr (12, MF 13 (tw Tc))), (Tc.au, .inl (cC, Tc.U, .inl Tc.un))] := hD
          have hfin : qtM f n q (n + 13) (i + 1) [] = none := by
            rw [← hI4, hk0]
            simp only [qtM]
            rw [if_neg (fun h => c15 (h_r1.trans h)), if_pos (Or.inl (by rw [← h_r2]; exact c33))]
          have hcp3 := q_cap hTX (B := (T.us + (n + 12 - i))) (by first | omega | (simp only [List.length_append, List.length_singleton]; omega))
          refine w_same (fun hq => ?_)
          refine W.widen (k := qcap T (T.us + (n + 12 - i))) (n := 2 * qcap T (T.us + (n + 12 - i))) (by omega) (by omega) ?_
          exact W.zret (v := 0) hx hb hr rfl (fun t9 ht hW => ⟨⟨0, (Tc, us, j, b7), rfl, ⟨hTX, Or.inr ⟨rfl, hqQ.trans hfin, by show (us).length ≤ n + 12 - i; first | omega | (simp only [List.length_append, List.length_singleton]; omega), by show j ≤ n + 30; omega⟩⟩, ⟨by rw [ht]; exact hP, va_K.moved hW.alike hK, hD⟩, by rw [ht]; exact hq.mono (Nat.le_refl _) (Nat.le_refl _)⟩, hS.F ht⟩) hS.2.2 d_Mo_quoted_69
      · refine lv_iload hx hb d_Mo_quoted_36 (lv_at hl 0 rfl) ?_
        refine lv_bipush (v := 126) hx hb d_Mo_quoted_38 (by decide) ?_
        refine lv_icmp_le (tgt := 70) hx hb d_Mo_quoted_40 (by decide) (fun c40 => ?_) (fun c40 => ?_)
        · refine lv_iload hx hb d_Mo_quoted_70 (lv_at hl 0 rfl) ?_
          refine lv_bipush (v := 92) hx hb d_Mo_quoted_72 (by decide) ?_
          refine lv_icmp_eq (tgt := 96) hx hb d_Mo_quoted_74 (by decide) (fun c74 => ?_) (fun c74 => ?_)
          · refine lv_aload_n hx hb d_Mo_quoted_96 rfl (lv_at hl 2 rfl) ?_
            refine lv_iload_n hx hb d_Mo_quoted_97 rfl (lv_at hl 3 rfl) ?_
            have hjn : j < n := here_l32 (by rw [← h_r2]; exact c33)
            have ha_u9 := escM_at f n q j
            have hPc := hP.sub (ws' := [(mo, .inr (13, MF 30 (rf v j b))), (qx, .inl (cB, NN, .inl f))]) [0, 1] rfl
            have hDc := hD.sub (ws' := [(mo, .inr (13, MF 30 (rf v j b))), (qx, .inl (cB, NN, .inl f))]) [0, 1] (by decide) rfl
            have hKc := hK.sub (tys' := [(cB, .byte)]) [0] rfl
            have hFc := va_free (wc := [(mo, .inr (13, MF 30 (rf v j b))), (qx, .inl (cB, NN, .inl f))]) hD hS hA [0, 1] rfl
            refine va_calli (va_runV (As := [.int q]) (rest := []) ⟨hx, hb, hml, hown, hts⟩ (c_Mo_escR l dC dI mo H v cB qx NN f n (K 0).1 (K 0).2 j (by omega) (by omega) (by omega) h6 h8 b q) (cwV 1 hts (gt_V (own := R_Mo) (C := R_Mo) (i := 180) (y := y_Mo_escaped) i_Mo_escaped w_1269 w_1271 (gt_sel (y := y_Mo_escaped) (n := 30) (by decide +kernel)) w_7) rfl rfl rfl (by decide +kernel) ⟨Nat.le_of_ble_eq_true rfl, Nat.le_of_ble_eq_true rfl⟩) ⟨mbf_blind, va_recv hKc hPc (ci := 13) (q0 := 0) rfl rfl, fun U hU hW => ⟨rfl, ⟨hU, by rw [hU]; exact hPc, va_K.moved hW.alike hKc, hDc.weaken (fun _ _ _ _ => trivial)⟩, by rw [hU]; exact (ME.call hM hS.2.1 hFc hW 0 _ rfl).1, (ME.call hM hS.2.1 hFc hW 0 _ rfl).2⟩⟩ rfl rfl hl.1 rfl (lv_room (Nat.le_of_ble_eq_true rfl)) d_Mo_quoted_98 ⟨hcap, hcap2⟩) hS (fun q _ h => hFc q h) hFc (fun u9 b2 t9 H1 locs ht hvm hw hB hz1 hk1 hS => ?_)
            obtain ⟨hP1, hK1, hD1⟩ := hB
            rw [ht] at hP1
            obtain ⟨hP, hD⟩ := va_join (wr := [(t, .inr (12, MF 13 (tw Tc))), (Tc.au, .inl (cC, Tc.U, .inl Tc.un))]) (w1 := [(mo, .inr (13, MF 30 (rf v (escM f n q j).2 b2))), (qx, .inl (cB, NN, .inl f))]) hP hD [0, 1] [2, 3] rfl rfl (by decide) (by decide) hk1 hFc hP1 hD1
            generalize H1 = H at hP hS ⊢
            have hP : va_P (dC, dI) classes [(t, .inr (12, MF 13 (tw Tc))), (Tc.au, .inl (cC, Tc.U, .inl Tc.un)), (mo, .inr (13, MF 30 (rf v (escM f n q j).2 b2))), (qx, .inl (cB, NN, .inl f))] H := hP
            have hD : va_D A [(t, .inr (12, MF 13 (tw Tc))), (Tc.au, .inl (cC, Tc.U, .inl Tc.un)), (mo, .inr (13, MF 30 (rf v (escM f n q j).2 b2))), (qx, .inl (cB, NN, .inl f))] := hD
            have hP := hP.sub (ws' := [(mo, .inr (13, MF 30 (rf v (escM f n q j).2 b2))), (qx, .inl (cB, NN, .inl f)), (t, .inr (12, MF 13 (tw Tc))), (Tc.au, .inl (cC, Tc.U, .inl Tc.un))]) [2, 3, 0, 1] rfl
            have hD := hD.sub (ws' := [(mo, .inr (13, MF 30 (rf v (escM f n q j).2 b2))), (qx, .inl (cB, NN, .inl f)), (t, .inr (12, MF 13 (tw Tc))), (Tc.au, .inl (cC, Tc.U, .inl Tc.un))]) [2, 3, 0, 1] (by decide) rfl
            have h_u : u9 = (escM f n q j).1 := hw
            refine lv_istore (lv' := [(5, .int u9), (4, .int r2), (3, .int (nI j)), (0, .ref mo), (1, .int q), (2, .ref t)]) hx hb d_Mo_quoted_101 hl (by decide) rfl (fun ls hl => ?_)
            refine lv_iload hx hb d_Mo_quoted_103 (lv_at hl 0 rfl) ?_
            refine lv_if_ge (tgt := 110) hx hb d_Mo_quoted_105 (by decide) (fun c105 => ?_) (fun c105 => ?_)
            · refine lv_iload hx hb d_Mo_quoted_110 (lv_at hl 0 rfl) ?_
              refine lv_ldc (v := 56320) hx hb hown (hts _ w_1335) d_Mo_quoted_112 ?_
              refine lv_icmp_lt (tgt := 130) hx hb d_Mo_quoted_114 (by decide) (fun c114 => ?_) (fun c114 => ?_)
              · refine lv_aload_n hx hb d_Mo_quoted_130 rfl (lv_at hl 5 rfl) ?_
                refine lv_iload hx hb d_Mo_quoted_131 (lv_at hl 0 rfl) ?_
                have hft := q_fit hTX hT0 (B := (T.us + (n + 12 - i))) (by first | omega | (simp only [List.length_append, List.length_singleton]; omega))
                have hPc := hP.sub (ws' := [(t, .inr (12, MF 13 (tw Tc))), (Tc.au, .inl (cC, Tc.U, .inl Tc.un))]) [2, 3] rfl
                have hDc := hD.sub (ws' := [(t, .inr (12, MF 13 (tw Tc))), (Tc.au, .inl (cC, Tc.U, .inl Tc.un))]) [2, 3] (by decide) rfl
                have hKc := hK.sub (tys' := [(cC, .char)]) [1] rfl
                have hFc := va_free (wc := [(t, .inr (12, MF 13 (tw Tc))), (Tc.au, .inl (cC, Tc.U, .inl Tc.un))]) hD hS hA [2, 3] rfl
                refine w_same (fun hq0 => ?_)
                refine va_callv (va_runV (As := [.int u9]) (rest := []) ⟨hx, hb, hml, hown, hts⟩ (c_Tree_unitT l dC dI t H cC Tc u9 hTc) (cwV 1 hts (gt_V (own := R_Mo) (C := R_Tree) (i := 177) (y := y_Tree_unit) i_Tree_unit w_1265 w_1266 w_1267 w_8) rfl rfl rfl (by decide +kernel) ⟨Nat.le_of_ble_eq_true rfl, Nat.le_of_ble_eq_true rfl⟩) ⟨mp_blind, va_recv hKc hPc (ci := 12) (q0 := 0) rfl rfl, fun U hU hW => ⟨rfl, hU, by rw [hU]; exact hPc, va_K.moved hW.alike hKc, hDc.weaken (fun _ _ _ _ => trivial)⟩⟩ rfl rfl hl.1 rfl (lv_room (Nat.le_of_ble_eq_true rfl)) d_Mo_quoted_133 ⟨by show Tc.U - T.U + grC Tc.U Tc.us ≤ qcap T (T.us + (n + 12 - i)); omega, by show 2 * (Tc.U - T.U) + grS Tc.U Tc.us ≤ 2 * qcap T (T.us + (n + 12 - i)); omega⟩) hS (fun q _ h => hFc q h) hFc (fun Tb t9 H1 locs ht hvm hw hB hz1 hk1 hS => ?_)
                obtain ⟨⟨hP1, hK1, hD1⟩, hz9⟩ := hB
                rw [ht] at hP1
                rw [ht] at hz9
                have hw : TX Tc Tb [u9] := hw
                have hX_Tb : TX T Tb (us ++ [u9]) := by have := hTX.trans hw; simpa [List.append_assoc] using this
                have hU1 := hw.U
                have hU2 := hTX.U
                have hq1 : szk s.heap H1 (Tb.U - T.U) (2 * (Tb.U - T.U)) := (hq0.trans hz9).mono (by omega) (by omega)
                refine w_tight hq1 ?_
                obtain ⟨hP, hD⟩ := va_join (wr := [(mo, .inr (13, MF 30 (rf v (escM f n q j).2 b2))), (qx, .inl (cB, NN, .inl f))]) (w1 := [(t, .inr (12, MF 13 (tw Tb))), (Tb.au, .inl (cC, Tb.U, .inl Tb.un))]) hP hD [2, 3] [0, 1] rfl rfl (by decide) (by decide) hk1 hFc hP1 hD1
                generalize H1 = H at hP hS ⊢
                have hP : va_P (dC, dI) classes [(mo, .inr (13, MF 30 (rf v (escM f n q j).2 b2))), (qx, .inl (cB, NN, .inl f)), (t, .inr (12, MF 13 (tw Tb))), (Tb.au, .inl (cC, Tb.U, .inl Tb.un))] H := hP
                have hD : va_D A [(mo, .inr (13, MF 30 (rf v (escM f n q j).2 b2))), (qx, .inl (cB, NN, .inl f)), (t, .inr (12, MF 13 (tw Tb))), (Tb.au, .inl (cC, Tb.U, .inl Tb.un))] := hD
                have hP := hP.sub (ws' := [(mo, .inr (13, MF 30 (rf v (escM f n q j).2 b2))), (qx, .inl (cB, NN, .inl f)), (t, .inr (12, MF 13 (tw Tb))), (Tb.au, .inl (cC, Tb.U, .inl Tb.un))]) [0, 1, 2, 3] rfl
                have hD := hD.sub (ws' := [(mo, .inr (13, MF 30 (rf v (escM f n q j).2 b2))), (qx, .inl (cB, NN, .inl f)), (t, .inr (12, MF 13 (tw Tb))), (Tb.au, .inl (cC, Tb.U, .inl Tb.un))]) [0, 1, 2, 3] (by decide) rfl
                have hk_Tb := hX_Tb.ok hT0 (by first | omega | (simp only [List.length_append, List.length_singleton]; omega))
                have hcp_Tb := q_cap hX_Tb (B := (T.us + (n + 12 - i))) (by first | omega | (simp only [List.length_append, List.length_singleton]; omega))
                have hcq_Tb : 2 * (Tb.U - T.U) ≤ 2 * qcap T (T.us + (n + 12 - i)) := by omega
                refine lv_iload hx hb d_Mo_quoted_136 (lv_at hl 0 rfl) ?_
                refine lv_ldc (v := 55296) hx hb hown (hts _ w_1337) d_Mo_quoted_138 ?_
                refine lv_icmp_lt (tgt := 10) hx hb d_Mo_quoted_140 (by decide) (fun c140 => ?_) (fun c140 => ?_)
                · refine w_same (fun hq => ?_)
                  have hcp2 := q_cap hX_Tb (B := (T.us + (n + 12 - i))) (by first | omega | (simp only [List.length_append, List.length_singleton]; omega))
                  refine W.widen (k := qcap T (T.us + (n + 12 - i))) (n := 2 * qcap T (T.us + (n + 12 - i))) (by omega) (by omega) ?_
                  have hst : qtM f n q k0 (escM f n q j).2 (us ++ [u9]) = qtM f n q (n + 13) (i + 1) [] := by
                    rw [← hI4, hk0]
                    simp only [qtM]
                    rw [if_neg (fun h => c15 (h_r1.trans h)), if_neg (fun h => by rw [← h_r2] at h; exact h.elim c33 (fun h => h c40)), if_neg (fun h => h (h_r2.symm.trans c74)), if_neg (fun h => h (by rw [← h_u]; exact c105)), if_neg (fun h => by rw [← h_u] at h; exact h.1 c114), if_pos (Or.inl (by rw [← h_u]; exact c140)), ← h_u]
                  exact ih (Tb, us ++ [u9], k0, (escM f n q j).2, b2) _ _ _ ⟨hX_Tb, by first | omega | (simp only [List.length_append, List.length_singleton]; omega), by omega, by omega, hst, hq⟩ (by show n + 13 - (escM f n q j).2 < n + 13 - j; omega) hP hD hS (lv_sub hl [3, 4, 5] rfl)
                · refine lv_iload hx hb d_Mo_quoted_143 (lv_at hl 0 rfl) ?_
                  refine lv_ldc (v := 56319) hx hb hown (hts _ w_1338) d_Mo_quoted_145 ?_
                  refine lv_icmp_le (tgt := 153) hx hb d_Mo_quoted_147 (by decide) (fun c147 => ?_) (fun c147 => ?_)
                  · refine lv_aload_n hx hb d_Mo_quoted_153 rfl (lv_at hl 3 rfl) ?_
                    refine va_get (D := (dC, dI)) (ci := 13) (v := .int (nI (escM f n q j).2)) (C := R_Mo) (T := F_Mo) (N := 30) hx hb hts in_Mo hown hK hP 0 rfl rfl 7 (by decide) (hts _ w_1096) (fun _ h9 => h9) (MFg (by decide) rf_7) d_Mo_quoted_154 ?_
                    refine lv_aload_n hx hb d_Mo_quoted_157 rfl (lv_at hl 3 rfl) ?_
                    refine va_get (D := (dC, dI)) (ci := 13) (v := .int (nI n)) (C := R_Mo) (T := F_Mo) (N := 30) hx hb hts in_Mo hown hK hP 0 rfl rfl 8 (by decide) (hts _ w_1097) (fun _ h9 => h9) (MFg (by decide) ((rf_ne (by decide) (by decide)).trans h8)) d_Mo_quoted_158 ?_
                    refine lv_icmp_lt (tgt := 173) hx hb d_Mo_quoted_161 (by decide) (fun c161 => ?_) (fun c161 => ?_)
                    · have hj2 : (escM f n q j).2 < n := by rw [nI_ltI (by omega) (by omega)] at c161; exact c161
                      refine lv_aload_n hx hb d_Mo_quoted_173 rfl (lv_at hl 3 rfl) ?_
                      have hPc := hP.sub (ws' := [(mo, .inr (13, MF 30 (rf v (escM f n q j).2 b2))), (qx, .inl (cB, NN, .inl f))]) [0, 1] rfl
                      have hDc := hD.sub (ws' := [(mo, .inr (13, MF 30 (rf v (escM f n q j).2 b2))), (qx, .inl (cB, NN, .inl f))]) [0, 1] (by decide) rfl
                      have hKc := hK.sub (tys' := [(cB, .byte)]) [0] rfl
                      have hFc := va_free (wc := [(mo, .inr (13, MF 30 (rf v (escM f n q j).2 b2))), (qx, .inl (cB, NN, .inl f))]) hD hS hA [0, 1] rfl
                      refine va_calli (va_runV (As := []) (rest := []) ⟨hx, hb, hml, hown, hts⟩ (c_Mo_c l dC dI mo H (rf v (escM f n q j).2 b2) cB qx NN f n (escM f n q j).2 (by omega) (by omega) (by omega) ((rf_ne (by decide) (by decide)).trans h6) rf_7 ((rf_ne (by decide) (by decide)).trans h8)) (cwV 0 hts (gt_V (own := R_Mo) (C := R_Mo) (i := 147) (y := y_Mo_c) i_Mo_c w_1233 w_1235 (gt_sel (y := y_Mo_c) (n := 30) (by decide +kernel)) w_7) rfl rfl rfl (by decide +kernel) ⟨Nat.le_of_ble_eq_true rfl, Nat.le_of_ble_eq_true rfl⟩) ⟨mp_blind, va_recv hKc hPc (ci := 13) (q0 := 0) rfl rfl, fun U hU hW => ⟨rfl, hU, by rw [hU]; exact hPc, va_K.moved hW.alike hKc, hDc.weaken (fun _ _ _ _ => trivial)⟩⟩ rfl rfl hl.1 rfl (lv_room (Nat.le_of_ble_eq_true rfl)) d_Mo_quoted_174 ⟨hcp_Tb, hcq_Tb⟩) hS (fun q _ h => hFc q h) hFc (fun r3 _u t9 H1 locs ht hvm hw hB hz1 hk1 hS => ?_)
                      obtain ⟨hP1, hK1, hD1⟩ := hB
                      rw [ht] at hP1
                      obtain ⟨hP, hD⟩ := va_join (wr := [(t, .inr (12, MF 13 (tw Tb))), (Tb.au, .inl (cC, Tb.U, .inl Tb.un))]) (w1 := [(mo, .inr (13, MF 30 (rf v (escM f n q j).2 b2))), (qx, .inl (cB, NN, .inl f))]) hP hD [0, 1] [2, 3] rfl rfl (by decide) (by decide) hk1 hFc hP1 hD1
                      generalize H1 = H at hP hS ⊢
                      have hP : va_P (dC, dI) classes [(t, .inr (12, MF 13 (tw Tb))), (Tb.au, .inl (cC, Tb.U, .inl Tb.un)), (mo, .inr (13, MF 30 (rf v (escM f n q j).2 b2))), (qx, .inl (cB, NN, .inl f))] H := hP
                      have hD : va_D A [(t, .inr (12, MF 13 (tw Tb))), (Tb.au, .inl (cC, Tb.U, .inl Tb.un)), (mo, .inr (13, MF 30 (rf v (escM f n q j).2 b2))), (qx, .inl (cB, NN, .inl f))] := hD
                      have hP := hP.sub (ws' := [(mo, .inr (13, MF 30 (rf v (escM f n q j).2 b2))), (qx, .inl (cB, NN, .inl f)), (t, .inr (12, MF 13 (tw Tb))), (Tb.au, .inl (cC, Tb.U, .inl Tb.un))]) [2, 3, 0, 1] rfl
                      have hD := hD.sub (ws' := [(mo, .inr (13, MF 30 (rf v (escM f n q j).2 b2))), (qx, .inl (cB, NN, .inl f)), (t, .inr (12, MF 13 (tw Tb))), (Tb.au, .inl (cC, Tb.U, .inl Tb.un))]) [2, 3, 0, 1] (by decide) rfl
                      have h_r3 : r3 = hereV f n (escM f n q j).2 := hw
                      refine lv_bipush (v := 92) hx hb d_Mo_quoted_177 (by decide) ?_
                      refine lv_icmp_eq (tgt := 188) hx hb d_Mo_quoted_179 (by decide) (fun c179 => ?_) (fun c179 => ?_)
                      · refine lv_aload_n hx hb d_Mo_quoted_188 rfl (lv_at hl 3 rfl) ?_
                        refine va_get (D := (dC, dI)) (ci := 13) (v := .int (nI (escM f n q j).2)) (C := R_Mo) (T := F_Mo) (N := 30) hx hb hts in_Mo hown hK hP 0 rfl rfl 7 (by decide) (hts _ w_1096) (fun _ h9 => h9) (MFg (by decide) rf_7) d_Mo_quoted_189 ?_
                        refine lv_iconst (v := 1) hx hb d_Mo_quoted_192 (by decide) ?_
                        refine lv_iadd hx hb d_Mo_quoted_193 ?_
                        refine W.eq (g2 := F0 m 194 ls [.int (nI ((escM f n q j).2 + 1))]) (by rw [show ((nI (escM f n q j).2) + 1) = (nI ((escM f n q j).2 + 1)) from nI_1 _]) ?_
                        refine lv_aload_n hx hb d_Mo_quoted_194 rfl (lv_at hl 3 rfl) ?_
                        refine va_get (D := (dC, dI)) (ci := 13) (v := .int (nI n)) (C := R_Mo) (T := F_Mo) (N := 30) hx hb hts in_Mo hown hK hP 0 rfl rfl 8 (by decide) (hts _ w_1097) (fun _ h9 => h9) (MFg (by decide) ((rf_ne (by decide) (by decide)).trans h8)) d_Mo_quoted_195 ?_
                        refine lv_icmp_lt (tgt := 210) hx hb d_Mo_quoted_198 (by decide) (fun c198 => ?_) (fun c198 => ?_)
                        · have hj3 : (escM f n q j).2 + 1 < n := by rw [nI_ltI (by omega) (by omega)] at c198; exact c198
                          refine lv_aload_n hx hb d_Mo_quoted_210 rfl (lv_at hl 3 rfl) ?_
                          refine va_get (D := (dC, dI)) (ci := 13) (v := .ref qx) (C := R_Mo) (T := F_Mo) (N := 30) hx hb hts in_Mo hown hK hP 0 rfl rfl 6 (by decide) (hts _ w_1095) (fun _ h9 => h9) (MFg (by decide) ((rf_ne (by decide) (by decide)).trans h6)) d_Mo_quoted_211 ?_
                          refine lv_aload_n hx hb d_Mo_quoted_214 rfl (lv_at hl 3 rfl) ?_
                          refine va_get (D := (dC, dI)) (ci := 13) (v := .int (nI (escM f n q j).2)) (C := R_Mo) (T := F_Mo) (N := 30) hx hb hts in_Mo hown hK hP 0 rfl rfl 7 (by decide) (hts _ w_1096) (fun _ h9 => h9) (MFg (by decide) rf_7) d_Mo_quoted_215 ?_
                          refine lv_iconst (v := 1) hx hb d_Mo_quoted_218 (by decide) ?_
                          refine lv_iadd hx hb d_Mo_quoted_219 ?_
                          refine W.eq (g2 := F0 m 220 ls [.int (nI ((escM f n q j).2 + 1)), .ref qx]) (by rw [show ((nI (escM f n q j).2) + 1) = (nI ((escM f n q j).2 + 1)) from nI_1 _]) ?_
                          refine va_bald hx hb hK hP 1 0 rfl rfl (vp_in_nI (show (escM f n q j).2 + 1 < NN by omega) (by omega)) d_Mo_quoted_220 ?_
                          rw [show (nI ((escM f n q j).2 + 1)).toNatClampNeg = (escM f n q j).2 + 1 from nI_clamp (by omega)]
                          refine lv_bipush (v := 117) hx hb d_Mo_quoted_221 (by decide) ?_
                          refine lv_icmp_eq (tgt := 232) hx hb d_Mo_quoted_223 (by decide) (fun c223 => ?_) (fun c223 => ?_)
                          · refine lv_aload_n hx hb d_Mo_quoted_232 rfl (lv_at hl 3 rfl) ?_
                            refine lv_iload_n hx hb d_Mo_quoted_233 rfl (lv_at hl 4 rfl) ?_
                            have ha_v9 := escM_at f n q (escM f n q j).2
                            have hPc := hP.sub (ws' := [(mo, .inr (13, MF 30 (rf v (escM f n q j).2 b2))), (qx, .inl (cB, NN, .inl f))]) [0, 1] rfl
                            have hDc := hD.sub (ws' := [(mo, .inr (13, MF 30 (rf v (escM f n q j).2 b2))), (qx, .inl (cB, NN, .inl f))]) [0, 1] (by decide) rfl
                            have hKc := hK.sub (tys' := [(cB, .byte)]) [0] rfl
                            have hFc := va_free (wc := [(mo, .inr (13, MF 30 (rf v (escM f n q j).2 b2))), (qx, .inl (cB, NN, .inl f))]) hD hS hA [0, 1] rfl
                            refine va_calli (va_runV (As := [.int q]) (rest := []) ⟨hx, hb, hml, hown, hts⟩ (c_Mo_escR l dC dI mo H v cB qx NN f n (K 0).1 (K 0).2 (escM f n q j).2 (by omega) (by omega) (by omega) h6 h8 b2 q) (cwV 1 hts (gt_V (own := R_Mo) (C := R_Mo) (i := 180) (y := y_Mo_escaped) i_Mo_escaped w_1269 w_1271 (gt_sel (y := y_Mo_escaped) (n := 30) (by decide +kernel)) w_7) rfl rfl rfl (by decide +kernel) ⟨Nat.le_of_ble_eq_true rfl, Nat.le_of_ble_eq_true rfl⟩) ⟨mbf_blind, va_recv hKc hPc (ci := 13) (q0 := 0) rfl rfl, fun U hU hW => ⟨rfl, ⟨hU, by rw [hU]; exact hPc, va_K.moved hW.alike hKc, hDc.weaken (fun _ _ _ _ => trivial)⟩, by rw [hU]; exact (ME.call hM hS.2.1 hFc hW 0 _ rfl).1, (ME.call hM hS.2.1 hFc hW 0 _ rfl).2⟩⟩ rfl rfl hl.1 rfl (lv_room (Nat.le_of_ble_eq_true rfl)) d_Mo_quoted_234 ⟨hcp_Tb, hcq_Tb⟩) hS (fun q _ h => hFc q h) hFc (fun v9 b3 t9 H1 locs ht hvm hw hB hz1 hk1 hS => ?_)
                            obtain ⟨hP1, hK1, hD1⟩ := hB
                            rw [ht] at hP1
                            obtain ⟨hP, hD⟩ := va_join (wr := [(t, .inr (12, MF 13 (tw Tb))), (Tb.au, .inl (cC, Tb.U, .inl Tb.un))]) (w1 := [(mo, .inr (13, MF 30 (rf v (escM f n q (escM f n q j).2).2 b3))), (qx, .inl (cB, NN, .inl f))]) hP hD [0, 1] [2, 3] rfl rfl (by decide) (by decide) hk1 hFc hP1 hD1
                            generalize H1 = H at hP hS ⊢
                            have hP : va_P (dC, dI) classes [(t, .inr (12, MF 13 (tw Tb))), (Tb.au, .inl (cC, Tb.U, .inl Tb.un)), (mo, .inr (13, MF 30 (rf v (escM f n q (escM f n q j).2).2 b3))), (qx, .inl (cB, NN, .inl f))] H := hP
                            have hD : va_D A [(t, .inr (12, MF 13 (tw Tb))), (Tb.au, .inl (cC, Tb.U, .inl Tb.un)), (mo, .inr (13, MF 30 (rf v (escM f n q (escM f n q j).2).2 b3))), (qx, .inl (cB, NN, .inl f))] := hD
                            have hP := hP.sub (ws' := [(mo, .inr (13, MF 30 (rf v (escM f n q (escM f n q j).2).2 b3))), (qx, .inl (cB, NN, .inl f)), (t, .inr (12, MF 13 (tw Tb))), (Tb.au, .inl (cC, Tb.U, .inl Tb.un))]) [2, 3, 0, 1] rfl
                            have hD := hD.sub (ws' := [(mo, .inr (13, MF 30 (rf v (escM f n q (escM f n q j).2).2 b3))), (qx, .inl (cB, NN, .inl f)), (t, .inr (12, MF 13 (tw Tb))), (Tb.au, .inl (cC, Tb.U, .inl Tb.un))]) [2, 3, 0, 1] (by decide) rfl
                            have h_v : v9 = (escM f n q (escM f n q j).2).1 := hw
                            refine lv_istore (lv' := [(6, .int v9), (5, .int u9), (4, .int r2), (3, .int (nI j)), (0, .ref mo), (1, .int q), (2, .ref t)]) hx hb d_Mo_quoted_237 hl (by decide) rfl (fun ls hl => ?_)
                            refine lv_iload hx hb d_Mo_quoted_239 (lv_at hl 0 rfl) ?_
                            refine lv_if_ge (tgt := 262) hx hb d_Mo_quoted_241 (by decide) (fun c241 => ?_) (fun c241 => ?_)
                            · refine lv_iload hx hb d_Mo_quoted_262 (lv_at hl 0 rfl) ?_
                              refine lv_ldc (v := 56320) hx hb hown (hts _ w_1335) d_Mo_quoted_264 ?_
                              refine lv_icmp_lt (tgt := 276) hx hb d_Mo_quoted_266 (by decide) (fun c266 => ?_) (fun c266 => ?_)
                              · refine lv_aload_n hx hb d_Mo_quoted_276 rfl (lv_at hl 4 rfl) ?_
                                refine lv_iload_n hx hb d_Mo_quoted_277 rfl (lv_at hl 3 rfl) ?_
                                have hPc := hP.sub (ws' := [(mo, .inr (13, MF 30 (rf v (escM f n q (escM f n q j).2).2 b3)))]) [0] rfl
                                have hDc := hD.sub (ws' := [(mo, .inr (13, MF 30 (rf v (escM f n q (escM f n q j).2).2 b3)))]) [0] (by decide) rfl
                                have hKc := hK.sub (tys' := []) [] rfl
                                have hFc := va_free (wc := [(mo, .inr (13, MF 30 (rf v (escM f n q (escM f n q j).2).2 b3)))]) hD hS hA [0] rfl
                                refine va_calli (va_runV (As := [.int (nI j)]) (rest := []) ⟨hx, hb, hml, hown, hts⟩ (c_Mo_fail l dC dI mo H (rf v (escM f n q (escM f n q j).2).2 b3) b3 ((nI j)) rf_9) (cwV 1 hts (gt_V (own := R_Mo) (C := R_Mo) (i := 151) (y := y_Mo_fail) i_Mo_fail w_1250 w_1252 (gt_sel (y := y_Mo_fail) (n := 30) (by decide +kernel)) w_7) rfl rfl rfl (by decide +kernel) ⟨Nat.le_of_ble_eq_true rfl, Nat.le_of_ble_eq_true rfl⟩) ⟨mp_blind, va_recv hKc hPc (ci := 13) (q0 := 0) rfl rfl, fun U hU hW => ⟨rfl, hU, by rw [hU]; exact hPc, va_K.moved hW.alike hKc, hDc.weaken (fun _ _ _ _ => trivial)⟩⟩ rfl rfl hl.1 rfl (lv_room (Nat.le_of_ble_eq_true rfl)) d_Mo_quoted_278 ⟨hcp_Tb, hcq_Tb⟩) hS (fun q _ h => hFc q h) hFc (fun r0 u2 t9 H1 locs ht hvm hw hB hz1 hk1 hS => ?_)
                                obtain ⟨hP1, hK1, hD1⟩ := hB
                                rw [ht] at hP1
                                obtain ⟨hP, hD⟩ := va_join (wr := [(qx, .inl (cB, NN, .inl f)), (t, .inr (12, MF 13 (tw Tb))), (Tb.au, .inl (cC, Tb.U, .inl Tb.un))]) (w1 := [(mo, .inr (13, MF 30 u2))]) hP hD [0] [1, 2, 3] rfl rfl (by decide) (by decide) hk1 hFc hP1 hD1
                                generalize H1 = H at hP hS ⊢
                                have hP : va_P (dC, dI) classes [(qx, .inl (cB, NN, .inl f)), (t, .inr (12, MF 13 (tw Tb))), (Tb.au, .inl (cC, Tb.U, .inl Tb.un)), (mo, .inr (13, MF 30 u2))] H := hP
                                have hD : va_D A [(qx, .inl (cB, NN, .inl f)), (t, .inr (12, MF 13 (tw Tb))), (Tb.au, .inl (cC, Tb.U, .inl Tb.un)), (mo, .inr (13, MF 30 u2))] := hD
                                have hP := hP.sub (ws' := [(mo, .inr (13, MF 30 u2)), (qx, .inl (cB, NN, .inl f)), (t, .inr (12, MF 13 (tw Tb))), (Tb.au, .inl (cC, Tb.U, .inl Tb.un))]) [3, 0, 1, 2] rfl
                                have hD := hD.sub (ws' := [(mo, .inr (13, MF 30 u2)), (qx, .inl (cB, NN, .inl f)), (t, .inr (12, MF 13 (tw Tb))), (Tb.au, .inl (cC, Tb.U, .inl Tb.un))]) [3, 0, 1, 2] (by decide) rfl
                                obtain ⟨b7, h_b7⟩ := rf_fail (v := v) (i := (escM f n q (escM f n q j).2).2) (br := b3) (b2 := b3) (wh := (nI j))
                                have hw : r0 = 0 ∧ u2 = _ := hw
                                obtain ⟨hw1, hw2⟩ := hw
                                rw [h_b7] at hw2
                                rw [hw2] at hP hD
                                subst hw1
                                have hP : va_P (dC, dI) classes [(mo, .inr (13, MF 30 (rf v (escM f n q (escM f n q j).2).2 b7))), (qx, .inl (cB, NN, .inl f)), (t, .inr (12, MF 13 (tw Tb))), (Tb.au, .inl (cC, Tb.U, .inl Tb.un))] H := hP
                                have hD : va_D A [(mo, .inr (13, MF 30 (rf v (escM f n q (escM f n q j).2).2 b7))), (qx, .inl (cB, NN, .inl f)), (t, .inr (12, MF 13 (tw Tb))), (Tb.au, .inl (cC, Tb.U, .inl Tb.un))] := hD
                                have hfin : qtM f n q (n + 13) (i + 1) [] = none := by
                                  rw [← hI4, hk0]
                                  simp only [qtM]
                                  rw [if_neg (fun h => c15 (h_r1.trans h)), if_neg (fun h => by rw [← h_r2] at h; exact h.elim c33 (fun h => h c40)), if_neg (fun h => h (h_r2.symm.trans c74)), if_neg (fun h => h (by rw [← h_u]; exact c105)), if_neg (fun h => by rw [← h_u] at h; exact h.1 c114), if_neg (fun h => by rw [← h_u] at h; exact h.elim c140 (fun h => h c147)), if_neg (fun h => h hj2), if_neg (fun h => h (h_r3.symm.trans c179)), if_neg (fun h => h hj3), if_neg (fun h => h c223), if_neg (fun h => h (by rw [← h_v]; exact c241)), if_pos (Or.inl (by rw [← h_v]; exact c266))]
                                have hcp3 := q_cap hX_Tb (B := (T.us + (n + 12 - i))) (by first | omega | (simp only [List.length_append, List.length_singleton]; omega))
                                refine w_same (fun hq => ?_)
                                refine W.widen (k := qcap T (T.us + (n + 12 - i))) (n := 2 * qcap T (T.us + (n + 12 - i))) (by omega) (by omega) ?_
                                exact W.zret (v := 0) hx hb hr rfl (fun t9 ht hW => ⟨⟨0, (Tb, us ++ [u9], (escM f n q (escM f n q j).2).2, b7), rfl, ⟨hX_Tb, Or.inr ⟨rfl, hqQ.trans hfin, by show (us ++ [u9]).length ≤ n + 12 - i; first | omega | (simp only [List.length_append, List.length_singleton]; omega), by show (escM f n q (escM f n q j).2).2 ≤ n + 30; omega⟩⟩, ⟨by rw [ht]; exact hP, va_K.moved hW.alike hK, hD⟩, by rw [ht]; exact hq.mono (Nat.le_refl _) (Nat.le_refl _)⟩, hS.F ht⟩) hS.2.2 d_Mo_quoted_281
                              · refine lv_iload hx hb d_Mo_quoted_269 (lv_at hl 0 rfl) ?_
                                refine lv_ldc (v := 57343) hx hb hown (hts _ w_1336) d_Mo_quoted_271 ?_
                                refine lv_icmp_le (tgt := 282) hx hb d_Mo_quoted_273 (by decide) (fun c273 => ?_) (fun c273 => ?_)
                                · refine lv_aload_n hx hb d_Mo_quoted_282 rfl (lv_at hl 6 rfl) ?_
                                  refine lv_iload hx hb d_Mo_quoted_283 (lv_at hl 0 rfl) ?_
                                  have hft := q_fit hX_Tb hT0 (B := (T.us + (n + 12 - i))) (by first | omega | (simp only [List.length_append, List.length_singleton]; omega))
                                  have hPc := hP.sub (ws' := [(t, .inr (12, MF 13 (tw Tb))), (Tb.au, .inl (cC, Tb.U, .inl Tb.un))]) [2, 3] rfl
                                  have hDc := hD.sub (ws' := [(t, .inr (12, MF 13 (tw Tb))), (Tb.au, .inl (cC, Tb.U, .inl Tb.un))]) [2, 3] (by decide) rfl
                                  have hKc := hK.sub (tys' := [(cC, .char)]) [1] rfl
                                  have hFc := va_free (wc := [(t, .inr (12, MF 13 (tw Tb))), (Tb.au, .inl (cC, Tb.U, .inl Tb.un))]) hD hS hA [2, 3] rfl
                                  refine w_same (fun hq0 => ?_)
                                  refine va_callv (va_runV (As := [.int v9]) (rest := []) ⟨hx, hb, hml, hown, hts⟩ (c_Tree_unitT l dC dI t H cC Tb v9 hk_Tb) (cwV 1 hts (gt_V (own := R_Mo) (C := R_Tree) (i := 177) (y := y_Tree_unit) i_Tree_unit w_1265 w_1266 w_1267 w_8) rfl rfl rfl (by decide +kernel) ⟨Nat.le_of_ble_eq_true rfl, Nat.le_of_ble_eq_true rfl⟩) ⟨mp_blind, va_recv hKc hPc (ci := 12) (q0 := 0) rfl rfl, fun U hU hW => ⟨rfl, hU, by rw [hU]; exact hPc, va_K.moved hW.alike hKc, hDc.weaken (fun _ _ _ _ => trivial)⟩⟩ rfl rfl hl.1 rfl (lv_room (Nat.le_of_ble_eq_true rfl)) d_Mo_quoted_285 ⟨by show Tb.U - T.U + grC Tb.U Tb.us ≤ qcap T (T.us + (n + 12 - i)); omega, by show 2 * (Tb.U - T.U) + grS Tb.U Tb.us ≤ 2 * qcap T (T.us + (n + 12 - i)); omega⟩) hS (fun q _ h => hFc q h) hFc (fun Td t9 H1 locs ht hvm hw hB hz1 hk1 hS => ?_)
                                  obtain ⟨⟨hP1, hK1, hD1⟩, hz9⟩ := hB
                                  rw [ht] at hP1
                                  rw [ht] at hz9
                                  have hw : TX Tb Td [v9] := hw
                                  have hX_Td : TX T Td (us ++ [u9] ++ [v9]) := by have := hX_Tb.trans hw; simpa [List.append_assoc] using this
                                  have hU1 := hw.U
                                  have hU2 := hX_Tb.U
                                  have hq1 : szk s.heap H1 (Td.U - T.U) (2 * (Td.U - T.U)) := (hq0.trans hz9).mono (by omega) (by omega)
                                  refine w_tight hq1 ?_
                                  obtain ⟨hP, hD⟩ := va_join (wr := [(mo, .inr (13, MF 30 (rf v (escM f n q (escM f n q j).2).2 b3))), (qx, .inl (cB, NN, .inl f))]) (w1 := [(t, .inr (12, MF 13 (tw Td))), (Td.au, .inl (cC, Td.U, .inl Td.un))]) hP hD [2, 3] [0, 1] rfl rfl (by decide) (by decide) hk1 hFc hP1 hD1
                                  generalize H1 = H at hP hS ⊢
                                  have hP : va_P (dC, dI) classes [(mo, .inr (13, MF 30 (rf v (escM f n q (escM f n q j).2).2 b3))), (qx, .inl (cB, NN, .inl f)), (t, .inr (12, MF 13 (tw Td))), (Td.au, .inl (cC, Td.U, .inl Td.un))] H := hP
                                  have hD : va_D A [(mo, .inr (13, MF 30 (rf v (escM f n q (escM f n q j).2).2 b3))), (qx, .inl (cB, NN, .inl f)), (t, .inr (12, MF 13 (tw Td))), (Td.au, .inl (cC, Td.U, .inl Td.un))] := hD
                                  have hP := hP.sub (ws' := [(mo, .inr (13, MF 30 (rf v (escM f n q (escM f n q j).2).2 b3))), (qx, .inl (cB, NN, .inl f)), (t, .inr (12, MF 13 (tw Td))), (Td.au, .inl (cC, Td.U, .inl Td.un))]) [0, 1, 2, 3] rfl
                                  have hD := hD.sub (ws' := [(mo, .inr (13, MF 30 (rf v (escM f n q (escM f n q j).2).2 b3))), (qx, .inl (cB, NN, .inl f)), (t, .inr (12, MF 13 (tw Td))), (Td.au, .inl (cC, Td.U, .inl Td.un))]) [0, 1, 2, 3] (by decide) rfl
                                  have hk_Td := hX_Td.ok hT0 (by first | omega | (simp only [List.length_append, List.length_singleton]; omega))
                                  have hcp_Td := q_cap hX_Td (B := (T.us + (n + 12 - i))) (by first | omega | (simp only [List.length_append, List.length_singleton]; omega))
                                  have hcq_Td : 2 * (Td.U - T.U) ≤ 2 * qcap T (T.us + (n + 12 - i)) := by omega
                                  refine lv_goto (tgt := 10) hx hb d_Mo_quoted_288 (by decide) ?_
                                  refine w_same (fun hq => ?_)
                                  have hcp2 := q_cap hX_Td (B := (T.us + (n + 12 - i))) (by first | omega | (simp only [List.length_append, List.length_singleton]; omega))
                                  refine W.widen (k := qcap T (T.us + (n + 12 - i))) (n := 2 * qcap T (T.us + (n + 12 - i))) (by omega) (by omega) ?_
                                  have hst : qtM f n q k0 (escM f n q (escM f n q j).2).2 (us ++ [u9] ++ [v9]) = qtM f n q (n + 13) (i + 1) [] := by
                                    rw [← hI4, hk0]
                                    simp only [qtM]
                                    rw [if_neg (fun h => c15 (h_r1.trans h)), if_neg (fun h => by rw [← h_r2] at h; exact h.elim c33 (fun h => h c40)), if_neg (fun h => h (h_r2.symm.trans c74)), if_neg (fun h => h (by rw [← h_u]; exact c105)), if_neg (fun h => by rw [← h_u] at h; exact h.1 c114), if_neg (fun h => by rw [← h_u] at h; exact h.elim c140 (fun h => h c147)), if_neg (fun h => h hj2), if_neg (fun h => h (h_r3.symm.trans c179)), if_neg (fun h => h hj3), if_neg (fun h => h c223), if_neg (fun h => h (by rw [← h_v]; exact c241)), if_neg (fun h => by rw [← h_v] at h; exact h.elim c266 (fun h => h c273)), ← h_v, ← h_u]
                                  exact ih (Td, us ++ [u9] ++ [v9], k0, (escM f n q (escM f n q j).2).2, b3) _ _ _ ⟨hX_Td, by first | omega | (simp only [List.length_append, List.length_singleton]; omega), by omega, by omega, hst, hq⟩ (by show n + 13 - (escM f n q (escM f n q j).2).2 < n + 13 - j; omega) hP hD hS (lv_sub hl [4, 5, 6] rfl)
                                · refine lv_aload_n hx hb d_Mo_quoted_276 rfl (lv_at hl 4 rfl) ?_
                                  refine lv_iload_n hx hb d_Mo_quoted_277 rfl (lv_at hl 3 rfl) ?_
                                  have hPc := hP.sub (ws' := [(mo, .inr (13, MF 30 (rf v (escM f n q (escM f n q j).2).2 b3)))]) [0] rfl
                                  have hDc := hD.sub (ws' := [(mo, .inr (13, MF 30 (rf v (escM f n q (escM f n q j).2).2 b3)))]) [0] (by decide) rfl
                                  have hKc := hK.sub (tys' := []) [] rfl
                                  have hFc := va_free (wc := [(mo, .inr (13, MF 30 (rf v (escM f n q (escM f n q j).2).2 b3)))]) hD hS hA [0] rfl
                                  refine va_calli (va_runV (As := [.int (nI j)]) (rest := []) ⟨hx, hb, hml, hown, hts⟩ (c_Mo_fail l dC dI mo H (rf v (escM f n q (escM f n q j).2).2 b3) b3 ((nI j)) rf_9) (cwV 1 hts (gt_V (own := R_Mo) (C := R_Mo) (i := 151) (y := y_Mo_fail) i_Mo_fail w_1250 w_1252 (gt_sel (y := y_Mo_fail) (n := 30) (by decide +kernel)) w_7) rfl rfl rfl (by decide +kernel) ⟨Nat.le_of_ble_eq_true rfl, Nat.le_of_ble_eq_true rfl⟩) ⟨mp_blind, va_recv hKc hPc (ci := 13) (q0 := 0) rfl rfl, fun U hU hW => ⟨rfl, hU, by rw [hU]; exact hPc, va_K.moved hW.alike hKc, hDc.weaken (fun _ _ _ _ => trivial)⟩⟩ rfl rfl hl.1 rfl (lv_room (Nat.le_of_ble_eq_true rfl)) d_Mo_quoted_278 ⟨hcp_Tb, hcq_Tb⟩) hS (fun q _ h => hFc q h) hFc (fun r0 u2 t9 H1 locs ht hvm hw hB hz1 hk1 hS => ?_)
                                  obtain ⟨hP1, hK1, hD1⟩ := hB
                                  rw [ht] at hP1
                                  obtain ⟨hP, hD⟩ := va_join (wr := [(qx, .inl (cB, NN, .inl f)), (t, .inr (12, MF 13 (tw Tb))), (Tb.au, .inl (cC, Tb.U, .inl Tb.un))]) (w1 := [(mo, .inr (13, MF 30 u2))]) hP hD [0] [1, 2, 3] rfl rfl (by decide) (by decide) hk1 hFc hP1 hD1
                                  generalize H1 = H at hP hS ⊢
                                  have hP : va_P (dC, dI) classes [(qx, .inl (cB, NN, .inl f)), (t, .inr (12, MF 13 (tw Tb))), (Tb.au, .inl (cC, Tb.U, .inl Tb.un)), (mo, .inr (13, MF 30 u2))] H := hP
                                  have hD : va_D A [(qx, .inl (cB, NN, .inl f)), (t, .inr (12, MF 13 (tw Tb))), (Tb.au, .inl (cC, Tb.U, .inl Tb.un)), (mo, .inr (13, MF 30 u2))] := hD
                                  have hP := hP.sub (ws' := [(mo, .inr (13, MF 30 u2)), (qx, .inl (cB, NN, .inl f)), (t, .inr (12, MF 13 (tw Tb))), (Tb.au, .inl (cC, Tb.U, .inl Tb.un))]) [3, 0, 1, 2] rfl
                                  have hD := hD.sub (ws' := [(mo, .inr (13, MF 30 u2)), (qx, .inl (cB, NN, .inl f)), (t, .inr (12, MF 13 (tw Tb))), (Tb.au, .inl (cC, Tb.U, .inl Tb.un))]) [3, 0, 1, 2] (by decide) rfl
                                  obtain ⟨b7, h_b7⟩ := rf_fail (v := v) (i := (escM f n q (escM f n q j).2).2) (br := b3) (b2 := b3) (wh := (nI j))
                                  have hw : r0 = 0 ∧ u2 = _ := hw
                                  obtain ⟨hw1, hw2⟩ := hw
                                  rw [h_b7] at hw2
                                  rw [hw2] at hP hD
                                  subst hw1
                                  have hP : va_P (dC, dI) classes [(mo, .inr (13, MF 30 (rf v (escM f n q (escM f n q j).2).2 b7))), (qx, .inl (cB, NN, .inl f)), (t, .inr (12, MF 13 (tw Tb))), (Tb.au, .inl (cC, Tb.U, .inl Tb.un))] H := hP
                                  have hD : va_D A [(mo, .inr (13, MF 30 (rf v (escM f n q (escM f n q j).2).2 b7))), (qx, .inl (cB, NN, .inl f)), (t, .inr (12, MF 13 (tw Tb))), (Tb.au, .inl (cC, Tb.U, .inl Tb.un))] := hD
                                  have hfin : qtM f n q (n + 13) (i + 1) [] = none := by
                                    rw [← hI4, hk0]
                                    simp only [qtM]
                                    rw [if_neg (fun h => c15 (h_r1.trans h)), if_neg (fun h => by rw [← h_r2] at h; exact h.elim c33 (fun h => h c40)), if_neg (fun h => h (h_r2.symm.trans c74)), if_neg (fun h => h (by rw [← h_u]; exact c105)), if_neg (fun h => by rw [← h_u] at h; exact h.1 c114), if_neg (fun h => by rw [← h_u] at h; exact h.elim c140 (fun h => h c147)), if_neg (fun h => h hj2), if_neg (fun h => h (h_r3.symm.trans c179)), if_neg (fun h => h hj3), if_neg (fun h => h c223), if_neg (fun h => h (by rw [← h_v]; exact c241)), if_pos (Or.inr (by rw [← h_v]; exact c273))]
                                  have hcp3 := q_cap hX_Tb (B := (T.us + (n + 12 - i))) (by first | omega | (simp only [List.length_append, List.length_singleton]; omega))
                                  refine w_same (fun hq => ?_)
                                  refine W.widen (k := qcap T (T.us + (n + 12 - i))) (n := 2 * qcap T (T.us + (n + 12 - i))) (by omega) (by omega) ?_
                                  exact W.zret (v := 0) hx hb hr rfl (fun t9 ht hW => ⟨⟨0, (Tb, us ++ [u9], (escM f n q (escM f n q j).2).2, b7), rfl, ⟨hX_Tb, Or.inr ⟨rfl, hqQ.trans hfin, by show (us ++ [u9]).length ≤ n + 12 - i; first | omega | (simp only [List.length_append, List.length_singleton]; omega), by show (escM f n q (escM f n q j).2).2 ≤ n + 30; omega⟩⟩, ⟨by rw [ht]; exact hP, va_K.moved hW.alike hK, hD⟩, by rw [ht]; exact hq.mono (Nat.le_refl _) (Nat.le_refl _)⟩, hS.F ht⟩) hS.2.2 d_Mo_quoted_281
                            · refine lv_aload_n hx hb d_Mo_quoted_244 rfl (lv_at hl 4 rfl) ?_
                              refine va_get (D := (dC, dI)) (ci := 13) (v := .int b3) (C := R_Mo) (T := F_Mo) (N := 30) hx hb hts in_Mo hown hK hP 0 rfl rfl 9 (by decide) (hts _ w_1098) (fun _ h9 => h9) (MFg (by decide) rf_9) d_Mo_quoted_245 ?_
                              refine lv_aload_n hx hb d_Mo_quoted_248 rfl (lv_at hl 4 rfl) ?_
                              refine va_get (D := (dC, dI)) (ci := 13) (v := .int (nI n)) (C := R_Mo) (T := F_Mo) (N := 30) hx hb hts in_Mo hown hK hP 0 rfl rfl 8 (by decide) (hts _ w_1097) (fun _ h9 => h9) (MFg (by decide) ((rf_ne (by decide) (by decide)).trans h8)) d_Mo_quoted_249 ?_
                              refine lv_icmp_ge (tgt := 260) hx hb d_Mo_quoted_252 (by decide) (fun c252 => ?_) (fun c252 => ?_)
                              · refine lv_iconst (v := 0) hx hb d_Mo_quoted_260 (by decide) ?_
                                have hfin : qtM f n q (n + 13) (i + 1) [] = none := by
                                  rw [← hI4, hk0]
                                  simp only [qtM]
                                  rw [if_neg (fun h => c15 (h_r1.trans h)), if_neg (fun h => by rw [← h_r2] at h; exact h.elim c33 (fun h => h c40)), if_neg (fun h => h (h_r2.symm.trans c74)), if_neg (fun h => h (by rw [← h_u]; exact c105)), if_neg (fun h => by rw [← h_u] at h; exact h.1 c114), if_neg (fun h => by rw [← h_u] at h; exact h.elim c140 (fun h => h c147)), if_neg (fun h => h hj2), if_neg (fun h => h (h_r3.symm.trans c179)), if_neg (fun h => h hj3), if_neg (fun h => h c223), if_pos (by rw [← h_v]; exact c241)]
                                have hcp3 := q_cap hX_Tb (B := (T.us + (n + 12 - i))) (by first | omega | (simp only [List.length_append, List.length_singleton]; omega))
                                refine w_same (fun hq => ?_)
                                refine W.widen (k := qcap T (T.us + (n + 12 - i))) (n := 2 * qcap T (T.us + (n + 12 - i))) (by omega) (by omega) ?_
                                exact W.zret (v := 0) hx hb hr rfl (fun t9 ht hW => ⟨⟨0, (Tb, us ++ [u9], (escM f n q (escM f n q j).2).2, b3), rfl, ⟨hX_Tb, Or.inr ⟨rfl, hqQ.trans hfin, by show (us ++ [u9]).length ≤ n + 12 - i; first | omega | (simp only [List.length_append, List.length_singleton]; omega), by show (escM f n q (escM f n q j).2).2 ≤ n + 30; omega⟩⟩, ⟨by rw [ht]; exact hP, va_K.moved hW.alike hK, hD⟩, by rw [ht]; exact hq.mono (Nat.le_refl _) (Nat.le_refl _)⟩, hS.F ht⟩) hS.2.2 d_Mo_quoted_261
                              · refine lv_aload_n hx hb d_Mo_quoted_255 rfl (lv_at hl 4 rfl) ?_
                                refine lv_iload_n hx hb d_Mo_quoted_256 rfl (lv_at hl 3 rfl) ?_
                                refine va_put (D := (dC, dI)) (ci := 13) (v := .int (nI j)) (ty := .int) (C := R_Mo) (T := F_Mo) (N := 30) hx hb hts in_Mo t_Mo t_Mo_ok n_Mo hown hK hP hD hS 0 rfl rfl 9 (by decide) (hts _ w_1098) (fun _ h9 => h9) rfl (by decide +kernel) rfl rfl (by rw [MFl]; decide) d_Mo_quoted_257 (fun H locs hP hD hS => ?_)
                                rw [MFs (n := 30) (k := 9) (by decide)] at hP hD
                                have hP : va_P (dC, dI) classes [(mo, .inr (13, MF 30 (va_up (rf v (escM f n q (escM f n q j).2).2 b3) 9 (.int (nI j))))), (qx, .inl (cB, NN, .inl f)), (t, .inr (12, MF 13 (tw Tb))), (Tb.au, .inl (cC, Tb.U, .inl Tb.un))] H := hP
                                have hD : va_D A [(mo, .inr (13, MF 30 (va_up (rf v (escM f n q (escM f n q j).2).2 b3) 9 (.int (nI j))))), (qx, .inl (cB, NN, .inl f)), (t, .inr (12, MF 13 (tw Tb))), (Tb.au, .inl (cC, Tb.U, .inl Tb.un))] := hD
                                rw [rf_u9] at hP hD
                                have hP : va_P (dC, dI) classes [(mo, .inr (13, MF 30 (rf v (escM f n q (escM f n q j).2).2 (nI j)))), (qx, .inl (cB, NN, .inl f)), (t, .inr (12, MF 13 (tw Tb))), (Tb.au, .inl (cC, Tb.U, .inl Tb.un))] H := hP
                                have hD : va_D A [(mo, .inr (13, MF 30 (rf v (escM f n q (escM f n q j).2).2 (nI j)))), (qx, .inl (cB, NN, .inl f)), (t, .inr (12, MF 13 (tw Tb))), (Tb.au, .inl (cC, Tb.U, .inl Tb.un))] := hD
                                refine lv_iconst (v := 0) hx hb d_Mo_quoted_260 (by decide) ?_
                                have hfin : qtM f n q (n + 13) (i + 1) [] = none := by
                                  rw [← hI4, hk0]
                                  simp only [qtM]
                                  rw [if_neg (fun h => c15 (h_r1.trans h)), if_neg (fun h => by rw [← h_r2] at h; exact h.elim c33 (fun h => h c40)), if_neg (fun h => h (h_r2.symm.trans c74)), if_neg (fun h => h (by rw [← h_u]; exact c105)), if_neg (fun h => by rw [← h_u] at h; exact h.1 c114), if_neg (fun h => by rw [← h_u] at h; exact h.elim c140 (fun h => h c147)), if_neg (fun h => h hj2), if_neg (fun h => h (h_r3.symm.trans c179)), if_neg (fun h => h hj3), if_neg (fun h => h c223), if_pos (by rw [← h_v]; exact c241)]
                                have hcp3 := q_cap hX_Tb (B := (T.us + (n + 12 - i))) (by first | omega | (simp only [List.length_append, List.length_singleton]; omega))
                                refine w_same (fun hq => ?_)
                                refine W.widen (k := qcap T (T.us + (n + 12 - i))) (n := 2 * qcap T (T.us + (n + 12 - i))) (by omega) (by omega) ?_
                                exact W.zret (v := 0) hx hb hr rfl (fun t9 ht hW => ⟨⟨0, (Tb, us ++ [u9], (escM f n q (escM f n q j).2).2, (nI j)), rfl, ⟨hX_Tb, Or.inr ⟨rfl, hqQ.trans hfin, by show (us ++ [u9]).length ≤ n + 12 - i; first | omega | (simp only [List.length_append, List.length_singleton]; omega), by show (escM f n q (escM f n q j).2).2 ≤ n + 30; omega⟩⟩, ⟨by rw [ht]; exact hP, va_K.moved hW.alike hK, hD⟩, by rw [ht]; exact hq.mono (Nat.le_refl _) (Nat.le_refl _)⟩, hS.F ht⟩) hS.2.2 d_Mo_quoted_261
                          · refine lv_aload_n hx hb d_Mo_quoted_226 rfl (lv_at hl 3 rfl) ?_
                            refine lv_iload_n hx hb d_Mo_quoted_227 rfl (lv_at hl 2 rfl) ?_
                            have hPc := hP.sub (ws' := [(mo, .inr (13, MF 30 (rf v (escM f n q j).2 b2)))]) [0] rfl
                            have hDc := hD.sub (ws' := [(mo, .inr (13, MF 30 (rf v (escM f n q j).2 b2)))]) [0] (by decide) rfl
                            have hKc := hK.sub (tys' := []) [] rfl
                            have hFc := va_free (wc := [(mo, .inr (13, MF 30 (rf v (escM f n q j).2 b2)))]) hD hS hA [0] rfl
                            refine va_calli (va_runV (As := [.int (nI j)]) (rest := []) ⟨hx, hb, hml, hown, hts⟩ (c_Mo_fail l dC dI mo H (rf v (escM f n q j).2 b2) b2 ((nI j)) rf_9) (cwV 1 hts (gt_V (own := R_Mo) (C := R_Mo) (i := 151) (y := y_Mo_fail) i_Mo_fail w_1250 w_1252 (gt_sel (y := y_Mo_fail) (n := 30) (by decide +kernel)) w_7) rfl rfl rfl (by decide +kernel) ⟨Nat.le_of_ble_eq_true rfl, Nat.le_of_ble_eq_true rfl⟩) ⟨mp_blind, va_recv hKc hPc (ci := 13) (q0 := 0) rfl rfl, fun U hU hW => ⟨rfl, hU, by rw [hU]; exact hPc, va_K.moved hW.alike hKc, hDc.weaken (fun _ _ _ _ => trivial)⟩⟩ rfl rfl hl.1 rfl (lv_room (Nat.le_of_ble_eq_true rfl)) d_Mo_quoted_228 ⟨hcp_Tb, hcq_Tb⟩) hS (fun q _ h => hFc q h) hFc (fun r0 u2 t9 H1 locs ht hvm hw hB hz1 hk1 hS => ?_)
                            obtain ⟨hP1, hK1, hD1⟩ := hB
                            rw [ht] at hP1
                            obtain ⟨hP, hD⟩ := va_join (wr := [(qx, .inl (cB, NN, .inl f)), (t, .inr (12, MF 13 (tw Tb))), (Tb.au, .inl (cC, Tb.U, .inl Tb.un))]) (w1 := [(mo, .inr (13, MF 30 u2))]) hP hD [0] [1, 2, 3] rfl rfl (by decide) (by decide) hk1 hFc hP1 hD1
                            generalize H1 = H at hP hS ⊢
                            have hP : va_P (dC, dI) classes [(qx, .inl (cB, NN, .inl f)), (t, .inr (12, MF 13 (tw Tb))), (Tb.au, .inl (cC, Tb.U, .inl Tb.un)), (mo, .inr (13, MF 30 u2))] H := hP
                            have hD : va_D A [(qx, .inl (cB, NN, .inl f)), (t, .inr (12, MF 13 (tw Tb))), (Tb.au, .inl (cC, Tb.U, .inl Tb.un)), (mo, .inr (13, MF 30 u2))] := hD
                            have hP := hP.sub (ws' := [(mo, .inr (13, MF 30 u2)), (qx, .inl (cB, NN, .inl f)), (t, .inr (12, MF 13 (tw Tb))), (Tb.au, .inl (cC, Tb.U, .inl Tb.un))]) [3, 0, 1, 2] rfl
                            have hD := hD.sub (ws' := [(mo, .inr (13, MF 30 u2)), (qx, .inl (cB, NN, .inl f)), (t, .inr (12, MF 13 (tw Tb))), (Tb.au, .inl (cC, Tb.U, .inl Tb.un))]) [3, 0, 1, 2] (by decide) rfl
                            obtain ⟨b7, h_b7⟩ := rf_fail (v := v) (i := (escM f n q j).2) (br := b2) (b2 := b2) (wh := (nI j))
                            have hw : r0 = 0 ∧ u2 = _ := hw
                            obtain ⟨hw1, hw2⟩ := hw
                            rw [h_b7] at hw2
                            rw [hw2] at hP hD
                            subst hw1
                            have hP : va_P (dC, dI) classes [(mo, .inr (13, MF 30 (rf v (escM f n q j).2 b7))), (qx, .inl (cB, NN, .inl f)), (t, .inr (12, MF 13 (tw Tb))), (Tb.au, .inl (cC, Tb.U, .inl Tb.un))] H := hP
                            have hD : va_D A [(mo, .inr (13, MF 30 (rf v (escM f n q j).2 b7))), (qx, .inl (cB, NN, .inl f)), (t, .inr (12, MF 13 (tw Tb))), (Tb.au, .inl (cC, Tb.U, .inl Tb.un))] := hD
                            have hfin : qtM f n q (n + 13) (i + 1) [] = none := by
                              rw [← hI4, hk0]
                              simp only [qtM]
                              rw [if_neg (fun h => c15 (h_r1.trans h)), if_neg (fun h => by rw [← h_r2] at h; exact h.elim c33 (fun h => h c40)), if_neg (fun h => h (h_r2.symm.trans c74)), if_neg (fun h => h (by rw [← h_u]; exact c105)), if_neg (fun h => by rw [← h_u] at h; exact h.1 c114), if_neg (fun h => by rw [← h_u] at h; exact h.elim c140 (fun h => h c147)), if_neg (fun h => h hj2), if_neg (fun h => h (h_r3.symm.trans c179)), if_neg (fun h => h hj3), if_pos c223]
                            have hcp3 := q_cap hX_Tb (B := (T.us + (n + 12 - i))) (by first | omega | (simp only [List.length_append, List.length_singleton]; omega))
                            refine w_same (fun hq => ?_)
                            refine W.widen (k := qcap T (T.us + (n + 12 - i))) (n := 2 * qcap T (T.us + (n + 12 - i))) (by omega) (by omega) ?_
                            exact W.zret (v := 0) hx hb hr rfl (fun t9 ht hW => ⟨⟨0, (Tb, us ++ [u9], (escM f n q j).2, b7), rfl, ⟨hX_Tb, Or.inr ⟨rfl, hqQ.trans hfin, by show (us ++ [u9]).length ≤ n + 12 - i; first | omega | (simp only [List.length_append, List.length_singleton]; omega), by show (escM f n q j).2 ≤ n + 30; omega⟩⟩, ⟨by rw [ht]; exact hP, va_K.moved hW.alike hK, hD⟩, by rw [ht]; exact hq.mono (Nat.le_refl _) (Nat.le_refl _)⟩, hS.F ht⟩) hS.2.2 d_Mo_quoted_231
                        · have hj3 : ¬ (escM f n q j).2 + 1 < n := fun h => c198 (by rw [nI_ltI (by omega) (by omega)]; exact h)
                          refine lv_aload_n hx hb d_Mo_quoted_201 rfl (lv_at hl 3 rfl) ?_
                          refine lv_aload_n hx hb d_Mo_quoted_202 rfl (lv_at hl 3 rfl) ?_
                          refine va_get (D := (dC, dI)) (ci := 13) (v := .int (nI n)) (C := R_Mo) (T := F_Mo) (N := 30) hx hb hts in_Mo hown hK hP 0 rfl rfl 8 (by decide) (hts _ w_1097) (fun _ h9 => h9) (MFg (by decide) ((rf_ne (by decide) (by decide)).trans h8)) d_Mo_quoted_203 ?_
                          have hPc := hP.sub (ws' := [(mo, .inr (13, MF 30 (rf v (escM f n q j).2 b2)))]) [0] rfl
                          have hDc := hD.sub (ws' := [(mo, .inr (13, MF 30 (rf v (escM f n q j).2 b2)))]) [0] (by decide) rfl
                          have hKc := hK.sub (tys' := []) [] rfl
                          have hFc := va_free (wc := [(mo, .inr (13, MF 30 (rf v (escM f n q j).2 b2)))]) hD hS hA [0] rfl
                          refine va_calli (va_runV (As := [.int (nI n)]) (rest := []) ⟨hx, hb, hml, hown, hts⟩ (c_Mo_fail l dC dI mo H (rf v (escM f n q j).2 b2) b2 ((nI n)) rf_9) (cwV 1 hts (gt_V (own := R_Mo) (C := R_Mo) (i := 151) (y := y_Mo_fail) i_Mo_fail w_1250 w_1252 (gt_sel (y := y_Mo_fail) (n := 30) (by decide +kernel)) w_7) rfl rfl rfl (by decide +kernel) ⟨Nat.le_of_ble_eq_true rfl, Nat.le_of_ble_eq_true rfl⟩) ⟨mp_blind, va_recv hKc hPc (ci := 13) (q0 := 0) rfl rfl, fun U hU hW => ⟨rfl, hU, by rw [hU]; exact hPc, va_K.moved hW.alike hKc, hDc.weaken (fun _ _ _ _ => trivial)⟩⟩ rfl rfl hl.1 rfl (lv_room (Nat.le_of_ble_eq_true rfl)) d_Mo_quoted_206 ⟨hcp_Tb, hcq_Tb⟩) hS (fun q _ h => hFc q h) hFc (fun r0 u2 t9 H1 locs ht hvm hw hB hz1 hk1 hS => ?_)
                          obtain ⟨hP1, hK1, hD1⟩ := hB
                          rw [ht] at hP1
                          obtain ⟨hP, hD⟩ := va_join (wr := [(qx, .inl (cB, NN, .inl f)), (t, .inr (12, MF 13 (tw Tb))), (Tb.au, .inl (cC, Tb.U, .inl Tb.un))]) (w1 := [(mo, .inr (13, MF 30 u2))]) hP hD [0] [1, 2, 3] rfl rfl (by decide) (by decide) hk1 hFc hP1 hD1
                          generalize H1 = H at hP hS ⊢
                          have hP : va_P (dC, dI) classes [(qx, .inl (cB, NN, .inl f)), (t, .inr (12, MF 13 (tw Tb))), (Tb.au, .inl (cC, Tb.U, .inl Tb.un)), (mo, .inr (13, MF 30 u2))] H := hP
                          have hD : va_D A [(qx, .inl (cB, NN, .inl f)), (t, .inr (12, MF 13 (tw Tb))), (Tb.au, .inl (cC, Tb.U, .inl Tb.un)), (mo, .inr (13, MF 30 u2))] := hD
                          have hP := hP.sub (ws' := [(mo, .inr (13, MF 30 u2)), (qx, .inl (cB, NN, .inl f)), (t, .inr (12, MF 13 (tw Tb))), (Tb.au, .inl (cC, Tb.U, .inl Tb.un))]) [3, 0, 1, 2] rfl
                          have hD := hD.sub (ws' := [(mo, .inr (13, MF 30 u2)), (qx, .inl (cB, NN, .inl f)), (t, .inr (12, MF 13 (tw Tb))), (Tb.au, .inl (cC, Tb.U, .inl Tb.un))]) [3, 0, 1, 2] (by decide) rfl
                          obtain ⟨b7, h_b7⟩ := rf_fail (v := v) (i := (escM f n q j).2) (br := b2) (b2 := b2) (wh := (nI n))
                          have hw : r0 = 0 ∧ u2 = _ := hw
                          obtain ⟨hw1, hw2⟩ := hw
                          rw [h_b7] at hw2
                          rw [hw2] at hP hD
                          subst hw1
                          have hP : va_P (dC, dI) classes [(mo, .inr (13, MF 30 (rf v (escM f n q j).2 b7))), (qx, .inl (cB, NN, .inl f)), (t, .inr (12, MF 13 (tw Tb))), (Tb.au, .inl (cC, Tb.U, .inl Tb.un))] H := hP
                          have hD : va_D A [(mo, .inr (13, MF 30 (rf v (escM f n q j).2 b7))), (qx, .inl (cB, NN, .inl f)), (t, .inr (12, MF 13 (tw Tb))), (Tb.au, .inl (cC, Tb.U, .inl Tb.un))] := hD
                          have hfin : qtM f n q (n + 13) (i + 1) [] = none := by
                            rw [← hI4, hk0]
                            simp only [qtM]
                            rw [if_neg (fun h => c15 (h_r1.trans h)), if_neg (fun h => by rw [← h_r2] at h; exact h.elim c33 (fun h => h c40)), if_neg (fun h => h (h_r2.symm.trans c74)), if_neg (fun h => h (by rw [← h_u]; exact c105)), if_neg (fun h => by rw [← h_u] at h; exact h.1 c114), if_neg (fun h => by rw [← h_u] at h; exact h.elim c140 (fun h => h c147)), if_neg (fun h => h hj2), if_neg (fun h => h (h_r3.symm.trans c179)), if_pos hj3]
                          have hcp3 := q_cap hX_Tb (B := (T.us + (n + 12 - i))) (by first | omega | (simp only [List.length_append, List.length_singleton]; omega))
                          refine w_same (fun hq => ?_)
                          refine W.widen (k := qcap T (T.us + (n + 12 - i))) (n := 2 * qcap T (T.us + (n + 12 - i))) (by omega) (by omega) ?_
                          exact W.zret (v := 0) hx hb hr rfl (fun t9 ht hW => ⟨⟨0, (Tb, us ++ [u9], (escM f n q j).2, b7), rfl, ⟨hX_Tb, Or.inr ⟨rfl, hqQ.trans hfin, by show (us ++ [u9]).length ≤ n + 12 - i; first | omega | (simp only [List.length_append, List.length_singleton]; omega), by show (escM f n q j).2 ≤ n + 30; omega⟩⟩, ⟨by rw [ht]; exact hP, va_K.moved hW.alike hK, hD⟩, by rw [ht]; exact hq.mono (Nat.le_refl _) (Nat.le_refl _)⟩, hS.F ht⟩) hS.2.2 d_Mo_quoted_209
                      · refine lv_aload_n hx hb d_Mo_quoted_182 rfl (lv_at hl 3 rfl) ?_
                        refine lv_iload_n hx hb d_Mo_quoted_183 rfl (lv_at hl 2 rfl) ?_
                        have hPc := hP.sub (ws' := [(mo, .inr (13, MF 30 (rf v (escM f n q j).2 b2)))]) [0] rfl
                        have hDc := hD.sub (ws' := [(mo, .inr (13, MF 30 (rf v (escM f n q j).2 b2)))]) [0] (by decide) rfl
                        have hKc := hK.sub (tys' := []) [] rfl
                        have hFc := va_free (wc := [(mo, .inr (13, MF 30 (rf v (escM f n q j).2 b2)))]) hD hS hA [0] rfl
                        refine va_calli (va_runV (As := [.int (nI j)]) (rest := []) ⟨hx, hb, hml, hown, hts⟩ (c_Mo_fail l dC dI mo H (rf v (escM f n q j).2 b2) b2 ((nI j)) rf_9) (cwV 1 hts (gt_V (own := R_Mo) (C := R_Mo) (i := 151) (y := y_Mo_fail) i_Mo_fail w_1250 w_1252 (gt_sel (y := y_Mo_fail) (n := 30) (by decide +kernel)) w_7) rfl rfl rfl (by decide +kernel) ⟨Nat.le_of_ble_eq_true rfl, Nat.le_of_ble_eq_true rfl⟩) ⟨mp_blind, va_recv hKc hPc (ci := 13) (q0 := 0) rfl rfl, fun U hU hW => ⟨rfl, hU, by rw [hU]; exact hPc, va_K.moved hW.alike hKc, hDc.weaken (fun _ _ _ _ => trivial)⟩⟩ rfl rfl hl.1 rfl (lv_room (Nat.le_of_ble_eq_true rfl)) d_Mo_quoted_184 ⟨hcp_Tb, hcq_Tb⟩) hS (fun q _ h => hFc q h) hFc (fun r0 u2 t9 H1 locs ht hvm hw hB hz1 hk1 hS => ?_)
                        obtain ⟨hP1, hK1, hD1⟩ := hB
                        rw [ht] at hP1
                        obtain ⟨hP, hD⟩ := va_join (wr := [(qx, .inl (cB, NN, .inl f)), (t, .inr (12, MF 13 (tw Tb))), (Tb.au, .inl (cC, Tb.U, .inl Tb.un))]) (w1 := [(mo, .inr (13, MF 30 u2))]) hP hD [0] [1, 2, 3] rfl rfl (by decide) (by decide) hk1 hFc hP1 hD1
                        generalize H1 = H at hP hS ⊢
                        have hP : va_P (dC, dI) classes [(qx, .inl (cB, NN, .inl f)), (t, .inr (12, MF 13 (tw Tb))), (Tb.au, .inl (cC, Tb.U, .inl Tb.un)), (mo, .inr (13, MF 30 u2))] H := hP
                        have hD : va_D A [(qx, .inl (cB, NN, .inl f)), (t, .inr (12, MF 13 (tw Tb))), (Tb.au, .inl (cC, Tb.U, .inl Tb.un)), (mo, .inr (13, MF 30 u2))] := hD
                        have hP := hP.sub (ws' := [(mo, .inr (13, MF 30 u2)), (qx, .inl (cB, NN, .inl f)), (t, .inr (12, MF 13 (tw Tb))), (Tb.au, .inl (cC, Tb.U, .inl Tb.un))]) [3, 0, 1, 2] rfl
                        have hD := hD.sub (ws' := [(mo, .inr (13, MF 30 u2)), (qx, .inl (cB, NN, .inl f)), (t, .inr (12, MF 13 (tw Tb))), (Tb.au, .inl (cC, Tb.U, .inl Tb.un))]) [3, 0, 1, 2] (by decide) rfl
                        obtain ⟨b7, h_b7⟩ := rf_fail (v := v) (i := (escM f n q j).2) (br := b2) (b2 := b2) (wh := (nI j))
                        have hw : r0 = 0 ∧ u2 = _ := hw
                        obtain ⟨hw1, hw2⟩ := hw
                        rw [h_b7] at hw2
                        rw [hw2] at hP hD
                        subst hw1
                        have hP : va_P (dC, dI) classes [(mo, .inr (13, MF 30 (rf v (escM f n q j).2 b7))), (qx, .inl (cB, NN, .inl f)), (t, .inr (12, MF 13 (tw Tb))), (Tb.au, .inl (cC, Tb.U, .inl Tb.un))] H := hP
                        have hD : va_D A [(mo, .inr (13, MF 30 (rf v (escM f n q j).2 b7))), (qx, .inl (cB, NN, .inl f)), (t, .inr (12, MF 13 (tw Tb))), (Tb.au, .inl (cC, Tb.U, .inl Tb.un))] := hD
                        have hfin : qtM f n q (n + 13) (i + 1) [] = none := by
                          rw [← hI4, hk0]
                          simp only [qtM]
                          rw [if_neg (fun h => c15 (h_r1.trans h)), if_neg (fun h => by rw [← h_r2] at h; exact h.elim c33 (fun h => h c40)), if_neg (fun h => h (h_r2.symm.trans c74)), if_neg (fun h => h (by rw [← h_u]; exact c105)), if_neg (fun h => by rw [← h_u] at h; exact h.1 c114), if_neg (fun h => by rw [← h_u] at h; exact h.elim c140 (fun h => h c147)), if_neg (fun h => h hj2), if_pos (fun h => c179 (h_r3.trans h))]
                        have hcp3 := q_cap hX_Tb (B := (T.us + (n + 12 - i))) (by first | omega | (simp only [List.length_append, List.length_singleton]; omega))
                        refine w_same (fun hq => ?_)
                        refine W.widen (k := qcap T (T.us + (n + 12 - i))) (n := 2 * qcap T (T.us + (n + 12 - i))) (by omega) (by omega) ?_
                        exact W.zret (v := 0) hx hb hr rfl (fun t9 ht hW => ⟨⟨0, (Tb, us ++ [u9], (escM f n q j).2, b7), rfl, ⟨hX_Tb, Or.inr ⟨rfl, hqQ.trans hfin, by show (us ++ [u9]).length ≤ n + 12 - i; first | omega | (simp only [List.length_append, List.length_singleton]; omega), by show (escM f n q j).2 ≤ n + 30; omega⟩⟩, ⟨by rw [ht]; exact hP, va_K.moved hW.alike hK, hD⟩, by rw [ht]; exact hq.mono (Nat.le_refl _) (Nat.le_refl _)⟩, hS.F ht⟩) hS.2.2 d_Mo_quoted_187
                    · have hj2 : ¬ (escM f n q j).2 < n := fun h => c161 (by rw [nI_ltI (by omega) (by omega)]; exact h)
                      refine lv_aload_n hx hb d_Mo_quoted_164 rfl (lv_at hl 3 rfl) ?_
                      refine lv_aload_n hx hb d_Mo_quoted_165 rfl (lv_at hl 3 rfl) ?_
                      refine va_get (D := (dC, dI)) (ci := 13) (v := .int (nI n)) (C := R_Mo) (T := F_Mo) (N := 30) hx hb hts in_Mo hown hK hP 0 rfl rfl 8 (by decide) (hts _ w_1097) (fun _ h9 => h9) (MFg (by decide) ((rf_ne (by decide) (by decide)).trans h8)) d_Mo_quoted_166 ?_
                      have hPc := hP.sub (ws' := [(mo, .inr (13, MF 30 (rf v (escM f n q j).2 b2)))]) [0] rfl
                      have hDc := hD.sub (ws' := [(mo, .inr (13, MF 30 (rf v (escM f n q j).2 b2)))]) [0] (by decide) rfl
                      have hKc := hK.sub (tys' := []) [] rfl
                      have hFc := va_free (wc := [(mo, .inr (13, MF 30 (rf v (escM f n q j).2 b2)))]) hD hS hA [0] rfl
                      refine va_calli (va_runV (As := [.int (nI n)]) (rest := []) ⟨hx, hb, hml, hown, hts⟩ (c_Mo_fail l dC dI mo H (rf v (escM f n q j).2 b2) b2 ((nI n)) rf_9) (cwV 1 hts (gt_V (own := R_Mo) (C := R_Mo) (i := 151) (y := y_Mo_fail) i_Mo_fail w_1250 w_1252 (gt_sel (y := y_Mo_fail) (n := 30) (by decide +kernel)) w_7) rfl rfl rfl (by decide +kernel) ⟨Nat.le_of_ble_eq_true rfl, Nat.le_of_ble_eq_true rfl⟩) ⟨mp_blind, va_recv hKc hPc (ci := 13) (q0 := 0) rfl rfl, fun U hU hW => ⟨rfl, hU, by rw [hU]; exact hPc, va_K.moved hW.alike hKc, hDc.weaken (fun _ _ _ _ => trivial)⟩⟩ rfl rfl hl.1 rfl (lv_room (Nat.le_of_ble_eq_true rfl)) d_Mo_quoted_169 ⟨hcp_Tb, hcq_Tb⟩) hS (fun q _ h => hFc q h) hFc (fun r0 u2 t9 H1 locs ht hvm hw hB hz1 hk1 hS => ?_)
                      obtain ⟨hP1, hK1, hD1⟩ := hB
                      rw [ht] at hP1
                      obtain ⟨hP, hD⟩ := va_join (wr := [(qx, .inl (cB, NN, .inl f)), (t, .inr (12, MF 13 (tw Tb))), (Tb.au, .inl (cC, Tb.U, .inl Tb.un))]) (w1 := [(mo, .inr (13, MF 30 u2))]) hP hD [0] [1, 2, 3] rfl rfl (by decide) (by decide) hk1 hFc hP1 hD1
                      generalize H1 = H at hP hS ⊢
                      have hP : va_P (dC, dI) classes [(qx, .inl (cB, NN, .inl f)), (t, .inr (12, MF 13 (tw Tb))), (Tb.au, .inl (cC, Tb.U, .inl Tb.un)), (mo, .inr (13, MF 30 u2))] H := hP
                      have hD : va_D A [(qx, .inl (cB, NN, .inl f)), (t, .inr (12, MF 13 (tw Tb))), (Tb.au, .inl (cC, Tb.U, .inl Tb.un)), (mo, .inr (13, MF 30 u2))] := hD
                      have hP := hP.sub (ws' := [(mo, .inr (13, MF 30 u2)), (qx, .inl (cB, NN, .inl f)), (t, .inr (12, MF 13 (tw Tb))), (Tb.au, .inl (cC, Tb.U, .inl Tb.un))]) [3, 0, 1, 2] rfl
                      have hD := hD.sub (ws' := [(mo, .inr (13, MF 30 u2)), (qx, .inl (cB, NN, .inl f)), (t, .inr (12, MF 13 (tw Tb))), (Tb.au, .inl (cC, Tb.U, .inl Tb.un))]) [3, 0, 1, 2] (by decide) rfl
                      obtain ⟨b7, h_b7⟩ := rf_fail (v := v) (i := (escM f n q j).2) (br := b2) (b2 := b2) (wh := (nI n))
                      have hw : r0 = 0 ∧ u2 = _ := hw
                      obtain ⟨hw1, hw2⟩ := hw
                      rw [h_b7] at hw2
                      rw [hw2] at hP hD
                      subst hw1
                      have hP : va_P (dC, dI) classes [(mo, .inr (13, MF 30 (rf v (escM f n q j).2 b7))), (qx, .inl (cB, NN, .inl f)), (t, .inr (12, MF 13 (tw Tb))), (Tb.au, .inl (cC, Tb.U, .inl Tb.un))] H := hP
                      have hD : va_D A [(mo, .inr (13, MF 30 (rf v (escM f n q j).2 b7))), (qx, .inl (cB, NN, .inl f)), (t, .inr (12, MF 13 (tw Tb))), (Tb.au, .inl (cC, Tb.U, .inl Tb.un))] := hD
                      have hfin : qtM f n q (n + 13) (i + 1) [] = none := by
                        rw [← hI4, hk0]
                        simp only [qtM]
                        rw [if_neg (fun h => c15 (h_r1.trans h)), if_neg (fun h => by rw [← h_r2] at h; exact h.elim c33 (fun h => h c40)), if_neg (fun h => h (h_r2.symm.trans c74)), if_neg (fun h => h (by rw [← h_u]; exact c105)), if_neg (fun h => by rw [← h_u] at h; exact h.1 c114), if_neg (fun h => by rw [← h_u] at h; exact h.elim c140 (fun h => h c147)), if_pos hj2]
                      have hcp3 := q_cap hX_Tb (B := (T.us + (n + 12 - i))) (by first | omega | (simp only [List.length_append, List.length_singleton]; omega))
                      refine w_same (fun hq => ?_)
                      refine W.widen (k := qcap T (T.us + (n + 12 - i))) (n := 2 * qcap T (T.us + (n + 12 - i))) (by omega) (by omega) ?_
                      exact W.zret (v := 0) hx hb hr rfl (fun t9 ht hW => ⟨⟨0, (Tb, us ++ [u9], (escM f n q j).2, b7), rfl, ⟨hX_Tb, Or.inr ⟨rfl, hqQ.trans hfin, by show (us ++ [u9]).length ≤ n + 12 - i; first | omega | (simp only [List.length_append, List.length_singleton]; omega), by show (escM f n q j).2 ≤ n + 30; omega⟩⟩, ⟨by rw [ht]; exact hP, va_K.moved hW.alike hK, hD⟩, by rw [ht]; exact hq.mono (Nat.le_refl _) (Nat.le_refl _)⟩, hS.F ht⟩) hS.2.2 d_Mo_quoted_172
                  · refine lv_goto (tgt := 10) hx hb d_Mo_quoted_150 (by decide) ?_
                    refine w_same (fun hq => ?_)
                    have hcp2 := q_cap hX_Tb (B := (T.us + (n + 12 - i))) (by first | omega | (simp only [List.length_append, List.length_singleton]; omega))
                    refine W.widen (k := qcap T (T.us + (n + 12 - i))) (n := 2 * qcap T (T.us + (n + 12 - i))) (by omega) (by omega) ?_
                    have hst : qtM f n q k0 (escM f n q j).2 (us ++ [u9]) = qtM f n q (n + 13) (i + 1) [] := by
                      rw [← hI4, hk0]
                      simp only [qtM]
                      rw [if_neg (fun h => c15 (h_r1.trans h)), if_neg (fun h => by rw [← h_r2] at h; exact h.elim c33 (fun h => h c40)), if_neg (fun h => h (h_r2.symm.trans c74)), if_neg (fun h => h (by rw [← h_u]; exact c105)), if_neg (fun h => by rw [← h_u] at h; exact h.1 c114), if_pos (Or.inr (by rw [← h_u]; exact c147)), ← h_u]
                    exact ih (Tb, us ++ [u9], k0, (escM f n q j).2, b2) _ _ _ ⟨hX_Tb, by first | omega | (simp only [List.length_append, List.length_singleton]; omega), by omega, by omega, hst, hq⟩ (by show n + 13 - (escM f n q j).2 < n + 13 - j; omega) hP hD hS (lv_sub hl [3, 4, 5] rfl)
              · refine lv_iload hx hb d_Mo_quoted_117 (lv_at hl 0 rfl) ?_
                refine lv_ldc (v := 57343) hx hb hown (hts _ w_1336) d_Mo_quoted_119 ?_
                refine lv_icmp_gt (tgt := 130) hx hb d_Mo_quoted_121 (by decide) (fun c121 => ?_) (fun c121 => ?_)
                · refine lv_aload_n hx hb d_Mo_quoted_130 rfl (lv_at hl 5 rfl) ?_
                  refine lv_iload hx hb d_Mo_quoted_131 (lv_at hl 0 rfl) ?_
                  have hft := q_fit hTX hT0 (B := (T.us + (n + 12 - i))) (by first | omega | (simp only [List.length_append, List.length_singleton]; omega))
                  have hPc := hP.sub (ws' := [(t, .inr (12, MF 13 (tw Tc))), (Tc.au, .inl (cC, Tc.U, .inl Tc.un))]) [2, 3] rfl
                  have hDc := hD.sub (ws' := [(t, .inr (12, MF 13 (tw Tc))), (Tc.au, .inl (cC, Tc.U, .inl Tc.un))]) [2, 3] (by decide) rfl
                  have hKc := hK.sub (tys' := [(cC, .char)]) [1] rfl
                  have hFc := va_free (wc := [(t, .inr (12, MF 13 (tw Tc))), (Tc.au, .inl (cC, Tc.U, .inl Tc.un))]) hD hS hA [2, 3] rfl
                  refine w_same (fun hq0 => ?_)
                  refine va_callv (va_runV (As := [.int u9]) (rest := []) ⟨hx, hb, hml, hown, hts⟩ (c_Tree_unitT l dC dI t H cC Tc u9 hTc) (cwV 1 hts (gt_V (own := R_Mo) (C := R_Tree) (i := 177) (y := y_Tree_unit) i_Tree_unit w_1265 w_1266 w_1267 w_8) rfl rfl rfl (by decide +kernel) ⟨Nat.le_of_ble_eq_true rfl, Nat.le_of_ble_eq_true rfl⟩) ⟨mp_blind, va_recv hKc hPc (ci := 12) (q0 := 0) rfl rfl, fun U hU hW => ⟨rfl, hU, by rw [hU]; exact hPc, va_K.moved hW.alike hKc, hDc.weaken (fun _ _ _ _ => trivial)⟩⟩ rfl rfl hl.1 rfl (lv_room (Nat.le_of_ble_eq_true rfl)) d_Mo_quoted_133 ⟨by show Tc.U - T.U + grC Tc.U Tc.us ≤ qcap T (T.us + (n + 12 - i)); omega, by show 2 * (Tc.U - T.U) + grS Tc.U Tc.us ≤ 2 * qcap T (T.us + (n + 12 - i)); omega⟩) hS (fun q _ h => hFc q h) hFc (fun Tb t9 H1 locs ht hvm hw hB hz1 hk1 hS => ?_)
                  obtain ⟨⟨hP1, hK1, hD1⟩, hz9⟩ := hB
                  rw [ht] at hP1
                  rw [ht] at hz9
                  have hw : TX Tc Tb [u9] := hw
                  have hX_Tb : TX T Tb (us ++ [u9]) := by have := hTX.trans hw; simpa [List.append_assoc] using this
                  have hU1 := hw.U
                  have hU2 := hTX.U
                  have hq1 : szk s.heap H1 (Tb.U - T.U) (2 * (Tb.U - T.U)) := (hq0.trans hz9).mono (by omega) (by omega)
                  refine w_tight hq1 ?_
                  obtain ⟨hP, hD⟩ := va_join (wr := [(mo, .inr (13, MF 30 (rf v (escM f n q j).2 b2))), (qx, .inl (cB, NN, .inl f))]) (w1 := [(t, .inr (12, MF 13 (tw Tb))), (Tb.au, .inl (cC, Tb.U, .inl Tb.un))]) hP hD [2, 3] [0, 1] rfl rfl (by decide) (by decide) hk1 hFc hP1 hD1
                  generalize H1 = H at hP hS ⊢
                  have hP : va_P (dC, dI) classes [(mo, .inr (13, MF 30 (rf v (escM f n q j).2 b2))), (qx, .inl (cB, NN, .inl f)), (t, .inr (12, MF 13 (tw Tb))), (Tb.au, .inl (cC, Tb.U, .inl Tb.un))] H := hP
                  have hD : va_D A [(mo, .inr (13, MF 30 (rf v (escM f n q j).2 b2))), (qx, .inl (cB, NN, .inl f)), (t, .inr (12, MF 13 (tw Tb))), (Tb.au, .inl (cC, Tb.U, .inl Tb.un))] := hD
                  have hP := hP.sub (ws' := [(mo, .inr (13, MF 30 (rf v (escM f n q j).2 b2))), (qx, .inl (cB, NN, .inl f)), (t, .inr (12, MF 13 (tw Tb))), (Tb.au, .inl (cC, Tb.U, .inl Tb.un))]) [0, 1, 2, 3] rfl
                  have hD := hD.sub (ws' := [(mo, .inr (13, MF 30 (rf v (escM f n q j).2 b2))), (qx, .inl (cB, NN, .inl f)), (t, .inr (12, MF 13 (tw Tb))), (Tb.au, .inl (cC, Tb.U, .inl Tb.un))]) [0, 1, 2, 3] (by decide) rfl
                  have hk_Tb := hX_Tb.ok hT0 (by first | omega | (simp only [List.length_append, List.length_singleton]; omega))
                  have hcp_Tb := q_cap hX_Tb (B := (T.us + (n + 12 - i))) (by first | omega | (simp only [List.length_append, List.length_singleton]; omega))
                  have hcq_Tb : 2 * (Tb.U - T.U) ≤ 2 * qcap T (T.us + (n + 12 - i)) := by omega
                  refine lv_iload hx hb d_Mo_quoted_136 (lv_at hl 0 rfl) ?_
                  refine lv_ldc (v := 55296) hx hb hown (hts _ w_1337) d_Mo_quoted_138 ?_
                  refine lv_icmp_lt (tgt := 10) hx hb d_Mo_quoted_140 (by decide) (fun c140 => ?_) (fun c140 => ?_)
                  · refine w_same (fun hq => ?_)
                    have hcp2 := q_cap hX_Tb (B := (T.us + (n + 12 - i))) (by first | omega | (simp only [List.length_append, List.length_singleton]; omega))
                    refine W.widen (k := qcap T (T.us + (n + 12 - i))) (n := 2 * qcap T (T.us + (n + 12 - i))) (by omega) (by omega) ?_
                    have hst : qtM f n q k0 (escM f n q j).2 (us ++ [u9]) = qtM f n q (n + 13) (i + 1) [] := by
                      rw [← hI4, hk0]
                      simp only [qtM]
                      rw [if_neg (fun h => c15 (h_r1.trans h)), if_neg (fun h => by rw [← h_r2] at h; exact h.elim c33 (fun h => h c40)), if_neg (fun h => h (h_r2.symm.trans c74)), if_neg (fun h => h (by rw [← h_u]; exact c105)), if_neg (fun h => by rw [← h_u] at h; exact h.2 c121), if_pos (Or.inl (by rw [← h_u]; exact c140)), ← h_u]
                    exact ih (Tb, us ++ [u9], k0, (escM f n q j).2, b2) _ _ _ ⟨hX_Tb, by first | omega | (simp only [List.length_append, List.length_singleton]; omega), by omega, by omega, hst, hq⟩ (by show n + 13 - (escM f n q j).2 < n + 13 - j; omega) hP hD hS (lv_sub hl [3, 4, 5] rfl)
                  · refine lv_iload hx hb d_Mo_quoted_143 (lv_at hl 0 rfl) ?_
                    refine lv_ldc (v := 56319) hx hb hown (hts _ w_1338) d_Mo_quoted_145 ?_
                    refine lv_icmp_le (tgt := 153) hx hb d_Mo_quoted_147 (by decide) (fun c147 => ?_) (fun c147 => ?_)
                    · refine lv_aload_n hx hb d_Mo_quoted_153 rfl (lv_at hl 3 rfl) ?_
                      refine va_get (D := (dC, dI)) (ci := 13) (v := .int (nI (escM f n q j).2)) (C := R_Mo) (T := F_Mo) (N := 30) hx hb hts in_Mo hown hK hP 0 rfl rfl 7 (by decide) (hts _ w_1096) (fun _ h9 => h9) (MFg (by decide) rf_7) d_Mo_quoted_154 ?_
                      refine lv_aload_n hx hb d_Mo_quoted_157 rfl (lv_at hl 3 rfl) ?_
                      refine va_get (D := (dC, dI)) (ci := 13) (v := .int (nI n)) (C := R_Mo) (T := F_Mo) (N := 30) hx hb hts in_Mo hown hK hP 0 rfl rfl 8 (by decide) (hts _ w_1097) (fun _ h9 => h9) (MFg (by decide) ((rf_ne (by decide) (by decide)).trans h8)) d_Mo_quoted_158 ?_
                      refine lv_icmp_lt (tgt := 173) hx hb d_Mo_quoted_161 (by decide) (fun c161 => ?_) (fun c161 => ?_)
                      · have hj2 : (escM f n q j).2 < n := by rw [nI_ltI (by omega) (by omega)] at c161; exact c161
                        refine lv_aload_n hx hb d_Mo_quoted_173 rfl (lv_at hl 3 rfl) ?_
                        have hPc := hP.sub (ws' := [(mo, .inr (13, MF 30 (rf v (escM f n q j).2 b2))), (qx, .inl (cB, NN, .inl f))]) [0, 1] rfl
                        have hDc := hD.sub (ws' := [(mo, .inr (13, MF 30 (rf v (escM f n q j).2 b2))), (qx, .inl (cB, NN, .inl f))]) [0, 1] (by decide) rfl
                        have hKc := hK.sub (tys' := [(cB, .byte)]) [0] rfl
                        have hFc := va_free (wc := [(mo, .inr (13, MF 30 (rf v (escM f n q j).2 b2))), (qx, .inl (cB, NN, .inl f))]) hD hS hA [0, 1] rfl
                        refine va_calli (va_runV (As := []) (rest := []) ⟨hx, hb, hml, hown, hts⟩ (c_Mo_c l dC dI mo H (rf v (escM f n q j).2 b2) cB qx NN f n (escM f n q j).2 (by omega) (by omega) (by omega) ((rf_ne (by decide) (by decide)).trans h6) rf_7 ((rf_ne (by decide) (by decide)).trans h8)) (cwV 0 hts (gt_V (own := R_Mo) (C := R_Mo) (i := 147) (y := y_Mo_c) i_Mo_c w_1233 w_1235 (gt_sel (y := y_Mo_c) (n := 30) (by decide +kernel)) w_7) rfl rfl rfl (by decide +kernel) ⟨Nat.le_of_ble_eq_true rfl, Nat.le_of_ble_eq_true rfl⟩) ⟨mp_blind, va_recv hKc hPc (ci := 13) (q0 := 0) rfl rfl, fun U hU hW => ⟨rfl, hU, by rw [hU]; exact hPc, va_K.moved hW.alike hKc, hDc.weaken (fun _ _ _ _ => trivial)⟩⟩ rfl rfl hl.1 rfl (lv_room (Nat.le_of_ble_eq_true rfl)) d_Mo_quoted_174 ⟨hcp_Tb, hcq_Tb⟩) hS (fun q _ h => hFc q h) hFc (fun r3 _u t9 H1 locs ht hvm hw hB hz1 hk1 hS => ?_)
                        obtain ⟨hP1, hK1, hD1⟩ := hB
                        rw [ht] at hP1
                        obtain ⟨hP, hD⟩ := va_join (wr := [(t, .inr (12, MF 13 (tw Tb))), (Tb.au, .inl (cC, Tb.U, .inl Tb.un))]) (w1 := [(mo, .inr (13, MF 30 (rf v (escM f n q j).2 b2))), (qx, .inl (cB, NN, .inl f))]) hP hD [0, 1] [2, 3] rfl rfl (by decide) (by decide) hk1 hFc hP1 hD1
                        generalize H1 = H at hP hS ⊢
                        have hP : va_P (dC, dI) classes [(t, .inr (12, MF 13 (tw Tb))), (Tb.au, .inl (cC, Tb.U, .inl Tb.un)), (mo, .inr (13, MF 30 (rf v (escM f n q j).2 b2))), (qx, .inl (cB, NN, .inl f))] H := hP
                        have hD : va_D A [(t, .inr (12, MF 13 (tw Tb))), (Tb.au, .inl (cC, Tb.U, .inl Tb.un)), (mo, .inr (13, MF 30 (rf v (escM f n q j).2 b2))), (qx, .inl (cB, NN, .inl f))] := hD
                        have hP := hP.sub (ws' := [(mo, .inr (13, MF 30 (rf v (escM f n q j).2 b2))), (qx, .inl (cB, NN, .inl f)), (t, .inr (12, MF 13 (tw Tb))), (Tb.au, .inl (cC, Tb.U, .inl Tb.un))]) [2, 3, 0, 1] rfl
                        have hD := hD.sub (ws' := [(mo, .inr (13, MF 30 (rf v (escM f n q j).2 b2))), (qx, .inl (cB, NN, .inl f)), (t, .inr (12, MF 13 (tw Tb))), (Tb.au, .inl (cC, Tb.U, .inl Tb.un))]) [2, 3, 0, 1] (by decide) rfl
                        have h_r3 : r3 = hereV f n (escM f n q j).2 := hw
                        refine lv_bipush (v := 92) hx hb d_Mo_quoted_177 (by decide) ?_
                        refine lv_icmp_eq (tgt := 188) hx hb d_Mo_quoted_179 (by decide) (fun c179 => ?_) (fun c179 => ?_)
                        · refine lv_aload_n hx hb d_Mo_quoted_188 rfl (lv_at hl 3 rfl) ?_
                          refine va_get (D := (dC, dI)) (ci := 13) (v := .int (nI (escM f n q j).2)) (C := R_Mo) (T := F_Mo) (N := 30) hx hb hts in_Mo hown hK hP 0 rfl rfl 7 (by decide) (hts _ w_1096) (fun _ h9 => h9) (MFg (by decide) rf_7) d_Mo_quoted_189 ?_
                          refine lv_iconst (v := 1) hx hb d_Mo_quoted_192 (by decide) ?_
                          refine lv_iadd hx hb d_Mo_quoted_193 ?_
                          refine W.eq (g2 := F0 m 194 ls [.int (nI ((escM f n q j).2 + 1))]) (by rw [show ((nI (escM f n q j).2) + 1) = (nI ((escM f n q j).2 + 1)) from nI_1 _]) ?_
                          refine lv_aload_n hx hb d_Mo_quoted_194 rfl (lv_at hl 3 rfl) ?_
                          refine va_get (D := (dC, dI)) (ci := 13) (v := .int (nI n)) (C := R_Mo) (T := F_Mo) (N := 30) hx hb hts in_Mo hown hK hP 0 rfl rfl 8 (by decide) (hts _ w_1097) (fun _ h9 => h9) (MFg (by decide) ((rf_ne (by decide) (by decide)).trans h8)) d_Mo_quoted_195 ?_
                          refine lv_icmp_lt (tgt := 210) hx hb d_Mo_quoted_198 (by decide) (fun c198 => ?_) (fun c198 => ?_)
                          · have hj3 : (escM f n q j).2 + 1 < n := by rw [nI_ltI (by omega) (by omega)] at c198; exact c198
                            refine lv_aload_n hx hb d_Mo_quoted_210 rfl (lv_at hl 3 rfl) ?_
                            refine va_get (D := (dC, dI)) (ci := 13) (v := .ref qx) (C := R_Mo) (T := F_Mo) (N := 30) hx hb hts in_Mo hown hK hP 0 rfl rfl 6 (by decide) (hts _ w_1095) (fun _ h9 => h9) (MFg (by decide) ((rf_ne (by decide) (by decide)).trans h6)) d_Mo_quoted_211 ?_
                            refine lv_aload_n hx hb d_Mo_quoted_214 rfl (lv_at hl 3 rfl) ?_
                            refine va_get (D := (dC, dI)) (ci := 13) (v := .int (nI (escM f n q j).2)) (C := R_Mo) (T := F_Mo) (N := 30) hx hb hts in_Mo hown hK hP 0 rfl rfl 7 (by decide) (hts _ w_1096) (fun _ h9 => h9) (MFg (by decide) rf_7) d_Mo_quoted_215 ?_
                            refine lv_iconst (v := 1) hx hb d_Mo_quoted_218 (by decide) ?_
                            refine lv_iadd hx hb d_Mo_quoted_219 ?_
                            refine W.eq (g2 := F0 m 220 ls [.int (nI ((escM f n q j).2 + 1)), .ref qx]) (by rw [show ((nI (escM f n q j).2) + 1) = (nI ((escM f n q j).2 + 1)) from nI_1 _]) ?_
                            refine va_bald hx hb hK hP 1 0 rfl rfl (vp_in_nI (show (escM f n q j).2 + 1 < NN by omega) (by omega)) d_Mo_quoted_220 ?_
                            rw [show (nI ((escM f n q j).2 + 1)).toNatClampNeg = (escM f n q j).2 + 1 from nI_clamp (by omega)]
                            refine lv_bipush (v := 117) hx hb d_Mo_quoted_221 (by decide) ?_
                            refine lv_icmp_eq (tgt := 232) hx hb d_Mo_quoted_223 (by decide) (fun c223 => ?_) (fun c223 => ?_)
                            · refine lv_aload_n hx hb d_Mo_quoted_232 rfl (lv_at hl 3 rfl) ?_
                              refine lv_iload_n hx hb d_Mo_quoted_233 rfl (lv_at hl 4 rfl) ?_
                              have ha_v9 := escM_at f n q (escM f n q j).2
                              have hPc := hP.sub (ws' := [(mo, .inr (13, MF 30 (rf v (escM f n q j).2 b2))), (qx, .inl (cB, NN, .inl f))]) [0, 1] rfl
                              have hDc := hD.sub (ws' := [(mo, .inr (13, MF 30 (rf v (escM f n q j).2 b2))), (qx, .inl (cB, NN, .inl f))]) [0, 1] (by decide) rfl
                              have hKc := hK.sub (tys' := [(cB, .byte)]) [0] rfl
                              have hFc := va_free (wc := [(mo, .inr (13, MF 30 (rf v (escM f n q j).2 b2))), (qx, .inl (cB, NN, .inl f))]) hD hS hA [0, 1] rfl
                              refine va_calli (va_runV (As := [.int q]) (rest := []) ⟨hx, hb, hml, hown, hts⟩ (c_Mo_escR l dC dI mo H v cB qx NN f n (K 0).1 (K 0).2 (escM f n q j).2 (by omega) (by omega) (by omega) h6 h8 b2 q) (cwV 1 hts (gt_V (own := R_Mo) (C := R_Mo) (i := 180) (y := y_Mo_escaped) i_Mo_escaped w_1269 w_1271 (gt_sel (y := y_Mo_escaped) (n := 30) (by decide +kernel)) w_7) rfl rfl rfl (by decide +kernel) ⟨Nat.le_of_ble_eq_true rfl, Nat.le_of_ble_eq_true rfl⟩) ⟨mbf_blind, va_recv hKc hPc (ci := 13) (q0 := 0) rfl rfl, fun U hU hW => ⟨rfl, ⟨hU, by rw [hU]; exact hPc, va_K.moved hW.alike hKc, hDc.weaken (fun _ _ _ _ => trivial)⟩, by rw [hU]; exact (ME.call hM hS.2.1 hFc hW 0 _ rfl).1, (ME.call hM hS.2.1 hFc hW 0 _ rfl).2⟩⟩ rfl rfl hl.1 rfl (lv_room (Nat.le_of_ble_eq_true rfl)) d_Mo_quoted_234 ⟨hcp_Tb, hcq_Tb⟩) hS (fun q _ h => hFc q h) hFc (fun v9 b3 t9 H1 locs ht hvm hw hB hz1 hk1 hS => ?_)
                              obtain ⟨hP1, hK1, hD1⟩ := hB
                              rw [ht] at hP1
                              obtain ⟨hP, hD⟩ := va_join (wr := [(t, .inr (12, MF 13 (tw Tb))), (Tb.au, .inl (cC, Tb.U, .inl Tb.un))]) (w1 := [(mo, .inr (13, MF 30 (rf v (escM f n q (escM f n q j).2).2 b3))), (qx, .inl (cB, NN, .inl f))]) hP hD [0, 1] [2, 3] rfl rfl (by decide) (by decide) hk1 hFc hP1 hD1
                              generalize H1 = H at hP hS ⊢
                              have hP : va_P (dC, dI) classes [(t, .inr (12, MF 13 (tw Tb))), (Tb.au, .inl (cC, Tb.U, .inl Tb.un)), (mo, .inr (13, MF 30 (rf v (escM f n q (escM f n q j).2).2 b3))), (qx, .inl (cB, NN, .inl f))] H := hP
                              have hD : va_D A [(t, .inr (12, MF 13 (tw Tb))), (Tb.au, .inl (cC, Tb.U, .inl Tb.un)), (mo, .inr (13, MF 30 (rf v (escM f n q (escM f n q j).2).2 b3))), (qx, .inl (cB, NN, .inl f))] := hD
                              have hP := hP.sub (ws' := [(mo, .inr (13, MF 30 (rf v (escM f n q (escM f n q j).2).2 b3))), (qx, .inl (cB, NN, .inl f)), (t, .inr (12, MF 13 (tw Tb))), (Tb.au, .inl (cC, Tb.U, .inl Tb.un))]) [2, 3, 0, 1] rfl
                              have hD := hD.sub (ws' := [(mo, .inr (13, MF 30 (rf v (escM f n q (escM f n q j).2).2 b3))), (qx, .inl (cB, NN, .inl f)), (t, .inr (12, MF 13 (tw Tb))), (Tb.au, .inl (cC, Tb.U, .inl Tb.un))]) [2, 3, 0, 1] (by decide) rfl
                              have h_v : v9 = (escM f n q (escM f n q j).2).1 := hw
                              refine lv_istore (lv' := [(6, .int v9), (5, .int u9), (4, .int r2), (3, .int (nI j)), (0, .ref mo), (1, .int q), (2, .ref t)]) hx hb d_Mo_quoted_237 hl (by decide) rfl (fun ls hl => ?_)
                              refine lv_iload hx hb d_Mo_quoted_239 (lv_at hl 0 rfl) ?_
                              refine lv_if_ge (tgt := 262) hx hb d_Mo_quoted_241 (by decide) (fun c241 => ?_) (fun c241 => ?_)
                              · refine lv_iload hx hb d_Mo_quoted_262 (lv_at hl 0 rfl) ?_
                                refine lv_ldc (v := 56320) hx hb hown (hts _ w_1335) d_Mo_quoted_264 ?_
                                refine lv_icmp_lt (tgt := 276) hx hb d_Mo_quoted_266 (by decide) (fun c266 => ?_) (fun c266 => ?_)
                                · refine lv_aload_n hx hb d_Mo_quoted_276 rfl (lv_at hl 4 rfl) ?_
                                  refine lv_iload_n hx hb d_Mo_quoted_277 rfl (lv_at hl 3 rfl) ?_
                                  have hPc := hP.sub (ws' := [(mo, .inr (13, MF 30 (rf v (escM f n q (escM f n q j).2).2 b3)))]) [0] rfl
                                  have hDc := hD.sub (ws' := [(mo, .inr (13, MF 30 (rf v (escM f n q (escM f n q j).2).2 b3)))]) [0] (by decide) rfl
                                  have hKc := hK.sub (tys' := []) [] rfl
                                  have hFc := va_free (wc := [(mo, .inr (13, MF 30 (rf v (escM f n q (escM f n q j).2).2 b3)))]) hD hS hA [0] rfl
                                  refine va_calli (va_runV (As := [.int (nI j)]) (rest := []) ⟨hx, hb, hml, hown, hts⟩ (c_Mo_fail l dC dI mo H (rf v (escM f n q (escM f n q j).2).2 b3) b3 ((nI j)) rf_9) (cwV 1 hts (gt_V (own := R_Mo) (C := R_Mo) (i := 151) (y := y_Mo_fail) i_Mo_fail w_1250 w_1252 (gt_sel (y := y_Mo_fail) (n := 30) (by decide +kernel)) w_7) rfl rfl rfl (by decide +kernel) ⟨Nat.le_of_ble_eq_true rfl, Nat.le_of_ble_eq_true rfl⟩) ⟨mp_blind, va_recv hKc hPc (ci := 13) (q0 := 0) rfl rfl, fun U hU hW => ⟨rfl, hU, by rw [hU]; exact hPc, va_K.moved hW.alike hKc, hDc.weaken (fun _ _ _ _ => trivial)⟩⟩ rfl rfl hl.1 rfl (lv_room (Nat.le_of_ble_eq_true rfl)) d_Mo_quoted_278 ⟨hcp_Tb, hcq_Tb⟩) hS (fun q _ h => hFc q h) hFc (fun r0 u2 t9 H1 locs ht hvm hw hB hz1 hk1 hS => ?_)
                                  obtain ⟨hP1, hK1, hD1⟩ := hB
                                  rw [ht] at hP1
                                  obtain ⟨hP, hD⟩ := va_join (wr := [(qx, .inl (cB, NN, .inl f)), (t, .inr (12, MF 13 (tw Tb))), (Tb.au, .inl (cC, Tb.U, .inl Tb.un))]) (w1 := [(mo, .inr (13, MF 30 u2))]) hP hD [0] [1, 2, 3] rfl rfl (by decide) (by decide) hk1 hFc hP1 hD1
                                  generalize H1 = H at hP hS ⊢
                                  have hP : va_P (dC, dI) classes [(qx, .inl (cB, NN, .inl f)), (t, .inr (12, MF 13 (tw Tb))), (Tb.au, .inl (cC, Tb.U, .inl Tb.un)), (mo, .inr (13, MF 30 u2))] H := hP
                                  have hD : va_D A [(qx, .inl (cB, NN, .inl f)), (t, .inr (12, MF 13 (tw Tb))), (Tb.au, .inl (cC, Tb.U, .inl Tb.un)), (mo, .inr (13, MF 30 u2))] := hD
                                  have hP := hP.sub (ws' := [(mo, .inr (13, MF 30 u2)), (qx, .inl (cB, NN, .inl f)), (t, .inr (12, MF 13 (tw Tb))), (Tb.au, .inl (cC, Tb.U, .inl Tb.un))]) [3, 0, 1, 2] rfl
                                  have hD := hD.sub (ws' := [(mo, .inr (13, MF 30 u2)), (qx, .inl (cB, NN, .inl f)), (t, .inr (12, MF 13 (tw Tb))), (Tb.au, .inl (cC, Tb.U, .inl Tb.un))]) [3, 0, 1, 2] (by decide) rfl
                                  obtain ⟨b7, h_b7⟩ := rf_fail (v := v) (i := (escM f n q (escM f n q j).2).2) (br := b3) (b2 := b3) (wh := (nI j))
                                  have hw : r0 = 0 ∧ u2 = _ := hw
                                  obtain ⟨hw1, hw2⟩ := hw
                                  rw [h_b7] at hw2
                                  rw [hw2] at hP hD
                                  subst hw1
                                  have hP : va_P (dC, dI) classes [(mo, .inr (13, MF 30 (rf v (escM f n q (escM f n q j).2).2 b7))), (qx, .inl (cB, NN, .inl f)), (t, .inr (12, MF 13 (tw Tb))), (Tb.au, .inl (cC, Tb.U, .inl Tb.un))] H := hP
                                  have hD : va_D A [(mo, .inr (13, MF 30 (rf v (escM f n q (escM f n q j).2).2 b7))), (qx, .inl (cB, NN, .inl f)), (t, .inr (12, MF 13 (tw Tb))), (Tb.au, .inl (cC, Tb.U, .inl Tb.un))] := hD
                                  have hfin : qtM f n q (n + 13) (i + 1) [] = none := by
                                    rw [← hI4, hk0]
                                    simp only [qtM]
                                    rw [if_neg (fun h => c15 (h_r1.trans h)), if_neg (fun h => by rw [← h_r2] at h; exact h.elim c33 (fun h => h c40)), if_neg (fun h => h (h_r2.symm.trans c74)), if_neg (fun h => h (by rw [← h_u]; exact c105)), if_neg (fun h => by rw [← h_u] at h; exact h.2 c121), if_neg (fun h => by rw [← h_u] at h; exact h.elim c140 (fun h => h c147)), if_neg (fun h => h hj2), if_neg (fun h => h (h_r3.symm.trans c179)), if_neg (fun h => h hj3), if_neg (fun h => h c223), if_neg (fun h => h (by rw [← h_v]; exact c241)), if_pos (Or.inl (by rw [← h_v]; exact c266))]
                                  have hcp3 := q_cap hX_Tb (B := (T.us + (n + 12 - i))) (by first | omega | (simp only [List.length_append, List.length_singleton]; omega))
                                  refine w_same (fun hq => ?_)
                                  refine W.widen (k := qcap T (T.us + (n + 12 - i))) (n := 2 * qcap T (T.us + (n + 12 - i))) (by omega) (by omega) ?_
                                  exact W.zret (v := 0) hx hb hr rfl (fun t9 ht hW => ⟨⟨0, (Tb, us ++ [u9], (escM f n q (escM f n q j).2).2, b7), rfl, ⟨hX_Tb, Or.inr ⟨rfl, hqQ.trans hfin, by show (us ++ [u9]).length ≤ n + 12 - i; first | omega | (simp only [List.length_append, List.length_singleton]; omega), by show (escM f n q (escM f n q j).2).2 ≤ n + 30; omega⟩⟩, ⟨by rw [ht]; exact hP, va_K.moved hW.alike hK, hD⟩, by rw [ht]; exact hq.mono (Nat.le_refl _) (Nat.le_refl _)⟩, hS.F ht⟩) hS.2.2 d_Mo_quoted_281
                                · refine lv_iload hx hb d_Mo_quoted_269 (lv_at hl 0 rfl) ?_
                                  refine lv_ldc (v := 57343) hx hb hown (hts _ w_1336) d_Mo_quoted_271 ?_
                                  refine lv_icmp_le (tgt := 282) hx hb d_Mo_quoted_273 (by decide) (fun c273 => ?_) (fun c273 => ?_)
                                  · refine lv_aload_n hx hb d_Mo_quoted_282 rfl (lv_at hl 6 rfl) ?_
                                    refine lv_iload hx hb d_Mo_quoted_283 (lv_at hl 0 rfl) ?_
                                    have hft := q_fit hX_Tb hT0 (B := (T.us + (n + 12 - i))) (by first | omega | (simp only [List.length_append, List.length_singleton]; omega))
                                    have hPc := hP.sub (ws' := [(t, .inr (12, MF 13 (tw Tb))), (Tb.au, .inl (cC, Tb.U, .inl Tb.un))]) [2, 3] rfl
                                    have hDc := hD.sub (ws' := [(t, .inr (12, MF 13 (tw Tb))), (Tb.au, .inl (cC, Tb.U, .inl Tb.un))]) [2, 3] (by decide) rfl
                                    have hKc := hK.sub (tys' := [(cC, .char)]) [1] rfl
                                    have hFc := va_free (wc := [(t, .inr (12, MF 13 (tw Tb))), (Tb.au, .inl (cC, Tb.U, .inl Tb.un))]) hD hS hA [2, 3] rfl
                                    refine w_same (fun hq0 => ?_)
                                    refine va_callv (va_runV (As := [.int v9]) (rest := []) ⟨hx, hb, hml, hown, hts⟩ (c_Tree_unitT l dC dI t H cC Tb v9 hk_Tb) (cwV 1 hts (gt_V (own := R_Mo) (C := R_Tree) (i := 177) (y := y_Tree_unit) i_Tree_unit w_1265 w_1266 w_1267 w_8) rfl rfl rfl (by decide +kernel) ⟨Nat.le_of_ble_eq_true rfl, Nat.le_of_ble_eq_true rfl⟩) ⟨mp_blind, va_recv hKc hPc (ci := 12) (q0 := 0) rfl rfl, fun U hU hW => ⟨rfl, hU, by rw [hU]; exact hPc, va_K.moved hW.alike hKc, hDc.weaken (fun _ _ _ _ => trivial)⟩⟩ rfl rfl hl.1 rfl (lv_room (Nat.le_of_ble_eq_true rfl)) d_Mo_quoted_285 ⟨by show Tb.U - T.U + grC Tb.U Tb.us ≤ qcap T (T.us + (n + 12 - i)); omega, by show 2 * (Tb.U - T.U) + grS Tb.U Tb.us ≤ 2 * qcap T (T.us + (n + 12 - i)); omega⟩) hS (fun q _ h => hFc q h) hFc (fun Td t9 H1 locs ht hvm hw hB hz1 hk1 hS => ?_)
                                    obtain ⟨⟨hP1, hK1, hD1⟩, hz9⟩ := hB
                                    rw [ht] at hP1
                                    rw [ht] at hz9
                                    have hw : TX Tb Td [v9] := hw
                                    have hX_Td : TX T Td (us ++ [u9] ++ [v9]) := by have := hX_Tb.trans hw; simpa [List.append_assoc] using this
                                    have hU1 := hw.U
                                    have hU2 := hX_Tb.U
                                    have hq1 : szk s.heap H1 (Td.U - T.U) (2 * (Td.U - T.U)) := (hq0.trans hz9).mono (by omega) (by omega)
                                    refine w_tight hq1 ?_
                                    obtain ⟨hP, hD⟩ := va_join (wr := [(mo, .inr (13, MF 30 (rf v (escM f n q (escM f n q j).2).2 b3))), (qx, .inl (cB, NN, .inl f))]) (w1 := [(t, .inr (12, MF 13 (tw Td))), (Td.au, .inl (cC, Td.U, .inl Td.un))]) hP hD [2, 3] [0, 1] rfl rfl (by decide) (by decide) hk1 hFc hP1 hD1
                                    generalize H1 = H at hP hS ⊢
                                    have hP : va_P (dC, dI) classes [(mo, .inr (13, MF 30 (rf v (escM f n q (escM f n q j).2).2 b3))), (qx, .inl (cB, NN, .inl f)), (t, .inr (12, MF 13 (tw Td))), (Td.au, .inl (cC, Td.U, .inl Td.un))] H := hP
                                    have hD : va_D A [(mo, .inr (13, MF 30 (rf v (escM f n q (escM f n q j).2).2 b3))), (qx, .inl (cB, NN, .inl f)), (t, .inr (12, MF 13 (tw Td))), (Td.au, .inl (cC, Td.U, .inl Td.un))] := hD
                                    have hP := hP.sub (ws' := [(mo, .inr (13, MF 30 (rf v (escM f n q (escM f n q j).2).2 b3))), (qx, .inl (cB, NN, .inl f)), (t, .inr (12, MF 13 (tw Td))), (Td.au, .inl (cC, Td.U, .inl Td.un))]) [0, 1, 2, 3] rfl
                                    have hD := hD.sub (ws' := [(mo, .inr (13, MF 30 (rf v (escM f n q (escM f n q j).2).2 b3))), (qx, .inl (cB, NN, .inl f)), (t, .inr (12, MF 13 (tw Td))), (Td.au, .inl (cC, Td.U, .inl Td.un))]) [0, 1, 2, 3] (by decide) rfl
                                    have hk_Td := hX_Td.ok hT0 (by first | omega | (simp only [List.length_append, List.length_singleton]; omega))
                                    have hcp_Td := q_cap hX_Td (B := (T.us + (n + 12 - i))) (by first | omega | (simp only [List.length_append, List.length_singleton]; omega))
                                    have hcq_Td : 2 * (Td.U - T.U) ≤ 2 * qcap T (T.us + (n + 12 - i)) := by omega
                                    refine lv_goto (tgt := 10) hx hb d_Mo_quoted_288 (by decide) ?_
                                    refine w_same (fun hq => ?_)
                                    have hcp2 := q_cap hX_Td (B := (T.us + (n + 12 - i))) (by first | omega | (simp only [List.length_append, List.length_singleton]; omega))
                                    refine W.widen (k := qcap T (T.us + (n + 12 - i))) (n := 2 * qcap T (T.us + (n + 12 - i))) (by omega) (by omega) ?_
                                    have hst : qtM f n q k0 (escM f n q (escM f n q j).2).2 (us ++ [u9] ++ [v9]) = qtM f n q (n + 13) (i + 1) [] := by
                                      rw [← hI4, hk0]
                                      simp only [qtM]
                                      rw [if_neg (fun h => c15 (h_r1.trans h)), if_neg (fun h => by rw [← h_r2] at h; exact h.elim c33 (fun h => h c40)), if_neg (fun h => h (h_r2.symm.trans c74)), if_neg (fun h => h (by rw [← h_u]; exact c105)), if_neg (fun h => by rw [← h_u] at h; exact h.2 c121), if_neg (fun h => by rw [← h_u] at h; exact h.elim c140 (fun h => h c147)), if_neg (fun h => h hj2), if_neg (fun h => h (h_r3.symm.trans c179)), if_neg (fun h => h hj3), if_neg (fun h => h c223), if_neg (fun h => h (by rw [← h_v]; exact c241)), if_neg (fun h => by rw [← h_v] at h; exact h.elim c266 (fun h => h c273)), ← h_v, ← h_u]
                                    exact ih (Td, us ++ [u9] ++ [v9], k0, (escM f n q (escM f n q j).2).2, b3) _ _ _ ⟨hX_Td, by first | omega | (simp only [List.length_append, List.length_singleton]; omega), by omega, by omega, hst, hq⟩ (by show n + 13 - (escM f n q (escM f n q j).2).2 < n + 13 - j; omega) hP hD hS (lv_sub hl [4, 5, 6] rfl)
                                  · refine lv_aload_n hx hb d_Mo_quoted_276 rfl (lv_at hl 4 rfl) ?_
                                    refine lv_iload_n hx hb d_Mo_quoted_277 rfl (lv_at hl 3 rfl) ?_
                                    have hPc := hP.sub (ws' := [(mo, .inr (13, MF 30 (rf v (escM f n q (escM f n q j).2).2 b3)))]) [0] rfl
                                    have hDc := hD.sub (ws' := [(mo, .inr (13, MF 30 (rf v (escM f n q (escM f n q j).2).2 b3)))]) [0] (by decide) rfl
                                    have hKc := hK.sub (tys' := []) [] rfl
                                    have hFc := va_free (wc := [(mo, .inr (13, MF 30 (rf v (escM f n q (escM f n q j).2).2 b3)))]) hD hS hA [0] rfl
                                    refine va_calli (va_runV (As := [.int (nI j)]) (rest := []) ⟨hx, hb, hml, hown, hts⟩ (c_Mo_fail l dC dI mo H (rf v (escM f n q (escM f n q j).2).2 b3) b3 ((nI j)) rf_9) (cwV 1 hts (gt_V (own := R_Mo) (C := R_Mo) (i := 151) (y := y_Mo_fail) i_Mo_fail w_1250 w_1252 (gt_sel (y := y_Mo_fail) (n := 30) (by decide +kernel)) w_7) rfl rfl rfl (by decide +kernel) ⟨Nat.le_of_ble_eq_true rfl, Nat.le_of_ble_eq_true rfl⟩) ⟨mp_blind, va_recv hKc hPc (ci := 13) (q0 := 0) rfl rfl, fun U hU hW => ⟨rfl, hU, by rw [hU]; exact hPc, va_K.moved hW.alike hKc, hDc.weaken (fun _ _ _ _ => trivial)⟩⟩ rfl rfl hl.1 rfl (lv_room (Nat.le_of_ble_eq_true rfl)) d_Mo_quoted_278 ⟨hcp_Tb, hcq_Tb⟩) hS (fun q _ h => hFc q h) hFc (fun r0 u2 t9 H1 locs ht hvm hw hB hz1 hk1 hS => ?_)
                                    obtain ⟨hP1, hK1, hD1⟩ := hB
                                    rw [ht] at hP1
                                    obtain ⟨hP, hD⟩ := va_join (wr := [(qx, .inl (cB, NN, .inl f)), (t, .inr (12, MF 13 (tw Tb))), (Tb.au, .inl (cC, Tb.U, .inl Tb.un))]) (w1 := [(mo, .inr (13, MF 30 u2))]) hP hD [0] [1, 2, 3] rfl rfl (by decide) (by decide) hk1 hFc hP1 hD1
                                    generalize H1 = H at hP hS ⊢
                                    have hP : va_P (dC, dI) classes [(qx, .inl (cB, NN, .inl f)), (t, .inr (12, MF 13 (tw Tb))), (Tb.au, .inl (cC, Tb.U, .inl Tb.un)), (mo, .inr (13, MF 30 u2))] H := hP
                                    have hD : va_D A [(qx, .inl (cB, NN, .inl f)), (t, .inr (12, MF 13 (tw Tb))), (Tb.au, .inl (cC, Tb.U, .inl Tb.un)), (mo, .inr (13, MF 30 u2))] := hD
                                    have hP := hP.sub (ws' := [(mo, .inr (13, MF 30 u2)), (qx, .inl (cB, NN, .inl f)), (t, .inr (12, MF 13 (tw Tb))), (Tb.au, .inl (cC, Tb.U, .inl Tb.un))]) [3, 0, 1, 2] rfl
                                    have hD := hD.sub (ws' := [(mo, .inr (13, MF 30 u2)), (qx, .inl (cB, NN, .inl f)), (t, .inr (12, MF 13 (tw Tb))), (Tb.au, .inl (cC, Tb.U, .inl Tb.un))]) [3, 0, 1, 2] (by decide) rfl
                                    obtain ⟨b7, h_b7⟩ := rf_fail (v := v) (i := (escM f n q (escM f n q j).2).2) (br := b3) (b2 := b3) (wh := (nI j))
                                    have hw : r0 = 0 ∧ u2 = _ := hw
                                    obtain ⟨hw1, hw2⟩ := hw
                                    rw [h_b7] at hw2
                                    rw [hw2] at hP hD
                                    subst hw1
                                    have hP : va_P (dC, dI) classes [(mo, .inr (13, MF 30 (rf v (escM f n q (escM f n q j).2).2 b7))), (qx, .inl (cB, NN, .inl f)), (t, .inr (12, MF 13 (tw Tb))), (Tb.au, .inl (cC, Tb.U, .inl Tb.un))] H := hP
                                    have hD : va_D A [(mo, .inr (13, MF 30 (rf v (escM f n q (escM f n q j).2).2 b7))), (qx, .inl (cB, NN, .inl f)), (t, .inr (12, MF 13 (tw Tb))), (Tb.au, .inl (cC, Tb.U, .inl Tb.un))] := hD
                                    have hfin : qtM f n q (n + 13) (i + 1) [] = none := by
                                      rw [← hI4, hk0]
                                      simp only [qtM]
                                      rw [if_neg (fun h => c15 (h_r1.trans h)), if_neg (fun h => by rw [← h_r2] at h; exact h.elim c33 (fun h => h c40)), if_neg (fun h => h (h_r2.symm.trans c74)), if_neg (fun h => h (by rw [← h_u]; exact c105)), if_neg (fun h => by rw [← h_u] at h; exact h.2 c121), if_neg (fun h => by rw [← h_u] at h; exact h.elim c140 (fun h => h c147)), if_neg (fun h => h hj2), if_neg (fun h => h (h_r3.symm.trans c179)), if_neg (fun h => h hj3), if_neg (fun h => h c223), if_neg (fun h => h (by rw [← h_v]; exact c241)), if_pos (Or.inr (by rw [← h_v]; exact c273))]
                                    have hcp3 := q_cap hX_Tb (B := (T.us + (n + 12 - i))) (by first | omega | (simp only [List.length_append, List.length_singleton]; omega))
                                    refine w_same (fun hq => ?_)
                                    refine W.widen (k := qcap T (T.us + (n + 12 - i))) (n := 2 * qcap T (T.us + (n + 12 - i))) (by omega) (by omega) ?_
                                    exact W.zret (v := 0) hx hb hr rfl (fun t9 ht hW => ⟨⟨0, (Tb, us ++ [u9], (escM f n q (escM f n q j).2).2, b7), rfl, ⟨hX_Tb, Or.inr ⟨rfl, hqQ.trans hfin, by show (us ++ [u9]).length ≤ n + 12 - i; first | omega | (simp only [List.length_append, List.length_singleton]; omega), by show (escM f n q (escM f n q j).2).2 ≤ n + 30; omega⟩⟩, ⟨by rw [ht]; exact hP, va_K.moved hW.alike hK, hD⟩, by rw [ht]; exact hq.mono (Nat.le_refl _) (Nat.le_refl _)⟩, hS.F ht⟩) hS.2.2 d_Mo_quoted_281
                              · refine lv_aload_n hx hb d_Mo_quoted_244 rfl (lv_at hl 4 rfl) ?_
                                refine va_get (D := (dC, dI)) (ci := 13) (v := .int b3) (C := R_Mo) (T := F_Mo) (N := 30) hx hb hts in_Mo hown hK hP 0 rfl rfl 9 (by decide) (hts _ w_1098) (fun _ h9 => h9) (MFg (by decide) rf_9) d_Mo_quoted_245 ?_
                                refine lv_aload_n hx hb d_Mo_quoted_248 rfl (lv_at hl 4 rfl) ?_
                                refine va_get (D := (dC, dI)) (ci := 13) (v := .int (nI n)) (C := R_Mo) (T := F_Mo) (N := 30) hx hb hts in_Mo hown hK hP 0 rfl rfl 8 (by decide) (hts _ w_1097) (fun _ h9 => h9) (MFg (by decide) ((rf_ne (by decide) (by decide)).trans h8)) d_Mo_quoted_249 ?_
                                refine lv_icmp_ge (tgt := 260) hx hb d_Mo_quoted_252 (by decide) (fun c252 => ?_) (fun c252 => ?_)
                                · refine lv_iconst (v := 0) hx hb d_Mo_quoted_260 (by decide) ?_
                                  have hfin : qtM f n q (n + 13) (i + 1) [] = none := by
                                    rw [← hI4, hk0]
                                    simp only [qtM]
                                    rw [if_neg (fun h => c15 (h_r1.trans h)), if_neg (fun h => by rw [← h_r2] at h; exact h.elim c33 (fun h => h c40)), if_neg (fun h => h (h_r2.symm.trans c74)), if_neg (fun h => h (by rw [← h_u]; exact c105)), if_neg (fun h => by rw [← h_u] at h; exact h.2 c121), if_neg (fun h => by rw [← h_u] at h; exact h.elim c140 (fun h => h c147)), if_neg (fun h => h hj2), if_neg (fun h => h (h_r3.symm.trans c179)), if_neg (fun h => h hj3), if_neg (fun h => h c223), if_pos (by rw [← h_v]; exact c241)]
                                  have hcp3 := q_cap hX_Tb (B := (T.us + (n + 12 - i))) (by first | omega | (simp only [List.length_append, List.length_singleton]; omega))
                                  refine w_same (fun hq => ?_)
                                  refine W.widen (k := qcap T (T.us + (n + 12 - i))) (n := 2 * qcap T (T.us + (n + 12 - i))) (by omega) (by omega) ?_
                                  exact W.zret (v := 0) hx hb hr rfl (fun t9 ht hW => ⟨⟨0, (Tb, us ++ [u9], (escM f n q (escM f n q j).2).2, b3), rfl, ⟨hX_Tb, Or.inr ⟨rfl, hqQ.trans hfin, by show (us ++ [u9]).length ≤ n + 12 - i; first | omega | (simp only [List.length_append, List.length_singleton]; omega), by show (escM f n q (escM f n q j).2).2 ≤ n + 30; omega⟩⟩, ⟨by rw [ht]; exact hP, va_K.moved hW.alike hK, hD⟩, by rw [ht]; exact hq.mono (Nat.le_refl _) (Nat.le_refl _)⟩, hS.F ht⟩) hS.2.2 d_Mo_quoted_261
                                · refine lv_aload_n hx hb d_Mo_quoted_255 rfl (lv_at hl 4 rfl) ?_
                                  refine lv_iload_n hx hb d_Mo_quoted_256 rfl (lv_at hl 3 rfl) ?_
                                  refine va_put (D := (dC, dI)) (ci := 13) (v := .int (nI j)) (ty := .int) (C := R_Mo) (T := F_Mo) (N := 30) hx hb hts in_Mo t_Mo t_Mo_ok n_Mo hown hK hP hD hS 0 rfl rfl 9 (by decide) (hts _ w_1098) (fun _ h9 => h9) rfl (by decide +kernel) rfl rfl (by rw [MFl]; decide) d_Mo_quoted_257 (fun H locs hP hD hS => ?_)
                                  rw [MFs (n := 30) (k := 9) (by decide)] at hP hD
                                  have hP : va_P (dC, dI) classes [(mo, .inr (13, MF 30 (va_up (rf v (escM f n q (escM f n q j).2).2 b3) 9 (.int (nI j))))), (qx, .inl (cB, NN, .inl f)), (t, .inr (12, MF 13 (tw Tb))), (Tb.au, .inl (cC, Tb.U, .inl Tb.un))] H := hP
                                  have hD : va_D A [(mo, .inr (13, MF 30 (va_up (rf v (escM f n q (escM f n q j).2).2 b3) 9 (.int (nI j))))), (qx, .inl (cB, NN, .inl f)), (t, .inr (12, MF 13 (tw Tb))), (Tb.au, .inl (cC, Tb.U, .inl Tb.un))] := hD
                                  rw [rf_u9] at hP hD
                                  have hP : va_P (dC, dI) classes [(mo, .inr (13, MF 30 (rf v (escM f n q (escM f n q j).2).2 (nI j)))), (qx, .inl (cB, NN, .inl f)), (t, .inr (12, MF 13 (tw Tb))), (Tb.au, .inl (cC, Tb.U, .inl Tb.un))] H := hP
                                  have hD : va_D A [(mo, .inr (13, MF 30 (rf v (escM f n q (escM f n q j).2).2 (nI j)))), (qx, .inl (cB, NN, .inl f)), (t, .inr (12, MF 13 (tw Tb))), (Tb.au, .inl (cC, Tb.U, .inl Tb.un))] := hD
                                  refine lv_iconst (v := 0) hx hb d_Mo_quoted_260 (by decide) ?_
                                  have hfin : qtM f n q (n + 13) (i + 1) [] = none := by
                                    rw [← hI4, hk0]
                                    simp only [qtM]
                                    rw [if_neg (fun h => c15 (h_r1.trans h)), if_neg (fun h => by rw [← h_r2] at h; exact h.elim c33 (fun h => h c40)), if_neg (fun h => h (h_r2.symm.trans c74)), if_neg (fun h => h (by rw [← h_u]; exact c105)), if_neg (fun h => by rw [← h_u] at h; exact h.2 c121), if_neg (fun h => by rw [← h_u] at h; exact h.elim c140 (fun h => h c147)), if_neg (fun h => h hj2), if_neg (fun h => h (h_r3.symm.trans c179)), if_neg (fun h => h hj3), if_neg (fun h => h c223), if_pos (by rw [← h_v]; exact c241)]
                                  have hcp3 := q_cap hX_Tb (B := (T.us + (n + 12 - i))) (by first | omega | (simp only [List.length_append, List.length_singleton]; omega))
                                  refine w_same (fun hq => ?_)
                                  refine W.widen (k := qcap T (T.us + (n + 12 - i))) (n := 2 * qcap T (T.us + (n + 12 - i))) (by omega) (by omega) ?_
                                  exact W.zret (v := 0) hx hb hr rfl (fun t9 ht hW => ⟨⟨0, (Tb, us ++ [u9], (escM f n q (escM f n q j).2).2, (nI j)), rfl, ⟨hX_Tb, Or.inr ⟨rfl, hqQ.trans hfin, by show (us ++ [u9]).length ≤ n + 12 - i; first | omega | (simp only [List.length_append, List.length_singleton]; omega), by show (escM f n q (escM f n q j).2).2 ≤ n + 30; omega⟩⟩, ⟨by rw [ht]; exact hP, va_K.moved hW.alike hK, hD⟩, by rw [ht]; exact hq.mono (Nat.le_refl _) (Nat.le_refl _)⟩, hS.F ht⟩) hS.2.2 d_Mo_quoted_261
                            · refine lv_aload_n hx hb d_Mo_quoted_226 rfl (lv_at hl 3 rfl) ?_
                              refine lv_iload_n hx hb d_Mo_quoted_227 rfl (lv_at hl 2 rfl) ?_
                              have hPc := hP.sub (ws' := [(mo, .inr (13, MF 30 (rf v (escM f n q j).2 b2)))]) [0] rfl
                              have hDc := hD.sub (ws' := [(mo, .inr (13, MF 30 (rf v (escM f n q j).2 b2)))]) [0] (by decide) rfl
                              have hKc := hK.sub (tys' := []) [] rfl
                              have hFc := va_free (wc := [(mo, .inr (13, MF 30 (rf v (escM f n q j).2 b2)))]) hD hS hA [0] rfl
                              refine va_calli (va_runV (As := [.int (nI j)]) (rest := []) ⟨hx, hb, hml, hown, hts⟩ (c_Mo_fail l dC dI mo H (rf v (escM f n q j).2 b2) b2 ((nI j)) rf_9) (cwV 1 hts (gt_V (own := R_Mo) (C := R_Mo) (i := 151) (y := y_Mo_fail) i_Mo_fail w_1250 w_1252 (gt_sel (y := y_Mo_fail) (n := 30) (by decide +kernel)) w_7) rfl rfl rfl (by decide +kernel) ⟨Nat.le_of_ble_eq_true rfl, Nat.le_of_ble_eq_true rfl⟩) ⟨mp_blind, va_recv hKc hPc (ci := 13) (q0 := 0) rfl rfl, fun U hU hW => ⟨rfl, hU, by rw [hU]; exact hPc, va_K.moved hW.alike hKc, hDc.weaken (fun _ _ _ _ => trivial)⟩⟩ rfl rfl hl.1 rfl (lv_room (Nat.le_of_ble_eq_true rfl)) d_Mo_quoted_228 ⟨hcp_Tb, hcq_Tb⟩) hS (fun q _ h => hFc q h) hFc (fun r0 u2 t9 H1 locs ht hvm hw hB hz1 hk1 hS => ?_)
                              obtain ⟨hP1, hK1, hD1⟩ := hB
                              rw [ht] at hP1
                              obtain ⟨hP, hD⟩ := va_join (wr := [(qx, .inl (cB, NN, .inl f)), (t, .inr (12, MF 13 (tw Tb))), (Tb.au, .inl (cC, Tb.U, .inl Tb.un))]) (w1 := [(mo, .inr (13, MF 30 u2))]) hP hD [0] [1, 2, 3] rfl rfl (by decide) (by decide) hk1 hFc hP1 hD1
                              generalize H1 = H at hP hS ⊢
                              have hP : va_P (dC, dI) classes [(qx, .inl (cB, NN, .inl f)), (t, .inr (12, MF 13 (tw Tb))), (Tb.au, .inl (cC, Tb.U, .inl Tb.un)), (mo, .inr (13, MF 30 u2))] H := hP
                              have hD : va_D A [(qx, .inl (cB, NN, .inl f)), (t, .inr (12, MF 13 (tw Tb))), (Tb.au, .inl (cC, Tb.U, .inl Tb.un)), (mo, .inr (13, MF 30 u2))] := hD
                              have hP := hP.sub (ws' := [(mo, .inr (13, MF 30 u2)), (qx, .inl (cB, NN, .inl f)), (t, .inr (12, MF 13 (tw Tb))), (Tb.au, .inl (cC, Tb.U, .inl Tb.un))]) [3, 0, 1, 2] rfl
                              have hD := hD.sub (ws' := [(mo, .inr (13, MF 30 u2)), (qx, .inl (cB, NN, .inl f)), (t, .inr (12, MF 13 (tw Tb))), (Tb.au, .inl (cC, Tb.U, .inl Tb.un))]) [3, 0, 1, 2] (by decide) rfl
                              obtain ⟨b7, h_b7⟩ := rf_fail (v := v) (i := (escM f n q j).2) (br := b2) (b2 := b2) (wh := (nI j))
                              have hw : r0 = 0 ∧ u2 = _ := hw
                              obtain ⟨hw1, hw2⟩ := hw
                              rw [h_b7] at hw2
                              rw [hw2] at hP hD
                              subst hw1
                              have hP : va_P (dC, dI) classes [(mo, .inr (13, MF 30 (rf v (escM f n q j).2 b7))), (qx, .inl (cB, NN, .inl f)), (t, .inr (12, MF 13 (tw Tb))), (Tb.au, .inl (cC, Tb.U, .inl Tb.un))] H := hP
                              have hD : va_D A [(mo, .inr (13, MF 30 (rf v (escM f n q j).2 b7))), (qx, .inl (cB, NN, .inl f)), (t, .inr (12, MF 13 (tw Tb))), (Tb.au, .inl (cC, Tb.U, .inl Tb.un))] := hD
                              have hfin : qtM f n q (n + 13) (i + 1) [] = none := by
                                rw [← hI4, hk0]
                                simp only [qtM]
                                rw [if_neg (fun h => c15 (h_r1.trans h)), if_neg (fun h => by rw [← h_r2] at h; exact h.elim c33 (fun h => h c40)), if_neg (fun h => h (h_r2.symm.trans c74)), if_neg (fun h => h (by rw [← h_u]; exact c105)), if_neg (fun h => by rw [← h_u] at h; exact h.2 c121), if_neg (fun h => by rw [← h_u] at h; exact h.elim c140 (fun h => h c147)), if_neg (fun h => h hj2), if_neg (fun h => h (h_r3.symm.trans c179)), if_neg (fun h => h hj3), if_pos c223]
                              have hcp3 := q_cap hX_Tb (B := (T.us + (n + 12 - i))) (by first | omega | (simp only [List.length_append, List.length_singleton]; omega))
                              refine w_same (fun hq => ?_)
                              refine W.widen (k := qcap T (T.us + (n + 12 - i))) (n := 2 * qcap T (T.us + (n + 12 - i))) (by omega) (by omega) ?_
                              exact W.zret (v := 0) hx hb hr rfl (fun t9 ht hW => ⟨⟨0, (Tb, us ++ [u9], (escM f n q j).2, b7), rfl, ⟨hX_Tb, Or.inr ⟨rfl, hqQ.trans hfin, by show (us ++ [u9]).length ≤ n + 12 - i; first | omega | (simp only [List.length_append, List.length_singleton]; omega), by show (escM f n q j).2 ≤ n + 30; omega⟩⟩, ⟨by rw [ht]; exact hP, va_K.moved hW.alike hK, hD⟩, by rw [ht]; exact hq.mono (Nat.le_refl _) (Nat.le_refl _)⟩, hS.F ht⟩) hS.2.2 d_Mo_quoted_231
                          · have hj3 : ¬ (escM f n q j).2 + 1 < n := fun h => c198 (by rw [nI_ltI (by omega) (by omega)]; exact h)
                            refine lv_aload_n hx hb d_Mo_quoted_201 rfl (lv_at hl 3 rfl) ?_
                            refine lv_aload_n hx hb d_Mo_quoted_202 rfl (lv_at hl 3 rfl) ?_
                            refine va_get (D := (dC, dI)) (ci := 13) (v := .int (nI n)) (C := R_Mo) (T := F_Mo) (N := 30) hx hb hts in_Mo hown hK hP 0 rfl rfl 8 (by decide) (hts _ w_1097) (fun _ h9 => h9) (MFg (by decide) ((rf_ne (by decide) (by decide)).trans h8)) d_Mo_quoted_203 ?_
                            have hPc := hP.sub (ws' := [(mo, .inr (13, MF 30 (rf v (escM f n q j).2 b2)))]) [0] rfl
                            have hDc := hD.sub (ws' := [(mo, .inr (13, MF 30 (rf v (escM f n q j).2 b2)))]) [0] (by decide) rfl
                            have hKc := hK.sub (tys' := []) [] rfl
                            have hFc := va_free (wc := [(mo, .inr (13, MF 30 (rf v (escM f n q j).2 b2)))]) hD hS hA [0] rfl
                            refine va_calli (va_runV (As := [.int (nI n)]) (rest := []) ⟨hx, hb, hml, hown, hts⟩ (c_Mo_fail l dC dI mo H (rf v (escM f n q j).2 b2) b2 ((nI n)) rf_9) (cwV 1 hts (gt_V (own := R_Mo) (C := R_Mo) (i := 151) (y := y_Mo_fail) i_Mo_fail w_1250 w_1252 (gt_sel (y := y_Mo_fail) (n := 30) (by decide +kernel)) w_7) rfl rfl rfl (by decide +kernel) ⟨Nat.le_of_ble_eq_true rfl, Nat.le_of_ble_eq_true rfl⟩) ⟨mp_blind, va_recv hKc hPc (ci := 13) (q0 := 0) rfl rfl, fun U hU hW => ⟨rfl, hU, by rw [hU]; exact hPc, va_K.moved hW.alike hKc, hDc.weaken (fun _ _ _ _ => trivial)⟩⟩ rfl rfl hl.1 rfl (lv_room (Nat.le_of_ble_eq_true rfl)) d_Mo_quoted_206 ⟨hcp_Tb, hcq_Tb⟩) hS (fun q _ h => hFc q h) hFc (fun r0 u2 t9 H1 locs ht hvm hw hB hz1 hk1 hS => ?_)
                            obtain ⟨hP1, hK1, hD1⟩ := hB
                            rw [ht] at hP1
                            obtain ⟨hP, hD⟩ := va_join (wr := [(qx, .inl (cB, NN, .inl f)), (t, .inr (12, MF 13 (tw Tb))), (Tb.au, .inl (cC, Tb.U, .inl Tb.un))]) (w1 := [(mo, .inr (13, MF 30 u2))]) hP hD [0] [1, 2, 3] rfl rfl (by decide) (by decide) hk1 hFc hP1 hD1
                            generalize H1 = H at hP hS ⊢
                            have hP : va_P (dC, dI) classes [(qx, .inl (cB, NN, .inl f)), (t, .inr (12, MF 13 (tw Tb))), (Tb.au, .inl (cC, Tb.U, .inl Tb.un)), (mo, .inr (13, MF 30 u2))] H := hP
                            have hD : va_D A [(qx, .inl (cB, NN, .inl f)), (t, .inr (12, MF 13 (tw Tb))), (Tb.au, .inl (cC, Tb.U, .inl Tb.un)), (mo, .inr (13, MF 30 u2))] := hD
                            have hP := hP.sub (ws' := [(mo, .inr (13, MF 30 u2)), (qx, .inl (cB, NN, .inl f)), (t, .inr (12, MF 13 (tw Tb))), (Tb.au, .inl (cC, Tb.U, .inl Tb.un))]) [3, 0, 1, 2] rfl
                            have hD := hD.sub (ws' := [(mo, .inr (13, MF 30 u2)), (qx, .inl (cB, NN, .inl f)), (t, .inr (12, MF 13 (tw Tb))), (Tb.au, .inl (cC, Tb.U, .inl Tb.un))]) [3, 0, 1, 2] (by decide) rfl
                            obtain ⟨b7, h_b7⟩ := rf_fail (v := v) (i := (escM f n q j).2) (br := b2) (b2 := b2) (wh := (nI n))
                            have hw : r0 = 0 ∧ u2 = _ := hw
                            obtain ⟨hw1, hw2⟩ := hw
                            rw [h_b7] at hw2
                            rw [hw2] at hP hD
                            subst hw1
                            have hP : va_P (dC, dI) classes [(mo, .inr (13, MF 30 (rf v (escM f n q j).2 b7))), (qx, .inl (cB, NN, .inl f)), (t, .inr (12, MF 13 (tw Tb))), (Tb.au, .inl (cC, Tb.U, .inl Tb.un))] H := hP
                            have hD : va_D A [(mo, .inr (13, MF 30 (rf v (escM f n q j).2 b7))), (qx, .inl (cB, NN, .inl f)), (t, .inr (12, MF 13 (tw Tb))), (Tb.au, .inl (cC, Tb.U, .inl Tb.un))] := hD
                            have hfin : qtM f n q (n + 13) (i + 1) [] = none := by
                              rw [← hI4, hk0]
                              simp only [qtM]
                              rw [if_neg (fun h => c15 (h_r1.trans h)), if_neg (fun h => by rw [← h_r2] at h; exact h.elim c33 (fun h => h c40)), if_neg (fun h => h (h_r2.symm.trans c74)), if_neg (fun h => h (by rw [← h_u]; exact c105)), if_neg (fun h => by rw [← h_u] at h; exact h.2 c121), if_neg (fun h => by rw [← h_u] at h; exact h.elim c140 (fun h => h c147)), if_neg (fun h => h hj2), if_neg (fun h => h (h_r3.symm.trans c179)), if_pos hj3]
                            have hcp3 := q_cap hX_Tb (B := (T.us + (n + 12 - i))) (by first | omega | (simp only [List.length_append, List.length_singleton]; omega))
                            refine w_same (fun hq => ?_)
                            refine W.widen (k := qcap T (T.us + (n + 12 - i))) (n := 2 * qcap T (T.us + (n + 12 - i))) (by omega) (by omega) ?_
                            exact W.zret (v := 0) hx hb hr rfl (fun t9 ht hW => ⟨⟨0, (Tb, us ++ [u9], (escM f n q j).2, b7), rfl, ⟨hX_Tb, Or.inr ⟨rfl, hqQ.trans hfin, by show (us ++ [u9]).length ≤ n + 12 - i; first | omega | (simp only [List.length_append, List.length_singleton]; omega), by show (escM f n q j).2 ≤ n + 30; omega⟩⟩, ⟨by rw [ht]; exact hP, va_K.moved hW.alike hK, hD⟩, by rw [ht]; exact hq.mono (Nat.le_refl _) (Nat.le_refl _)⟩, hS.F ht⟩) hS.2.2 d_Mo_quoted_209
                        · refine lv_aload_n hx hb d_Mo_quoted_182 rfl (lv_at hl 3 rfl) ?_
                          refine lv_iload_n hx hb d_Mo_quoted_183 rfl (lv_at hl 2 rfl) ?_
                          have hPc := hP.sub (ws' := [(mo, .inr (13, MF 30 (rf v (escM f n q j).2 b2)))]) [0] rfl
                          have hDc := hD.sub (ws' := [(mo, .inr (13, MF 30 (rf v (escM f n q j).2 b2)))]) [0] (by decide) rfl
                          have hKc := hK.sub (tys' := []) [] rfl
                          have hFc := va_free (wc := [(mo, .inr (13, MF 30 (rf v (escM f n q j).2 b2)))]) hD hS hA [0] rfl
                          refine va_calli (va_runV (As := [.int (nI j)]) (rest := []) ⟨hx, hb, hml, hown, hts⟩ (c_Mo_fail l dC dI mo H (rf v (escM f n q j).2 b2) b2 ((nI j)) rf_9) (cwV 1 hts (gt_V (own := R_Mo) (C := R_Mo) (i := 151) (y := y_Mo_fail) i_Mo_fail w_1250 w_1252 (gt_sel (y := y_Mo_fail) (n := 30) (by decide +kernel)) w_7) rfl rfl rfl (by decide +kernel) ⟨Nat.le_of_ble_eq_true rfl, Nat.le_of_ble_eq_true rfl⟩) ⟨mp_blind, va_recv hKc hPc (ci := 13) (q0 := 0) rfl rfl, fun U hU hW => ⟨rfl, hU, by rw [hU]; exact hPc, va_K.moved hW.alike hKc, hDc.weaken (fun _ _ _ _ => trivial)⟩⟩ rfl rfl hl.1 rfl (lv_room (Nat.le_of_ble_eq_true rfl)) d_Mo_quoted_184 ⟨hcp_Tb, hcq_Tb⟩) hS (fun q _ h => hFc q h) hFc (fun r0 u2 t9 H1 locs ht hvm hw hB hz1 hk1 hS => ?_)
                          obtain ⟨hP1, hK1, hD1⟩ := hB
                          rw [ht] at hP1
                          obtain ⟨hP, hD⟩ := va_join (wr := [(qx, .inl (cB, NN, .inl f)), (t, .inr (12, MF 13 (tw Tb))), (Tb.au, .inl (cC, Tb.U, .inl Tb.un))]) (w1 := [(mo, .inr (13, MF 30 u2))]) hP hD [0] [1, 2, 3] rfl rfl (by decide) (by decide) hk1 hFc hP1 hD1
                          generalize H1 = H at hP hS ⊢
                          have hP : va_P (dC, dI) classes [(qx, .inl (cB, NN, .inl f)), (t, .inr (12, MF 13 (tw Tb))), (Tb.au, .inl (cC, Tb.U, .inl Tb.un)), (mo, .inr (13, MF 30 u2))] H := hP
                          have hD : va_D A [(qx, .inl (cB, NN, .inl f)), (t, .inr (12, MF 13 (tw Tb))), (Tb.au, .inl (cC, Tb.U, .inl Tb.un)), (mo, .inr (13, MF 30 u2))] := hD
                          have hP := hP.sub (ws' := [(mo, .inr (13, MF 30 u2)), (qx, .inl (cB, NN, .inl f)), (t, .inr (12, MF 13 (tw Tb))), (Tb.au, .inl (cC, Tb.U, .inl Tb.un))]) [3, 0, 1, 2] rfl
                          have hD := hD.sub (ws' := [(mo, .inr (13, MF 30 u2)), (qx, .inl (cB, NN, .inl f)), (t, .inr (12, MF 13 (tw Tb))), (Tb.au, .inl (cC, Tb.U, .inl Tb.un))]) [3, 0, 1, 2] (by decide) rfl
                          obtain ⟨b7, h_b7⟩ := rf_fail (v := v) (i := (escM f n q j).2) (br := b2) (b2 := b2) (wh := (nI j))
                          have hw : r0 = 0 ∧ u2 = _ := hw
                          obtain ⟨hw1, hw2⟩ := hw
                          rw [h_b7] at hw2
                          rw [hw2] at hP hD
                          subst hw1
                          have hP : va_P (dC, dI) classes [(mo, .inr (13, MF 30 (rf v (escM f n q j).2 b7))), (qx, .inl (cB, NN, .inl f)), (t, .inr (12, MF 13 (tw Tb))), (Tb.au, .inl (cC, Tb.U, .inl Tb.un))] H := hP
                          have hD : va_D A [(mo, .inr (13, MF 30 (rf v (escM f n q j).2 b7))), (qx, .inl (cB, NN, .inl f)), (t, .inr (12, MF 13 (tw Tb))), (Tb.au, .inl (cC, Tb.U, .inl Tb.un))] := hD
                          have hfin : qtM f n q (n + 13) (i + 1) [] = none := by
                            rw [← hI4, hk0]
                            simp only [qtM]
                            rw [if_neg (fun h => c15 (h_r1.trans h)), if_neg (fun h => by rw [← h_r2] at h; exact h.elim c33 (fun h => h c40)), if_neg (fun h => h (h_r2.symm.trans c74)), if_neg (fun h => h (by rw [← h_u]; exact c105)), if_neg (fun h => by rw [← h_u] at h; exact h.2 c121), if_neg (fun h => by rw [← h_u] at h; exact h.elim c140 (fun h => h c147)), if_neg (fun h => h hj2), if_pos (fun h => c179 (h_r3.trans h))]
                          have hcp3 := q_cap hX_Tb (B := (T.us + (n + 12 - i))) (by first | omega | (simp only [List.length_append, List.length_singleton]; omega))
                          refine w_same (fun hq => ?_)
                          refine W.widen (k := qcap T (T.us + (n + 12 - i))) (n := 2 * qcap T (T.us + (n + 12 - i))) (by omega) (by omega) ?_
                          exact W.zret (v := 0) hx hb hr rfl (fun t9 ht hW => ⟨⟨0, (Tb, us ++ [u9], (escM f n q j).2, b7), rfl, ⟨hX_Tb, Or.inr ⟨rfl, hqQ.trans hfin, by show (us ++ [u9]).length ≤ n + 12 - i; first | omega | (simp only [List.length_append, List.length_singleton]; omega), by show (escM f n q j).2 ≤ n + 30; omega⟩⟩, ⟨by rw [ht]; exact hP, va_K.moved hW.alike hK, hD⟩, by rw [ht]; exact hq.mono (Nat.le_refl _) (Nat.le_refl _)⟩, hS.F ht⟩) hS.2.2 d_Mo_quoted_187
                      · have hj2 : ¬ (escM f n q j).2 < n := fun h => c161 (by rw [nI_ltI (by omega) (by omega)]; exact h)
                        refine lv_aload_n hx hb d_Mo_quoted_164 rfl (lv_at hl 3 rfl) ?_
                        refine lv_aload_n hx hb d_Mo_quoted_165 rfl (lv_at hl 3 rfl) ?_
                        refine va_get (D := (dC, dI)) (ci := 13) (v := .int (nI n)) (C := R_Mo) (T := F_Mo) (N := 30) hx hb hts in_Mo hown hK hP 0 rfl rfl 8 (by decide) (hts _ w_1097) (fun _ h9 => h9) (MFg (by decide) ((rf_ne (by decide) (by decide)).trans h8)) d_Mo_quoted_166 ?_
                        have hPc := hP.sub (ws' := [(mo, .inr (13, MF 30 (rf v (escM f n q j).2 b2)))]) [0] rfl
                        have hDc := hD.sub (ws' := [(mo, .inr (13, MF 30 (rf v (escM f n q j).2 b2)))]) [0] (by decide) rfl
                        have hKc := hK.sub (tys' := []) [] rfl
                        have hFc := va_free (wc := [(mo, .inr (13, MF 30 (rf v (escM f n q j).2 b2)))]) hD hS hA [0] rfl
                        refine va_calli (va_runV (As := [.int (nI n)]) (rest := []) ⟨hx, hb, hml, hown, hts⟩ (c_Mo_fail l dC dI mo H (rf v (escM f n q j).2 b2) b2 ((nI n)) rf_9) (cwV 1 hts (gt_V (own := R_Mo) (C := R_Mo) (i := 151) (y := y_Mo_fail) i_Mo_fail w_1250 w_1252 (gt_sel (y := y_Mo_fail) (n := 30) (by decide +kernel)) w_7) rfl rfl rfl (by decide +kernel) ⟨Nat.le_of_ble_eq_true rfl, Nat.le_of_ble_eq_true rfl⟩) ⟨mp_blind, va_recv hKc hPc (ci := 13) (q0 := 0) rfl rfl, fun U hU hW => ⟨rfl, hU, by rw [hU]; exact hPc, va_K.moved hW.alike hKc, hDc.weaken (fun _ _ _ _ => trivial)⟩⟩ rfl rfl hl.1 rfl (lv_room (Nat.le_of_ble_eq_true rfl)) d_Mo_quoted_169 ⟨hcp_Tb, hcq_Tb⟩) hS (fun q _ h => hFc q h) hFc (fun r0 u2 t9 H1 locs ht hvm hw hB hz1 hk1 hS => ?_)
                        obtain ⟨hP1, hK1, hD1⟩ := hB
                        rw [ht] at hP1
                        obtain ⟨hP, hD⟩ := va_join (wr := [(qx, .inl (cB, NN, .inl f)), (t, .inr (12, MF 13 (tw Tb))), (Tb.au, .inl (cC, Tb.U, .inl Tb.un))]) (w1 := [(mo, .inr (13, MF 30 u2))]) hP hD [0] [1, 2, 3] rfl rfl (by decide) (by decide) hk1 hFc hP1 hD1
                        generalize H1 = H at hP hS ⊢
                        have hP : va_P (dC, dI) classes [(qx, .inl (cB, NN, .inl f)), (t, .inr (12, MF 13 (tw Tb))), (Tb.au, .inl (cC, Tb.U, .inl Tb.un)), (mo, .inr (13, MF 30 u2))] H := hP
                        have hD : va_D A [(qx, .inl (cB, NN, .inl f)), (t, .inr (12, MF 13 (tw Tb))), (Tb.au, .inl (cC, Tb.U, .inl Tb.un)), (mo, .inr (13, MF 30 u2))] := hD
                        have hP := hP.sub (ws' := [(mo, .inr (13, MF 30 u2)), (qx, .inl (cB, NN, .inl f)), (t, .inr (12, MF 13 (tw Tb))), (Tb.au, .inl (cC, Tb.U, .inl Tb.un))]) [3, 0, 1, 2] rfl
                        have hD := hD.sub (ws' := [(mo, .inr (13, MF 30 u2)), (qx, .inl (cB, NN, .inl f)), (t, .inr (12, MF 13 (tw Tb))), (Tb.au, .inl (cC, Tb.U, .inl Tb.un))]) [3, 0, 1, 2] (by decide) rfl
                        obtain ⟨b7, h_b7⟩ := rf_fail (v := v) (i := (escM f n q j).2) (br := b2) (b2 := b2) (wh := (nI n))
                        have hw : r0 = 0 ∧ u2 = _ := hw
                        obtain ⟨hw1, hw2⟩ := hw
                        rw [h_b7] at hw2
                        rw [hw2] at hP hD
                        subst hw1
                        have hP : va_P (dC, dI) classes [(mo, .inr (13, MF 30 (rf v (escM f n q j).2 b7))), (qx, .inl (cB, NN, .inl f)), (t, .inr (12, MF 13 (tw Tb))), (Tb.au, .inl (cC, Tb.U, .inl Tb.un))] H := hP
                        have hD : va_D A [(mo, .inr (13, MF 30 (rf v (escM f n q j).2 b7))), (qx, .inl (cB, NN, .inl f)), (t, .inr (12, MF 13 (tw Tb))), (Tb.au, .inl (cC, Tb.U, .inl Tb.un))] := hD
                        have hfin : qtM f n q (n + 13) (i + 1) [] = none := by
                          rw [← hI4, hk0]
                          simp only [qtM]
                          rw [if_neg (fun h => c15 (h_r1.trans h)), if_neg (fun h => by rw [← h_r2] at h; exact h.elim c33 (fun h => h c40)), if_neg (fun h => h (h_r2.symm.trans c74)), if_neg (fun h => h (by rw [← h_u]; exact c105)), if_neg (fun h => by rw [← h_u] at h; exact h.2 c121), if_neg (fun h => by rw [← h_u] at h; exact h.elim c140 (fun h => h c147)), if_pos hj2]
                        have hcp3 := q_cap hX_Tb (B := (T.us + (n + 12 - i))) (by first | omega | (simp only [List.length_append, List.length_singleton]; omega))
                        refine w_same (fun hq => ?_)
                        refine W.widen (k := qcap T (T.us + (n + 12 - i))) (n := 2 * qcap T (T.us + (n + 12 - i))) (by omega) (by omega) ?_
                        exact W.zret (v := 0) hx hb hr rfl (fun t9 ht hW => ⟨⟨0, (Tb, us ++ [u9], (escM f n q j).2, b7), rfl, ⟨hX_Tb, Or.inr ⟨rfl, hqQ.trans hfin, by show (us ++ [u9]).length ≤ n + 12 - i; first | omega | (simp only [List.length_append, List.length_singleton]; omega), by show (escM f n q j).2 ≤ n + 30; omega⟩⟩, ⟨by rw [ht]; exact hP, va_K.moved hW.alike hK, hD⟩, by rw [ht]; exact hq.mono (Nat.le_refl _) (Nat.le_refl _)⟩, hS.F ht⟩) hS.2.2 d_Mo_quoted_172
                    · refine lv_goto (tgt := 10) hx hb d_Mo_quoted_150 (by decide) ?_
                      refine w_same (fun hq => ?_)
                      have hcp2 := q_cap hX_Tb (B := (T.us + (n + 12 - i))) (by first | omega | (simp only [List.length_append, List.length_singleton]; omega))
                      refine W.widen (k := qcap T (T.us + (n + 12 - i))) (n := 2 * qcap T (T.us + (n + 12 - i))) (by omega) (by omega) ?_
                      have hst : qtM f n q k0 (escM f n q j).2 (us ++ [u9]) = qtM f n q (n + 13) (i + 1) [] := by
                        rw [← hI4, hk0]
                        simp only [qtM]
                        rw [if_neg (fun h => c15 (h_r1.trans h)), if_neg (fun h => by rw [← h_r2] at h; exact h.elim c33 (fun h => h c40)), if_neg (fun h => h (h_r2.symm.trans c74)), if_neg (fun h => h (by rw [← h_u]; exact c105)), if_neg (fun h => by rw [← h_u] at h; exact h.2 c121), if_pos (Or.inr (by rw [← h_u]; exact c147)), ← h_u]
                      exact ih (Tb, us ++ [u9], k0, (escM f n q j).2, b2) _ _ _ ⟨hX_Tb, by first | omega | (simp only [List.length_append, List.length_singleton]; omega), by omega, by omega, hst, hq⟩ (by show n + 13 - (escM f n q j).2 < n + 13 - j; omega) hP hD hS (lv_sub hl [3, 4, 5] rfl)
                · refine lv_aload_n hx hb d_Mo_quoted_124 rfl (lv_at hl 3 rfl) ?_
                  refine lv_iload_n hx hb d_Mo_quoted_125 rfl (lv_at hl 2 rfl) ?_
                  have hPc := hP.sub (ws' := [(mo, .inr (13, MF 30 (rf v (escM f n q j).2 b2)))]) [0] rfl
                  have hDc := hD.sub (ws' := [(mo, .inr (13, MF 30 (rf v (escM f n q j).2 b2)))]) [0] (by decide) rfl
                  have hKc := hK.sub (tys' := []) [] rfl
                  have hFc := va_free (wc := [(mo, .inr (13, MF 30 (rf v (escM f n q j).2 b2)))]) hD hS hA [0] rfl
                  refine va_calli (va_runV (As := [.int (nI j)]) (rest := []) ⟨hx, hb, hml, hown, hts⟩ (c_Mo_fail l dC dI mo H (rf v (escM f n q j).2 b2) b2 ((nI j)) rf_9) (cwV 1 hts (gt_V (own := R_Mo) (C := R_Mo) (i := 151) (y := y_Mo_fail) i_Mo_fail w_1250 w_1252 (gt_sel (y := y_Mo_fail) (n := 30) (by decide +kernel)) w_7) rfl rfl rfl (by decide +kernel) ⟨Nat.le_of_ble_eq_true rfl, Nat.le_of_ble_eq_true rfl⟩) ⟨mp_blind, va_recv hKc hPc (ci := 13) (q0 := 0) rfl rfl, fun U hU hW => ⟨rfl, hU, by rw [hU]; exact hPc, va_K.moved hW.alike hKc, hDc.weaken (fun _ _ _ _ => trivial)⟩⟩ rfl rfl hl.1 rfl (lv_room (Nat.le_of_ble_eq_true rfl)) d_Mo_quoted_126 ⟨hcap, hcap2⟩) hS (fun q _ h => hFc q h) hFc (fun r0 u2 t9 H1 locs ht hvm hw hB hz1 hk1 hS => ?_)
                  obtain ⟨hP1, hK1, hD1⟩ := hB
                  rw [ht] at hP1
                  obtain ⟨hP, hD⟩ := va_join (wr := [(qx, .inl (cB, NN, .inl f)), (t, .inr (12, MF 13 (tw Tc))), (Tc.au, .inl (cC, Tc.U, .inl Tc.un))]) (w1 := [(mo, .inr (13, MF 30 u2))]) hP hD [0] [1, 2, 3] rfl rfl (by decide) (by decide) hk1 hFc hP1 hD1
                  generalize H1 = H at hP hS ⊢
                  have hP : va_P (dC, dI) classes [(qx, .inl (cB, NN, .inl f)), (t, .inr (12, MF 13 (tw Tc))), (Tc.au, .inl (cC, Tc.U, .inl Tc.un)), (mo, .inr (13, MF 30 u2))] H := hP
                  have hD : va_D A [(qx, .inl (cB, NN, .inl f)), (t, .inr (12, MF 13 (tw Tc))), (Tc.au, .inl (cC, Tc.U, .inl Tc.un)), (mo, .inr (13, MF 30 u2))] := hD
                  have hP := hP.sub (ws' := [(mo, .inr (13, MF 30 u2)), (qx, .inl (cB, NN, .inl f)), (t, .inr (12, MF 13 (tw Tc))), (Tc.au, .inl (cC, Tc.U, .inl Tc.un))]) [3, 0, 1, 2] rfl
                  have hD := hD.sub (ws' := [(mo, .inr (13, MF 30 u2)), (qx, .inl (cB, NN, .inl f)), (t, .inr (12, MF 13 (tw Tc))), (Tc.au, .inl (cC, Tc.U, .inl Tc.un))]) [3, 0, 1, 2] (by decide) rfl
                  obtain ⟨b7, h_b7⟩ := rf_fail (v := v) (i := (escM f n q j).2) (br := b2) (b2 := b2) (wh := (nI j))
                  have hw : r0 = 0 ∧ u2 = _ := hw
                  obtain ⟨hw1, hw2⟩ := hw
                  rw [h_b7] at hw2
                  rw [hw2] at hP hD
                  subst hw1
                  have hP : va_P (dC, dI) classes [(mo, .inr (13, MF 30 (rf v (escM f n q j).2 b7))), (qx, .inl (cB, NN, .inl f)), (t, .inr (12, MF 13 (tw Tc))), (Tc.au, .inl (cC, Tc.U, .inl Tc.un))] H := hP
                  have hD : va_D A [(mo, .inr (13, MF 30 (rf v (escM f n q j).2 b7))), (qx, .inl (cB, NN, .inl f)), (t, .inr (12, MF 13 (tw Tc))), (Tc.au, .inl (cC, Tc.U, .inl Tc.un))] := hD
                  have hfin : qtM f n q (n + 13) (i + 1) [] = none := by
                    rw [← hI4, hk0]
                    simp only [qtM]
                    rw [if_neg (fun h => c15 (h_r1.trans h)), if_neg (fun h => by rw [← h_r2] at h; exact h.elim c33 (fun h => h c40)), if_neg (fun h => h (h_r2.symm.trans c74)), if_neg (fun h => h (by rw [← h_u]; exact c105)), if_pos (by rw [← h_u]; exact ⟨c114, c121⟩)]
                  have hcp3 := q_cap hTX (B := (T.us + (n + 12 - i))) (by first | omega | (simp only [List.length_append, List.length_singleton]; omega))
                  refine w_same (fun hq => ?_)
                  refine W.widen (k := qcap T (T.us + (n + 12 - i))) (n := 2 * qcap T (T.us + (n + 12 - i))) (by omega) (by omega) ?_
                  exact W.zret (v := 0) hx hb hr rfl (fun t9 ht hW => ⟨⟨0, (Tc, us, (escM f n q j).2, b7), rfl, ⟨hTX, Or.inr ⟨rfl, hqQ.trans hfin, by show (us).length ≤ n + 12 - i; first | omega | (simp only [List.length_append, List.length_singleton]; omega), by show (escM f n q j).2 ≤ n + 30; omega⟩⟩, ⟨by rw [ht]; exact hP, va_K.moved hW.alike hK, hD⟩, by rw [ht]; exact hq.mono (Nat.le_refl _) (Nat.le_refl _)⟩, hS.F ht⟩) hS.2.2 d_Mo_quoted_129
            · refine lv_iconst (v := 0) hx hb d_Mo_quoted_108 (by decide) ?_
              have hfin : qtM f n q (n + 13) (i + 1) [] = none := by
                rw [← hI4, hk0]
                simp only [qtM]
                rw [if_neg (fun h => c15 (h_r1.trans h)), if_neg (fun h => by rw [← h_r2] at h; exact h.elim c33 (fun h => h c40)), if_neg (fun h => h (h_r2.symm.trans c74)), if_pos (by rw [← h_u]; exact c105)]
              have hcp3 := q_cap hTX (B := (T.us + (n + 12 - i))) (by first | omega | (simp only [List.length_append, List.length_singleton]; omega))
              refine w_same (fun hq => ?_)
              refine W.widen (k := qcap T (T.us + (n + 12 - i))) (n := 2 * qcap T (T.us + (n + 12 - i))) (by omega) (by omega) ?_
              exact W.zret (v := 0) hx hb hr rfl (fun t9 ht hW => ⟨⟨0, (Tc, us, (escM f n q j).2, b2), rfl, ⟨hTX, Or.inr ⟨rfl, hqQ.trans hfin, by show (us).length ≤ n + 12 - i; first | omega | (simp only [List.length_append, List.length_singleton]; omega), by show (escM f n q j).2 ≤ n + 30; omega⟩⟩, ⟨by rw [ht]; exact hP, va_K.moved hW.alike hK, hD⟩, by rw [ht]; exact hq.mono (Nat.le_refl _) (Nat.le_refl _)⟩, hS.F ht⟩) hS.2.2 d_Mo_quoted_109
          · refine lv_aload_n hx hb d_Mo_quoted_77 rfl (lv_at hl 4 rfl) ?_
            refine lv_iload hx hb d_Mo_quoted_78 (lv_at hl 0 rfl) ?_
            have hjn : j < n := here_l32 (by rw [← h_r2]; exact c33)
            have hft := q_fit hTX hT0 (B := (T.us + (n + 12 - i))) (by first | omega | (simp only [List.length_append, List.length_singleton]; omega))
            have hPc := hP.sub (ws' := [(t, .inr (12, MF 13 (tw Tc))), (Tc.au, .inl (cC, Tc.U, .inl Tc.un))]) [2, 3] rfl
            have hDc := hD.sub (ws' := [(t, .inr (12, MF 13 (tw Tc))), (Tc.au, .inl (cC, Tc.U, .inl Tc.un))]) [2, 3] (by decide) rfl
            have hKc := hK.sub (tys' := [(cC, .char)]) [1] rfl
            have hFc := va_free (wc := [(t, .inr (12, MF 13 (tw Tc))), (Tc.au, .inl (cC, Tc.U, .inl Tc.un))]) hD hS hA [2, 3] rfl
            refine w_same (fun hq0 => ?_)
            refine va_callv (va_runV (As := [.int r2]) (rest := []) ⟨hx, hb, hml, hown, hts⟩ (c_Tree_unitT l dC dI t H cC Tc r2 hTc) (cwV 1 hts (gt_V (own := R_Mo) (C := R_Tree) (i := 177) (y := y_Tree_unit) i_Tree_unit w_1265 w_1266 w_1267 w_8) rfl rfl rfl (by decide +kernel) ⟨Nat.le_of_ble_eq_true rfl, Nat.le_of_ble_eq_true rfl⟩) ⟨mp_blind, va_recv hKc hPc (ci := 12) (q0 := 0) rfl rfl, fun U hU hW => ⟨rfl, hU, by rw [hU]; exact hPc, va_K.moved hW.alike hKc, hDc.weaken (fun _ _ _ _ => trivial)⟩⟩ rfl rfl hl.1 rfl (lv_room (Nat.le_of_ble_eq_true rfl)) d_Mo_quoted_80 ⟨by show Tc.U - T.U + grC Tc.U Tc.us ≤ qcap T (T.us + (n + 12 - i)); omega, by show 2 * (Tc.U - T.U) + grS Tc.U Tc.us ≤ 2 * qcap T (T.us + (n + 12 - i)); omega⟩) hS (fun q _ h => hFc q h) hFc (fun Ta t9 H1 locs ht hvm hw hB hz1 hk1 hS => ?_)
            obtain ⟨⟨hP1, hK1, hD1⟩, hz9⟩ := hB
            rw [ht] at hP1
            rw [ht] at hz9
            have hw : TX Tc Ta [r2] := hw
            have hX_Ta : TX T Ta (us ++ [r2]) := by have := hTX.trans hw; simpa [List.append_assoc] using this
            have hU1 := hw.U
            have hU2 := hTX.U
            have hq1 : szk s.heap H1 (Ta.U - T.U) (2 * (Ta.U - T.U)) := (hq0.trans hz9).mono (by omega) (by omega)
            refine w_tight hq1 ?_
            obtain ⟨hP, hD⟩ := va_join (wr := [(mo, .inr (13, MF 30 (rf v j b))), (qx, .inl (cB, NN, .inl f))]) (w1 := [(t, .inr (12, MF 13 (tw Ta))), (Ta.au, .inl (cC, Ta.U, .inl Ta.un))]) hP hD [2, 3] [0, 1] rfl rfl (by decide) (by decide) hk1 hFc hP1 hD1
            generalize H1 = H at hP hS ⊢
            have hP : va_P (dC, dI) classes [(mo, .inr (13, MF 30 (rf v j b))), (qx, .inl (cB, NN, .inl f)), (t, .inr (12, MF 13 (tw Ta))), (Ta.au, .inl (cC, Ta.U, .inl Ta.un))] H := hP
            have hD : va_D A [(mo, .inr (13, MF 30 (rf v j b))), (qx, .inl (cB, NN, .inl f)), (t, .inr (12, MF 13 (tw Ta))), (Ta.au, .inl (cC, Ta.U, .inl Ta.un))] := hD
            have hP := hP.sub (ws' := [(mo, .inr (13, MF 30 (rf v j b))), (qx, .inl (cB, NN, .inl f)), (t, .inr (12, MF 13 (tw Ta))), (Ta.au, .inl (cC, Ta.U, .inl Ta.un))]) [0, 1, 2, 3] rfl
            have hD := hD.sub (ws' := [(mo, .inr (13, MF 30 (rf v j b))), (qx, .inl (cB, NN, .inl f)), (t, .inr (12, MF 13 (tw Ta))), (Ta.au, .inl (cC, Ta.U, .inl Ta.un))]) [0, 1, 2, 3] (by decide) rfl
            have hk_Ta := hX_Ta.ok hT0 (by first | omega | (simp only [List.length_append, List.length_singleton]; omega))
            have hcp_Ta := q_cap hX_Ta (B := (T.us + (n + 12 - i))) (by first | omega | (simp only [List.length_append, List.length_singleton]; omega))
            have hcq_Ta : 2 * (Ta.U - T.U) ≤ 2 * qcap T (T.us + (n + 12 - i)) := by omega
            refine lv_aload_n hx hb d_Mo_quoted_83 rfl (lv_at hl 2 rfl) ?_
            refine lv_dup hx hb d_Mo_quoted_84 rfl ?_
            refine va_get (D := (dC, dI)) (ci := 13) (v := .int (nI j)) (C := R_Mo) (T := F_Mo) (N := 30) hx hb hts in_Mo hown hK hP 0 rfl rfl 7 (by decide) (hts _ w_1096) (fun _ h9 => h9) (MFg (by decide) rf_7) d_Mo_quoted_85 ?_
            refine lv_iconst (v := 1) hx hb d_Mo_quoted_88 (by decide) ?_
            refine lv_iadd hx hb d_Mo_quoted_89 ?_
            refine W.eq (g2 := F0 m 90 ls [.int (nI (j + 1)), .ref mo]) (by rw [show ((nI j) + 1) = (nI (j + 1)) from nI_1 _]) ?_
            refine va_put (D := (dC, dI)) (ci := 13) (v := .int (nI (j + 1))) (ty := .int) (C := R_Mo) (T := F_Mo) (N := 30) hx hb hts in_Mo t_Mo t_Mo_ok n_Mo hown hK hP hD hS 0 rfl rfl 7 (by decide) (hts _ w_1096) (fun _ h9 => h9) rfl (by decide +kernel) rfl rfl (by rw [MFl]; decide) d_Mo_quoted_90 (fun H locs hP hD hS => ?_)
            rw [MFs (n := 30) (k := 7) (by decide)] at hP hD
            have hP : va_P (dC, dI) classes [(mo, .inr (13, MF 30 (va_up (rf v j b) 7 (.int (nI (j + 1)))))), (qx, .inl (cB, NN, .inl f)), (t, .inr (12, MF 13 (tw Ta))), (Ta.au, .inl (cC, Ta.U, .inl Ta.un))] H := hP
            have hD : va_D A [(mo, .inr (13, MF 30 (va_up (rf v j b) 7 (.int (nI (j + 1)))))), (qx, .inl (cB, NN, .inl f)), (t, .inr (12, MF 13 (tw Ta))), (Ta.au, .inl (cC, Ta.U, .inl Ta.un))] := hD
            rw [rf_u7] at hP hD
            have hP : va_P (dC, dI) classes [(mo, .inr (13, MF 30 (rf v (j + 1) b))), (qx, .inl (cB, NN, .inl f)), (t, .inr (12, MF 13 (tw Ta))), (Ta.au, .inl (cC, Ta.U, .inl Ta.un))] H := hP
            have hD : va_D A [(mo, .inr (13, MF 30 (rf v (j + 1) b))), (qx, .inl (cB, NN, .inl f)), (t, .inr (12, MF 13 (tw Ta))), (Ta.au, .inl (cC, Ta.U, .inl Ta.un))] := hD
            refine lv_goto (tgt := 10) hx hb d_Mo_quoted_93 (by decide) ?_
            refine w_same (fun hq => ?_)
            have hcp2 := q_cap hX_Ta (B := (T.us + (n + 12 - i))) (by first | omega | (simp only [List.length_append, List.length_singleton]; omega))
            refine W.widen (k := qcap T (T.us + (n + 12 - i))) (n := 2 * qcap T (T.us + (n + 12 - i))) (by omega) (by omega) ?_
            have hst : qtM f n q k0 (j + 1) (us ++ [r2]) = qtM f n q (n + 13) (i + 1) [] := by
              rw [← hI4, hk0]
              simp only [qtM]
              rw [if_neg (fun h => c15 (h_r1.trans h)), if_neg (fun h => by rw [← h_r2] at h; exact h.elim c33 (fun h => h c40)), if_pos (fun h => c74 (h_r2.trans h)), ← h_r2]
            exact ih (Ta, us ++ [r2], k0, (j + 1), b) _ _ _ ⟨hX_Ta, by first | omega | (simp only [List.length_append, List.length_singleton]; omega), by omega, by omega, hst, hq⟩ (by show n + 13 - (j + 1) < n + 13 - j; omega) hP hD hS (lv_sub hl [2, 3, 4] rfl)
        · refine lv_aload_n hx hb d_Mo_quoted_43 rfl (lv_at hl 2 rfl) ?_
          refine lv_aload_n hx hb d_Mo_quoted_44 rfl (lv_at hl 2 rfl) ?_
          refine va_get (D := (dC, dI)) (ci := 13) (v := .int (nI j)) (C := R_Mo) (T := F_Mo) (N := 30) hx hb hts in_Mo hown hK hP 0 rfl rfl 7 (by decide) (hts _ w_1096) (fun _ h9 => h9) (MFg (by decide) rf_7) d_Mo_quoted_45 ?_
          refine lv_aload_n hx hb d_Mo_quoted_48 rfl (lv_at hl 2 rfl) ?_
          refine va_get (D := (dC, dI)) (ci := 13) (v := .int (nI n)) (C := R_Mo) (T := F_Mo) (N := 30) hx hb hts in_Mo hown hK hP 0 rfl rfl 8 (by decide) (hts _ w_1097) (fun _ h9 => h9) (MFg (by decide) ((rf_ne (by decide) (by decide)).trans h8)) d_Mo_quoted_49 ?_
          refine lv_icmp_lt (tgt := 62) hx hb d_Mo_quoted_52 (by decide) (fun c52 => ?_) (fun c52 => ?_)
          · refine lv_aload_n hx hb d_Mo_quoted_62 rfl (lv_at hl 2 rfl) ?_
            refine va_get (D := (dC, dI)) (ci := 13) (v := .int (nI j)) (C := R_Mo) (T := F_Mo) (N := 30) hx hb hts in_Mo hown hK hP 0 rfl rfl 7 (by decide) (hts _ w_1096) (fun _ h9 => h9) (MFg (by decide) rf_7) d_Mo_quoted_63 ?_
            have hPc := hP.sub (ws' := [(mo, .inr (13, MF 30 (rf v j b)))]) [0] rfl
            have hDc := hD.sub (ws' := [(mo, .inr (13, MF 30 (rf v j b)))]) [0] (by decide) rfl
            have hKc := hK.sub (tys' := []) [] rfl
            have hFc := va_free (wc := [(mo, .inr (13, MF 30 (rf v j b)))]) hD hS hA [0] rfl
            refine va_calli (va_runV (As := [.int (nI j)]) (rest := []) ⟨hx, hb, hml, hown, hts⟩ (c_Mo_fail l dC dI mo H (rf v j b) b ((nI j)) rf_9) (cwV 1 hts (gt_V (own := R_Mo) (C := R_Mo) (i := 151) (y := y_Mo_fail) i_Mo_fail w_1250 w_1252 (gt_sel (y := y_Mo_fail) (n := 30) (by decide +kernel)) w_7) rfl rfl rfl (by decide +kernel) ⟨Nat.le_of_ble_eq_true rfl, Nat.le_of_ble_eq_true rfl⟩) ⟨mp_blind, va_recv hKc hPc (ci := 13) (q0 := 0) rfl rfl, fun U hU hW => ⟨rfl, hU, by rw [hU]; exact hPc, va_K.moved hW.alike hKc, hDc.weaken (fun _ _ _ _ => trivial)⟩⟩ rfl rfl hl.1 rfl (lv_room (Nat.le_of_ble_eq_true rfl)) d_Mo_quoted_66 ⟨hcap, hcap2⟩) hS (fun q _ h => hFc q h) hFc (fun r0 u2 t9 H1 locs ht hvm hw hB hz1 hk1 hS => ?_)
            obtain ⟨hP1, hK1, hD1⟩ := hB
            rw [ht] at hP1
            obtain ⟨hP, hD⟩ := va_join (wr := [(qx, .inl (cB, NN, .inl f)), (t, .inr (12, MF 13 (tw Tc))), (Tc.au, .inl (cC, Tc.U, .inl Tc.un))]) (w1 := [(mo, .inr (13, MF 30 u2))]) hP hD [0] [1, 2, 3] rfl rfl (by decide) (by decide) hk1 hFc hP1 hD1
            generalize H1 = H at hP hS ⊢
            have hP : va_P (dC, dI) classes [(qx, .inl (cB, NN, .inl f)), (t, .inr (12, MF 13 (tw Tc))), (Tc.au, .inl (cC, Tc.U, .inl Tc.un)), (mo, .inr (13, MF 30 u2))] H := hP
            have hD : va_D A [(qx, .inl (cB, NN, .inl f)), (t, .inr (12, MF 13 (tw Tc))), (Tc.au, .inl (cC, Tc.U, .inl Tc.un)), (mo, .inr (13, MF 30 u2))] := hD
            have hP := hP.sub (ws' := [(mo, .inr (13, MF 30 u2)), (qx, .inl (cB, NN, .inl f)), (t, .inr (12, MF 13 (tw Tc))), (Tc.au, .inl (cC, Tc.U, .inl Tc.un))]) [3, 0, 1, 2] rfl
            have hD := hD.sub (ws' := [(mo, .inr (13, MF 30 u2)), (qx, .inl (cB, NN, .inl f)), (t, .inr (12, MF 13 (tw Tc))), (Tc.au, .inl (cC, Tc.U, .inl Tc.un))]) [3, 0, 1, 2] (by decide) rfl
            obtain ⟨b7, h_b7⟩ := rf_fail (v := v) (i := j) (br := b) (b2 := b) (wh := (nI j))
            have hw : r0 = 0 ∧ u2 = _ := hw
            obtain ⟨hw1, hw2⟩ := hw
            rw [h_b7] at hw2
            rw [hw2] at hP hD
            subst hw1
            have hP : va_P (dC, dI) classes [(mo, .inr (13, MF 30 (rf v j b7))), (qx, .inl (cB, NN, .inl f)), (t, .inr (12, MF 13 (tw Tc))), (Tc.au, .inl (cC, Tc.U, .inl Tc.un))] H := hP
            have hD : va_D A [(mo, .inr (13, MF 30 (rf v j b7))), (qx, .inl (cB, NN, .inl f)), (t, .inr (12, MF 13 (tw Tc))), (Tc.au, .inl (cC, Tc.U, .inl Tc.un))] := hD
            have hfin : qtM f n q (n + 13) (i + 1) [] = none := by
              rw [← hI4, hk0]
              simp only [qtM]
              rw [if_neg (fun h => c15 (h_r1.trans h)), if_pos (Or.inr (by rw [← h_r2]; exact c40))]
            have hcp3 := q_cap hTX (B := (T.us + (n + 12 - i))) (by first | omega | (simp only [List.length_append, List.length_singleton]; omega))
            refine w_same (fun hq => ?_)
            refine W.widen (k := qcap T (T.us + (n + 12 - i))) (n := 2 * qcap T (T.us + (n + 12 - i))) (by omega) (by omega) ?_
            exact W.zret (v := 0) hx hb hr rfl (fun t9 ht hW => ⟨⟨0, (Tc, us, j, b7), rfl, ⟨hTX, Or.inr ⟨rfl, hqQ.trans hfin, by show (us).length ≤ n + 12 - i; first | omega | (simp only [List.length_append, List.length_singleton]; omega), by show j ≤ n + 30; omega⟩⟩, ⟨by rw [ht]; exact hP, va_K.moved hW.alike hK, hD⟩, by rw [ht]; exact hq.mono (Nat.le_refl _) (Nat.le_refl _)⟩, hS.F ht⟩) hS.2.2 d_Mo_quoted_69
          · refine lv_aload_n hx hb d_Mo_quoted_55 rfl (lv_at hl 2 rfl) ?_
            refine va_get (D := (dC, dI)) (ci := 13) (v := .int (nI n)) (C := R_Mo) (T := F_Mo) (N := 30) hx hb hts in_Mo hown hK hP 0 rfl rfl 8 (by decide) (hts _ w_1097) (fun _ h9 => h9) (MFg (by decide) ((rf_ne (by decide) (by decide)).trans h8)) d_Mo_quoted_56 ?_
            refine lv_goto (tgt := 66) hx hb d_Mo_quoted_59 (by decide) ?_
            have hPc := hP.sub (ws' := [(mo, .inr (13, MF 30 (rf v j b)))]) [0] rfl
            have hDc := hD.sub (ws' := [(mo, .inr (13, MF 30 (rf v j b)))]) [0] (by decide) rfl
            have hKc := hK.sub (tys' := []) [] rfl
            have hFc := va_free (wc := [(mo, .inr (13, MF 30 (rf v j b)))]) hD hS hA [0] rfl
            refine va_calli (va_runV (As := [.int (nI n)]) (rest := []) ⟨hx, hb, hml, hown, hts⟩ (c_Mo_fail l dC dI mo H (rf v j b) b ((nI n)) rf_9) (cwV 1 hts (gt_V (own := R_Mo) (C := R_Mo) (i := 151) (y := y_Mo_fail) i_Mo_fail w_1250 w_1252 (gt_sel (y := y_Mo_fail) (n := 30) (by decide +kernel)) w_7) rfl rfl rfl (by decide +kernel) ⟨Nat.le_of_ble_eq_true rfl, Nat.le_of_ble_eq_true rfl⟩) ⟨mp_blind, va_recv hKc hPc (ci := 13) (q0 := 0) rfl rfl, fun U hU hW => ⟨rfl, hU, by rw [hU]; exact hPc, va_K.moved hW.alike hKc, hDc.weaken (fun _ _ _ _ => trivial)⟩⟩ rfl rfl hl.1 rfl (lv_room (Nat.le_of_ble_eq_true rfl)) d_Mo_quoted_66 ⟨hcap, hcap2⟩) hS (fun q _ h => hFc q h) hFc (fun r0 u2 t9 H1 locs ht hvm hw hB hz1 hk1 hS => ?_)
            obtain ⟨hP1, hK1, hD1⟩ := hB
            rw [ht] at hP1
            obtain ⟨hP, hD⟩ := va_join (wr := [(qx, .inl (cB, NN, .inl f)), (t, .inr (12, MF 13 (tw Tc))), (Tc.au, .inl (cC, Tc.U, .inl Tc.un))]) (w1 := [(mo, .inr (13, MF 30 u2))]) hP hD [0] [1, 2, 3] rfl rfl (by decide) (by decide) hk1 hFc hP1 hD1
            generalize H1 = H at hP hS ⊢
            have hP : va_P (dC, dI) classes [(qx, .inl (cB, NN, .inl f)), (t, .inr (12, MF 13 (tw Tc))), (Tc.au, .inl (cC, Tc.U, .inl Tc.un)), (mo, .inr (13, MF 30 u2))] H := hP
            have hD : va_D A [(qx, .inl (cB, NN, .inl f)), (t, .inr (12, MF 13 (tw Tc))), (Tc.au, .inl (cC, Tc.U, .inl Tc.un)), (mo, .inr (13, MF 30 u2))] := hD
            have hP := hP.sub (ws' := [(mo, .inr (13, MF 30 u2)), (qx, .inl (cB, NN, .inl f)), (t, .inr (12, MF 13 (tw Tc))), (Tc.au, .inl (cC, Tc.U, .inl Tc.un))]) [3, 0, 1, 2] rfl
            have hD := hD.sub (ws' := [(mo, .inr (13, MF 30 u2)), (qx, .inl (cB, NN, .inl f)), (t, .inr (12, MF 13 (tw Tc))), (Tc.au, .inl (cC, Tc.U, .inl Tc.un))]) [3, 0, 1, 2] (by decide) rfl
            obtain ⟨b7, h_b7⟩ := rf_fail (v := v) (i := j) (br := b) (b2 := b) (wh := (nI n))
            have hw : r0 = 0 ∧ u2 = _ := hw
            obtain ⟨hw1, hw2⟩ := hw
            rw [h_b7] at hw2
            rw [hw2] at hP hD
            subst hw1
            have hP : va_P (dC, dI) classes [(mo, .inr (13, MF 30 (rf v j b7))), (qx, .inl (cB, NN, .inl f)), (t, .inr (12, MF 13 (tw Tc))), (Tc.au, .inl (cC, Tc.U, .inl Tc.un))] H := hP
            have hD : va_D A [(mo, .inr (13, MF 30 (rf v j b7))), (qx, .inl (cB, NN, .inl f)), (t, .inr (12, MF 13 (tw Tc))), (Tc.au, .inl (cC, Tc.U, .inl Tc.un))] := hD
            have hfin : qtM f n q (n + 13) (i + 1) [] = none := by
              rw [← hI4, hk0]
              simp only [qtM]
              rw [if_neg (fun h => c15 (h_r1.trans h)), if_pos (Or.inr (by rw [← h_r2]; exact c40))]
            have hcp3 := q_cap hTX (B := (T.us + (n + 12 - i))) (by first | omega | (simp only [List.length_append, List.length_singleton]; omega))
            refine w_same (fun hq => ?_)
            refine W.widen (k := qcap T (T.us + (n + 12 - i))) (n := 2 * qcap T (T.us + (n + 12 - i))) (by omega) (by omega) ?_
            exact W.zret (v := 0) hx hb hr rfl (fun t9 ht hW => ⟨⟨0, (Tc, us, j, b7), rfl, ⟨hTX, Or.inr ⟨rfl, hqQ.trans hfin, by show (us).length ≤ n + 12 - i; first | omega | (simp only [List.length_append, List.length_singleton]; omega), by show j ≤ n + 30; omega⟩⟩, ⟨by rw [ht]; exact hP, va_K.moved hW.alike hK, hD⟩, by rw [ht]; exact hq.mono (Nat.le_refl _) (Nat.le_refl _)⟩, hS.F ht⟩) hS.2.2 d_Mo_quoted_69
  · obtain ⟨b1, h_b1⟩ := rf_fail (v := v) (i := i) (br := br) (b2 := br) (wh := nI i)
    rw [h_b1] at ht3
    rw [ht3] at hP hD
    subst ht2
    have hP : va_P (dC, dI) classes [(mo, .inr (13, MF 30 (rf v i b1))), (qx, .inl (cB, NN, .inl f)), (t, .inr (12, MF 13 (tw T))), (T.au, .inl (cC, T.U, .inl T.un))] H := hP
    have hD : va_D A [(mo, .inr (13, MF 30 (rf v i b1))), (qx, .inl (cB, NN, .inl f)), (t, .inr (12, MF 13 (tw T))), (T.au, .inl (cC, T.U, .inl T.un))] := hD
    refine lv_if_ne (tgt := 10) hx hb d_Mo_quoted_5 (by decide) (fun h => absurd h (by decide)) (fun _ => ?_)
    refine lv_iconst (v := 0) hx hb d_Mo_quoted_8 (by decide) ?_
    refine w_same (fun hq => ?_)
    refine W.widen (k := qcap T (T.us + (n + 12 - i))) (n := 2 * qcap T (T.us + (n + 12 - i))) (Nat.zero_le _) (Nat.zero_le _) ?_
    exact W.zret (v := 0) hx hb hr rfl (fun t9 ht hW => ⟨⟨0, (T, [], i, b1), rfl, ⟨TX.rf hT0, Or.inr ⟨rfl, by unfold qtQ; rw [if_neg ht1], Nat.zero_le _, by show i ≤ n + 30; omega⟩⟩, ⟨by rw [ht]; exact hP, va_K.moved hW.alike hK, hD⟩, by rw [ht]; exact hq.mono (Nat.zero_le _) (Nat.zero_le _)⟩, hS.F ht⟩) hS.2.2 d_Mo_quoted_9
