theorem NCx.moved {u U : State} (hvm : u.vm.Alike U.vm) (h : NCx u) : NCx U := ⟨va_Nc.moved hvm h.1, va_Nc.moved hvm h.2.1, va_Nc.moved hvm h.2.2.1, va_Nc.moved hvm h.2.2.2⟩
/-- the reference's fields that stay, and those that are known -/
def MV (v : Nat → Value) (qx qs qw hh hl_ ht_ qt t tv ql tz : Nat) (Q : QS) (n rm : Nat) (q9 pv : Int32) : Prop := v 0 = .ref qx ∧ v 1 = .int (nI n) ∧ v 2 = .ref qs ∧ v 3 = .int (nI rm) ∧ v 5 = .int pv ∧ v 10 = .ref qw ∧ v 13 = .ref hh ∧ v 14 = .ref hl_ ∧ v 15 = .ref ht_ ∧ v 16 = .ref qt ∧ v 17 = .int q9 ∧ v 18 = .ref t ∧ v 19 = .ref Q.qq ∧ v 20 = .ref Q.qe ∧ v 22 = .ref tv ∧ v 24 = .ref ql ∧ v 29 = .ref tz
theorem MV.upd {v v2 : Nat → Value} {qx qs qw hh hl_ ht_ qt t tv ql tz : Nat} {Q Q2 : QS} {n rm n2 rm2 : Nat} {q9 pv q92 pv2 : Int32} (h : MV v qx qs qw hh hl_ ht_ qt t tv ql tz Q n rm q9 pv) (hf : ∀ j, j = 0 ∨ j = 2 ∨ j = 10 ∨ j = 13 ∨ j = 14 ∨ j = 15 ∨ j = 16 ∨ j = 18 ∨ j = 22 ∨ j = 24 ∨ j = 29 → v2 j = v j) (h1 : v2 1 = .int (nI n2)) (h3 : v2 3 = .int (nI rm2)) (h5 : v2 5 = .int pv2) (h17 : v2 17 = .int q92) (h19 : v2 19 = .ref Q2.qq) (h20 : v2 20 = .ref Q2.qe) : MV v2 qx qs qw hh hl_ ht_ qt t tv ql tz Q2 n2 rm2 q92 pv2 := by
  obtain ⟨a0, -, a2, -, -, a10, a13, a14, a15, a16, -, a18, -, -, a22, a24, a29⟩ := h
  exact ⟨(hf 0 (by decide)).trans a0, h1, (hf 2 (by decide)).trans a2, h3, h5, (hf 10 (by decide)).trans a10, (hf 13 (by decide)).trans a13, (hf 14 (by decide)).trans a14, (hf 15 (by decide)).trans a15, (hf 16 (by decide)).trans a16, h17, (hf 18 (by decide)).trans a18, h19, h20, (hf 22 (by decide)).trans a22, (hf 24 (by decide)).trans a24, (hf 29 (by decide)).trans a29⟩
/-- field 4 alone, or 4 and 1 -/
theorem MV.u4 {v : Nat → Value} {qx qs qw hh hl_ ht_ qt t tv ql tz : Nat} {Q : QS} {n rm : Nat} {q9 pv : Int32} (h : MV v qx qs qw hh hl_ ht_ qt t tv ql tz Q n rm q9 pv) (x : Value) : MV (va_up v 4 x) qx qs qw hh hl_ ht_ qt t tv ql tz Q n rm q9 pv :=
  h.upd (fun j hj => va_up_ne _ _ (by omega)) ((va_up_ne _ _ (by decide)).trans h.2.1) ((va_up_ne _ _ (by decide)).trans h.2.2.2.1) ((va_up_ne _ _ (by decide)).trans h.2.2.2.2.1) ((va_up_ne _ _ (by decide)).trans h.2.2.2.2.2.2.2.2.2.2.1) ((va_up_ne _ _ (by decide)).trans h.2.2.2.2.2.2.2.2.2.2.2.2.1) ((va_up_ne _ _ (by decide)).trans h.2.2.2.2.2.2.2.2.2.2.2.2.2.1)
theorem MV.u1 {v : Nat → Value} {qx qs qw hh hl_ ht_ qt t tv ql tz : Nat} {Q : QS} {n rm : Nat} {q9 pv : Int32} (h : MV v qx qs qw hh hl_ ht_ qt t tv ql tz Q n rm q9 pv) (n2 : Nat) : MV (va_up v 1 (.int (nI n2))) qx qs qw hh hl_ ht_ qt t tv ql tz Q n2 rm q9 pv :=
  h.upd (fun j hj => va_up_ne _ _ (by omega)) (va_up_self _ _ _) ((va_up_ne _ _ (by decide)).trans h.2.2.2.1) ((va_up_ne _ _ (by decide)).trans h.2.2.2.2.1) ((va_up_ne _ _ (by decide)).trans h.2.2.2.2.2.2.2.2.2.2.1) ((va_up_ne _ _ (by decide)).trans h.2.2.2.2.2.2.2.2.2.2.2.2.1) ((va_up_ne _ _ (by decide)).trans h.2.2.2.2.2.2.2.2.2.2.2.2.2.1)
/-- the reference's trees and rows, within their bounds -/
def MT (T VA Z : TS) (Q : QS) : Prop := TOK T ∧ TOK VA ∧ TOK Z ∧ QOK Q ∧ Q.R = 0 ∧ T.N ≤ 8216 ∧ T.U ≤ 8216 ∧ VA.U ≤ 8216 ∧ Q.C ≤ 65554 ∧ Z.N ≤ 141344 ∧ Z.U ≤ 141344
theorem cap_n {T : TS} (h : T.N ≤ 8216) : ncap T 4108 + T.N = 8216 := by unfold ncap; omega
theorem cap_q {T : TS} (h : T.U ≤ 8216) : qcap T 4108 + T.U = 8216 := by unfold qcap; omega
theorem cap_k {Q : QS} {B : Nat} (h : Q.C ≤ 65554) (hB : B ≤ 32777) : kcap Q B + Q.C ≤ 65554 := by unfold kcap; omega
theorem cap_q2 {T : TS} {B : Nat} (h : T.U ≤ 8216) (hB : B ≤ 4108) : qcap T B + T.U ≤ 8216 := by unfold qcap; omega
theorem capd16 : capd 16 = 70672 := by decide
theorem cap_z {Z : TS} (h : Z.N ≤ 141344) : ncap Z.clr (Z.clr.ct + capd 16) + Z.N = 141344 := by
  rw [capd16]
  show max Z.N (2 * (0 + 70672)) - Z.N + Z.N = 141344
  omega
theorem cap_zu {Z : TS} (h : Z.U ≤ 141344) : qcap Z.clr (Z.clr.us + capd 16) + Z.U = 141344 := by
  rw [capd16]
  show max Z.U (2 * (0 + 70672)) - Z.U + Z.U = 141344
  omega
theorem GB.cs {T T2 : TS} (h : GB 4108 4108 T T2) (h1 : T.N ≤ 8216) (h2 : T.U ≤ 8216) : cE T T2 + T.N + T.U = T2.N + T2.U ∧ sE T T2 + 20 * T.N + 2 * T.U = 20 * T2.N + 2 * T2.U ∧ T2.N ≤ 8216 ∧ T2.U ≤ 8216 := by
  obtain ⟨a, b, c, d⟩ := h
  unfold cE sE
  omega
theorem GB.cz {Z Z2 : TS} (h : GB (Z.clr.ct + capd 16) (Z.clr.us + capd 16) Z.clr Z2) (h1 : Z.N ≤ 141344) (h2 : Z.U ≤ 141344) : cE Z.clr Z2 + Z.N + Z.U = Z2.N + Z2.U ∧ sE Z.clr Z2 + 20 * Z.N + 2 * Z.U = 20 * Z2.N + 2 * Z2.U ∧ Z2.N ≤ 141344 ∧ Z2.U ≤ 141344 := by
  rw [capd16] at h
  obtain ⟨a, b, c, d⟩ := h
  have a : Z.N ≤ Z2.N := a
  have b : Z2.N ≤ max Z.N (2 * (0 + 70672)) := b
  have c : Z.U ≤ Z2.U := c
  have d : Z2.U ≤ max Z.U (2 * (0 + 70672)) := d
  have e1 : cE Z.clr Z2 = Z2.N - Z.N + (Z2.U - Z.U) := rfl
  have e2 : sE Z.clr Z2 = 20 * (Z2.N - Z.N) + 2 * (Z2.U - Z.U) := rfl
  rw [e1, e2]
  omega
theorem GQ.cs {B1 B2 : Nat} {Q Q2 : QS} {VA V2 : TS} (h : GQ B1 B2 Q VA.clr Q2 V2) (hB1 : B1 ≤ 32777) (hB2 : B2 ≤ 4108) (h1 : Q.C ≤ 65554) (h2 : VA.U ≤ 8216) : cQ Q VA.clr Q2 V2 + Q.C + VA.U = Q2.C + V2.U ∧ sQ Q VA.clr Q2 V2 + 22 * Q.C + 2 * VA.U = 22 * Q2.C + 2 * V2.U ∧ Q2.C ≤ 65554 ∧ V2.U ≤ 8216 := by
  obtain ⟨a, b, c, d⟩ := h
  have c : VA.U ≤ V2.U := c
  have d : V2.U ≤ max VA.U (2 * B2) := d
  have e1 : cQ Q VA.clr Q2 V2 = Q2.C - Q.C + (V2.U - VA.U) := rfl
  have e2 : sQ Q VA.clr Q2 V2 = 22 * (Q2.C - Q.C) + 2 * (V2.U - VA.U) := rfl
  rw [e1, e2]
  omega
theorem QOK.clr {Q : QS} (h : QOK Q) : QOK Q.clr := ⟨h.1, h.2.1, Nat.zero_le _, h.2.2.2⟩
theorem TOK.clr {T : TS} (h : TOK T) : TOK T.clr := ⟨h.1, h.2.1, Nat.zero_le _, h.2.2.2.1, h.2.2.2.2.1, Nat.zero_le _, h.2.2.2.2.2.2⟩
/-- the law's own count of its script -/
theorem law_gt {i L : Nat} (hi : i ≤ 4000) (hL : L ≤ 3072) (h : ¬ nI i > Int32.ofNat L - 6) : i + 6 ≤ L := by
  have h1 : Int32.ofNat L - 6 ≥ nI i := Int32.not_lt.mp h
  have h2 := Int32.le_iff_toInt_le.mp h1
  have e1 : (nI i).toInt = (i : Int) := nI_toInt (by omega)
  have e2 : (Int32.ofNat L - 6).toInt = (L : Int) - 6 := by
    rw [Int32.toInt_sub, show (Int32.ofNat L).toInt = (L : Int) from nI_toInt (by omega)]
    show Int.bmod ((L : Int) - 6) (2 ^ 32) = _
    apply Int.bmod_eq_of_le <;> omega
  rw [e1, e2] at h2
  omega
theorem lg_same (x : Int64) : lg_cmp x x = 0 := by unfold lg_cmp; simp
theorem le_nI {x : Int32} {n : Nat} (hn : n ≤ 1000000) (h0 : ¬ x < 0) (h : x ≤ nI n) : ∃ m, m ≤ n ∧ x = nI m := by
  rcases pk_ix x (n := n + 1) (by omega) with h1 | h1 | ⟨j, h1, h2⟩
  · exact absurd h1 h0
  · have h2 := Int32.le_trans h1 h
    rw [nI_leI (by omega) (by omega)] at h2
    omega
  · exact ⟨j, by omega, h2⟩
theorem nar_putB (x k : Int32) : vp_nar .byte (putB x k) = putB x k := by
  unfold putB
  rw [pk_vb, pk_vb]
theorem byR_upd {f : Nat → Int32} (hf : byR f) {n : Nat} {x : Int32} (hx : vp_nar .byte x = x) : byR (upd f n x) := fun j => by
  by_cases e : j = n
  · subst e
    rw [show upd f j x j = x from if_pos rfl]
    exact hx
  · rw [show upd f n x j = f j from if_neg e]
    exact hf j
theorem byR_put4 {f : Nat → Int32} (hf : byR f) (n : Nat) (x : Int32) : byR (put4 f n x) := byR_upd (byR_upd (byR_upd (byR_upd hf (nar_putB _ _)) (nar_putB _ _)) (nar_putB _ _)) (nar_putB _ _)
theorem feed_nar {f : Nat → Int32} (hf : byR f) (n : Nat) (a b c d e : Int32) : byR (feed5 f n a b c d e) := byR_put4 (byR_put4 (byR_put4 (byR_put4 (byR_put4 hf _ _) _ _) _ _) _ _) _ _

theorem d_law_0 : decode code 0 = .ok (.new 8, 3) := by decide +kernel
theorem d_law_3 : decode code 3 = .ok (.dup, 1) := by decide +kernel
theorem d_law_4 : decode code 4 = .ok (.invokespecial 45, 3) := by decide +kernel
theorem d_law_7 : decode code 7 = .ok (.astore_n 1, 1) := by decide +kernel
theorem d_law_8 : decode code 8 = .ok (.new 46, 3) := by decide +kernel
theorem d_law_11 : decode code 11 = .ok (.dup, 1) := by decide +kernel
theorem d_law_12 : decode code 12 = .ok (.invokespecial 48, 3) := by decide +kernel
theorem d_law_15 : decode code 15 = .ok (.astore_n 2, 1) := by decide +kernel
theorem d_law_16 : decode code 16 = .ok (.iconst 1, 1) := by decide +kernel
theorem d_law_17 : decode code 17 = .ok (.newarray .long, 2) := by decide +kernel
theorem d_law_19 : decode code 19 = .ok (.astore_n 3, 1) := by decide +kernel
theorem d_law_20 : decode code 20 = .ok (.iconst 0, 1) := by decide +kernel
theorem d_law_21 : decode code 21 = .ok (.istore 4, 2) := by decide +kernel
theorem d_law_23 : decode code 23 = .ok (.iload 4, 2) := by decide +kernel
theorem d_law_25 : decode code 25 = .ok (.aload_n 0, 1) := by decide +kernel
theorem d_law_26 : decode code 26 = .ok (.arraylength, 1) := by decide +kernel
theorem d_law_27 : decode code 27 = .ok (.bipush 6, 2) := by decide +kernel
theorem d_law_29 : decode code 29 = .ok (.isub, 1) := by decide +kernel
theorem d_law_30 : decode code 30 = .ok (.if_icmp .gt 352, 3) := by decide +kernel
theorem d_law_33 : decode code 33 = .ok (.aload_n 0, 1) := by decide +kernel
theorem d_law_34 : decode code 34 = .ok (.iload 4, 2) := by decide +kernel
theorem d_law_36 : decode code 36 = .ok (.iaload, 1) := by decide +kernel
theorem d_law_37 : decode code 37 = .ok (.bipush 7, 2) := by decide +kernel
theorem d_law_39 : decode code 39 = .ok (.iand, 1) := by decide +kernel
theorem d_law_40 : decode code 40 = .ok (.tableswitch 336 0 7 #[48, 124, 152, 180, 196, 252, 280, 308], 48) := by decide +kernel
theorem d_law_88 : decode code 88 = .ok (.aload_n 1, 1) := by decide +kernel
theorem d_law_89 : decode code 89 = .ok (.aload_n 0, 1) := by decide +kernel
theorem d_law_90 : decode code 90 = .ok (.iload 4, 2) := by decide +kernel
theorem d_law_92 : decode code 92 = .ok (.iconst 1, 1) := by decide +kernel
theorem d_law_93 : decode code 93 = .ok (.iadd, 1) := by decide +kernel
theorem d_law_94 : decode code 94 = .ok (.iaload, 1) := by decide +kernel
theorem d_law_95 : decode code 95 = .ok (.aload_n 0, 1) := by decide +kernel
theorem d_law_96 : decode code 96 = .ok (.iload 4, 2) := by decide +kernel
theorem d_law_98 : decode code 98 = .ok (.iconst 2, 1) := by decide +kernel
theorem d_law_99 : decode code 99 = .ok (.iadd, 1) := by decide +kernel
theorem d_law_100 : decode code 100 = .ok (.iaload, 1) := by decide +kernel
theorem d_law_101 : decode code 101 = .ok (.aload_n 0, 1) := by decide +kernel
theorem d_law_102 : decode code 102 = .ok (.iload 4, 2) := by decide +kernel
theorem d_law_104 : decode code 104 = .ok (.iconst 3, 1) := by decide +kernel
theorem d_law_105 : decode code 105 = .ok (.iadd, 1) := by decide +kernel
theorem d_law_106 : decode code 106 = .ok (.iaload, 1) := by decide +kernel
theorem d_law_107 : decode code 107 = .ok (.aload_n 0, 1) := by decide +kernel
theorem d_law_108 : decode code 108 = .ok (.iload 4, 2) := by decide +kernel
theorem d_law_110 : decode code 110 = .ok (.iconst 4, 1) := by decide +kernel
theorem d_law_111 : decode code 111 = .ok (.iadd, 1) := by decide +kernel
theorem d_law_112 : decode code 112 = .ok (.iaload, 1) := by decide +kernel
theorem d_law_113 : decode code 113 = .ok (.aload_n 0, 1) := by decide +kernel
theorem d_law_114 : decode code 114 = .ok (.iload 4, 2) := by decide +kernel
theorem d_law_116 : decode code 116 = .ok (.iconst 5, 1) := by decide +kernel
theorem d_law_117 : decode code 117 = .ok (.iadd, 1) := by decide +kernel
theorem d_law_118 : decode code 118 = .ok (.iaload, 1) := by decide +kernel
theorem d_law_119 : decode code 119 = .ok (.aload_n 3, 1) := by decide +kernel
theorem d_law_120 : decode code 120 = .ok (.invokestatic 49, 3) := by decide +kernel
theorem d_law_123 : decode code 123 = .ok (.istore 5, 2) := by decide +kernel
theorem d_law_125 : decode code 125 = .ok (.aload_n 2, 1) := by decide +kernel
theorem d_law_126 : decode code 126 = .ok (.aload_n 0, 1) := by decide +kernel
theorem d_law_127 : decode code 127 = .ok (.iload 4, 2) := by decide +kernel
theorem d_law_129 : decode code 129 = .ok (.iconst 1, 1) := by decide +kernel
theorem d_law_130 : decode code 130 = .ok (.iadd, 1) := by decide +kernel
theorem d_law_131 : decode code 131 = .ok (.iaload, 1) := by decide +kernel
theorem d_law_132 : decode code 132 = .ok (.aload_n 0, 1) := by decide +kernel
theorem d_law_133 : decode code 133 = .ok (.iload 4, 2) := by decide +kernel
theorem d_law_135 : decode code 135 = .ok (.iconst 2, 1) := by decide +kernel
theorem d_law_136 : decode code 136 = .ok (.iadd, 1) := by decide +kernel
theorem d_law_137 : decode code 137 = .ok (.iaload, 1) := by decide +kernel
theorem d_law_138 : decode code 138 = .ok (.aload_n 0, 1) := by decide +kernel
theorem d_law_139 : decode code 139 = .ok (.iload 4, 2) := by decide +kernel
theorem d_law_141 : decode code 141 = .ok (.iconst 3, 1) := by decide +kernel
theorem d_law_142 : decode code 142 = .ok (.iadd, 1) := by decide +kernel
theorem d_law_143 : decode code 143 = .ok (.iaload, 1) := by decide +kernel
theorem d_law_144 : decode code 144 = .ok (.aload_n 0, 1) := by decide +kernel
theorem d_law_145 : decode code 145 = .ok (.iload 4, 2) := by decide +kernel
theorem d_law_147 : decode code 147 = .ok (.iconst 4, 1) := by decide +kernel
theorem d_law_148 : decode code 148 = .ok (.iadd, 1) := by decide +kernel
theorem d_law_149 : decode code 149 = .ok (.iaload, 1) := by decide +kernel
theorem d_law_150 : decode code 150 = .ok (.aload_n 0, 1) := by decide +kernel
theorem d_law_151 : decode code 151 = .ok (.iload 4, 2) := by decide +kernel
theorem d_law_153 : decode code 153 = .ok (.iconst 5, 1) := by decide +kernel
theorem d_law_154 : decode code 154 = .ok (.iadd, 1) := by decide +kernel
theorem d_law_155 : decode code 155 = .ok (.iaload, 1) := by decide +kernel
theorem d_law_156 : decode code 156 = .ok (.invokevirtual 54, 3) := by decide +kernel
theorem d_law_159 : decode code 159 = .ok (.istore 6, 2) := by decide +kernel
theorem d_law_161 : decode code 161 = .ok (.goto 215, 3) := by decide +kernel
theorem d_law_164 : decode code 164 = .ok (.aload_n 1, 1) := by decide +kernel
theorem d_law_165 : decode code 165 = .ok (.aload_n 0, 1) := by decide +kernel
theorem d_law_166 : decode code 166 = .ok (.iload 4, 2) := by decide +kernel
theorem d_law_168 : decode code 168 = .ok (.iconst 1, 1) := by decide +kernel
theorem d_law_169 : decode code 169 = .ok (.iadd, 1) := by decide +kernel
theorem d_law_170 : decode code 170 = .ok (.iaload, 1) := by decide +kernel
theorem d_law_171 : decode code 171 = .ok (.aload_n 3, 1) := by decide +kernel
theorem d_law_172 : decode code 172 = .ok (.invokestatic 55, 3) := by decide +kernel
theorem d_law_175 : decode code 175 = .ok (.istore 5, 2) := by decide +kernel
theorem d_law_177 : decode code 177 = .ok (.aload_n 2, 1) := by decide +kernel
theorem d_law_178 : decode code 178 = .ok (.aload_n 0, 1) := by decide +kernel
theorem d_law_179 : decode code 179 = .ok (.iload 4, 2) := by decide +kernel
theorem d_law_181 : decode code 181 = .ok (.iconst 1, 1) := by decide +kernel
theorem d_law_182 : decode code 182 = .ok (.iadd, 1) := by decide +kernel
theorem d_law_183 : decode code 183 = .ok (.iaload, 1) := by decide +kernel
theorem d_law_184 : decode code 184 = .ok (.invokevirtual 58, 3) := by decide +kernel
theorem d_law_187 : decode code 187 = .ok (.istore 6, 2) := by decide +kernel
theorem d_law_189 : decode code 189 = .ok (.goto 187, 3) := by decide +kernel
theorem d_law_192 : decode code 192 = .ok (.aload_n 1, 1) := by decide +kernel
theorem d_law_193 : decode code 193 = .ok (.aload_n 0, 1) := by decide +kernel
theorem d_law_194 : decode code 194 = .ok (.iload 4, 2) := by decide +kernel
theorem d_law_196 : decode code 196 = .ok (.iconst 1, 1) := by decide +kernel
theorem d_law_197 : decode code 197 = .ok (.iadd, 1) := by decide +kernel
theorem d_law_198 : decode code 198 = .ok (.iaload, 1) := by decide +kernel
theorem d_law_199 : decode code 199 = .ok (.aload_n 3, 1) := by decide +kernel
theorem d_law_200 : decode code 200 = .ok (.invokestatic 59, 3) := by decide +kernel
theorem d_law_203 : decode code 203 = .ok (.istore 5, 2) := by decide +kernel
theorem d_law_205 : decode code 205 = .ok (.aload_n 2, 1) := by decide +kernel
theorem d_law_206 : decode code 206 = .ok (.aload_n 0, 1) := by decide +kernel
theorem d_law_207 : decode code 207 = .ok (.iload 4, 2) := by decide +kernel
theorem d_law_209 : decode code 209 = .ok (.iconst 1, 1) := by decide +kernel
theorem d_law_210 : decode code 210 = .ok (.iadd, 1) := by decide +kernel
theorem d_law_211 : decode code 211 = .ok (.iaload, 1) := by decide +kernel
theorem d_law_212 : decode code 212 = .ok (.invokevirtual 61, 3) := by decide +kernel
theorem d_law_215 : decode code 215 = .ok (.istore 6, 2) := by decide +kernel
theorem d_law_217 : decode code 217 = .ok (.goto 159, 3) := by decide +kernel
theorem d_law_220 : decode code 220 = .ok (.aload_n 1, 1) := by decide +kernel
theorem d_law_221 : decode code 221 = .ok (.aload_n 3, 1) := by decide +kernel
theorem d_law_222 : decode code 222 = .ok (.invokestatic 62, 3) := by decide +kernel
theorem d_law_225 : decode code 225 = .ok (.istore 5, 2) := by decide +kernel
theorem d_law_227 : decode code 227 = .ok (.aload_n 2, 1) := by decide +kernel
theorem d_law_228 : decode code 228 = .ok (.invokevirtual 65, 3) := by decide +kernel
theorem d_law_231 : decode code 231 = .ok (.istore 6, 2) := by decide +kernel
theorem d_law_233 : decode code 233 = .ok (.goto 143, 3) := by decide +kernel
theorem d_law_236 : decode code 236 = .ok (.aload_n 1, 1) := by decide +kernel
theorem d_law_237 : decode code 237 = .ok (.aload_n 0, 1) := by decide +kernel
theorem d_law_238 : decode code 238 = .ok (.iload 4, 2) := by decide +kernel
theorem d_law_240 : decode code 240 = .ok (.iconst 1, 1) := by decide +kernel
theorem d_law_241 : decode code 241 = .ok (.iadd, 1) := by decide +kernel
theorem d_law_242 : decode code 242 = .ok (.iaload, 1) := by decide +kernel
theorem d_law_243 : decode code 243 = .ok (.aload_n 3, 1) := by decide +kernel
theorem d_law_244 : decode code 244 = .ok (.invokestatic 66, 3) := by decide +kernel
theorem d_law_247 : decode code 247 = .ok (.istore 5, 2) := by decide +kernel
theorem d_law_249 : decode code 249 = .ok (.aload_n 2, 1) := by decide +kernel
theorem d_law_250 : decode code 250 = .ok (.aload_n 0, 1) := by decide +kernel
theorem d_law_251 : decode code 251 = .ok (.iload 4, 2) := by decide +kernel
theorem d_law_253 : decode code 253 = .ok (.iconst 1, 1) := by decide +kernel
theorem d_law_254 : decode code 254 = .ok (.iadd, 1) := by decide +kernel
theorem d_law_255 : decode code 255 = .ok (.iaload, 1) := by decide +kernel
theorem d_law_256 : decode code 256 = .ok (.invokevirtual 68, 3) := by decide +kernel
theorem d_law_259 : decode code 259 = .ok (.istore 6, 2) := by decide +kernel
theorem d_law_261 : decode code 261 = .ok (.aload_n 2, 1) := by decide +kernel
theorem d_law_262 : decode code 262 = .ok (.invokevirtual 69, 3) := by decide +kernel
theorem d_law_265 : decode code 265 = .ok (.iload 5, 2) := by decide +kernel
theorem d_law_267 : decode code 267 = .ok (.if_icmp .eq 5, 3) := by decide +kernel
theorem d_law_272 : decode code 272 = .ok (.iload 5, 2) := by decide +kernel
theorem d_law_274 : decode code 274 = .ok (.ifCond .ne 15, 3) := by decide +kernel
theorem d_law_277 : decode code 277 = .ok (.aload_n 3, 1) := by decide +kernel
theorem d_law_278 : decode code 278 = .ok (.iconst 0, 1) := by decide +kernel
theorem d_law_279 : decode code 279 = .ok (.laload, 1) := by decide +kernel
theorem d_law_280 : decode code 280 = .ok (.iload 6, 2) := by decide +kernel
theorem d_law_282 : decode code 282 = .ok (.i2l, 1) := by decide +kernel
theorem d_law_283 : decode code 283 = .ok (.lcmp, 1) := by decide +kernel
theorem d_law_284 : decode code 284 = .ok (.ifCond .eq 5, 3) := by decide +kernel
theorem d_law_289 : decode code 289 = .ok (.goto 87, 3) := by decide +kernel
theorem d_law_292 : decode code 292 = .ok (.aload_n 1, 1) := by decide +kernel
theorem d_law_293 : decode code 293 = .ok (.aload_n 0, 1) := by decide +kernel
theorem d_law_294 : decode code 294 = .ok (.iload 4, 2) := by decide +kernel
theorem d_law_296 : decode code 296 = .ok (.iconst 1, 1) := by decide +kernel
theorem d_law_297 : decode code 297 = .ok (.iadd, 1) := by decide +kernel
theorem d_law_298 : decode code 298 = .ok (.iaload, 1) := by decide +kernel
theorem d_law_299 : decode code 299 = .ok (.aload_n 3, 1) := by decide +kernel
theorem d_law_300 : decode code 300 = .ok (.invokestatic 72, 3) := by decide +kernel
theorem d_law_303 : decode code 303 = .ok (.istore 5, 2) := by decide +kernel
theorem d_law_305 : decode code 305 = .ok (.aload_n 2, 1) := by decide +kernel
theorem d_law_306 : decode code 306 = .ok (.aload_n 0, 1) := by decide +kernel
theorem d_law_307 : decode code 307 = .ok (.iload 4, 2) := by decide +kernel
theorem d_law_309 : decode code 309 = .ok (.iconst 1, 1) := by decide +kernel
theorem d_law_310 : decode code 310 = .ok (.iadd, 1) := by decide +kernel
theorem d_law_311 : decode code 311 = .ok (.iaload, 1) := by decide +kernel
theorem d_law_312 : decode code 312 = .ok (.invokevirtual 74, 3) := by decide +kernel
theorem d_law_315 : decode code 315 = .ok (.istore 6, 2) := by decide +kernel
theorem d_law_317 : decode code 317 = .ok (.goto 59, 3) := by decide +kernel
theorem d_law_320 : decode code 320 = .ok (.aload_n 1, 1) := by decide +kernel
theorem d_law_321 : decode code 321 = .ok (.aload_n 0, 1) := by decide +kernel
theorem d_law_322 : decode code 322 = .ok (.iload 4, 2) := by decide +kernel
theorem d_law_324 : decode code 324 = .ok (.iconst 1, 1) := by decide +kernel
theorem d_law_325 : decode code 325 = .ok (.iadd, 1) := by decide +kernel
theorem d_law_326 : decode code 326 = .ok (.iaload, 1) := by decide +kernel
theorem d_law_327 : decode code 327 = .ok (.aload_n 3, 1) := by decide +kernel
theorem d_law_328 : decode code 328 = .ok (.invokestatic 75, 3) := by decide +kernel
theorem d_law_331 : decode code 331 = .ok (.istore 5, 2) := by decide +kernel
theorem d_law_333 : decode code 333 = .ok (.aload_n 2, 1) := by decide +kernel
theorem d_law_334 : decode code 334 = .ok (.aload_n 0, 1) := by decide +kernel
theorem d_law_335 : decode code 335 = .ok (.iload 4, 2) := by decide +kernel
theorem d_law_337 : decode code 337 = .ok (.iconst 1, 1) := by decide +kernel
theorem d_law_338 : decode code 338 = .ok (.iadd, 1) := by decide +kernel
theorem d_law_339 : decode code 339 = .ok (.iaload, 1) := by decide +kernel
theorem d_law_340 : decode code 340 = .ok (.invokevirtual 77, 3) := by decide +kernel
theorem d_law_343 : decode code 343 = .ok (.lstore 6, 2) := by decide +kernel
theorem d_law_345 : decode code 345 = .ok (.goto 31, 3) := by decide +kernel
theorem d_law_348 : decode code 348 = .ok (.aload_n 1, 1) := by decide +kernel
theorem d_law_349 : decode code 349 = .ok (.aload_n 0, 1) := by decide +kernel
theorem d_law_350 : decode code 350 = .ok (.iload 4, 2) := by decide +kernel
theorem d_law_352 : decode code 352 = .ok (.iconst 1, 1) := by decide +kernel
theorem d_law_353 : decode code 353 = .ok (.iadd, 1) := by decide +kernel
theorem d_law_354 : decode code 354 = .ok (.iaload, 1) := by decide +kernel
theorem d_law_355 : decode code 355 = .ok (.aload_n 3, 1) := by decide +kernel
theorem d_law_356 : decode code 356 = .ok (.invokestatic 78, 3) := by decide +kernel
theorem d_law_359 : decode code 359 = .ok (.istore 5, 2) := by decide +kernel
theorem d_law_361 : decode code 361 = .ok (.aload_n 2, 1) := by decide +kernel
theorem d_law_362 : decode code 362 = .ok (.aload_n 0, 1) := by decide +kernel
theorem d_law_363 : decode code 363 = .ok (.iload 4, 2) := by decide +kernel
theorem d_law_365 : decode code 365 = .ok (.iconst 1, 1) := by decide +kernel
theorem d_law_366 : decode code 366 = .ok (.iadd, 1) := by decide +kernel
theorem d_law_367 : decode code 367 = .ok (.iaload, 1) := by decide +kernel
theorem d_law_368 : decode code 368 = .ok (.invokevirtual 80, 3) := by decide +kernel
theorem d_law_371 : decode code 371 = .ok (.istore 6, 2) := by decide +kernel
theorem d_law_373 : decode code 373 = .ok (.goto 3, 3) := by decide +kernel
theorem d_law_376 : decode code 376 = .ok (.iinc 4 6, 3) := by decide +kernel
theorem d_law_379 : decode code 379 = .ok (.goto (-356), 3) := by decide +kernel
theorem d_law_382 : decode code 382 = .ok (.iconst 1, 1) := by decide +kernel
theorem d_law_383 : decode code 383 = .ok (.ireturn, 1) := by decide +kernel
/-- the law before a call, k calls behind it -/
def LOOP (p : Program) (l : Launch) (e : Env) (s : State) (m : MethodId) (below : List Frame) (meth : Method) (c : Code) (b : Nat) (dC : Nat → ClassId) (dI : Nat → Nat → Nat) (A : Nat → Prop) (q0 h0 qb qu jr qr wk wl ds qo mo qx qs qw hh hl_ ht_ qt t tv ql tz : Nat) (ra9 : Nat → Nat) (cB cI cV cL cC cH cZ : ClassId) (k : Nat) : Prop := ∀ (E lv : Nat → Nat) (L : List Nat) (f : Nat → va_E) (n : Nat) (bf ug : Nat → Int32) (uc en at0 pl dp md o0 wa wb dk : Int32) (la wr qy : Option Nat) (g0 dg hp1 hp2 : Nat → Option Nat) (p1 b1 s1 p2 b2 s2 rl : Nat) (gp1 gp2 : Nat → Int32) (gq : Nat → Int64) (v : Nat → Value) (T VA Z : TS) (Q : QS) (rm : Nat) (q9 pv : Int32) (fm rg og lf tf qg li : Nat → Int32) (gm : Nat → Nat → Int32) (ni ri : Int32) (pr pd : Nat) (H : Heap) (locs : List Loc) (ls : Array Slot), nI n = ni → nI rl = ri → p1 = pr → p2 = pd → ((CIn cI cV E lv L f dg qy ∧ ∃ S, DQv E f S dg (Xr gm lf tf) qy (Yr qg q9)) ∧ n ≤ 4096 ∧ n ≤ 20 * k ∧ byR bf ∧ rl ≤ 16384 ∧ MV v qx qs qw hh hl_ ht_ qt t tv ql tz Q n rm q9 pv ∧ rm ≤ 16384 ∧ byR fm ∧ fm = bf ∧ MT T VA Z Q ∧ HI gm lf tf ∧ QI qg q9) → va_P (dC, dI) classes ([(q0, .inr (11, [.ref h0, .ref jr, .ref qr, .ref wk, .ref ds, va_rf qy, .ref pr, .ref pd])), (h0, .inr (8, [.ref qb, .ref qu, .int uc, .int ni, .int en, .int at0, .int pl])), (qb, .inl (cB, 4096, .inl bf)), (qu, .inl (cI, 4096, .inl ug)), (jr, .inr (1, [.ref h0, .int dp, .int md, va_rf la])), (qr, .inr (5, [.ref h0, .int o0])), (wk, .inr (10, [.ref wl, .int wa, .int wb, va_rf wr])), (wl, .inl (cV, 10000, .inr (.inr (.inr (.inr g0))))), (ds, .inl (cV, 4, .inr (.inr (.inr (.inr dg))))), (p1, .inr (3, [.ref b1, .int ri, .ref s1])), (b1, .inl (cB, 16384, .inl gp1)), (s1, .inl (cV, 32, .inr (.inr (.inr (.inr hp1))))), (p2, .inr (3, [.ref b2, .int dk, .ref s2])), (b2, .inl (cB, 16384, .inl gp2)), (s2, .inl (cV, 32, .inr (.inr (.inr (.inr hp2))))), (qo, .inl (cL, 1, .inr (.inl gq))), (mo, .inr (13, MF 30 v)), (qx, .inl (cB, 4096, .inl fm)), (qs, .inl (cB, 16384, .inl rg)), (qw, .inl (cB, 16392, .inl og)), (hh, .inl (cH, 4, .inr (.inr (.inr (.inr (fun j9 => some (ra9 j9))))))), ((ra9 0), .inl (cB, 4096, .inl (gm 0))), ((ra9 1), .inl (cB, 4096, .inl (gm 1))), ((ra9 2), .inl (cB, 4096, .inl (gm 2))), ((ra9 3), .inl (cB, 4096, .inl (gm 3))), (hl_, .inl (cI, 4, .inl lf)), (ht_, .inl (cZ, 4, .inl tf)), (qt, .inl (cB, 4096, .inl qg)), (Q.qq, .inl (cI, (8 * Q.C), .inl Q.qf)), (Q.qe, .inl (cL, (3 * Q.C), .inr (.inl Q.ef))), (t, .inr (12, MF 13 ((tw T)))), (T.a0, .inl (cI, T.N, .inl T.kd)), (T.a1, .inl (cL, T.N, .inr (.inl T.nu))), (T.a2, .inl (cI, T.N, .inl T.st)), (T.a3, .inl (cI, T.N, .inl T.ln)), (T.a4, .inl (cI, T.N, .inl T.ki)), (T.a5, .inl (cI, T.N, .inl T.nx)), (T.a6, .inl (cI, T.N, .inl T.ns)), (T.a7, .inl (cI, T.N, .inl T.nl)), (T.a8, .inl (cI, T.N, .inl T.pa)), (T.a9, .inl (cI, T.N, .inl T.pl)), (T.au, .inl (cC, T.U, .inl T.un)), (tv, .inr (12, MF 13 ((tw VA)))), (VA.au, .inl (cC, VA.U, .inl VA.un)), (ql, .inl (cI, 20100, .inl li)), (tz, .inr (12, MF 13 ((tw Z)))), (Z.a0, .inl (cI, Z.N, .inl Z.kd)), (Z.a1, .inl (cL, Z.N, .inr (.inl Z.nu))), (Z.a2, .inl (cI, Z.N, .inl Z.st)), (Z.a3, .inl (cI, Z.N, .inl Z.ln)), (Z.a4, .inl (cI, Z.N, .inl Z.ki)), (Z.a5, .inl (cI, Z.N, .inl Z.nx)), (Z.a6, .inl (cI, Z.N, .inl Z.ns)), (Z.a7, .inl (cI, Z.N, .inl Z.nl)), (Z.a8, .inl (cI, Z.N, .inl Z.pa)), (Z.a9, .inl (cI, Z.N, .inl Z.pl)), (Z.au, .inl (cC, Z.U, .inl Z.un))] ++ va_pl L f) H → va_D A ([(q0, .inr (11, [.ref h0, .ref jr, .ref qr, .ref wk, .ref ds, va_rf qy, .ref pr, .ref pd])), (h0, .inr (8, [.ref qb, .ref qu, .int uc, .int ni, .int en, .int at0, .int pl])), (qb, .inl (cB, 4096, .inl bf)), (qu, .inl (cI, 4096, .inl ug)), (jr, .inr (1, [.ref h0, .int dp, .int md, va_rf la])), (qr, .inr (5, [.ref h0, .int o0])), (wk, .inr (10, [.ref wl, .int wa, .int wb, va_rf wr])), (wl, .inl (cV, 10000, .inr (.inr (.inr (.inr g0))))), (ds, .inl (cV, 4, .inr (.inr (.inr (.inr dg))))), (p1, .inr (3, [.ref b1, .int ri, .ref s1])), (b1, .inl (cB, 16384, .inl gp1)), (s1, .inl (cV, 32, .inr (.inr (.inr (.inr hp1))))), (p2, .inr (3, [.ref b2, .int dk, .ref s2])), (b2, .inl (cB, 16384, .inl gp2)), (s2, .inl (cV, 32, .inr (.inr (.inr (.inr hp2))))), (qo, .inl (cL, 1, .inr (.inl gq))), (mo, .inr (13, MF 30 v)), (qx, .inl (cB, 4096, .inl fm)), (qs, .inl (cB, 16384, .inl rg)), (qw, .inl (cB, 16392, .inl og)), (hh, .inl (cH, 4, .inr (.inr (.inr (.inr (fun j9 => some (ra9 j9))))))), ((ra9 0), .inl (cB, 4096, .inl (gm 0))), ((ra9 1), .inl (cB, 4096, .inl (gm 1))), ((ra9 2), .inl (cB, 4096, .inl (gm 2))), ((ra9 3), .inl (cB, 4096, .inl (gm 3))), (hl_, .inl (cI, 4, .inl lf)), (ht_, .inl (cZ, 4, .inl tf)), (qt, .inl (cB, 4096, .inl qg)), (Q.qq, .inl (cI, (8 * Q.C), .inl Q.qf)), (Q.qe, .inl (cL, (3 * Q.C), .inr (.inl Q.ef))), (t, .inr (12, MF 13 ((tw T)))), (T.a0, .inl (cI, T.N, .inl T.kd)), (T.a1, .inl (cL, T.N, .inr (.inl T.nu))), (T.a2, .inl (cI, T.N, .inl T.st)), (T.a3, .inl (cI, T.N, .inl T.ln)), (T.a4, .inl (cI, T.N, .inl T.ki)), (T.a5, .inl (cI, T.N, .inl T.nx)), (T.a6, .inl (cI, T.N, .inl T.ns)), (T.a7, .inl (cI, T.N, .inl T.nl)), (T.a8, .inl (cI, T.N, .inl T.pa)), (T.a9, .inl (cI, T.N, .inl T.pl)), (T.au, .inl (cC, T.U, .inl T.un)), (tv, .inr (12, MF 13 ((tw VA)))), (VA.au, .inl (cC, VA.U, .inl VA.un)), (ql, .inl (cI, 20100, .inl li)), (tz, .inr (12, MF 13 ((tw Z)))), (Z.a0, .inl (cI, Z.N, .inl Z.kd)), (Z.a1, .inl (cL, Z.N, .inr (.inl Z.nu))), (Z.a2, .inl (cI, Z.N, .inl Z.st)), (Z.a3, .inl (cI, Z.N, .inl Z.ln)), (Z.a4, .inl (cI, Z.N, .inl Z.ki)), (Z.a5, .inl (cI, Z.N, .inl Z.nx)), (Z.a6, .inl (cI, Z.N, .inl Z.ns)), (Z.a7, .inl (cI, Z.N, .inl Z.nl)), (Z.a8, .inl (cI, Z.N, .inl Z.pa)), (Z.a9, .inl (cI, Z.N, .inl Z.pl)), (Z.au, .inl (cC, Z.U, .inl Z.un))] ++ va_pl L f) → va_S A s.heap H locs → szk s.heap H (67 + 8 * k + 8 * (20 * k - n) + (T.N + T.U + VA.U + Q.C + Z.N + Z.U)) (138513 + 70 * k + 64 * (20 * k - n) + (20 * T.N + 2 * T.U + 2 * VA.U + 22 * Q.C + 20 * Z.N + 2 * Z.U)) → lv_has ls 8 [(0, .ref b), (1, .ref q0), (2, .ref mo), (3, .ref qo), (4, .int (nI (6 * k)))] → W p l e room_1 s m #[Value.ref b] below meth c H locs (67 + 8 * k + 8 * (20 * k - n) + (T.N + T.U + VA.U + Q.C + Z.N + Z.U)) (138513 + 70 * k + 64 * (20 * k - n) + (20 * T.N + 2 * T.U + 2 * VA.U + 22 * Q.C + 20 * Z.N + 2 * Z.U)) (lw_Z below #[Value.ref b] s) (F0 m 23 ls [])
/-- what the law stands on -/
def LAT (p : Program) (l : Launch) (s : State) (m : MethodId) (meth : Method) (c : Code) (b : Nat) (dC : Nat → ClassId) (dI : Nat → Nat → Nat) (A : Nat → Prop) (K K2 : Nat → Nat × Nat) (cB cI cV cL cC cH cZ : ClassId) (Ln : Nat) (xs : Nat → Int32) : Prop := l.stackTraces = false ∧ p.tables.exec = Jvm.exec ∧ c.code = code ∧ meth.sig.returnType = ret ∧ c.maxLocals = 8 ∧ s.vm.findClass R_Law = some m.cls ∧ (∀ w ∈ gtbl, w.before #[Value.ref b] s = true) ∧ va_X b Ln xs s s.heap ∧ b < s.heap.size ∧ ¬ A b ∧ meth.locks = false ∧ (∀ q : Nat, s.heap.size ≤ q → A q) ∧ (∀ q : Nat, A q → s.heap.size ≤ q) ∧ Ln ≤ 3072 ∧ va_K (dC, dI) classes [(cB, .byte), (cI, .int), (cV, .object "QueryBench$Value"), (cL, .long), (cC, .char), (cH, .array .byte), (cZ, .boolean)] s ∧ NW s ∧ ZX A s s.heap ∧ CE K A s s.heap ∧ va_AO "QueryBench$Value" s ∧ NCx s ∧ ME K2 A s s.heap
