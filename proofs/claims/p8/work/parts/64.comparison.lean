section
variable {f : Nat → Int32} {n : Nat} {cm : Nat → Option (Nat × OT)} {x : OT} {j : Nat}
theorem cpP_u {k op : Nat} (h : opP f n j = some (k, op)) : cpP f n cm x j = (cm (skipH f n k)).map (fun p => (p.1, cmpC op x p.2)) := by unfold cpP; rw [h]
theorem cpP_u0 (h : opP f n j = none) : cpP f n cm x j = none := by unfold cpP; rw [h]
theorem cpP_1 (h : hereV f n j = 61) (hb : mtB f n j (mtx 9) 2 = true) : cpP f n cm x j = (cm (skipH f n (j + 2))).map (fun p => (p.1, cmpC 0 x p.2)) := cpP_u (by unfold opP; rw [if_pos h, if_pos hb])
theorem cpP_1n (h : hereV f n j = 61) (hb : ¬ mtB f n j (mtx 9) 2 = true) : cpP f n cm x j = none := cpP_u0 (by unfold opP; rw [if_pos h, if_neg hb])
theorem cpP_2 (h0 : ¬ hereV f n j = 61) (h : hereV f n j = 33) (hb : mtB f n j (mtx 10) 2 = true) : cpP f n cm x j = (cm (skipH f n (j + 2))).map (fun p => (p.1, cmpC 1 x p.2)) := cpP_u (by unfold opP; rw [if_neg h0, if_pos h, if_pos hb])
theorem cpP_2n (h0 : ¬ hereV f n j = 61) (h : hereV f n j = 33) (hb : ¬ mtB f n j (mtx 10) 2 = true) : cpP f n cm x j = none := cpP_u0 (by unfold opP; rw [if_neg h0, if_pos h, if_neg hb])
theorem cpP_3l (h0 : ¬ hereV f n j = 61) (h1 : ¬ hereV f n j = 33) (h : hereV f n j = 60) (h2 : hereV f n (j + 1) = 61) : cpP f n cm x j = (cm (skipH f n (j + 2))).map (fun p => (p.1, cmpC 3 x p.2)) := cpP_u (by unfold opP; rw [if_neg h0, if_neg h1, if_pos (Or.inl h), if_pos h2, if_pos h])
theorem cpP_3g (h0 : ¬ hereV f n j = 61) (h1 : ¬ hereV f n j = 33) (h : hereV f n j = 62) (h2 : hereV f n (j + 1) = 61) : cpP f n cm x j = (cm (skipH f n (j + 2))).map (fun p => (p.1, cmpC 5 x p.2)) := cpP_u (by unfold opP; rw [if_neg h0, if_neg h1, if_pos (Or.inr h), if_pos h2, if_neg (show ¬ hereV f n j = 60 by rw [h]; decide)])
theorem cpP_4l (h0 : ¬ hereV f n j = 61) (h1 : ¬ hereV f n j = 33) (h : hereV f n j = 60) (h2 : ¬ hereV f n (j + 1) = 61) : cpP f n cm x j = (cm (skipH f n (j + 1))).map (fun p => (p.1, cmpC 2 x p.2)) := cpP_u (by unfold opP; rw [if_neg h0, if_neg h1, if_pos (Or.inl h), if_neg h2, if_pos h])
theorem cpP_4g (h0 : ¬ hereV f n j = 61) (h1 : ¬ hereV f n j = 33) (h : hereV f n j = 62) (h2 : ¬ hereV f n (j + 1) = 61) : cpP f n cm x j = (cm (skipH f n (j + 1))).map (fun p => (p.1, cmpC 4 x p.2)) := cpP_u (by unfold opP; rw [if_neg h0, if_neg h1, if_pos (Or.inr h), if_neg h2, if_neg (show ¬ hereV f n j = 60 by rw [h]; decide)])
theorem cpP_n (h0 : ¬ hereV f n j = 61) (h1 : ¬ hereV f n j = 33) (h : ¬ (hereV f n j = 60 ∨ hereV f n j = 62)) : cpP f n cm x j = none := cpP_u0 (by unfold opP; rw [if_neg h0, if_neg h1, if_neg h])
end
section
variable {f : Nat → Int32} {n : Nat} {ok : Bool} {orL : Nat → Option (Nat × CT)} {cmL : Nat → Option (Nat × OT)} {qyL : Bool → Nat → Option (Nat × Bool × QT)} {nt : Bool} {i j : Nat} {p : Nat × Bool × QT} {g : CT} {x : OT}
theorem baP_y (h : hereV f n i = 33) : baP f n ok orL cmL qyL i = baB f n ok orL cmL qyL true (skipH f n (i + 1)) := by unfold baP; rw [if_pos h, decide_eq_true h]
theorem baP_n (h : ¬ hereV f n i = 33) : baP f n ok orL cmL qyL i = baB f n ok orL cmL qyL false i := by unfold baP; rw [if_neg h, decide_eq_false h]
theorem baB_p0 (h : hereV f n i = 40) (ho : ok = false) : baB f n ok orL cmL qyL nt i = none := by unfold baB; rw [if_pos h, if_pos ho]
theorem baB_p1 (h : hereV f n i = 40) (ho : ¬ ok = false) (h2 : orL (skipH f n (i + 1)) = none) : baB f n ok orL cmL qyL nt i = none := by unfold baB; rw [if_pos h, if_neg ho, h2]
theorem baB_p2 (h : hereV f n i = 40) (ho : ¬ ok = false) (h2 : orL (skipH f n (i + 1)) = some (j, g)) (h3 : hereV f n (skipH f n j) = 41) : baB f n ok orL cmL qyL nt i = some (skipH f n j + 1, if nt = true then notC g else g) := by unfold baB; rw [if_pos h, if_neg ho, h2]; exact if_pos h3
theorem baB_p3 (h : hereV f n i = 40) (ho : ¬ ok = false) (h2 : orL (skipH f n (i + 1)) = some (j, g)) (h3 : ¬ hereV f n (skipH f n j) = 41) : baB f n ok orL cmL qyL nt i = none := by unfold baB; rw [if_pos h, if_neg ho, h2]; exact if_neg h3
theorem baB_q0 (h : ¬ hereV f n i = 40) (hb : begC (hereV f n i)) (h2 : qrP f n ok orL false (decide (hereV f n i = 36)) (i + 1) = none) : baB f n ok orL cmL qyL nt i = none := by unfold baB; rw [if_neg h, if_pos hb, h2]
theorem baB_q1 (h : ¬ hereV f n i = 40) (hb : begC (hereV f n i)) (h2 : qrP f n ok orL false (decide (hereV f n i = 36)) (i + 1) = some p) (h3 : ¬ (nt = false ∧ opH (hereV f n (skipH f n p.1)))) : baB f n ok orL cmL qyL nt i = some (p.1, if nt = true then notC (tstC p.2.2) else tstC p.2.2) := by unfold baB; rw [if_neg h, if_pos hb, h2]; exact if_neg h3
theorem baB_q2 (h : ¬ hereV f n i = 40) (hb : begC (hereV f n i)) (h2 : qrP f n ok orL false (decide (hereV f n i = 36)) (i + 1) = some p) (h3 : nt = false ∧ opH (hereV f n (skipH f n p.1))) (h4 : p.2.1 = false) : baB f n ok orL cmL qyL nt i = none := by unfold baB; rw [if_neg h, if_pos hb, h2]; exact (if_pos h3).trans (if_pos h4)
theorem baB_q3 (h : ¬ hereV f n i = 40) (hb : begC (hereV f n i)) (h2 : qrP f n ok orL false (decide (hereV f n i = 36)) (i + 1) = some p) (h3 : nt = false ∧ opH (hereV f n (skipH f n p.1))) (h4 : ¬ p.2.1 = false) : baB f n ok orL cmL qyL nt i = cpP f n (cmP f n ok orL cmL qyL) (onlO p.2.2) (skipH f n p.1) := by unfold baB; rw [if_neg h, if_pos hb, h2]; exact (if_pos h3).trans (if_neg h4)
theorem baB_n (h : ¬ hereV f n i = 40) (hb : ¬ begC (hereV f n i)) (h2 : nt = true) : baB f n ok orL cmL qyL nt i = none := by unfold baB; rw [if_neg h, if_neg hb, if_pos h2]
theorem baB_c0 (h : ¬ hereV f n i = 40) (hb : ¬ begC (hereV f n i)) (h2 : ¬ nt = true) (h3 : cmP f n ok orL cmL qyL i = none) : baB f n ok orL cmL qyL nt i = none := by unfold baB; rw [if_neg h, if_neg hb, if_neg h2, h3]
theorem baB_c1 (h : ¬ hereV f n i = 40) (hb : ¬ begC (hereV f n i)) (h2 : ¬ nt = true) (h3 : cmP f n ok orL cmL qyL i = some (j, x)) : baB f n ok orL cmL qyL nt i = cpP f n (cmP f n ok orL cmL qyL) x (skipH f n j) := by unfold baB; rw [if_neg h, if_neg hb, if_neg h2, h3]
end
section
variable {f : Nat → Int32} {n : Nat} {one : Nat → Option (Nat × CT)} {c : Int32} {tx k i j : Nat} {g : CT} {ac : List CT}
theorem liP_n (h : one i = none) : liP f n one c tx (k + 1) i ac = none := by simp only [liP, h]
theorem liP_e (h : one i = some (j, g)) (h2 : ¬ hereV f n (skipH f n j) = c) : liP f n one c tx (k + 1) i ac = some (j, ac ++ [g]) := by simp only [liP, h]; rw [if_pos h2]
theorem liP_s (h : one i = some (j, g)) (h2 : hereV f n (skipH f n j) = c) (h3 : mtB f n (skipH f n j) (mtx tx) 2 = true) : liP f n one c tx (k + 1) i ac = liP f n one c tx k (skipH f n (skipH f n j + 2)) (ac ++ [g]) := by simp only [liP, h]; rw [if_neg (fun q => q h2), if_pos h3]
theorem liP_b (h : one i = some (j, g)) (h2 : hereV f n (skipH f n j) = c) (h3 : ¬ mtB f n (skipH f n j) (mtx tx) 2 = true) : liP f n one c tx (k + 1) i ac = none := by simp only [liP, h]; rw [if_neg (fun q => q h2), if_neg h3]
end
def CPo (f : Nat → Int32) (cm : Nat → Option (Nat × OT)) (xm : OT) (O : QP CT) (C : QP OT) (Y : QP QT) (n i o lo : Nat) (Q : QS) (V : TS) (res : Int32) (u : QS × TS × Nat × Int32 × Nat) : Prop := QPo n i 1 Q V u ∧ ((∃ a m, res = nI a ∧ cpP f n cm xm i = some (u.2.2.1, m) ∧ BASf O C Y u.1 u.2.1 lo u.1.R a m ∧ a < u.1.R ∧ u.1.qf (8 * a + 1) = -1 ∧ alr Q V u.1 u.2.1 0 Q.R ∧ u.1.R + 8 * i + 13 ≤ Q.R + 8 * u.2.2.1 ∧ u.2.1.us + i ≤ V.us + u.2.2.1 ∧ u.2.2.1 ≤ n ∧ Q.R < u.1.R ∧ u.2.2.2.2 = o) ∨ (res = -1 ∧ cpP f n cm xm i = none))
abbrev b_Mo_comparison : ByteArray := prog_14_method_49_code
def y_Mo_comparison : MethodName := ⟨"QueryBenchModel", "comparison", "(I)I"⟩
abbrev k_Mo_comparison : Cond := .code y_Mo_comparison b_Mo_comparison 5 (some .int)
theorem i_Mo_comparison : k_Mo_comparison ∈ gtbl := gt_in 1458 (by decide +kernel) (by decide +kernel)
theorem d_Mo_comparison_0 : decode b_Mo_comparison 0 = .ok (.aload_n 0, 1) := by decide +kernel
theorem d_Mo_comparison_1 : decode b_Mo_comparison 1 = .ok (.invokevirtual 147, 3) := by decide +kernel
theorem d_Mo_comparison_4 : decode b_Mo_comparison 4 = .ok (.bipush 61, 2) := by decide +kernel
theorem d_Mo_comparison_6 : decode b_Mo_comparison 6 = .ok (.if_icmp .ne 20, 3) := by decide +kernel
theorem d_Mo_comparison_9 : decode b_Mo_comparison 9 = .ok (.aload_n 0, 1) := by decide +kernel
theorem d_Mo_comparison_10 : decode b_Mo_comparison 10 = .ok (.ldc_w 334, 3) := by decide +kernel
theorem d_Mo_comparison_13 : decode b_Mo_comparison 13 = .ok (.invokevirtual 193, 3) := by decide +kernel
theorem d_Mo_comparison_16 : decode b_Mo_comparison 16 = .ok (.ifCond .ne 5, 3) := by decide +kernel
theorem d_Mo_comparison_19 : decode b_Mo_comparison 19 = .ok (.iconst (-1), 1) := by decide +kernel
theorem d_Mo_comparison_20 : decode b_Mo_comparison 20 = .ok (.ireturn, 1) := by decide +kernel
theorem d_Mo_comparison_21 : decode b_Mo_comparison 21 = .ok (.iconst 0, 1) := by decide +kernel
theorem d_Mo_comparison_22 : decode b_Mo_comparison 22 = .ok (.istore_n 2, 1) := by decide +kernel
theorem d_Mo_comparison_23 : decode b_Mo_comparison 23 = .ok (.goto 108, 3) := by decide +kernel
theorem d_Mo_comparison_26 : decode b_Mo_comparison 26 = .ok (.aload_n 0, 1) := by decide +kernel
theorem d_Mo_comparison_27 : decode b_Mo_comparison 27 = .ok (.invokevirtual 147, 3) := by decide +kernel
theorem d_Mo_comparison_30 : decode b_Mo_comparison 30 = .ok (.bipush 33, 2) := by decide +kernel
theorem d_Mo_comparison_32 : decode b_Mo_comparison 32 = .ok (.if_icmp .ne 20, 3) := by decide +kernel
theorem d_Mo_comparison_35 : decode b_Mo_comparison 35 = .ok (.aload_n 0, 1) := by decide +kernel
theorem d_Mo_comparison_36 : decode b_Mo_comparison 36 = .ok (.ldc_w 336, 3) := by decide +kernel
theorem d_Mo_comparison_39 : decode b_Mo_comparison 39 = .ok (.invokevirtual 193, 3) := by decide +kernel
theorem d_Mo_comparison_42 : decode b_Mo_comparison 42 = .ok (.ifCond .ne 5, 3) := by decide +kernel
theorem d_Mo_comparison_45 : decode b_Mo_comparison 45 = .ok (.iconst (-1), 1) := by decide +kernel
theorem d_Mo_comparison_46 : decode b_Mo_comparison 46 = .ok (.ireturn, 1) := by decide +kernel
theorem d_Mo_comparison_47 : decode b_Mo_comparison 47 = .ok (.iconst 1, 1) := by decide +kernel
theorem d_Mo_comparison_48 : decode b_Mo_comparison 48 = .ok (.istore_n 2, 1) := by decide +kernel
theorem d_Mo_comparison_49 : decode b_Mo_comparison 49 = .ok (.goto 82, 3) := by decide +kernel
theorem d_Mo_comparison_52 : decode b_Mo_comparison 52 = .ok (.aload_n 0, 1) := by decide +kernel
theorem d_Mo_comparison_53 : decode b_Mo_comparison 53 = .ok (.invokevirtual 147, 3) := by decide +kernel
theorem d_Mo_comparison_56 : decode b_Mo_comparison 56 = .ok (.bipush 60, 2) := by decide +kernel
theorem d_Mo_comparison_58 : decode b_Mo_comparison 58 = .ok (.if_icmp .eq 12, 3) := by decide +kernel
theorem d_Mo_comparison_61 : decode b_Mo_comparison 61 = .ok (.aload_n 0, 1) := by decide +kernel
theorem d_Mo_comparison_62 : decode b_Mo_comparison 62 = .ok (.invokevirtual 147, 3) := by decide +kernel
theorem d_Mo_comparison_65 : decode b_Mo_comparison 65 = .ok (.bipush 62, 2) := by decide +kernel
theorem d_Mo_comparison_67 : decode b_Mo_comparison 67 = .ok (.if_icmp .ne 53, 3) := by decide +kernel
theorem d_Mo_comparison_70 : decode b_Mo_comparison 70 = .ok (.aload_n 0, 1) := by decide +kernel
theorem d_Mo_comparison_71 : decode b_Mo_comparison 71 = .ok (.invokevirtual 147, 3) := by decide +kernel
theorem d_Mo_comparison_74 : decode b_Mo_comparison 74 = .ok (.bipush 60, 2) := by decide +kernel
theorem d_Mo_comparison_76 : decode b_Mo_comparison 76 = .ok (.if_icmp .ne 7, 3) := by decide +kernel
theorem d_Mo_comparison_79 : decode b_Mo_comparison 79 = .ok (.iconst 2, 1) := by decide +kernel
theorem d_Mo_comparison_80 : decode b_Mo_comparison 80 = .ok (.goto 4, 3) := by decide +kernel
theorem d_Mo_comparison_83 : decode b_Mo_comparison 83 = .ok (.iconst 4, 1) := by decide +kernel
theorem d_Mo_comparison_84 : decode b_Mo_comparison 84 = .ok (.istore_n 2, 1) := by decide +kernel
theorem d_Mo_comparison_85 : decode b_Mo_comparison 85 = .ok (.aload_n 0, 1) := by decide +kernel
theorem d_Mo_comparison_86 : decode b_Mo_comparison 86 = .ok (.dup, 1) := by decide +kernel
theorem d_Mo_comparison_87 : decode b_Mo_comparison 87 = .ok (.getfield 135, 3) := by decide +kernel
theorem d_Mo_comparison_90 : decode b_Mo_comparison 90 = .ok (.iconst 1, 1) := by decide +kernel
theorem d_Mo_comparison_91 : decode b_Mo_comparison 91 = .ok (.iadd, 1) := by decide +kernel
theorem d_Mo_comparison_92 : decode b_Mo_comparison 92 = .ok (.putfield 135, 3) := by decide +kernel
theorem d_Mo_comparison_95 : decode b_Mo_comparison 95 = .ok (.aload_n 0, 1) := by decide +kernel
theorem d_Mo_comparison_96 : decode b_Mo_comparison 96 = .ok (.invokevirtual 147, 3) := by decide +kernel
theorem d_Mo_comparison_99 : decode b_Mo_comparison 99 = .ok (.bipush 61, 2) := by decide +kernel
theorem d_Mo_comparison_101 : decode b_Mo_comparison 101 = .ok (.if_icmp .ne 30, 3) := by decide +kernel
theorem d_Mo_comparison_104 : decode b_Mo_comparison 104 = .ok (.aload_n 0, 1) := by decide +kernel
theorem d_Mo_comparison_105 : decode b_Mo_comparison 105 = .ok (.dup, 1) := by decide +kernel
theorem d_Mo_comparison_106 : decode b_Mo_comparison 106 = .ok (.getfield 135, 3) := by decide +kernel
theorem d_Mo_comparison_109 : decode b_Mo_comparison 109 = .ok (.iconst 1, 1) := by decide +kernel
theorem d_Mo_comparison_110 : decode b_Mo_comparison 110 = .ok (.iadd, 1) := by decide +kernel
theorem d_Mo_comparison_111 : decode b_Mo_comparison 111 = .ok (.putfield 135, 3) := by decide +kernel
theorem d_Mo_comparison_114 : decode b_Mo_comparison 114 = .ok (.iinc 2 1, 3) := by decide +kernel
theorem d_Mo_comparison_117 : decode b_Mo_comparison 117 = .ok (.goto 14, 3) := by decide +kernel
theorem d_Mo_comparison_120 : decode b_Mo_comparison 120 = .ok (.aload_n 0, 1) := by decide +kernel
theorem d_Mo_comparison_121 : decode b_Mo_comparison 121 = .ok (.aload_n 0, 1) := by decide +kernel
theorem d_Mo_comparison_122 : decode b_Mo_comparison 122 = .ok (.getfield 135, 3) := by decide +kernel
theorem d_Mo_comparison_125 : decode b_Mo_comparison 125 = .ok (.invokevirtual 151, 3) := by decide +kernel
theorem d_Mo_comparison_128 : decode b_Mo_comparison 128 = .ok (.pop, 1) := by decide +kernel
theorem d_Mo_comparison_129 : decode b_Mo_comparison 129 = .ok (.iconst (-1), 1) := by decide +kernel
theorem d_Mo_comparison_130 : decode b_Mo_comparison 130 = .ok (.ireturn, 1) := by decide +kernel
theorem d_Mo_comparison_131 : decode b_Mo_comparison 131 = .ok (.aload_n 0, 1) := by decide +kernel
theorem d_Mo_comparison_132 : decode b_Mo_comparison 132 = .ok (.invokevirtual 184, 3) := by decide +kernel
theorem d_Mo_comparison_135 : decode b_Mo_comparison 135 = .ok (.aload_n 0, 1) := by decide +kernel
theorem d_Mo_comparison_136 : decode b_Mo_comparison 136 = .ok (.invokevirtual 328, 3) := by decide +kernel
theorem d_Mo_comparison_139 : decode b_Mo_comparison 139 = .ok (.istore_n 3, 1) := by decide +kernel
theorem d_Mo_comparison_140 : decode b_Mo_comparison 140 = .ok (.iload_n 3, 1) := by decide +kernel
theorem d_Mo_comparison_141 : decode b_Mo_comparison 141 = .ok (.ifCond .ge 5, 3) := by decide +kernel
theorem d_Mo_comparison_144 : decode b_Mo_comparison 144 = .ok (.iconst (-1), 1) := by decide +kernel
theorem d_Mo_comparison_145 : decode b_Mo_comparison 145 = .ok (.ireturn, 1) := by decide +kernel
theorem d_Mo_comparison_146 : decode b_Mo_comparison 146 = .ok (.aload_n 0, 1) := by decide +kernel
theorem d_Mo_comparison_147 : decode b_Mo_comparison 147 = .ok (.bipush 33, 2) := by decide +kernel
theorem d_Mo_comparison_149 : decode b_Mo_comparison 149 = .ok (.invokevirtual 269, 3) := by decide +kernel
theorem d_Mo_comparison_152 : decode b_Mo_comparison 152 = .ok (.istore 4, 2) := by decide +kernel
theorem d_Mo_comparison_154 : decode b_Mo_comparison 154 = .ok (.aload_n 0, 1) := by decide +kernel
theorem d_Mo_comparison_155 : decode b_Mo_comparison 155 = .ok (.iload 4, 2) := by decide +kernel
theorem d_Mo_comparison_157 : decode b_Mo_comparison 157 = .ok (.iconst 2, 1) := by decide +kernel
theorem d_Mo_comparison_158 : decode b_Mo_comparison 158 = .ok (.iload_n 1, 1) := by decide +kernel
theorem d_Mo_comparison_159 : decode b_Mo_comparison 159 = .ok (.invokevirtual 272, 3) := by decide +kernel
theorem d_Mo_comparison_162 : decode b_Mo_comparison 162 = .ok (.aload_n 0, 1) := by decide +kernel
theorem d_Mo_comparison_163 : decode b_Mo_comparison 163 = .ok (.iload 4, 2) := by decide +kernel
theorem d_Mo_comparison_165 : decode b_Mo_comparison 165 = .ok (.iconst 3, 1) := by decide +kernel
theorem d_Mo_comparison_166 : decode b_Mo_comparison 166 = .ok (.iload_n 3, 1) := by decide +kernel
theorem d_Mo_comparison_167 : decode b_Mo_comparison 167 = .ok (.invokevirtual 272, 3) := by decide +kernel
theorem d_Mo_comparison_170 : decode b_Mo_comparison 170 = .ok (.aload_n 0, 1) := by decide +kernel
theorem d_Mo_comparison_171 : decode b_Mo_comparison 171 = .ok (.iload 4, 2) := by decide +kernel
theorem d_Mo_comparison_173 : decode b_Mo_comparison 173 = .ok (.iconst 4, 1) := by decide +kernel
theorem d_Mo_comparison_174 : decode b_Mo_comparison 174 = .ok (.iload_n 2, 1) := by decide +kernel
theorem d_Mo_comparison_175 : decode b_Mo_comparison 175 = .ok (.invokevirtual 272, 3) := by decide +kernel
theorem d_Mo_comparison_178 : decode b_Mo_comparison 178 = .ok (.iload 4, 2) := by decide +kernel
theorem d_Mo_comparison_180 : decode b_Mo_comparison 180 = .ok (.ireturn, 1) := by decide +kernel
set_option maxHeartbeats 4000000 in
set_option maxRecDepth 100000 in
/-- the reference: comparison -/
theorem c_cpr (orL : (Nat → Int32) → Nat → Nat → Option (Nat × CT)) (cmL : (Nat → Int32) → Nat → Nat → Option (Nat × OT)) (qyL : (Nat → Int32) → Nat → Bool → Nat → Option (Nat × Bool × QT)) (O : QP CT) (C : QP OT) (Y : QP QT) (G M : Nat) (hOf : Frm 8 O) (hCf : Frm 8 C) (hYf : Frm 8 Y) (l : Launch) (dC : Nat → ClassId) (dI : Nat → Nat → Nat) (mo : Nat) (sz : Heap) (v : Nat → Value) (cB cI cL cC : ClassId) (qx NN : Nat) (f : Nat → Int32) (n : Nat) (K : Nat → Nat × Nat) (tv : Nat) (Q : QS) (V : TS) (o i : Nat) (br : Int32) (lo x0 : Nat) (xm : OT) (ok : Bool) (hok : ok = true ↔ ¬ o = 16) (ho16 : o ≤ 16) (hOR : ¬ o = 16 → ORC orL O (o + 1) (15 + G) (600 + M)) (hCM : ¬ o = 16 → CMC cmL C (o + 1) (11 + G) (400 + M)) (hQY : ¬ o = 16 → QYC qyL Y (o + 1) (10 + G) (320 + M)) (hnN : n ≤ NN) (hNN : NN ≤ 4096) (hi0 : i ≤ n) (h6 : v 6 = .ref qx) (h8 : v 8 = .int (nI n)) (h22 : v 22 = .ref tv) (hQ : QOK Q) (hV : TOK V) (hcu : V.us + (n + 12 - i) ≤ 400000) (hcr : Q.R + 8 * (n - i) + 1 ≤ 40000) (hlo : lo ≤ Q.R) (hL : CMPf O C Y Q V lo Q.R x0 xm) : Met l y_Mo_comparison (k_Mo_comparison :: gtbl) ({ frames := 12 + (15 + G), cells := kcap Q (Q.R + 8 * (n - i) + 1) + qcap V (V.us + (n + 12 - i)), slots := 22 * kcap Q (Q.R + 8 * (n - i) + 1) + 2 * qcap V (V.us + (n + 12 - i)), locals := 440 + (600 + M) }) (va_Pc [.ref mo, .int (nI x0)] (me K dC dI [(mo, .inr (13, MF 30 (rf (rs v Q o) i br))), (qx, .inl (cB, NN, .inl f)), (Q.qq, .inl (cI, (8 * Q.C), .inl Q.qf)), (Q.qe, .inl (cL, (3 * Q.C), .inr (.inl Q.ef))), (tv, .inr (12, MF 13 (tw V))), (V.au, .inl (cC, V.U, .inl V.un))] [(cB, .byte), (cI, .int), (cL, .long), (cC, .char)] sz)) (va_Qi (fun (res : Int32) (u : QS × TS × Nat × Int32 × Nat) => CPo f (cmP f n ok (orL f n) (cmL f n) (qyL f n)) xm O C Y n i o lo Q V res u) (fun u t9 => mz dC dI [(mo, .inr (13, MF 30 (rf (rs v u.1 u.2.2.2.2) u.2.2.1 u.2.2.2.1))), (qx, .inl (cB, NN, .inl f)), (u.1.qq, .inl (cI, (8 * u.1.C), .inl u.1.qf)), (u.1.qe, .inl (cL, (3 * u.1.C), .inr (.inl u.1.ef))), (tv, .inr (12, MF 13 (tw u.2.1))), (u.2.1.au, .inl (cC, u.2.1.U, .inl u.2.1.un))] [(cB, .byte), (cI, .int), (cL, .long), (cC, .char)] (va_A [(mo, .inr (13, MF 30 (rf (rs v Q o) i br))), (qx, .inl (cB, NN, .inl f)), (Q.qq, .inl (cI, (8 * Q.C), .inl Q.qf)), (Q.qe, .inl (cL, (3 * Q.C), .inr (.inl Q.ef))), (tv, .inr (12, MF 13 (tw V))), (V.au, .inl (cC, V.U, .inl V.un))] sz.size) t9 ∧ szk sz t9.heap (cQ Q V u.1 u.2.1) (sQ Q V u.1 u.2.1)) (va_A [(mo, .inr (13, MF 30 (rf (rs v Q o) i br))), (qx, .inl (cB, NN, .inl f)), (Q.qq, .inl (cI, (8 * Q.C), .inl Q.qf)), (Q.qe, .inl (cL, (3 * Q.C), .inr (.inl Q.ef))), (tv, .inr (12, MF 13 (tw V))), (V.au, .inl (cC, V.U, .inl V.un))] sz.size)) (kcap Q (Q.R + 8 * (n - i) + 1) + qcap V (V.us + (n + 12 - i))) (22 * kcap Q (Q.R + 8 * (n - i) + 1) + 2 * qcap V (V.us + (n + 12 - i))) (va_A [(mo, .inr (13, MF 30 (rf (rs v Q o) i br))), (qx, .inl (cB, NN, .inl f)), (Q.qq, .inl (cI, (8 * Q.C), .inl Q.qf)), (Q.qe, .inl (cL, (3 * Q.C), .inr (.inl Q.ef))), (tv, .inr (12, MF 13 (tw V))), (V.au, .inl (cC, V.U, .inl V.un))] sz.size) := by
  have hLi := CMPf_in _ _ _ _ _ _ hL
  refine Met.ofW (cc := b_Mo_comparison) (maxL := 5) (ret := (some .int)) (by decide) rfl ?_
  intro p e s m args below meth c s₁ B hml hv
  obtain ⟨rfl, ⟨hsz, hP, hK, hD0⟩, hM⟩ := hv
  have hx := B.exec
  have hb := B.bytes
  have hr := B.returns
  have hts0 := atoms_spec (ws := k_Mo_comparison :: gtbl) B.pre
  have hts := fun w h => hts0 w (List.mem_cons_of_mem _ h)
  have hown : s.vm.findClass R_Mo = some m.cls := findClass_of_methodNamed B.named
  have hlocks := B.notSynchronized
  subst hsz
  have hD := hD0.self (sz := s.heap.size)
  generalize hAe : va_A [(mo, .inr (13, MF 30 (rf (rs v Q o) i br))), (qx, .inl (cB, NN, .inl f)), (Q.qq, .inl (cI, (8 * Q.C), .inl Q.qf)), (Q.qe, .inl (cL, (3 * Q.C), .inr (.inl Q.ef))), (tv, .inr (12, MF 13 (tw V))), (V.au, .inl (cC, V.U, .inl V.un))] s.heap.size = A at hD hM ⊢
  have hA : ∀ q : Nat, s.heap.size ≤ q → A q := fun q h => by rw [← hAe]; exact Or.inr h
  have hS : va_S A s.heap s.heap [] := va_S.rf
  have hP : va_P (dC, dI) classes [(mo, .inr (13, MF 30 (rf (rs v Q o) i br))), (qx, .inl (cB, NN, .inl f)), (Q.qq, .inl (cI, (8 * Q.C), .inl Q.qf)), (Q.qe, .inl (cL, (3 * Q.C), .inr (.inl Q.ef))), (tv, .inr (12, MF 13 (tw V))), (V.au, .inl (cC, V.U, .inl V.un))] s.heap := hP
  have hl := lv_entry ([.ref mo, .int (nI x0)]) (n := 5) (Nat.le_of_ble_eq_true rfl)
  rw [lg_entry_eq]
  generalize (lg_sl ([.ref mo, .int (nI x0)]) ++ List.replicate (5 - (lg_sl ([.ref mo, .int (nI x0)])).length) Slot.unset).toArray = ls at hl ⊢
  have hl : lv_has ls 5 [(0, .ref mo), (1, .int (nI x0))] := hl
  have hQk_Q := hQ
  have hTk_V := hV
  have hCo := hQ.2.2.1
  have hCo2 := hQ.2.1
  clear hQ hV
  have hG_QV : GQ (Q.R + 8 * (n - i) + 1) (V.us + (n + 12 - i)) Q V Q V := GQ.rf
  refine w_same (fun hq => ?_)
  refine w_tight (k := cQ Q V Q V) (n := sQ Q V Q V) (by rw [cQ_rf.1, cQ_rf.2]; exact hq) ?_
  have hqb_QV : Q.R ≤ Q.C ∧ Q.C ≤ 100000 := ⟨hQk_Q.2.2.1, hQk_Q.2.1⟩
  have hfit_QV := hG_QV.fits
  refine w_join (D := (dC, dI)) (cl := classes) (A := A) (H0 := s.heap) (nL := 5) 131 (σ := Nat × Int32 × Nat) (fun ⟨j, b, op⟩ => i + 1 ≤ j ∧ j ≤ n ∧ op ≤ 5 ∧ cpP f n (cmP f n ok (orL f n) (cmL f n) (qyL f n)) xm i = (cmP f n ok (orL f n) (cmL f n) (qyL f n) (skipH f n j)).map (fun p => (p.1, cmpC op xm p.2))) (fun ⟨j, b, op⟩ => cQ Q V Q V) (fun ⟨j, b, op⟩ => sQ Q V Q V) (fun ⟨j, b, op⟩ => [(mo, .inr (13, MF 30 (rf (rs v Q o) j b))), (qx, .inl (cB, NN, .inl f)), (Q.qq, .inl (cI, (8 * Q.C), .inl Q.qf)), (Q.qe, .inl (cL, (3 * Q.C), .inr (.inl Q.ef))), (tv, .inr (12, MF 13 (tw V))), (V.au, .inl (cC, V.U, .inl V.un))]) (fun ⟨j, b, op⟩ => [(0, .ref mo), (1, .int (nI x0)), (2, .int (nI op))]) (fun jn131 => ?_) ?_
  · refine lv_aload_n hx hb d_Mo_comparison_0 rfl (lv_at hl 0 rfl) ?_
    have hPc := hP.sub (ws' := [(mo, .inr (13, MF 30 (rf (rs v Q o) i br))), (qx, .inl (cB, NN, .inl f))]) [0, 1] rfl
    have hDc := hD.sub (ws' := [(mo, .inr (13, MF 30 (rf (rs v Q o) i br))), (qx, .inl (cB, NN, .inl f))]) [0, 1] (by decide) rfl
    have hKc := hK.sub (tys' := [(cB, .byte)]) [0] rfl
    have hFc := va_free (wc := [(mo, .inr (13, MF 30 (rf (rs v Q o) i br))), (qx, .inl (cB, NN, .inl f))]) hD hS hA [0, 1] rfl
    refine va_calli (va_runV (As := []) (rest := []) ⟨hx, hb, hml, hown, hts⟩ (c_Mo_c l dC dI mo s.heap (rf (rs v Q o) i br) cB qx NN f n i (by omega) (by omega) (by omega) ((rf_ne (by decide) (by decide)).trans ((rs_ne (by decide) (by decide) (by decide) (by decide)).trans h6)) rf_7 ((rf_ne (by decide) (by decide)).trans ((rs_ne (by decide) (by decide) (by decide) (by decide)).trans h8))) (cwV 0 hts (gt_V (own := R_Mo) (C := R_Mo) (i := 147) (y := y_Mo_c) i_Mo_c w_1233 w_1235 (gt_sel (y := y_Mo_c) (n := 30) (by decide +kernel)) w_7) rfl rfl rfl (by decide +kernel) ⟨Nat.le_trans (m := 12) (Nat.le_of_ble_eq_true rfl) (Nat.le_add_right 12 (15 + G)), Nat.le_trans (m := 440) (Nat.le_of_ble_eq_true rfl) (Nat.le_add_right 440 (600 + M))⟩) ⟨mp_blind, va_recv hKc hPc (ci := 13) (q0 := 0) rfl rfl, fun U hU hW => ⟨rfl, hU, by rw [hU]; exact hPc, va_K.moved hW.alike hKc, hDc.weaken (fun _ _ _ _ => trivial)⟩⟩ rfl rfl hl.1 rfl (lv_room (Nat.le_of_ble_eq_true rfl)) d_Mo_comparison_1 ⟨hfit_QV.1, hfit_QV.2⟩) hS (fun q _ h => hFc q h) hFc (fun r1 _u t9 H1 locs ht hvm hw hB hz1 hk1 hS => ?_)
    obtain ⟨hP1, hK1, hD1⟩ := hB
    rw [ht] at hP1
    obtain ⟨hP, hD⟩ := va_join (wr := [(Q.qq, .inl (cI, (8 * Q.C), .inl Q.qf)), (Q.qe, .inl (cL, (3 * Q.C), .inr (.inl Q.ef))), (tv, .inr (12, MF 13 (tw V))), (V.au, .inl (cC, V.U, .inl V.un))]) (w1 := [(mo, .inr (13, MF 30 (rf (rs v Q o) i br))), (qx, .inl (cB, NN, .inl f))]) hP hD [0, 1] [2, 3, 4, 5] rfl rfl (by decide) (by decide) hk1 hFc hP1 hD1
    generalize H1 = H at hP hS ⊢
    have hP : va_P (dC, dI) classes [(Q.qq, .inl (cI, (8 * Q.C), .inl Q.qf)), (Q.qe, .inl (cL, (3 * Q.C), .inr (.inl Q.ef))), (tv, .inr (12, MF 13 (tw V))), (V.au, .inl (cC, V.U, .inl V.un)), (mo, .inr (13, MF 30 (rf (rs v Q o) i br))), (qx, .inl (cB, NN, .inl f))] H := hP
    have hD : va_D A [(Q.qq, .inl (cI, (8 * Q.C), .inl Q.qf)), (Q.qe, .inl (cL, (3 * Q.C), .inr (.inl Q.ef))), (tv, .inr (12, MF 13 (tw V))), (V.au, .inl (cC, V.U, .inl V.un)), (mo, .inr (13, MF 30 (rf (rs v Q o) i br))), (qx, .inl (cB, NN, .inl f))] := hD
    have hP := hP.sub (ws' := [(mo, .inr (13, MF 30 (rf (rs v Q o) i br))), (qx, .inl (cB, NN, .inl f)), (Q.qq, .inl (cI, (8 * Q.C), .inl Q.qf)), (Q.qe, .inl (cL, (3 * Q.C), .inr (.inl Q.ef))), (tv, .inr (12, MF 13 (tw V))), (V.au, .inl (cC, V.U, .inl V.un))]) [4, 5, 0, 1, 2, 3] rfl
    have hD := hD.sub (ws' := [(mo, .inr (13, MF 30 (rf (rs v Q o) i br))), (qx, .inl (cB, NN, .inl f)), (Q.qq, .inl (cI, (8 * Q.C), .inl Q.qf)), (Q.qe, .inl (cL, (3 * Q.C), .inr (.inl Q.ef))), (tv, .inr (12, MF 13 (tw V))), (V.au, .inl (cC, V.U, .inl V.un))]) [4, 5, 0, 1, 2, 3] (by decide) rfl
    have h_r1 : r1 = hereV f n i := hw
    refine lv_bipush (v := 61) hx hb d_Mo_comparison_4 (by decide) ?_
    refine lv_icmp_ne (tgt := 26) hx hb d_Mo_comparison_6 (by decide) (fun c6 => ?_) (fun c6 => ?_)
    · refine lv_aload_n hx hb d_Mo_comparison_26 rfl (lv_at hl 0 rfl) ?_
      have hPc := hP.sub (ws' := [(mo, .inr (13, MF 30 (rf (rs v Q o) i br))), (qx, .inl (cB, NN, .inl f))]) [0, 1] rfl
      have hDc := hD.sub (ws' := [(mo, .inr (13, MF 30 (rf (rs v Q o) i br))), (qx, .inl (cB, NN, .inl f))]) [0, 1] (by decide) rfl
      have hKc := hK.sub (tys' := [(cB, .byte)]) [0] rfl
      have hFc := va_free (wc := [(mo, .inr (13, MF 30 (rf (rs v Q o) i br))), (qx, .inl (cB, NN, .inl f))]) hD hS hA [0, 1] rfl
      refine va_calli (va_runV (As := []) (rest := []) ⟨hx, hb, hml, hown, hts⟩ (c_Mo_c l dC dI mo H (rf (rs v Q o) i br) cB qx NN f n i (by omega) (by omega) (by omega) ((rf_ne (by decide) (by decide)).trans ((rs_ne (by decide) (by decide) (by decide) (by decide)).trans h6)) rf_7 ((rf_ne (by decide) (by decide)).trans ((rs_ne (by decide) (by decide) (by decide) (by decide)).trans h8))) (cwV 0 hts (gt_V (own := R_Mo) (C := R_Mo) (i := 147) (y := y_Mo_c) i_Mo_c w_1233 w_1235 (gt_sel (y := y_Mo_c) (n := 30) (by decide +kernel)) w_7) rfl rfl rfl (by decide +kernel) ⟨Nat.le_trans (m := 12) (Nat.le_of_ble_eq_true rfl) (Nat.le_add_right 12 (15 + G)), Nat.le_trans (m := 440) (Nat.le_of_ble_eq_true rfl) (Nat.le_add_right 440 (600 + M))⟩) ⟨mp_blind, va_recv hKc hPc (ci := 13) (q0 := 0) rfl rfl, fun U hU hW => ⟨rfl, hU, by rw [hU]; exact hPc, va_K.moved hW.alike hKc, hDc.weaken (fun _ _ _ _ => trivial)⟩⟩ rfl rfl hl.1 rfl (lv_room (Nat.le_of_ble_eq_true rfl)) d_Mo_comparison_27 ⟨hfit_QV.1, hfit_QV.2⟩) hS (fun q _ h => hFc q h) hFc (fun r2 _u t9 H1 locs ht hvm hw hB hz1 hk1 hS => ?_)
      obtain ⟨hP1, hK1, hD1⟩ := hB
      rw [ht] at hP1
      obtain ⟨hP, hD⟩ := va_join (wr := [(Q.qq, .inl (cI, (8 * Q.C), .inl Q.qf)), (Q.qe, .inl (cL, (3 * Q.C), .inr (.inl Q.ef))), (tv, .inr (12, MF 13 (tw V))), (V.au, .inl (cC, V.U, .inl V.un))]) (w1 := [(mo, .inr (13, MF 30 (rf (rs v Q o) i br))), (qx, .inl (cB, NN, .inl f))]) hP hD [0, 1] [2, 3, 4, 5] rfl rfl (by decide) (by decide) hk1 hFc hP1 hD1
      generalize H1 = H at hP hS ⊢
      have hP : va_P (dC, dI) classes [(Q.qq, .inl (cI, (8 * Q.C), .inl Q.qf)), (Q.qe, .inl (cL, (3 * Q.C), .inr (.inl Q.ef))), (tv, .inr (12, MF 13 (tw V))), (V.au, .inl (cC, V.U, .inl V.un)), (mo, .inr (13, MF 30 (rf (rs v Q o) i br))), (qx, .inl (cB, NN, .inl f))] H := hP
      have hD : va_D A [(Q.qq, .inl (cI, (8 * Q.C), .inl Q.qf)), (Q.qe, .inl (cL, (3 * Q.C), .inr (.inl Q.ef))), (tv, .inr (12, MF 13 (tw V))), (V.au, .inl (cC, V.U, .inl V.un)), (mo, .inr (13, MF 30 (rf (rs v Q o) i br))), (qx, .inl (cB, NN, .inl f))] := hD
      have hP := hP.sub (ws' := [(mo, .inr (13, MF 30 (rf (rs v Q o) i br))), (qx, .inl (cB, NN, .inl f)), (Q.qq, .inl (cI, (8 * Q.C), .inl Q.qf)), (Q.qe, .inl (cL, (3 * Q.C), .inr (.inl Q.ef))), (tv, .inr (12, MF 13 (tw V))), (V.au, .inl (cC, V.U, .inl V.un))]) [4, 5, 0, 1, 2, 3] rfl
      have hD := hD.sub (ws' := [(mo, .inr (13, MF 30 (rf (rs v Q o) i br))), (qx, .inl (cB, NN, .inl f)), (Q.qq, .inl (cI, (8 * Q.C), .inl Q.qf)), (Q.qe, .inl (cL, (3 * Q.C), .inr (.inl Q.ef))), (tv, .inr (12, MF 13 (tw V))), (V.au, .inl (cC, V.U, .inl V.un))]) [4, 5, 0, 1, 2, 3] (by decide) rfl
      have h_r2 : r2 = hereV f n i := hw
      refine lv_bipush (v := 33) hx hb d_Mo_comparison_30 (by decide) ?_
      refine lv_icmp_ne (tgt := 52) hx hb d_Mo_comparison_32 (by decide) (fun c32 => ?_) (fun c32 => ?_)
      · refine lv_aload_n hx hb d_Mo_comparison_52 rfl (lv_at hl 0 rfl) ?_
        have hPc := hP.sub (ws' := [(mo, .inr (13, MF 30 (rf (rs v Q o) i br))), (qx, .inl (cB, NN, .inl f))]) [0, 1] rfl
        have hDc := hD.sub (ws' := [(mo, .inr (13, MF 30 (rf (rs v Q o) i br))), (qx, .inl (cB, NN, .inl f))]) [0, 1] (by decide) rfl
        have hKc := hK.sub (tys' := [(cB, .byte)]) [0] rfl
        have hFc := va_free (wc := [(mo, .inr (13, MF 30 (rf (rs v Q o) i br))), (qx, .inl (cB, NN, .inl f))]) hD hS hA [0, 1] rfl
        refine va_calli (va_runV (As := []) (rest := []) ⟨hx, hb, hml, hown, hts⟩ (c_Mo_c l dC dI mo H (rf (rs v Q o) i br) cB qx NN f n i (by omega) (by omega) (by omega) ((rf_ne (by decide) (by decide)).trans ((rs_ne (by decide) (by decide) (by decide) (by decide)).trans h6)) rf_7 ((rf_ne (by decide) (by decide)).trans ((rs_ne (by decide) (by decide) (by decide) (by decide)).trans h8))) (cwV 0 hts (gt_V (own := R_Mo) (C := R_Mo) (i := 147) (y := y_Mo_c) i_Mo_c w_1233 w_1235 (gt_sel (y := y_Mo_c) (n := 30) (by decide +kernel)) w_7) rfl rfl rfl (by decide +kernel) ⟨Nat.le_trans (m := 12) (Nat.le_of_ble_eq_true rfl) (Nat.le_add_right 12 (15 + G)), Nat.le_trans (m := 440) (Nat.le_of_ble_eq_true rfl) (Nat.le_add_right 440 (600 + M))⟩) ⟨mp_blind, va_recv hKc hPc (ci := 13) (q0 := 0) rfl rfl, fun U hU hW => ⟨rfl, hU, by rw [hU]; exact hPc, va_K.moved hW.alike hKc, hDc.weaken (fun _ _ _ _ => trivial)⟩⟩ rfl rfl hl.1 rfl (lv_room (Nat.le_of_ble_eq_true rfl)) d_Mo_comparison_53 ⟨hfit_QV.1, hfit_QV.2⟩) hS (fun q _ h => hFc q h) hFc (fun r3 _u t9 H1 locs ht hvm hw hB hz1 hk1 hS => ?_)
        obtain ⟨hP1, hK1, hD1⟩ := hB
        rw [ht] at hP1
        obtain ⟨hP, hD⟩ := va_join (wr := [(Q.qq, .inl (cI, (8 * Q.C), .inl Q.qf)), (Q.qe, .inl (cL, (3 * Q.C), .inr (.inl Q.ef))), (tv, .inr (12, MF 13 (tw V))), (V.au, .inl (cC, V.U, .inl V.un))]) (w1 := [(mo, .inr (13, MF 30 (rf (rs v Q o) i br))), (qx, .inl (cB, NN, .inl f))]) hP hD [0, 1] [2, 3, 4, 5] rfl rfl (by decide) (by decide) hk1 hFc hP1 hD1
        generalize H1 = H at hP hS ⊢
        have hP : va_P (dC, dI) classes [(Q.qq, .inl (cI, (8 * Q.C), .inl Q.qf)), (Q.qe, .inl (cL, (3 * Q.C), .inr (.inl Q.ef))), (tv, .inr (12, MF 13 (tw V))), (V.au, .inl (cC, V.U, .inl V.un)), (mo, .inr (13, MF 30 (rf (rs v Q o) i br))), (qx, .inl (cB, NN, .inl f))] H := hP
        have hD : va_D A [(Q.qq, .inl (cI, (8 * Q.C), .inl Q.qf)), (Q.qe, .inl (cL, (3 * Q.C), .inr (.inl Q.ef))), (tv, .inr (12, MF 13 (tw V))), (V.au, .inl (cC, V.U, .inl V.un)), (mo, .inr (13, MF 30 (rf (rs v Q o) i br))), (qx, .inl (cB, NN, .inl f))] := hD
        have hP := hP.sub (ws' := [(mo, .inr (13, MF 30 (rf (rs v Q o) i br))), (qx, .inl (cB, NN, .inl f)), (Q.qq, .inl (cI, (8 * Q.C), .inl Q.qf)), (Q.qe, .inl (cL, (3 * Q.C), .inr (.inl Q.ef))), (tv, .inr (12, MF 13 (tw V))), (V.au, .inl (cC, V.U, .inl V.un))]) [4, 5, 0, 1, 2, 3] rfl
        have hD := hD.sub (ws' := [(mo, .inr (13, MF 30 (rf (rs v Q o) i br))), (qx, .inl (cB, NN, .inl f)), (Q.qq, .inl (cI, (8 * Q.C), .inl Q.qf)), (Q.qe, .inl (cL, (3 * Q.C), .inr (.inl Q.ef))), (tv, .inr (12, MF 13 (tw V))), (V.au, .inl (cC, V.U, .inl V.un))]) [4, 5, 0, 1, 2, 3] (by decide) rfl
        have h_r3 : r3 = hereV f n i := hw
        refine lv_bipush (v := 60) hx hb d_Mo_comparison_56 (by decide) ?_
        refine lv_icmp_eq (tgt := 70) hx hb d_Mo_comparison_58 (by decide) (fun c58 => ?_) (fun c58 => ?_)
        · refine lv_aload_n hx hb d_Mo_comparison_70 rfl (lv_at hl 0 rfl) ?_
          have hPc := hP.sub (ws' := [(mo, .inr (13, MF 30 (rf (rs v Q o) i br))), (qx, .inl (cB, NN, .inl f))]) [0, 1] rfl
          have hDc := hD.sub (ws' := [(mo, .inr (13, MF 30 (rf (rs v Q o) i br))), (qx, .inl (cB, NN, .inl f))]) [0, 1] (by decide) rfl
          have hKc := hK.sub (tys' := [(cB, .byte)]) [0] rfl
          have hFc := va_free (wc := [(mo, .inr (13, MF 30 (rf (rs v Q o) i br))), (qx, .inl (cB, NN, .inl f))]) hD hS hA [0, 1] rfl
          refine va_calli (va_runV (As := []) (rest := []) ⟨hx, hb, hml, hown, hts⟩ (c_Mo_c l dC dI mo H (rf (rs v Q o) i br) cB qx NN f n i (by omega) (by omega) (by omega) ((rf_ne (by decide) (by decide)).trans ((rs_ne (by decide) (by decide) (by decide) (by decide)).trans h6)) rf_7 ((rf_ne (by decide) (by decide)).trans ((rs_ne (by decide) (by decide) (by decide) (by decide)).trans h8))) (cwV 0 hts (gt_V (own := R_Mo) (C := R_Mo) (i := 147) (y := y_Mo_c) i_Mo_c w_1233 w_1235 (gt_sel (y := y_Mo_c) (n := 30) (by decide +kernel)) w_7) rfl rfl rfl (by decide +kernel) ⟨Nat.le_trans (m := 12) (Nat.le_of_ble_eq_true rfl) (Nat.le_add_right 12 (15 + G)), Nat.le_trans (m := 440) (Nat.le_of_ble_eq_true rfl) (Nat.le_add_right 440 (600 + M))⟩) ⟨mp_blind, va_recv hKc hPc (ci := 13) (q0 := 0) rfl rfl, fun U hU hW => ⟨rfl, hU, by rw [hU]; exact hPc, va_K.moved hW.alike hKc, hDc.weaken (fun _ _ _ _ => trivial)⟩⟩ rfl rfl hl.1 rfl (lv_room (Nat.le_of_ble_eq_true rfl)) d_Mo_comparison_71 ⟨hfit_QV.1, hfit_QV.2⟩) hS (fun q _ h => hFc q h) hFc (fun r5 _u t9 H1 locs ht hvm hw hB hz1 hk1 hS => ?_)
          obtain ⟨hP1, hK1, hD1⟩ := hB
          rw [ht] at hP1
          obtain ⟨hP, hD⟩ := va_join (wr := [(Q.qq, .inl (cI, (8 * Q.C), .inl Q.qf)), (Q.qe, .inl (cL, (3 * Q.C), .inr (.inl Q.ef))), (tv, .inr (12, MF 13 (tw V))), (V.au, .inl (cC, V.U, .inl V.un))]) (w1 := [(mo, .inr (13, MF 30 (rf (rs v Q o) i br))), (qx, .inl (cB, NN, .inl f))]) hP hD [0, 1] [2, 3, 4, 5] rfl rfl (by decide) (by decide) hk1 hFc hP1 hD1
          generalize H1 = H at hP hS ⊢
          have hP : va_P (dC, dI) classes [(Q.qq, .inl (cI, (8 * Q.C), .inl Q.qf)), (Q.qe, .inl (cL, (3 * Q.C), .inr (.inl Q.ef))), (tv, .inr (12, MF 13 (tw V))), (V.au, .inl (cC, V.U, .inl V.un)), (mo, .inr (13, MF 30 (rf (rs v Q o) i br))), (qx, .inl (cB, NN, .inl f))] H := hP
          have hD : va_D A [(Q.qq, .inl (cI, (8 * Q.C), .inl Q.qf)), (Q.qe, .inl (cL, (3 * Q.C), .inr (.inl Q.ef))), (tv, .inr (12, MF 13 (tw V))), (V.au, .inl (cC, V.U, .inl V.un)), (mo, .inr (13, MF 30 (rf (rs v Q o) i br))), (qx, .inl (cB, NN, .inl f))] := hD
          have hP := hP.sub (ws' := [(mo, .inr (13, MF 30 (rf (rs v Q o) i br))), (qx, .inl (cB, NN, .inl f)), (Q.qq, .inl (cI, (8 * Q.C), .inl Q.qf)), (Q.qe, .inl (cL, (3 * Q.C), .inr (.inl Q.ef))), (tv, .inr (12, MF 13 (tw V))), (V.au, .inl (cC, V.U, .inl V.un))]) [4, 5, 0, 1, 2, 3] rfl
          have hD := hD.sub (ws' := [(mo, .inr (13, MF 30 (rf (rs v Q o) i br))), (qx, .inl (cB, NN, .inl f)), (Q.qq, .inl (cI, (8 * Q.C), .inl Q.qf)), (Q.qe, .inl (cL, (3 * Q.C), .inr (.inl Q.ef))), (tv, .inr (12, MF 13 (tw V))), (V.au, .inl (cC, V.U, .inl V.un))]) [4, 5, 0, 1, 2, 3] (by decide) rfl
          have h_r5 : r5 = hereV f n i := hw
          refine lv_bipush (v := 60) hx hb d_Mo_comparison_74 (by decide) ?_
          refine lv_icmp_ne (tgt := 83) hx hb d_Mo_comparison_76 (by decide) (fun c76 => ?_) (fun c76 => ?_)
          · refine lv_iconst (v := 4) hx hb d_Mo_comparison_83 (by decide) ?_
            refine lv_istore_n (lv' := [(2, .int 4), (0, .ref mo), (1, .int (nI x0))]) hx hb d_Mo_comparison_84 rfl hl (by decide) rfl (fun ls hl => ?_)
            refine lv_aload_n hx hb d_Mo_comparison_85 rfl (lv_at hl 1 rfl) ?_
            refine lv_dup hx hb d_Mo_comparison_86 rfl ?_
            refine va_get (D := (dC, dI)) (ci := 13) (v := .int (nI i)) (C := R_Mo) (T := F_Mo) (N := 30) hx hb hts in_Mo hown hK hP 0 rfl rfl 7 (by decide) (hts _ w_1096) (fun _ h9 => h9) (MFg (by decide) rf_7) d_Mo_comparison_87 ?_
            refine lv_iconst (v := 1) hx hb d_Mo_comparison_90 (by decide) ?_
            refine lv_iadd hx hb d_Mo_comparison_91 ?_
            have hlt0 : i < n := here_in (h_r3.symm.trans c58) (by decide)
            refine W.eq (g2 := F0 m 92 ls [.int (nI (i + 1)), .ref mo]) (by rw [show ((nI i) + 1) = (nI (i + 1)) from nI_1 _]) ?_
            refine va_put (D := (dC, dI)) (ci := 13) (v := .int (nI (i + 1))) (ty := .int) (C := R_Mo) (T := F_Mo) (N := 30) hx hb hts in_Mo t_Mo t_Mo_ok n_Mo hown hK hP hD hS 0 rfl rfl 7 (by decide) (hts _ w_1096) (fun _ h9 => h9) rfl (by decide +kernel) rfl rfl (by rw [MFl]; decide) d_Mo_comparison_92 (fun H locs hP hD hS => ?_)
            rw [MFs (n := 30) (k := 7) (by decide)] at hP hD
            have hP : va_P (dC, dI) classes [(mo, .inr (13, MF 30 (va_up (rf (rs v Q o) i br) 7 (.int (nI (i + 1)))))), (qx, .inl (cB, NN, .inl f)), (Q.qq, .inl (cI, (8 * Q.C), .inl Q.qf)), (Q.qe, .inl (cL, (3 * Q.C), .inr (.inl Q.ef))), (tv, .inr (12, MF 13 (tw V))), (V.au, .inl (cC, V.U, .inl V.un))] H := hP
            have hD : va_D A [(mo, .inr (13, MF 30 (va_up (rf (rs v Q o) i br) 7 (.int (nI (i + 1)))))), (qx, .inl (cB, NN, .inl f)), (Q.qq, .inl (cI, (8 * Q.C), .inl Q.qf)), (Q.qe, .inl (cL, (3 * Q.C), .inr (.inl Q.ef))), (tv, .inr (12, MF 13 (tw V))), (V.au, .inl (cC, V.U, .inl V.un))] := hD
            rw [rf_u7] at hP hD
            have hP : va_P (dC, dI) classes [(mo, .inr (13, MF 30 (rf (rs v Q o) (i + 1) br))), (qx, .inl (cB, NN, .inl f)), (Q.qq, .inl (cI, (8 * Q.C), .inl Q.qf)), (Q.qe, .inl (cL, (3 * Q.C), .inr (.inl Q.ef))), (tv, .inr (12, MF 13 (tw V))), (V.au, .inl (cC, V.U, .inl V.un))] H := hP
            have hD : va_D A [(mo, .inr (13, MF 30 (rf (rs v Q o) (i + 1) br))), (qx, .inl (cB, NN, .inl f)), (Q.qq, .inl (cI, (8 * Q.C), .inl Q.qf)), (Q.qe, .inl (cL, (3 * Q.C), .inr (.inl Q.ef))), (tv, .inr (12, MF 13 (tw V))), (V.au, .inl (cC, V.U, .inl V.un))] := hD
            refine lv_aload_n hx hb d_Mo_comparison_95 rfl (lv_at hl 1 rfl) ?_
            have hPc := hP.sub (ws' := [(mo, .inr (13, MF 30 (rf (rs v Q o) (i + 1) br))), (qx, .inl (cB, NN, .inl f))]) [0, 1] rfl
            have hDc := hD.sub (ws' := [(mo, .inr (13, MF 30 (rf (rs v Q o) (i + 1) br))), (qx, .inl (cB, NN, .inl f))]) [0, 1] (by decide) rfl
            have hKc := hK.sub (tys' := [(cB, .byte)]) [0] rfl
            have hFc := va_free (wc := [(mo, .inr (13, MF 30 (rf (rs v Q o) (i + 1) br))), (qx, .inl (cB, NN, .inl f))]) hD hS hA [0, 1] rfl
            refine va_calli (va_runV (As := []) (rest := []) ⟨hx, hb, hml, hown, hts⟩ (c_Mo_c l dC dI mo H (rf (rs v Q o) (i + 1) br) cB qx NN f n (i + 1) (by omega) (by omega) (by omega) ((rf_ne (by decide) (by decide)).trans ((rs_ne (by decide) (by decide) (by decide) (by decide)).trans h6)) rf_7 ((rf_ne (by decide) (by decide)).trans ((rs_ne (by decide) (by decide) (by decide) (by decide)).trans h8))) (cwV 0 hts (gt_V (own := R_Mo) (C := R_Mo) (i := 147) (y := y_Mo_c) i_Mo_c w_1233 w_1235 (gt_sel (y := y_Mo_c) (n := 30) (by decide +kernel)) w_7) rfl rfl rfl (by decide +kernel) ⟨Nat.le_trans (m := 12) (Nat.le_of_ble_eq_true rfl) (Nat.le_add_right 12 (15 + G)), Nat.le_trans (m := 440) (Nat.le_of_ble_eq_true rfl) (Nat.le_add_right 440 (600 + M))⟩) ⟨mp_blind, va_recv hKc hPc (ci := 13) (q0 := 0) rfl rfl, fun U hU hW => ⟨rfl, hU, by rw [hU]; exact hPc, va_K.moved hW.alike hKc, hDc.weaken (fun _ _ _ _ => trivial)⟩⟩ rfl rfl hl.1 rfl (lv_room (Nat.le_of_ble_eq_true rfl)) d_Mo_comparison_96 ⟨hfit_QV.1, hfit_QV.2⟩) hS (fun q _ h => hFc q h) hFc (fun r6 _u t9 H1 locs ht hvm hw hB hz1 hk1 hS => ?_)
            obtain ⟨hP1, hK1, hD1⟩ := hB
            rw [ht] at hP1
            obtain ⟨hP, hD⟩ := va_join (wr := [(Q.qq, .inl (cI, (8 * Q.C), .inl Q.qf)), (Q.qe, .inl (cL, (3 * Q.C), .inr (.inl Q.ef))), (tv, .inr (12, MF 13 (tw V))), (V.au, .inl (cC, V.U, .inl V.un))]) (w1 := [(mo, .inr (13, MF 30 (rf (rs v Q o) (i + 1) br))), (qx, .inl (cB, NN, .inl f))]) hP hD [0, 1] [2, 3, 4, 5] rfl rfl (by decide) (by decide) hk1 hFc hP1 hD1
            generalize H1 = H at hP hS ⊢
            have hP : va_P (dC, dI) classes [(Q.qq, .inl (cI, (8 * Q.C), .inl Q.qf)), (Q.qe, .inl (cL, (3 * Q.C), .inr (.inl Q.ef))), (tv, .inr (12, MF 13 (tw V))), (V.au, .inl (cC, V.U, .inl V.un)), (mo, .inr (13, MF 30 (rf (rs v Q o) (i + 1) br))), (qx, .inl (cB, NN, .inl f))] H := hP
            have hD : va_D A [(Q.qq, .inl (cI, (8 * Q.C), .inl Q.qf)), (Q.qe, .inl (cL, (3 * Q.C), .inr (.inl Q.ef))), (tv, .inr (12, MF 13 (tw V))), (V.au, .inl (cC, V.U, .inl V.un)), (mo, .inr (13, MF 30 (rf (rs v Q o) (i + 1) br))), (qx, .inl (cB, NN, .inl f))] := hD
            have hP := hP.sub (ws' := [(mo, .inr (13, MF 30 (rf (rs v Q o) (i + 1) br))), (qx, .inl (cB, NN, .inl f)), (Q.qq, .inl (cI, (8 * Q.C), .inl Q.qf)), (Q.qe, .inl (cL, (3 * Q.C), .inr (.inl Q.ef))), (tv, .inr (12, MF 13 (tw V))), (V.au, .inl (cC, V.U, .inl V.un))]) [4, 5, 0, 1, 2, 3] rfl
            have hD := hD.sub (ws' := [(mo, .inr (13, MF 30 (rf (rs v Q o) (i + 1) br))), (qx, .inl (cB, NN, .inl f)), (Q.qq, .inl (cI, (8 * Q.C), .inl Q.qf)), (Q.qe, .inl (cL, (3 * Q.C), .inr (.inl Q.ef))), (tv, .inr (12, MF 13 (tw V))), (V.au, .inl (cC, V.U, .inl V.un))]) [4, 5, 0, 1, 2, 3] (by decide) rfl
            have h_r6 : r6 = hereV f n (i + 1) := hw
            refine lv_bipush (v := 61) hx hb d_Mo_comparison_99 (by decide) ?_
            refine lv_icmp_ne (tgt := 131) hx hb d_Mo_comparison_101 (by decide) (fun c101 => ?_) (fun c101 => ?_)
            · exact absurd (h_r5.trans (h_r3.symm.trans c58)) c76
            · refine lv_aload_n hx hb d_Mo_comparison_104 rfl (lv_at hl 1 rfl) ?_
              refine lv_dup hx hb d_Mo_comparison_105 rfl ?_
              refine va_get (D := (dC, dI)) (ci := 13) (v := .int (nI (i + 1))) (C := R_Mo) (T := F_Mo) (N := 30) hx hb hts in_Mo hown hK hP 0 rfl rfl 7 (by decide) (hts _ w_1096) (fun _ h9 => h9) (MFg (by decide) rf_7) d_Mo_comparison_106 ?_
              refine lv_iconst (v := 1) hx hb d_Mo_comparison_109 (by decide) ?_
              refine lv_iadd hx hb d_Mo_comparison_110 ?_
              have hlt5 := here_in (h_r6.symm.trans c101) (by decide)
              refine W.eq (g2 := F0 m 111 ls [.int (nI ((i + 1) + 1)), .ref mo]) (by rw [show ((nI (i + 1)) + 1) = (nI ((i + 1) + 1)) from nI_1 _]) ?_
              refine va_put (D := (dC, dI)) (ci := 13) (v := .int (nI ((i + 1) + 1))) (ty := .int) (C := R_Mo) (T := F_Mo) (N := 30) hx hb hts in_Mo t_Mo t_Mo_ok n_Mo hown hK hP hD hS 0 rfl rfl 7 (by decide) (hts _ w_1096) (fun _ h9 => h9) rfl (by decide +kernel) rfl rfl (by rw [MFl]; decide) d_Mo_comparison_111 (fun H locs hP hD hS => ?_)
              rw [MFs (n := 30) (k := 7) (by decide)] at hP hD
              have hP : va_P (dC, dI) classes [(mo, .inr (13, MF 30 (va_up (rf (rs v Q o) (i + 1) br) 7 (.int (nI ((i + 1) + 1)))))), (qx, .inl (cB, NN, .inl f)), (Q.qq, .inl (cI, (8 * Q.C), .inl Q.qf)), (Q.qe, .inl (cL, (3 * Q.C), .inr (.inl Q.ef))), (tv, .inr (12, MF 13 (tw V))), (V.au, .inl (cC, V.U, .inl V.un))] H := hP
              have hD : va_D A [(mo, .inr (13, MF 30 (va_up (rf (rs v Q o) (i + 1) br) 7 (.int (nI ((i + 1) + 1)))))), (qx, .inl (cB, NN, .inl f)), (Q.qq, .inl (cI, (8 * Q.C), .inl Q.qf)), (Q.qe, .inl (cL, (3 * Q.C), .inr (.inl Q.ef))), (tv, .inr (12, MF 13 (tw V))), (V.au, .inl (cC, V.U, .inl V.un))] := hD
              rw [rf_u7] at hP hD
              have hP : va_P (dC, dI) classes [(mo, .inr (13, MF 30 (rf (rs v Q o) ((i + 1) + 1) br))), (qx, .inl (cB, NN, .inl f)), (Q.qq, .inl (cI, (8 * Q.C), .inl Q.qf)), (Q.qe, .inl (cL, (3 * Q.C), .inr (.inl Q.ef))), (tv, .inr (12, MF 13 (tw V))), (V.au, .inl (cC, V.U, .inl V.un))] H := hP
              have hD : va_D A [(mo, .inr (13, MF 30 (rf (rs v Q o) ((i + 1) + 1) br))), (qx, .inl (cB, NN, .inl f)), (Q.qq, .inl (cI, (8 * Q.C), .inl Q.qf)), (Q.qe, .inl (cL, (3 * Q.C), .inr (.inl Q.ef))), (tv, .inr (12, MF 13 (tw V))), (V.au, .inl (cC, V.U, .inl V.un))] := hD
              refine lv_iinc (v := 5) (lv' := [(2, .int 5), (0, .ref mo), (1, .int (nI x0))]) hx hb d_Mo_comparison_114 hl (k := 0) rfl (by decide) (by decide) rfl (fun ls hl => ?_)
              refine lv_goto (tgt := 131) hx hb d_Mo_comparison_117 (by decide) ?_
              exact absurd (h_r5.trans (h_r3.symm.trans c58)) c76
          · refine lv_iconst (v := 2) hx hb d_Mo_comparison_79 (by decide) ?_
            refine lv_goto (tgt := 84) hx hb d_Mo_comparison_80 (by decide) ?_
            refine lv_istore_n (lv' := [(2, .int 2), (0, .ref mo), (1, .int (nI x0))]) hx hb d_Mo_comparison_84 rfl hl (by decide) rfl (fun ls hl => ?_)
            refine lv_aload_n hx hb d_Mo_comparison_85 rfl (lv_at hl 1 rfl) ?_
            refine lv_dup hx hb d_Mo_comparison_86 rfl ?_
            refine va_get (D := (dC, dI)) (ci := 13) (v := .int (nI i)) (C := R_Mo) (T := F_Mo) (N := 30) hx hb hts in_Mo hown hK hP 0 rfl rfl 7 (by decide) (hts _ w_1096) (fun _ h9 => h9) (MFg (by decide) rf_7) d_Mo_comparison_87 ?_
            refine lv_iconst (v := 1) hx hb d_Mo_comparison_90 (by decide) ?_
            refine lv_iadd hx hb d_Mo_comparison_91 ?_
            have hlt0 : i < n := here_in (h_r3.symm.trans c58) (by decide)
            refine W.eq (g2 := F0 m 92 ls [.int (nI (i + 1)), .ref mo]) (by rw [show ((nI i) + 1) = (nI (i + 1)) from nI_1 _]) ?_
            refine va_put (D := (dC, dI)) (ci := 13) (v := .int (nI (i + 1))) (ty := .int) (C := R_Mo) (T := F_Mo) (N := 30) hx hb hts in_Mo t_Mo t_Mo_ok n_Mo hown hK hP hD hS 0 rfl rfl 7 (by decide) (hts _ w_1096) (fun _ h9 => h9) rfl (by decide +kernel) rfl rfl (by rw [MFl]; decide) d_Mo_comparison_92 (fun H locs hP hD hS => ?_)
            rw [MFs (n := 30) (k := 7) (by decide)] at hP hD
            have hP : va_P (dC, dI) classes [(mo, .inr (13, MF 30 (va_up (rf (rs v Q o) i br) 7 (.int (nI (i + 1)))))), (qx, .inl (cB, NN, .inl f)), (Q.qq, .inl (cI, (8 * Q.C), .inl Q.qf)), (Q.qe, .inl (cL, (3 * Q.C), .inr (.inl Q.ef))), (tv, .inr (12, MF 13 (tw V))), (V.au, .inl (cC, V.U, .inl V.un))] H := hP
            have hD : va_D A [(mo, .inr (13, MF 30 (va_up (rf (rs v Q o) i br) 7 (.int (nI (i + 1)))))), (qx, .inl (cB, NN, .inl f)), (Q.qq, .inl (cI, (8 * Q.C), .inl Q.qf)), (Q.qe, .inl (cL, (3 * Q.C), .inr (.inl Q.ef))), (tv, .inr (12, MF 13 (tw V))), (V.au, .inl (cC, V.U, .inl V.un))] := hD
            rw [rf_u7] at hP hD
            have hP : va_P (dC, dI) classes [(mo, .inr (13, MF 30 (rf (rs v Q o) (i + 1) br))), (qx, .inl (cB, NN, .inl f)), (Q.qq, .inl (cI, (8 * Q.C), .inl Q.qf)), (Q.qe, .inl (cL, (3 * Q.C), .inr (.inl Q.ef))), (tv, .inr (12, MF 13 (tw V))), (V.au, .inl (cC, V.U, .inl V.un))] H := hP
            have hD : va_D A [(mo, .inr (13, MF 30 (rf (rs v Q o) (i + 1) br))), (qx, .inl (cB, NN, .inl f)), (Q.qq, .inl (cI, (8 * Q.C), .inl Q.qf)), (Q.qe, .inl (cL, (3 * Q.C), .inr (.inl Q.ef))), (tv, .inr (12, MF 13 (tw V))), (V.au, .inl (cC, V.U, .inl V.un))] := hD
            refine lv_aload_n hx hb d_Mo_comparison_95 rfl (lv_at hl 1 rfl) ?_
            have hPc := hP.sub (ws' := [(mo, .inr (13, MF 30 (rf (rs v Q o) (i + 1) br))), (qx, .inl (cB, NN, .inl f))]) [0, 1] rfl
            have hDc := hD.sub (ws' := [(mo, .inr (13, MF 30 (rf (rs v Q o) (i + 1) br))), (qx, .inl (cB, NN, .inl f))]) [0, 1] (by decide) rfl
            have hKc := hK.sub (tys' := [(cB, .byte)]) [0] rfl
            have hFc := va_free (wc := [(mo, .inr (13, MF 30 (rf (rs v Q o) (i + 1) br))), (qx, .inl (cB, NN, .inl f))]) hD hS hA [0, 1] rfl
            refine va_calli (va_runV (As := []) (rest := []) ⟨hx, hb, hml, hown, hts⟩ (c_Mo_c l dC dI mo H (rf (rs v Q o) (i + 1) br) cB qx NN f n (i + 1) (by omega) (by omega) (by omega) ((rf_ne (by decide) (by decide)).trans ((rs_ne (by decide) (by decide) (by decide) (by decide)).trans h6)) rf_7 ((rf_ne (by decide) (by decide)).trans ((rs_ne (by decide) (by decide) (by decide) (by decide)).trans h8))) (cwV 0 hts (gt_V (own := R_Mo) (C := R_Mo) (i := 147) (y := y_Mo_c) i_Mo_c w_1233 w_1235 (gt_sel (y := y_Mo_c) (n := 30) (by decide +kernel)) w_7) rfl rfl rfl (by decide +kernel) ⟨Nat.le_trans (m := 12) (Nat.le_of_ble_eq_true rfl) (Nat.le_add_right 12 (15 + G)), Nat.le_trans (m := 440) (Nat.le_of_ble_eq_true rfl) (Nat.le_add_right 440 (600 + M))⟩) ⟨mp_blind, va_recv hKc hPc (ci := 13) (q0 := 0) rfl rfl, fun U hU hW => ⟨rfl, hU, by rw [hU]; exact hPc, va_K.moved hW.alike hKc, hDc.weaken (fun _ _ _ _ => trivial)⟩⟩ rfl rfl hl.1 rfl (lv_room (Nat.le_of_ble_eq_true rfl)) d_Mo_comparison_96 ⟨hfit_QV.1, hfit_QV.2⟩) hS (fun q _ h => hFc q h) hFc (fun r6 _u t9 H1 locs ht hvm hw hB hz1 hk1 hS => ?_)
            obtain ⟨hP1, hK1, hD1⟩ := hB
            rw [ht] at hP1
            obtain ⟨hP, hD⟩ := va_join (wr := [(Q.qq, .inl (cI, (8 * Q.C), .inl Q.qf)), (Q.qe, .inl (cL, (3 * Q.C), .inr (.inl Q.ef))), (tv, .inr (12, MF 13 (tw V))), (V.au, .inl (cC, V.U, .inl V.un))]) (w1 := [(mo, .inr (13, MF 30 (rf (rs v Q o) (i + 1) br))), (qx, .inl (cB, NN, .inl f))]) hP hD [0, 1] [2, 3, 4, 5] rfl rfl (by decide) (by decide) hk1 hFc hP1 hD1
            generalize H1 = H at hP hS ⊢
            have hP : va_P (dC, dI) classes [(Q.qq, .inl (cI, (8 * Q.C), .inl Q.qf)), (Q.qe, .inl (cL, (3 * Q.C), .inr (.inl Q.ef))), (tv, .inr (12, MF 13 (tw V))), (V.au, .inl (cC, V.U, .inl V.un)), (mo, .inr (13, MF 30 (rf (rs v Q o) (i + 1) br))), (qx, .inl (cB, NN, .inl f))] H := hP
            have hD : va_D A [(Q.qq, .inl (cI, (8 * Q.C), .inl Q.qf)), (Q.qe, .inl (cL, (3 * Q.C), .inr (.inl Q.ef))), (tv, .inr (12, MF 13 (tw V))), (V.au, .inl (cC, V.U, .inl V.un)), (mo, .inr (13, MF 30 (rf (rs v Q o) (i + 1) br))), (qx, .inl (cB, NN, .inl f))] := hD
            have hP := hP.sub (ws' := [(mo, .inr (13, MF 30 (rf (rs v Q o) (i + 1) br))), (qx, .inl (cB, NN, .inl f)), (Q.qq, .inl (cI, (8 * Q.C), .inl Q.qf)), (Q.qe, .inl (cL, (3 * Q.C), .inr (.inl Q.ef))), (tv, .inr (12, MF 13 (tw V))), (V.au, .inl (cC, V.U, .inl V.un))]) [4, 5, 0, 1, 2, 3] rfl
            have hD := hD.sub (ws' := [(mo, .inr (13, MF 30 (rf (rs v Q o) (i + 1) br))), (qx, .inl (cB, NN, .inl f)), (Q.qq, .inl (cI, (8 * Q.C), .inl Q.qf)), (Q.qe, .inl (cL, (3 * Q.C), .inr (.inl Q.ef))), (tv, .inr (12, MF 13 (tw V))), (V.au, .inl (cC, V.U, .inl V.un))]) [4, 5, 0, 1, 2, 3] (by decide) rfl
            have h_r6 : r6 = hereV f n (i + 1) := hw
            refine lv_bipush (v := 61) hx hb d_Mo_comparison_99 (by decide) ?_
            refine lv_icmp_ne (tgt := 131) hx hb d_Mo_comparison_101 (by decide) (fun c101 => ?_) (fun c101 => ?_)
            · have hl : lv_has ls 5 [(2, .int (nI 2)), (0, .ref mo), (1, .int (nI x0))] := hl
              exact jn131 ((i + 1), br, 2) _ _ _ ⟨by show i + 1 ≤ (i + 1); omega, by show (i + 1) ≤ n; omega, by show 2 ≤ 5; decide, cpP_4l (fun h => c6 (h_r1.trans h)) (fun h => c32 (h_r2.trans h)) (h_r3.symm.trans c58) (fun h => c101 (h_r6.trans h))⟩ hP hD hS (lv_sub hl [1, 2, 0] rfl)
            · refine lv_aload_n hx hb d_Mo_comparison_104 rfl (lv_at hl 1 rfl) ?_
              refine lv_dup hx hb d_Mo_comparison_105 rfl ?_
              refine va_get (D := (dC, dI)) (ci := 13) (v := .int (nI (i + 1))) (C := R_Mo) (T := F_Mo) (N := 30) hx hb hts in_Mo hown hK hP 0 rfl rfl 7 (by decide) (hts _ w_1096) (fun _ h9 => h9) (MFg (by decide) rf_7) d_Mo_comparison_106 ?_
              refine lv_iconst (v := 1) hx hb d_Mo_comparison_109 (by decide) ?_
              refine lv_iadd hx hb d_Mo_comparison_110 ?_
              have hlt5 := here_in (h_r6.symm.trans c101) (by decide)
              refine W.eq (g2 := F0 m 111 ls [.int (nI ((i + 1) + 1)), .ref mo]) (by rw [show ((nI (i + 1)) + 1) = (nI ((i + 1) + 1)) from nI_1 _]) ?_
              refine va_put (D := (dC, dI)) (ci := 13) (v := .int (nI ((i + 1) + 1))) (ty := .int) (C := R_Mo) (T := F_Mo) (N := 30) hx hb hts in_Mo t_Mo t_Mo_ok n_Mo hown hK hP hD hS 0 rfl rfl 7 (by decide) (hts _ w_1096) (fun _ h9 => h9) rfl (by decide +kernel) rfl rfl (by rw [MFl]; decide) d_Mo_comparison_111 (fun H locs hP hD hS => ?_)
              rw [MFs (n := 30) (k := 7) (by decide)] at hP hD
              have hP : va_P (dC, dI) classes [(mo, .inr (13, MF 30 (va_up (rf (rs v Q o) (i + 1) br) 7 (.int (nI ((i + 1) + 1)))))), (qx, .inl (cB, NN, .inl f)), (Q.qq, .inl (cI, (8 * Q.C), .inl Q.qf)), (Q.qe, .inl (cL, (3 * Q.C), .inr (.inl Q.ef))), (tv, .inr (12, MF 13 (tw V))), (V.au, .inl (cC, V.U, .inl V.un))] H := hP
              have hD : va_D A [(mo, .inr (13, MF 30 (va_up (rf (rs v Q o) (i + 1) br) 7 (.int (nI ((i + 1) + 1)))))), (qx, .inl (cB, NN, .inl f)), (Q.qq, .inl (cI, (8 * Q.C), .inl Q.qf)), (Q.qe, .inl (cL, (3 * Q.C), .inr (.inl Q.ef))), (tv, .inr (12, MF 13 (tw V))), (V.au, .inl (cC, V.U, .inl V.un))] := hD
              rw [rf_u7] at hP hD
              have hP : va_P (dC, dI) classes [(mo, .inr (13, MF 30 (rf (rs v Q o) ((i + 1) + 1) br))), (qx, .inl (cB, NN, .inl f)), (Q.qq, .inl (cI, (8 * Q.C), .inl Q.qf)), (Q.qe, .inl (cL, (3 * Q.C), .inr (.inl Q.ef))), (tv, .inr (12, MF 13 (tw V))), (V.au, .inl (cC, V.U, .inl V.un))] H := hP
              have hD : va_D A [(mo, .inr (13, MF 30 (rf (rs v Q o) ((i + 1) + 1) br))), (qx, .inl (cB, NN, .inl f)), (Q.qq, .inl (cI, (8 * Q.C), .inl Q.qf)), (Q.qe, .inl (cL, (3 * Q.C), .inr (.inl Q.ef))), (tv, .inr (12, MF 13 (tw V))), (V.au, .inl (cC, V.U, .inl V.un))] := hD
              refine lv_iinc (v := 3) (lv' := [(2, .int 3), (0, .ref mo), (1, .int (nI x0))]) hx hb d_Mo_comparison_114 hl (k := 0) rfl (by decide) (by decide) rfl (fun ls hl => ?_)
              refine lv_goto (tgt := 131) hx hb d_Mo_comparison_117 (by decide) ?_
              have hlt6 := here_in (h_r6.symm.trans c101) (by decide)
              have hl : lv_has ls 5 [(2, .int (nI 3)), (0, .ref mo), (1, .int (nI x0))] := hl
              exact jn131 (((i + 1) + 1), br, 3) _ _ _ ⟨by show i + 1 ≤ ((i + 1) + 1); omega, by show ((i + 1) + 1) ≤ n; omega, by show 3 ≤ 5; decide, cpP_3l (fun h => c6 (h_r1.trans h)) (fun h => c32 (h_r2.trans h)) (h_r3.symm.trans c58) (h_r6.symm.trans c101)⟩ hP hD hS (lv_sub hl [1, 2, 0] rfl)
        · refine lv_aload_n hx hb d_Mo_comparison_61 rfl (lv_at hl 0 rfl) ?_
          have hPc := hP.sub (ws' := [(mo, .inr (13, MF 30 (rf (rs v Q o) i br))), (qx, .inl (cB, NN, .inl f))]) [0, 1] rfl
          have hDc := hD.sub (ws' := [(mo, .inr (13, MF 30 (rf (rs v Q o) i br))), (qx, .inl (cB, NN, .inl f))]) [0, 1] (by decide) rfl
          have hKc := hK.sub (tys' := [(cB, .byte)]) [0] rfl
          have hFc := va_free (wc := [(mo, .inr (13, MF 30 (rf (rs v Q o) i br))), (qx, .inl (cB, NN, .inl f))]) hD hS hA [0, 1] rfl
          refine va_calli (va_runV (As := []) (rest := []) ⟨hx, hb, hml, hown, hts⟩ (c_Mo_c l dC dI mo H (rf (rs v Q o) i br) cB qx NN f n i (by omega) (by omega) (by omega) ((rf_ne (by decide) (by decide)).trans ((rs_ne (by decide) (by decide) (by decide) (by decide)).trans h6)) rf_7 ((rf_ne (by decide) (by decide)).trans ((rs_ne (by decide) (by decide) (by decide) (by decide)).trans h8))) (cwV 0 hts (gt_V (own := R_Mo) (C := R_Mo) (i := 147) (y := y_Mo_c) i_Mo_c w_1233 w_1235 (gt_sel (y := y_Mo_c) (n := 30) (by decide +kernel)) w_7) rfl rfl rfl (by decide +kernel) ⟨Nat.le_trans (m := 12) (Nat.le_of_ble_eq_true rfl) (Nat.le_add_right 12 (15 + G)), Nat.le_trans (m := 440) (Nat.le_of_ble_eq_true rfl) (Nat.le_add_right 440 (600 + M))⟩) ⟨mp_blind, va_recv hKc hPc (ci := 13) (q0 := 0) rfl rfl, fun U hU hW => ⟨rfl, hU, by rw [hU]; exact hPc, va_K.moved hW.alike hKc, hDc.weaken (fun _ _ _ _ => trivial)⟩⟩ rfl rfl hl.1 rfl (lv_room (Nat.le_of_ble_eq_true rfl)) d_Mo_comparison_62 ⟨hfit_QV.1, hfit_QV.2⟩) hS (fun q _ h => hFc q h) hFc (fun r4 _u t9 H1 locs ht hvm hw hB hz1 hk1 hS => ?_)
          obtain ⟨hP1, hK1, hD1⟩ := hB
          rw [ht] at hP1
          obtain ⟨hP, hD⟩ := va_join (wr := [(Q.qq, .inl (cI, (8 * Q.C), .inl Q.qf)), (Q.qe, .inl (cL, (3 * Q.C), .inr (.inl Q.ef))), (tv, .inr (12, MF 13 (tw V))), (V.au, .inl (cC, V.U, .inl V.un))]) (w1 := [(mo, .inr (13, MF 30 (rf (rs v Q o) i br))), (qx, .inl (cB, NN, .inl f))]) hP hD [0, 1] [2, 3, 4, 5] rfl rfl (by decide) (by decide) hk1 hFc hP1 hD1
          generalize H1 = H at hP hS ⊢
          have hP : va_P (dC, dI) classes [(Q.qq, .inl (cI, (8 * Q.C), .inl Q.qf)), (Q.qe, .inl (cL, (3 * Q.C), .inr (.inl Q.ef))), (tv, .inr (12, MF 13 (tw V))), (V.au, .inl (cC, V.U, .inl V.un)), (mo, .inr (13, MF 30 (rf (rs v Q o) i br))), (qx, .inl (cB, NN, .inl f))] H := hP
          have hD : va_D A [(Q.qq, .inl (cI, (8 * Q.C), .inl Q.qf)), (Q.qe, .inl (cL, (3 * Q.C), .inr (.inl Q.ef))), (tv, .inr (12, MF 13 (tw V))), (V.au, .inl (cC, V.U, .inl V.un)), (mo, .inr (13, MF 30 (rf (rs v Q o) i br))), (qx, .inl (cB, NN, .inl f))] := hD
          have hP := hP.sub (ws' := [(mo, .inr (13, MF 30 (rf (rs v Q o) i br))), (qx, .inl (cB, NN, .inl f)), (Q.qq, .inl (cI, (8 * Q.C), .inl Q.qf)), (Q.qe, .inl (cL, (3 * Q.C), .inr (.inl Q.ef))), (tv, .inr (12, MF 13 (tw V))), (V.au, .inl (cC, V.U, .inl V.un))]) [4, 5, 0, 1, 2, 3] rfl
          have hD := hD.sub (ws' := [(mo, .inr (13, MF 30 (rf (rs v Q o) i br))), (qx, .inl (cB, NN, .inl f)), (Q.qq, .inl (cI, (8 * Q.C), .inl Q.qf)), (Q.qe, .inl (cL, (3 * Q.C), .inr (.inl Q.ef))), (tv, .inr (12, MF 13 (tw V))), (V.au, .inl (cC, V.U, .inl V.un))]) [4, 5, 0, 1, 2, 3] (by decide) rfl
          have h_r4 : r4 = hereV f n i := hw
          refine lv_bipush (v := 62) hx hb d_Mo_comparison_65 (by decide) ?_
          refine lv_icmp_ne (tgt := 120) hx hb d_Mo_comparison_67 (by decide) (fun c67 => ?_) (fun c67 => ?_)
          · refine lv_aload_n hx hb d_Mo_comparison_120 rfl (lv_at hl 0 rfl) ?_
            refine lv_aload_n hx hb d_Mo_comparison_121 rfl (lv_at hl 0 rfl) ?_
            refine va_get (D := (dC, dI)) (ci := 13) (v := .int (nI i)) (C := R_Mo) (T := F_Mo) (N := 30) hx hb hts in_Mo hown hK hP 0 rfl rfl 7 (by decide) (hts _ w_1096) (fun _ h9 => h9) (MFg (by decide) rf_7) d_Mo_comparison_122 ?_
            have hPc := hP.sub (ws' := [(mo, .inr (13, MF 30 (rf (rs v Q o) i br)))]) [0] rfl
            have hDc := hD.sub (ws' := [(mo, .inr (13, MF 30 (rf (rs v Q o) i br)))]) [0] (by decide) rfl
            have hKc := hK.sub (tys' := []) [] rfl
            have hFc := va_free (wc := [(mo, .inr (13, MF 30 (rf (rs v Q o) i br)))]) hD hS hA [0] rfl
            refine va_calli (va_runV (As := [.int (nI i)]) (rest := []) ⟨hx, hb, hml, hown, hts⟩ (c_Mo_fail l dC dI mo H (rf (rs v Q o) i br) br ((nI i)) rf_9) (cwV 1 hts (gt_V (own := R_Mo) (C := R_Mo) (i := 151) (y := y_Mo_fail) i_Mo_fail w_1250 w_1252 (gt_sel (y := y_Mo_fail) (n := 30) (by decide +kernel)) w_7) rfl rfl rfl (by decide +kernel) ⟨Nat.le_trans (m := 12) (Nat.le_of_ble_eq_true rfl) (Nat.le_add_right 12 (15 + G)), Nat.le_trans (m := 440) (Nat.le_of_ble_eq_true rfl) (Nat.le_add_right 440 (600 + M))⟩) ⟨mp_blind, va_recv hKc hPc (ci := 13) (q0 := 0) rfl rfl, fun U hU hW => ⟨rfl, hU, by rw [hU]; exact hPc, va_K.moved hW.alike hKc, hDc.weaken (fun _ _ _ _ => trivial)⟩⟩ rfl rfl hl.1 rfl (lv_room (Nat.le_of_ble_eq_true rfl)) d_Mo_comparison_125 ⟨hfit_QV.1, hfit_QV.2⟩) hS (fun q _ h => hFc q h) hFc (fun r0 u2 t9 H1 locs ht hvm hw hB hz1 hk1 hS => ?_)
            obtain ⟨hP1, hK1, hD1⟩ := hB
            rw [ht] at hP1
            obtain ⟨hP, hD⟩ := va_join (wr := [(qx, .inl (cB, NN, .inl f)), (Q.qq, .inl (cI, (8 * Q.C), .inl Q.qf)), (Q.qe, .inl (cL, (3 * Q.C), .inr (.inl Q.ef))), (tv, .inr (12, MF 13 (tw V))), (V.au, .inl (cC, V.U, .inl V.un))]) (w1 := [(mo, .inr (13, MF 30 u2))]) hP hD [0] [1, 2, 3, 4, 5] rfl rfl (by decide) (by decide) hk1 hFc hP1 hD1
            generalize H1 = H at hP hS ⊢
            have hP : va_P (dC, dI) classes [(qx, .inl (cB, NN, .inl f)), (Q.qq, .inl (cI, (8 * Q.C), .inl Q.qf)), (Q.qe, .inl (cL, (3 * Q.C), .inr (.inl Q.ef))), (tv, .inr (12, MF 13 (tw V))), (V.au, .inl (cC, V.U, .inl V.un)), (mo, .inr (13, MF 30 u2))] H := hP
            have hD : va_D A [(qx, .inl (cB, NN, .inl f)), (Q.qq, .inl (cI, (8 * Q.C), .inl Q.qf)), (Q.qe, .inl (cL, (3 * Q.C), .inr (.inl Q.ef))), (tv, .inr (12, MF 13 (tw V))), (V.au, .inl (cC, V.U, .inl V.un)), (mo, .inr (13, MF 30 u2))] := hD
            have hP := hP.sub (ws' := [(mo, .inr (13, MF 30 u2)), (qx, .inl (cB, NN, .inl f)), (Q.qq, .inl (cI, (8 * Q.C), .inl Q.qf)), (Q.qe, .inl (cL, (3 * Q.C), .inr (.inl Q.ef))), (tv, .inr (12, MF 13 (tw V))), (V.au, .inl (cC, V.U, .inl V.un))]) [5, 0, 1, 2, 3, 4] rfl
            have hD := hD.sub (ws' := [(mo, .inr (13, MF 30 u2)), (qx, .inl (cB, NN, .inl f)), (Q.qq, .inl (cI, (8 * Q.C), .inl Q.qf)), (Q.qe, .inl (cL, (3 * Q.C), .inr (.inl Q.ef))), (tv, .inr (12, MF 13 (tw V))), (V.au, .inl (cC, V.U, .inl V.un))]) [5, 0, 1, 2, 3, 4] (by decide) rfl
            obtain ⟨b7, h_b7⟩ := rf_fail (v := (rs v Q o)) (i := i) (br := br) (b2 := br) (wh := (nI i))
            have hw : r0 = 0 ∧ u2 = _ := hw
            obtain ⟨hw1, hw2⟩ := hw
            rw [h_b7] at hw2
            rw [hw2] at hP hD
            subst hw1
            have hP : va_P (dC, dI) classes [(mo, .inr (13, MF 30 (rf (rs v Q o) i b7))), (qx, .inl (cB, NN, .inl f)), (Q.qq, .inl (cI, (8 * Q.C), .inl Q.qf)), (Q.qe, .inl (cL, (3 * Q.C), .inr (.inl Q.ef))), (tv, .inr (12, MF 13 (tw V))), (V.au, .inl (cC, V.U, .inl V.un))] H := hP
            have hD : va_D A [(mo, .inr (13, MF 30 (rf (rs v Q o) i b7))), (qx, .inl (cB, NN, .inl f)), (Q.qq, .inl (cI, (8 * Q.C), .inl Q.qf)), (Q.qe, .inl (cL, (3 * Q.C), .inr (.inl Q.ef))), (tv, .inr (12, MF 13 (tw V))), (V.au, .inl (cC, V.U, .inl V.un))] := hD
            refine lv_pop hx hb d_Mo_comparison_128 rfl ?_
            refine lv_iconst (v := (-1)) hx hb d_Mo_comparison_129 (by decide) ?_
            have hfin : cpP f n (cmP f n ok (orL f n) (cmL f n) (qyL f n)) xm i = none := cpP_n (fun h => c6 (h_r1.trans h)) (fun h => c32 (h_r2.trans h)) (fun h => h.elim (fun q => c58 (h_r3.trans q)) (fun q => c67 (h_r4.trans q)))
            refine w_same (fun hq => ?_)
            refine W.widen (k := kcap Q (Q.R + 8 * (n - i) + 1) + qcap V (V.us + (n + 12 - i))) (n := 22 * kcap Q (Q.R + 8 * (n - i) + 1) + 2 * qcap V (V.us + (n + 12 - i))) hfit_QV.1 hfit_QV.2 ?_
            have hPo : QPo n i 1 Q V (Q, V, i, b7, o) := ⟨hQk_Q, hG_QV, ⟨[], TX.rf hTk_V, Nat.zero_le _⟩, by show Q.R ≤ Q.R; omega, by show Q.R ≤ Q.R + 8 * (n - i) + 1; omega⟩
            exact W.iret (v := -1) hx hb hr (fun t9 ht hW => ⟨⟨-1, (Q, V, i, b7, o), rfl, ⟨hPo, Or.inr ⟨rfl, hfin⟩⟩, ⟨by rw [ht]; exact hP, va_K.moved hW.alike hK, hD⟩, by rw [ht]; exact hq⟩, hS.F ht⟩) hS.2.2 d_Mo_comparison_130
          · refine lv_aload_n hx hb d_Mo_comparison_70 rfl (lv_at hl 0 rfl) ?_
            have hPc := hP.sub (ws' := [(mo, .inr (13, MF 30 (rf (rs v Q o) i br))), (qx, .inl (cB, NN, .inl f))]) [0, 1] rfl
            have hDc := hD.sub (ws' := [(mo, .inr (13, MF 30 (rf (rs v Q o) i br))), (qx, .inl (cB, NN, .inl f))]) [0, 1] (by decide) rfl
            have hKc := hK.sub (tys' := [(cB, .byte)]) [0] rfl
            have hFc := va_free (wc := [(mo, .inr (13, MF 30 (rf (rs v Q o) i br))), (qx, .inl (cB, NN, .inl f))]) hD hS hA [0, 1] rfl
            refine va_calli (va_runV (As := []) (rest := []) ⟨hx, hb, hml, hown, hts⟩ (c_Mo_c l dC dI mo H (rf (rs v Q o) i br) cB qx NN f n i (by omega) (by omega) (by omega) ((rf_ne (by decide) (by decide)).trans ((rs_ne (by decide) (by decide) (by decide) (by decide)).trans h6)) rf_7 ((rf_ne (by decide) (by decide)).trans ((rs_ne (by decide) (by decide) (by decide) (by decide)).trans h8))) (cwV 0 hts (gt_V (own := R_Mo) (C := R_Mo) (i := 147) (y := y_Mo_c) i_Mo_c w_1233 w_1235 (gt_sel (y := y_Mo_c) (n := 30) (by decide +kernel)) w_7) rfl rfl rfl (by decide +kernel) ⟨Nat.le_trans (m := 12) (Nat.le_of_ble_eq_true rfl) (Nat.le_add_right 12 (15 + G)), Nat.le_trans (m := 440) (Nat.le_of_ble_eq_true rfl) (Nat.le_add_right 440 (600 + M))⟩) ⟨mp_blind, va_recv hKc hPc (ci := 13) (q0 := 0) rfl rfl, fun U hU hW => ⟨rfl, hU, by rw [hU]; exact hPc, va_K.moved hW.alike hKc, hDc.weaken (fun _ _ _ _ => trivial)⟩⟩ rfl rfl hl.1 rfl (lv_room (Nat.le_of_ble_eq_true rfl)) d_Mo_comparison_71 ⟨hfit_QV.1, hfit_QV.2⟩) hS (fun q _ h => hFc q h) hFc (fun r5 _u t9 H1 locs ht hvm hw hB hz1 hk1 hS => ?_)
            obtain ⟨hP1, hK1, hD1⟩ := hB
            rw [ht] at hP1
            obtain ⟨hP, hD⟩ := va_join (wr := [(Q.qq, .inl (cI, (8 * Q.C), .inl Q.qf)), (Q.qe, .inl (cL, (3 * Q.C), .inr (.inl Q.ef))), (tv, .inr (12, MF 13 (tw V))), (V.au, .inl (cC, V.U, .inl V.un))]) (w1 := [(mo, .inr (13, MF 30 (rf (rs v Q o) i br))), (qx, .inl (cB, NN, .inl f))]) hP hD [0, 1] [2, 3, 4, 5] rfl rfl (by decide) (by decide) hk1 hFc hP1 hD1
            generalize H1 = H at hP hS ⊢
            have hP : va_P (dC, dI) classes [(Q.qq, .inl (cI, (8 * Q.C), .inl Q.qf)), (Q.qe, .inl (cL, (3 * Q.C), .inr (.inl Q.ef))), (tv, .inr (12, MF 13 (tw V))), (V.au, .inl (cC, V.U, .inl V.un)), (mo, .inr (13, MF 30 (rf (rs v Q o) i br))), (qx, .inl (cB, NN, .inl f))] H := hP
            have hD : va_D A [(Q.qq, .inl (cI, (8 * Q.C), .inl Q.qf)), (Q.qe, .inl (cL, (3 * Q.C), .inr (.inl Q.ef))), (tv, .inr (12, MF 13 (tw V))), (V.au, .inl (cC, V.U, .inl V.un)), (mo, .inr (13, MF 30 (rf (rs v Q o) i br))), (qx, .inl (cB, NN, .inl f))] := hD
            have hP := hP.sub (ws' := [(mo, .inr (13, MF 30 (rf (rs v Q o) i br))), (qx, .inl (cB, NN, .inl f)), (Q.qq, .inl (cI, (8 * Q.C), .inl Q.qf)), (Q.qe, .inl (cL, (3 * Q.C), .inr (.inl Q.ef))), (tv, .inr (12, MF 13 (tw V))), (V.au, .inl (cC, V.U, .inl V.un))]) [4, 5, 0, 1, 2, 3] rfl
            have hD := hD.sub (ws' := [(mo, .inr (13, MF 30 (rf (rs v Q o) i br))), (qx, .inl (cB, NN, .inl f)), (Q.qq, .inl (cI, (8 * Q.C), .inl Q.qf)), (Q.qe, .inl (cL, (3 * Q.C), .inr (.inl Q.ef))), (tv, .inr (12, MF 13 (tw V))), (V.au, .inl (cC, V.U, .inl V.un))]) [4, 5, 0, 1, 2, 3] (by decide) rfl
            have h_r5 : r5 = hereV f n i := hw
            refine lv_bipush (v := 60) hx hb d_Mo_comparison_74 (by decide) ?_
            refine lv_icmp_ne (tgt := 83) hx hb d_Mo_comparison_76 (by decide) (fun c76 => ?_) (fun c76 => ?_)
            · refine lv_iconst (v := 4) hx hb d_Mo_comparison_83 (by decide) ?_
              refine lv_istore_n (lv' := [(2, .int 4), (0, .ref mo), (1, .int (nI x0))]) hx hb d_Mo_comparison_84 rfl hl (by decide) rfl (fun ls hl => ?_)
              refine lv_aload_n hx hb d_Mo_comparison_85 rfl (lv_at hl 1 rfl) ?_
              refine lv_dup hx hb d_Mo_comparison_86 rfl ?_
              refine va_get (D := (dC, dI)) (ci := 13) (v := .int (nI i)) (C := R_Mo) (T := F_Mo) (N := 30) hx hb hts in_Mo hown hK hP 0 rfl rfl 7 (by decide) (hts _ w_1096) (fun _ h9 => h9) (MFg (by decide) rf_7) d_Mo_comparison_87 ?_
              refine lv_iconst (v := 1) hx hb d_Mo_comparison_90 (by decide) ?_
              refine lv_iadd hx hb d_Mo_comparison_91 ?_
              have hlt0 : i < n := here_in (h_r4.symm.trans c67) (by decide)
              refine W.eq (g2 := F0 m 92 ls [.int (nI (i + 1)), .ref mo]) (by rw [show ((nI i) + 1) = (nI (i + 1)) from nI_1 _]) ?_
              refine va_put (D := (dC, dI)) (ci := 13) (v := .int (nI (i + 1))) (ty := .int) (C := R_Mo) (T := F_Mo) (N := 30) hx hb hts in_Mo t_Mo t_Mo_ok n_Mo hown hK hP hD hS 0 rfl rfl 7 (by decide) (hts _ w_1096) (fun _ h9 => h9) rfl (by decide +kernel) rfl rfl (by rw [MFl]; decide) d_Mo_comparison_92 (fun H locs hP hD hS => ?_)
              rw [MFs (n := 30) (k := 7) (by decide)] at hP hD
              have hP : va_P (dC, dI) classes [(mo, .inr (13, MF 30 (va_up (rf (rs v Q o) i br) 7 (.int (nI (i + 1)))))), (qx, .inl (cB, NN, .inl f)), (Q.qq, .inl (cI, (8 * Q.C), .inl Q.qf)), (Q.qe, .inl (cL, (3 * Q.C), .inr (.inl Q.ef))), (tv, .inr (12, MF 13 (tw V))), (V.au, .inl (cC, V.U, .inl V.un))] H := hP
              have hD : va_D A [(mo, .inr (13, MF 30 (va_up (rf (rs v Q o) i br) 7 (.int (nI (i + 1)))))), (qx, .inl (cB, NN, .inl f)), (Q.qq, .inl (cI, (8 * Q.C), .inl Q.qf)), (Q.qe, .inl (cL, (3 * Q.C), .inr (.inl Q.ef))), (tv, .inr (12, MF 13 (tw V))), (V.au, .inl (cC, V.U, .inl V.un))] := hD
              rw [rf_u7] at hP hD
              have hP : va_P (dC, dI) classes [(mo, .inr (13, MF 30 (rf (rs v Q o) (i + 1) br))), (qx, .inl (cB, NN, .inl f)), (Q.qq, .inl (cI, (8 * Q.C), .inl Q.qf)), (Q.qe, .inl (cL, (3 * Q.C), .inr (.inl Q.ef))), (tv, .inr (12, MF 13 (tw V))), (V.au, .inl (cC, V.U, .inl V.un))] H := hP
              have hD : va_D A [(mo, .inr (13, MF 30 (rf (rs v Q o) (i + 1) br))), (qx, .inl (cB, NN, .inl f)), (Q.qq, .inl (cI, (8 * Q.C), .inl Q.qf)), (Q.qe, .inl (cL, (3 * Q.C), .inr (.inl Q.ef))), (tv, .inr (12, MF 13 (tw V))), (V.au, .inl (cC, V.U, .inl V.un))] := hD
              refine lv_aload_n hx hb d_Mo_comparison_95 rfl (lv_at hl 1 rfl) ?_
              have hPc := hP.sub (ws' := [(mo, .inr (13, MF 30 (rf (rs v Q o) (i + 1) br))), (qx, .inl (cB, NN, .inl f))]) [0, 1] rfl
              have hDc := hD.sub (ws' := [(mo, .inr (13, MF 30 (rf (rs v Q o) (i + 1) br))), (qx, .inl (cB, NN, .inl f))]) [0, 1] (by decide) rfl
              have hKc := hK.sub (tys' := [(cB, .byte)]) [0] rfl
              have hFc := va_free (wc := [(mo, .inr (13, MF 30 (rf (rs v Q o) (i + 1) br))), (qx, .inl (cB, NN, .inl f))]) hD hS hA [0, 1] rfl
              refine va_calli (va_runV (As := []) (rest := []) ⟨hx, hb, hml, hown, hts⟩ (c_Mo_c l dC dI mo H (rf (rs v Q o) (i + 1) br) cB qx NN f n (i + 1) (by omega) (by omega) (by omega) ((rf_ne (by decide) (by decide)).trans ((rs_ne (by decide) (by decide) (by decide) (by decide)).trans h6)) rf_7 ((rf_ne (by decide) (by decide)).trans ((rs_ne (by decide) (by decide) (by decide) (by decide)).trans h8))) (cwV 0 hts (gt_V (own := R_Mo) (C := R_Mo) (i := 147) (y := y_Mo_c) i_Mo_c w_1233 w_1235 (gt_sel (y := y_Mo_c) (n := 30) (by decide +kernel)) w_7) rfl rfl rfl (by decide +kernel) ⟨Nat.le_trans (m := 12) (Nat.le_of_ble_eq_true rfl) (Nat.le_add_right 12 (15 + G)), Nat.le_trans (m := 440) (Nat.le_of_ble_eq_true rfl) (Nat.le_add_right 440 (600 + M))⟩) ⟨mp_blind, va_recv hKc hPc (ci := 13) (q0 := 0) rfl rfl, fun U hU hW => ⟨rfl, hU, by rw [hU]; exact hPc, va_K.moved hW.alike hKc, hDc.weaken (fun _ _ _ _ => trivial)⟩⟩ rfl rfl hl.1 rfl (lv_room (Nat.le_of_ble_eq_true rfl)) d_Mo_comparison_96 ⟨hfit_QV.1, hfit_QV.2⟩) hS (fun q _ h => hFc q h) hFc (fun r6 _u t9 H1 locs ht hvm hw hB hz1 hk1 hS => ?_)
              obtain ⟨hP1, hK1, hD1⟩ := hB
              rw [ht] at hP1
              obtain ⟨hP, hD⟩ := va_join (wr := [(Q.qq, .inl (cI, (8 * Q.C), .inl Q.qf)), (Q.qe, .inl (cL, (3 * Q.C), .inr (.inl Q.ef))), (tv, .inr (12, MF 13 (tw V))), (V.au, .inl (cC, V.U, .inl V.un))]) (w1 := [(mo, .inr (13, MF 30 (rf (rs v Q o) (i + 1) br))), (qx, .inl (cB, NN, .inl f))]) hP hD [0, 1] [2, 3, 4, 5] rfl rfl (by decide) (by decide) hk1 hFc hP1 hD1
              generalize H1 = H at hP hS ⊢
              have hP : va_P (dC, dI) classes [(Q.qq, .inl (cI, (8 * Q.C), .inl Q.qf)), (Q.qe, .inl (cL, (3 * Q.C), .inr (.inl Q.ef))), (tv, .inr (12, MF 13 (tw V))), (V.au, .inl (cC, V.U, .inl V.un)), (mo, .inr (13, MF 30 (rf (rs v Q o) (i + 1) br))), (qx, .inl (cB, NN, .inl f))] H := hP
              have hD : va_D A [(Q.qq, .inl (cI, (8 * Q.C), .inl Q.qf)), (Q.qe, .inl (cL, (3 * Q.C), .inr (.inl Q.ef))), (tv, .inr (12, MF 13 (tw V))), (V.au, .inl (cC, V.U, .inl V.un)), (mo, .inr (13, MF 30 (rf (rs v Q o) (i + 1) br))), (qx, .inl (cB, NN, .inl f))] := hD
              have hP := hP.sub (ws' := [(mo, .inr (13, MF 30 (rf (rs v Q o) (i + 1) br))), (qx, .inl (cB, NN, .inl f)), (Q.qq, .inl (cI, (8 * Q.C), .inl Q.qf)), (Q.qe, .inl (cL, (3 * Q.C), .inr (.inl Q.ef))), (tv, .inr (12, MF 13 (tw V))), (V.au, .inl (cC, V.U, .inl V.un))]) [4, 5, 0, 1, 2, 3] rfl
              have hD := hD.sub (ws' := [(mo, .inr (13, MF 30 (rf (rs v Q o) (i + 1) br))), (qx, .inl (cB, NN, .inl f)), (Q.qq, .inl (cI, (8 * Q.C), .inl Q.qf)), (Q.qe, .inl (cL, (3 * Q.C), .inr (.inl Q.ef))), (tv, .inr (12, MF 13 (tw V))), (V.au, .inl (cC, V.U, .inl V.un))]) [4, 5, 0, 1, 2, 3] (by decide) rfl
              have h_r6 : r6 = hereV f n (i + 1) := hw
              refine lv_bipush (v := 61) hx hb d_Mo_comparison_99 (by decide) ?_
              refine lv_icmp_ne (tgt := 131) hx hb d_Mo_comparison_101 (by decide) (fun c101 => ?_) (fun c101 => ?_)
              · have hl : lv_has ls 5 [(2, .int (nI 4)), (0, .ref mo), (1, .int (nI x0))] := hl
                exact jn131 ((i + 1), br, 4) _ _ _ ⟨by show i + 1 ≤ (i + 1); omega, by show (i + 1) ≤ n; omega, by show 4 ≤ 5; decide, cpP_4g (fun h => c6 (h_r1.trans h)) (fun h => c32 (h_r2.trans h)) (h_r4.symm.trans c67) (fun h => c101 (h_r6.trans h))⟩ hP hD hS (lv_sub hl [1, 2, 0] rfl)
              · refine lv_aload_n hx hb d_Mo_comparison_104 rfl (lv_at hl 1 rfl) ?_
                refine lv_dup hx hb d_Mo_comparison_105 rfl ?_
                refine va_get (D := (dC, dI)) (ci := 13) (v := .int (nI (i + 1))) (C := R_Mo) (T := F_Mo) (N := 30) hx hb hts in_Mo hown hK hP 0 rfl rfl 7 (by decide) (hts _ w_1096) (fun _ h9 => h9) (MFg (by decide) rf_7) d_Mo_comparison_106 ?_
                refine lv_iconst (v := 1) hx hb d_Mo_comparison_109 (by decide) ?_
                refine lv_iadd hx hb d_Mo_comparison_110 ?_
                have hlt5 := here_in (h_r6.symm.trans c101) (by decide)
                refine W.eq (g2 := F0 m 111 ls [.int (nI ((i + 1) + 1)), .ref mo]) (by rw [show ((nI (i + 1)) + 1) = (nI ((i + 1) + 1)) from nI_1 _]) ?_
                refine va_put (D := (dC, dI)) (ci := 13) (v := .int (nI ((i + 1) + 1))) (ty := .int) (C := R_Mo) (T := F_Mo) (N := 30) hx hb hts in_Mo t_Mo t_Mo_ok n_Mo hown hK hP hD hS 0 rfl rfl 7 (by decide) (hts _ w_1096) (fun _ h9 => h9) rfl (by decide +kernel) rfl rfl (by rw [MFl]; decide) d_Mo_comparison_111 (fun H locs hP hD hS => ?_)
                rw [MFs (n := 30) (k := 7) (by decide)] at hP hD
                have hP : va_P (dC, dI) classes [(mo, .inr (13, MF 30 (va_up (rf (rs v Q o) (i + 1) br) 7 (.int (nI ((i + 1) + 1)))))), (qx, .inl (cB, NN, .inl f)), (Q.qq, .inl (cI, (8 * Q.C), .inl Q.qf)), (Q.qe, .inl (cL, (3 * Q.C), .inr (.inl Q.ef))), (tv, .inr (12, MF 13 (tw V))), (V.au, .inl (cC, V.U, .inl V.un))] H := hP
                have hD : va_D A [(mo, .inr (13, MF 30 (va_up (rf (rs v Q o) (i + 1) br) 7 (.int (nI ((i + 1) + 1)))))), (qx, .inl (cB, NN, .inl f)), (Q.qq, .inl (cI, (8 * Q.C), .inl Q.qf)), (Q.qe, .inl (cL, (3 * Q.C), .inr (.inl Q.ef))), (tv, .inr (12, MF 13 (tw V))), (V.au, .inl (cC, V.U, .inl V.un))] := hD
                rw [rf_u7] at hP hD
                have hP : va_P (dC, dI) classes [(mo, .inr (13, MF 30 (rf (rs v Q o) ((i + 1) + 1) br))), (qx, .inl (cB, NN, .inl f)), (Q.qq, .inl (cI, (8 * Q.C), .inl Q.qf)), (Q.qe, .inl (cL, (3 * Q.C), .inr (.inl Q.ef))), (tv, .inr (12, MF 13 (tw V))), (V.au, .inl (cC, V.U, .inl V.un))] H := hP
                have hD : va_D A [(mo, .inr (13, MF 30 (rf (rs v Q o) ((i + 1) + 1) br))), (qx, .inl (cB, NN, .inl f)), (Q.qq, .inl (cI, (8 * Q.C), .inl Q.qf)), (Q.qe, .inl (cL, (3 * Q.C), .inr (.inl Q.ef))), (tv, .inr (12, MF 13 (tw V))), (V.au, .inl (cC, V.U, .inl V.un))] := hD
                refine lv_iinc (v := 5) (lv' := [(2, .int 5), (0, .ref mo), (1, .int (nI x0))]) hx hb d_Mo_comparison_114 hl (k := 0) rfl (by decide) (by decide) rfl (fun ls hl => ?_)
                refine lv_goto (tgt := 131) hx hb d_Mo_comparison_117 (by decide) ?_
                have hlt6 := here_in (h_r6.symm.trans c101) (by decide)
                have hl : lv_has ls 5 [(2, .int (nI 5)), (0, .ref mo), (1, .int (nI x0))] := hl
                exact jn131 (((i + 1) + 1), br, 5) _ _ _ ⟨by show i + 1 ≤ ((i + 1) + 1); omega, by show ((i + 1) + 1) ≤ n; omega, by show 5 ≤ 5; decide, cpP_3g (fun h => c6 (h_r1.trans h)) (fun h => c32 (h_r2.trans h)) (h_r4.symm.trans c67) (h_r6.symm.trans c101)⟩ hP hD hS (lv_sub hl [1, 2, 0] rfl)
            · refine lv_iconst (v := 2) hx hb d_Mo_comparison_79 (by decide) ?_
              refine lv_goto (tgt := 84) hx hb d_Mo_comparison_80 (by decide) ?_
              refine lv_istore_n (lv' := [(2, .int 2), (0, .ref mo), (1, .int (nI x0))]) hx hb d_Mo_comparison_84 rfl hl (by decide) rfl (fun ls hl => ?_)
              refine lv_aload_n hx hb d_Mo_comparison_85 rfl (lv_at hl 1 rfl) ?_
              refine lv_dup hx hb d_Mo_comparison_86 rfl ?_
              refine va_get (D := (dC, dI)) (ci := 13) (v := .int (nI i)) (C := R_Mo) (T := F_Mo) (N := 30) hx hb hts in_Mo hown hK hP 0 rfl rfl 7 (by decide) (hts _ w_1096) (fun _ h9 => h9) (MFg (by decide) rf_7) d_Mo_comparison_87 ?_
              refine lv_iconst (v := 1) hx hb d_Mo_comparison_90 (by decide) ?_
              refine lv_iadd hx hb d_Mo_comparison_91 ?_
              have hlt0 : i < n := here_in (h_r4.symm.trans c67) (by decide)
              refine W.eq (g2 := F0 m 92 ls [.int (nI (i + 1)), .ref mo]) (by rw [show ((nI i) + 1) = (nI (i + 1)) from nI_1 _]) ?_
              refine va_put (D := (dC, dI)) (ci := 13) (v := .int (nI (i + 1))) (ty := .int) (C := R_Mo) (T := F_Mo) (N := 30) hx hb hts in_Mo t_Mo t_Mo_ok n_Mo hown hK hP hD hS 0 rfl rfl 7 (by decide) (hts _ w_1096) (fun _ h9 => h9) rfl (by decide +kernel) rfl rfl (by rw [MFl]; decide) d_Mo_comparison_92 (fun H locs hP hD hS => ?_)
              rw [MFs (n := 30) (k := 7) (by decide)] at hP hD
              have hP : va_P (dC, dI) classes [(mo, .inr (13, MF 30 (va_up (rf (rs v Q o) i br) 7 (.int (nI (i + 1)))))), (qx, .inl (cB, NN, .inl f)), (Q.qq, .inl (cI, (8 * Q.C), .inl Q.qf)), (Q.qe, .inl (cL, (3 * Q.C), .inr (.inl Q.ef))), (tv, .inr (12, MF 13 (tw V))), (V.au, .inl (cC, V.U, .inl V.un))] H := hP
              have hD : va_D A [(mo, .inr (13, MF 30 (va_up (rf (rs v Q o) i br) 7 (.int (nI (i + 1)))))), (qx, .inl (cB, NN, .inl f)), (Q.qq, .inl (cI, (8 * Q.C), .inl Q.qf)), (Q.qe, .inl (cL, (3 * Q.C), .inr (.inl Q.ef))), (tv, .inr (12, MF 13 (tw V))), (V.au, .inl (cC, V.U, .inl V.un))] := hD
              rw [rf_u7] at hP hD
              have hP : va_P (dC, dI) classes [(mo, .inr (13, MF 30 (rf (rs v Q o) (i + 1) br))), (qx, .inl (cB, NN, .inl f)), (Q.qq, .inl (cI, (8 * Q.C), .inl Q.qf)), (Q.qe, .inl (cL, (3 * Q.C), .inr (.inl Q.ef))), (tv, .inr (12, MF 13 (tw V))), (V.au, .inl (cC, V.U, .inl V.un))] H := hP
              have hD : va_D A [(mo, .inr (13, MF 30 (rf (rs v Q o) (i + 1) br))), (qx, .inl (cB, NN, .inl f)), (Q.qq, .inl (cI, (8 * Q.C), .inl Q.qf)), (Q.qe, .inl (cL, (3 * Q.C), .inr (.inl Q.ef))), (tv, .inr (12, MF 13 (tw V))), (V.au, .inl (cC, V.U, .inl V.un))] := hD
              refine lv_aload_n hx hb d_Mo_comparison_95 rfl (lv_at hl 1 rfl) ?_
              have hPc := hP.sub (ws' := [(mo, .inr (13, MF 30 (rf (rs v Q o) (i + 1) br))), (qx, .inl (cB, NN, .inl f))]) [0, 1] rfl
              have hDc := hD.sub (ws' := [(mo, .inr (13, MF 30 (rf (rs v Q o) (i + 1) br))), (qx, .inl (cB, NN, .inl f))]) [0, 1] (by decide) rfl
              have hKc := hK.sub (tys' := [(cB, .byte)]) [0] rfl
              have hFc := va_free (wc := [(mo, .inr (13, MF 30 (rf (rs v Q o) (i + 1) br))), (qx, .inl (cB, NN, .inl f))]) hD hS hA [0, 1] rfl
              refine va_calli (va_runV (As := []) (rest := []) ⟨hx, hb, hml, hown, hts⟩ (c_Mo_c l dC dI mo H (rf (rs v Q o) (i + 1) br) cB qx NN f n (i + 1) (by omega) (by omega) (by omega) ((rf_ne (by decide) (by decide)).trans ((rs_ne (by decide) (by decide) (by decide) (by decide)).trans h6)) rf_7 ((rf_ne (by decide) (by decide)).trans ((rs_ne (by decide) (by decide) (by decide) (by decide)).trans h8))) (cwV 0 hts (gt_V (own := R_Mo) (C := R_Mo) (i := 147) (y := y_Mo_c) i_Mo_c w_1233 w_1235 (gt_sel (y := y_Mo_c) (n := 30) (by decide +kernel)) w_7) rfl rfl rfl (by decide +kernel) ⟨Nat.le_trans (m := 12) (Nat.le_of_ble_eq_true rfl) (Nat.le_add_right 12 (15 + G)), Nat.le_trans (m := 440) (Nat.le_of_ble_eq_true rfl) (Nat.le_add_right 440 (600 + M))⟩) ⟨mp_blind, va_recv hKc hPc (ci := 13) (q0 := 0) rfl rfl, fun U hU hW => ⟨rfl, hU, by rw [hU]; exact hPc, va_K.moved hW.alike hKc, hDc.weaken (fun _ _ _ _ => trivial)⟩⟩ rfl rfl hl.1 rfl (lv_room (Nat.le_of_ble_eq_true rfl)) d_Mo_comparison_96 ⟨hfit_QV.1, hfit_QV.2⟩) hS (fun q _ h => hFc q h) hFc (fun r6 _u t9 H1 locs ht hvm hw hB hz1 hk1 hS => ?_)
              obtain ⟨hP1, hK1, hD1⟩ := hB
              rw [ht] at hP1
              obtain ⟨hP, hD⟩ := va_join (wr := [(Q.qq, .inl (cI, (8 * Q.C), .inl Q.qf)), (Q.qe, .inl (cL, (3 * Q.C), .inr (.inl Q.ef))), (tv, .inr (12, MF 13 (tw V))), (V.au, .inl (cC, V.U, .inl V.un))]) (w1 := [(mo, .inr (13, MF 30 (rf (rs v Q o) (i + 1) br))), (qx, .inl (cB, NN, .inl f))]) hP hD [0, 1] [2, 3, 4, 5] rfl rfl (by decide) (by decide) hk1 hFc hP1 hD1
              generalize H1 = H at hP hS ⊢
              have hP : va_P (dC, dI) classes [(Q.qq, .inl (cI, (8 * Q.C), .inl Q.qf)), (Q.qe, .inl (cL, (3 * Q.C), .inr (.inl Q.ef))), (tv, .inr (12, MF 13 (tw V))), (V.au, .inl (cC, V.U, .inl V.un)), (mo, .inr (13, MF 30 (rf (rs v Q o) (i + 1) br))), (qx, .inl (cB, NN, .inl f))] H := hP
              have hD : va_D A [(Q.qq, .inl (cI, (8 * Q.C), .inl Q.qf)), (Q.qe, .inl (cL, (3 * Q.C), .inr (.inl Q.ef))), (tv, .inr (12, MF 13 (tw V))), (V.au, .inl (cC, V.U, .inl V.un)), (mo, .inr (13, MF 30 (rf (rs v Q o) (i + 1) br))), (qx, .inl (cB, NN, .inl f))] := hD
              have hP := hP.sub (ws' := [(mo, .inr (13, MF 30 (rf (rs v Q o) (i + 1) br))), (qx, .inl (cB, NN, .inl f)), (Q.qq, .inl (cI, (8 * Q.C), .inl Q.qf)), (Q.qe, .inl (cL, (3 * Q.C), .inr (.inl Q.ef))), (tv, .inr (12, MF 13 (tw V))), (V.au, .inl (cC, V.U, .inl V.un))]) [4, 5, 0, 1, 2, 3] rfl
              have hD := hD.sub (ws' := [(mo, .inr (13, MF 30 (rf (rs v Q o) (i + 1) br))), (qx, .inl (cB, NN, .inl f)), (Q.qq, .inl (cI, (8 * Q.C), .inl Q.qf)), (Q.qe, .inl (cL, (3 * Q.C), .inr (.inl Q.ef))), (tv, .inr (12, MF 13 (tw V))), (V.au, .inl (cC, V.U, .inl V.un))]) [4, 5, 0, 1, 2, 3] (by decide) rfl
              have h_r6 : r6 = hereV f n (i + 1) := hw
              refine lv_bipush (v := 61) hx hb d_Mo_comparison_99 (by decide) ?_
              refine lv_icmp_ne (tgt := 131) hx hb d_Mo_comparison_101 (by decide) (fun c101 => ?_) (fun c101 => ?_)
              · exact absurd (c76.symm.trans (h_r5.trans (h_r4.symm.trans c67))) (by decide)
              · refine lv_aload_n hx hb d_Mo_comparison_104 rfl (lv_at hl 1 rfl) ?_
                refine lv_dup hx hb d_Mo_comparison_105 rfl ?_
                refine va_get (D := (dC, dI)) (ci := 13) (v := .int (nI (i + 1))) (C := R_Mo) (T := F_Mo) (N := 30) hx hb hts in_Mo hown hK hP 0 rfl rfl 7 (by decide) (hts _ w_1096) (fun _ h9 => h9) (MFg (by decide) rf_7) d_Mo_comparison_106 ?_
                refine lv_iconst (v := 1) hx hb d_Mo_comparison_109 (by decide) ?_
                refine lv_iadd hx hb d_Mo_comparison_110 ?_
                have hlt5 := here_in (h_r6.symm.trans c101) (by decide)
                refine W.eq (g2 := F0 m 111 ls [.int (nI ((i + 1) + 1)), .ref mo]) (by rw [show ((nI (i + 1)) + 1) = (nI ((i + 1) + 1)) from nI_1 _]) ?_
                refine va_put (D := (dC, dI)) (ci := 13) (v := .int (nI ((i + 1) + 1))) (ty := .int) (C := R_Mo) (T := F_Mo) (N := 30) hx hb hts in_Mo t_Mo t_Mo_ok n_Mo hown hK hP hD hS 0 rfl rfl 7 (by decide) (hts _ w_1096) (fun _ h9 => h9) rfl (by decide +kernel) rfl rfl (by rw [MFl]; decide) d_Mo_comparison_111 (fun H locs hP hD hS => ?_)
                rw [MFs (n := 30) (k := 7) (by decide)] at hP hD
                have hP : va_P (dC, dI) classes [(mo, .inr (13, MF 30 (va_up (rf (rs v Q o) (i + 1) br) 7 (.int (nI ((i + 1) + 1)))))), (qx, .inl (cB, NN, .inl f)), (Q.qq, .inl (cI, (8 * Q.C), .inl Q.qf)), (Q.qe, .inl (cL, (3 * Q.C), .inr (.inl Q.ef))), (tv, .inr (12, MF 13 (tw V))), (V.au, .inl (cC, V.U, .inl V.un))] H := hP
                have hD : va_D A [(mo, .inr (13, MF 30 (va_up (rf (rs v Q o) (i + 1) br) 7 (.int (nI ((i + 1) + 1)))))), (qx, .inl (cB, NN, .inl f)), (Q.qq, .inl (cI, (8 * Q.C), .inl Q.qf)), (Q.qe, .inl (cL, (3 * Q.C), .inr (.inl Q.ef))), (tv, .inr (12, MF 13 (tw V))), (V.au, .inl (cC, V.U, .inl V.un))] := hD
                rw [rf_u7] at hP hD
                have hP : va_P (dC, dI) classes [(mo, .inr (13, MF 30 (rf (rs v Q o) ((i + 1) + 1) br))), (qx, .inl (cB, NN, .inl f)), (Q.qq, .inl (cI, (8 * Q.C), .inl Q.qf)), (Q.qe, .inl (cL, (3 * Q.C), .inr (.inl Q.ef))), (tv, .inr (12, MF 13 (tw V))), (V.au, .inl (cC, V.U, .inl V.un))] H := hP
                have hD : va_D A [(mo, .inr (13, MF 30 (rf (rs v Q o) ((i + 1) + 1) br))), (qx, .inl (cB, NN, .inl f)), (Q.qq, .inl (cI, (8 * Q.C), .inl Q.qf)), (Q.qe, .inl (cL, (3 * Q.C), .inr (.inl Q.ef))), (tv, .inr (12, MF 13 (tw V))), (V.au, .inl (cC, V.U, .inl V.un))] := hD
                refine lv_iinc (v := 3) (lv' := [(2, .int 3), (0, .ref mo), (1, .int (nI x0))]) hx hb d_Mo_comparison_114 hl (k := 0) rfl (by decide) (by decide) rfl (fun ls hl => ?_)
                refine lv_goto (tgt := 131) hx hb d_Mo_comparison_117 (by decide) ?_
                exact absurd (c76.symm.trans (h_r5.trans (h_r4.symm.trans c67))) (by decide)
      · refine lv_aload_n hx hb d_Mo_comparison_35 rfl (lv_at hl 0 rfl) ?_
        refine va_ldcwS hx hb hown (hM 10 _ rfl).2 d_Mo_comparison_36 ?_
        have hE := (hM 10 _ rfl).1
        have hPc := hP.sub (ws' := [(mo, .inr (13, MF 30 (rf (rs v Q o) i br))), (qx, .inl (cB, NN, .inl f))]) [0, 1] rfl
        have hDc := hD.sub (ws' := [(mo, .inr (13, MF 30 (rf (rs v Q o) i br))), (qx, .inl (cB, NN, .inl f))]) [0, 1] (by decide) rfl
        have hKc := hK.sub (tys' := [(cB, .byte)]) [0] rfl
        have hFc := va_free (wc := [(mo, .inr (13, MF 30 (rf (rs v Q o) i br))), (qx, .inl (cB, NN, .inl f))]) hD hS hA [0, 1] rfl
        refine va_calli (va_runV (As := [.ref (K 10).1]) (rest := []) ⟨hx, hb, hml, hown, hts⟩ (c_Mo_wordS l dC dI mo H (rf (rs v Q o) i br) cB qx NN f (K 10).1 (K 10).2 2 (mtx 10) n i (by omega) (by omega) (by omega) ((rf_ne (by decide) (by decide)).trans ((rs_ne (by decide) (by decide) (by decide) (by decide)).trans h6)) rf_7 ((rf_ne (by decide) (by decide)).trans ((rs_ne (by decide) (by decide) (by decide) (by decide)).trans h8)) br rf_9 (by decide)) (cwV 1 hts (gt_V (own := R_Mo) (C := R_Mo) (i := 193) (y := y_Mo_wordS) i_Mo_wordS w_1240 w_1242 (gt_sel (y := y_Mo_wordS) (n := 30) (by decide +kernel)) w_7) rfl rfl rfl (by decide +kernel) ⟨Nat.le_trans (m := 12) (Nat.le_of_ble_eq_true rfl) (Nat.le_add_right 12 (15 + G)), Nat.le_trans (m := 440) (Nat.le_of_ble_eq_true rfl) (Nat.le_add_right 440 (600 + M))⟩) ⟨mstr_blind, va_recv hKc hPc (ci := 13) (q0 := 0) rfl rfl, fun U hU hW => ⟨rfl, ⟨hU, by rw [hU]; exact hPc, va_K.moved hW.alike hKc, hDc.weaken (fun _ _ _ _ => trivial)⟩, by rw [hU]; exact SX.moved' hW.alike (SX.narrow' (SX.kept' hE hS.2.1) hFc)⟩⟩ rfl rfl hl.1 rfl (lv_room (Nat.le_of_ble_eq_true rfl)) d_Mo_comparison_39 ⟨hfit_QV.1, hfit_QV.2⟩) hS (fun q _ h => hFc q h) hFc (fun r0 u2 t9 H1 locs ht hvm hw hB hz1 hk1 hS => ?_)
        obtain ⟨hP1, hK1, hD1⟩ := hB
        rw [ht] at hP1
        obtain ⟨hP, hD⟩ := va_join (wr := [(Q.qq, .inl (cI, (8 * Q.C), .inl Q.qf)), (Q.qe, .inl (cL, (3 * Q.C), .inr (.inl Q.ef))), (tv, .inr (12, MF 13 (tw V))), (V.au, .inl (cC, V.U, .inl V.un))]) (w1 := [(mo, .inr (13, MF 30 u2)), (qx, .inl (cB, NN, .inl f))]) hP hD [0, 1] [2, 3, 4, 5] rfl rfl (by decide) (by decide) hk1 hFc hP1 hD1
        generalize H1 = H at hP hS ⊢
        have hP : va_P (dC, dI) classes [(Q.qq, .inl (cI, (8 * Q.C), .inl Q.qf)), (Q.qe, .inl (cL, (3 * Q.C), .inr (.inl Q.ef))), (tv, .inr (12, MF 13 (tw V))), (V.au, .inl (cC, V.U, .inl V.un)), (mo, .inr (13, MF 30 u2)), (qx, .inl (cB, NN, .inl f))] H := hP
        have hD : va_D A [(Q.qq, .inl (cI, (8 * Q.C), .inl Q.qf)), (Q.qe, .inl (cL, (3 * Q.C), .inr (.inl Q.ef))), (tv, .inr (12, MF 13 (tw V))), (V.au, .inl (cC, V.U, .inl V.un)), (mo, .inr (13, MF 30 u2)), (qx, .inl (cB, NN, .inl f))] := hD
        have hP := hP.sub (ws' := [(mo, .inr (13, MF 30 u2)), (qx, .inl (cB, NN, .inl f)), (Q.qq, .inl (cI, (8 * Q.C), .inl Q.qf)), (Q.qe, .inl (cL, (3 * Q.C), .inr (.inl Q.ef))), (tv, .inr (12, MF 13 (tw V))), (V.au, .inl (cC, V.U, .inl V.un))]) [4, 5, 0, 1, 2, 3] rfl
        have hD := hD.sub (ws' := [(mo, .inr (13, MF 30 u2)), (qx, .inl (cB, NN, .inl f)), (Q.qq, .inl (cI, (8 * Q.C), .inl Q.qf)), (Q.qe, .inl (cL, (3 * Q.C), .inr (.inl Q.ef))), (tv, .inr (12, MF 13 (tw V))), (V.au, .inl (cC, V.U, .inl V.un))]) [4, 5, 0, 1, 2, 3] (by decide) rfl
        rcases hw with ⟨hwm, hw2, hw3⟩ | ⟨hwm, hw2, k9, hw3⟩
        · rw [rf_u7] at hw3
          rw [hw3] at hP hD
          subst hw2
          have hP : va_P (dC, dI) classes [(mo, .inr (13, MF 30 (rf (rs v Q o) (i + 2) br))), (qx, .inl (cB, NN, .inl f)), (Q.qq, .inl (cI, (8 * Q.C), .inl Q.qf)), (Q.qe, .inl (cL, (3 * Q.C), .inr (.inl Q.ef))), (tv, .inr (12, MF 13 (tw V))), (V.au, .inl (cC, V.U, .inl V.un))] H := hP
          have hD : va_D A [(mo, .inr (13, MF 30 (rf (rs v Q o) (i + 2) br))), (qx, .inl (cB, NN, .inl f)), (Q.qq, .inl (cI, (8 * Q.C), .inl Q.qf)), (Q.qe, .inl (cL, (3 * Q.C), .inr (.inl Q.ef))), (tv, .inr (12, MF 13 (tw V))), (V.au, .inl (cC, V.U, .inl V.un))] := hD
          have hwlt := mtch_le (k := 1) hwm (by decide)
          have hwb : mtB f n i (mtx 10) 2 = true := mtB_iff.mpr hwm
          refine lv_if_ne (tgt := 47) hx hb d_Mo_comparison_42 (by decide) (fun _ => ?_) (fun h => absurd h (by decide))
          refine lv_iconst (v := 1) hx hb d_Mo_comparison_47 (by decide) ?_
          refine lv_istore_n (lv' := [(2, .int 1), (0, .ref mo), (1, .int (nI x0))]) hx hb d_Mo_comparison_48 rfl hl (by decide) rfl (fun ls hl => ?_)
          refine lv_goto (tgt := 131) hx hb d_Mo_comparison_49 (by decide) ?_
          have hl : lv_has ls 5 [(2, .int (nI 1)), (0, .ref mo), (1, .int (nI x0))] := hl
          exact jn131 ((i + 2), br, 1) _ _ _ ⟨by show i + 1 ≤ (i + 2); omega, by show (i + 2) ≤ n; omega, by show 1 ≤ 5; decide, cpP_2 (fun h => c6 (h_r1.trans h)) (h_r2.symm.trans c32) hwb⟩ hP hD hS (lv_sub hl [1, 2, 0] rfl)
        · rw [rf_u7] at hw3
          obtain ⟨b4, h_b4⟩ := rf_fail (v := (rs v Q o)) (i := k9) (br := br) (b2 := br) (wh := nI k9)
          rw [h_b4] at hw3
          rw [hw3] at hP hD
          subst hw2
          have hP : va_P (dC, dI) classes [(mo, .inr (13, MF 30 (rf (rs v Q o) k9 b4))), (qx, .inl (cB, NN, .inl f)), (Q.qq, .inl (cI, (8 * Q.C), .inl Q.qf)), (Q.qe, .inl (cL, (3 * Q.C), .inr (.inl Q.ef))), (tv, .inr (12, MF 13 (tw V))), (V.au, .inl (cC, V.U, .inl V.un))] H := hP
          have hD : va_D A [(mo, .inr (13, MF 30 (rf (rs v Q o) k9 b4))), (qx, .inl (cB, NN, .inl f)), (Q.qq, .inl (cI, (8 * Q.C), .inl Q.qf)), (Q.qe, .inl (cL, (3 * Q.C), .inr (.inl Q.ef))), (tv, .inr (12, MF 13 (tw V))), (V.au, .inl (cC, V.U, .inl V.un))] := hD
          have hwb : ¬ mtB f n i (mtx 10) 2 = true := fun h => hwm (mtB_iff.mp h)
          refine lv_if_ne (tgt := 47) hx hb d_Mo_comparison_42 (by decide) (fun h => absurd h (by decide)) (fun _ => ?_)
          refine lv_iconst (v := (-1)) hx hb d_Mo_comparison_45 (by decide) ?_
          have hfin : cpP f n (cmP f n ok (orL f n) (cmL f n) (qyL f n)) xm i = none := cpP_2n (fun h => c6 (h_r1.trans h)) (h_r2.symm.trans c32) hwb
          refine w_same (fun hq => ?_)
          refine W.widen (k := kcap Q (Q.R + 8 * (n - i) + 1) + qcap V (V.us + (n + 12 - i))) (n := 22 * kcap Q (Q.R + 8 * (n - i) + 1) + 2 * qcap V (V.us + (n + 12 - i))) hfit_QV.1 hfit_QV.2 ?_
          have hPo : QPo n i 1 Q V (Q, V, k9, b4, o) := ⟨hQk_Q, hG_QV, ⟨[], TX.rf hTk_V, Nat.zero_le _⟩, by show Q.R ≤ Q.R; omega, by show Q.R ≤ Q.R + 8 * (n - i) + 1; omega⟩
          exact W.iret (v := -1) hx hb hr (fun t9 ht hW => ⟨⟨-1, (Q, V, k9, b4, o), rfl, ⟨hPo, Or.inr ⟨rfl, hfin⟩⟩, ⟨by rw [ht]; exact hP, va_K.moved hW.alike hK, hD⟩, by rw [ht]; exact hq⟩, hS.F ht⟩) hS.2.2 d_Mo_comparison_46
    · refine lv_aload_n hx hb d_Mo_comparison_9 rfl (lv_at hl 0 rfl) ?_
      refine va_ldcwS hx hb hown (hM 9 _ rfl).2 d_Mo_comparison_10 ?_
      have hE := (hM 9 _ rfl).1
      have hPc := hP.sub (ws' := [(mo, .inr (13, MF 30 (rf (rs v Q o) i br))), (qx, .inl (cB, NN, .inl f))]) [0, 1] rfl
      have hDc := hD.sub (ws' := [(mo, .inr (13, MF 30 (rf (rs v Q o) i br))), (qx, .inl (cB, NN, .inl f))]) [0, 1] (by decide) rfl
      have hKc := hK.sub (tys' := [(cB, .byte)]) [0] rfl
      have hFc := va_free (wc := [(mo, .inr (13, MF 30 (rf (rs v Q o) i br))), (qx, .inl (cB, NN, .inl f))]) hD hS hA [0, 1] rfl
      refine va_calli (va_runV (As := [.ref (K 9).1]) (rest := []) ⟨hx, hb, hml, hown, hts⟩ (c_Mo_wordS l dC dI mo H (rf (rs v Q o) i br) cB qx NN f (K 9).1 (K 9).2 2 (mtx 9) n i (by omega) (by omega) (by omega) ((rf_ne (by decide) (by decide)).trans ((rs_ne (by decide) (by decide) (by decide) (by decide)).trans h6)) rf_7 ((rf_ne (by decide) (by decide)).trans ((rs_ne (by decide) (by decide) (by decide) (by decide)).trans h8)) br rf_9 (by decide)) (cwV 1 hts (gt_V (own := R_Mo) (C := R_Mo) (i := 193) (y := y_Mo_wordS) i_Mo_wordS w_1240 w_1242 (gt_sel (y := y_Mo_wordS) (n := 30) (by decide +kernel)) w_7) rfl rfl rfl (by decide +kernel) ⟨Nat.le_trans (m := 12) (Nat.le_of_ble_eq_true rfl) (Nat.le_add_right 12 (15 + G)), Nat.le_trans (m := 440) (Nat.le_of_ble_eq_true rfl) (Nat.le_add_right 440 (600 + M))⟩) ⟨mstr_blind, va_recv hKc hPc (ci := 13) (q0 := 0) rfl rfl, fun U hU hW => ⟨rfl, ⟨hU, by rw [hU]; exact hPc, va_K.moved hW.alike hKc, hDc.weaken (fun _ _ _ _ => trivial)⟩, by rw [hU]; exact SX.moved' hW.alike (SX.narrow' (SX.kept' hE hS.2.1) hFc)⟩⟩ rfl rfl hl.1 rfl (lv_room (Nat.le_of_ble_eq_true rfl)) d_Mo_comparison_13 ⟨hfit_QV.1, hfit_QV.2⟩) hS (fun q _ h => hFc q h) hFc (fun r0 u2 t9 H1 locs ht hvm hw hB hz1 hk1 hS => ?_)
      obtain ⟨hP1, hK1, hD1⟩ := hB
      rw [ht] at hP1
      obtain ⟨hP, hD⟩ := va_join (wr := [(Q.qq, .inl (cI, (8 * Q.C), .inl Q.qf)), (Q.qe, .inl (cL, (3 * Q.C), .inr (.inl Q.ef))), (tv, .inr (12, MF 13 (tw V))), (V.au, .inl (cC, V.U, .inl V.un))]) (w1 := [(mo, .inr (13, MF 30 u2)), (qx, .inl (cB, NN, .inl f))]) hP hD [0, 1] [2, 3, 4, 5] rfl rfl (by decide) (by decide) hk1 hFc hP1 hD1
      generalize H1 = H at hP hS ⊢
      have hP : va_P (dC, dI) classes [(Q.qq, .inl (cI, (8 * Q.C), .inl Q.qf)), (Q.qe, .inl (cL, (3 * Q.C), .inr (.inl Q.ef))), (tv, .inr (12, MF 13 (tw V))), (V.au, .inl (cC, V.U, .inl V.un)), (mo, .inr (13, MF 30 u2)), (qx, .inl (cB, NN, .inl f))] H := hP
      have hD : va_D A [(Q.qq, .inl (cI, (8 * Q.C), .inl Q.qf)), (Q.qe, .inl (cL, (3 * Q.C), .inr (.inl Q.ef))), (tv, .inr (12, MF 13 (tw V))), (V.au, .inl (cC, V.U, .inl V.un)), (mo, .inr (13, MF 30 u2)), (qx, .inl (cB, NN, .inl f))] := hD
      have hP := hP.sub (ws' := [(mo, .inr (13, MF 30 u2)), (qx, .inl (cB, NN, .inl f)), (Q.qq, .inl (cI, (8 * Q.C), .inl Q.qf)), (Q.qe, .inl (cL, (3 * Q.C), .inr (.inl Q.ef))), (tv, .inr (12, MF 13 (tw V))), (V.au, .inl (cC, V.U, .inl V.un))]) [4, 5, 0, 1, 2, 3] rfl
      have hD := hD.sub (ws' := [(mo, .inr (13, MF 30 u2)), (qx, .inl (cB, NN, .inl f)), (Q.qq, .inl (cI, (8 * Q.C), .inl Q.qf)), (Q.qe, .inl (cL, (3 * Q.C), .inr (.inl Q.ef))), (tv, .inr (12, MF 13 (tw V))), (V.au, .inl (cC, V.U, .inl V.un))]) [4, 5, 0, 1, 2, 3] (by decide) rfl
      rcases hw with ⟨hwm, hw2, hw3⟩ | ⟨hwm, hw2, k9, hw3⟩
      · rw [rf_u7] at hw3
        rw [hw3] at hP hD
        subst hw2
        have hP : va_P (dC, dI) classes [(mo, .inr (13, MF 30 (rf (rs v Q o) (i + 2) br))), (qx, .inl (cB, NN, .inl f)), (Q.qq, .inl (cI, (8 * Q.C), .inl Q.qf)), (Q.qe, .inl (cL, (3 * Q.C), .inr (.inl Q.ef))), (tv, .inr (12, MF 13 (tw V))), (V.au, .inl (cC, V.U, .inl V.un))] H := hP
        have hD : va_D A [(mo, .inr (13, MF 30 (rf (rs v Q o) (i + 2) br))), (qx, .inl (cB, NN, .inl f)), (Q.qq, .inl (cI, (8 * Q.C), .inl Q.qf)), (Q.qe, .inl (cL, (3 * Q.C), .inr (.inl Q.ef))), (tv, .inr (12, MF 13 (tw V))), (V.au, .inl (cC, V.U, .inl V.un))] := hD
        have hwlt := mtch_le (k := 1) hwm (by decide)
        have hwb : mtB f n i (mtx 9) 2 = true := mtB_iff.mpr hwm
        refine lv_if_ne (tgt := 21) hx hb d_Mo_comparison_16 (by decide) (fun _ => ?_) (fun h => absurd h (by decide))
        refine lv_iconst (v := 0) hx hb d_Mo_comparison_21 (by decide) ?_
        refine lv_istore_n (lv' := [(2, .int 0), (0, .ref mo), (1, .int (nI x0))]) hx hb d_Mo_comparison_22 rfl hl (by decide) rfl (fun ls hl => ?_)
        refine lv_goto (tgt := 131) hx hb d_Mo_comparison_23 (by decide) ?_
        have hl : lv_has ls 5 [(2, .int (nI 0)), (0, .ref mo), (1, .int (nI x0))] := hl
        exact jn131 ((i + 2), br, 0) _ _ _ ⟨by show i + 1 ≤ (i + 2); omega, by show (i + 2) ≤ n; omega, by show 0 ≤ 5; decide, cpP_1 (h_r1.symm.trans c6) hwb⟩ hP hD hS (lv_sub hl [1, 2, 0] rfl)
      · rw [rf_u7] at hw3
        obtain ⟨b4, h_b4⟩ := rf_fail (v := (rs v Q o)) (i := k9) (br := br) (b2 := br) (wh := nI k9)
        rw [h_b4] at hw3
        rw [hw3] at hP hD
        subst hw2
        have hP : va_P (dC, dI) classes [(mo, .inr (13, MF 30 (rf (rs v Q o) k9 b4))), (qx, .inl (cB, NN, .inl f)), (Q.qq, .inl (cI, (8 * Q.C), .inl Q.qf)), (Q.qe, .inl (cL, (3 * Q.C), .inr (.inl Q.ef))), (tv, .inr (12, MF 13 (tw V))), (V.au, .inl (cC, V.U, .inl V.un))] H := hP
        have hD : va_D A [(mo, .inr (13, MF 30 (rf (rs v Q o) k9 b4))), (qx, .inl (cB, NN, .inl f)), (Q.qq, .inl (cI, (8 * Q.C), .inl Q.qf)), (Q.qe, .inl (cL, (3 * Q.C), .inr (.inl Q.ef))), (tv, .inr (12, MF 13 (tw V))), (V.au, .inl (cC, V.U, .inl V.un))] := hD
        have hwb : ¬ mtB f n i (mtx 9) 2 = true := fun h => hwm (mtB_iff.mp h)
        refine lv_if_ne (tgt := 21) hx hb d_Mo_comparison_16 (by decide) (fun h => absurd h (by decide)) (fun _ => ?_)
        refine lv_iconst (v := (-1)) hx hb d_Mo_comparison_19 (by decide) ?_
        have hfin : cpP f n (cmP f n ok (orL f n) (cmL f n) (qyL f n)) xm i = none := cpP_1n (h_r1.symm.trans c6) hwb
        refine w_same (fun hq => ?_)
        refine W.widen (k := kcap Q (Q.R + 8 * (n - i) + 1) + qcap V (V.us + (n + 12 - i))) (n := 22 * kcap Q (Q.R + 8 * (n - i) + 1) + 2 * qcap V (V.us + (n + 12 - i))) hfit_QV.1 hfit_QV.2 ?_
        have hPo : QPo n i 1 Q V (Q, V, k9, b4, o) := ⟨hQk_Q, hG_QV, ⟨[], TX.rf hTk_V, Nat.zero_le _⟩, by show Q.R ≤ Q.R; omega, by show Q.R ≤ Q.R + 8 * (n - i) + 1; omega⟩
        exact W.iret (v := -1) hx hb hr (fun t9 ht hW => ⟨⟨-1, (Q, V, k9, b4, o), rfl, ⟨hPo, Or.inr ⟨rfl, hfin⟩⟩, ⟨by rw [ht]; exact hP, va_K.moved hW.alike hK, hD⟩, by rw [ht]; exact hq⟩, hS.F ht⟩) hS.2.2 d_Mo_comparison_20
  · rintro ⟨j, b, op⟩ H locs ls hI131 hP hD hS hl
    have hP : va_P (dC, dI) classes [(mo, .inr (13, MF 30 (rf (rs v Q o) j b))), (qx, .inl (cB, NN, .inl f)), (Q.qq, .inl (cI, (8 * Q.C), .inl Q.qf)), (Q.qe, .inl (cL, (3 * Q.C), .inr (.inl Q.ef))), (tv, .inr (12, MF 13 (tw V))), (V.au, .inl (cC, V.U, .inl V.un))] H := hP
    have hD : va_D A [(mo, .inr (13, MF 30 (rf (rs v Q o) j b))), (qx, .inl (cB, NN, .inl f)), (Q.qq, .inl (cI, (8 * Q.C), .inl Q.qf)), (Q.qe, .inl (cL, (3 * Q.C), .inr (.inl Q.ef))), (tv, .inr (12, MF 13 (tw V))), (V.au, .inl (cC, V.U, .inl V.un))] := hD
    have hl : lv_has ls 5 [(0, .ref mo), (1, .int (nI x0)), (2, .int (nI op))] := hl
    obtain ⟨hj1, hj2, hop, hcp⟩ := hI131
    have hqb_QV : Q.R ≤ Q.C ∧ Q.C ≤ 100000 := ⟨hQk_Q.2.2.1, hQk_Q.2.1⟩
    have hfit_QV := hG_QV.fits
    refine lv_aload_n hx hb d_Mo_comparison_131 rfl (lv_at hl 0 rfl) ?_
    have hPc := hP.sub (ws' := [(mo, .inr (13, MF 30 (rf (rs v Q o) j b))), (qx, .inl (cB, NN, .inl f))]) [0, 1] rfl
    have hDc := hD.sub (ws' := [(mo, .inr (13, MF 30 (rf (rs v Q o) j b))), (qx, .inl (cB, NN, .inl f))]) [0, 1] (by decide) rfl
    have hKc := hK.sub (tys' := [(cB, .byte)]) [0] rfl
    have hFc := va_free (wc := [(mo, .inr (13, MF 30 (rf (rs v Q o) j b))), (qx, .inl (cB, NN, .inl f))]) hD hS hA [0, 1] rfl
    refine va_callv (va_runV (As := []) (rest := []) ⟨hx, hb, hml, hown, hts⟩ (c_Mo_blanks l dC dI mo H (rf (rs v Q o) j b) cB qx NN f n j (by omega) (by omega) (by omega) ((rf_ne (by decide) (by decide)).trans ((rs_ne (by decide) (by decide) (by decide) (by decide)).trans h6)) rf_7 ((rf_ne (by decide) (by decide)).trans ((rs_ne (by decide) (by decide) (by decide) (by decide)).trans h8))) (cwV 0 hts (gt_V (own := R_Mo) (C := R_Mo) (i := 184) (y := y_Mo_blanks) i_Mo_blanks w_1229 w_1231 (gt_sel (y := y_Mo_blanks) (n := 30) (by decide +kernel)) w_7) rfl rfl rfl (by decide +kernel) ⟨Nat.le_trans (m := 12) (Nat.le_of_ble_eq_true rfl) (Nat.le_add_right 12 (15 + G)), Nat.le_trans (m := 440) (Nat.le_of_ble_eq_true rfl) (Nat.le_add_right 440 (600 + M))⟩) ⟨mp_blind, va_recv hKc hPc (ci := 13) (q0 := 0) rfl rfl, fun U hU hW => ⟨rfl, hU, by rw [hU]; exact hPc, va_K.moved hW.alike hKc, hDc.weaken (fun _ _ _ _ => trivial)⟩⟩ rfl rfl hl.1 rfl (lv_room (Nat.le_of_ble_eq_true rfl)) d_Mo_comparison_132 ⟨hfit_QV.1, hfit_QV.2⟩) hS (fun q _ h => hFc q h) hFc (fun _u t9 H1 locs ht hvm hw hB hz1 hk1 hS => ?_)
    obtain ⟨hP1, hK1, hD1⟩ := hB
    rw [ht] at hP1
    obtain ⟨hP, hD⟩ := va_join (wr := [(Q.qq, .inl (cI, (8 * Q.C), .inl Q.qf)), (Q.qe, .inl (cL, (3 * Q.C), .inr (.inl Q.ef))), (tv, .inr (12, MF 13 (tw V))), (V.au, .inl (cC, V.U, .inl V.un))]) (w1 := [(mo, .inr (13, MF 30 (va_up (rf (rs v Q o) j b) 7 (.int (nI (skipH f n j)))))), (qx, .inl (cB, NN, .inl f))]) hP hD [0, 1] [2, 3, 4, 5] rfl rfl (by decide) (by decide) hk1 hFc hP1 hD1
    generalize H1 = H at hP hS ⊢
    have hP : va_P (dC, dI) classes [(Q.qq, .inl (cI, (8 * Q.C), .inl Q.qf)), (Q.qe, .inl (cL, (3 * Q.C), .inr (.inl Q.ef))), (tv, .inr (12, MF 13 (tw V))), (V.au, .inl (cC, V.U, .inl V.un)), (mo, .inr (13, MF 30 (va_up (rf (rs v Q o) j b) 7 (.int (nI (skipH f n j)))))), (qx, .inl (cB, NN, .inl f))] H := hP
    have hD : va_D A [(Q.qq, .inl (cI, (8 * Q.C), .inl Q.qf)), (Q.qe, .inl (cL, (3 * Q.C), .inr (.inl Q.ef))), (tv, .inr (12, MF 13 (tw V))), (V.au, .inl (cC, V.U, .inl V.un)), (mo, .inr (13, MF 30 (va_up (rf (rs v Q o) j b) 7 (.int (nI (skipH f n j)))))), (qx, .inl (cB, NN, .inl f))] := hD
    have hP := hP.sub (ws' := [(mo, .inr (13, MF 30 (va_up (rf (rs v Q o) j b) 7 (.int (nI (skipH f n j)))))), (qx, .inl (cB, NN, .inl f)), (Q.qq, .inl (cI, (8 * Q.C), .inl Q.qf)), (Q.qe, .inl (cL, (3 * Q.C), .inr (.inl Q.ef))), (tv, .inr (12, MF 13 (tw V))), (V.au, .inl (cC, V.U, .inl V.un))]) [4, 5, 0, 1, 2, 3] rfl
    have hD := hD.sub (ws' := [(mo, .inr (13, MF 30 (va_up (rf (rs v Q o) j b) 7 (.int (nI (skipH f n j)))))), (qx, .inl (cB, NN, .inl f)), (Q.qq, .inl (cI, (8 * Q.C), .inl Q.qf)), (Q.qe, .inl (cL, (3 * Q.C), .inr (.inl Q.ef))), (tv, .inr (12, MF 13 (tw V))), (V.au, .inl (cC, V.U, .inl V.un))]) [4, 5, 0, 1, 2, 3] (by decide) rfl
    rw [rf_u7] at hP hD
    have hP : va_P (dC, dI) classes [(mo, .inr (13, MF 30 (rf (rs v Q o) (skipH f n j) b))), (qx, .inl (cB, NN, .inl f)), (Q.qq, .inl (cI, (8 * Q.C), .inl Q.qf)), (Q.qe, .inl (cL, (3 * Q.C), .inr (.inl Q.ef))), (tv, .inr (12, MF 13 (tw V))), (V.au, .inl (cC, V.U, .inl V.un))] H := hP
    have hD : va_D A [(mo, .inr (13, MF 30 (rf (rs v Q o) (skipH f n j) b))), (qx, .inl (cB, NN, .inl f)), (Q.qq, .inl (cI, (8 * Q.C), .inl Q.qf)), (Q.qe, .inl (cL, (3 * Q.C), .inr (.inl Q.ef))), (tv, .inr (12, MF 13 (tw V))), (V.au, .inl (cC, V.U, .inl V.un))] := hD
    have hsk_135 := skipH_n (f := f) (show j ≤ n by omega)
    refine lv_aload_n hx hb d_Mo_comparison_135 rfl (lv_at hl 0 rfl) ?_
    have hPc := hP.sub (ws' := [(mo, .inr (13, MF 30 (rf (rs v Q o) (skipH f n j) b))), (qx, .inl (cB, NN, .inl f)), (Q.qq, .inl (cI, (8 * Q.C), .inl Q.qf)), (Q.qe, .inl (cL, (3 * Q.C), .inr (.inl Q.ef))), (tv, .inr (12, MF 13 (tw V))), (V.au, .inl (cC, V.U, .inl V.un))]) [0, 1, 2, 3, 4, 5] rfl
    have hDc := hD.sub (ws' := [(mo, .inr (13, MF 30 (rf (rs v Q o) (skipH f n j) b))), (qx, .inl (cB, NN, .inl f)), (Q.qq, .inl (cI, (8 * Q.C), .inl Q.qf)), (Q.qe, .inl (cL, (3 * Q.C), .inr (.inl Q.ef))), (tv, .inr (12, MF 13 (tw V))), (V.au, .inl (cC, V.U, .inl V.un))]) [0, 1, 2, 3, 4, 5] (by decide) rfl
    have hKc := hK.sub (tys' := [(cB, .byte), (cI, .int), (cL, .long), (cC, .char)]) [0, 1, 2, 3] rfl
    have hFc := va_free (wc := [(mo, .inr (13, MF 30 (rf (rs v Q o) (skipH f n j) b))), (qx, .inl (cB, NN, .inl f)), (Q.qq, .inl (cI, (8 * Q.C), .inl Q.qf)), (Q.qe, .inl (cL, (3 * Q.C), .inr (.inl Q.ef))), (tv, .inr (12, MF 13 (tw V))), (V.au, .inl (cC, V.U, .inl V.un))]) hD hS hA [0, 1, 2, 3, 4, 5] rfl
    refine w_same (fun hq0 => ?_)
    refine va_calli (va_runV (As := []) (rest := []) ⟨hx, hb, hml, hown, hts⟩ (c_cmp orL cmL qyL O C Y G M hOf hCf hYf l dC dI mo H v cB cI cL cC qx NN f n K tv Q V o (skipH f n j) b ok hok ho16 hOR hCM hQY hnN hNN (by omega) h6 h8 h22 hQk_Q hTk_V (by omega) (by omega)) (cwV 0 hts (gt_V (own := R_Mo) (C := R_Mo) (i := 328) (y := y_Mo_comparable) i_Mo_comparable w_1461 w_1463 (gt_sel (y := y_Mo_comparable) (n := 30) (by decide +kernel)) w_7) rfl rfl rfl (by decide +kernel) ⟨by show 11 + (15 + G) + 1 ≤ 12 + (15 + G); omega, by show 8 + (5 + 11) + (400 + (600 + M)) ≤ 440 + (600 + M); omega⟩) ⟨me_blind, va_recv hKc hPc (ci := 13) (q0 := 0) rfl rfl, fun U hU hW => ⟨rfl, ⟨hU, by rw [hU]; exact hPc, va_K.moved hW.alike hKc, hDc.weaken (fun _ _ _ _ => trivial)⟩, by rw [hU]; exact ME.call hM hS.2.1 hFc hW⟩⟩ rfl rfl hl.1 rfl (lv_room (Nat.le_of_ble_eq_true rfl)) d_Mo_comparison_136 ⟨(hG_QV.step (B2 := Q.R + 8 * (n - (skipH f n j)) + 1) (C2 := V.us + (n + 12 - (skipH f n j))) (by omega) (by omega)).1, (hG_QV.step (B2 := Q.R + 8 * (n - (skipH f n j)) + 1) (C2 := V.us + (n + 12 - (skipH f n j))) (by omega) (by omega)).2⟩) hS (fun q _ h => hFc q h) hFc (fun r0 ⟨Q1, V1, j1, b1, o1⟩ t9 H1 locs ht hvm hw hB hz1 hk1 hS => ?_)
    obtain ⟨⟨hP1, hK1, hD1⟩, hz9⟩ := hB
    rw [ht] at hP1
    rw [ht] at hz9
    obtain ⟨⟨hQk_Q1, hGn, hTXs, hR1_Q1, hR2_Q1⟩, hw⟩ := hw
    have hQk_Q1 : QOK Q1 := hQk_Q1
    obtain ⟨hG_Q1V1, hGc, hGs⟩ := hG_QV.tr hGn (by omega) (by omega)
    have hR1_Q1 : Q.R ≤ Q1.R := hR1_Q1
    have hR2_Q1 : Q1.R ≤ Q.R + 8 * (n - (skipH f n j)) + 1 := hR2_Q1
    obtain ⟨us1, hX_V1, hln_V1⟩ := hTXs
    have hX_V1 : TX V V1 us1 := hX_V1
    have hXs_V1 := hX_V1.us
    have hz9 : szk H H1 (cQ Q V Q1 V1) (sQ Q V Q1 V1) := hz9
    have hq1 : szk s.heap H1 (cQ Q V Q1 V1) (sQ Q V Q1 V1) := (hq0.trans hz9).mono hGc hGs
    refine w_tight hq1 ?_
    obtain ⟨hP, hD⟩ := va_join (wr := []) (w1 := [(mo, .inr (13, MF 30 (rf (rs v Q1 o1) j1 b1))), (qx, .inl (cB, NN, .inl f)), (Q1.qq, .inl (cI, (8 * Q1.C), .inl Q1.qf)), (Q1.qe, .inl (cL, (3 * Q1.C), .inr (.inl Q1.ef))), (tv, .inr (12, MF 13 (tw V1))), (V1.au, .inl (cC, V1.U, .inl V1.un))]) hP hD [0, 1, 2, 3, 4, 5] [] rfl rfl (by decide) (by decide) hk1 hFc hP1 hD1
    generalize H1 = H at hP hS ⊢
    have hP : va_P (dC, dI) classes [(mo, .inr (13, MF 30 (rf (rs v Q1 o1) j1 b1))), (qx, .inl (cB, NN, .inl f)), (Q1.qq, .inl (cI, (8 * Q1.C), .inl Q1.qf)), (Q1.qe, .inl (cL, (3 * Q1.C), .inr (.inl Q1.ef))), (tv, .inr (12, MF 13 (tw V1))), (V1.au, .inl (cC, V1.U, .inl V1.un))] H := hP
    have hD : va_D A [(mo, .inr (13, MF 30 (rf (rs v Q1 o1) j1 b1))), (qx, .inl (cB, NN, .inl f)), (Q1.qq, .inl (cI, (8 * Q1.C), .inl Q1.qf)), (Q1.qe, .inl (cL, (3 * Q1.C), .inr (.inl Q1.ef))), (tv, .inr (12, MF 13 (tw V1))), (V1.au, .inl (cC, V1.U, .inl V1.un))] := hD
    have hP := hP.sub (ws' := [(mo, .inr (13, MF 30 (rf (rs v Q1 o1) j1 b1))), (qx, .inl (cB, NN, .inl f)), (tv, .inr (12, MF 13 (tw V1))), (Q1.qq, .inl (cI, (8 * Q1.C), .inl Q1.qf)), (Q1.qe, .inl (cL, (3 * Q1.C), .inr (.inl Q1.ef))), (V1.au, .inl (cC, V1.U, .inl V1.un))]) [0, 1, 4, 2, 3, 5] rfl
    have hD := hD.sub (ws' := [(mo, .inr (13, MF 30 (rf (rs v Q1 o1) j1 b1))), (qx, .inl (cB, NN, .inl f)), (tv, .inr (12, MF 13 (tw V1))), (Q1.qq, .inl (cI, (8 * Q1.C), .inl Q1.qf)), (Q1.qe, .inl (cL, (3 * Q1.C), .inr (.inl Q1.ef))), (V1.au, .inl (cC, V1.U, .inl V1.un))]) [0, 1, 4, 2, 3, 5] (by decide) rfl
    have hP := hP.sub (ws' := [(mo, .inr (13, MF 30 (rf (rs v Q1 o1) j1 b1))), (qx, .inl (cB, NN, .inl f)), (Q1.qq, .inl (cI, (8 * Q1.C), .inl Q1.qf)), (Q1.qe, .inl (cL, (3 * Q1.C), .inr (.inl Q1.ef))), (tv, .inr (12, MF 13 (tw V1))), (V1.au, .inl (cC, V1.U, .inl V1.un))]) [0, 1, 3, 4, 2, 5] rfl
    have hD := hD.sub (ws' := [(mo, .inr (13, MF 30 (rf (rs v Q1 o1) j1 b1))), (qx, .inl (cB, NN, .inl f)), (Q1.qq, .inl (cI, (8 * Q1.C), .inl Q1.qf)), (Q1.qe, .inl (cL, (3 * Q1.C), .inr (.inl Q1.ef))), (tv, .inr (12, MF 13 (tw V1))), (V1.au, .inl (cC, V1.U, .inl V1.un))]) [0, 1, 3, 4, 2, 5] (by decide) rfl
    have hTk_V1 := hX_V1.ok hTk_V (by omega)
    have hqb_Q1V1 : Q1.R ≤ Q1.C ∧ Q1.C ≤ 100000 := ⟨hQk_Q1.2.2.1, hQk_Q1.2.1⟩
    have hfit_Q1V1 := hG_Q1V1.fits
    rcases hw with ⟨a9, g9, hv_1, hv_2, hv_3, hv_4, hv_5, hv_6, hv_7, hv_8, hv_9, hv_10⟩ | ⟨hv_1, hv_2⟩
    · have hv_10 : o = o1 := hv_10.symm
      subst hv_10
      have hP : va_P (dC, dI) classes [(mo, .inr (13, MF 30 (rf (rs v Q1 o) j1 b1))), (qx, .inl (cB, NN, .inl f)), (Q1.qq, .inl (cI, (8 * Q1.C), .inl Q1.qf)), (Q1.qe, .inl (cL, (3 * Q1.C), .inr (.inl Q1.ef))), (tv, .inr (12, MF 13 (tw V1))), (V1.au, .inl (cC, V1.U, .inl V1.un))] H := hP
      have hD : va_D A [(mo, .inr (13, MF 30 (rf (rs v Q1 o) j1 b1))), (qx, .inl (cB, NN, .inl f)), (Q1.qq, .inl (cI, (8 * Q1.C), .inl Q1.qf)), (Q1.qe, .inl (cL, (3 * Q1.C), .inr (.inl Q1.ef))), (tv, .inr (12, MF 13 (tw V1))), (V1.au, .inl (cC, V1.U, .inl V1.un))] := hD
      have hv_2 : cmP f n ok (orL f n) (cmL f n) (qyL f n) (skipH f n j) = some (j1, g9) := hv_2
      have hv_3 : CMPf O C Y Q1 V1 Q.R Q1.R a9 g9 := hv_3
      have hv_4 : a9 < Q1.R := hv_4
      have hv_5 : alr Q V Q1 V1 0 Q.R := hv_5
      have hv_6 : Q1.R + 8 * (skipH f n j) + 6 ≤ Q.R + 8 * j1 := hv_6
      have hv_7 : V1.us + (skipH f n j) ≤ V.us + j1 := hv_7
      have hv_8 : j1 ≤ n := hv_8
      have hv_9 : Q.R < Q1.R := hv_9
      subst hv_1
      refine lv_istore_n (lv' := [(3, .int (nI a9)), (0, .ref mo), (1, .int (nI x0)), (2, .int (nI op))]) hx hb d_Mo_comparison_139 rfl hl (by decide) rfl (fun ls hl => ?_)
      refine lv_iload_n hx hb d_Mo_comparison_140 rfl (lv_at hl 0 rfl) ?_
      refine lv_if_ge (tgt := 146) hx hb d_Mo_comparison_141 (by decide) (fun _ => ?_) (fun h => absurd (nI_pos' (by omega)) h)
      refine lv_aload_n hx hb d_Mo_comparison_146 rfl (lv_at hl 1 rfl) ?_
      refine lv_bipush (v := 33) hx hb d_Mo_comparison_147 (by decide) ?_
      have hPc := hP.sub (ws' := [(mo, .inr (13, MF 30 (rf (rs v Q1 o) j1 b1))), (Q1.qq, .inl (cI, (8 * Q1.C), .inl Q1.qf)), (Q1.qe, .inl (cL, (3 * Q1.C), .inr (.inl Q1.ef)))]) [0, 2, 3] rfl
      have hDc := hD.sub (ws' := [(mo, .inr (13, MF 30 (rf (rs v Q1 o) j1 b1))), (Q1.qq, .inl (cI, (8 * Q1.C), .inl Q1.qf)), (Q1.qe, .inl (cL, (3 * Q1.C), .inr (.inl Q1.ef)))]) [0, 2, 3] (by decide) rfl
      have hKc := hK.sub (tys' := [(cI, .int), (cL, .long)]) [1, 2] rfl
      have hFc := va_free (wc := [(mo, .inr (13, MF 30 (rf (rs v Q1 o) j1 b1))), (Q1.qq, .inl (cI, (8 * Q1.C), .inl Q1.qf)), (Q1.qe, .inl (cL, (3 * Q1.C), .inr (.inl Q1.ef)))]) hD hS hA [0, 2, 3] rfl
      refine w_same (fun hq0 => ?_)
      refine va_calli (va_runV (As := [.int 33]) (rest := []) ⟨hx, hb, hml, hown, hts⟩ (c_Mo_row l dC dI mo H v cI cL Q1 o j1 b1 33 hQk_Q1) (cwV 1 hts (gt_V (own := R_Mo) (C := R_Mo) (i := 269) (y := y_Mo_row) i_Mo_row w_1407 w_1409 (gt_sel (y := y_Mo_row) (n := 30) (by decide +kernel)) w_7) rfl rfl rfl (by decide +kernel) ⟨Nat.le_trans (m := 12) (Nat.le_of_ble_eq_true rfl) (Nat.le_add_right 12 (15 + G)), Nat.le_trans (m := 440) (Nat.le_of_ble_eq_true rfl) (Nat.le_add_right 440 (600 + M))⟩) ⟨mp_blind, va_recv hKc hPc (ci := 13) (q0 := 0) rfl rfl, fun U hU hW => ⟨rfl, hU, by rw [hU]; exact hPc, va_K.moved hW.alike hKc, hDc.weaken (fun _ _ _ _ => trivial)⟩⟩ rfl rfl hl.1 rfl (lv_room (Nat.le_of_ble_eq_true rfl)) d_Mo_comparison_149 ⟨(QAd.fit hG_Q1V1 hQk_Q1 (by omega)).1, (QAd.fit hG_Q1V1 hQk_Q1 (by omega)).2⟩) hS (fun q _ h => hFc q h) hFc (fun r0 Qa t9 H1 locs ht hvm hw hB hz1 hk1 hS => ?_)
      obtain ⟨⟨hP1, hK1, hD1⟩, hz9⟩ := hB
      rw [ht] at hP1
      rw [ht] at hz9
      obtain ⟨hr0, hA_Qa⟩ := hw
      have hA_Qa : QAd Q1 Qa 33 := hA_Qa
      obtain ⟨hQk_Qa, hGa, hGb, hGd, hR_Qa⟩ := hA_Qa.gq hQk_Q1 (by omega) V1
      obtain ⟨hG_QaV1, hGc, hGs⟩ := hG_Q1V1.tr hGa (show Q1.R + 1 ≤ Q.R + 8 * (n - i) + 1 by omega) (Nat.zero_le _)
      have hGc := Nat.le_trans (Nat.add_le_add_left hGb _) hGc
      have hGs := Nat.le_trans (Nat.add_le_add_left hGd _) hGs
      have hq1 : szk s.heap H1 (cQ Q V Qa V1) (sQ Q V Qa V1) := (hq0.trans hz9).mono hGc hGs
      refine w_tight hq1 ?_
      obtain ⟨hP, hD⟩ := va_join (wr := [(qx, .inl (cB, NN, .inl f)), (tv, .inr (12, MF 13 (tw V1))), (V1.au, .inl (cC, V1.U, .inl V1.un))]) (w1 := [(mo, .inr (13, MF 30 (rf (rs v Qa o) j1 b1))), (Qa.qq, .inl (cI, (8 * Qa.C), .inl Qa.qf)), (Qa.qe, .inl (cL, (3 * Qa.C), .inr (.inl Qa.ef)))]) hP hD [0, 2, 3] [1, 4, 5] rfl rfl (by decide) (by decide) hk1 hFc hP1 hD1
      generalize H1 = H at hP hS ⊢
      have hP : va_P (dC, dI) classes [(qx, .inl (cB, NN, .inl f)), (tv, .inr (12, MF 13 (tw V1))), (V1.au, .inl (cC, V1.U, .inl V1.un)), (mo, .inr (13, MF 30 (rf (rs v Qa o) j1 b1))), (Qa.qq, .inl (cI, (8 * Qa.C), .inl Qa.qf)), (Qa.qe, .inl (cL, (3 * Qa.C), .inr (.inl Qa.ef)))] H := hP
      have hD : va_D A [(qx, .inl (cB, NN, .inl f)), (tv, .inr (12, MF 13 (tw V1))), (V1.au, .inl (cC, V1.U, .inl V1.un)), (mo, .inr (13, MF 30 (rf (rs v Qa o) j1 b1))), (Qa.qq, .inl (cI, (8 * Qa.C), .inl Qa.qf)), (Qa.qe, .inl (cL, (3 * Qa.C), .inr (.inl Qa.ef)))] := hD
      have hP := hP.sub (ws' := [(mo, .inr (13, MF 30 (rf (rs v Qa o) j1 b1))), (qx, .inl (cB, NN, .inl f)), (tv, .inr (12, MF 13 (tw V1))), (V1.au, .inl (cC, V1.U, .inl V1.un)), (Qa.qq, .inl (cI, (8 * Qa.C), .inl Qa.qf)), (Qa.qe, .inl (cL, (3 * Qa.C), .inr (.inl Qa.ef)))]) [3, 0, 1, 2, 4, 5] rfl
      have hD := hD.sub (ws' := [(mo, .inr (13, MF 30 (rf (rs v Qa o) j1 b1))), (qx, .inl (cB, NN, .inl f)), (tv, .inr (12, MF 13 (tw V1))), (V1.au, .inl (cC, V1.U, .inl V1.un)), (Qa.qq, .inl (cI, (8 * Qa.C), .inl Qa.qf)), (Qa.qe, .inl (cL, (3 * Qa.C), .inr (.inl Qa.ef)))]) [3, 0, 1, 2, 4, 5] (by decide) rfl
      have hP := hP.sub (ws' := [(mo, .inr (13, MF 30 (rf (rs v Qa o) j1 b1))), (qx, .inl (cB, NN, .inl f)), (Qa.qq, .inl (cI, (8 * Qa.C), .inl Qa.qf)), (Qa.qe, .inl (cL, (3 * Qa.C), .inr (.inl Qa.ef))), (tv, .inr (12, MF 13 (tw V1))), (V1.au, .inl (cC, V1.U, .inl V1.un))]) [0, 1, 4, 5, 2, 3] rfl
      have hD := hD.sub (ws' := [(mo, .inr (13, MF 30 (rf (rs v Qa o) j1 b1))), (qx, .inl (cB, NN, .inl f)), (Qa.qq, .inl (cI, (8 * Qa.C), .inl Qa.qf)), (Qa.qe, .inl (cL, (3 * Qa.C), .inr (.inl Qa.ef))), (tv, .inr (12, MF 13 (tw V1))), (V1.au, .inl (cC, V1.U, .inl V1.un))]) [0, 1, 4, 5, 2, 3] (by decide) rfl
      have hr0 : r0 = nI Q1.R := hr0
      subst hr0
      have hqb_QaV1 : Qa.R ≤ Qa.C ∧ Qa.C ≤ 100000 := ⟨hQk_Qa.2.2.1, hQk_Qa.2.1⟩
      have hfit_QaV1 := hG_QaV1.fits
      have hE_Qa : alr Q1 V1 Qa V1 0 Q1.R := ⟨fun r9 k9 _ h1 h2 => hA_Qa.2.2.1 _ (by omega), ⟨fun r9 k9 _ h1 h2 => hA_Qa.2.2.2.1.2 _ (by omega), Nat.le_refl _, fun _ _ => rfl⟩⟩
      refine lv_istore (lv' := [(4, .int (nI Q1.R)), (3, .int (nI a9)), (0, .ref mo), (1, .int (nI x0)), (2, .int (nI op))]) hx hb d_Mo_comparison_152 hl (by decide) rfl (fun ls hl => ?_)
      refine lv_aload_n hx hb d_Mo_comparison_154 rfl (lv_at hl 2 rfl) ?_
      refine lv_iload hx hb d_Mo_comparison_155 (lv_at hl 0 rfl) ?_
      refine lv_iconst (v := 2) hx hb d_Mo_comparison_157 (by decide) ?_
      refine lv_iload_n hx hb d_Mo_comparison_158 rfl (lv_at hl 3 rfl) ?_
      refine W.eq (g2 := F0 m 159 ls [.int (nI x0), .int (nI 2), .int (nI Q1.R), .ref mo]) rfl ?_
      have hPc := hP.sub (ws' := [(mo, .inr (13, MF 30 (rf (rs v Qa o) j1 b1))), (Qa.qq, .inl (cI, (8 * Qa.C), .inl Qa.qf))]) [0, 2] rfl
      have hDc := hD.sub (ws' := [(mo, .inr (13, MF 30 (rf (rs v Qa o) j1 b1))), (Qa.qq, .inl (cI, (8 * Qa.C), .inl Qa.qf))]) [0, 2] (by decide) rfl
      have hKc := hK.sub (tys' := [(cI, .int)]) [1] rfl
      have hFc := va_free (wc := [(mo, .inr (13, MF 30 (rf (rs v Qa o) j1 b1))), (Qa.qq, .inl (cI, (8 * Qa.C), .inl Qa.qf))]) hD hS hA [0, 2] rfl
      refine va_callv (va_runV (As := [.int (nI Q1.R), .int (nI 2), .int (nI x0)]) (rest := []) ⟨hx, hb, hml, hown, hts⟩ (c_Mo_set l dC dI mo H (rf (rs v Qa o) j1 b1) cI Qa.qq (8 * Qa.C) Qa.qf Q1.R 2 ((nI x0)) (by omega) (by omega) ((rf_ne (by decide) (by decide)).trans rs_19)) (cwV 3 hts (gt_V (own := R_Mo) (C := R_Mo) (i := 272) (y := y_Mo_set) i_Mo_set w_1411 w_1413 (gt_sel (y := y_Mo_set) (n := 30) (by decide +kernel)) w_7) rfl rfl rfl (by decide +kernel) ⟨Nat.le_trans (m := 12) (Nat.le_of_ble_eq_true rfl) (Nat.le_add_right 12 (15 + G)), Nat.le_trans (m := 440) (Nat.le_of_ble_eq_true rfl) (Nat.le_add_right 440 (600 + M))⟩) ⟨mp_blind, va_recv hKc hPc (ci := 13) (q0 := 0) rfl rfl, fun U hU hW => ⟨rfl, hU, by rw [hU]; exact hPc, va_K.moved hW.alike hKc, hDc.weaken (fun _ _ _ _ => trivial)⟩⟩ rfl rfl hl.1 rfl (lv_room (Nat.le_of_ble_eq_true rfl)) d_Mo_comparison_159 ⟨hfit_QaV1.1, hfit_QaV1.2⟩) hS (fun q _ h => hFc q h) hFc (fun _u t9 H1 locs ht hvm hw hB hz1 hk1 hS => ?_)
      obtain ⟨hP1, hK1, hD1⟩ := hB
      rw [ht] at hP1
      obtain ⟨hP, hD⟩ := va_join (wr := [(qx, .inl (cB, NN, .inl f)), (Qa.qe, .inl (cL, (3 * Qa.C), .inr (.inl Qa.ef))), (tv, .inr (12, MF 13 (tw V1))), (V1.au, .inl (cC, V1.U, .inl V1.un))]) (w1 := [(mo, .inr (13, MF 30 (rf (rs v Qa o) j1 b1))), (Qa.qq, .inl (cI, (8 * Qa.C), .inl (upd Qa.qf (8 * Q1.R + 2) ((nI x0)))))]) hP hD [0, 2] [1, 3, 4, 5] rfl rfl (by decide) (by decide) hk1 hFc hP1 hD1
      generalize H1 = H at hP hS ⊢
      have hP : va_P (dC, dI) classes [(qx, .inl (cB, NN, .inl f)), (Qa.qe, .inl (cL, (3 * Qa.C), .inr (.inl Qa.ef))), (tv, .inr (12, MF 13 (tw V1))), (V1.au, .inl (cC, V1.U, .inl V1.un)), (mo, .inr (13, MF 30 (rf (rs v Qa o) j1 b1))), (Qa.qq, .inl (cI, (8 * Qa.C), .inl (upd Qa.qf (8 * Q1.R + 2) ((nI x0)))))] H := hP
      have hD : va_D A [(qx, .inl (cB, NN, .inl f)), (Qa.qe, .inl (cL, (3 * Qa.C), .inr (.inl Qa.ef))), (tv, .inr (12, MF 13 (tw V1))), (V1.au, .inl (cC, V1.U, .inl V1.un)), (mo, .inr (13, MF 30 (rf (rs v Qa o) j1 b1))), (Qa.qq, .inl (cI, (8 * Qa.C), .inl (upd Qa.qf (8 * Q1.R + 2) ((nI x0)))))] := hD
      have hP := hP.sub (ws' := [(mo, .inr (13, MF 30 (rf (rs v Qa o) j1 b1))), (qx, .inl (cB, NN, .inl f)), (Qa.qq, .inl (cI, (8 * Qa.C), .inl (upd Qa.qf (8 * Q1.R + 2) ((nI x0))))), (Qa.qe, .inl (cL, (3 * Qa.C), .inr (.inl Qa.ef))), (tv, .inr (12, MF 13 (tw V1))), (V1.au, .inl (cC, V1.U, .inl V1.un))]) [4, 0, 5, 1, 2, 3] rfl
      have hD := hD.sub (ws' := [(mo, .inr (13, MF 30 (rf (rs v Qa o) j1 b1))), (qx, .inl (cB, NN, .inl f)), (Qa.qq, .inl (cI, (8 * Qa.C), .inl (upd Qa.qf (8 * Q1.R + 2) ((nI x0))))), (Qa.qe, .inl (cL, (3 * Qa.C), .inr (.inl Qa.ef))), (tv, .inr (12, MF 13 (tw V1))), (V1.au, .inl (cC, V1.U, .inl V1.un))]) [4, 0, 5, 1, 2, 3] (by decide) rfl
      obtain ⟨Qb, e_Qb⟩ : ∃ z : QS, z = QS.wf Qa (upd Qa.qf (8 * Q1.R + 2) ((nI x0))) := ⟨_, rfl⟩
      have hP : va_P (dC, dI) classes [(mo, .inr (13, MF 30 (rf (rs v Qb o) j1 b1))), (qx, .inl (cB, NN, .inl f)), (Qb.qq, .inl (cI, (8 * Qb.C), .inl Qb.qf)), (Qb.qe, .inl (cL, (3 * Qb.C), .inr (.inl Qb.ef))), (tv, .inr (12, MF 13 (tw V1))), (V1.au, .inl (cC, V1.U, .inl V1.un))] H := by subst e_Qb; exact hP
      have hD : va_D A [(mo, .inr (13, MF 30 (rf (rs v Qb o) j1 b1))), (qx, .inl (cB, NN, .inl f)), (Qb.qq, .inl (cI, (8 * Qb.C), .inl Qb.qf)), (Qb.qe, .inl (cL, (3 * Qb.C), .inr (.inl Qb.ef))), (tv, .inr (12, MF 13 (tw V1))), (V1.au, .inl (cC, V1.U, .inl V1.un))] := by subst e_Qb; exact hD
      have hf_Qb : Qb.C = Qa.C ∧ Qb.R = Qa.R ∧ Qb.qf = upd Qa.qf (8 * Q1.R + 2) ((nI x0)) := by rw [e_Qb]; exact ⟨rfl, rfl, rfl⟩
      have he_Qb : Qb.ef = Qa.ef := by rw [e_Qb]; rfl
      have hQk_Qb : QOK Qb := by rw [e_Qb]; exact hQk_Qa
      have hG_QbV1 : GQ (Q.R + 8 * (n - i) + 1) (V.us + (n + 12 - i)) Q V Qb V1 := by unfold GQ at hG_QaV1 ⊢; rw [hf_Qb.1]; exact hG_QaV1
      refine w_same (fun hq => ?_)
      refine w_tight (k := cQ Q V Qb V1) (n := sQ Q V Qb V1) (by unfold cQ sQ at hq ⊢; rw [hf_Qb.1]; exact hq) ?_
      have hR_Qb := hf_Qb.2.1
      have hqb_QbV1 : Qb.R ≤ Qb.C ∧ Qb.C ≤ 100000 := ⟨hQk_Qb.2.2.1, hQk_Qb.2.1⟩
      have hfit_QbV1 := hG_QbV1.fits
      refine lv_aload_n hx hb d_Mo_comparison_162 rfl (lv_at hl 2 rfl) ?_
      refine lv_iload hx hb d_Mo_comparison_163 (lv_at hl 0 rfl) ?_
      refine lv_iconst (v := 3) hx hb d_Mo_comparison_165 (by decide) ?_
      refine lv_iload_n hx hb d_Mo_comparison_166 rfl (lv_at hl 1 rfl) ?_
      refine W.eq (g2 := F0 m 167 ls [.int (nI a9), .int (nI 3), .int (nI Q1.R), .ref mo]) rfl ?_
      have hPc := hP.sub (ws' := [(mo, .inr (13, MF 30 (rf (rs v Qb o) j1 b1))), (Qb.qq, .inl (cI, (8 * Qb.C), .inl Qb.qf))]) [0, 2] rfl
      have hDc := hD.sub (ws' := [(mo, .inr (13, MF 30 (rf (rs v Qb o) j1 b1))), (Qb.qq, .inl (cI, (8 * Qb.C), .inl Qb.qf))]) [0, 2] (by decide) rfl
      have hKc := hK.sub (tys' := [(cI, .int)]) [1] rfl
      have hFc := va_free (wc := [(mo, .inr (13, MF 30 (rf (rs v Qb o) j1 b1))), (Qb.qq, .inl (cI, (8 * Qb.C), .inl Qb.qf))]) hD hS hA [0, 2] rfl
      refine va_callv (va_runV (As := [.int (nI Q1.R), .int (nI 3), .int (nI a9)]) (rest := []) ⟨hx, hb, hml, hown, hts⟩ (c_Mo_set l dC dI mo H (rf (rs v Qb o) j1 b1) cI Qb.qq (8 * Qb.C) Qb.qf Q1.R 3 ((nI a9)) (by omega) (by omega) ((rf_ne (by decide) (by decide)).trans rs_19)) (cwV 3 hts (gt_V (own := R_Mo) (C := R_Mo) (i := 272) (y := y_Mo_set) i_Mo_set w_1411 w_1413 (gt_sel (y := y_Mo_set) (n := 30) (by decide +kernel)) w_7) rfl rfl rfl (by decide +kernel) ⟨Nat.le_trans (m := 12) (Nat.le_of_ble_eq_true rfl) (Nat.le_add_right 12 (15 + G)), Nat.le_trans (m := 440) (Nat.le_of_ble_eq_true rfl) (Nat.le_add_right 440 (600 + M))⟩) ⟨mp_blind, va_recv hKc hPc (ci := 13) (q0 := 0) rfl rfl, fun U hU hW => ⟨rfl, hU, by rw [hU]; exact hPc, va_K.moved hW.alike hKc, hDc.weaken (fun _ _ _ _ => trivial)⟩⟩ rfl rfl hl.1 rfl (lv_room (Nat.le_of_ble_eq_true rfl)) d_Mo_comparison_167 ⟨hfit_QbV1.1, hfit_QbV1.2⟩) hS (fun q _ h => hFc q h) hFc (fun _u t9 H1 locs ht hvm hw hB hz1 hk1 hS => ?_)
      obtain ⟨hP1, hK1, hD1⟩ := hB
      rw [ht] at hP1
      obtain ⟨hP, hD⟩ := va_join (wr := [(qx, .inl (cB, NN, .inl f)), (Qb.qe, .inl (cL, (3 * Qb.C), .inr (.inl Qb.ef))), (tv, .inr (12, MF 13 (tw V1))), (V1.au, .inl (cC, V1.U, .inl V1.un))]) (w1 := [(mo, .inr (13, MF 30 (rf (rs v Qb o) j1 b1))), (Qb.qq, .inl (cI, (8 * Qb.C), .inl (upd Qb.qf (8 * Q1.R + 3) ((nI a9)))))]) hP hD [0, 2] [1, 3, 4, 5] rfl rfl (by decide) (by decide) hk1 hFc hP1 hD1
      generalize H1 = H at hP hS ⊢
      have hP : va_P (dC, dI) classes [(qx, .inl (cB, NN, .inl f)), (Qb.qe, .inl (cL, (3 * Qb.C), .inr (.inl Qb.ef))), (tv, .inr (12, MF 13 (tw V1))), (V1.au, .inl (cC, V1.U, .inl V1.un)), (mo, .inr (13, MF 30 (rf (rs v Qb o) j1 b1))), (Qb.qq, .inl (cI, (8 * Qb.C), .inl (upd Qb.qf (8 * Q1.R + 3) ((nI a9)))))] H := hP
      have hD : va_D A [(qx, .inl (cB, NN, .inl f)), (Qb.qe, .inl (cL, (3 * Qb.C), .inr (.inl Qb.ef))), (tv, .inr (12, MF 13 (tw V1))), (V1.au, .inl (cC, V1.U, .inl V1.un)), (mo, .inr (13, MF 30 (rf (rs v Qb o) j1 b1))), (Qb.qq, .inl (cI, (8 * Qb.C), .inl (upd Qb.qf (8 * Q1.R + 3) ((nI a9)))))] := hD
      have hP := hP.sub (ws' := [(mo, .inr (13, MF 30 (rf (rs v Qb o) j1 b1))), (qx, .inl (cB, NN, .inl f)), (Qb.qq, .inl (cI, (8 * Qb.C), .inl (upd Qb.qf (8 * Q1.R + 3) ((nI a9))))), (Qb.qe, .inl (cL, (3 * Qb.C), .inr (.inl Qb.ef))), (tv, .inr (12, MF 13 (tw V1))), (V1.au, .inl (cC, V1.U, .inl V1.un))]) [4, 0, 5, 1, 2, 3] rfl
      have hD := hD.sub (ws' := [(mo, .inr (13, MF 30 (rf (rs v Qb o) j1 b1))), (qx, .inl (cB, NN, .inl f)), (Qb.qq, .inl (cI, (8 * Qb.C), .inl (upd Qb.qf (8 * Q1.R + 3) ((nI a9))))), (Qb.qe, .inl (cL, (3 * Qb.C), .inr (.inl Qb.ef))), (tv, .inr (12, MF 13 (tw V1))), (V1.au, .inl (cC, V1.U, .inl V1.un))]) [4, 0, 5, 1, 2, 3] (by decide) rfl
      obtain ⟨Qd, e_Qd⟩ : ∃ z : QS, z = QS.wf Qb (upd Qb.qf (8 * Q1.R + 3) ((nI a9))) := ⟨_, rfl⟩
      have hP : va_P (dC, dI) classes [(mo, .inr (13, MF 30 (rf (rs v Qd o) j1 b1))), (qx, .inl (cB, NN, .inl f)), (Qd.qq, .inl (cI, (8 * Qd.C), .inl Qd.qf)), (Qd.qe, .inl (cL, (3 * Qd.C), .inr (.inl Qd.ef))), (tv, .inr (12, MF 13 (tw V1))), (V1.au, .inl (cC, V1.U, .inl V1.un))] H := by subst e_Qd; exact hP
      have hD : va_D A [(mo, .inr (13, MF 30 (rf (rs v Qd o) j1 b1))), (qx, .inl (cB, NN, .inl f)), (Qd.qq, .inl (cI, (8 * Qd.C), .inl Qd.qf)), (Qd.qe, .inl (cL, (3 * Qd.C), .inr (.inl Qd.ef))), (tv, .inr (12, MF 13 (tw V1))), (V1.au, .inl (cC, V1.U, .inl V1.un))] := by subst e_Qd; exact hD
      have hf_Qd : Qd.C = Qb.C ∧ Qd.R = Qb.R ∧ Qd.qf = upd Qb.qf (8 * Q1.R + 3) ((nI a9)) := by rw [e_Qd]; exact ⟨rfl, rfl, rfl⟩
      have he_Qd : Qd.ef = Qb.ef := by rw [e_Qd]; rfl
      have hQk_Qd : QOK Qd := by rw [e_Qd]; exact hQk_Qb
      have hG_QdV1 : GQ (Q.R + 8 * (n - i) + 1) (V.us + (n + 12 - i)) Q V Qd V1 := by unfold GQ at hG_QbV1 ⊢; rw [hf_Qd.1]; exact hG_QbV1
      refine w_same (fun hq => ?_)
      refine w_tight (k := cQ Q V Qd V1) (n := sQ Q V Qd V1) (by unfold cQ sQ at hq ⊢; rw [hf_Qd.1]; exact hq) ?_
      have hR_Qd := hf_Qd.2.1
      have hqb_QdV1 : Qd.R ≤ Qd.C ∧ Qd.C ≤ 100000 := ⟨hQk_Qd.2.2.1, hQk_Qd.2.1⟩
      have hfit_QdV1 := hG_QdV1.fits
      refine lv_aload_n hx hb d_Mo_comparison_170 rfl (lv_at hl 2 rfl) ?_
      refine lv_iload hx hb d_Mo_comparison_171 (lv_at hl 0 rfl) ?_
      refine lv_iconst (v := 4) hx hb d_Mo_comparison_173 (by decide) ?_
      refine lv_iload_n hx hb d_Mo_comparison_174 rfl (lv_at hl 4 rfl) ?_
      refine W.eq (g2 := F0 m 175 ls [.int (nI op), .int (nI 4), .int (nI Q1.R), .ref mo]) rfl ?_
      have hPc := hP.sub (ws' := [(mo, .inr (13, MF 30 (rf (rs v Qd o) j1 b1))), (Qd.qq, .inl (cI, (8 * Qd.C), .inl Qd.qf))]) [0, 2] rfl
      have hDc := hD.sub (ws' := [(mo, .inr (13, MF 30 (rf (rs v Qd o) j1 b1))), (Qd.qq, .inl (cI, (8 * Qd.C), .inl Qd.qf))]) [0, 2] (by decide) rfl
      have hKc := hK.sub (tys' := [(cI, .int)]) [1] rfl
      have hFc := va_free (wc := [(mo, .inr (13, MF 30 (rf (rs v Qd o) j1 b1))), (Qd.qq, .inl (cI, (8 * Qd.C), .inl Qd.qf))]) hD hS hA [0, 2] rfl
      refine va_callv (va_runV (As := [.int (nI Q1.R), .int (nI 4), .int (nI op)]) (rest := []) ⟨hx, hb, hml, hown, hts⟩ (c_Mo_set l dC dI mo H (rf (rs v Qd o) j1 b1) cI Qd.qq (8 * Qd.C) Qd.qf Q1.R 4 ((nI op)) (by omega) (by omega) ((rf_ne (by decide) (by decide)).trans rs_19)) (cwV 3 hts (gt_V (own := R_Mo) (C := R_Mo) (i := 272) (y := y_Mo_set) i_Mo_set w_1411 w_1413 (gt_sel (y := y_Mo_set) (n := 30) (by decide +kernel)) w_7) rfl rfl rfl (by decide +kernel) ⟨Nat.le_trans (m := 12) (Nat.le_of_ble_eq_true rfl) (Nat.le_add_right 12 (15 + G)), Nat.le_trans (m := 440) (Nat.le_of_ble_eq_true rfl) (Nat.le_add_right 440 (600 + M))⟩) ⟨mp_blind, va_recv hKc hPc (ci := 13) (q0 := 0) rfl rfl, fun U hU hW => ⟨rfl, hU, by rw [hU]; exact hPc, va_K.moved hW.alike hKc, hDc.weaken (fun _ _ _ _ => trivial)⟩⟩ rfl rfl hl.1 rfl (lv_room (Nat.le_of_ble_eq_true rfl)) d_Mo_comparison_175 ⟨hfit_QdV1.1, hfit_QdV1.2⟩) hS (fun q _ h => hFc q h) hFc (fun _u t9 H1 locs ht hvm hw hB hz1 hk1 hS => ?_)
      obtain ⟨hP1, hK1, hD1⟩ := hB
      rw [ht] at hP1
      obtain ⟨hP, hD⟩ := va_join (wr := [(qx, .inl (cB, NN, .inl f)), (Qd.qe, .inl (cL, (3 * Qd.C), .inr (.inl Qd.ef))), (tv, .inr (12, MF 13 (tw V1))), (V1.au, .inl (cC, V1.U, .inl V1.un))]) (w1 := [(mo, .inr (13, MF 30 (rf (rs v Qd o) j1 b1))), (Qd.qq, .inl (cI, (8 * Qd.C), .inl (upd Qd.qf (8 * Q1.R + 4) ((nI op)))))]) hP hD [0, 2] [1, 3, 4, 5] rfl rfl (by decide) (by decide) hk1 hFc hP1 hD1
      generalize H1 = H at hP hS ⊢
      have hP : va_P (dC, dI) classes [(qx, .inl (cB, NN, .inl f)), (Qd.qe, .inl (cL, (3 * Qd.C), .inr (.inl Qd.ef))), (tv, .inr (12, MF 13 (tw V1))), (V1.au, .inl (cC, V1.U, .inl V1.un)), (mo, .inr (13, MF 30 (rf (rs v Qd o) j1 b1))), (Qd.qq, .inl (cI, (8 * Qd.C), .inl (upd Qd.qf (8 * Q1.R + 4) ((nI op)))))] H := hP
      have hD : va_D A [(qx, .inl (cB, NN, .inl f)), (Qd.qe, .inl (cL, (3 * Qd.C), .inr (.inl Qd.ef))), (tv, .inr (12, MF 13 (tw V1))), (V1.au, .inl (cC, V1.U, .inl V1.un)), (mo, .inr (13, MF 30 (rf (rs v Qd o) j1 b1))), (Qd.qq, .inl (cI, (8 * Qd.C), .inl (upd Qd.qf (8 * Q1.R + 4) ((nI op)))))] := hD
      have hP := hP.sub (ws' := [(mo, .inr (13, MF 30 (rf (rs v Qd o) j1 b1))), (qx, .inl (cB, NN, .inl f)), (Qd.qq, .inl (cI, (8 * Qd.C), .inl (upd Qd.qf (8 * Q1.R + 4) ((nI op))))), (Qd.qe, .inl (cL, (3 * Qd.C), .inr (.inl Qd.ef))), (tv, .inr (12, MF 13 (tw V1))), (V1.au, .inl (cC, V1.U, .inl V1.un))]) [4, 0, 5, 1, 2, 3] rfl
      have hD := hD.sub (ws' := [(mo, .inr (13, MF 30 (rf (rs v Qd o) j1 b1))), (qx, .inl (cB, NN, .inl f)), (Qd.qq, .inl (cI, (8 * Qd.C), .inl (upd Qd.qf (8 * Q1.R + 4) ((nI op))))), (Qd.qe, .inl (cL, (3 * Qd.C), .inr (.inl Qd.ef))), (tv, .inr (12, MF 13 (tw V1))), (V1.au, .inl (cC, V1.U, .inl V1.un))]) [4, 0, 5, 1, 2, 3] (by decide) rfl
      obtain ⟨Qe, e_Qe⟩ : ∃ z : QS, z = QS.wf Qd (upd Qd.qf (8 * Q1.R + 4) ((nI op))) := ⟨_, rfl⟩
      have hP : va_P (dC, dI) classes [(mo, .inr (13, MF 30 (rf (rs v Qe o) j1 b1))), (qx, .inl (cB, NN, .inl f)), (Qe.qq, .inl (cI, (8 * Qe.C), .inl Qe.qf)), (Qe.qe, .inl (cL, (3 * Qe.C), .inr (.inl Qe.ef))), (tv, .inr (12, MF 13 (tw V1))), (V1.au, .inl (cC, V1.U, .inl V1.un))] H := by subst e_Qe; exact hP
      have hD : va_D A [(mo, .inr (13, MF 30 (rf (rs v Qe o) j1 b1))), (qx, .inl (cB, NN, .inl f)), (Qe.qq, .inl (cI, (8 * Qe.C), .inl Qe.qf)), (Qe.qe, .inl (cL, (3 * Qe.C), .inr (.inl Qe.ef))), (tv, .inr (12, MF 13 (tw V1))), (V1.au, .inl (cC, V1.U, .inl V1.un))] := by subst e_Qe; exact hD
      have hf_Qe : Qe.C = Qd.C ∧ Qe.R = Qd.R ∧ Qe.qf = upd Qd.qf (8 * Q1.R + 4) ((nI op)) := by rw [e_Qe]; exact ⟨rfl, rfl, rfl⟩
      have he_Qe : Qe.ef = Qd.ef := by rw [e_Qe]; rfl
      have hQk_Qe : QOK Qe := by rw [e_Qe]; exact hQk_Qd
      have hG_QeV1 : GQ (Q.R + 8 * (n - i) + 1) (V.us + (n + 12 - i)) Q V Qe V1 := by unfold GQ at hG_QdV1 ⊢; rw [hf_Qe.1]; exact hG_QdV1
      refine w_same (fun hq => ?_)
      refine w_tight (k := cQ Q V Qe V1) (n := sQ Q V Qe V1) (by unfold cQ sQ at hq ⊢; rw [hf_Qe.1]; exact hq) ?_
      have hR_Qe := hf_Qe.2.1
      have hqb_QeV1 : Qe.R ≤ Qe.C ∧ Qe.C ≤ 100000 := ⟨hQk_Qe.2.2.1, hQk_Qe.2.1⟩
      have hfit_QeV1 := hG_QeV1.fits
      refine lv_iload hx hb d_Mo_comparison_178 (lv_at hl 0 rfl) ?_
      have hfin : cpP f n (cmP f n ok (orL f n) (cmL f n) (qyL f n)) xm i = some (j1, cmpC op xm g9) := by rw [hcp, hv_2]; rfl
      have hkd : Qe.qf (8 * Q1.R + 0) = 33 := by rw [hf_Qe.2.2, pk_un (by omega), hf_Qd.2.2, pk_un (by omega), hf_Qb.2.2, pk_un (by omega)]; exact hA_Qa.2.2.2.2.1
      have hlk : Qe.qf (8 * Q1.R + 1) = -1 := by rw [hf_Qe.2.2, pk_un (by omega), hf_Qd.2.2, pk_un (by omega), hf_Qb.2.2, pk_un (by omega)]; exact hA_Qa.2.2.2.2.2 1 (by decide) (by decide)
      have hf2 : Qe.qf (8 * Q1.R + 2) = nI x0 := by rw [hf_Qe.2.2, pk_un (by omega), hf_Qd.2.2, pk_un (by omega), hf_Qb.2.2]; exact pk_us
      have hf3 : Qe.qf (8 * Q1.R + 3) = nI a9 := by rw [hf_Qe.2.2, pk_un (by omega), hf_Qd.2.2]; exact pk_us
      have hf4 : Qe.qf (8 * Q1.R + 4) = nI op := by rw [hf_Qe.2.2]; exact pk_us
      have hold : alr Q1 V1 Qe V1 0 Q1.R := ((hE_Qa.tr (alr.upd hf_Qb.2.2 he_Qb (by decide) (by omega))).tr (alr.upd hf_Qd.2.2 he_Qd (by decide) (by omega))).tr (alr.upd hf_Qe.2.2 he_Qe (by decide) (by omega))
      have hEx : alr Q V Qe V1 0 Q.R := hv_5.tr (hold.sub (Nat.le_refl _) (by omega))
      have hW0 : Wth (CMPf O C Y) Qe V1 lo Qe.R Q1.R x0 xm := Wth_up (CMPf_fr hOf hCf hYf) hL (Nat.le_refl _) (by omega) (by omega) (hEx.sub (Nat.zero_le _) (Nat.le_refl _))
      have hW1 : Wth (CMPf O C Y) Qe V1 lo Qe.R Q1.R a9 g9 := Wth_up (CMPf_fr hOf hCf hYf) hv_3 hlo (by omega) (by omega) (hold.sub (Nat.zero_le _) (Nat.le_refl _))
      have hB : BASf O C Y Qe V1 lo Qe.R Q1.R (cmpC op xm g9) := ⟨by omega, by omega, Or.inl ⟨hkd, x0, a9, op, xm, g9, hf2, hf3, hf4, hop, hW0, hW1, rfl⟩⟩
      refine w_same (fun hq => ?_)
      refine W.widen (k := kcap Q (Q.R + 8 * (n - i) + 1) + qcap V (V.us + (n + 12 - i))) (n := 22 * kcap Q (Q.R + 8 * (n - i) + 1) + 2 * qcap V (V.us + (n + 12 - i))) hfit_QeV1.1 hfit_QeV1.2 ?_
      have hPo : QPo n i 1 Q V (Qe, V1, j1, b1, o) := ⟨hQk_Qe, hG_QeV1, ⟨_, hX_V1, by omega⟩, by show Q.R ≤ Qe.R; omega, by show Qe.R ≤ Q.R + 8 * (n - i) + 1; omega⟩
      exact W.iret (v := nI Q1.R) hx hb hr (fun t9 ht hW => ⟨⟨nI Q1.R, (Qe, V1, j1, b1, o), rfl, ⟨hPo, Or.inl ⟨Q1.R, cmpC op xm g9, rfl, hfin, hB, by show Q1.R < Qe.R; omega, hlk, hEx, by show Qe.R + 8 * i + 13 ≤ Q.R + 8 * j1; omega, by show V1.us + i ≤ V.us + j1; omega, by show j1 ≤ n; omega, by show Q.R < Qe.R; omega, rfl⟩⟩, ⟨by rw [ht]; exact hP, va_K.moved hW.alike hK, hD⟩, by rw [ht]; exact hq⟩, hS.F ht⟩) hS.2.2 d_Mo_comparison_180
    · have hv_2 : cmP f n ok (orL f n) (cmL f n) (qyL f n) (skipH f n j) = none := hv_2
      subst hv_1
      refine lv_istore_n (lv' := [(3, .int (-1)), (0, .ref mo), (1, .int (nI x0)), (2, .int (nI op))]) hx hb d_Mo_comparison_139 rfl hl (by decide) rfl (fun ls hl => ?_)
      refine lv_iload_n hx hb d_Mo_comparison_140 rfl (lv_at hl 0 rfl) ?_
      refine lv_if_ge (tgt := 146) hx hb d_Mo_comparison_141 (by decide) (fun h => absurd h (by decide)) (fun _ => ?_)
      refine lv_iconst (v := (-1)) hx hb d_Mo_comparison_144 (by decide) ?_
      have hfin : cpP f n (cmP f n ok (orL f n) (cmL f n) (qyL f n)) xm i = none := by rw [hcp, hv_2]; rfl
      refine w_same (fun hq => ?_)
      refine W.widen (k := kcap Q (Q.R + 8 * (n - i) + 1) + qcap V (V.us + (n + 12 - i))) (n := 22 * kcap Q (Q.R + 8 * (n - i) + 1) + 2 * qcap V (V.us + (n + 12 - i))) hfit_Q1V1.1 hfit_Q1V1.2 ?_
      have hPo : QPo n i 1 Q V (Q1, V1, j1, b1, o1) := ⟨hQk_Q1, hG_Q1V1, ⟨_, hX_V1, by omega⟩, by show Q.R ≤ Q1.R; omega, by show Q1.R ≤ Q.R + 8 * (n - i) + 1; omega⟩
      exact W.iret (v := -1) hx hb hr (fun t9 ht hW => ⟨⟨-1, (Q1, V1, j1, b1, o1), rfl, ⟨hPo, Or.inr ⟨rfl, hfin⟩⟩, ⟨by rw [ht]; exact hP, va_K.moved hW.alike hK, hD⟩, by rw [ht]; exact hq⟩, hS.F ht⟩) hS.2.2 d_Mo_comparison_145
