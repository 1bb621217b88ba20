theorem w_1403 : (.methodLink "QueryBenchModel" 317 ⟨"QueryBenchModel", "queryRest", "(ZZ)I"⟩ : Cond) ∈ gtbl := gt_in 1403 (by decide +kernel) (by decide +kernel)
theorem w_1405 : (.instanceMethod ⟨"QueryBenchModel", "queryRest", "(ZZ)I"⟩ : Cond) ∈ gtbl := gt_in 1405 (by decide +kernel) (by decide +kernel)
theorem w_1461 : (.methodLink "QueryBenchModel" 328 ⟨"QueryBenchModel", "comparable", "()I"⟩ : Cond) ∈ gtbl := gt_in 1461 (by decide +kernel) (by decide +kernel)
theorem w_1463 : (.instanceMethod ⟨"QueryBenchModel", "comparable", "()I"⟩ : Cond) ∈ gtbl := gt_in 1463 (by decide +kernel) (by decide +kernel)
theorem Wth_up {M : Type} {P : QP M} (hP : Frm 8 P) {Q Q2 : QS} {V V2 : TS} {lo lo1 hi hi2 x a : Nat} {m : M} (h : P Q V lo1 hi a m) (h1 : lo ≤ lo1) (h2 : hi ≤ hi2) (hx : ¬ (lo1 ≤ x ∧ x < hi)) (e : alr Q V Q2 V2 lo1 hi) : Wth P Q2 V2 lo hi2 x a m := ⟨lo1, hi, h1, h2, hx, hP.use h e⟩
section
variable {f : Nat → Int32} {n : Nat} {ok : Bool} {orL : Nat → Option (Nat × CT)} {cmL : Nat → Option (Nat × OT)} {qyL : Bool → Nat → Option (Nat × Bool × QT)} {i : Nat}
theorem cmP_40 (h : numC (hereV f n i)) : cmP f n ok orL cmL qyL i = (whM f n i).map (fun p => (p.2, litO (3, p.1, []))) := by unfold cmP; rw [if_pos h]
theorem cmP_41 (h0 : ¬ numC (hereV f n i)) (h : hereV f n i = 39 ∨ hereV f n i = 34) : cmP f n ok orL cmL qyL i = (qtQ f n (hereV f n i) i).map (fun p => (p.2, litO (4, 0, p.1))) := by unfold cmP; rw [if_neg h0, if_pos h]
theorem cmP_45 (h0 : ¬ numC (hereV f n i)) (h1 : ¬ (hereV f n i = 39 ∨ hereV f n i = 34)) (h : begC (hereV f n i)) : cmP f n ok orL cmL qyL i = (qrP f n ok orL true (decide (hereV f n i = 36)) (i + 1)).map (fun p => (p.1, onlO p.2.2)) := by unfold cmP; rw [if_neg h0, if_neg h1, if_pos h]
theorem cmP_t (h0 : ¬ numC (hereV f n i)) (h1 : ¬ (hereV f n i = 39 ∨ hereV f n i = 34)) (h2 : ¬ begC (hereV f n i)) (h : hereV f n i = 116) : cmP f n ok orL cmL qyL i = (if mtB f n i (mtx 2) 4 = true then some (i + 4, litO (1, 0, [])) else none) := by unfold cmP; rw [if_neg h0, if_neg h1, if_neg h2, if_pos h]
theorem cmP_f (h0 : ¬ numC (hereV f n i)) (h1 : ¬ (hereV f n i = 39 ∨ hereV f n i = 34)) (h2 : ¬ begC (hereV f n i)) (h3 : ¬ hereV f n i = 116) (h : hereV f n i = 102) : cmP f n ok orL cmL qyL i = (if mtB f n i (mtx 3) 5 = true then some (i + 5, litO (2, 0, [])) else none) := by unfold cmP; rw [if_neg h0, if_neg h1, if_neg h2, if_neg h3, if_pos h]
theorem cmP_n (h0 : ¬ numC (hereV f n i)) (h1 : ¬ (hereV f n i = 39 ∨ hereV f n i = 34)) (h2 : ¬ begC (hereV f n i)) (h3 : ¬ hereV f n i = 116) (h4 : ¬ hereV f n i = 102) (h : hereV f n i = 110) : cmP f n ok orL cmL qyL i = (if mtB f n i (mtx 1) 4 = true then some (i + 4, litO (0, 0, [])) else none) := by unfold cmP; rw [if_neg h0, if_neg h1, if_neg h2, if_neg h3, if_neg h4, if_pos h]
theorem cmP_fn (h0 : ¬ numC (hereV f n i)) (h1 : ¬ (hereV f n i = 39 ∨ hereV f n i = 34)) (h2 : ¬ begC (hereV f n i)) (h3 : ¬ hereV f n i = 116) (h4 : ¬ hereV f n i = 102) (h5 : ¬ hereV f n i = 110) : cmP f n ok orL cmL qyL i = (match fnP f n i with | none => none | some j => fnT f n ok cmL qyL i j) := by unfold cmP; rw [if_neg h0, if_neg h1, if_neg h2, if_neg h3, if_neg h4, if_neg h5]; cases fnP f n i <;> rfl
theorem fnT_n {j : Nat} (h : ¬ (hereV f n j = 40 ∧ ok = true)) : fnT f n ok cmL qyL i j = none := by unfold fnT; rw [if_pos h]
theorem fnT_a {j : Nat} (h : hereV f n j = 40 ∧ ok = true) (h2 : fnA f n cmL qyL i (skipH f n (j + 1)) = none) : fnT f n ok cmL qyL i j = none := by unfold fnT; rw [if_neg (fun q => q h), h2]
theorem fnT_s {j j2 : Nat} {m : OT} (h : hereV f n j = 40 ∧ ok = true) (h2 : fnA f n cmL qyL i (skipH f n (j + 1)) = some (j2, m)) (h3 : hereV f n (skipH f n j2) = 41) : fnT f n ok cmL qyL i j = some (skipH f n j2 + 1, m) := by unfold fnT; rw [if_neg (fun q => q h), h2]; exact if_pos h3
theorem fnT_e {j j2 : Nat} {m : OT} (h : hereV f n j = 40 ∧ ok = true) (h2 : fnA f n cmL qyL i (skipH f n (j + 1)) = some (j2, m)) (h3 : ¬ hereV f n (skipH f n j2) = 41) : fnT f n ok cmL qyL i j = none := by unfold fnT; rw [if_neg (fun q => q h), h2]; exact if_neg h3
theorem fnA_l {j j2 : Nat} {m : OT} (hf : hereV f n i = 108) (h : cmL j = some (j2, m)) : fnA f n cmL qyL i j = some (j2, lenO m) := by unfold fnA; rw [if_pos hf, h]; rfl
theorem fnA_l0 {j : Nat} (hf : hereV f n i = 108) (h : cmL j = none) : fnA f n cmL qyL i j = none := by unfold fnA; rw [if_pos hf, h]; rfl
theorem fnA_c {j j2 : Nat} {b : Bool} {m : QT} (hf : hereV f n i = 99) (hb : begC (hereV f n j)) (h : qyL (decide (hereV f n j = 36)) (j + 1) = some (j2, b, m)) : fnA f n cmL qyL i j = some (j2, cntO m) := by
  unfold fnA
  rw [if_neg (by rw [hf]; decide), if_pos hb, h]
  show some (j2, if hereV f n i = 99 then cntO m else onlO m) = _
  rw [if_pos hf]
theorem fnA_v {j j2 : Nat} {b : Bool} {m : QT} (hf : hereV f n i = 118) (hb : begC (hereV f n j)) (h : qyL (decide (hereV f n j = 36)) (j + 1) = some (j2, b, m)) : fnA f n cmL qyL i j = some (j2, onlO m) := by
  unfold fnA
  rw [if_neg (by rw [hf]; decide), if_pos hb, h]
  show some (j2, if hereV f n i = 99 then cntO m else onlO m) = _
  rw [if_neg (by rw [hf]; decide)]
theorem fnA_q0 {j : Nat} (hf : ¬ hereV f n i = 108) (hb : begC (hereV f n j)) (h : qyL (decide (hereV f n j = 36)) (j + 1) = none) : fnA f n cmL qyL i j = none := by unfold fnA; rw [if_neg hf, if_pos hb, h]; rfl
theorem fnA_b0 {j : Nat} (hf : ¬ hereV f n i = 108) (hb : ¬ begC (hereV f n j)) : fnA f n cmL qyL i j = none := by unfold fnA; rw [if_neg hf, if_neg hb]
end
/-- a text constant far in the pool -/
theorem va_ldcwS {p : Program} {l : Launch} {e : Env} {R : Room} {s : State} {m : MethodId} {args : Array Value} {below : List Frame} {meth : Method} {c : Code} {Q : State → Prop} {cells slots : Nat} {H : Heap} {locs : List Loc} {cc : ByteArray} {pc : Nat} {ls : Array Slot} {rest : List Value} (hexec : p.tables.exec = Jvm.exec) (hb : c.code = cc) {own tx : String} {index q : Nat} (hown : s.vm.findClass own = some m.cls) (hZ : vk_R own index tx q s) (hdg : decode cc pc = .ok (.ldc_w index, 3))
    (k : W p l e R s m args below meth c H locs cells slots Q (F0 m (pc + 3) ls (.ref q :: rest))) : W p l e R s m args below meth c H locs cells slots Q (F0 m pc ls rest) := by
  intro T hT X
  obtain ⟨t, a1, b1⟩ := k T hT X
  obtain ⟨k9, cf, i9, a9, hk, hcf, hcp, -, hr, hev⟩ := Cond.stringRef_spec hown hZ.1
  cases hZ.2.symm.trans hev
  obtain ⟨k8, hk8, he⟩ := X.warmed.alike.2.2 _ _ hk
  have hr8 : k8.resolved[index]? = some (some (.string q)) := by
    rcases X.warmed.entry hk hk8 index with h | ⟨h, -⟩
    · rw [h]; exact hr
    · rw [hr] at h; cases h
  have hdg : decode c.code (F0 m pc ls rest).pc = .ok (.ldc_w index, 3) := by rw [hb]; exact hdg
  refine ⟨t, ?_, b1⟩
  jvm_step X.here [hexec, hdg, ldc_w.wp_string (e := e) (s := T) (f := F0 m pc ls rest) X.here.top hk8 (by rw [he]; exact hcf) hcp hr8]
  exact a1
def CMo (cm : Nat → Option (Nat × OT)) (C : QP OT) (n i o : Nat) (Q : QS) (V : TS) (res : Int32) (u : QS × TS × Nat × Int32 × Nat) : Prop := QPo n i 1 Q V u ∧ ((∃ a m, res = nI a ∧ cm i = some (u.2.2.1, m) ∧ C u.1 u.2.1 Q.R u.1.R a m ∧ a < u.1.R ∧ alr Q V u.1 u.2.1 0 Q.R ∧ u.1.R + 8 * i + 6 ≤ Q.R + 8 * u.2.2.1 ∧ u.2.1.us + i ≤ V.us + u.2.2.1 ∧ u.2.2.1 ≤ n ∧ Q.R < u.1.R ∧ u.2.2.2.2 = o) ∨ (res = -1 ∧ cm i = none))
def QYo (qy : Nat → Option (Nat × Bool × QT)) (Y : QP QT) (n i o : Nat) (Q : QS) (V : TS) (res : Int32) (u : QS × TS × Nat × Int32 × Nat) : Prop := QPo n i 9 Q V u ∧ ((∃ fl m, res = nI Q.R ∧ qy i = some (u.2.2.1, fl, m) ∧ Y u.1 u.2.1 Q.R u.1.R Q.R m ∧ alr Q V u.1 u.2.1 0 Q.R ∧ u.1.R + 8 * i ≤ Q.R + 8 * u.2.2.1 + 1 ∧ u.2.1.us + i ≤ V.us + u.2.2.1 ∧ u.2.2.1 ≤ n ∧ Q.R < u.1.R ∧ u.2.2.2.2 = o) ∨ (res = -1 ∧ qy i = none))
abbrev b_Mo_comparable : ByteArray := prog_14_method_50_code
def y_Mo_comparable : MethodName := ⟨"QueryBenchModel", "comparable", "()I"⟩
abbrev k_Mo_comparable : Cond := .code y_Mo_comparable b_Mo_comparable 5 (some .int)
theorem i_Mo_comparable : k_Mo_comparable ∈ gtbl := gt_in 1464 (by decide +kernel) (by decide +kernel)
theorem d_Mo_comparable_0 : decode b_Mo_comparable 0 = .ok (.aload_n 0, 1) := by decide +kernel
theorem d_Mo_comparable_1 : decode b_Mo_comparable 1 = .ok (.invokevirtual 147, 3) := by decide +kernel
theorem d_Mo_comparable_4 : decode b_Mo_comparable 4 = .ok (.istore_n 1, 1) := by decide +kernel
theorem d_Mo_comparable_5 : decode b_Mo_comparable 5 = .ok (.iload_n 1, 1) := by decide +kernel
theorem d_Mo_comparable_6 : decode b_Mo_comparable 6 = .ok (.bipush 45, 2) := by decide +kernel
theorem d_Mo_comparable_8 : decode b_Mo_comparable 8 = .ok (.if_icmp .eq 10, 3) := by decide +kernel
theorem d_Mo_comparable_11 : decode b_Mo_comparable 11 = .ok (.iload_n 1, 1) := by decide +kernel
theorem d_Mo_comparable_12 : decode b_Mo_comparable 12 = .ok (.invokestatic 166, 3) := by decide +kernel
theorem d_Mo_comparable_15 : decode b_Mo_comparable 15 = .ok (.ifCond .eq 32, 3) := by decide +kernel
theorem d_Mo_comparable_18 : decode b_Mo_comparable 18 = .ok (.aload_n 0, 1) := by decide +kernel
theorem d_Mo_comparable_19 : decode b_Mo_comparable 19 = .ok (.bipush 40, 2) := by decide +kernel
theorem d_Mo_comparable_21 : decode b_Mo_comparable 21 = .ok (.invokevirtual 269, 3) := by decide +kernel
theorem d_Mo_comparable_24 : decode b_Mo_comparable 24 = .ok (.istore_n 2, 1) := by decide +kernel
theorem d_Mo_comparable_25 : decode b_Mo_comparable 25 = .ok (.aload_n 0, 1) := by decide +kernel
theorem d_Mo_comparable_26 : decode b_Mo_comparable 26 = .ok (.iload_n 2, 1) := by decide +kernel
theorem d_Mo_comparable_27 : decode b_Mo_comparable 27 = .ok (.iconst 2, 1) := by decide +kernel
theorem d_Mo_comparable_28 : decode b_Mo_comparable 28 = .ok (.iconst 0, 1) := by decide +kernel
theorem d_Mo_comparable_29 : decode b_Mo_comparable 29 = .ok (.invokevirtual 272, 3) := by decide +kernel
theorem d_Mo_comparable_32 : decode b_Mo_comparable 32 = .ok (.aload_n 0, 1) := by decide +kernel
theorem d_Mo_comparable_33 : decode b_Mo_comparable 33 = .ok (.iload_n 2, 1) := by decide +kernel
theorem d_Mo_comparable_34 : decode b_Mo_comparable 34 = .ok (.iconst 0, 1) := by decide +kernel
theorem d_Mo_comparable_35 : decode b_Mo_comparable 35 = .ok (.invokevirtual 303, 3) := by decide +kernel
theorem d_Mo_comparable_38 : decode b_Mo_comparable 38 = .ok (.ifCond .eq 7, 3) := by decide +kernel
theorem d_Mo_comparable_41 : decode b_Mo_comparable 41 = .ok (.iload_n 2, 1) := by decide +kernel
theorem d_Mo_comparable_42 : decode b_Mo_comparable 42 = .ok (.goto 4, 3) := by decide +kernel
theorem d_Mo_comparable_45 : decode b_Mo_comparable 45 = .ok (.iconst (-1), 1) := by decide +kernel
theorem d_Mo_comparable_46 : decode b_Mo_comparable 46 = .ok (.ireturn, 1) := by decide +kernel
theorem d_Mo_comparable_47 : decode b_Mo_comparable 47 = .ok (.iload_n 1, 1) := by decide +kernel
theorem d_Mo_comparable_48 : decode b_Mo_comparable 48 = .ok (.bipush 39, 2) := by decide +kernel
theorem d_Mo_comparable_50 : decode b_Mo_comparable 50 = .ok (.if_icmp .eq 9, 3) := by decide +kernel
theorem d_Mo_comparable_53 : decode b_Mo_comparable 53 = .ok (.iload_n 1, 1) := by decide +kernel
theorem d_Mo_comparable_54 : decode b_Mo_comparable 54 = .ok (.bipush 34, 2) := by decide +kernel
theorem d_Mo_comparable_56 : decode b_Mo_comparable 56 = .ok (.if_icmp .ne 59, 3) := by decide +kernel
theorem d_Mo_comparable_59 : decode b_Mo_comparable 59 = .ok (.aload_n 0, 1) := by decide +kernel
theorem d_Mo_comparable_60 : decode b_Mo_comparable 60 = .ok (.bipush 41, 2) := by decide +kernel
theorem d_Mo_comparable_62 : decode b_Mo_comparable 62 = .ok (.invokevirtual 269, 3) := by decide +kernel
theorem d_Mo_comparable_65 : decode b_Mo_comparable 65 = .ok (.istore_n 2, 1) := by decide +kernel
theorem d_Mo_comparable_66 : decode b_Mo_comparable 66 = .ok (.aload_n 0, 1) := by decide +kernel
theorem d_Mo_comparable_67 : decode b_Mo_comparable 67 = .ok (.iload_n 2, 1) := by decide +kernel
theorem d_Mo_comparable_68 : decode b_Mo_comparable 68 = .ok (.iconst 2, 1) := by decide +kernel
theorem d_Mo_comparable_69 : decode b_Mo_comparable 69 = .ok (.aload_n 0, 1) := by decide +kernel
theorem d_Mo_comparable_70 : decode b_Mo_comparable 70 = .ok (.getfield 56, 3) := by decide +kernel
theorem d_Mo_comparable_73 : decode b_Mo_comparable 73 = .ok (.getfield 204, 3) := by decide +kernel
theorem d_Mo_comparable_76 : decode b_Mo_comparable 76 = .ok (.invokevirtual 272, 3) := by decide +kernel
theorem d_Mo_comparable_79 : decode b_Mo_comparable 79 = .ok (.aload_n 0, 1) := by decide +kernel
theorem d_Mo_comparable_80 : decode b_Mo_comparable 80 = .ok (.iload_n 1, 1) := by decide +kernel
theorem d_Mo_comparable_81 : decode b_Mo_comparable 81 = .ok (.aload_n 0, 1) := by decide +kernel
theorem d_Mo_comparable_82 : decode b_Mo_comparable 82 = .ok (.getfield 56, 3) := by decide +kernel
theorem d_Mo_comparable_85 : decode b_Mo_comparable 85 = .ok (.invokevirtual 200, 3) := by decide +kernel
theorem d_Mo_comparable_88 : decode b_Mo_comparable 88 = .ok (.ifCond .ne 5, 3) := by decide +kernel
theorem d_Mo_comparable_91 : decode b_Mo_comparable 91 = .ok (.iconst (-1), 1) := by decide +kernel
theorem d_Mo_comparable_92 : decode b_Mo_comparable 92 = .ok (.ireturn, 1) := by decide +kernel
theorem d_Mo_comparable_93 : decode b_Mo_comparable 93 = .ok (.aload_n 0, 1) := by decide +kernel
theorem d_Mo_comparable_94 : decode b_Mo_comparable 94 = .ok (.iload_n 2, 1) := by decide +kernel
theorem d_Mo_comparable_95 : decode b_Mo_comparable 95 = .ok (.iconst 3, 1) := by decide +kernel
theorem d_Mo_comparable_96 : decode b_Mo_comparable 96 = .ok (.aload_n 0, 1) := by decide +kernel
theorem d_Mo_comparable_97 : decode b_Mo_comparable 97 = .ok (.getfield 56, 3) := by decide +kernel
theorem d_Mo_comparable_100 : decode b_Mo_comparable 100 = .ok (.getfield 204, 3) := by decide +kernel
theorem d_Mo_comparable_103 : decode b_Mo_comparable 103 = .ok (.aload_n 0, 1) := by decide +kernel
theorem d_Mo_comparable_104 : decode b_Mo_comparable 104 = .ok (.iload_n 2, 1) := by decide +kernel
theorem d_Mo_comparable_105 : decode b_Mo_comparable 105 = .ok (.iconst 2, 1) := by decide +kernel
theorem d_Mo_comparable_106 : decode b_Mo_comparable 106 = .ok (.invokevirtual 286, 3) := by decide +kernel
theorem d_Mo_comparable_109 : decode b_Mo_comparable 109 = .ok (.isub, 1) := by decide +kernel
theorem d_Mo_comparable_110 : decode b_Mo_comparable 110 = .ok (.invokevirtual 272, 3) := by decide +kernel
theorem d_Mo_comparable_113 : decode b_Mo_comparable 113 = .ok (.iload_n 2, 1) := by decide +kernel
theorem d_Mo_comparable_114 : decode b_Mo_comparable 114 = .ok (.ireturn, 1) := by decide +kernel
theorem d_Mo_comparable_115 : decode b_Mo_comparable 115 = .ok (.iload_n 1, 1) := by decide +kernel
theorem d_Mo_comparable_116 : decode b_Mo_comparable 116 = .ok (.bipush 64, 2) := by decide +kernel
theorem d_Mo_comparable_118 : decode b_Mo_comparable 118 = .ok (.if_icmp .eq 9, 3) := by decide +kernel
theorem d_Mo_comparable_121 : decode b_Mo_comparable 121 = .ok (.iload_n 1, 1) := by decide +kernel
theorem d_Mo_comparable_122 : decode b_Mo_comparable 122 = .ok (.bipush 36, 2) := by decide +kernel
theorem d_Mo_comparable_124 : decode b_Mo_comparable 124 = .ok (.if_icmp .ne 52, 3) := by decide +kernel
theorem d_Mo_comparable_127 : decode b_Mo_comparable 127 = .ok (.aload_n 0, 1) := by decide +kernel
theorem d_Mo_comparable_128 : decode b_Mo_comparable 128 = .ok (.dup, 1) := by decide +kernel
theorem d_Mo_comparable_129 : decode b_Mo_comparable 129 = .ok (.getfield 135, 3) := by decide +kernel
theorem d_Mo_comparable_132 : decode b_Mo_comparable 132 = .ok (.iconst 1, 1) := by decide +kernel
theorem d_Mo_comparable_133 : decode b_Mo_comparable 133 = .ok (.iadd, 1) := by decide +kernel
theorem d_Mo_comparable_134 : decode b_Mo_comparable 134 = .ok (.putfield 135, 3) := by decide +kernel
theorem d_Mo_comparable_137 : decode b_Mo_comparable 137 = .ok (.aload_n 0, 1) := by decide +kernel
theorem d_Mo_comparable_138 : decode b_Mo_comparable 138 = .ok (.iload_n 1, 1) := by decide +kernel
theorem d_Mo_comparable_139 : decode b_Mo_comparable 139 = .ok (.bipush 36, 2) := by decide +kernel
theorem d_Mo_comparable_141 : decode b_Mo_comparable 141 = .ok (.if_icmp .ne 7, 3) := by decide +kernel
theorem d_Mo_comparable_144 : decode b_Mo_comparable 144 = .ok (.iconst 1, 1) := by decide +kernel
theorem d_Mo_comparable_145 : decode b_Mo_comparable 145 = .ok (.goto 4, 3) := by decide +kernel
theorem d_Mo_comparable_148 : decode b_Mo_comparable 148 = .ok (.iconst 0, 1) := by decide +kernel
theorem d_Mo_comparable_149 : decode b_Mo_comparable 149 = .ok (.iconst 1, 1) := by decide +kernel
theorem d_Mo_comparable_150 : decode b_Mo_comparable 150 = .ok (.invokevirtual 317, 3) := by decide +kernel
theorem d_Mo_comparable_153 : decode b_Mo_comparable 153 = .ok (.istore_n 2, 1) := by decide +kernel
theorem d_Mo_comparable_154 : decode b_Mo_comparable 154 = .ok (.iload_n 2, 1) := by decide +kernel
theorem d_Mo_comparable_155 : decode b_Mo_comparable 155 = .ok (.ifCond .ge 5, 3) := by decide +kernel
theorem d_Mo_comparable_158 : decode b_Mo_comparable 158 = .ok (.iconst (-1), 1) := by decide +kernel
theorem d_Mo_comparable_159 : decode b_Mo_comparable 159 = .ok (.ireturn, 1) := by decide +kernel
theorem d_Mo_comparable_160 : decode b_Mo_comparable 160 = .ok (.aload_n 0, 1) := by decide +kernel
theorem d_Mo_comparable_161 : decode b_Mo_comparable 161 = .ok (.bipush 45, 2) := by decide +kernel
theorem d_Mo_comparable_163 : decode b_Mo_comparable 163 = .ok (.invokevirtual 269, 3) := by decide +kernel
theorem d_Mo_comparable_166 : decode b_Mo_comparable 166 = .ok (.istore_n 3, 1) := by decide +kernel
theorem d_Mo_comparable_167 : decode b_Mo_comparable 167 = .ok (.aload_n 0, 1) := by decide +kernel
theorem d_Mo_comparable_168 : decode b_Mo_comparable 168 = .ok (.iload_n 3, 1) := by decide +kernel
theorem d_Mo_comparable_169 : decode b_Mo_comparable 169 = .ok (.iconst 2, 1) := by decide +kernel
theorem d_Mo_comparable_170 : decode b_Mo_comparable 170 = .ok (.iload_n 2, 1) := by decide +kernel
theorem d_Mo_comparable_171 : decode b_Mo_comparable 171 = .ok (.invokevirtual 272, 3) := by decide +kernel
theorem d_Mo_comparable_174 : decode b_Mo_comparable 174 = .ok (.iload_n 3, 1) := by decide +kernel
theorem d_Mo_comparable_175 : decode b_Mo_comparable 175 = .ok (.ireturn, 1) := by decide +kernel
theorem d_Mo_comparable_176 : decode b_Mo_comparable 176 = .ok (.iload_n 1, 1) := by decide +kernel
theorem d_Mo_comparable_177 : decode b_Mo_comparable 177 = .ok (.bipush 116, 2) := by decide +kernel
theorem d_Mo_comparable_179 : decode b_Mo_comparable 179 = .ok (.if_icmp .ne 23, 3) := by decide +kernel
theorem d_Mo_comparable_182 : decode b_Mo_comparable 182 = .ok (.aload_n 0, 1) := by decide +kernel
theorem d_Mo_comparable_183 : decode b_Mo_comparable 183 = .ok (.ldc 189, 2) := by decide +kernel
theorem d_Mo_comparable_185 : decode b_Mo_comparable 185 = .ok (.invokevirtual 193, 3) := by decide +kernel
theorem d_Mo_comparable_188 : decode b_Mo_comparable 188 = .ok (.ifCond .eq 12, 3) := by decide +kernel
theorem d_Mo_comparable_191 : decode b_Mo_comparable 191 = .ok (.aload_n 0, 1) := by decide +kernel
theorem d_Mo_comparable_192 : decode b_Mo_comparable 192 = .ok (.bipush 42, 2) := by decide +kernel
theorem d_Mo_comparable_194 : decode b_Mo_comparable 194 = .ok (.invokevirtual 269, 3) := by decide +kernel
theorem d_Mo_comparable_197 : decode b_Mo_comparable 197 = .ok (.goto 4, 3) := by decide +kernel
theorem d_Mo_comparable_200 : decode b_Mo_comparable 200 = .ok (.iconst (-1), 1) := by decide +kernel
theorem d_Mo_comparable_201 : decode b_Mo_comparable 201 = .ok (.ireturn, 1) := by decide +kernel
theorem d_Mo_comparable_202 : decode b_Mo_comparable 202 = .ok (.iload_n 1, 1) := by decide +kernel
theorem d_Mo_comparable_203 : decode b_Mo_comparable 203 = .ok (.bipush 102, 2) := by decide +kernel
theorem d_Mo_comparable_205 : decode b_Mo_comparable 205 = .ok (.if_icmp .ne 23, 3) := by decide +kernel
theorem d_Mo_comparable_208 : decode b_Mo_comparable 208 = .ok (.aload_n 0, 1) := by decide +kernel
theorem d_Mo_comparable_209 : decode b_Mo_comparable 209 = .ok (.ldc 191, 2) := by decide +kernel
theorem d_Mo_comparable_211 : decode b_Mo_comparable 211 = .ok (.invokevirtual 193, 3) := by decide +kernel
theorem d_Mo_comparable_214 : decode b_Mo_comparable 214 = .ok (.ifCond .eq 12, 3) := by decide +kernel
theorem d_Mo_comparable_217 : decode b_Mo_comparable 217 = .ok (.aload_n 0, 1) := by decide +kernel
theorem d_Mo_comparable_218 : decode b_Mo_comparable 218 = .ok (.bipush 43, 2) := by decide +kernel
theorem d_Mo_comparable_220 : decode b_Mo_comparable 220 = .ok (.invokevirtual 269, 3) := by decide +kernel
theorem d_Mo_comparable_223 : decode b_Mo_comparable 223 = .ok (.goto 4, 3) := by decide +kernel
theorem d_Mo_comparable_226 : decode b_Mo_comparable 226 = .ok (.iconst (-1), 1) := by decide +kernel
theorem d_Mo_comparable_227 : decode b_Mo_comparable 227 = .ok (.ireturn, 1) := by decide +kernel
theorem d_Mo_comparable_228 : decode b_Mo_comparable 228 = .ok (.iload_n 1, 1) := by decide +kernel
theorem d_Mo_comparable_229 : decode b_Mo_comparable 229 = .ok (.bipush 110, 2) := by decide +kernel
theorem d_Mo_comparable_231 : decode b_Mo_comparable 231 = .ok (.if_icmp .ne 23, 3) := by decide +kernel
theorem d_Mo_comparable_234 : decode b_Mo_comparable 234 = .ok (.aload_n 0, 1) := by decide +kernel
theorem d_Mo_comparable_235 : decode b_Mo_comparable 235 = .ok (.ldc 187, 2) := by decide +kernel
theorem d_Mo_comparable_237 : decode b_Mo_comparable 237 = .ok (.invokevirtual 193, 3) := by decide +kernel
theorem d_Mo_comparable_240 : decode b_Mo_comparable 240 = .ok (.ifCond .eq 12, 3) := by decide +kernel
theorem d_Mo_comparable_243 : decode b_Mo_comparable 243 = .ok (.aload_n 0, 1) := by decide +kernel
theorem d_Mo_comparable_244 : decode b_Mo_comparable 244 = .ok (.bipush 44, 2) := by decide +kernel
theorem d_Mo_comparable_246 : decode b_Mo_comparable 246 = .ok (.invokevirtual 269, 3) := by decide +kernel
theorem d_Mo_comparable_249 : decode b_Mo_comparable 249 = .ok (.goto 4, 3) := by decide +kernel
theorem d_Mo_comparable_252 : decode b_Mo_comparable 252 = .ok (.iconst (-1), 1) := by decide +kernel
theorem d_Mo_comparable_253 : decode b_Mo_comparable 253 = .ok (.ireturn, 1) := by decide +kernel
theorem d_Mo_comparable_254 : decode b_Mo_comparable 254 = .ok (.iload_n 1, 1) := by decide +kernel
theorem d_Mo_comparable_255 : decode b_Mo_comparable 255 = .ok (.bipush 108, 2) := by decide +kernel
theorem d_Mo_comparable_257 : decode b_Mo_comparable 257 = .ok (.if_icmp .eq 26, 3) := by decide +kernel
theorem d_Mo_comparable_260 : decode b_Mo_comparable 260 = .ok (.iload_n 1, 1) := by decide +kernel
theorem d_Mo_comparable_261 : decode b_Mo_comparable 261 = .ok (.bipush 99, 2) := by decide +kernel
theorem d_Mo_comparable_263 : decode b_Mo_comparable 263 = .ok (.if_icmp .eq 20, 3) := by decide +kernel
theorem d_Mo_comparable_266 : decode b_Mo_comparable 266 = .ok (.iload_n 1, 1) := by decide +kernel
theorem d_Mo_comparable_267 : decode b_Mo_comparable 267 = .ok (.bipush 118, 2) := by decide +kernel
theorem d_Mo_comparable_269 : decode b_Mo_comparable 269 = .ok (.if_icmp .eq 14, 3) := by decide +kernel
theorem d_Mo_comparable_272 : decode b_Mo_comparable 272 = .ok (.aload_n 0, 1) := by decide +kernel
theorem d_Mo_comparable_273 : decode b_Mo_comparable 273 = .ok (.aload_n 0, 1) := by decide +kernel
theorem d_Mo_comparable_274 : decode b_Mo_comparable 274 = .ok (.getfield 135, 3) := by decide +kernel
theorem d_Mo_comparable_277 : decode b_Mo_comparable 277 = .ok (.invokevirtual 151, 3) := by decide +kernel
theorem d_Mo_comparable_280 : decode b_Mo_comparable 280 = .ok (.pop, 1) := by decide +kernel
theorem d_Mo_comparable_281 : decode b_Mo_comparable 281 = .ok (.iconst (-1), 1) := by decide +kernel
theorem d_Mo_comparable_282 : decode b_Mo_comparable 282 = .ok (.ireturn, 1) := by decide +kernel
theorem d_Mo_comparable_283 : decode b_Mo_comparable 283 = .ok (.aload_n 0, 1) := by decide +kernel
theorem d_Mo_comparable_284 : decode b_Mo_comparable 284 = .ok (.iload_n 1, 1) := by decide +kernel
theorem d_Mo_comparable_285 : decode b_Mo_comparable 285 = .ok (.bipush 108, 2) := by decide +kernel
theorem d_Mo_comparable_287 : decode b_Mo_comparable 287 = .ok (.if_icmp .ne 9, 3) := by decide +kernel
theorem d_Mo_comparable_290 : decode b_Mo_comparable 290 = .ok (.ldc_w 338, 3) := by decide +kernel
theorem d_Mo_comparable_293 : decode b_Mo_comparable 293 = .ok (.goto 18, 3) := by decide +kernel
theorem d_Mo_comparable_296 : decode b_Mo_comparable 296 = .ok (.iload_n 1, 1) := by decide +kernel
theorem d_Mo_comparable_297 : decode b_Mo_comparable 297 = .ok (.bipush 99, 2) := by decide +kernel
theorem d_Mo_comparable_299 : decode b_Mo_comparable 299 = .ok (.if_icmp .ne 9, 3) := by decide +kernel
theorem d_Mo_comparable_302 : decode b_Mo_comparable 302 = .ok (.ldc_w 339, 3) := by decide +kernel
theorem d_Mo_comparable_305 : decode b_Mo_comparable 305 = .ok (.goto 6, 3) := by decide +kernel
theorem d_Mo_comparable_308 : decode b_Mo_comparable 308 = .ok (.ldc_w 341, 3) := by decide +kernel
theorem d_Mo_comparable_311 : decode b_Mo_comparable 311 = .ok (.invokevirtual 193, 3) := by decide +kernel
theorem d_Mo_comparable_314 : decode b_Mo_comparable 314 = .ok (.ifCond .eq 12, 3) := by decide +kernel
theorem d_Mo_comparable_317 : decode b_Mo_comparable 317 = .ok (.aload_n 0, 1) := by decide +kernel
theorem d_Mo_comparable_318 : decode b_Mo_comparable 318 = .ok (.bipush 40, 2) := by decide +kernel
theorem d_Mo_comparable_320 : decode b_Mo_comparable 320 = .ok (.invokevirtual 290, 3) := by decide +kernel
theorem d_Mo_comparable_323 : decode b_Mo_comparable 323 = .ok (.ifCond .ne 5, 3) := by decide +kernel
theorem d_Mo_comparable_326 : decode b_Mo_comparable 326 = .ok (.iconst (-1), 1) := by decide +kernel
theorem d_Mo_comparable_327 : decode b_Mo_comparable 327 = .ok (.ireturn, 1) := by decide +kernel
theorem d_Mo_comparable_328 : decode b_Mo_comparable 328 = .ok (.aload_n 0, 1) := by decide +kernel
theorem d_Mo_comparable_329 : decode b_Mo_comparable 329 = .ok (.invokevirtual 184, 3) := by decide +kernel
theorem d_Mo_comparable_332 : decode b_Mo_comparable 332 = .ok (.aload_n 0, 1) := by decide +kernel
theorem d_Mo_comparable_333 : decode b_Mo_comparable 333 = .ok (.iload_n 1, 1) := by decide +kernel
theorem d_Mo_comparable_334 : decode b_Mo_comparable 334 = .ok (.bipush 108, 2) := by decide +kernel
theorem d_Mo_comparable_336 : decode b_Mo_comparable 336 = .ok (.if_icmp .ne 8, 3) := by decide +kernel
theorem d_Mo_comparable_339 : decode b_Mo_comparable 339 = .ok (.bipush 46, 2) := by decide +kernel
theorem d_Mo_comparable_341 : decode b_Mo_comparable 341 = .ok (.goto 16, 3) := by decide +kernel
theorem d_Mo_comparable_344 : decode b_Mo_comparable 344 = .ok (.iload_n 1, 1) := by decide +kernel
theorem d_Mo_comparable_345 : decode b_Mo_comparable 345 = .ok (.bipush 99, 2) := by decide +kernel
theorem d_Mo_comparable_347 : decode b_Mo_comparable 347 = .ok (.if_icmp .ne 8, 3) := by decide +kernel
theorem d_Mo_comparable_350 : decode b_Mo_comparable 350 = .ok (.bipush 47, 2) := by decide +kernel
theorem d_Mo_comparable_352 : decode b_Mo_comparable 352 = .ok (.goto 5, 3) := by decide +kernel
theorem d_Mo_comparable_355 : decode b_Mo_comparable 355 = .ok (.bipush 48, 2) := by decide +kernel
theorem d_Mo_comparable_357 : decode b_Mo_comparable 357 = .ok (.invokevirtual 269, 3) := by decide +kernel
theorem d_Mo_comparable_360 : decode b_Mo_comparable 360 = .ok (.istore_n 2, 1) := by decide +kernel
theorem d_Mo_comparable_361 : decode b_Mo_comparable 361 = .ok (.iload_n 1, 1) := by decide +kernel
theorem d_Mo_comparable_362 : decode b_Mo_comparable 362 = .ok (.bipush 108, 2) := by decide +kernel
theorem d_Mo_comparable_364 : decode b_Mo_comparable 364 = .ok (.if_icmp .ne 11, 3) := by decide +kernel
theorem d_Mo_comparable_367 : decode b_Mo_comparable 367 = .ok (.aload_n 0, 1) := by decide +kernel
theorem d_Mo_comparable_368 : decode b_Mo_comparable 368 = .ok (.invokevirtual 328, 3) := by decide +kernel
theorem d_Mo_comparable_371 : decode b_Mo_comparable 371 = .ok (.istore_n 3, 1) := by decide +kernel
theorem d_Mo_comparable_372 : decode b_Mo_comparable 372 = .ok (.goto 69, 3) := by decide +kernel
theorem d_Mo_comparable_375 : decode b_Mo_comparable 375 = .ok (.aload_n 0, 1) := by decide +kernel
theorem d_Mo_comparable_376 : decode b_Mo_comparable 376 = .ok (.invokevirtual 147, 3) := by decide +kernel
theorem d_Mo_comparable_379 : decode b_Mo_comparable 379 = .ok (.bipush 64, 2) := by decide +kernel
theorem d_Mo_comparable_381 : decode b_Mo_comparable 381 = .ok (.if_icmp .eq 12, 3) := by decide +kernel
theorem d_Mo_comparable_384 : decode b_Mo_comparable 384 = .ok (.aload_n 0, 1) := by decide +kernel
theorem d_Mo_comparable_385 : decode b_Mo_comparable 385 = .ok (.invokevirtual 147, 3) := by decide +kernel
theorem d_Mo_comparable_388 : decode b_Mo_comparable 388 = .ok (.bipush 36, 2) := by decide +kernel
theorem d_Mo_comparable_390 : decode b_Mo_comparable 390 = .ok (.if_icmp .ne 40, 3) := by decide +kernel
theorem d_Mo_comparable_393 : decode b_Mo_comparable 393 = .ok (.aload_n 0, 1) := by decide +kernel
theorem d_Mo_comparable_394 : decode b_Mo_comparable 394 = .ok (.invokevirtual 147, 3) := by decide +kernel
theorem d_Mo_comparable_397 : decode b_Mo_comparable 397 = .ok (.bipush 36, 2) := by decide +kernel
theorem d_Mo_comparable_399 : decode b_Mo_comparable 399 = .ok (.if_icmp .ne 7, 3) := by decide +kernel
theorem d_Mo_comparable_402 : decode b_Mo_comparable 402 = .ok (.iconst 1, 1) := by decide +kernel
theorem d_Mo_comparable_403 : decode b_Mo_comparable 403 = .ok (.goto 4, 3) := by decide +kernel
theorem d_Mo_comparable_406 : decode b_Mo_comparable 406 = .ok (.iconst 0, 1) := by decide +kernel
theorem d_Mo_comparable_407 : decode b_Mo_comparable 407 = .ok (.istore 4, 2) := by decide +kernel
theorem d_Mo_comparable_409 : decode b_Mo_comparable 409 = .ok (.aload_n 0, 1) := by decide +kernel
theorem d_Mo_comparable_410 : decode b_Mo_comparable 410 = .ok (.dup, 1) := by decide +kernel
theorem d_Mo_comparable_411 : decode b_Mo_comparable 411 = .ok (.getfield 135, 3) := by decide +kernel
theorem d_Mo_comparable_414 : decode b_Mo_comparable 414 = .ok (.iconst 1, 1) := by decide +kernel
theorem d_Mo_comparable_415 : decode b_Mo_comparable 415 = .ok (.iadd, 1) := by decide +kernel
theorem d_Mo_comparable_416 : decode b_Mo_comparable 416 = .ok (.putfield 135, 3) := by decide +kernel
theorem d_Mo_comparable_419 : decode b_Mo_comparable 419 = .ok (.aload_n 0, 1) := by decide +kernel
theorem d_Mo_comparable_420 : decode b_Mo_comparable 420 = .ok (.iload 4, 2) := by decide +kernel
theorem d_Mo_comparable_422 : decode b_Mo_comparable 422 = .ok (.iconst 0, 1) := by decide +kernel
theorem d_Mo_comparable_423 : decode b_Mo_comparable 423 = .ok (.invokevirtual 317, 3) := by decide +kernel
theorem d_Mo_comparable_426 : decode b_Mo_comparable 426 = .ok (.istore_n 3, 1) := by decide +kernel
theorem d_Mo_comparable_427 : decode b_Mo_comparable 427 = .ok (.goto 14, 3) := by decide +kernel
theorem d_Mo_comparable_430 : decode b_Mo_comparable 430 = .ok (.aload_n 0, 1) := by decide +kernel
theorem d_Mo_comparable_431 : decode b_Mo_comparable 431 = .ok (.aload_n 0, 1) := by decide +kernel
theorem d_Mo_comparable_432 : decode b_Mo_comparable 432 = .ok (.getfield 135, 3) := by decide +kernel
theorem d_Mo_comparable_435 : decode b_Mo_comparable 435 = .ok (.invokevirtual 151, 3) := by decide +kernel
theorem d_Mo_comparable_438 : decode b_Mo_comparable 438 = .ok (.pop, 1) := by decide +kernel
theorem d_Mo_comparable_439 : decode b_Mo_comparable 439 = .ok (.iconst (-1), 1) := by decide +kernel
theorem d_Mo_comparable_440 : decode b_Mo_comparable 440 = .ok (.ireturn, 1) := by decide +kernel
theorem d_Mo_comparable_441 : decode b_Mo_comparable 441 = .ok (.iload_n 3, 1) := by decide +kernel
theorem d_Mo_comparable_442 : decode b_Mo_comparable 442 = .ok (.ifCond .ge 5, 3) := by decide +kernel
theorem d_Mo_comparable_445 : decode b_Mo_comparable 445 = .ok (.iconst (-1), 1) := by decide +kernel
theorem d_Mo_comparable_446 : decode b_Mo_comparable 446 = .ok (.ireturn, 1) := by decide +kernel
theorem d_Mo_comparable_447 : decode b_Mo_comparable 447 = .ok (.aload_n 0, 1) := by decide +kernel
theorem d_Mo_comparable_448 : decode b_Mo_comparable 448 = .ok (.iload_n 2, 1) := by decide +kernel
theorem d_Mo_comparable_449 : decode b_Mo_comparable 449 = .ok (.iconst 2, 1) := by decide +kernel
theorem d_Mo_comparable_450 : decode b_Mo_comparable 450 = .ok (.iload_n 3, 1) := by decide +kernel
theorem d_Mo_comparable_451 : decode b_Mo_comparable 451 = .ok (.invokevirtual 272, 3) := by decide +kernel
theorem d_Mo_comparable_454 : decode b_Mo_comparable 454 = .ok (.aload_n 0, 1) := by decide +kernel
theorem d_Mo_comparable_455 : decode b_Mo_comparable 455 = .ok (.invokevirtual 184, 3) := by decide +kernel
theorem d_Mo_comparable_458 : decode b_Mo_comparable 458 = .ok (.aload_n 0, 1) := by decide +kernel
theorem d_Mo_comparable_459 : decode b_Mo_comparable 459 = .ok (.bipush 41, 2) := by decide +kernel
theorem d_Mo_comparable_461 : decode b_Mo_comparable 461 = .ok (.invokevirtual 297, 3) := by decide +kernel
theorem d_Mo_comparable_464 : decode b_Mo_comparable 464 = .ok (.ifCond .eq 7, 3) := by decide +kernel
theorem d_Mo_comparable_467 : decode b_Mo_comparable 467 = .ok (.iload_n 2, 1) := by decide +kernel
theorem d_Mo_comparable_468 : decode b_Mo_comparable 468 = .ok (.goto 4, 3) := by decide +kernel
theorem d_Mo_comparable_471 : decode b_Mo_comparable 471 = .ok (.iconst (-1), 1) := by decide +kernel
theorem d_Mo_comparable_472 : decode b_Mo_comparable 472 = .ok (.ireturn, 1) := by decide +kernel
/-- what comparable does -/
def CMC (cmL : (Nat → Int32) → Nat → Nat → Option (Nat × OT)) (C : QP OT) (o F L : Nat) : Prop := ∀ (l : Launch) (dC : Nat → ClassId) (dI : Nat → Nat → Nat) (mo : Nat) (sz : Heap) (v : Nat → Value) (cB cI cL cC : ClassId) (qx NN : Nat) (f : Nat → Int32) (n : Nat) (K : Nat → Nat × Nat) (tv : Nat) (Q : QS) (V : TS) (i : Nat) (br : Int32), n ≤ NN → NN ≤ 4096 → i ≤ n → v 6 = .ref qx → v 8 = .int (nI n) → v 22 = .ref tv → QOK Q → TOK V → V.us + (n + 12 - i) ≤ 400000 → Q.R + 8 * (n - i) + 1 ≤ 40000 → Met l y_Mo_comparable (k_Mo_comparable :: gtbl) ({ frames := F, cells := kcap Q (Q.R + 8 * (n - i) + 1) + qcap V (V.us + (n + 12 - i)), slots := 22 * kcap Q (Q.R + 8 * (n - i) + 1) + 2 * qcap V (V.us + (n + 12 - i)), locals := L }) (va_Pc [.ref mo] (me K dC dI [(mo, .inr (13, MF 30 (rf (rs v Q o) i br))), (qx, .inl (cB, NN, .inl f)), (Q.qq, .inl (cI, (8 * Q.C), .inl Q.qf)), (Q.qe, .inl (cL, (3 * Q.C), .inr (.inl Q.ef))), (tv, .inr (12, MF 13 (tw V))), (V.au, .inl (cC, V.U, .inl V.un))] [(cB, .byte), (cI, .int), (cL, .long), (cC, .char)] sz)) (va_Qi (fun (res : Int32) (u : QS × TS × Nat × Int32 × Nat) => CMo (cmL f n) C n i o Q V res u) (fun u t9 => mz dC dI [(mo, .inr (13, MF 30 (rf (rs v u.1 u.2.2.2.2) u.2.2.1 u.2.2.2.1))), (qx, .inl (cB, NN, .inl f)), (u.1.qq, .inl (cI, (8 * u.1.C), .inl u.1.qf)), (u.1.qe, .inl (cL, (3 * u.1.C), .inr (.inl u.1.ef))), (tv, .inr (12, MF 13 (tw u.2.1))), (u.2.1.au, .inl (cC, u.2.1.U, .inl u.2.1.un))] [(cB, .byte), (cI, .int), (cL, .long), (cC, .char)] (va_A [(mo, .inr (13, MF 30 (rf (rs v Q o) i br))), (qx, .inl (cB, NN, .inl f)), (Q.qq, .inl (cI, (8 * Q.C), .inl Q.qf)), (Q.qe, .inl (cL, (3 * Q.C), .inr (.inl Q.ef))), (tv, .inr (12, MF 13 (tw V))), (V.au, .inl (cC, V.U, .inl V.un))] sz.size) t9 ∧ szk sz t9.heap (cQ Q V u.1 u.2.1) (sQ Q V u.1 u.2.1)) (va_A [(mo, .inr (13, MF 30 (rf (rs v Q o) i br))), (qx, .inl (cB, NN, .inl f)), (Q.qq, .inl (cI, (8 * Q.C), .inl Q.qf)), (Q.qe, .inl (cL, (3 * Q.C), .inr (.inl Q.ef))), (tv, .inr (12, MF 13 (tw V))), (V.au, .inl (cC, V.U, .inl V.un))] sz.size)) (kcap Q (Q.R + 8 * (n - i) + 1) + qcap V (V.us + (n + 12 - i))) (22 * kcap Q (Q.R + 8 * (n - i) + 1) + 2 * qcap V (V.us + (n + 12 - i))) (va_A [(mo, .inr (13, MF 30 (rf (rs v Q o) i br))), (qx, .inl (cB, NN, .inl f)), (Q.qq, .inl (cI, (8 * Q.C), .inl Q.qf)), (Q.qe, .inl (cL, (3 * Q.C), .inr (.inl Q.ef))), (tv, .inr (12, MF 13 (tw V))), (V.au, .inl (cC, V.U, .inl V.un))] sz.size)
/-- what queryRest does -/
def QYC (qyL : (Nat → Int32) → Nat → Bool → Nat → Option (Nat × Bool × QT)) (Y : QP QT) (o F L : Nat) : Prop := ∀ (l : Launch) (dC : Nat → ClassId) (dI : Nat → Nat → Nat) (mo : Nat) (sz : Heap) (v : Nat → Value) (cB cI cL cC : ClassId) (qx NN : Nat) (f : Nat → Int32) (n : Nat) (K : Nat → Nat × Nat) (tv : Nat) (Q : QS) (V : TS) (i : Nat) (br : Int32) (rt : Bool) (rti : Int32), (rti = if rt = true then 1 else 0) → n ≤ NN → NN ≤ 4096 → i ≤ n → v 6 = .ref qx → v 8 = .int (nI n) → v 22 = .ref tv → QOK Q → TOK V → V.us + (n + 12 - i) ≤ 400000 → Q.R + 8 * (n - i) + 9 ≤ 40000 → Met l y_Mo_queryRest (k_Mo_queryRest :: gtbl) ({ frames := F, cells := kcap Q (Q.R + 8 * (n - i) + 9) + qcap V (V.us + (n + 12 - i)), slots := 22 * kcap Q (Q.R + 8 * (n - i) + 9) + 2 * qcap V (V.us + (n + 12 - i)), locals := L }) (va_Pc [.ref mo, .int rti, .int 0] (me K dC dI [(mo, .inr (13, MF 30 (rf (rs v Q o) i br))), (qx, .inl (cB, NN, .inl f)), (Q.qq, .inl (cI, (8 * Q.C), .inl Q.qf)), (Q.qe, .inl (cL, (3 * Q.C), .inr (.inl Q.ef))), (tv, .inr (12, MF 13 (tw V))), (V.au, .inl (cC, V.U, .inl V.un))] [(cB, .byte), (cI, .int), (cL, .long), (cC, .char)] sz)) (va_Qi (fun (res : Int32) (u : QS × TS × Nat × Int32 × Nat) => QYo (qyL f n rt) Y n i o Q V res u) (fun u t9 => mz dC dI [(mo, .inr (13, MF 30 (rf (rs v u.1 u.2.2.2.2) u.2.2.1 u.2.2.2.1))), (qx, .inl (cB, NN, .inl f)), (u.1.qq, .inl (cI, (8 * u.1.C), .inl u.1.qf)), (u.1.qe, .inl (cL, (3 * u.1.C), .inr (.inl u.1.ef))), (tv, .inr (12, MF 13 (tw u.2.1))), (u.2.1.au, .inl (cC, u.2.1.U, .inl u.2.1.un))] [(cB, .byte), (cI, .int), (cL, .long), (cC, .char)] (va_A [(mo, .inr (13, MF 30 (rf (rs v Q o) i br))), (qx, .inl (cB, NN, .inl f)), (Q.qq, .inl (cI, (8 * Q.C), .inl Q.qf)), (Q.qe, .inl (cL, (3 * Q.C), .inr (.inl Q.ef))), (tv, .inr (12, MF 13 (tw V))), (V.au, .inl (cC, V.U, .inl V.un))] sz.size) t9 ∧ szk sz t9.heap (cQ Q V u.1 u.2.1) (sQ Q V u.1 u.2.1)) (va_A [(mo, .inr (13, MF 30 (rf (rs v Q o) i br))), (qx, .inl (cB, NN, .inl f)), (Q.qq, .inl (cI, (8 * Q.C), .inl Q.qf)), (Q.qe, .inl (cL, (3 * Q.C), .inr (.inl Q.ef))), (tv, .inr (12, MF 13 (tw V))), (V.au, .inl (cC, V.U, .inl V.un))] sz.size)) (kcap Q (Q.R + 8 * (n - i) + 9) + qcap V (V.us + (n + 12 - i))) (22 * kcap Q (Q.R + 8 * (n - i) + 9) + 2 * qcap V (V.us + (n + 12 - i))) (va_A [(mo, .inr (13, MF 30 (rf (rs v Q o) i br))), (qx, .inl (cB, NN, .inl f)), (Q.qq, .inl (cI, (8 * Q.C), .inl Q.qf)), (Q.qe, .inl (cL, (3 * Q.C), .inr (.inl Q.ef))), (tv, .inr (12, MF 13 (tw V))), (V.au, .inl (cC, V.U, .inl V.un))] sz.size)
set_option maxHeartbeats 4000000 in
set_option maxRecDepth 100000 in
/-- the reference: comparable -/
theorem c_cmp (orL : (Nat → Int32) → Nat → Nat → Option (Nat × CT)) (cmL : (Nat → Int32) → Nat → Nat → Option (Nat × OT)) (qyL : (Nat → Int32) → Nat → Bool → Nat → Option (Nat × Bool × QT)) (O : QP CT) (C : QP OT) (Y : QP QT) (G M : Nat) (hOf : Frm 8 O) (hCf : Frm 8 C) (hYf : Frm 8 Y) (l : Launch) (dC : Nat → ClassId) (dI : Nat → Nat → Nat) (mo : Nat) (sz : Heap) (v : Nat → Value) (cB cI cL cC : ClassId) (qx NN : Nat) (f : Nat → Int32) (n : Nat) (K : Nat → Nat × Nat) (tv : Nat) (Q : QS) (V : TS) (o i : Nat) (br : Int32) (ok : Bool) (hok : ok = true ↔ ¬ o = 16) (ho16 : o ≤ 16) (hOR : ¬ o = 16 → ORC orL O (o + 1) (15 + G) (600 + M)) (hCM : ¬ o = 16 → CMC cmL C (o + 1) (11 + G) (400 + M)) (hQY : ¬ o = 16 → QYC qyL Y (o + 1) (10 + G) (320 + M)) (hnN : n ≤ NN) (hNN : NN ≤ 4096) (hi0 : i ≤ n) (h6 : v 6 = .ref qx) (h8 : v 8 = .int (nI n)) (h22 : v 22 = .ref tv) (hQ : QOK Q) (hV : TOK V) (hcu : V.us + (n + 12 - i) ≤ 400000) (hcr : Q.R + 8 * (n - i) + 1 ≤ 40000) : Met l y_Mo_comparable (k_Mo_comparable :: gtbl) ({ frames := 11 + (15 + G), cells := kcap Q (Q.R + 8 * (n - i) + 1) + qcap V (V.us + (n + 12 - i)), slots := 22 * kcap Q (Q.R + 8 * (n - i) + 1) + 2 * qcap V (V.us + (n + 12 - i)), locals := 400 + (600 + M) }) (va_Pc [.ref mo] (me K dC dI [(mo, .inr (13, MF 30 (rf (rs v Q o) i br))), (qx, .inl (cB, NN, .inl f)), (Q.qq, .inl (cI, (8 * Q.C), .inl Q.qf)), (Q.qe, .inl (cL, (3 * Q.C), .inr (.inl Q.ef))), (tv, .inr (12, MF 13 (tw V))), (V.au, .inl (cC, V.U, .inl V.un))] [(cB, .byte), (cI, .int), (cL, .long), (cC, .char)] sz)) (va_Qi (fun (res : Int32) (u : QS × TS × Nat × Int32 × Nat) => CMo (cmP f n ok (orL f n) (cmL f n) (qyL f n)) (CMPf O C Y) n i o Q V res u) (fun u t9 => mz dC dI [(mo, .inr (13, MF 30 (rf (rs v u.1 u.2.2.2.2) u.2.2.1 u.2.2.2.1))), (qx, .inl (cB, NN, .inl f)), (u.1.qq, .inl (cI, (8 * u.1.C), .inl u.1.qf)), (u.1.qe, .inl (cL, (3 * u.1.C), .inr (.inl u.1.ef))), (tv, .inr (12, MF 13 (tw u.2.1))), (u.2.1.au, .inl (cC, u.2.1.U, .inl u.2.1.un))] [(cB, .byte), (cI, .int), (cL, .long), (cC, .char)] (va_A [(mo, .inr (13, MF 30 (rf (rs v Q o) i br))), (qx, .inl (cB, NN, .inl f)), (Q.qq, .inl (cI, (8 * Q.C), .inl Q.qf)), (Q.qe, .inl (cL, (3 * Q.C), .inr (.inl Q.ef))), (tv, .inr (12, MF 13 (tw V))), (V.au, .inl (cC, V.U, .inl V.un))] sz.size) t9 ∧ szk sz t9.heap (cQ Q V u.1 u.2.1) (sQ Q V u.1 u.2.1)) (va_A [(mo, .inr (13, MF 30 (rf (rs v Q o) i br))), (qx, .inl (cB, NN, .inl f)), (Q.qq, .inl (cI, (8 * Q.C), .inl Q.qf)), (Q.qe, .inl (cL, (3 * Q.C), .inr (.inl Q.ef))), (tv, .inr (12, MF 13 (tw V))), (V.au, .inl (cC, V.U, .inl V.un))] sz.size)) (kcap Q (Q.R + 8 * (n - i) + 1) + qcap V (V.us + (n + 12 - i))) (22 * kcap Q (Q.R + 8 * (n - i) + 1) + 2 * qcap V (V.us + (n + 12 - i))) (va_A [(mo, .inr (13, MF 30 (rf (rs v Q o) i br))), (qx, .inl (cB, NN, .inl f)), (Q.qq, .inl (cI, (8 * Q.C), .inl Q.qf)), (Q.qe, .inl (cL, (3 * Q.C), .inr (.inl Q.ef))), (tv, .inr (12, MF 13 (tw V))), (V.au, .inl (cC, V.U, .inl V.un))] sz.size) := by
  refine Met.ofW (cc := b_Mo_comparable) (maxL := 5) (ret := (some .int)) (by decide) rfl ?_
  intro p e s m args below meth c s₁ B hml hv
  obtain ⟨rfl, ⟨hsz, hP, hK, hD0⟩, hM⟩ := hv
  have hx := B.exec
  have hb := B.bytes
  have hr := B.returns
  have hts0 := atoms_spec (ws := k_Mo_comparable :: gtbl) B.pre
  have hts := fun w h => hts0 w (List.mem_cons_of_mem _ h)
  have hown : s.vm.findClass R_Mo = some m.cls := findClass_of_methodNamed B.named
  have hlocks := B.notSynchronized
  subst hsz
  have hD := hD0.self (sz := s.heap.size)
  generalize hAe : va_A [(mo, .inr (13, MF 30 (rf (rs v Q o) i br))), (qx, .inl (cB, NN, .inl f)), (Q.qq, .inl (cI, (8 * Q.C), .inl Q.qf)), (Q.qe, .inl (cL, (3 * Q.C), .inr (.inl Q.ef))), (tv, .inr (12, MF 13 (tw V))), (V.au, .inl (cC, V.U, .inl V.un))] s.heap.size = A at hD hM ⊢
  have hA : ∀ q : Nat, s.heap.size ≤ q → A q := fun q h => by rw [← hAe]; exact Or.inr h
  have hS : va_S A s.heap s.heap [] := va_S.rf
  have hP : va_P (dC, dI) classes [(mo, .inr (13, MF 30 (rf (rs v Q o) i br))), (qx, .inl (cB, NN, .inl f)), (Q.qq, .inl (cI, (8 * Q.C), .inl Q.qf)), (Q.qe, .inl (cL, (3 * Q.C), .inr (.inl Q.ef))), (tv, .inr (12, MF 13 (tw V))), (V.au, .inl (cC, V.U, .inl V.un))] s.heap := hP
  have hl := lv_entry ([.ref mo]) (n := 5) (Nat.le_of_ble_eq_true rfl)
  rw [lg_entry_eq]
  generalize (lg_sl ([.ref mo]) ++ List.replicate (5 - (lg_sl ([.ref mo])).length) Slot.unset).toArray = ls at hl ⊢
  have hl : lv_has ls 5 [(0, .ref mo)] := hl
  have hQk_Q := hQ
  have hTk_V := hV
  have hCo := hQ.2.2.1
  have hCo2 := hQ.2.1
  clear hQ hV
  have hG_QV : GQ (Q.R + 8 * (n - i) + 1) (V.us + (n + 12 - i)) Q V Q V := GQ.rf
  refine w_same (fun hq => ?_)
  refine w_tight (k := cQ Q V Q V) (n := sQ Q V Q V) (by rw [cQ_rf.1, cQ_rf.2]; exact hq) ?_
  have hqb_QV : Q.R ≤ Q.C ∧ Q.C ≤ 100000 := ⟨hQk_Q.2.2.1, hQk_Q.2.1⟩
  have hfit_QV := hG_QV.fits
  refine lv_aload_n hx hb d_Mo_comparable_0 rfl (lv_at hl 0 rfl) ?_
  have hPc := hP.sub (ws' := [(mo, .inr (13, MF 30 (rf (rs v Q o) i br))), (qx, .inl (cB, NN, .inl f))]) [0, 1] rfl
  have hDc := hD.sub (ws' := [(mo, .inr (13, MF 30 (rf (rs v Q o) i br))), (qx, .inl (cB, NN, .inl f))]) [0, 1] (by decide) rfl
  have hKc := hK.sub (tys' := [(cB, .byte)]) [0] rfl
  have hFc := va_free (wc := [(mo, .inr (13, MF 30 (rf (rs v Q o) i br))), (qx, .inl (cB, NN, .inl f))]) hD hS hA [0, 1] rfl
  refine va_calli (va_runV (As := []) (rest := []) ⟨hx, hb, hml, hown, hts⟩ (c_Mo_c l dC dI mo s.heap (rf (rs v Q o) i br) cB qx NN f n i (by omega) (by omega) (by omega) ((rf_ne (by decide) (by decide)).trans ((rs_ne (by decide) (by decide) (by decide) (by decide)).trans h6)) rf_7 ((rf_ne (by decide) (by decide)).trans ((rs_ne (by decide) (by decide) (by decide) (by decide)).trans h8))) (cwV 0 hts (gt_V (own := R_Mo) (C := R_Mo) (i := 147) (y := y_Mo_c) i_Mo_c w_1233 w_1235 (gt_sel (y := y_Mo_c) (n := 30) (by decide +kernel)) w_7) rfl rfl rfl (by decide +kernel) ⟨Nat.le_trans (m := 11) (Nat.le_of_ble_eq_true rfl) (Nat.le_add_right 11 (15 + G)), Nat.le_trans (m := 400) (Nat.le_of_ble_eq_true rfl) (Nat.le_add_right 400 (600 + M))⟩) ⟨mp_blind, va_recv hKc hPc (ci := 13) (q0 := 0) rfl rfl, fun U hU hW => ⟨rfl, hU, by rw [hU]; exact hPc, va_K.moved hW.alike hKc, hDc.weaken (fun _ _ _ _ => trivial)⟩⟩ rfl rfl hl.1 rfl (lv_room (Nat.le_of_ble_eq_true rfl)) d_Mo_comparable_1 ⟨hfit_QV.1, hfit_QV.2⟩) hS (fun q _ h => hFc q h) hFc (fun r1 _u t9 H1 locs ht hvm hw hB hz1 hk1 hS => ?_)
  obtain ⟨hP1, hK1, hD1⟩ := hB
  rw [ht] at hP1
  obtain ⟨hP, hD⟩ := va_join (wr := [(Q.qq, .inl (cI, (8 * Q.C), .inl Q.qf)), (Q.qe, .inl (cL, (3 * Q.C), .inr (.inl Q.ef))), (tv, .inr (12, MF 13 (tw V))), (V.au, .inl (cC, V.U, .inl V.un))]) (w1 := [(mo, .inr (13, MF 30 (rf (rs v Q o) i br))), (qx, .inl (cB, NN, .inl f))]) hP hD [0, 1] [2, 3, 4, 5] rfl rfl (by decide) (by decide) hk1 hFc hP1 hD1
  generalize H1 = H at hP hS ⊢
  have hP : va_P (dC, dI) classes [(Q.qq, .inl (cI, (8 * Q.C), .inl Q.qf)), (Q.qe, .inl (cL, (3 * Q.C), .inr (.inl Q.ef))), (tv, .inr (12, MF 13 (tw V))), (V.au, .inl (cC, V.U, .inl V.un)), (mo, .inr (13, MF 30 (rf (rs v Q o) i br))), (qx, .inl (cB, NN, .inl f))] H := hP
  have hD : va_D A [(Q.qq, .inl (cI, (8 * Q.C), .inl Q.qf)), (Q.qe, .inl (cL, (3 * Q.C), .inr (.inl Q.ef))), (tv, .inr (12, MF 13 (tw V))), (V.au, .inl (cC, V.U, .inl V.un)), (mo, .inr (13, MF 30 (rf (rs v Q o) i br))), (qx, .inl (cB, NN, .inl f))] := hD
  have hP := hP.sub (ws' := [(mo, .inr (13, MF 30 (rf (rs v Q o) i br))), (qx, .inl (cB, NN, .inl f)), (Q.qq, .inl (cI, (8 * Q.C), .inl Q.qf)), (Q.qe, .inl (cL, (3 * Q.C), .inr (.inl Q.ef))), (tv, .inr (12, MF 13 (tw V))), (V.au, .inl (cC, V.U, .inl V.un))]) [4, 5, 0, 1, 2, 3] rfl
  have hD := hD.sub (ws' := [(mo, .inr (13, MF 30 (rf (rs v Q o) i br))), (qx, .inl (cB, NN, .inl f)), (Q.qq, .inl (cI, (8 * Q.C), .inl Q.qf)), (Q.qe, .inl (cL, (3 * Q.C), .inr (.inl Q.ef))), (tv, .inr (12, MF 13 (tw V))), (V.au, .inl (cC, V.U, .inl V.un))]) [4, 5, 0, 1, 2, 3] (by decide) rfl
  have h_r1 : r1 = hereV f n i := hw
  refine lv_istore_n (lv' := [(1, .int r1), (0, .ref mo)]) hx hb d_Mo_comparable_4 rfl hl (by decide) rfl (fun ls hl => ?_)
  refine lv_iload_n hx hb d_Mo_comparable_5 rfl (lv_at hl 0 rfl) ?_
  refine lv_bipush (v := 45) hx hb d_Mo_comparable_6 (by decide) ?_
  refine lv_icmp_eq (tgt := 18) hx hb d_Mo_comparable_8 (by decide) (fun c8 => ?_) (fun c8 => ?_)
  · refine lv_aload_n hx hb d_Mo_comparable_18 rfl (lv_at hl 1 rfl) ?_
    refine lv_bipush (v := 40) hx hb d_Mo_comparable_19 (by decide) ?_
    have hPc := hP.sub (ws' := [(mo, .inr (13, MF 30 (rf (rs v Q o) i br))), (Q.qq, .inl (cI, (8 * Q.C), .inl Q.qf)), (Q.qe, .inl (cL, (3 * Q.C), .inr (.inl Q.ef)))]) [0, 2, 3] rfl
    have hDc := hD.sub (ws' := [(mo, .inr (13, MF 30 (rf (rs v Q o) i br))), (Q.qq, .inl (cI, (8 * Q.C), .inl Q.qf)), (Q.qe, .inl (cL, (3 * Q.C), .inr (.inl Q.ef)))]) [0, 2, 3] (by decide) rfl
    have hKc := hK.sub (tys' := [(cI, .int), (cL, .long)]) [1, 2] rfl
    have hFc := va_free (wc := [(mo, .inr (13, MF 30 (rf (rs v Q o) i br))), (Q.qq, .inl (cI, (8 * Q.C), .inl Q.qf)), (Q.qe, .inl (cL, (3 * Q.C), .inr (.inl Q.ef)))]) hD hS hA [0, 2, 3] rfl
    refine w_same (fun hq0 => ?_)
    refine va_calli (va_runV (As := [.int 40]) (rest := []) ⟨hx, hb, hml, hown, hts⟩ (c_Mo_row l dC dI mo H v cI cL Q o i br 40 hQk_Q) (cwV 1 hts (gt_V (own := R_Mo) (C := R_Mo) (i := 269) (y := y_Mo_row) i_Mo_row w_1407 w_1409 (gt_sel (y := y_Mo_row) (n := 30) (by decide +kernel)) w_7) rfl rfl rfl (by decide +kernel) ⟨Nat.le_trans (m := 11) (Nat.le_of_ble_eq_true rfl) (Nat.le_add_right 11 (15 + G)), Nat.le_trans (m := 400) (Nat.le_of_ble_eq_true rfl) (Nat.le_add_right 400 (600 + M))⟩) ⟨mp_blind, va_recv hKc hPc (ci := 13) (q0 := 0) rfl rfl, fun U hU hW => ⟨rfl, hU, by rw [hU]; exact hPc, va_K.moved hW.alike hKc, hDc.weaken (fun _ _ _ _ => trivial)⟩⟩ rfl rfl hl.1 rfl (lv_room (Nat.le_of_ble_eq_true rfl)) d_Mo_comparable_21 ⟨(QAd.fit hG_QV hQk_Q (by omega)).1, (QAd.fit hG_QV hQk_Q (by omega)).2⟩) hS (fun q _ h => hFc q h) hFc (fun r0 Q1 t9 H1 locs ht hvm hw hB hz1 hk1 hS => ?_)
    obtain ⟨⟨hP1, hK1, hD1⟩, hz9⟩ := hB
    rw [ht] at hP1
    rw [ht] at hz9
    obtain ⟨hr0, hA_Q1⟩ := hw
    have hA_Q1 : QAd Q Q1 40 := hA_Q1
    obtain ⟨hQk_Q1, hGa, hGb, hGd, hR_Q1⟩ := hA_Q1.gq hQk_Q (by omega) V
    obtain ⟨hG_Q1V, hGc, hGs⟩ := hG_QV.tr hGa (show Q.R + 1 ≤ Q.R + 8 * (n - i) + 1 by omega) (Nat.zero_le _)
    have hGc := Nat.le_trans (Nat.add_le_add_left hGb _) hGc
    have hGs := Nat.le_trans (Nat.add_le_add_left hGd _) hGs
    have hq1 : szk s.heap H1 (cQ Q V Q1 V) (sQ Q V Q1 V) := (hq0.trans hz9).mono hGc hGs
    refine w_tight hq1 ?_
    obtain ⟨hP, hD⟩ := va_join (wr := [(qx, .inl (cB, NN, .inl f)), (tv, .inr (12, MF 13 (tw V))), (V.au, .inl (cC, V.U, .inl V.un))]) (w1 := [(mo, .inr (13, MF 30 (rf (rs v Q1 o) i br))), (Q1.qq, .inl (cI, (8 * Q1.C), .inl Q1.qf)), (Q1.qe, .inl (cL, (3 * Q1.C), .inr (.inl Q1.ef)))]) hP hD [0, 2, 3] [1, 4, 5] rfl rfl (by decide) (by decide) hk1 hFc hP1 hD1
    generalize H1 = H at hP hS ⊢
    have hP : va_P (dC, dI) classes [(qx, .inl (cB, NN, .inl f)), (tv, .inr (12, MF 13 (tw V))), (V.au, .inl (cC, V.U, .inl V.un)), (mo, .inr (13, MF 30 (rf (rs v Q1 o) i br))), (Q1.qq, .inl (cI, (8 * Q1.C), .inl Q1.qf)), (Q1.qe, .inl (cL, (3 * Q1.C), .inr (.inl Q1.ef)))] H := hP
    have hD : va_D A [(qx, .inl (cB, NN, .inl f)), (tv, .inr (12, MF 13 (tw V))), (V.au, .inl (cC, V.U, .inl V.un)), (mo, .inr (13, MF 30 (rf (rs v Q1 o) i br))), (Q1.qq, .inl (cI, (8 * Q1.C), .inl Q1.qf)), (Q1.qe, .inl (cL, (3 * Q1.C), .inr (.inl Q1.ef)))] := hD
    have hP := hP.sub (ws' := [(mo, .inr (13, MF 30 (rf (rs v Q1 o) i br))), (qx, .inl (cB, NN, .inl f)), (tv, .inr (12, MF 13 (tw V))), (V.au, .inl (cC, V.U, .inl V.un)), (Q1.qq, .inl (cI, (8 * Q1.C), .inl Q1.qf)), (Q1.qe, .inl (cL, (3 * Q1.C), .inr (.inl Q1.ef)))]) [3, 0, 1, 2, 4, 5] rfl
    have hD := hD.sub (ws' := [(mo, .inr (13, MF 30 (rf (rs v Q1 o) i br))), (qx, .inl (cB, NN, .inl f)), (tv, .inr (12, MF 13 (tw V))), (V.au, .inl (cC, V.U, .inl V.un)), (Q1.qq, .inl (cI, (8 * Q1.C), .inl Q1.qf)), (Q1.qe, .inl (cL, (3 * Q1.C), .inr (.inl Q1.ef)))]) [3, 0, 1, 2, 4, 5] (by decide) rfl
    have hP := hP.sub (ws' := [(mo, .inr (13, MF 30 (rf (rs v Q1 o) i br))), (qx, .inl (cB, NN, .inl f)), (Q1.qq, .inl (cI, (8 * Q1.C), .inl Q1.qf)), (Q1.qe, .inl (cL, (3 * Q1.C), .inr (.inl Q1.ef))), (tv, .inr (12, MF 13 (tw V))), (V.au, .inl (cC, V.U, .inl V.un))]) [0, 1, 4, 5, 2, 3] rfl
    have hD := hD.sub (ws' := [(mo, .inr (13, MF 30 (rf (rs v Q1 o) i br))), (qx, .inl (cB, NN, .inl f)), (Q1.qq, .inl (cI, (8 * Q1.C), .inl Q1.qf)), (Q1.qe, .inl (cL, (3 * Q1.C), .inr (.inl Q1.ef))), (tv, .inr (12, MF 13 (tw V))), (V.au, .inl (cC, V.U, .inl V.un))]) [0, 1, 4, 5, 2, 3] (by decide) rfl
    have hr0 : r0 = nI Q.R := hr0
    subst hr0
    have hqb_Q1V : Q1.R ≤ Q1.C ∧ Q1.C ≤ 100000 := ⟨hQk_Q1.2.2.1, hQk_Q1.2.1⟩
    have hfit_Q1V := hG_Q1V.fits
    have hE_Q1 : alr Q V Q1 V 0 Q.R := ⟨fun r9 k9 _ h1 h2 => hA_Q1.2.2.1 _ (by omega), ⟨fun r9 k9 _ h1 h2 => hA_Q1.2.2.2.1.2 _ (by omega), Nat.le_refl _, fun _ _ => rfl⟩⟩
    have hk0_Q1 : Q1.qf (8 * Q.R + 0) = 40 := hA_Q1.2.2.2.2.1
    have hl1_Q1 : Q1.qf (8 * Q.R + 1) = -1 := hA_Q1.2.2.2.2.2 1 (by decide) (by decide)
    have hEx_Q1V : alr Q V Q1 V 0 Q.R := hE_Q1
    refine lv_istore_n (lv' := [(2, .int (nI Q.R)), (1, .int r1), (0, .ref mo)]) hx hb d_Mo_comparable_24 rfl hl (by decide) rfl (fun ls hl => ?_)
    refine lv_aload_n hx hb d_Mo_comparable_25 rfl (lv_at hl 2 rfl) ?_
    refine lv_iload_n hx hb d_Mo_comparable_26 rfl (lv_at hl 0 rfl) ?_
    refine lv_iconst (v := 2) hx hb d_Mo_comparable_27 (by decide) ?_
    refine lv_iconst (v := 0) hx hb d_Mo_comparable_28 (by decide) ?_
    refine W.eq (g2 := F0 m 29 ls [.int 0, .int (nI 2), .int (nI Q.R), .ref mo]) rfl ?_
    have hPc := hP.sub (ws' := [(mo, .inr (13, MF 30 (rf (rs v Q1 o) i br))), (Q1.qq, .inl (cI, (8 * Q1.C), .inl Q1.qf))]) [0, 2] rfl
    have hDc := hD.sub (ws' := [(mo, .inr (13, MF 30 (rf (rs v Q1 o) i br))), (Q1.qq, .inl (cI, (8 * Q1.C), .inl Q1.qf))]) [0, 2] (by decide) rfl
    have hKc := hK.sub (tys' := [(cI, .int)]) [1] rfl
    have hFc := va_free (wc := [(mo, .inr (13, MF 30 (rf (rs v Q1 o) i br))), (Q1.qq, .inl (cI, (8 * Q1.C), .inl Q1.qf))]) hD hS hA [0, 2] rfl
    refine va_callv (va_runV (As := [.int (nI Q.R), .int (nI 2), .int 0]) (rest := []) ⟨hx, hb, hml, hown, hts⟩ (c_Mo_set l dC dI mo H (rf (rs v Q1 o) i br) cI Q1.qq (8 * Q1.C) Q1.qf Q.R 2 0 (by omega) (by omega) ((rf_ne (by decide) (by decide)).trans rs_19)) (cwV 3 hts (gt_V (own := R_Mo) (C := R_Mo) (i := 272) (y := y_Mo_set) i_Mo_set w_1411 w_1413 (gt_sel (y := y_Mo_set) (n := 30) (by decide +kernel)) w_7) rfl rfl rfl (by decide +kernel) ⟨Nat.le_trans (m := 11) (Nat.le_of_ble_eq_true rfl) (Nat.le_add_right 11 (15 + G)), Nat.le_trans (m := 400) (Nat.le_of_ble_eq_true rfl) (Nat.le_add_right 400 (600 + M))⟩) ⟨mp_blind, va_recv hKc hPc (ci := 13) (q0 := 0) rfl rfl, fun U hU hW => ⟨rfl, hU, by rw [hU]; exact hPc, va_K.moved hW.alike hKc, hDc.weaken (fun _ _ _ _ => trivial)⟩⟩ rfl rfl hl.1 rfl (lv_room (Nat.le_of_ble_eq_true rfl)) d_Mo_comparable_29 ⟨hfit_Q1V.1, hfit_Q1V.2⟩) hS (fun q _ h => hFc q h) hFc (fun _u t9 H1 locs ht hvm hw hB hz1 hk1 hS => ?_)
    obtain ⟨hP1, hK1, hD1⟩ := hB
    rw [ht] at hP1
    obtain ⟨hP, hD⟩ := va_join (wr := [(qx, .inl (cB, NN, .inl f)), (Q1.qe, .inl (cL, (3 * Q1.C), .inr (.inl Q1.ef))), (tv, .inr (12, MF 13 (tw V))), (V.au, .inl (cC, V.U, .inl V.un))]) (w1 := [(mo, .inr (13, MF 30 (rf (rs v Q1 o) i br))), (Q1.qq, .inl (cI, (8 * Q1.C), .inl (upd Q1.qf (8 * Q.R + 2) 0)))]) hP hD [0, 2] [1, 3, 4, 5] rfl rfl (by decide) (by decide) hk1 hFc hP1 hD1
    generalize H1 = H at hP hS ⊢
    have hP : va_P (dC, dI) classes [(qx, .inl (cB, NN, .inl f)), (Q1.qe, .inl (cL, (3 * Q1.C), .inr (.inl Q1.ef))), (tv, .inr (12, MF 13 (tw V))), (V.au, .inl (cC, V.U, .inl V.un)), (mo, .inr (13, MF 30 (rf (rs v Q1 o) i br))), (Q1.qq, .inl (cI, (8 * Q1.C), .inl (upd Q1.qf (8 * Q.R + 2) 0)))] H := hP
    have hD : va_D A [(qx, .inl (cB, NN, .inl f)), (Q1.qe, .inl (cL, (3 * Q1.C), .inr (.inl Q1.ef))), (tv, .inr (12, MF 13 (tw V))), (V.au, .inl (cC, V.U, .inl V.un)), (mo, .inr (13, MF 30 (rf (rs v Q1 o) i br))), (Q1.qq, .inl (cI, (8 * Q1.C), .inl (upd Q1.qf (8 * Q.R + 2) 0)))] := hD
    have hP := hP.sub (ws' := [(mo, .inr (13, MF 30 (rf (rs v Q1 o) i br))), (qx, .inl (cB, NN, .inl f)), (Q1.qq, .inl (cI, (8 * Q1.C), .inl (upd Q1.qf (8 * Q.R + 2) 0))), (Q1.qe, .inl (cL, (3 * Q1.C), .inr (.inl Q1.ef))), (tv, .inr (12, MF 13 (tw V))), (V.au, .inl (cC, V.U, .inl V.un))]) [4, 0, 5, 1, 2, 3] rfl
    have hD := hD.sub (ws' := [(mo, .inr (13, MF 30 (rf (rs v Q1 o) i br))), (qx, .inl (cB, NN, .inl f)), (Q1.qq, .inl (cI, (8 * Q1.C), .inl (upd Q1.qf (8 * Q.R + 2) 0))), (Q1.qe, .inl (cL, (3 * Q1.C), .inr (.inl Q1.ef))), (tv, .inr (12, MF 13 (tw V))), (V.au, .inl (cC, V.U, .inl V.un))]) [4, 0, 5, 1, 2, 3] (by decide) rfl
    obtain ⟨Q2, e_Q2⟩ : ∃ z : QS, z = QS.wf Q1 (upd Q1.qf (8 * Q.R + 2) 0) := ⟨_, rfl⟩
    have hP : va_P (dC, dI) classes [(mo, .inr (13, MF 30 (rf (rs v Q2 o) i br))), (qx, .inl (cB, NN, .inl f)), (Q2.qq, .inl (cI, (8 * Q2.C), .inl Q2.qf)), (Q2.qe, .inl (cL, (3 * Q2.C), .inr (.inl Q2.ef))), (tv, .inr (12, MF 13 (tw V))), (V.au, .inl (cC, V.U, .inl V.un))] H := by subst e_Q2; exact hP
    have hD : va_D A [(mo, .inr (13, MF 30 (rf (rs v Q2 o) i br))), (qx, .inl (cB, NN, .inl f)), (Q2.qq, .inl (cI, (8 * Q2.C), .inl Q2.qf)), (Q2.qe, .inl (cL, (3 * Q2.C), .inr (.inl Q2.ef))), (tv, .inr (12, MF 13 (tw V))), (V.au, .inl (cC, V.U, .inl V.un))] := by subst e_Q2; exact hD
    have hf_Q2 : Q2.C = Q1.C ∧ Q2.R = Q1.R ∧ Q2.qf = upd Q1.qf (8 * Q.R + 2) 0 := by rw [e_Q2]; exact ⟨rfl, rfl, rfl⟩
    have he_Q2 : Q2.ef = Q1.ef := by rw [e_Q2]; rfl
    have hQk_Q2 : QOK Q2 := by rw [e_Q2]; exact hQk_Q1
    have hG_Q2V : GQ (Q.R + 8 * (n - i) + 1) (V.us + (n + 12 - i)) Q V Q2 V := by unfold GQ at hG_Q1V ⊢; rw [hf_Q2.1]; exact hG_Q1V
    refine w_same (fun hq => ?_)
    refine w_tight (k := cQ Q V Q2 V) (n := sQ Q V Q2 V) (by unfold cQ sQ at hq ⊢; rw [hf_Q2.1]; exact hq) ?_
    have hR_Q2 := hf_Q2.2.1
    have hqb_Q2V : Q2.R ≤ Q2.C ∧ Q2.C ≤ 100000 := ⟨hQk_Q2.2.2.1, hQk_Q2.2.1⟩
    have hfit_Q2V := hG_Q2V.fits
    have hk0_Q2 : Q2.qf (8 * Q.R + 0) = 40 := by rw [hf_Q2.2.2, pk_un (by omega)]; exact hk0_Q1
    have hl1_Q2 : Q2.qf (8 * Q.R + 1) = -1 := by rw [hf_Q2.2.2, pk_un (by omega)]; exact hl1_Q1
    have hEx_Q2V : alr Q V Q2 V 0 Q.R := hEx_Q1V.tr (alr.upd hf_Q2.2.2 he_Q2 (by decide) (by omega))
    refine lv_aload_n hx hb d_Mo_comparable_32 rfl (lv_at hl 2 rfl) ?_
    refine lv_iload_n hx hb d_Mo_comparable_33 rfl (lv_at hl 0 rfl) ?_
    refine lv_iconst (v := 0) hx hb d_Mo_comparable_34 (by decide) ?_
    have hlt0 : i < n := here_in (h_r1.symm.trans c8) (by decide)
    refine W.eq (g2 := F0 m 35 ls [.int (nI 0), .int (nI Q.R), .ref mo]) rfl ?_
    have hPc := hP.sub (ws' := [(mo, .inr (13, MF 30 (rf (rs v Q2 o) i br))), (qx, .inl (cB, NN, .inl f)), (Q2.qq, .inl (cI, (8 * Q2.C), .inl Q2.qf)), (Q2.qe, .inl (cL, (3 * Q2.C), .inr (.inl Q2.ef)))]) [0, 1, 2, 3] rfl
    have hDc := hD.sub (ws' := [(mo, .inr (13, MF 30 (rf (rs v Q2 o) i br))), (qx, .inl (cB, NN, .inl f)), (Q2.qq, .inl (cI, (8 * Q2.C), .inl Q2.qf)), (Q2.qe, .inl (cL, (3 * Q2.C), .inr (.inl Q2.ef)))]) [0, 1, 2, 3] (by decide) rfl
    have hKc := hK.sub (tys' := [(cB, .byte), (cI, .int), (cL, .long)]) [0, 1, 2] rfl
    have hFc := va_free (wc := [(mo, .inr (13, MF 30 (rf (rs v Q2 o) i br))), (qx, .inl (cB, NN, .inl f)), (Q2.qq, .inl (cI, (8 * Q2.C), .inl Q2.qf)), (Q2.qe, .inl (cL, (3 * Q2.C), .inr (.inl Q2.ef)))]) hD hS hA [0, 1, 2, 3] rfl
    refine va_calli (va_runV (As := [.int (nI Q.R), .int (nI 0)]) (rest := []) ⟨hx, hb, hml, hown, hts⟩ (c_Mo_whole l dC dI mo H v cB cI cL qx NN f n Q2 o i br Q.R 0 hnN (by omega) (by omega) h6 h8 hQk_Q2 (by omega) (by decide)) (cwV 2 hts (gt_V (own := R_Mo) (C := R_Mo) (i := 303) (y := y_Mo_whole) i_Mo_whole w_1465 w_1467 (gt_sel (y := y_Mo_whole) (n := 30) (by decide +kernel)) w_7) rfl rfl rfl (by decide +kernel) ⟨Nat.le_trans (m := 11) (Nat.le_of_ble_eq_true rfl) (Nat.le_add_right 11 (15 + G)), Nat.le_trans (m := 400) (Nat.le_of_ble_eq_true rfl) (Nat.le_add_right 400 (600 + M))⟩) ⟨mp_blind, va_recv hKc hPc (ci := 13) (q0 := 0) rfl rfl, fun U hU hW => ⟨rfl, hU, by rw [hU]; exact hPc, va_K.moved hW.alike hKc, hDc.weaken (fun _ _ _ _ => trivial)⟩⟩ rfl rfl hl.1 rfl (lv_room (Nat.le_of_ble_eq_true rfl)) d_Mo_comparable_35 ⟨hfit_Q2V.1, hfit_Q2V.2⟩) hS (fun q _ h => hFc q h) hFc (fun r0 ⟨j3, b_j3, qf2, ef2⟩ t9 H1 locs ht hvm hw hB hz1 hk1 hS => ?_)
    obtain ⟨hP1, hK1, hD1⟩ := hB
    rw [ht] at hP1
    obtain ⟨hP, hD⟩ := va_join (wr := [(tv, .inr (12, MF 13 (tw V))), (V.au, .inl (cC, V.U, .inl V.un))]) (w1 := [(mo, .inr (13, MF 30 (rf (rs v Q2 o) j3 b_j3))), (qx, .inl (cB, NN, .inl f)), (Q2.qq, .inl (cI, (8 * Q2.C), .inl qf2)), (Q2.qe, .inl (cL, (3 * Q2.C), .inr (.inl ef2)))]) hP hD [0, 1, 2, 3] [4, 5] rfl rfl (by decide) (by decide) hk1 hFc hP1 hD1
    generalize H1 = H at hP hS ⊢
    have hP : va_P (dC, dI) classes [(tv, .inr (12, MF 13 (tw V))), (V.au, .inl (cC, V.U, .inl V.un)), (mo, .inr (13, MF 30 (rf (rs v Q2 o) j3 b_j3))), (qx, .inl (cB, NN, .inl f)), (Q2.qq, .inl (cI, (8 * Q2.C), .inl qf2)), (Q2.qe, .inl (cL, (3 * Q2.C), .inr (.inl ef2)))] H := hP
    have hD : va_D A [(tv, .inr (12, MF 13 (tw V))), (V.au, .inl (cC, V.U, .inl V.un)), (mo, .inr (13, MF 30 (rf (rs v Q2 o) j3 b_j3))), (qx, .inl (cB, NN, .inl f)), (Q2.qq, .inl (cI, (8 * Q2.C), .inl qf2)), (Q2.qe, .inl (cL, (3 * Q2.C), .inr (.inl ef2)))] := hD
    have hP := hP.sub (ws' := [(mo, .inr (13, MF 30 (rf (rs v Q2 o) j3 b_j3))), (qx, .inl (cB, NN, .inl f)), (Q2.qq, .inl (cI, (8 * Q2.C), .inl qf2)), (Q2.qe, .inl (cL, (3 * Q2.C), .inr (.inl ef2))), (tv, .inr (12, MF 13 (tw V))), (V.au, .inl (cC, V.U, .inl V.un))]) [2, 3, 4, 5, 0, 1] rfl
    have hD := hD.sub (ws' := [(mo, .inr (13, MF 30 (rf (rs v Q2 o) j3 b_j3))), (qx, .inl (cB, NN, .inl f)), (Q2.qq, .inl (cI, (8 * Q2.C), .inl qf2)), (Q2.qe, .inl (cL, (3 * Q2.C), .inr (.inl ef2))), (tv, .inr (12, MF 13 (tw V))), (V.au, .inl (cC, V.U, .inl V.un))]) [2, 3, 4, 5, 0, 1] (by decide) rfl
    rcases hw with ⟨hw1, val_j3, hw2, hw3, hw4, hw5⟩ | ⟨hw1, hw2, hw3, hw4⟩
    · have hw_j3 : whM f n i = some (val_j3, j3) := hw2
      have hw3 : qf2 = upd Q2.qf (8 * Q.R + 2) (Q2.qf (8 * Q.R + 2) ||| 1 <<< (nI 0 &&& 31)) := hw3
      have hw4 : ef2 = vp_updL Q2.ef (3 * Q.R + 0) val_j3 := hw4
      have hn_j3 : j3 ≤ n := hw5
      have hlt_j3 := whM_lt hw_j3
      subst hw1
      obtain ⟨Q3, e_Q3⟩ : ∃ z : QS, z = QS.mk Q2.C Q2.R Q2.qq Q2.qe qf2 ef2 := ⟨_, rfl⟩
      have hP : va_P (dC, dI) classes [(mo, .inr (13, MF 30 (rf (rs v Q3 o) j3 b_j3))), (qx, .inl (cB, NN, .inl f)), (Q3.qq, .inl (cI, (8 * Q3.C), .inl Q3.qf)), (Q3.qe, .inl (cL, (3 * Q3.C), .inr (.inl Q3.ef))), (tv, .inr (12, MF 13 (tw V))), (V.au, .inl (cC, V.U, .inl V.un))] H := by subst e_Q3; exact hP
      have hD : va_D A [(mo, .inr (13, MF 30 (rf (rs v Q3 o) j3 b_j3))), (qx, .inl (cB, NN, .inl f)), (Q3.qq, .inl (cI, (8 * Q3.C), .inl Q3.qf)), (Q3.qe, .inl (cL, (3 * Q3.C), .inr (.inl Q3.ef))), (tv, .inr (12, MF 13 (tw V))), (V.au, .inl (cC, V.U, .inl V.un))] := by subst e_Q3; exact hD
      have hf_Q3 : Q3.C = Q2.C ∧ Q3.R = Q2.R ∧ Q3.qf = qf2 := by rw [e_Q3]; exact ⟨rfl, rfl, rfl⟩
      have he_Q3 : Q3.ef = vp_updL Q2.ef (3 * Q.R + 0) val_j3 := by rw [e_Q3]; exact hw4
      have h2_Q3 : Q3.qf (8 * Q.R + 2) = Q2.qf (8 * Q.R + 2) ||| 1 <<< (nI 0 &&& 31) := by rw [hf_Q3.2.2, hw3]; exact pk_us
      have hev_Q3 : Q3.ef (3 * Q.R + 0) = val_j3 := by rw [he_Q3]; exact updL_s
      have hQk_Q3 : QOK Q3 := by rw [e_Q3, hw4]; exact ⟨hQk_Q2.1, hQk_Q2.2.1, hQk_Q2.2.2.1, QOK_upd hQk_Q2.2.2.2 (whM_gL hw_j3)⟩
      have hG_Q3V : GQ (Q.R + 8 * (n - i) + 1) (V.us + (n + 12 - i)) Q V Q3 V := by unfold GQ at hG_Q2V ⊢; rw [hf_Q3.1]; exact hG_Q2V
      refine w_same (fun hq => ?_)
      refine w_tight (k := cQ Q V Q3 V) (n := sQ Q V Q3 V) (by unfold cQ sQ at hq ⊢; rw [hf_Q3.1]; exact hq) ?_
      have hR_Q3 := hf_Q3.2.1
      have hqb_Q3V : Q3.R ≤ Q3.C ∧ Q3.C ≤ 100000 := ⟨hQk_Q3.2.2.1, hQk_Q3.2.1⟩
      have hfit_Q3V := hG_Q3V.fits
      have hk0_Q3 : Q3.qf (8 * Q.R + 0) = 40 := by rw [hf_Q3.2.2, hw3, pk_un (by omega)]; exact hk0_Q2
      have hl1_Q3 : Q3.qf (8 * Q.R + 1) = -1 := by rw [hf_Q3.2.2, hw3, pk_un (by omega)]; exact hl1_Q2
      have hEx_Q3V : alr Q V Q3 V 0 Q.R := hEx_Q2V.tr (alr_who (hf_Q3.2.2.trans hw3) he_Q3 (by decide) (by omega))
      refine lv_if_eq (tgt := 45) hx hb d_Mo_comparable_38 (by decide) (fun h => absurd h (by decide)) (fun _ => ?_)
      refine lv_iload_n hx hb d_Mo_comparable_41 rfl (lv_at hl 0 rfl) ?_
      refine lv_goto (tgt := 46) hx hb d_Mo_comparable_42 (by decide) ?_
      have hfin : cmP f n ok (orL f n) (cmL f n) (qyL f n) i = some (j3, litO (3, val_j3, [])) := by rw [cmP_40 (Or.inl (h_r1.symm.trans c8)), hw_j3]; rfl
      have hCF : CMPf O C Y Q3 V Q.R Q3.R Q.R (litO (3, val_j3, [])) := ⟨by omega, by omega, Or.inl ⟨hk0_Q3, by rw [hev_Q3]⟩⟩
      refine w_same (fun hq => ?_)
      refine W.widen (k := kcap Q (Q.R + 8 * (n - i) + 1) + qcap V (V.us + (n + 12 - i))) (n := 22 * kcap Q (Q.R + 8 * (n - i) + 1) + 2 * qcap V (V.us + (n + 12 - i))) hfit_Q3V.1 hfit_Q3V.2 ?_
      have hPo : QPo n i 1 Q V (Q3, V, j3, b_j3, o) := ⟨hQk_Q3, hG_Q3V, ⟨[], TX.rf hTk_V, Nat.zero_le _⟩, by show Q.R ≤ Q3.R; omega, by show Q3.R ≤ Q.R + 8 * (n - i) + 1; omega⟩
      exact W.iret (v := nI Q.R) hx hb hr (fun t9 ht hW => ⟨⟨nI Q.R, (Q3, V, j3, b_j3, o), rfl, ⟨hPo, Or.inl ⟨Q.R, litO (3, val_j3, []), rfl, hfin, hCF, by show Q.R < Q3.R; omega, hEx_Q3V, by show Q3.R + 8 * i + 6 ≤ Q.R + 8 * j3; omega, by show V.us + i ≤ V.us + j3; omega, by show j3 ≤ n; omega, by show Q.R < Q3.R; omega, rfl⟩⟩, ⟨by rw [ht]; exact hP, va_K.moved hW.alike hK, hD⟩, by rw [ht]; exact hq⟩, hS.F ht⟩) hS.2.2 d_Mo_comparable_46
    · have hw_j3 : whM f n i = none := hw2
      have hw3 : qf2 = Q2.qf := hw3
      have hw4 : ef2 = Q2.ef := hw4
      subst hw1
      subst hw3
      subst hw4
      have hP : va_P (dC, dI) classes [(mo, .inr (13, MF 30 (rf (rs v Q2 o) j3 b_j3))), (qx, .inl (cB, NN, .inl f)), (Q2.qq, .inl (cI, (8 * Q2.C), .inl Q2.qf)), (Q2.qe, .inl (cL, (3 * Q2.C), .inr (.inl Q2.ef))), (tv, .inr (12, MF 13 (tw V))), (V.au, .inl (cC, V.U, .inl V.un))] H := hP
      have hD : va_D A [(mo, .inr (13, MF 30 (rf (rs v Q2 o) j3 b_j3))), (qx, .inl (cB, NN, .inl f)), (Q2.qq, .inl (cI, (8 * Q2.C), .inl Q2.qf)), (Q2.qe, .inl (cL, (3 * Q2.C), .inr (.inl Q2.ef))), (tv, .inr (12, MF 13 (tw V))), (V.au, .inl (cC, V.U, .inl V.un))] := hD
      refine lv_if_eq (tgt := 45) hx hb d_Mo_comparable_38 (by decide) (fun _ => ?_) (fun h => absurd (by decide) h)
      refine lv_iconst (v := (-1)) hx hb d_Mo_comparable_45 (by decide) ?_
      have hfin : cmP f n ok (orL f n) (cmL f n) (qyL f n) i = none := by rw [cmP_40 (Or.inl (h_r1.symm.trans c8)), hw_j3]; rfl
      refine w_same (fun hq => ?_)
      refine W.widen (k := kcap Q (Q.R + 8 * (n - i) + 1) + qcap V (V.us + (n + 12 - i))) (n := 22 * kcap Q (Q.R + 8 * (n - i) + 1) + 2 * qcap V (V.us + (n + 12 - i))) hfit_Q2V.1 hfit_Q2V.2 ?_
      have hPo : QPo n i 1 Q V (Q2, V, j3, b_j3, o) := ⟨hQk_Q2, hG_Q2V, ⟨[], TX.rf hTk_V, Nat.zero_le _⟩, by show Q.R ≤ Q2.R; omega, by show Q2.R ≤ Q.R + 8 * (n - i) + 1; omega⟩
      exact W.iret (v := -1) hx hb hr (fun t9 ht hW => ⟨⟨-1, (Q2, V, j3, b_j3, o), rfl, ⟨hPo, Or.inr ⟨rfl, hfin⟩⟩, ⟨by rw [ht]; exact hP, va_K.moved hW.alike hK, hD⟩, by rw [ht]; exact hq⟩, hS.F ht⟩) hS.2.2 d_Mo_comparable_46
  · refine lv_iload_n hx hb d_Mo_comparable_11 rfl (lv_at hl 0 rfl) ?_
    have hPc := hP.sub (ws' := []) [] rfl
    have hDc := hD.sub (ws' := []) [] (by decide) rfl
    have hKc := hK.sub (tys' := []) [] rfl
    have hFc := va_free (wc := []) hD hS hA [] rfl
    refine va_calli (va_runS (As := [.int r1]) (rest := []) ⟨hx, hb, hml, hown, hts⟩ (c_Mo_digit l dC dI H r1) (va_cwS 1 hts (gt_S (own := R_Mo) (i := 166) (y := y_Mo_digit) i_Mo_digit w_1332 w_1333 w_7) rfl rfl rfl (by decide +kernel) ⟨Nat.le_trans (m := 11) (Nat.le_of_ble_eq_true rfl) (Nat.le_add_right 11 (15 + G)), Nat.le_trans (m := 400) (Nat.le_of_ble_eq_true rfl) (Nat.le_add_right 400 (600 + M))⟩) ⟨mp_blind, fun U hU hW => ⟨rfl, hU, by rw [hU]; exact hPc, va_K.moved hW.alike hKc, hDc.weaken (fun _ _ _ _ => trivial)⟩⟩ rfl rfl hl.1 rfl (lv_room (Nat.le_of_ble_eq_true rfl)) d_Mo_comparable_12 ⟨hfit_QV.1, hfit_QV.2⟩) hS (fun q _ h => hFc q h) hFc (fun d1 _u t9 H1 locs ht hvm hw hB hz1 hk1 hS => ?_)
    obtain ⟨hP1, hK1, hD1⟩ := hB
    rw [ht] at hP1
    obtain ⟨hP, hD⟩ := va_join (wr := [(mo, .inr (13, MF 30 (rf (rs v Q o) i br))), (qx, .inl (cB, NN, .inl f)), (Q.qq, .inl (cI, (8 * Q.C), .inl Q.qf)), (Q.qe, .inl (cL, (3 * Q.C), .inr (.inl Q.ef))), (tv, .inr (12, MF 13 (tw V))), (V.au, .inl (cC, V.U, .inl V.un))]) (w1 := []) hP hD [] [0, 1, 2, 3, 4, 5] rfl rfl (by decide) (by decide) hk1 hFc hP1 hD1
    generalize H1 = H at hP hS ⊢
    have hP : va_P (dC, dI) classes [(mo, .inr (13, MF 30 (rf (rs v Q o) i br))), (qx, .inl (cB, NN, .inl f)), (Q.qq, .inl (cI, (8 * Q.C), .inl Q.qf)), (Q.qe, .inl (cL, (3 * Q.C), .inr (.inl Q.ef))), (tv, .inr (12, MF 13 (tw V))), (V.au, .inl (cC, V.U, .inl V.un))] H := hP
    have hD : va_D A [(mo, .inr (13, MF 30 (rf (rs v Q o) i br))), (qx, .inl (cB, NN, .inl f)), (Q.qq, .inl (cI, (8 * Q.C), .inl Q.qf)), (Q.qe, .inl (cL, (3 * Q.C), .inr (.inl Q.ef))), (tv, .inr (12, MF 13 (tw V))), (V.au, .inl (cC, V.U, .inl V.un))] := hD
    have h_d1 := dg_01 hw
    refine lv_if_eq (tgt := 47) hx hb d_Mo_comparable_15 (by decide) (fun c15 => ?_) (fun c15 => ?_)
    · have hN0 : ¬ numC (hereV f n i) := fun h => by rw [← h_r1] at h; exact h.elim c8 (h_d1.2 c15)
      refine lv_iload_n hx hb d_Mo_comparable_47 rfl (lv_at hl 0 rfl) ?_
      refine lv_bipush (v := 39) hx hb d_Mo_comparable_48 (by decide) ?_
      refine lv_icmp_eq (tgt := 59) hx hb d_Mo_comparable_50 (by decide) (fun c50 => ?_) (fun c50 => ?_)
      · refine lv_aload_n hx hb d_Mo_comparable_59 rfl (lv_at hl 1 rfl) ?_
        refine lv_bipush (v := 41) hx hb d_Mo_comparable_60 (by decide) ?_
        have hPc := hP.sub (ws' := [(mo, .inr (13, MF 30 (rf (rs v Q o) i br))), (Q.qq, .inl (cI, (8 * Q.C), .inl Q.qf)), (Q.qe, .inl (cL, (3 * Q.C), .inr (.inl Q.ef)))]) [0, 2, 3] rfl
        have hDc := hD.sub (ws' := [(mo, .inr (13, MF 30 (rf (rs v Q o) i br))), (Q.qq, .inl (cI, (8 * Q.C), .inl Q.qf)), (Q.qe, .inl (cL, (3 * Q.C), .inr (.inl Q.ef)))]) [0, 2, 3] (by decide) rfl
        have hKc := hK.sub (tys' := [(cI, .int), (cL, .long)]) [1, 2] rfl
        have hFc := va_free (wc := [(mo, .inr (13, MF 30 (rf (rs v Q o) i br))), (Q.qq, .inl (cI, (8 * Q.C), .inl Q.qf)), (Q.qe, .inl (cL, (3 * Q.C), .inr (.inl Q.ef)))]) hD hS hA [0, 2, 3] rfl
        refine w_same (fun hq0 => ?_)
        refine va_calli (va_runV (As := [.int 41]) (rest := []) ⟨hx, hb, hml, hown, hts⟩ (c_Mo_row l dC dI mo H v cI cL Q o i br 41 hQk_Q) (cwV 1 hts (gt_V (own := R_Mo) (C := R_Mo) (i := 269) (y := y_Mo_row) i_Mo_row w_1407 w_1409 (gt_sel (y := y_Mo_row) (n := 30) (by decide +kernel)) w_7) rfl rfl rfl (by decide +kernel) ⟨Nat.le_trans (m := 11) (Nat.le_of_ble_eq_true rfl) (Nat.le_add_right 11 (15 + G)), Nat.le_trans (m := 400) (Nat.le_of_ble_eq_true rfl) (Nat.le_add_right 400 (600 + M))⟩) ⟨mp_blind, va_recv hKc hPc (ci := 13) (q0 := 0) rfl rfl, fun U hU hW => ⟨rfl, hU, by rw [hU]; exact hPc, va_K.moved hW.alike hKc, hDc.weaken (fun _ _ _ _ => trivial)⟩⟩ rfl rfl hl.1 rfl (lv_room (Nat.le_of_ble_eq_true rfl)) d_Mo_comparable_62 ⟨(QAd.fit hG_QV hQk_Q (by omega)).1, (QAd.fit hG_QV hQk_Q (by omega)).2⟩) hS (fun q _ h => hFc q h) hFc (fun r0 Q1 t9 H1 locs ht hvm hw hB hz1 hk1 hS => ?_)
        obtain ⟨⟨hP1, hK1, hD1⟩, hz9⟩ := hB
        rw [ht] at hP1
        rw [ht] at hz9
        obtain ⟨hr0, hA_Q1⟩ := hw
        have hA_Q1 : QAd Q Q1 41 := hA_Q1
        obtain ⟨hQk_Q1, hGa, hGb, hGd, hR_Q1⟩ := hA_Q1.gq hQk_Q (by omega) V
        obtain ⟨hG_Q1V, hGc, hGs⟩ := hG_QV.tr hGa (show Q.R + 1 ≤ Q.R + 8 * (n - i) + 1 by omega) (Nat.zero_le _)
        have hGc := Nat.le_trans (Nat.add_le_add_left hGb _) hGc
        have hGs := Nat.le_trans (Nat.add_le_add_left hGd _) hGs
        have hq1 : szk s.heap H1 (cQ Q V Q1 V) (sQ Q V Q1 V) := (hq0.trans hz9).mono hGc hGs
        refine w_tight hq1 ?_
        obtain ⟨hP, hD⟩ := va_join (wr := [(qx, .inl (cB, NN, .inl f)), (tv, .inr (12, MF 13 (tw V))), (V.au, .inl (cC, V.U, .inl V.un))]) (w1 := [(mo, .inr (13, MF 30 (rf (rs v Q1 o) i br))), (Q1.qq, .inl (cI, (8 * Q1.C), .inl Q1.qf)), (Q1.qe, .inl (cL, (3 * Q1.C), .inr (.inl Q1.ef)))]) hP hD [0, 2, 3] [1, 4, 5] rfl rfl (by decide) (by decide) hk1 hFc hP1 hD1
        generalize H1 = H at hP hS ⊢
        have hP : va_P (dC, dI) classes [(qx, .inl (cB, NN, .inl f)), (tv, .inr (12, MF 13 (tw V))), (V.au, .inl (cC, V.U, .inl V.un)), (mo, .inr (13, MF 30 (rf (rs v Q1 o) i br))), (Q1.qq, .inl (cI, (8 * Q1.C), .inl Q1.qf)), (Q1.qe, .inl (cL, (3 * Q1.C), .inr (.inl Q1.ef)))] H := hP
        have hD : va_D A [(qx, .inl (cB, NN, .inl f)), (tv, .inr (12, MF 13 (tw V))), (V.au, .inl (cC, V.U, .inl V.un)), (mo, .inr (13, MF 30 (rf (rs v Q1 o) i br))), (Q1.qq, .inl (cI, (8 * Q1.C), .inl Q1.qf)), (Q1.qe, .inl (cL, (3 * Q1.C), .inr (.inl Q1.ef)))] := hD
        have hP := hP.sub (ws' := [(mo, .inr (13, MF 30 (rf (rs v Q1 o) i br))), (qx, .inl (cB, NN, .inl f)), (tv, .inr (12, MF 13 (tw V))), (V.au, .inl (cC, V.U, .inl V.un)), (Q1.qq, .inl (cI, (8 * Q1.C), .inl Q1.qf)), (Q1.qe, .inl (cL, (3 * Q1.C), .inr (.inl Q1.ef)))]) [3, 0, 1, 2, 4, 5] rfl
        have hD := hD.sub (ws' := [(mo, .inr (13, MF 30 (rf (rs v Q1 o) i br))), (qx, .inl (cB, NN, .inl f)), (tv, .inr (12, MF 13 (tw V))), (V.au, .inl (cC, V.U, .inl V.un)), (Q1.qq, .inl (cI, (8 * Q1.C), .inl Q1.qf)), (Q1.qe, .inl (cL, (3 * Q1.C), .inr (.inl Q1.ef)))]) [3, 0, 1, 2, 4, 5] (by decide) rfl
        have hP := hP.sub (ws' := [(mo, .inr (13, MF 30 (rf (rs v Q1 o) i br))), (qx, .inl (cB, NN, .inl f)), (Q1.qq, .inl (cI, (8 * Q1.C), .inl Q1.qf)), (Q1.qe, .inl (cL, (3 * Q1.C), .inr (.inl Q1.ef))), (tv, .inr (12, MF 13 (tw V))), (V.au, .inl (cC, V.U, .inl V.un))]) [0, 1, 4, 5, 2, 3] rfl
        have hD := hD.sub (ws' := [(mo, .inr (13, MF 30 (rf (rs v Q1 o) i br))), (qx, .inl (cB, NN, .inl f)), (Q1.qq, .inl (cI, (8 * Q1.C), .inl Q1.qf)), (Q1.qe, .inl (cL, (3 * Q1.C), .inr (.inl Q1.ef))), (tv, .inr (12, MF 13 (tw V))), (V.au, .inl (cC, V.U, .inl V.un))]) [0, 1, 4, 5, 2, 3] (by decide) rfl
        have hr0 : r0 = nI Q.R := hr0
        subst hr0
        have hqb_Q1V : Q1.R ≤ Q1.C ∧ Q1.C ≤ 100000 := ⟨hQk_Q1.2.2.1, hQk_Q1.2.1⟩
        have hfit_Q1V := hG_Q1V.fits
        have hE_Q1 : alr Q V Q1 V 0 Q.R := ⟨fun r9 k9 _ h1 h2 => hA_Q1.2.2.1 _ (by omega), ⟨fun r9 k9 _ h1 h2 => hA_Q1.2.2.2.1.2 _ (by omega), Nat.le_refl _, fun _ _ => rfl⟩⟩
        have hk0_Q1 : Q1.qf (8 * Q.R + 0) = 41 := hA_Q1.2.2.2.2.1
        have hl1_Q1 : Q1.qf (8 * Q.R + 1) = -1 := hA_Q1.2.2.2.2.2 1 (by decide) (by decide)
        have hEx_Q1V : alr Q V Q1 V 0 Q.R := hE_Q1
        refine lv_istore_n (lv' := [(2, .int (nI Q.R)), (1, .int r1), (0, .ref mo)]) hx hb d_Mo_comparable_65 rfl hl (by decide) rfl (fun ls hl => ?_)
        refine lv_aload_n hx hb d_Mo_comparable_66 rfl (lv_at hl 2 rfl) ?_
        refine lv_iload_n hx hb d_Mo_comparable_67 rfl (lv_at hl 0 rfl) ?_
        refine lv_iconst (v := 2) hx hb d_Mo_comparable_68 (by decide) ?_
        refine lv_aload_n hx hb d_Mo_comparable_69 rfl (lv_at hl 2 rfl) ?_
        refine va_get (D := (dC, dI)) (ci := 13) (v := .ref tv) (C := R_Mo) (T := F_Mo) (N := 30) hx hb hts in_Mo hown hK hP 0 rfl rfl 22 (by decide) (hts _ w_1111) (fun _ h9 => h9) (MFg (by decide) ((rf_ne (by decide) (by decide)).trans ((rs_ne (by decide) (by decide) (by decide) (by decide)).trans h22))) d_Mo_comparable_70 ?_
        refine va_get (D := (dC, dI)) (ci := 12) (v := .int (nI V.us)) (C := R_Tree) (T := F_Tree) (N := 13) hx hb hts in_Tree hown hK hP 4 rfl rfl 12 (by decide) (hts _ w_1058) (fun _ h9 => h9) (MFg (by decide) rfl) d_Mo_comparable_73 ?_
        refine W.eq (g2 := F0 m 76 ls [.int (nI V.us), .int (nI 2), .int (nI Q.R), .ref mo]) rfl ?_
        have hPc := hP.sub (ws' := [(mo, .inr (13, MF 30 (rf (rs v Q1 o) i br))), (Q1.qq, .inl (cI, (8 * Q1.C), .inl Q1.qf))]) [0, 2] rfl
        have hDc := hD.sub (ws' := [(mo, .inr (13, MF 30 (rf (rs v Q1 o) i br))), (Q1.qq, .inl (cI, (8 * Q1.C), .inl Q1.qf))]) [0, 2] (by decide) rfl
        have hKc := hK.sub (tys' := [(cI, .int)]) [1] rfl
        have hFc := va_free (wc := [(mo, .inr (13, MF 30 (rf (rs v Q1 o) i br))), (Q1.qq, .inl (cI, (8 * Q1.C), .inl Q1.qf))]) hD hS hA [0, 2] rfl
        refine va_callv (va_runV (As := [.int (nI Q.R), .int (nI 2), .int (nI V.us)]) (rest := []) ⟨hx, hb, hml, hown, hts⟩ (c_Mo_set l dC dI mo H (rf (rs v Q1 o) i br) cI Q1.qq (8 * Q1.C) Q1.qf Q.R 2 ((nI V.us)) (by omega) (by omega) ((rf_ne (by decide) (by decide)).trans rs_19)) (cwV 3 hts (gt_V (own := R_Mo) (C := R_Mo) (i := 272) (y := y_Mo_set) i_Mo_set w_1411 w_1413 (gt_sel (y := y_Mo_set) (n := 30) (by decide +kernel)) w_7) rfl rfl rfl (by decide +kernel) ⟨Nat.le_trans (m := 11) (Nat.le_of_ble_eq_true rfl) (Nat.le_add_right 11 (15 + G)), Nat.le_trans (m := 400) (Nat.le_of_ble_eq_true rfl) (Nat.le_add_right 400 (600 + M))⟩) ⟨mp_blind, va_recv hKc hPc (ci := 13) (q0 := 0) rfl rfl, fun U hU hW => ⟨rfl, hU, by rw [hU]; exact hPc, va_K.moved hW.alike hKc, hDc.weaken (fun _ _ _ _ => trivial)⟩⟩ rfl rfl hl.1 rfl (lv_room (Nat.le_of_ble_eq_true rfl)) d_Mo_comparable_76 ⟨hfit_Q1V.1, hfit_Q1V.2⟩) hS (fun q _ h => hFc q h) hFc (fun _u t9 H1 locs ht hvm hw hB hz1 hk1 hS => ?_)
        obtain ⟨hP1, hK1, hD1⟩ := hB
        rw [ht] at hP1
        obtain ⟨hP, hD⟩ := va_join (wr := [(qx, .inl (cB, NN, .inl f)), (Q1.qe, .inl (cL, (3 * Q1.C), .inr (.inl Q1.ef))), (tv, .inr (12, MF 13 (tw V))), (V.au, .inl (cC, V.U, .inl V.un))]) (w1 := [(mo, .inr (13, MF 30 (rf (rs v Q1 o) i br))), (Q1.qq, .inl (cI, (8 * Q1.C), .inl (upd Q1.qf (8 * Q.R + 2) ((nI V.us)))))]) hP hD [0, 2] [1, 3, 4, 5] rfl rfl (by decide) (by decide) hk1 hFc hP1 hD1
        generalize H1 = H at hP hS ⊢
        have hP : va_P (dC, dI) classes [(qx, .inl (cB, NN, .inl f)), (Q1.qe, .inl (cL, (3 * Q1.C), .inr (.inl Q1.ef))), (tv, .inr (12, MF 13 (tw V))), (V.au, .inl (cC, V.U, .inl V.un)), (mo, .inr (13, MF 30 (rf (rs v Q1 o) i br))), (Q1.qq, .inl (cI, (8 * Q1.C), .inl (upd Q1.qf (8 * Q.R + 2) ((nI V.us)))))] H := hP
        have hD : va_D A [(qx, .inl (cB, NN, .inl f)), (Q1.qe, .inl (cL, (3 * Q1.C), .inr (.inl Q1.ef))), (tv, .inr (12, MF 13 (tw V))), (V.au, .inl (cC, V.U, .inl V.un)), (mo, .inr (13, MF 30 (rf (rs v Q1 o) i br))), (Q1.qq, .inl (cI, (8 * Q1.C), .inl (upd Q1.qf (8 * Q.R + 2) ((nI V.us)))))] := hD
        have hP := hP.sub (ws' := [(mo, .inr (13, MF 30 (rf (rs v Q1 o) i br))), (qx, .inl (cB, NN, .inl f)), (Q1.qq, .inl (cI, (8 * Q1.C), .inl (upd Q1.qf (8 * Q.R + 2) ((nI V.us))))), (Q1.qe, .inl (cL, (3 * Q1.C), .inr (.inl Q1.ef))), (tv, .inr (12, MF 13 (tw V))), (V.au, .inl (cC, V.U, .inl V.un))]) [4, 0, 5, 1, 2, 3] rfl
        have hD := hD.sub (ws' := [(mo, .inr (13, MF 30 (rf (rs v Q1 o) i br))), (qx, .inl (cB, NN, .inl f)), (Q1.qq, .inl (cI, (8 * Q1.C), .inl (upd Q1.qf (8 * Q.R + 2) ((nI V.us))))), (Q1.qe, .inl (cL, (3 * Q1.C), .inr (.inl Q1.ef))), (tv, .inr (12, MF 13 (tw V))), (V.au, .inl (cC, V.U, .inl V.un))]) [4, 0, 5, 1, 2, 3] (by decide) rfl
        obtain ⟨Q2, e_Q2⟩ : ∃ z : QS, z = QS.wf Q1 (upd Q1.qf (8 * Q.R + 2) ((nI V.us))) := ⟨_, rfl⟩
        have hP : va_P (dC, dI) classes [(mo, .inr (13, MF 30 (rf (rs v Q2 o) i br))), (qx, .inl (cB, NN, .inl f)), (Q2.qq, .inl (cI, (8 * Q2.C), .inl Q2.qf)), (Q2.qe, .inl (cL, (3 * Q2.C), .inr (.inl Q2.ef))), (tv, .inr (12, MF 13 (tw V))), (V.au, .inl (cC, V.U, .inl V.un))] H := by subst e_Q2; exact hP
        have hD : va_D A [(mo, .inr (13, MF 30 (rf (rs v Q2 o) i br))), (qx, .inl (cB, NN, .inl f)), (Q2.qq, .inl (cI, (8 * Q2.C), .inl Q2.qf)), (Q2.qe, .inl (cL, (3 * Q2.C), .inr (.inl Q2.ef))), (tv, .inr (12, MF 13 (tw V))), (V.au, .inl (cC, V.U, .inl V.un))] := by subst e_Q2; exact hD
        have hf_Q2 : Q2.C = Q1.C ∧ Q2.R = Q1.R ∧ Q2.qf = upd Q1.qf (8 * Q.R + 2) ((nI V.us)) := by rw [e_Q2]; exact ⟨rfl, rfl, rfl⟩
        have he_Q2 : Q2.ef = Q1.ef := by rw [e_Q2]; rfl
        have hQk_Q2 : QOK Q2 := by rw [e_Q2]; exact hQk_Q1
        have hG_Q2V : GQ (Q.R + 8 * (n - i) + 1) (V.us + (n + 12 - i)) Q V Q2 V := by unfold GQ at hG_Q1V ⊢; rw [hf_Q2.1]; exact hG_Q1V
        refine w_same (fun hq => ?_)
        refine w_tight (k := cQ Q V Q2 V) (n := sQ Q V Q2 V) (by unfold cQ sQ at hq ⊢; rw [hf_Q2.1]; exact hq) ?_
        have hR_Q2 := hf_Q2.2.1
        have hqb_Q2V : Q2.R ≤ Q2.C ∧ Q2.C ≤ 100000 := ⟨hQk_Q2.2.2.1, hQk_Q2.2.1⟩
        have hfit_Q2V := hG_Q2V.fits
        have hk0_Q2 : Q2.qf (8 * Q.R + 0) = 41 := by rw [hf_Q2.2.2, pk_un (by omega)]; exact hk0_Q1
        have hl1_Q2 : Q2.qf (8 * Q.R + 1) = -1 := by rw [hf_Q2.2.2, pk_un (by omega)]; exact hl1_Q1
        have hEx_Q2V : alr Q V Q2 V 0 Q.R := hEx_Q1V.tr (alr.upd hf_Q2.2.2 he_Q2 (by decide) (by omega))
        refine lv_aload_n hx hb d_Mo_comparable_79 rfl (lv_at hl 2 rfl) ?_
        refine lv_iload_n hx hb d_Mo_comparable_80 rfl (lv_at hl 1 rfl) ?_
        refine lv_aload_n hx hb d_Mo_comparable_81 rfl (lv_at hl 2 rfl) ?_
        refine va_get (D := (dC, dI)) (ci := 13) (v := .ref tv) (C := R_Mo) (T := F_Mo) (N := 30) hx hb hts in_Mo hown hK hP 0 rfl rfl 22 (by decide) (hts _ w_1111) (fun _ h9 => h9) (MFg (by decide) ((rf_ne (by decide) (by decide)).trans ((rs_ne (by decide) (by decide) (by decide) (by decide)).trans h22))) d_Mo_comparable_82 ?_
        have hqr : 0 ≤ r1 := by rw [c50]; decide
        have hlt0 := here_in h_r1.symm hqr
        have hcm : cmP f n ok (orL f n) (cmL f n) (qyL f n) i = (qtQ f n r1 i).map (fun p => (p.2, litO (4, 0, p.1))) := by rw [cmP_41 hN0 (Or.inl (h_r1.symm.trans c50)), ← h_r1]
        have hPc := hP.sub (ws' := [(mo, .inr (13, MF 30 (rf (rs v Q2 o) i br))), (qx, .inl (cB, NN, .inl f)), (tv, .inr (12, MF 13 (tw V))), (V.au, .inl (cC, V.U, .inl V.un))]) [0, 1, 4, 5] rfl
        have hDc := hD.sub (ws' := [(mo, .inr (13, MF 30 (rf (rs v Q2 o) i br))), (qx, .inl (cB, NN, .inl f)), (tv, .inr (12, MF 13 (tw V))), (V.au, .inl (cC, V.U, .inl V.un))]) [0, 1, 4, 5] (by decide) rfl
        have hKc := hK.sub (tys' := [(cB, .byte), (cC, .char)]) [0, 3] rfl
        have hFc := va_free (wc := [(mo, .inr (13, MF 30 (rf (rs v Q2 o) i br))), (qx, .inl (cB, NN, .inl f)), (tv, .inr (12, MF 13 (tw V))), (V.au, .inl (cC, V.U, .inl V.un))]) hD hS hA [0, 1, 4, 5] rfl
        refine w_same (fun hq0 => ?_)
        refine va_calli (va_runV (As := [.int r1, .ref tv]) (rest := []) ⟨hx, hb, hml, hown, hts⟩ (c_Mo_quoted l dC dI mo H (rs v Q2 o) cB cC qx NN f n K tv V i br r1 hnN (by omega) (by omega) ((rs_ne (by decide) (by decide) (by decide) (by decide)).trans h6) ((rs_ne (by decide) (by decide) (by decide) (by decide)).trans h8) hqr hTk_V (by omega)) (cwV 2 hts (gt_V (own := R_Mo) (C := R_Mo) (i := 200) (y := y_Mo_quoted) i_Mo_quoted w_1261 w_1263 (gt_sel (y := y_Mo_quoted) (n := 30) (by decide +kernel)) w_7) rfl rfl rfl (by decide +kernel) ⟨Nat.le_trans (m := 11) (Nat.le_of_ble_eq_true rfl) (Nat.le_add_right 11 (15 + G)), Nat.le_trans (m := 400) (Nat.le_of_ble_eq_true rfl) (Nat.le_add_right 400 (600 + M))⟩) ⟨me_blind, va_recv hKc hPc (ci := 13) (q0 := 0) rfl rfl, fun U hU hW => ⟨rfl, ⟨hU, by rw [hU]; exact hPc, va_K.moved hW.alike hKc, hDc.weaken (fun _ _ _ _ => trivial)⟩, by rw [hU]; exact ME.call hM hS.2.1 hFc hW⟩⟩ rfl rfl hl.1 rfl (lv_room (Nat.le_of_ble_eq_true rfl)) d_Mo_comparable_85 ⟨(hG_Q2V.stepQ (C2 := V.us + (n + 12 - i)) (by omega)).1, (hG_Q2V.stepQ (C2 := V.us + (n + 12 - i)) (by omega)).2⟩) hS (fun q _ h => hFc q h) hFc (fun r0 ⟨V1, us9, j_V1, b_V1⟩ t9 H1 locs ht hvm hw hB hz1 hk1 hS => ?_)
        obtain ⟨⟨hP1, hK1, hD1⟩, hz9⟩ := hB
        rw [ht] at hP1
        rw [ht] at hz9
        obtain ⟨hX_V1, hw⟩ := hw
        have hX_V1 : TX V V1 us9 := hX_V1
        have hXs_V1 := hX_V1.us
        have hln_V1 : us9.length ≤ n + 12 - i := by rcases hw with ⟨_, _, h9, h8⟩ | ⟨_, _, h9, _⟩; exact Nat.le_sub_of_add_le (show us9.length + i ≤ n + 12 by have h8 : us9.length + i + 2 ≤ j_V1 := h8; have h9 : j_V1 ≤ n := h9; omega); exact h9
        obtain ⟨hG_Q2V1, hGc, hGs⟩ := hG_Q2V.tr (hX_V1.gq Q2).1 (Nat.zero_le _) (show V.us + us9.length ≤ V.us + (n + 12 - i) by omega)
        rw [← (hX_V1.gq Q2).2.1] at hGc
        rw [← (hX_V1.gq Q2).2.2] at hGs
        have hz9 : szk H H1 (V1.U - V.U) (2 * (V1.U - V.U)) := hz9
        have hq1 : szk s.heap H1 (cQ Q V Q2 V1) (sQ Q V Q2 V1) := (hq0.trans hz9).mono hGc hGs
        refine w_tight hq1 ?_
        obtain ⟨hP, hD⟩ := va_join (wr := [(Q2.qq, .inl (cI, (8 * Q2.C), .inl Q2.qf)), (Q2.qe, .inl (cL, (3 * Q2.C), .inr (.inl Q2.ef)))]) (w1 := [(mo, .inr (13, MF 30 (rf (rs v Q2 o) j_V1 b_V1))), (qx, .inl (cB, NN, .inl f)), (tv, .inr (12, MF 13 (tw V1))), (V1.au, .inl (cC, V1.U, .inl V1.un))]) hP hD [0, 1, 4, 5] [2, 3] rfl rfl (by decide) (by decide) hk1 hFc hP1 hD1
        generalize H1 = H at hP hS ⊢
        have hP : va_P (dC, dI) classes [(Q2.qq, .inl (cI, (8 * Q2.C), .inl Q2.qf)), (Q2.qe, .inl (cL, (3 * Q2.C), .inr (.inl Q2.ef))), (mo, .inr (13, MF 30 (rf (rs v Q2 o) j_V1 b_V1))), (qx, .inl (cB, NN, .inl f)), (tv, .inr (12, MF 13 (tw V1))), (V1.au, .inl (cC, V1.U, .inl V1.un))] H := hP
        have hD : va_D A [(Q2.qq, .inl (cI, (8 * Q2.C), .inl Q2.qf)), (Q2.qe, .inl (cL, (3 * Q2.C), .inr (.inl Q2.ef))), (mo, .inr (13, MF 30 (rf (rs v Q2 o) j_V1 b_V1))), (qx, .inl (cB, NN, .inl f)), (tv, .inr (12, MF 13 (tw V1))), (V1.au, .inl (cC, V1.U, .inl V1.un))] := hD
        have hP := hP.sub (ws' := [(mo, .inr (13, MF 30 (rf (rs v Q2 o) j_V1 b_V1))), (qx, .inl (cB, NN, .inl f)), (Q2.qq, .inl (cI, (8 * Q2.C), .inl Q2.qf)), (Q2.qe, .inl (cL, (3 * Q2.C), .inr (.inl Q2.ef))), (tv, .inr (12, MF 13 (tw V1))), (V1.au, .inl (cC, V1.U, .inl V1.un))]) [2, 3, 0, 1, 4, 5] rfl
        have hD := hD.sub (ws' := [(mo, .inr (13, MF 30 (rf (rs v Q2 o) j_V1 b_V1))), (qx, .inl (cB, NN, .inl f)), (Q2.qq, .inl (cI, (8 * Q2.C), .inl Q2.qf)), (Q2.qe, .inl (cL, (3 * Q2.C), .inr (.inl Q2.ef))), (tv, .inr (12, MF 13 (tw V1))), (V1.au, .inl (cC, V1.U, .inl V1.un))]) [2, 3, 0, 1, 4, 5] (by decide) rfl
        have hP := hP.sub (ws' := [(mo, .inr (13, MF 30 (rf (rs v Q2 o) j_V1 b_V1))), (qx, .inl (cB, NN, .inl f)), (Q2.qq, .inl (cI, (8 * Q2.C), .inl Q2.qf)), (Q2.qe, .inl (cL, (3 * Q2.C), .inr (.inl Q2.ef))), (tv, .inr (12, MF 13 (tw V1))), (V1.au, .inl (cC, V1.U, .inl V1.un))]) [0, 1, 2, 3, 4, 5] rfl
        have hD := hD.sub (ws' := [(mo, .inr (13, MF 30 (rf (rs v Q2 o) j_V1 b_V1))), (qx, .inl (cB, NN, .inl f)), (Q2.qq, .inl (cI, (8 * Q2.C), .inl Q2.qf)), (Q2.qe, .inl (cL, (3 * Q2.C), .inr (.inl Q2.ef))), (tv, .inr (12, MF 13 (tw V1))), (V1.au, .inl (cC, V1.U, .inl V1.un))]) [0, 1, 2, 3, 4, 5] (by decide) rfl
        rcases hw with ⟨ho_1, ho_2, ho_3, ho_4⟩ | ⟨ho_1, ho_2, ho_3, ho_4⟩
        · have hqt_V1 : qtQ f n r1 i = some (us9, j_V1) := ho_2
          have ho_3 : j_V1 ≤ n := ho_3
          have ho_4 : us9.length + i + 2 ≤ j_V1 := ho_4
          have hTk_V1 := hX_V1.ok hTk_V (by omega)
          subst ho_1
          have hEx_Q2V1 : alr Q V Q2 V1 0 Q.R := hEx_Q2V.tr hX_V1.alr
          have hqb_Q2V1 : Q2.R ≤ Q2.C ∧ Q2.C ≤ 100000 := ⟨hQk_Q2.2.2.1, hQk_Q2.2.1⟩
          have hfit_Q2V1 := hG_Q2V1.fits
          refine lv_if_ne (tgt := 93) hx hb d_Mo_comparable_88 (by decide) (fun _ => ?_) (fun h => absurd h (by decide))
          refine lv_aload_n hx hb d_Mo_comparable_93 rfl (lv_at hl 2 rfl) ?_
          refine lv_iload_n hx hb d_Mo_comparable_94 rfl (lv_at hl 0 rfl) ?_
          refine lv_iconst (v := 3) hx hb d_Mo_comparable_95 (by decide) ?_
          refine lv_aload_n hx hb d_Mo_comparable_96 rfl (lv_at hl 2 rfl) ?_
          refine va_get (D := (dC, dI)) (ci := 13) (v := .ref tv) (C := R_Mo) (T := F_Mo) (N := 30) hx hb hts in_Mo hown hK hP 0 rfl rfl 22 (by decide) (hts _ w_1111) (fun _ h9 => h9) (MFg (by decide) ((rf_ne (by decide) (by decide)).trans ((rs_ne (by decide) (by decide) (by decide) (by decide)).trans h22))) d_Mo_comparable_97 ?_
          refine va_get (D := (dC, dI)) (ci := 12) (v := .int (nI V1.us)) (C := R_Tree) (T := F_Tree) (N := 13) hx hb hts in_Tree hown hK hP 4 rfl rfl 12 (by decide) (hts _ w_1058) (fun _ h9 => h9) (MFg (by decide) rfl) d_Mo_comparable_100 ?_
          refine lv_aload_n hx hb d_Mo_comparable_103 rfl (lv_at hl 2 rfl) ?_
          refine lv_iload_n hx hb d_Mo_comparable_104 rfl (lv_at hl 0 rfl) ?_
          refine lv_iconst (v := 2) hx hb d_Mo_comparable_105 (by decide) ?_
          refine W.eq (g2 := F0 m 106 ls [.int (nI 2), .int (nI Q.R), .ref mo, .int (nI V1.us), .int 3, .int (nI Q.R), .ref mo]) rfl ?_
          have hPc := hP.sub (ws' := [(mo, .inr (13, MF 30 (rf (rs v Q2 o) j_V1 b_V1))), (Q2.qq, .inl (cI, (8 * Q2.C), .inl Q2.qf))]) [0, 2] rfl
          have hDc := hD.sub (ws' := [(mo, .inr (13, MF 30 (rf (rs v Q2 o) j_V1 b_V1))), (Q2.qq, .inl (cI, (8 * Q2.C), .inl Q2.qf))]) [0, 2] (by decide) rfl
          have hKc := hK.sub (tys' := [(cI, .int)]) [1] rfl
          have hFc := va_free (wc := [(mo, .inr (13, MF 30 (rf (rs v Q2 o) j_V1 b_V1))), (Q2.qq, .inl (cI, (8 * Q2.C), .inl Q2.qf))]) hD hS hA [0, 2] rfl
          refine va_calli (va_runV (As := [.int (nI Q.R), .int (nI 2)]) (rest := [.int (nI V1.us), .int 3, .int (nI Q.R), .ref mo]) ⟨hx, hb, hml, hown, hts⟩ (c_Mo_field l dC dI mo H (rf (rs v Q2 o) j_V1 b_V1) cI Q2.qq (8 * Q2.C) Q2.qf Q.R 2 (by omega) (by omega) ((rf_ne (by decide) (by decide)).trans rs_19)) (cwV 2 hts (gt_V (own := R_Mo) (C := R_Mo) (i := 286) (y := y_Mo_field) i_Mo_field w_1431 w_1433 (gt_sel (y := y_Mo_field) (n := 30) (by decide +kernel)) w_7) rfl rfl rfl (by decide +kernel) ⟨Nat.le_trans (m := 11) (Nat.le_of_ble_eq_true rfl) (Nat.le_add_right 11 (15 + G)), Nat.le_trans (m := 400) (Nat.le_of_ble_eq_true rfl) (Nat.le_add_right 400 (600 + M))⟩) ⟨mp_blind, va_recv hKc hPc (ci := 13) (q0 := 0) rfl rfl, fun U hU hW => ⟨rfl, hU, by rw [hU]; exact hPc, va_K.moved hW.alike hKc, hDc.weaken (fun _ _ _ _ => trivial)⟩⟩ rfl rfl hl.1 rfl (lv_room (Nat.le_of_ble_eq_true rfl)) d_Mo_comparable_106 ⟨hfit_Q2V1.1, hfit_Q2V1.2⟩) hS (fun q _ h => hFc q h) hFc (fun r7 _u t9 H1 locs ht hvm hw hB hz1 hk1 hS => ?_)
          obtain ⟨hP1, hK1, hD1⟩ := hB
          rw [ht] at hP1
          obtain ⟨hP, hD⟩ := va_join (wr := [(qx, .inl (cB, NN, .inl f)), (Q2.qe, .inl (cL, (3 * Q2.C), .inr (.inl Q2.ef))), (tv, .inr (12, MF 13 (tw V1))), (V1.au, .inl (cC, V1.U, .inl V1.un))]) (w1 := [(mo, .inr (13, MF 30 (rf (rs v Q2 o) j_V1 b_V1))), (Q2.qq, .inl (cI, (8 * Q2.C), .inl Q2.qf))]) hP hD [0, 2] [1, 3, 4, 5] rfl rfl (by decide) (by decide) hk1 hFc hP1 hD1
          generalize H1 = H at hP hS ⊢
          have hP : va_P (dC, dI) classes [(qx, .inl (cB, NN, .inl f)), (Q2.qe, .inl (cL, (3 * Q2.C), .inr (.inl Q2.ef))), (tv, .inr (12, MF 13 (tw V1))), (V1.au, .inl (cC, V1.U, .inl V1.un)), (mo, .inr (13, MF 30 (rf (rs v Q2 o) j_V1 b_V1))), (Q2.qq, .inl (cI, (8 * Q2.C), .inl Q2.qf))] H := hP
          have hD : va_D A [(qx, .inl (cB, NN, .inl f)), (Q2.qe, .inl (cL, (3 * Q2.C), .inr (.inl Q2.ef))), (tv, .inr (12, MF 13 (tw V1))), (V1.au, .inl (cC, V1.U, .inl V1.un)), (mo, .inr (13, MF 30 (rf (rs v Q2 o) j_V1 b_V1))), (Q2.qq, .inl (cI, (8 * Q2.C), .inl Q2.qf))] := hD
          have hP := hP.sub (ws' := [(mo, .inr (13, MF 30 (rf (rs v Q2 o) j_V1 b_V1))), (qx, .inl (cB, NN, .inl f)), (Q2.qq, .inl (cI, (8 * Q2.C), .inl Q2.qf)), (Q2.qe, .inl (cL, (3 * Q2.C), .inr (.inl Q2.ef))), (tv, .inr (12, MF 13 (tw V1))), (V1.au, .inl (cC, V1.U, .inl V1.un))]) [4, 0, 5, 1, 2, 3] rfl
          have hD := hD.sub (ws' := [(mo, .inr (13, MF 30 (rf (rs v Q2 o) j_V1 b_V1))), (qx, .inl (cB, NN, .inl f)), (Q2.qq, .inl (cI, (8 * Q2.C), .inl Q2.qf)), (Q2.qe, .inl (cL, (3 * Q2.C), .inr (.inl Q2.ef))), (tv, .inr (12, MF 13 (tw V1))), (V1.au, .inl (cC, V1.U, .inl V1.un))]) [4, 0, 5, 1, 2, 3] (by decide) rfl
          have h_r7 : r7 = Q2.qf (8 * Q.R + 2) := hw
          have h7 : r7 = nI V.us := by rw [h_r7, hf_Q2.2.2]; exact pk_us
          subst h7
          refine lv_isub hx hb d_Mo_comparable_109 ?_
          refine W.eq (g2 := F0 m 110 ls [.int (nI us9.length), .int 3, .int (nI Q.R), .ref mo]) (by rw [show ((nI V1.us) - (nI V.us)) = (nI us9.length) from (by rw [hXs_V1]; exact nI_asub _ _)]) ?_
          refine W.eq (g2 := F0 m 110 ls [.int (nI us9.length), .int (nI 3), .int (nI Q.R), .ref mo]) rfl ?_
          have hPc := hP.sub (ws' := [(mo, .inr (13, MF 30 (rf (rs v Q2 o) j_V1 b_V1))), (Q2.qq, .inl (cI, (8 * Q2.C), .inl Q2.qf))]) [0, 2] rfl
          have hDc := hD.sub (ws' := [(mo, .inr (13, MF 30 (rf (rs v Q2 o) j_V1 b_V1))), (Q2.qq, .inl (cI, (8 * Q2.C), .inl Q2.qf))]) [0, 2] (by decide) rfl
          have hKc := hK.sub (tys' := [(cI, .int)]) [1] rfl
          have hFc := va_free (wc := [(mo, .inr (13, MF 30 (rf (rs v Q2 o) j_V1 b_V1))), (Q2.qq, .inl (cI, (8 * Q2.C), .inl Q2.qf))]) hD hS hA [0, 2] rfl
          refine va_callv (va_runV (As := [.int (nI Q.R), .int (nI 3), .int (nI us9.length)]) (rest := []) ⟨hx, hb, hml, hown, hts⟩ (c_Mo_set l dC dI mo H (rf (rs v Q2 o) j_V1 b_V1) cI Q2.qq (8 * Q2.C) Q2.qf Q.R 3 ((nI us9.length)) (by omega) (by omega) ((rf_ne (by decide) (by decide)).trans rs_19)) (cwV 3 hts (gt_V (own := R_Mo) (C := R_Mo) (i := 272) (y := y_Mo_set) i_Mo_set w_1411 w_1413 (gt_sel (y := y_Mo_set) (n := 30) (by decide +kernel)) w_7) rfl rfl rfl (by decide +kernel) ⟨Nat.le_trans (m := 11) (Nat.le_of_ble_eq_true rfl) (Nat.le_add_right 11 (15 + G)), Nat.le_trans (m := 400) (Nat.le_of_ble_eq_true rfl) (Nat.le_add_right 400 (600 + M))⟩) ⟨mp_blind, va_recv hKc hPc (ci := 13) (q0 := 0) rfl rfl, fun U hU hW => ⟨rfl, hU, by rw [hU]; exact hPc, va_K.moved hW.alike hKc, hDc.weaken (fun _ _ _ _ => trivial)⟩⟩ rfl rfl hl.1 rfl (lv_room (Nat.le_of_ble_eq_true rfl)) d_Mo_comparable_110 ⟨hfit_Q2V1.1, hfit_Q2V1.2⟩) hS (fun q _ h => hFc q h) hFc (fun _u t9 H1 locs ht hvm hw hB hz1 hk1 hS => ?_)
          obtain ⟨hP1, hK1, hD1⟩ := hB
          rw [ht] at hP1
          obtain ⟨hP, hD⟩ := va_join (wr := [(qx, .inl (cB, NN, .inl f)), (Q2.qe, .inl (cL, (3 * Q2.C), .inr (.inl Q2.ef))), (tv, .inr (12, MF 13 (tw V1))), (V1.au, .inl (cC, V1.U, .inl V1.un))]) (w1 := [(mo, .inr (13, MF 30 (rf (rs v Q2 o) j_V1 b_V1))), (Q2.qq, .inl (cI, (8 * Q2.C), .inl (upd Q2.qf (8 * Q.R + 3) ((nI us9.length)))))]) hP hD [0, 2] [1, 3, 4, 5] rfl rfl (by decide) (by decide) hk1 hFc hP1 hD1
          generalize H1 = H at hP hS ⊢
          have hP : va_P (dC, dI) classes [(qx, .inl (cB, NN, .inl f)), (Q2.qe, .inl (cL, (3 * Q2.C), .inr (.inl Q2.ef))), (tv, .inr (12, MF 13 (tw V1))), (V1.au, .inl (cC, V1.U, .inl V1.un)), (mo, .inr (13, MF 30 (rf (rs v Q2 o) j_V1 b_V1))), (Q2.qq, .inl (cI, (8 * Q2.C), .inl (upd Q2.qf (8 * Q.R + 3) ((nI us9.length)))))] H := hP
          have hD : va_D A [(qx, .inl (cB, NN, .inl f)), (Q2.qe, .inl (cL, (3 * Q2.C), .inr (.inl Q2.ef))), (tv, .inr (12, MF 13 (tw V1))), (V1.au, .inl (cC, V1.U, .inl V1.un)), (mo, .inr (13, MF 30 (rf (rs v Q2 o) j_V1 b_V1))), (Q2.qq, .inl (cI, (8 * Q2.C), .inl (upd Q2.qf (8 * Q.R + 3) ((nI us9.length)))))] := hD
          have hP := hP.sub (ws' := [(mo, .inr (13, MF 30 (rf (rs v Q2 o) j_V1 b_V1))), (qx, .inl (cB, NN, .inl f)), (Q2.qq, .inl (cI, (8 * Q2.C), .inl (upd Q2.qf (8 * Q.R + 3) ((nI us9.length))))), (Q2.qe, .inl (cL, (3 * Q2.C), .inr (.inl Q2.ef))), (tv, .inr (12, MF 13 (tw V1))), (V1.au, .inl (cC, V1.U, .inl V1.un))]) [4, 0, 5, 1, 2, 3] rfl
          have hD := hD.sub (ws' := [(mo, .inr (13, MF 30 (rf (rs v Q2 o) j_V1 b_V1))), (qx, .inl (cB, NN, .inl f)), (Q2.qq, .inl (cI, (8 * Q2.C), .inl (upd Q2.qf (8 * Q.R + 3) ((nI us9.length))))), (Q2.qe, .inl (cL, (3 * Q2.C), .inr (.inl Q2.ef))), (tv, .inr (12, MF 13 (tw V1))), (V1.au, .inl (cC, V1.U, .inl V1.un))]) [4, 0, 5, 1, 2, 3] (by decide) rfl
          obtain ⟨Q3, e_Q3⟩ : ∃ z : QS, z = QS.wf Q2 (upd Q2.qf (8 * Q.R + 3) ((nI us9.length))) := ⟨_, rfl⟩
          have hP : va_P (dC, dI) classes [(mo, .inr (13, MF 30 (rf (rs v Q3 o) j_V1 b_V1))), (qx, .inl (cB, NN, .inl f)), (Q3.qq, .inl (cI, (8 * Q3.C), .inl Q3.qf)), (Q3.qe, .inl (cL, (3 * Q3.C), .inr (.inl Q3.ef))), (tv, .inr (12, MF 13 (tw V1))), (V1.au, .inl (cC, V1.U, .inl V1.un))] H := by subst e_Q3; exact hP
          have hD : va_D A [(mo, .inr (13, MF 30 (rf (rs v Q3 o) j_V1 b_V1))), (qx, .inl (cB, NN, .inl f)), (Q3.qq, .inl (cI, (8 * Q3.C), .inl Q3.qf)), (Q3.qe, .inl (cL, (3 * Q3.C), .inr (.inl Q3.ef))), (tv, .inr (12, MF 13 (tw V1))), (V1.au, .inl (cC, V1.U, .inl V1.un))] := by subst e_Q3; exact hD
          have hf_Q3 : Q3.C = Q2.C ∧ Q3.R = Q2.R ∧ Q3.qf = upd Q2.qf (8 * Q.R + 3) ((nI us9.length)) := by rw [e_Q3]; exact ⟨rfl, rfl, rfl⟩
          have he_Q3 : Q3.ef = Q2.ef := by rw [e_Q3]; rfl
          have hQk_Q3 : QOK Q3 := by rw [e_Q3]; exact hQk_Q2
          have hG_Q3V1 : GQ (Q.R + 8 * (n - i) + 1) (V.us + (n + 12 - i)) Q V Q3 V1 := by unfold GQ at hG_Q2V1 ⊢; rw [hf_Q3.1]; exact hG_Q2V1
          refine w_same (fun hq => ?_)
          refine w_tight (k := cQ Q V Q3 V1) (n := sQ Q V Q3 V1) (by unfold cQ sQ at hq ⊢; rw [hf_Q3.1]; exact hq) ?_
          have hR_Q3 := hf_Q3.2.1
          have hqb_Q3V1 : Q3.R ≤ Q3.C ∧ Q3.C ≤ 100000 := ⟨hQk_Q3.2.2.1, hQk_Q3.2.1⟩
          have hfit_Q3V1 := hG_Q3V1.fits
          have hk0_Q3 : Q3.qf (8 * Q.R + 0) = 41 := by rw [hf_Q3.2.2, pk_un (by omega)]; exact hk0_Q2
          have hl1_Q3 : Q3.qf (8 * Q.R + 1) = -1 := by rw [hf_Q3.2.2, pk_un (by omega)]; exact hl1_Q2
          have hEx_Q3V1 : alr Q V Q3 V1 0 Q.R := hEx_Q2V1.tr (alr.upd hf_Q3.2.2 he_Q3 (by decide) (by omega))
          refine lv_iload_n hx hb d_Mo_comparable_113 rfl (lv_at hl 0 rfl) ?_
          have hfin : cmP f n ok (orL f n) (cmL f n) (qyL f n) i = some (j_V1, litO (4, 0, us9)) := by rw [hcm, hqt_V1]; rfl
          have hu9 := qtQ_uok (Or.inl c50) hqt_V1
          have hNM : NMq Q3 V1 Q.R us9 := ⟨V.us, us9.length, by rw [hf_Q3.2.2, pk_un (by omega), hf_Q2.2.2]; exact pk_us, by rw [hf_Q3.2.2]; exact pk_us, by omega, by rw [hX_V1.un.2]; exact hu9.2⟩
          have hCF : CMPf O C Y Q3 V1 Q.R Q3.R Q.R (litO (4, 0, us9)) := ⟨by omega, by omega, Or.inr (Or.inl ⟨hk0_Q3, us9, hNM, hu9.1, rfl⟩)⟩
          refine w_same (fun hq => ?_)
          refine W.widen (k := kcap Q (Q.R + 8 * (n - i) + 1) + qcap V (V.us + (n + 12 - i))) (n := 22 * kcap Q (Q.R + 8 * (n - i) + 1) + 2 * qcap V (V.us + (n + 12 - i))) hfit_Q3V1.1 hfit_Q3V1.2 ?_
          have hPo : QPo n i 1 Q V (Q3, V1, j_V1, b_V1, o) := ⟨hQk_Q3, hG_Q3V1, ⟨_, hX_V1, by omega⟩, by show Q.R ≤ Q3.R; omega, by show Q3.R ≤ Q.R + 8 * (n - i) + 1; omega⟩
          exact W.iret (v := nI Q.R) hx hb hr (fun t9 ht hW => ⟨⟨nI Q.R, (Q3, V1, j_V1, b_V1, o), rfl, ⟨hPo, Or.inl ⟨Q.R, litO (4, 0, us9), rfl, hfin, hCF, by show Q.R < Q3.R; omega, hEx_Q3V1, by show Q3.R + 8 * i + 6 ≤ Q.R + 8 * j_V1; omega, by show V1.us + i ≤ V.us + j_V1; omega, by show j_V1 ≤ n; omega, by show Q.R < Q3.R; omega, rfl⟩⟩, ⟨by rw [ht]; exact hP, va_K.moved hW.alike hK, hD⟩, by rw [ht]; exact hq⟩, hS.F ht⟩) hS.2.2 d_Mo_comparable_114
        · have hqt_V1 : qtQ f n r1 i = none := ho_2
          clear ho_3 ho_4
          have hTk_V1 := hX_V1.ok hTk_V (by omega)
          subst ho_1
          have hEx_Q2V1 : alr Q V Q2 V1 0 Q.R := hEx_Q2V.tr hX_V1.alr
          have hqb_Q2V1 : Q2.R ≤ Q2.C ∧ Q2.C ≤ 100000 := ⟨hQk_Q2.2.2.1, hQk_Q2.2.1⟩
          have hfit_Q2V1 := hG_Q2V1.fits
          refine lv_if_ne (tgt := 93) hx hb d_Mo_comparable_88 (by decide) (fun h => absurd h (by decide)) (fun _ => ?_)
          refine lv_iconst (v := (-1)) hx hb d_Mo_comparable_91 (by decide) ?_
          have hfin : cmP f n ok (orL f n) (cmL f n) (qyL f n) i = none := by rw [hcm, hqt_V1]; rfl
          refine w_same (fun hq => ?_)
          refine W.widen (k := kcap Q (Q.R + 8 * (n - i) + 1) + qcap V (V.us + (n + 12 - i))) (n := 22 * kcap Q (Q.R + 8 * (n - i) + 1) + 2 * qcap V (V.us + (n + 12 - i))) hfit_Q2V1.1 hfit_Q2V1.2 ?_
          have hPo : QPo n i 1 Q V (Q2, V1, j_V1, b_V1, o) := ⟨hQk_Q2, hG_Q2V1, ⟨_, hX_V1, by omega⟩, by show Q.R ≤ Q2.R; omega, by show Q2.R ≤ Q.R + 8 * (n - i) + 1; omega⟩
          exact W.iret (v := -1) hx hb hr (fun t9 ht hW => ⟨⟨-1, (Q2, V1, j_V1, b_V1, o), rfl, ⟨hPo, Or.inr ⟨rfl, hfin⟩⟩, ⟨by rw [ht]; exact hP, va_K.moved hW.alike hK, hD⟩, by rw [ht]; exact hq⟩, hS.F ht⟩) hS.2.2 d_Mo_comparable_92
      · refine lv_iload_n hx hb d_Mo_comparable_53 rfl (lv_at hl 0 rfl) ?_
        refine lv_bipush (v := 34) hx hb d_Mo_comparable_54 (by decide) ?_
        refine lv_icmp_ne (tgt := 115) hx hb d_Mo_comparable_56 (by decide) (fun c56 => ?_) (fun c56 => ?_)
        · have hN1 : ¬ (hereV f n i = 39 ∨ hereV f n i = 34) := fun h => by rw [← h_r1] at h; exact h.elim c50 c56
          refine lv_iload_n hx hb d_Mo_comparable_115 rfl (lv_at hl 0 rfl) ?_
          refine lv_bipush (v := 64) hx hb d_Mo_comparable_116 (by decide) ?_
          refine lv_icmp_eq (tgt := 127) hx hb d_Mo_comparable_118 (by decide) (fun c118 => ?_) (fun c118 => ?_)
          · refine lv_aload_n hx hb d_Mo_comparable_127 rfl (lv_at hl 1 rfl) ?_
            refine lv_dup hx hb d_Mo_comparable_128 rfl ?_
            refine va_get (D := (dC, dI)) (ci := 13) (v := .int (nI i)) (C := R_Mo) (T := F_Mo) (N := 30) hx hb hts in_Mo hown hK hP 0 rfl rfl 7 (by decide) (hts _ w_1096) (fun _ h9 => h9) (MFg (by decide) rf_7) d_Mo_comparable_129 ?_
            refine lv_iconst (v := 1) hx hb d_Mo_comparable_132 (by decide) ?_
            refine lv_iadd hx hb d_Mo_comparable_133 ?_
            have hbeg : begC (hereV f n i) := Or.inl (h_r1.symm.trans c118)
            have hlt0 : i < n := hbeg.elim (fun h => here_in h (by decide)) (fun h => here_in h (by decide))
            have hrtb : decide (hereV f n i = 36) = false := decide_eq_false (by rw [← h_r1, c118]; decide)
            have hcm : cmP f n ok (orL f n) (cmL f n) (qyL f n) i = (qrP f n ok (orL f n) true (decide (hereV f n i = 36)) (i + 1)).map (fun p => (p.1, onlO p.2.2)) := cmP_45 hN0 hN1 hbeg
            refine W.eq (g2 := F0 m 134 ls [.int (nI (i + 1)), .ref mo]) (by rw [show ((nI i) + 1) = (nI (i + 1)) from nI_1 _]) ?_
            refine va_put (D := (dC, dI)) (ci := 13) (v := .int (nI (i + 1))) (ty := .int) (C := R_Mo) (T := F_Mo) (N := 30) hx hb hts in_Mo t_Mo t_Mo_ok n_Mo hown hK hP hD hS 0 rfl rfl 7 (by decide) (hts _ w_1096) (fun _ h9 => h9) rfl (by decide +kernel) rfl rfl (by rw [MFl]; decide) d_Mo_comparable_134 (fun H locs hP hD hS => ?_)
            rw [MFs (n := 30) (k := 7) (by decide)] at hP hD
            have hP : va_P (dC, dI) classes [(mo, .inr (13, MF 30 (va_up (rf (rs v Q o) i br) 7 (.int (nI (i + 1)))))), (qx, .inl (cB, NN, .inl f)), (Q.qq, .inl (cI, (8 * Q.C), .inl Q.qf)), (Q.qe, .inl (cL, (3 * Q.C), .inr (.inl Q.ef))), (tv, .inr (12, MF 13 (tw V))), (V.au, .inl (cC, V.U, .inl V.un))] H := hP
            have hD : va_D A [(mo, .inr (13, MF 30 (va_up (rf (rs v Q o) i br) 7 (.int (nI (i + 1)))))), (qx, .inl (cB, NN, .inl f)), (Q.qq, .inl (cI, (8 * Q.C), .inl Q.qf)), (Q.qe, .inl (cL, (3 * Q.C), .inr (.inl Q.ef))), (tv, .inr (12, MF 13 (tw V))), (V.au, .inl (cC, V.U, .inl V.un))] := hD
            rw [rf_u7] at hP hD
            have hP : va_P (dC, dI) classes [(mo, .inr (13, MF 30 (rf (rs v Q o) (i + 1) br))), (qx, .inl (cB, NN, .inl f)), (Q.qq, .inl (cI, (8 * Q.C), .inl Q.qf)), (Q.qe, .inl (cL, (3 * Q.C), .inr (.inl Q.ef))), (tv, .inr (12, MF 13 (tw V))), (V.au, .inl (cC, V.U, .inl V.un))] H := hP
            have hD : va_D A [(mo, .inr (13, MF 30 (rf (rs v Q o) (i + 1) br))), (qx, .inl (cB, NN, .inl f)), (Q.qq, .inl (cI, (8 * Q.C), .inl Q.qf)), (Q.qe, .inl (cL, (3 * Q.C), .inr (.inl Q.ef))), (tv, .inr (12, MF 13 (tw V))), (V.au, .inl (cC, V.U, .inl V.un))] := hD
            refine lv_aload_n hx hb d_Mo_comparable_137 rfl (lv_at hl 1 rfl) ?_
            refine lv_iload_n hx hb d_Mo_comparable_138 rfl (lv_at hl 0 rfl) ?_
            refine lv_bipush (v := 36) hx hb d_Mo_comparable_139 (by decide) ?_
            refine lv_icmp_ne (tgt := 148) hx hb d_Mo_comparable_141 (by decide) (fun _ => ?_) (fun h => absurd h (fun h => absurd (c118.symm.trans h) (by decide)))
            refine lv_iconst (v := 0) hx hb d_Mo_comparable_148 (by decide) ?_
            refine lv_iconst (v := 1) hx hb d_Mo_comparable_149 (by decide) ?_
            have hPc := hP.sub (ws' := [(mo, .inr (13, MF 30 (rf (rs v Q o) (i + 1) br))), (qx, .inl (cB, NN, .inl f)), (Q.qq, .inl (cI, (8 * Q.C), .inl Q.qf)), (Q.qe, .inl (cL, (3 * Q.C), .inr (.inl Q.ef))), (tv, .inr (12, MF 13 (tw V))), (V.au, .inl (cC, V.U, .inl V.un))]) [0, 1, 2, 3, 4, 5] rfl
            have hDc := hD.sub (ws' := [(mo, .inr (13, MF 30 (rf (rs v Q o) (i + 1) br))), (qx, .inl (cB, NN, .inl f)), (Q.qq, .inl (cI, (8 * Q.C), .inl Q.qf)), (Q.qe, .inl (cL, (3 * Q.C), .inr (.inl Q.ef))), (tv, .inr (12, MF 13 (tw V))), (V.au, .inl (cC, V.U, .inl V.un))]) [0, 1, 2, 3, 4, 5] (by decide) rfl
            have hKc := hK.sub (tys' := [(cB, .byte), (cI, .int), (cL, .long), (cC, .char)]) [0, 1, 2, 3] rfl
            have hFc := va_free (wc := [(mo, .inr (13, MF 30 (rf (rs v Q o) (i + 1) br))), (qx, .inl (cB, NN, .inl f)), (Q.qq, .inl (cI, (8 * Q.C), .inl Q.qf)), (Q.qe, .inl (cL, (3 * Q.C), .inr (.inl Q.ef))), (tv, .inr (12, MF 13 (tw V))), (V.au, .inl (cC, V.U, .inl V.un))]) hD hS hA [0, 1, 2, 3, 4, 5] rfl
            refine w_same (fun hq0 => ?_)
            refine va_calli (va_runV (As := [.int 0, .int 1]) (rest := []) ⟨hx, hb, hml, hown, hts⟩ (c_qr1 orL O (15 + G) (600 + M) hOf l dC dI mo H v cB cI cL cC qx NN f n K tv Q V o (i + 1) br false 0 (by decide) ok hok ho16 hOR hnN hNN (by omega) h6 h8 h22 hQk_Q hTk_V (by omega) (by omega)) (cwV 2 hts (gt_V (own := R_Mo) (C := R_Mo) (i := 317) (y := y_Mo_queryRest) i_Mo_queryRest w_1403 w_1405 (gt_sel (y := y_Mo_queryRest) (n := 30) (by decide +kernel)) w_7) rfl rfl rfl (by decide +kernel) ⟨by show 10 + (15 + G) + 1 ≤ 11 + (15 + G); omega, by show 8 + (7 + 11) + (320 + (600 + M)) ≤ 400 + (600 + M); omega⟩) ⟨me_blind, va_recv hKc hPc (ci := 13) (q0 := 0) rfl rfl, fun U hU hW => ⟨rfl, ⟨hU, by rw [hU]; exact hPc, va_K.moved hW.alike hKc, hDc.weaken (fun _ _ _ _ => trivial)⟩, by rw [hU]; exact ME.call hM hS.2.1 hFc hW⟩⟩ rfl rfl hl.1 rfl (lv_room (Nat.le_of_ble_eq_true rfl)) d_Mo_comparable_150 ⟨(hG_QV.step (B2 := Q.R + 8 * (n - (i + 1)) + 9) (C2 := V.us + (n + 12 - (i + 1))) (by omega) (by omega)).1, (hG_QV.step (B2 := Q.R + 8 * (n - (i + 1)) + 9) (C2 := V.us + (n + 12 - (i + 1))) (by omega) (by omega)).2⟩) hS (fun q _ h => hFc q h) hFc (fun r0 ⟨Qs, Vs, js, bs, os⟩ t9 H1 locs ht hvm hw hB hz1 hk1 hS => ?_)
            obtain ⟨⟨hP1, hK1, hD1⟩, hz9⟩ := hB
            rw [ht] at hP1
            rw [ht] at hz9
            obtain ⟨⟨hQk_Qs, hGn, hTXs, hR1_Qs, hR2_Qs⟩, hw⟩ := hw
            have hQk_Qs : QOK Qs := hQk_Qs
            obtain ⟨hG_QsVs, hGc, hGs⟩ := hG_QV.tr hGn (by omega) (by omega)
            have hR1_Qs : Q.R ≤ Qs.R := hR1_Qs
            have hR2_Qs : Qs.R ≤ Q.R + 8 * (n - (i + 1)) + 9 := hR2_Qs
            obtain ⟨uss, hX_Vs, hln_Vs⟩ := hTXs
            have hX_Vs : TX V Vs uss := hX_Vs
            have hXs_Vs := hX_Vs.us
            have hz9 : szk H H1 (cQ Q V Qs Vs) (sQ Q V Qs Vs) := hz9
            have hq1 : szk s.heap H1 (cQ Q V Qs Vs) (sQ Q V Qs Vs) := (hq0.trans hz9).mono hGc hGs
            refine w_tight hq1 ?_
            obtain ⟨hP, hD⟩ := va_join (wr := []) (w1 := [(mo, .inr (13, MF 30 (rf (rs v Qs os) js bs))), (qx, .inl (cB, NN, .inl f)), (Qs.qq, .inl (cI, (8 * Qs.C), .inl Qs.qf)), (Qs.qe, .inl (cL, (3 * Qs.C), .inr (.inl Qs.ef))), (tv, .inr (12, MF 13 (tw Vs))), (Vs.au, .inl (cC, Vs.U, .inl Vs.un))]) hP hD [0, 1, 2, 3, 4, 5] [] rfl rfl (by decide) (by decide) hk1 hFc hP1 hD1
            generalize H1 = H at hP hS ⊢
            have hP : va_P (dC, dI) classes [(mo, .inr (13, MF 30 (rf (rs v Qs os) js bs))), (qx, .inl (cB, NN, .inl f)), (Qs.qq, .inl (cI, (8 * Qs.C), .inl Qs.qf)), (Qs.qe, .inl (cL, (3 * Qs.C), .inr (.inl Qs.ef))), (tv, .inr (12, MF 13 (tw Vs))), (Vs.au, .inl (cC, Vs.U, .inl Vs.un))] H := hP
            have hD : va_D A [(mo, .inr (13, MF 30 (rf (rs v Qs os) js bs))), (qx, .inl (cB, NN, .inl f)), (Qs.qq, .inl (cI, (8 * Qs.C), .inl Qs.qf)), (Qs.qe, .inl (cL, (3 * Qs.C), .inr (.inl Qs.ef))), (tv, .inr (12, MF 13 (tw Vs))), (Vs.au, .inl (cC, Vs.U, .inl Vs.un))] := hD
            have hP := hP.sub (ws' := [(mo, .inr (13, MF 30 (rf (rs v Qs os) js bs))), (qx, .inl (cB, NN, .inl f)), (tv, .inr (12, MF 13 (tw Vs))), (Qs.qq, .inl (cI, (8 * Qs.C), .inl Qs.qf)), (Qs.qe, .inl (cL, (3 * Qs.C), .inr (.inl Qs.ef))), (Vs.au, .inl (cC, Vs.U, .inl Vs.un))]) [0, 1, 4, 2, 3, 5] rfl
            have hD := hD.sub (ws' := [(mo, .inr (13, MF 30 (rf (rs v Qs os) js bs))), (qx, .inl (cB, NN, .inl f)), (tv, .inr (12, MF 13 (tw Vs))), (Qs.qq, .inl (cI, (8 * Qs.C), .inl Qs.qf)), (Qs.qe, .inl (cL, (3 * Qs.C), .inr (.inl Qs.ef))), (Vs.au, .inl (cC, Vs.U, .inl Vs.un))]) [0, 1, 4, 2, 3, 5] (by decide) rfl
            have hP := hP.sub (ws' := [(mo, .inr (13, MF 30 (rf (rs v Qs os) js bs))), (qx, .inl (cB, NN, .inl f)), (Qs.qq, .inl (cI, (8 * Qs.C), .inl Qs.qf)), (Qs.qe, .inl (cL, (3 * Qs.C), .inr (.inl Qs.ef))), (tv, .inr (12, MF 13 (tw Vs))), (Vs.au, .inl (cC, Vs.U, .inl Vs.un))]) [0, 1, 3, 4, 2, 5] rfl
            have hD := hD.sub (ws' := [(mo, .inr (13, MF 30 (rf (rs v Qs os) js bs))), (qx, .inl (cB, NN, .inl f)), (Qs.qq, .inl (cI, (8 * Qs.C), .inl Qs.qf)), (Qs.qe, .inl (cL, (3 * Qs.C), .inr (.inl Qs.ef))), (tv, .inr (12, MF 13 (tw Vs))), (Vs.au, .inl (cC, Vs.U, .inl Vs.un))]) [0, 1, 3, 4, 2, 5] (by decide) rfl
            have hTk_Vs := hX_Vs.ok hTk_V (by omega)
            have hqb_QsVs : Qs.R ≤ Qs.C ∧ Qs.C ≤ 100000 := ⟨hQk_Qs.2.2.1, hQk_Qs.2.1⟩
            have hfit_QsVs := hG_QsVs.fits
            rcases hw with ⟨fl, g9, hv_1, hv_2, hv_3, hv_4, hv_5, hv_6, hv_7, hv_8, hv_9, hv_10⟩ | ⟨hv_1, hv_2⟩
            · have hv_10 : o = os := hv_10.symm
              subst hv_10
              have hP : va_P (dC, dI) classes [(mo, .inr (13, MF 30 (rf (rs v Qs o) js bs))), (qx, .inl (cB, NN, .inl f)), (Qs.qq, .inl (cI, (8 * Qs.C), .inl Qs.qf)), (Qs.qe, .inl (cL, (3 * Qs.C), .inr (.inl Qs.ef))), (tv, .inr (12, MF 13 (tw Vs))), (Vs.au, .inl (cC, Vs.U, .inl Vs.un))] H := hP
              have hD : va_D A [(mo, .inr (13, MF 30 (rf (rs v Qs o) js bs))), (qx, .inl (cB, NN, .inl f)), (Qs.qq, .inl (cI, (8 * Qs.C), .inl Qs.qf)), (Qs.qe, .inl (cL, (3 * Qs.C), .inr (.inl Qs.ef))), (tv, .inr (12, MF 13 (tw Vs))), (Vs.au, .inl (cC, Vs.U, .inl Vs.un))] := hD
              have hv_2 : qrP f n ok (orL f n) true (decide (hereV f n i = 36)) (i + 1) = some (js, fl, g9) := by rw [hrtb]; exact hv_2
              have hv_3 : QRYp O Qs Vs Q.R Qs.R Q.R g9 := hv_3
              have hv_4 : alr Q V Qs Vs 0 Q.R := hv_4
              have hv_5 : Qs.qf (8 * Q.R + 3) = (if fl = true then 1 else 0) := hv_5
              have hv_6 : Qs.R + 8 * (i + 1) ≤ Q.R + 8 * js + 1 := hv_6
              have hv_7 : Vs.us + (i + 1) ≤ V.us + js := hv_7
              have hv_8 : js ≤ n := hv_8
              have hv_9 : Q.R < Qs.R := hv_9
              subst hv_1
              refine lv_istore_n (lv' := [(2, .int (nI Q.R)), (1, .int r1), (0, .ref mo)]) hx hb d_Mo_comparable_153 rfl hl (by decide) rfl (fun ls hl => ?_)
              refine lv_iload_n hx hb d_Mo_comparable_154 rfl (lv_at hl 0 rfl) ?_
              refine lv_if_ge (tgt := 160) hx hb d_Mo_comparable_155 (by decide) (fun _ => ?_) (fun h => absurd (nI_pos' (by omega)) h)
              refine lv_aload_n hx hb d_Mo_comparable_160 rfl (lv_at hl 2 rfl) ?_
              refine lv_bipush (v := 45) hx hb d_Mo_comparable_161 (by decide) ?_
              have hPc := hP.sub (ws' := [(mo, .inr (13, MF 30 (rf (rs v Qs o) js bs))), (Qs.qq, .inl (cI, (8 * Qs.C), .inl Qs.qf)), (Qs.qe, .inl (cL, (3 * Qs.C), .inr (.inl Qs.ef)))]) [0, 2, 3] rfl
              have hDc := hD.sub (ws' := [(mo, .inr (13, MF 30 (rf (rs v Qs o) js bs))), (Qs.qq, .inl (cI, (8 * Qs.C), .inl Qs.qf)), (Qs.qe, .inl (cL, (3 * Qs.C), .inr (.inl Qs.ef)))]) [0, 2, 3] (by decide) rfl
              have hKc := hK.sub (tys' := [(cI, .int), (cL, .long)]) [1, 2] rfl
              have hFc := va_free (wc := [(mo, .inr (13, MF 30 (rf (rs v Qs o) js bs))), (Qs.qq, .inl (cI, (8 * Qs.C), .inl Qs.qf)), (Qs.qe, .inl (cL, (3 * Qs.C), .inr (.inl Qs.ef)))]) hD hS hA [0, 2, 3] rfl
              refine w_same (fun hq0 => ?_)
              refine va_calli (va_runV (As := [.int 45]) (rest := []) ⟨hx, hb, hml, hown, hts⟩ (c_Mo_row l dC dI mo H v cI cL Qs o js bs 45 hQk_Qs) (cwV 1 hts (gt_V (own := R_Mo) (C := R_Mo) (i := 269) (y := y_Mo_row) i_Mo_row w_1407 w_1409 (gt_sel (y := y_Mo_row) (n := 30) (by decide +kernel)) w_7) rfl rfl rfl (by decide +kernel) ⟨Nat.le_trans (m := 11) (Nat.le_of_ble_eq_true rfl) (Nat.le_add_right 11 (15 + G)), Nat.le_trans (m := 400) (Nat.le_of_ble_eq_true rfl) (Nat.le_add_right 400 (600 + M))⟩) ⟨mp_blind, va_recv hKc hPc (ci := 13) (q0 := 0) rfl rfl, fun U hU hW => ⟨rfl, hU, by rw [hU]; exact hPc, va_K.moved hW.alike hKc, hDc.weaken (fun _ _ _ _ => trivial)⟩⟩ rfl rfl hl.1 rfl (lv_room (Nat.le_of_ble_eq_true rfl)) d_Mo_comparable_163 ⟨(QAd.fit hG_QsVs hQk_Qs (by omega)).1, (QAd.fit hG_QsVs hQk_Qs (by omega)).2⟩) hS (fun q _ h => hFc q h) hFc (fun r0 Qa t9 H1 locs ht hvm hw hB hz1 hk1 hS => ?_)
              obtain ⟨⟨hP1, hK1, hD1⟩, hz9⟩ := hB
              rw [ht] at hP1
              rw [ht] at hz9
              obtain ⟨hr0, hA_Qa⟩ := hw
              have hA_Qa : QAd Qs Qa 45 := hA_Qa
              obtain ⟨hQk_Qa, hGa, hGb, hGd, hR_Qa⟩ := hA_Qa.gq hQk_Qs (by omega) Vs
              obtain ⟨hG_QaVs, hGc, hGs⟩ := hG_QsVs.tr hGa (show Qs.R + 1 ≤ Q.R + 8 * (n - i) + 1 by omega) (Nat.zero_le _)
              have hGc := Nat.le_trans (Nat.add_le_add_left hGb _) hGc
              have hGs := Nat.le_trans (Nat.add_le_add_left hGd _) hGs
              have hq1 : szk s.heap H1 (cQ Q V Qa Vs) (sQ Q V Qa Vs) := (hq0.trans hz9).mono hGc hGs
              refine w_tight hq1 ?_
              obtain ⟨hP, hD⟩ := va_join (wr := [(qx, .inl (cB, NN, .inl f)), (tv, .inr (12, MF 13 (tw Vs))), (Vs.au, .inl (cC, Vs.U, .inl Vs.un))]) (w1 := [(mo, .inr (13, MF 30 (rf (rs v Qa o) js bs))), (Qa.qq, .inl (cI, (8 * Qa.C), .inl Qa.qf)), (Qa.qe, .inl (cL, (3 * Qa.C), .inr (.inl Qa.ef)))]) hP hD [0, 2, 3] [1, 4, 5] rfl rfl (by decide) (by decide) hk1 hFc hP1 hD1
              generalize H1 = H at hP hS ⊢
              have hP : va_P (dC, dI) classes [(qx, .inl (cB, NN, .inl f)), (tv, .inr (12, MF 13 (tw Vs))), (Vs.au, .inl (cC, Vs.U, .inl Vs.un)), (mo, .inr (13, MF 30 (rf (rs v Qa o) js bs))), (Qa.qq, .inl (cI, (8 * Qa.C), .inl Qa.qf)), (Qa.qe, .inl (cL, (3 * Qa.C), .inr (.inl Qa.ef)))] H := hP
              have hD : va_D A [(qx, .inl (cB, NN, .inl f)), (tv, .inr (12, MF 13 (tw Vs))), (Vs.au, .inl (cC, Vs.U, .inl Vs.un)), (mo, .inr (13, MF 30 (rf (rs v Qa o) js bs))), (Qa.qq, .inl (cI, (8 * Qa.C), .inl Qa.qf)), (Qa.qe, .inl (cL, (3 * Qa.C), .inr (.inl Qa.ef)))] := hD
              have hP := hP.sub (ws' := [(mo, .inr (13, MF 30 (rf (rs v Qa o) js bs))), (qx, .inl (cB, NN, .inl f)), (tv, .inr (12, MF 13 (tw Vs))), (Vs.au, .inl (cC, Vs.U, .inl Vs.un)), (Qa.qq, .inl (cI, (8 * Qa.C), .inl Qa.qf)), (Qa.qe, .inl (cL, (3 * Qa.C), .inr (.inl Qa.ef)))]) [3, 0, 1, 2, 4, 5] rfl
              have hD := hD.sub (ws' := [(mo, .inr (13, MF 30 (rf (rs v Qa o) js bs))), (qx, .inl (cB, NN, .inl f)), (tv, .inr (12, MF 13 (tw Vs))), (Vs.au, .inl (cC, Vs.U, .inl Vs.un)), (Qa.qq, .inl (cI, (8 * Qa.C), .inl Qa.qf)), (Qa.qe, .inl (cL, (3 * Qa.C), .inr (.inl Qa.ef)))]) [3, 0, 1, 2, 4, 5] (by decide) rfl
              have hP := hP.sub (ws' := [(mo, .inr (13, MF 30 (rf (rs v Qa o) js bs))), (qx, .inl (cB, NN, .inl f)), (Qa.qq, .inl (cI, (8 * Qa.C), .inl Qa.qf)), (Qa.qe, .inl (cL, (3 * Qa.C), .inr (.inl Qa.ef))), (tv, .inr (12, MF 13 (tw Vs))), (Vs.au, .inl (cC, Vs.U, .inl Vs.un))]) [0, 1, 4, 5, 2, 3] rfl
              have hD := hD.sub (ws' := [(mo, .inr (13, MF 30 (rf (rs v Qa o) js bs))), (qx, .inl (cB, NN, .inl f)), (Qa.qq, .inl (cI, (8 * Qa.C), .inl Qa.qf)), (Qa.qe, .inl (cL, (3 * Qa.C), .inr (.inl Qa.ef))), (tv, .inr (12, MF 13 (tw Vs))), (Vs.au, .inl (cC, Vs.U, .inl Vs.un))]) [0, 1, 4, 5, 2, 3] (by decide) rfl
              have hr0 : r0 = nI Qs.R := hr0
              subst hr0
              have hqb_QaVs : Qa.R ≤ Qa.C ∧ Qa.C ≤ 100000 := ⟨hQk_Qa.2.2.1, hQk_Qa.2.1⟩
              have hfit_QaVs := hG_QaVs.fits
              have hE_Qa : alr Qs Vs Qa Vs 0 Qs.R := ⟨fun r9 k9 _ h1 h2 => hA_Qa.2.2.1 _ (by omega), ⟨fun r9 k9 _ h1 h2 => hA_Qa.2.2.2.1.2 _ (by omega), Nat.le_refl _, fun _ _ => rfl⟩⟩
              refine lv_istore_n (lv' := [(3, .int (nI Qs.R)), (2, .int (nI Q.R)), (1, .int r1), (0, .ref mo)]) hx hb d_Mo_comparable_166 rfl hl (by decide) rfl (fun ls hl => ?_)
              refine lv_aload_n hx hb d_Mo_comparable_167 rfl (lv_at hl 3 rfl) ?_
              refine lv_iload_n hx hb d_Mo_comparable_168 rfl (lv_at hl 0 rfl) ?_
              refine lv_iconst (v := 2) hx hb d_Mo_comparable_169 (by decide) ?_
              refine lv_iload_n hx hb d_Mo_comparable_170 rfl (lv_at hl 1 rfl) ?_
              refine W.eq (g2 := F0 m 171 ls [.int (nI Q.R), .int (nI 2), .int (nI Qs.R), .ref mo]) rfl ?_
              have hPc := hP.sub (ws' := [(mo, .inr (13, MF 30 (rf (rs v Qa o) js bs))), (Qa.qq, .inl (cI, (8 * Qa.C), .inl Qa.qf))]) [0, 2] rfl
              have hDc := hD.sub (ws' := [(mo, .inr (13, MF 30 (rf (rs v Qa o) js bs))), (Qa.qq, .inl (cI, (8 * Qa.C), .inl Qa.qf))]) [0, 2] (by decide) rfl
              have hKc := hK.sub (tys' := [(cI, .int)]) [1] rfl
              have hFc := va_free (wc := [(mo, .inr (13, MF 30 (rf (rs v Qa o) js bs))), (Qa.qq, .inl (cI, (8 * Qa.C), .inl Qa.qf))]) hD hS hA [0, 2] rfl
              refine va_callv (va_runV (As := [.int (nI Qs.R), .int (nI 2), .int (nI Q.R)]) (rest := []) ⟨hx, hb, hml, hown, hts⟩ (c_Mo_set l dC dI mo H (rf (rs v Qa o) js bs) cI Qa.qq (8 * Qa.C) Qa.qf Qs.R 2 ((nI Q.R)) (by omega) (by omega) ((rf_ne (by decide) (by decide)).trans rs_19)) (cwV 3 hts (gt_V (own := R_Mo) (C := R_Mo) (i := 272) (y := y_Mo_set) i_Mo_set w_1411 w_1413 (gt_sel (y := y_Mo_set) (n := 30) (by decide +kernel)) w_7) rfl rfl rfl (by decide +kernel) ⟨Nat.le_trans (m := 11) (Nat.le_of_ble_eq_true rfl) (Nat.le_add_right 11 (15 + G)), Nat.le_trans (m := 400) (Nat.le_of_ble_eq_true rfl) (Nat.le_add_right 400 (600 + M))⟩) ⟨mp_blind, va_recv hKc hPc (ci := 13) (q0 := 0) rfl rfl, fun U hU hW => ⟨rfl, hU, by rw [hU]; exact hPc, va_K.moved hW.alike hKc, hDc.weaken (fun _ _ _ _ => trivial)⟩⟩ rfl rfl hl.1 rfl (lv_room (Nat.le_of_ble_eq_true rfl)) d_Mo_comparable_171 ⟨hfit_QaVs.1, hfit_QaVs.2⟩) hS (fun q _ h => hFc q h) hFc (fun _u t9 H1 locs ht hvm hw hB hz1 hk1 hS => ?_)
              obtain ⟨hP1, hK1, hD1⟩ := hB
              rw [ht] at hP1
              obtain ⟨hP, hD⟩ := va_join (wr := [(qx, .inl (cB, NN, .inl f)), (Qa.qe, .inl (cL, (3 * Qa.C), .inr (.inl Qa.ef))), (tv, .inr (12, MF 13 (tw Vs))), (Vs.au, .inl (cC, Vs.U, .inl Vs.un))]) (w1 := [(mo, .inr (13, MF 30 (rf (rs v Qa o) js bs))), (Qa.qq, .inl (cI, (8 * Qa.C), .inl (upd Qa.qf (8 * Qs.R + 2) ((nI Q.R)))))]) hP hD [0, 2] [1, 3, 4, 5] rfl rfl (by decide) (by decide) hk1 hFc hP1 hD1
              generalize H1 = H at hP hS ⊢
              have hP : va_P (dC, dI) classes [(qx, .inl (cB, NN, .inl f)), (Qa.qe, .inl (cL, (3 * Qa.C), .inr (.inl Qa.ef))), (tv, .inr (12, MF 13 (tw Vs))), (Vs.au, .inl (cC, Vs.U, .inl Vs.un)), (mo, .inr (13, MF 30 (rf (rs v Qa o) js bs))), (Qa.qq, .inl (cI, (8 * Qa.C), .inl (upd Qa.qf (8 * Qs.R + 2) ((nI Q.R)))))] H := hP
              have hD : va_D A [(qx, .inl (cB, NN, .inl f)), (Qa.qe, .inl (cL, (3 * Qa.C), .inr (.inl Qa.ef))), (tv, .inr (12, MF 13 (tw Vs))), (Vs.au, .inl (cC, Vs.U, .inl Vs.un)), (mo, .inr (13, MF 30 (rf (rs v Qa o) js bs))), (Qa.qq, .inl (cI, (8 * Qa.C), .inl (upd Qa.qf (8 * Qs.R + 2) ((nI Q.R)))))] := hD
              have hP := hP.sub (ws' := [(mo, .inr (13, MF 30 (rf (rs v Qa o) js bs))), (qx, .inl (cB, NN, .inl f)), (Qa.qq, .inl (cI, (8 * Qa.C), .inl (upd Qa.qf (8 * Qs.R + 2) ((nI Q.R))))), (Qa.qe, .inl (cL, (3 * Qa.C), .inr (.inl Qa.ef))), (tv, .inr (12, MF 13 (tw Vs))), (Vs.au, .inl (cC, Vs.U, .inl Vs.un))]) [4, 0, 5, 1, 2, 3] rfl
              have hD := hD.sub (ws' := [(mo, .inr (13, MF 30 (rf (rs v Qa o) js bs))), (qx, .inl (cB, NN, .inl f)), (Qa.qq, .inl (cI, (8 * Qa.C), .inl (upd Qa.qf (8 * Qs.R + 2) ((nI Q.R))))), (Qa.qe, .inl (cL, (3 * Qa.C), .inr (.inl Qa.ef))), (tv, .inr (12, MF 13 (tw Vs))), (Vs.au, .inl (cC, Vs.U, .inl Vs.un))]) [4, 0, 5, 1, 2, 3] (by decide) rfl
              obtain ⟨Qb, e_Qb⟩ : ∃ z : QS, z = QS.wf Qa (upd Qa.qf (8 * Qs.R + 2) ((nI Q.R))) := ⟨_, rfl⟩
              have hP : va_P (dC, dI) classes [(mo, .inr (13, MF 30 (rf (rs v Qb o) js bs))), (qx, .inl (cB, NN, .inl f)), (Qb.qq, .inl (cI, (8 * Qb.C), .inl Qb.qf)), (Qb.qe, .inl (cL, (3 * Qb.C), .inr (.inl Qb.ef))), (tv, .inr (12, MF 13 (tw Vs))), (Vs.au, .inl (cC, Vs.U, .inl Vs.un))] H := by subst e_Qb; exact hP
              have hD : va_D A [(mo, .inr (13, MF 30 (rf (rs v Qb o) js bs))), (qx, .inl (cB, NN, .inl f)), (Qb.qq, .inl (cI, (8 * Qb.C), .inl Qb.qf)), (Qb.qe, .inl (cL, (3 * Qb.C), .inr (.inl Qb.ef))), (tv, .inr (12, MF 13 (tw Vs))), (Vs.au, .inl (cC, Vs.U, .inl Vs.un))] := by subst e_Qb; exact hD
              have hf_Qb : Qb.C = Qa.C ∧ Qb.R = Qa.R ∧ Qb.qf = upd Qa.qf (8 * Qs.R + 2) ((nI Q.R)) := by rw [e_Qb]; exact ⟨rfl, rfl, rfl⟩
              have he_Qb : Qb.ef = Qa.ef := by rw [e_Qb]; rfl
              have hQk_Qb : QOK Qb := by rw [e_Qb]; exact hQk_Qa
              have hG_QbVs : GQ (Q.R + 8 * (n - i) + 1) (V.us + (n + 12 - i)) Q V Qb Vs := by unfold GQ at hG_QaVs ⊢; rw [hf_Qb.1]; exact hG_QaVs
              refine w_same (fun hq => ?_)
              refine w_tight (k := cQ Q V Qb Vs) (n := sQ Q V Qb Vs) (by unfold cQ sQ at hq ⊢; rw [hf_Qb.1]; exact hq) ?_
              have hR_Qb := hf_Qb.2.1
              have hqb_QbVs : Qb.R ≤ Qb.C ∧ Qb.C ≤ 100000 := ⟨hQk_Qb.2.2.1, hQk_Qb.2.1⟩
              have hfit_QbVs := hG_QbVs.fits
              refine lv_iload_n hx hb d_Mo_comparable_174 rfl (lv_at hl 0 rfl) ?_
              have hfin : cmP f n ok (orL f n) (cmL f n) (qyL f n) i = some (js, onlO g9) := by rw [hcm, hv_2]; rfl
              have hk45 : Qb.qf (8 * Qs.R + 0) = 45 := by rw [hf_Qb.2.2, pk_un (by omega)]; exact hA_Qa.2.2.2.2.1
              have hW : Wth (QRYp O) Qb Vs Q.R Qb.R Qs.R Q.R g9 := Wth_up (Frm8 (QRYp_fr hOf)) hv_3 (Nat.le_refl _) (by omega) (by omega) ((hE_Qa.sub (Nat.zero_le _) (Nat.le_refl _)).tr (alr.upd hf_Qb.2.2 he_Qb (by decide) (by omega)))
              have hExb : alr Q V Qb Vs 0 Q.R := (hv_4.tr (hE_Qa.sub (Nat.le_refl _) (by omega))).tr (alr.upd hf_Qb.2.2 he_Qb (by decide) (by omega))
              have hCF : CMPf O C Y Qb Vs Q.R Qb.R Qs.R (onlO g9) := ⟨by omega, by omega, Or.inr (Or.inr (Or.inr (Or.inr (Or.inr (Or.inl ⟨hk45, Q.R, g9, by rw [hf_Qb.2.2]; exact pk_us, hW, rfl⟩)))))⟩
              refine w_same (fun hq => ?_)
              refine W.widen (k := kcap Q (Q.R + 8 * (n - i) + 1) + qcap V (V.us + (n + 12 - i))) (n := 22 * kcap Q (Q.R + 8 * (n - i) + 1) + 2 * qcap V (V.us + (n + 12 - i))) hfit_QbVs.1 hfit_QbVs.2 ?_
              have hPo : QPo n i 1 Q V (Qb, Vs, js, bs, o) := ⟨hQk_Qb, hG_QbVs, ⟨_, hX_Vs, by omega⟩, by show Q.R ≤ Qb.R; omega, by show Qb.R ≤ Q.R + 8 * (n - i) + 1; omega⟩
              exact W.iret (v := nI Qs.R) hx hb hr (fun t9 ht hW => ⟨⟨nI Qs.R, (Qb, Vs, js, bs, o), rfl, ⟨hPo, Or.inl ⟨Qs.R, onlO g9, rfl, hfin, hCF, by show Qs.R < Qb.R; omega, hExb, by show Qb.R + 8 * i + 6 ≤ Q.R + 8 * js; omega, by show Vs.us + i ≤ V.us + js; omega, by show js ≤ n; omega, by show Q.R < Qb.R; omega, rfl⟩⟩, ⟨by rw [ht]; exact hP, va_K.moved hW.alike hK, hD⟩, by rw [ht]; exact hq⟩, hS.F ht⟩) hS.2.2 d_Mo_comparable_175
            · have hv_2 : qrP f n ok (orL f n) true (decide (hereV f n i = 36)) (i + 1) = none := by rw [hrtb]; exact hv_2
              subst hv_1
              refine lv_istore_n (lv' := [(2, .int (-1)), (1, .int r1), (0, .ref mo)]) hx hb d_Mo_comparable_153 rfl hl (by decide) rfl (fun ls hl => ?_)
              refine lv_iload_n hx hb d_Mo_comparable_154 rfl (lv_at hl 0 rfl) ?_
              refine lv_if_ge (tgt := 160) hx hb d_Mo_comparable_155 (by decide) (fun h => absurd h (by decide)) (fun _ => ?_)
              refine lv_iconst (v := (-1)) hx hb d_Mo_comparable_158 (by decide) ?_
              have hfin : cmP f n ok (orL f n) (cmL f n) (qyL f n) i = none := by rw [hcm, hv_2]; rfl
              refine w_same (fun hq => ?_)
              refine W.widen (k := kcap Q (Q.R + 8 * (n - i) + 1) + qcap V (V.us + (n + 12 - i))) (n := 22 * kcap Q (Q.R + 8 * (n - i) + 1) + 2 * qcap V (V.us + (n + 12 - i))) hfit_QsVs.1 hfit_QsVs.2 ?_
              have hPo : QPo n i 1 Q V (Qs, Vs, js, bs, os) := ⟨hQk_Qs, hG_QsVs, ⟨_, hX_Vs, by omega⟩, by show Q.R ≤ Qs.R; omega, by show Qs.R ≤ Q.R + 8 * (n - i) + 1; omega⟩
              exact W.iret (v := -1) hx hb hr (fun t9 ht hW => ⟨⟨-1, (Qs, Vs, js, bs, os), rfl, ⟨hPo, Or.inr ⟨rfl, hfin⟩⟩, ⟨by rw [ht]; exact hP, va_K.moved hW.alike hK, hD⟩, by rw [ht]; exact hq⟩, hS.F ht⟩) hS.2.2 d_Mo_comparable_159
          · refine lv_iload_n hx hb d_Mo_comparable_121 rfl (lv_at hl 0 rfl) ?_
            refine lv_bipush (v := 36) hx hb d_Mo_comparable_122 (by decide) ?_
            refine lv_icmp_ne (tgt := 176) hx hb d_Mo_comparable_124 (by decide) (fun c124 => ?_) (fun c124 => ?_)
            · have hN2 : ¬ begC (hereV f n i) := fun h => by rw [← h_r1] at h; exact h.elim c118 c124
              refine lv_iload_n hx hb d_Mo_comparable_176 rfl (lv_at hl 0 rfl) ?_
              refine lv_bipush (v := 116) hx hb d_Mo_comparable_177 (by decide) ?_
              refine lv_icmp_ne (tgt := 202) hx hb d_Mo_comparable_179 (by decide) (fun c179 => ?_) (fun c179 => ?_)
              · have hN3 : ¬ hereV f n i = 116 := fun h => c179 (h_r1.trans h)
                refine lv_iload_n hx hb d_Mo_comparable_202 rfl (lv_at hl 0 rfl) ?_
                refine lv_bipush (v := 102) hx hb d_Mo_comparable_203 (by decide) ?_
                refine lv_icmp_ne (tgt := 228) hx hb d_Mo_comparable_205 (by decide) (fun c205 => ?_) (fun c205 => ?_)
                · have hN4 : ¬ hereV f n i = 102 := fun h => c205 (h_r1.trans h)
                  refine lv_iload_n hx hb d_Mo_comparable_228 rfl (lv_at hl 0 rfl) ?_
                  refine lv_bipush (v := 110) hx hb d_Mo_comparable_229 (by decide) ?_
                  refine lv_icmp_ne (tgt := 254) hx hb d_Mo_comparable_231 (by decide) (fun c231 => ?_) (fun c231 => ?_)
                  · have hN5 : ¬ hereV f n i = 110 := fun h => c231 (h_r1.trans h)
                    refine lv_iload_n hx hb d_Mo_comparable_254 rfl (lv_at hl 0 rfl) ?_
                    refine lv_bipush (v := 108) hx hb d_Mo_comparable_255 (by decide) ?_
                    refine lv_icmp_eq (tgt := 283) hx hb d_Mo_comparable_257 (by decide) (fun c257 => ?_) (fun c257 => ?_)
                    · have hfx : hereV f n i = 108 := h_r1.symm.trans c257
                      have hcm : cmP f n ok (orL f n) (cmL f n) (qyL f n) i = (match fnP f n i with | none => none | some j => fnT f n ok (cmL f n) (qyL f n) i j) := cmP_fn hN0 hN1 hN2 hN3 hN4 hN5
                      refine lv_aload_n hx hb d_Mo_comparable_283 rfl (lv_at hl 1 rfl) ?_
                      refine lv_iload_n hx hb d_Mo_comparable_284 rfl (lv_at hl 0 rfl) ?_
                      refine lv_bipush (v := 108) hx hb d_Mo_comparable_285 (by decide) ?_
                      refine lv_icmp_ne (tgt := 296) hx hb d_Mo_comparable_287 (by decide) (fun h => absurd h (fun q => q c257)) (fun _ => ?_)
                      refine va_ldcwS hx hb hown (hM 11 _ rfl).2 d_Mo_comparable_290 ?_
                      refine lv_goto (tgt := 311) hx hb d_Mo_comparable_293 (by decide) ?_
                      have hE := (hM 11 _ rfl).1
                      have hPc := hP.sub (ws' := [(mo, .inr (13, MF 30 (rf (rs v Q o) i br))), (qx, .inl (cB, NN, .inl f))]) [0, 1] rfl
                      have hDc := hD.sub (ws' := [(mo, .inr (13, MF 30 (rf (rs v Q o) i br))), (qx, .inl (cB, NN, .inl f))]) [0, 1] (by decide) rfl
                      have hKc := hK.sub (tys' := [(cB, .byte)]) [0] rfl
                      have hFc := va_free (wc := [(mo, .inr (13, MF 30 (rf (rs v Q o) i br))), (qx, .inl (cB, NN, .inl f))]) hD hS hA [0, 1] rfl
                      refine va_calli (va_runV (As := [.ref (K 11).1]) (rest := []) ⟨hx, hb, hml, hown, hts⟩ (c_Mo_wordS l dC dI mo H (rf (rs v Q o) i br) cB qx NN f (K 11).1 (K 11).2 6 (mtx 11) n i (by omega) (by omega) (by omega) ((rf_ne (by decide) (by decide)).trans ((rs_ne (by decide) (by decide) (by decide) (by decide)).trans h6)) rf_7 ((rf_ne (by decide) (by decide)).trans ((rs_ne (by decide) (by decide) (by decide) (by decide)).trans h8)) br rf_9 (by decide)) (cwV 1 hts (gt_V (own := R_Mo) (C := R_Mo) (i := 193) (y := y_Mo_wordS) i_Mo_wordS w_1240 w_1242 (gt_sel (y := y_Mo_wordS) (n := 30) (by decide +kernel)) w_7) rfl rfl rfl (by decide +kernel) ⟨Nat.le_trans (m := 11) (Nat.le_of_ble_eq_true rfl) (Nat.le_add_right 11 (15 + G)), Nat.le_trans (m := 400) (Nat.le_of_ble_eq_true rfl) (Nat.le_add_right 400 (600 + M))⟩) ⟨mstr_blind, va_recv hKc hPc (ci := 13) (q0 := 0) rfl rfl, fun U hU hW => ⟨rfl, ⟨hU, by rw [hU]; exact hPc, va_K.moved hW.alike hKc, hDc.weaken (fun _ _ _ _ => trivial)⟩, by rw [hU]; exact SX.moved' hW.alike (SX.narrow' (SX.kept' hE hS.2.1) hFc)⟩⟩ rfl rfl hl.1 rfl (lv_room (Nat.le_of_ble_eq_true rfl)) d_Mo_comparable_311 ⟨hfit_QV.1, hfit_QV.2⟩) hS (fun q _ h => hFc q h) hFc (fun r0 u2 t9 H1 locs ht hvm hw hB hz1 hk1 hS => ?_)
                      obtain ⟨hP1, hK1, hD1⟩ := hB
                      rw [ht] at hP1
                      obtain ⟨hP, hD⟩ := va_join (wr := [(Q.qq, .inl (cI, (8 * Q.C), .inl Q.qf)), (Q.qe, .inl (cL, (3 * Q.C), .inr (.inl Q.ef))), (tv, .inr (12, MF 13 (tw V))), (V.au, .inl (cC, V.U, .inl V.un))]) (w1 := [(mo, .inr (13, MF 30 u2)), (qx, .inl (cB, NN, .inl f))]) hP hD [0, 1] [2, 3, 4, 5] rfl rfl (by decide) (by decide) hk1 hFc hP1 hD1
                      generalize H1 = H at hP hS ⊢
                      have hP : va_P (dC, dI) classes [(Q.qq, .inl (cI, (8 * Q.C), .inl Q.qf)), (Q.qe, .inl (cL, (3 * Q.C), .inr (.inl Q.ef))), (tv, .inr (12, MF 13 (tw V))), (V.au, .inl (cC, V.U, .inl V.un)), (mo, .inr (13, MF 30 u2)), (qx, .inl (cB, NN, .inl f))] H := hP
                      have hD : va_D A [(Q.qq, .inl (cI, (8 * Q.C), .inl Q.qf)), (Q.qe, .inl (cL, (3 * Q.C), .inr (.inl Q.ef))), (tv, .inr (12, MF 13 (tw V))), (V.au, .inl (cC, V.U, .inl V.un)), (mo, .inr (13, MF 30 u2)), (qx, .inl (cB, NN, .inl f))] := hD
                      have hP := hP.sub (ws' := [(mo, .inr (13, MF 30 u2)), (qx, .inl (cB, NN, .inl f)), (Q.qq, .inl (cI, (8 * Q.C), .inl Q.qf)), (Q.qe, .inl (cL, (3 * Q.C), .inr (.inl Q.ef))), (tv, .inr (12, MF 13 (tw V))), (V.au, .inl (cC, V.U, .inl V.un))]) [4, 5, 0, 1, 2, 3] rfl
                      have hD := hD.sub (ws' := [(mo, .inr (13, MF 30 u2)), (qx, .inl (cB, NN, .inl f)), (Q.qq, .inl (cI, (8 * Q.C), .inl Q.qf)), (Q.qe, .inl (cL, (3 * Q.C), .inr (.inl Q.ef))), (tv, .inr (12, MF 13 (tw V))), (V.au, .inl (cC, V.U, .inl V.un))]) [4, 5, 0, 1, 2, 3] (by decide) rfl
                      rcases hw with ⟨hwm, hw2, hw3⟩ | ⟨hwm, hw2, k9, hw3⟩
                      · rw [rf_u7] at hw3
                        rw [hw3] at hP hD
                        subst hw2
                        have hP : va_P (dC, dI) classes [(mo, .inr (13, MF 30 (rf (rs v Q o) (i + 6) br))), (qx, .inl (cB, NN, .inl f)), (Q.qq, .inl (cI, (8 * Q.C), .inl Q.qf)), (Q.qe, .inl (cL, (3 * Q.C), .inr (.inl Q.ef))), (tv, .inr (12, MF 13 (tw V))), (V.au, .inl (cC, V.U, .inl V.un))] H := hP
                        have hD : va_D A [(mo, .inr (13, MF 30 (rf (rs v Q o) (i + 6) br))), (qx, .inl (cB, NN, .inl f)), (Q.qq, .inl (cI, (8 * Q.C), .inl Q.qf)), (Q.qe, .inl (cL, (3 * Q.C), .inr (.inl Q.ef))), (tv, .inr (12, MF 13 (tw V))), (V.au, .inl (cC, V.U, .inl V.un))] := hD
                        have hwlt := mtch_le (k := 5) hwm (by decide)
                        have hwb : mtB f n i (mtx 11) 6 = true := mtB_iff.mpr hwm
                        have hfnP : fnP f n i = some (i + 6) := by unfold fnP; rw [if_pos hfx, if_pos hwb]
                        have hcm : cmP f n ok (orL f n) (cmL f n) (qyL f n) i = fnT f n ok (cmL f n) (qyL f n) i (i + 6) := by rw [hcm, hfnP]
                        refine lv_if_eq (tgt := 326) hx hb d_Mo_comparable_314 (by decide) (fun h => absurd h (by decide)) (fun _ => ?_)
                        refine lv_aload_n hx hb d_Mo_comparable_317 rfl (lv_at hl 1 rfl) ?_
                        refine lv_bipush (v := 40) hx hb d_Mo_comparable_318 (by decide) ?_
                        have hjw : (i + 6) ≤ n := by omega
                        have hPc := hP.sub (ws' := [(mo, .inr (13, MF 30 (rf (rs v Q o) (i + 6) br))), (qx, .inl (cB, NN, .inl f))]) [0, 1] rfl
                        have hDc := hD.sub (ws' := [(mo, .inr (13, MF 30 (rf (rs v Q o) (i + 6) br))), (qx, .inl (cB, NN, .inl f))]) [0, 1] (by decide) rfl
                        have hKc := hK.sub (tys' := [(cB, .byte)]) [0] rfl
                        have hFc := va_free (wc := [(mo, .inr (13, MF 30 (rf (rs v Q o) (i + 6) br))), (qx, .inl (cB, NN, .inl f))]) hD hS hA [0, 1] rfl
                        refine va_calli (va_runV (As := [.int 40]) (rest := []) ⟨hx, hb, hml, hown, hts⟩ (c_Mo_enter l dC dI mo H (rf (rs v Q o) (i + 6) br) cB qx NN f n (i + 6) (by omega) (by omega) (by omega) ((rf_ne (by decide) (by decide)).trans ((rs_ne (by decide) (by decide) (by decide) (by decide)).trans h6)) rf_7 ((rf_ne (by decide) (by decide)).trans ((rs_ne (by decide) (by decide) (by decide) (by decide)).trans h8)) br rf_9 40 o (by omega) ((rf_ne (by decide) (by decide)).trans rs_23)) (cwV 1 hts (gt_V (own := R_Mo) (C := R_Mo) (i := 290) (y := y_Mo_enter) i_Mo_enter w_1423 w_1425 (gt_sel (y := y_Mo_enter) (n := 30) (by decide +kernel)) w_7) rfl rfl rfl (by decide +kernel) ⟨Nat.le_trans (m := 11) (Nat.le_of_ble_eq_true rfl) (Nat.le_add_right 11 (15 + G)), Nat.le_trans (m := 400) (Nat.le_of_ble_eq_true rfl) (Nat.le_add_right 400 (600 + M))⟩) ⟨mp_blind, va_recv hKc hPc (ci := 13) (q0 := 0) rfl rfl, fun U hU hW => ⟨rfl, hU, by rw [hU]; exact hPc, va_K.moved hW.alike hKc, hDc.weaken (fun _ _ _ _ => trivial)⟩⟩ rfl rfl hl.1 rfl (lv_room (Nat.le_of_ble_eq_true rfl)) d_Mo_comparable_320 ⟨hfit_QV.1, hfit_QV.2⟩) hS (fun q _ h => hFc q h) hFc (fun r0 u2 t9 H1 locs ht hvm hw hB hz1 hk1 hS => ?_)
                        obtain ⟨hP1, hK1, hD1⟩ := hB
                        rw [ht] at hP1
                        obtain ⟨hP, hD⟩ := va_join (wr := [(Q.qq, .inl (cI, (8 * Q.C), .inl Q.qf)), (Q.qe, .inl (cL, (3 * Q.C), .inr (.inl Q.ef))), (tv, .inr (12, MF 13 (tw V))), (V.au, .inl (cC, V.U, .inl V.un))]) (w1 := [(mo, .inr (13, MF 30 u2)), (qx, .inl (cB, NN, .inl f))]) hP hD [0, 1] [2, 3, 4, 5] rfl rfl (by decide) (by decide) hk1 hFc hP1 hD1
                        generalize H1 = H at hP hS ⊢
                        have hP : va_P (dC, dI) classes [(Q.qq, .inl (cI, (8 * Q.C), .inl Q.qf)), (Q.qe, .inl (cL, (3 * Q.C), .inr (.inl Q.ef))), (tv, .inr (12, MF 13 (tw V))), (V.au, .inl (cC, V.U, .inl V.un)), (mo, .inr (13, MF 30 u2)), (qx, .inl (cB, NN, .inl f))] H := hP
                        have hD : va_D A [(Q.qq, .inl (cI, (8 * Q.C), .inl Q.qf)), (Q.qe, .inl (cL, (3 * Q.C), .inr (.inl Q.ef))), (tv, .inr (12, MF 13 (tw V))), (V.au, .inl (cC, V.U, .inl V.un)), (mo, .inr (13, MF 30 u2)), (qx, .inl (cB, NN, .inl f))] := hD
                        have hP := hP.sub (ws' := [(mo, .inr (13, MF 30 u2)), (qx, .inl (cB, NN, .inl f)), (Q.qq, .inl (cI, (8 * Q.C), .inl Q.qf)), (Q.qe, .inl (cL, (3 * Q.C), .inr (.inl Q.ef))), (tv, .inr (12, MF 13 (tw V))), (V.au, .inl (cC, V.U, .inl V.un))]) [4, 5, 0, 1, 2, 3] rfl
                        have hD := hD.sub (ws' := [(mo, .inr (13, MF 30 u2)), (qx, .inl (cB, NN, .inl f)), (Q.qq, .inl (cI, (8 * Q.C), .inl Q.qf)), (Q.qe, .inl (cL, (3 * Q.C), .inr (.inl Q.ef))), (tv, .inr (12, MF 13 (tw V))), (V.au, .inl (cC, V.U, .inl V.un))]) [4, 5, 0, 1, 2, 3] (by decide) rfl
                        rcases hw with ⟨hn1, ht2, ht3⟩ | ⟨hn1, ht2, ht3⟩
                        · rw [rs_o, rf_u7] at ht3
                          rw [ht3] at hP hD
                          subst ht2
                          have hP : va_P (dC, dI) classes [(mo, .inr (13, MF 30 (rf (rs v Q (o + 1)) ((i + 6) + 1) br))), (qx, .inl (cB, NN, .inl f)), (Q.qq, .inl (cI, (8 * Q.C), .inl Q.qf)), (Q.qe, .inl (cL, (3 * Q.C), .inr (.inl Q.ef))), (tv, .inr (12, MF 13 (tw V))), (V.au, .inl (cC, V.U, .inl V.un))] H := hP
                          have hD : va_D A [(mo, .inr (13, MF 30 (rf (rs v Q (o + 1)) ((i + 6) + 1) br))), (qx, .inl (cB, NN, .inl f)), (Q.qq, .inl (cI, (8 * Q.C), .inl Q.qf)), (Q.qe, .inl (cL, (3 * Q.C), .inr (.inl Q.ef))), (tv, .inr (12, MF 13 (tw V))), (V.au, .inl (cC, V.U, .inl V.un))] := hD
                          have hlt40 := here_in hn1.1 (by decide)
                          have hen : hereV f n (i + 6) = 40 ∧ ok = true := ⟨hn1.1, hok.mpr hn1.2⟩
                          refine lv_if_ne (tgt := 328) hx hb d_Mo_comparable_323 (by decide) (fun _ => ?_) (fun h => absurd h (by decide))
                          refine lv_aload_n hx hb d_Mo_comparable_328 rfl (lv_at hl 1 rfl) ?_
                          have hPc := hP.sub (ws' := [(mo, .inr (13, MF 30 (rf (rs v Q (o + 1)) ((i + 6) + 1) br))), (qx, .inl (cB, NN, .inl f))]) [0, 1] rfl
                          have hDc := hD.sub (ws' := [(mo, .inr (13, MF 30 (rf (rs v Q (o + 1)) ((i + 6) + 1) br))), (qx, .inl (cB, NN, .inl f))]) [0, 1] (by decide) rfl
                          have hKc := hK.sub (tys' := [(cB, .byte)]) [0] rfl
                          have hFc := va_free (wc := [(mo, .inr (13, MF 30 (rf (rs v Q (o + 1)) ((i + 6) + 1) br))), (qx, .inl (cB, NN, .inl f))]) hD hS hA [0, 1] rfl
                          refine va_callv (va_runV (As := []) (rest := []) ⟨hx, hb, hml, hown, hts⟩ (c_Mo_blanks l dC dI mo H (rf (rs v Q (o + 1)) ((i + 6) + 1) br) cB qx NN f n ((i + 6) + 1) (by omega) (by omega) (by omega) ((rf_ne (by decide) (by decide)).trans ((rs_ne (by decide) (by decide) (by decide) (by decide)).trans h6)) rf_7 ((rf_ne (by decide) (by decide)).trans ((rs_ne (by decide) (by decide) (by decide) (by decide)).trans h8))) (cwV 0 hts (gt_V (own := R_Mo) (C := R_Mo) (i := 184) (y := y_Mo_blanks) i_Mo_blanks w_1229 w_1231 (gt_sel (y := y_Mo_blanks) (n := 30) (by decide +kernel)) w_7) rfl rfl rfl (by decide +kernel) ⟨Nat.le_trans (m := 11) (Nat.le_of_ble_eq_true rfl) (Nat.le_add_right 11 (15 + G)), Nat.le_trans (m := 400) (Nat.le_of_ble_eq_true rfl) (Nat.le_add_right 400 (600 + M))⟩) ⟨mp_blind, va_recv hKc hPc (ci := 13) (q0 := 0) rfl rfl, fun U hU hW => ⟨rfl, hU, by rw [hU]; exact hPc, va_K.moved hW.alike hKc, hDc.weaken (fun _ _ _ _ => trivial)⟩⟩ rfl rfl hl.1 rfl (lv_room (Nat.le_of_ble_eq_true rfl)) d_Mo_comparable_329 ⟨hfit_QV.1, hfit_QV.2⟩) hS (fun q _ h => hFc q h) hFc (fun _u t9 H1 locs ht hvm hw hB hz1 hk1 hS => ?_)
                          obtain ⟨hP1, hK1, hD1⟩ := hB
                          rw [ht] at hP1
                          obtain ⟨hP, hD⟩ := va_join (wr := [(Q.qq, .inl (cI, (8 * Q.C), .inl Q.qf)), (Q.qe, .inl (cL, (3 * Q.C), .inr (.inl Q.ef))), (tv, .inr (12, MF 13 (tw V))), (V.au, .inl (cC, V.U, .inl V.un))]) (w1 := [(mo, .inr (13, MF 30 (va_up (rf (rs v Q (o + 1)) ((i + 6) + 1) br) 7 (.int (nI (skipH f n ((i + 6) + 1))))))), (qx, .inl (cB, NN, .inl f))]) hP hD [0, 1] [2, 3, 4, 5] rfl rfl (by decide) (by decide) hk1 hFc hP1 hD1
                          generalize H1 = H at hP hS ⊢
                          have hP : va_P (dC, dI) classes [(Q.qq, .inl (cI, (8 * Q.C), .inl Q.qf)), (Q.qe, .inl (cL, (3 * Q.C), .inr (.inl Q.ef))), (tv, .inr (12, MF 13 (tw V))), (V.au, .inl (cC, V.U, .inl V.un)), (mo, .inr (13, MF 30 (va_up (rf (rs v Q (o + 1)) ((i + 6) + 1) br) 7 (.int (nI (skipH f n ((i + 6) + 1))))))), (qx, .inl (cB, NN, .inl f))] H := hP
                          have hD : va_D A [(Q.qq, .inl (cI, (8 * Q.C), .inl Q.qf)), (Q.qe, .inl (cL, (3 * Q.C), .inr (.inl Q.ef))), (tv, .inr (12, MF 13 (tw V))), (V.au, .inl (cC, V.U, .inl V.un)), (mo, .inr (13, MF 30 (va_up (rf (rs v Q (o + 1)) ((i + 6) + 1) br) 7 (.int (nI (skipH f n ((i + 6) + 1))))))), (qx, .inl (cB, NN, .inl f))] := hD
                          have hP := hP.sub (ws' := [(mo, .inr (13, MF 30 (va_up (rf (rs v Q (o + 1)) ((i + 6) + 1) br) 7 (.int (nI (skipH f n ((i + 6) + 1))))))), (qx, .inl (cB, NN, .inl f)), (Q.qq, .inl (cI, (8 * Q.C), .inl Q.qf)), (Q.qe, .inl (cL, (3 * Q.C), .inr (.inl Q.ef))), (tv, .inr (12, MF 13 (tw V))), (V.au, .inl (cC, V.U, .inl V.un))]) [4, 5, 0, 1, 2, 3] rfl
                          have hD := hD.sub (ws' := [(mo, .inr (13, MF 30 (va_up (rf (rs v Q (o + 1)) ((i + 6) + 1) br) 7 (.int (nI (skipH f n ((i + 6) + 1))))))), (qx, .inl (cB, NN, .inl f)), (Q.qq, .inl (cI, (8 * Q.C), .inl Q.qf)), (Q.qe, .inl (cL, (3 * Q.C), .inr (.inl Q.ef))), (tv, .inr (12, MF 13 (tw V))), (V.au, .inl (cC, V.U, .inl V.un))]) [4, 5, 0, 1, 2, 3] (by decide) rfl
                          rw [rf_u7] at hP hD
                          have hP : va_P (dC, dI) classes [(mo, .inr (13, MF 30 (rf (rs v Q (o + 1)) (skipH f n ((i + 6) + 1)) br))), (qx, .inl (cB, NN, .inl f)), (Q.qq, .inl (cI, (8 * Q.C), .inl Q.qf)), (Q.qe, .inl (cL, (3 * Q.C), .inr (.inl Q.ef))), (tv, .inr (12, MF 13 (tw V))), (V.au, .inl (cC, V.U, .inl V.un))] H := hP
                          have hD : va_D A [(mo, .inr (13, MF 30 (rf (rs v Q (o + 1)) (skipH f n ((i + 6) + 1)) br))), (qx, .inl (cB, NN, .inl f)), (Q.qq, .inl (cI, (8 * Q.C), .inl Q.qf)), (Q.qe, .inl (cL, (3 * Q.C), .inr (.inl Q.ef))), (tv, .inr (12, MF 13 (tw V))), (V.au, .inl (cC, V.U, .inl V.un))] := hD
                          have hsk_332 := skipH_n (f := f) (show ((i + 6) + 1) ≤ n by omega)
                          refine lv_aload_n hx hb d_Mo_comparable_332 rfl (lv_at hl 1 rfl) ?_
                          refine lv_iload_n hx hb d_Mo_comparable_333 rfl (lv_at hl 0 rfl) ?_
                          refine lv_bipush (v := 108) hx hb d_Mo_comparable_334 (by decide) ?_
                          refine lv_icmp_ne (tgt := 344) hx hb d_Mo_comparable_336 (by decide) (fun h => absurd h (fun q => q c257)) (fun _ => ?_)
                          refine lv_bipush (v := 46) hx hb d_Mo_comparable_339 (by decide) ?_
                          refine lv_goto (tgt := 357) hx hb d_Mo_comparable_341 (by decide) ?_
                          have hPc := hP.sub (ws' := [(mo, .inr (13, MF 30 (rf (rs v Q (o + 1)) (skipH f n ((i + 6) + 1)) br))), (Q.qq, .inl (cI, (8 * Q.C), .inl Q.qf)), (Q.qe, .inl (cL, (3 * Q.C), .inr (.inl Q.ef)))]) [0, 2, 3] rfl
                          have hDc := hD.sub (ws' := [(mo, .inr (13, MF 30 (rf (rs v Q (o + 1)) (skipH f n ((i + 6) + 1)) br))), (Q.qq, .inl (cI, (8 * Q.C), .inl Q.qf)), (Q.qe, .inl (cL, (3 * Q.C), .inr (.inl Q.ef)))]) [0, 2, 3] (by decide) rfl
                          have hKc := hK.sub (tys' := [(cI, .int), (cL, .long)]) [1, 2] rfl
                          have hFc := va_free (wc := [(mo, .inr (13, MF 30 (rf (rs v Q (o + 1)) (skipH f n ((i + 6) + 1)) br))), (Q.qq, .inl (cI, (8 * Q.C), .inl Q.qf)), (Q.qe, .inl (cL, (3 * Q.C), .inr (.inl Q.ef)))]) hD hS hA [0, 2, 3] rfl
                          refine w_same (fun hq0 => ?_)
                          refine va_calli (va_runV (As := [.int 46]) (rest := []) ⟨hx, hb, hml, hown, hts⟩ (c_Mo_row l dC dI mo H v cI cL Q (o + 1) (skipH f n ((i + 6) + 1)) br 46 hQk_Q) (cwV 1 hts (gt_V (own := R_Mo) (C := R_Mo) (i := 269) (y := y_Mo_row) i_Mo_row w_1407 w_1409 (gt_sel (y := y_Mo_row) (n := 30) (by decide +kernel)) w_7) rfl rfl rfl (by decide +kernel) ⟨Nat.le_trans (m := 11) (Nat.le_of_ble_eq_true rfl) (Nat.le_add_right 11 (15 + G)), Nat.le_trans (m := 400) (Nat.le_of_ble_eq_true rfl) (Nat.le_add_right 400 (600 + M))⟩) ⟨mp_blind, va_recv hKc hPc (ci := 13) (q0 := 0) rfl rfl, fun U hU hW => ⟨rfl, hU, by rw [hU]; exact hPc, va_K.moved hW.alike hKc, hDc.weaken (fun _ _ _ _ => trivial)⟩⟩ rfl rfl hl.1 rfl (lv_room (Nat.le_of_ble_eq_true rfl)) d_Mo_comparable_357 ⟨(QAd.fit hG_QV hQk_Q (by omega)).1, (QAd.fit hG_QV hQk_Q (by omega)).2⟩) hS (fun q _ h => hFc q h) hFc (fun r0 Q1 t9 H1 locs ht hvm hw hB hz1 hk1 hS => ?_)
                          obtain ⟨⟨hP1, hK1, hD1⟩, hz9⟩ := hB
                          rw [ht] at hP1
                          rw [ht] at hz9
                          obtain ⟨hr0, hA_Q1⟩ := hw
                          have hA_Q1 : QAd Q Q1 46 := hA_Q1
                          obtain ⟨hQk_Q1, hGa, hGb, hGd, hR_Q1⟩ := hA_Q1.gq hQk_Q (by omega) V
                          obtain ⟨hG_Q1V, hGc, hGs⟩ := hG_QV.tr hGa (show Q.R + 1 ≤ Q.R + 8 * (n - i) + 1 by omega) (Nat.zero_le _)
                          have hGc := Nat.le_trans (Nat.add_le_add_left hGb _) hGc
                          have hGs := Nat.le_trans (Nat.add_le_add_left hGd _) hGs
                          have hq1 : szk s.heap H1 (cQ Q V Q1 V) (sQ Q V Q1 V) := (hq0.trans hz9).mono hGc hGs
                          refine w_tight hq1 ?_
                          obtain ⟨hP, hD⟩ := va_join (wr := [(qx, .inl (cB, NN, .inl f)), (tv, .inr (12, MF 13 (tw V))), (V.au, .inl (cC, V.U, .inl V.un))]) (w1 := [(mo, .inr (13, MF 30 (rf (rs v Q1 (o + 1)) (skipH f n ((i + 6) + 1)) br))), (Q1.qq, .inl (cI, (8 * Q1.C), .inl Q1.qf)), (Q1.qe, .inl (cL, (3 * Q1.C), .inr (.inl Q1.ef)))]) hP hD [0, 2, 3] [1, 4, 5] rfl rfl (by decide) (by decide) hk1 hFc hP1 hD1
                          generalize H1 = H at hP hS ⊢
                          have hP : va_P (dC, dI) classes [(qx, .inl (cB, NN, .inl f)), (tv, .inr (12, MF 13 (tw V))), (V.au, .inl (cC, V.U, .inl V.un)), (mo, .inr (13, MF 30 (rf (rs v Q1 (o + 1)) (skipH f n ((i + 6) + 1)) br))), (Q1.qq, .inl (cI, (8 * Q1.C), .inl Q1.qf)), (Q1.qe, .inl (cL, (3 * Q1.C), .inr (.inl Q1.ef)))] H := hP
                          have hD : va_D A [(qx, .inl (cB, NN, .inl f)), (tv, .inr (12, MF 13 (tw V))), (V.au, .inl (cC, V.U, .inl V.un)), (mo, .inr (13, MF 30 (rf (rs v Q1 (o + 1)) (skipH f n ((i + 6) + 1)) br))), (Q1.qq, .inl (cI, (8 * Q1.C), .inl Q1.qf)), (Q1.qe, .inl (cL, (3 * Q1.C), .inr (.inl Q1.ef)))] := hD
                          have hP := hP.sub (ws' := [(mo, .inr (13, MF 30 (rf (rs v Q1 (o + 1)) (skipH f n ((i + 6) + 1)) br))), (qx, .inl (cB, NN, .inl f)), (tv, .inr (12, MF 13 (tw V))), (V.au, .inl (cC, V.U, .inl V.un)), (Q1.qq, .inl (cI, (8 * Q1.C), .inl Q1.qf)), (Q1.qe, .inl (cL, (3 * Q1.C), .inr (.inl Q1.ef)))]) [3, 0, 1, 2, 4, 5] rfl
                          have hD := hD.sub (ws' := [(mo, .inr (13, MF 30 (rf (rs v Q1 (o + 1)) (skipH f n ((i + 6) + 1)) br))), (qx, .inl (cB, NN, .inl f)), (tv, .inr (12, MF 13 (tw V))), (V.au, .inl (cC, V.U, .inl V.un)), (Q1.qq, .inl (cI, (8 * Q1.C), .inl Q1.qf)), (Q1.qe, .inl (cL, (3 * Q1.C), .inr (.inl Q1.ef)))]) [3, 0, 1, 2, 4, 5] (by decide) rfl
                          have hP := hP.sub (ws' := [(mo, .inr (13, MF 30 (rf (rs v Q1 (o + 1)) (skipH f n ((i + 6) + 1)) br))), (qx, .inl (cB, NN, .inl f)), (Q1.qq, .inl (cI, (8 * Q1.C), .inl Q1.qf)), (Q1.qe, .inl (cL, (3 * Q1.C), .inr (.inl Q1.ef))), (tv, .inr (12, MF 13 (tw V))), (V.au, .inl (cC, V.U, .inl V.un))]) [0, 1, 4, 5, 2, 3] rfl
                          have hD := hD.sub (ws' := [(mo, .inr (13, MF 30 (rf (rs v Q1 (o + 1)) (skipH f n ((i + 6) + 1)) br))), (qx, .inl (cB, NN, .inl f)), (Q1.qq, .inl (cI, (8 * Q1.C), .inl Q1.qf)), (Q1.qe, .inl (cL, (3 * Q1.C), .inr (.inl Q1.ef))), (tv, .inr (12, MF 13 (tw V))), (V.au, .inl (cC, V.U, .inl V.un))]) [0, 1, 4, 5, 2, 3] (by decide) rfl
                          have hr0 : r0 = nI Q.R := hr0
                          subst hr0
                          have hqb_Q1V : Q1.R ≤ Q1.C ∧ Q1.C ≤ 100000 := ⟨hQk_Q1.2.2.1, hQk_Q1.2.1⟩
                          have hfit_Q1V := hG_Q1V.fits
                          have hE_Q1 : alr Q V Q1 V 0 Q.R := ⟨fun r9 k9 _ h1 h2 => hA_Q1.2.2.1 _ (by omega), ⟨fun r9 k9 _ h1 h2 => hA_Q1.2.2.2.1.2 _ (by omega), Nat.le_refl _, fun _ _ => rfl⟩⟩
                          have hk0_Q1 : Q1.qf (8 * Q.R + 0) = 46 := hA_Q1.2.2.2.2.1
                          have hl1_Q1 : Q1.qf (8 * Q.R + 1) = -1 := hA_Q1.2.2.2.2.2 1 (by decide) (by decide)
                          have hEx_Q1V : alr Q V Q1 V 0 Q.R := hE_Q1
                          refine lv_istore_n (lv' := [(2, .int (nI Q.R)), (1, .int r1), (0, .ref mo)]) hx hb d_Mo_comparable_360 rfl hl (by decide) rfl (fun ls hl => ?_)
                          refine lv_iload_n hx hb d_Mo_comparable_361 rfl (lv_at hl 1 rfl) ?_
                          refine lv_bipush (v := 108) hx hb d_Mo_comparable_362 (by decide) ?_
                          refine lv_icmp_ne (tgt := 375) hx hb d_Mo_comparable_364 (by decide) (fun h => absurd h (fun q => q c257)) (fun _ => ?_)
                          refine lv_aload_n hx hb d_Mo_comparable_367 rfl (lv_at hl 2 rfl) ?_
                          have hPc := hP.sub (ws' := [(mo, .inr (13, MF 30 (rf (rs v Q1 (o + 1)) (skipH f n ((i + 6) + 1)) br))), (qx, .inl (cB, NN, .inl f)), (Q1.qq, .inl (cI, (8 * Q1.C), .inl Q1.qf)), (Q1.qe, .inl (cL, (3 * Q1.C), .inr (.inl Q1.ef))), (tv, .inr (12, MF 13 (tw V))), (V.au, .inl (cC, V.U, .inl V.un))]) [0, 1, 2, 3, 4, 5] rfl
                          have hDc := hD.sub (ws' := [(mo, .inr (13, MF 30 (rf (rs v Q1 (o + 1)) (skipH f n ((i + 6) + 1)) br))), (qx, .inl (cB, NN, .inl f)), (Q1.qq, .inl (cI, (8 * Q1.C), .inl Q1.qf)), (Q1.qe, .inl (cL, (3 * Q1.C), .inr (.inl Q1.ef))), (tv, .inr (12, MF 13 (tw V))), (V.au, .inl (cC, V.U, .inl V.un))]) [0, 1, 2, 3, 4, 5] (by decide) rfl
                          have hKc := hK.sub (tys' := [(cB, .byte), (cI, .int), (cL, .long), (cC, .char)]) [0, 1, 2, 3] rfl
                          have hFc := va_free (wc := [(mo, .inr (13, MF 30 (rf (rs v Q1 (o + 1)) (skipH f n ((i + 6) + 1)) br))), (qx, .inl (cB, NN, .inl f)), (Q1.qq, .inl (cI, (8 * Q1.C), .inl Q1.qf)), (Q1.qe, .inl (cL, (3 * Q1.C), .inr (.inl Q1.ef))), (tv, .inr (12, MF 13 (tw V))), (V.au, .inl (cC, V.U, .inl V.un))]) hD hS hA [0, 1, 2, 3, 4, 5] rfl
                          refine w_same (fun hq0 => ?_)
                          refine va_calli (va_runV (As := []) (rest := []) ⟨hx, hb, hml, hown, hts⟩ (hCM hn1.2 l dC dI mo H v cB cI cL cC qx NN f n K tv Q1 V (skipH f n ((i + 6) + 1)) br hnN hNN (by omega) h6 h8 h22 hQk_Q1 hTk_V (by omega) (by omega)) (cwV 0 hts (gt_V (own := R_Mo) (C := R_Mo) (i := 328) (y := y_Mo_comparable) i_Mo_comparable w_1461 w_1463 (gt_sel (y := y_Mo_comparable) (n := 30) (by decide +kernel)) w_7) rfl rfl rfl (by decide +kernel) ⟨by show 11 + G + 1 ≤ 11 + (15 + G); omega, by show 8 + (5 + 11) + (400 + M) ≤ 400 + (600 + M); omega⟩) ⟨me_blind, va_recv hKc hPc (ci := 13) (q0 := 0) rfl rfl, fun U hU hW => ⟨rfl, ⟨hU, by rw [hU]; exact hPc, va_K.moved hW.alike hKc, hDc.weaken (fun _ _ _ _ => trivial)⟩, by rw [hU]; exact ME.call hM hS.2.1 hFc hW⟩⟩ rfl rfl hl.1 rfl (lv_room (Nat.le_of_ble_eq_true rfl)) d_Mo_comparable_368 ⟨(hG_Q1V.step (B2 := Q1.R + 8 * (n - (skipH f n ((i + 6) + 1))) + 1) (C2 := V.us + (n + 12 - (skipH f n ((i + 6) + 1)))) (by omega) (by omega)).1, (hG_Q1V.step (B2 := Q1.R + 8 * (n - (skipH f n ((i + 6) + 1))) + 1) (C2 := V.us + (n + 12 - (skipH f n ((i + 6) + 1)))) (by omega) (by omega)).2⟩) hS (fun q _ h => hFc q h) hFc (fun r0 ⟨Q2, V2, j2, b2, o2⟩ t9 H1 locs ht hvm hw hB hz1 hk1 hS => ?_)
                          obtain ⟨⟨hP1, hK1, hD1⟩, hz9⟩ := hB
                          rw [ht] at hP1
                          rw [ht] at hz9
                          obtain ⟨⟨hQk_Q2, hGn, hTXs, hR1_Q2, hR2_Q2⟩, hw⟩ := hw
                          have hQk_Q2 : QOK Q2 := hQk_Q2
                          obtain ⟨hG_Q2V2, hGc, hGs⟩ := hG_Q1V.tr hGn (by omega) (by omega)
                          have hR1_Q2 : Q1.R ≤ Q2.R := hR1_Q2
                          have hR2_Q2 : Q2.R ≤ Q1.R + 8 * (n - (skipH f n ((i + 6) + 1))) + 1 := hR2_Q2
                          obtain ⟨us2, hX_V2, hln_V2⟩ := hTXs
                          have hX_V2 : TX V V2 us2 := hX_V2
                          have hXs_V2 := hX_V2.us
                          have hz9 : szk H H1 (cQ Q1 V Q2 V2) (sQ Q1 V Q2 V2) := hz9
                          have hq1 : szk s.heap H1 (cQ Q V Q2 V2) (sQ Q V Q2 V2) := (hq0.trans hz9).mono hGc hGs
                          refine w_tight hq1 ?_
                          obtain ⟨hP, hD⟩ := va_join (wr := []) (w1 := [(mo, .inr (13, MF 30 (rf (rs v Q2 o2) j2 b2))), (qx, .inl (cB, NN, .inl f)), (Q2.qq, .inl (cI, (8 * Q2.C), .inl Q2.qf)), (Q2.qe, .inl (cL, (3 * Q2.C), .inr (.inl Q2.ef))), (tv, .inr (12, MF 13 (tw V2))), (V2.au, .inl (cC, V2.U, .inl V2.un))]) hP hD [0, 1, 2, 3, 4, 5] [] rfl rfl (by decide) (by decide) hk1 hFc hP1 hD1
                          generalize H1 = H at hP hS ⊢
                          have hP : va_P (dC, dI) classes [(mo, .inr (13, MF 30 (rf (rs v Q2 o2) j2 b2))), (qx, .inl (cB, NN, .inl f)), (Q2.qq, .inl (cI, (8 * Q2.C), .inl Q2.qf)), (Q2.qe, .inl (cL, (3 * Q2.C), .inr (.inl Q2.ef))), (tv, .inr (12, MF 13 (tw V2))), (V2.au, .inl (cC, V2.U, .inl V2.un))] H := hP
                          have hD : va_D A [(mo, .inr (13, MF 30 (rf (rs v Q2 o2) j2 b2))), (qx, .inl (cB, NN, .inl f)), (Q2.qq, .inl (cI, (8 * Q2.C), .inl Q2.qf)), (Q2.qe, .inl (cL, (3 * Q2.C), .inr (.inl Q2.ef))), (tv, .inr (12, MF 13 (tw V2))), (V2.au, .inl (cC, V2.U, .inl V2.un))] := hD
                          have hP := hP.sub (ws' := [(mo, .inr (13, MF 30 (rf (rs v Q2 o2) j2 b2))), (qx, .inl (cB, NN, .inl f)), (tv, .inr (12, MF 13 (tw V2))), (Q2.qq, .inl (cI, (8 * Q2.C), .inl Q2.qf)), (Q2.qe, .inl (cL, (3 * Q2.C), .inr (.inl Q2.ef))), (V2.au, .inl (cC, V2.U, .inl V2.un))]) [0, 1, 4, 2, 3, 5] rfl
                          have hD := hD.sub (ws' := [(mo, .inr (13, MF 30 (rf (rs v Q2 o2) j2 b2))), (qx, .inl (cB, NN, .inl f)), (tv, .inr (12, MF 13 (tw V2))), (Q2.qq, .inl (cI, (8 * Q2.C), .inl Q2.qf)), (Q2.qe, .inl (cL, (3 * Q2.C), .inr (.inl Q2.ef))), (V2.au, .inl (cC, V2.U, .inl V2.un))]) [0, 1, 4, 2, 3, 5] (by decide) rfl
                          have hP := hP.sub (ws' := [(mo, .inr (13, MF 30 (rf (rs v Q2 o2) j2 b2))), (qx, .inl (cB, NN, .inl f)), (Q2.qq, .inl (cI, (8 * Q2.C), .inl Q2.qf)), (Q2.qe, .inl (cL, (3 * Q2.C), .inr (.inl Q2.ef))), (tv, .inr (12, MF 13 (tw V2))), (V2.au, .inl (cC, V2.U, .inl V2.un))]) [0, 1, 3, 4, 2, 5] rfl
                          have hD := hD.sub (ws' := [(mo, .inr (13, MF 30 (rf (rs v Q2 o2) j2 b2))), (qx, .inl (cB, NN, .inl f)), (Q2.qq, .inl (cI, (8 * Q2.C), .inl Q2.qf)), (Q2.qe, .inl (cL, (3 * Q2.C), .inr (.inl Q2.ef))), (tv, .inr (12, MF 13 (tw V2))), (V2.au, .inl (cC, V2.U, .inl V2.un))]) [0, 1, 3, 4, 2, 5] (by decide) rfl
                          have hTk_V2 := hX_V2.ok hTk_V (by omega)
                          have hqb_Q2V2 : Q2.R ≤ Q2.C ∧ Q2.C ≤ 100000 := ⟨hQk_Q2.2.2.1, hQk_Q2.2.1⟩
                          have hfit_Q2V2 := hG_Q2V2.fits
                          rcases hw with ⟨a9, g9, hv_1, hv_2, hv_3, hv_4, hv_5, hv_6, hv_7, hv_8, hv_9, hv_10⟩ | ⟨hv_1, hv_2⟩
                          · have hv_10 : (o + 1) = o2 := hv_10.symm
                            subst hv_10
                            have hP : va_P (dC, dI) classes [(mo, .inr (13, MF 30 (rf (rs v Q2 (o + 1)) j2 b2))), (qx, .inl (cB, NN, .inl f)), (Q2.qq, .inl (cI, (8 * Q2.C), .inl Q2.qf)), (Q2.qe, .inl (cL, (3 * Q2.C), .inr (.inl Q2.ef))), (tv, .inr (12, MF 13 (tw V2))), (V2.au, .inl (cC, V2.U, .inl V2.un))] H := hP
                            have hD : va_D A [(mo, .inr (13, MF 30 (rf (rs v Q2 (o + 1)) j2 b2))), (qx, .inl (cB, NN, .inl f)), (Q2.qq, .inl (cI, (8 * Q2.C), .inl Q2.qf)), (Q2.qe, .inl (cL, (3 * Q2.C), .inr (.inl Q2.ef))), (tv, .inr (12, MF 13 (tw V2))), (V2.au, .inl (cC, V2.U, .inl V2.un))] := hD
                            have hv_2 : cmL f n (skipH f n ((i + 6) + 1)) = some (j2, g9) := hv_2
                            have hv_3 : C Q2 V2 Q1.R Q2.R a9 g9 := hv_3
                            have hv_4 : a9 < Q2.R := hv_4
                            have hv_5 : alr Q1 V Q2 V2 0 Q1.R := hv_5
                            have hv_6 : Q2.R + 8 * (skipH f n ((i + 6) + 1)) + 6 ≤ Q1.R + 8 * j2 := hv_6
                            have hv_7 : V2.us + (skipH f n ((i + 6) + 1)) ≤ V.us + j2 := hv_7
                            have hv_8 : j2 ≤ n := hv_8
                            have hv_9 : Q1.R < Q2.R := hv_9
                            subst hv_1
                            have hfA : fnA f n (cmL f n) (qyL f n) i (skipH f n ((i + 6) + 1)) = some (j2, lenO g9) := fnA_l hfx hv_2
                            have hk0_Q2 : Q2.qf (8 * Q.R + 0) = 46 := (hv_5.1 _ 0 (Nat.zero_le _) (by omega) (by decide)).trans hk0_Q1
                            have hl1_Q2 : Q2.qf (8 * Q.R + 1) = -1 := (hv_5.1 _ 1 (Nat.zero_le _) (by omega) (by decide)).trans hl1_Q1
                            have hEx_Q2V2 : alr Q V Q2 V2 0 Q.R := hEx_Q1V.tr (hv_5.sub (Nat.le_refl _) (by omega))
                            refine lv_istore_n (lv' := [(3, .int (nI a9)), (2, .int (nI Q.R)), (1, .int r1), (0, .ref mo)]) hx hb d_Mo_comparable_371 rfl hl (by decide) rfl (fun ls hl => ?_)
                            refine lv_goto (tgt := 441) hx hb d_Mo_comparable_372 (by decide) ?_
                            refine lv_iload_n hx hb d_Mo_comparable_441 rfl (lv_at hl 0 rfl) ?_
                            refine lv_if_ge (tgt := 447) hx hb d_Mo_comparable_442 (by decide) (fun _ => ?_) (fun h => absurd (nI_pos' (by omega)) h)
                            refine lv_aload_n hx hb d_Mo_comparable_447 rfl (lv_at hl 3 rfl) ?_
                            refine lv_iload_n hx hb d_Mo_comparable_448 rfl (lv_at hl 1 rfl) ?_
                            refine lv_iconst (v := 2) hx hb d_Mo_comparable_449 (by decide) ?_
                            refine lv_iload_n hx hb d_Mo_comparable_450 rfl (lv_at hl 0 rfl) ?_
                            refine W.eq (g2 := F0 m 451 ls [.int (nI a9), .int (nI 2), .int (nI Q.R), .ref mo]) rfl ?_
                            have hPc := hP.sub (ws' := [(mo, .inr (13, MF 30 (rf (rs v Q2 (o + 1)) j2 b2))), (Q2.qq, .inl (cI, (8 * Q2.C), .inl Q2.qf))]) [0, 2] rfl
                            have hDc := hD.sub (ws' := [(mo, .inr (13, MF 30 (rf (rs v Q2 (o + 1)) j2 b2))), (Q2.qq, .inl (cI, (8 * Q2.C), .inl Q2.qf))]) [0, 2] (by decide) rfl
                            have hKc := hK.sub (tys' := [(cI, .int)]) [1] rfl
                            have hFc := va_free (wc := [(mo, .inr (13, MF 30 (rf (rs v Q2 (o + 1)) j2 b2))), (Q2.qq, .inl (cI, (8 * Q2.C), .inl Q2.qf))]) hD hS hA [0, 2] rfl
                            refine va_callv (va_runV (As := [.int (nI Q.R), .int (nI 2), .int (nI a9)]) (rest := []) ⟨hx, hb, hml, hown, hts⟩ (c_Mo_set l dC dI mo H (rf (rs v Q2 (o + 1)) j2 b2) cI Q2.qq (8 * Q2.C) Q2.qf Q.R 2 ((nI a9)) (by omega) (by omega) ((rf_ne (by decide) (by decide)).trans rs_19)) (cwV 3 hts (gt_V (own := R_Mo) (C := R_Mo) (i := 272) (y := y_Mo_set) i_Mo_set w_1411 w_1413 (gt_sel (y := y_Mo_set) (n := 30) (by decide +kernel)) w_7) rfl rfl rfl (by decide +kernel) ⟨Nat.le_trans (m := 11) (Nat.le_of_ble_eq_true rfl) (Nat.le_add_right 11 (15 + G)), Nat.le_trans (m := 400) (Nat.le_of_ble_eq_true rfl) (Nat.le_add_right 400 (600 + M))⟩) ⟨mp_blind, va_recv hKc hPc (ci := 13) (q0 := 0) rfl rfl, fun U hU hW => ⟨rfl, hU, by rw [hU]; exact hPc, va_K.moved hW.alike hKc, hDc.weaken (fun _ _ _ _ => trivial)⟩⟩ rfl rfl hl.1 rfl (lv_room (Nat.le_of_ble_eq_true rfl)) d_Mo_comparable_451 ⟨hfit_Q2V2.1, hfit_Q2V2.2⟩) hS (fun q _ h => hFc q h) hFc (fun _u t9 H1 locs ht hvm hw hB hz1 hk1 hS => ?_)
                            obtain ⟨hP1, hK1, hD1⟩ := hB
                            rw [ht] at hP1
                            obtain ⟨hP, hD⟩ := va_join (wr := [(qx, .inl (cB, NN, .inl f)), (Q2.qe, .inl (cL, (3 * Q2.C), .inr (.inl Q2.ef))), (tv, .inr (12, MF 13 (tw V2))), (V2.au, .inl (cC, V2.U, .inl V2.un))]) (w1 := [(mo, .inr (13, MF 30 (rf (rs v Q2 (o + 1)) j2 b2))), (Q2.qq, .inl (cI, (8 * Q2.C), .inl (upd Q2.qf (8 * Q.R + 2) ((nI a9)))))]) hP hD [0, 2] [1, 3, 4, 5] rfl rfl (by decide) (by decide) hk1 hFc hP1 hD1
                            generalize H1 = H at hP hS ⊢
                            have hP : va_P (dC, dI) classes [(qx, .inl (cB, NN, .inl f)), (Q2.qe, .inl (cL, (3 * Q2.C), .inr (.inl Q2.ef))), (tv, .inr (12, MF 13 (tw V2))), (V2.au, .inl (cC, V2.U, .inl V2.un)), (mo, .inr (13, MF 30 (rf (rs v Q2 (o + 1)) j2 b2))), (Q2.qq, .inl (cI, (8 * Q2.C), .inl (upd Q2.qf (8 * Q.R + 2) ((nI a9)))))] H := hP
                            have hD : va_D A [(qx, .inl (cB, NN, .inl f)), (Q2.qe, .inl (cL, (3 * Q2.C), .inr (.inl Q2.ef))), (tv, .inr (12, MF 13 (tw V2))), (V2.au, .inl (cC, V2.U, .inl V2.un)), (mo, .inr (13, MF 30 (rf (rs v Q2 (o + 1)) j2 b2))), (Q2.qq, .inl (cI, (8 * Q2.C), .inl (upd Q2.qf (8 * Q.R + 2) ((nI a9)))))] := hD
                            have hP := hP.sub (ws' := [(mo, .inr (13, MF 30 (rf (rs v Q2 (o + 1)) j2 b2))), (qx, .inl (cB, NN, .inl f)), (Q2.qq, .inl (cI, (8 * Q2.C), .inl (upd Q2.qf (8 * Q.R + 2) ((nI a9))))), (Q2.qe, .inl (cL, (3 * Q2.C), .inr (.inl Q2.ef))), (tv, .inr (12, MF 13 (tw V2))), (V2.au, .inl (cC, V2.U, .inl V2.un))]) [4, 0, 5, 1, 2, 3] rfl
                            have hD := hD.sub (ws' := [(mo, .inr (13, MF 30 (rf (rs v Q2 (o + 1)) j2 b2))), (qx, .inl (cB, NN, .inl f)), (Q2.qq, .inl (cI, (8 * Q2.C), .inl (upd Q2.qf (8 * Q.R + 2) ((nI a9))))), (Q2.qe, .inl (cL, (3 * Q2.C), .inr (.inl Q2.ef))), (tv, .inr (12, MF 13 (tw V2))), (V2.au, .inl (cC, V2.U, .inl V2.un))]) [4, 0, 5, 1, 2, 3] (by decide) rfl
                            obtain ⟨Q3, e_Q3⟩ : ∃ z : QS, z = QS.wf Q2 (upd Q2.qf (8 * Q.R + 2) ((nI a9))) := ⟨_, rfl⟩
                            have hP : va_P (dC, dI) classes [(mo, .inr (13, MF 30 (rf (rs v Q3 (o + 1)) j2 b2))), (qx, .inl (cB, NN, .inl f)), (Q3.qq, .inl (cI, (8 * Q3.C), .inl Q3.qf)), (Q3.qe, .inl (cL, (3 * Q3.C), .inr (.inl Q3.ef))), (tv, .inr (12, MF 13 (tw V2))), (V2.au, .inl (cC, V2.U, .inl V2.un))] H := by subst e_Q3; exact hP
                            have hD : va_D A [(mo, .inr (13, MF 30 (rf (rs v Q3 (o + 1)) j2 b2))), (qx, .inl (cB, NN, .inl f)), (Q3.qq, .inl (cI, (8 * Q3.C), .inl Q3.qf)), (Q3.qe, .inl (cL, (3 * Q3.C), .inr (.inl Q3.ef))), (tv, .inr (12, MF 13 (tw V2))), (V2.au, .inl (cC, V2.U, .inl V2.un))] := by subst e_Q3; exact hD
                            have hf_Q3 : Q3.C = Q2.C ∧ Q3.R = Q2.R ∧ Q3.qf = upd Q2.qf (8 * Q.R + 2) ((nI a9)) := by rw [e_Q3]; exact ⟨rfl, rfl, rfl⟩
                            have he_Q3 : Q3.ef = Q2.ef := by rw [e_Q3]; rfl
                            have hQk_Q3 : QOK Q3 := by rw [e_Q3]; exact hQk_Q2
                            have hG_Q3V2 : GQ (Q.R + 8 * (n - i) + 1) (V.us + (n + 12 - i)) Q V Q3 V2 := by unfold GQ at hG_Q2V2 ⊢; rw [hf_Q3.1]; exact hG_Q2V2
                            refine w_same (fun hq => ?_)
                            refine w_tight (k := cQ Q V Q3 V2) (n := sQ Q V Q3 V2) (by unfold cQ sQ at hq ⊢; rw [hf_Q3.1]; exact hq) ?_
                            have hR_Q3 := hf_Q3.2.1
                            have hqb_Q3V2 : Q3.R ≤ Q3.C ∧ Q3.C ≤ 100000 := ⟨hQk_Q3.2.2.1, hQk_Q3.2.1⟩
                            have hfit_Q3V2 := hG_Q3V2.fits
                            have hk0_Q3 : Q3.qf (8 * Q.R + 0) = 46 := by rw [hf_Q3.2.2, pk_un (by omega)]; exact hk0_Q2
                            have hl1_Q3 : Q3.qf (8 * Q.R + 1) = -1 := by rw [hf_Q3.2.2, pk_un (by omega)]; exact hl1_Q2
                            have hEx_Q3V2 : alr Q V Q3 V2 0 Q.R := hEx_Q2V2.tr (alr.upd hf_Q3.2.2 he_Q3 (by decide) (by omega))
                            refine lv_aload_n hx hb d_Mo_comparable_454 rfl (lv_at hl 3 rfl) ?_
                            have hPc := hP.sub (ws' := [(mo, .inr (13, MF 30 (rf (rs v Q3 (o + 1)) j2 b2))), (qx, .inl (cB, NN, .inl f))]) [0, 1] rfl
                            have hDc := hD.sub (ws' := [(mo, .inr (13, MF 30 (rf (rs v Q3 (o + 1)) j2 b2))), (qx, .inl (cB, NN, .inl f))]) [0, 1] (by decide) rfl
                            have hKc := hK.sub (tys' := [(cB, .byte)]) [0] rfl
                            have hFc := va_free (wc := [(mo, .inr (13, MF 30 (rf (rs v Q3 (o + 1)) j2 b2))), (qx, .inl (cB, NN, .inl f))]) hD hS hA [0, 1] rfl
                            refine va_callv (va_runV (As := []) (rest := []) ⟨hx, hb, hml, hown, hts⟩ (c_Mo_blanks l dC dI mo H (rf (rs v Q3 (o + 1)) j2 b2) cB qx NN f n j2 (by omega) (by omega) (by omega) ((rf_ne (by decide) (by decide)).trans ((rs_ne (by decide) (by decide) (by decide) (by decide)).trans h6)) rf_7 ((rf_ne (by decide) (by decide)).trans ((rs_ne (by decide) (by decide) (by decide) (by decide)).trans h8))) (cwV 0 hts (gt_V (own := R_Mo) (C := R_Mo) (i := 184) (y := y_Mo_blanks) i_Mo_blanks w_1229 w_1231 (gt_sel (y := y_Mo_blanks) (n := 30) (by decide +kernel)) w_7) rfl rfl rfl (by decide +kernel) ⟨Nat.le_trans (m := 11) (Nat.le_of_ble_eq_true rfl) (Nat.le_add_right 11 (15 + G)), Nat.le_trans (m := 400) (Nat.le_of_ble_eq_true rfl) (Nat.le_add_right 400 (600 + M))⟩) ⟨mp_blind, va_recv hKc hPc (ci := 13) (q0 := 0) rfl rfl, fun U hU hW => ⟨rfl, hU, by rw [hU]; exact hPc, va_K.moved hW.alike hKc, hDc.weaken (fun _ _ _ _ => trivial)⟩⟩ rfl rfl hl.1 rfl (lv_room (Nat.le_of_ble_eq_true rfl)) d_Mo_comparable_455 ⟨hfit_Q3V2.1, hfit_Q3V2.2⟩) hS (fun q _ h => hFc q h) hFc (fun _u t9 H1 locs ht hvm hw hB hz1 hk1 hS => ?_)
                            obtain ⟨hP1, hK1, hD1⟩ := hB
                            rw [ht] at hP1
                            obtain ⟨hP, hD⟩ := va_join (wr := [(Q3.qq, .inl (cI, (8 * Q3.C), .inl Q3.qf)), (Q3.qe, .inl (cL, (3 * Q3.C), .inr (.inl Q3.ef))), (tv, .inr (12, MF 13 (tw V2))), (V2.au, .inl (cC, V2.U, .inl V2.un))]) (w1 := [(mo, .inr (13, MF 30 (va_up (rf (rs v Q3 (o + 1)) j2 b2) 7 (.int (nI (skipH f n j2)))))), (qx, .inl (cB, NN, .inl f))]) hP hD [0, 1] [2, 3, 4, 5] rfl rfl (by decide) (by decide) hk1 hFc hP1 hD1
                            generalize H1 = H at hP hS ⊢
                            have hP : va_P (dC, dI) classes [(Q3.qq, .inl (cI, (8 * Q3.C), .inl Q3.qf)), (Q3.qe, .inl (cL, (3 * Q3.C), .inr (.inl Q3.ef))), (tv, .inr (12, MF 13 (tw V2))), (V2.au, .inl (cC, V2.U, .inl V2.un)), (mo, .inr (13, MF 30 (va_up (rf (rs v Q3 (o + 1)) j2 b2) 7 (.int (nI (skipH f n j2)))))), (qx, .inl (cB, NN, .inl f))] H := hP
                            have hD : va_D A [(Q3.qq, .inl (cI, (8 * Q3.C), .inl Q3.qf)), (Q3.qe, .inl (cL, (3 * Q3.C), .inr (.inl Q3.ef))), (tv, .inr (12, MF 13 (tw V2))), (V2.au, .inl (cC, V2.U, .inl V2.un)), (mo, .inr (13, MF 30 (va_up (rf (rs v Q3 (o + 1)) j2 b2) 7 (.int (nI (skipH f n j2)))))), (qx, .inl (cB, NN, .inl f))] := hD
                            have hP := hP.sub (ws' := [(mo, .inr (13, MF 30 (va_up (rf (rs v Q3 (o + 1)) j2 b2) 7 (.int (nI (skipH f n j2)))))), (qx, .inl (cB, NN, .inl f)), (Q3.qq, .inl (cI, (8 * Q3.C), .inl Q3.qf)), (Q3.qe, .inl (cL, (3 * Q3.C), .inr (.inl Q3.ef))), (tv, .inr (12, MF 13 (tw V2))), (V2.au, .inl (cC, V2.U, .inl V2.un))]) [4, 5, 0, 1, 2, 3] rfl
                            have hD := hD.sub (ws' := [(mo, .inr (13, MF 30 (va_up (rf (rs v Q3 (o + 1)) j2 b2) 7 (.int (nI (skipH f n j2)))))), (qx, .inl (cB, NN, .inl f)), (Q3.qq, .inl (cI, (8 * Q3.C), .inl Q3.qf)), (Q3.qe, .inl (cL, (3 * Q3.C), .inr (.inl Q3.ef))), (tv, .inr (12, MF 13 (tw V2))), (V2.au, .inl (cC, V2.U, .inl V2.un))]) [4, 5, 0, 1, 2, 3] (by decide) rfl
                            rw [rf_u7] at hP hD
                            have hP : va_P (dC, dI) classes [(mo, .inr (13, MF 30 (rf (rs v Q3 (o + 1)) (skipH f n j2) b2))), (qx, .inl (cB, NN, .inl f)), (Q3.qq, .inl (cI, (8 * Q3.C), .inl Q3.qf)), (Q3.qe, .inl (cL, (3 * Q3.C), .inr (.inl Q3.ef))), (tv, .inr (12, MF 13 (tw V2))), (V2.au, .inl (cC, V2.U, .inl V2.un))] H := hP
                            have hD : va_D A [(mo, .inr (13, MF 30 (rf (rs v Q3 (o + 1)) (skipH f n j2) b2))), (qx, .inl (cB, NN, .inl f)), (Q3.qq, .inl (cI, (8 * Q3.C), .inl Q3.qf)), (Q3.qe, .inl (cL, (3 * Q3.C), .inr (.inl Q3.ef))), (tv, .inr (12, MF 13 (tw V2))), (V2.au, .inl (cC, V2.U, .inl V2.un))] := hD
                            have hsk_458 := skipH_n (f := f) (show j2 ≤ n by omega)
                            refine lv_aload_n hx hb d_Mo_comparable_458 rfl (lv_at hl 3 rfl) ?_
                            refine lv_bipush (v := 41) hx hb d_Mo_comparable_459 (by decide) ?_
                            have hPc := hP.sub (ws' := [(mo, .inr (13, MF 30 (rf (rs v Q3 (o + 1)) (skipH f n j2) b2))), (qx, .inl (cB, NN, .inl f))]) [0, 1] rfl
                            have hDc := hD.sub (ws' := [(mo, .inr (13, MF 30 (rf (rs v Q3 (o + 1)) (skipH f n j2) b2))), (qx, .inl (cB, NN, .inl f))]) [0, 1] (by decide) rfl
                            have hKc := hK.sub (tys' := [(cB, .byte)]) [0] rfl
                            have hFc := va_free (wc := [(mo, .inr (13, MF 30 (rf (rs v Q3 (o + 1)) (skipH f n j2) b2))), (qx, .inl (cB, NN, .inl f))]) hD hS hA [0, 1] rfl
                            refine va_calli (va_runV (As := [.int 41]) (rest := []) ⟨hx, hb, hml, hown, hts⟩ (c_Mo_shut l dC dI mo H (rf (rs v Q3 (o + 1)) (skipH f n j2) b2) cB qx NN f n (skipH f n j2) (by omega) (by omega) (by omega) ((rf_ne (by decide) (by decide)).trans ((rs_ne (by decide) (by decide) (by decide) (by decide)).trans h6)) rf_7 ((rf_ne (by decide) (by decide)).trans ((rs_ne (by decide) (by decide) (by decide) (by decide)).trans h8)) b2 rf_9 41 o ((rf_ne (by decide) (by decide)).trans rs_23)) (cwV 1 hts (gt_V (own := R_Mo) (C := R_Mo) (i := 297) (y := y_Mo_shut) i_Mo_shut w_1447 w_1449 (gt_sel (y := y_Mo_shut) (n := 30) (by decide +kernel)) w_7) rfl rfl rfl (by decide +kernel) ⟨Nat.le_trans (m := 11) (Nat.le_of_ble_eq_true rfl) (Nat.le_add_right 11 (15 + G)), Nat.le_trans (m := 400) (Nat.le_of_ble_eq_true rfl) (Nat.le_add_right 400 (600 + M))⟩) ⟨mp_blind, va_recv hKc hPc (ci := 13) (q0 := 0) rfl rfl, fun U hU hW => ⟨rfl, hU, by rw [hU]; exact hPc, va_K.moved hW.alike hKc, hDc.weaken (fun _ _ _ _ => trivial)⟩⟩ rfl rfl hl.1 rfl (lv_room (Nat.le_of_ble_eq_true rfl)) d_Mo_comparable_461 ⟨hfit_Q3V2.1, hfit_Q3V2.2⟩) hS (fun q _ h => hFc q h) hFc (fun r0 u2 t9 H1 locs ht hvm hw hB hz1 hk1 hS => ?_)
                            obtain ⟨hP1, hK1, hD1⟩ := hB
                            rw [ht] at hP1
                            obtain ⟨hP, hD⟩ := va_join (wr := [(Q3.qq, .inl (cI, (8 * Q3.C), .inl Q3.qf)), (Q3.qe, .inl (cL, (3 * Q3.C), .inr (.inl Q3.ef))), (tv, .inr (12, MF 13 (tw V2))), (V2.au, .inl (cC, V2.U, .inl V2.un))]) (w1 := [(mo, .inr (13, MF 30 u2)), (qx, .inl (cB, NN, .inl f))]) hP hD [0, 1] [2, 3, 4, 5] rfl rfl (by decide) (by decide) hk1 hFc hP1 hD1
                            generalize H1 = H at hP hS ⊢
                            have hP : va_P (dC, dI) classes [(Q3.qq, .inl (cI, (8 * Q3.C), .inl Q3.qf)), (Q3.qe, .inl (cL, (3 * Q3.C), .inr (.inl Q3.ef))), (tv, .inr (12, MF 13 (tw V2))), (V2.au, .inl (cC, V2.U, .inl V2.un)), (mo, .inr (13, MF 30 u2)), (qx, .inl (cB, NN, .inl f))] H := hP
                            have hD : va_D A [(Q3.qq, .inl (cI, (8 * Q3.C), .inl Q3.qf)), (Q3.qe, .inl (cL, (3 * Q3.C), .inr (.inl Q3.ef))), (tv, .inr (12, MF 13 (tw V2))), (V2.au, .inl (cC, V2.U, .inl V2.un)), (mo, .inr (13, MF 30 u2)), (qx, .inl (cB, NN, .inl f))] := hD
                            have hP := hP.sub (ws' := [(mo, .inr (13, MF 30 u2)), (qx, .inl (cB, NN, .inl f)), (Q3.qq, .inl (cI, (8 * Q3.C), .inl Q3.qf)), (Q3.qe, .inl (cL, (3 * Q3.C), .inr (.inl Q3.ef))), (tv, .inr (12, MF 13 (tw V2))), (V2.au, .inl (cC, V2.U, .inl V2.un))]) [4, 5, 0, 1, 2, 3] rfl
                            have hD := hD.sub (ws' := [(mo, .inr (13, MF 30 u2)), (qx, .inl (cB, NN, .inl f)), (Q3.qq, .inl (cI, (8 * Q3.C), .inl Q3.qf)), (Q3.qe, .inl (cL, (3 * Q3.C), .inr (.inl Q3.ef))), (tv, .inr (12, MF 13 (tw V2))), (V2.au, .inl (cC, V2.U, .inl V2.un))]) [4, 5, 0, 1, 2, 3] (by decide) rfl
                            rcases hw with ⟨hn2, ht2, ht3⟩ | ⟨hn2, ht2, ht3⟩
                            · rw [rf_u7, rs_o] at ht3
                              rw [ht3] at hP hD
                              subst ht2
                              have hP : va_P (dC, dI) classes [(mo, .inr (13, MF 30 (rf (rs v Q3 o) ((skipH f n j2) + 1) b2))), (qx, .inl (cB, NN, .inl f)), (Q3.qq, .inl (cI, (8 * Q3.C), .inl Q3.qf)), (Q3.qe, .inl (cL, (3 * Q3.C), .inr (.inl Q3.ef))), (tv, .inr (12, MF 13 (tw V2))), (V2.au, .inl (cC, V2.U, .inl V2.un))] H := hP
                              have hD : va_D A [(mo, .inr (13, MF 30 (rf (rs v Q3 o) ((skipH f n j2) + 1) b2))), (qx, .inl (cB, NN, .inl f)), (Q3.qq, .inl (cI, (8 * Q3.C), .inl Q3.qf)), (Q3.qe, .inl (cL, (3 * Q3.C), .inr (.inl Q3.ef))), (tv, .inr (12, MF 13 (tw V2))), (V2.au, .inl (cC, V2.U, .inl V2.un))] := hD
                              refine lv_if_eq (tgt := 471) hx hb d_Mo_comparable_464 (by decide) (fun h => absurd h (by decide)) (fun _ => ?_)
                              refine lv_iload_n hx hb d_Mo_comparable_467 rfl (lv_at hl 1 rfl) ?_
                              refine lv_goto (tgt := 472) hx hb d_Mo_comparable_468 (by decide) ?_
                              have hlt41 := here_in hn2 (by decide)
                              have hfin : cmP f n ok (orL f n) (cmL f n) (qyL f n) i = some (((skipH f n j2) + 1), lenO g9) := by rw [hcm]; exact fnT_s hen hfA hn2
                              have hW : Wth C Q3 V2 Q.R Q3.R Q.R a9 g9 := Wth_up hCf hv_3 (by omega) (by omega) (by omega) (alr.upd hf_Q3.2.2 he_Q3 (by decide) (by omega))
                              have hCF : CMPf O C Y Q3 V2 Q.R Q3.R Q.R (lenO g9) := ⟨by omega, by omega, Or.inr (Or.inr (Or.inr (Or.inr (Or.inr (Or.inr (Or.inl ⟨hk0_Q3, a9, g9, by rw [hf_Q3.2.2]; exact pk_us, hW, rfl⟩))))))⟩
                              refine w_same (fun hq => ?_)
                              refine W.widen (k := kcap Q (Q.R + 8 * (n - i) + 1) + qcap V (V.us + (n + 12 - i))) (n := 22 * kcap Q (Q.R + 8 * (n - i) + 1) + 2 * qcap V (V.us + (n + 12 - i))) hfit_Q3V2.1 hfit_Q3V2.2 ?_
                              have hPo : QPo n i 1 Q V (Q3, V2, ((skipH f n j2) + 1), b2, o) := ⟨hQk_Q3, hG_Q3V2, ⟨_, hX_V2, by omega⟩, by show Q.R ≤ Q3.R; omega, by show Q3.R ≤ Q.R + 8 * (n - i) + 1; omega⟩
                              exact W.iret (v := nI Q.R) hx hb hr (fun t9 ht hW => ⟨⟨nI Q.R, (Q3, V2, ((skipH f n j2) + 1), b2, o), rfl, ⟨hPo, Or.inl ⟨Q.R, lenO g9, rfl, hfin, hCF, by show Q.R < Q3.R; omega, hEx_Q3V2, by show Q3.R + 8 * i + 6 ≤ Q.R + 8 * ((skipH f n j2) + 1); omega, by show V2.us + i ≤ V.us + ((skipH f n j2) + 1); omega, by show ((skipH f n j2) + 1) ≤ n; omega, by show Q.R < Q3.R; omega, rfl⟩⟩, ⟨by rw [ht]; exact hP, va_K.moved hW.alike hK, hD⟩, by rw [ht]; exact hq⟩, hS.F ht⟩) hS.2.2 d_Mo_comparable_472
                            · obtain ⟨b6, h_b6⟩ := rf_fail (v := (rs v Q3 (o + 1))) (i := (skipH f n j2)) (br := b2) (b2 := b2) (wh := nI (skipH f n j2))
                              rw [h_b6] at ht3
                              rw [ht3] at hP hD
                              subst ht2
                              have hP : va_P (dC, dI) classes [(mo, .inr (13, MF 30 (rf (rs v Q3 (o + 1)) (skipH f n j2) b6))), (qx, .inl (cB, NN, .inl f)), (Q3.qq, .inl (cI, (8 * Q3.C), .inl Q3.qf)), (Q3.qe, .inl (cL, (3 * Q3.C), .inr (.inl Q3.ef))), (tv, .inr (12, MF 13 (tw V2))), (V2.au, .inl (cC, V2.U, .inl V2.un))] H := hP
                              have hD : va_D A [(mo, .inr (13, MF 30 (rf (rs v Q3 (o + 1)) (skipH f n j2) b6))), (qx, .inl (cB, NN, .inl f)), (Q3.qq, .inl (cI, (8 * Q3.C), .inl Q3.qf)), (Q3.qe, .inl (cL, (3 * Q3.C), .inr (.inl Q3.ef))), (tv, .inr (12, MF 13 (tw V2))), (V2.au, .inl (cC, V2.U, .inl V2.un))] := hD
                              refine lv_if_eq (tgt := 471) hx hb d_Mo_comparable_464 (by decide) (fun _ => ?_) (fun h => absurd (by decide) h)
                              refine lv_iconst (v := (-1)) hx hb d_Mo_comparable_471 (by decide) ?_
                              have hfin : cmP f n ok (orL f n) (cmL f n) (qyL f n) i = none := by rw [hcm]; exact fnT_e hen hfA hn2
                              refine w_same (fun hq => ?_)
                              refine W.widen (k := kcap Q (Q.R + 8 * (n - i) + 1) + qcap V (V.us + (n + 12 - i))) (n := 22 * kcap Q (Q.R + 8 * (n - i) + 1) + 2 * qcap V (V.us + (n + 12 - i))) hfit_Q3V2.1 hfit_Q3V2.2 ?_
                              have hPo : QPo n i 1 Q V (Q3, V2, (skipH f n j2), b6, (o + 1)) := ⟨hQk_Q3, hG_Q3V2, ⟨_, hX_V2, by omega⟩, by show Q.R ≤ Q3.R; omega, by show Q3.R ≤ Q.R + 8 * (n - i) + 1; omega⟩
                              exact W.iret (v := -1) hx hb hr (fun t9 ht hW => ⟨⟨-1, (Q3, V2, (skipH f n j2), b6, (o + 1)), rfl, ⟨hPo, Or.inr ⟨rfl, hfin⟩⟩, ⟨by rw [ht]; exact hP, va_K.moved hW.alike hK, hD⟩, by rw [ht]; exact hq⟩, hS.F ht⟩) hS.2.2 d_Mo_comparable_472
                          · have hv_2 : cmL f n (skipH f n ((i + 6) + 1)) = none := hv_2
                            have hfA : fnA f n (cmL f n) (qyL f n) i (skipH f n ((i + 6) + 1)) = none := fnA_l0 hfx hv_2
                            subst hv_1
                            refine lv_istore_n (lv' := [(3, .int (-1)), (2, .int (nI Q.R)), (1, .int r1), (0, .ref mo)]) hx hb d_Mo_comparable_371 rfl hl (by decide) rfl (fun ls hl => ?_)
                            refine lv_goto (tgt := 441) hx hb d_Mo_comparable_372 (by decide) ?_
                            refine lv_iload_n hx hb d_Mo_comparable_441 rfl (lv_at hl 0 rfl) ?_
                            refine lv_if_ge (tgt := 447) hx hb d_Mo_comparable_442 (by decide) (fun h => absurd h (by decide)) (fun _ => ?_)
                            refine lv_iconst (v := (-1)) hx hb d_Mo_comparable_445 (by decide) ?_
                            have hfin : cmP f n ok (orL f n) (cmL f n) (qyL f n) i = none := by rw [hcm]; exact fnT_a hen hfA
                            refine w_same (fun hq => ?_)
                            refine W.widen (k := kcap Q (Q.R + 8 * (n - i) + 1) + qcap V (V.us + (n + 12 - i))) (n := 22 * kcap Q (Q.R + 8 * (n - i) + 1) + 2 * qcap V (V.us + (n + 12 - i))) hfit_Q2V2.1 hfit_Q2V2.2 ?_
                            have hPo : QPo n i 1 Q V (Q2, V2, j2, b2, o2) := ⟨hQk_Q2, hG_Q2V2, ⟨_, hX_V2, by omega⟩, by show Q.R ≤ Q2.R; omega, by show Q2.R ≤ Q.R + 8 * (n - i) + 1; omega⟩
                            exact W.iret (v := -1) hx hb hr (fun t9 ht hW => ⟨⟨-1, (Q2, V2, j2, b2, o2), rfl, ⟨hPo, Or.inr ⟨rfl, hfin⟩⟩, ⟨by rw [ht]; exact hP, va_K.moved hW.alike hK, hD⟩, by rw [ht]; exact hq⟩, hS.F ht⟩) hS.2.2 d_Mo_comparable_446
                        · obtain ⟨b5, h_b5⟩ := rf_fail (v := (rs v Q o)) (i := (i + 6)) (br := br) (b2 := br) (wh := nI (i + 6))
                          rw [h_b5] at ht3
                          rw [ht3] at hP hD
                          subst ht2
                          have hP : va_P (dC, dI) classes [(mo, .inr (13, MF 30 (rf (rs v Q o) (i + 6) b5))), (qx, .inl (cB, NN, .inl f)), (Q.qq, .inl (cI, (8 * Q.C), .inl Q.qf)), (Q.qe, .inl (cL, (3 * Q.C), .inr (.inl Q.ef))), (tv, .inr (12, MF 13 (tw V))), (V.au, .inl (cC, V.U, .inl V.un))] H := hP
                          have hD : va_D A [(mo, .inr (13, MF 30 (rf (rs v Q o) (i + 6) b5))), (qx, .inl (cB, NN, .inl f)), (Q.qq, .inl (cI, (8 * Q.C), .inl Q.qf)), (Q.qe, .inl (cL, (3 * Q.C), .inr (.inl Q.ef))), (tv, .inr (12, MF 13 (tw V))), (V.au, .inl (cC, V.U, .inl V.un))] := hD
                          refine lv_if_ne (tgt := 328) hx hb d_Mo_comparable_323 (by decide) (fun h => absurd h (by decide)) (fun _ => ?_)
                          refine lv_iconst (v := (-1)) hx hb d_Mo_comparable_326 (by decide) ?_
                          have hfin : cmP f n ok (orL f n) (cmL f n) (qyL f n) i = none := by rw [hcm]; exact fnT_n (fun h => hn1 ⟨h.1, hok.mp h.2⟩)
                          refine w_same (fun hq => ?_)
                          refine W.widen (k := kcap Q (Q.R + 8 * (n - i) + 1) + qcap V (V.us + (n + 12 - i))) (n := 22 * kcap Q (Q.R + 8 * (n - i) + 1) + 2 * qcap V (V.us + (n + 12 - i))) hfit_QV.1 hfit_QV.2 ?_
                          have hPo : QPo n i 1 Q V (Q, V, (i + 6), b5, o) := ⟨hQk_Q, hG_QV, ⟨[], TX.rf hTk_V, Nat.zero_le _⟩, by show Q.R ≤ Q.R; omega, by show Q.R ≤ Q.R + 8 * (n - i) + 1; omega⟩
                          exact W.iret (v := -1) hx hb hr (fun t9 ht hW => ⟨⟨-1, (Q, V, (i + 6), b5, o), rfl, ⟨hPo, Or.inr ⟨rfl, hfin⟩⟩, ⟨by rw [ht]; exact hP, va_K.moved hW.alike hK, hD⟩, by rw [ht]; exact hq⟩, hS.F ht⟩) hS.2.2 d_Mo_comparable_327
                      · rw [rf_u7] at hw3
                        obtain ⟨b4, h_b4⟩ := rf_fail (v := (rs v Q o)) (i := k9) (br := br) (b2 := br) (wh := nI k9)
                        rw [h_b4] at hw3
                        rw [hw3] at hP hD
                        subst hw2
                        have hP : va_P (dC, dI) classes [(mo, .inr (13, MF 30 (rf (rs v Q o) k9 b4))), (qx, .inl (cB, NN, .inl f)), (Q.qq, .inl (cI, (8 * Q.C), .inl Q.qf)), (Q.qe, .inl (cL, (3 * Q.C), .inr (.inl Q.ef))), (tv, .inr (12, MF 13 (tw V))), (V.au, .inl (cC, V.U, .inl V.un))] H := hP
                        have hD : va_D A [(mo, .inr (13, MF 30 (rf (rs v Q o) k9 b4))), (qx, .inl (cB, NN, .inl f)), (Q.qq, .inl (cI, (8 * Q.C), .inl Q.qf)), (Q.qe, .inl (cL, (3 * Q.C), .inr (.inl Q.ef))), (tv, .inr (12, MF 13 (tw V))), (V.au, .inl (cC, V.U, .inl V.un))] := hD
                        have hwb : ¬ mtB f n i (mtx 11) 6 = true := fun h => hwm (mtB_iff.mp h)
                        refine lv_if_eq (tgt := 326) hx hb d_Mo_comparable_314 (by decide) (fun _ => ?_) (fun h => absurd (by decide) h)
                        refine lv_iconst (v := (-1)) hx hb d_Mo_comparable_326 (by decide) ?_
                        have hfin : cmP f n ok (orL f n) (cmL f n) (qyL f n) i = none := by rw [hcm]; unfold fnP; rw [if_pos hfx, if_neg hwb]
                        refine w_same (fun hq => ?_)
                        refine W.widen (k := kcap Q (Q.R + 8 * (n - i) + 1) + qcap V (V.us + (n + 12 - i))) (n := 22 * kcap Q (Q.R + 8 * (n - i) + 1) + 2 * qcap V (V.us + (n + 12 - i))) hfit_QV.1 hfit_QV.2 ?_
                        have hPo : QPo n i 1 Q V (Q, V, k9, b4, o) := ⟨hQk_Q, hG_QV, ⟨[], TX.rf hTk_V, Nat.zero_le _⟩, by show Q.R ≤ Q.R; omega, by show Q.R ≤ Q.R + 8 * (n - i) + 1; omega⟩
                        exact W.iret (v := -1) hx hb hr (fun t9 ht hW => ⟨⟨-1, (Q, V, k9, b4, o), rfl, ⟨hPo, Or.inr ⟨rfl, hfin⟩⟩, ⟨by rw [ht]; exact hP, va_K.moved hW.alike hK, hD⟩, by rw [ht]; exact hq⟩, hS.F ht⟩) hS.2.2 d_Mo_comparable_327
                    · refine lv_iload_n hx hb d_Mo_comparable_260 rfl (lv_at hl 0 rfl) ?_
                      refine lv_bipush (v := 99) hx hb d_Mo_comparable_261 (by decide) ?_
                      refine lv_icmp_eq (tgt := 283) hx hb d_Mo_comparable_263 (by decide) (fun c263 => ?_) (fun c263 => ?_)
                      · have hfx : hereV f n i = 99 := h_r1.symm.trans c263
                        have hcm : cmP f n ok (orL f n) (cmL f n) (qyL f n) i = (match fnP f n i with | none => none | some j => fnT f n ok (cmL f n) (qyL f n) i j) := cmP_fn hN0 hN1 hN2 hN3 hN4 hN5
                        refine lv_aload_n hx hb d_Mo_comparable_283 rfl (lv_at hl 1 rfl) ?_
                        refine lv_iload_n hx hb d_Mo_comparable_284 rfl (lv_at hl 0 rfl) ?_
                        refine lv_bipush (v := 108) hx hb d_Mo_comparable_285 (by decide) ?_
                        refine lv_icmp_ne (tgt := 296) hx hb d_Mo_comparable_287 (by decide) (fun _ => ?_) (fun h => absurd h c257)
                        refine lv_iload_n hx hb d_Mo_comparable_296 rfl (lv_at hl 0 rfl) ?_
                        refine lv_bipush (v := 99) hx hb d_Mo_comparable_297 (by decide) ?_
                        refine lv_icmp_ne (tgt := 308) hx hb d_Mo_comparable_299 (by decide) (fun h => absurd h (fun q => q c263)) (fun _ => ?_)
                        refine va_ldcwS hx hb hown (hM 12 _ rfl).2 d_Mo_comparable_302 ?_
                        refine lv_goto (tgt := 311) hx hb d_Mo_comparable_305 (by decide) ?_
                        have hE := (hM 12 _ rfl).1
                        have hPc := hP.sub (ws' := [(mo, .inr (13, MF 30 (rf (rs v Q o) i br))), (qx, .inl (cB, NN, .inl f))]) [0, 1] rfl
                        have hDc := hD.sub (ws' := [(mo, .inr (13, MF 30 (rf (rs v Q o) i br))), (qx, .inl (cB, NN, .inl f))]) [0, 1] (by decide) rfl
                        have hKc := hK.sub (tys' := [(cB, .byte)]) [0] rfl
                        have hFc := va_free (wc := [(mo, .inr (13, MF 30 (rf (rs v Q o) i br))), (qx, .inl (cB, NN, .inl f))]) hD hS hA [0, 1] rfl
                        refine va_calli (va_runV (As := [.ref (K 12).1]) (rest := []) ⟨hx, hb, hml, hown, hts⟩ (c_Mo_wordS l dC dI mo H (rf (rs v Q o) i br) cB qx NN f (K 12).1 (K 12).2 5 (mtx 12) n i (by omega) (by omega) (by omega) ((rf_ne (by decide) (by decide)).trans ((rs_ne (by decide) (by decide) (by decide) (by decide)).trans h6)) rf_7 ((rf_ne (by decide) (by decide)).trans ((rs_ne (by decide) (by decide) (by decide) (by decide)).trans h8)) br rf_9 (by decide)) (cwV 1 hts (gt_V (own := R_Mo) (C := R_Mo) (i := 193) (y := y_Mo_wordS) i_Mo_wordS w_1240 w_1242 (gt_sel (y := y_Mo_wordS) (n := 30) (by decide +kernel)) w_7) rfl rfl rfl (by decide +kernel) ⟨Nat.le_trans (m := 11) (Nat.le_of_ble_eq_true rfl) (Nat.le_add_right 11 (15 + G)), Nat.le_trans (m := 400) (Nat.le_of_ble_eq_true rfl) (Nat.le_add_right 400 (600 + M))⟩) ⟨mstr_blind, va_recv hKc hPc (ci := 13) (q0 := 0) rfl rfl, fun U hU hW => ⟨rfl, ⟨hU, by rw [hU]; exact hPc, va_K.moved hW.alike hKc, hDc.weaken (fun _ _ _ _ => trivial)⟩, by rw [hU]; exact SX.moved' hW.alike (SX.narrow' (SX.kept' hE hS.2.1) hFc)⟩⟩ rfl rfl hl.1 rfl (lv_room (Nat.le_of_ble_eq_true rfl)) d_Mo_comparable_311 ⟨hfit_QV.1, hfit_QV.2⟩) hS (fun q _ h => hFc q h) hFc (fun r0 u2 t9 H1 locs ht hvm hw hB hz1 hk1 hS => ?_)
                        obtain ⟨hP1, hK1, hD1⟩ := hB
                        rw [ht] at hP1
                        obtain ⟨hP, hD⟩ := va_join (wr := [(Q.qq, .inl (cI, (8 * Q.C), .inl Q.qf)), (Q.qe, .inl (cL, (3 * Q.C), .inr (.inl Q.ef))), (tv, .inr (12, MF 13 (tw V))), (V.au, .inl (cC, V.U, .inl V.un))]) (w1 := [(mo, .inr (13, MF 30 u2)), (qx, .inl (cB, NN, .inl f))]) hP hD [0, 1] [2, 3, 4, 5] rfl rfl (by decide) (by decide) hk1 hFc hP1 hD1
                        generalize H1 = H at hP hS ⊢
                        have hP : va_P (dC, dI) classes [(Q.qq, .inl (cI, (8 * Q.C), .inl Q.qf)), (Q.qe, .inl (cL, (3 * Q.C), .inr (.inl Q.ef))), (tv, .inr (12, MF 13 (tw V))), (V.au, .inl (cC, V.U, .inl V.un)), (mo, .inr (13, MF 30 u2)), (qx, .inl (cB, NN, .inl f))] H := hP
                        have hD : va_D A [(Q.qq, .inl (cI, (8 * Q.C), .inl Q.qf)), (Q.qe, .inl (cL, (3 * Q.C), .inr (.inl Q.ef))), (tv, .inr (12, MF 13 (tw V))), (V.au, .inl (cC, V.U, .inl V.un)), (mo, .inr (13, MF 30 u2)), (qx, .inl (cB, NN, .inl f))] := hD
                        have hP := hP.sub (ws' := [(mo, .inr (13, MF 30 u2)), (qx, .inl (cB, NN, .inl f)), (Q.qq, .inl (cI, (8 * Q.C), .inl Q.qf)), (Q.qe, .inl (cL, (3 * Q.C), .inr (.inl Q.ef))), (tv, .inr (12, MF 13 (tw V))), (V.au, .inl (cC, V.U, .inl V.un))]) [4, 5, 0, 1, 2, 3] rfl
                        have hD := hD.sub (ws' := [(mo, .inr (13, MF 30 u2)), (qx, .inl (cB, NN, .inl f)), (Q.qq, .inl (cI, (8 * Q.C), .inl Q.qf)), (Q.qe, .inl (cL, (3 * Q.C), .inr (.inl Q.ef))), (tv, .inr (12, MF 13 (tw V))), (V.au, .inl (cC, V.U, .inl V.un))]) [4, 5, 0, 1, 2, 3] (by decide) rfl
                        rcases hw with ⟨hwm, hw2, hw3⟩ | ⟨hwm, hw2, k9, hw3⟩
                        · rw [rf_u7] at hw3
                          rw [hw3] at hP hD
                          subst hw2
                          have hP : va_P (dC, dI) classes [(mo, .inr (13, MF 30 (rf (rs v Q o) (i + 5) br))), (qx, .inl (cB, NN, .inl f)), (Q.qq, .inl (cI, (8 * Q.C), .inl Q.qf)), (Q.qe, .inl (cL, (3 * Q.C), .inr (.inl Q.ef))), (tv, .inr (12, MF 13 (tw V))), (V.au, .inl (cC, V.U, .inl V.un))] H := hP
                          have hD : va_D A [(mo, .inr (13, MF 30 (rf (rs v Q o) (i + 5) br))), (qx, .inl (cB, NN, .inl f)), (Q.qq, .inl (cI, (8 * Q.C), .inl Q.qf)), (Q.qe, .inl (cL, (3 * Q.C), .inr (.inl Q.ef))), (tv, .inr (12, MF 13 (tw V))), (V.au, .inl (cC, V.U, .inl V.un))] := hD
                          have hwlt := mtch_le (k := 4) hwm (by decide)
                          have hwb : mtB f n i (mtx 12) 5 = true := mtB_iff.mpr hwm
                          have hfnP : fnP f n i = some (i + 5) := by unfold fnP; rw [if_neg (fun h => absurd (hfx.symm.trans h) (by decide)), if_pos hfx, if_pos hwb]
                          have hcm : cmP f n ok (orL f n) (cmL f n) (qyL f n) i = fnT f n ok (cmL f n) (qyL f n) i (i + 5) := by rw [hcm, hfnP]
                          refine lv_if_eq (tgt := 326) hx hb d_Mo_comparable_314 (by decide) (fun h => absurd h (by decide)) (fun _ => ?_)
                          refine lv_aload_n hx hb d_Mo_comparable_317 rfl (lv_at hl 1 rfl) ?_
                          refine lv_bipush (v := 40) hx hb d_Mo_comparable_318 (by decide) ?_
                          have hjw : (i + 5) ≤ n := by omega
                          have hPc := hP.sub (ws' := [(mo, .inr (13, MF 30 (rf (rs v Q o) (i + 5) br))), (qx, .inl (cB, NN, .inl f))]) [0, 1] rfl
                          have hDc := hD.sub (ws' := [(mo, .inr (13, MF 30 (rf (rs v Q o) (i + 5) br))), (qx, .inl (cB, NN, .inl f))]) [0, 1] (by decide) rfl
                          have hKc := hK.sub (tys' := [(cB, .byte)]) [0] rfl
                          have hFc := va_free (wc := [(mo, .inr (13, MF 30 (rf (rs v Q o) (i + 5) br))), (qx, .inl (cB, NN, .inl f))]) hD hS hA [0, 1] rfl
                          refine va_calli (va_runV (As := [.int 40]) (rest := []) ⟨hx, hb, hml, hown, hts⟩ (c_Mo_enter l dC dI mo H (rf (rs v Q o) (i + 5) br) cB qx NN f n (i + 5) (by omega) (by omega) (by omega) ((rf_ne (by decide) (by decide)).trans ((rs_ne (by decide) (by decide) (by decide) (by decide)).trans h6)) rf_7 ((rf_ne (by decide) (by decide)).trans ((rs_ne (by decide) (by decide) (by decide) (by decide)).trans h8)) br rf_9 40 o (by omega) ((rf_ne (by decide) (by decide)).trans rs_23)) (cwV 1 hts (gt_V (own := R_Mo) (C := R_Mo) (i := 290) (y := y_Mo_enter) i_Mo_enter w_1423 w_1425 (gt_sel (y := y_Mo_enter) (n := 30) (by decide +kernel)) w_7) rfl rfl rfl (by decide +kernel) ⟨Nat.le_trans (m := 11) (Nat.le_of_ble_eq_true rfl) (Nat.le_add_right 11 (15 + G)), Nat.le_trans (m := 400) (Nat.le_of_ble_eq_true rfl) (Nat.le_add_right 400 (600 + M))⟩) ⟨mp_blind, va_recv hKc hPc (ci := 13) (q0 := 0) rfl rfl, fun U hU hW => ⟨rfl, hU, by rw [hU]; exact hPc, va_K.moved hW.alike hKc, hDc.weaken (fun _ _ _ _ => trivial)⟩⟩ rfl rfl hl.1 rfl (lv_room (Nat.le_of_ble_eq_true rfl)) d_Mo_comparable_320 ⟨hfit_QV.1, hfit_QV.2⟩) hS (fun q _ h => hFc q h) hFc (fun r0 u2 t9 H1 locs ht hvm hw hB hz1 hk1 hS => ?_)
                          obtain ⟨hP1, hK1, hD1⟩ := hB
                          rw [ht] at hP1
                          obtain ⟨hP, hD⟩ := va_join (wr := [(Q.qq, .inl (cI, (8 * Q.C), .inl Q.qf)), (Q.qe, .inl (cL, (3 * Q.C), .inr (.inl Q.ef))), (tv, .inr (12, MF 13 (tw V))), (V.au, .inl (cC, V.U, .inl V.un))]) (w1 := [(mo, .inr (13, MF 30 u2)), (qx, .inl (cB, NN, .inl f))]) hP hD [0, 1] [2, 3, 4, 5] rfl rfl (by decide) (by decide) hk1 hFc hP1 hD1
                          generalize H1 = H at hP hS ⊢
                          have hP : va_P (dC, dI) classes [(Q.qq, .inl (cI, (8 * Q.C), .inl Q.qf)), (Q.qe, .inl (cL, (3 * Q.C), .inr (.inl Q.ef))), (tv, .inr (12, MF 13 (tw V))), (V.au, .inl (cC, V.U, .inl V.un)), (mo, .inr (13, MF 30 u2)), (qx, .inl (cB, NN, .inl f))] H := hP
                          have hD : va_D A [(Q.qq, .inl (cI, (8 * Q.C), .inl Q.qf)), (Q.qe, .inl (cL, (3 * Q.C), .inr (.inl Q.ef))), (tv, .inr (12, MF 13 (tw V))), (V.au, .inl (cC, V.U, .inl V.un)), (mo, .inr (13, MF 30 u2)), (qx, .inl (cB, NN, .inl f))] := hD
                          have hP := hP.sub (ws' := [(mo, .inr (13, MF 30 u2)), (qx, .inl (cB, NN, .inl f)), (Q.qq, .inl (cI, (8 * Q.C), .inl Q.qf)), (Q.qe, .inl (cL, (3 * Q.C), .inr (.inl Q.ef))), (tv, .inr (12, MF 13 (tw V))), (V.au, .inl (cC, V.U, .inl V.un))]) [4, 5, 0, 1, 2, 3] rfl
                          have hD := hD.sub (ws' := [(mo, .inr (13, MF 30 u2)), (qx, .inl (cB, NN, .inl f)), (Q.qq, .inl (cI, (8 * Q.C), .inl Q.qf)), (Q.qe, .inl (cL, (3 * Q.C), .inr (.inl Q.ef))), (tv, .inr (12, MF 13 (tw V))), (V.au, .inl (cC, V.U, .inl V.un))]) [4, 5, 0, 1, 2, 3] (by decide) rfl
                          rcases hw with ⟨hn1, ht2, ht3⟩ | ⟨hn1, ht2, ht3⟩
                          · rw [rs_o, rf_u7] at ht3
                            rw [ht3] at hP hD
                            subst ht2
                            have hP : va_P (dC, dI) classes [(mo, .inr (13, MF 30 (rf (rs v Q (o + 1)) ((i + 5) + 1) br))), (qx, .inl (cB, NN, .inl f)), (Q.qq, .inl (cI, (8 * Q.C), .inl Q.qf)), (Q.qe, .inl (cL, (3 * Q.C), .inr (.inl Q.ef))), (tv, .inr (12, MF 13 (tw V))), (V.au, .inl (cC, V.U, .inl V.un))] H := hP
                            have hD : va_D A [(mo, .inr (13, MF 30 (rf (rs v Q (o + 1)) ((i + 5) + 1) br))), (qx, .inl (cB, NN, .inl f)), (Q.qq, .inl (cI, (8 * Q.C), .inl Q.qf)), (Q.qe, .inl (cL, (3 * Q.C), .inr (.inl Q.ef))), (tv, .inr (12, MF 13 (tw V))), (V.au, .inl (cC, V.U, .inl V.un))] := hD
                            have hlt40 := here_in hn1.1 (by decide)
                            have hen : hereV f n (i + 5) = 40 ∧ ok = true := ⟨hn1.1, hok.mpr hn1.2⟩
                            refine lv_if_ne (tgt := 328) hx hb d_Mo_comparable_323 (by decide) (fun _ => ?_) (fun h => absurd h (by decide))
                            refine lv_aload_n hx hb d_Mo_comparable_328 rfl (lv_at hl 1 rfl) ?_
                            have hPc := hP.sub (ws' := [(mo, .inr (13, MF 30 (rf (rs v Q (o + 1)) ((i + 5) + 1) br))), (qx, .inl (cB, NN, .inl f))]) [0, 1] rfl
                            have hDc := hD.sub (ws' := [(mo, .inr (13, MF 30 (rf (rs v Q (o + 1)) ((i + 5) + 1) br))), (qx, .inl (cB, NN, .inl f))]) [0, 1] (by decide) rfl
                            have hKc := hK.sub (tys' := [(cB, .byte)]) [0] rfl
                            have hFc := va_free (wc := [(mo, .inr (13, MF 30 (rf (rs v Q (o + 1)) ((i + 5) + 1) br))), (qx, .inl (cB, NN, .inl f))]) hD hS hA [0, 1] rfl
                            refine va_callv (va_runV (As := []) (rest := []) ⟨hx, hb, hml, hown, hts⟩ (c_Mo_blanks l dC dI mo H (rf (rs v Q (o + 1)) ((i + 5) + 1) br) cB qx NN f n ((i + 5) + 1) (by omega) (by omega) (by omega) ((rf_ne (by decide) (by decide)).trans ((rs_ne (by decide) (by decide) (by decide) (by decide)).trans h6)) rf_7 ((rf_ne (by decide) (by decide)).trans ((rs_ne (by decide) (by decide) (by decide) (by decide)).trans h8))) (cwV 0 hts (gt_V (own := R_Mo) (C := R_Mo) (i := 184) (y := y_Mo_blanks) i_Mo_blanks w_1229 w_1231 (gt_sel (y := y_Mo_blanks) (n := 30) (by decide +kernel)) w_7) rfl rfl rfl (by decide +kernel) ⟨Nat.le_trans (m := 11) (Nat.le_of_ble_eq_true rfl) (Nat.le_add_right 11 (15 + G)), Nat.le_trans (m := 400) (Nat.le_of_ble_eq_true rfl) (Nat.le_add_right 400 (600 + M))⟩) ⟨mp_blind, va_recv hKc hPc (ci := 13) (q0 := 0) rfl rfl, fun U hU hW => ⟨rfl, hU, by rw [hU]; exact hPc, va_K.moved hW.alike hKc, hDc.weaken (fun _ _ _ _ => trivial)⟩⟩ rfl rfl hl.1 rfl (lv_room (Nat.le_of_ble_eq_true rfl)) d_Mo_comparable_329 ⟨hfit_QV.1, hfit_QV.2⟩) hS (fun q _ h => hFc q h) hFc (fun _u t9 H1 locs ht hvm hw hB hz1 hk1 hS => ?_)
                            obtain ⟨hP1, hK1, hD1⟩ := hB
                            rw [ht] at hP1
                            obtain ⟨hP, hD⟩ := va_join (wr := [(Q.qq, .inl (cI, (8 * Q.C), .inl Q.qf)), (Q.qe, .inl (cL, (3 * Q.C), .inr (.inl Q.ef))), (tv, .inr (12, MF 13 (tw V))), (V.au, .inl (cC, V.U, .inl V.un))]) (w1 := [(mo, .inr (13, MF 30 (va_up (rf (rs v Q (o + 1)) ((i + 5) + 1) br) 7 (.int (nI (skipH f n ((i + 5) + 1))))))), (qx, .inl (cB, NN, .inl f))]) hP hD [0, 1] [2, 3, 4, 5] rfl rfl (by decide) (by decide) hk1 hFc hP1 hD1
                            generalize H1 = H at hP hS ⊢
                            have hP : va_P (dC, dI) classes [(Q.qq, .inl (cI, (8 * Q.C), .inl Q.qf)), (Q.qe, .inl (cL, (3 * Q.C), .inr (.inl Q.ef))), (tv, .inr (12, MF 13 (tw V))), (V.au, .inl (cC, V.U, .inl V.un)), (mo, .inr (13, MF 30 (va_up (rf (rs v Q (o + 1)) ((i + 5) + 1) br) 7 (.int (nI (skipH f n ((i + 5) + 1))))))), (qx, .inl (cB, NN, .inl f))] H := hP
                            have hD : va_D A [(Q.qq, .inl (cI, (8 * Q.C), .inl Q.qf)), (Q.qe, .inl (cL, (3 * Q.C), .inr (.inl Q.ef))), (tv, .inr (12, MF 13 (tw V))), (V.au, .inl (cC, V.U, .inl V.un)), (mo, .inr (13, MF 30 (va_up (rf (rs v Q (o + 1)) ((i + 5) + 1) br) 7 (.int (nI (skipH f n ((i + 5) + 1))))))), (qx, .inl (cB, NN, .inl f))] := hD
                            have hP := hP.sub (ws' := [(mo, .inr (13, MF 30 (va_up (rf (rs v Q (o + 1)) ((i + 5) + 1) br) 7 (.int (nI (skipH f n ((i + 5) + 1))))))), (qx, .inl (cB, NN, .inl f)), (Q.qq, .inl (cI, (8 * Q.C), .inl Q.qf)), (Q.qe, .inl (cL, (3 * Q.C), .inr (.inl Q.ef))), (tv, .inr (12, MF 13 (tw V))), (V.au, .inl (cC, V.U, .inl V.un))]) [4, 5, 0, 1, 2, 3] rfl
                            have hD := hD.sub (ws' := [(mo, .inr (13, MF 30 (va_up (rf (rs v Q (o + 1)) ((i + 5) + 1) br) 7 (.int (nI (skipH f n ((i + 5) + 1))))))), (qx, .inl (cB, NN, .inl f)), (Q.qq, .inl (cI, (8 * Q.C), .inl Q.qf)), (Q.qe, .inl (cL, (3 * Q.C), .inr (.inl Q.ef))), (tv, .inr (12, MF 13 (tw V))), (V.au, .inl (cC, V.U, .inl V.un))]) [4, 5, 0, 1, 2, 3] (by decide) rfl
                            rw [rf_u7] at hP hD
                            have hP : va_P (dC, dI) classes [(mo, .inr (13, MF 30 (rf (rs v Q (o + 1)) (skipH f n ((i + 5) + 1)) br))), (qx, .inl (cB, NN, .inl f)), (Q.qq, .inl (cI, (8 * Q.C), .inl Q.qf)), (Q.qe, .inl (cL, (3 * Q.C), .inr (.inl Q.ef))), (tv, .inr (12, MF 13 (tw V))), (V.au, .inl (cC, V.U, .inl V.un))] H := hP
                            have hD : va_D A [(mo, .inr (13, MF 30 (rf (rs v Q (o + 1)) (skipH f n ((i + 5) + 1)) br))), (qx, .inl (cB, NN, .inl f)), (Q.qq, .inl (cI, (8 * Q.C), .inl Q.qf)), (Q.qe, .inl (cL, (3 * Q.C), .inr (.inl Q.ef))), (tv, .inr (12, MF 13 (tw V))), (V.au, .inl (cC, V.U, .inl V.un))] := hD
                            have hsk_332 := skipH_n (f := f) (show ((i + 5) + 1) ≤ n by omega)
                            refine lv_aload_n hx hb d_Mo_comparable_332 rfl (lv_at hl 1 rfl) ?_
                            refine lv_iload_n hx hb d_Mo_comparable_333 rfl (lv_at hl 0 rfl) ?_
                            refine lv_bipush (v := 108) hx hb d_Mo_comparable_334 (by decide) ?_
                            refine lv_icmp_ne (tgt := 344) hx hb d_Mo_comparable_336 (by decide) (fun _ => ?_) (fun h => absurd h c257)
                            refine lv_iload_n hx hb d_Mo_comparable_344 rfl (lv_at hl 0 rfl) ?_
                            refine lv_bipush (v := 99) hx hb d_Mo_comparable_345 (by decide) ?_
                            refine lv_icmp_ne (tgt := 355) hx hb d_Mo_comparable_347 (by decide) (fun h => absurd h (fun q => q c263)) (fun _ => ?_)
                            refine lv_bipush (v := 47) hx hb d_Mo_comparable_350 (by decide) ?_
                            refine lv_goto (tgt := 357) hx hb d_Mo_comparable_352 (by decide) ?_
                            have hPc := hP.sub (ws' := [(mo, .inr (13, MF 30 (rf (rs v Q (o + 1)) (skipH f n ((i + 5) + 1)) br))), (Q.qq, .inl (cI, (8 * Q.C), .inl Q.qf)), (Q.qe, .inl (cL, (3 * Q.C), .inr (.inl Q.ef)))]) [0, 2, 3] rfl
                            have hDc := hD.sub (ws' := [(mo, .inr (13, MF 30 (rf (rs v Q (o + 1)) (skipH f n ((i + 5) + 1)) br))), (Q.qq, .inl (cI, (8 * Q.C), .inl Q.qf)), (Q.qe, .inl (cL, (3 * Q.C), .inr (.inl Q.ef)))]) [0, 2, 3] (by decide) rfl
                            have hKc := hK.sub (tys' := [(cI, .int), (cL, .long)]) [1, 2] rfl
                            have hFc := va_free (wc := [(mo, .inr (13, MF 30 (rf (rs v Q (o + 1)) (skipH f n ((i + 5) + 1)) br))), (Q.qq, .inl (cI, (8 * Q.C), .inl Q.qf)), (Q.qe, .inl (cL, (3 * Q.C), .inr (.inl Q.ef)))]) hD hS hA [0, 2, 3] rfl
                            refine w_same (fun hq0 => ?_)
                            refine va_calli (va_runV (As := [.int 47]) (rest := []) ⟨hx, hb, hml, hown, hts⟩ (c_Mo_row l dC dI mo H v cI cL Q (o + 1) (skipH f n ((i + 5) + 1)) br 47 hQk_Q) (cwV 1 hts (gt_V (own := R_Mo) (C := R_Mo) (i := 269) (y := y_Mo_row) i_Mo_row w_1407 w_1409 (gt_sel (y := y_Mo_row) (n := 30) (by decide +kernel)) w_7) rfl rfl rfl (by decide +kernel) ⟨Nat.le_trans (m := 11) (Nat.le_of_ble_eq_true rfl) (Nat.le_add_right 11 (15 + G)), Nat.le_trans (m := 400) (Nat.le_of_ble_eq_true rfl) (Nat.le_add_right 400 (600 + M))⟩) ⟨mp_blind, va_recv hKc hPc (ci := 13) (q0 := 0) rfl rfl, fun U hU hW => ⟨rfl, hU, by rw [hU]; exact hPc, va_K.moved hW.alike hKc, hDc.weaken (fun _ _ _ _ => trivial)⟩⟩ rfl rfl hl.1 rfl (lv_room (Nat.le_of_ble_eq_true rfl)) d_Mo_comparable_357 ⟨(QAd.fit hG_QV hQk_Q (by omega)).1, (QAd.fit hG_QV hQk_Q (by omega)).2⟩) hS (fun q _ h => hFc q h) hFc (fun r0 Q1 t9 H1 locs ht hvm hw hB hz1 hk1 hS => ?_)
                            obtain ⟨⟨hP1, hK1, hD1⟩, hz9⟩ := hB
                            rw [ht] at hP1
                            rw [ht] at hz9
                            obtain ⟨hr0, hA_Q1⟩ := hw
                            have hA_Q1 : QAd Q Q1 47 := hA_Q1
                            obtain ⟨hQk_Q1, hGa, hGb, hGd, hR_Q1⟩ := hA_Q1.gq hQk_Q (by omega) V
                            obtain ⟨hG_Q1V, hGc, hGs⟩ := hG_QV.tr hGa (show Q.R + 1 ≤ Q.R + 8 * (n - i) + 1 by omega) (Nat.zero_le _)
                            have hGc := Nat.le_trans (Nat.add_le_add_left hGb _) hGc
                            have hGs := Nat.le_trans (Nat.add_le_add_left hGd _) hGs
                            have hq1 : szk s.heap H1 (cQ Q V Q1 V) (sQ Q V Q1 V) := (hq0.trans hz9).mono hGc hGs
                            refine w_tight hq1 ?_
                            obtain ⟨hP, hD⟩ := va_join (wr := [(qx, .inl (cB, NN, .inl f)), (tv, .inr (12, MF 13 (tw V))), (V.au, .inl (cC, V.U, .inl V.un))]) (w1 := [(mo, .inr (13, MF 30 (rf (rs v Q1 (o + 1)) (skipH f n ((i + 5) + 1)) br))), (Q1.qq, .inl (cI, (8 * Q1.C), .inl Q1.qf)), (Q1.qe, .inl (cL, (3 * Q1.C), .inr (.inl Q1.ef)))]) hP hD [0, 2, 3] [1, 4, 5] rfl rfl (by decide) (by decide) hk1 hFc hP1 hD1
                            generalize H1 = H at hP hS ⊢
                            have hP : va_P (dC, dI) classes [(qx, .inl (cB, NN, .inl f)), (tv, .inr (12, MF 13 (tw V))), (V.au, .inl (cC, V.U, .inl V.un)), (mo, .inr (13, MF 30 (rf (rs v Q1 (o + 1)) (skipH f n ((i + 5) + 1)) br))), (Q1.qq, .inl (cI, (8 * Q1.C), .inl Q1.qf)), (Q1.qe, .inl (cL, (3 * Q1.C), .inr (.inl Q1.ef)))] H := hP
                            have hD : va_D A [(qx, .inl (cB, NN, .inl f)), (tv, .inr (12, MF 13 (tw V))), (V.au, .inl (cC, V.U, .inl V.un)), (mo, .inr (13, MF 30 (rf (rs v Q1 (o + 1)) (skipH f n ((i + 5) + 1)) br))), (Q1.qq, .inl (cI, (8 * Q1.C), .inl Q1.qf)), (Q1.qe, .inl (cL, (3 * Q1.C), .inr (.inl Q1.ef)))] := hD
                            have hP := hP.sub (ws' := [(mo, .inr (13, MF 30 (rf (rs v Q1 (o + 1)) (skipH f n ((i + 5) + 1)) br))), (qx, .inl (cB, NN, .inl f)), (tv, .inr (12, MF 13 (tw V))), (V.au, .inl (cC, V.U, .inl V.un)), (Q1.qq, .inl (cI, (8 * Q1.C), .inl Q1.qf)), (Q1.qe, .inl (cL, (3 * Q1.C), .inr (.inl Q1.ef)))]) [3, 0, 1, 2, 4, 5] rfl
                            have hD := hD.sub (ws' := [(mo, .inr (13, MF 30 (rf (rs v Q1 (o + 1)) (skipH f n ((i + 5) + 1)) br))), (qx, .inl (cB, NN, .inl f)), (tv, .inr (12, MF 13 (tw V))), (V.au, .inl (cC, V.U, .inl V.un)), (Q1.qq, .inl (cI, (8 * Q1.C), .inl Q1.qf)), (Q1.qe, .inl (cL, (3 * Q1.C), .inr (.inl Q1.ef)))]) [3, 0, 1, 2, 4, 5] (by decide) rfl
                            have hP := hP.sub (ws' := [(mo, .inr (13, MF 30 (rf (rs v Q1 (o + 1)) (skipH f n ((i + 5) + 1)) br))), (qx, .inl (cB, NN, .inl f)), (Q1.qq, .inl (cI, (8 * Q1.C), .inl Q1.qf)), (Q1.qe, .inl (cL, (3 * Q1.C), .inr (.inl Q1.ef))), (tv, .inr (12, MF 13 (tw V))), (V.au, .inl (cC, V.U, .inl V.un))]) [0, 1, 4, 5, 2, 3] rfl
                            have hD := hD.sub (ws' := [(mo, .inr (13, MF 30 (rf (rs v Q1 (o + 1)) (skipH f n ((i + 5) + 1)) br))), (qx, .inl (cB, NN, .inl f)), (Q1.qq, .inl (cI, (8 * Q1.C), .inl Q1.qf)), (Q1.qe, .inl (cL, (3 * Q1.C), .inr (.inl Q1.ef))), (tv, .inr (12, MF 13 (tw V))), (V.au, .inl (cC, V.U, .inl V.un))]) [0, 1, 4, 5, 2, 3] (by decide) rfl
                            have hr0 : r0 = nI Q.R := hr0
                            subst hr0
                            have hqb_Q1V : Q1.R ≤ Q1.C ∧ Q1.C ≤ 100000 := ⟨hQk_Q1.2.2.1, hQk_Q1.2.1⟩
                            have hfit_Q1V := hG_Q1V.fits
                            have hE_Q1 : alr Q V Q1 V 0 Q.R := ⟨fun r9 k9 _ h1 h2 => hA_Q1.2.2.1 _ (by omega), ⟨fun r9 k9 _ h1 h2 => hA_Q1.2.2.2.1.2 _ (by omega), Nat.le_refl _, fun _ _ => rfl⟩⟩
                            have hk0_Q1 : Q1.qf (8 * Q.R + 0) = 47 := hA_Q1.2.2.2.2.1
                            have hl1_Q1 : Q1.qf (8 * Q.R + 1) = -1 := hA_Q1.2.2.2.2.2 1 (by decide) (by decide)
                            have hEx_Q1V : alr Q V Q1 V 0 Q.R := hE_Q1
                            refine lv_istore_n (lv' := [(2, .int (nI Q.R)), (1, .int r1), (0, .ref mo)]) hx hb d_Mo_comparable_360 rfl hl (by decide) rfl (fun ls hl => ?_)
                            refine lv_iload_n hx hb d_Mo_comparable_361 rfl (lv_at hl 1 rfl) ?_
                            refine lv_bipush (v := 108) hx hb d_Mo_comparable_362 (by decide) ?_
                            refine lv_icmp_ne (tgt := 375) hx hb d_Mo_comparable_364 (by decide) (fun _ => ?_) (fun h => absurd h c257)
                            refine lv_aload_n hx hb d_Mo_comparable_375 rfl (lv_at hl 2 rfl) ?_
                            have hPc := hP.sub (ws' := [(mo, .inr (13, MF 30 (rf (rs v Q1 (o + 1)) (skipH f n ((i + 5) + 1)) br))), (qx, .inl (cB, NN, .inl f))]) [0, 1] rfl
                            have hDc := hD.sub (ws' := [(mo, .inr (13, MF 30 (rf (rs v Q1 (o + 1)) (skipH f n ((i + 5) + 1)) br))), (qx, .inl (cB, NN, .inl f))]) [0, 1] (by decide) rfl
                            have hKc := hK.sub (tys' := [(cB, .byte)]) [0] rfl
                            have hFc := va_free (wc := [(mo, .inr (13, MF 30 (rf (rs v Q1 (o + 1)) (skipH f n ((i + 5) + 1)) br))), (qx, .inl (cB, NN, .inl f))]) hD hS hA [0, 1] rfl
                            refine va_calli (va_runV (As := []) (rest := []) ⟨hx, hb, hml, hown, hts⟩ (c_Mo_c l dC dI mo H (rf (rs v Q1 (o + 1)) (skipH f n ((i + 5) + 1)) br) cB qx NN f n (skipH f n ((i + 5) + 1)) (by omega) (by omega) (by omega) ((rf_ne (by decide) (by decide)).trans ((rs_ne (by decide) (by decide) (by decide) (by decide)).trans h6)) rf_7 ((rf_ne (by decide) (by decide)).trans ((rs_ne (by decide) (by decide) (by decide) (by decide)).trans h8))) (cwV 0 hts (gt_V (own := R_Mo) (C := R_Mo) (i := 147) (y := y_Mo_c) i_Mo_c w_1233 w_1235 (gt_sel (y := y_Mo_c) (n := 30) (by decide +kernel)) w_7) rfl rfl rfl (by decide +kernel) ⟨Nat.le_trans (m := 11) (Nat.le_of_ble_eq_true rfl) (Nat.le_add_right 11 (15 + G)), Nat.le_trans (m := 400) (Nat.le_of_ble_eq_true rfl) (Nat.le_add_right 400 (600 + M))⟩) ⟨mp_blind, va_recv hKc hPc (ci := 13) (q0 := 0) rfl rfl, fun U hU hW => ⟨rfl, hU, by rw [hU]; exact hPc, va_K.moved hW.alike hKc, hDc.weaken (fun _ _ _ _ => trivial)⟩⟩ rfl rfl hl.1 rfl (lv_room (Nat.le_of_ble_eq_true rfl)) d_Mo_comparable_376 ⟨hfit_Q1V.1, hfit_Q1V.2⟩) hS (fun q _ h => hFc q h) hFc (fun r6 _u t9 H1 locs ht hvm hw hB hz1 hk1 hS => ?_)
                            obtain ⟨hP1, hK1, hD1⟩ := hB
                            rw [ht] at hP1
                            obtain ⟨hP, hD⟩ := va_join (wr := [(Q1.qq, .inl (cI, (8 * Q1.C), .inl Q1.qf)), (Q1.qe, .inl (cL, (3 * Q1.C), .inr (.inl Q1.ef))), (tv, .inr (12, MF 13 (tw V))), (V.au, .inl (cC, V.U, .inl V.un))]) (w1 := [(mo, .inr (13, MF 30 (rf (rs v Q1 (o + 1)) (skipH f n ((i + 5) + 1)) br))), (qx, .inl (cB, NN, .inl f))]) hP hD [0, 1] [2, 3, 4, 5] rfl rfl (by decide) (by decide) hk1 hFc hP1 hD1
                            generalize H1 = H at hP hS ⊢
                            have hP : va_P (dC, dI) classes [(Q1.qq, .inl (cI, (8 * Q1.C), .inl Q1.qf)), (Q1.qe, .inl (cL, (3 * Q1.C), .inr (.inl Q1.ef))), (tv, .inr (12, MF 13 (tw V))), (V.au, .inl (cC, V.U, .inl V.un)), (mo, .inr (13, MF 30 (rf (rs v Q1 (o + 1)) (skipH f n ((i + 5) + 1)) br))), (qx, .inl (cB, NN, .inl f))] H := hP
                            have hD : va_D A [(Q1.qq, .inl (cI, (8 * Q1.C), .inl Q1.qf)), (Q1.qe, .inl (cL, (3 * Q1.C), .inr (.inl Q1.ef))), (tv, .inr (12, MF 13 (tw V))), (V.au, .inl (cC, V.U, .inl V.un)), (mo, .inr (13, MF 30 (rf (rs v Q1 (o + 1)) (skipH f n ((i + 5) + 1)) br))), (qx, .inl (cB, NN, .inl f))] := hD
                            have hP := hP.sub (ws' := [(mo, .inr (13, MF 30 (rf (rs v Q1 (o + 1)) (skipH f n ((i + 5) + 1)) br))), (qx, .inl (cB, NN, .inl f)), (Q1.qq, .inl (cI, (8 * Q1.C), .inl Q1.qf)), (Q1.qe, .inl (cL, (3 * Q1.C), .inr (.inl Q1.ef))), (tv, .inr (12, MF 13 (tw V))), (V.au, .inl (cC, V.U, .inl V.un))]) [4, 5, 0, 1, 2, 3] rfl
                            have hD := hD.sub (ws' := [(mo, .inr (13, MF 30 (rf (rs v Q1 (o + 1)) (skipH f n ((i + 5) + 1)) br))), (qx, .inl (cB, NN, .inl f)), (Q1.qq, .inl (cI, (8 * Q1.C), .inl Q1.qf)), (Q1.qe, .inl (cL, (3 * Q1.C), .inr (.inl Q1.ef))), (tv, .inr (12, MF 13 (tw V))), (V.au, .inl (cC, V.U, .inl V.un))]) [4, 5, 0, 1, 2, 3] (by decide) rfl
                            have h_r6 : r6 = hereV f n (skipH f n ((i + 5) + 1)) := hw
                            refine lv_bipush (v := 64) hx hb d_Mo_comparable_379 (by decide) ?_
                            refine lv_icmp_eq (tgt := 393) hx hb d_Mo_comparable_381 (by decide) (fun c381 => ?_) (fun c381 => ?_)
                            · refine lv_aload_n hx hb d_Mo_comparable_393 rfl (lv_at hl 2 rfl) ?_
                              have hPc := hP.sub (ws' := [(mo, .inr (13, MF 30 (rf (rs v Q1 (o + 1)) (skipH f n ((i + 5) + 1)) br))), (qx, .inl (cB, NN, .inl f))]) [0, 1] rfl
                              have hDc := hD.sub (ws' := [(mo, .inr (13, MF 30 (rf (rs v Q1 (o + 1)) (skipH f n ((i + 5) + 1)) br))), (qx, .inl (cB, NN, .inl f))]) [0, 1] (by decide) rfl
                              have hKc := hK.sub (tys' := [(cB, .byte)]) [0] rfl
                              have hFc := va_free (wc := [(mo, .inr (13, MF 30 (rf (rs v Q1 (o + 1)) (skipH f n ((i + 5) + 1)) br))), (qx, .inl (cB, NN, .inl f))]) hD hS hA [0, 1] rfl
                              refine va_calli (va_runV (As := []) (rest := []) ⟨hx, hb, hml, hown, hts⟩ (c_Mo_c l dC dI mo H (rf (rs v Q1 (o + 1)) (skipH f n ((i + 5) + 1)) br) cB qx NN f n (skipH f n ((i + 5) + 1)) (by omega) (by omega) (by omega) ((rf_ne (by decide) (by decide)).trans ((rs_ne (by decide) (by decide) (by decide) (by decide)).trans h6)) rf_7 ((rf_ne (by decide) (by decide)).trans ((rs_ne (by decide) (by decide) (by decide) (by decide)).trans h8))) (cwV 0 hts (gt_V (own := R_Mo) (C := R_Mo) (i := 147) (y := y_Mo_c) i_Mo_c w_1233 w_1235 (gt_sel (y := y_Mo_c) (n := 30) (by decide +kernel)) w_7) rfl rfl rfl (by decide +kernel) ⟨Nat.le_trans (m := 11) (Nat.le_of_ble_eq_true rfl) (Nat.le_add_right 11 (15 + G)), Nat.le_trans (m := 400) (Nat.le_of_ble_eq_true rfl) (Nat.le_add_right 400 (600 + M))⟩) ⟨mp_blind, va_recv hKc hPc (ci := 13) (q0 := 0) rfl rfl, fun U hU hW => ⟨rfl, hU, by rw [hU]; exact hPc, va_K.moved hW.alike hKc, hDc.weaken (fun _ _ _ _ => trivial)⟩⟩ rfl rfl hl.1 rfl (lv_room (Nat.le_of_ble_eq_true rfl)) d_Mo_comparable_394 ⟨hfit_Q1V.1, hfit_Q1V.2⟩) hS (fun q _ h => hFc q h) hFc (fun r8 _u t9 H1 locs ht hvm hw hB hz1 hk1 hS => ?_)
                              obtain ⟨hP1, hK1, hD1⟩ := hB
                              rw [ht] at hP1
                              obtain ⟨hP, hD⟩ := va_join (wr := [(Q1.qq, .inl (cI, (8 * Q1.C), .inl Q1.qf)), (Q1.qe, .inl (cL, (3 * Q1.C), .inr (.inl Q1.ef))), (tv, .inr (12, MF 13 (tw V))), (V.au, .inl (cC, V.U, .inl V.un))]) (w1 := [(mo, .inr (13, MF 30 (rf (rs v Q1 (o + 1)) (skipH f n ((i + 5) + 1)) br))), (qx, .inl (cB, NN, .inl f))]) hP hD [0, 1] [2, 3, 4, 5] rfl rfl (by decide) (by decide) hk1 hFc hP1 hD1
                              generalize H1 = H at hP hS ⊢
                              have hP : va_P (dC, dI) classes [(Q1.qq, .inl (cI, (8 * Q1.C), .inl Q1.qf)), (Q1.qe, .inl (cL, (3 * Q1.C), .inr (.inl Q1.ef))), (tv, .inr (12, MF 13 (tw V))), (V.au, .inl (cC, V.U, .inl V.un)), (mo, .inr (13, MF 30 (rf (rs v Q1 (o + 1)) (skipH f n ((i + 5) + 1)) br))), (qx, .inl (cB, NN, .inl f))] H := hP
                              have hD : va_D A [(Q1.qq, .inl (cI, (8 * Q1.C), .inl Q1.qf)), (Q1.qe, .inl (cL, (3 * Q1.C), .inr (.inl Q1.ef))), (tv, .inr (12, MF 13 (tw V))), (V.au, .inl (cC, V.U, .inl V.un)), (mo, .inr (13, MF 30 (rf (rs v Q1 (o + 1)) (skipH f n ((i + 5) + 1)) br))), (qx, .inl (cB, NN, .inl f))] := hD
                              have hP := hP.sub (ws' := [(mo, .inr (13, MF 30 (rf (rs v Q1 (o + 1)) (skipH f n ((i + 5) + 1)) br))), (qx, .inl (cB, NN, .inl f)), (Q1.qq, .inl (cI, (8 * Q1.C), .inl Q1.qf)), (Q1.qe, .inl (cL, (3 * Q1.C), .inr (.inl Q1.ef))), (tv, .inr (12, MF 13 (tw V))), (V.au, .inl (cC, V.U, .inl V.un))]) [4, 5, 0, 1, 2, 3] rfl
                              have hD := hD.sub (ws' := [(mo, .inr (13, MF 30 (rf (rs v Q1 (o + 1)) (skipH f n ((i + 5) + 1)) br))), (qx, .inl (cB, NN, .inl f)), (Q1.qq, .inl (cI, (8 * Q1.C), .inl Q1.qf)), (Q1.qe, .inl (cL, (3 * Q1.C), .inr (.inl Q1.ef))), (tv, .inr (12, MF 13 (tw V))), (V.au, .inl (cC, V.U, .inl V.un))]) [4, 5, 0, 1, 2, 3] (by decide) rfl
                              have h_r8 : r8 = hereV f n (skipH f n ((i + 5) + 1)) := hw
                              refine lv_bipush (v := 36) hx hb d_Mo_comparable_397 (by decide) ?_
                              refine lv_icmp_ne (tgt := 406) hx hb d_Mo_comparable_399 (by decide) (fun _ => ?_) (fun h => absurd h (fun h => absurd ((c381.symm.trans (h_r6.trans h_r8.symm)).trans h) (by decide)))
                              refine lv_iconst (v := 0) hx hb d_Mo_comparable_406 (by decide) ?_
                              refine lv_istore (lv' := [(4, .int 0), (2, .int (nI Q.R)), (1, .int r1), (0, .ref mo)]) hx hb d_Mo_comparable_407 hl (by decide) rfl (fun ls hl => ?_)
                              refine lv_aload_n hx hb d_Mo_comparable_409 rfl (lv_at hl 3 rfl) ?_
                              refine lv_dup hx hb d_Mo_comparable_410 rfl ?_
                              refine va_get (D := (dC, dI)) (ci := 13) (v := .int (nI (skipH f n ((i + 5) + 1)))) (C := R_Mo) (T := F_Mo) (N := 30) hx hb hts in_Mo hown hK hP 0 rfl rfl 7 (by decide) (hts _ w_1096) (fun _ h9 => h9) (MFg (by decide) rf_7) d_Mo_comparable_411 ?_
                              refine lv_iconst (v := 1) hx hb d_Mo_comparable_414 (by decide) ?_
                              refine lv_iadd hx hb d_Mo_comparable_415 ?_
                              have hbeg : begC (hereV f n (skipH f n ((i + 5) + 1))) := Or.inl (h_r6.symm.trans c381)
                              have hltb : (skipH f n ((i + 5) + 1)) < n := hbeg.elim (fun h => here_in h (by decide)) (fun h => here_in h (by decide))
                              have hrtb : decide (hereV f n (skipH f n ((i + 5) + 1)) = 36) = false := decide_eq_false (by rw [← h_r6, c381]; decide)
                              refine W.eq (g2 := F0 m 416 ls [.int (nI ((skipH f n ((i + 5) + 1)) + 1)), .ref mo]) (by rw [show ((nI (skipH f n ((i + 5) + 1))) + 1) = (nI ((skipH f n ((i + 5) + 1)) + 1)) from nI_1 _]) ?_
                              refine va_put (D := (dC, dI)) (ci := 13) (v := .int (nI ((skipH f n ((i + 5) + 1)) + 1))) (ty := .int) (C := R_Mo) (T := F_Mo) (N := 30) hx hb hts in_Mo t_Mo t_Mo_ok n_Mo hown hK hP hD hS 0 rfl rfl 7 (by decide) (hts _ w_1096) (fun _ h9 => h9) rfl (by decide +kernel) rfl rfl (by rw [MFl]; decide) d_Mo_comparable_416 (fun H locs hP hD hS => ?_)
                              rw [MFs (n := 30) (k := 7) (by decide)] at hP hD
                              have hP : va_P (dC, dI) classes [(mo, .inr (13, MF 30 (va_up (rf (rs v Q1 (o + 1)) (skipH f n ((i + 5) + 1)) br) 7 (.int (nI ((skipH f n ((i + 5) + 1)) + 1)))))), (qx, .inl (cB, NN, .inl f)), (Q1.qq, .inl (cI, (8 * Q1.C), .inl Q1.qf)), (Q1.qe, .inl (cL, (3 * Q1.C), .inr (.inl Q1.ef))), (tv, .inr (12, MF 13 (tw V))), (V.au, .inl (cC, V.U, .inl V.un))] H := hP
                              have hD : va_D A [(mo, .inr (13, MF 30 (va_up (rf (rs v Q1 (o + 1)) (skipH f n ((i + 5) + 1)) br) 7 (.int (nI ((skipH f n ((i + 5) + 1)) + 1)))))), (qx, .inl (cB, NN, .inl f)), (Q1.qq, .inl (cI, (8 * Q1.C), .inl Q1.qf)), (Q1.qe, .inl (cL, (3 * Q1.C), .inr (.inl Q1.ef))), (tv, .inr (12, MF 13 (tw V))), (V.au, .inl (cC, V.U, .inl V.un))] := hD
                              rw [rf_u7] at hP hD
                              have hP : va_P (dC, dI) classes [(mo, .inr (13, MF 30 (rf (rs v Q1 (o + 1)) ((skipH f n ((i + 5) + 1)) + 1) br))), (qx, .inl (cB, NN, .inl f)), (Q1.qq, .inl (cI, (8 * Q1.C), .inl Q1.qf)), (Q1.qe, .inl (cL, (3 * Q1.C), .inr (.inl Q1.ef))), (tv, .inr (12, MF 13 (tw V))), (V.au, .inl (cC, V.U, .inl V.un))] H := hP
                              have hD : va_D A [(mo, .inr (13, MF 30 (rf (rs v Q1 (o + 1)) ((skipH f n ((i + 5) + 1)) + 1) br))), (qx, .inl (cB, NN, .inl f)), (Q1.qq, .inl (cI, (8 * Q1.C), .inl Q1.qf)), (Q1.qe, .inl (cL, (3 * Q1.C), .inr (.inl Q1.ef))), (tv, .inr (12, MF 13 (tw V))), (V.au, .inl (cC, V.U, .inl V.un))] := hD
                              refine lv_aload_n hx hb d_Mo_comparable_419 rfl (lv_at hl 3 rfl) ?_
                              refine lv_iload hx hb d_Mo_comparable_420 (lv_at hl 0 rfl) ?_
                              refine lv_iconst (v := 0) hx hb d_Mo_comparable_422 (by decide) ?_
                              have hPc := hP.sub (ws' := [(mo, .inr (13, MF 30 (rf (rs v Q1 (o + 1)) ((skipH f n ((i + 5) + 1)) + 1) br))), (qx, .inl (cB, NN, .inl f)), (Q1.qq, .inl (cI, (8 * Q1.C), .inl Q1.qf)), (Q1.qe, .inl (cL, (3 * Q1.C), .inr (.inl Q1.ef))), (tv, .inr (12, MF 13 (tw V))), (V.au, .inl (cC, V.U, .inl V.un))]) [0, 1, 2, 3, 4, 5] rfl
                              have hDc := hD.sub (ws' := [(mo, .inr (13, MF 30 (rf (rs v Q1 (o + 1)) ((skipH f n ((i + 5) + 1)) + 1) br))), (qx, .inl (cB, NN, .inl f)), (Q1.qq, .inl (cI, (8 * Q1.C), .inl Q1.qf)), (Q1.qe, .inl (cL, (3 * Q1.C), .inr (.inl Q1.ef))), (tv, .inr (12, MF 13 (tw V))), (V.au, .inl (cC, V.U, .inl V.un))]) [0, 1, 2, 3, 4, 5] (by decide) rfl
                              have hKc := hK.sub (tys' := [(cB, .byte), (cI, .int), (cL, .long), (cC, .char)]) [0, 1, 2, 3] rfl
                              have hFc := va_free (wc := [(mo, .inr (13, MF 30 (rf (rs v Q1 (o + 1)) ((skipH f n ((i + 5) + 1)) + 1) br))), (qx, .inl (cB, NN, .inl f)), (Q1.qq, .inl (cI, (8 * Q1.C), .inl Q1.qf)), (Q1.qe, .inl (cL, (3 * Q1.C), .inr (.inl Q1.ef))), (tv, .inr (12, MF 13 (tw V))), (V.au, .inl (cC, V.U, .inl V.un))]) hD hS hA [0, 1, 2, 3, 4, 5] rfl
                              refine w_same (fun hq0 => ?_)
                              refine va_calli (va_runV (As := [.int 0, .int 0]) (rest := []) ⟨hx, hb, hml, hown, hts⟩ (hQY hn1.2 l dC dI mo H v cB cI cL cC qx NN f n K tv Q1 V ((skipH f n ((i + 5) + 1)) + 1) br false 0 (by decide) hnN hNN (by omega) h6 h8 h22 hQk_Q1 hTk_V (by omega) (by omega)) (cwV 2 hts (gt_V (own := R_Mo) (C := R_Mo) (i := 317) (y := y_Mo_queryRest) i_Mo_queryRest w_1403 w_1405 (gt_sel (y := y_Mo_queryRest) (n := 30) (by decide +kernel)) w_7) rfl rfl rfl (by decide +kernel) ⟨by show 10 + G + 1 ≤ 11 + (15 + G); omega, by show 8 + (7 + 11) + (320 + M) ≤ 400 + (600 + M); omega⟩) ⟨me_blind, va_recv hKc hPc (ci := 13) (q0 := 0) rfl rfl, fun U hU hW => ⟨rfl, ⟨hU, by rw [hU]; exact hPc, va_K.moved hW.alike hKc, hDc.weaken (fun _ _ _ _ => trivial)⟩, by rw [hU]; exact ME.call hM hS.2.1 hFc hW⟩⟩ rfl rfl hl.1 rfl (lv_room (Nat.le_of_ble_eq_true rfl)) d_Mo_comparable_423 ⟨(hG_Q1V.step (B2 := Q1.R + 8 * (n - ((skipH f n ((i + 5) + 1)) + 1)) + 9) (C2 := V.us + (n + 12 - ((skipH f n ((i + 5) + 1)) + 1))) (by omega) (by omega)).1, (hG_Q1V.step (B2 := Q1.R + 8 * (n - ((skipH f n ((i + 5) + 1)) + 1)) + 9) (C2 := V.us + (n + 12 - ((skipH f n ((i + 5) + 1)) + 1))) (by omega) (by omega)).2⟩) hS (fun q _ h => hFc q h) hFc (fun r0 ⟨Q2, V2, j2, b2, o2⟩ t9 H1 locs ht hvm hw hB hz1 hk1 hS => ?_)
                              obtain ⟨⟨hP1, hK1, hD1⟩, hz9⟩ := hB
                              rw [ht] at hP1
                              rw [ht] at hz9
                              obtain ⟨⟨hQk_Q2, hGn, hTXs, hR1_Q2, hR2_Q2⟩, hw⟩ := hw
                              have hQk_Q2 : QOK Q2 := hQk_Q2
                              obtain ⟨hG_Q2V2, hGc, hGs⟩ := hG_Q1V.tr hGn (by omega) (by omega)
                              have hR1_Q2 : Q1.R ≤ Q2.R := hR1_Q2
                              have hR2_Q2 : Q2.R ≤ Q1.R + 8 * (n - ((skipH f n ((i + 5) + 1)) + 1)) + 9 := hR2_Q2
                              obtain ⟨us2, hX_V2, hln_V2⟩ := hTXs
                              have hX_V2 : TX V V2 us2 := hX_V2
                              have hXs_V2 := hX_V2.us
                              have hz9 : szk H H1 (cQ Q1 V Q2 V2) (sQ Q1 V Q2 V2) := hz9
                              have hq1 : szk s.heap H1 (cQ Q V Q2 V2) (sQ Q V Q2 V2) := (hq0.trans hz9).mono hGc hGs
                              refine w_tight hq1 ?_
                              obtain ⟨hP, hD⟩ := va_join (wr := []) (w1 := [(mo, .inr (13, MF 30 (rf (rs v Q2 o2) j2 b2))), (qx, .inl (cB, NN, .inl f)), (Q2.qq, .inl (cI, (8 * Q2.C), .inl Q2.qf)), (Q2.qe, .inl (cL, (3 * Q2.C), .inr (.inl Q2.ef))), (tv, .inr (12, MF 13 (tw V2))), (V2.au, .inl (cC, V2.U, .inl V2.un))]) hP hD [0, 1, 2, 3, 4, 5] [] rfl rfl (by decide) (by decide) hk1 hFc hP1 hD1
                              generalize H1 = H at hP hS ⊢
                              have hP : va_P (dC, dI) classes [(mo, .inr (13, MF 30 (rf (rs v Q2 o2) j2 b2))), (qx, .inl (cB, NN, .inl f)), (Q2.qq, .inl (cI, (8 * Q2.C), .inl Q2.qf)), (Q2.qe, .inl (cL, (3 * Q2.C), .inr (.inl Q2.ef))), (tv, .inr (12, MF 13 (tw V2))), (V2.au, .inl (cC, V2.U, .inl V2.un))] H := hP
                              have hD : va_D A [(mo, .inr (13, MF 30 (rf (rs v Q2 o2) j2 b2))), (qx, .inl (cB, NN, .inl f)), (Q2.qq, .inl (cI, (8 * Q2.C), .inl Q2.qf)), (Q2.qe, .inl (cL, (3 * Q2.C), .inr (.inl Q2.ef))), (tv, .inr (12, MF 13 (tw V2))), (V2.au, .inl (cC, V2.U, .inl V2.un))] := hD
                              have hP := hP.sub (ws' := [(mo, .inr (13, MF 30 (rf (rs v Q2 o2) j2 b2))), (qx, .inl (cB, NN, .inl f)), (tv, .inr (12, MF 13 (tw V2))), (Q2.qq, .inl (cI, (8 * Q2.C), .inl Q2.qf)), (Q2.qe, .inl (cL, (3 * Q2.C), .inr (.inl Q2.ef))), (V2.au, .inl (cC, V2.U, .inl V2.un))]) [0, 1, 4, 2, 3, 5] rfl
                              have hD := hD.sub (ws' := [(mo, .inr (13, MF 30 (rf (rs v Q2 o2) j2 b2))), (qx, .inl (cB, NN, .inl f)), (tv, .inr (12, MF 13 (tw V2))), (Q2.qq, .inl (cI, (8 * Q2.C), .inl Q2.qf)), (Q2.qe, .inl (cL, (3 * Q2.C), .inr (.inl Q2.ef))), (V2.au, .inl (cC, V2.U, .inl V2.un))]) [0, 1, 4, 2, 3, 5] (by decide) rfl
                              have hP := hP.sub (ws' := [(mo, .inr (13, MF 30 (rf (rs v Q2 o2) j2 b2))), (qx, .inl (cB, NN, .inl f)), (Q2.qq, .inl (cI, (8 * Q2.C), .inl Q2.qf)), (Q2.qe, .inl (cL, (3 * Q2.C), .inr (.inl Q2.ef))), (tv, .inr (12, MF 13 (tw V2))), (V2.au, .inl (cC, V2.U, .inl V2.un))]) [0, 1, 3, 4, 2, 5] rfl
                              have hD := hD.sub (ws' := [(mo, .inr (13, MF 30 (rf (rs v Q2 o2) j2 b2))), (qx, .inl (cB, NN, .inl f)), (Q2.qq, .inl (cI, (8 * Q2.C), .inl Q2.qf)), (Q2.qe, .inl (cL, (3 * Q2.C), .inr (.inl Q2.ef))), (tv, .inr (12, MF 13 (tw V2))), (V2.au, .inl (cC, V2.U, .inl V2.un))]) [0, 1, 3, 4, 2, 5] (by decide) rfl
                              have hTk_V2 := hX_V2.ok hTk_V (by omega)
                              have hqb_Q2V2 : Q2.R ≤ Q2.C ∧ Q2.C ≤ 100000 := ⟨hQk_Q2.2.2.1, hQk_Q2.2.1⟩
                              have hfit_Q2V2 := hG_Q2V2.fits
                              rcases hw with ⟨fl, g9, hv_1, hv_2, hv_3, hv_5, hv_6, hv_7, hv_8, hv_9, hv_10⟩ | ⟨hv_1, hv_2⟩
                              · have hv_10 : (o + 1) = o2 := hv_10.symm
                                subst hv_10
                                have hP : va_P (dC, dI) classes [(mo, .inr (13, MF 30 (rf (rs v Q2 (o + 1)) j2 b2))), (qx, .inl (cB, NN, .inl f)), (Q2.qq, .inl (cI, (8 * Q2.C), .inl Q2.qf)), (Q2.qe, .inl (cL, (3 * Q2.C), .inr (.inl Q2.ef))), (tv, .inr (12, MF 13 (tw V2))), (V2.au, .inl (cC, V2.U, .inl V2.un))] H := hP
                                have hD : va_D A [(mo, .inr (13, MF 30 (rf (rs v Q2 (o + 1)) j2 b2))), (qx, .inl (cB, NN, .inl f)), (Q2.qq, .inl (cI, (8 * Q2.C), .inl Q2.qf)), (Q2.qe, .inl (cL, (3 * Q2.C), .inr (.inl Q2.ef))), (tv, .inr (12, MF 13 (tw V2))), (V2.au, .inl (cC, V2.U, .inl V2.un))] := hD
                                have hv_2 : qyL f n (decide (hereV f n (skipH f n ((i + 5) + 1)) = 36)) ((skipH f n ((i + 5) + 1)) + 1) = some (j2, fl, g9) := by rw [hrtb]; exact hv_2
                                have hv_3 : Y Q2 V2 Q1.R Q2.R Q1.R g9 := hv_3
                                have hv_5 : alr Q1 V Q2 V2 0 Q1.R := hv_5
                                have hv_6 : Q2.R + 8 * ((skipH f n ((i + 5) + 1)) + 1) ≤ Q1.R + 8 * j2 + 1 := hv_6
                                have hv_7 : V2.us + ((skipH f n ((i + 5) + 1)) + 1) ≤ V.us + j2 := hv_7
                                have hv_8 : j2 ≤ n := hv_8
                                have hv_9 : Q1.R < Q2.R := hv_9
                                subst hv_1
                                have hfA : fnA f n (cmL f n) (qyL f n) i (skipH f n ((i + 5) + 1)) = some (j2, cntO g9) := fnA_c hfx hbeg hv_2
                                have hk0_Q2 : Q2.qf (8 * Q.R + 0) = 47 := (hv_5.1 _ 0 (Nat.zero_le _) (by omega) (by decide)).trans hk0_Q1
                                have hl1_Q2 : Q2.qf (8 * Q.R + 1) = -1 := (hv_5.1 _ 1 (Nat.zero_le _) (by omega) (by decide)).trans hl1_Q1
                                have hEx_Q2V2 : alr Q V Q2 V2 0 Q.R := hEx_Q1V.tr (hv_5.sub (Nat.le_refl _) (by omega))
                                refine lv_istore_n (lv' := [(3, .int (nI Q1.R)), (4, .int 0), (2, .int (nI Q.R)), (1, .int r1), (0, .ref mo)]) hx hb d_Mo_comparable_426 rfl hl (by decide) rfl (fun ls hl => ?_)
                                refine lv_goto (tgt := 441) hx hb d_Mo_comparable_427 (by decide) ?_
                                refine lv_iload_n hx hb d_Mo_comparable_441 rfl (lv_at hl 0 rfl) ?_
                                refine lv_if_ge (tgt := 447) hx hb d_Mo_comparable_442 (by decide) (fun _ => ?_) (fun h => absurd (nI_pos' (by omega)) h)
                                refine lv_aload_n hx hb d_Mo_comparable_447 rfl (lv_at hl 4 rfl) ?_
                                refine lv_iload_n hx hb d_Mo_comparable_448 rfl (lv_at hl 2 rfl) ?_
                                refine lv_iconst (v := 2) hx hb d_Mo_comparable_449 (by decide) ?_
                                refine lv_iload_n hx hb d_Mo_comparable_450 rfl (lv_at hl 0 rfl) ?_
                                refine W.eq (g2 := F0 m 451 ls [.int (nI Q1.R), .int (nI 2), .int (nI Q.R), .ref mo]) rfl ?_
                                have hPc := hP.sub (ws' := [(mo, .inr (13, MF 30 (rf (rs v Q2 (o + 1)) j2 b2))), (Q2.qq, .inl (cI, (8 * Q2.C), .inl Q2.qf))]) [0, 2] rfl
                                have hDc := hD.sub (ws' := [(mo, .inr (13, MF 30 (rf (rs v Q2 (o + 1)) j2 b2))), (Q2.qq, .inl (cI, (8 * Q2.C), .inl Q2.qf))]) [0, 2] (by decide) rfl
                                have hKc := hK.sub (tys' := [(cI, .int)]) [1] rfl
                                have hFc := va_free (wc := [(mo, .inr (13, MF 30 (rf (rs v Q2 (o + 1)) j2 b2))), (Q2.qq, .inl (cI, (8 * Q2.C), .inl Q2.qf))]) hD hS hA [0, 2] rfl
                                refine va_callv (va_runV (As := [.int (nI Q.R), .int (nI 2), .int (nI Q1.R)]) (rest := []) ⟨hx, hb, hml, hown, hts⟩ (c_Mo_set l dC dI mo H (rf (rs v Q2 (o + 1)) j2 b2) cI Q2.qq (8 * Q2.C) Q2.qf Q.R 2 ((nI Q1.R)) (by omega) (by omega) ((rf_ne (by decide) (by decide)).trans rs_19)) (cwV 3 hts (gt_V (own := R_Mo) (C := R_Mo) (i := 272) (y := y_Mo_set) i_Mo_set w_1411 w_1413 (gt_sel (y := y_Mo_set) (n := 30) (by decide +kernel)) w_7) rfl rfl rfl (by decide +kernel) ⟨Nat.le_trans (m := 11) (Nat.le_of_ble_eq_true rfl) (Nat.le_add_right 11 (15 + G)), Nat.le_trans (m := 400) (Nat.le_of_ble_eq_true rfl) (Nat.le_add_right 400 (600 + M))⟩) ⟨mp_blind, va_recv hKc hPc (ci := 13) (q0 := 0) rfl rfl, fun U hU hW => ⟨rfl, hU, by rw [hU]; exact hPc, va_K.moved hW.alike hKc, hDc.weaken (fun _ _ _ _ => trivial)⟩⟩ rfl rfl hl.1 rfl (lv_room (Nat.le_of_ble_eq_true rfl)) d_Mo_comparable_451 ⟨hfit_Q2V2.1, hfit_Q2V2.2⟩) hS (fun q _ h => hFc q h) hFc (fun _u t9 H1 locs ht hvm hw hB hz1 hk1 hS => ?_)
                                obtain ⟨hP1, hK1, hD1⟩ := hB
                                rw [ht] at hP1
                                obtain ⟨hP, hD⟩ := va_join (wr := [(qx, .inl (cB, NN, .inl f)), (Q2.qe, .inl (cL, (3 * Q2.C), .inr (.inl Q2.ef))), (tv, .inr (12, MF 13 (tw V2))), (V2.au, .inl (cC, V2.U, .inl V2.un))]) (w1 := [(mo, .inr (13, MF 30 (rf (rs v Q2 (o + 1)) j2 b2))), (Q2.qq, .inl (cI, (8 * Q2.C), .inl (upd Q2.qf (8 * Q.R + 2) ((nI Q1.R)))))]) hP hD [0, 2] [1, 3, 4, 5] rfl rfl (by decide) (by decide) hk1 hFc hP1 hD1
                                generalize H1 = H at hP hS ⊢
                                have hP : va_P (dC, dI) classes [(qx, .inl (cB, NN, .inl f)), (Q2.qe, .inl (cL, (3 * Q2.C), .inr (.inl Q2.ef))), (tv, .inr (12, MF 13 (tw V2))), (V2.au, .inl (cC, V2.U, .inl V2.un)), (mo, .inr (13, MF 30 (rf (rs v Q2 (o + 1)) j2 b2))), (Q2.qq, .inl (cI, (8 * Q2.C), .inl (upd Q2.qf (8 * Q.R + 2) ((nI Q1.R)))))] H := hP
                                have hD : va_D A [(qx, .inl (cB, NN, .inl f)), (Q2.qe, .inl (cL, (3 * Q2.C), .inr (.inl Q2.ef))), (tv, .inr (12, MF 13 (tw V2))), (V2.au, .inl (cC, V2.U, .inl V2.un)), (mo, .inr (13, MF 30 (rf (rs v Q2 (o + 1)) j2 b2))), (Q2.qq, .inl (cI, (8 * Q2.C), .inl (upd Q2.qf (8 * Q.R + 2) ((nI Q1.R)))))] := hD
                                have hP := hP.sub (ws' := [(mo, .inr (13, MF 30 (rf (rs v Q2 (o + 1)) j2 b2))), (qx, .inl (cB, NN, .inl f)), (Q2.qq, .inl (cI, (8 * Q2.C), .inl (upd Q2.qf (8 * Q.R + 2) ((nI Q1.R))))), (Q2.qe, .inl (cL, (3 * Q2.C), .inr (.inl Q2.ef))), (tv, .inr (12, MF 13 (tw V2))), (V2.au, .inl (cC, V2.U, .inl V2.un))]) [4, 0, 5, 1, 2, 3] rfl
                                have hD := hD.sub (ws' := [(mo, .inr (13, MF 30 (rf (rs v Q2 (o + 1)) j2 b2))), (qx, .inl (cB, NN, .inl f)), (Q2.qq, .inl (cI, (8 * Q2.C), .inl (upd Q2.qf (8 * Q.R + 2) ((nI Q1.R))))), (Q2.qe, .inl (cL, (3 * Q2.C), .inr (.inl Q2.ef))), (tv, .inr (12, MF 13 (tw V2))), (V2.au, .inl (cC, V2.U, .inl V2.un))]) [4, 0, 5, 1, 2, 3] (by decide) rfl
                                obtain ⟨Q3, e_Q3⟩ : ∃ z : QS, z = QS.wf Q2 (upd Q2.qf (8 * Q.R + 2) ((nI Q1.R))) := ⟨_, rfl⟩
                                have hP : va_P (dC, dI) classes [(mo, .inr (13, MF 30 (rf (rs v Q3 (o + 1)) j2 b2))), (qx, .inl (cB, NN, .inl f)), (Q3.qq, .inl (cI, (8 * Q3.C), .inl Q3.qf)), (Q3.qe, .inl (cL, (3 * Q3.C), .inr (.inl Q3.ef))), (tv, .inr (12, MF 13 (tw V2))), (V2.au, .inl (cC, V2.U, .inl V2.un))] H := by subst e_Q3; exact hP
                                have hD : va_D A [(mo, .inr (13, MF 30 (rf (rs v Q3 (o + 1)) j2 b2))), (qx, .inl (cB, NN, .inl f)), (Q3.qq, .inl (cI, (8 * Q3.C), .inl Q3.qf)), (Q3.qe, .inl (cL, (3 * Q3.C), .inr (.inl Q3.ef))), (tv, .inr (12, MF 13 (tw V2))), (V2.au, .inl (cC, V2.U, .inl V2.un))] := by subst e_Q3; exact hD
                                have hf_Q3 : Q3.C = Q2.C ∧ Q3.R = Q2.R ∧ Q3.qf = upd Q2.qf (8 * Q.R + 2) ((nI Q1.R)) := by rw [e_Q3]; exact ⟨rfl, rfl, rfl⟩
                                have he_Q3 : Q3.ef = Q2.ef := by rw [e_Q3]; rfl
                                have hQk_Q3 : QOK Q3 := by rw [e_Q3]; exact hQk_Q2
                                have hG_Q3V2 : GQ (Q.R + 8 * (n - i) + 1) (V.us + (n + 12 - i)) Q V Q3 V2 := by unfold GQ at hG_Q2V2 ⊢; rw [hf_Q3.1]; exact hG_Q2V2
                                refine w_same (fun hq => ?_)
                                refine w_tight (k := cQ Q V Q3 V2) (n := sQ Q V Q3 V2) (by unfold cQ sQ at hq ⊢; rw [hf_Q3.1]; exact hq) ?_
                                have hR_Q3 := hf_Q3.2.1
                                have hqb_Q3V2 : Q3.R ≤ Q3.C ∧ Q3.C ≤ 100000 := ⟨hQk_Q3.2.2.1, hQk_Q3.2.1⟩
                                have hfit_Q3V2 := hG_Q3V2.fits
                                have hk0_Q3 : Q3.qf (8 * Q.R + 0) = 47 := by rw [hf_Q3.2.2, pk_un (by omega)]; exact hk0_Q2
                                have hl1_Q3 : Q3.qf (8 * Q.R + 1) = -1 := by rw [hf_Q3.2.2, pk_un (by omega)]; exact hl1_Q2
                                have hEx_Q3V2 : alr Q V Q3 V2 0 Q.R := hEx_Q2V2.tr (alr.upd hf_Q3.2.2 he_Q3 (by decide) (by omega))
                                refine lv_aload_n hx hb d_Mo_comparable_454 rfl (lv_at hl 4 rfl) ?_
                                have hPc := hP.sub (ws' := [(mo, .inr (13, MF 30 (rf (rs v Q3 (o + 1)) j2 b2))), (qx, .inl (cB, NN, .inl f))]) [0, 1] rfl
                                have hDc := hD.sub (ws' := [(mo, .inr (13, MF 30 (rf (rs v Q3 (o + 1)) j2 b2))), (qx, .inl (cB, NN, .inl f))]) [0, 1] (by decide) rfl
                                have hKc := hK.sub (tys' := [(cB, .byte)]) [0] rfl
                                have hFc := va_free (wc := [(mo, .inr (13, MF 30 (rf (rs v Q3 (o + 1)) j2 b2))), (qx, .inl (cB, NN, .inl f))]) hD hS hA [0, 1] rfl
                                refine va_callv (va_runV (As := []) (rest := []) ⟨hx, hb, hml, hown, hts⟩ (c_Mo_blanks l dC dI mo H (rf (rs v Q3 (o + 1)) j2 b2) cB qx NN f n j2 (by omega) (by omega) (by omega) ((rf_ne (by decide) (by decide)).trans ((rs_ne (by decide) (by decide) (by decide) (by decide)).trans h6)) rf_7 ((rf_ne (by decide) (by decide)).trans ((rs_ne (by decide) (by decide) (by decide) (by decide)).trans h8))) (cwV 0 hts (gt_V (own := R_Mo) (C := R_Mo) (i := 184) (y := y_Mo_blanks) i_Mo_blanks w_1229 w_1231 (gt_sel (y := y_Mo_blanks) (n := 30) (by decide +kernel)) w_7) rfl rfl rfl (by decide +kernel) ⟨Nat.le_trans (m := 11) (Nat.le_of_ble_eq_true rfl) (Nat.le_add_right 11 (15 + G)), Nat.le_trans (m := 400) (Nat.le_of_ble_eq_true rfl) (Nat.le_add_right 400 (600 + M))⟩) ⟨mp_blind, va_recv hKc hPc (ci := 13) (q0 := 0) rfl rfl, fun U hU hW => ⟨rfl, hU, by rw [hU]; exact hPc, va_K.moved hW.alike hKc, hDc.weaken (fun _ _ _ _ => trivial)⟩⟩ rfl rfl hl.1 rfl (lv_room (Nat.le_of_ble_eq_true rfl)) d_Mo_comparable_455 ⟨hfit_Q3V2.1, hfit_Q3V2.2⟩) hS (fun q _ h => hFc q h) hFc (fun _u t9 H1 locs ht hvm hw hB hz1 hk1 hS => ?_)
                                obtain ⟨hP1, hK1, hD1⟩ := hB
                                rw [ht] at hP1
                                obtain ⟨hP, hD⟩ := va_join (wr := [(Q3.qq, .inl (cI, (8 * Q3.C), .inl Q3.qf)), (Q3.qe, .inl (cL, (3 * Q3.C), .inr (.inl Q3.ef))), (tv, .inr (12, MF 13 (tw V2))), (V2.au, .inl (cC, V2.U, .inl V2.un))]) (w1 := [(mo, .inr (13, MF 30 (va_up (rf (rs v Q3 (o + 1)) j2 b2) 7 (.int (nI (skipH f n j2)))))), (qx, .inl (cB, NN, .inl f))]) hP hD [0, 1] [2, 3, 4, 5] rfl rfl (by decide) (by decide) hk1 hFc hP1 hD1
                                generalize H1 = H at hP hS ⊢
                                have hP : va_P (dC, dI) classes [(Q3.qq, .inl (cI, (8 * Q3.C), .inl Q3.qf)), (Q3.qe, .inl (cL, (3 * Q3.C), .inr (.inl Q3.ef))), (tv, .inr (12, MF 13 (tw V2))), (V2.au, .inl (cC, V2.U, .inl V2.un)), (mo, .inr (13, MF 30 (va_up (rf (rs v Q3 (o + 1)) j2 b2) 7 (.int (nI (skipH f n j2)))))), (qx, .inl (cB, NN, .inl f))] H := hP
                                have hD : va_D A [(Q3.qq, .inl (cI, (8 * Q3.C), .inl Q3.qf)), (Q3.qe, .inl (cL, (3 * Q3.C), .inr (.inl Q3.ef))), (tv, .inr (12, MF 13 (tw V2))), (V2.au, .inl (cC, V2.U, .inl V2.un)), (mo, .inr (13, MF 30 (va_up (rf (rs v Q3 (o + 1)) j2 b2) 7 (.int (nI (skipH f n j2)))))), (qx, .inl (cB, NN, .inl f))] := hD
                                have hP := hP.sub (ws' := [(mo, .inr (13, MF 30 (va_up (rf (rs v Q3 (o + 1)) j2 b2) 7 (.int (nI (skipH f n j2)))))), (qx, .inl (cB, NN, .inl f)), (Q3.qq, .inl (cI, (8 * Q3.C), .inl Q3.qf)), (Q3.qe, .inl (cL, (3 * Q3.C), .inr (.inl Q3.ef))), (tv, .inr (12, MF 13 (tw V2))), (V2.au, .inl (cC, V2.U, .inl V2.un))]) [4, 5, 0, 1, 2, 3] rfl
                                have hD := hD.sub (ws' := [(mo, .inr (13, MF 30 (va_up (rf (rs v Q3 (o + 1)) j2 b2) 7 (.int (nI (skipH f n j2)))))), (qx, .inl (cB, NN, .inl f)), (Q3.qq, .inl (cI, (8 * Q3.C), .inl Q3.qf)), (Q3.qe, .inl (cL, (3 * Q3.C), .inr (.inl Q3.ef))), (tv, .inr (12, MF 13 (tw V2))), (V2.au, .inl (cC, V2.U, .inl V2.un))]) [4, 5, 0, 1, 2, 3] (by decide) rfl
                                rw [rf_u7] at hP hD
                                have hP : va_P (dC, dI) classes [(mo, .inr (13, MF 30 (rf (rs v Q3 (o + 1)) (skipH f n j2) b2))), (qx, .inl (cB, NN, .inl f)), (Q3.qq, .inl (cI, (8 * Q3.C), .inl Q3.qf)), (Q3.qe, .inl (cL, (3 * Q3.C), .inr (.inl Q3.ef))), (tv, .inr (12, MF 13 (tw V2))), (V2.au, .inl (cC, V2.U, .inl V2.un))] H := hP
                                have hD : va_D A [(mo, .inr (13, MF 30 (rf (rs v Q3 (o + 1)) (skipH f n j2) b2))), (qx, .inl (cB, NN, .inl f)), (Q3.qq, .inl (cI, (8 * Q3.C), .inl Q3.qf)), (Q3.qe, .inl (cL, (3 * Q3.C), .inr (.inl Q3.ef))), (tv, .inr (12, MF 13 (tw V2))), (V2.au, .inl (cC, V2.U, .inl V2.un))] := hD
                                have hsk_458 := skipH_n (f := f) (show j2 ≤ n by omega)
                                refine lv_aload_n hx hb d_Mo_comparable_458 rfl (lv_at hl 4 rfl) ?_
                                refine lv_bipush (v := 41) hx hb d_Mo_comparable_459 (by decide) ?_
                                have hPc := hP.sub (ws' := [(mo, .inr (13, MF 30 (rf (rs v Q3 (o + 1)) (skipH f n j2) b2))), (qx, .inl (cB, NN, .inl f))]) [0, 1] rfl
                                have hDc := hD.sub (ws' := [(mo, .inr (13, MF 30 (rf (rs v Q3 (o + 1)) (skipH f n j2) b2))), (qx, .inl (cB, NN, .inl f))]) [0, 1] (by decide) rfl
                                have hKc := hK.sub (tys' := [(cB, .byte)]) [0] rfl
                                have hFc := va_free (wc := [(mo, .inr (13, MF 30 (rf (rs v Q3 (o + 1)) (skipH f n j2) b2))), (qx, .inl (cB, NN, .inl f))]) hD hS hA [0, 1] rfl
                                refine va_calli (va_runV (As := [.int 41]) (rest := []) ⟨hx, hb, hml, hown, hts⟩ (c_Mo_shut l dC dI mo H (rf (rs v Q3 (o + 1)) (skipH f n j2) b2) cB qx NN f n (skipH f n j2) (by omega) (by omega) (by omega) ((rf_ne (by decide) (by decide)).trans ((rs_ne (by decide) (by decide) (by decide) (by decide)).trans h6)) rf_7 ((rf_ne (by decide) (by decide)).trans ((rs_ne (by decide) (by decide) (by decide) (by decide)).trans h8)) b2 rf_9 41 o ((rf_ne (by decide) (by decide)).trans rs_23)) (cwV 1 hts (gt_V (own := R_Mo) (C := R_Mo) (i := 297) (y := y_Mo_shut) i_Mo_shut w_1447 w_1449 (gt_sel (y := y_Mo_shut) (n := 30) (by decide +kernel)) w_7) rfl rfl rfl (by decide +kernel) ⟨Nat.le_trans (m := 11) (Nat.le_of_ble_eq_true rfl) (Nat.le_add_right 11 (15 + G)), Nat.le_trans (m := 400) (Nat.le_of_ble_eq_true rfl) (Nat.le_add_right 400 (600 + M))⟩) ⟨mp_blind, va_recv hKc hPc (ci := 13) (q0 := 0) rfl rfl, fun U hU hW => ⟨rfl, hU, by rw [hU]; exact hPc, va_K.moved hW.alike hKc, hDc.weaken (fun _ _ _ _ => trivial)⟩⟩ rfl rfl hl.1 rfl (lv_room (Nat.le_of_ble_eq_true rfl)) d_Mo_comparable_461 ⟨hfit_Q3V2.1, hfit_Q3V2.2⟩) hS (fun q _ h => hFc q h) hFc (fun r0 u2 t9 H1 locs ht hvm hw hB hz1 hk1 hS => ?_)
                                obtain ⟨hP1, hK1, hD1⟩ := hB
                                rw [ht] at hP1
                                obtain ⟨hP, hD⟩ := va_join (wr := [(Q3.qq, .inl (cI, (8 * Q3.C), .inl Q3.qf)), (Q3.qe, .inl (cL, (3 * Q3.C), .inr (.inl Q3.ef))), (tv, .inr (12, MF 13 (tw V2))), (V2.au, .inl (cC, V2.U, .inl V2.un))]) (w1 := [(mo, .inr (13, MF 30 u2)), (qx, .inl (cB, NN, .inl f))]) hP hD [0, 1] [2, 3, 4, 5] rfl rfl (by decide) (by decide) hk1 hFc hP1 hD1
                                generalize H1 = H at hP hS ⊢
                                have hP : va_P (dC, dI) classes [(Q3.qq, .inl (cI, (8 * Q3.C), .inl Q3.qf)), (Q3.qe, .inl (cL, (3 * Q3.C), .inr (.inl Q3.ef))), (tv, .inr (12, MF 13 (tw V2))), (V2.au, .inl (cC, V2.U, .inl V2.un)), (mo, .inr (13, MF 30 u2)), (qx, .inl (cB, NN, .inl f))] H := hP
                                have hD : va_D A [(Q3.qq, .inl (cI, (8 * Q3.C), .inl Q3.qf)), (Q3.qe, .inl (cL, (3 * Q3.C), .inr (.inl Q3.ef))), (tv, .inr (12, MF 13 (tw V2))), (V2.au, .inl (cC, V2.U, .inl V2.un)), (mo, .inr (13, MF 30 u2)), (qx, .inl (cB, NN, .inl f))] := hD
                                have hP := hP.sub (ws' := [(mo, .inr (13, MF 30 u2)), (qx, .inl (cB, NN, .inl f)), (Q3.qq, .inl (cI, (8 * Q3.C), .inl Q3.qf)), (Q3.qe, .inl (cL, (3 * Q3.C), .inr (.inl Q3.ef))), (tv, .inr (12, MF 13 (tw V2))), (V2.au, .inl (cC, V2.U, .inl V2.un))]) [4, 5, 0, 1, 2, 3] rfl
                                have hD := hD.sub (ws' := [(mo, .inr (13, MF 30 u2)), (qx, .inl (cB, NN, .inl f)), (Q3.qq, .inl (cI, (8 * Q3.C), .inl Q3.qf)), (Q3.qe, .inl (cL, (3 * Q3.C), .inr (.inl Q3.ef))), (tv, .inr (12, MF 13 (tw V2))), (V2.au, .inl (cC, V2.U, .inl V2.un))]) [4, 5, 0, 1, 2, 3] (by decide) rfl
                                rcases hw with ⟨hn2, ht2, ht3⟩ | ⟨hn2, ht2, ht3⟩
                                · rw [rf_u7, rs_o] at ht3
                                  rw [ht3] at hP hD
                                  subst ht2
                                  have hP : va_P (dC, dI) classes [(mo, .inr (13, MF 30 (rf (rs v Q3 o) ((skipH f n j2) + 1) b2))), (qx, .inl (cB, NN, .inl f)), (Q3.qq, .inl (cI, (8 * Q3.C), .inl Q3.qf)), (Q3.qe, .inl (cL, (3 * Q3.C), .inr (.inl Q3.ef))), (tv, .inr (12, MF 13 (tw V2))), (V2.au, .inl (cC, V2.U, .inl V2.un))] H := hP
                                  have hD : va_D A [(mo, .inr (13, MF 30 (rf (rs v Q3 o) ((skipH f n j2) + 1) b2))), (qx, .inl (cB, NN, .inl f)), (Q3.qq, .inl (cI, (8 * Q3.C), .inl Q3.qf)), (Q3.qe, .inl (cL, (3 * Q3.C), .inr (.inl Q3.ef))), (tv, .inr (12, MF 13 (tw V2))), (V2.au, .inl (cC, V2.U, .inl V2.un))] := hD
                                  refine lv_if_eq (tgt := 471) hx hb d_Mo_comparable_464 (by decide) (fun h => absurd h (by decide)) (fun _ => ?_)
                                  refine lv_iload_n hx hb d_Mo_comparable_467 rfl (lv_at hl 2 rfl) ?_
                                  refine lv_goto (tgt := 472) hx hb d_Mo_comparable_468 (by decide) ?_
                                  have hlt41 := here_in hn2 (by decide)
                                  have hfin : cmP f n ok (orL f n) (cmL f n) (qyL f n) i = some (((skipH f n j2) + 1), cntO g9) := by rw [hcm]; exact fnT_s hen hfA hn2
                                  have hW : Wth Y Q3 V2 Q.R Q3.R Q.R Q1.R g9 := Wth_up hYf hv_3 (by omega) (by omega) (by omega) (alr.upd hf_Q3.2.2 he_Q3 (by decide) (by omega))
                                  have hCF : CMPf O C Y Q3 V2 Q.R Q3.R Q.R (cntO g9) := ⟨by omega, by omega, Or.inr (Or.inr (Or.inr (Or.inr (Or.inr (Or.inr (Or.inr (Or.inl ⟨hk0_Q3, Q1.R, g9, by rw [hf_Q3.2.2]; exact pk_us, hW, rfl⟩)))))))⟩
                                  refine w_same (fun hq => ?_)
                                  refine W.widen (k := kcap Q (Q.R + 8 * (n - i) + 1) + qcap V (V.us + (n + 12 - i))) (n := 22 * kcap Q (Q.R + 8 * (n - i) + 1) + 2 * qcap V (V.us + (n + 12 - i))) hfit_Q3V2.1 hfit_Q3V2.2 ?_
                                  have hPo : QPo n i 1 Q V (Q3, V2, ((skipH f n j2) + 1), b2, o) := ⟨hQk_Q3, hG_Q3V2, ⟨_, hX_V2, by omega⟩, by show Q.R ≤ Q3.R; omega, by show Q3.R ≤ Q.R + 8 * (n - i) + 1; omega⟩
                                  exact W.iret (v := nI Q.R) hx hb hr (fun t9 ht hW => ⟨⟨nI Q.R, (Q3, V2, ((skipH f n j2) + 1), b2, o), rfl, ⟨hPo, Or.inl ⟨Q.R, cntO g9, rfl, hfin, hCF, by show Q.R < Q3.R; omega, hEx_Q3V2, by show Q3.R + 8 * i + 6 ≤ Q.R + 8 * ((skipH f n j2) + 1); omega, by show V2.us + i ≤ V.us + ((skipH f n j2) + 1); omega, by show ((skipH f n j2) + 1) ≤ n; omega, by show Q.R < Q3.R; omega, rfl⟩⟩, ⟨by rw [ht]; exact hP, va_K.moved hW.alike hK, hD⟩, by rw [ht]; exact hq⟩, hS.F ht⟩) hS.2.2 d_Mo_comparable_472
                                · obtain ⟨b6, h_b6⟩ := rf_fail (v := (rs v Q3 (o + 1))) (i := (skipH f n j2)) (br := b2) (b2 := b2) (wh := nI (skipH f n j2))
                                  rw [h_b6] at ht3
                                  rw [ht3] at hP hD
                                  subst ht2
                                  have hP : va_P (dC, dI) classes [(mo, .inr (13, MF 30 (rf (rs v Q3 (o + 1)) (skipH f n j2) b6))), (qx, .inl (cB, NN, .inl f)), (Q3.qq, .inl (cI, (8 * Q3.C), .inl Q3.qf)), (Q3.qe, .inl (cL, (3 * Q3.C), .inr (.inl Q3.ef))), (tv, .inr (12, MF 13 (tw V2))), (V2.au, .inl (cC, V2.U, .inl V2.un))] H := hP
                                  have hD : va_D A [(mo, .inr (13, MF 30 (rf (rs v Q3 (o + 1)) (skipH f n j2) b6))), (qx, .inl (cB, NN, .inl f)), (Q3.qq, .inl (cI, (8 * Q3.C), .inl Q3.qf)), (Q3.qe, .inl (cL, (3 * Q3.C), .inr (.inl Q3.ef))), (tv, .inr (12, MF 13 (tw V2))), (V2.au, .inl (cC, V2.U, .inl V2.un))] := hD
                                  refine lv_if_eq (tgt := 471) hx hb d_Mo_comparable_464 (by decide) (fun _ => ?_) (fun h => absurd (by decide) h)
                                  refine lv_iconst (v := (-1)) hx hb d_Mo_comparable_471 (by decide) ?_
                                  have hfin : cmP f n ok (orL f n) (cmL f n) (qyL f n) i = none := by rw [hcm]; exact fnT_e hen hfA hn2
                                  refine w_same (fun hq => ?_)
                                  refine W.widen (k := kcap Q (Q.R + 8 * (n - i) + 1) + qcap V (V.us + (n + 12 - i))) (n := 22 * kcap Q (Q.R + 8 * (n - i) + 1) + 2 * qcap V (V.us + (n + 12 - i))) hfit_Q3V2.1 hfit_Q3V2.2 ?_
                                  have hPo : QPo n i 1 Q V (Q3, V2, (skipH f n j2), b6, (o + 1)) := ⟨hQk_Q3, hG_Q3V2, ⟨_, hX_V2, by omega⟩, by show Q.R ≤ Q3.R; omega, by show Q3.R ≤ Q.R + 8 * (n - i) + 1; omega⟩
                                  exact W.iret (v := -1) hx hb hr (fun t9 ht hW => ⟨⟨-1, (Q3, V2, (skipH f n j2), b6, (o + 1)), rfl, ⟨hPo, Or.inr ⟨rfl, hfin⟩⟩, ⟨by rw [ht]; exact hP, va_K.moved hW.alike hK, hD⟩, by rw [ht]; exact hq⟩, hS.F ht⟩) hS.2.2 d_Mo_comparable_472
                              · have hv_2 : qyL f n (decide (hereV f n (skipH f n ((i + 5) + 1)) = 36)) ((skipH f n ((i + 5) + 1)) + 1) = none := by rw [hrtb]; exact hv_2
                                have hfA : fnA f n (cmL f n) (qyL f n) i (skipH f n ((i + 5) + 1)) = none := fnA_q0 (by rw [hfx]; decide) hbeg hv_2
                                subst hv_1
                                refine lv_istore_n (lv' := [(3, .int (-1)), (4, .int 0), (2, .int (nI Q.R)), (1, .int r1), (0, .ref mo)]) hx hb d_Mo_comparable_426 rfl hl (by decide) rfl (fun ls hl => ?_)
                                refine lv_goto (tgt := 441) hx hb d_Mo_comparable_427 (by decide) ?_
                                refine lv_iload_n hx hb d_Mo_comparable_441 rfl (lv_at hl 0 rfl) ?_
                                refine lv_if_ge (tgt := 447) hx hb d_Mo_comparable_442 (by decide) (fun h => absurd h (by decide)) (fun _ => ?_)
                                refine lv_iconst (v := (-1)) hx hb d_Mo_comparable_445 (by decide) ?_
                                have hfin : cmP f n ok (orL f n) (cmL f n) (qyL f n) i = none := by rw [hcm]; exact fnT_a hen hfA
                                refine w_same (fun hq => ?_)
                                refine W.widen (k := kcap Q (Q.R + 8 * (n - i) + 1) + qcap V (V.us + (n + 12 - i))) (n := 22 * kcap Q (Q.R + 8 * (n - i) + 1) + 2 * qcap V (V.us + (n + 12 - i))) hfit_Q2V2.1 hfit_Q2V2.2 ?_
                                have hPo : QPo n i 1 Q V (Q2, V2, j2, b2, o2) := ⟨hQk_Q2, hG_Q2V2, ⟨_, hX_V2, by omega⟩, by show Q.R ≤ Q2.R; omega, by show Q2.R ≤ Q.R + 8 * (n - i) + 1; omega⟩
                                exact W.iret (v := -1) hx hb hr (fun t9 ht hW => ⟨⟨-1, (Q2, V2, j2, b2, o2), rfl, ⟨hPo, Or.inr ⟨rfl, hfin⟩⟩, ⟨by rw [ht]; exact hP, va_K.moved hW.alike hK, hD⟩, by rw [ht]; exact hq⟩, hS.F ht⟩) hS.2.2 d_Mo_comparable_446
                            · refine lv_aload_n hx hb d_Mo_comparable_384 rfl (lv_at hl 2 rfl) ?_
                              have hPc := hP.sub (ws' := [(mo, .inr (13, MF 30 (rf (rs v Q1 (o + 1)) (skipH f n ((i + 5) + 1)) br))), (qx, .inl (cB, NN, .inl f))]) [0, 1] rfl
                              have hDc := hD.sub (ws' := [(mo, .inr (13, MF 30 (rf (rs v Q1 (o + 1)) (skipH f n ((i + 5) + 1)) br))), (qx, .inl (cB, NN, .inl f))]) [0, 1] (by decide) rfl
                              have hKc := hK.sub (tys' := [(cB, .byte)]) [0] rfl
                              have hFc := va_free (wc := [(mo, .inr (13, MF 30 (rf (rs v Q1 (o + 1)) (skipH f n ((i + 5) + 1)) br))), (qx, .inl (cB, NN, .inl f))]) hD hS hA [0, 1] rfl
                              refine va_calli (va_runV (As := []) (rest := []) ⟨hx, hb, hml, hown, hts⟩ (c_Mo_c l dC dI mo H (rf (rs v Q1 (o + 1)) (skipH f n ((i + 5) + 1)) br) cB qx NN f n (skipH f n ((i + 5) + 1)) (by omega) (by omega) (by omega) ((rf_ne (by decide) (by decide)).trans ((rs_ne (by decide) (by decide) (by decide) (by decide)).trans h6)) rf_7 ((rf_ne (by decide) (by decide)).trans ((rs_ne (by decide) (by decide) (by decide) (by decide)).trans h8))) (cwV 0 hts (gt_V (own := R_Mo) (C := R_Mo) (i := 147) (y := y_Mo_c) i_Mo_c w_1233 w_1235 (gt_sel (y := y_Mo_c) (n := 30) (by decide +kernel)) w_7) rfl rfl rfl (by decide +kernel) ⟨Nat.le_trans (m := 11) (Nat.le_of_ble_eq_true rfl) (Nat.le_add_right 11 (15 + G)), Nat.le_trans (m := 400) (Nat.le_of_ble_eq_true rfl) (Nat.le_add_right 400 (600 + M))⟩) ⟨mp_blind, va_recv hKc hPc (ci := 13) (q0 := 0) rfl rfl, fun U hU hW => ⟨rfl, hU, by rw [hU]; exact hPc, va_K.moved hW.alike hKc, hDc.weaken (fun _ _ _ _ => trivial)⟩⟩ rfl rfl hl.1 rfl (lv_room (Nat.le_of_ble_eq_true rfl)) d_Mo_comparable_385 ⟨hfit_Q1V.1, hfit_Q1V.2⟩) hS (fun q _ h => hFc q h) hFc (fun r7 _u t9 H1 locs ht hvm hw hB hz1 hk1 hS => ?_)
                              obtain ⟨hP1, hK1, hD1⟩ := hB
                              rw [ht] at hP1
                              obtain ⟨hP, hD⟩ := va_join (wr := [(Q1.qq, .inl (cI, (8 * Q1.C), .inl Q1.qf)), (Q1.qe, .inl (cL, (3 * Q1.C), .inr (.inl Q1.ef))), (tv, .inr (12, MF 13 (tw V))), (V.au, .inl (cC, V.U, .inl V.un))]) (w1 := [(mo, .inr (13, MF 30 (rf (rs v Q1 (o + 1)) (skipH f n ((i + 5) + 1)) br))), (qx, .inl (cB, NN, .inl f))]) hP hD [0, 1] [2, 3, 4, 5] rfl rfl (by decide) (by decide) hk1 hFc hP1 hD1
                              generalize H1 = H at hP hS ⊢
                              have hP : va_P (dC, dI) classes [(Q1.qq, .inl (cI, (8 * Q1.C), .inl Q1.qf)), (Q1.qe, .inl (cL, (3 * Q1.C), .inr (.inl Q1.ef))), (tv, .inr (12, MF 13 (tw V))), (V.au, .inl (cC, V.U, .inl V.un)), (mo, .inr (13, MF 30 (rf (rs v Q1 (o + 1)) (skipH f n ((i + 5) + 1)) br))), (qx, .inl (cB, NN, .inl f))] H := hP
                              have hD : va_D A [(Q1.qq, .inl (cI, (8 * Q1.C), .inl Q1.qf)), (Q1.qe, .inl (cL, (3 * Q1.C), .inr (.inl Q1.ef))), (tv, .inr (12, MF 13 (tw V))), (V.au, .inl (cC, V.U, .inl V.un)), (mo, .inr (13, MF 30 (rf (rs v Q1 (o + 1)) (skipH f n ((i + 5) + 1)) br))), (qx, .inl (cB, NN, .inl f))] := hD
                              have hP := hP.sub (ws' := [(mo, .inr (13, MF 30 (rf (rs v Q1 (o + 1)) (skipH f n ((i + 5) + 1)) br))), (qx, .inl (cB, NN, .inl f)), (Q1.qq, .inl (cI, (8 * Q1.C), .inl Q1.qf)), (Q1.qe, .inl (cL, (3 * Q1.C), .inr (.inl Q1.ef))), (tv, .inr (12, MF 13 (tw V))), (V.au, .inl (cC, V.U, .inl V.un))]) [4, 5, 0, 1, 2, 3] rfl
                              have hD := hD.sub (ws' := [(mo, .inr (13, MF 30 (rf (rs v Q1 (o + 1)) (skipH f n ((i + 5) + 1)) br))), (qx, .inl (cB, NN, .inl f)), (Q1.qq, .inl (cI, (8 * Q1.C), .inl Q1.qf)), (Q1.qe, .inl (cL, (3 * Q1.C), .inr (.inl Q1.ef))), (tv, .inr (12, MF 13 (tw V))), (V.au, .inl (cC, V.U, .inl V.un))]) [4, 5, 0, 1, 2, 3] (by decide) rfl
                              have h_r7 : r7 = hereV f n (skipH f n ((i + 5) + 1)) := hw
                              refine lv_bipush (v := 36) hx hb d_Mo_comparable_388 (by decide) ?_
                              refine lv_icmp_ne (tgt := 430) hx hb d_Mo_comparable_390 (by decide) (fun c390 => ?_) (fun c390 => ?_)
                              · refine lv_aload_n hx hb d_Mo_comparable_430 rfl (lv_at hl 2 rfl) ?_
                                refine lv_aload_n hx hb d_Mo_comparable_431 rfl (lv_at hl 2 rfl) ?_
                                refine va_get (D := (dC, dI)) (ci := 13) (v := .int (nI (skipH f n ((i + 5) + 1)))) (C := R_Mo) (T := F_Mo) (N := 30) hx hb hts in_Mo hown hK hP 0 rfl rfl 7 (by decide) (hts _ w_1096) (fun _ h9 => h9) (MFg (by decide) rf_7) d_Mo_comparable_432 ?_
                                have hPc := hP.sub (ws' := [(mo, .inr (13, MF 30 (rf (rs v Q1 (o + 1)) (skipH f n ((i + 5) + 1)) br)))]) [0] rfl
                                have hDc := hD.sub (ws' := [(mo, .inr (13, MF 30 (rf (rs v Q1 (o + 1)) (skipH f n ((i + 5) + 1)) br)))]) [0] (by decide) rfl
                                have hKc := hK.sub (tys' := []) [] rfl
                                have hFc := va_free (wc := [(mo, .inr (13, MF 30 (rf (rs v Q1 (o + 1)) (skipH f n ((i + 5) + 1)) br)))]) hD hS hA [0] rfl
                                refine va_calli (va_runV (As := [.int (nI (skipH f n ((i + 5) + 1)))]) (rest := []) ⟨hx, hb, hml, hown, hts⟩ (c_Mo_fail l dC dI mo H (rf (rs v Q1 (o + 1)) (skipH f n ((i + 5) + 1)) br) br ((nI (skipH f n ((i + 5) + 1)))) rf_9) (cwV 1 hts (gt_V (own := R_Mo) (C := R_Mo) (i := 151) (y := y_Mo_fail) i_Mo_fail w_1250 w_1252 (gt_sel (y := y_Mo_fail) (n := 30) (by decide +kernel)) w_7) rfl rfl rfl (by decide +kernel) ⟨Nat.le_trans (m := 11) (Nat.le_of_ble_eq_true rfl) (Nat.le_add_right 11 (15 + G)), Nat.le_trans (m := 400) (Nat.le_of_ble_eq_true rfl) (Nat.le_add_right 400 (600 + M))⟩) ⟨mp_blind, va_recv hKc hPc (ci := 13) (q0 := 0) rfl rfl, fun U hU hW => ⟨rfl, hU, by rw [hU]; exact hPc, va_K.moved hW.alike hKc, hDc.weaken (fun _ _ _ _ => trivial)⟩⟩ rfl rfl hl.1 rfl (lv_room (Nat.le_of_ble_eq_true rfl)) d_Mo_comparable_435 ⟨hfit_Q1V.1, hfit_Q1V.2⟩) hS (fun q _ h => hFc q h) hFc (fun r0 u2 t9 H1 locs ht hvm hw hB hz1 hk1 hS => ?_)
                                obtain ⟨hP1, hK1, hD1⟩ := hB
                                rw [ht] at hP1
                                obtain ⟨hP, hD⟩ := va_join (wr := [(qx, .inl (cB, NN, .inl f)), (Q1.qq, .inl (cI, (8 * Q1.C), .inl Q1.qf)), (Q1.qe, .inl (cL, (3 * Q1.C), .inr (.inl Q1.ef))), (tv, .inr (12, MF 13 (tw V))), (V.au, .inl (cC, V.U, .inl V.un))]) (w1 := [(mo, .inr (13, MF 30 u2))]) hP hD [0] [1, 2, 3, 4, 5] rfl rfl (by decide) (by decide) hk1 hFc hP1 hD1
                                generalize H1 = H at hP hS ⊢
                                have hP : va_P (dC, dI) classes [(qx, .inl (cB, NN, .inl f)), (Q1.qq, .inl (cI, (8 * Q1.C), .inl Q1.qf)), (Q1.qe, .inl (cL, (3 * Q1.C), .inr (.inl Q1.ef))), (tv, .inr (12, MF 13 (tw V))), (V.au, .inl (cC, V.U, .inl V.un)), (mo, .inr (13, MF 30 u2))] H := hP
                                have hD : va_D A [(qx, .inl (cB, NN, .inl f)), (Q1.qq, .inl (cI, (8 * Q1.C), .inl Q1.qf)), (Q1.qe, .inl (cL, (3 * Q1.C), .inr (.inl Q1.ef))), (tv, .inr (12, MF 13 (tw V))), (V.au, .inl (cC, V.U, .inl V.un)), (mo, .inr (13, MF 30 u2))] := hD
                                have hP := hP.sub (ws' := [(mo, .inr (13, MF 30 u2)), (qx, .inl (cB, NN, .inl f)), (Q1.qq, .inl (cI, (8 * Q1.C), .inl Q1.qf)), (Q1.qe, .inl (cL, (3 * Q1.C), .inr (.inl Q1.ef))), (tv, .inr (12, MF 13 (tw V))), (V.au, .inl (cC, V.U, .inl V.un))]) [5, 0, 1, 2, 3, 4] rfl
                                have hD := hD.sub (ws' := [(mo, .inr (13, MF 30 u2)), (qx, .inl (cB, NN, .inl f)), (Q1.qq, .inl (cI, (8 * Q1.C), .inl Q1.qf)), (Q1.qe, .inl (cL, (3 * Q1.C), .inr (.inl Q1.ef))), (tv, .inr (12, MF 13 (tw V))), (V.au, .inl (cC, V.U, .inl V.un))]) [5, 0, 1, 2, 3, 4] (by decide) rfl
                                obtain ⟨b7, h_b7⟩ := rf_fail (v := (rs v Q1 (o + 1))) (i := (skipH f n ((i + 5) + 1))) (br := br) (b2 := br) (wh := (nI (skipH f n ((i + 5) + 1))))
                                have hw : r0 = 0 ∧ u2 = _ := hw
                                obtain ⟨hw1, hw2⟩ := hw
                                rw [h_b7] at hw2
                                rw [hw2] at hP hD
                                subst hw1
                                have hP : va_P (dC, dI) classes [(mo, .inr (13, MF 30 (rf (rs v Q1 (o + 1)) (skipH f n ((i + 5) + 1)) b7))), (qx, .inl (cB, NN, .inl f)), (Q1.qq, .inl (cI, (8 * Q1.C), .inl Q1.qf)), (Q1.qe, .inl (cL, (3 * Q1.C), .inr (.inl Q1.ef))), (tv, .inr (12, MF 13 (tw V))), (V.au, .inl (cC, V.U, .inl V.un))] H := hP
                                have hD : va_D A [(mo, .inr (13, MF 30 (rf (rs v Q1 (o + 1)) (skipH f n ((i + 5) + 1)) b7))), (qx, .inl (cB, NN, .inl f)), (Q1.qq, .inl (cI, (8 * Q1.C), .inl Q1.qf)), (Q1.qe, .inl (cL, (3 * Q1.C), .inr (.inl Q1.ef))), (tv, .inr (12, MF 13 (tw V))), (V.au, .inl (cC, V.U, .inl V.un))] := hD
                                refine lv_pop hx hb d_Mo_comparable_438 rfl ?_
                                refine lv_iconst (v := (-1)) hx hb d_Mo_comparable_439 (by decide) ?_
                                have hfin : cmP f n ok (orL f n) (cmL f n) (qyL f n) i = none := by rw [hcm]; exact fnT_a hen (fnA_b0 (by rw [hfx]; decide) (fun h => h.elim (fun q => c381 (h_r6.trans q)) (fun q => c390 (h_r7.trans q))))
                                refine w_same (fun hq => ?_)
                                refine W.widen (k := kcap Q (Q.R + 8 * (n - i) + 1) + qcap V (V.us + (n + 12 - i))) (n := 22 * kcap Q (Q.R + 8 * (n - i) + 1) + 2 * qcap V (V.us + (n + 12 - i))) hfit_Q1V.1 hfit_Q1V.2 ?_
                                have hPo : QPo n i 1 Q V (Q1, V, (skipH f n ((i + 5) + 1)), b7, (o + 1)) := ⟨hQk_Q1, hG_Q1V, ⟨[], TX.rf hTk_V, Nat.zero_le _⟩, by show Q.R ≤ Q1.R; omega, by show Q1.R ≤ Q.R + 8 * (n - i) + 1; omega⟩
                                exact W.iret (v := -1) hx hb hr (fun t9 ht hW => ⟨⟨-1, (Q1, V, (skipH f n ((i + 5) + 1)), b7, (o + 1)), rfl, ⟨hPo, Or.inr ⟨rfl, hfin⟩⟩, ⟨by rw [ht]; exact hP, va_K.moved hW.alike hK, hD⟩, by rw [ht]; exact hq⟩, hS.F ht⟩) hS.2.2 d_Mo_comparable_440
                              · refine lv_aload_n hx hb d_Mo_comparable_393 rfl (lv_at hl 2 rfl) ?_
                                have hPc := hP.sub (ws' := [(mo, .inr (13, MF 30 (rf (rs v Q1 (o + 1)) (skipH f n ((i + 5) + 1)) br))), (qx, .inl (cB, NN, .inl f))]) [0, 1] rfl
                                have hDc := hD.sub (ws' := [(mo, .inr (13, MF 30 (rf (rs v Q1 (o + 1)) (skipH f n ((i + 5) + 1)) br))), (qx, .inl (cB, NN, .inl f))]) [0, 1] (by decide) rfl
                                have hKc := hK.sub (tys' := [(cB, .byte)]) [0] rfl
                                have hFc := va_free (wc := [(mo, .inr (13, MF 30 (rf (rs v Q1 (o + 1)) (skipH f n ((i + 5) + 1)) br))), (qx, .inl (cB, NN, .inl f))]) hD hS hA [0, 1] rfl
                                refine va_calli (va_runV (As := []) (rest := []) ⟨hx, hb, hml, hown, hts⟩ (c_Mo_c l dC dI mo H (rf (rs v Q1 (o + 1)) (skipH f n ((i + 5) + 1)) br) cB qx NN f n (skipH f n ((i + 5) + 1)) (by omega) (by omega) (by omega) ((rf_ne (by decide) (by decide)).trans ((rs_ne (by decide) (by decide) (by decide) (by decide)).trans h6)) rf_7 ((rf_ne (by decide) (by decide)).trans ((rs_ne (by decide) (by decide) (by decide) (by decide)).trans h8))) (cwV 0 hts (gt_V (own := R_Mo) (C := R_Mo) (i := 147) (y := y_Mo_c) i_Mo_c w_1233 w_1235 (gt_sel (y := y_Mo_c) (n := 30) (by decide +kernel)) w_7) rfl rfl rfl (by decide +kernel) ⟨Nat.le_trans (m := 11) (Nat.le_of_ble_eq_true rfl) (Nat.le_add_right 11 (15 + G)), Nat.le_trans (m := 400) (Nat.le_of_ble_eq_true rfl) (Nat.le_add_right 400 (600 + M))⟩) ⟨mp_blind, va_recv hKc hPc (ci := 13) (q0 := 0) rfl rfl, fun U hU hW => ⟨rfl, hU, by rw [hU]; exact hPc, va_K.moved hW.alike hKc, hDc.weaken (fun _ _ _ _ => trivial)⟩⟩ rfl rfl hl.1 rfl (lv_room (Nat.le_of_ble_eq_true rfl)) d_Mo_comparable_394 ⟨hfit_Q1V.1, hfit_Q1V.2⟩) hS (fun q _ h => hFc q h) hFc (fun r8 _u t9 H1 locs ht hvm hw hB hz1 hk1 hS => ?_)
                                obtain ⟨hP1, hK1, hD1⟩ := hB
                                rw [ht] at hP1
                                obtain ⟨hP, hD⟩ := va_join (wr := [(Q1.qq, .inl (cI, (8 * Q1.C), .inl Q1.qf)), (Q1.qe, .inl (cL, (3 * Q1.C), .inr (.inl Q1.ef))), (tv, .inr (12, MF 13 (tw V))), (V.au, .inl (cC, V.U, .inl V.un))]) (w1 := [(mo, .inr (13, MF 30 (rf (rs v Q1 (o + 1)) (skipH f n ((i + 5) + 1)) br))), (qx, .inl (cB, NN, .inl f))]) hP hD [0, 1] [2, 3, 4, 5] rfl rfl (by decide) (by decide) hk1 hFc hP1 hD1
                                generalize H1 = H at hP hS ⊢
                                have hP : va_P (dC, dI) classes [(Q1.qq, .inl (cI, (8 * Q1.C), .inl Q1.qf)), (Q1.qe, .inl (cL, (3 * Q1.C), .inr (.inl Q1.ef))), (tv, .inr (12, MF 13 (tw V))), (V.au, .inl (cC, V.U, .inl V.un)), (mo, .inr (13, MF 30 (rf (rs v Q1 (o + 1)) (skipH f n ((i + 5) + 1)) br))), (qx, .inl (cB, NN, .inl f))] H := hP
                                have hD : va_D A [(Q1.qq, .inl (cI, (8 * Q1.C), .inl Q1.qf)), (Q1.qe, .inl (cL, (3 * Q1.C), .inr (.inl Q1.ef))), (tv, .inr (12, MF 13 (tw V))), (V.au, .inl (cC, V.U, .inl V.un)), (mo, .inr (13, MF 30 (rf (rs v Q1 (o + 1)) (skipH f n ((i + 5) + 1)) br))), (qx, .inl (cB, NN, .inl f))] := hD
                                have hP := hP.sub (ws' := [(mo, .inr (13, MF 30 (rf (rs v Q1 (o + 1)) (skipH f n ((i + 5) + 1)) br))), (qx, .inl (cB, NN, .inl f)), (Q1.qq, .inl (cI, (8 * Q1.C), .inl Q1.qf)), (Q1.qe, .inl (cL, (3 * Q1.C), .inr (.inl Q1.ef))), (tv, .inr (12, MF 13 (tw V))), (V.au, .inl (cC, V.U, .inl V.un))]) [4, 5, 0, 1, 2, 3] rfl
                                have hD := hD.sub (ws' := [(mo, .inr (13, MF 30 (rf (rs v Q1 (o + 1)) (skipH f n ((i + 5) + 1)) br))), (qx, .inl (cB, NN, .inl f)), (Q1.qq, .inl (cI, (8 * Q1.C), .inl Q1.qf)), (Q1.qe, .inl (cL, (3 * Q1.C), .inr (.inl Q1.ef))), (tv, .inr (12, MF 13 (tw V))), (V.au, .inl (cC, V.U, .inl V.un))]) [4, 5, 0, 1, 2, 3] (by decide) rfl
                                have h_r8 : r8 = hereV f n (skipH f n ((i + 5) + 1)) := hw
                                refine lv_bipush (v := 36) hx hb d_Mo_comparable_397 (by decide) ?_
                                refine lv_icmp_ne (tgt := 406) hx hb d_Mo_comparable_399 (by decide) (fun h => absurd h (fun q => q (h_r8.trans (h_r7.symm.trans c390)))) (fun _ => ?_)
                                refine lv_iconst (v := 1) hx hb d_Mo_comparable_402 (by decide) ?_
                                refine lv_goto (tgt := 407) hx hb d_Mo_comparable_403 (by decide) ?_
                                refine lv_istore (lv' := [(4, .int 1), (2, .int (nI Q.R)), (1, .int r1), (0, .ref mo)]) hx hb d_Mo_comparable_407 hl (by decide) rfl (fun ls hl => ?_)
                                refine lv_aload_n hx hb d_Mo_comparable_409 rfl (lv_at hl 3 rfl) ?_
                                refine lv_dup hx hb d_Mo_comparable_410 rfl ?_
                                refine va_get (D := (dC, dI)) (ci := 13) (v := .int (nI (skipH f n ((i + 5) + 1)))) (C := R_Mo) (T := F_Mo) (N := 30) hx hb hts in_Mo hown hK hP 0 rfl rfl 7 (by decide) (hts _ w_1096) (fun _ h9 => h9) (MFg (by decide) rf_7) d_Mo_comparable_411 ?_
                                refine lv_iconst (v := 1) hx hb d_Mo_comparable_414 (by decide) ?_
                                refine lv_iadd hx hb d_Mo_comparable_415 ?_
                                have hbeg : begC (hereV f n (skipH f n ((i + 5) + 1))) := Or.inr (h_r7.symm.trans c390)
                                have hltb : (skipH f n ((i + 5) + 1)) < n := hbeg.elim (fun h => here_in h (by decide)) (fun h => here_in h (by decide))
                                have hrtb : decide (hereV f n (skipH f n ((i + 5) + 1)) = 36) = true := decide_eq_true (h_r7.symm.trans c390)
                                refine W.eq (g2 := F0 m 416 ls [.int (nI ((skipH f n ((i + 5) + 1)) + 1)), .ref mo]) (by rw [show ((nI (skipH f n ((i + 5) + 1))) + 1) = (nI ((skipH f n ((i + 5) + 1)) + 1)) from nI_1 _]) ?_
                                refine va_put (D := (dC, dI)) (ci := 13) (v := .int (nI ((skipH f n ((i + 5) + 1)) + 1))) (ty := .int) (C := R_Mo) (T := F_Mo) (N := 30) hx hb hts in_Mo t_Mo t_Mo_ok n_Mo hown hK hP hD hS 0 rfl rfl 7 (by decide) (hts _ w_1096) (fun _ h9 => h9) rfl (by decide +kernel) rfl rfl (by rw [MFl]; decide) d_Mo_comparable_416 (fun H locs hP hD hS => ?_)
                                rw [MFs (n := 30) (k := 7) (by decide)] at hP hD
                                have hP : va_P (dC, dI) classes [(mo, .inr (13, MF 30 (va_up (rf (rs v Q1 (o + 1)) (skipH f n ((i + 5) + 1)) br) 7 (.int (nI ((skipH f n ((i + 5) + 1)) + 1)))))), (qx, .inl (cB, NN, .inl f)), (Q1.qq, .inl (cI, (8 * Q1.C), .inl Q1.qf)), (Q1.qe, .inl (cL, (3 * Q1.C), .inr (.inl Q1.ef))), (tv, .inr (12, MF 13 (tw V))), (V.au, .inl (cC, V.U, .inl V.un))] H := hP
                                have hD : va_D A [(mo, .inr (13, MF 30 (va_up (rf (rs v Q1 (o + 1)) (skipH f n ((i + 5) + 1)) br) 7 (.int (nI ((skipH f n ((i + 5) + 1)) + 1)))))), (qx, .inl (cB, NN, .inl f)), (Q1.qq, .inl (cI, (8 * Q1.C), .inl Q1.qf)), (Q1.qe, .inl (cL, (3 * Q1.C), .inr (.inl Q1.ef))), (tv, .inr (12, MF 13 (tw V))), (V.au, .inl (cC, V.U, .inl V.un))] := hD
                                rw [rf_u7] at hP hD
                                have hP : va_P (dC, dI) classes [(mo, .inr (13, MF 30 (rf (rs v Q1 (o + 1)) ((skipH f n ((i + 5) + 1)) + 1) br))), (qx, .inl (cB, NN, .inl f)), (Q1.qq, .inl (cI, (8 * Q1.C), .inl Q1.qf)), (Q1.qe, .inl (cL, (3 * Q1.C), .inr (.inl Q1.ef))), (tv, .inr (12, MF 13 (tw V))), (V.au, .inl (cC, V.U, .inl V.un))] H := hP
                                have hD : va_D A [(mo, .inr (13, MF 30 (rf (rs v Q1 (o + 1)) ((skipH f n ((i + 5) + 1)) + 1) br))), (qx, .inl (cB, NN, .inl f)), (Q1.qq, .inl (cI, (8 * Q1.C), .inl Q1.qf)), (Q1.qe, .inl (cL, (3 * Q1.C), .inr (.inl Q1.ef))), (tv, .inr (12, MF 13 (tw V))), (V.au, .inl (cC, V.U, .inl V.un))] := hD
                                refine lv_aload_n hx hb d_Mo_comparable_419 rfl (lv_at hl 3 rfl) ?_
                                refine lv_iload hx hb d_Mo_comparable_420 (lv_at hl 0 rfl) ?_
                                refine lv_iconst (v := 0) hx hb d_Mo_comparable_422 (by decide) ?_
                                have hPc := hP.sub (ws' := [(mo, .inr (13, MF 30 (rf (rs v Q1 (o + 1)) ((skipH f n ((i + 5) + 1)) + 1) br))), (qx, .inl (cB, NN, .inl f)), (Q1.qq, .inl (cI, (8 * Q1.C), .inl Q1.qf)), (Q1.qe, .inl (cL, (3 * Q1.C), .inr (.inl Q1.ef))), (tv, .inr (12, MF 13 (tw V))), (V.au, .inl (cC, V.U, .inl V.un))]) [0, 1, 2, 3, 4, 5] rfl
                                have hDc := hD.sub (ws' := [(mo, .inr (13, MF 30 (rf (rs v Q1 (o + 1)) ((skipH f n ((i + 5) + 1)) + 1) br))), (qx, .inl (cB, NN, .inl f)), (Q1.qq, .inl (cI, (8 * Q1.C), .inl Q1.qf)), (Q1.qe, .inl (cL, (3 * Q1.C), .inr (.inl Q1.ef))), (tv, .inr (12, MF 13 (tw V))), (V.au, .inl (cC, V.U, .inl V.un))]) [0, 1, 2, 3, 4, 5] (by decide) rfl
                                have hKc := hK.sub (tys' := [(cB, .byte), (cI, .int), (cL, .long), (cC, .char)]) [0, 1, 2, 3] rfl
                                have hFc := va_free (wc := [(mo, .inr (13, MF 30 (rf (rs v Q1 (o + 1)) ((skipH f n ((i + 5) + 1)) + 1) br))), (qx, .inl (cB, NN, .inl f)), (Q1.qq, .inl (cI, (8 * Q1.C), .inl Q1.qf)), (Q1.qe, .inl (cL, (3 * Q1.C), .inr (.inl Q1.ef))), (tv, .inr (12, MF 13 (tw V))), (V.au, .inl (cC, V.U, .inl V.un))]) hD hS hA [0, 1, 2, 3, 4, 5] rfl
                                refine w_same (fun hq0 => ?_)
                                refine va_calli (va_runV (As := [.int 1, .int 0]) (rest := []) ⟨hx, hb, hml, hown, hts⟩ (hQY hn1.2 l dC dI mo H v cB cI cL cC qx NN f n K tv Q1 V ((skipH f n ((i + 5) + 1)) + 1) br true 1 (by decide) hnN hNN (by omega) h6 h8 h22 hQk_Q1 hTk_V (by omega) (by omega)) (cwV 2 hts (gt_V (own := R_Mo) (C := R_Mo) (i := 317) (y := y_Mo_queryRest) i_Mo_queryRest w_1403 w_1405 (gt_sel (y := y_Mo_queryRest) (n := 30) (by decide +kernel)) w_7) rfl rfl rfl (by decide +kernel) ⟨by show 10 + G + 1 ≤ 11 + (15 + G); omega, by show 8 + (7 + 11) + (320 + M) ≤ 400 + (600 + M); omega⟩) ⟨me_blind, va_recv hKc hPc (ci := 13) (q0 := 0) rfl rfl, fun U hU hW => ⟨rfl, ⟨hU, by rw [hU]; exact hPc, va_K.moved hW.alike hKc, hDc.weaken (fun _ _ _ _ => trivial)⟩, by rw [hU]; exact ME.call hM hS.2.1 hFc hW⟩⟩ rfl rfl hl.1 rfl (lv_room (Nat.le_of_ble_eq_true rfl)) d_Mo_comparable_423 ⟨(hG_Q1V.step (B2 := Q1.R + 8 * (n - ((skipH f n ((i + 5) + 1)) + 1)) + 9) (C2 := V.us + (n + 12 - ((skipH f n ((i + 5) + 1)) + 1))) (by omega) (by omega)).1, (hG_Q1V.step (B2 := Q1.R + 8 * (n - ((skipH f n ((i + 5) + 1)) + 1)) + 9) (C2 := V.us + (n + 12 - ((skipH f n ((i + 5) + 1)) + 1))) (by omega) (by omega)).2⟩) hS (fun q _ h => hFc q h) hFc (fun r0 ⟨Q2, V2, j2, b2, o2⟩ t9 H1 locs ht hvm hw hB hz1 hk1 hS => ?_)
                                obtain ⟨⟨hP1, hK1, hD1⟩, hz9⟩ := hB
                                rw [ht] at hP1
                                rw [ht] at hz9
                                obtain ⟨⟨hQk_Q2, hGn, hTXs, hR1_Q2, hR2_Q2⟩, hw⟩ := hw
                                have hQk_Q2 : QOK Q2 := hQk_Q2
                                obtain ⟨hG_Q2V2, hGc, hGs⟩ := hG_Q1V.tr hGn (by omega) (by omega)
                                have hR1_Q2 : Q1.R ≤ Q2.R := hR1_Q2
                                have hR2_Q2 : Q2.R ≤ Q1.R + 8 * (n - ((skipH f n ((i + 5) + 1)) + 1)) + 9 := hR2_Q2
                                obtain ⟨us2, hX_V2, hln_V2⟩ := hTXs
                                have hX_V2 : TX V V2 us2 := hX_V2
                                have hXs_V2 := hX_V2.us
                                have hz9 : szk H H1 (cQ Q1 V Q2 V2) (sQ Q1 V Q2 V2) := hz9
                                have hq1 : szk s.heap H1 (cQ Q V Q2 V2) (sQ Q V Q2 V2) := (hq0.trans hz9).mono hGc hGs
                                refine w_tight hq1 ?_
                                obtain ⟨hP, hD⟩ := va_join (wr := []) (w1 := [(mo, .inr (13, MF 30 (rf (rs v Q2 o2) j2 b2))), (qx, .inl (cB, NN, .inl f)), (Q2.qq, .inl (cI, (8 * Q2.C), .inl Q2.qf)), (Q2.qe, .inl (cL, (3 * Q2.C), .inr (.inl Q2.ef))), (tv, .inr (12, MF 13 (tw V2))), (V2.au, .inl (cC, V2.U, .inl V2.un))]) hP hD [0, 1, 2, 3, 4, 5] [] rfl rfl (by decide) (by decide) hk1 hFc hP1 hD1
                                generalize H1 = H at hP hS ⊢
                                have hP : va_P (dC, dI) classes [(mo, .inr (13, MF 30 (rf (rs v Q2 o2) j2 b2))), (qx, .inl (cB, NN, .inl f)), (Q2.qq, .inl (cI, (8 * Q2.C), .inl Q2.qf)), (Q2.qe, .inl (cL, (3 * Q2.C), .inr (.inl Q2.ef))), (tv, .inr (12, MF 13 (tw V2))), (V2.au, .inl (cC, V2.U, .inl V2.un))] H := hP
                                have hD : va_D A [(mo, .inr (13, MF 30 (rf (rs v Q2 o2) j2 b2))), (qx, .inl (cB, NN, .inl f)), (Q2.qq, .inl (cI, (8 * Q2.C), .inl Q2.qf)), (Q2.qe, .inl (cL, (3 * Q2.C), .inr (.inl Q2.ef))), (tv, .inr (12, MF 13 (tw V2))), (V2.au, .inl (cC, V2.U, .inl V2.un))] := hD
                                have hP := hP.sub (ws' := [(mo, .inr (13, MF 30 (rf (rs v Q2 o2) j2 b2))), (qx, .inl (cB, NN, .inl f)), (tv, .inr (12, MF 13 (tw V2))), (Q2.qq, .inl (cI, (8 * Q2.C), .inl Q2.qf)), (Q2.qe, .inl (cL, (3 * Q2.C), .inr (.inl Q2.ef))), (V2.au, .inl (cC, V2.U, .inl V2.un))]) [0, 1, 4, 2, 3, 5] rfl
                                have hD := hD.sub (ws' := [(mo, .inr (13, MF 30 (rf (rs v Q2 o2) j2 b2))), (qx, .inl (cB, NN, .inl f)), (tv, .inr (12, MF 13 (tw V2))), (Q2.qq, .inl (cI, (8 * Q2.C), .inl Q2.qf)), (Q2.qe, .inl (cL, (3 * Q2.C), .inr (.inl Q2.ef))), (V2.au, .inl (cC, V2.U, .inl V2.un))]) [0, 1, 4, 2, 3, 5] (by decide) rfl
                                have hP := hP.sub (ws' := [(mo, .inr (13, MF 30 (rf (rs v Q2 o2) j2 b2))), (qx, .inl (cB, NN, .inl f)), (Q2.qq, .inl (cI, (8 * Q2.C), .inl Q2.qf)), (Q2.qe, .inl (cL, (3 * Q2.C), .inr (.inl Q2.ef))), (tv, .inr (12, MF 13 (tw V2))), (V2.au, .inl (cC, V2.U, .inl V2.un))]) [0, 1, 3, 4, 2, 5] rfl
                                have hD := hD.sub (ws' := [(mo, .inr (13, MF 30 (rf (rs v Q2 o2) j2 b2))), (qx, .inl (cB, NN, .inl f)), (Q2.qq, .inl (cI, (8 * Q2.C), .inl Q2.qf)), (Q2.qe, .inl (cL, (3 * Q2.C), .inr (.inl Q2.ef))), (tv, .inr (12, MF 13 (tw V2))), (V2.au, .inl (cC, V2.U, .inl V2.un))]) [0, 1, 3, 4, 2, 5] (by decide) rfl
                                have hTk_V2 := hX_V2.ok hTk_V (by omega)
                                have hqb_Q2V2 : Q2.R ≤ Q2.C ∧ Q2.C ≤ 100000 := ⟨hQk_Q2.2.2.1, hQk_Q2.2.1⟩
                                have hfit_Q2V2 := hG_Q2V2.fits
                                rcases hw with ⟨fl, g9, hv_1, hv_2, hv_3, hv_5, hv_6, hv_7, hv_8, hv_9, hv_10⟩ | ⟨hv_1, hv_2⟩
                                · have hv_10 : (o + 1) = o2 := hv_10.symm
                                  subst hv_10
                                  have hP : va_P (dC, dI) classes [(mo, .inr (13, MF 30 (rf (rs v Q2 (o + 1)) j2 b2))), (qx, .inl (cB, NN, .inl f)), (Q2.qq, .inl (cI, (8 * Q2.C), .inl Q2.qf)), (Q2.qe, .inl (cL, (3 * Q2.C), .inr (.inl Q2.ef))), (tv, .inr (12, MF 13 (tw V2))), (V2.au, .inl (cC, V2.U, .inl V2.un))] H := hP
                                  have hD : va_D A [(mo, .inr (13, MF 30 (rf (rs v Q2 (o + 1)) j2 b2))), (qx, .inl (cB, NN, .inl f)), (Q2.qq, .inl (cI, (8 * Q2.C), .inl Q2.qf)), (Q2.qe, .inl (cL, (3 * Q2.C), .inr (.inl Q2.ef))), (tv, .inr (12, MF 13 (tw V2))), (V2.au, .inl (cC, V2.U, .inl V2.un))] := hD
                                  have hv_2 : qyL f n (decide (hereV f n (skipH f n ((i + 5) + 1)) = 36)) ((skipH f n ((i + 5) + 1)) + 1) = some (j2, fl, g9) := by rw [hrtb]; exact hv_2
                                  have hv_3 : Y Q2 V2 Q1.R Q2.R Q1.R g9 := hv_3
                                  have hv_5 : alr Q1 V Q2 V2 0 Q1.R := hv_5
                                  have hv_6 : Q2.R + 8 * ((skipH f n ((i + 5) + 1)) + 1) ≤ Q1.R + 8 * j2 + 1 := hv_6
                                  have hv_7 : V2.us + ((skipH f n ((i + 5) + 1)) + 1) ≤ V.us + j2 := hv_7
                                  have hv_8 : j2 ≤ n := hv_8
                                  have hv_9 : Q1.R < Q2.R := hv_9
                                  subst hv_1
                                  have hfA : fnA f n (cmL f n) (qyL f n) i (skipH f n ((i + 5) + 1)) = some (j2, cntO g9) := fnA_c hfx hbeg hv_2
                                  have hk0_Q2 : Q2.qf (8 * Q.R + 0) = 47 := (hv_5.1 _ 0 (Nat.zero_le _) (by omega) (by decide)).trans hk0_Q1
                                  have hl1_Q2 : Q2.qf (8 * Q.R + 1) = -1 := (hv_5.1 _ 1 (Nat.zero_le _) (by omega) (by decide)).trans hl1_Q1
                                  have hEx_Q2V2 : alr Q V Q2 V2 0 Q.R := hEx_Q1V.tr (hv_5.sub (Nat.le_refl _) (by omega))
                                  refine lv_istore_n (lv' := [(3, .int (nI Q1.R)), (4, .int 1), (2, .int (nI Q.R)), (1, .int r1), (0, .ref mo)]) hx hb d_Mo_comparable_426 rfl hl (by decide) rfl (fun ls hl => ?_)
                                  refine lv_goto (tgt := 441) hx hb d_Mo_comparable_427 (by decide) ?_
                                  refine lv_iload_n hx hb d_Mo_comparable_441 rfl (lv_at hl 0 rfl) ?_
                                  refine lv_if_ge (tgt := 447) hx hb d_Mo_comparable_442 (by decide) (fun _ => ?_) (fun h => absurd (nI_pos' (by omega)) h)
                                  refine lv_aload_n hx hb d_Mo_comparable_447 rfl (lv_at hl 4 rfl) ?_
                                  refine lv_iload_n hx hb d_Mo_comparable_448 rfl (lv_at hl 2 rfl) ?_
                                  refine lv_iconst (v := 2) hx hb d_Mo_comparable_449 (by decide) ?_
                                  refine lv_iload_n hx hb d_Mo_comparable_450 rfl (lv_at hl 0 rfl) ?_
                                  refine W.eq (g2 := F0 m 451 ls [.int (nI Q1.R), .int (nI 2), .int (nI Q.R), .ref mo]) rfl ?_
                                  have hPc := hP.sub (ws' := [(mo, .inr (13, MF 30 (rf (rs v Q2 (o + 1)) j2 b2))), (Q2.qq, .inl (cI, (8 * Q2.C), .inl Q2.qf))]) [0, 2] rfl
                                  have hDc := hD.sub (ws' := [(mo, .inr (13, MF 30 (rf (rs v Q2 (o + 1)) j2 b2))), (Q2.qq, .inl (cI, (8 * Q2.C), .inl Q2.qf))]) [0, 2] (by decide) rfl
                                  have hKc := hK.sub (tys' := [(cI, .int)]) [1] rfl
                                  have hFc := va_free (wc := [(mo, .inr (13, MF 30 (rf (rs v Q2 (o + 1)) j2 b2))), (Q2.qq, .inl (cI, (8 * Q2.C), .inl Q2.qf))]) hD hS hA [0, 2] rfl
                                  refine va_callv (va_runV (As := [.int (nI Q.R), .int (nI 2), .int (nI Q1.R)]) (rest := []) ⟨hx, hb, hml, hown, hts⟩ (c_Mo_set l dC dI mo H (rf (rs v Q2 (o + 1)) j2 b2) cI Q2.qq (8 * Q2.C) Q2.qf Q.R 2 ((nI Q1.R)) (by omega) (by omega) ((rf_ne (by decide) (by decide)).trans rs_19)) (cwV 3 hts (gt_V (own := R_Mo) (C := R_Mo) (i := 272) (y := y_Mo_set) i_Mo_set w_1411 w_1413 (gt_sel (y := y_Mo_set) (n := 30) (by decide +kernel)) w_7) rfl rfl rfl (by decide +kernel) ⟨Nat.le_trans (m := 11) (Nat.le_of_ble_eq_true rfl) (Nat.le_add_right 11 (15 + G)), Nat.le_trans (m := 400) (Nat.le_of_ble_eq_true rfl) (Nat.le_add_right 400 (600 + M))⟩) ⟨mp_blind, va_recv hKc hPc (ci := 13) (q0 := 0) rfl rfl, fun U hU hW => ⟨rfl, hU, by rw [hU]; exact hPc, va_K.moved hW.alike hKc, hDc.weaken (fun _ _ _ _ => trivial)⟩⟩ rfl rfl hl.1 rfl (lv_room (Nat.le_of_ble_eq_true rfl)) d_Mo_comparable_451 ⟨hfit_Q2V2.1, hfit_Q2V2.2⟩) hS (fun q _ h => hFc q h) hFc (fun _u t9 H1 locs ht hvm hw hB hz1 hk1 hS => ?_)
                                  obtain ⟨hP1, hK1, hD1⟩ := hB
                                  rw [ht] at hP1
                                  obtain ⟨hP, hD⟩ := va_join (wr := [(qx, .inl (cB, NN, .inl f)), (Q2.qe, .inl (cL, (3 * Q2.C), .inr (.inl Q2.ef))), (tv, .inr (12, MF 13 (tw V2))), (V2.au, .inl (cC, V2.U, .inl V2.un))]) (w1 := [(mo, .inr (13, MF 30 (rf (rs v Q2 (o + 1)) j2 b2))), (Q2.qq, .inl (cI, (8 * Q2.C), .inl (upd Q2.qf (8 * Q.R + 2) ((nI Q1.R)))))]) hP hD [0, 2] [1, 3, 4, 5] rfl rfl (by decide) (by decide) hk1 hFc hP1 hD1
                                  generalize H1 = H at hP hS ⊢
                                  have hP : va_P (dC, dI) classes [(qx, .inl (cB, NN, .inl f)), (Q2.qe, .inl (cL, (3 * Q2.C), .inr (.inl Q2.ef))), (tv, .inr (12, MF 13 (tw V2))), (V2.au, .inl (cC, V2.U, .inl V2.un)), (mo, .inr (13, MF 30 (rf (rs v Q2 (o + 1)) j2 b2))), (Q2.qq, .inl (cI, (8 * Q2.C), .inl (upd Q2.qf (8 * Q.R + 2) ((nI Q1.R)))))] H := hP
                                  have hD : va_D A [(qx, .inl (cB, NN, .inl f)), (Q2.qe, .inl (cL, (3 * Q2.C), .inr (.inl Q2.ef))), (tv, .inr (12, MF 13 (tw V2))), (V2.au, .inl (cC, V2.U, .inl V2.un)), (mo, .inr (13, MF 30 (rf (rs v Q2 (o + 1)) j2 b2))), (Q2.qq, .inl (cI, (8 * Q2.C), .inl (upd Q2.qf (8 * Q.R + 2) ((nI Q1.R)))))] := hD
                                  have hP := hP.sub (ws' := [(mo, .inr (13, MF 30 (rf (rs v Q2 (o + 1)) j2 b2))), (qx, .inl (cB, NN, .inl f)), (Q2.qq, .inl (cI, (8 * Q2.C), .inl (upd Q2.qf (8 * Q.R + 2) ((nI Q1.R))))), (Q2.qe, .inl (cL, (3 * Q2.C), .inr (.inl Q2.ef))), (tv, .inr (12, MF 13 (tw V2))), (V2.au, .inl (cC, V2.U, .inl V2.un))]) [4, 0, 5, 1, 2, 3] rfl
                                  have hD := hD.sub (ws' := [(mo, .inr (13, MF 30 (rf (rs v Q2 (o + 1)) j2 b2))), (qx, .inl (cB, NN, .inl f)), (Q2.qq, .inl (cI, (8 * Q2.C), .inl (upd Q2.qf (8 * Q.R + 2) ((nI Q1.R))))), (Q2.qe, .inl (cL, (3 * Q2.C), .inr (.inl Q2.ef))), (tv, .inr (12, MF 13 (tw V2))), (V2.au, .inl (cC, V2.U, .inl V2.un))]) [4, 0, 5, 1, 2, 3] (by decide) rfl
                                  obtain ⟨Q3, e_Q3⟩ : ∃ z : QS, z = QS.wf Q2 (upd Q2.qf (8 * Q.R + 2) ((nI Q1.R))) := ⟨_, rfl⟩
                                  have hP : va_P (dC, dI) classes [(mo, .inr (13, MF 30 (rf (rs v Q3 (o + 1)) j2 b2))), (qx, .inl (cB, NN, .inl f)), (Q3.qq, .inl (cI, (8 * Q3.C), .inl Q3.qf)), (Q3.qe, .inl (cL, (3 * Q3.C), .inr (.inl Q3.ef))), (tv, .inr (12, MF 13 (tw V2))), (V2.au, .inl (cC, V2.U, .inl V2.un))] H := by subst e_Q3; exact hP
                                  have hD : va_D A [(mo, .inr (13, MF 30 (rf (rs v Q3 (o + 1)) j2 b2))), (qx, .inl (cB, NN, .inl f)), (Q3.qq, .inl (cI, (8 * Q3.C), .inl Q3.qf)), (Q3.qe, .inl (cL, (3 * Q3.C), .inr (.inl Q3.ef))), (tv, .inr (12, MF 13 (tw V2))), (V2.au, .inl (cC, V2.U, .inl V2.un))] := by subst e_Q3; exact hD
                                  have hf_Q3 : Q3.C = Q2.C ∧ Q3.R = Q2.R ∧ Q3.qf = upd Q2.qf (8 * Q.R + 2) ((nI Q1.R)) := by rw [e_Q3]; exact ⟨rfl, rfl, rfl⟩
                                  have he_Q3 : Q3.ef = Q2.ef := by rw [e_Q3]; rfl
                                  have hQk_Q3 : QOK Q3 := by rw [e_Q3]; exact hQk_Q2
                                  have hG_Q3V2 : GQ (Q.R + 8 * (n - i) + 1) (V.us + (n + 12 - i)) Q V Q3 V2 := by unfold GQ at hG_Q2V2 ⊢; rw [hf_Q3.1]; exact hG_Q2V2
                                  refine w_same (fun hq => ?_)
                                  refine w_tight (k := cQ Q V Q3 V2) (n := sQ Q V Q3 V2) (by unfold cQ sQ at hq ⊢; rw [hf_Q3.1]; exact hq) ?_
                                  have hR_Q3 := hf_Q3.2.1
                                  have hqb_Q3V2 : Q3.R ≤ Q3.C ∧ Q3.C ≤ 100000 := ⟨hQk_Q3.2.2.1, hQk_Q3.2.1⟩
                                  have hfit_Q3V2 := hG_Q3V2.fits
                                  have hk0_Q3 : Q3.qf (8 * Q.R + 0) = 47 := by rw [hf_Q3.2.2, pk_un (by omega)]; exact hk0_Q2
                                  have hl1_Q3 : Q3.qf (8 * Q.R + 1) = -1 := by rw [hf_Q3.2.2, pk_un (by omega)]; exact hl1_Q2
                                  have hEx_Q3V2 : alr Q V Q3 V2 0 Q.R := hEx_Q2V2.tr (alr.upd hf_Q3.2.2 he_Q3 (by decide) (by omega))
                                  refine lv_aload_n hx hb d_Mo_comparable_454 rfl (lv_at hl 4 rfl) ?_
                                  have hPc := hP.sub (ws' := [(mo, .inr (13, MF 30 (rf (rs v Q3 (o + 1)) j2 b2))), (qx, .inl (cB, NN, .inl f))]) [0, 1] rfl
                                  have hDc := hD.sub (ws' := [(mo, .inr (13, MF 30 (rf (rs v Q3 (o + 1)) j2 b2))), (qx, .inl (cB, NN, .inl f))]) [0, 1] (by decide) rfl
                                  have hKc := hK.sub (tys' := [(cB, .byte)]) [0] rfl
                                  have hFc := va_free (wc := [(mo, .inr (13, MF 30 (rf (rs v Q3 (o + 1)) j2 b2))), (qx, .inl (cB, NN, .inl f))]) hD hS hA [0, 1] rfl
                                  refine va_callv (va_runV (As := []) (rest := []) ⟨hx, hb, hml, hown, hts⟩ (c_Mo_blanks l dC dI mo H (rf (rs v Q3 (o + 1)) j2 b2) cB qx NN f n j2 (by omega) (by omega) (by omega) ((rf_ne (by decide) (by decide)).trans ((rs_ne (by decide) (by decide) (by decide) (by decide)).trans h6)) rf_7 ((rf_ne (by decide) (by decide)).trans ((rs_ne (by decide) (by decide) (by decide) (by decide)).trans h8))) (cwV 0 hts (gt_V (own := R_Mo) (C := R_Mo) (i := 184) (y := y_Mo_blanks) i_Mo_blanks w_1229 w_1231 (gt_sel (y := y_Mo_blanks) (n := 30) (by decide +kernel)) w_7) rfl rfl rfl (by decide +kernel) ⟨Nat.le_trans (m := 11) (Nat.le_of_ble_eq_true rfl) (Nat.le_add_right 11 (15 + G)), Nat.le_trans (m := 400) (Nat.le_of_ble_eq_true rfl) (Nat.le_add_right 400 (600 + M))⟩) ⟨mp_blind, va_recv hKc hPc (ci := 13) (q0 := 0) rfl rfl, fun U hU hW => ⟨rfl, hU, by rw [hU]; exact hPc, va_K.moved hW.alike hKc, hDc.weaken (fun _ _ _ _ => trivial)⟩⟩ rfl rfl hl.1 rfl (lv_room (Nat.le_of_ble_eq_true rfl)) d_Mo_comparable_455 ⟨hfit_Q3V2.1, hfit_Q3V2.2⟩) hS (fun q _ h => hFc q h) hFc (fun _u t9 H1 locs ht hvm hw hB hz1 hk1 hS => ?_)
                                  obtain ⟨hP1, hK1, hD1⟩ := hB
                                  rw [ht] at hP1
                                  obtain ⟨hP, hD⟩ := va_join (wr := [(Q3.qq, .inl (cI, (8 * Q3.C), .inl Q3.qf)), (Q3.qe, .inl (cL, (3 * Q3.C), .inr (.inl Q3.ef))), (tv, .inr (12, MF 13 (tw V2))), (V2.au, .inl (cC, V2.U, .inl V2.un))]) (w1 := [(mo, .inr (13, MF 30 (va_up (rf (rs v Q3 (o + 1)) j2 b2) 7 (.int (nI (skipH f n j2)))))), (qx, .inl (cB, NN, .inl f))]) hP hD [0, 1] [2, 3, 4, 5] rfl rfl (by decide) (by decide) hk1 hFc hP1 hD1
                                  generalize H1 = H at hP hS ⊢
                                  have hP : va_P (dC, dI) classes [(Q3.qq, .inl (cI, (8 * Q3.C), .inl Q3.qf)), (Q3.qe, .inl (cL, (3 * Q3.C), .inr (.inl Q3.ef))), (tv, .inr (12, MF 13 (tw V2))), (V2.au, .inl (cC, V2.U, .inl V2.un)), (mo, .inr (13, MF 30 (va_up (rf (rs v Q3 (o + 1)) j2 b2) 7 (.int (nI (skipH f n j2)))))), (qx, .inl (cB, NN, .inl f))] H := hP
                                  have hD : va_D A [(Q3.qq, .inl (cI, (8 * Q3.C), .inl Q3.qf)), (Q3.qe, .inl (cL, (3 * Q3.C), .inr (.inl Q3.ef))), (tv, .inr (12, MF 13 (tw V2))), (V2.au, .inl (cC, V2.U, .inl V2.un)), (mo, .inr (13, MF 30 (va_up (rf (rs v Q3 (o + 1)) j2 b2) 7 (.int (nI (skipH f n j2)))))), (qx, .inl (cB, NN, .inl f))] := hD
                                  have hP := hP.sub (ws' := [(mo, .inr (13, MF 30 (va_up (rf (rs v Q3 (o + 1)) j2 b2) 7 (.int (nI (skipH f n j2)))))), (qx, .inl (cB, NN, .inl f)), (Q3.qq, .inl (cI, (8 * Q3.C), .inl Q3.qf)), (Q3.qe, .inl (cL, (3 * Q3.C), .inr (.inl Q3.ef))), (tv, .inr (12, MF 13 (tw V2))), (V2.au, .inl (cC, V2.U, .inl V2.un))]) [4, 5, 0, 1, 2, 3] rfl
                                  have hD := hD.sub (ws' := [(mo, .inr (13, MF 30 (va_up (rf (rs v Q3 (o + 1)) j2 b2) 7 (.int (nI (skipH f n j2)))))), (qx, .inl (cB, NN, .inl f)), (Q3.qq, .inl (cI, (8 * Q3.C), .inl Q3.qf)), (Q3.qe, .inl (cL, (3 * Q3.C), .inr (.inl Q3.ef))), (tv, .inr (12, MF 13 (tw V2))), (V2.au, .inl (cC, V2.U, .inl V2.un))]) [4, 5, 0, 1, 2, 3] (by decide) rfl
                                  rw [rf_u7] at hP hD
                                  have hP : va_P (dC, dI) classes [(mo, .inr (13, MF 30 (rf (rs v Q3 (o + 1)) (skipH f n j2) b2))), (qx, .inl (cB, NN, .inl f)), (Q3.qq, .inl (cI, (8 * Q3.C), .inl Q3.qf)), (Q3.qe, .inl (cL, (3 * Q3.C), .inr (.inl Q3.ef))), (tv, .inr (12, MF 13 (tw V2))), (V2.au, .inl (cC, V2.U, .inl V2.un))] H := hP
                                  have hD : va_D A [(mo, .inr (13, MF 30 (rf (rs v Q3 (o + 1)) (skipH f n j2) b2))), (qx, .inl (cB, NN, .inl f)), (Q3.qq, .inl (cI, (8 * Q3.C), .inl Q3.qf)), (Q3.qe, .inl (cL, (3 * Q3.C), .inr (.inl Q3.ef))), (tv, .inr (12, MF 13 (tw V2))), (V2.au, .inl (cC, V2.U, .inl V2.un))] := hD
                                  have hsk_458 := skipH_n (f := f) (show j2 ≤ n by omega)
                                  refine lv_aload_n hx hb d_Mo_comparable_458 rfl (lv_at hl 4 rfl) ?_
                                  refine lv_bipush (v := 41) hx hb d_Mo_comparable_459 (by decide) ?_
                                  have hPc := hP.sub (ws' := [(mo, .inr (13, MF 30 (rf (rs v Q3 (o + 1)) (skipH f n j2) b2))), (qx, .inl (cB, NN, .inl f))]) [0, 1] rfl
                                  have hDc := hD.sub (ws' := [(mo, .inr (13, MF 30 (rf (rs v Q3 (o + 1)) (skipH f n j2) b2))), (qx, .inl (cB, NN, .inl f))]) [0, 1] (by decide) rfl
                                  have hKc := hK.sub (tys' := [(cB, .byte)]) [0] rfl
                                  have hFc := va_free (wc := [(mo, .inr (13, MF 30 (rf (rs v Q3 (o + 1)) (skipH f n j2) b2))), (qx, .inl (cB, NN, .inl f))]) hD hS hA [0, 1] rfl
                                  refine va_calli (va_runV (As := [.int 41]) (rest := []) ⟨hx, hb, hml, hown, hts⟩ (c_Mo_shut l dC dI mo H (rf (rs v Q3 (o + 1)) (skipH f n j2) b2) cB qx NN f n (skipH f n j2) (by omega) (by omega) (by omega) ((rf_ne (by decide) (by decide)).trans ((rs_ne (by decide) (by decide) (by decide) (by decide)).trans h6)) rf_7 ((rf_ne (by decide) (by decide)).trans ((rs_ne (by decide) (by decide) (by decide) (by decide)).trans h8)) b2 rf_9 41 o ((rf_ne (by decide) (by decide)).trans rs_23)) (cwV 1 hts (gt_V (own := R_Mo) (C := R_Mo) (i := 297) (y := y_Mo_shut) i_Mo_shut w_1447 w_1449 (gt_sel (y := y_Mo_shut) (n := 30) (by decide +kernel)) w_7) rfl rfl rfl (by decide +kernel) ⟨Nat.le_trans (m := 11) (Nat.le_of_ble_eq_true rfl) (Nat.le_add_right 11 (15 + G)), Nat.le_trans (m := 400) (Nat.le_of_ble_eq_true rfl) (Nat.le_add_right 400 (600 + M))⟩) ⟨mp_blind, va_recv hKc hPc (ci := 13) (q0 := 0) rfl rfl, fun U hU hW => ⟨rfl, hU, by rw [hU]; exact hPc, va_K.moved hW.alike hKc, hDc.weaken (fun _ _ _ _ => trivial)⟩⟩ rfl rfl hl.1 rfl (lv_room (Nat.le_of_ble_eq_true rfl)) d_Mo_comparable_461 ⟨hfit_Q3V2.1, hfit_Q3V2.2⟩) hS (fun q _ h => hFc q h) hFc (fun r0 u2 t9 H1 locs ht hvm hw hB hz1 hk1 hS => ?_)
                                  obtain ⟨hP1, hK1, hD1⟩ := hB
                                  rw [ht] at hP1
                                  obtain ⟨hP, hD⟩ := va_join (wr := [(Q3.qq, .inl (cI, (8 * Q3.C), .inl Q3.qf)), (Q3.qe, .inl (cL, (3 * Q3.C), .inr (.inl Q3.ef))), (tv, .inr (12, MF 13 (tw V2))), (V2.au, .inl (cC, V2.U, .inl V2.un))]) (w1 := [(mo, .inr (13, MF 30 u2)), (qx, .inl (cB, NN, .inl f))]) hP hD [0, 1] [2, 3, 4, 5] rfl rfl (by decide) (by decide) hk1 hFc hP1 hD1
                                  generalize H1 = H at hP hS ⊢
                                  have hP : va_P (dC, dI) classes [(Q3.qq, .inl (cI, (8 * Q3.C), .inl Q3.qf)), (Q3.qe, .inl (cL, (3 * Q3.C), .inr (.inl Q3.ef))), (tv, .inr (12, MF 13 (tw V2))), (V2.au, .inl (cC, V2.U, .inl V2.un)), (mo, .inr (13, MF 30 u2)), (qx, .inl (cB, NN, .inl f))] H := hP
                                  have hD : va_D A [(Q3.qq, .inl (cI, (8 * Q3.C), .inl Q3.qf)), (Q3.qe, .inl (cL, (3 * Q3.C), .inr (.inl Q3.ef))), (tv, .inr (12, MF 13 (tw V2))), (V2.au, .inl (cC, V2.U, .inl V2.un)), (mo, .inr (13, MF 30 u2)), (qx, .inl (cB, NN, .inl f))] := hD
                                  have hP := hP.sub (ws' := [(mo, .inr (13, MF 30 u2)), (qx, .inl (cB, NN, .inl f)), (Q3.qq, .inl (cI, (8 * Q3.C), .inl Q3.qf)), (Q3.qe, .inl (cL, (3 * Q3.C), .inr (.inl Q3.ef))), (tv, .inr (12, MF 13 (tw V2))), (V2.au, .inl (cC, V2.U, .inl V2.un))]) [4, 5, 0, 1, 2, 3] rfl
                                  have hD := hD.sub (ws' := [(mo, .inr (13, MF 30 u2)), (qx, .inl (cB, NN, .inl f)), (Q3.qq, .inl (cI, (8 * Q3.C), .inl Q3.qf)), (Q3.qe, .inl (cL, (3 * Q3.C), .inr (.inl Q3.ef))), (tv, .inr (12, MF 13 (tw V2))), (V2.au, .inl (cC, V2.U, .inl V2.un))]) [4, 5, 0, 1, 2, 3] (by decide) rfl
                                  rcases hw with ⟨hn2, ht2, ht3⟩ | ⟨hn2, ht2, ht3⟩
                                  · rw [rf_u7, rs_o] at ht3
                                    rw [ht3] at hP hD
                                    subst ht2
                                    have hP : va_P (dC, dI) classes [(mo, .inr (13, MF 30 (rf (rs v Q3 o) ((skipH f n j2) + 1) b2))), (qx, .inl (cB, NN, .inl f)), (Q3.qq, .inl (cI, (8 * Q3.C), .inl Q3.qf)), (Q3.qe, .inl (cL, (3 * Q3.C), .inr (.inl Q3.ef))), (tv, .inr (12, MF 13 (tw V2))), (V2.au, .inl (cC, V2.U, .inl V2.un))] H := hP
                                    have hD : va_D A [(mo, .inr (13, MF 30 (rf (rs v Q3 o) ((skipH f n j2) + 1) b2))), (qx, .inl (cB, NN, .inl f)), (Q3.qq, .inl (cI, (8 * Q3.C), .inl Q3.qf)), (Q3.qe, .inl (cL, (3 * Q3.C), .inr (.inl Q3.ef))), (tv, .inr (12, MF 13 (tw V2))), (V2.au, .inl (cC, V2.U, .inl V2.un))] := hD
                                    refine lv_if_eq (tgt := 471) hx hb d_Mo_comparable_464 (by decide) (fun h => absurd h (by decide)) (fun _ => ?_)
                                    refine lv_iload_n hx hb d_Mo_comparable_467 rfl (lv_at hl 2 rfl) ?_
                                    refine lv_goto (tgt := 472) hx hb d_Mo_comparable_468 (by decide) ?_
                                    have hlt41 := here_in hn2 (by decide)
                                    have hfin : cmP f n ok (orL f n) (cmL f n) (qyL f n) i = some (((skipH f n j2) + 1), cntO g9) := by rw [hcm]; exact fnT_s hen hfA hn2
                                    have hW : Wth Y Q3 V2 Q.R Q3.R Q.R Q1.R g9 := Wth_up hYf hv_3 (by omega) (by omega) (by omega) (alr.upd hf_Q3.2.2 he_Q3 (by decide) (by omega))
                                    have hCF : CMPf O C Y Q3 V2 Q.R Q3.R Q.R (cntO g9) := ⟨by omega, by omega, Or.inr (Or.inr (Or.inr (Or.inr (Or.inr (Or.inr (Or.inr (Or.inl ⟨hk0_Q3, Q1.R, g9, by rw [hf_Q3.2.2]; exact pk_us, hW, rfl⟩)))))))⟩
                                    refine w_same (fun hq => ?_)
                                    refine W.widen (k := kcap Q (Q.R + 8 * (n - i) + 1) + qcap V (V.us + (n + 12 - i))) (n := 22 * kcap Q (Q.R + 8 * (n - i) + 1) + 2 * qcap V (V.us + (n + 12 - i))) hfit_Q3V2.1 hfit_Q3V2.2 ?_
                                    have hPo : QPo n i 1 Q V (Q3, V2, ((skipH f n j2) + 1), b2, o) := ⟨hQk_Q3, hG_Q3V2, ⟨_, hX_V2, by omega⟩, by show Q.R ≤ Q3.R; omega, by show Q3.R ≤ Q.R + 8 * (n - i) + 1; omega⟩
                                    exact W.iret (v := nI Q.R) hx hb hr (fun t9 ht hW => ⟨⟨nI Q.R, (Q3, V2, ((skipH f n j2) + 1), b2, o), rfl, ⟨hPo, Or.inl ⟨Q.R, cntO g9, rfl, hfin, hCF, by show Q.R < Q3.R; omega, hEx_Q3V2, by show Q3.R + 8 * i + 6 ≤ Q.R + 8 * ((skipH f n j2) + 1); omega, by show V2.us + i ≤ V.us + ((skipH f n j2) + 1); omega, by show ((skipH f n j2) + 1) ≤ n; omega, by show Q.R < Q3.R; omega, rfl⟩⟩, ⟨by rw [ht]; exact hP, va_K.moved hW.alike hK, hD⟩, by rw [ht]; exact hq⟩, hS.F ht⟩) hS.2.2 d_Mo_comparable_472
                                  · obtain ⟨b6, h_b6⟩ := rf_fail (v := (rs v Q3 (o + 1))) (i := (skipH f n j2)) (br := b2) (b2 := b2) (wh := nI (skipH f n j2))
                                    rw [h_b6] at ht3
                                    rw [ht3] at hP hD
                                    subst ht2
                                    have hP : va_P (dC, dI) classes [(mo, .inr (13, MF 30 (rf (rs v Q3 (o + 1)) (skipH f n j2) b6))), (qx, .inl (cB, NN, .inl f)), (Q3.qq, .inl (cI, (8 * Q3.C), .inl Q3.qf)), (Q3.qe, .inl (cL, (3 * Q3.C), .inr (.inl Q3.ef))), (tv, .inr (12, MF 13 (tw V2))), (V2.au, .inl (cC, V2.U, .inl V2.un))] H := hP
                                    have hD : va_D A [(mo, .inr (13, MF 30 (rf (rs v Q3 (o + 1)) (skipH f n j2) b6))), (qx, .inl (cB, NN, .inl f)), (Q3.qq, .inl (cI, (8 * Q3.C), .inl Q3.qf)), (Q3.qe, .inl (cL, (3 * Q3.C), .inr (.inl Q3.ef))), (tv, .inr (12, MF 13 (tw V2))), (V2.au, .inl (cC, V2.U, .inl V2.un))] := hD
                                    refine lv_if_eq (tgt := 471) hx hb d_Mo_comparable_464 (by decide) (fun _ => ?_) (fun h => absurd (by decide) h)
                                    refine lv_iconst (v := (-1)) hx hb d_Mo_comparable_471 (by decide) ?_
                                    have hfin : cmP f n ok (orL f n) (cmL f n) (qyL f n) i = none := by rw [hcm]; exact fnT_e hen hfA hn2
                                    refine w_same (fun hq => ?_)
                                    refine W.widen (k := kcap Q (Q.R + 8 * (n - i) + 1) + qcap V (V.us + (n + 12 - i))) (n := 22 * kcap Q (Q.R + 8 * (n - i) + 1) + 2 * qcap V (V.us + (n + 12 - i))) hfit_Q3V2.1 hfit_Q3V2.2 ?_
                                    have hPo : QPo n i 1 Q V (Q3, V2, (skipH f n j2), b6, (o + 1)) := ⟨hQk_Q3, hG_Q3V2, ⟨_, hX_V2, by omega⟩, by show Q.R ≤ Q3.R; omega, by show Q3.R ≤ Q.R + 8 * (n - i) + 1; omega⟩
                                    exact W.iret (v := -1) hx hb hr (fun t9 ht hW => ⟨⟨-1, (Q3, V2, (skipH f n j2), b6, (o + 1)), rfl, ⟨hPo, Or.inr ⟨rfl, hfin⟩⟩, ⟨by rw [ht]; exact hP, va_K.moved hW.alike hK, hD⟩, by rw [ht]; exact hq⟩, hS.F ht⟩) hS.2.2 d_Mo_comparable_472
                                · have hv_2 : qyL f n (decide (hereV f n (skipH f n ((i + 5) + 1)) = 36)) ((skipH f n ((i + 5) + 1)) + 1) = none := by rw [hrtb]; exact hv_2
                                  have hfA : fnA f n (cmL f n) (qyL f n) i (skipH f n ((i + 5) + 1)) = none := fnA_q0 (by rw [hfx]; decide) hbeg hv_2
                                  subst hv_1
                                  refine lv_istore_n (lv' := [(3, .int (-1)), (4, .int 1), (2, .int (nI Q.R)), (1, .int r1), (0, .ref mo)]) hx hb d_Mo_comparable_426 rfl hl (by decide) rfl (fun ls hl => ?_)
                                  refine lv_goto (tgt := 441) hx hb d_Mo_comparable_427 (by decide) ?_
                                  refine lv_iload_n hx hb d_Mo_comparable_441 rfl (lv_at hl 0 rfl) ?_
                                  refine lv_if_ge (tgt := 447) hx hb d_Mo_comparable_442 (by decide) (fun h => absurd h (by decide)) (fun _ => ?_)
                                  refine lv_iconst (v := (-1)) hx hb d_Mo_comparable_445 (by decide) ?_
                                  have hfin : cmP f n ok (orL f n) (cmL f n) (qyL f n) i = none := by rw [hcm]; exact fnT_a hen hfA
                                  refine w_same (fun hq => ?_)
                                  refine W.widen (k := kcap Q (Q.R + 8 * (n - i) + 1) + qcap V (V.us + (n + 12 - i))) (n := 22 * kcap Q (Q.R + 8 * (n - i) + 1) + 2 * qcap V (V.us + (n + 12 - i))) hfit_Q2V2.1 hfit_Q2V2.2 ?_
                                  have hPo : QPo n i 1 Q V (Q2, V2, j2, b2, o2) := ⟨hQk_Q2, hG_Q2V2, ⟨_, hX_V2, by omega⟩, by show Q.R ≤ Q2.R; omega, by show Q2.R ≤ Q.R + 8 * (n - i) + 1; omega⟩
                                  exact W.iret (v := -1) hx hb hr (fun t9 ht hW => ⟨⟨-1, (Q2, V2, j2, b2, o2), rfl, ⟨hPo, Or.inr ⟨rfl, hfin⟩⟩, ⟨by rw [ht]; exact hP, va_K.moved hW.alike hK, hD⟩, by rw [ht]; exact hq⟩, hS.F ht⟩) hS.2.2 d_Mo_comparable_446
                          · obtain ⟨b5, h_b5⟩ := rf_fail (v := (rs v Q o)) (i := (i + 5)) (br := br) (b2 := br) (wh := nI (i + 5))
                            rw [h_b5] at ht3
                            rw [ht3] at hP hD
                            subst ht2
                            have hP : va_P (dC, dI) classes [(mo, .inr (13, MF 30 (rf (rs v Q o) (i + 5) b5))), (qx, .inl (cB, NN, .inl f)), (Q.qq, .inl (cI, (8 * Q.C), .inl Q.qf)), (Q.qe, .inl (cL, (3 * Q.C), .inr (.inl Q.ef))), (tv, .inr (12, MF 13 (tw V))), (V.au, .inl (cC, V.U, .inl V.un))] H := hP
                            have hD : va_D A [(mo, .inr (13, MF 30 (rf (rs v Q o) (i + 5) b5))), (qx, .inl (cB, NN, .inl f)), (Q.qq, .inl (cI, (8 * Q.C), .inl Q.qf)), (Q.qe, .inl (cL, (3 * Q.C), .inr (.inl Q.ef))), (tv, .inr (12, MF 13 (tw V))), (V.au, .inl (cC, V.U, .inl V.un))] := hD
                            refine lv_if_ne (tgt := 328) hx hb d_Mo_comparable_323 (by decide) (fun h => absurd h (by decide)) (fun _ => ?_)
                            refine lv_iconst (v := (-1)) hx hb d_Mo_comparable_326 (by decide) ?_
                            have hfin : cmP f n ok (orL f n) (cmL f n) (qyL f n) i = none := by rw [hcm]; exact fnT_n (fun h => hn1 ⟨h.1, hok.mp h.2⟩)
                            refine w_same (fun hq => ?_)
                            refine W.widen (k := kcap Q (Q.R + 8 * (n - i) + 1) + qcap V (V.us + (n + 12 - i))) (n := 22 * kcap Q (Q.R + 8 * (n - i) + 1) + 2 * qcap V (V.us + (n + 12 - i))) hfit_QV.1 hfit_QV.2 ?_
                            have hPo : QPo n i 1 Q V (Q, V, (i + 5), b5, o) := ⟨hQk_Q, hG_QV, ⟨[], TX.rf hTk_V, Nat.zero_le _⟩, by show Q.R ≤ Q.R; omega, by show Q.R ≤ Q.R + 8 * (n - i) + 1; omega⟩
                            exact W.iret (v := -1) hx hb hr (fun t9 ht hW => ⟨⟨-1, (Q, V, (i + 5), b5, o), rfl, ⟨hPo, Or.inr ⟨rfl, hfin⟩⟩, ⟨by rw [ht]; exact hP, va_K.moved hW.alike hK, hD⟩, by rw [ht]; exact hq⟩, hS.F ht⟩) hS.2.2 d_Mo_comparable_327
                        · rw [rf_u7] at hw3
                          obtain ⟨b4, h_b4⟩ := rf_fail (v := (rs v Q o)) (i := k9) (br := br) (b2 := br) (wh := nI k9)
                          rw [h_b4] at hw3
                          rw [hw3] at hP hD
                          subst hw2
                          have hP : va_P (dC, dI) classes [(mo, .inr (13, MF 30 (rf (rs v Q o) k9 b4))), (qx, .inl (cB, NN, .inl f)), (Q.qq, .inl (cI, (8 * Q.C), .inl Q.qf)), (Q.qe, .inl (cL, (3 * Q.C), .inr (.inl Q.ef))), (tv, .inr (12, MF 13 (tw V))), (V.au, .inl (cC, V.U, .inl V.un))] H := hP
                          have hD : va_D A [(mo, .inr (13, MF 30 (rf (rs v Q o) k9 b4))), (qx, .inl (cB, NN, .inl f)), (Q.qq, .inl (cI, (8 * Q.C), .inl Q.qf)), (Q.qe, .inl (cL, (3 * Q.C), .inr (.inl Q.ef))), (tv, .inr (12, MF 13 (tw V))), (V.au, .inl (cC, V.U, .inl V.un))] := hD
                          have hwb : ¬ mtB f n i (mtx 12) 5 = true := fun h => hwm (mtB_iff.mp h)
                          refine lv_if_eq (tgt := 326) hx hb d_Mo_comparable_314 (by decide) (fun _ => ?_) (fun h => absurd (by decide) h)
                          refine lv_iconst (v := (-1)) hx hb d_Mo_comparable_326 (by decide) ?_
                          have hfin : cmP f n ok (orL f n) (cmL f n) (qyL f n) i = none := by rw [hcm]; unfold fnP; rw [if_neg (fun h => absurd (hfx.symm.trans h) (by decide)), if_pos hfx, if_neg hwb]
                          refine w_same (fun hq => ?_)
                          refine W.widen (k := kcap Q (Q.R + 8 * (n - i) + 1) + qcap V (V.us + (n + 12 - i))) (n := 22 * kcap Q (Q.R + 8 * (n - i) + 1) + 2 * qcap V (V.us + (n + 12 - i))) hfit_QV.1 hfit_QV.2 ?_
                          have hPo : QPo n i 1 Q V (Q, V, k9, b4, o) := ⟨hQk_Q, hG_QV, ⟨[], TX.rf hTk_V, Nat.zero_le _⟩, by show Q.R ≤ Q.R; omega, by show Q.R ≤ Q.R + 8 * (n - i) + 1; omega⟩
                          exact W.iret (v := -1) hx hb hr (fun t9 ht hW => ⟨⟨-1, (Q, V, k9, b4, o), rfl, ⟨hPo, Or.inr ⟨rfl, hfin⟩⟩, ⟨by rw [ht]; exact hP, va_K.moved hW.alike hK, hD⟩, by rw [ht]; exact hq⟩, hS.F ht⟩) hS.2.2 d_Mo_comparable_327
                      · refine lv_iload_n hx hb d_Mo_comparable_266 rfl (lv_at hl 0 rfl) ?_
                        refine lv_bipush (v := 118) hx hb d_Mo_comparable_267 (by decide) ?_
                        refine lv_icmp_eq (tgt := 283) hx hb d_Mo_comparable_269 (by decide) (fun c269 => ?_) (fun c269 => ?_)
                        · have hfx : hereV f n i = 118 := h_r1.symm.trans c269
                          have hcm : cmP f n ok (orL f n) (cmL f n) (qyL f n) i = (match fnP f n i with | none => none | some j => fnT f n ok (cmL f n) (qyL f n) i j) := cmP_fn hN0 hN1 hN2 hN3 hN4 hN5
                          refine lv_aload_n hx hb d_Mo_comparable_283 rfl (lv_at hl 1 rfl) ?_
                          refine lv_iload_n hx hb d_Mo_comparable_284 rfl (lv_at hl 0 rfl) ?_
                          refine lv_bipush (v := 108) hx hb d_Mo_comparable_285 (by decide) ?_
                          refine lv_icmp_ne (tgt := 296) hx hb d_Mo_comparable_287 (by decide) (fun _ => ?_) (fun h => absurd h c257)
                          refine lv_iload_n hx hb d_Mo_comparable_296 rfl (lv_at hl 0 rfl) ?_
                          refine lv_bipush (v := 99) hx hb d_Mo_comparable_297 (by decide) ?_
                          refine lv_icmp_ne (tgt := 308) hx hb d_Mo_comparable_299 (by decide) (fun _ => ?_) (fun h => absurd h c263)
                          refine va_ldcwS hx hb hown (hM 13 _ rfl).2 d_Mo_comparable_308 ?_
                          have hE := (hM 13 _ rfl).1
                          have hPc := hP.sub (ws' := [(mo, .inr (13, MF 30 (rf (rs v Q o) i br))), (qx, .inl (cB, NN, .inl f))]) [0, 1] rfl
                          have hDc := hD.sub (ws' := [(mo, .inr (13, MF 30 (rf (rs v Q o) i br))), (qx, .inl (cB, NN, .inl f))]) [0, 1] (by decide) rfl
                          have hKc := hK.sub (tys' := [(cB, .byte)]) [0] rfl
                          have hFc := va_free (wc := [(mo, .inr (13, MF 30 (rf (rs v Q o) i br))), (qx, .inl (cB, NN, .inl f))]) hD hS hA [0, 1] rfl
                          refine va_calli (va_runV (As := [.ref (K 13).1]) (rest := []) ⟨hx, hb, hml, hown, hts⟩ (c_Mo_wordS l dC dI mo H (rf (rs v Q o) i br) cB qx NN f (K 13).1 (K 13).2 5 (mtx 13) n i (by omega) (by omega) (by omega) ((rf_ne (by decide) (by decide)).trans ((rs_ne (by decide) (by decide) (by decide) (by decide)).trans h6)) rf_7 ((rf_ne (by decide) (by decide)).trans ((rs_ne (by decide) (by decide) (by decide) (by decide)).trans h8)) br rf_9 (by decide)) (cwV 1 hts (gt_V (own := R_Mo) (C := R_Mo) (i := 193) (y := y_Mo_wordS) i_Mo_wordS w_1240 w_1242 (gt_sel (y := y_Mo_wordS) (n := 30) (by decide +kernel)) w_7) rfl rfl rfl (by decide +kernel) ⟨Nat.le_trans (m := 11) (Nat.le_of_ble_eq_true rfl) (Nat.le_add_right 11 (15 + G)), Nat.le_trans (m := 400) (Nat.le_of_ble_eq_true rfl) (Nat.le_add_right 400 (600 + M))⟩) ⟨mstr_blind, va_recv hKc hPc (ci := 13) (q0 := 0) rfl rfl, fun U hU hW => ⟨rfl, ⟨hU, by rw [hU]; exact hPc, va_K.moved hW.alike hKc, hDc.weaken (fun _ _ _ _ => trivial)⟩, by rw [hU]; exact SX.moved' hW.alike (SX.narrow' (SX.kept' hE hS.2.1) hFc)⟩⟩ rfl rfl hl.1 rfl (lv_room (Nat.le_of_ble_eq_true rfl)) d_Mo_comparable_311 ⟨hfit_QV.1, hfit_QV.2⟩) hS (fun q _ h => hFc q h) hFc (fun r0 u2 t9 H1 locs ht hvm hw hB hz1 hk1 hS => ?_)
                          obtain ⟨hP1, hK1, hD1⟩ := hB
                          rw [ht] at hP1
                          obtain ⟨hP, hD⟩ := va_join (wr := [(Q.qq, .inl (cI, (8 * Q.C), .inl Q.qf)), (Q.qe, .inl (cL, (3 * Q.C), .inr (.inl Q.ef))), (tv, .inr (12, MF 13 (tw V))), (V.au, .inl (cC, V.U, .inl V.un))]) (w1 := [(mo, .inr (13, MF 30 u2)), (qx, .inl (cB, NN, .inl f))]) hP hD [0, 1] [2, 3, 4, 5] rfl rfl (by decide) (by decide) hk1 hFc hP1 hD1
                          generalize H1 = H at hP hS ⊢
                          have hP : va_P (dC, dI) classes [(Q.qq, .inl (cI, (8 * Q.C), .inl Q.qf)), (Q.qe, .inl (cL, (3 * Q.C), .inr (.inl Q.ef))), (tv, .inr (12, MF 13 (tw V))), (V.au, .inl (cC, V.U, .inl V.un)), (mo, .inr (13, MF 30 u2)), (qx, .inl (cB, NN, .inl f))] H := hP
                          have hD : va_D A [(Q.qq, .inl (cI, (8 * Q.C), .inl Q.qf)), (Q.qe, .inl (cL, (3 * Q.C), .inr (.inl Q.ef))), (tv, .inr (12, MF 13 (tw V))), (V.au, .inl (cC, V.U, .inl V.un)), (mo, .inr (13, MF 30 u2)), (qx, .inl (cB, NN, .inl f))] := hD
                          have hP := hP.sub (ws' := [(mo, .inr (13, MF 30 u2)), (qx, .inl (cB, NN, .inl f)), (Q.qq, .inl (cI, (8 * Q.C), .inl Q.qf)), (Q.qe, .inl (cL, (3 * Q.C), .inr (.inl Q.ef))), (tv, .inr (12, MF 13 (tw V))), (V.au, .inl (cC, V.U, .inl V.un))]) [4, 5, 0, 1, 2, 3] rfl
                          have hD := hD.sub (ws' := [(mo, .inr (13, MF 30 u2)), (qx, .inl (cB, NN, .inl f)), (Q.qq, .inl (cI, (8 * Q.C), .inl Q.qf)), (Q.qe, .inl (cL, (3 * Q.C), .inr (.inl Q.ef))), (tv, .inr (12, MF 13 (tw V))), (V.au, .inl (cC, V.U, .inl V.un))]) [4, 5, 0, 1, 2, 3] (by decide) rfl
                          rcases hw with ⟨hwm, hw2, hw3⟩ | ⟨hwm, hw2, k9, hw3⟩
                          · rw [rf_u7] at hw3
                            rw [hw3] at hP hD
                            subst hw2
                            have hP : va_P (dC, dI) classes [(mo, .inr (13, MF 30 (rf (rs v Q o) (i + 5) br))), (qx, .inl (cB, NN, .inl f)), (Q.qq, .inl (cI, (8 * Q.C), .inl Q.qf)), (Q.qe, .inl (cL, (3 * Q.C), .inr (.inl Q.ef))), (tv, .inr (12, MF 13 (tw V))), (V.au, .inl (cC, V.U, .inl V.un))] H := hP
                            have hD : va_D A [(mo, .inr (13, MF 30 (rf (rs v Q o) (i + 5) br))), (qx, .inl (cB, NN, .inl f)), (Q.qq, .inl (cI, (8 * Q.C), .inl Q.qf)), (Q.qe, .inl (cL, (3 * Q.C), .inr (.inl Q.ef))), (tv, .inr (12, MF 13 (tw V))), (V.au, .inl (cC, V.U, .inl V.un))] := hD
                            have hwlt := mtch_le (k := 4) hwm (by decide)
                            have hwb : mtB f n i (mtx 13) 5 = true := mtB_iff.mpr hwm
                            have hfnP : fnP f n i = some (i + 5) := by unfold fnP; rw [if_neg (fun h => absurd (hfx.symm.trans h) (by decide)), if_neg (fun h => absurd (hfx.symm.trans h) (by decide)), if_pos hfx, if_pos hwb]
                            have hcm : cmP f n ok (orL f n) (cmL f n) (qyL f n) i = fnT f n ok (cmL f n) (qyL f n) i (i + 5) := by rw [hcm, hfnP]
                            refine lv_if_eq (tgt := 326) hx hb d_Mo_comparable_314 (by decide) (fun h => absurd h (by decide)) (fun _ => ?_)
                            refine lv_aload_n hx hb d_Mo_comparable_317 rfl (lv_at hl 1 rfl) ?_
                            refine lv_bipush (v := 40) hx hb d_Mo_comparable_318 (by decide) ?_
                            have hjw : (i + 5) ≤ n := by omega
                            have hPc := hP.sub (ws' := [(mo, .inr (13, MF 30 (rf (rs v Q o) (i + 5) br))), (qx, .inl (cB, NN, .inl f))]) [0, 1] rfl
                            have hDc := hD.sub (ws' := [(mo, .inr (13, MF 30 (rf (rs v Q o) (i + 5) br))), (qx, .inl (cB, NN, .inl f))]) [0, 1] (by decide) rfl
                            have hKc := hK.sub (tys' := [(cB, .byte)]) [0] rfl
                            have hFc := va_free (wc := [(mo, .inr (13, MF 30 (rf (rs v Q o) (i + 5) br))), (qx, .inl (cB, NN, .inl f))]) hD hS hA [0, 1] rfl
                            refine va_calli (va_runV (As := [.int 40]) (rest := []) ⟨hx, hb, hml, hown, hts⟩ (c_Mo_enter l dC dI mo H (rf (rs v Q o) (i + 5) br) cB qx NN f n (i + 5) (by omega) (by omega) (by omega) ((rf_ne (by decide) (by decide)).trans ((rs_ne (by decide) (by decide) (by decide) (by decide)).trans h6)) rf_7 ((rf_ne (by decide) (by decide)).trans ((rs_ne (by decide) (by decide) (by decide) (by decide)).trans h8)) br rf_9 40 o (by omega) ((rf_ne (by decide) (by decide)).trans rs_23)) (cwV 1 hts (gt_V (own := R_Mo) (C := R_Mo) (i := 290) (y := y_Mo_enter) i_Mo_enter w_1423 w_1425 (gt_sel (y := y_Mo_enter) (n := 30) (by decide +kernel)) w_7) rfl rfl rfl (by decide +kernel) ⟨Nat.le_trans (m := 11) (Nat.le_of_ble_eq_true rfl) (Nat.le_add_right 11 (15 + G)), Nat.le_trans (m := 400) (Nat.le_of_ble_eq_true rfl) (Nat.le_add_right 400 (600 + M))⟩) ⟨mp_blind, va_recv hKc hPc (ci := 13) (q0 := 0) rfl rfl, fun U hU hW => ⟨rfl, hU, by rw [hU]; exact hPc, va_K.moved hW.alike hKc, hDc.weaken (fun _ _ _ _ => trivial)⟩⟩ rfl rfl hl.1 rfl (lv_room (Nat.le_of_ble_eq_true rfl)) d_Mo_comparable_320 ⟨hfit_QV.1, hfit_QV.2⟩) hS (fun q _ h => hFc q h) hFc (fun r0 u2 t9 H1 locs ht hvm hw hB hz1 hk1 hS => ?_)
                            obtain ⟨hP1, hK1, hD1⟩ := hB
                            rw [ht] at hP1
                            obtain ⟨hP, hD⟩ := va_join (wr := [(Q.qq, .inl (cI, (8 * Q.C), .inl Q.qf)), (Q.qe, .inl (cL, (3 * Q.C), .inr (.inl Q.ef))), (tv, .inr (12, MF 13 (tw V))), (V.au, .inl (cC, V.U, .inl V.un))]) (w1 := [(mo, .inr (13, MF 30 u2)), (qx, .inl (cB, NN, .inl f))]) hP hD [0, 1] [2, 3, 4, 5] rfl rfl (by decide) (by decide) hk1 hFc hP1 hD1
                            generalize H1 = H at hP hS ⊢
                            have hP : va_P (dC, dI) classes [(Q.qq, .inl (cI, (8 * Q.C), .inl Q.qf)), (Q.qe, .inl (cL, (3 * Q.C), .inr (.inl Q.ef))), (tv, .inr (12, MF 13 (tw V))), (V.au, .inl (cC, V.U, .inl V.un)), (mo, .inr (13, MF 30 u2)), (qx, .inl (cB, NN, .inl f))] H := hP
                            have hD : va_D A [(Q.qq, .inl (cI, (8 * Q.C), .inl Q.qf)), (Q.qe, .inl (cL, (3 * Q.C), .inr (.inl Q.ef))), (tv, .inr (12, MF 13 (tw V))), (V.au, .inl (cC, V.U, .inl V.un)), (mo, .inr (13, MF 30 u2)), (qx, .inl (cB, NN, .inl f))] := hD
                            have hP := hP.sub (ws' := [(mo, .inr (13, MF 30 u2)), (qx, .inl (cB, NN, .inl f)), (Q.qq, .inl (cI, (8 * Q.C), .inl Q.qf)), (Q.qe, .inl (cL, (3 * Q.C), .inr (.inl Q.ef))), (tv, .inr (12, MF 13 (tw V))), (V.au, .inl (cC, V.U, .inl V.un))]) [4, 5, 0, 1, 2, 3] rfl
                            have hD := hD.sub (ws' := [(mo, .inr (13, MF 30 u2)), (qx, .inl (cB, NN, .inl f)), (Q.qq, .inl (cI, (8 * Q.C), .inl Q.qf)), (Q.qe, .inl (cL, (3 * Q.C), .inr (.inl Q.ef))), (tv, .inr (12, MF 13 (tw V))), (V.au, .inl (cC, V.U, .inl V.un))]) [4, 5, 0, 1, 2, 3] (by decide) rfl
                            rcases hw with ⟨hn1, ht2, ht3⟩ | ⟨hn1, ht2, ht3⟩
                            · rw [rs_o, rf_u7] at ht3
                              rw [ht3] at hP hD
                              subst ht2
                              have hP : va_P (dC, dI) classes [(mo, .inr (13, MF 30 (rf (rs v Q (o + 1)) ((i + 5) + 1) br))), (qx, .inl (cB, NN, .inl f)), (Q.qq, .inl (cI, (8 * Q.C), .inl Q.qf)), (Q.qe, .inl (cL, (3 * Q.C), .inr (.inl Q.ef))), (tv, .inr (12, MF 13 (tw V))), (V.au, .inl (cC, V.U, .inl V.un))] H := hP
                              have hD : va_D A [(mo, .inr (13, MF 30 (rf (rs v Q (o + 1)) ((i + 5) + 1) br))), (qx, .inl (cB, NN, .inl f)), (Q.qq, .inl (cI, (8 * Q.C), .inl Q.qf)), (Q.qe, .inl (cL, (3 * Q.C), .inr (.inl Q.ef))), (tv, .inr (12, MF 13 (tw V))), (V.au, .inl (cC, V.U, .inl V.un))] := hD
                              have hlt40 := here_in hn1.1 (by decide)
                              have hen : hereV f n (i + 5) = 40 ∧ ok = true := ⟨hn1.1, hok.mpr hn1.2⟩
                              refine lv_if_ne (tgt := 328) hx hb d_Mo_comparable_323 (by decide) (fun _ => ?_) (fun h => absurd h (by decide))
                              refine lv_aload_n hx hb d_Mo_comparable_328 rfl (lv_at hl 1 rfl) ?_
                              have hPc := hP.sub (ws' := [(mo, .inr (13, MF 30 (rf (rs v Q (o + 1)) ((i + 5) + 1) br))), (qx, .inl (cB, NN, .inl f))]) [0, 1] rfl
                              have hDc := hD.sub (ws' := [(mo, .inr (13, MF 30 (rf (rs v Q (o + 1)) ((i + 5) + 1) br))), (qx, .inl (cB, NN, .inl f))]) [0, 1] (by decide) rfl
                              have hKc := hK.sub (tys' := [(cB, .byte)]) [0] rfl
                              have hFc := va_free (wc := [(mo, .inr (13, MF 30 (rf (rs v Q (o + 1)) ((i + 5) + 1) br))), (qx, .inl (cB, NN, .inl f))]) hD hS hA [0, 1] rfl
                              refine va_callv (va_runV (As := []) (rest := []) ⟨hx, hb, hml, hown, hts⟩ (c_Mo_blanks l dC dI mo H (rf (rs v Q (o + 1)) ((i + 5) + 1) br) cB qx NN f n ((i + 5) + 1) (by omega) (by omega) (by omega) ((rf_ne (by decide) (by decide)).trans ((rs_ne (by decide) (by decide) (by decide) (by decide)).trans h6)) rf_7 ((rf_ne (by decide) (by decide)).trans ((rs_ne (by decide) (by decide) (by decide) (by decide)).trans h8))) (cwV 0 hts (gt_V (own := R_Mo) (C := R_Mo) (i := 184) (y := y_Mo_blanks) i_Mo_blanks w_1229 w_1231 (gt_sel (y := y_Mo_blanks) (n := 30) (by decide +kernel)) w_7) rfl rfl rfl (by decide +kernel) ⟨Nat.le_trans (m := 11) (Nat.le_of_ble_eq_true rfl) (Nat.le_add_right 11 (15 + G)), Nat.le_trans (m := 400) (Nat.le_of_ble_eq_true rfl) (Nat.le_add_right 400 (600 + M))⟩) ⟨mp_blind, va_recv hKc hPc (ci := 13) (q0 := 0) rfl rfl, fun U hU hW => ⟨rfl, hU, by rw [hU]; exact hPc, va_K.moved hW.alike hKc, hDc.weaken (fun _ _ _ _ => trivial)⟩⟩ rfl rfl hl.1 rfl (lv_room (Nat.le_of_ble_eq_true rfl)) d_Mo_comparable_329 ⟨hfit_QV.1, hfit_QV.2⟩) hS (fun q _ h => hFc q h) hFc (fun _u t9 H1 locs ht hvm hw hB hz1 hk1 hS => ?_)
                              obtain ⟨hP1, hK1, hD1⟩ := hB
                              rw [ht] at hP1
                              obtain ⟨hP, hD⟩ := va_join (wr := [(Q.qq, .inl (cI, (8 * Q.C), .inl Q.qf)), (Q.qe, .inl (cL, (3 * Q.C), .inr (.inl Q.ef))), (tv, .inr (12, MF 13 (tw V))), (V.au, .inl (cC, V.U, .inl V.un))]) (w1 := [(mo, .inr (13, MF 30 (va_up (rf (rs v Q (o + 1)) ((i + 5) + 1) br) 7 (.int (nI (skipH f n ((i + 5) + 1))))))), (qx, .inl (cB, NN, .inl f))]) hP hD [0, 1] [2, 3, 4, 5] rfl rfl (by decide) (by decide) hk1 hFc hP1 hD1
                              generalize H1 = H at hP hS ⊢
                              have hP : va_P (dC, dI) classes [(Q.qq, .inl (cI, (8 * Q.C), .inl Q.qf)), (Q.qe, .inl (cL, (3 * Q.C), .inr (.inl Q.ef))), (tv, .inr (12, MF 13 (tw V))), (V.au, .inl (cC, V.U, .inl V.un)), (mo, .inr (13, MF 30 (va_up (rf (rs v Q (o + 1)) ((i + 5) + 1) br) 7 (.int (nI (skipH f n ((i + 5) + 1))))))), (qx, .inl (cB, NN, .inl f))] H := hP
                              have hD : va_D A [(Q.qq, .inl (cI, (8 * Q.C), .inl Q.qf)), (Q.qe, .inl (cL, (3 * Q.C), .inr (.inl Q.ef))), (tv, .inr (12, MF 13 (tw V))), (V.au, .inl (cC, V.U, .inl V.un)), (mo, .inr (13, MF 30 (va_up (rf (rs v Q (o + 1)) ((i + 5) + 1) br) 7 (.int (nI (skipH f n ((i + 5) + 1))))))), (qx, .inl (cB, NN, .inl f))] := hD
                              have hP := hP.sub (ws' := [(mo, .inr (13, MF 30 (va_up (rf (rs v Q (o + 1)) ((i + 5) + 1) br) 7 (.int (nI (skipH f n ((i + 5) + 1))))))), (qx, .inl (cB, NN, .inl f)), (Q.qq, .inl (cI, (8 * Q.C), .inl Q.qf)), (Q.qe, .inl (cL, (3 * Q.C), .inr (.inl Q.ef))), (tv, .inr (12, MF 13 (tw V))), (V.au, .inl (cC, V.U, .inl V.un))]) [4, 5, 0, 1, 2, 3] rfl
                              have hD := hD.sub (ws' := [(mo, .inr (13, MF 30 (va_up (rf (rs v Q (o + 1)) ((i + 5) + 1) br) 7 (.int (nI (skipH f n ((i + 5) + 1))))))), (qx, .inl (cB, NN, .inl f)), (Q.qq, .inl (cI, (8 * Q.C), .inl Q.qf)), (Q.qe, .inl (cL, (3 * Q.C), .inr (.inl Q.ef))), (tv, .inr (12, MF 13 (tw V))), (V.au, .inl (cC, V.U, .inl V.un))]) [4, 5, 0, 1, 2, 3] (by decide) rfl
                              rw [rf_u7] at hP hD
                              have hP : va_P (dC, dI) classes [(mo, .inr (13, MF 30 (rf (rs v Q (o + 1)) (skipH f n ((i + 5) + 1)) br))), (qx, .inl (cB, NN, .inl f)), (Q.qq, .inl (cI, (8 * Q.C), .inl Q.qf)), (Q.qe, .inl (cL, (3 * Q.C), .inr (.inl Q.ef))), (tv, .inr (12, MF 13 (tw V))), (V.au, .inl (cC, V.U, .inl V.un))] H := hP
                              have hD : va_D A [(mo, .inr (13, MF 30 (rf (rs v Q (o + 1)) (skipH f n ((i + 5) + 1)) br))), (qx, .inl (cB, NN, .inl f)), (Q.qq, .inl (cI, (8 * Q.C), .inl Q.qf)), (Q.qe, .inl (cL, (3 * Q.C), .inr (.inl Q.ef))), (tv, .inr (12, MF 13 (tw V))), (V.au, .inl (cC, V.U, .inl V.un))] := hD
                              have hsk_332 := skipH_n (f := f) (show ((i + 5) + 1) ≤ n by omega)
                              refine lv_aload_n hx hb d_Mo_comparable_332 rfl (lv_at hl 1 rfl) ?_
                              refine lv_iload_n hx hb d_Mo_comparable_333 rfl (lv_at hl 0 rfl) ?_
                              refine lv_bipush (v := 108) hx hb d_Mo_comparable_334 (by decide) ?_
                              refine lv_icmp_ne (tgt := 344) hx hb d_Mo_comparable_336 (by decide) (fun _ => ?_) (fun h => absurd h c257)
                              refine lv_iload_n hx hb d_Mo_comparable_344 rfl (lv_at hl 0 rfl) ?_
                              refine lv_bipush (v := 99) hx hb d_Mo_comparable_345 (by decide) ?_
                              refine lv_icmp_ne (tgt := 355) hx hb d_Mo_comparable_347 (by decide) (fun _ => ?_) (fun h => absurd h c263)
                              refine lv_bipush (v := 48) hx hb d_Mo_comparable_355 (by decide) ?_
                              have hPc := hP.sub (ws' := [(mo, .inr (13, MF 30 (rf (rs v Q (o + 1)) (skipH f n ((i + 5) + 1)) br))), (Q.qq, .inl (cI, (8 * Q.C), .inl Q.qf)), (Q.qe, .inl (cL, (3 * Q.C), .inr (.inl Q.ef)))]) [0, 2, 3] rfl
                              have hDc := hD.sub (ws' := [(mo, .inr (13, MF 30 (rf (rs v Q (o + 1)) (skipH f n ((i + 5) + 1)) br))), (Q.qq, .inl (cI, (8 * Q.C), .inl Q.qf)), (Q.qe, .inl (cL, (3 * Q.C), .inr (.inl Q.ef)))]) [0, 2, 3] (by decide) rfl
                              have hKc := hK.sub (tys' := [(cI, .int), (cL, .long)]) [1, 2] rfl
                              have hFc := va_free (wc := [(mo, .inr (13, MF 30 (rf (rs v Q (o + 1)) (skipH f n ((i + 5) + 1)) br))), (Q.qq, .inl (cI, (8 * Q.C), .inl Q.qf)), (Q.qe, .inl (cL, (3 * Q.C), .inr (.inl Q.ef)))]) hD hS hA [0, 2, 3] rfl
                              refine w_same (fun hq0 => ?_)
                              refine va_calli (va_runV (As := [.int 48]) (rest := []) ⟨hx, hb, hml, hown, hts⟩ (c_Mo_row l dC dI mo H v cI cL Q (o + 1) (skipH f n ((i + 5) + 1)) br 48 hQk_Q) (cwV 1 hts (gt_V (own := R_Mo) (C := R_Mo) (i := 269) (y := y_Mo_row) i_Mo_row w_1407 w_1409 (gt_sel (y := y_Mo_row) (n := 30) (by decide +kernel)) w_7) rfl rfl rfl (by decide +kernel) ⟨Nat.le_trans (m := 11) (Nat.le_of_ble_eq_true rfl) (Nat.le_add_right 11 (15 + G)), Nat.le_trans (m := 400) (Nat.le_of_ble_eq_true rfl) (Nat.le_add_right 400 (600 + M))⟩) ⟨mp_blind, va_recv hKc hPc (ci := 13) (q0 := 0) rfl rfl, fun U hU hW => ⟨rfl, hU, by rw [hU]; exact hPc, va_K.moved hW.alike hKc, hDc.weaken (fun _ _ _ _ => trivial)⟩⟩ rfl rfl hl.1 rfl (lv_room (Nat.le_of_ble_eq_true rfl)) d_Mo_comparable_357 ⟨(QAd.fit hG_QV hQk_Q (by omega)).1, (QAd.fit hG_QV hQk_Q (by omega)).2⟩) hS (fun q _ h => hFc q h) hFc (fun r0 Q1 t9 H1 locs ht hvm hw hB hz1 hk1 hS => ?_)
                              obtain ⟨⟨hP1, hK1, hD1⟩, hz9⟩ := hB
                              rw [ht] at hP1
                              rw [ht] at hz9
                              obtain ⟨hr0, hA_Q1⟩ := hw
                              have hA_Q1 : QAd Q Q1 48 := hA_Q1
                              obtain ⟨hQk_Q1, hGa, hGb, hGd, hR_Q1⟩ := hA_Q1.gq hQk_Q (by omega) V
                              obtain ⟨hG_Q1V, hGc, hGs⟩ := hG_QV.tr hGa (show Q.R + 1 ≤ Q.R + 8 * (n - i) + 1 by omega) (Nat.zero_le _)
                              have hGc := Nat.le_trans (Nat.add_le_add_left hGb _) hGc
                              have hGs := Nat.le_trans (Nat.add_le_add_left hGd _) hGs
                              have hq1 : szk s.heap H1 (cQ Q V Q1 V) (sQ Q V Q1 V) := (hq0.trans hz9).mono hGc hGs
                              refine w_tight hq1 ?_
                              obtain ⟨hP, hD⟩ := va_join (wr := [(qx, .inl (cB, NN, .inl f)), (tv, .inr (12, MF 13 (tw V))), (V.au, .inl (cC, V.U, .inl V.un))]) (w1 := [(mo, .inr (13, MF 30 (rf (rs v Q1 (o + 1)) (skipH f n ((i + 5) + 1)) br))), (Q1.qq, .inl (cI, (8 * Q1.C), .inl Q1.qf)), (Q1.qe, .inl (cL, (3 * Q1.C), .inr (.inl Q1.ef)))]) hP hD [0, 2, 3] [1, 4, 5] rfl rfl (by decide) (by decide) hk1 hFc hP1 hD1
                              generalize H1 = H at hP hS ⊢
                              have hP : va_P (dC, dI) classes [(qx, .inl (cB, NN, .inl f)), (tv, .inr (12, MF 13 (tw V))), (V.au, .inl (cC, V.U, .inl V.un)), (mo, .inr (13, MF 30 (rf (rs v Q1 (o + 1)) (skipH f n ((i + 5) + 1)) br))), (Q1.qq, .inl (cI, (8 * Q1.C), .inl Q1.qf)), (Q1.qe, .inl (cL, (3 * Q1.C), .inr (.inl Q1.ef)))] H := hP
                              have hD : va_D A [(qx, .inl (cB, NN, .inl f)), (tv, .inr (12, MF 13 (tw V))), (V.au, .inl (cC, V.U, .inl V.un)), (mo, .inr (13, MF 30 (rf (rs v Q1 (o + 1)) (skipH f n ((i + 5) + 1)) br))), (Q1.qq, .inl (cI, (8 * Q1.C), .inl Q1.qf)), (Q1.qe, .inl (cL, (3 * Q1.C), .inr (.inl Q1.ef)))] := hD
                              have hP := hP.sub (ws' := [(mo, .inr (13, MF 30 (rf (rs v Q1 (o + 1)) (skipH f n ((i + 5) + 1)) br))), (qx, .inl (cB, NN, .inl f)), (tv, .inr (12, MF 13 (tw V))), (V.au, .inl (cC, V.U, .inl V.un)), (Q1.qq, .inl (cI, (8 * Q1.C), .inl Q1.qf)), (Q1.qe, .inl (cL, (3 * Q1.C), .inr (.inl Q1.ef)))]) [3, 0, 1, 2, 4, 5] rfl
                              have hD := hD.sub (ws' := [(mo, .inr (13, MF 30 (rf (rs v Q1 (o + 1)) (skipH f n ((i + 5) + 1)) br))), (qx, .inl (cB, NN, .inl f)), (tv, .inr (12, MF 13 (tw V))), (V.au, .inl (cC, V.U, .inl V.un)), (Q1.qq, .inl (cI, (8 * Q1.C), .inl Q1.qf)), (Q1.qe, .inl (cL, (3 * Q1.C), .inr (.inl Q1.ef)))]) [3, 0, 1, 2, 4, 5] (by decide) rfl
                              have hP := hP.sub (ws' := [(mo, .inr (13, MF 30 (rf (rs v Q1 (o + 1)) (skipH f n ((i + 5) + 1)) br))), (qx, .inl (cB, NN, .inl f)), (Q1.qq, .inl (cI, (8 * Q1.C), .inl Q1.qf)), (Q1.qe, .inl (cL, (3 * Q1.C), .inr (.inl Q1.ef))), (tv, .inr (12, MF 13 (tw V))), (V.au, .inl (cC, V.U, .inl V.un))]) [0, 1, 4, 5, 2, 3] rfl
                              have hD := hD.sub (ws' := [(mo, .inr (13, MF 30 (rf (rs v Q1 (o + 1)) (skipH f n ((i + 5) + 1)) br))), (qx, .inl (cB, NN, .inl f)), (Q1.qq, .inl (cI, (8 * Q1.C), .inl Q1.qf)), (Q1.qe, .inl (cL, (3 * Q1.C), .inr (.inl Q1.ef))), (tv, .inr (12, MF 13 (tw V))), (V.au, .inl (cC, V.U, .inl V.un))]) [0, 1, 4, 5, 2, 3] (by decide) rfl
                              have hr0 : r0 = nI Q.R := hr0
                              subst hr0
                              have hqb_Q1V : Q1.R ≤ Q1.C ∧ Q1.C ≤ 100000 := ⟨hQk_Q1.2.2.1, hQk_Q1.2.1⟩
                              have hfit_Q1V := hG_Q1V.fits
                              have hE_Q1 : alr Q V Q1 V 0 Q.R := ⟨fun r9 k9 _ h1 h2 => hA_Q1.2.2.1 _ (by omega), ⟨fun r9 k9 _ h1 h2 => hA_Q1.2.2.2.1.2 _ (by omega), Nat.le_refl _, fun _ _ => rfl⟩⟩
                              have hk0_Q1 : Q1.qf (8 * Q.R + 0) = 48 := hA_Q1.2.2.2.2.1
                              have hl1_Q1 : Q1.qf (8 * Q.R + 1) = -1 := hA_Q1.2.2.2.2.2 1 (by decide) (by decide)
                              have hEx_Q1V : alr Q V Q1 V 0 Q.R := hE_Q1
                              refine lv_istore_n (lv' := [(2, .int (nI Q.R)), (1, .int r1), (0, .ref mo)]) hx hb d_Mo_comparable_360 rfl hl (by decide) rfl (fun ls hl => ?_)
                              refine lv_iload_n hx hb d_Mo_comparable_361 rfl (lv_at hl 1 rfl) ?_
                              refine lv_bipush (v := 108) hx hb d_Mo_comparable_362 (by decide) ?_
                              refine lv_icmp_ne (tgt := 375) hx hb d_Mo_comparable_364 (by decide) (fun _ => ?_) (fun h => absurd h c257)
                              refine lv_aload_n hx hb d_Mo_comparable_375 rfl (lv_at hl 2 rfl) ?_
                              have hPc := hP.sub (ws' := [(mo, .inr (13, MF 30 (rf (rs v Q1 (o + 1)) (skipH f n ((i + 5) + 1)) br))), (qx, .inl (cB, NN, .inl f))]) [0, 1] rfl
                              have hDc := hD.sub (ws' := [(mo, .inr (13, MF 30 (rf (rs v Q1 (o + 1)) (skipH f n ((i + 5) + 1)) br))), (qx, .inl (cB, NN, .inl f))]) [0, 1] (by decide) rfl
                              have hKc := hK.sub (tys' := [(cB, .byte)]) [0] rfl
                              have hFc := va_free (wc := [(mo, .inr (13, MF 30 (rf (rs v Q1 (o + 1)) (skipH f n ((i + 5) + 1)) br))), (qx, .inl (cB, NN, .inl f))]) hD hS hA [0, 1] rfl
                              refine va_calli (va_runV (As := []) (rest := []) ⟨hx, hb, hml, hown, hts⟩ (c_Mo_c l dC dI mo H (rf (rs v Q1 (o + 1)) (skipH f n ((i + 5) + 1)) br) cB qx NN f n (skipH f n ((i + 5) + 1)) (by omega) (by omega) (by omega) ((rf_ne (by decide) (by decide)).trans ((rs_ne (by decide) (by decide) (by decide) (by decide)).trans h6)) rf_7 ((rf_ne (by decide) (by decide)).trans ((rs_ne (by decide) (by decide) (by decide) (by decide)).trans h8))) (cwV 0 hts (gt_V (own := R_Mo) (C := R_Mo) (i := 147) (y := y_Mo_c) i_Mo_c w_1233 w_1235 (gt_sel (y := y_Mo_c) (n := 30) (by decide +kernel)) w_7) rfl rfl rfl (by decide +kernel) ⟨Nat.le_trans (m := 11) (Nat.le_of_ble_eq_true rfl) (Nat.le_add_right 11 (15 + G)), Nat.le_trans (m := 400) (Nat.le_of_ble_eq_true rfl) (Nat.le_add_right 400 (600 + M))⟩) ⟨mp_blind, va_recv hKc hPc (ci := 13) (q0 := 0) rfl rfl, fun U hU hW => ⟨rfl, hU, by rw [hU]; exact hPc, va_K.moved hW.alike hKc, hDc.weaken (fun _ _ _ _ => trivial)⟩⟩ rfl rfl hl.1 rfl (lv_room (Nat.le_of_ble_eq_true rfl)) d_Mo_comparable_376 ⟨hfit_Q1V.1, hfit_Q1V.2⟩) hS (fun q _ h => hFc q h) hFc (fun r6 _u t9 H1 locs ht hvm hw hB hz1 hk1 hS => ?_)
                              obtain ⟨hP1, hK1, hD1⟩ := hB
                              rw [ht] at hP1
                              obtain ⟨hP, hD⟩ := va_join (wr := [(Q1.qq, .inl (cI, (8 * Q1.C), .inl Q1.qf)), (Q1.qe, .inl (cL, (3 * Q1.C), .inr (.inl Q1.ef))), (tv, .inr (12, MF 13 (tw V))), (V.au, .inl (cC, V.U, .inl V.un))]) (w1 := [(mo, .inr (13, MF 30 (rf (rs v Q1 (o + 1)) (skipH f n ((i + 5) + 1)) br))), (qx, .inl (cB, NN, .inl f))]) hP hD [0, 1] [2, 3, 4, 5] rfl rfl (by decide) (by decide) hk1 hFc hP1 hD1
                              generalize H1 = H at hP hS ⊢
                              have hP : va_P (dC, dI) classes [(Q1.qq, .inl (cI, (8 * Q1.C), .inl Q1.qf)), (Q1.qe, .inl (cL, (3 * Q1.C), .inr (.inl Q1.ef))), (tv, .inr (12, MF 13 (tw V))), (V.au, .inl (cC, V.U, .inl V.un)), (mo, .inr (13, MF 30 (rf (rs v Q1 (o + 1)) (skipH f n ((i + 5) + 1)) br))), (qx, .inl (cB, NN, .inl f))] H := hP
                              have hD : va_D A [(Q1.qq, .inl (cI, (8 * Q1.C), .inl Q1.qf)), (Q1.qe, .inl (cL, (3 * Q1.C), .inr (.inl Q1.ef))), (tv, .inr (12, MF 13 (tw V))), (V.au, .inl (cC, V.U, .inl V.un)), (mo, .inr (13, MF 30 (rf (rs v Q1 (o + 1)) (skipH f n ((i + 5) + 1)) br))), (qx, .inl (cB, NN, .inl f))] := hD
                              have hP := hP.sub (ws' := [(mo, .inr (13, MF 30 (rf (rs v Q1 (o + 1)) (skipH f n ((i + 5) + 1)) br))), (qx, .inl (cB, NN, .inl f)), (Q1.qq, .inl (cI, (8 * Q1.C), .inl Q1.qf)), (Q1.qe, .inl (cL, (3 * Q1.C), .inr (.inl Q1.ef))), (tv, .inr (12, MF 13 (tw V))), (V.au, .inl (cC, V.U, .inl V.un))]) [4, 5, 0, 1, 2, 3] rfl
                              have hD := hD.sub (ws' := [(mo, .inr (13, MF 30 (rf (rs v Q1 (o + 1)) (skipH f n ((i + 5) + 1)) br))), (qx, .inl (cB, NN, .inl f)), (Q1.qq, .inl (cI, (8 * Q1.C), .inl Q1.qf)), (Q1.qe, .inl (cL, (3 * Q1.C), .inr (.inl Q1.ef))), (tv, .inr (12, MF 13 (tw V))), (V.au, .inl (cC, V.U, .inl V.un))]) [4, 5, 0, 1, 2, 3] (by decide) rfl
                              have h_r6 : r6 = hereV f n (skipH f n ((i + 5) + 1)) := hw
                              refine lv_bipush (v := 64) hx hb d_Mo_comparable_379 (by decide) ?_
                              refine lv_icmp_eq (tgt := 393) hx hb d_Mo_comparable_381 (by decide) (fun c381 => ?_) (fun c381 => ?_)
                              · refine lv_aload_n hx hb d_Mo_comparable_393 rfl (lv_at hl 2 rfl) ?_
                                have hPc := hP.sub (ws' := [(mo, .inr (13, MF 30 (rf (rs v Q1 (o + 1)) (skipH f n ((i + 5) + 1)) br))), (qx, .inl (cB, NN, .inl f))]) [0, 1] rfl
                                have hDc := hD.sub (ws' := [(mo, .inr (13, MF 30 (rf (rs v Q1 (o + 1)) (skipH f n ((i + 5) + 1)) br))), (qx, .inl (cB, NN, .inl f))]) [0, 1] (by decide) rfl
                                have hKc := hK.sub (tys' := [(cB, .byte)]) [0] rfl
                                have hFc := va_free (wc := [(mo, .inr (13, MF 30 (rf (rs v Q1 (o + 1)) (skipH f n ((i + 5) + 1)) br))), (qx, .inl (cB, NN, .inl f))]) hD hS hA [0, 1] rfl
                                refine va_calli (va_runV (As := []) (rest := []) ⟨hx, hb, hml, hown, hts⟩ (c_Mo_c l dC dI mo H (rf (rs v Q1 (o + 1)) (skipH f n ((i + 5) + 1)) br) cB qx NN f n (skipH f n ((i + 5) + 1)) (by omega) (by omega) (by omega) ((rf_ne (by decide) (by decide)).trans ((rs_ne (by decide) (by decide) (by decide) (by decide)).trans h6)) rf_7 ((rf_ne (by decide) (by decide)).trans ((rs_ne (by decide) (by decide) (by decide) (by decide)).trans h8))) (cwV 0 hts (gt_V (own := R_Mo) (C := R_Mo) (i := 147) (y := y_Mo_c) i_Mo_c w_1233 w_1235 (gt_sel (y := y_Mo_c) (n := 30) (by decide +kernel)) w_7) rfl rfl rfl (by decide +kernel) ⟨Nat.le_trans (m := 11) (Nat.le_of_ble_eq_true rfl) (Nat.le_add_right 11 (15 + G)), Nat.le_trans (m := 400) (Nat.le_of_ble_eq_true rfl) (Nat.le_add_right 400 (600 + M))⟩) ⟨mp_blind, va_recv hKc hPc (ci := 13) (q0 := 0) rfl rfl, fun U hU hW => ⟨rfl, hU, by rw [hU]; exact hPc, va_K.moved hW.alike hKc, hDc.weaken (fun _ _ _ _ => trivial)⟩⟩ rfl rfl hl.1 rfl (lv_room (Nat.le_of_ble_eq_true rfl)) d_Mo_comparable_394 ⟨hfit_Q1V.1, hfit_Q1V.2⟩) hS (fun q _ h => hFc q h) hFc (fun r8 _u t9 H1 locs ht hvm hw hB hz1 hk1 hS => ?_)
                                obtain ⟨hP1, hK1, hD1⟩ := hB
                                rw [ht] at hP1
                                obtain ⟨hP, hD⟩ := va_join (wr := [(Q1.qq, .inl (cI, (8 * Q1.C), .inl Q1.qf)), (Q1.qe, .inl (cL, (3 * Q1.C), .inr (.inl Q1.ef))), (tv, .inr (12, MF 13 (tw V))), (V.au, .inl (cC, V.U, .inl V.un))]) (w1 := [(mo, .inr (13, MF 30 (rf (rs v Q1 (o + 1)) (skipH f n ((i + 5) + 1)) br))), (qx, .inl (cB, NN, .inl f))]) hP hD [0, 1] [2, 3, 4, 5] rfl rfl (by decide) (by decide) hk1 hFc hP1 hD1
                                generalize H1 = H at hP hS ⊢
                                have hP : va_P (dC, dI) classes [(Q1.qq, .inl (cI, (8 * Q1.C), .inl Q1.qf)), (Q1.qe, .inl (cL, (3 * Q1.C), .inr (.inl Q1.ef))), (tv, .inr (12, MF 13 (tw V))), (V.au, .inl (cC, V.U, .inl V.un)), (mo, .inr (13, MF 30 (rf (rs v Q1 (o + 1)) (skipH f n ((i + 5) + 1)) br))), (qx, .inl (cB, NN, .inl f))] H := hP
                                have hD : va_D A [(Q1.qq, .inl (cI, (8 * Q1.C), .inl Q1.qf)), (Q1.qe, .inl (cL, (3 * Q1.C), .inr (.inl Q1.ef))), (tv, .inr (12, MF 13 (tw V))), (V.au, .inl (cC, V.U, .inl V.un)), (mo, .inr (13, MF 30 (rf (rs v Q1 (o + 1)) (skipH f n ((i + 5) + 1)) br))), (qx, .inl (cB, NN, .inl f))] := hD
                                have hP := hP.sub (ws' := [(mo, .inr (13, MF 30 (rf (rs v Q1 (o + 1)) (skipH f n ((i + 5) + 1)) br))), (qx, .inl (cB, NN, .inl f)), (Q1.qq, .inl (cI, (8 * Q1.C), .inl Q1.qf)), (Q1.qe, .inl (cL, (3 * Q1.C), .inr (.inl Q1.ef))), (tv, .inr (12, MF 13 (tw V))), (V.au, .inl (cC, V.U, .inl V.un))]) [4, 5, 0, 1, 2, 3] rfl
                                have hD := hD.sub (ws' := [(mo, .inr (13, MF 30 (rf (rs v Q1 (o + 1)) (skipH f n ((i + 5) + 1)) br))), (qx, .inl (cB, NN, .inl f)), (Q1.qq, .inl (cI, (8 * Q1.C), .inl Q1.qf)), (Q1.qe, .inl (cL, (3 * Q1.C), .inr (.inl Q1.ef))), (tv, .inr (12, MF 13 (tw V))), (V.au, .inl (cC, V.U, .inl V.un))]) [4, 5, 0, 1, 2, 3] (by decide) rfl
                                have h_r8 : r8 = hereV f n (skipH f n ((i + 5) + 1)) := hw
                                refine lv_bipush (v := 36) hx hb d_Mo_comparable_397 (by decide) ?_
                                refine lv_icmp_ne (tgt := 406) hx hb d_Mo_comparable_399 (by decide) (fun _ => ?_) (fun h => absurd h (fun h => absurd ((c381.symm.trans (h_r6.trans h_r8.symm)).trans h) (by decide)))
                                refine lv_iconst (v := 0) hx hb d_Mo_comparable_406 (by decide) ?_
                                refine lv_istore (lv' := [(4, .int 0), (2, .int (nI Q.R)), (1, .int r1), (0, .ref mo)]) hx hb d_Mo_comparable_407 hl (by decide) rfl (fun ls hl => ?_)
                                refine lv_aload_n hx hb d_Mo_comparable_409 rfl (lv_at hl 3 rfl) ?_
                                refine lv_dup hx hb d_Mo_comparable_410 rfl ?_
                                refine va_get (D := (dC, dI)) (ci := 13) (v := .int (nI (skipH f n ((i + 5) + 1)))) (C := R_Mo) (T := F_Mo) (N := 30) hx hb hts in_Mo hown hK hP 0 rfl rfl 7 (by decide) (hts _ w_1096) (fun _ h9 => h9) (MFg (by decide) rf_7) d_Mo_comparable_411 ?_
                                refine lv_iconst (v := 1) hx hb d_Mo_comparable_414 (by decide) ?_
                                refine lv_iadd hx hb d_Mo_comparable_415 ?_
                                have hbeg : begC (hereV f n (skipH f n ((i + 5) + 1))) := Or.inl (h_r6.symm.trans c381)
                                have hltb : (skipH f n ((i + 5) + 1)) < n := hbeg.elim (fun h => here_in h (by decide)) (fun h => here_in h (by decide))
                                have hrtb : decide (hereV f n (skipH f n ((i + 5) + 1)) = 36) = false := decide_eq_false (by rw [← h_r6, c381]; decide)
                                refine W.eq (g2 := F0 m 416 ls [.int (nI ((skipH f n ((i + 5) + 1)) + 1)), .ref mo]) (by rw [show ((nI (skipH f n ((i + 5) + 1))) + 1) = (nI ((skipH f n ((i + 5) + 1)) + 1)) from nI_1 _]) ?_
                                refine va_put (D := (dC, dI)) (ci := 13) (v := .int (nI ((skipH f n ((i + 5) + 1)) + 1))) (ty := .int) (C := R_Mo) (T := F_Mo) (N := 30) hx hb hts in_Mo t_Mo t_Mo_ok n_Mo hown hK hP hD hS 0 rfl rfl 7 (by decide) (hts _ w_1096) (fun _ h9 => h9) rfl (by decide +kernel) rfl rfl (by rw [MFl]; decide) d_Mo_comparable_416 (fun H locs hP hD hS => ?_)
                                rw [MFs (n := 30) (k := 7) (by decide)] at hP hD
                                have hP : va_P (dC, dI) classes [(mo, .inr (13, MF 30 (va_up (rf (rs v Q1 (o + 1)) (skipH f n ((i + 5) + 1)) br) 7 (.int (nI ((skipH f n ((i + 5) + 1)) + 1)))))), (qx, .inl (cB, NN, .inl f)), (Q1.qq, .inl (cI, (8 * Q1.C), .inl Q1.qf)), (Q1.qe, .inl (cL, (3 * Q1.C), .inr (.inl Q1.ef))), (tv, .inr (12, MF 13 (tw V))), (V.au, .inl (cC, V.U, .inl V.un))] H := hP
                                have hD : va_D A [(mo, .inr (13, MF 30 (va_up (rf (rs v Q1 (o + 1)) (skipH f n ((i + 5) + 1)) br) 7 (.int (nI ((skipH f n ((i + 5) + 1)) + 1)))))), (qx, .inl (cB, NN, .inl f)), (Q1.qq, .inl (cI, (8 * Q1.C), .inl Q1.qf)), (Q1.qe, .inl (cL, (3 * Q1.C), .inr (.inl Q1.ef))), (tv, .inr (12, MF 13 (tw V))), (V.au, .inl (cC, V.U, .inl V.un))] := hD
                                rw [rf_u7] at hP hD
                                have hP : va_P (dC, dI) classes [(mo, .inr (13, MF 30 (rf (rs v Q1 (o + 1)) ((skipH f n ((i + 5) + 1)) + 1) br))), (qx, .inl (cB, NN, .inl f)), (Q1.qq, .inl (cI, (8 * Q1.C), .inl Q1.qf)), (Q1.qe, .inl (cL, (3 * Q1.C), .inr (.inl Q1.ef))), (tv, .inr (12, MF 13 (tw V))), (V.au, .inl (cC, V.U, .inl V.un))] H := hP
                                have hD : va_D A [(mo, .inr (13, MF 30 (rf (rs v Q1 (o + 1)) ((skipH f n ((i + 5) + 1)) + 1) br))), (qx, .inl (cB, NN, .inl f)), (Q1.qq, .inl (cI, (8 * Q1.C), .inl Q1.qf)), (Q1.qe, .inl (cL, (3 * Q1.C), .inr (.inl Q1.ef))), (tv, .inr (12, MF 13 (tw V))), (V.au, .inl (cC, V.U, .inl V.un))] := hD
                                refine lv_aload_n hx hb d_Mo_comparable_419 rfl (lv_at hl 3 rfl) ?_
                                refine lv_iload hx hb d_Mo_comparable_420 (lv_at hl 0 rfl) ?_
                                refine lv_iconst (v := 0) hx hb d_Mo_comparable_422 (by decide) ?_
                                have hPc := hP.sub (ws' := [(mo, .inr (13, MF 30 (rf (rs v Q1 (o + 1)) ((skipH f n ((i + 5) + 1)) + 1) br))), (qx, .inl (cB, NN, .inl f)), (Q1.qq, .inl (cI, (8 * Q1.C), .inl Q1.qf)), (Q1.qe, .inl (cL, (3 * Q1.C), .inr (.inl Q1.ef))), (tv, .inr (12, MF 13 (tw V))), (V.au, .inl (cC, V.U, .inl V.un))]) [0, 1, 2, 3, 4, 5] rfl
                                have hDc := hD.sub (ws' := [(mo, .inr (13, MF 30 (rf (rs v Q1 (o + 1)) ((skipH f n ((i + 5) + 1)) + 1) br))), (qx, .inl (cB, NN, .inl f)), (Q1.qq, .inl (cI, (8 * Q1.C), .inl Q1.qf)), (Q1.qe, .inl (cL, (3 * Q1.C), .inr (.inl Q1.ef))), (tv, .inr (12, MF 13 (tw V))), (V.au, .inl (cC, V.U, .inl V.un))]) [0, 1, 2, 3, 4, 5] (by decide) rfl
                                have hKc := hK.sub (tys' := [(cB, .byte), (cI, .int), (cL, .long), (cC, .char)]) [0, 1, 2, 3] rfl
                                have hFc := va_free (wc := [(mo, .inr (13, MF 30 (rf (rs v Q1 (o + 1)) ((skipH f n ((i + 5) + 1)) + 1) br))), (qx, .inl (cB, NN, .inl f)), (Q1.qq, .inl (cI, (8 * Q1.C), .inl Q1.qf)), (Q1.qe, .inl (cL, (3 * Q1.C), .inr (.inl Q1.ef))), (tv, .inr (12, MF 13 (tw V))), (V.au, .inl (cC, V.U, .inl V.un))]) hD hS hA [0, 1, 2, 3, 4, 5] rfl
                                refine w_same (fun hq0 => ?_)
                                refine va_calli (va_runV (As := [.int 0, .int 0]) (rest := []) ⟨hx, hb, hml, hown, hts⟩ (hQY hn1.2 l dC dI mo H v cB cI cL cC qx NN f n K tv Q1 V ((skipH f n ((i + 5) + 1)) + 1) br false 0 (by decide) hnN hNN (by omega) h6 h8 h22 hQk_Q1 hTk_V (by omega) (by omega)) (cwV 2 hts (gt_V (own := R_Mo) (C := R_Mo) (i := 317) (y := y_Mo_queryRest) i_Mo_queryRest w_1403 w_1405 (gt_sel (y := y_Mo_queryRest) (n := 30) (by decide +kernel)) w_7) rfl rfl rfl (by decide +kernel) ⟨by show 10 + G + 1 ≤ 11 + (15 + G); omega, by show 8 + (7 + 11) + (320 + M) ≤ 400 + (600 + M); omega⟩) ⟨me_blind, va_recv hKc hPc (ci := 13) (q0 := 0) rfl rfl, fun U hU hW => ⟨rfl, ⟨hU, by rw [hU]; exact hPc, va_K.moved hW.alike hKc, hDc.weaken (fun _ _ _ _ => trivial)⟩, by rw [hU]; exact ME.call hM hS.2.1 hFc hW⟩⟩ rfl rfl hl.1 rfl (lv_room (Nat.le_of_ble_eq_true rfl)) d_Mo_comparable_423 ⟨(hG_Q1V.step (B2 := Q1.R + 8 * (n - ((skipH f n ((i + 5) + 1)) + 1)) + 9) (C2 := V.us + (n + 12 - ((skipH f n ((i + 5) + 1)) + 1))) (by omega) (by omega)).1, (hG_Q1V.step (B2 := Q1.R + 8 * (n - ((skipH f n ((i + 5) + 1)) + 1)) + 9) (C2 := V.us + (n + 12 - ((skipH f n ((i + 5) + 1)) + 1))) (by omega) (by omega)).2⟩) hS (fun q _ h => hFc q h) hFc (fun r0 ⟨Q2, V2, j2, b2, o2⟩ t9 H1 locs ht hvm hw hB hz1 hk1 hS => ?_)
                                obtain ⟨⟨hP1, hK1, hD1⟩, hz9⟩ := hB
                                rw [ht] at hP1
                                rw [ht] at hz9
                                obtain ⟨⟨hQk_Q2, hGn, hTXs, hR1_Q2, hR2_Q2⟩, hw⟩ := hw
                                have hQk_Q2 : QOK Q2 := hQk_Q2
                                obtain ⟨hG_Q2V2, hGc, hGs⟩ := hG_Q1V.tr hGn (by omega) (by omega)
                                have hR1_Q2 : Q1.R ≤ Q2.R := hR1_Q2
                                have hR2_Q2 : Q2.R ≤ Q1.R + 8 * (n - ((skipH f n ((i + 5) + 1)) + 1)) + 9 := hR2_Q2
                                obtain ⟨us2, hX_V2, hln_V2⟩ := hTXs
                                have hX_V2 : TX V V2 us2 := hX_V2
                                have hXs_V2 := hX_V2.us
                                have hz9 : szk H H1 (cQ Q1 V Q2 V2) (sQ Q1 V Q2 V2) := hz9
                                have hq1 : szk s.heap H1 (cQ Q V Q2 V2) (sQ Q V Q2 V2) := (hq0.trans hz9).mono hGc hGs
                                refine w_tight hq1 ?_
                                obtain ⟨hP, hD⟩ := va_join (wr := []) (w1 := [(mo, .inr (13, MF 30 (rf (rs v Q2 o2) j2 b2))), (qx, .inl (cB, NN, .inl f)), (Q2.qq, .inl (cI, (8 * Q2.C), .inl Q2.qf)), (Q2.qe, .inl (cL, (3 * Q2.C), .inr (.inl Q2.ef))), (tv, .inr (12, MF 13 (tw V2))), (V2.au, .inl (cC, V2.U, .inl V2.un))]) hP hD [0, 1, 2, 3, 4, 5] [] rfl rfl (by decide) (by decide) hk1 hFc hP1 hD1
                                generalize H1 = H at hP hS ⊢
                                have hP : va_P (dC, dI) classes [(mo, .inr (13, MF 30 (rf (rs v Q2 o2) j2 b2))), (qx, .inl (cB, NN, .inl f)), (Q2.qq, .inl (cI, (8 * Q2.C), .inl Q2.qf)), (Q2.qe, .inl (cL, (3 * Q2.C), .inr (.inl Q2.ef))), (tv, .inr (12, MF 13 (tw V2))), (V2.au, .inl (cC, V2.U, .inl V2.un))] H := hP
                                have hD : va_D A [(mo, .inr (13, MF 30 (rf (rs v Q2 o2) j2 b2))), (qx, .inl (cB, NN, .inl f)), (Q2.qq, .inl (cI, (8 * Q2.C), .inl Q2.qf)), (Q2.qe, .inl (cL, (3 * Q2.C), .inr (.inl Q2.ef))), (tv, .inr (12, MF 13 (tw V2))), (V2.au, .inl (cC, V2.U, .inl V2.un))] := hD
                                have hP := hP.sub (ws' := [(mo, .inr (13, MF 30 (rf (rs v Q2 o2) j2 b2))), (qx, .inl (cB, NN, .inl f)), (tv, .inr (12, MF 13 (tw V2))), (Q2.qq, .inl (cI, (8 * Q2.C), .inl Q2.qf)), (Q2.qe, .inl (cL, (3 * Q2.C), .inr (.inl Q2.ef))), (V2.au, .inl (cC, V2.U, .inl V2.un))]) [0, 1, 4, 2, 3, 5] rfl
                                have hD := hD.sub (ws' := [(mo, .inr (13, MF 30 (rf (rs v Q2 o2) j2 b2))), (qx, .inl (cB, NN, .inl f)), (tv, .inr (12, MF 13 (tw V2))), (Q2.qq, .inl (cI, (8 * Q2.C), .inl Q2.qf)), (Q2.qe, .inl (cL, (3 * Q2.C), .inr (.inl Q2.ef))), (V2.au, .inl (cC, V2.U, .inl V2.un))]) [0, 1, 4, 2, 3, 5] (by decide) rfl
                                have hP := hP.sub (ws' := [(mo, .inr (13, MF 30 (rf (rs v Q2 o2) j2 b2))), (qx, .inl (cB, NN, .inl f)), (Q2.qq, .inl (cI, (8 * Q2.C), .inl Q2.qf)), (Q2.qe, .inl (cL, (3 * Q2.C), .inr (.inl Q2.ef))), (tv, .inr (12, MF 13 (tw V2))), (V2.au, .inl (cC, V2.U, .inl V2.un))]) [0, 1, 3, 4, 2, 5] rfl
                                have hD := hD.sub (ws' := [(mo, .inr (13, MF 30 (rf (rs v Q2 o2) j2 b2))), (qx, .inl (cB, NN, .inl f)), (Q2.qq, .inl (cI, (8 * Q2.C), .inl Q2.qf)), (Q2.qe, .inl (cL, (3 * Q2.C), .inr (.inl Q2.ef))), (tv, .inr (12, MF 13 (tw V2))), (V2.au, .inl (cC, V2.U, .inl V2.un))]) [0, 1, 3, 4, 2, 5] (by decide) rfl
                                have hTk_V2 := hX_V2.ok hTk_V (by omega)
                                have hqb_Q2V2 : Q2.R ≤ Q2.C ∧ Q2.C ≤ 100000 := ⟨hQk_Q2.2.2.1, hQk_Q2.2.1⟩
                                have hfit_Q2V2 := hG_Q2V2.fits
                                rcases hw with ⟨fl, g9, hv_1, hv_2, hv_3, hv_5, hv_6, hv_7, hv_8, hv_9, hv_10⟩ | ⟨hv_1, hv_2⟩
                                · have hv_10 : (o + 1) = o2 := hv_10.symm
                                  subst hv_10
                                  have hP : va_P (dC, dI) classes [(mo, .inr (13, MF 30 (rf (rs v Q2 (o + 1)) j2 b2))), (qx, .inl (cB, NN, .inl f)), (Q2.qq, .inl (cI, (8 * Q2.C), .inl Q2.qf)), (Q2.qe, .inl (cL, (3 * Q2.C), .inr (.inl Q2.ef))), (tv, .inr (12, MF 13 (tw V2))), (V2.au, .inl (cC, V2.U, .inl V2.un))] H := hP
                                  have hD : va_D A [(mo, .inr (13, MF 30 (rf (rs v Q2 (o + 1)) j2 b2))), (qx, .inl (cB, NN, .inl f)), (Q2.qq, .inl (cI, (8 * Q2.C), .inl Q2.qf)), (Q2.qe, .inl (cL, (3 * Q2.C), .inr (.inl Q2.ef))), (tv, .inr (12, MF 13 (tw V2))), (V2.au, .inl (cC, V2.U, .inl V2.un))] := hD
                                  have hv_2 : qyL f n (decide (hereV f n (skipH f n ((i + 5) + 1)) = 36)) ((skipH f n ((i + 5) + 1)) + 1) = some (j2, fl, g9) := by rw [hrtb]; exact hv_2
                                  have hv_3 : Y Q2 V2 Q1.R Q2.R Q1.R g9 := hv_3
                                  have hv_5 : alr Q1 V Q2 V2 0 Q1.R := hv_5
                                  have hv_6 : Q2.R + 8 * ((skipH f n ((i + 5) + 1)) + 1) ≤ Q1.R + 8 * j2 + 1 := hv_6
                                  have hv_7 : V2.us + ((skipH f n ((i + 5) + 1)) + 1) ≤ V.us + j2 := hv_7
                                  have hv_8 : j2 ≤ n := hv_8
                                  have hv_9 : Q1.R < Q2.R := hv_9
                                  subst hv_1
                                  have hfA : fnA f n (cmL f n) (qyL f n) i (skipH f n ((i + 5) + 1)) = some (j2, onlO g9) := fnA_v hfx hbeg hv_2
                                  have hk0_Q2 : Q2.qf (8 * Q.R + 0) = 48 := (hv_5.1 _ 0 (Nat.zero_le _) (by omega) (by decide)).trans hk0_Q1
                                  have hl1_Q2 : Q2.qf (8 * Q.R + 1) = -1 := (hv_5.1 _ 1 (Nat.zero_le _) (by omega) (by decide)).trans hl1_Q1
                                  have hEx_Q2V2 : alr Q V Q2 V2 0 Q.R := hEx_Q1V.tr (hv_5.sub (Nat.le_refl _) (by omega))
                                  refine lv_istore_n (lv' := [(3, .int (nI Q1.R)), (4, .int 0), (2, .int (nI Q.R)), (1, .int r1), (0, .ref mo)]) hx hb d_Mo_comparable_426 rfl hl (by decide) rfl (fun ls hl => ?_)
                                  refine lv_goto (tgt := 441) hx hb d_Mo_comparable_427 (by decide) ?_
                                  refine lv_iload_n hx hb d_Mo_comparable_441 rfl (lv_at hl 0 rfl) ?_
                                  refine lv_if_ge (tgt := 447) hx hb d_Mo_comparable_442 (by decide) (fun _ => ?_) (fun h => absurd (nI_pos' (by omega)) h)
                                  refine lv_aload_n hx hb d_Mo_comparable_447 rfl (lv_at hl 4 rfl) ?_
                                  refine lv_iload_n hx hb d_Mo_comparable_448 rfl (lv_at hl 2 rfl) ?_
                                  refine lv_iconst (v := 2) hx hb d_Mo_comparable_449 (by decide) ?_
                                  refine lv_iload_n hx hb d_Mo_comparable_450 rfl (lv_at hl 0 rfl) ?_
                                  refine W.eq (g2 := F0 m 451 ls [.int (nI Q1.R), .int (nI 2), .int (nI Q.R), .ref mo]) rfl ?_
                                  have hPc := hP.sub (ws' := [(mo, .inr (13, MF 30 (rf (rs v Q2 (o + 1)) j2 b2))), (Q2.qq, .inl (cI, (8 * Q2.C), .inl Q2.qf))]) [0, 2] rfl
                                  have hDc := hD.sub (ws' := [(mo, .inr (13, MF 30 (rf (rs v Q2 (o + 1)) j2 b2))), (Q2.qq, .inl (cI, (8 * Q2.C), .inl Q2.qf))]) [0, 2] (by decide) rfl
                                  have hKc := hK.sub (tys' := [(cI, .int)]) [1] rfl
                                  have hFc := va_free (wc := [(mo, .inr (13, MF 30 (rf (rs v Q2 (o + 1)) j2 b2))), (Q2.qq, .inl (cI, (8 * Q2.C), .inl Q2.qf))]) hD hS hA [0, 2] rfl
                                  refine va_callv (va_runV (As := [.int (nI Q.R), .int (nI 2), .int (nI Q1.R)]) (rest := []) ⟨hx, hb, hml, hown, hts⟩ (c_Mo_set l dC dI mo H (rf (rs v Q2 (o + 1)) j2 b2) cI Q2.qq (8 * Q2.C) Q2.qf Q.R 2 ((nI Q1.R)) (by omega) (by omega) ((rf_ne (by decide) (by decide)).trans rs_19)) (cwV 3 hts (gt_V (own := R_Mo) (C := R_Mo) (i := 272) (y := y_Mo_set) i_Mo_set w_1411 w_1413 (gt_sel (y := y_Mo_set) (n := 30) (by decide +kernel)) w_7) rfl rfl rfl (by decide +kernel) ⟨Nat.le_trans (m := 11) (Nat.le_of_ble_eq_true rfl) (Nat.le_add_right 11 (15 + G)), Nat.le_trans (m := 400) (Nat.le_of_ble_eq_true rfl) (Nat.le_add_right 400 (600 + M))⟩) ⟨mp_blind, va_recv hKc hPc (ci := 13) (q0 := 0) rfl rfl, fun U hU hW => ⟨rfl, hU, by rw [hU]; exact hPc, va_K.moved hW.alike hKc, hDc.weaken (fun _ _ _ _ => trivial)⟩⟩ rfl rfl hl.1 rfl (lv_room (Nat.le_of_ble_eq_true rfl)) d_Mo_comparable_451 ⟨hfit_Q2V2.1, hfit_Q2V2.2⟩) hS (fun q _ h => hFc q h) hFc (fun _u t9 H1 locs ht hvm hw hB hz1 hk1 hS => ?_)
                                  obtain ⟨hP1, hK1, hD1⟩ := hB
                                  rw [ht] at hP1
                                  obtain ⟨hP, hD⟩ := va_join (wr := [(qx, .inl (cB, NN, .inl f)), (Q2.qe, .inl (cL, (3 * Q2.C), .inr (.inl Q2.ef))), (tv, .inr (12, MF 13 (tw V2))), (V2.au, .inl (cC, V2.U, .inl V2.un))]) (w1 := [(mo, .inr (13, MF 30 (rf (rs v Q2 (o + 1)) j2 b2))), (Q2.qq, .inl (cI, (8 * Q2.C), .inl (upd Q2.qf (8 * Q.R + 2) ((nI Q1.R)))))]) hP hD [0, 2] [1, 3, 4, 5] rfl rfl (by decide) (by decide) hk1 hFc hP1 hD1
                                  generalize H1 = H at hP hS ⊢
                                  have hP : va_P (dC, dI) classes [(qx, .inl (cB, NN, .inl f)), (Q2.qe, .inl (cL, (3 * Q2.C), .inr (.inl Q2.ef))), (tv, .inr (12, MF 13 (tw V2))), (V2.au, .inl (cC, V2.U, .inl V2.un)), (mo, .inr (13, MF 30 (rf (rs v Q2 (o + 1)) j2 b2))), (Q2.qq, .inl (cI, (8 * Q2.C), .inl (upd Q2.qf (8 * Q.R + 2) ((nI Q1.R)))))] H := hP
                                  have hD : va_D A [(qx, .inl (cB, NN, .inl f)), (Q2.qe, .inl (cL, (3 * Q2.C), .inr (.inl Q2.ef))), (tv, .inr (12, MF 13 (tw V2))), (V2.au, .inl (cC, V2.U, .inl V2.un)), (mo, .inr (13, MF 30 (rf (rs v Q2 (o + 1)) j2 b2))), (Q2.qq, .inl (cI, (8 * Q2.C), .inl (upd Q2.qf (8 * Q.R + 2) ((nI Q1.R)))))] := hD
                                  have hP := hP.sub (ws' := [(mo, .inr (13, MF 30 (rf (rs v Q2 (o + 1)) j2 b2))), (qx, .inl (cB, NN, .inl f)), (Q2.qq, .inl (cI, (8 * Q2.C), .inl (upd Q2.qf (8 * Q.R + 2) ((nI Q1.R))))), (Q2.qe, .inl (cL, (3 * Q2.C), .inr (.inl Q2.ef))), (tv, .inr (12, MF 13 (tw V2))), (V2.au, .inl (cC, V2.U, .inl V2.un))]) [4, 0, 5, 1, 2, 3] rfl
                                  have hD := hD.sub (ws' := [(mo, .inr (13, MF 30 (rf (rs v Q2 (o + 1)) j2 b2))), (qx, .inl (cB, NN, .inl f)), (Q2.qq, .inl (cI, (8 * Q2.C), .inl (upd Q2.qf (8 * Q.R + 2) ((nI Q1.R))))), (Q2.qe, .inl (cL, (3 * Q2.C), .inr (.inl Q2.ef))), (tv, .inr (12, MF 13 (tw V2))), (V2.au, .inl (cC, V2.U, .inl V2.un))]) [4, 0, 5, 1, 2, 3] (by decide) rfl
                                  obtain ⟨Q3, e_Q3⟩ : ∃ z : QS, z = QS.wf Q2 (upd Q2.qf (8 * Q.R + 2) ((nI Q1.R))) := ⟨_, rfl⟩
                                  have hP : va_P (dC, dI) classes [(mo, .inr (13, MF 30 (rf (rs v Q3 (o + 1)) j2 b2))), (qx, .inl (cB, NN, .inl f)), (Q3.qq, .inl (cI, (8 * Q3.C), .inl Q3.qf)), (Q3.qe, .inl (cL, (3 * Q3.C), .inr (.inl Q3.ef))), (tv, .inr (12, MF 13 (tw V2))), (V2.au, .inl (cC, V2.U, .inl V2.un))] H := by subst e_Q3; exact hP
                                  have hD : va_D A [(mo, .inr (13, MF 30 (rf (rs v Q3 (o + 1)) j2 b2))), (qx, .inl (cB, NN, .inl f)), (Q3.qq, .inl (cI, (8 * Q3.C), .inl Q3.qf)), (Q3.qe, .inl (cL, (3 * Q3.C), .inr (.inl Q3.ef))), (tv, .inr (12, MF 13 (tw V2))), (V2.au, .inl (cC, V2.U, .inl V2.un))] := by subst e_Q3; exact hD
                                  have hf_Q3 : Q3.C = Q2.C ∧ Q3.R = Q2.R ∧ Q3.qf = upd Q2.qf (8 * Q.R + 2) ((nI Q1.R)) := by rw [e_Q3]; exact ⟨rfl, rfl, rfl⟩
                                  have he_Q3 : Q3.ef = Q2.ef := by rw [e_Q3]; rfl
                                  have hQk_Q3 : QOK Q3 := by rw [e_Q3]; exact hQk_Q2
                                  have hG_Q3V2 : GQ (Q.R + 8 * (n - i) + 1) (V.us + (n + 12 - i)) Q V Q3 V2 := by unfold GQ at hG_Q2V2 ⊢; rw [hf_Q3.1]; exact hG_Q2V2
                                  refine w_same (fun hq => ?_)
                                  refine w_tight (k := cQ Q V Q3 V2) (n := sQ Q V Q3 V2) (by unfold cQ sQ at hq ⊢; rw [hf_Q3.1]; exact hq) ?_
                                  have hR_Q3 := hf_Q3.2.1
                                  have hqb_Q3V2 : Q3.R ≤ Q3.C ∧ Q3.C ≤ 100000 := ⟨hQk_Q3.2.2.1, hQk_Q3.2.1⟩
                                  have hfit_Q3V2 := hG_Q3V2.fits
                                  have hk0_Q3 : Q3.qf (8 * Q.R + 0) = 48 := by rw [hf_Q3.2.2, pk_un (by omega)]; exact hk0_Q2
                                  have hl1_Q3 : Q3.qf (8 * Q.R + 1) = -1 := by rw [hf_Q3.2.2, pk_un (by omega)]; exact hl1_Q2
                                  have hEx_Q3V2 : alr Q V Q3 V2 0 Q.R := hEx_Q2V2.tr (alr.upd hf_Q3.2.2 he_Q3 (by decide) (by omega))
                                  refine lv_aload_n hx hb d_Mo_comparable_454 rfl (lv_at hl 4 rfl) ?_
                                  have hPc := hP.sub (ws' := [(mo, .inr (13, MF 30 (rf (rs v Q3 (o + 1)) j2 b2))), (qx, .inl (cB, NN, .inl f))]) [0, 1] rfl
                                  have hDc := hD.sub (ws' := [(mo, .inr (13, MF 30 (rf (rs v Q3 (o + 1)) j2 b2))), (qx, .inl (cB, NN, .inl f))]) [0, 1] (by decide) rfl
                                  have hKc := hK.sub (tys' := [(cB, .byte)]) [0] rfl
                                  have hFc := va_free (wc := [(mo, .inr (13, MF 30 (rf (rs v Q3 (o + 1)) j2 b2))), (qx, .inl (cB, NN, .inl f))]) hD hS hA [0, 1] rfl
                                  refine va_callv (va_runV (As := []) (rest := []) ⟨hx, hb, hml, hown, hts⟩ (c_Mo_blanks l dC dI mo H (rf (rs v Q3 (o + 1)) j2 b2) cB qx NN f n j2 (by omega) (by omega) (by omega) ((rf_ne (by decide) (by decide)).trans ((rs_ne (by decide) (by decide) (by decide) (by decide)).trans h6)) rf_7 ((rf_ne (by decide) (by decide)).trans ((rs_ne (by decide) (by decide) (by decide) (by decide)).trans h8))) (cwV 0 hts (gt_V (own := R_Mo) (C := R_Mo) (i := 184) (y := y_Mo_blanks) i_Mo_blanks w_1229 w_1231 (gt_sel (y := y_Mo_blanks) (n := 30) (by decide +kernel)) w_7) rfl rfl rfl (by decide +kernel) ⟨Nat.le_trans (m := 11) (Nat.le_of_ble_eq_true rfl) (Nat.le_add_right 11 (15 + G)), Nat.le_trans (m := 400) (Nat.le_of_ble_eq_true rfl) (Nat.le_add_right 400 (600 + M))⟩) ⟨mp_blind, va_recv hKc hPc (ci := 13) (q0 := 0) rfl rfl, fun U hU hW => ⟨rfl, hU, by rw [hU]; exact hPc, va_K.moved hW.alike hKc, hDc.weaken (fun _ _ _ _ => trivial)⟩⟩ rfl rfl hl.1 rfl (lv_room (Nat.le_of_ble_eq_true rfl)) d_Mo_comparable_455 ⟨hfit_Q3V2.1, hfit_Q3V2.2⟩) hS (fun q _ h => hFc q h) hFc (fun _u t9 H1 locs ht hvm hw hB hz1 hk1 hS => ?_)
                                  obtain ⟨hP1, hK1, hD1⟩ := hB
                                  rw [ht] at hP1
                                  obtain ⟨hP, hD⟩ := va_join (wr := [(Q3.qq, .inl (cI, (8 * Q3.C), .inl Q3.qf)), (Q3.qe, .inl (cL, (3 * Q3.C), .inr (.inl Q3.ef))), (tv, .inr (12, MF 13 (tw V2))), (V2.au, .inl (cC, V2.U, .inl V2.un))]) (w1 := [(mo, .inr (13, MF 30 (va_up (rf (rs v Q3 (o + 1)) j2 b2) 7 (.int (nI (skipH f n j2)))))), (qx, .inl (cB, NN, .inl f))]) hP hD [0, 1] [2, 3, 4, 5] rfl rfl (by decide) (by decide) hk1 hFc hP1 hD1
                                  generalize H1 = H at hP hS ⊢
                                  have hP : va_P (dC, dI) classes [(Q3.qq, .inl (cI, (8 * Q3.C), .inl Q3.qf)), (Q3.qe, .inl (cL, (3 * Q3.C), .inr (.inl Q3.ef))), (tv, .inr (12, MF 13 (tw V2))), (V2.au, .inl (cC, V2.U, .inl V2.un)), (mo, .inr (13, MF 30 (va_up (rf (rs v Q3 (o + 1)) j2 b2) 7 (.int (nI (skipH f n j2)))))), (qx, .inl (cB, NN, .inl f))] H := hP
                                  have hD : va_D A [(Q3.qq, .inl (cI, (8 * Q3.C), .inl Q3.qf)), (Q3.qe, .inl (cL, (3 * Q3.C), .inr (.inl Q3.ef))), (tv, .inr (12, MF 13 (tw V2))), (V2.au, .inl (cC, V2.U, .inl V2.un)), (mo, .inr (13, MF 30 (va_up (rf (rs v Q3 (o + 1)) j2 b2) 7 (.int (nI (skipH f n j2)))))), (qx, .inl (cB, NN, .inl f))] := hD
                                  have hP := hP.sub (ws' := [(mo, .inr (13, MF 30 (va_up (rf (rs v Q3 (o + 1)) j2 b2) 7 (.int (nI (skipH f n j2)))))), (qx, .inl (cB, NN, .inl f)), (Q3.qq, .inl (cI, (8 * Q3.C), .inl Q3.qf)), (Q3.qe, .inl (cL, (3 * Q3.C), .inr (.inl Q3.ef))), (tv, .inr (12, MF 13 (tw V2))), (V2.au, .inl (cC, V2.U, .inl V2.un))]) [4, 5, 0, 1, 2, 3] rfl
                                  have hD := hD.sub (ws' := [(mo, .inr (13, MF 30 (va_up (rf (rs v Q3 (o + 1)) j2 b2) 7 (.int (nI (skipH f n j2)))))), (qx, .inl (cB, NN, .inl f)), (Q3.qq, .inl (cI, (8 * Q3.C), .inl Q3.qf)), (Q3.qe, .inl (cL, (3 * Q3.C), .inr (.inl Q3.ef))), (tv, .inr (12, MF 13 (tw V2))), (V2.au, .inl (cC, V2.U, .inl V2.un))]) [4, 5, 0, 1, 2, 3] (by decide) rfl
                                  rw [rf_u7] at hP hD
                                  have hP : va_P (dC, dI) classes [(mo, .inr (13, MF 30 (rf (rs v Q3 (o + 1)) (skipH f n j2) b2))), (qx, .inl (cB, NN, .inl f)), (Q3.qq, .inl (cI, (8 * Q3.C), .inl Q3.qf)), (Q3.qe, .inl (cL, (3 * Q3.C), .inr (.inl Q3.ef))), (tv, .inr (12, MF 13 (tw V2))), (V2.au, .inl (cC, V2.U, .inl V2.un))] H := hP
                                  have hD : va_D A [(mo, .inr (13, MF 30 (rf (rs v Q3 (o + 1)) (skipH f n j2) b2))), (qx, .inl (cB, NN, .inl f)), (Q3.qq, .inl (cI, (8 * Q3.C), .inl Q3.qf)), (Q3.qe, .inl (cL, (3 * Q3.C), .inr (.inl Q3.ef))), (tv, .inr (12, MF 13 (tw V2))), (V2.au, .inl (cC, V2.U, .inl V2.un))] := hD
                                  have hsk_458 := skipH_n (f := f) (show j2 ≤ n by omega)
                                  refine lv_aload_n hx hb d_Mo_comparable_458 rfl (lv_at hl 4 rfl) ?_
                                  refine lv_bipush (v := 41) hx hb d_Mo_comparable_459 (by decide) ?_
                                  have hPc := hP.sub (ws' := [(mo, .inr (13, MF 30 (rf (rs v Q3 (o + 1)) (skipH f n j2) b2))), (qx, .inl (cB, NN, .inl f))]) [0, 1] rfl
                                  have hDc := hD.sub (ws' := [(mo, .inr (13, MF 30 (rf (rs v Q3 (o + 1)) (skipH f n j2) b2))), (qx, .inl (cB, NN, .inl f))]) [0, 1] (by decide) rfl
                                  have hKc := hK.sub (tys' := [(cB, .byte)]) [0] rfl
                                  have hFc := va_free (wc := [(mo, .inr (13, MF 30 (rf (rs v Q3 (o + 1)) (skipH f n j2) b2))), (qx, .inl (cB, NN, .inl f))]) hD hS hA [0, 1] rfl
                                  refine va_calli (va_runV (As := [.int 41]) (rest := []) ⟨hx, hb, hml, hown, hts⟩ (c_Mo_shut l dC dI mo H (rf (rs v Q3 (o + 1)) (skipH f n j2) b2) cB qx NN f n (skipH f n j2) (by omega) (by omega) (by omega) ((rf_ne (by decide) (by decide)).trans ((rs_ne (by decide) (by decide) (by decide) (by decide)).trans h6)) rf_7 ((rf_ne (by decide) (by decide)).trans ((rs_ne (by decide) (by decide) (by decide) (by decide)).trans h8)) b2 rf_9 41 o ((rf_ne (by decide) (by decide)).trans rs_23)) (cwV 1 hts (gt_V (own := R_Mo) (C := R_Mo) (i := 297) (y := y_Mo_shut) i_Mo_shut w_1447 w_1449 (gt_sel (y := y_Mo_shut) (n := 30) (by decide +kernel)) w_7) rfl rfl rfl (by decide +kernel) ⟨Nat.le_trans (m := 11) (Nat.le_of_ble_eq_true rfl) (Nat.le_add_right 11 (15 + G)), Nat.le_trans (m := 400) (Nat.le_of_ble_eq_true rfl) (Nat.le_add_right 400 (600 + M))⟩) ⟨mp_blind, va_recv hKc hPc (ci := 13) (q0 := 0) rfl rfl, fun U hU hW => ⟨rfl, hU, by rw [hU]; exact hPc, va_K.moved hW.alike hKc, hDc.weaken (fun _ _ _ _ => trivial)⟩⟩ rfl rfl hl.1 rfl (lv_room (Nat.le_of_ble_eq_true rfl)) d_Mo_comparable_461 ⟨hfit_Q3V2.1, hfit_Q3V2.2⟩) hS (fun q _ h => hFc q h) hFc (fun r0 u2 t9 H1 locs ht hvm hw hB hz1 hk1 hS => ?_)
                                  obtain ⟨hP1, hK1, hD1⟩ := hB
                                  rw [ht] at hP1
                                  obtain ⟨hP, hD⟩ := va_join (wr := [(Q3.qq, .inl (cI, (8 * Q3.C), .inl Q3.qf)), (Q3.qe, .inl (cL, (3 * Q3.C), .inr (.inl Q3.ef))), (tv, .inr (12, MF 13 (tw V2))), (V2.au, .inl (cC, V2.U, .inl V2.un))]) (w1 := [(mo, .inr (13, MF 30 u2)), (qx, .inl (cB, NN, .inl f))]) hP hD [0, 1] [2, 3, 4, 5] rfl rfl (by decide) (by decide) hk1 hFc hP1 hD1
                                  generalize H1 = H at hP hS ⊢
                                  have hP : va_P (dC, dI) classes [(Q3.qq, .inl (cI, (8 * Q3.C), .inl Q3.qf)), (Q3.qe, .inl (cL, (3 * Q3.C), .inr (.inl Q3.ef))), (tv, .inr (12, MF 13 (tw V2))), (V2.au, .inl (cC, V2.U, .inl V2.un)), (mo, .inr (13, MF 30 u2)), (qx, .inl (cB, NN, .inl f))] H := hP
                                  have hD : va_D A [(Q3.qq, .inl (cI, (8 * Q3.C), .inl Q3.qf)), (Q3.qe, .inl (cL, (3 * Q3.C), .inr (.inl Q3.ef))), (tv, .inr (12, MF 13 (tw V2))), (V2.au, .inl (cC, V2.U, .inl V2.un)), (mo, .inr (13, MF 30 u2)), (qx, .inl (cB, NN, .inl f))] := hD
                                  have hP := hP.sub (ws' := [(mo, .inr (13, MF 30 u2)), (qx, .inl (cB, NN, .inl f)), (Q3.qq, .inl (cI, (8 * Q3.C), .inl Q3.qf)), (Q3.qe, .inl (cL, (3 * Q3.C), .inr (.inl Q3.ef))), (tv, .inr (12, MF 13 (tw V2))), (V2.au, .inl (cC, V2.U, .inl V2.un))]) [4, 5, 0, 1, 2, 3] rfl
                                  have hD := hD.sub (ws' := [(mo, .inr (13, MF 30 u2)), (qx, .inl (cB, NN, .inl f)), (Q3.qq, .inl (cI, (8 * Q3.C), .inl Q3.qf)), (Q3.qe, .inl (cL, (3 * Q3.C), .inr (.inl Q3.ef))), (tv, .inr (12, MF 13 (tw V2))), (V2.au, .inl (cC, V2.U, .inl V2.un))]) [4, 5, 0, 1, 2, 3] (by decide) rfl
                                  rcases hw with ⟨hn2, ht2, ht3⟩ | ⟨hn2, ht2, ht3⟩
                                  · rw [rf_u7, rs_o] at ht3
                                    rw [ht3] at hP hD
                                    subst ht2
                                    have hP : va_P (dC, dI) classes [(mo, .inr (13, MF 30 (rf (rs v Q3 o) ((skipH f n j2) + 1) b2))), (qx, .inl (cB, NN, .inl f)), (Q3.qq, .inl (cI, (8 * Q3.C), .inl Q3.qf)), (Q3.qe, .inl (cL, (3 * Q3.C), .inr (.inl Q3.ef))), (tv, .inr (12, MF 13 (tw V2))), (V2.au, .inl (cC, V2.U, .inl V2.un))] H := hP
                                    have hD : va_D A [(mo, .inr (13, MF 30 (rf (rs v Q3 o) ((skipH f n j2) + 1) b2))), (qx, .inl (cB, NN, .inl f)), (Q3.qq, .inl (cI, (8 * Q3.C), .inl Q3.qf)), (Q3.qe, .inl (cL, (3 * Q3.C), .inr (.inl Q3.ef))), (tv, .inr (12, MF 13 (tw V2))), (V2.au, .inl (cC, V2.U, .inl V2.un))] := hD
                                    refine lv_if_eq (tgt := 471) hx hb d_Mo_comparable_464 (by decide) (fun h => absurd h (by decide)) (fun _ => ?_)
                                    refine lv_iload_n hx hb d_Mo_comparable_467 rfl (lv_at hl 2 rfl) ?_
                                    refine lv_goto (tgt := 472) hx hb d_Mo_comparable_468 (by decide) ?_
                                    have hlt41 := here_in hn2 (by decide)
                                    have hfin : cmP f n ok (orL f n) (cmL f n) (qyL f n) i = some (((skipH f n j2) + 1), onlO g9) := by rw [hcm]; exact fnT_s hen hfA hn2
                                    have hW : Wth Y Q3 V2 Q.R Q3.R Q.R Q1.R g9 := Wth_up hYf hv_3 (by omega) (by omega) (by omega) (alr.upd hf_Q3.2.2 he_Q3 (by decide) (by omega))
                                    have hCF : CMPf O C Y Q3 V2 Q.R Q3.R Q.R (onlO g9) := ⟨by omega, by omega, Or.inr (Or.inr (Or.inr (Or.inr (Or.inr (Or.inr (Or.inr (Or.inr (⟨hk0_Q3, Q1.R, g9, by rw [hf_Q3.2.2]; exact pk_us, hW, rfl⟩))))))))⟩
                                    refine w_same (fun hq => ?_)
                                    refine W.widen (k := kcap Q (Q.R + 8 * (n - i) + 1) + qcap V (V.us + (n + 12 - i))) (n := 22 * kcap Q (Q.R + 8 * (n - i) + 1) + 2 * qcap V (V.us + (n + 12 - i))) hfit_Q3V2.1 hfit_Q3V2.2 ?_
                                    have hPo : QPo n i 1 Q V (Q3, V2, ((skipH f n j2) + 1), b2, o) := ⟨hQk_Q3, hG_Q3V2, ⟨_, hX_V2, by omega⟩, by show Q.R ≤ Q3.R; omega, by show Q3.R ≤ Q.R + 8 * (n - i) + 1; omega⟩
                                    exact W.iret (v := nI Q.R) hx hb hr (fun t9 ht hW => ⟨⟨nI Q.R, (Q3, V2, ((skipH f n j2) + 1), b2, o), rfl, ⟨hPo, Or.inl ⟨Q.R, onlO g9, rfl, hfin, hCF, by show Q.R < Q3.R; omega, hEx_Q3V2, by show Q3.R + 8 * i + 6 ≤ Q.R + 8 * ((skipH f n j2) + 1); omega, by show V2.us + i ≤ V.us + ((skipH f n j2) + 1); omega, by show ((skipH f n j2) + 1) ≤ n; omega, by show Q.R < Q3.R; omega, rfl⟩⟩, ⟨by rw [ht]; exact hP, va_K.moved hW.alike hK, hD⟩, by rw [ht]; exact hq⟩, hS.F ht⟩) hS.2.2 d_Mo_comparable_472
                                  · obtain ⟨b6, h_b6⟩ := rf_fail (v := (rs v Q3 (o + 1))) (i := (skipH f n j2)) (br := b2) (b2 := b2) (wh := nI (skipH f n j2))
                                    rw [h_b6] at ht3
                                    rw [ht3] at hP hD
                                    subst ht2
                                    have hP : va_P (dC, dI) classes [(mo, .inr (13, MF 30 (rf (rs v Q3 (o + 1)) (skipH f n j2) b6))), (qx, .inl (cB, NN, .inl f)), (Q3.qq, .inl (cI, (8 * Q3.C), .inl Q3.qf)), (Q3.qe, .inl (cL, (3 * Q3.C), .inr (.inl Q3.ef))), (tv, .inr (12, MF 13 (tw V2))), (V2.au, .inl (cC, V2.U, .inl V2.un))] H := hP
                                    have hD : va_D A [(mo, .inr (13, MF 30 (rf (rs v Q3 (o + 1)) (skipH f n j2) b6))), (qx, .inl (cB, NN, .inl f)), (Q3.qq, .inl (cI, (8 * Q3.C), .inl Q3.qf)), (Q3.qe, .inl (cL, (3 * Q3.C), .inr (.inl Q3.ef))), (tv, .inr (12, MF 13 (tw V2))), (V2.au, .inl (cC, V2.U, .inl V2.un))] := hD
                                    refine lv_if_eq (tgt := 471) hx hb d_Mo_comparable_464 (by decide) (fun _ => ?_) (fun h => absurd (by decide) h)
                                    refine lv_iconst (v := (-1)) hx hb d_Mo_comparable_471 (by decide) ?_
                                    have hfin : cmP f n ok (orL f n) (cmL f n) (qyL f n) i = none := by rw [hcm]; exact fnT_e hen hfA hn2
                                    refine w_same (fun hq => ?_)
                                    refine W.widen (k := kcap Q (Q.R + 8 * (n - i) + 1) + qcap V (V.us + (n + 12 - i))) (n := 22 * kcap Q (Q.R + 8 * (n - i) + 1) + 2 * qcap V (V.us + (n + 12 - i))) hfit_Q3V2.1 hfit_Q3V2.2 ?_
                                    have hPo : QPo n i 1 Q V (Q3, V2, (skipH f n j2), b6, (o + 1)) := ⟨hQk_Q3, hG_Q3V2, ⟨_, hX_V2, by omega⟩, by show Q.R ≤ Q3.R; omega, by show Q3.R ≤ Q.R + 8 * (n - i) + 1; omega⟩
                                    exact W.iret (v := -1) hx hb hr (fun t9 ht hW => ⟨⟨-1, (Q3, V2, (skipH f n j2), b6, (o + 1)), rfl, ⟨hPo, Or.inr ⟨rfl, hfin⟩⟩, ⟨by rw [ht]; exact hP, va_K.moved hW.alike hK, hD⟩, by rw [ht]; exact hq⟩, hS.F ht⟩) hS.2.2 d_Mo_comparable_472
                                · have hv_2 : qyL f n (decide (hereV f n (skipH f n ((i + 5) + 1)) = 36)) ((skipH f n ((i + 5) + 1)) + 1) = none := by rw [hrtb]; exact hv_2
                                  have hfA : fnA f n (cmL f n) (qyL f n) i (skipH f n ((i + 5) + 1)) = none := fnA_q0 (by rw [hfx]; decide) hbeg hv_2
                                  subst hv_1
                                  refine lv_istore_n (lv' := [(3, .int (-1)), (4, .int 0), (2, .int (nI Q.R)), (1, .int r1), (0, .ref mo)]) hx hb d_Mo_comparable_426 rfl hl (by decide) rfl (fun ls hl => ?_)
                                  refine lv_goto (tgt := 441) hx hb d_Mo_comparable_427 (by decide) ?_
                                  refine lv_iload_n hx hb d_Mo_comparable_441 rfl (lv_at hl 0 rfl) ?_
                                  refine lv_if_ge (tgt := 447) hx hb d_Mo_comparable_442 (by decide) (fun h => absurd h (by decide)) (fun _ => ?_)
                                  refine lv_iconst (v := (-1)) hx hb d_Mo_comparable_445 (by decide) ?_
                                  have hfin : cmP f n ok (orL f n) (cmL f n) (qyL f n) i = none := by rw [hcm]; exact fnT_a hen hfA
                                  refine w_same (fun hq => ?_)
                                  refine W.widen (k := kcap Q (Q.R + 8 * (n - i) + 1) + qcap V (V.us + (n + 12 - i))) (n := 22 * kcap Q (Q.R + 8 * (n - i) + 1) + 2 * qcap V (V.us + (n + 12 - i))) hfit_Q2V2.1 hfit_Q2V2.2 ?_
                                  have hPo : QPo n i 1 Q V (Q2, V2, j2, b2, o2) := ⟨hQk_Q2, hG_Q2V2, ⟨_, hX_V2, by omega⟩, by show Q.R ≤ Q2.R; omega, by show Q2.R ≤ Q.R + 8 * (n - i) + 1; omega⟩
                                  exact W.iret (v := -1) hx hb hr (fun t9 ht hW => ⟨⟨-1, (Q2, V2, j2, b2, o2), rfl, ⟨hPo, Or.inr ⟨rfl, hfin⟩⟩, ⟨by rw [ht]; exact hP, va_K.moved hW.alike hK, hD⟩, by rw [ht]; exact hq⟩, hS.F ht⟩) hS.2.2 d_Mo_comparable_446
                              · refine lv_aload_n hx hb d_Mo_comparable_384 rfl (lv_at hl 2 rfl) ?_
                                have hPc := hP.sub (ws' := [(mo, .inr (13, MF 30 (rf (rs v Q1 (o + 1)) (skipH f n ((i + 5) + 1)) br))), (qx, .inl (cB, NN, .inl f))]) [0, 1] rfl
                                have hDc := hD.sub (ws' := [(mo, .inr (13, MF 30 (rf (rs v Q1 (o + 1)) (skipH f n ((i + 5) + 1)) br))), (qx, .inl (cB, NN, .inl f))]) [0, 1] (by decide) rfl
                                have hKc := hK.sub (tys' := [(cB, .byte)]) [0] rfl
                                have hFc := va_free (wc := [(mo, .inr (13, MF 30 (rf (rs v Q1 (o + 1)) (skipH f n ((i + 5) + 1)) br))), (qx, .inl (cB, NN, .inl f))]) hD hS hA [0, 1] rfl
                                refine va_calli (va_runV (As := []) (rest := []) ⟨hx, hb, hml, hown, hts⟩ (c_Mo_c l dC dI mo H (rf (rs v Q1 (o + 1)) (skipH f n ((i + 5) + 1)) br) cB qx NN f n (skipH f n ((i + 5) + 1)) (by omega) (by omega) (by omega) ((rf_ne (by decide) (by decide)).trans ((rs_ne (by decide) (by decide) (by decide) (by decide)).trans h6)) rf_7 ((rf_ne (by decide) (by decide)).trans ((rs_ne (by decide) (by decide) (by decide) (by decide)).trans h8))) (cwV 0 hts (gt_V (own := R_Mo) (C := R_Mo) (i := 147) (y := y_Mo_c) i_Mo_c w_1233 w_1235 (gt_sel (y := y_Mo_c) (n := 30) (by decide +kernel)) w_7) rfl rfl rfl (by decide +kernel) ⟨Nat.le_trans (m := 11) (Nat.le_of_ble_eq_true rfl) (Nat.le_add_right 11 (15 + G)), Nat.le_trans (m := 400) (Nat.le_of_ble_eq_true rfl) (Nat.le_add_right 400 (600 + M))⟩) ⟨mp_blind, va_recv hKc hPc (ci := 13) (q0 := 0) rfl rfl, fun U hU hW => ⟨rfl, hU, by rw [hU]; exact hPc, va_K.moved hW.alike hKc, hDc.weaken (fun _ _ _ _ => trivial)⟩⟩ rfl rfl hl.1 rfl (lv_room (Nat.le_of_ble_eq_true rfl)) d_Mo_comparable_385 ⟨hfit_Q1V.1, hfit_Q1V.2⟩) hS (fun q _ h => hFc q h) hFc (fun r7 _u t9 H1 locs ht hvm hw hB hz1 hk1 hS => ?_)
                                obtain ⟨hP1, hK1, hD1⟩ := hB
                                rw [ht] at hP1
                                obtain ⟨hP, hD⟩ := va_join (wr := [(Q1.qq, .inl (cI, (8 * Q1.C), .inl Q1.qf)), (Q1.qe, .inl (cL, (3 * Q1.C), .inr (.inl Q1.ef))), (tv, .inr (12, MF 13 (tw V))), (V.au, .inl (cC, V.U, .inl V.un))]) (w1 := [(mo, .inr (13, MF 30 (rf (rs v Q1 (o + 1)) (skipH f n ((i + 5) + 1)) br))), (qx, .inl (cB, NN, .inl f))]) hP hD [0, 1] [2, 3, 4, 5] rfl rfl (by decide) (by decide) hk1 hFc hP1 hD1
                                generalize H1 = H at hP hS ⊢
                                have hP : va_P (dC, dI) classes [(Q1.qq, .inl (cI, (8 * Q1.C), .inl Q1.qf)), (Q1.qe, .inl (cL, (3 * Q1.C), .inr (.inl Q1.ef))), (tv, .inr (12, MF 13 (tw V))), (V.au, .inl (cC, V.U, .inl V.un)), (mo, .inr (13, MF 30 (rf (rs v Q1 (o + 1)) (skipH f n ((i + 5) + 1)) br))), (qx, .inl (cB, NN, .inl f))] H := hP
                                have hD : va_D A [(Q1.qq, .inl (cI, (8 * Q1.C), .inl Q1.qf)), (Q1.qe, .inl (cL, (3 * Q1.C), .inr (.inl Q1.ef))), (tv, .inr (12, MF 13 (tw V))), (V.au, .inl (cC, V.U, .inl V.un)), (mo, .inr (13, MF 30 (rf (rs v Q1 (o + 1)) (skipH f n ((i + 5) + 1)) br))), (qx, .inl (cB, NN, .inl f))] := hD
                                have hP := hP.sub (ws' := [(mo, .inr (13, MF 30 (rf (rs v Q1 (o + 1)) (skipH f n ((i + 5) + 1)) br))), (qx, .inl (cB, NN, .inl f)), (Q1.qq, .inl (cI, (8 * Q1.C), .inl Q1.qf)), (Q1.qe, .inl (cL, (3 * Q1.C), .inr (.inl Q1.ef))), (tv, .inr (12, MF 13 (tw V))), (V.au, .inl (cC, V.U, .inl V.un))]) [4, 5, 0, 1, 2, 3] rfl
                                have hD := hD.sub (ws' := [(mo, .inr (13, MF 30 (rf (rs v Q1 (o + 1)) (skipH f n ((i + 5) + 1)) br))), (qx, .inl (cB, NN, .inl f)), (Q1.qq, .inl (cI, (8 * Q1.C), .inl Q1.qf)), (Q1.qe, .inl (cL, (3 * Q1.C), .inr (.inl Q1.ef))), (tv, .inr (12, MF 13 (tw V))), (V.au, .inl (cC, V.U, .inl V.un))]) [4, 5, 0, 1, 2, 3] (by decide) rfl
                                have h_r7 : r7 = hereV f n (skipH f n ((i + 5) + 1)) := hw
                                refine lv_bipush (v := 36) hx hb d_Mo_comparable_388 (by decide) ?_
                                refine lv_icmp_ne (tgt := 430) hx hb d_Mo_comparable_390 (by decide) (fun c390 => ?_) (fun c390 => ?_)
                                · refine lv_aload_n hx hb d_Mo_comparable_430 rfl (lv_at hl 2 rfl) ?_
                                  refine lv_aload_n hx hb d_Mo_comparable_431 rfl (lv_at hl 2 rfl) ?_
                                  refine va_get (D := (dC, dI)) (ci := 13) (v := .int (nI (skipH f n ((i + 5) + 1)))) (C := R_Mo) (T := F_Mo) (N := 30) hx hb hts in_Mo hown hK hP 0 rfl rfl 7 (by decide) (hts _ w_1096) (fun _ h9 => h9) (MFg (by decide) rf_7) d_Mo_comparable_432 ?_
                                  have hPc := hP.sub (ws' := [(mo, .inr (13, MF 30 (rf (rs v Q1 (o + 1)) (skipH f n ((i + 5) + 1)) br)))]) [0] rfl
                                  have hDc := hD.sub (ws' := [(mo, .inr (13, MF 30 (rf (rs v Q1 (o + 1)) (skipH f n ((i + 5) + 1)) br)))]) [0] (by decide) rfl
                                  have hKc := hK.sub (tys' := []) [] rfl
                                  have hFc := va_free (wc := [(mo, .inr (13, MF 30 (rf (rs v Q1 (o + 1)) (skipH f n ((i + 5) + 1)) br)))]) hD hS hA [0] rfl
                                  refine va_calli (va_runV (As := [.int (nI (skipH f n ((i + 5) + 1)))]) (rest := []) ⟨hx, hb, hml, hown, hts⟩ (c_Mo_fail l dC dI mo H (rf (rs v Q1 (o + 1)) (skipH f n ((i + 5) + 1)) br) br ((nI (skipH f n ((i + 5) + 1)))) rf_9) (cwV 1 hts (gt_V (own := R_Mo) (C := R_Mo) (i := 151) (y := y_Mo_fail) i_Mo_fail w_1250 w_1252 (gt_sel (y := y_Mo_fail) (n := 30) (by decide +kernel)) w_7) rfl rfl rfl (by decide +kernel) ⟨Nat.le_trans (m := 11) (Nat.le_of_ble_eq_true rfl) (Nat.le_add_right 11 (15 + G)), Nat.le_trans (m := 400) (Nat.le_of_ble_eq_true rfl) (Nat.le_add_right 400 (600 + M))⟩) ⟨mp_blind, va_recv hKc hPc (ci := 13) (q0 := 0) rfl rfl, fun U hU hW => ⟨rfl, hU, by rw [hU]; exact hPc, va_K.moved hW.alike hKc, hDc.weaken (fun _ _ _ _ => trivial)⟩⟩ rfl rfl hl.1 rfl (lv_room (Nat.le_of_ble_eq_true rfl)) d_Mo_comparable_435 ⟨hfit_Q1V.1, hfit_Q1V.2⟩) hS (fun q _ h => hFc q h) hFc (fun r0 u2 t9 H1 locs ht hvm hw hB hz1 hk1 hS => ?_)
                                  obtain ⟨hP1, hK1, hD1⟩ := hB
                                  rw [ht] at hP1
                                  obtain ⟨hP, hD⟩ := va_join (wr := [(qx, .inl (cB, NN, .inl f)), (Q1.qq, .inl (cI, (8 * Q1.C), .inl Q1.qf)), (Q1.qe, .inl (cL, (3 * Q1.C), .inr (.inl Q1.ef))), (tv, .inr (12, MF 13 (tw V))), (V.au, .inl (cC, V.U, .inl V.un))]) (w1 := [(mo, .inr (13, MF 30 u2))]) hP hD [0] [1, 2, 3, 4, 5] rfl rfl (by decide) (by decide) hk1 hFc hP1 hD1
                                  generalize H1 = H at hP hS ⊢
                                  have hP : va_P (dC, dI) classes [(qx, .inl (cB, NN, .inl f)), (Q1.qq, .inl (cI, (8 * Q1.C), .inl Q1.qf)), (Q1.qe, .inl (cL, (3 * Q1.C), .inr (.inl Q1.ef))), (tv, .inr (12, MF 13 (tw V))), (V.au, .inl (cC, V.U, .inl V.un)), (mo, .inr (13, MF 30 u2))] H := hP
                                  have hD : va_D A [(qx, .inl (cB, NN, .inl f)), (Q1.qq, .inl (cI, (8 * Q1.C), .inl Q1.qf)), (Q1.qe, .inl (cL, (3 * Q1.C), .inr (.inl Q1.ef))), (tv, .inr (12, MF 13 (tw V))), (V.au, .inl (cC, V.U, .inl V.un)), (mo, .inr (13, MF 30 u2))] := hD
                                  have hP := hP.sub (ws' := [(mo, .inr (13, MF 30 u2)), (qx, .inl (cB, NN, .inl f)), (Q1.qq, .inl (cI, (8 * Q1.C), .inl Q1.qf)), (Q1.qe, .inl (cL, (3 * Q1.C), .inr (.inl Q1.ef))), (tv, .inr (12, MF 13 (tw V))), (V.au, .inl (cC, V.U, .inl V.un))]) [5, 0, 1, 2, 3, 4] rfl
                                  have hD := hD.sub (ws' := [(mo, .inr (13, MF 30 u2)), (qx, .inl (cB, NN, .inl f)), (Q1.qq, .inl (cI, (8 * Q1.C), .inl Q1.qf)), (Q1.qe, .inl (cL, (3 * Q1.C), .inr (.inl Q1.ef))), (tv, .inr (12, MF 13 (tw V))), (V.au, .inl (cC, V.U, .inl V.un))]) [5, 0, 1, 2, 3, 4] (by decide) rfl
                                  obtain ⟨b7, h_b7⟩ := rf_fail (v := (rs v Q1 (o + 1))) (i := (skipH f n ((i + 5) + 1))) (br := br) (b2 := br) (wh := (nI (skipH f n ((i + 5) + 1))))
                                  have hw : r0 = 0 ∧ u2 = _ := hw
                                  obtain ⟨hw1, hw2⟩ := hw
                                  rw [h_b7] at hw2
                                  rw [hw2] at hP hD
                                  subst hw1
                                  have hP : va_P (dC, dI) classes [(mo, .inr (13, MF 30 (rf (rs v Q1 (o + 1)) (skipH f n ((i + 5) + 1)) b7))), (qx, .inl (cB, NN, .inl f)), (Q1.qq, .inl (cI, (8 * Q1.C), .inl Q1.qf)), (Q1.qe, .inl (cL, (3 * Q1.C), .inr (.inl Q1.ef))), (tv, .inr (12, MF 13 (tw V))), (V.au, .inl (cC, V.U, .inl V.un))] H := hP
                                  have hD : va_D A [(mo, .inr (13, MF 30 (rf (rs v Q1 (o + 1)) (skipH f n ((i + 5) + 1)) b7))), (qx, .inl (cB, NN, .inl f)), (Q1.qq, .inl (cI, (8 * Q1.C), .inl Q1.qf)), (Q1.qe, .inl (cL, (3 * Q1.C), .inr (.inl Q1.ef))), (tv, .inr (12, MF 13 (tw V))), (V.au, .inl (cC, V.U, .inl V.un))] := hD
                                  refine lv_pop hx hb d_Mo_comparable_438 rfl ?_
                                  refine lv_iconst (v := (-1)) hx hb d_Mo_comparable_439 (by decide) ?_
                                  have hfin : cmP f n ok (orL f n) (cmL f n) (qyL f n) i = none := by rw [hcm]; exact fnT_a hen (fnA_b0 (by rw [hfx]; decide) (fun h => h.elim (fun q => c381 (h_r6.trans q)) (fun q => c390 (h_r7.trans q))))
                                  refine w_same (fun hq => ?_)
                                  refine W.widen (k := kcap Q (Q.R + 8 * (n - i) + 1) + qcap V (V.us + (n + 12 - i))) (n := 22 * kcap Q (Q.R + 8 * (n - i) + 1) + 2 * qcap V (V.us + (n + 12 - i))) hfit_Q1V.1 hfit_Q1V.2 ?_
                                  have hPo : QPo n i 1 Q V (Q1, V, (skipH f n ((i + 5) + 1)), b7, (o + 1)) := ⟨hQk_Q1, hG_Q1V, ⟨[], TX.rf hTk_V, Nat.zero_le _⟩, by show Q.R ≤ Q1.R; omega, by show Q1.R ≤ Q.R + 8 * (n - i) + 1; omega⟩
                                  exact W.iret (v := -1) hx hb hr (fun t9 ht hW => ⟨⟨-1, (Q1, V, (skipH f n ((i + 5) + 1)), b7, (o + 1)), rfl, ⟨hPo, Or.inr ⟨rfl, hfin⟩⟩, ⟨by rw [ht]; exact hP, va_K.moved hW.alike hK, hD⟩, by rw [ht]; exact hq⟩, hS.F ht⟩) hS.2.2 d_Mo_comparable_440
                                · refine lv_aload_n hx hb d_Mo_comparable_393 rfl (lv_at hl 2 rfl) ?_
                                  have hPc := hP.sub (ws' := [(mo, .inr (13, MF 30 (rf (rs v Q1 (o + 1)) (skipH f n ((i + 5) + 1)) br))), (qx, .inl (cB, NN, .inl f))]) [0, 1] rfl
                                  have hDc := hD.sub (ws' := [(mo, .inr (13, MF 30 (rf (rs v Q1 (o + 1)) (skipH f n ((i + 5) + 1)) br))), (qx, .inl (cB, NN, .inl f))]) [0, 1] (by decide) rfl
                                  have hKc := hK.sub (tys' := [(cB, .byte)]) [0] rfl
                                  have hFc := va_free (wc := [(mo, .inr (13, MF 30 (rf (rs v Q1 (o + 1)) (skipH f n ((i + 5) + 1)) br))), (qx, .inl (cB, NN, .inl f))]) hD hS hA [0, 1] rfl
                                  refine va_calli (va_runV (As := []) (rest := []) ⟨hx, hb, hml, hown, hts⟩ (c_Mo_c l dC dI mo H (rf (rs v Q1 (o + 1)) (skipH f n ((i + 5) + 1)) br) cB qx NN f n (skipH f n ((i + 5) + 1)) (by omega) (by omega) (by omega) ((rf_ne (by decide) (by decide)).trans ((rs_ne (by decide) (by decide) (by decide) (by decide)).trans h6)) rf_7 ((rf_ne (by decide) (by decide)).trans ((rs_ne (by decide) (by decide) (by decide) (by decide)).trans h8))) (cwV 0 hts (gt_V (own := R_Mo) (C := R_Mo) (i := 147) (y := y_Mo_c) i_Mo_c w_1233 w_1235 (gt_sel (y := y_Mo_c) (n := 30) (by decide +kernel)) w_7) rfl rfl rfl (by decide +kernel) ⟨Nat.le_trans (m := 11) (Nat.le_of_ble_eq_true rfl) (Nat.le_add_right 11 (15 + G)), Nat.le_trans (m := 400) (Nat.le_of_ble_eq_true rfl) (Nat.le_add_right 400 (600 + M))⟩) ⟨mp_blind, va_recv hKc hPc (ci := 13) (q0 := 0) rfl rfl, fun U hU hW => ⟨rfl, hU, by rw [hU]; exact hPc, va_K.moved hW.alike hKc, hDc.weaken (fun _ _ _ _ => trivial)⟩⟩ rfl rfl hl.1 rfl (lv_room (Nat.le_of_ble_eq_true rfl)) d_Mo_comparable_394 ⟨hfit_Q1V.1, hfit_Q1V.2⟩) hS (fun q _ h => hFc q h) hFc (fun r8 _u t9 H1 locs ht hvm hw hB hz1 hk1 hS => ?_)
                                  obtain ⟨hP1, hK1, hD1⟩ := hB
                                  rw [ht] at hP1
                                  obtain ⟨hP, hD⟩ := va_join (wr := [(Q1.qq, .inl (cI, (8 * Q1.C), .inl Q1.qf)), (Q1.qe, .inl (cL, (3 * Q1.C), .inr (.inl Q1.ef))), (tv, .inr (12, MF 13 (tw V))), (V.au, .inl (cC, V.U, .inl V.un))]) (w1 := [(mo, .inr (13, MF 30 (rf (rs v Q1 (o + 1)) (skipH f n ((i + 5) + 1)) br))), (qx, .inl (cB, NN, .inl f))]) hP hD [0, 1] [2, 3, 4, 5] rfl rfl (by decide) (by decide) hk1 hFc hP1 hD1
                                  generalize H1 = H at hP hS ⊢
                                  have hP : va_P (dC, dI) classes [(Q1.qq, .inl (cI, (8 * Q1.C), .inl Q1.qf)), (Q1.qe, .inl (cL, (3 * Q1.C), .inr (.inl Q1.ef))), (tv, .inr (12, MF 13 (tw V))), (V.au, .inl (cC, V.U, .inl V.un)), (mo, .inr (13, MF 30 (rf (rs v Q1 (o + 1)) (skipH f n ((i + 5) + 1)) br))), (qx, .inl (cB, NN, .inl f))] H := hP
                                  have hD : va_D A [(Q1.qq, .inl (cI, (8 * Q1.C), .inl Q1.qf)), (Q1.qe, .inl (cL, (3 * Q1.C), .inr (.inl Q1.ef))), (tv, .inr (12, MF 13 (tw V))), (V.au, .inl (cC, V.U, .inl V.un)), (mo, .inr (13, MF 30 (rf (rs v Q1 (o + 1)) (skipH f n ((i + 5) + 1)) br))), (qx, .inl (cB, NN, .inl f))] := hD
                                  have hP := hP.sub (ws' := [(mo, .inr (13, MF 30 (rf (rs v Q1 (o + 1)) (skipH f n ((i + 5) + 1)) br))), (qx, .inl (cB, NN, .inl f)), (Q1.qq, .inl (cI, (8 * Q1.C), .inl Q1.qf)), (Q1.qe, .inl (cL, (3 * Q1.C), .inr (.inl Q1.ef))), (tv, .inr (12, MF 13 (tw V))), (V.au, .inl (cC, V.U, .inl V.un))]) [4, 5, 0, 1, 2, 3] rfl
                                  have hD := hD.sub (ws' := [(mo, .inr (13, MF 30 (rf (rs v Q1 (o + 1)) (skipH f n ((i + 5) + 1)) br))), (qx, .inl (cB, NN, .inl f)), (Q1.qq, .inl (cI, (8 * Q1.C), .inl Q1.qf)), (Q1.qe, .inl (cL, (3 * Q1.C), .inr (.inl Q1.ef))), (tv, .inr (12, MF 13 (tw V))), (V.au, .inl (cC, V.U, .inl V.un))]) [4, 5, 0, 1, 2, 3] (by decide) rfl
                                  have h_r8 : r8 = hereV f n (skipH f n ((i + 5) + 1)) := hw
                                  refine lv_bipush (v := 36) hx hb d_Mo_comparable_397 (by decide) ?_
                                  refine lv_icmp_ne (tgt := 406) hx hb d_Mo_comparable_399 (by decide) (fun h => absurd h (fun q => q (h_r8.trans (h_r7.symm.trans c390)))) (fun _ => ?_)
                                  refine lv_iconst (v := 1) hx hb d_Mo_comparable_402 (by decide) ?_
                                  refine lv_goto (tgt := 407) hx hb d_Mo_comparable_403 (by decide) ?_
                                  refine lv_istore (lv' := [(4, .int 1), (2, .int (nI Q.R)), (1, .int r1), (0, .ref mo)]) hx hb d_Mo_comparable_407 hl (by decide) rfl (fun ls hl => ?_)
                                  refine lv_aload_n hx hb d_Mo_comparable_409 rfl (lv_at hl 3 rfl) ?_
                                  refine lv_dup hx hb d_Mo_comparable_410 rfl ?_
                                  refine va_get (D := (dC, dI)) (ci := 13) (v := .int (nI (skipH f n ((i + 5) + 1)))) (C := R_Mo) (T := F_Mo) (N := 30) hx hb hts in_Mo hown hK hP 0 rfl rfl 7 (by decide) (hts _ w_1096) (fun _ h9 => h9) (MFg (by decide) rf_7) d_Mo_comparable_411 ?_
                                  refine lv_iconst (v := 1) hx hb d_Mo_comparable_414 (by decide) ?_
                                  refine lv_iadd hx hb d_Mo_comparable_415 ?_
                                  have hbeg : begC (hereV f n (skipH f n ((i + 5) + 1))) := Or.inr (h_r7.symm.trans c390)
                                  have hltb : (skipH f n ((i + 5) + 1)) < n := hbeg.elim (fun h => here_in h (by decide)) (fun h => here_in h (by decide))
                                  have hrtb : decide (hereV f n (skipH f n ((i + 5) + 1)) = 36) = true := decide_eq_true (h_r7.symm.trans c390)
                                  refine W.eq (g2 := F0 m 416 ls [.int (nI ((skipH f n ((i + 5) + 1)) + 1)), .ref mo]) (by rw [show ((nI (skipH f n ((i + 5) + 1))) + 1) = (nI ((skipH f n ((i + 5) + 1)) + 1)) from nI_1 _]) ?_
                                  refine va_put (D := (dC, dI)) (ci := 13) (v := .int (nI ((skipH f n ((i + 5) + 1)) + 1))) (ty := .int) (C := R_Mo) (T := F_Mo) (N := 30) hx hb hts in_Mo t_Mo t_Mo_ok n_Mo hown hK hP hD hS 0 rfl rfl 7 (by decide) (hts _ w_1096) (fun _ h9 => h9) rfl (by decide +kernel) rfl rfl (by rw [MFl]; decide) d_Mo_comparable_416 (fun H locs hP hD hS => ?_)
                                  rw [MFs (n := 30) (k := 7) (by decide)] at hP hD
                                  have hP : va_P (dC, dI) classes [(mo, .inr (13, MF 30 (va_up (rf (rs v Q1 (o + 1)) (skipH f n ((i + 5) + 1)) br) 7 (.int (nI ((skipH f n ((i + 5) + 1)) + 1)))))), (qx, .inl (cB, NN, .inl f)), (Q1.qq, .inl (cI, (8 * Q1.C), .inl Q1.qf)), (Q1.qe, .inl (cL, (3 * Q1.C), .inr (.inl Q1.ef))), (tv, .inr (12, MF 13 (tw V))), (V.au, .inl (cC, V.U, .inl V.un))] H := hP
                                  have hD : va_D A [(mo, .inr (13, MF 30 (va_up (rf (rs v Q1 (o + 1)) (skipH f n ((i + 5) + 1)) br) 7 (.int (nI ((skipH f n ((i + 5) + 1)) + 1)))))), (qx, .inl (cB, NN, .inl f)), (Q1.qq, .inl (cI, (8 * Q1.C), .inl Q1.qf)), (Q1.qe, .inl (cL, (3 * Q1.C), .inr (.inl Q1.ef))), (tv, .inr (12, MF 13 (tw V))), (V.au, .inl (cC, V.U, .inl V.un))] := hD
                                  rw [rf_u7] at hP hD
                                  have hP : va_P (dC, dI) classes [(mo, .inr (13, MF 30 (rf (rs v Q1 (o + 1)) ((skipH f n ((i + 5) + 1)) + 1) br))), (qx, .inl (cB, NN, .inl f)), (Q1.qq, .inl (cI, (8 * Q1.C), .inl Q1.qf)), (Q1.qe, .inl (cL, (3 * Q1.C), .inr (.inl Q1.ef))), (tv, .inr (12, MF 13 (tw V))), (V.au, .inl (cC, V.U, .inl V.un))] H := hP
                                  have hD : va_D A [(mo, .inr (13, MF 30 (rf (rs v Q1 (o + 1)) ((skipH f n ((i + 5) + 1)) + 1) br))), (qx, .inl (cB, NN, .inl f)), (Q1.qq, .inl (cI, (8 * Q1.C), .inl Q1.qf)), (Q1.qe, .inl (cL, (3 * Q1.C), .inr (.inl Q1.ef))), (tv, .inr (12, MF 13 (tw V))), (V.au, .inl (cC, V.U, .inl V.un))] := hD
                                  refine lv_aload_n hx hb d_Mo_comparable_419 rfl (lv_at hl 3 rfl) ?_
                                  refine lv_iload hx hb d_Mo_comparable_420 (lv_at hl 0 rfl) ?_
                                  refine lv_iconst (v := 0) hx hb d_Mo_comparable_422 (by decide) ?_
                                  have hPc := hP.sub (ws' := [(mo, .inr (13, MF 30 (rf (rs v Q1 (o + 1)) ((skipH f n ((i + 5) + 1)) + 1) br))), (qx, .inl (cB, NN, .inl f)), (Q1.qq, .inl (cI, (8 * Q1.C), .inl Q1.qf)), (Q1.qe, .inl (cL, (3 * Q1.C), .inr (.inl Q1.ef))), (tv, .inr (12, MF 13 (tw V))), (V.au, .inl (cC, V.U, .inl V.un))]) [0, 1, 2, 3, 4, 5] rfl
                                  have hDc := hD.sub (ws' := [(mo, .inr (13, MF 30 (rf (rs v Q1 (o + 1)) ((skipH f n ((i + 5) + 1)) + 1) br))), (qx, .inl (cB, NN, .inl f)), (Q1.qq, .inl (cI, (8 * Q1.C), .inl Q1.qf)), (Q1.qe, .inl (cL, (3 * Q1.C), .inr (.inl Q1.ef))), (tv, .inr (12, MF 13 (tw V))), (V.au, .inl (cC, V.U, .inl V.un))]) [0, 1, 2, 3, 4, 5] (by decide) rfl
                                  have hKc := hK.sub (tys' := [(cB, .byte), (cI, .int), (cL, .long), (cC, .char)]) [0, 1, 2, 3] rfl
                                  have hFc := va_free (wc := [(mo, .inr (13, MF 30 (rf (rs v Q1 (o + 1)) ((skipH f n ((i + 5) + 1)) + 1) br))), (qx, .inl (cB, NN, .inl f)), (Q1.qq, .inl (cI, (8 * Q1.C), .inl Q1.qf)), (Q1.qe, .inl (cL, (3 * Q1.C), .inr (.inl Q1.ef))), (tv, .inr (12, MF 13 (tw V))), (V.au, .inl (cC, V.U, .inl V.un))]) hD hS hA [0, 1, 2, 3, 4, 5] rfl
                                  refine w_same (fun hq0 => ?_)
                                  refine va_calli (va_runV (As := [.int 1, .int 0]) (rest := []) ⟨hx, hb, hml, hown, hts⟩ (hQY hn1.2 l dC dI mo H v cB cI cL cC qx NN f n K tv Q1 V ((skipH f n ((i + 5) + 1)) + 1) br true 1 (by decide) hnN hNN (by omega) h6 h8 h22 hQk_Q1 hTk_V (by omega) (by omega)) (cwV 2 hts (gt_V (own := R_Mo) (C := R_Mo) (i := 317) (y := y_Mo_queryRest) i_Mo_queryRest w_1403 w_1405 (gt_sel (y := y_Mo_queryRest) (n := 30) (by decide +kernel)) w_7) rfl rfl rfl (by decide +kernel) ⟨by show 10 + G + 1 ≤ 11 + (15 + G); omega, by show 8 + (7 + 11) + (320 + M) ≤ 400 + (600 + M); omega⟩) ⟨me_blind, va_recv hKc hPc (ci := 13) (q0 := 0) rfl rfl, fun U hU hW => ⟨rfl, ⟨hU, by rw [hU]; exact hPc, va_K.moved hW.alike hKc, hDc.weaken (fun _ _ _ _ => trivial)⟩, by rw [hU]; exact ME.call hM hS.2.1 hFc hW⟩⟩ rfl rfl hl.1 rfl (lv_room (Nat.le_of_ble_eq_true rfl)) d_Mo_comparable_423 ⟨(hG_Q1V.step (B2 := Q1.R + 8 * (n - ((skipH f n ((i + 5) + 1)) + 1)) + 9) (C2 := V.us + (n + 12 - ((skipH f n ((i + 5) + 1)) + 1))) (by omega) (by omega)).1, (hG_Q1V.step (B2 := Q1.R + 8 * (n - ((skipH f n ((i + 5) + 1)) + 1)) + 9) (C2 := V.us + (n + 12 - ((skipH f n ((i + 5) + 1)) + 1))) (by omega) (by omega)).2⟩) hS (fun q _ h => hFc q h) hFc (fun r0 ⟨Q2, V2, j2, b2, o2⟩ t9 H1 locs ht hvm hw hB hz1 hk1 hS => ?_)
                                  obtain ⟨⟨hP1, hK1, hD1⟩, hz9⟩ := hB
                                  rw [ht] at hP1
                                  rw [ht] at hz9
                                  obtain ⟨⟨hQk_Q2, hGn, hTXs, hR1_Q2, hR2_Q2⟩, hw⟩ := hw
                                  have hQk_Q2 : QOK Q2 := hQk_Q2
                                  obtain ⟨hG_Q2V2, hGc, hGs⟩ := hG_Q1V.tr hGn (by omega) (by omega)
                                  have hR1_Q2 : Q1.R ≤ Q2.R := hR1_Q2
                                  have hR2_Q2 : Q2.R ≤ Q1.R + 8 * (n - ((skipH f n ((i + 5) + 1)) + 1)) + 9 := hR2_Q2
                                  obtain ⟨us2, hX_V2, hln_V2⟩ := hTXs
                                  have hX_V2 : TX V V2 us2 := hX_V2
                                  have hXs_V2 := hX_V2.us
                                  have hz9 : szk H H1 (cQ Q1 V Q2 V2) (sQ Q1 V Q2 V2) := hz9
                                  have hq1 : szk s.heap H1 (cQ Q V Q2 V2) (sQ Q V Q2 V2) := (hq0.trans hz9).mono hGc hGs
                                  refine w_tight hq1 ?_
                                  obtain ⟨hP, hD⟩ := va_join (wr := []) (w1 := [(mo, .inr (13, MF 30 (rf (rs v Q2 o2) j2 b2))), (qx, .inl (cB, NN, .inl f)), (Q2.qq, .inl (cI, (8 * Q2.C), .inl Q2.qf)), (Q2.qe, .inl (cL, (3 * Q2.C), .inr (.inl Q2.ef))), (tv, .inr (12, MF 13 (tw V2))), (V2.au, .inl (cC, V2.U, .inl V2.un))]) hP hD [0, 1, 2, 3, 4, 5] [] rfl rfl (by decide) (by decide) hk1 hFc hP1 hD1
                                  generalize H1 = H at hP hS ⊢
                                  have hP : va_P (dC, dI) classes [(mo, .inr (13, MF 30 (rf (rs v Q2 o2) j2 b2))), (qx, .inl (cB, NN, .inl f)), (Q2.qq, .inl (cI, (8 * Q2.C), .inl Q2.qf)), (Q2.qe, .inl (cL, (3 * Q2.C), .inr (.inl Q2.ef))), (tv, .inr (12, MF 13 (tw V2))), (V2.au, .inl (cC, V2.U, .inl V2.un))] H := hP
                                  have hD : va_D A [(mo, .inr (13, MF 30 (rf (rs v Q2 o2) j2 b2))), (qx, .inl (cB, NN, .inl f)), (Q2.qq, .inl (cI, (8 * Q2.C), .inl Q2.qf)), (Q2.qe, .inl (cL, (3 * Q2.C), .inr (.inl Q2.ef))), (tv, .inr (12, MF 13 (tw V2))), (V2.au, .inl (cC, V2.U, .inl V2.un))] := hD
                                  have hP := hP.sub (ws' := [(mo, .inr (13, MF 30 (rf (rs v Q2 o2) j2 b2))), (qx, .inl (cB, NN, .inl f)), (tv, .inr (12, MF 13 (tw V2))), (Q2.qq, .inl (cI, (8 * Q2.C), .inl Q2.qf)), (Q2.qe, .inl (cL, (3 * Q2.C), .inr (.inl Q2.ef))), (V2.au, .inl (cC, V2.U, .inl V2.un))]) [0, 1, 4, 2, 3, 5] rfl
                                  have hD := hD.sub (ws' := [(mo, .inr (13, MF 30 (rf (rs v Q2 o2) j2 b2))), (qx, .inl (cB, NN, .inl f)), (tv, .inr (12, MF 13 (tw V2))), (Q2.qq, .inl (cI, (8 * Q2.C), .inl Q2.qf)), (Q2.qe, .inl (cL, (3 * Q2.C), .inr (.inl Q2.ef))), (V2.au, .inl (cC, V2.U, .inl V2.un))]) [0, 1, 4, 2, 3, 5] (by decide) rfl
                                  have hP := hP.sub (ws' := [(mo, .inr (13, MF 30 (rf (rs v Q2 o2) j2 b2))), (qx, .inl (cB, NN, .inl f)), (Q2.qq, .inl (cI, (8 * Q2.C), .inl Q2.qf)), (Q2.qe, .inl (cL, (3 * Q2.C), .inr (.inl Q2.ef))), (tv, .inr (12, MF 13 (tw V2))), (V2.au, .inl (cC, V2.U, .inl V2.un))]) [0, 1, 3, 4, 2, 5] rfl
                                  have hD := hD.sub (ws' := [(mo, .inr (13, MF 30 (rf (rs v Q2 o2) j2 b2))), (qx, .inl (cB, NN, .inl f)), (Q2.qq, .inl (cI, (8 * Q2.C), .inl Q2.qf)), (Q2.qe, .inl (cL, (3 * Q2.C), .inr (.inl Q2.ef))), (tv, .inr (12, MF 13 (tw V2))), (V2.au, .inl (cC, V2.U, .inl V2.un))]) [0, 1, 3, 4, 2, 5] (by decide) rfl
                                  have hTk_V2 := hX_V2.ok hTk_V (by omega)
                                  have hqb_Q2V2 : Q2.R ≤ Q2.C ∧ Q2.C ≤ 100000 := ⟨hQk_Q2.2.2.1, hQk_Q2.2.1⟩
                                  have hfit_Q2V2 := hG_Q2V2.fits
                                  rcases hw with ⟨fl, g9, hv_1, hv_2, hv_3, hv_5, hv_6, hv_7, hv_8, hv_9, hv_10⟩ | ⟨hv_1, hv_2⟩
                                  · have hv_10 : (o + 1) = o2 := hv_10.symm
                                    subst hv_10
                                    have hP : va_P (dC, dI) classes [(mo, .inr (13, MF 30 (rf (rs v Q2 (o + 1)) j2 b2))), (qx, .inl (cB, NN, .inl f)), (Q2.qq, .inl (cI, (8 * Q2.C), .inl Q2.qf)), (Q2.qe, .inl (cL, (3 * Q2.C), .inr (.inl Q2.ef))), (tv, .inr (12, MF 13 (tw V2))), (V2.au, .inl (cC, V2.U, .inl V2.un))] H := hP
                                    have hD : va_D A [(mo, .inr (13, MF 30 (rf (rs v Q2 (o + 1)) j2 b2))), (qx, .inl (cB, NN, .inl f)), (Q2.qq, .inl (cI, (8 * Q2.C), .inl Q2.qf)), (Q2.qe, .inl (cL, (3 * Q2.C), .inr (.inl Q2.ef))), (tv, .inr (12, MF 13 (tw V2))), (V2.au, .inl (cC, V2.U, .inl V2.un))] := hD
                                    have hv_2 : qyL f n (decide (hereV f n (skipH f n ((i + 5) + 1)) = 36)) ((skipH f n ((i + 5) + 1)) + 1) = some (j2, fl, g9) := by rw [hrtb]; exact hv_2
                                    have hv_3 : Y Q2 V2 Q1.R Q2.R Q1.R g9 := hv_3
                                    have hv_5 : alr Q1 V Q2 V2 0 Q1.R := hv_5
                                    have hv_6 : Q2.R + 8 * ((skipH f n ((i + 5) + 1)) + 1) ≤ Q1.R + 8 * j2 + 1 := hv_6
                                    have hv_7 : V2.us + ((skipH f n ((i + 5) + 1)) + 1) ≤ V.us + j2 := hv_7
                                    have hv_8 : j2 ≤ n := hv_8
                                    have hv_9 : Q1.R < Q2.R := hv_9
                                    subst hv_1
                                    have hfA : fnA f n (cmL f n) (qyL f n) i (skipH f n ((i + 5) + 1)) = some (j2, onlO g9) := fnA_v hfx hbeg hv_2
                                    have hk0_Q2 : Q2.qf (8 * Q.R + 0) = 48 := (hv_5.1 _ 0 (Nat.zero_le _) (by omega) (by decide)).trans hk0_Q1
                                    have hl1_Q2 : Q2.qf (8 * Q.R + 1) = -1 := (hv_5.1 _ 1 (Nat.zero_le _) (by omega) (by decide)).trans hl1_Q1
                                    have hEx_Q2V2 : alr Q V Q2 V2 0 Q.R := hEx_Q1V.tr (hv_5.sub (Nat.le_refl _) (by omega))
                                    refine lv_istore_n (lv' := [(3, .int (nI Q1.R)), (4, .int 1), (2, .int (nI Q.R)), (1, .int r1), (0, .ref mo)]) hx hb d_Mo_comparable_426 rfl hl (by decide) rfl (fun ls hl => ?_)
                                    refine lv_goto (tgt := 441) hx hb d_Mo_comparable_427 (by decide) ?_
                                    refine lv_iload_n hx hb d_Mo_comparable_441 rfl (lv_at hl 0 rfl) ?_
                                    refine lv_if_ge (tgt := 447) hx hb d_Mo_comparable_442 (by decide) (fun _ => ?_) (fun h => absurd (nI_pos' (by omega)) h)
                                    refine lv_aload_n hx hb d_Mo_comparable_447 rfl (lv_at hl 4 rfl) ?_
                                    refine lv_iload_n hx hb d_Mo_comparable_448 rfl (lv_at hl 2 rfl) ?_
                                    refine lv_iconst (v := 2) hx hb d_Mo_comparable_449 (by decide) ?_
                                    refine lv_iload_n hx hb d_Mo_comparable_450 rfl (lv_at hl 0 rfl) ?_
                                    refine W.eq (g2 := F0 m 451 ls [.int (nI Q1.R), .int (nI 2), .int (nI Q.R), .ref mo]) rfl ?_
                                    have hPc := hP.sub (ws' := [(mo, .inr (13, MF 30 (rf (rs v Q2 (o + 1)) j2 b2))), (Q2.qq, .inl (cI, (8 * Q2.C), .inl Q2.qf))]) [0, 2] rfl
                                    have hDc := hD.sub (ws' := [(mo, .inr (13, MF 30 (rf (rs v Q2 (o + 1)) j2 b2))), (Q2.qq, .inl (cI, (8 * Q2.C), .inl Q2.qf))]) [0, 2] (by decide) rfl
                                    have hKc := hK.sub (tys' := [(cI, .int)]) [1] rfl
                                    have hFc := va_free (wc := [(mo, .inr (13, MF 30 (rf (rs v Q2 (o + 1)) j2 b2))), (Q2.qq, .inl (cI, (8 * Q2.C), .inl Q2.qf))]) hD hS hA [0, 2] rfl
                                    refine va_callv (va_runV (As := [.int (nI Q.R), .int (nI 2), .int (nI Q1.R)]) (rest := []) ⟨hx, hb, hml, hown, hts⟩ (c_Mo_set l dC dI mo H (rf (rs v Q2 (o + 1)) j2 b2) cI Q2.qq (8 * Q2.C) Q2.qf Q.R 2 ((nI Q1.R)) (by omega) (by omega) ((rf_ne (by decide) (by decide)).trans rs_19)) (cwV 3 hts (gt_V (own := R_Mo) (C := R_Mo) (i := 272) (y := y_Mo_set) i_Mo_set w_1411 w_1413 (gt_sel (y := y_Mo_set) (n := 30) (by decide +kernel)) w_7) rfl rfl rfl (by decide +kernel) ⟨Nat.le_trans (m := 11) (Nat.le_of_ble_eq_true rfl) (Nat.le_add_right 11 (15 + G)), Nat.le_trans (m := 400) (Nat.le_of_ble_eq_true rfl) (Nat.le_add_right 400 (600 + M))⟩) ⟨mp_blind, va_recv hKc hPc (ci := 13) (q0 := 0) rfl rfl, fun U hU hW => ⟨rfl, hU, by rw [hU]; exact hPc, va_K.moved hW.alike hKc, hDc.weaken (fun _ _ _ _ => trivial)⟩⟩ rfl rfl hl.1 rfl (lv_room (Nat.le_of_ble_eq_true rfl)) d_Mo_comparable_451 ⟨hfit_Q2V2.1, hfit_Q2V2.2⟩) hS (fun q _ h => hFc q h) hFc (fun _u t9 H1 locs ht hvm hw hB hz1 hk1 hS => ?_)
                                    obtain ⟨hP1, hK1, hD1⟩ := hB
                                    rw [ht] at hP1
                                    obtain ⟨hP, hD⟩ := va_join (wr := [(qx, .inl (cB, NN, .inl f)), (Q2.qe, .inl (cL, (3 * Q2.C), .inr (.inl Q2.ef))), (tv, .inr (12, MF 13 (tw V2))), (V2.au, .inl (cC, V2.U, .inl V2.un))]) (w1 := [(mo, .inr (13, MF 30 (rf (rs v Q2 (o + 1)) j2 b2))), (Q2.qq, .inl (cI, (8 * Q2.C), .inl (upd Q2.qf (8 * Q.R + 2) ((nI Q1.R)))))]) hP hD [0, 2] [1, 3, 4, 5] rfl rfl (by decide) (by decide) hk1 hFc hP1 hD1
                                    generalize H1 = H at hP hS ⊢
                                    have hP : va_P (dC, dI) classes [(qx, .inl (cB, NN, .inl f)), (Q2.qe, .inl (cL, (3 * Q2.C), .inr (.inl Q2.ef))), (tv, .inr (12, MF 13 (tw V2))), (V2.au, .inl (cC, V2.U, .inl V2.un)), (mo, .inr (13, MF 30 (rf (rs v Q2 (o + 1)) j2 b2))), (Q2.qq, .inl (cI, (8 * Q2.C), .inl (upd Q2.qf (8 * Q.R + 2) ((nI Q1.R)))))] H := hP
                                    have hD : va_D A [(qx, .inl (cB, NN, .inl f)), (Q2.qe, .inl (cL, (3 * Q2.C), .inr (.inl Q2.ef))), (tv, .inr (12, MF 13 (tw V2))), (V2.au, .inl (cC, V2.U, .inl V2.un)), (mo, .inr (13, MF 30 (rf (rs v Q2 (o + 1)) j2 b2))), (Q2.qq, .inl (cI, (8 * Q2.C), .inl (upd Q2.qf (8 * Q.R + 2) ((nI Q1.R)))))] := hD
                                    have hP := hP.sub (ws' := [(mo, .inr (13, MF 30 (rf (rs v Q2 (o + 1)) j2 b2))), (qx, .inl (cB, NN, .inl f)), (Q2.qq, .inl (cI, (8 * Q2.C), .inl (upd Q2.qf (8 * Q.R + 2) ((nI Q1.R))))), (Q2.qe, .inl (cL, (3 * Q2.C), .inr (.inl Q2.ef))), (tv, .inr (12, MF 13 (tw V2))), (V2.au, .inl (cC, V2.U, .inl V2.un))]) [4, 0, 5, 1, 2, 3] rfl
                                    have hD := hD.sub (ws' := [(mo, .inr (13, MF 30 (rf (rs v Q2 (o + 1)) j2 b2))), (qx, .inl (cB, NN, .inl f)), (Q2.qq, .inl (cI, (8 * Q2.C), .inl (upd Q2.qf (8 * Q.R + 2) ((nI Q1.R))))), (Q2.qe, .inl (cL, (3 * Q2.C), .inr (.inl Q2.ef))), (tv, .inr (12, MF 13 (tw V2))), (V2.au, .inl (cC, V2.U, .inl V2.un))]) [4, 0, 5, 1, 2, 3] (by decide) rfl
                                    obtain ⟨Q3, e_Q3⟩ : ∃ z : QS, z = QS.wf Q2 (upd Q2.qf (8 * Q.R + 2) ((nI Q1.R))) := ⟨_, rfl⟩
                                    have hP : va_P (dC, dI) classes [(mo, .inr (13, MF 30 (rf (rs v Q3 (o + 1)) j2 b2))), (qx, .inl (cB, NN, .inl f)), (Q3.qq, .inl (cI, (8 * Q3.C), .inl Q3.qf)), (Q3.qe, .inl (cL, (3 * Q3.C), .inr (.inl Q3.ef))), (tv, .inr (12, MF 13 (tw V2))), (V2.au, .inl (cC, V2.U, .inl V2.un))] H := by subst e_Q3; exact hP
                                    have hD : va_D A [(mo, .inr (13, MF 30 (rf (rs v Q3 (o + 1)) j2 b2))), (qx, .inl (cB, NN, .inl f)), (Q3.qq, .inl (cI, (8 * Q3.C), .inl Q3.qf)), (Q3.qe, .inl (cL, (3 * Q3.C), .inr (.inl Q3.ef))), (tv, .inr (12, MF 13 (tw V2))), (V2.au, .inl (cC, V2.U, .inl V2.un))] := by subst e_Q3; exact hD
                                    have hf_Q3 : Q3.C = Q2.C ∧ Q3.R = Q2.R ∧ Q3.qf = upd Q2.qf (8 * Q.R + 2) ((nI Q1.R)) := by rw [e_Q3]; exact ⟨rfl, rfl, rfl⟩
                                    have he_Q3 : Q3.ef = Q2.ef := by rw [e_Q3]; rfl
                                    have hQk_Q3 : QOK Q3 := by rw [e_Q3]; exact hQk_Q2
                                    have hG_Q3V2 : GQ (Q.R + 8 * (n - i) + 1) (V.us + (n + 12 - i)) Q V Q3 V2 := by unfold GQ at hG_Q2V2 ⊢; rw [hf_Q3.1]; exact hG_Q2V2
                                    refine w_same (fun hq => ?_)
                                    refine w_tight (k := cQ Q V Q3 V2) (n := sQ Q V Q3 V2) (by unfold cQ sQ at hq ⊢; rw [hf_Q3.1]; exact hq) ?_
                                    have hR_Q3 := hf_Q3.2.1
                                    have hqb_Q3V2 : Q3.R ≤ Q3.C ∧ Q3.C ≤ 100000 := ⟨hQk_Q3.2.2.1, hQk_Q3.2.1⟩
                                    have hfit_Q3V2 := hG_Q3V2.fits
                                    have hk0_Q3 : Q3.qf (8 * Q.R + 0) = 48 := by rw [hf_Q3.2.2, pk_un (by omega)]; exact hk0_Q2
                                    have hl1_Q3 : Q3.qf (8 * Q.R + 1) = -1 := by rw [hf_Q3.2.2, pk_un (by omega)]; exact hl1_Q2
                                    have hEx_Q3V2 : alr Q V Q3 V2 0 Q.R := hEx_Q2V2.tr (alr.upd hf_Q3.2.2 he_Q3 (by decide) (by omega))
                                    refine lv_aload_n hx hb d_Mo_comparable_454 rfl (lv_at hl 4 rfl) ?_
                                    have hPc := hP.sub (ws' := [(mo, .inr (13, MF 30 (rf (rs v Q3 (o + 1)) j2 b2))), (qx, .inl (cB, NN, .inl f))]) [0, 1] rfl
                                    have hDc := hD.sub (ws' := [(mo, .inr (13, MF 30 (rf (rs v Q3 (o + 1)) j2 b2))), (qx, .inl (cB, NN, .inl f))]) [0, 1] (by decide) rfl
                                    have hKc := hK.sub (tys' := [(cB, .byte)]) [0] rfl
                                    have hFc := va_free (wc := [(mo, .inr (13, MF 30 (rf (rs v Q3 (o + 1)) j2 b2))), (qx, .inl (cB, NN, .inl f))]) hD hS hA [0, 1] rfl
                                    refine va_callv (va_runV (As := []) (rest := []) ⟨hx, hb, hml, hown, hts⟩ (c_Mo_blanks l dC dI mo H (rf (rs v Q3 (o + 1)) j2 b2) cB qx NN f n j2 (by omega) (by omega) (by omega) ((rf_ne (by decide) (by decide)).trans ((rs_ne (by decide) (by decide) (by decide) (by decide)).trans h6)) rf_7 ((rf_ne (by decide) (by decide)).trans ((rs_ne (by decide) (by decide) (by decide) (by decide)).trans h8))) (cwV 0 hts (gt_V (own := R_Mo) (C := R_Mo) (i := 184) (y := y_Mo_blanks) i_Mo_blanks w_1229 w_1231 (gt_sel (y := y_Mo_blanks) (n := 30) (by decide +kernel)) w_7) rfl rfl rfl (by decide +kernel) ⟨Nat.le_trans (m := 11) (Nat.le_of_ble_eq_true rfl) (Nat.le_add_right 11 (15 + G)), Nat.le_trans (m := 400) (Nat.le_of_ble_eq_true rfl) (Nat.le_add_right 400 (600 + M))⟩) ⟨mp_blind, va_recv hKc hPc (ci := 13) (q0 := 0) rfl rfl, fun U hU hW => ⟨rfl, hU, by rw [hU]; exact hPc, va_K.moved hW.alike hKc, hDc.weaken (fun _ _ _ _ => trivial)⟩⟩ rfl rfl hl.1 rfl (lv_room (Nat.le_of_ble_eq_true rfl)) d_Mo_comparable_455 ⟨hfit_Q3V2.1, hfit_Q3V2.2⟩) hS (fun q _ h => hFc q h) hFc (fun _u t9 H1 locs ht hvm hw hB hz1 hk1 hS => ?_)
                                    obtain ⟨hP1, hK1, hD1⟩ := hB
                                    rw [ht] at hP1
                                    obtain ⟨hP, hD⟩ := va_join (wr := [(Q3.qq, .inl (cI, (8 * Q3.C), .inl Q3.qf)), (Q3.qe, .inl (cL, (3 * Q3.C), .inr (.inl Q3.ef))), (tv, .inr (12, MF 13 (tw V2))), (V2.au, .inl (cC, V2.U, .inl V2.un))]) (w1 := [(mo, .inr (13, MF 30 (va_up (rf (rs v Q3 (o + 1)) j2 b2) 7 (.int (nI (skipH f n j2)))))), (qx, .inl (cB, NN, .inl f))]) hP hD [0, 1] [2, 3, 4, 5] rfl rfl (by decide) (by decide) hk1 hFc hP1 hD1
                                    generalize H1 = H at hP hS ⊢
                                    have hP : va_P (dC, dI) classes [(Q3.qq, .inl (cI, (8 * Q3.C), .inl Q3.qf)), (Q3.qe, .inl (cL, (3 * Q3.C), .inr (.inl Q3.ef))), (tv, .inr (12, MF 13 (tw V2))), (V2.au, .inl (cC, V2.U, .inl V2.un)), (mo, .inr (13, MF 30 (va_up (rf (rs v Q3 (o + 1)) j2 b2) 7 (.int (nI (skipH f n j2)))))), (qx, .inl (cB, NN, .inl f))] H := hP
                                    have hD : va_D A [(Q3.qq, .inl (cI, (8 * Q3.C), .inl Q3.qf)), (Q3.qe, .inl (cL, (3 * Q3.C), .inr (.inl Q3.ef))), (tv, .inr (12, MF 13 (tw V2))), (V2.au, .inl (cC, V2.U, .inl V2.un)), (mo, .inr (13, MF 30 (va_up (rf (rs v Q3 (o + 1)) j2 b2) 7 (.int (nI (skipH f n j2)))))), (qx, .inl (cB, NN, .inl f))] := hD
                                    have hP := hP.sub (ws' := [(mo, .inr (13, MF 30 (va_up (rf (rs v Q3 (o + 1)) j2 b2) 7 (.int (nI (skipH f n j2)))))), (qx, .inl (cB, NN, .inl f)), (Q3.qq, .inl (cI, (8 * Q3.C), .inl Q3.qf)), (Q3.qe, .inl (cL, (3 * Q3.C), .inr (.inl Q3.ef))), (tv, .inr (12, MF 13 (tw V2))), (V2.au, .inl (cC, V2.U, .inl V2.un))]) [4, 5, 0, 1, 2, 3] rfl
                                    have hD := hD.sub (ws' := [(mo, .inr (13, MF 30 (va_up (rf (rs v Q3 (o + 1)) j2 b2) 7 (.int (nI (skipH f n j2)))))), (qx, .inl (cB, NN, .inl f)), (Q3.qq, .inl (cI, (8 * Q3.C), .inl Q3.qf)), (Q3.qe, .inl (cL, (3 * Q3.C), .inr (.inl Q3.ef))), (tv, .inr (12, MF 13 (tw V2))), (V2.au, .inl (cC, V2.U, .inl V2.un))]) [4, 5, 0, 1, 2, 3] (by decide) rfl
                                    rw [rf_u7] at hP hD
                                    have hP : va_P (dC, dI) classes [(mo, .inr (13, MF 30 (rf (rs v Q3 (o + 1)) (skipH f n j2) b2))), (qx, .inl (cB, NN, .inl f)), (Q3.qq, .inl (cI, (8 * Q3.C), .inl Q3.qf)), (Q3.qe, .inl (cL, (3 * Q3.C), .inr (.inl Q3.ef))), (tv, .inr (12, MF 13 (tw V2))), (V2.au, .inl (cC, V2.U, .inl V2.un))] H := hP
                                    have hD : va_D A [(mo, .inr (13, MF 30 (rf (rs v Q3 (o + 1)) (skipH f n j2) b2))), (qx, .inl (cB, NN, .inl f)), (Q3.qq, .inl (cI, (8 * Q3.C), .inl Q3.qf)), (Q3.qe, .inl (cL, (3 * Q3.C), .inr (.inl Q3.ef))), (tv, .inr (12, MF 13 (tw V2))), (V2.au, .inl (cC, V2.U, .inl V2.un))] := hD
                                    have hsk_458 := skipH_n (f := f) (show j2 ≤ n by omega)
                                    refine lv_aload_n hx hb d_Mo_comparable_458 rfl (lv_at hl 4 rfl) ?_
                                    refine lv_bipush (v := 41) hx hb d_Mo_comparable_459 (by decide) ?_
                                    have hPc := hP.sub (ws' := [(mo, .inr (13, MF 30 (rf (rs v Q3 (o + 1)) (skipH f n j2) b2))), (qx, .inl (cB, NN, .inl f))]) [0, 1] rfl
                                    have hDc := hD.sub (ws' := [(mo, .inr (13, MF 30 (rf (rs v Q3 (o + 1)) (skipH f n j2) b2))), (qx, .inl (cB, NN, .inl f))]) [0, 1] (by decide) rfl
                                    have hKc := hK.sub (tys' := [(cB, .byte)]) [0] rfl
                                    have hFc := va_free (wc := [(mo, .inr (13, MF 30 (rf (rs v Q3 (o + 1)) (skipH f n j2) b2))), (qx, .inl (cB, NN, .inl f))]) hD hS hA [0, 1] rfl
                                    refine va_calli (va_runV (As := [.int 41]) (rest := []) ⟨hx, hb, hml, hown, hts⟩ (c_Mo_shut l dC dI mo H (rf (rs v Q3 (o + 1)) (skipH f n j2) b2) cB qx NN f n (skipH f n j2) (by omega) (by omega) (by omega) ((rf_ne (by decide) (by decide)).trans ((rs_ne (by decide) (by decide) (by decide) (by decide)).trans h6)) rf_7 ((rf_ne (by decide) (by decide)).trans ((rs_ne (by decide) (by decide) (by decide) (by decide)).trans h8)) b2 rf_9 41 o ((rf_ne (by decide) (by decide)).trans rs_23)) (cwV 1 hts (gt_V (own := R_Mo) (C := R_Mo) (i := 297) (y := y_Mo_shut) i_Mo_shut w_1447 w_1449 (gt_sel (y := y_Mo_shut) (n := 30) (by decide +kernel)) w_7) rfl rfl rfl (by decide +kernel) ⟨Nat.le_trans (m := 11) (Nat.le_of_ble_eq_true rfl) (Nat.le_add_right 11 (15 + G)), Nat.le_trans (m := 400) (Nat.le_of_ble_eq_true rfl) (Nat.le_add_right 400 (600 + M))⟩) ⟨mp_blind, va_recv hKc hPc (ci := 13) (q0 := 0) rfl rfl, fun U hU hW => ⟨rfl, hU, by rw [hU]; exact hPc, va_K.moved hW.alike hKc, hDc.weaken (fun _ _ _ _ => trivial)⟩⟩ rfl rfl hl.1 rfl (lv_room (Nat.le_of_ble_eq_true rfl)) d_Mo_comparable_461 ⟨hfit_Q3V2.1, hfit_Q3V2.2⟩) hS (fun q _ h => hFc q h) hFc (fun r0 u2 t9 H1 locs ht hvm hw hB hz1 hk1 hS => ?_)
                                    obtain ⟨hP1, hK1, hD1⟩ := hB
                                    rw [ht] at hP1
                                    obtain ⟨hP, hD⟩ := va_join (wr := [(Q3.qq, .inl (cI, (8 * Q3.C), .inl Q3.qf)), (Q3.qe, .inl (cL, (3 * Q3.C), .inr (.inl Q3.ef))), (tv, .inr (12, MF 13 (tw V2))), (V2.au, .inl (cC, V2.U, .inl V2.un))]) (w1 := [(mo, .inr (13, MF 30 u2)), (qx, .inl (cB, NN, .inl f))]) hP hD [0, 1] [2, 3, 4, 5] rfl rfl (by decide) (by decide) hk1 hFc hP1 hD1
                                    generalize H1 = H at hP hS ⊢
                                    have hP : va_P (dC, dI) classes [(Q3.qq, .inl (cI, (8 * Q3.C), .inl Q3.qf)), (Q3.qe, .inl (cL, (3 * Q3.C), .inr (.inl Q3.ef))), (tv, .inr (12, MF 13 (tw V2))), (V2.au, .inl (cC, V2.U, .inl V2.un)), (mo, .inr (13, MF 30 u2)), (qx, .inl (cB, NN, .inl f))] H := hP
                                    have hD : va_D A [(Q3.qq, .inl (cI, (8 * Q3.C), .inl Q3.qf)), (Q3.qe, .inl (cL, (3 * Q3.C), .inr (.inl Q3.ef))), (tv, .inr (12, MF 13 (tw V2))), (V2.au, .inl (cC, V2.U, .inl V2.un)), (mo, .inr (13, MF 30 u2)), (qx, .inl (cB, NN, .inl f))] := hD
                                    have hP := hP.sub (ws' := [(mo, .inr (13, MF 30 u2)), (qx, .inl (cB, NN, .inl f)), (Q3.qq, .inl (cI, (8 * Q3.C), .inl Q3.qf)), (Q3.qe, .inl (cL, (3 * Q3.C), .inr (.inl Q3.ef))), (tv, .inr (12, MF 13 (tw V2))), (V2.au, .inl (cC, V2.U, .inl V2.un))]) [4, 5, 0, 1, 2, 3] rfl
                                    have hD := hD.sub (ws' := [(mo, .inr (13, MF 30 u2)), (qx, .inl (cB, NN, .inl f)), (Q3.qq, .inl (cI, (8 * Q3.C), .inl Q3.qf)), (Q3.qe, .inl (cL, (3 * Q3.C), .inr (.inl Q3.ef))), (tv, .inr (12, MF 13 (tw V2))), (V2.au, .inl (cC, V2.U, .inl V2.un))]) [4, 5, 0, 1, 2, 3] (by decide) rfl
                                    rcases hw with ⟨hn2, ht2, ht3⟩ | ⟨hn2, ht2, ht3⟩
                                    · rw [rf_u7, rs_o] at ht3
                                      rw [ht3] at hP hD
                                      subst ht2
                                      have hP : va_P (dC, dI) classes [(mo, .inr (13, MF 30 (rf (rs v Q3 o) ((skipH f n j2) + 1) b2))), (qx, .inl (cB, NN, .inl f)), (Q3.qq, .inl (cI, (8 * Q3.C), .inl Q3.qf)), (Q3.qe, .inl (cL, (3 * Q3.C), .inr (.inl Q3.ef))), (tv, .inr (12, MF 13 (tw V2))), (V2.au, .inl (cC, V2.U, .inl V2.un))] H := hP
                                      have hD : va_D A [(mo, .inr (13, MF 30 (rf (rs v Q3 o) ((skipH f n j2) + 1) b2))), (qx, .inl (cB, NN, .inl f)), (Q3.qq, .inl (cI, (8 * Q3.C), .inl Q3.qf)), (Q3.qe, .inl (cL, (3 * Q3.C), .inr (.inl Q3.ef))), (tv, .inr (12, MF 13 (tw V2))), (V2.au, .inl (cC, V2.U, .inl V2.un))] := hD
                                      refine lv_if_eq (tgt := 471) hx hb d_Mo_comparable_464 (by decide) (fun h => absurd h (by decide)) (fun _ => ?_)
                                      refine lv_iload_n hx hb d_Mo_comparable_467 rfl (lv_at hl 2 rfl) ?_
                                      refine lv_goto (tgt := 472) hx hb d_Mo_comparable_468 (by decide) ?_
                                      have hlt41 := here_in hn2 (by decide)
                                      have hfin : cmP f n ok (orL f n) (cmL f n) (qyL f n) i = some (((skipH f n j2) + 1), onlO g9) := by rw [hcm]; exact fnT_s hen hfA hn2
                                      have hW : Wth Y Q3 V2 Q.R Q3.R Q.R Q1.R g9 := Wth_up hYf hv_3 (by omega) (by omega) (by omega) (alr.upd hf_Q3.2.2 he_Q3 (by decide) (by omega))
                                      have hCF : CMPf O C Y Q3 V2 Q.R Q3.R Q.R (onlO g9) := ⟨by omega, by omega, Or.inr (Or.inr (Or.inr (Or.inr (Or.inr (Or.inr (Or.inr (Or.inr (⟨hk0_Q3, Q1.R, g9, by rw [hf_Q3.2.2]; exact pk_us, hW, rfl⟩))))))))⟩
                                      refine w_same (fun hq => ?_)
                                      refine W.widen (k := kcap Q (Q.R + 8 * (n - i) + 1) + qcap V (V.us + (n + 12 - i))) (n := 22 * kcap Q (Q.R + 8 * (n - i) + 1) + 2 * qcap V (V.us + (n + 12 - i))) hfit_Q3V2.1 hfit_Q3V2.2 ?_
                                      have hPo : QPo n i 1 Q V (Q3, V2, ((skipH f n j2) + 1), b2, o) := ⟨hQk_Q3, hG_Q3V2, ⟨_, hX_V2, by omega⟩, by show Q.R ≤ Q3.R; omega, by show Q3.R ≤ Q.R + 8 * (n - i) + 1; omega⟩
                                      exact W.iret (v := nI Q.R) hx hb hr (fun t9 ht hW => ⟨⟨nI Q.R, (Q3, V2, ((skipH f n j2) + 1), b2, o), rfl, ⟨hPo, Or.inl ⟨Q.R, onlO g9, rfl, hfin, hCF, by show Q.R < Q3.R; omega, hEx_Q3V2, by show Q3.R + 8 * i + 6 ≤ Q.R + 8 * ((skipH f n j2) + 1); omega, by show V2.us + i ≤ V.us + ((skipH f n j2) + 1); omega, by show ((skipH f n j2) + 1) ≤ n; omega, by show Q.R < Q3.R; omega, rfl⟩⟩, ⟨by rw [ht]; exact hP, va_K.moved hW.alike hK, hD⟩, by rw [ht]; exact hq⟩, hS.F ht⟩) hS.2.2 d_Mo_comparable_472
                                    · obtain ⟨b6, h_b6⟩ := rf_fail (v := (rs v Q3 (o + 1))) (i := (skipH f n j2)) (br := b2) (b2 := b2) (wh := nI (skipH f n j2))
                                      rw [h_b6] at ht3
                                      rw [ht3] at hP hD
                                      subst ht2
                                      have hP : va_P (dC, dI) classes [(mo, .inr (13, MF 30 (rf (rs v Q3 (o + 1)) (skipH f n j2) b6))), (qx, .inl (cB, NN, .inl f)), (Q3.qq, .inl (cI, (8 * Q3.C), .inl Q3.qf)), (Q3.qe, .inl (cL, (3 * Q3.C), .inr (.inl Q3.ef))), (tv, .inr (12, MF 13 (tw V2))), (V2.au, .inl (cC, V2.U, .inl V2.un))] H := hP
                                      have hD : va_D A [(mo, .inr (13, MF 30 (rf (rs v Q3 (o + 1)) (skipH f n j2) b6))), (qx, .inl (cB, NN, .inl f)), (Q3.qq, .inl (cI, (8 * Q3.C), .inl Q3.qf)), (Q3.qe, .inl (cL, (3 * Q3.C), .inr (.inl Q3.ef))), (tv, .inr (12, MF 13 (tw V2))), (V2.au, .inl (cC, V2.U, .inl V2.un))] := hD
                                      refine lv_if_eq (tgt := 471) hx hb d_Mo_comparable_464 (by decide) (fun _ => ?_) (fun h => absurd (by decide) h)
                                      refine lv_iconst (v := (-1)) hx hb d_Mo_comparable_471 (by decide) ?_
                                      have hfin : cmP f n ok (orL f n) (cmL f n) (qyL f n) i = none := by rw [hcm]; exact fnT_e hen hfA hn2
                                      refine w_same (fun hq => ?_)
                                      refine W.widen (k := kcap Q (Q.R + 8 * (n - i) + 1) + qcap V (V.us + (n + 12 - i))) (n := 22 * kcap Q (Q.R + 8 * (n - i) + 1) + 2 * qcap V (V.us + (n + 12 - i))) hfit_Q3V2.1 hfit_Q3V2.2 ?_
                                      have hPo : QPo n i 1 Q V (Q3, V2, (skipH f n j2), b6, (o + 1)) := ⟨hQk_Q3, hG_Q3V2, ⟨_, hX_V2, by omega⟩, by show Q.R ≤ Q3.R; omega, by show Q3.R ≤ Q.R + 8 * (n - i) + 1; omega⟩
                                      exact W.iret (v := -1) hx hb hr (fun t9 ht hW => ⟨⟨-1, (Q3, V2, (skipH f n j2), b6, (o + 1)), rfl, ⟨hPo, Or.inr ⟨rfl, hfin⟩⟩, ⟨by rw [ht]; exact hP, va_K.moved hW.alike hK, hD⟩, by rw [ht]; exact hq⟩, hS.F ht⟩) hS.2.2 d_Mo_comparable_472
                                  · have hv_2 : qyL f n (decide (hereV f n (skipH f n ((i + 5) + 1)) = 36)) ((skipH f n ((i + 5) + 1)) + 1) = none := by rw [hrtb]; exact hv_2
                                    have hfA : fnA f n (cmL f n) (qyL f n) i (skipH f n ((i + 5) + 1)) = none := fnA_q0 (by rw [hfx]; decide) hbeg hv_2
                                    subst hv_1
                                    refine lv_istore_n (lv' := [(3, .int (-1)), (4, .int 1), (2, .int (nI Q.R)), (1, .int r1), (0, .ref mo)]) hx hb d_Mo_comparable_426 rfl hl (by decide) rfl (fun ls hl => ?_)
                                    refine lv_goto (tgt := 441) hx hb d_Mo_comparable_427 (by decide) ?_
                                    refine lv_iload_n hx hb d_Mo_comparable_441 rfl (lv_at hl 0 rfl) ?_
                                    refine lv_if_ge (tgt := 447) hx hb d_Mo_comparable_442 (by decide) (fun h => absurd h (by decide)) (fun _ => ?_)
                                    refine lv_iconst (v := (-1)) hx hb d_Mo_comparable_445 (by decide) ?_
                                    have hfin : cmP f n ok (orL f n) (cmL f n) (qyL f n) i = none := by rw [hcm]; exact fnT_a hen hfA
                                    refine w_same (fun hq => ?_)
                                    refine W.widen (k := kcap Q (Q.R + 8 * (n - i) + 1) + qcap V (V.us + (n + 12 - i))) (n := 22 * kcap Q (Q.R + 8 * (n - i) + 1) + 2 * qcap V (V.us + (n + 12 - i))) hfit_Q2V2.1 hfit_Q2V2.2 ?_
                                    have hPo : QPo n i 1 Q V (Q2, V2, j2, b2, o2) := ⟨hQk_Q2, hG_Q2V2, ⟨_, hX_V2, by omega⟩, by show Q.R ≤ Q2.R; omega, by show Q2.R ≤ Q.R + 8 * (n - i) + 1; omega⟩
                                    exact W.iret (v := -1) hx hb hr (fun t9 ht hW => ⟨⟨-1, (Q2, V2, j2, b2, o2), rfl, ⟨hPo, Or.inr ⟨rfl, hfin⟩⟩, ⟨by rw [ht]; exact hP, va_K.moved hW.alike hK, hD⟩, by rw [ht]; exact hq⟩, hS.F ht⟩) hS.2.2 d_Mo_comparable_446
                            · obtain ⟨b5, h_b5⟩ := rf_fail (v := (rs v Q o)) (i := (i + 5)) (br := br) (b2 := br) (wh := nI (i + 5))
                              rw [h_b5] at ht3
                              rw [ht3] at hP hD
                              subst ht2
                              have hP : va_P (dC, dI) classes [(mo, .inr (13, MF 30 (rf (rs v Q o) (i + 5) b5))), (qx, .inl (cB, NN, .inl f)), (Q.qq, .inl (cI, (8 * Q.C), .inl Q.qf)), (Q.qe, .inl (cL, (3 * Q.C), .inr (.inl Q.ef))), (tv, .inr (12, MF 13 (tw V))), (V.au, .inl (cC, V.U, .inl V.un))] H := hP
                              have hD : va_D A [(mo, .inr (13, MF 30 (rf (rs v Q o) (i + 5) b5))), (qx, .inl (cB, NN, .inl f)), (Q.qq, .inl (cI, (8 * Q.C), .inl Q.qf)), (Q.qe, .inl (cL, (3 * Q.C), .inr (.inl Q.ef))), (tv, .inr (12, MF 13 (tw V))), (V.au, .inl (cC, V.U, .inl V.un))] := hD
                              refine lv_if_ne (tgt := 328) hx hb d_Mo_comparable_323 (by decide) (fun h => absurd h (by decide)) (fun _ => ?_)
                              refine lv_iconst (v := (-1)) hx hb d_Mo_comparable_326 (by decide) ?_
                              have hfin : cmP f n ok (orL f n) (cmL f n) (qyL f n) i = none := by rw [hcm]; exact fnT_n (fun h => hn1 ⟨h.1, hok.mp h.2⟩)
                              refine w_same (fun hq => ?_)
                              refine W.widen (k := kcap Q (Q.R + 8 * (n - i) + 1) + qcap V (V.us + (n + 12 - i))) (n := 22 * kcap Q (Q.R + 8 * (n - i) + 1) + 2 * qcap V (V.us + (n + 12 - i))) hfit_QV.1 hfit_QV.2 ?_
                              have hPo : QPo n i 1 Q V (Q, V, (i + 5), b5, o) := ⟨hQk_Q, hG_QV, ⟨[], TX.rf hTk_V, Nat.zero_le _⟩, by show Q.R ≤ Q.R; omega, by show Q.R ≤ Q.R + 8 * (n - i) + 1; omega⟩
                              exact W.iret (v := -1) hx hb hr (fun t9 ht hW => ⟨⟨-1, (Q, V, (i + 5), b5, o), rfl, ⟨hPo, Or.inr ⟨rfl, hfin⟩⟩, ⟨by rw [ht]; exact hP, va_K.moved hW.alike hK, hD⟩, by rw [ht]; exact hq⟩, hS.F ht⟩) hS.2.2 d_Mo_comparable_327
                          · rw [rf_u7] at hw3
                            obtain ⟨b4, h_b4⟩ := rf_fail (v := (rs v Q o)) (i := k9) (br := br) (b2 := br) (wh := nI k9)
                            rw [h_b4] at hw3
                            rw [hw3] at hP hD
                            subst hw2
                            have hP : va_P (dC, dI) classes [(mo, .inr (13, MF 30 (rf (rs v Q o) k9 b4))), (qx, .inl (cB, NN, .inl f)), (Q.qq, .inl (cI, (8 * Q.C), .inl Q.qf)), (Q.qe, .inl (cL, (3 * Q.C), .inr (.inl Q.ef))), (tv, .inr (12, MF 13 (tw V))), (V.au, .inl (cC, V.U, .inl V.un))] H := hP
                            have hD : va_D A [(mo, .inr (13, MF 30 (rf (rs v Q o) k9 b4))), (qx, .inl (cB, NN, .inl f)), (Q.qq, .inl (cI, (8 * Q.C), .inl Q.qf)), (Q.qe, .inl (cL, (3 * Q.C), .inr (.inl Q.ef))), (tv, .inr (12, MF 13 (tw V))), (V.au, .inl (cC, V.U, .inl V.un))] := hD
                            have hwb : ¬ mtB f n i (mtx 13) 5 = true := fun h => hwm (mtB_iff.mp h)
                            refine lv_if_eq (tgt := 326) hx hb d_Mo_comparable_314 (by decide) (fun _ => ?_) (fun h => absurd (by decide) h)
                            refine lv_iconst (v := (-1)) hx hb d_Mo_comparable_326 (by decide) ?_
                            have hfin : cmP f n ok (orL f n) (cmL f n) (qyL f n) i = none := by rw [hcm]; unfold fnP; rw [if_neg (fun h => absurd (hfx.symm.trans h) (by decide)), if_neg (fun h => absurd (hfx.symm.trans h) (by decide)), if_pos hfx, if_neg hwb]
                            refine w_same (fun hq => ?_)
                            refine W.widen (k := kcap Q (Q.R + 8 * (n - i) + 1) + qcap V (V.us + (n + 12 - i))) (n := 22 * kcap Q (Q.R + 8 * (n - i) + 1) + 2 * qcap V (V.us + (n + 12 - i))) hfit_QV.1 hfit_QV.2 ?_
                            have hPo : QPo n i 1 Q V (Q, V, k9, b4, o) := ⟨hQk_Q, hG_QV, ⟨[], TX.rf hTk_V, Nat.zero_le _⟩, by show Q.R ≤ Q.R; omega, by show Q.R ≤ Q.R + 8 * (n - i) + 1; omega⟩
                            exact W.iret (v := -1) hx hb hr (fun t9 ht hW => ⟨⟨-1, (Q, V, k9, b4, o), rfl, ⟨hPo, Or.inr ⟨rfl, hfin⟩⟩, ⟨by rw [ht]; exact hP, va_K.moved hW.alike hK, hD⟩, by rw [ht]; exact hq⟩, hS.F ht⟩) hS.2.2 d_Mo_comparable_327
                        · refine lv_aload_n hx hb d_Mo_comparable_272 rfl (lv_at hl 1 rfl) ?_
                          refine lv_aload_n hx hb d_Mo_comparable_273 rfl (lv_at hl 1 rfl) ?_
                          refine va_get (D := (dC, dI)) (ci := 13) (v := .int (nI i)) (C := R_Mo) (T := F_Mo) (N := 30) hx hb hts in_Mo hown hK hP 0 rfl rfl 7 (by decide) (hts _ w_1096) (fun _ h9 => h9) (MFg (by decide) rf_7) d_Mo_comparable_274 ?_
                          have hPc := hP.sub (ws' := [(mo, .inr (13, MF 30 (rf (rs v Q o) i br)))]) [0] rfl
                          have hDc := hD.sub (ws' := [(mo, .inr (13, MF 30 (rf (rs v Q o) i br)))]) [0] (by decide) rfl
                          have hKc := hK.sub (tys' := []) [] rfl
                          have hFc := va_free (wc := [(mo, .inr (13, MF 30 (rf (rs v Q o) i br)))]) hD hS hA [0] rfl
                          refine va_calli (va_runV (As := [.int (nI i)]) (rest := []) ⟨hx, hb, hml, hown, hts⟩ (c_Mo_fail l dC dI mo H (rf (rs v Q o) i br) br ((nI i)) rf_9) (cwV 1 hts (gt_V (own := R_Mo) (C := R_Mo) (i := 151) (y := y_Mo_fail) i_Mo_fail w_1250 w_1252 (gt_sel (y := y_Mo_fail) (n := 30) (by decide +kernel)) w_7) rfl rfl rfl (by decide +kernel) ⟨Nat.le_trans (m := 11) (Nat.le_of_ble_eq_true rfl) (Nat.le_add_right 11 (15 + G)), Nat.le_trans (m := 400) (Nat.le_of_ble_eq_true rfl) (Nat.le_add_right 400 (600 + M))⟩) ⟨mp_blind, va_recv hKc hPc (ci := 13) (q0 := 0) rfl rfl, fun U hU hW => ⟨rfl, hU, by rw [hU]; exact hPc, va_K.moved hW.alike hKc, hDc.weaken (fun _ _ _ _ => trivial)⟩⟩ rfl rfl hl.1 rfl (lv_room (Nat.le_of_ble_eq_true rfl)) d_Mo_comparable_277 ⟨hfit_QV.1, hfit_QV.2⟩) hS (fun q _ h => hFc q h) hFc (fun r0 u2 t9 H1 locs ht hvm hw hB hz1 hk1 hS => ?_)
                          obtain ⟨hP1, hK1, hD1⟩ := hB
                          rw [ht] at hP1
                          obtain ⟨hP, hD⟩ := va_join (wr := [(qx, .inl (cB, NN, .inl f)), (Q.qq, .inl (cI, (8 * Q.C), .inl Q.qf)), (Q.qe, .inl (cL, (3 * Q.C), .inr (.inl Q.ef))), (tv, .inr (12, MF 13 (tw V))), (V.au, .inl (cC, V.U, .inl V.un))]) (w1 := [(mo, .inr (13, MF 30 u2))]) hP hD [0] [1, 2, 3, 4, 5] rfl rfl (by decide) (by decide) hk1 hFc hP1 hD1
                          generalize H1 = H at hP hS ⊢
                          have hP : va_P (dC, dI) classes [(qx, .inl (cB, NN, .inl f)), (Q.qq, .inl (cI, (8 * Q.C), .inl Q.qf)), (Q.qe, .inl (cL, (3 * Q.C), .inr (.inl Q.ef))), (tv, .inr (12, MF 13 (tw V))), (V.au, .inl (cC, V.U, .inl V.un)), (mo, .inr (13, MF 30 u2))] H := hP
                          have hD : va_D A [(qx, .inl (cB, NN, .inl f)), (Q.qq, .inl (cI, (8 * Q.C), .inl Q.qf)), (Q.qe, .inl (cL, (3 * Q.C), .inr (.inl Q.ef))), (tv, .inr (12, MF 13 (tw V))), (V.au, .inl (cC, V.U, .inl V.un)), (mo, .inr (13, MF 30 u2))] := hD
                          have hP := hP.sub (ws' := [(mo, .inr (13, MF 30 u2)), (qx, .inl (cB, NN, .inl f)), (Q.qq, .inl (cI, (8 * Q.C), .inl Q.qf)), (Q.qe, .inl (cL, (3 * Q.C), .inr (.inl Q.ef))), (tv, .inr (12, MF 13 (tw V))), (V.au, .inl (cC, V.U, .inl V.un))]) [5, 0, 1, 2, 3, 4] rfl
                          have hD := hD.sub (ws' := [(mo, .inr (13, MF 30 u2)), (qx, .inl (cB, NN, .inl f)), (Q.qq, .inl (cI, (8 * Q.C), .inl Q.qf)), (Q.qe, .inl (cL, (3 * Q.C), .inr (.inl Q.ef))), (tv, .inr (12, MF 13 (tw V))), (V.au, .inl (cC, V.U, .inl V.un))]) [5, 0, 1, 2, 3, 4] (by decide) rfl
                          obtain ⟨b7, h_b7⟩ := rf_fail (v := (rs v Q o)) (i := i) (br := br) (b2 := br) (wh := (nI i))
                          have hw : r0 = 0 ∧ u2 = _ := hw
                          obtain ⟨hw1, hw2⟩ := hw
                          rw [h_b7] at hw2
                          rw [hw2] at hP hD
                          subst hw1
                          have hP : va_P (dC, dI) classes [(mo, .inr (13, MF 30 (rf (rs v Q o) i b7))), (qx, .inl (cB, NN, .inl f)), (Q.qq, .inl (cI, (8 * Q.C), .inl Q.qf)), (Q.qe, .inl (cL, (3 * Q.C), .inr (.inl Q.ef))), (tv, .inr (12, MF 13 (tw V))), (V.au, .inl (cC, V.U, .inl V.un))] H := hP
                          have hD : va_D A [(mo, .inr (13, MF 30 (rf (rs v Q o) i b7))), (qx, .inl (cB, NN, .inl f)), (Q.qq, .inl (cI, (8 * Q.C), .inl Q.qf)), (Q.qe, .inl (cL, (3 * Q.C), .inr (.inl Q.ef))), (tv, .inr (12, MF 13 (tw V))), (V.au, .inl (cC, V.U, .inl V.un))] := hD
                          refine lv_pop hx hb d_Mo_comparable_280 rfl ?_
                          refine lv_iconst (v := (-1)) hx hb d_Mo_comparable_281 (by decide) ?_
                          have hfin : cmP f n ok (orL f n) (cmL f n) (qyL f n) i = none := by rw [cmP_fn hN0 hN1 hN2 hN3 hN4 hN5]; unfold fnP; rw [if_neg (fun h => c257 (h_r1.trans h)), if_neg (fun h => c263 (h_r1.trans h)), if_neg (fun h => c269 (h_r1.trans h))]
                          refine w_same (fun hq => ?_)
                          refine W.widen (k := kcap Q (Q.R + 8 * (n - i) + 1) + qcap V (V.us + (n + 12 - i))) (n := 22 * kcap Q (Q.R + 8 * (n - i) + 1) + 2 * qcap V (V.us + (n + 12 - i))) hfit_QV.1 hfit_QV.2 ?_
                          have hPo : QPo n i 1 Q V (Q, V, i, b7, o) := ⟨hQk_Q, hG_QV, ⟨[], TX.rf hTk_V, Nat.zero_le _⟩, by show Q.R ≤ Q.R; omega, by show Q.R ≤ Q.R + 8 * (n - i) + 1; omega⟩
                          exact W.iret (v := -1) hx hb hr (fun t9 ht hW => ⟨⟨-1, (Q, V, i, b7, o), rfl, ⟨hPo, Or.inr ⟨rfl, hfin⟩⟩, ⟨by rw [ht]; exact hP, va_K.moved hW.alike hK, hD⟩, by rw [ht]; exact hq⟩, hS.F ht⟩) hS.2.2 d_Mo_comparable_282
                  · refine lv_aload_n hx hb d_Mo_comparable_234 rfl (lv_at hl 1 rfl) ?_
                    refine va_ldcS hx hb hown (hM 1 _ rfl).2 d_Mo_comparable_235 ?_
                    have hE := (hM 1 _ rfl).1
                    have hPc := hP.sub (ws' := [(mo, .inr (13, MF 30 (rf (rs v Q o) i br))), (qx, .inl (cB, NN, .inl f))]) [0, 1] rfl
                    have hDc := hD.sub (ws' := [(mo, .inr (13, MF 30 (rf (rs v Q o) i br))), (qx, .inl (cB, NN, .inl f))]) [0, 1] (by decide) rfl
                    have hKc := hK.sub (tys' := [(cB, .byte)]) [0] rfl
                    have hFc := va_free (wc := [(mo, .inr (13, MF 30 (rf (rs v Q o) i br))), (qx, .inl (cB, NN, .inl f))]) hD hS hA [0, 1] rfl
                    refine va_calli (va_runV (As := [.ref (K 1).1]) (rest := []) ⟨hx, hb, hml, hown, hts⟩ (c_Mo_wordS l dC dI mo H (rf (rs v Q o) i br) cB qx NN f (K 1).1 (K 1).2 4 (mtx 1) n i (by omega) (by omega) (by omega) ((rf_ne (by decide) (by decide)).trans ((rs_ne (by decide) (by decide) (by decide) (by decide)).trans h6)) rf_7 ((rf_ne (by decide) (by decide)).trans ((rs_ne (by decide) (by decide) (by decide) (by decide)).trans h8)) br rf_9 (by decide)) (cwV 1 hts (gt_V (own := R_Mo) (C := R_Mo) (i := 193) (y := y_Mo_wordS) i_Mo_wordS w_1240 w_1242 (gt_sel (y := y_Mo_wordS) (n := 30) (by decide +kernel)) w_7) rfl rfl rfl (by decide +kernel) ⟨Nat.le_trans (m := 11) (Nat.le_of_ble_eq_true rfl) (Nat.le_add_right 11 (15 + G)), Nat.le_trans (m := 400) (Nat.le_of_ble_eq_true rfl) (Nat.le_add_right 400 (600 + M))⟩) ⟨mstr_blind, va_recv hKc hPc (ci := 13) (q0 := 0) rfl rfl, fun U hU hW => ⟨rfl, ⟨hU, by rw [hU]; exact hPc, va_K.moved hW.alike hKc, hDc.weaken (fun _ _ _ _ => trivial)⟩, by rw [hU]; exact SX.moved' hW.alike (SX.narrow' (SX.kept' hE hS.2.1) hFc)⟩⟩ rfl rfl hl.1 rfl (lv_room (Nat.le_of_ble_eq_true rfl)) d_Mo_comparable_237 ⟨hfit_QV.1, hfit_QV.2⟩) hS (fun q _ h => hFc q h) hFc (fun r0 u2 t9 H1 locs ht hvm hw hB hz1 hk1 hS => ?_)
                    obtain ⟨hP1, hK1, hD1⟩ := hB
                    rw [ht] at hP1
                    obtain ⟨hP, hD⟩ := va_join (wr := [(Q.qq, .inl (cI, (8 * Q.C), .inl Q.qf)), (Q.qe, .inl (cL, (3 * Q.C), .inr (.inl Q.ef))), (tv, .inr (12, MF 13 (tw V))), (V.au, .inl (cC, V.U, .inl V.un))]) (w1 := [(mo, .inr (13, MF 30 u2)), (qx, .inl (cB, NN, .inl f))]) hP hD [0, 1] [2, 3, 4, 5] rfl rfl (by decide) (by decide) hk1 hFc hP1 hD1
                    generalize H1 = H at hP hS ⊢
                    have hP : va_P (dC, dI) classes [(Q.qq, .inl (cI, (8 * Q.C), .inl Q.qf)), (Q.qe, .inl (cL, (3 * Q.C), .inr (.inl Q.ef))), (tv, .inr (12, MF 13 (tw V))), (V.au, .inl (cC, V.U, .inl V.un)), (mo, .inr (13, MF 30 u2)), (qx, .inl (cB, NN, .inl f))] H := hP
                    have hD : va_D A [(Q.qq, .inl (cI, (8 * Q.C), .inl Q.qf)), (Q.qe, .inl (cL, (3 * Q.C), .inr (.inl Q.ef))), (tv, .inr (12, MF 13 (tw V))), (V.au, .inl (cC, V.U, .inl V.un)), (mo, .inr (13, MF 30 u2)), (qx, .inl (cB, NN, .inl f))] := hD
                    have hP := hP.sub (ws' := [(mo, .inr (13, MF 30 u2)), (qx, .inl (cB, NN, .inl f)), (Q.qq, .inl (cI, (8 * Q.C), .inl Q.qf)), (Q.qe, .inl (cL, (3 * Q.C), .inr (.inl Q.ef))), (tv, .inr (12, MF 13 (tw V))), (V.au, .inl (cC, V.U, .inl V.un))]) [4, 5, 0, 1, 2, 3] rfl
                    have hD := hD.sub (ws' := [(mo, .inr (13, MF 30 u2)), (qx, .inl (cB, NN, .inl f)), (Q.qq, .inl (cI, (8 * Q.C), .inl Q.qf)), (Q.qe, .inl (cL, (3 * Q.C), .inr (.inl Q.ef))), (tv, .inr (12, MF 13 (tw V))), (V.au, .inl (cC, V.U, .inl V.un))]) [4, 5, 0, 1, 2, 3] (by decide) rfl
                    rcases hw with ⟨hwm, hw2, hw3⟩ | ⟨hwm, hw2, k9, hw3⟩
                    · rw [rf_u7] at hw3
                      rw [hw3] at hP hD
                      subst hw2
                      have hP : va_P (dC, dI) classes [(mo, .inr (13, MF 30 (rf (rs v Q o) (i + 4) br))), (qx, .inl (cB, NN, .inl f)), (Q.qq, .inl (cI, (8 * Q.C), .inl Q.qf)), (Q.qe, .inl (cL, (3 * Q.C), .inr (.inl Q.ef))), (tv, .inr (12, MF 13 (tw V))), (V.au, .inl (cC, V.U, .inl V.un))] H := hP
                      have hD : va_D A [(mo, .inr (13, MF 30 (rf (rs v Q o) (i + 4) br))), (qx, .inl (cB, NN, .inl f)), (Q.qq, .inl (cI, (8 * Q.C), .inl Q.qf)), (Q.qe, .inl (cL, (3 * Q.C), .inr (.inl Q.ef))), (tv, .inr (12, MF 13 (tw V))), (V.au, .inl (cC, V.U, .inl V.un))] := hD
                      have hwlt := mtch_le (k := 3) hwm (by decide)
                      have hwb : mtB f n i (mtx 1) 4 = true := mtB_iff.mpr hwm
                      refine lv_if_eq (tgt := 252) hx hb d_Mo_comparable_240 (by decide) (fun h => absurd h (by decide)) (fun _ => ?_)
                      refine lv_aload_n hx hb d_Mo_comparable_243 rfl (lv_at hl 1 rfl) ?_
                      refine lv_bipush (v := 44) hx hb d_Mo_comparable_244 (by decide) ?_
                      have hPc := hP.sub (ws' := [(mo, .inr (13, MF 30 (rf (rs v Q o) (i + 4) br))), (Q.qq, .inl (cI, (8 * Q.C), .inl Q.qf)), (Q.qe, .inl (cL, (3 * Q.C), .inr (.inl Q.ef)))]) [0, 2, 3] rfl
                      have hDc := hD.sub (ws' := [(mo, .inr (13, MF 30 (rf (rs v Q o) (i + 4) br))), (Q.qq, .inl (cI, (8 * Q.C), .inl Q.qf)), (Q.qe, .inl (cL, (3 * Q.C), .inr (.inl Q.ef)))]) [0, 2, 3] (by decide) rfl
                      have hKc := hK.sub (tys' := [(cI, .int), (cL, .long)]) [1, 2] rfl
                      have hFc := va_free (wc := [(mo, .inr (13, MF 30 (rf (rs v Q o) (i + 4) br))), (Q.qq, .inl (cI, (8 * Q.C), .inl Q.qf)), (Q.qe, .inl (cL, (3 * Q.C), .inr (.inl Q.ef)))]) hD hS hA [0, 2, 3] rfl
                      refine w_same (fun hq0 => ?_)
                      refine va_calli (va_runV (As := [.int 44]) (rest := []) ⟨hx, hb, hml, hown, hts⟩ (c_Mo_row l dC dI mo H v cI cL Q o (i + 4) br 44 hQk_Q) (cwV 1 hts (gt_V (own := R_Mo) (C := R_Mo) (i := 269) (y := y_Mo_row) i_Mo_row w_1407 w_1409 (gt_sel (y := y_Mo_row) (n := 30) (by decide +kernel)) w_7) rfl rfl rfl (by decide +kernel) ⟨Nat.le_trans (m := 11) (Nat.le_of_ble_eq_true rfl) (Nat.le_add_right 11 (15 + G)), Nat.le_trans (m := 400) (Nat.le_of_ble_eq_true rfl) (Nat.le_add_right 400 (600 + M))⟩) ⟨mp_blind, va_recv hKc hPc (ci := 13) (q0 := 0) rfl rfl, fun U hU hW => ⟨rfl, hU, by rw [hU]; exact hPc, va_K.moved hW.alike hKc, hDc.weaken (fun _ _ _ _ => trivial)⟩⟩ rfl rfl hl.1 rfl (lv_room (Nat.le_of_ble_eq_true rfl)) d_Mo_comparable_246 ⟨(QAd.fit hG_QV hQk_Q (by omega)).1, (QAd.fit hG_QV hQk_Q (by omega)).2⟩) hS (fun q _ h => hFc q h) hFc (fun r0 Q1 t9 H1 locs ht hvm hw hB hz1 hk1 hS => ?_)
                      obtain ⟨⟨hP1, hK1, hD1⟩, hz9⟩ := hB
                      rw [ht] at hP1
                      rw [ht] at hz9
                      obtain ⟨hr0, hA_Q1⟩ := hw
                      have hA_Q1 : QAd Q Q1 44 := hA_Q1
                      obtain ⟨hQk_Q1, hGa, hGb, hGd, hR_Q1⟩ := hA_Q1.gq hQk_Q (by omega) V
                      obtain ⟨hG_Q1V, hGc, hGs⟩ := hG_QV.tr hGa (show Q.R + 1 ≤ Q.R + 8 * (n - i) + 1 by omega) (Nat.zero_le _)
                      have hGc := Nat.le_trans (Nat.add_le_add_left hGb _) hGc
                      have hGs := Nat.le_trans (Nat.add_le_add_left hGd _) hGs
                      have hq1 : szk s.heap H1 (cQ Q V Q1 V) (sQ Q V Q1 V) := (hq0.trans hz9).mono hGc hGs
                      refine w_tight hq1 ?_
                      obtain ⟨hP, hD⟩ := va_join (wr := [(qx, .inl (cB, NN, .inl f)), (tv, .inr (12, MF 13 (tw V))), (V.au, .inl (cC, V.U, .inl V.un))]) (w1 := [(mo, .inr (13, MF 30 (rf (rs v Q1 o) (i + 4) br))), (Q1.qq, .inl (cI, (8 * Q1.C), .inl Q1.qf)), (Q1.qe, .inl (cL, (3 * Q1.C), .inr (.inl Q1.ef)))]) hP hD [0, 2, 3] [1, 4, 5] rfl rfl (by decide) (by decide) hk1 hFc hP1 hD1
                      generalize H1 = H at hP hS ⊢
                      have hP : va_P (dC, dI) classes [(qx, .inl (cB, NN, .inl f)), (tv, .inr (12, MF 13 (tw V))), (V.au, .inl (cC, V.U, .inl V.un)), (mo, .inr (13, MF 30 (rf (rs v Q1 o) (i + 4) br))), (Q1.qq, .inl (cI, (8 * Q1.C), .inl Q1.qf)), (Q1.qe, .inl (cL, (3 * Q1.C), .inr (.inl Q1.ef)))] H := hP
                      have hD : va_D A [(qx, .inl (cB, NN, .inl f)), (tv, .inr (12, MF 13 (tw V))), (V.au, .inl (cC, V.U, .inl V.un)), (mo, .inr (13, MF 30 (rf (rs v Q1 o) (i + 4) br))), (Q1.qq, .inl (cI, (8 * Q1.C), .inl Q1.qf)), (Q1.qe, .inl (cL, (3 * Q1.C), .inr (.inl Q1.ef)))] := hD
                      have hP := hP.sub (ws' := [(mo, .inr (13, MF 30 (rf (rs v Q1 o) (i + 4) br))), (qx, .inl (cB, NN, .inl f)), (tv, .inr (12, MF 13 (tw V))), (V.au, .inl (cC, V.U, .inl V.un)), (Q1.qq, .inl (cI, (8 * Q1.C), .inl Q1.qf)), (Q1.qe, .inl (cL, (3 * Q1.C), .inr (.inl Q1.ef)))]) [3, 0, 1, 2, 4, 5] rfl
                      have hD := hD.sub (ws' := [(mo, .inr (13, MF 30 (rf (rs v Q1 o) (i + 4) br))), (qx, .inl (cB, NN, .inl f)), (tv, .inr (12, MF 13 (tw V))), (V.au, .inl (cC, V.U, .inl V.un)), (Q1.qq, .inl (cI, (8 * Q1.C), .inl Q1.qf)), (Q1.qe, .inl (cL, (3 * Q1.C), .inr (.inl Q1.ef)))]) [3, 0, 1, 2, 4, 5] (by decide) rfl
                      have hP := hP.sub (ws' := [(mo, .inr (13, MF 30 (rf (rs v Q1 o) (i + 4) br))), (qx, .inl (cB, NN, .inl f)), (Q1.qq, .inl (cI, (8 * Q1.C), .inl Q1.qf)), (Q1.qe, .inl (cL, (3 * Q1.C), .inr (.inl Q1.ef))), (tv, .inr (12, MF 13 (tw V))), (V.au, .inl (cC, V.U, .inl V.un))]) [0, 1, 4, 5, 2, 3] rfl
                      have hD := hD.sub (ws' := [(mo, .inr (13, MF 30 (rf (rs v Q1 o) (i + 4) br))), (qx, .inl (cB, NN, .inl f)), (Q1.qq, .inl (cI, (8 * Q1.C), .inl Q1.qf)), (Q1.qe, .inl (cL, (3 * Q1.C), .inr (.inl Q1.ef))), (tv, .inr (12, MF 13 (tw V))), (V.au, .inl (cC, V.U, .inl V.un))]) [0, 1, 4, 5, 2, 3] (by decide) rfl
                      have hr0 : r0 = nI Q.R := hr0
                      subst hr0
                      have hqb_Q1V : Q1.R ≤ Q1.C ∧ Q1.C ≤ 100000 := ⟨hQk_Q1.2.2.1, hQk_Q1.2.1⟩
                      have hfit_Q1V := hG_Q1V.fits
                      have hE_Q1 : alr Q V Q1 V 0 Q.R := ⟨fun r9 k9 _ h1 h2 => hA_Q1.2.2.1 _ (by omega), ⟨fun r9 k9 _ h1 h2 => hA_Q1.2.2.2.1.2 _ (by omega), Nat.le_refl _, fun _ _ => rfl⟩⟩
                      have hk0_Q1 : Q1.qf (8 * Q.R + 0) = 44 := hA_Q1.2.2.2.2.1
                      have hl1_Q1 : Q1.qf (8 * Q.R + 1) = -1 := hA_Q1.2.2.2.2.2 1 (by decide) (by decide)
                      have hEx_Q1V : alr Q V Q1 V 0 Q.R := hE_Q1
                      refine lv_goto (tgt := 253) hx hb d_Mo_comparable_249 (by decide) ?_
                      have hfin : cmP f n ok (orL f n) (cmL f n) (qyL f n) i = some (i + 4, litO (0, 0, [])) := by rw [cmP_n hN0 hN1 hN2 hN3 hN4 (h_r1.symm.trans c231), if_pos hwb]
                      have hCF : CMPf O C Y Q1 V Q.R Q1.R Q.R (litO (0, 0, [])) := ⟨by omega, by omega, Or.inr (Or.inr (Or.inr (Or.inr (Or.inl ⟨hk0_Q1, rfl⟩))))⟩
                      refine w_same (fun hq => ?_)
                      refine W.widen (k := kcap Q (Q.R + 8 * (n - i) + 1) + qcap V (V.us + (n + 12 - i))) (n := 22 * kcap Q (Q.R + 8 * (n - i) + 1) + 2 * qcap V (V.us + (n + 12 - i))) hfit_Q1V.1 hfit_Q1V.2 ?_
                      have hPo : QPo n i 1 Q V (Q1, V, (i + 4), br, o) := ⟨hQk_Q1, hG_Q1V, ⟨[], TX.rf hTk_V, Nat.zero_le _⟩, by show Q.R ≤ Q1.R; omega, by show Q1.R ≤ Q.R + 8 * (n - i) + 1; omega⟩
                      exact W.iret (v := nI Q.R) hx hb hr (fun t9 ht hW => ⟨⟨nI Q.R, (Q1, V, (i + 4), br, o), rfl, ⟨hPo, Or.inl ⟨Q.R, litO (0, 0, []), rfl, hfin, hCF, by show Q.R < Q1.R; omega, hEx_Q1V, by show Q1.R + 8 * i + 6 ≤ Q.R + 8 * (i + 4); omega, by show V.us + i ≤ V.us + (i + 4); omega, by show (i + 4) ≤ n; omega, by show Q.R < Q1.R; omega, rfl⟩⟩, ⟨by rw [ht]; exact hP, va_K.moved hW.alike hK, hD⟩, by rw [ht]; exact hq⟩, hS.F ht⟩) hS.2.2 d_Mo_comparable_253
                    · rw [rf_u7] at hw3
                      obtain ⟨b4, h_b4⟩ := rf_fail (v := (rs v Q o)) (i := k9) (br := br) (b2 := br) (wh := nI k9)
                      rw [h_b4] at hw3
                      rw [hw3] at hP hD
                      subst hw2
                      have hP : va_P (dC, dI) classes [(mo, .inr (13, MF 30 (rf (rs v Q o) k9 b4))), (qx, .inl (cB, NN, .inl f)), (Q.qq, .inl (cI, (8 * Q.C), .inl Q.qf)), (Q.qe, .inl (cL, (3 * Q.C), .inr (.inl Q.ef))), (tv, .inr (12, MF 13 (tw V))), (V.au, .inl (cC, V.U, .inl V.un))] H := hP
                      have hD : va_D A [(mo, .inr (13, MF 30 (rf (rs v Q o) k9 b4))), (qx, .inl (cB, NN, .inl f)), (Q.qq, .inl (cI, (8 * Q.C), .inl Q.qf)), (Q.qe, .inl (cL, (3 * Q.C), .inr (.inl Q.ef))), (tv, .inr (12, MF 13 (tw V))), (V.au, .inl (cC, V.U, .inl V.un))] := hD
                      have hwb : ¬ mtB f n i (mtx 1) 4 = true := fun h => hwm (mtB_iff.mp h)
                      refine lv_if_eq (tgt := 252) hx hb d_Mo_comparable_240 (by decide) (fun _ => ?_) (fun h => absurd (by decide) h)
                      refine lv_iconst (v := (-1)) hx hb d_Mo_comparable_252 (by decide) ?_
                      have hfin : cmP f n ok (orL f n) (cmL f n) (qyL f n) i = none := by rw [cmP_n hN0 hN1 hN2 hN3 hN4 (h_r1.symm.trans c231), if_neg hwb]
                      refine w_same (fun hq => ?_)
                      refine W.widen (k := kcap Q (Q.R + 8 * (n - i) + 1) + qcap V (V.us + (n + 12 - i))) (n := 22 * kcap Q (Q.R + 8 * (n - i) + 1) + 2 * qcap V (V.us + (n + 12 - i))) hfit_QV.1 hfit_QV.2 ?_
                      have hPo : QPo n i 1 Q V (Q, V, k9, b4, o) := ⟨hQk_Q, hG_QV, ⟨[], TX.rf hTk_V, Nat.zero_le _⟩, by show Q.R ≤ Q.R; omega, by show Q.R ≤ Q.R + 8 * (n - i) + 1; omega⟩
                      exact W.iret (v := -1) hx hb hr (fun t9 ht hW => ⟨⟨-1, (Q, V, k9, b4, o), rfl, ⟨hPo, Or.inr ⟨rfl, hfin⟩⟩, ⟨by rw [ht]; exact hP, va_K.moved hW.alike hK, hD⟩, by rw [ht]; exact hq⟩, hS.F ht⟩) hS.2.2 d_Mo_comparable_253
                · refine lv_aload_n hx hb d_Mo_comparable_208 rfl (lv_at hl 1 rfl) ?_
                  refine va_ldcS hx hb hown (hM 3 _ rfl).2 d_Mo_comparable_209 ?_
                  have hE := (hM 3 _ rfl).1
                  have hPc := hP.sub (ws' := [(mo, .inr (13, MF 30 (rf (rs v Q o) i br))), (qx, .inl (cB, NN, .inl f))]) [0, 1] rfl
                  have hDc := hD.sub (ws' := [(mo, .inr (13, MF 30 (rf (rs v Q o) i br))), (qx, .inl (cB, NN, .inl f))]) [0, 1] (by decide) rfl
                  have hKc := hK.sub (tys' := [(cB, .byte)]) [0] rfl
                  have hFc := va_free (wc := [(mo, .inr (13, MF 30 (rf (rs v Q o) i br))), (qx, .inl (cB, NN, .inl f))]) hD hS hA [0, 1] rfl
                  refine va_calli (va_runV (As := [.ref (K 3).1]) (rest := []) ⟨hx, hb, hml, hown, hts⟩ (c_Mo_wordS l dC dI mo H (rf (rs v Q o) i br) cB qx NN f (K 3).1 (K 3).2 5 (mtx 3) n i (by omega) (by omega) (by omega) ((rf_ne (by decide) (by decide)).trans ((rs_ne (by decide) (by decide) (by decide) (by decide)).trans h6)) rf_7 ((rf_ne (by decide) (by decide)).trans ((rs_ne (by decide) (by decide) (by decide) (by decide)).trans h8)) br rf_9 (by decide)) (cwV 1 hts (gt_V (own := R_Mo) (C := R_Mo) (i := 193) (y := y_Mo_wordS) i_Mo_wordS w_1240 w_1242 (gt_sel (y := y_Mo_wordS) (n := 30) (by decide +kernel)) w_7) rfl rfl rfl (by decide +kernel) ⟨Nat.le_trans (m := 11) (Nat.le_of_ble_eq_true rfl) (Nat.le_add_right 11 (15 + G)), Nat.le_trans (m := 400) (Nat.le_of_ble_eq_true rfl) (Nat.le_add_right 400 (600 + M))⟩) ⟨mstr_blind, va_recv hKc hPc (ci := 13) (q0 := 0) rfl rfl, fun U hU hW => ⟨rfl, ⟨hU, by rw [hU]; exact hPc, va_K.moved hW.alike hKc, hDc.weaken (fun _ _ _ _ => trivial)⟩, by rw [hU]; exact SX.moved' hW.alike (SX.narrow' (SX.kept' hE hS.2.1) hFc)⟩⟩ rfl rfl hl.1 rfl (lv_room (Nat.le_of_ble_eq_true rfl)) d_Mo_comparable_211 ⟨hfit_QV.1, hfit_QV.2⟩) hS (fun q _ h => hFc q h) hFc (fun r0 u2 t9 H1 locs ht hvm hw hB hz1 hk1 hS => ?_)
                  obtain ⟨hP1, hK1, hD1⟩ := hB
                  rw [ht] at hP1
                  obtain ⟨hP, hD⟩ := va_join (wr := [(Q.qq, .inl (cI, (8 * Q.C), .inl Q.qf)), (Q.qe, .inl (cL, (3 * Q.C), .inr (.inl Q.ef))), (tv, .inr (12, MF 13 (tw V))), (V.au, .inl (cC, V.U, .inl V.un))]) (w1 := [(mo, .inr (13, MF 30 u2)), (qx, .inl (cB, NN, .inl f))]) hP hD [0, 1] [2, 3, 4, 5] rfl rfl (by decide) (by decide) hk1 hFc hP1 hD1
                  generalize H1 = H at hP hS ⊢
                  have hP : va_P (dC, dI) classes [(Q.qq, .inl (cI, (8 * Q.C), .inl Q.qf)), (Q.qe, .inl (cL, (3 * Q.C), .inr (.inl Q.ef))), (tv, .inr (12, MF 13 (tw V))), (V.au, .inl (cC, V.U, .inl V.un)), (mo, .inr (13, MF 30 u2)), (qx, .inl (cB, NN, .inl f))] H := hP
                  have hD : va_D A [(Q.qq, .inl (cI, (8 * Q.C), .inl Q.qf)), (Q.qe, .inl (cL, (3 * Q.C), .inr (.inl Q.ef))), (tv, .inr (12, MF 13 (tw V))), (V.au, .inl (cC, V.U, .inl V.un)), (mo, .inr (13, MF 30 u2)), (qx, .inl (cB, NN, .inl f))] := hD
                  have hP := hP.sub (ws' := [(mo, .inr (13, MF 30 u2)), (qx, .inl (cB, NN, .inl f)), (Q.qq, .inl (cI, (8 * Q.C), .inl Q.qf)), (Q.qe, .inl (cL, (3 * Q.C), .inr (.inl Q.ef))), (tv, .inr (12, MF 13 (tw V))), (V.au, .inl (cC, V.U, .inl V.un))]) [4, 5, 0, 1, 2, 3] rfl
                  have hD := hD.sub (ws' := [(mo, .inr (13, MF 30 u2)), (qx, .inl (cB, NN, .inl f)), (Q.qq, .inl (cI, (8 * Q.C), .inl Q.qf)), (Q.qe, .inl (cL, (3 * Q.C), .inr (.inl Q.ef))), (tv, .inr (12, MF 13 (tw V))), (V.au, .inl (cC, V.U, .inl V.un))]) [4, 5, 0, 1, 2, 3] (by decide) rfl
                  rcases hw with ⟨hwm, hw2, hw3⟩ | ⟨hwm, hw2, k9, hw3⟩
                  · rw [rf_u7] at hw3
                    rw [hw3] at hP hD
                    subst hw2
                    have hP : va_P (dC, dI) classes [(mo, .inr (13, MF 30 (rf (rs v Q o) (i + 5) br))), (qx, .inl (cB, NN, .inl f)), (Q.qq, .inl (cI, (8 * Q.C), .inl Q.qf)), (Q.qe, .inl (cL, (3 * Q.C), .inr (.inl Q.ef))), (tv, .inr (12, MF 13 (tw V))), (V.au, .inl (cC, V.U, .inl V.un))] H := hP
                    have hD : va_D A [(mo, .inr (13, MF 30 (rf (rs v Q o) (i + 5) br))), (qx, .inl (cB, NN, .inl f)), (Q.qq, .inl (cI, (8 * Q.C), .inl Q.qf)), (Q.qe, .inl (cL, (3 * Q.C), .inr (.inl Q.ef))), (tv, .inr (12, MF 13 (tw V))), (V.au, .inl (cC, V.U, .inl V.un))] := hD
                    have hwlt := mtch_le (k := 4) hwm (by decide)
                    have hwb : mtB f n i (mtx 3) 5 = true := mtB_iff.mpr hwm
                    refine lv_if_eq (tgt := 226) hx hb d_Mo_comparable_214 (by decide) (fun h => absurd h (by decide)) (fun _ => ?_)
                    refine lv_aload_n hx hb d_Mo_comparable_217 rfl (lv_at hl 1 rfl) ?_
                    refine lv_bipush (v := 43) hx hb d_Mo_comparable_218 (by decide) ?_
                    have hPc := hP.sub (ws' := [(mo, .inr (13, MF 30 (rf (rs v Q o) (i + 5) br))), (Q.qq, .inl (cI, (8 * Q.C), .inl Q.qf)), (Q.qe, .inl (cL, (3 * Q.C), .inr (.inl Q.ef)))]) [0, 2, 3] rfl
                    have hDc := hD.sub (ws' := [(mo, .inr (13, MF 30 (rf (rs v Q o) (i + 5) br))), (Q.qq, .inl (cI, (8 * Q.C), .inl Q.qf)), (Q.qe, .inl (cL, (3 * Q.C), .inr (.inl Q.ef)))]) [0, 2, 3] (by decide) rfl
                    have hKc := hK.sub (tys' := [(cI, .int), (cL, .long)]) [1, 2] rfl
                    have hFc := va_free (wc := [(mo, .inr (13, MF 30 (rf (rs v Q o) (i + 5) br))), (Q.qq, .inl (cI, (8 * Q.C), .inl Q.qf)), (Q.qe, .inl (cL, (3 * Q.C), .inr (.inl Q.ef)))]) hD hS hA [0, 2, 3] rfl
                    refine w_same (fun hq0 => ?_)
                    refine va_calli (va_runV (As := [.int 43]) (rest := []) ⟨hx, hb, hml, hown, hts⟩ (c_Mo_row l dC dI mo H v cI cL Q o (i + 5) br 43 hQk_Q) (cwV 1 hts (gt_V (own := R_Mo) (C := R_Mo) (i := 269) (y := y_Mo_row) i_Mo_row w_1407 w_1409 (gt_sel (y := y_Mo_row) (n := 30) (by decide +kernel)) w_7) rfl rfl rfl (by decide +kernel) ⟨Nat.le_trans (m := 11) (Nat.le_of_ble_eq_true rfl) (Nat.le_add_right 11 (15 + G)), Nat.le_trans (m := 400) (Nat.le_of_ble_eq_true rfl) (Nat.le_add_right 400 (600 + M))⟩) ⟨mp_blind, va_recv hKc hPc (ci := 13) (q0 := 0) rfl rfl, fun U hU hW => ⟨rfl, hU, by rw [hU]; exact hPc, va_K.moved hW.alike hKc, hDc.weaken (fun _ _ _ _ => trivial)⟩⟩ rfl rfl hl.1 rfl (lv_room (Nat.le_of_ble_eq_true rfl)) d_Mo_comparable_220 ⟨(QAd.fit hG_QV hQk_Q (by omega)).1, (QAd.fit hG_QV hQk_Q (by omega)).2⟩) hS (fun q _ h => hFc q h) hFc (fun r0 Q1 t9 H1 locs ht hvm hw hB hz1 hk1 hS => ?_)
                    obtain ⟨⟨hP1, hK1, hD1⟩, hz9⟩ := hB
                    rw [ht] at hP1
                    rw [ht] at hz9
                    obtain ⟨hr0, hA_Q1⟩ := hw
                    have hA_Q1 : QAd Q Q1 43 := hA_Q1
                    obtain ⟨hQk_Q1, hGa, hGb, hGd, hR_Q1⟩ := hA_Q1.gq hQk_Q (by omega) V
                    obtain ⟨hG_Q1V, hGc, hGs⟩ := hG_QV.tr hGa (show Q.R + 1 ≤ Q.R + 8 * (n - i) + 1 by omega) (Nat.zero_le _)
                    have hGc := Nat.le_trans (Nat.add_le_add_left hGb _) hGc
                    have hGs := Nat.le_trans (Nat.add_le_add_left hGd _) hGs
                    have hq1 : szk s.heap H1 (cQ Q V Q1 V) (sQ Q V Q1 V) := (hq0.trans hz9).mono hGc hGs
                    refine w_tight hq1 ?_
                    obtain ⟨hP, hD⟩ := va_join (wr := [(qx, .inl (cB, NN, .inl f)), (tv, .inr (12, MF 13 (tw V))), (V.au, .inl (cC, V.U, .inl V.un))]) (w1 := [(mo, .inr (13, MF 30 (rf (rs v Q1 o) (i + 5) br))), (Q1.qq, .inl (cI, (8 * Q1.C), .inl Q1.qf)), (Q1.qe, .inl (cL, (3 * Q1.C), .inr (.inl Q1.ef)))]) hP hD [0, 2, 3] [1, 4, 5] rfl rfl (by decide) (by decide) hk1 hFc hP1 hD1
                    generalize H1 = H at hP hS ⊢
                    have hP : va_P (dC, dI) classes [(qx, .inl (cB, NN, .inl f)), (tv, .inr (12, MF 13 (tw V))), (V.au, .inl (cC, V.U, .inl V.un)), (mo, .inr (13, MF 30 (rf (rs v Q1 o) (i + 5) br))), (Q1.qq, .inl (cI, (8 * Q1.C), .inl Q1.qf)), (Q1.qe, .inl (cL, (3 * Q1.C), .inr (.inl Q1.ef)))] H := hP
                    have hD : va_D A [(qx, .inl (cB, NN, .inl f)), (tv, .inr (12, MF 13 (tw V))), (V.au, .inl (cC, V.U, .inl V.un)), (mo, .inr (13, MF 30 (rf (rs v Q1 o) (i + 5) br))), (Q1.qq, .inl (cI, (8 * Q1.C), .inl Q1.qf)), (Q1.qe, .inl (cL, (3 * Q1.C), .inr (.inl Q1.ef)))] := hD
                    have hP := hP.sub (ws' := [(mo, .inr (13, MF 30 (rf (rs v Q1 o) (i + 5) br))), (qx, .inl (cB, NN, .inl f)), (tv, .inr (12, MF 13 (tw V))), (V.au, .inl (cC, V.U, .inl V.un)), (Q1.qq, .inl (cI, (8 * Q1.C), .inl Q1.qf)), (Q1.qe, .inl (cL, (3 * Q1.C), .inr (.inl Q1.ef)))]) [3, 0, 1, 2, 4, 5] rfl
                    have hD := hD.sub (ws' := [(mo, .inr (13, MF 30 (rf (rs v Q1 o) (i + 5) br))), (qx, .inl (cB, NN, .inl f)), (tv, .inr (12, MF 13 (tw V))), (V.au, .inl (cC, V.U, .inl V.un)), (Q1.qq, .inl (cI, (8 * Q1.C), .inl Q1.qf)), (Q1.qe, .inl (cL, (3 * Q1.C), .inr (.inl Q1.ef)))]) [3, 0, 1, 2, 4, 5] (by decide) rfl
                    have hP := hP.sub (ws' := [(mo, .inr (13, MF 30 (rf (rs v Q1 o) (i + 5) br))), (qx, .inl (cB, NN, .inl f)), (Q1.qq, .inl (cI, (8 * Q1.C), .inl Q1.qf)), (Q1.qe, .inl (cL, (3 * Q1.C), .inr (.inl Q1.ef))), (tv, .inr (12, MF 13 (tw V))), (V.au, .inl (cC, V.U, .inl V.un))]) [0, 1, 4, 5, 2, 3] rfl
                    have hD := hD.sub (ws' := [(mo, .inr (13, MF 30 (rf (rs v Q1 o) (i + 5) br))), (qx, .inl (cB, NN, .inl f)), (Q1.qq, .inl (cI, (8 * Q1.C), .inl Q1.qf)), (Q1.qe, .inl (cL, (3 * Q1.C), .inr (.inl Q1.ef))), (tv, .inr (12, MF 13 (tw V))), (V.au, .inl (cC, V.U, .inl V.un))]) [0, 1, 4, 5, 2, 3] (by decide) rfl
                    have hr0 : r0 = nI Q.R := hr0
                    subst hr0
                    have hqb_Q1V : Q1.R ≤ Q1.C ∧ Q1.C ≤ 100000 := ⟨hQk_Q1.2.2.1, hQk_Q1.2.1⟩
                    have hfit_Q1V := hG_Q1V.fits
                    have hE_Q1 : alr Q V Q1 V 0 Q.R := ⟨fun r9 k9 _ h1 h2 => hA_Q1.2.2.1 _ (by omega), ⟨fun r9 k9 _ h1 h2 => hA_Q1.2.2.2.1.2 _ (by omega), Nat.le_refl _, fun _ _ => rfl⟩⟩
                    have hk0_Q1 : Q1.qf (8 * Q.R + 0) = 43 := hA_Q1.2.2.2.2.1
                    have hl1_Q1 : Q1.qf (8 * Q.R + 1) = -1 := hA_Q1.2.2.2.2.2 1 (by decide) (by decide)
                    have hEx_Q1V : alr Q V Q1 V 0 Q.R := hE_Q1
                    refine lv_goto (tgt := 227) hx hb d_Mo_comparable_223 (by decide) ?_
                    have hfin : cmP f n ok (orL f n) (cmL f n) (qyL f n) i = some (i + 5, litO (2, 0, [])) := by rw [cmP_f hN0 hN1 hN2 hN3 (h_r1.symm.trans c205), if_pos hwb]
                    have hCF : CMPf O C Y Q1 V Q.R Q1.R Q.R (litO (2, 0, [])) := ⟨by omega, by omega, Or.inr (Or.inr (Or.inr (Or.inl ⟨hk0_Q1, rfl⟩)))⟩
                    refine w_same (fun hq => ?_)
                    refine W.widen (k := kcap Q (Q.R + 8 * (n - i) + 1) + qcap V (V.us + (n + 12 - i))) (n := 22 * kcap Q (Q.R + 8 * (n - i) + 1) + 2 * qcap V (V.us + (n + 12 - i))) hfit_Q1V.1 hfit_Q1V.2 ?_
                    have hPo : QPo n i 1 Q V (Q1, V, (i + 5), br, o) := ⟨hQk_Q1, hG_Q1V, ⟨[], TX.rf hTk_V, Nat.zero_le _⟩, by show Q.R ≤ Q1.R; omega, by show Q1.R ≤ Q.R + 8 * (n - i) + 1; omega⟩
                    exact W.iret (v := nI Q.R) hx hb hr (fun t9 ht hW => ⟨⟨nI Q.R, (Q1, V, (i + 5), br, o), rfl, ⟨hPo, Or.inl ⟨Q.R, litO (2, 0, []), rfl, hfin, hCF, by show Q.R < Q1.R; omega, hEx_Q1V, by show Q1.R + 8 * i + 6 ≤ Q.R + 8 * (i + 5); omega, by show V.us + i ≤ V.us + (i + 5); omega, by show (i + 5) ≤ n; omega, by show Q.R < Q1.R; omega, rfl⟩⟩, ⟨by rw [ht]; exact hP, va_K.moved hW.alike hK, hD⟩, by rw [ht]; exact hq⟩, hS.F ht⟩) hS.2.2 d_Mo_comparable_227
                  · rw [rf_u7] at hw3
                    obtain ⟨b4, h_b4⟩ := rf_fail (v := (rs v Q o)) (i := k9) (br := br) (b2 := br) (wh := nI k9)
                    rw [h_b4] at hw3
                    rw [hw3] at hP hD
                    subst hw2
                    have hP : va_P (dC, dI) classes [(mo, .inr (13, MF 30 (rf (rs v Q o) k9 b4))), (qx, .inl (cB, NN, .inl f)), (Q.qq, .inl (cI, (8 * Q.C), .inl Q.qf)), (Q.qe, .inl (cL, (3 * Q.C), .inr (.inl Q.ef))), (tv, .inr (12, MF 13 (tw V))), (V.au, .inl (cC, V.U, .inl V.un))] H := hP
                    have hD : va_D A [(mo, .inr (13, MF 30 (rf (rs v Q o) k9 b4))), (qx, .inl (cB, NN, .inl f)), (Q.qq, .inl (cI, (8 * Q.C), .inl Q.qf)), (Q.qe, .inl (cL, (3 * Q.C), .inr (.inl Q.ef))), (tv, .inr (12, MF 13 (tw V))), (V.au, .inl (cC, V.U, .inl V.un))] := hD
                    have hwb : ¬ mtB f n i (mtx 3) 5 = true := fun h => hwm (mtB_iff.mp h)
                    refine lv_if_eq (tgt := 226) hx hb d_Mo_comparable_214 (by decide) (fun _ => ?_) (fun h => absurd (by decide) h)
                    refine lv_iconst (v := (-1)) hx hb d_Mo_comparable_226 (by decide) ?_
                    have hfin : cmP f n ok (orL f n) (cmL f n) (qyL f n) i = none := by rw [cmP_f hN0 hN1 hN2 hN3 (h_r1.symm.trans c205), if_neg hwb]
                    refine w_same (fun hq => ?_)
                    refine W.widen (k := kcap Q (Q.R + 8 * (n - i) + 1) + qcap V (V.us + (n + 12 - i))) (n := 22 * kcap Q (Q.R + 8 * (n - i) + 1) + 2 * qcap V (V.us + (n + 12 - i))) hfit_QV.1 hfit_QV.2 ?_
                    have hPo : QPo n i 1 Q V (Q, V, k9, b4, o) := ⟨hQk_Q, hG_QV, ⟨[], TX.rf hTk_V, Nat.zero_le _⟩, by show Q.R ≤ Q.R; omega, by show Q.R ≤ Q.R + 8 * (n - i) + 1; omega⟩
                    exact W.iret (v := -1) hx hb hr (fun t9 ht hW => ⟨⟨-1, (Q, V, k9, b4, o), rfl, ⟨hPo, Or.inr ⟨rfl, hfin⟩⟩, ⟨by rw [ht]; exact hP, va_K.moved hW.alike hK, hD⟩, by rw [ht]; exact hq⟩, hS.F ht⟩) hS.2.2 d_Mo_comparable_227
              · refine lv_aload_n hx hb d_Mo_comparable_182 rfl (lv_at hl 1 rfl) ?_
                refine va_ldcS hx hb hown (hM 2 _ rfl).2 d_Mo_comparable_183 ?_
                have hE := (hM 2 _ rfl).1
                have hPc := hP.sub (ws' := [(mo, .inr (13, MF 30 (rf (rs v Q o) i br))), (qx, .inl (cB, NN, .inl f))]) [0, 1] rfl
                have hDc := hD.sub (ws' := [(mo, .inr (13, MF 30 (rf (rs v Q o) i br))), (qx, .inl (cB, NN, .inl f))]) [0, 1] (by decide) rfl
                have hKc := hK.sub (tys' := [(cB, .byte)]) [0] rfl
                have hFc := va_free (wc := [(mo, .inr (13, MF 30 (rf (rs v Q o) i br))), (qx, .inl (cB, NN, .inl f))]) hD hS hA [0, 1] rfl
                refine va_calli (va_runV (As := [.ref (K 2).1]) (rest := []) ⟨hx, hb, hml, hown, hts⟩ (c_Mo_wordS l dC dI mo H (rf (rs v Q o) i br) cB qx NN f (K 2).1 (K 2).2 4 (mtx 2) n i (by omega) (by omega) (by omega) ((rf_ne (by decide) (by decide)).trans ((rs_ne (by decide) (by decide) (by decide) (by decide)).trans h6)) rf_7 ((rf_ne (by decide) (by decide)).trans ((rs_ne (by decide) (by decide) (by decide) (by decide)).trans h8)) br rf_9 (by decide)) (cwV 1 hts (gt_V (own := R_Mo) (C := R_Mo) (i := 193) (y := y_Mo_wordS) i_Mo_wordS w_1240 w_1242 (gt_sel (y := y_Mo_wordS) (n := 30) (by decide +kernel)) w_7) rfl rfl rfl (by decide +kernel) ⟨Nat.le_trans (m := 11) (Nat.le_of_ble_eq_true rfl) (Nat.le_add_right 11 (15 + G)), Nat.le_trans (m := 400) (Nat.le_of_ble_eq_true rfl) (Nat.le_add_right 400 (600 + M))⟩) ⟨mstr_blind, va_recv hKc hPc (ci := 13) (q0 := 0) rfl rfl, fun U hU hW => ⟨rfl, ⟨hU, by rw [hU]; exact hPc, va_K.moved hW.alike hKc, hDc.weaken (fun _ _ _ _ => trivial)⟩, by rw [hU]; exact SX.moved' hW.alike (SX.narrow' (SX.kept' hE hS.2.1) hFc)⟩⟩ rfl rfl hl.1 rfl (lv_room (Nat.le_of_ble_eq_true rfl)) d_Mo_comparable_185 ⟨hfit_QV.1, hfit_QV.2⟩) hS (fun q _ h => hFc q h) hFc (fun r0 u2 t9 H1 locs ht hvm hw hB hz1 hk1 hS => ?_)
                obtain ⟨hP1, hK1, hD1⟩ := hB
                rw [ht] at hP1
                obtain ⟨hP, hD⟩ := va_join (wr := [(Q.qq, .inl (cI, (8 * Q.C), .inl Q.qf)), (Q.qe, .inl (cL, (3 * Q.C), .inr (.inl Q.ef))), (tv, .inr (12, MF 13 (tw V))), (V.au, .inl (cC, V.U, .inl V.un))]) (w1 := [(mo, .inr (13, MF 30 u2)), (qx, .inl (cB, NN, .inl f))]) hP hD [0, 1] [2, 3, 4, 5] rfl rfl (by decide) (by decide) hk1 hFc hP1 hD1
                generalize H1 = H at hP hS ⊢
                have hP : va_P (dC, dI) classes [(Q.qq, .inl (cI, (8 * Q.C), .inl Q.qf)), (Q.qe, .inl (cL, (3 * Q.C), .inr (.inl Q.ef))), (tv, .inr (12, MF 13 (tw V))), (V.au, .inl (cC, V.U, .inl V.un)), (mo, .inr (13, MF 30 u2)), (qx, .inl (cB, NN, .inl f))] H := hP
                have hD : va_D A [(Q.qq, .inl (cI, (8 * Q.C), .inl Q.qf)), (Q.qe, .inl (cL, (3 * Q.C), .inr (.inl Q.ef))), (tv, .inr (12, MF 13 (tw V))), (V.au, .inl (cC, V.U, .inl V.un)), (mo, .inr (13, MF 30 u2)), (qx, .inl (cB, NN, .inl f))] := hD
                have hP := hP.sub (ws' := [(mo, .inr (13, MF 30 u2)), (qx, .inl (cB, NN, .inl f)), (Q.qq, .inl (cI, (8 * Q.C), .inl Q.qf)), (Q.qe, .inl (cL, (3 * Q.C), .inr (.inl Q.ef))), (tv, .inr (12, MF 13 (tw V))), (V.au, .inl (cC, V.U, .inl V.un))]) [4, 5, 0, 1, 2, 3] rfl
                have hD := hD.sub (ws' := [(mo, .inr (13, MF 30 u2)), (qx, .inl (cB, NN, .inl f)), (Q.qq, .inl (cI, (8 * Q.C), .inl Q.qf)), (Q.qe, .inl (cL, (3 * Q.C), .inr (.inl Q.ef))), (tv, .inr (12, MF 13 (tw V))), (V.au, .inl (cC, V.U, .inl V.un))]) [4, 5, 0, 1, 2, 3] (by decide) rfl
                rcases hw with ⟨hwm, hw2, hw3⟩ | ⟨hwm, hw2, k9, hw3⟩
                · rw [rf_u7] at hw3
                  rw [hw3] at hP hD
                  subst hw2
                  have hP : va_P (dC, dI) classes [(mo, .inr (13, MF 30 (rf (rs v Q o) (i + 4) br))), (qx, .inl (cB, NN, .inl f)), (Q.qq, .inl (cI, (8 * Q.C), .inl Q.qf)), (Q.qe, .inl (cL, (3 * Q.C), .inr (.inl Q.ef))), (tv, .inr (12, MF 13 (tw V))), (V.au, .inl (cC, V.U, .inl V.un))] H := hP
                  have hD : va_D A [(mo, .inr (13, MF 30 (rf (rs v Q o) (i + 4) br))), (qx, .inl (cB, NN, .inl f)), (Q.qq, .inl (cI, (8 * Q.C), .inl Q.qf)), (Q.qe, .inl (cL, (3 * Q.C), .inr (.inl Q.ef))), (tv, .inr (12, MF 13 (tw V))), (V.au, .inl (cC, V.U, .inl V.un))] := hD
                  have hwlt := mtch_le (k := 3) hwm (by decide)
                  have hwb : mtB f n i (mtx 2) 4 = true := mtB_iff.mpr hwm
                  refine lv_if_eq (tgt := 200) hx hb d_Mo_comparable_188 (by decide) (fun h => absurd h (by decide)) (fun _ => ?_)
                  refine lv_aload_n hx hb d_Mo_comparable_191 rfl (lv_at hl 1 rfl) ?_
                  refine lv_bipush (v := 42) hx hb d_Mo_comparable_192 (by decide) ?_
                  have hPc := hP.sub (ws' := [(mo, .inr (13, MF 30 (rf (rs v Q o) (i + 4) br))), (Q.qq, .inl (cI, (8 * Q.C), .inl Q.qf)), (Q.qe, .inl (cL, (3 * Q.C), .inr (.inl Q.ef)))]) [0, 2, 3] rfl
                  have hDc := hD.sub (ws' := [(mo, .inr (13, MF 30 (rf (rs v Q o) (i + 4) br))), (Q.qq, .inl (cI, (8 * Q.C), .inl Q.qf)), (Q.qe, .inl (cL, (3 * Q.C), .inr (.inl Q.ef)))]) [0, 2, 3] (by decide) rfl
                  have hKc := hK.sub (tys' := [(cI, .int), (cL, .long)]) [1, 2] rfl
                  have hFc := va_free (wc := [(mo, .inr (13, MF 30 (rf (rs v Q o) (i + 4) br))), (Q.qq, .inl (cI, (8 * Q.C), .inl Q.qf)), (Q.qe, .inl (cL, (3 * Q.C), .inr (.inl Q.ef)))]) hD hS hA [0, 2, 3] rfl
                  refine w_same (fun hq0 => ?_)
                  refine va_calli (va_runV (As := [.int 42]) (rest := []) ⟨hx, hb, hml, hown, hts⟩ (c_Mo_row l dC dI mo H v cI cL Q o (i + 4) br 42 hQk_Q) (cwV 1 hts (gt_V (own := R_Mo) (C := R_Mo) (i := 269) (y := y_Mo_row) i_Mo_row w_1407 w_1409 (gt_sel (y := y_Mo_row) (n := 30) (by decide +kernel)) w_7) rfl rfl rfl (by decide +kernel) ⟨Nat.le_trans (m := 11) (Nat.le_of_ble_eq_true rfl) (Nat.le_add_right 11 (15 + G)), Nat.le_trans (m := 400) (Nat.le_of_ble_eq_true rfl) (Nat.le_add_right 400 (600 + M))⟩) ⟨mp_blind, va_recv hKc hPc (ci := 13) (q0 := 0) rfl rfl, fun U hU hW => ⟨rfl, hU, by rw [hU]; exact hPc, va_K.moved hW.alike hKc, hDc.weaken (fun _ _ _ _ => trivial)⟩⟩ rfl rfl hl.1 rfl (lv_room (Nat.le_of_ble_eq_true rfl)) d_Mo_comparable_194 ⟨(QAd.fit hG_QV hQk_Q (by omega)).1, (QAd.fit hG_QV hQk_Q (by omega)).2⟩) hS (fun q _ h => hFc q h) hFc (fun r0 Q1 t9 H1 locs ht hvm hw hB hz1 hk1 hS => ?_)
                  obtain ⟨⟨hP1, hK1, hD1⟩, hz9⟩ := hB
                  rw [ht] at hP1
                  rw [ht] at hz9
                  obtain ⟨hr0, hA_Q1⟩ := hw
                  have hA_Q1 : QAd Q Q1 42 := hA_Q1
                  obtain ⟨hQk_Q1, hGa, hGb, hGd, hR_Q1⟩ := hA_Q1.gq hQk_Q (by omega) V
                  obtain ⟨hG_Q1V, hGc, hGs⟩ := hG_QV.tr hGa (show Q.R + 1 ≤ Q.R + 8 * (n - i) + 1 by omega) (Nat.zero_le _)
                  have hGc := Nat.le_trans (Nat.add_le_add_left hGb _) hGc
                  have hGs := Nat.le_trans (Nat.add_le_add_left hGd _) hGs
                  have hq1 : szk s.heap H1 (cQ Q V Q1 V) (sQ Q V Q1 V) := (hq0.trans hz9).mono hGc hGs
                  refine w_tight hq1 ?_
                  obtain ⟨hP, hD⟩ := va_join (wr := [(qx, .inl (cB, NN, .inl f)), (tv, .inr (12, MF 13 (tw V))), (V.au, .inl (cC, V.U, .inl V.un))]) (w1 := [(mo, .inr (13, MF 30 (rf (rs v Q1 o) (i + 4) br))), (Q1.qq, .inl (cI, (8 * Q1.C), .inl Q1.qf)), (Q1.qe, .inl (cL, (3 * Q1.C), .inr (.inl Q1.ef)))]) hP hD [0, 2, 3] [1, 4, 5] rfl rfl (by decide) (by decide) hk1 hFc hP1 hD1
                  generalize H1 = H at hP hS ⊢
                  have hP : va_P (dC, dI) classes [(qx, .inl (cB, NN, .inl f)), (tv, .inr (12, MF 13 (tw V))), (V.au, .inl (cC, V.U, .inl V.un)), (mo, .inr (13, MF 30 (rf (rs v Q1 o) (i + 4) br))), (Q1.qq, .inl (cI, (8 * Q1.C), .inl Q1.qf)), (Q1.qe, .inl (cL, (3 * Q1.C), .inr (.inl Q1.ef)))] H := hP
                  have hD : va_D A [(qx, .inl (cB, NN, .inl f)), (tv, .inr (12, MF 13 (tw V))), (V.au, .inl (cC, V.U, .inl V.un)), (mo, .inr (13, MF 30 (rf (rs v Q1 o) (i + 4) br))), (Q1.qq, .inl (cI, (8 * Q1.C), .inl Q1.qf)), (Q1.qe, .inl (cL, (3 * Q1.C), .inr (.inl Q1.ef)))] := hD
                  have hP := hP.sub (ws' := [(mo, .inr (13, MF 30 (rf (rs v Q1 o) (i + 4) br))), (qx, .inl (cB, NN, .inl f)), (tv, .inr (12, MF 13 (tw V))), (V.au, .inl (cC, V.U, .inl V.un)), (Q1.qq, .inl (cI, (8 * Q1.C), .inl Q1.qf)), (Q1.qe, .inl (cL, (3 * Q1.C), .inr (.inl Q1.ef)))]) [3, 0, 1, 2, 4, 5] rfl
                  have hD := hD.sub (ws' := [(mo, .inr (13, MF 30 (rf (rs v Q1 o) (i + 4) br))), (qx, .inl (cB, NN, .inl f)), (tv, .inr (12, MF 13 (tw V))), (V.au, .inl (cC, V.U, .inl V.un)), (Q1.qq, .inl (cI, (8 * Q1.C), .inl Q1.qf)), (Q1.qe, .inl (cL, (3 * Q1.C), .inr (.inl Q1.ef)))]) [3, 0, 1, 2, 4, 5] (by decide) rfl
                  have hP := hP.sub (ws' := [(mo, .inr (13, MF 30 (rf (rs v Q1 o) (i + 4) br))), (qx, .inl (cB, NN, .inl f)), (Q1.qq, .inl (cI, (8 * Q1.C), .inl Q1.qf)), (Q1.qe, .inl (cL, (3 * Q1.C), .inr (.inl Q1.ef))), (tv, .inr (12, MF 13 (tw V))), (V.au, .inl (cC, V.U, .inl V.un))]) [0, 1, 4, 5, 2, 3] rfl
                  have hD := hD.sub (ws' := [(mo, .inr (13, MF 30 (rf (rs v Q1 o) (i + 4) br))), (qx, .inl (cB, NN, .inl f)), (Q1.qq, .inl (cI, (8 * Q1.C), .inl Q1.qf)), (Q1.qe, .inl (cL, (3 * Q1.C), .inr (.inl Q1.ef))), (tv, .inr (12, MF 13 (tw V))), (V.au, .inl (cC, V.U, .inl V.un))]) [0, 1, 4, 5, 2, 3] (by decide) rfl
                  have hr0 : r0 = nI Q.R := hr0
                  subst hr0
                  have hqb_Q1V : Q1.R ≤ Q1.C ∧ Q1.C ≤ 100000 := ⟨hQk_Q1.2.2.1, hQk_Q1.2.1⟩
                  have hfit_Q1V := hG_Q1V.fits
                  have hE_Q1 : alr Q V Q1 V 0 Q.R := ⟨fun r9 k9 _ h1 h2 => hA_Q1.2.2.1 _ (by omega), ⟨fun r9 k9 _ h1 h2 => hA_Q1.2.2.2.1.2 _ (by omega), Nat.le_refl _, fun _ _ => rfl⟩⟩
                  have hk0_Q1 : Q1.qf (8 * Q.R + 0) = 42 := hA_Q1.2.2.2.2.1
                  have hl1_Q1 : Q1.qf (8 * Q.R + 1) = -1 := hA_Q1.2.2.2.2.2 1 (by decide) (by decide)
                  have hEx_Q1V : alr Q V Q1 V 0 Q.R := hE_Q1
                  refine lv_goto (tgt := 201) hx hb d_Mo_comparable_197 (by decide) ?_
                  have hfin : cmP f n ok (orL f n) (cmL f n) (qyL f n) i = some (i + 4, litO (1, 0, [])) := by rw [cmP_t hN0 hN1 hN2 (h_r1.symm.trans c179), if_pos hwb]
                  have hCF : CMPf O C Y Q1 V Q.R Q1.R Q.R (litO (1, 0, [])) := ⟨by omega, by omega, Or.inr (Or.inr (Or.inl ⟨hk0_Q1, rfl⟩))⟩
                  refine w_same (fun hq => ?_)
                  refine W.widen (k := kcap Q (Q.R + 8 * (n - i) + 1) + qcap V (V.us + (n + 12 - i))) (n := 22 * kcap Q (Q.R + 8 * (n - i) + 1) + 2 * qcap V (V.us + (n + 12 - i))) hfit_Q1V.1 hfit_Q1V.2 ?_
                  have hPo : QPo n i 1 Q V (Q1, V, (i + 4), br, o) := ⟨hQk_Q1, hG_Q1V, ⟨[], TX.rf hTk_V, Nat.zero_le _⟩, by show Q.R ≤ Q1.R; omega, by show Q1.R ≤ Q.R + 8 * (n - i) + 1; omega⟩
                  exact W.iret (v := nI Q.R) hx hb hr (fun t9 ht hW => ⟨⟨nI Q.R, (Q1, V, (i + 4), br, o), rfl, ⟨hPo, Or.inl ⟨Q.R, litO (1, 0, []), rfl, hfin, hCF, by show Q.R < Q1.R; omega, hEx_Q1V, by show Q1.R + 8 * i + 6 ≤ Q.R + 8 * (i + 4); omega, by show V.us + i ≤ V.us + (i + 4); omega, by show (i + 4) ≤ n; omega, by show Q.R < Q1.R; omega, rfl⟩⟩, ⟨by rw [ht]; exact hP, va_K.moved hW.alike hK, hD⟩, by rw [ht]; exact hq⟩, hS.F ht⟩) hS.2.2 d_Mo_comparable_201
                · rw [rf_u7] at hw3
                  obtain ⟨b4, h_b4⟩ := rf_fail (v := (rs v Q o)) (i := k9) (br := br) (b2 := br) (wh := nI k9)
                  rw [h_b4] at hw3
                  rw [hw3] at hP hD
                  subst hw2
                  have hP : va_P (dC, dI) classes [(mo, .inr (13, MF 30 (rf (rs v Q o) k9 b4))), (qx, .inl (cB, NN, .inl f)), (Q.qq, .inl (cI, (8 * Q.C), .inl Q.qf)), (Q.qe, .inl (cL, (3 * Q.C), .inr (.inl Q.ef))), (tv, .inr (12, MF 13 (tw V))), (V.au, .inl (cC, V.U, .inl V.un))] H := hP
                  have hD : va_D A [(mo, .inr (13, MF 30 (rf (rs v Q o) k9 b4))), (qx, .inl (cB, NN, .inl f)), (Q.qq, .inl (cI, (8 * Q.C), .inl Q.qf)), (Q.qe, .inl (cL, (3 * Q.C), .inr (.inl Q.ef))), (tv, .inr (12, MF 13 (tw V))), (V.au, .inl (cC, V.U, .inl V.un))] := hD
                  have hwb : ¬ mtB f n i (mtx 2) 4 = true := fun h => hwm (mtB_iff.mp h)
                  refine lv_if_eq (tgt := 200) hx hb d_Mo_comparable_188 (by decide) (fun _ => ?_) (fun h => absurd (by decide) h)
                  refine lv_iconst (v := (-1)) hx hb d_Mo_comparable_200 (by decide) ?_
                  have hfin : cmP f n ok (orL f n) (cmL f n) (qyL f n) i = none := by rw [cmP_t hN0 hN1 hN2 (h_r1.symm.trans c179), if_neg hwb]
                  refine w_same (fun hq => ?_)
                  refine W.widen (k := kcap Q (Q.R + 8 * (n - i) + 1) + qcap V (V.us + (n + 12 - i))) (n := 22 * kcap Q (Q.R + 8 * (n - i) + 1) + 2 * qcap V (V.us + (n + 12 - i))) hfit_QV.1 hfit_QV.2 ?_
                  have hPo : QPo n i 1 Q V (Q, V, k9, b4, o) := ⟨hQk_Q, hG_QV, ⟨[], TX.rf hTk_V, Nat.zero_le _⟩, by show Q.R ≤ Q.R; omega, by show Q.R ≤ Q.R + 8 * (n - i) + 1; omega⟩
                  exact W.iret (v := -1) hx hb hr (fun t9 ht hW => ⟨⟨-1, (Q, V, k9, b4, o), rfl, ⟨hPo, Or.inr ⟨rfl, hfin⟩⟩, ⟨by rw [ht]; exact hP, va_K.moved hW.alike hK, hD⟩, by rw [ht]; exact hq⟩, hS.F ht⟩) hS.2.2 d_Mo_comparable_201
            · refine lv_aload_n hx hb d_Mo_comparable_127 rfl (lv_at hl 1 rfl) ?_
              refine lv_dup hx hb d_Mo_comparable_128 rfl ?_
              refine va_get (D := (dC, dI)) (ci := 13) (v := .int (nI i)) (C := R_Mo) (T := F_Mo) (N := 30) hx hb hts in_Mo hown hK hP 0 rfl rfl 7 (by decide) (hts _ w_1096) (fun _ h9 => h9) (MFg (by decide) rf_7) d_Mo_comparable_129 ?_
              refine lv_iconst (v := 1) hx hb d_Mo_comparable_132 (by decide) ?_
              refine lv_iadd hx hb d_Mo_comparable_133 ?_
              have hbeg : begC (hereV f n i) := Or.inr (h_r1.symm.trans c124)
              have hlt0 : i < n := hbeg.elim (fun h => here_in h (by decide)) (fun h => here_in h (by decide))
              have hrtb : decide (hereV f n i = 36) = true := decide_eq_true (h_r1.symm.trans c124)
              have hcm : cmP f n ok (orL f n) (cmL f n) (qyL f n) i = (qrP f n ok (orL f n) true (decide (hereV f n i = 36)) (i + 1)).map (fun p => (p.1, onlO p.2.2)) := cmP_45 hN0 hN1 hbeg
              refine W.eq (g2 := F0 m 134 ls [.int (nI (i + 1)), .ref mo]) (by rw [show ((nI i) + 1) = (nI (i + 1)) from nI_1 _]) ?_
              refine va_put (D := (dC, dI)) (ci := 13) (v := .int (nI (i + 1))) (ty := .int) (C := R_Mo) (T := F_Mo) (N := 30) hx hb hts in_Mo t_Mo t_Mo_ok n_Mo hown hK hP hD hS 0 rfl rfl 7 (by decide) (hts _ w_1096) (fun _ h9 => h9) rfl (by decide +kernel) rfl rfl (by rw [MFl]; decide) d_Mo_comparable_134 (fun H locs hP hD hS => ?_)
              rw [MFs (n := 30) (k := 7) (by decide)] at hP hD
              have hP : va_P (dC, dI) classes [(mo, .inr (13, MF 30 (va_up (rf (rs v Q o) i br) 7 (.int (nI (i + 1)))))), (qx, .inl (cB, NN, .inl f)), (Q.qq, .inl (cI, (8 * Q.C), .inl Q.qf)), (Q.qe, .inl (cL, (3 * Q.C), .inr (.inl Q.ef))), (tv, .inr (12, MF 13 (tw V))), (V.au, .inl (cC, V.U, .inl V.un))] H := hP
              have hD : va_D A [(mo, .inr (13, MF 30 (va_up (rf (rs v Q o) i br) 7 (.int (nI (i + 1)))))), (qx, .inl (cB, NN, .inl f)), (Q.qq, .inl (cI, (8 * Q.C), .inl Q.qf)), (Q.qe, .inl (cL, (3 * Q.C), .inr (.inl Q.ef))), (tv, .inr (12, MF 13 (tw V))), (V.au, .inl (cC, V.U, .inl V.un))] := hD
              rw [rf_u7] at hP hD
              have hP : va_P (dC, dI) classes [(mo, .inr (13, MF 30 (rf (rs v Q o) (i + 1) br))), (qx, .inl (cB, NN, .inl f)), (Q.qq, .inl (cI, (8 * Q.C), .inl Q.qf)), (Q.qe, .inl (cL, (3 * Q.C), .inr (.inl Q.ef))), (tv, .inr (12, MF 13 (tw V))), (V.au, .inl (cC, V.U, .inl V.un))] H := hP
              have hD : va_D A [(mo, .inr (13, MF 30 (rf (rs v Q o) (i + 1) br))), (qx, .inl (cB, NN, .inl f)), (Q.qq, .inl (cI, (8 * Q.C), .inl Q.qf)), (Q.qe, .inl (cL, (3 * Q.C), .inr (.inl Q.ef))), (tv, .inr (12, MF 13 (tw V))), (V.au, .inl (cC, V.U, .inl V.un))] := hD
              refine lv_aload_n hx hb d_Mo_comparable_137 rfl (lv_at hl 1 rfl) ?_
              refine lv_iload_n hx hb d_Mo_comparable_138 rfl (lv_at hl 0 rfl) ?_
              refine lv_bipush (v := 36) hx hb d_Mo_comparable_139 (by decide) ?_
              refine lv_icmp_ne (tgt := 148) hx hb d_Mo_comparable_141 (by decide) (fun h => absurd h (fun q => q c124)) (fun _ => ?_)
              refine lv_iconst (v := 1) hx hb d_Mo_comparable_144 (by decide) ?_
              refine lv_goto (tgt := 149) hx hb d_Mo_comparable_145 (by decide) ?_
              refine lv_iconst (v := 1) hx hb d_Mo_comparable_149 (by decide) ?_
              have hPc := hP.sub (ws' := [(mo, .inr (13, MF 30 (rf (rs v Q o) (i + 1) br))), (qx, .inl (cB, NN, .inl f)), (Q.qq, .inl (cI, (8 * Q.C), .inl Q.qf)), (Q.qe, .inl (cL, (3 * Q.C), .inr (.inl Q.ef))), (tv, .inr (12, MF 13 (tw V))), (V.au, .inl (cC, V.U, .inl V.un))]) [0, 1, 2, 3, 4, 5] rfl
              have hDc := hD.sub (ws' := [(mo, .inr (13, MF 30 (rf (rs v Q o) (i + 1) br))), (qx, .inl (cB, NN, .inl f)), (Q.qq, .inl (cI, (8 * Q.C), .inl Q.qf)), (Q.qe, .inl (cL, (3 * Q.C), .inr (.inl Q.ef))), (tv, .inr (12, MF 13 (tw V))), (V.au, .inl (cC, V.U, .inl V.un))]) [0, 1, 2, 3, 4, 5] (by decide) rfl
              have hKc := hK.sub (tys' := [(cB, .byte), (cI, .int), (cL, .long), (cC, .char)]) [0, 1, 2, 3] rfl
              have hFc := va_free (wc := [(mo, .inr (13, MF 30 (rf (rs v Q o) (i + 1) br))), (qx, .inl (cB, NN, .inl f)), (Q.qq, .inl (cI, (8 * Q.C), .inl Q.qf)), (Q.qe, .inl (cL, (3 * Q.C), .inr (.inl Q.ef))), (tv, .inr (12, MF 13 (tw V))), (V.au, .inl (cC, V.U, .inl V.un))]) hD hS hA [0, 1, 2, 3, 4, 5] rfl
              refine w_same (fun hq0 => ?_)
              refine va_calli (va_runV (As := [.int 1, .int 1]) (rest := []) ⟨hx, hb, hml, hown, hts⟩ (c_qr1 orL O (15 + G) (600 + M) hOf l dC dI mo H v cB cI cL cC qx NN f n K tv Q V o (i + 1) br true 1 (by decide) ok hok ho16 hOR hnN hNN (by omega) h6 h8 h22 hQk_Q hTk_V (by omega) (by omega)) (cwV 2 hts (gt_V (own := R_Mo) (C := R_Mo) (i := 317) (y := y_Mo_queryRest) i_Mo_queryRest w_1403 w_1405 (gt_sel (y := y_Mo_queryRest) (n := 30) (by decide +kernel)) w_7) rfl rfl rfl (by decide +kernel) ⟨by show 10 + (15 + G) + 1 ≤ 11 + (15 + G); omega, by show 8 + (7 + 11) + (320 + (600 + M)) ≤ 400 + (600 + M); omega⟩) ⟨me_blind, va_recv hKc hPc (ci := 13) (q0 := 0) rfl rfl, fun U hU hW => ⟨rfl, ⟨hU, by rw [hU]; exact hPc, va_K.moved hW.alike hKc, hDc.weaken (fun _ _ _ _ => trivial)⟩, by rw [hU]; exact ME.call hM hS.2.1 hFc hW⟩⟩ rfl rfl hl.1 rfl (lv_room (Nat.le_of_ble_eq_true rfl)) d_Mo_comparable_150 ⟨(hG_QV.step (B2 := Q.R + 8 * (n - (i + 1)) + 9) (C2 := V.us + (n + 12 - (i + 1))) (by omega) (by omega)).1, (hG_QV.step (B2 := Q.R + 8 * (n - (i + 1)) + 9) (C2 := V.us + (n + 12 - (i + 1))) (by omega) (by omega)).2⟩) hS (fun q _ h => hFc q h) hFc (fun r0 ⟨Qs, Vs, js, bs, os⟩ t9 H1 locs ht hvm hw hB hz1 hk1 hS => ?_)
              obtain ⟨⟨hP1, hK1, hD1⟩, hz9⟩ := hB
              rw [ht] at hP1
              rw [ht] at hz9
              obtain ⟨⟨hQk_Qs, hGn, hTXs, hR1_Qs, hR2_Qs⟩, hw⟩ := hw
              have hQk_Qs : QOK Qs := hQk_Qs
              obtain ⟨hG_QsVs, hGc, hGs⟩ := hG_QV.tr hGn (by omega) (by omega)
              have hR1_Qs : Q.R ≤ Qs.R := hR1_Qs
              have hR2_Qs : Qs.R ≤ Q.R + 8 * (n - (i + 1)) + 9 := hR2_Qs
              obtain ⟨uss, hX_Vs, hln_Vs⟩ := hTXs
              have hX_Vs : TX V Vs uss := hX_Vs
              have hXs_Vs := hX_Vs.us
              have hz9 : szk H H1 (cQ Q V Qs Vs) (sQ Q V Qs Vs) := hz9
              have hq1 : szk s.heap H1 (cQ Q V Qs Vs) (sQ Q V Qs Vs) := (hq0.trans hz9).mono hGc hGs
              refine w_tight hq1 ?_
              obtain ⟨hP, hD⟩ := va_join (wr := []) (w1 := [(mo, .inr (13, MF 30 (rf (rs v Qs os) js bs))), (qx, .inl (cB, NN, .inl f)), (Qs.qq, .inl (cI, (8 * Qs.C), .inl Qs.qf)), (Qs.qe, .inl (cL, (3 * Qs.C), .inr (.inl Qs.ef))), (tv, .inr (12, MF 13 (tw Vs))), (Vs.au, .inl (cC, Vs.U, .inl Vs.un))]) hP hD [0, 1, 2, 3, 4, 5] [] rfl rfl (by decide) (by decide) hk1 hFc hP1 hD1
              generalize H1 = H at hP hS ⊢
              have hP : va_P (dC, dI) classes [(mo, .inr (13, MF 30 (rf (rs v Qs os) js bs))), (qx, .inl (cB, NN, .inl f)), (Qs.qq, .inl (cI, (8 * Qs.C), .inl Qs.qf)), (Qs.qe, .inl (cL, (3 * Qs.C), .inr (.inl Qs.ef))), (tv, .inr (12, MF 13 (tw Vs))), (Vs.au, .inl (cC, Vs.U, .inl Vs.un))] H := hP
              have hD : va_D A [(mo, .inr (13, MF 30 (rf (rs v Qs os) js bs))), (qx, .inl (cB, NN, .inl f)), (Qs.qq, .inl (cI, (8 * Qs.C), .inl Qs.qf)), (Qs.qe, .inl (cL, (3 * Qs.C), .inr (.inl Qs.ef))), (tv, .inr (12, MF 13 (tw Vs))), (Vs.au, .inl (cC, Vs.U, .inl Vs.un))] := hD
              have hP := hP.sub (ws' := [(mo, .inr (13, MF 30 (rf (rs v Qs os) js bs))), (qx, .inl (cB, NN, .inl f)), (tv, .inr (12, MF 13 (tw Vs))), (Qs.qq, .inl (cI, (8 * Qs.C), .inl Qs.qf)), (Qs.qe, .inl (cL, (3 * Qs.C), .inr (.inl Qs.ef))), (Vs.au, .inl (cC, Vs.U, .inl Vs.un))]) [0, 1, 4, 2, 3, 5] rfl
              have hD := hD.sub (ws' := [(mo, .inr (13, MF 30 (rf (rs v Qs os) js bs))), (qx, .inl (cB, NN, .inl f)), (tv, .inr (12, MF 13 (tw Vs))), (Qs.qq, .inl (cI, (8 * Qs.C), .inl Qs.qf)), (Qs.qe, .inl (cL, (3 * Qs.C), .inr (.inl Qs.ef))), (Vs.au, .inl (cC, Vs.U, .inl Vs.un))]) [0, 1, 4, 2, 3, 5] (by decide) rfl
              have hP := hP.sub (ws' := [(mo, .inr (13, MF 30 (rf (rs v Qs os) js bs))), (qx, .inl (cB, NN, .inl f)), (Qs.qq, .inl (cI, (8 * Qs.C), .inl Qs.qf)), (Qs.qe, .inl (cL, (3 * Qs.C), .inr (.inl Qs.ef))), (tv, .inr (12, MF 13 (tw Vs))), (Vs.au, .inl (cC, Vs.U, .inl Vs.un))]) [0, 1, 3, 4, 2, 5] rfl
              have hD := hD.sub (ws' := [(mo, .inr (13, MF 30 (rf (rs v Qs os) js bs))), (qx, .inl (cB, NN, .inl f)), (Qs.qq, .inl (cI, (8 * Qs.C), .inl Qs.qf)), (Qs.qe, .inl (cL, (3 * Qs.C), .inr (.inl Qs.ef))), (tv, .inr (12, MF 13 (tw Vs))), (Vs.au, .inl (cC, Vs.U, .inl Vs.un))]) [0, 1, 3, 4, 2, 5] (by decide) rfl
              have hTk_Vs := hX_Vs.ok hTk_V (by omega)
              have hqb_QsVs : Qs.R ≤ Qs.C ∧ Qs.C ≤ 100000 := ⟨hQk_Qs.2.2.1, hQk_Qs.2.1⟩
              have hfit_QsVs := hG_QsVs.fits
              rcases hw with ⟨fl, g9, hv_1, hv_2, hv_3, hv_4, hv_5, hv_6, hv_7, hv_8, hv_9, hv_10⟩ | ⟨hv_1, hv_2⟩
              · have hv_10 : o = os := hv_10.symm
                subst hv_10
                have hP : va_P (dC, dI) classes [(mo, .inr (13, MF 30 (rf (rs v Qs o) js bs))), (qx, .inl (cB, NN, .inl f)), (Qs.qq, .inl (cI, (8 * Qs.C), .inl Qs.qf)), (Qs.qe, .inl (cL, (3 * Qs.C), .inr (.inl Qs.ef))), (tv, .inr (12, MF 13 (tw Vs))), (Vs.au, .inl (cC, Vs.U, .inl Vs.un))] H := hP
                have hD : va_D A [(mo, .inr (13, MF 30 (rf (rs v Qs o) js bs))), (qx, .inl (cB, NN, .inl f)), (Qs.qq, .inl (cI, (8 * Qs.C), .inl Qs.qf)), (Qs.qe, .inl (cL, (3 * Qs.C), .inr (.inl Qs.ef))), (tv, .inr (12, MF 13 (tw Vs))), (Vs.au, .inl (cC, Vs.U, .inl Vs.un))] := hD
                have hv_2 : qrP f n ok (orL f n) true (decide (hereV f n i = 36)) (i + 1) = some (js, fl, g9) := by rw [hrtb]; exact hv_2
                have hv_3 : QRYp O Qs Vs Q.R Qs.R Q.R g9 := hv_3
                have hv_4 : alr Q V Qs Vs 0 Q.R := hv_4
                have hv_5 : Qs.qf (8 * Q.R + 3) = (if fl = true then 1 else 0) := hv_5
                have hv_6 : Qs.R + 8 * (i + 1) ≤ Q.R + 8 * js + 1 := hv_6
                have hv_7 : Vs.us + (i + 1) ≤ V.us + js := hv_7
                have hv_8 : js ≤ n := hv_8
                have hv_9 : Q.R < Qs.R := hv_9
                subst hv_1
                refine lv_istore_n (lv' := [(2, .int (nI Q.R)), (1, .int r1), (0, .ref mo)]) hx hb d_Mo_comparable_153 rfl hl (by decide) rfl (fun ls hl => ?_)
                refine lv_iload_n hx hb d_Mo_comparable_154 rfl (lv_at hl 0 rfl) ?_
                refine lv_if_ge (tgt := 160) hx hb d_Mo_comparable_155 (by decide) (fun _ => ?_) (fun h => absurd (nI_pos' (by omega)) h)
                refine lv_aload_n hx hb d_Mo_comparable_160 rfl (lv_at hl 2 rfl) ?_
                refine lv_bipush (v := 45) hx hb d_Mo_comparable_161 (by decide) ?_
                have hPc := hP.sub (ws' := [(mo, .inr (13, MF 30 (rf (rs v Qs o) js bs))), (Qs.qq, .inl (cI, (8 * Qs.C), .inl Qs.qf)), (Qs.qe, .inl (cL, (3 * Qs.C), .inr (.inl Qs.ef)))]) [0, 2, 3] rfl
                have hDc := hD.sub (ws' := [(mo, .inr (13, MF 30 (rf (rs v Qs o) js bs))), (Qs.qq, .inl (cI, (8 * Qs.C), .inl Qs.qf)), (Qs.qe, .inl (cL, (3 * Qs.C), .inr (.inl Qs.ef)))]) [0, 2, 3] (by decide) rfl
                have hKc := hK.sub (tys' := [(cI, .int), (cL, .long)]) [1, 2] rfl
                have hFc := va_free (wc := [(mo, .inr (13, MF 30 (rf (rs v Qs o) js bs))), (Qs.qq, .inl (cI, (8 * Qs.C), .inl Qs.qf)), (Qs.qe, .inl (cL, (3 * Qs.C), .inr (.inl Qs.ef)))]) hD hS hA [0, 2, 3] rfl
                refine w_same (fun hq0 => ?_)
                refine va_calli (va_runV (As := [.int 45]) (rest := []) ⟨hx, hb, hml, hown, hts⟩ (c_Mo_row l dC dI mo H v cI cL Qs o js bs 45 hQk_Qs) (cwV 1 hts (gt_V (own := R_Mo) (C := R_Mo) (i := 269) (y := y_Mo_row) i_Mo_row w_1407 w_1409 (gt_sel (y := y_Mo_row) (n := 30) (by decide +kernel)) w_7) rfl rfl rfl (by decide +kernel) ⟨Nat.le_trans (m := 11) (Nat.le_of_ble_eq_true rfl) (Nat.le_add_right 11 (15 + G)), Nat.le_trans (m := 400) (Nat.le_of_ble_eq_true rfl) (Nat.le_add_right 400 (600 + M))⟩) ⟨mp_blind, va_recv hKc hPc (ci := 13) (q0 := 0) rfl rfl, fun U hU hW => ⟨rfl, hU, by rw [hU]; exact hPc, va_K.moved hW.alike hKc, hDc.weaken (fun _ _ _ _ => trivial)⟩⟩ rfl rfl hl.1 rfl (lv_room (Nat.le_of_ble_eq_true rfl)) d_Mo_comparable_163 ⟨(QAd.fit hG_QsVs hQk_Qs (by omega)).1, (QAd.fit hG_QsVs hQk_Qs (by omega)).2⟩) hS (fun q _ h => hFc q h) hFc (fun r0 Qa t9 H1 locs ht hvm hw hB hz1 hk1 hS => ?_)
                obtain ⟨⟨hP1, hK1, hD1⟩, hz9⟩ := hB
                rw [ht] at hP1
                rw [ht] at hz9
                obtain ⟨hr0, hA_Qa⟩ := hw
                have hA_Qa : QAd Qs Qa 45 := hA_Qa
                obtain ⟨hQk_Qa, hGa, hGb, hGd, hR_Qa⟩ := hA_Qa.gq hQk_Qs (by omega) Vs
                obtain ⟨hG_QaVs, hGc, hGs⟩ := hG_QsVs.tr hGa (show Qs.R + 1 ≤ Q.R + 8 * (n - i) + 1 by omega) (Nat.zero_le _)
                have hGc := Nat.le_trans (Nat.add_le_add_left hGb _) hGc
                have hGs := Nat.le_trans (Nat.add_le_add_left hGd _) hGs
                have hq1 : szk s.heap H1 (cQ Q V Qa Vs) (sQ Q V Qa Vs) := (hq0.trans hz9).mono hGc hGs
                refine w_tight hq1 ?_
                obtain ⟨hP, hD⟩ := va_join (wr := [(qx, .inl (cB, NN, .inl f)), (tv, .inr (12, MF 13 (tw Vs))), (Vs.au, .inl (cC, Vs.U, .inl Vs.un))]) (w1 := [(mo, .inr (13, MF 30 (rf (rs v Qa o) js bs))), (Qa.qq, .inl (cI, (8 * Qa.C), .inl Qa.qf)), (Qa.qe, .inl (cL, (3 * Qa.C), .inr (.inl Qa.ef)))]) hP hD [0, 2, 3] [1, 4, 5] rfl rfl (by decide) (by decide) hk1 hFc hP1 hD1
                generalize H1 = H at hP hS ⊢
                have hP : va_P (dC, dI) classes [(qx, .inl (cB, NN, .inl f)), (tv, .inr (12, MF 13 (tw Vs))), (Vs.au, .inl (cC, Vs.U, .inl Vs.un)), (mo, .inr (13, MF 30 (rf (rs v Qa o) js bs))), (Qa.qq, .inl (cI, (8 * Qa.C), .inl Qa.qf)), (Qa.qe, .inl (cL, (3 * Qa.C), .inr (.inl Qa.ef)))] H := hP
                have hD : va_D A [(qx, .inl (cB, NN, .inl f)), (tv, .inr (12, MF 13 (tw Vs))), (Vs.au, .inl (cC, Vs.U, .inl Vs.un)), (mo, .inr (13, MF 30 (rf (rs v Qa o) js bs))), (Qa.qq, .inl (cI, (8 * Qa.C), .inl Qa.qf)), (Qa.qe, .inl (cL, (3 * Qa.C), .inr (.inl Qa.ef)))] := hD
                have hP := hP.sub (ws' := [(mo, .inr (13, MF 30 (rf (rs v Qa o) js bs))), (qx, .inl (cB, NN, .inl f)), (tv, .inr (12, MF 13 (tw Vs))), (Vs.au, .inl (cC, Vs.U, .inl Vs.un)), (Qa.qq, .inl (cI, (8 * Qa.C), .inl Qa.qf)), (Qa.qe, .inl (cL, (3 * Qa.C), .inr (.inl Qa.ef)))]) [3, 0, 1, 2, 4, 5] rfl
                have hD := hD.sub (ws' := [(mo, .inr (13, MF 30 (rf (rs v Qa o) js bs))), (qx, .inl (cB, NN, .inl f)), (tv, .inr (12, MF 13 (tw Vs))), (Vs.au, .inl (cC, Vs.U, .inl Vs.un)), (Qa.qq, .inl (cI, (8 * Qa.C), .inl Qa.qf)), (Qa.qe, .inl (cL, (3 * Qa.C), .inr (.inl Qa.ef)))]) [3, 0, 1, 2, 4, 5] (by decide) rfl
                have hP := hP.sub (ws' := [(mo, .inr (13, MF 30 (rf (rs v Qa o) js bs))), (qx, .inl (cB, NN, .inl f)), (Qa.qq, .inl (cI, (8 * Qa.C), .inl Qa.qf)), (Qa.qe, .inl (cL, (3 * Qa.C), .inr (.inl Qa.ef))), (tv, .inr (12, MF 13 (tw Vs))), (Vs.au, .inl (cC, Vs.U, .inl Vs.un))]) [0, 1, 4, 5, 2, 3] rfl
                have hD := hD.sub (ws' := [(mo, .inr (13, MF 30 (rf (rs v Qa o) js bs))), (qx, .inl (cB, NN, .inl f)), (Qa.qq, .inl (cI, (8 * Qa.C), .inl Qa.qf)), (Qa.qe, .inl (cL, (3 * Qa.C), .inr (.inl Qa.ef))), (tv, .inr (12, MF 13 (tw Vs))), (Vs.au, .inl (cC, Vs.U, .inl Vs.un))]) [0, 1, 4, 5, 2, 3] (by decide) rfl
                have hr0 : r0 = nI Qs.R := hr0
                subst hr0
                have hqb_QaVs : Qa.R ≤ Qa.C ∧ Qa.C ≤ 100000 := ⟨hQk_Qa.2.2.1, hQk_Qa.2.1⟩
                have hfit_QaVs := hG_QaVs.fits
                have hE_Qa : alr Qs Vs Qa Vs 0 Qs.R := ⟨fun r9 k9 _ h1 h2 => hA_Qa.2.2.1 _ (by omega), ⟨fun r9 k9 _ h1 h2 => hA_Qa.2.2.2.1.2 _ (by omega), Nat.le_refl _, fun _ _ => rfl⟩⟩
                refine lv_istore_n (lv' := [(3, .int (nI Qs.R)), (2, .int (nI Q.R)), (1, .int r1), (0, .ref mo)]) hx hb d_Mo_comparable_166 rfl hl (by decide) rfl (fun ls hl => ?_)
                refine lv_aload_n hx hb d_Mo_comparable_167 rfl (lv_at hl 3 rfl) ?_
                refine lv_iload_n hx hb d_Mo_comparable_168 rfl (lv_at hl 0 rfl) ?_
                refine lv_iconst (v := 2) hx hb d_Mo_comparable_169 (by decide) ?_
                refine lv_iload_n hx hb d_Mo_comparable_170 rfl (lv_at hl 1 rfl) ?_
                refine W.eq (g2 := F0 m 171 ls [.int (nI Q.R), .int (nI 2), .int (nI Qs.R), .ref mo]) rfl ?_
                have hPc := hP.sub (ws' := [(mo, .inr (13, MF 30 (rf (rs v Qa o) js bs))), (Qa.qq, .inl (cI, (8 * Qa.C), .inl Qa.qf))]) [0, 2] rfl
                have hDc := hD.sub (ws' := [(mo, .inr (13, MF 30 (rf (rs v Qa o) js bs))), (Qa.qq, .inl (cI, (8 * Qa.C), .inl Qa.qf))]) [0, 2] (by decide) rfl
                have hKc := hK.sub (tys' := [(cI, .int)]) [1] rfl
                have hFc := va_free (wc := [(mo, .inr (13, MF 30 (rf (rs v Qa o) js bs))), (Qa.qq, .inl (cI, (8 * Qa.C), .inl Qa.qf))]) hD hS hA [0, 2] rfl
                refine va_callv (va_runV (As := [.int (nI Qs.R), .int (nI 2), .int (nI Q.R)]) (rest := []) ⟨hx, hb, hml, hown, hts⟩ (c_Mo_set l dC dI mo H (rf (rs v Qa o) js bs) cI Qa.qq (8 * Qa.C) Qa.qf Qs.R 2 ((nI Q.R)) (by omega) (by omega) ((rf_ne (by decide) (by decide)).trans rs_19)) (cwV 3 hts (gt_V (own := R_Mo) (C := R_Mo) (i := 272) (y := y_Mo_set) i_Mo_set w_1411 w_1413 (gt_sel (y := y_Mo_set) (n := 30) (by decide +kernel)) w_7) rfl rfl rfl (by decide +kernel) ⟨Nat.le_trans (m := 11) (Nat.le_of_ble_eq_true rfl) (Nat.le_add_right 11 (15 + G)), Nat.le_trans (m := 400) (Nat.le_of_ble_eq_true rfl) (Nat.le_add_right 400 (600 + M))⟩) ⟨mp_blind, va_recv hKc hPc (ci := 13) (q0 := 0) rfl rfl, fun U hU hW => ⟨rfl, hU, by rw [hU]; exact hPc, va_K.moved hW.alike hKc, hDc.weaken (fun _ _ _ _ => trivial)⟩⟩ rfl rfl hl.1 rfl (lv_room (Nat.le_of_ble_eq_true rfl)) d_Mo_comparable_171 ⟨hfit_QaVs.1, hfit_QaVs.2⟩) hS (fun q _ h => hFc q h) hFc (fun _u t9 H1 locs ht hvm hw hB hz1 hk1 hS => ?_)
                obtain ⟨hP1, hK1, hD1⟩ := hB
                rw [ht] at hP1
                obtain ⟨hP, hD⟩ := va_join (wr := [(qx, .inl (cB, NN, .inl f)), (Qa.qe, .inl (cL, (3 * Qa.C), .inr (.inl Qa.ef))), (tv, .inr (12, MF 13 (tw Vs))), (Vs.au, .inl (cC, Vs.U, .inl Vs.un))]) (w1 := [(mo, .inr (13, MF 30 (rf (rs v Qa o) js bs))), (Qa.qq, .inl (cI, (8 * Qa.C), .inl (upd Qa.qf (8 * Qs.R + 2) ((nI Q.R)))))]) hP hD [0, 2] [1, 3, 4, 5] rfl rfl (by decide) (by decide) hk1 hFc hP1 hD1
                generalize H1 = H at hP hS ⊢
                have hP : va_P (dC, dI) classes [(qx, .inl (cB, NN, .inl f)), (Qa.qe, .inl (cL, (3 * Qa.C), .inr (.inl Qa.ef))), (tv, .inr (12, MF 13 (tw Vs))), (Vs.au, .inl (cC, Vs.U, .inl Vs.un)), (mo, .inr (13, MF 30 (rf (rs v Qa o) js bs))), (Qa.qq, .inl (cI, (8 * Qa.C), .inl (upd Qa.qf (8 * Qs.R + 2) ((nI Q.R)))))] H := hP
                have hD : va_D A [(qx, .inl (cB, NN, .inl f)), (Qa.qe, .inl (cL, (3 * Qa.C), .inr (.inl Qa.ef))), (tv, .inr (12, MF 13 (tw Vs))), (Vs.au, .inl (cC, Vs.U, .inl Vs.un)), (mo, .inr (13, MF 30 (rf (rs v Qa o) js bs))), (Qa.qq, .inl (cI, (8 * Qa.C), .inl (upd Qa.qf (8 * Qs.R + 2) ((nI Q.R)))))] := hD
                have hP := hP.sub (ws' := [(mo, .inr (13, MF 30 (rf (rs v Qa o) js bs))), (qx, .inl (cB, NN, .inl f)), (Qa.qq, .inl (cI, (8 * Qa.C), .inl (upd Qa.qf (8 * Qs.R + 2) ((nI Q.R))))), (Qa.qe, .inl (cL, (3 * Qa.C), .inr (.inl Qa.ef))), (tv, .inr (12, MF 13 (tw Vs))), (Vs.au, .inl (cC, Vs.U, .inl Vs.un))]) [4, 0, 5, 1, 2, 3] rfl
                have hD := hD.sub (ws' := [(mo, .inr (13, MF 30 (rf (rs v Qa o) js bs))), (qx, .inl (cB, NN, .inl f)), (Qa.qq, .inl (cI, (8 * Qa.C), .inl (upd Qa.qf (8 * Qs.R + 2) ((nI Q.R))))), (Qa.qe, .inl (cL, (3 * Qa.C), .inr (.inl Qa.ef))), (tv, .inr (12, MF 13 (tw Vs))), (Vs.au, .inl (cC, Vs.U, .inl Vs.un))]) [4, 0, 5, 1, 2, 3] (by decide) rfl
                obtain ⟨Qb, e_Qb⟩ : ∃ z : QS, z = QS.wf Qa (upd Qa.qf (8 * Qs.R + 2) ((nI Q.R))) := ⟨_, rfl⟩
                have hP : va_P (dC, dI) classes [(mo, .inr (13, MF 30 (rf (rs v Qb o) js bs))), (qx, .inl (cB, NN, .inl f)), (Qb.qq, .inl (cI, (8 * Qb.C), .inl Qb.qf)), (Qb.qe, .inl (cL, (3 * Qb.C), .inr (.inl Qb.ef))), (tv, .inr (12, MF 13 (tw Vs))), (Vs.au, .inl (cC, Vs.U, .inl Vs.un))] H := by subst e_Qb; exact hP
                have hD : va_D A [(mo, .inr (13, MF 30 (rf (rs v Qb o) js bs))), (qx, .inl (cB, NN, .inl f)), (Qb.qq, .inl (cI, (8 * Qb.C), .inl Qb.qf)), (Qb.qe, .inl (cL, (3 * Qb.C), .inr (.inl Qb.ef))), (tv, .inr (12, MF 13 (tw Vs))), (Vs.au, .inl (cC, Vs.U, .inl Vs.un))] := by subst e_Qb; exact hD
                have hf_Qb : Qb.C = Qa.C ∧ Qb.R = Qa.R ∧ Qb.qf = upd Qa.qf (8 * Qs.R + 2) ((nI Q.R)) := by rw [e_Qb]; exact ⟨rfl, rfl, rfl⟩
                have he_Qb : Qb.ef = Qa.ef := by rw [e_Qb]; rfl
                have hQk_Qb : QOK Qb := by rw [e_Qb]; exact hQk_Qa
                have hG_QbVs : GQ (Q.R + 8 * (n - i) + 1) (V.us + (n + 12 - i)) Q V Qb Vs := by unfold GQ at hG_QaVs ⊢; rw [hf_Qb.1]; exact hG_QaVs
                refine w_same (fun hq => ?_)
                refine w_tight (k := cQ Q V Qb Vs) (n := sQ Q V Qb Vs) (by unfold cQ sQ at hq ⊢; rw [hf_Qb.1]; exact hq) ?_
                have hR_Qb := hf_Qb.2.1
                have hqb_QbVs : Qb.R ≤ Qb.C ∧ Qb.C ≤ 100000 := ⟨hQk_Qb.2.2.1, hQk_Qb.2.1⟩
                have hfit_QbVs := hG_QbVs.fits
                refine lv_iload_n hx hb d_Mo_comparable_174 rfl (lv_at hl 0 rfl) ?_
                have hfin : cmP f n ok (orL f n) (cmL f n) (qyL f n) i = some (js, onlO g9) := by rw [hcm, hv_2]; rfl
                have hk45 : Qb.qf (8 * Qs.R + 0) = 45 := by rw [hf_Qb.2.2, pk_un (by omega)]; exact hA_Qa.2.2.2.2.1
                have hW : Wth (QRYp O) Qb Vs Q.R Qb.R Qs.R Q.R g9 := Wth_up (Frm8 (QRYp_fr hOf)) hv_3 (Nat.le_refl _) (by omega) (by omega) ((hE_Qa.sub (Nat.zero_le _) (Nat.le_refl _)).tr (alr.upd hf_Qb.2.2 he_Qb (by decide) (by omega)))
                have hExb : alr Q V Qb Vs 0 Q.R := (hv_4.tr (hE_Qa.sub (Nat.le_refl _) (by omega))).tr (alr.upd hf_Qb.2.2 he_Qb (by decide) (by omega))
                have hCF : CMPf O C Y Qb Vs Q.R Qb.R Qs.R (onlO g9) := ⟨by omega, by omega, Or.inr (Or.inr (Or.inr (Or.inr (Or.inr (Or.inl ⟨hk45, Q.R, g9, by rw [hf_Qb.2.2]; exact pk_us, hW, rfl⟩)))))⟩
                refine w_same (fun hq => ?_)
                refine W.widen (k := kcap Q (Q.R + 8 * (n - i) + 1) + qcap V (V.us + (n + 12 - i))) (n := 22 * kcap Q (Q.R + 8 * (n - i) + 1) + 2 * qcap V (V.us + (n + 12 - i))) hfit_QbVs.1 hfit_QbVs.2 ?_
                have hPo : QPo n i 1 Q V (Qb, Vs, js, bs, o) := ⟨hQk_Qb, hG_QbVs, ⟨_, hX_Vs, by omega⟩, by show Q.R ≤ Qb.R; omega, by show Qb.R ≤ Q.R + 8 * (n - i) + 1; omega⟩
                exact W.iret (v := nI Qs.R) hx hb hr (fun t9 ht hW => ⟨⟨nI Qs.R, (Qb, Vs, js, bs, o), rfl, ⟨hPo, Or.inl ⟨Qs.R, onlO g9, rfl, hfin, hCF, by show Qs.R < Qb.R; omega, hExb, by show Qb.R + 8 * i + 6 ≤ Q.R + 8 * js; omega, by show Vs.us + i ≤ V.us + js; omega, by show js ≤ n; omega, by show Q.R < Qb.R; omega, rfl⟩⟩, ⟨by rw [ht]; exact hP, va_K.moved hW.alike hK, hD⟩, by rw [ht]; exact hq⟩, hS.F ht⟩) hS.2.2 d_Mo_comparable_175
              · have hv_2 : qrP f n ok (orL f n) true (decide (hereV f n i = 36)) (i + 1) = none := by rw [hrtb]; exact hv_2
                subst hv_1
                refine lv_istore_n (lv' := [(2, .int (-1)), (1, .int r1), (0, .ref mo)]) hx hb d_Mo_comparable_153 rfl hl (by decide) rfl (fun ls hl => ?_)
                refine lv_iload_n hx hb d_Mo_comparable_154 rfl (lv_at hl 0 rfl) ?_
                refine lv_if_ge (tgt := 160) hx hb d_Mo_comparable_155 (by decide) (fun h => absurd h (by decide)) (fun _ => ?_)
                refine lv_iconst (v := (-1)) hx hb d_Mo_comparable_158 (by decide) ?_
                have hfin : cmP f n ok (orL f n) (cmL f n) (qyL f n) i = none := by rw [hcm, hv_2]; rfl
                refine w_same (fun hq => ?_)
                refine W.widen (k := kcap Q (Q.R + 8 * (n - i) + 1) + qcap V (V.us + (n + 12 - i))) (n := 22 * kcap Q (Q.R + 8 * (n - i) + 1) + 2 * qcap V (V.us + (n + 12 - i))) hfit_QsVs.1 hfit_QsVs.2 ?_
                have hPo : QPo n i 1 Q V (Qs, Vs, js, bs, os) := ⟨hQk_Qs, hG_QsVs, ⟨_, hX_Vs, by omega⟩, by show Q.R ≤ Qs.R; omega, by show Qs.R ≤ Q.R + 8 * (n - i) + 1; omega⟩
                exact W.iret (v := -1) hx hb hr (fun t9 ht hW => ⟨⟨-1, (Qs, Vs, js, bs, os), rfl, ⟨hPo, Or.inr ⟨rfl, hfin⟩⟩, ⟨by rw [ht]; exact hP, va_K.moved hW.alike hK, hD⟩, by rw [ht]; exact hq⟩, hS.F ht⟩) hS.2.2 d_Mo_comparable_159
        · refine lv_aload_n hx hb d_Mo_comparable_59 rfl (lv_at hl 1 rfl) ?_
          refine lv_bipush (v := 41) hx hb d_Mo_comparable_60 (by decide) ?_
          have hPc := hP.sub (ws' := [(mo, .inr (13, MF 30 (rf (rs v Q o) i br))), (Q.qq, .inl (cI, (8 * Q.C), .inl Q.qf)), (Q.qe, .inl (cL, (3 * Q.C), .inr (.inl Q.ef)))]) [0, 2, 3] rfl
          have hDc := hD.sub (ws' := [(mo, .inr (13, MF 30 (rf (rs v Q o) i br))), (Q.qq, .inl (cI, (8 * Q.C), .inl Q.qf)), (Q.qe, .inl (cL, (3 * Q.C), .inr (.inl Q.ef)))]) [0, 2, 3] (by decide) rfl
          have hKc := hK.sub (tys' := [(cI, .int), (cL, .long)]) [1, 2] rfl
          have hFc := va_free (wc := [(mo, .inr (13, MF 30 (rf (rs v Q o) i br))), (Q.qq, .inl (cI, (8 * Q.C), .inl Q.qf)), (Q.qe, .inl (cL, (3 * Q.C), .inr (.inl Q.ef)))]) hD hS hA [0, 2, 3] rfl
          refine w_same (fun hq0 => ?_)
          refine va_calli (va_runV (As := [.int 41]) (rest := []) ⟨hx, hb, hml, hown, hts⟩ (c_Mo_row l dC dI mo H v cI cL Q o i br 41 hQk_Q) (cwV 1 hts (gt_V (own := R_Mo) (C := R_Mo) (i := 269) (y := y_Mo_row) i_Mo_row w_1407 w_1409 (gt_sel (y := y_Mo_row) (n := 30) (by decide +kernel)) w_7) rfl rfl rfl (by decide +kernel) ⟨Nat.le_trans (m := 11) (Nat.le_of_ble_eq_true rfl) (Nat.le_add_right 11 (15 + G)), Nat.le_trans (m := 400) (Nat.le_of_ble_eq_true rfl) (Nat.le_add_right 400 (600 + M))⟩) ⟨mp_blind, va_recv hKc hPc (ci := 13) (q0 := 0) rfl rfl, fun U hU hW => ⟨rfl, hU, by rw [hU]; exact hPc, va_K.moved hW.alike hKc, hDc.weaken (fun _ _ _ _ => trivial)⟩⟩ rfl rfl hl.1 rfl (lv_room (Nat.le_of_ble_eq_true rfl)) d_Mo_comparable_62 ⟨(QAd.fit hG_QV hQk_Q (by omega)).1, (QAd.fit hG_QV hQk_Q (by omega)).2⟩) hS (fun q _ h => hFc q h) hFc (fun r0 Q1 t9 H1 locs ht hvm hw hB hz1 hk1 hS => ?_)
          obtain ⟨⟨hP1, hK1, hD1⟩, hz9⟩ := hB
          rw [ht] at hP1
          rw [ht] at hz9
          obtain ⟨hr0, hA_Q1⟩ := hw
          have hA_Q1 : QAd Q Q1 41 := hA_Q1
          obtain ⟨hQk_Q1, hGa, hGb, hGd, hR_Q1⟩ := hA_Q1.gq hQk_Q (by omega) V
          obtain ⟨hG_Q1V, hGc, hGs⟩ := hG_QV.tr hGa (show Q.R + 1 ≤ Q.R + 8 * (n - i) + 1 by omega) (Nat.zero_le _)
          have hGc := Nat.le_trans (Nat.add_le_add_left hGb _) hGc
          have hGs := Nat.le_trans (Nat.add_le_add_left hGd _) hGs
          have hq1 : szk s.heap H1 (cQ Q V Q1 V) (sQ Q V Q1 V) := (hq0.trans hz9).mono hGc hGs
          refine w_tight hq1 ?_
          obtain ⟨hP, hD⟩ := va_join (wr := [(qx, .inl (cB, NN, .inl f)), (tv, .inr (12, MF 13 (tw V))), (V.au, .inl (cC, V.U, .inl V.un))]) (w1 := [(mo, .inr (13, MF 30 (rf (rs v Q1 o) i br))), (Q1.qq, .inl (cI, (8 * Q1.C), .inl Q1.qf)), (Q1.qe, .inl (cL, (3 * Q1.C), .inr (.inl Q1.ef)))]) hP hD [0, 2, 3] [1, 4, 5] rfl rfl (by decide) (by decide) hk1 hFc hP1 hD1
          generalize H1 = H at hP hS ⊢
          have hP : va_P (dC, dI) classes [(qx, .inl (cB, NN, .inl f)), (tv, .inr (12, MF 13 (tw V))), (V.au, .inl (cC, V.U, .inl V.un)), (mo, .inr (13, MF 30 (rf (rs v Q1 o) i br))), (Q1.qq, .inl (cI, (8 * Q1.C), .inl Q1.qf)), (Q1.qe, .inl (cL, (3 * Q1.C), .inr (.inl Q1.ef)))] H := hP
          have hD : va_D A [(qx, .inl (cB, NN, .inl f)), (tv, .inr (12, MF 13 (tw V))), (V.au, .inl (cC, V.U, .inl V.un)), (mo, .inr (13, MF 30 (rf (rs v Q1 o) i br))), (Q1.qq, .inl (cI, (8 * Q1.C), .inl Q1.qf)), (Q1.qe, .inl (cL, (3 * Q1.C), .inr (.inl Q1.ef)))] := hD
          have hP := hP.sub (ws' := [(mo, .inr (13, MF 30 (rf (rs v Q1 o) i br))), (qx, .inl (cB, NN, .inl f)), (tv, .inr (12, MF 13 (tw V))), (V.au, .inl (cC, V.U, .inl V.un)), (Q1.qq, .inl (cI, (8 * Q1.C), .inl Q1.qf)), (Q1.qe, .inl (cL, (3 * Q1.C), .inr (.inl Q1.ef)))]) [3, 0, 1, 2, 4, 5] rfl
          have hD := hD.sub (ws' := [(mo, .inr (13, MF 30 (rf (rs v Q1 o) i br))), (qx, .inl (cB, NN, .inl f)), (tv, .inr (12, MF 13 (tw V))), (V.au, .inl (cC, V.U, .inl V.un)), (Q1.qq, .inl (cI, (8 * Q1.C), .inl Q1.qf)), (Q1.qe, .inl (cL, (3 * Q1.C), .inr (.inl Q1.ef)))]) [3, 0, 1, 2, 4, 5] (by decide) rfl
          have hP := hP.sub (ws' := [(mo, .inr (13, MF 30 (rf (rs v Q1 o) i br))), (qx, .inl (cB, NN, .inl f)), (Q1.qq, .inl (cI, (8 * Q1.C), .inl Q1.qf)), (Q1.qe, .inl (cL, (3 * Q1.C), .inr (.inl Q1.ef))), (tv, .inr (12, MF 13 (tw V))), (V.au, .inl (cC, V.U, .inl V.un))]) [0, 1, 4, 5, 2, 3] rfl
          have hD := hD.sub (ws' := [(mo, .inr (13, MF 30 (rf (rs v Q1 o) i br))), (qx, .inl (cB, NN, .inl f)), (Q1.qq, .inl (cI, (8 * Q1.C), .inl Q1.qf)), (Q1.qe, .inl (cL, (3 * Q1.C), .inr (.inl Q1.ef))), (tv, .inr (12, MF 13 (tw V))), (V.au, .inl (cC, V.U, .inl V.un))]) [0, 1, 4, 5, 2, 3] (by decide) rfl
          have hr0 : r0 = nI Q.R := hr0
          subst hr0
          have hqb_Q1V : Q1.R ≤ Q1.C ∧ Q1.C ≤ 100000 := ⟨hQk_Q1.2.2.1, hQk_Q1.2.1⟩
          have hfit_Q1V := hG_Q1V.fits
          have hE_Q1 : alr Q V Q1 V 0 Q.R := ⟨fun r9 k9 _ h1 h2 => hA_Q1.2.2.1 _ (by omega), ⟨fun r9 k9 _ h1 h2 => hA_Q1.2.2.2.1.2 _ (by omega), Nat.le_refl _, fun _ _ => rfl⟩⟩
          have hk0_Q1 : Q1.qf (8 * Q.R + 0) = 41 := hA_Q1.2.2.2.2.1
          have hl1_Q1 : Q1.qf (8 * Q.R + 1) = -1 := hA_Q1.2.2.2.2.2 1 (by decide) (by decide)
          have hEx_Q1V : alr Q V Q1 V 0 Q.R := hE_Q1
          refine lv_istore_n (lv' := [(2, .int (nI Q.R)), (1, .int r1), (0, .ref mo)]) hx hb d_Mo_comparable_65 rfl hl (by decide) rfl (fun ls hl => ?_)
          refine lv_aload_n hx hb d_Mo_comparable_66 rfl (lv_at hl 2 rfl) ?_
          refine lv_iload_n hx hb d_Mo_comparable_67 rfl (lv_at hl 0 rfl) ?_
          refine lv_iconst (v := 2) hx hb d_Mo_comparable_68 (by decide) ?_
          refine lv_aload_n hx hb d_Mo_comparable_69 rfl (lv_at hl 2 rfl) ?_
          refine va_get (D := (dC, dI)) (ci := 13) (v := .ref tv) (C := R_Mo) (T := F_Mo) (N := 30) hx hb hts in_Mo hown hK hP 0 rfl rfl 22 (by decide) (hts _ w_1111) (fun _ h9 => h9) (MFg (by decide) ((rf_ne (by decide) (by decide)).trans ((rs_ne (by decide) (by decide) (by decide) (by decide)).trans h22))) d_Mo_comparable_70 ?_
          refine va_get (D := (dC, dI)) (ci := 12) (v := .int (nI V.us)) (C := R_Tree) (T := F_Tree) (N := 13) hx hb hts in_Tree hown hK hP 4 rfl rfl 12 (by decide) (hts _ w_1058) (fun _ h9 => h9) (MFg (by decide) rfl) d_Mo_comparable_73 ?_
          refine W.eq (g2 := F0 m 76 ls [.int (nI V.us), .int (nI 2), .int (nI Q.R), .ref mo]) rfl ?_
          have hPc := hP.sub (ws' := [(mo, .inr (13, MF 30 (rf (rs v Q1 o) i br))), (Q1.qq, .inl (cI, (8 * Q1.C), .inl Q1.qf))]) [0, 2] rfl
          have hDc := hD.sub (ws' := [(mo, .inr (13, MF 30 (rf (rs v Q1 o) i br))), (Q1.qq, .inl (cI, (8 * Q1.C), .inl Q1.qf))]) [0, 2] (by decide) rfl
          have hKc := hK.sub (tys' := [(cI, .int)]) [1] rfl
          have hFc := va_free (wc := [(mo, .inr (13, MF 30 (rf (rs v Q1 o) i br))), (Q1.qq, .inl (cI, (8 * Q1.C), .inl Q1.qf))]) hD hS hA [0, 2] rfl
          refine va_callv (va_runV (As := [.int (nI Q.R), .int (nI 2), .int (nI V.us)]) (rest := []) ⟨hx, hb, hml, hown, hts⟩ (c_Mo_set l dC dI mo H (rf (rs v Q1 o) i br) cI Q1.qq (8 * Q1.C) Q1.qf Q.R 2 ((nI V.us)) (by omega) (by omega) ((rf_ne (by decide) (by decide)).trans rs_19)) (cwV 3 hts (gt_V (own := R_Mo) (C := R_Mo) (i := 272) (y := y_Mo_set) i_Mo_set w_1411 w_1413 (gt_sel (y := y_Mo_set) (n := 30) (by decide +kernel)) w_7) rfl rfl rfl (by decide +kernel) ⟨Nat.le_trans (m := 11) (Nat.le_of_ble_eq_true rfl) (Nat.le_add_right 11 (15 + G)), Nat.le_trans (m := 400) (Nat.le_of_ble_eq_true rfl) (Nat.le_add_right 400 (600 + M))⟩) ⟨mp_blind, va_recv hKc hPc (ci := 13) (q0 := 0) rfl rfl, fun U hU hW => ⟨rfl, hU, by rw [hU]; exact hPc, va_K.moved hW.alike hKc, hDc.weaken (fun _ _ _ _ => trivial)⟩⟩ rfl rfl hl.1 rfl (lv_room (Nat.le_of_ble_eq_true rfl)) d_Mo_comparable_76 ⟨hfit_Q1V.1, hfit_Q1V.2⟩) hS (fun q _ h => hFc q h) hFc (fun _u t9 H1 locs ht hvm hw hB hz1 hk1 hS => ?_)
          obtain ⟨hP1, hK1, hD1⟩ := hB
          rw [ht] at hP1
          obtain ⟨hP, hD⟩ := va_join (wr := [(qx, .inl (cB, NN, .inl f)), (Q1.qe, .inl (cL, (3 * Q1.C), .inr (.inl Q1.ef))), (tv, .inr (12, MF 13 (tw V))), (V.au, .inl (cC, V.U, .inl V.un))]) (w1 := [(mo, .inr (13, MF 30 (rf (rs v Q1 o) i br))), (Q1.qq, .inl (cI, (8 * Q1.C), .inl (upd Q1.qf (8 * Q.R + 2) ((nI V.us)))))]) hP hD [0, 2] [1, 3, 4, 5] rfl rfl (by decide) (by decide) hk1 hFc hP1 hD1
          generalize H1 = H at hP hS ⊢
          have hP : va_P (dC, dI) classes [(qx, .inl (cB, NN, .inl f)), (Q1.qe, .inl (cL, (3 * Q1.C), .inr (.inl Q1.ef))), (tv, .inr (12, MF 13 (tw V))), (V.au, .inl (cC, V.U, .inl V.un)), (mo, .inr (13, MF 30 (rf (rs v Q1 o) i br))), (Q1.qq, .inl (cI, (8 * Q1.C), .inl (upd Q1.qf (8 * Q.R + 2) ((nI V.us)))))] H := hP
          have hD : va_D A [(qx, .inl (cB, NN, .inl f)), (Q1.qe, .inl (cL, (3 * Q1.C), .inr (.inl Q1.ef))), (tv, .inr (12, MF 13 (tw V))), (V.au, .inl (cC, V.U, .inl V.un)), (mo, .inr (13, MF 30 (rf (rs v Q1 o) i br))), (Q1.qq, .inl (cI, (8 * Q1.C), .inl (upd Q1.qf (8 * Q.R + 2) ((nI V.us)))))] := hD
          have hP := hP.sub (ws' := [(mo, .inr (13, MF 30 (rf (rs v Q1 o) i br))), (qx, .inl (cB, NN, .inl f)), (Q1.qq, .inl (cI, (8 * Q1.C), .inl (upd Q1.qf (8 * Q.R + 2) ((nI V.us))))), (Q1.qe, .inl (cL, (3 * Q1.C), .inr (.inl Q1.ef))), (tv, .inr (12, MF 13 (tw V))), (V.au, .inl (cC, V.U, .inl V.un))]) [4, 0, 5, 1, 2, 3] rfl
          have hD := hD.sub (ws' := [(mo, .inr (13, MF 30 (rf (rs v Q1 o) i br))), (qx, .inl (cB, NN, .inl f)), (Q1.qq, .inl (cI, (8 * Q1.C), .inl (upd Q1.qf (8 * Q.R + 2) ((nI V.us))))), (Q1.qe, .inl (cL, (3 * Q1.C), .inr (.inl Q1.ef))), (tv, .inr (12, MF 13 (tw V))), (V.au, .inl (cC, V.U, .inl V.un))]) [4, 0, 5, 1, 2, 3] (by decide) rfl
          obtain ⟨Q2, e_Q2⟩ : ∃ z : QS, z = QS.wf Q1 (upd Q1.qf (8 * Q.R + 2) ((nI V.us))) := ⟨_, rfl⟩
          have hP : va_P (dC, dI) classes [(mo, .inr (13, MF 30 (rf (rs v Q2 o) i br))), (qx, .inl (cB, NN, .inl f)), (Q2.qq, .inl (cI, (8 * Q2.C), .inl Q2.qf)), (Q2.qe, .inl (cL, (3 * Q2.C), .inr (.inl Q2.ef))), (tv, .inr (12, MF 13 (tw V))), (V.au, .inl (cC, V.U, .inl V.un))] H := by subst e_Q2; exact hP
          have hD : va_D A [(mo, .inr (13, MF 30 (rf (rs v Q2 o) i br))), (qx, .inl (cB, NN, .inl f)), (Q2.qq, .inl (cI, (8 * Q2.C), .inl Q2.qf)), (Q2.qe, .inl (cL, (3 * Q2.C), .inr (.inl Q2.ef))), (tv, .inr (12, MF 13 (tw V))), (V.au, .inl (cC, V.U, .inl V.un))] := by subst e_Q2; exact hD
          have hf_Q2 : Q2.C = Q1.C ∧ Q2.R = Q1.R ∧ Q2.qf = upd Q1.qf (8 * Q.R + 2) ((nI V.us)) := by rw [e_Q2]; exact ⟨rfl, rfl, rfl⟩
          have he_Q2 : Q2.ef = Q1.ef := by rw [e_Q2]; rfl
          have hQk_Q2 : QOK Q2 := by rw [e_Q2]; exact hQk_Q1
          have hG_Q2V : GQ (Q.R + 8 * (n - i) + 1) (V.us + (n + 12 - i)) Q V Q2 V := by unfold GQ at hG_Q1V ⊢; rw [hf_Q2.1]; exact hG_Q1V
          refine w_same (fun hq => ?_)
          refine w_tight (k := cQ Q V Q2 V) (n := sQ Q V Q2 V) (by unfold cQ sQ at hq ⊢; rw [hf_Q2.1]; exact hq) ?_
          have hR_Q2 := hf_Q2.2.1
          have hqb_Q2V : Q2.R ≤ Q2.C ∧ Q2.C ≤ 100000 := ⟨hQk_Q2.2.2.1, hQk_Q2.2.1⟩
          have hfit_Q2V := hG_Q2V.fits
          have hk0_Q2 : Q2.qf (8 * Q.R + 0) = 41 := by rw [hf_Q2.2.2, pk_un (by omega)]; exact hk0_Q1
          have hl1_Q2 : Q2.qf (8 * Q.R + 1) = -1 := by rw [hf_Q2.2.2, pk_un (by omega)]; exact hl1_Q1
          have hEx_Q2V : alr Q V Q2 V 0 Q.R := hEx_Q1V.tr (alr.upd hf_Q2.2.2 he_Q2 (by decide) (by omega))
          refine lv_aload_n hx hb d_Mo_comparable_79 rfl (lv_at hl 2 rfl) ?_
          refine lv_iload_n hx hb d_Mo_comparable_80 rfl (lv_at hl 1 rfl) ?_
          refine lv_aload_n hx hb d_Mo_comparable_81 rfl (lv_at hl 2 rfl) ?_
          refine va_get (D := (dC, dI)) (ci := 13) (v := .ref tv) (C := R_Mo) (T := F_Mo) (N := 30) hx hb hts in_Mo hown hK hP 0 rfl rfl 22 (by decide) (hts _ w_1111) (fun _ h9 => h9) (MFg (by decide) ((rf_ne (by decide) (by decide)).trans ((rs_ne (by decide) (by decide) (by decide) (by decide)).trans h22))) d_Mo_comparable_82 ?_
          have hqr : 0 ≤ r1 := by rw [c56]; decide
          have hlt0 := here_in h_r1.symm hqr
          have hcm : cmP f n ok (orL f n) (cmL f n) (qyL f n) i = (qtQ f n r1 i).map (fun p => (p.2, litO (4, 0, p.1))) := by rw [cmP_41 hN0 (Or.inr (h_r1.symm.trans c56)), ← h_r1]
          have hPc := hP.sub (ws' := [(mo, .inr (13, MF 30 (rf (rs v Q2 o) i br))), (qx, .inl (cB, NN, .inl f)), (tv, .inr (12, MF 13 (tw V))), (V.au, .inl (cC, V.U, .inl V.un))]) [0, 1, 4, 5] rfl
          have hDc := hD.sub (ws' := [(mo, .inr (13, MF 30 (rf (rs v Q2 o) i br))), (qx, .inl (cB, NN, .inl f)), (tv, .inr (12, MF 13 (tw V))), (V.au, .inl (cC, V.U, .inl V.un))]) [0, 1, 4, 5] (by decide) rfl
          have hKc := hK.sub (tys' := [(cB, .byte), (cC, .char)]) [0, 3] rfl
          have hFc := va_free (wc := [(mo, .inr (13, MF 30 (rf (rs v Q2 o) i br))), (qx, .inl (cB, NN, .inl f)), (tv, .inr (12, MF 13 (tw V))), (V.au, .inl (cC, V.U, .inl V.un))]) hD hS hA [0, 1, 4, 5] rfl
          refine w_same (fun hq0 => ?_)
          refine va_calli (va_runV (As := [.int r1, .ref tv]) (rest := []) ⟨hx, hb, hml, hown, hts⟩ (c_Mo_quoted l dC dI mo H (rs v Q2 o) cB cC qx NN f n K tv V i br r1 hnN (by omega) (by omega) ((rs_ne (by decide) (by decide) (by decide) (by decide)).trans h6) ((rs_ne (by decide) (by decide) (by decide) (by decide)).trans h8) hqr hTk_V (by omega)) (cwV 2 hts (gt_V (own := R_Mo) (C := R_Mo) (i := 200) (y := y_Mo_quoted) i_Mo_quoted w_1261 w_1263 (gt_sel (y := y_Mo_quoted) (n := 30) (by decide +kernel)) w_7) rfl rfl rfl (by decide +kernel) ⟨Nat.le_trans (m := 11) (Nat.le_of_ble_eq_true rfl) (Nat.le_add_right 11 (15 + G)), Nat.le_trans (m := 400) (Nat.le_of_ble_eq_true rfl) (Nat.le_add_right 400 (600 + M))⟩) ⟨me_blind, va_recv hKc hPc (ci := 13) (q0 := 0) rfl rfl, fun U hU hW => ⟨rfl, ⟨hU, by rw [hU]; exact hPc, va_K.moved hW.alike hKc, hDc.weaken (fun _ _ _ _ => trivial)⟩, by rw [hU]; exact ME.call hM hS.2.1 hFc hW⟩⟩ rfl rfl hl.1 rfl (lv_room (Nat.le_of_ble_eq_true rfl)) d_Mo_comparable_85 ⟨(hG_Q2V.stepQ (C2 := V.us + (n + 12 - i)) (by omega)).1, (hG_Q2V.stepQ (C2 := V.us + (n + 12 - i)) (by omega)).2⟩) hS (fun q _ h => hFc q h) hFc (fun r0 ⟨V1, us9, j_V1, b_V1⟩ t9 H1 locs ht hvm hw hB hz1 hk1 hS => ?_)
          obtain ⟨⟨hP1, hK1, hD1⟩, hz9⟩ := hB
          rw [ht] at hP1
          rw [ht] at hz9
          obtain ⟨hX_V1, hw⟩ := hw
          have hX_V1 : TX V V1 us9 := hX_V1
          have hXs_V1 := hX_V1.us
          have hln_V1 : us9.length ≤ n + 12 - i := by rcases hw with ⟨_, _, h9, h8⟩ | ⟨_, _, h9, _⟩; exact Nat.le_sub_of_add_le (show us9.length + i ≤ n + 12 by have h8 : us9.length + i + 2 ≤ j_V1 := h8; have h9 : j_V1 ≤ n := h9; omega); exact h9
          obtain ⟨hG_Q2V1, hGc, hGs⟩ := hG_Q2V.tr (hX_V1.gq Q2).1 (Nat.zero_le _) (show V.us + us9.length ≤ V.us + (n + 12 - i) by omega)
          rw [← (hX_V1.gq Q2).2.1] at hGc
          rw [← (hX_V1.gq Q2).2.2] at hGs
          have hz9 : szk H H1 (V1.U - V.U) (2 * (V1.U - V.U)) := hz9
          have hq1 : szk s.heap H1 (cQ Q V Q2 V1) (sQ Q V Q2 V1) := (hq0.trans hz9).mono hGc hGs
          refine w_tight hq1 ?_
          obtain ⟨hP, hD⟩ := va_join (wr := [(Q2.qq, .inl (cI, (8 * Q2.C), .inl Q2.qf)), (Q2.qe, .inl (cL, (3 * Q2.C), .inr (.inl Q2.ef)))]) (w1 := [(mo, .inr (13, MF 30 (rf (rs v Q2 o) j_V1 b_V1))), (qx, .inl (cB, NN, .inl f)), (tv, .inr (12, MF 13 (tw V1))), (V1.au, .inl (cC, V1.U, .inl V1.un))]) hP hD [0, 1, 4, 5] [2, 3] rfl rfl (by decide) (by decide) hk1 hFc hP1 hD1
          generalize H1 = H at hP hS ⊢
          have hP : va_P (dC, dI) classes [(Q2.qq, .inl (cI, (8 * Q2.C), .inl Q2.qf)), (Q2.qe, .inl (cL, (3 * Q2.C), .inr (.inl Q2.ef))), (mo, .inr (13, MF 30 (rf (rs v Q2 o) j_V1 b_V1))), (qx, .inl (cB, NN, .inl f)), (tv, .inr (12, MF 13 (tw V1))), (V1.au, .inl (cC, V1.U, .inl V1.un))] H := hP
          have hD : va_D A [(Q2.qq, .inl (cI, (8 * Q2.C), .inl Q2.qf)), (Q2.qe, .inl (cL, (3 * Q2.C), .inr (.inl Q2.ef))), (mo, .inr (13, MF 30 (rf (rs v Q2 o) j_V1 b_V1))), (qx, .inl (cB, NN, .inl f)), (tv, .inr (12, MF 13 (tw V1))), (V1.au, .inl (cC, V1.U, .inl V1.un))] := hD
          have hP := hP.sub (ws' := [(mo, .inr (13, MF 30 (rf (rs v Q2 o) j_V1 b_V1))), (qx, .inl (cB, NN, .inl f)), (Q2.qq, .inl (cI, (8 * Q2.C), .inl Q2.qf)), (Q2.qe, .inl (cL, (3 * Q2.C), .inr (.inl Q2.ef))), (tv, .inr (12, MF 13 (tw V1))), (V1.au, .inl (cC, V1.U, .inl V1.un))]) [2, 3, 0, 1, 4, 5] rfl
          have hD := hD.sub (ws' := [(mo, .inr (13, MF 30 (rf (rs v Q2 o) j_V1 b_V1))), (qx, .inl (cB, NN, .inl f)), (Q2.qq, .inl (cI, (8 * Q2.C), .inl Q2.qf)), (Q2.qe, .inl (cL, (3 * Q2.C), .inr (.inl Q2.ef))), (tv, .inr (12, MF 13 (tw V1))), (V1.au, .inl (cC, V1.U, .inl V1.un))]) [2, 3, 0, 1, 4, 5] (by decide) rfl
          have hP := hP.sub (ws' := [(mo, .inr (13, MF 30 (rf (rs v Q2 o) j_V1 b_V1))), (qx, .inl (cB, NN, .inl f)), (Q2.qq, .inl (cI, (8 * Q2.C), .inl Q2.qf)), (Q2.qe, .inl (cL, (3 * Q2.C), .inr (.inl Q2.ef))), (tv, .inr (12, MF 13 (tw V1))), (V1.au, .inl (cC, V1.U, .inl V1.un))]) [0, 1, 2, 3, 4, 5] rfl
          have hD := hD.sub (ws' := [(mo, .inr (13, MF 30 (rf (rs v Q2 o) j_V1 b_V1))), (qx, .inl (cB, NN, .inl f)), (Q2.qq, .inl (cI, (8 * Q2.C), .inl Q2.qf)), (Q2.qe, .inl (cL, (3 * Q2.C), .inr (.inl Q2.ef))), (tv, .inr (12, MF 13 (tw V1))), (V1.au, .inl (cC, V1.U, .inl V1.un))]) [0, 1, 2, 3, 4, 5] (by decide) rfl
          rcases hw with ⟨ho_1, ho_2, ho_3, ho_4⟩ | ⟨ho_1, ho_2, ho_3, ho_4⟩
          · have hqt_V1 : qtQ f n r1 i = some (us9, j_V1) := ho_2
            have ho_3 : j_V1 ≤ n := ho_3
            have ho_4 : us9.length + i + 2 ≤ j_V1 := ho_4
            have hTk_V1 := hX_V1.ok hTk_V (by omega)
            subst ho_1
            have hEx_Q2V1 : alr Q V Q2 V1 0 Q.R := hEx_Q2V.tr hX_V1.alr
            have hqb_Q2V1 : Q2.R ≤ Q2.C ∧ Q2.C ≤ 100000 := ⟨hQk_Q2.2.2.1, hQk_Q2.2.1⟩
            have hfit_Q2V1 := hG_Q2V1.fits
            refine lv_if_ne (tgt := 93) hx hb d_Mo_comparable_88 (by decide) (fun _ => ?_) (fun h => absurd h (by decide))
            refine lv_aload_n hx hb d_Mo_comparable_93 rfl (lv_at hl 2 rfl) ?_
            refine lv_iload_n hx hb d_Mo_comparable_94 rfl (lv_at hl 0 rfl) ?_
            refine lv_iconst (v := 3) hx hb d_Mo_comparable_95 (by decide) ?_
            refine lv_aload_n hx hb d_Mo_comparable_96 rfl (lv_at hl 2 rfl) ?_
            refine va_get (D := (dC, dI)) (ci := 13) (v := .ref tv) (C := R_Mo) (T := F_Mo) (N := 30) hx hb hts in_Mo hown hK hP 0 rfl rfl 22 (by decide) (hts _ w_1111) (fun _ h9 => h9) (MFg (by decide) ((rf_ne (by decide) (by decide)).trans ((rs_ne (by decide) (by decide) (by decide) (by decide)).trans h22))) d_Mo_comparable_97 ?_
            refine va_get (D := (dC, dI)) (ci := 12) (v := .int (nI V1.us)) (C := R_Tree) (T := F_Tree) (N := 13) hx hb hts in_Tree hown hK hP 4 rfl rfl 12 (by decide) (hts _ w_1058) (fun _ h9 => h9) (MFg (by decide) rfl) d_Mo_comparable_100 ?_
            refine lv_aload_n hx hb d_Mo_comparable_103 rfl (lv_at hl 2 rfl) ?_
            refine lv_iload_n hx hb d_Mo_comparable_104 rfl (lv_at hl 0 rfl) ?_
            refine lv_iconst (v := 2) hx hb d_Mo_comparable_105 (by decide) ?_
            refine W.eq (g2 := F0 m 106 ls [.int (nI 2), .int (nI Q.R), .ref mo, .int (nI V1.us), .int 3, .int (nI Q.R), .ref mo]) rfl ?_
            have hPc := hP.sub (ws' := [(mo, .inr (13, MF 30 (rf (rs v Q2 o) j_V1 b_V1))), (Q2.qq, .inl (cI, (8 * Q2.C), .inl Q2.qf))]) [0, 2] rfl
            have hDc := hD.sub (ws' := [(mo, .inr (13, MF 30 (rf (rs v Q2 o) j_V1 b_V1))), (Q2.qq, .inl (cI, (8 * Q2.C), .inl Q2.qf))]) [0, 2] (by decide) rfl
            have hKc := hK.sub (tys' := [(cI, .int)]) [1] rfl
            have hFc := va_free (wc := [(mo, .inr (13, MF 30 (rf (rs v Q2 o) j_V1 b_V1))), (Q2.qq, .inl (cI, (8 * Q2.C), .inl Q2.qf))]) hD hS hA [0, 2] rfl
            refine va_calli (va_runV (As := [.int (nI Q.R), .int (nI 2)]) (rest := [.int (nI V1.us), .int 3, .int (nI Q.R), .ref mo]) ⟨hx, hb, hml, hown, hts⟩ (c_Mo_field l dC dI mo H (rf (rs v Q2 o) j_V1 b_V1) cI Q2.qq (8 * Q2.C) Q2.qf Q.R 2 (by omega) (by omega) ((rf_ne (by decide) (by decide)).trans rs_19)) (cwV 2 hts (gt_V (own := R_Mo) (C := R_Mo) (i := 286) (y := y_Mo_field) i_Mo_field w_1431 w_1433 (gt_sel (y := y_Mo_field) (n := 30) (by decide +kernel)) w_7) rfl rfl rfl (by decide +kernel) ⟨Nat.le_trans (m := 11) (Nat.le_of_ble_eq_true rfl) (Nat.le_add_right 11 (15 + G)), Nat.le_trans (m := 400) (Nat.le_of_ble_eq_true rfl) (Nat.le_add_right 400 (600 + M))⟩) ⟨mp_blind, va_recv hKc hPc (ci := 13) (q0 := 0) rfl rfl, fun U hU hW => ⟨rfl, hU, by rw [hU]; exact hPc, va_K.moved hW.alike hKc, hDc.weaken (fun _ _ _ _ => trivial)⟩⟩ rfl rfl hl.1 rfl (lv_room (Nat.le_of_ble_eq_true rfl)) d_Mo_comparable_106 ⟨hfit_Q2V1.1, hfit_Q2V1.2⟩) hS (fun q _ h => hFc q h) hFc (fun r7 _u t9 H1 locs ht hvm hw hB hz1 hk1 hS => ?_)
            obtain ⟨hP1, hK1, hD1⟩ := hB
            rw [ht] at hP1
            obtain ⟨hP, hD⟩ := va_join (wr := [(qx, .inl (cB, NN, .inl f)), (Q2.qe, .inl (cL, (3 * Q2.C), .inr (.inl Q2.ef))), (tv, .inr (12, MF 13 (tw V1))), (V1.au, .inl (cC, V1.U, .inl V1.un))]) (w1 := [(mo, .inr (13, MF 30 (rf (rs v Q2 o) j_V1 b_V1))), (Q2.qq, .inl (cI, (8 * Q2.C), .inl Q2.qf))]) hP hD [0, 2] [1, 3, 4, 5] rfl rfl (by decide) (by decide) hk1 hFc hP1 hD1
            generalize H1 = H at hP hS ⊢
            have hP : va_P (dC, dI) classes [(qx, .inl (cB, NN, .inl f)), (Q2.qe, .inl (cL, (3 * Q2.C), .inr (.inl Q2.ef))), (tv, .inr (12, MF 13 (tw V1))), (V1.au, .inl (cC, V1.U, .inl V1.un)), (mo, .inr (13, MF 30 (rf (rs v Q2 o) j_V1 b_V1))), (Q2.qq, .inl (cI, (8 * Q2.C), .inl Q2.qf))] H := hP
            have hD : va_D A [(qx, .inl (cB, NN, .inl f)), (Q2.qe, .inl (cL, (3 * Q2.C), .inr (.inl Q2.ef))), (tv, .inr (12, MF 13 (tw V1))), (V1.au, .inl (cC, V1.U, .inl V1.un)), (mo, .inr (13, MF 30 (rf (rs v Q2 o) j_V1 b_V1))), (Q2.qq, .inl (cI, (8 * Q2.C), .inl Q2.qf))] := hD
            have hP := hP.sub (ws' := [(mo, .inr (13, MF 30 (rf (rs v Q2 o) j_V1 b_V1))), (qx, .inl (cB, NN, .inl f)), (Q2.qq, .inl (cI, (8 * Q2.C), .inl Q2.qf)), (Q2.qe, .inl (cL, (3 * Q2.C), .inr (.inl Q2.ef))), (tv, .inr (12, MF 13 (tw V1))), (V1.au, .inl (cC, V1.U, .inl V1.un))]) [4, 0, 5, 1, 2, 3] rfl
            have hD := hD.sub (ws' := [(mo, .inr (13, MF 30 (rf (rs v Q2 o) j_V1 b_V1))), (qx, .inl (cB, NN, .inl f)), (Q2.qq, .inl (cI, (8 * Q2.C), .inl Q2.qf)), (Q2.qe, .inl (cL, (3 * Q2.C), .inr (.inl Q2.ef))), (tv, .inr (12, MF 13 (tw V1))), (V1.au, .inl (cC, V1.U, .inl V1.un))]) [4, 0, 5, 1, 2, 3] (by decide) rfl
            have h_r7 : r7 = Q2.qf (8 * Q.R + 2) := hw
            have h7 : r7 = nI V.us := by rw [h_r7, hf_Q2.2.2]; exact pk_us
            subst h7
            refine lv_isub hx hb d_Mo_comparable_109 ?_
            refine W.eq (g2 := F0 m 110 ls [.int (nI us9.length), .int 3, .int (nI Q.R), .ref mo]) (by rw [show ((nI V1.us) - (nI V.us)) = (nI us9.length) from (by rw [hXs_V1]; exact nI_asub _ _)]) ?_
            refine W.eq (g2 := F0 m 110 ls [.int (nI us9.length), .int (nI 3), .int (nI Q.R), .ref mo]) rfl ?_
            have hPc := hP.sub (ws' := [(mo, .inr (13, MF 30 (rf (rs v Q2 o) j_V1 b_V1))), (Q2.qq, .inl (cI, (8 * Q2.C), .inl Q2.qf))]) [0, 2] rfl
            have hDc := hD.sub (ws' := [(mo, .inr (13, MF 30 (rf (rs v Q2 o) j_V1 b_V1))), (Q2.qq, .inl (cI, (8 * Q2.C), .inl Q2.qf))]) [0, 2] (by decide) rfl
            have hKc := hK.sub (tys' := [(cI, .int)]) [1] rfl
            have hFc := va_free (wc := [(mo, .inr (13, MF 30 (rf (rs v Q2 o) j_V1 b_V1))), (Q2.qq, .inl (cI, (8 * Q2.C), .inl Q2.qf))]) hD hS hA [0, 2] rfl
            refine va_callv (va_runV (As := [.int (nI Q.R), .int (nI 3), .int (nI us9.length)]) (rest := []) ⟨hx, hb, hml, hown, hts⟩ (c_Mo_set l dC dI mo H (rf (rs v Q2 o) j_V1 b_V1) cI Q2.qq (8 * Q2.C) Q2.qf Q.R 3 ((nI us9.length)) (by omega) (by omega) ((rf_ne (by decide) (by decide)).trans rs_19)) (cwV 3 hts (gt_V (own := R_Mo) (C := R_Mo) (i := 272) (y := y_Mo_set) i_Mo_set w_1411 w_1413 (gt_sel (y := y_Mo_set) (n := 30) (by decide +kernel)) w_7) rfl rfl rfl (by decide +kernel) ⟨Nat.le_trans (m := 11) (Nat.le_of_ble_eq_true rfl) (Nat.le_add_right 11 (15 + G)), Nat.le_trans (m := 400) (Nat.le_of_ble_eq_true rfl) (Nat.le_add_right 400 (600 + M))⟩) ⟨mp_blind, va_recv hKc hPc (ci := 13) (q0 := 0) rfl rfl, fun U hU hW => ⟨rfl, hU, by rw [hU]; exact hPc, va_K.moved hW.alike hKc, hDc.weaken (fun _ _ _ _ => trivial)⟩⟩ rfl rfl hl.1 rfl (lv_room (Nat.le_of_ble_eq_true rfl)) d_Mo_comparable_110 ⟨hfit_Q2V1.1, hfit_Q2V1.2⟩) hS (fun q _ h => hFc q h) hFc (fun _u t9 H1 locs ht hvm hw hB hz1 hk1 hS => ?_)
            obtain ⟨hP1, hK1, hD1⟩ := hB
            rw [ht] at hP1
            obtain ⟨hP, hD⟩ := va_join (wr := [(qx, .inl (cB, NN, .inl f)), (Q2.qe, .inl (cL, (3 * Q2.C), .inr (.inl Q2.ef))), (tv, .inr (12, MF 13 (tw V1))), (V1.au, .inl (cC, V1.U, .inl V1.un))]) (w1 := [(mo, .inr (13, MF 30 (rf (rs v Q2 o) j_V1 b_V1))), (Q2.qq, .inl (cI, (8 * Q2.C), .inl (upd Q2.qf (8 * Q.R + 3) ((nI us9.length)))))]) hP hD [0, 2] [1, 3, 4, 5] rfl rfl (by decide) (by decide) hk1 hFc hP1 hD1
            generalize H1 = H at hP hS ⊢
            have hP : va_P (dC, dI) classes [(qx, .inl (cB, NN, .inl f)), (Q2.qe, .inl (cL, (3 * Q2.C), .inr (.inl Q2.ef))), (tv, .inr (12, MF 13 (tw V1))), (V1.au, .inl (cC, V1.U, .inl V1.un)), (mo, .inr (13, MF 30 (rf (rs v Q2 o) j_V1 b_V1))), (Q2.qq, .inl (cI, (8 * Q2.C), .inl (upd Q2.qf (8 * Q.R + 3) ((nI us9.length)))))] H := hP
            have hD : va_D A [(qx, .inl (cB, NN, .inl f)), (Q2.qe, .inl (cL, (3 * Q2.C), .inr (.inl Q2.ef))), (tv, .inr (12, MF 13 (tw V1))), (V1.au, .inl (cC, V1.U, .inl V1.un)), (mo, .inr (13, MF 30 (rf (rs v Q2 o) j_V1 b_V1))), (Q2.qq, .inl (cI, (8 * Q2.C), .inl (upd Q2.qf (8 * Q.R + 3) ((nI us9.length)))))] := hD
            have hP := hP.sub (ws' := [(mo, .inr (13, MF 30 (rf (rs v Q2 o) j_V1 b_V1))), (qx, .inl (cB, NN, .inl f)), (Q2.qq, .inl (cI, (8 * Q2.C), .inl (upd Q2.qf (8 * Q.R + 3) ((nI us9.length))))), (Q2.qe, .inl (cL, (3 * Q2.C), .inr (.inl Q2.ef))), (tv, .inr (12, MF 13 (tw V1))), (V1.au, .inl (cC, V1.U, .inl V1.un))]) [4, 0, 5, 1, 2, 3] rfl
            have hD := hD.sub (ws' := [(mo, .inr (13, MF 30 (rf (rs v Q2 o) j_V1 b_V1))), (qx, .inl (cB, NN, .inl f)), (Q2.qq, .inl (cI, (8 * Q2.C), .inl (upd Q2.qf (8 * Q.R + 3) ((nI us9.length))))), (Q2.qe, .inl (cL, (3 * Q2.C), .inr (.inl Q2.ef))), (tv, .inr (12, MF 13 (tw V1))), (V1.au, .inl (cC, V1.U, .inl V1.un))]) [4, 0, 5, 1, 2, 3] (by decide) rfl
            obtain ⟨Q3, e_Q3⟩ : ∃ z : QS, z = QS.wf Q2 (upd Q2.qf (8 * Q.R + 3) ((nI us9.length))) := ⟨_, rfl⟩
            have hP : va_P (dC, dI) classes [(mo, .inr (13, MF 30 (rf (rs v Q3 o) j_V1 b_V1))), (qx, .inl (cB, NN, .inl f)), (Q3.qq, .inl (cI, (8 * Q3.C), .inl Q3.qf)), (Q3.qe, .inl (cL, (3 * Q3.C), .inr (.inl Q3.ef))), (tv, .inr (12, MF 13 (tw V1))), (V1.au, .inl (cC, V1.U, .inl V1.un))] H := by subst e_Q3; exact hP
            have hD : va_D A [(mo, .inr (13, MF 30 (rf (rs v Q3 o) j_V1 b_V1))), (qx, .inl (cB, NN, .inl f)), (Q3.qq, .inl (cI, (8 * Q3.C), .inl Q3.qf)), (Q3.qe, .inl (cL, (3 * Q3.C), .inr (.inl Q3.ef))), (tv, .inr (12, MF 13 (tw V1))), (V1.au, .inl (cC, V1.U, .inl V1.un))] := by subst e_Q3; exact hD
            have hf_Q3 : Q3.C = Q2.C ∧ Q3.R = Q2.R ∧ Q3.qf = upd Q2.qf (8 * Q.R + 3) ((nI us9.length)) := by rw [e_Q3]; exact ⟨rfl, rfl, rfl⟩
            have he_Q3 : Q3.ef = Q2.ef := by rw [e_Q3]; rfl
            have hQk_Q3 : QOK Q3 := by rw [e_Q3]; exact hQk_Q2
            have hG_Q3V1 : GQ (Q.R + 8 * (n - i) + 1) (V.us + (n + 12 - i)) Q V Q3 V1 := by unfold GQ at hG_Q2V1 ⊢; rw [hf_Q3.1]; exact hG_Q2V1
            refine w_same (fun hq => ?_)
            refine w_tight (k := cQ Q V Q3 V1) (n := sQ Q V Q3 V1) (by unfold cQ sQ at hq ⊢; rw [hf_Q3.1]; exact hq) ?_
            have hR_Q3 := hf_Q3.2.1
            have hqb_Q3V1 : Q3.R ≤ Q3.C ∧ Q3.C ≤ 100000 := ⟨hQk_Q3.2.2.1, hQk_Q3.2.1⟩
            have hfit_Q3V1 := hG_Q3V1.fits
            have hk0_Q3 : Q3.qf (8 * Q.R + 0) = 41 := by rw [hf_Q3.2.2, pk_un (by omega)]; exact hk0_Q2
            have hl1_Q3 : Q3.qf (8 * Q.R + 1) = -1 := by rw [hf_Q3.2.2, pk_un (by omega)]; exact hl1_Q2
            have hEx_Q3V1 : alr Q V Q3 V1 0 Q.R := hEx_Q2V1.tr (alr.upd hf_Q3.2.2 he_Q3 (by decide) (by omega))
            refine lv_iload_n hx hb d_Mo_comparable_113 rfl (lv_at hl 0 rfl) ?_
            have hfin : cmP f n ok (orL f n) (cmL f n) (qyL f n) i = some (j_V1, litO (4, 0, us9)) := by rw [hcm, hqt_V1]; rfl
            have hu9 := qtQ_uok (Or.inr c56) hqt_V1
            have hNM : NMq Q3 V1 Q.R us9 := ⟨V.us, us9.length, by rw [hf_Q3.2.2, pk_un (by omega), hf_Q2.2.2]; exact pk_us, by rw [hf_Q3.2.2]; exact pk_us, by omega, by rw [hX_V1.un.2]; exact hu9.2⟩
            have hCF : CMPf O C Y Q3 V1 Q.R Q3.R Q.R (litO (4, 0, us9)) := ⟨by omega, by omega, Or.inr (Or.inl ⟨hk0_Q3, us9, hNM, hu9.1, rfl⟩)⟩
            refine w_same (fun hq => ?_)
            refine W.widen (k := kcap Q (Q.R + 8 * (n - i) + 1) + qcap V (V.us + (n + 12 - i))) (n := 22 * kcap Q (Q.R + 8 * (n - i) + 1) + 2 * qcap V (V.us + (n + 12 - i))) hfit_Q3V1.1 hfit_Q3V1.2 ?_
            have hPo : QPo n i 1 Q V (Q3, V1, j_V1, b_V1, o) := ⟨hQk_Q3, hG_Q3V1, ⟨_, hX_V1, by omega⟩, by show Q.R ≤ Q3.R; omega, by show Q3.R ≤ Q.R + 8 * (n - i) + 1; omega⟩
            exact W.iret (v := nI Q.R) hx hb hr (fun t9 ht hW => ⟨⟨nI Q.R, (Q3, V1, j_V1, b_V1, o), rfl, ⟨hPo, Or.inl ⟨Q.R, litO (4, 0, us9), rfl, hfin, hCF, by show Q.R < Q3.R; omega, hEx_Q3V1, by show Q3.R + 8 * i + 6 ≤ Q.R + 8 * j_V1; omega, by show V1.us + i ≤ V.us + j_V1; omega, by show j_V1 ≤ n; omega, by show Q.R < Q3.R; omega, rfl⟩⟩, ⟨by rw [ht]; exact hP, va_K.moved hW.alike hK, hD⟩, by rw [ht]; exact hq⟩, hS.F ht⟩) hS.2.2 d_Mo_comparable_114
          · have hqt_V1 : qtQ f n r1 i = none := ho_2
            clear ho_3 ho_4
            have hTk_V1 := hX_V1.ok hTk_V (by omega)
            subst ho_1
            have hEx_Q2V1 : alr Q V Q2 V1 0 Q.R := hEx_Q2V.tr hX_V1.alr
            have hqb_Q2V1 : Q2.R ≤ Q2.C ∧ Q2.C ≤ 100000 := ⟨hQk_Q2.2.2.1, hQk_Q2.2.1⟩
            have hfit_Q2V1 := hG_Q2V1.fits
            refine lv_if_ne (tgt := 93) hx hb d_Mo_comparable_88 (by decide) (fun h => absurd h (by decide)) (fun _ => ?_)
            refine lv_iconst (v := (-1)) hx hb d_Mo_comparable_91 (by decide) ?_
            have hfin : cmP f n ok (orL f n) (cmL f n) (qyL f n) i = none := by rw [hcm, hqt_V1]; rfl
            refine w_same (fun hq => ?_)
            refine W.widen (k := kcap Q (Q.R + 8 * (n - i) + 1) + qcap V (V.us + (n + 12 - i))) (n := 22 * kcap Q (Q.R + 8 * (n - i) + 1) + 2 * qcap V (V.us + (n + 12 - i))) hfit_Q2V1.1 hfit_Q2V1.2 ?_
            have hPo : QPo n i 1 Q V (Q2, V1, j_V1, b_V1, o) := ⟨hQk_Q2, hG_Q2V1, ⟨_, hX_V1, by omega⟩, by show Q.R ≤ Q2.R; omega, by show Q2.R ≤ Q.R + 8 * (n - i) + 1; omega⟩
            exact W.iret (v := -1) hx hb hr (fun t9 ht hW => ⟨⟨-1, (Q2, V1, j_V1, b_V1, o), rfl, ⟨hPo, Or.inr ⟨rfl, hfin⟩⟩, ⟨by rw [ht]; exact hP, va_K.moved hW.alike hK, hD⟩, by rw [ht]; exact hq⟩, hS.F ht⟩) hS.2.2 d_Mo_comparable_92
    · refine lv_aload_n hx hb d_Mo_comparable_18 rfl (lv_at hl 1 rfl) ?_
      refine lv_bipush (v := 40) hx hb d_Mo_comparable_19 (by decide) ?_
      have hPc := hP.sub (ws' := [(mo, .inr (13, MF 30 (rf (rs v Q o) i br))), (Q.qq, .inl (cI, (8 * Q.C), .inl Q.qf)), (Q.qe, .inl (cL, (3 * Q.C), .inr (.inl Q.ef)))]) [0, 2, 3] rfl
      have hDc := hD.sub (ws' := [(mo, .inr (13, MF 30 (rf (rs v Q o) i br))), (Q.qq, .inl (cI, (8 * Q.C), .inl Q.qf)), (Q.qe, .inl (cL, (3 * Q.C), .inr (.inl Q.ef)))]) [0, 2, 3] (by decide) rfl
      have hKc := hK.sub (tys' := [(cI, .int), (cL, .long)]) [1, 2] rfl
      have hFc := va_free (wc := [(mo, .inr (13, MF 30 (rf (rs v Q o) i br))), (Q.qq, .inl (cI, (8 * Q.C), .inl Q.qf)), (Q.qe, .inl (cL, (3 * Q.C), .inr (.inl Q.ef)))]) hD hS hA [0, 2, 3] rfl
      refine w_same (fun hq0 => ?_)
      refine va_calli (va_runV (As := [.int 40]) (rest := []) ⟨hx, hb, hml, hown, hts⟩ (c_Mo_row l dC dI mo H v cI cL Q o i br 40 hQk_Q) (cwV 1 hts (gt_V (own := R_Mo) (C := R_Mo) (i := 269) (y := y_Mo_row) i_Mo_row w_1407 w_1409 (gt_sel (y := y_Mo_row) (n := 30) (by decide +kernel)) w_7) rfl rfl rfl (by decide +kernel) ⟨Nat.le_trans (m := 11) (Nat.le_of_ble_eq_true rfl) (Nat.le_add_right 11 (15 + G)), Nat.le_trans (m := 400) (Nat.le_of_ble_eq_true rfl) (Nat.le_add_right 400 (600 + M))⟩) ⟨mp_blind, va_recv hKc hPc (ci := 13) (q0 := 0) rfl rfl, fun U hU hW => ⟨rfl, hU, by rw [hU]; exact hPc, va_K.moved hW.alike hKc, hDc.weaken (fun _ _ _ _ => trivial)⟩⟩ rfl rfl hl.1 rfl (lv_room (Nat.le_of_ble_eq_true rfl)) d_Mo_comparable_21 ⟨(QAd.fit hG_QV hQk_Q (by omega)).1, (QAd.fit hG_QV hQk_Q (by omega)).2⟩) hS (fun q _ h => hFc q h) hFc (fun r0 Q1 t9 H1 locs ht hvm hw hB hz1 hk1 hS => ?_)
      obtain ⟨⟨hP1, hK1, hD1⟩, hz9⟩ := hB
      rw [ht] at hP1
      rw [ht] at hz9
      obtain ⟨hr0, hA_Q1⟩ := hw
      have hA_Q1 : QAd Q Q1 40 := hA_Q1
      obtain ⟨hQk_Q1, hGa, hGb, hGd, hR_Q1⟩ := hA_Q1.gq hQk_Q (by omega) V
      obtain ⟨hG_Q1V, hGc, hGs⟩ := hG_QV.tr hGa (show Q.R + 1 ≤ Q.R + 8 * (n - i) + 1 by omega) (Nat.zero_le _)
      have hGc := Nat.le_trans (Nat.add_le_add_left hGb _) hGc
      have hGs := Nat.le_trans (Nat.add_le_add_left hGd _) hGs
      have hq1 : szk s.heap H1 (cQ Q V Q1 V) (sQ Q V Q1 V) := (hq0.trans hz9).mono hGc hGs
      refine w_tight hq1 ?_
      obtain ⟨hP, hD⟩ := va_join (wr := [(qx, .inl (cB, NN, .inl f)), (tv, .inr (12, MF 13 (tw V))), (V.au, .inl (cC, V.U, .inl V.un))]) (w1 := [(mo, .inr (13, MF 30 (rf (rs v Q1 o) i br))), (Q1.qq, .inl (cI, (8 * Q1.C), .inl Q1.qf)), (Q1.qe, .inl (cL, (3 * Q1.C), .inr (.inl Q1.ef)))]) hP hD [0, 2, 3] [1, 4, 5] rfl rfl (by decide) (by decide) hk1 hFc hP1 hD1
      generalize H1 = H at hP hS ⊢
      have hP : va_P (dC, dI) classes [(qx, .inl (cB, NN, .inl f)), (tv, .inr (12, MF 13 (tw V))), (V.au, .inl (cC, V.U, .inl V.un)), (mo, .inr (13, MF 30 (rf (rs v Q1 o) i br))), (Q1.qq, .inl (cI, (8 * Q1.C), .inl Q1.qf)), (Q1.qe, .inl (cL, (3 * Q1.C), .inr (.inl Q1.ef)))] H := hP
      have hD : va_D A [(qx, .inl (cB, NN, .inl f)), (tv, .inr (12, MF 13 (tw V))), (V.au, .inl (cC, V.U, .inl V.un)), (mo, .inr (13, MF 30 (rf (rs v Q1 o) i br))), (Q1.qq, .inl (cI, (8 * Q1.C), .inl Q1.qf)), (Q1.qe, .inl (cL, (3 * Q1.C), .inr (.inl Q1.ef)))] := hD
      have hP := hP.sub (ws' := [(mo, .inr (13, MF 30 (rf (rs v Q1 o) i br))), (qx, .inl (cB, NN, .inl f)), (tv, .inr (12, MF 13 (tw V))), (V.au, .inl (cC, V.U, .inl V.un)), (Q1.qq, .inl (cI, (8 * Q1.C), .inl Q1.qf)), (Q1.qe, .inl (cL, (3 * Q1.C), .inr (.inl Q1.ef)))]) [3, 0, 1, 2, 4, 5] rfl
      have hD := hD.sub (ws' := [(mo, .inr (13, MF 30 (rf (rs v Q1 o) i br))), (qx, .inl (cB, NN, .inl f)), (tv, .inr (12, MF 13 (tw V))), (V.au, .inl (cC, V.U, .inl V.un)), (Q1.qq, .inl (cI, (8 * Q1.C), .inl Q1.qf)), (Q1.qe, .inl (cL, (3 * Q1.C), .inr (.inl Q1.ef)))]) [3, 0, 1, 2, 4, 5] (by decide) rfl
      have hP := hP.sub (ws' := [(mo, .inr (13, MF 30 (rf (rs v Q1 o) i br))), (qx, .inl (cB, NN, .inl f)), (Q1.qq, .inl (cI, (8 * Q1.C), .inl Q1.qf)), (Q1.qe, .inl (cL, (3 * Q1.C), .inr (.inl Q1.ef))), (tv, .inr (12, MF 13 (tw V))), (V.au, .inl (cC, V.U, .inl V.un))]) [0, 1, 4, 5, 2, 3] rfl
      have hD := hD.sub (ws' := [(mo, .inr (13, MF 30 (rf (rs v Q1 o) i br))), (qx, .inl (cB, NN, .inl f)), (Q1.qq, .inl (cI, (8 * Q1.C), .inl Q1.qf)), (Q1.qe, .inl (cL, (3 * Q1.C), .inr (.inl Q1.ef))), (tv, .inr (12, MF 13 (tw V))), (V.au, .inl (cC, V.U, .inl V.un))]) [0, 1, 4, 5, 2, 3] (by decide) rfl
      have hr0 : r0 = nI Q.R := hr0
      subst hr0
      have hqb_Q1V : Q1.R ≤ Q1.C ∧ Q1.C ≤ 100000 := ⟨hQk_Q1.2.2.1, hQk_Q1.2.1⟩
      have hfit_Q1V := hG_Q1V.fits
      have hE_Q1 : alr Q V Q1 V 0 Q.R := ⟨fun r9 k9 _ h1 h2 => hA_Q1.2.2.1 _ (by omega), ⟨fun r9 k9 _ h1 h2 => hA_Q1.2.2.2.1.2 _ (by omega), Nat.le_refl _, fun _ _ => rfl⟩⟩
      have hk0_Q1 : Q1.qf (8 * Q.R + 0) = 40 := hA_Q1.2.2.2.2.1
      have hl1_Q1 : Q1.qf (8 * Q.R + 1) = -1 := hA_Q1.2.2.2.2.2 1 (by decide) (by decide)
      have hEx_Q1V : alr Q V Q1 V 0 Q.R := hE_Q1
      refine lv_istore_n (lv' := [(2, .int (nI Q.R)), (1, .int r1), (0, .ref mo)]) hx hb d_Mo_comparable_24 rfl hl (by decide) rfl (fun ls hl => ?_)
      refine lv_aload_n hx hb d_Mo_comparable_25 rfl (lv_at hl 2 rfl) ?_
      refine lv_iload_n hx hb d_Mo_comparable_26 rfl (lv_at hl 0 rfl) ?_
      refine lv_iconst (v := 2) hx hb d_Mo_comparable_27 (by decide) ?_
      refine lv_iconst (v := 0) hx hb d_Mo_comparable_28 (by decide) ?_
      refine W.eq (g2 := F0 m 29 ls [.int 0, .int (nI 2), .int (nI Q.R), .ref mo]) rfl ?_
      have hPc := hP.sub (ws' := [(mo, .inr (13, MF 30 (rf (rs v Q1 o) i br))), (Q1.qq, .inl (cI, (8 * Q1.C), .inl Q1.qf))]) [0, 2] rfl
      have hDc := hD.sub (ws' := [(mo, .inr (13, MF 30 (rf (rs v Q1 o) i br))), (Q1.qq, .inl (cI, (8 * Q1.C), .inl Q1.qf))]) [0, 2] (by decide) rfl
      have hKc := hK.sub (tys' := [(cI, .int)]) [1] rfl
      have hFc := va_free (wc := [(mo, .inr (13, MF 30 (rf (rs v Q1 o) i br))), (Q1.qq, .inl (cI, (8 * Q1.C), .inl Q1.qf))]) hD hS hA [0, 2] rfl
      refine va_callv (va_runV (As := [.int (nI Q.R), .int (nI 2), .int 0]) (rest := []) ⟨hx, hb, hml, hown, hts⟩ (c_Mo_set l dC dI mo H (rf (rs v Q1 o) i br) cI Q1.qq (8 * Q1.C) Q1.qf Q.R 2 0 (by omega) (by omega) ((rf_ne (by decide) (by decide)).trans rs_19)) (cwV 3 hts (gt_V (own := R_Mo) (C := R_Mo) (i := 272) (y := y_Mo_set) i_Mo_set w_1411 w_1413 (gt_sel (y := y_Mo_set) (n := 30) (by decide +kernel)) w_7) rfl rfl rfl (by decide +kernel) ⟨Nat.le_trans (m := 11) (Nat.le_of_ble_eq_true rfl) (Nat.le_add_right 11 (15 + G)), Nat.le_trans (m := 400) (Nat.le_of_ble_eq_true rfl) (Nat.le_add_right 400 (600 + M))⟩) ⟨mp_blind, va_recv hKc hPc (ci := 13) (q0 := 0) rfl rfl, fun U hU hW => ⟨rfl, hU, by rw [hU]; exact hPc, va_K.moved hW.alike hKc, hDc.weaken (fun _ _ _ _ => trivial)⟩⟩ rfl rfl hl.1 rfl (lv_room (Nat.le_of_ble_eq_true rfl)) d_Mo_comparable_29 ⟨hfit_Q1V.1, hfit_Q1V.2⟩) hS (fun q _ h => hFc q h) hFc (fun _u t9 H1 locs ht hvm hw hB hz1 hk1 hS => ?_)
      obtain ⟨hP1, hK1, hD1⟩ := hB
      rw [ht] at hP1
      obtain ⟨hP, hD⟩ := va_join (wr := [(qx, .inl (cB, NN, .inl f)), (Q1.qe, .inl (cL, (3 * Q1.C), .inr (.inl Q1.ef))), (tv, .inr (12, MF 13 (tw V))), (V.au, .inl (cC, V.U, .inl V.un))]) (w1 := [(mo, .inr (13, MF 30 (rf (rs v Q1 o) i br))), (Q1.qq, .inl (cI, (8 * Q1.C), .inl (upd Q1.qf (8 * Q.R + 2) 0)))]) hP hD [0, 2] [1, 3, 4, 5] rfl rfl (by decide) (by decide) hk1 hFc hP1 hD1
      generalize H1 = H at hP hS ⊢
      have hP : va_P (dC, dI) classes [(qx, .inl (cB, NN, .inl f)), (Q1.qe, .inl (cL, (3 * Q1.C), .inr (.inl Q1.ef))), (tv, .inr (12, MF 13 (tw V))), (V.au, .inl (cC, V.U, .inl V.un)), (mo, .inr (13, MF 30 (rf (rs v Q1 o) i br))), (Q1.qq, .inl (cI, (8 * Q1.C), .inl (upd Q1.qf (8 * Q.R + 2) 0)))] H := hP
      have hD : va_D A [(qx, .inl (cB, NN, .inl f)), (Q1.qe, .inl (cL, (3 * Q1.C), .inr (.inl Q1.ef))), (tv, .inr (12, MF 13 (tw V))), (V.au, .inl (cC, V.U, .inl V.un)), (mo, .inr (13, MF 30 (rf (rs v Q1 o) i br))), (Q1.qq, .inl (cI, (8 * Q1.C), .inl (upd Q1.qf (8 * Q.R + 2) 0)))] := hD
      have hP := hP.sub (ws' := [(mo, .inr (13, MF 30 (rf (rs v Q1 o) i br))), (qx, .inl (cB, NN, .inl f)), (Q1.qq, .inl (cI, (8 * Q1.C), .inl (upd Q1.qf (8 * Q.R + 2) 0))), (Q1.qe, .inl (cL, (3 * Q1.C), .inr (.inl Q1.ef))), (tv, .inr (12, MF 13 (tw V))), (V.au, .inl (cC, V.U, .inl V.un))]) [4, 0, 5, 1, 2, 3] rfl
      have hD := hD.sub (ws' := [(mo, .inr (13, MF 30 (rf (rs v Q1 o) i br))), (qx, .inl (cB, NN, .inl f)), (Q1.qq, .inl (cI, (8 * Q1.C), .inl (upd Q1.qf (8 * Q.R + 2) 0))), (Q1.qe, .inl (cL, (3 * Q1.C), .inr (.inl Q1.ef))), (tv, .inr (12, MF 13 (tw V))), (V.au, .inl (cC, V.U, .inl V.un))]) [4, 0, 5, 1, 2, 3] (by decide) rfl
      obtain ⟨Q2, e_Q2⟩ : ∃ z : QS, z = QS.wf Q1 (upd Q1.qf (8 * Q.R + 2) 0) := ⟨_, rfl⟩
      have hP : va_P (dC, dI) classes [(mo, .inr (13, MF 30 (rf (rs v Q2 o) i br))), (qx, .inl (cB, NN, .inl f)), (Q2.qq, .inl (cI, (8 * Q2.C), .inl Q2.qf)), (Q2.qe, .inl (cL, (3 * Q2.C), .inr (.inl Q2.ef))), (tv, .inr (12, MF 13 (tw V))), (V.au, .inl (cC, V.U, .inl V.un))] H := by subst e_Q2; exact hP
      have hD : va_D A [(mo, .inr (13, MF 30 (rf (rs v Q2 o) i br))), (qx, .inl (cB, NN, .inl f)), (Q2.qq, .inl (cI, (8 * Q2.C), .inl Q2.qf)), (Q2.qe, .inl (cL, (3 * Q2.C), .inr (.inl Q2.ef))), (tv, .inr (12, MF 13 (tw V))), (V.au, .inl (cC, V.U, .inl V.un))] := by subst e_Q2; exact hD
      have hf_Q2 : Q2.C = Q1.C ∧ Q2.R = Q1.R ∧ Q2.qf = upd Q1.qf (8 * Q.R + 2) 0 := by rw [e_Q2]; exact ⟨rfl, rfl, rfl⟩
      have he_Q2 : Q2.ef = Q1.ef := by rw [e_Q2]; rfl
      have hQk_Q2 : QOK Q2 := by rw [e_Q2]; exact hQk_Q1
      have hG_Q2V : GQ (Q.R + 8 * (n - i) + 1) (V.us + (n + 12 - i)) Q V Q2 V := by unfold GQ at hG_Q1V ⊢; rw [hf_Q2.1]; exact hG_Q1V
      refine w_same (fun hq => ?_)
      refine w_tight (k := cQ Q V Q2 V) (n := sQ Q V Q2 V) (by unfold cQ sQ at hq ⊢; rw [hf_Q2.1]; exact hq) ?_
      have hR_Q2 := hf_Q2.2.1
      have hqb_Q2V : Q2.R ≤ Q2.C ∧ Q2.C ≤ 100000 := ⟨hQk_Q2.2.2.1, hQk_Q2.2.1⟩
      have hfit_Q2V := hG_Q2V.fits
      have hk0_Q2 : Q2.qf (8 * Q.R + 0) = 40 := by rw [hf_Q2.2.2, pk_un (by omega)]; exact hk0_Q1
      have hl1_Q2 : Q2.qf (8 * Q.R + 1) = -1 := by rw [hf_Q2.2.2, pk_un (by omega)]; exact hl1_Q1
      have hEx_Q2V : alr Q V Q2 V 0 Q.R := hEx_Q1V.tr (alr.upd hf_Q2.2.2 he_Q2 (by decide) (by omega))
      refine lv_aload_n hx hb d_Mo_comparable_32 rfl (lv_at hl 2 rfl) ?_
      refine lv_iload_n hx hb d_Mo_comparable_33 rfl (lv_at hl 0 rfl) ?_
      refine lv_iconst (v := 0) hx hb d_Mo_comparable_34 (by decide) ?_
      have hlt0 : i < n := digH_lt (by rw [← h_r1]; exact h_d1.1 c15)
      refine W.eq (g2 := F0 m 35 ls [.int (nI 0), .int (nI Q.R), .ref mo]) rfl ?_
      have hPc := hP.sub (ws' := [(mo, .inr (13, MF 30 (rf (rs v Q2 o) i br))), (qx, .inl (cB, NN, .inl f)), (Q2.qq, .inl (cI, (8 * Q2.C), .inl Q2.qf)), (Q2.qe, .inl (cL, (3 * Q2.C), .inr (.inl Q2.ef)))]) [0, 1, 2, 3] rfl
      have hDc := hD.sub (ws' := [(mo, .inr (13, MF 30 (rf (rs v Q2 o) i br))), (qx, .inl (cB, NN, .inl f)), (Q2.qq, .inl (cI, (8 * Q2.C), .inl Q2.qf)), (Q2.qe, .inl (cL, (3 * Q2.C), .inr (.inl Q2.ef)))]) [0, 1, 2, 3] (by decide) rfl
      have hKc := hK.sub (tys' := [(cB, .byte), (cI, .int), (cL, .long)]) [0, 1, 2] rfl
      have hFc := va_free (wc := [(mo, .inr (13, MF 30 (rf (rs v Q2 o) i br))), (qx, .inl (cB, NN, .inl f)), (Q2.qq, .inl (cI, (8 * Q2.C), .inl Q2.qf)), (Q2.qe, .inl (cL, (3 * Q2.C), .inr (.inl Q2.ef)))]) hD hS hA [0, 1, 2, 3] rfl
      refine va_calli (va_runV (As := [.int (nI Q.R), .int (nI 0)]) (rest := []) ⟨hx, hb, hml, hown, hts⟩ (c_Mo_whole l dC dI mo H v cB cI cL qx NN f n Q2 o i br Q.R 0 hnN (by omega) (by omega) h6 h8 hQk_Q2 (by omega) (by decide)) (cwV 2 hts (gt_V (own := R_Mo) (C := R_Mo) (i := 303) (y := y_Mo_whole) i_Mo_whole w_1465 w_1467 (gt_sel (y := y_Mo_whole) (n := 30) (by decide +kernel)) w_7) rfl rfl rfl (by decide +kernel) ⟨Nat.le_trans (m := 11) (Nat.le_of_ble_eq_true rfl) (Nat.le_add_right 11 (15 + G)), Nat.le_trans (m := 400) (Nat.le_of_ble_eq_true rfl) (Nat.le_add_right 400 (600 + M))⟩) ⟨mp_blind, va_recv hKc hPc (ci := 13) (q0 := 0) rfl rfl, fun U hU hW => ⟨rfl, hU, by rw [hU]; exact hPc, va_K.moved hW.alike hKc, hDc.weaken (fun _ _ _ _ => trivial)⟩⟩ rfl rfl hl.1 rfl (lv_room (Nat.le_of_ble_eq_true rfl)) d_Mo_comparable_35 ⟨hfit_Q2V.1, hfit_Q2V.2⟩) hS (fun q _ h => hFc q h) hFc (fun r0 ⟨j3, b_j3, qf2, ef2⟩ t9 H1 locs ht hvm hw hB hz1 hk1 hS => ?_)
      obtain ⟨hP1, hK1, hD1⟩ := hB
      rw [ht] at hP1
      obtain ⟨hP, hD⟩ := va_join (wr := [(tv, .inr (12, MF 13 (tw V))), (V.au, .inl (cC, V.U, .inl V.un))]) (w1 := [(mo, .inr (13, MF 30 (rf (rs v Q2 o) j3 b_j3))), (qx, .inl (cB, NN, .inl f)), (Q2.qq, .inl (cI, (8 * Q2.C), .inl qf2)), (Q2.qe, .inl (cL, (3 * Q2.C), .inr (.inl ef2)))]) hP hD [0, 1, 2, 3] [4, 5] rfl rfl (by decide) (by decide) hk1 hFc hP1 hD1
      generalize H1 = H at hP hS ⊢
      have hP : va_P (dC, dI) classes [(tv, .inr (12, MF 13 (tw V))), (V.au, .inl (cC, V.U, .inl V.un)), (mo, .inr (13, MF 30 (rf (rs v Q2 o) j3 b_j3))), (qx, .inl (cB, NN, .inl f)), (Q2.qq, .inl (cI, (8 * Q2.C), .inl qf2)), (Q2.qe, .inl (cL, (3 * Q2.C), .inr (.inl ef2)))] H := hP
      have hD : va_D A [(tv, .inr (12, MF 13 (tw V))), (V.au, .inl (cC, V.U, .inl V.un)), (mo, .inr (13, MF 30 (rf (rs v Q2 o) j3 b_j3))), (qx, .inl (cB, NN, .inl f)), (Q2.qq, .inl (cI, (8 * Q2.C), .inl qf2)), (Q2.qe, .inl (cL, (3 * Q2.C), .inr (.inl ef2)))] := hD
      have hP := hP.sub (ws' := [(mo, .inr (13, MF 30 (rf (rs v Q2 o) j3 b_j3))), (qx, .inl (cB, NN, .inl f)), (Q2.qq, .inl (cI, (8 * Q2.C), .inl qf2)), (Q2.qe, .inl (cL, (3 * Q2.C), .inr (.inl ef2))), (tv, .inr (12, MF 13 (tw V))), (V.au, .inl (cC, V.U, .inl V.un))]) [2, 3, 4, 5, 0, 1] rfl
      have hD := hD.sub (ws' := [(mo, .inr (13, MF 30 (rf (rs v Q2 o) j3 b_j3))), (qx, .inl (cB, NN, .inl f)), (Q2.qq, .inl (cI, (8 * Q2.C), .inl qf2)), (Q2.qe, .inl (cL, (3 * Q2.C), .inr (.inl ef2))), (tv, .inr (12, MF 13 (tw V))), (V.au, .inl (cC, V.U, .inl V.un))]) [2, 3, 4, 5, 0, 1] (by decide) rfl
      rcases hw with ⟨hw1, val_j3, hw2, hw3, hw4, hw5⟩ | ⟨hw1, hw2, hw3, hw4⟩
      · have hw_j3 : whM f n i = some (val_j3, j3) := hw2
        have hw3 : qf2 = upd Q2.qf (8 * Q.R + 2) (Q2.qf (8 * Q.R + 2) ||| 1 <<< (nI 0 &&& 31)) := hw3
        have hw4 : ef2 = vp_updL Q2.ef (3 * Q.R + 0) val_j3 := hw4
        have hn_j3 : j3 ≤ n := hw5
        have hlt_j3 := whM_lt hw_j3
        subst hw1
        obtain ⟨Q3, e_Q3⟩ : ∃ z : QS, z = QS.mk Q2.C Q2.R Q2.qq Q2.qe qf2 ef2 := ⟨_, rfl⟩
        have hP : va_P (dC, dI) classes [(mo, .inr (13, MF 30 (rf (rs v Q3 o) j3 b_j3))), (qx, .inl (cB, NN, .inl f)), (Q3.qq, .inl (cI, (8 * Q3.C), .inl Q3.qf)), (Q3.qe, .inl (cL, (3 * Q3.C), .inr (.inl Q3.ef))), (tv, .inr (12, MF 13 (tw V))), (V.au, .inl (cC, V.U, .inl V.un))] H := by subst e_Q3; exact hP
        have hD : va_D A [(mo, .inr (13, MF 30 (rf (rs v Q3 o) j3 b_j3))), (qx, .inl (cB, NN, .inl f)), (Q3.qq, .inl (cI, (8 * Q3.C), .inl Q3.qf)), (Q3.qe, .inl (cL, (3 * Q3.C), .inr (.inl Q3.ef))), (tv, .inr (12, MF 13 (tw V))), (V.au, .inl (cC, V.U, .inl V.un))] := by subst e_Q3; exact hD
        have hf_Q3 : Q3.C = Q2.C ∧ Q3.R = Q2.R ∧ Q3.qf = qf2 := by rw [e_Q3]; exact ⟨rfl, rfl, rfl⟩
        have he_Q3 : Q3.ef = vp_updL Q2.ef (3 * Q.R + 0) val_j3 := by rw [e_Q3]; exact hw4
        have h2_Q3 : Q3.qf (8 * Q.R + 2) = Q2.qf (8 * Q.R + 2) ||| 1 <<< (nI 0 &&& 31) := by rw [hf_Q3.2.2, hw3]; exact pk_us
        have hev_Q3 : Q3.ef (3 * Q.R + 0) = val_j3 := by rw [he_Q3]; exact updL_s
        have hQk_Q3 : QOK Q3 := by rw [e_Q3, hw4]; exact ⟨hQk_Q2.1, hQk_Q2.2.1, hQk_Q2.2.2.1, QOK_upd hQk_Q2.2.2.2 (whM_gL hw_j3)⟩
        have hG_Q3V : GQ (Q.R + 8 * (n - i) + 1) (V.us + (n + 12 - i)) Q V Q3 V := by unfold GQ at hG_Q2V ⊢; rw [hf_Q3.1]; exact hG_Q2V
        refine w_same (fun hq => ?_)
        refine w_tight (k := cQ Q V Q3 V) (n := sQ Q V Q3 V) (by unfold cQ sQ at hq ⊢; rw [hf_Q3.1]; exact hq) ?_
        have hR_Q3 := hf_Q3.2.1
        have hqb_Q3V : Q3.R ≤ Q3.C ∧ Q3.C ≤ 100000 := ⟨hQk_Q3.2.2.1, hQk_Q3.2.1⟩
        have hfit_Q3V := hG_Q3V.fits
        have hk0_Q3 : Q3.qf (8 * Q.R + 0) = 40 := by rw [hf_Q3.2.2, hw3, pk_un (by omega)]; exact hk0_Q2
        have hl1_Q3 : Q3.qf (8 * Q.R + 1) = -1 := by rw [hf_Q3.2.2, hw3, pk_un (by omega)]; exact hl1_Q2
        have hEx_Q3V : alr Q V Q3 V 0 Q.R := hEx_Q2V.tr (alr_who (hf_Q3.2.2.trans hw3) he_Q3 (by decide) (by omega))
        refine lv_if_eq (tgt := 45) hx hb d_Mo_comparable_38 (by decide) (fun h => absurd h (by decide)) (fun _ => ?_)
        refine lv_iload_n hx hb d_Mo_comparable_41 rfl (lv_at hl 0 rfl) ?_
        refine lv_goto (tgt := 46) hx hb d_Mo_comparable_42 (by decide) ?_
        have hfin : cmP f n ok (orL f n) (cmL f n) (qyL f n) i = some (j3, litO (3, val_j3, [])) := by rw [cmP_40 (Or.inr (by rw [← h_r1]; exact h_d1.1 c15)), hw_j3]; rfl
        have hCF : CMPf O C Y Q3 V Q.R Q3.R Q.R (litO (3, val_j3, [])) := ⟨by omega, by omega, Or.inl ⟨hk0_Q3, by rw [hev_Q3]⟩⟩
        refine w_same (fun hq => ?_)
        refine W.widen (k := kcap Q (Q.R + 8 * (n - i) + 1) + qcap V (V.us + (n + 12 - i))) (n := 22 * kcap Q (Q.R + 8 * (n - i) + 1) + 2 * qcap V (V.us + (n + 12 - i))) hfit_Q3V.1 hfit_Q3V.2 ?_
        have hPo : QPo n i 1 Q V (Q3, V, j3, b_j3, o) := ⟨hQk_Q3, hG_Q3V, ⟨[], TX.rf hTk_V, Nat.zero_le _⟩, by show Q.R ≤ Q3.R; omega, by show Q3.R ≤ Q.R + 8 * (n - i) + 1; omega⟩
        exact W.iret (v := nI Q.R) hx hb hr (fun t9 ht hW => ⟨⟨nI Q.R, (Q3, V, j3, b_j3, o), rfl, ⟨hPo, Or.inl ⟨Q.R, litO (3, val_j3, []), rfl, hfin, hCF, by show Q.R < Q3.R; omega, hEx_Q3V, by show Q3.R + 8 * i + 6 ≤ Q.R + 8 * j3; omega, by show V.us + i ≤ V.us + j3; omega, by show j3 ≤ n; omega, by show Q.R < Q3.R; omega, rfl⟩⟩, ⟨by rw [ht]; exact hP, va_K.moved hW.alike hK, hD⟩, by rw [ht]; exact hq⟩, hS.F ht⟩) hS.2.2 d_Mo_comparable_46
      · have hw_j3 : whM f n i = none := hw2
        have hw3 : qf2 = Q2.qf := hw3
        have hw4 : ef2 = Q2.ef := hw4
        subst hw1
        subst hw3
        subst hw4
        have hP : va_P (dC, dI) classes [(mo, .inr (13, MF 30 (rf (rs v Q2 o) j3 b_j3))), (qx, .inl (cB, NN, .inl f)), (Q2.qq, .inl (cI, (8 * Q2.C), .inl Q2.qf)), (Q2.qe, .inl (cL, (3 * Q2.C), .inr (.inl Q2.ef))), (tv, .inr (12, MF 13 (tw V))), (V.au, .inl (cC, V.U, .inl V.un))] H := hP
        have hD : va_D A [(mo, .inr (13, MF 30 (rf (rs v Q2 o) j3 b_j3))), (qx, .inl (cB, NN, .inl f)), (Q2.qq, .inl (cI, (8 * Q2.C), .inl Q2.qf)), (Q2.qe, .inl (cL, (3 * Q2.C), .inr (.inl Q2.ef))), (tv, .inr (12, MF 13 (tw V))), (V.au, .inl (cC, V.U, .inl V.un))] := hD
        refine lv_if_eq (tgt := 45) hx hb d_Mo_comparable_38 (by decide) (fun _ => ?_) (fun h => absurd (by decide) h)
        refine lv_iconst (v := (-1)) hx hb d_Mo_comparable_45 (by decide) ?_
        have hfin : cmP f n ok (orL f n) (cmL f n) (qyL f n) i = none := by rw [cmP_40 (Or.inr (by rw [← h_r1]; exact h_d1.1 c15)), hw_j3]; rfl
        refine w_same (fun hq => ?_)
        refine W.widen (k := kcap Q (Q.R + 8 * (n - i) + 1) + qcap V (V.us + (n + 12 - i))) (n := 22 * kcap Q (Q.R + 8 * (n - i) + 1) + 2 * qcap V (V.us + (n + 12 - i))) hfit_Q2V.1 hfit_Q2V.2 ?_
        have hPo : QPo n i 1 Q V (Q2, V, j3, b_j3, o) := ⟨hQk_Q2, hG_Q2V, ⟨[], TX.rf hTk_V, Nat.zero_le _⟩, by show Q.R ≤ Q2.R; omega, by show Q2.R ≤ Q.R + 8 * (n - i) + 1; omega⟩
        exact W.iret (v := -1) hx hb hr (fun t9 ht hW => ⟨⟨-1, (Q2, V, j3, b_j3, o), rfl, ⟨hPo, Or.inr ⟨rfl, hfin⟩⟩, ⟨by rw [ht]; exact hP, va_K.moved hW.alike hK, hD⟩, by rw [ht]; exact hq⟩, hS.F ht⟩) hS.2.2 d_Mo_comparable_46
