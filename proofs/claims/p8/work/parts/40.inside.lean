theorem w_1047 : (.fieldLink "QueryBenchModel" 89 "QueryBenchModel$Tree" "nameStarts" "[I" : Cond) ∈ gtbl := gt_in 1047 (by decide +kernel) (by decide +kernel)
theorem w_1049 : (.fieldLink "QueryBenchModel" 92 "QueryBenchModel$Tree" "nameLengths" "[I" : Cond) ∈ gtbl := gt_in 1049 (by decide +kernel) (by decide +kernel)
theorem w_1058 : (.fieldLink "QueryBenchModel" 204 "QueryBenchModel$Tree" "used" "I" : Cond) ∈ gtbl := gt_in 1058 (by decide +kernel) (by decide +kernel)
theorem w_1225 : (.methodLink "QueryBenchModel" 221 ⟨"QueryBenchModel", "value", "(LQueryBenchModel$Tree;I)I"⟩ : Cond) ∈ gtbl := gt_in 1225 (by decide +kernel) (by decide +kernel)
theorem w_1227 : (.instanceMethod ⟨"QueryBenchModel", "value", "(LQueryBenchModel$Tree;I)I"⟩ : Cond) ∈ gtbl := gt_in 1227 (by decide +kernel) (by decide +kernel)
theorem w_1229 : (.methodLink "QueryBenchModel" 184 ⟨"QueryBenchModel", "blanks", "()V"⟩ : Cond) ∈ gtbl := gt_in 1229 (by decide +kernel) (by decide +kernel)
theorem w_1231 : (.instanceMethod ⟨"QueryBenchModel", "blanks", "()V"⟩ : Cond) ∈ gtbl := gt_in 1231 (by decide +kernel) (by decide +kernel)
theorem w_1261 : (.methodLink "QueryBenchModel" 200 ⟨"QueryBenchModel", "quoted", "(ILQueryBenchModel$Tree;)Z"⟩ : Cond) ∈ gtbl := gt_in 1261 (by decide +kernel) (by decide +kernel)
theorem w_1263 : (.instanceMethod ⟨"QueryBenchModel", "quoted", "(ILQueryBenchModel$Tree;)Z"⟩ : Cond) ∈ gtbl := gt_in 1263 (by decide +kernel) (by decide +kernel)
theorem w_1350 : (.methodLink "QueryBenchModel" 95 ⟨"QueryBenchModel$Tree", "find", "(ILQueryBenchModel$Tree;II)I"⟩ : Cond) ∈ gtbl := gt_in 1350 (by decide +kernel) (by decide +kernel)
theorem w_1351 : (.instanceMethod ⟨"QueryBenchModel$Tree", "find", "(ILQueryBenchModel$Tree;II)I"⟩ : Cond) ∈ gtbl := gt_in 1351 (by decide +kernel) (by decide +kernel)
theorem w_1352 : (.selects "QueryBenchModel$Tree" ⟨"QueryBenchModel$Tree", "find", "(ILQueryBenchModel$Tree;II)I"⟩ ⟨"QueryBenchModel$Tree", "find", "(ILQueryBenchModel$Tree;II)I"⟩ : Cond) ∈ gtbl := gt_in 1352 (by decide +kernel) (by decide +kernel)
theorem w_1358 : (.methodLink "QueryBenchModel" 225 ⟨"QueryBenchModel$Tree", "insert", "(III)V"⟩ : Cond) ∈ gtbl := gt_in 1358 (by decide +kernel) (by decide +kernel)
theorem w_1359 : (.instanceMethod ⟨"QueryBenchModel$Tree", "insert", "(III)V"⟩ : Cond) ∈ gtbl := gt_in 1359 (by decide +kernel) (by decide +kernel)
theorem w_1360 : (.selects "QueryBenchModel$Tree" ⟨"QueryBenchModel$Tree", "insert", "(III)V"⟩ ⟨"QueryBenchModel$Tree", "insert", "(III)V"⟩ : Cond) ∈ gtbl := gt_in 1360 (by decide +kernel) (by decide +kernel)
def ncap (T : TS) (B : Nat) : Nat := max T.N (2 * B) - T.N
/-- how far a tree may have grown when the text has been read from i on -/
def GB (BN BU : Nat) (T T2 : TS) : Prop := T.N ≤ T2.N ∧ T2.N ≤ max T.N (2 * BN) ∧ T.U ≤ T2.U ∧ T2.U ≤ max T.U (2 * BU)
def cE (T T2 : TS) : Nat := T2.N - T.N + (T2.U - T.U)
def sE (T T2 : TS) : Nat := 20 * (T2.N - T.N) + 2 * (T2.U - T.U)
theorem GB.rf {BN BU : Nat} {T : TS} : GB BN BU T T := ⟨Nat.le_refl _, Nat.le_max_left _ _, Nat.le_refl _, Nat.le_max_left _ _⟩
theorem cE_rf {T : TS} : cE T T = 0 ∧ sE T T = 0 := by unfold cE sE; omega
theorem GB.fits {BN BU : Nat} {T T2 : TS} (h : GB BN BU T T2) : cE T T2 ≤ ncap T BN + qcap T BU ∧ sE T T2 ≤ 20 * ncap T BN + 2 * qcap T BU := by
  obtain ⟨h1, h2, h3, h4⟩ := h
  unfold cE sE ncap qcap
  constructor <;> omega
theorem GB.step {BN BU B2 C2 : Nat} {T T2 : TS} (h : GB BN BU T T2) (hB : B2 ≤ BN) (hC : C2 ≤ BU) : cE T T2 + (ncap T2 B2 + qcap T2 C2) ≤ ncap T BN + qcap T BU ∧ sE T T2 + (20 * ncap T2 B2 + 2 * qcap T2 C2) ≤ 20 * ncap T BN + 2 * qcap T BU := by
  obtain ⟨h1, h2, h3, h4⟩ := h
  have e1 : T2.N - T.N + ncap T2 B2 ≤ ncap T BN := by unfold ncap; omega
  have e2 : T2.U - T.U + qcap T2 C2 ≤ qcap T BU := by unfold qcap; omega
  unfold cE sE
  constructor <;> omega
theorem GB.stepQ {BN BU C2 : Nat} {T T2 : TS} (h : GB BN BU T T2) (hC : C2 ≤ BU) : cE T T2 + qcap T2 C2 ≤ ncap T BN + qcap T BU ∧ sE T T2 + 2 * qcap T2 C2 ≤ 20 * ncap T BN + 2 * qcap T BU := by
  have := h.step (B2 := 0) (C2 := C2) (Nat.zero_le _) hC
  omega
theorem GB.tr {BN BU B2 C2 : Nat} {T T2 T3 : TS} (h : GB BN BU T T2) (g : GB B2 C2 T2 T3) (hB : B2 ≤ BN) (hC : C2 ≤ BU) : GB BN BU T T3 ∧ cE T T2 + cE T2 T3 ≤ cE T T3 ∧ sE T T2 + sE T2 T3 ≤ sE T T3 := by
  obtain ⟨h1, h2, h3, h4⟩ := h
  obtain ⟨g1, g2, g3, g4⟩ := g
  refine ⟨⟨by omega, by omega, by omega, by omega⟩, ?_, ?_⟩
  · unfold cE; omega
  · unfold sE; omega
theorem TX.gb {T T2 : TS} {us : List Int32} (h : TX T T2 us) : GB 0 (T.us + us.length) T T2 ∧ T2.U - T.U = cE T T2 ∧ 2 * (T2.U - T.U) = sE T T2 := by
  have h1 := h.alk.2.2
  have h2 := h.U
  refine ⟨⟨by omega, by omega, by omega, by omega⟩, ?_, ?_⟩
  · unfold cE; omega
  · unfold sE; omega
theorem TAd.gb {T T2 : TS} {k : Int32} (h : TAd T T2 k) (hT : TOK T) (hc : T.ct ≤ 400000) : GB (T.ct + 1) 0 T T2 ∧ adC T ≤ cE T T2 ∧ adS T ≤ sE T T2 := by
  obtain ⟨h1, h2, h3, h4, h5, h6, h7, h8⟩ := h.ok hT hc
  refine ⟨⟨by omega, by omega, by omega, by omega⟩, ?_, ?_⟩
  · unfold cE; omega
  · unfold sE; omega
theorem TAd.fit {BN BU : Nat} {T T1 : TS} (h : GB BN BU T T1) (hT : TOK T1) (hB : T1.ct + 1 ≤ BN) : cE T T1 + adC T1 ≤ ncap T BN + qcap T BU ∧ sE T T1 + adS T1 ≤ 20 * ncap T BN + 2 * qcap T BU := by
  obtain ⟨a1, a2, a3, a4, a5, a6, a7⟩ := hT
  have h9 := h.step (B2 := T1.ct + 1) (C2 := 0) hB (Nat.zero_le _)
  have e1 : adC T1 ≤ ncap T1 (T1.ct + 1) := by unfold adC ncap; split <;> omega
  have e2 : adS T1 ≤ 20 * ncap T1 (T1.ct + 1) := by unfold adS ncap; split <;> omega
  omega
theorem skipH_n {f : Nat → Int32} {n i : Nat} (h : i ≤ n) : i ≤ skipH f n i ∧ skipH f n i ≤ n := by
  have := skipH_le f n i
  omega
def TG (n i : Nat) (T T2 : TS) : Prop := TOK T2 ∧ GB (T.ct + (n + 12 - i)) (T.us + (n + 12 - i)) T T2
def VPost (f : Nat → Int32) (n r : Nat) (T : TS) (i : Nat) (res : Int32) (u : TS × Nat × Int32) : Prop := TG n i T u.1 ∧ ((∃ x, res = nI T.ct ∧ pV f n r i = some (x, u.2.1) ∧ RepV u.1 r T.ct u.1.ct x ∧ TE T u.1 ∧ u.1.pa T.ct = -1 ∧ T.ct < u.1.ct ∧ u.1.ct + i ≤ T.ct + u.2.1 ∧ u.1.us + i ≤ T.us + u.2.1 ∧ u.2.1 ≤ n) ∨ (res = -1 ∧ pV f n r i = none))
/-- all but the members of nd is as it was -/
def TB (T T2 : TS) (nd : Nat) : Prop := T.ct ≤ T2.ct ∧ alk T T2 (fun j => j < T.ct ∧ j ≠ nd) ∧ alkU T T2 ∧ T2.kd nd = T.kd nd ∧ T2.nu nd = T.nu nd ∧ T2.st nd = T.st nd ∧ T2.ln nd = T.ln nd ∧ T2.nx nd = T.nx nd ∧ T2.ns nd = T.ns nd ∧ T2.nl nd = T.nl nd ∧ T2.pa nd = T.pa nd
def IPost (f : Nat → Int32) (n r : Nat) (op : Int32) (T : TS) (nd i : Nat) (res : Int32) (u : TS × Nat × Int32) : Prop := TG n (i + 1) T u.1 ∧ ((res = 1 ∧ ∃ ks, pInside f n (pV f n r) op i = some (ks, u.2.1) ∧ RepK (RepV u.1 r) u.1 (op = 123) nd u.1.ct (-1) T.ct (u.1.ki nd) ks ∧ TB T u.1 nd ∧ u.1.ct + (i + 1) ≤ T.ct + u.2.1 ∧ u.1.us + (i + 1) ≤ T.us + u.2.1 ∧ u.2.1 ≤ n) ∨ (res = 0 ∧ pInside f n (pV f n r) op i = none))
theorem TB.rf {T : TS} {nd : Nat} : TB T T nd := ⟨Nat.le_refl _, fun _ _ => ⟨rfl, rfl, rfl, rfl, rfl, rfl, rfl, rfl, rfl⟩, ⟨Nat.le_refl _, fun _ _ => rfl⟩, rfl, rfl, rfl, rfl, rfl, rfl, rfl, rfl⟩
theorem TB.te {T T2 T3 : TS} {nd : Nat} (h : TB T T2 nd) (hn : nd < T.ct) (h2 : TE T2 T3) : TB T T3 nd := by
  obtain ⟨a1, a2, a3, a4, a5, a6, a7, a8, a9, a10, a11⟩ := h
  obtain ⟨b1, b2, b3⟩ := h2
  obtain ⟨c1, c2, c3, c4, c5, c6, c7, c8, c9⟩ := b2 nd (by omega)
  exact ⟨by omega, a2.trans (b2.mono (fun j hj => by omega)), a3.trans b3, c1.trans a4, c2.trans a5, c3.trans a6, c4.trans a7, c6.trans a8, c7.trans a9, c8.trans a10, c9.trans a11⟩
theorem TB.ins {T T2 T3 : TS} {nd kid : Nat} (h : TB T T2 nd) (hn : nd < T.ct) (hk : T.ct ≤ kid) (hu : alkU T2 T3) (hct : T3.ct = T2.ct) (hkd : T3.kd = T2.kd) (hnu : T3.nu = T2.nu) (hst : T3.st = T2.st) (hln : T3.ln = T2.ln) (hns : ∀ j, j ≠ kid → T3.ns j = T2.ns j) (hnl : ∀ j, j ≠ kid → T3.nl j = T2.nl j) (hpa : ∀ j, j ≠ kid → T3.pa j = T2.pa j) (hki : ∀ j, j ≠ nd → T3.ki j = T2.ki j) (hnx : ∀ j, j < T.ct → T3.nx j = T2.nx j) : TB T T3 nd := by
  obtain ⟨a1, a2, a3, a4, a5, a6, a7, a8, a9, a10, a11⟩ := h
  refine ⟨by omega, fun j hj => ?_, a3.trans hu, by rw [hkd]; exact a4, by rw [hnu]; exact a5, by rw [hst]; exact a6, by rw [hln]; exact a7, (hnx _ hn).trans a8, (hns _ (by omega)).trans a9, (hnl _ (by omega)).trans a10, (hpa _ (by omega)).trans a11⟩
  obtain ⟨c1, c2, c3, c4, c5, c6, c7, c8, c9⟩ := a2 j hj
  exact ⟨by rw [hkd]; exact c1, by rw [hnu]; exact c2, by rw [hst]; exact c3, by rw [hln]; exact c4, (hki _ hj.2).trans c5, (hnx _ hj.1).trans c6, (hns _ (by omega)).trans c7, (hnl _ (by omega)).trans c8, (hpa _ (by omega)).trans c9⟩
section
variable {β : Type} {f : Nat → Int32} {n m i j j2 : Nat} {pv : Nat → Option (β × Nat)} {op : Int32} {acc : List (List Int32 × β)} {nm : List Int32} {x : β}
theorem pIn_step (h1 : pNam f n op (acc.map (·.1)) i = some (nm, j)) (h2 : pv j = some (x, j2)) (h3 : ¬ hereV f n j2 = clo op) (h4 : hereV f n j2 = 44) : pIn f n pv op (m + 1) i acc = pIn f n pv op m (j2 + 1) (acc ++ [(nm, x)]) := by
  simp only [pIn, h1, h2]
  rw [if_neg h3, if_pos h4]
theorem pIn_end (h1 : pNam f n op (acc.map (·.1)) i = some (nm, j)) (h2 : pv j = some (x, j2)) (h3 : hereV f n j2 = clo op) : pIn f n pv op (m + 1) i acc = some (acc ++ [(nm, x)], j2 + 1) := by
  simp only [pIn, h1, h2]
  rw [if_pos h3]
theorem pIn_bad (h1 : pNam f n op (acc.map (·.1)) i = some (nm, j)) (h2 : pv j = some (x, j2)) (h3 : ¬ hereV f n j2 = clo op) (h4 : ¬ hereV f n j2 = 44) : pIn f n pv op (m + 1) i acc = none := by
  simp only [pIn, h1, h2]
  rw [if_neg h3, if_neg h4]
theorem pIn_v (h1 : pNam f n op (acc.map (·.1)) i = some (nm, j)) (h2 : pv j = none) : pIn f n pv op (m + 1) i acc = none := by
  simp only [pIn, h1, h2]
theorem pIn_n (h1 : pNam f n op (acc.map (·.1)) i = none) : pIn f n pv op (m + 1) i acc = none := by
  simp only [pIn, h1]
end
section
variable {f : Nat → Int32} {n i : Nat} {nms : List (List Int32)}
theorem pNam_91 : pNam f n 91 nms i = some ([], i) := by unfold pNam; rw [if_pos rfl]
theorem pNam_n1 (h : ¬ hereV f n (skipH f n i) = 34) : pNam f n 123 nms i = none := by unfold pNam; rw [if_neg (by decide), if_pos h]
theorem pNam_n2 (h1 : hereV f n (skipH f n i) = 34) (h : qtQ f n 34 (skipH f n i) = none) : pNam f n 123 nms i = none := by unfold pNam; rw [if_neg (by decide), if_neg (fun q => q h1), h]
theorem pNam_n3 {p : List Int32 × Nat} (h1 : hereV f n (skipH f n i) = 34) (h : qtQ f n 34 (skipH f n i) = some p) (h3 : p.1.map c16 ∈ nms) : pNam f n 123 nms i = none := by unfold pNam; rw [if_neg (by decide), if_neg (fun q => q h1), h]; simp only []; rw [if_pos h3]
theorem pNam_n4 {p : List Int32 × Nat} (h1 : hereV f n (skipH f n i) = 34) (h : qtQ f n 34 (skipH f n i) = some p) (h3 : ¬ p.1.map c16 ∈ nms) (h4 : ¬ hereV f n (skipH f n p.2) = 58) : pNam f n 123 nms i = none := by unfold pNam; rw [if_neg (by decide), if_neg (fun q => q h1), h]; simp only []; rw [if_neg h3, if_pos h4]
theorem pNam_ok {p : List Int32 × Nat} (h1 : hereV f n (skipH f n i) = 34) (h : qtQ f n 34 (skipH f n i) = some p) (h3 : ¬ p.1.map c16 ∈ nms) (h4 : hereV f n (skipH f n p.2) = 58) : pNam f n 123 nms i = some (p.1.map c16, skipH f n p.2 + 1) := by unfold pNam; rw [if_neg (by decide), if_neg (fun q => q h1), h]; simp only []; rw [if_neg h3, if_neg (fun q => q h4)]
end
theorem nI_asub (a b : Nat) : nI (a + b) - nI a = nI b := by
  rw [← nI_add, Int32.add_comm, Int32.add_sub_cancel]
theorem here_in {f : Nat → Int32} {n i : Nat} {c : Int32} (h : hereV f n i = c) (hc : 0 ≤ c) : i < n := Classical.byContradiction (fun hn => by
  unfold hereV at h
  rw [if_neg hn] at h
  rw [← h] at hc
  revert hc
  decide)
abbrev b_Mo_value : ByteArray := prog_14_method_22_code
def y_Mo_value : MethodName := ⟨"QueryBenchModel", "value", "(LQueryBenchModel$Tree;I)I"⟩
abbrev k_Mo_value : Cond := .code y_Mo_value b_Mo_value 5 (some .int)
theorem i_Mo_value : k_Mo_value ∈ gtbl := gt_in 1228 (by decide +kernel) (by decide +kernel)
theorem d_Mo_value_0 : decode b_Mo_value 0 = .ok (.aload_n 0, 1) := by decide +kernel
theorem d_Mo_value_1 : decode b_Mo_value 1 = .ok (.invokevirtual 184, 3) := by decide +kernel
theorem d_Mo_value_4 : decode b_Mo_value 4 = .ok (.aload_n 0, 1) := by decide +kernel
theorem d_Mo_value_5 : decode b_Mo_value 5 = .ok (.invokevirtual 147, 3) := by decide +kernel
theorem d_Mo_value_8 : decode b_Mo_value 8 = .ok (.istore_n 3, 1) := by decide +kernel
theorem d_Mo_value_9 : decode b_Mo_value 9 = .ok (.iload_n 3, 1) := by decide +kernel
theorem d_Mo_value_10 : decode b_Mo_value 10 = .ok (.bipush 110, 2) := by decide +kernel
theorem d_Mo_value_12 : decode b_Mo_value 12 = .ok (.if_icmp .eq 15, 3) := by decide +kernel
theorem d_Mo_value_15 : decode b_Mo_value 15 = .ok (.iload_n 3, 1) := by decide +kernel
theorem d_Mo_value_16 : decode b_Mo_value 16 = .ok (.bipush 116, 2) := by decide +kernel
theorem d_Mo_value_18 : decode b_Mo_value 18 = .ok (.if_icmp .eq 9, 3) := by decide +kernel
theorem d_Mo_value_21 : decode b_Mo_value 21 = .ok (.iload_n 3, 1) := by decide +kernel
theorem d_Mo_value_22 : decode b_Mo_value 22 = .ok (.bipush 102, 2) := by decide +kernel
theorem d_Mo_value_24 : decode b_Mo_value 24 = .ok (.if_icmp .ne 66, 3) := by decide +kernel
theorem d_Mo_value_27 : decode b_Mo_value 27 = .ok (.aload_n 0, 1) := by decide +kernel
theorem d_Mo_value_28 : decode b_Mo_value 28 = .ok (.iload_n 3, 1) := by decide +kernel
theorem d_Mo_value_29 : decode b_Mo_value 29 = .ok (.bipush 110, 2) := by decide +kernel
theorem d_Mo_value_31 : decode b_Mo_value 31 = .ok (.if_icmp .ne 8, 3) := by decide +kernel
theorem d_Mo_value_34 : decode b_Mo_value 34 = .ok (.ldc 187, 2) := by decide +kernel
theorem d_Mo_value_36 : decode b_Mo_value 36 = .ok (.goto 16, 3) := by decide +kernel
theorem d_Mo_value_39 : decode b_Mo_value 39 = .ok (.iload_n 3, 1) := by decide +kernel
theorem d_Mo_value_40 : decode b_Mo_value 40 = .ok (.bipush 116, 2) := by decide +kernel
theorem d_Mo_value_42 : decode b_Mo_value 42 = .ok (.if_icmp .ne 8, 3) := by decide +kernel
theorem d_Mo_value_45 : decode b_Mo_value 45 = .ok (.ldc 189, 2) := by decide +kernel
theorem d_Mo_value_47 : decode b_Mo_value 47 = .ok (.goto 5, 3) := by decide +kernel
theorem d_Mo_value_50 : decode b_Mo_value 50 = .ok (.ldc 191, 2) := by decide +kernel
theorem d_Mo_value_52 : decode b_Mo_value 52 = .ok (.invokevirtual 193, 3) := by decide +kernel
theorem d_Mo_value_55 : decode b_Mo_value 55 = .ok (.ifCond .ne 5, 3) := by decide +kernel
theorem d_Mo_value_58 : decode b_Mo_value 58 = .ok (.iconst (-1), 1) := by decide +kernel
theorem d_Mo_value_59 : decode b_Mo_value 59 = .ok (.ireturn, 1) := by decide +kernel
theorem d_Mo_value_60 : decode b_Mo_value 60 = .ok (.aload_n 1, 1) := by decide +kernel
theorem d_Mo_value_61 : decode b_Mo_value 61 = .ok (.iload_n 3, 1) := by decide +kernel
theorem d_Mo_value_62 : decode b_Mo_value 62 = .ok (.bipush 110, 2) := by decide +kernel
theorem d_Mo_value_64 : decode b_Mo_value 64 = .ok (.if_icmp .ne 7, 3) := by decide +kernel
theorem d_Mo_value_67 : decode b_Mo_value 67 = .ok (.iconst 0, 1) := by decide +kernel
theorem d_Mo_value_68 : decode b_Mo_value 68 = .ok (.goto 14, 3) := by decide +kernel
theorem d_Mo_value_71 : decode b_Mo_value 71 = .ok (.iload_n 3, 1) := by decide +kernel
theorem d_Mo_value_72 : decode b_Mo_value 72 = .ok (.bipush 116, 2) := by decide +kernel
theorem d_Mo_value_74 : decode b_Mo_value 74 = .ok (.if_icmp .ne 7, 3) := by decide +kernel
theorem d_Mo_value_77 : decode b_Mo_value 77 = .ok (.iconst 1, 1) := by decide +kernel
theorem d_Mo_value_78 : decode b_Mo_value 78 = .ok (.goto 4, 3) := by decide +kernel
theorem d_Mo_value_81 : decode b_Mo_value 81 = .ok (.iconst 2, 1) := by decide +kernel
theorem d_Mo_value_82 : decode b_Mo_value 82 = .ok (.invokevirtual 197, 3) := by decide +kernel
theorem d_Mo_value_85 : decode b_Mo_value 85 = .ok (.istore 4, 2) := by decide +kernel
theorem d_Mo_value_87 : decode b_Mo_value 87 = .ok (.goto 166, 3) := by decide +kernel
theorem d_Mo_value_90 : decode b_Mo_value 90 = .ok (.iload_n 3, 1) := by decide +kernel
theorem d_Mo_value_91 : decode b_Mo_value 91 = .ok (.bipush 34, 2) := by decide +kernel
theorem d_Mo_value_93 : decode b_Mo_value 93 = .ok (.if_icmp .ne 44, 3) := by decide +kernel
theorem d_Mo_value_96 : decode b_Mo_value 96 = .ok (.aload_n 1, 1) := by decide +kernel
theorem d_Mo_value_97 : decode b_Mo_value 97 = .ok (.iconst 4, 1) := by decide +kernel
theorem d_Mo_value_98 : decode b_Mo_value 98 = .ok (.invokevirtual 197, 3) := by decide +kernel
theorem d_Mo_value_101 : decode b_Mo_value 101 = .ok (.istore 4, 2) := by decide +kernel
theorem d_Mo_value_103 : decode b_Mo_value 103 = .ok (.aload_n 0, 1) := by decide +kernel
theorem d_Mo_value_104 : decode b_Mo_value 104 = .ok (.bipush 34, 2) := by decide +kernel
theorem d_Mo_value_106 : decode b_Mo_value 106 = .ok (.aload_n 1, 1) := by decide +kernel
theorem d_Mo_value_107 : decode b_Mo_value 107 = .ok (.invokevirtual 200, 3) := by decide +kernel
theorem d_Mo_value_110 : decode b_Mo_value 110 = .ok (.ifCond .ne 5, 3) := by decide +kernel
theorem d_Mo_value_113 : decode b_Mo_value 113 = .ok (.iconst (-1), 1) := by decide +kernel
theorem d_Mo_value_114 : decode b_Mo_value 114 = .ok (.ireturn, 1) := by decide +kernel
theorem d_Mo_value_115 : decode b_Mo_value 115 = .ok (.aload_n 1, 1) := by decide +kernel
theorem d_Mo_value_116 : decode b_Mo_value 116 = .ok (.getfield 106, 3) := by decide +kernel
theorem d_Mo_value_119 : decode b_Mo_value 119 = .ok (.iload 4, 2) := by decide +kernel
theorem d_Mo_value_121 : decode b_Mo_value 121 = .ok (.aload_n 1, 1) := by decide +kernel
theorem d_Mo_value_122 : decode b_Mo_value 122 = .ok (.getfield 204, 3) := by decide +kernel
theorem d_Mo_value_125 : decode b_Mo_value 125 = .ok (.aload_n 1, 1) := by decide +kernel
theorem d_Mo_value_126 : decode b_Mo_value 126 = .ok (.getfield 103, 3) := by decide +kernel
theorem d_Mo_value_129 : decode b_Mo_value 129 = .ok (.iload 4, 2) := by decide +kernel
theorem d_Mo_value_131 : decode b_Mo_value 131 = .ok (.iaload, 1) := by decide +kernel
theorem d_Mo_value_132 : decode b_Mo_value 132 = .ok (.isub, 1) := by decide +kernel
theorem d_Mo_value_133 : decode b_Mo_value 133 = .ok (.iastore, 1) := by decide +kernel
theorem d_Mo_value_134 : decode b_Mo_value 134 = .ok (.goto 119, 3) := by decide +kernel
theorem d_Mo_value_137 : decode b_Mo_value 137 = .ok (.iload_n 3, 1) := by decide +kernel
theorem d_Mo_value_138 : decode b_Mo_value 138 = .ok (.bipush 45, 2) := by decide +kernel
theorem d_Mo_value_140 : decode b_Mo_value 140 = .ok (.if_icmp .eq 10, 3) := by decide +kernel
theorem d_Mo_value_143 : decode b_Mo_value 143 = .ok (.iload_n 3, 1) := by decide +kernel
theorem d_Mo_value_144 : decode b_Mo_value 144 = .ok (.invokestatic 166, 3) := by decide +kernel
theorem d_Mo_value_147 : decode b_Mo_value 147 = .ok (.ifCond .eq 22, 3) := by decide +kernel
theorem d_Mo_value_150 : decode b_Mo_value 150 = .ok (.aload_n 1, 1) := by decide +kernel
theorem d_Mo_value_151 : decode b_Mo_value 151 = .ok (.iconst 3, 1) := by decide +kernel
theorem d_Mo_value_152 : decode b_Mo_value 152 = .ok (.invokevirtual 197, 3) := by decide +kernel
theorem d_Mo_value_155 : decode b_Mo_value 155 = .ok (.istore 4, 2) := by decide +kernel
theorem d_Mo_value_157 : decode b_Mo_value 157 = .ok (.aload_n 0, 1) := by decide +kernel
theorem d_Mo_value_158 : decode b_Mo_value 158 = .ok (.aload_n 1, 1) := by decide +kernel
theorem d_Mo_value_159 : decode b_Mo_value 159 = .ok (.iload 4, 2) := by decide +kernel
theorem d_Mo_value_161 : decode b_Mo_value 161 = .ok (.invokevirtual 207, 3) := by decide +kernel
theorem d_Mo_value_164 : decode b_Mo_value 164 = .ok (.ifCond .ne 89, 3) := by decide +kernel
theorem d_Mo_value_167 : decode b_Mo_value 167 = .ok (.iconst (-1), 1) := by decide +kernel
theorem d_Mo_value_168 : decode b_Mo_value 168 = .ok (.ireturn, 1) := by decide +kernel
theorem d_Mo_value_169 : decode b_Mo_value 169 = .ok (.iload_n 3, 1) := by decide +kernel
theorem d_Mo_value_170 : decode b_Mo_value 170 = .ok (.bipush 91, 2) := by decide +kernel
theorem d_Mo_value_172 : decode b_Mo_value 172 = .ok (.if_icmp .eq 9, 3) := by decide +kernel
theorem d_Mo_value_175 : decode b_Mo_value 175 = .ok (.iload_n 3, 1) := by decide +kernel
theorem d_Mo_value_176 : decode b_Mo_value 176 = .ok (.bipush 123, 2) := by decide +kernel
theorem d_Mo_value_178 : decode b_Mo_value 178 = .ok (.if_icmp .ne 64, 3) := by decide +kernel
theorem d_Mo_value_181 : decode b_Mo_value 181 = .ok (.iload_n 2, 1) := by decide +kernel
theorem d_Mo_value_182 : decode b_Mo_value 182 = .ok (.bipush 32, 2) := by decide +kernel
theorem d_Mo_value_184 : decode b_Mo_value 184 = .ok (.if_icmp .ne 14, 3) := by decide +kernel
theorem d_Mo_value_187 : decode b_Mo_value 187 = .ok (.aload_n 0, 1) := by decide +kernel
theorem d_Mo_value_188 : decode b_Mo_value 188 = .ok (.aload_n 0, 1) := by decide +kernel
theorem d_Mo_value_189 : decode b_Mo_value 189 = .ok (.getfield 135, 3) := by decide +kernel
theorem d_Mo_value_192 : decode b_Mo_value 192 = .ok (.invokevirtual 151, 3) := by decide +kernel
theorem d_Mo_value_195 : decode b_Mo_value 195 = .ok (.pop, 1) := by decide +kernel
theorem d_Mo_value_196 : decode b_Mo_value 196 = .ok (.iconst (-1), 1) := by decide +kernel
theorem d_Mo_value_197 : decode b_Mo_value 197 = .ok (.ireturn, 1) := by decide +kernel
theorem d_Mo_value_198 : decode b_Mo_value 198 = .ok (.aload_n 1, 1) := by decide +kernel
theorem d_Mo_value_199 : decode b_Mo_value 199 = .ok (.iload_n 3, 1) := by decide +kernel
theorem d_Mo_value_200 : decode b_Mo_value 200 = .ok (.bipush 91, 2) := by decide +kernel
theorem d_Mo_value_202 : decode b_Mo_value 202 = .ok (.if_icmp .ne 7, 3) := by decide +kernel
theorem d_Mo_value_205 : decode b_Mo_value 205 = .ok (.iconst 5, 1) := by decide +kernel
theorem d_Mo_value_206 : decode b_Mo_value 206 = .ok (.goto 5, 3) := by decide +kernel
theorem d_Mo_value_209 : decode b_Mo_value 209 = .ok (.bipush 6, 2) := by decide +kernel
theorem d_Mo_value_211 : decode b_Mo_value 211 = .ok (.invokevirtual 197, 3) := by decide +kernel
theorem d_Mo_value_214 : decode b_Mo_value 214 = .ok (.istore 4, 2) := by decide +kernel
theorem d_Mo_value_216 : decode b_Mo_value 216 = .ok (.aload_n 0, 1) := by decide +kernel
theorem d_Mo_value_217 : decode b_Mo_value 217 = .ok (.aload_n 1, 1) := by decide +kernel
theorem d_Mo_value_218 : decode b_Mo_value 218 = .ok (.iload 4, 2) := by decide +kernel
theorem d_Mo_value_220 : decode b_Mo_value 220 = .ok (.iload_n 2, 1) := by decide +kernel
theorem d_Mo_value_221 : decode b_Mo_value 221 = .ok (.iload_n 3, 1) := by decide +kernel
theorem d_Mo_value_222 : decode b_Mo_value 222 = .ok (.bipush 91, 2) := by decide +kernel
theorem d_Mo_value_224 : decode b_Mo_value 224 = .ok (.if_icmp .ne 8, 3) := by decide +kernel
theorem d_Mo_value_227 : decode b_Mo_value 227 = .ok (.bipush 93, 2) := by decide +kernel
theorem d_Mo_value_229 : decode b_Mo_value 229 = .ok (.goto 5, 3) := by decide +kernel
theorem d_Mo_value_232 : decode b_Mo_value 232 = .ok (.bipush 125, 2) := by decide +kernel
theorem d_Mo_value_234 : decode b_Mo_value 234 = .ok (.invokevirtual 211, 3) := by decide +kernel
theorem d_Mo_value_237 : decode b_Mo_value 237 = .ok (.ifCond .ne 16, 3) := by decide +kernel
theorem d_Mo_value_240 : decode b_Mo_value 240 = .ok (.iconst (-1), 1) := by decide +kernel
theorem d_Mo_value_241 : decode b_Mo_value 241 = .ok (.ireturn, 1) := by decide +kernel
theorem d_Mo_value_242 : decode b_Mo_value 242 = .ok (.aload_n 0, 1) := by decide +kernel
theorem d_Mo_value_243 : decode b_Mo_value 243 = .ok (.aload_n 0, 1) := by decide +kernel
theorem d_Mo_value_244 : decode b_Mo_value 244 = .ok (.getfield 135, 3) := by decide +kernel
theorem d_Mo_value_247 : decode b_Mo_value 247 = .ok (.invokevirtual 151, 3) := by decide +kernel
theorem d_Mo_value_250 : decode b_Mo_value 250 = .ok (.pop, 1) := by decide +kernel
theorem d_Mo_value_251 : decode b_Mo_value 251 = .ok (.iconst (-1), 1) := by decide +kernel
theorem d_Mo_value_252 : decode b_Mo_value 252 = .ok (.ireturn, 1) := by decide +kernel
theorem d_Mo_value_253 : decode b_Mo_value 253 = .ok (.aload_n 0, 1) := by decide +kernel
theorem d_Mo_value_254 : decode b_Mo_value 254 = .ok (.invokevirtual 184, 3) := by decide +kernel
theorem d_Mo_value_257 : decode b_Mo_value 257 = .ok (.iload 4, 2) := by decide +kernel
theorem d_Mo_value_259 : decode b_Mo_value 259 = .ok (.ireturn, 1) := by decide +kernel
abbrev b_Mo_inside : ByteArray := prog_14_method_24_code
def y_Mo_inside : MethodName := ⟨"QueryBenchModel", "inside", "(LQueryBenchModel$Tree;III)Z"⟩
abbrev k_Mo_inside : Cond := .code y_Mo_inside b_Mo_inside 9 (some .boolean)
theorem i_Mo_inside : k_Mo_inside ∈ gtbl := gt_in 1349 (by decide +kernel) (by decide +kernel)
theorem d_Mo_inside_0 : decode b_Mo_inside 0 = .ok (.aload_n 0, 1) := by decide +kernel
theorem d_Mo_inside_1 : decode b_Mo_inside 1 = .ok (.dup, 1) := by decide +kernel
theorem d_Mo_inside_2 : decode b_Mo_inside 2 = .ok (.getfield 135, 3) := by decide +kernel
theorem d_Mo_inside_5 : decode b_Mo_inside 5 = .ok (.iconst 1, 1) := by decide +kernel
theorem d_Mo_inside_6 : decode b_Mo_inside 6 = .ok (.iadd, 1) := by decide +kernel
theorem d_Mo_inside_7 : decode b_Mo_inside 7 = .ok (.putfield 135, 3) := by decide +kernel
theorem d_Mo_inside_10 : decode b_Mo_inside 10 = .ok (.aload_n 0, 1) := by decide +kernel
theorem d_Mo_inside_11 : decode b_Mo_inside 11 = .ok (.invokevirtual 184, 3) := by decide +kernel
theorem d_Mo_inside_14 : decode b_Mo_inside 14 = .ok (.aload_n 0, 1) := by decide +kernel
theorem d_Mo_inside_15 : decode b_Mo_inside 15 = .ok (.invokevirtual 147, 3) := by decide +kernel
theorem d_Mo_inside_18 : decode b_Mo_inside 18 = .ok (.iload 4, 2) := by decide +kernel
theorem d_Mo_inside_20 : decode b_Mo_inside 20 = .ok (.if_icmp .ne 15, 3) := by decide +kernel
theorem d_Mo_inside_23 : decode b_Mo_inside 23 = .ok (.aload_n 0, 1) := by decide +kernel
theorem d_Mo_inside_24 : decode b_Mo_inside 24 = .ok (.dup, 1) := by decide +kernel
theorem d_Mo_inside_25 : decode b_Mo_inside 25 = .ok (.getfield 135, 3) := by decide +kernel
theorem d_Mo_inside_28 : decode b_Mo_inside 28 = .ok (.iconst 1, 1) := by decide +kernel
theorem d_Mo_inside_29 : decode b_Mo_inside 29 = .ok (.iadd, 1) := by decide +kernel
theorem d_Mo_inside_30 : decode b_Mo_inside 30 = .ok (.putfield 135, 3) := by decide +kernel
theorem d_Mo_inside_33 : decode b_Mo_inside 33 = .ok (.iconst 1, 1) := by decide +kernel
theorem d_Mo_inside_34 : decode b_Mo_inside 34 = .ok (.ireturn, 1) := by decide +kernel
theorem d_Mo_inside_35 : decode b_Mo_inside 35 = .ok (.iconst (-1), 1) := by decide +kernel
theorem d_Mo_inside_36 : decode b_Mo_inside 36 = .ok (.istore 5, 2) := by decide +kernel
theorem d_Mo_inside_38 : decode b_Mo_inside 38 = .ok (.iconst 0, 1) := by decide +kernel
theorem d_Mo_inside_39 : decode b_Mo_inside 39 = .ok (.istore 6, 2) := by decide +kernel
theorem d_Mo_inside_41 : decode b_Mo_inside 41 = .ok (.iconst 0, 1) := by decide +kernel
theorem d_Mo_inside_42 : decode b_Mo_inside 42 = .ok (.istore 7, 2) := by decide +kernel
theorem d_Mo_inside_44 : decode b_Mo_inside 44 = .ok (.iload 4, 2) := by decide +kernel
theorem d_Mo_inside_46 : decode b_Mo_inside 46 = .ok (.bipush 125, 2) := by decide +kernel
theorem d_Mo_inside_48 : decode b_Mo_inside 48 = .ok (.if_icmp .ne 93, 3) := by decide +kernel
theorem d_Mo_inside_51 : decode b_Mo_inside 51 = .ok (.aload_n 0, 1) := by decide +kernel
theorem d_Mo_inside_52 : decode b_Mo_inside 52 = .ok (.invokevirtual 184, 3) := by decide +kernel
theorem d_Mo_inside_55 : decode b_Mo_inside 55 = .ok (.aload_n 0, 1) := by decide +kernel
theorem d_Mo_inside_56 : decode b_Mo_inside 56 = .ok (.getfield 135, 3) := by decide +kernel
theorem d_Mo_inside_59 : decode b_Mo_inside 59 = .ok (.istore 8, 2) := by decide +kernel
theorem d_Mo_inside_61 : decode b_Mo_inside 61 = .ok (.aload_n 0, 1) := by decide +kernel
theorem d_Mo_inside_62 : decode b_Mo_inside 62 = .ok (.invokevirtual 147, 3) := by decide +kernel
theorem d_Mo_inside_65 : decode b_Mo_inside 65 = .ok (.bipush 34, 2) := by decide +kernel
theorem d_Mo_inside_67 : decode b_Mo_inside 67 = .ok (.if_icmp .eq 12, 3) := by decide +kernel
theorem d_Mo_inside_70 : decode b_Mo_inside 70 = .ok (.aload_n 0, 1) := by decide +kernel
theorem d_Mo_inside_71 : decode b_Mo_inside 71 = .ok (.aload_n 0, 1) := by decide +kernel
theorem d_Mo_inside_72 : decode b_Mo_inside 72 = .ok (.getfield 135, 3) := by decide +kernel
theorem d_Mo_inside_75 : decode b_Mo_inside 75 = .ok (.invokevirtual 151, 3) := by decide +kernel
theorem d_Mo_inside_78 : decode b_Mo_inside 78 = .ok (.ireturn, 1) := by decide +kernel
theorem d_Mo_inside_79 : decode b_Mo_inside 79 = .ok (.aload_n 1, 1) := by decide +kernel
theorem d_Mo_inside_80 : decode b_Mo_inside 80 = .ok (.getfield 204, 3) := by decide +kernel
theorem d_Mo_inside_83 : decode b_Mo_inside 83 = .ok (.istore 6, 2) := by decide +kernel
theorem d_Mo_inside_85 : decode b_Mo_inside 85 = .ok (.aload_n 0, 1) := by decide +kernel
theorem d_Mo_inside_86 : decode b_Mo_inside 86 = .ok (.bipush 34, 2) := by decide +kernel
theorem d_Mo_inside_88 : decode b_Mo_inside 88 = .ok (.aload_n 1, 1) := by decide +kernel
theorem d_Mo_inside_89 : decode b_Mo_inside 89 = .ok (.invokevirtual 200, 3) := by decide +kernel
theorem d_Mo_inside_92 : decode b_Mo_inside 92 = .ok (.ifCond .ne 5, 3) := by decide +kernel
theorem d_Mo_inside_95 : decode b_Mo_inside 95 = .ok (.iconst 0, 1) := by decide +kernel
theorem d_Mo_inside_96 : decode b_Mo_inside 96 = .ok (.ireturn, 1) := by decide +kernel
theorem d_Mo_inside_97 : decode b_Mo_inside 97 = .ok (.aload_n 1, 1) := by decide +kernel
theorem d_Mo_inside_98 : decode b_Mo_inside 98 = .ok (.getfield 204, 3) := by decide +kernel
theorem d_Mo_inside_101 : decode b_Mo_inside 101 = .ok (.iload 6, 2) := by decide +kernel
theorem d_Mo_inside_103 : decode b_Mo_inside 103 = .ok (.isub, 1) := by decide +kernel
theorem d_Mo_inside_104 : decode b_Mo_inside 104 = .ok (.istore 7, 2) := by decide +kernel
theorem d_Mo_inside_106 : decode b_Mo_inside 106 = .ok (.aload_n 1, 1) := by decide +kernel
theorem d_Mo_inside_107 : decode b_Mo_inside 107 = .ok (.iload_n 2, 1) := by decide +kernel
theorem d_Mo_inside_108 : decode b_Mo_inside 108 = .ok (.aload_n 1, 1) := by decide +kernel
theorem d_Mo_inside_109 : decode b_Mo_inside 109 = .ok (.iload 6, 2) := by decide +kernel
theorem d_Mo_inside_111 : decode b_Mo_inside 111 = .ok (.iload 7, 2) := by decide +kernel
theorem d_Mo_inside_113 : decode b_Mo_inside 113 = .ok (.invokevirtual 95, 3) := by decide +kernel
theorem d_Mo_inside_116 : decode b_Mo_inside 116 = .ok (.ifCond .lt 10, 3) := by decide +kernel
theorem d_Mo_inside_119 : decode b_Mo_inside 119 = .ok (.aload_n 0, 1) := by decide +kernel
theorem d_Mo_inside_120 : decode b_Mo_inside 120 = .ok (.iload 8, 2) := by decide +kernel
theorem d_Mo_inside_122 : decode b_Mo_inside 122 = .ok (.invokevirtual 151, 3) := by decide +kernel
theorem d_Mo_inside_125 : decode b_Mo_inside 125 = .ok (.ireturn, 1) := by decide +kernel
theorem d_Mo_inside_126 : decode b_Mo_inside 126 = .ok (.aload_n 0, 1) := by decide +kernel
theorem d_Mo_inside_127 : decode b_Mo_inside 127 = .ok (.invokevirtual 184, 3) := by decide +kernel
theorem d_Mo_inside_130 : decode b_Mo_inside 130 = .ok (.aload_n 0, 1) := by decide +kernel
theorem d_Mo_inside_131 : decode b_Mo_inside 131 = .ok (.bipush 58, 2) := by decide +kernel
theorem d_Mo_inside_133 : decode b_Mo_inside 133 = .ok (.invokevirtual 163, 3) := by decide +kernel
theorem d_Mo_inside_136 : decode b_Mo_inside 136 = .ok (.ifCond .ne 5, 3) := by decide +kernel
theorem d_Mo_inside_139 : decode b_Mo_inside 139 = .ok (.iconst 0, 1) := by decide +kernel
theorem d_Mo_inside_140 : decode b_Mo_inside 140 = .ok (.ireturn, 1) := by decide +kernel
theorem d_Mo_inside_141 : decode b_Mo_inside 141 = .ok (.aload_n 0, 1) := by decide +kernel
theorem d_Mo_inside_142 : decode b_Mo_inside 142 = .ok (.aload_n 1, 1) := by decide +kernel
theorem d_Mo_inside_143 : decode b_Mo_inside 143 = .ok (.iload_n 3, 1) := by decide +kernel
theorem d_Mo_inside_144 : decode b_Mo_inside 144 = .ok (.iconst 1, 1) := by decide +kernel
theorem d_Mo_inside_145 : decode b_Mo_inside 145 = .ok (.iadd, 1) := by decide +kernel
theorem d_Mo_inside_146 : decode b_Mo_inside 146 = .ok (.invokevirtual 221, 3) := by decide +kernel
theorem d_Mo_inside_149 : decode b_Mo_inside 149 = .ok (.istore 8, 2) := by decide +kernel
theorem d_Mo_inside_151 : decode b_Mo_inside 151 = .ok (.iload 8, 2) := by decide +kernel
theorem d_Mo_inside_153 : decode b_Mo_inside 153 = .ok (.ifCond .ge 5, 3) := by decide +kernel
theorem d_Mo_inside_156 : decode b_Mo_inside 156 = .ok (.iconst 0, 1) := by decide +kernel
theorem d_Mo_inside_157 : decode b_Mo_inside 157 = .ok (.ireturn, 1) := by decide +kernel
theorem d_Mo_inside_158 : decode b_Mo_inside 158 = .ok (.iload 4, 2) := by decide +kernel
theorem d_Mo_inside_160 : decode b_Mo_inside 160 = .ok (.bipush 125, 2) := by decide +kernel
theorem d_Mo_inside_162 : decode b_Mo_inside 162 = .ok (.if_icmp .ne 21, 3) := by decide +kernel
theorem d_Mo_inside_165 : decode b_Mo_inside 165 = .ok (.aload_n 1, 1) := by decide +kernel
theorem d_Mo_inside_166 : decode b_Mo_inside 166 = .ok (.getfield 89, 3) := by decide +kernel
theorem d_Mo_inside_169 : decode b_Mo_inside 169 = .ok (.iload 8, 2) := by decide +kernel
theorem d_Mo_inside_171 : decode b_Mo_inside 171 = .ok (.iload 6, 2) := by decide +kernel
theorem d_Mo_inside_173 : decode b_Mo_inside 173 = .ok (.iastore, 1) := by decide +kernel
theorem d_Mo_inside_174 : decode b_Mo_inside 174 = .ok (.aload_n 1, 1) := by decide +kernel
theorem d_Mo_inside_175 : decode b_Mo_inside 175 = .ok (.getfield 92, 3) := by decide +kernel
theorem d_Mo_inside_178 : decode b_Mo_inside 178 = .ok (.iload 8, 2) := by decide +kernel
theorem d_Mo_inside_180 : decode b_Mo_inside 180 = .ok (.iload 7, 2) := by decide +kernel
theorem d_Mo_inside_182 : decode b_Mo_inside 182 = .ok (.iastore, 1) := by decide +kernel
theorem d_Mo_inside_183 : decode b_Mo_inside 183 = .ok (.aload_n 1, 1) := by decide +kernel
theorem d_Mo_inside_184 : decode b_Mo_inside 184 = .ok (.iload_n 2, 1) := by decide +kernel
theorem d_Mo_inside_185 : decode b_Mo_inside 185 = .ok (.iload 5, 2) := by decide +kernel
theorem d_Mo_inside_187 : decode b_Mo_inside 187 = .ok (.iload 8, 2) := by decide +kernel
theorem d_Mo_inside_189 : decode b_Mo_inside 189 = .ok (.invokevirtual 225, 3) := by decide +kernel
theorem d_Mo_inside_192 : decode b_Mo_inside 192 = .ok (.iload 8, 2) := by decide +kernel
theorem d_Mo_inside_194 : decode b_Mo_inside 194 = .ok (.istore 5, 2) := by decide +kernel
theorem d_Mo_inside_196 : decode b_Mo_inside 196 = .ok (.aload_n 0, 1) := by decide +kernel
theorem d_Mo_inside_197 : decode b_Mo_inside 197 = .ok (.invokevirtual 147, 3) := by decide +kernel
theorem d_Mo_inside_200 : decode b_Mo_inside 200 = .ok (.iload 4, 2) := by decide +kernel
theorem d_Mo_inside_202 : decode b_Mo_inside 202 = .ok (.if_icmp .ne 15, 3) := by decide +kernel
theorem d_Mo_inside_205 : decode b_Mo_inside 205 = .ok (.aload_n 0, 1) := by decide +kernel
theorem d_Mo_inside_206 : decode b_Mo_inside 206 = .ok (.dup, 1) := by decide +kernel
theorem d_Mo_inside_207 : decode b_Mo_inside 207 = .ok (.getfield 135, 3) := by decide +kernel
theorem d_Mo_inside_210 : decode b_Mo_inside 210 = .ok (.iconst 1, 1) := by decide +kernel
theorem d_Mo_inside_211 : decode b_Mo_inside 211 = .ok (.iadd, 1) := by decide +kernel
theorem d_Mo_inside_212 : decode b_Mo_inside 212 = .ok (.putfield 135, 3) := by decide +kernel
theorem d_Mo_inside_215 : decode b_Mo_inside 215 = .ok (.iconst 1, 1) := by decide +kernel
theorem d_Mo_inside_216 : decode b_Mo_inside 216 = .ok (.ireturn, 1) := by decide +kernel
theorem d_Mo_inside_217 : decode b_Mo_inside 217 = .ok (.aload_n 0, 1) := by decide +kernel
theorem d_Mo_inside_218 : decode b_Mo_inside 218 = .ok (.bipush 44, 2) := by decide +kernel
theorem d_Mo_inside_220 : decode b_Mo_inside 220 = .ok (.invokevirtual 163, 3) := by decide +kernel
theorem d_Mo_inside_223 : decode b_Mo_inside 223 = .ok (.ifCond .ne 5, 3) := by decide +kernel
theorem d_Mo_inside_226 : decode b_Mo_inside 226 = .ok (.iconst 0, 1) := by decide +kernel
theorem d_Mo_inside_227 : decode b_Mo_inside 227 = .ok (.ireturn, 1) := by decide +kernel
theorem d_Mo_inside_228 : decode b_Mo_inside 228 = .ok (.goto (-190), 3) := by decide +kernel
/-- what value does, at most r deep -/
def VC (r : Nat) : Prop := ∀ (l : Launch) (dC : Nat → ClassId) (dI : Nat → Nat → Nat) (mo : Nat) (sz : Heap) (v : Nat → Value) (cB cI cL cC : ClassId) (qx NN : Nat) (f : Nat → Int32) (n : Nat) (K : Nat → Nat × Nat) (t : Nat) (T : TS) (i : Nat) (br : Int32), n ≤ NN → NN ≤ 100000 → i ≤ n → v 6 = .ref qx → v 8 = .int (nI n) → TOK T → T.us + (n + 12 - i) ≤ 400000 → T.ct + (n + 12 - i) ≤ 400000 → Met l y_Mo_value (k_Mo_value :: gtbl) ({ frames := 8 + 2 * r, cells := ncap T (T.ct + (n + 12 - i)) + qcap T (T.us + (n + 12 - i)), slots := 20 * ncap T (T.ct + (n + 12 - i)) + 2 * qcap T (T.us + (n + 12 - i)), locals := 300 + 80 * r }) (va_Pc [.ref mo, .ref t, .int (nI (32 - r))] (me K dC dI [(mo, .inr (13, MF 30 (rf v i br))), (qx, .inl (cB, NN, .inl f)), (t, .inr (12, MF 13 (tw T))), (T.a0, .inl (cI, T.N, .inl T.kd)), (T.a1, .inl (cL, T.N, .inr (.inl T.nu))), (T.a2, .inl (cI, T.N, .inl T.st)), (T.a3, .inl (cI, T.N, .inl T.ln)), (T.a4, .inl (cI, T.N, .inl T.ki)), (T.a5, .inl (cI, T.N, .inl T.nx)), (T.a6, .inl (cI, T.N, .inl T.ns)), (T.a7, .inl (cI, T.N, .inl T.nl)), (T.a8, .inl (cI, T.N, .inl T.pa)), (T.a9, .inl (cI, T.N, .inl T.pl)), (T.au, .inl (cC, T.U, .inl T.un))] [(cB, .byte), (cI, .int), (cL, .long), (cC, .char)] sz)) (va_Qi (fun (res : Int32) (u : TS × Nat × Int32) => VPost f n r T i res u) (fun u t9 => mz dC dI [(mo, .inr (13, MF 30 (rf v u.2.1 u.2.2))), (qx, .inl (cB, NN, .inl f)), (t, .inr (12, MF 13 (tw u.1))), (u.1.a0, .inl (cI, u.1.N, .inl u.1.kd)), (u.1.a1, .inl (cL, u.1.N, .inr (.inl u.1.nu))), (u.1.a2, .inl (cI, u.1.N, .inl u.1.st)), (u.1.a3, .inl (cI, u.1.N, .inl u.1.ln)), (u.1.a4, .inl (cI, u.1.N, .inl u.1.ki)), (u.1.a5, .inl (cI, u.1.N, .inl u.1.nx)), (u.1.a6, .inl (cI, u.1.N, .inl u.1.ns)), (u.1.a7, .inl (cI, u.1.N, .inl u.1.nl)), (u.1.a8, .inl (cI, u.1.N, .inl u.1.pa)), (u.1.a9, .inl (cI, u.1.N, .inl u.1.pl)), (u.1.au, .inl (cC, u.1.U, .inl u.1.un))] [(cB, .byte), (cI, .int), (cL, .long), (cC, .char)] (va_A [(mo, .inr (13, MF 30 (rf v i br))), (qx, .inl (cB, NN, .inl f)), (t, .inr (12, MF 13 (tw T))), (T.a0, .inl (cI, T.N, .inl T.kd)), (T.a1, .inl (cL, T.N, .inr (.inl T.nu))), (T.a2, .inl (cI, T.N, .inl T.st)), (T.a3, .inl (cI, T.N, .inl T.ln)), (T.a4, .inl (cI, T.N, .inl T.ki)), (T.a5, .inl (cI, T.N, .inl T.nx)), (T.a6, .inl (cI, T.N, .inl T.ns)), (T.a7, .inl (cI, T.N, .inl T.nl)), (T.a8, .inl (cI, T.N, .inl T.pa)), (T.a9, .inl (cI, T.N, .inl T.pl)), (T.au, .inl (cC, T.U, .inl T.un))] sz.size) t9 ∧ szk sz t9.heap (cE T u.1) (sE T u.1)) (va_A [(mo, .inr (13, MF 30 (rf v i br))), (qx, .inl (cB, NN, .inl f)), (t, .inr (12, MF 13 (tw T))), (T.a0, .inl (cI, T.N, .inl T.kd)), (T.a1, .inl (cL, T.N, .inr (.inl T.nu))), (T.a2, .inl (cI, T.N, .inl T.st)), (T.a3, .inl (cI, T.N, .inl T.ln)), (T.a4, .inl (cI, T.N, .inl T.ki)), (T.a5, .inl (cI, T.N, .inl T.nx)), (T.a6, .inl (cI, T.N, .inl T.ns)), (T.a7, .inl (cI, T.N, .inl T.nl)), (T.a8, .inl (cI, T.N, .inl T.pa)), (T.a9, .inl (cI, T.N, .inl T.pl)), (T.au, .inl (cC, T.U, .inl T.un))] sz.size)) (ncap T (T.ct + (n + 12 - i)) + qcap T (T.us + (n + 12 - i))) (20 * ncap T (T.ct + (n + 12 - i)) + 2 * qcap T (T.us + (n + 12 - i))) (va_A [(mo, .inr (13, MF 30 (rf v i br))), (qx, .inl (cB, NN, .inl f)), (t, .inr (12, MF 13 (tw T))), (T.a0, .inl (cI, T.N, .inl T.kd)), (T.a1, .inl (cL, T.N, .inr (.inl T.nu))), (T.a2, .inl (cI, T.N, .inl T.st)), (T.a3, .inl (cI, T.N, .inl T.ln)), (T.a4, .inl (cI, T.N, .inl T.ki)), (T.a5, .inl (cI, T.N, .inl T.nx)), (T.a6, .inl (cI, T.N, .inl T.ns)), (T.a7, .inl (cI, T.N, .inl T.nl)), (T.a8, .inl (cI, T.N, .inl T.pa)), (T.a9, .inl (cI, T.N, .inl T.pl)), (T.au, .inl (cC, T.U, .inl T.un))] sz.size)
/-- what inside does, its members at most r deep -/
def IC (r : Nat) (op : Int32) : Prop := ∀ (l : Launch) (dC : Nat → ClassId) (dI : Nat → Nat → Nat) (mo : Nat) (sz : Heap) (v : Nat → Value) (cB cI cL cC : ClassId) (qx NN : Nat) (f : Nat → Int32) (n : Nat) (K : Nat → Nat × Nat) (t : Nat) (T : TS) (i : Nat) (br : Int32) (nd : Nat), n ≤ NN → NN ≤ 100000 → i < n → v 6 = .ref qx → v 8 = .int (nI n) → TOK T → T.us + (n + 12 - (i + 1)) ≤ 400000 → T.ct + (n + 12 - (i + 1)) ≤ 400000 → nd < T.ct → T.ki nd = -1 → Met l y_Mo_inside (k_Mo_inside :: gtbl) ({ frames := 9 + 2 * r, cells := ncap T (T.ct + (n + 12 - (i + 1))) + qcap T (T.us + (n + 12 - (i + 1))), slots := 20 * ncap T (T.ct + (n + 12 - (i + 1))) + 2 * qcap T (T.us + (n + 12 - (i + 1))), locals := 330 + 80 * r }) (va_Pc [.ref mo, .ref t, .int (nI nd), .int (nI (31 - r)), .int (clo op)] (me K dC dI [(mo, .inr (13, MF 30 (rf v i br))), (qx, .inl (cB, NN, .inl f)), (t, .inr (12, MF 13 (tw T))), (T.a0, .inl (cI, T.N, .inl T.kd)), (T.a1, .inl (cL, T.N, .inr (.inl T.nu))), (T.a2, .inl (cI, T.N, .inl T.st)), (T.a3, .inl (cI, T.N, .inl T.ln)), (T.a4, .inl (cI, T.N, .inl T.ki)), (T.a5, .inl (cI, T.N, .inl T.nx)), (T.a6, .inl (cI, T.N, .inl T.ns)), (T.a7, .inl (cI, T.N, .inl T.nl)), (T.a8, .inl (cI, T.N, .inl T.pa)), (T.a9, .inl (cI, T.N, .inl T.pl)), (T.au, .inl (cC, T.U, .inl T.un))] [(cB, .byte), (cI, .int), (cL, .long), (cC, .char)] sz)) (va_Qi (fun (res : Int32) (u : TS × Nat × Int32) => IPost f n r op T nd i res u) (fun u t9 => mz dC dI [(mo, .inr (13, MF 30 (rf v u.2.1 u.2.2))), (qx, .inl (cB, NN, .inl f)), (t, .inr (12, MF 13 (tw u.1))), (u.1.a0, .inl (cI, u.1.N, .inl u.1.kd)), (u.1.a1, .inl (cL, u.1.N, .inr (.inl u.1.nu))), (u.1.a2, .inl (cI, u.1.N, .inl u.1.st)), (u.1.a3, .inl (cI, u.1.N, .inl u.1.ln)), (u.1.a4, .inl (cI, u.1.N, .inl u.1.ki)), (u.1.a5, .inl (cI, u.1.N, .inl u.1.nx)), (u.1.a6, .inl (cI, u.1.N, .inl u.1.ns)), (u.1.a7, .inl (cI, u.1.N, .inl u.1.nl)), (u.1.a8, .inl (cI, u.1.N, .inl u.1.pa)), (u.1.a9, .inl (cI, u.1.N, .inl u.1.pl)), (u.1.au, .inl (cC, u.1.U, .inl u.1.un))] [(cB, .byte), (cI, .int), (cL, .long), (cC, .char)] (va_A [(mo, .inr (13, MF 30 (rf v i br))), (qx, .inl (cB, NN, .inl f)), (t, .inr (12, MF 13 (tw T))), (T.a0, .inl (cI, T.N, .inl T.kd)), (T.a1, .inl (cL, T.N, .inr (.inl T.nu))), (T.a2, .inl (cI, T.N, .inl T.st)), (T.a3, .inl (cI, T.N, .inl T.ln)), (T.a4, .inl (cI, T.N, .inl T.ki)), (T.a5, .inl (cI, T.N, .inl T.nx)), (T.a6, .inl (cI, T.N, .inl T.ns)), (T.a7, .inl (cI, T.N, .inl T.nl)), (T.a8, .inl (cI, T.N, .inl T.pa)), (T.a9, .inl (cI, T.N, .inl T.pl)), (T.au, .inl (cC, T.U, .inl T.un))] sz.size) t9 ∧ szk sz t9.heap (cE T u.1) (sE T u.1)) (va_A [(mo, .inr (13, MF 30 (rf v i br))), (qx, .inl (cB, NN, .inl f)), (t, .inr (12, MF 13 (tw T))), (T.a0, .inl (cI, T.N, .inl T.kd)), (T.a1, .inl (cL, T.N, .inr (.inl T.nu))), (T.a2, .inl (cI, T.N, .inl T.st)), (T.a3, .inl (cI, T.N, .inl T.ln)), (T.a4, .inl (cI, T.N, .inl T.ki)), (T.a5, .inl (cI, T.N, .inl T.nx)), (T.a6, .inl (cI, T.N, .inl T.ns)), (T.a7, .inl (cI, T.N, .inl T.nl)), (T.a8, .inl (cI, T.N, .inl T.pa)), (T.a9, .inl (cI, T.N, .inl T.pl)), (T.au, .inl (cC, T.U, .inl T.un))] sz.size)) (ncap T (T.ct + (n + 12 - (i + 1))) + qcap T (T.us + (n + 12 - (i + 1)))) (20 * ncap T (T.ct + (n + 12 - (i + 1))) + 2 * qcap T (T.us + (n + 12 - (i + 1)))) (va_A [(mo, .inr (13, MF 30 (rf v i br))), (qx, .inl (cB, NN, .inl f)), (t, .inr (12, MF 13 (tw T))), (T.a0, .inl (cI, T.N, .inl T.kd)), (T.a1, .inl (cL, T.N, .inr (.inl T.nu))), (T.a2, .inl (cI, T.N, .inl T.st)), (T.a3, .inl (cI, T.N, .inl T.ln)), (T.a4, .inl (cI, T.N, .inl T.ki)), (T.a5, .inl (cI, T.N, .inl T.nx)), (T.a6, .inl (cI, T.N, .inl T.ns)), (T.a7, .inl (cI, T.N, .inl T.nl)), (T.a8, .inl (cI, T.N, .inl T.pa)), (T.a9, .inl (cI, T.N, .inl T.pl)), (T.au, .inl (cC, T.U, .inl T.un))] sz.size)
theorem chn_lt {nx : Nat → Int32} {N : Nat} : ∀ {ks : List Nat} {k : Int32}, chn nx N ks k → ∀ a, a ∈ ks → a < N
  | [], _, _, a, ha => absurd ha (by simp)
  | b :: r, _, h, a, ha => by
    rcases List.mem_cons.mp ha with h1 | h1
    · rw [h1]; exact h.2.1
    · exact chn_lt h.2.2 a h1
set_option maxHeartbeats 4000000 in
set_option maxRecDepth 100000 in
/-- the reference: inside, of a row -/
theorem c_insideA (r : Nat) (hr32 : r ≤ 31) (hVC : VC r) : IC r 91 := by
  intro l dC dI mo sz v cB cI cL cC qx NN f n K t T i br nd hnN hNN hi0 h6 h8 hT hcu hcc hnd hki0
  rw [show clo 91 = 93 from by decide]
  refine Met.ofW (cc := b_Mo_inside) (maxL := 9) (ret := (some .boolean)) (by decide) rfl ?_
  intro p e s m args below meth c s₁ B hml hv
  obtain ⟨rfl, ⟨hsz, hP, hK, hD0⟩, hM⟩ := hv
  have hx := B.exec
  have hb := B.bytes
  have hr := B.returns
  have hts0 := atoms_spec (ws := k_Mo_inside :: gtbl) B.pre
  have hts := fun w h => hts0 w (List.mem_cons_of_mem _ h)
  have hown : s.vm.findClass R_Mo = some m.cls := findClass_of_methodNamed B.named
  have hlocks := B.notSynchronized
  subst hsz
  have hD := hD0.self (sz := s.heap.size)
  generalize hAe : va_A [(mo, .inr (13, MF 30 (rf v i br))), (qx, .inl (cB, NN, .inl f)), (t, .inr (12, MF 13 (tw T))), (T.a0, .inl (cI, T.N, .inl T.kd)), (T.a1, .inl (cL, T.N, .inr (.inl T.nu))), (T.a2, .inl (cI, T.N, .inl T.st)), (T.a3, .inl (cI, T.N, .inl T.ln)), (T.a4, .inl (cI, T.N, .inl T.ki)), (T.a5, .inl (cI, T.N, .inl T.nx)), (T.a6, .inl (cI, T.N, .inl T.ns)), (T.a7, .inl (cI, T.N, .inl T.nl)), (T.a8, .inl (cI, T.N, .inl T.pa)), (T.a9, .inl (cI, T.N, .inl T.pl)), (T.au, .inl (cC, T.U, .inl T.un))] s.heap.size = A at hD hM ⊢
  have hA : ∀ q : Nat, s.heap.size ≤ q → A q := fun q h => by rw [← hAe]; exact Or.inr h
  have hS : va_S A s.heap s.heap [] := va_S.rf
  have hP : va_P (dC, dI) classes [(mo, .inr (13, MF 30 (rf v i br))), (qx, .inl (cB, NN, .inl f)), (t, .inr (12, MF 13 (tw T))), (T.a0, .inl (cI, T.N, .inl T.kd)), (T.a1, .inl (cL, T.N, .inr (.inl T.nu))), (T.a2, .inl (cI, T.N, .inl T.st)), (T.a3, .inl (cI, T.N, .inl T.ln)), (T.a4, .inl (cI, T.N, .inl T.ki)), (T.a5, .inl (cI, T.N, .inl T.nx)), (T.a6, .inl (cI, T.N, .inl T.ns)), (T.a7, .inl (cI, T.N, .inl T.nl)), (T.a8, .inl (cI, T.N, .inl T.pa)), (T.a9, .inl (cI, T.N, .inl T.pl)), (T.au, .inl (cC, T.U, .inl T.un))] s.heap := hP
  have hl := lv_entry ([.ref mo, .ref t, .int (nI nd), .int (nI (31 - r)), .int 93]) (n := 9) (Nat.le_of_ble_eq_true rfl)
  rw [lg_entry_eq]
  generalize (lg_sl ([.ref mo, .ref t, .int (nI nd), .int (nI (31 - r)), .int 93]) ++ List.replicate (9 - (lg_sl ([.ref mo, .ref t, .int (nI nd), .int (nI (31 - r)), .int 93])).length) Slot.unset).toArray = ls at hl ⊢
  have hl : lv_has ls 9 [(0, .ref mo), (1, .ref t), (2, .int (nI nd)), (3, .int (nI (31 - r))), (4, .int 93)] := hl
  have hT0 := hT
  obtain ⟨ho1, ho2, ho3, ho4, ho5, ho6, ho7⟩ := hT
  refine lv_aload_n hx hb d_Mo_inside_0 rfl (lv_at hl 0 rfl) ?_
  refine lv_dup hx hb d_Mo_inside_1 rfl ?_
  refine va_get (D := (dC, dI)) (ci := 13) (v := .int (nI i)) (C := R_Mo) (T := F_Mo) (N := 30) hx hb hts in_Mo hown hK hP 0 rfl rfl 7 (by decide) (hts _ w_1096) (fun _ h9 => h9) (MFg (by decide) rf_7) d_Mo_inside_2 ?_
  refine lv_iconst (v := 1) hx hb d_Mo_inside_5 (by decide) ?_
  refine lv_iadd hx hb d_Mo_inside_6 ?_
  refine W.eq (g2 := F0 m 7 ls [.int (nI (i + 1)), .ref mo]) (by rw [show ((nI i) + 1) = (nI (i + 1)) from nI_1 _]) ?_
  refine va_put (D := (dC, dI)) (ci := 13) (v := .int (nI (i + 1))) (ty := .int) (C := R_Mo) (T := F_Mo) (N := 30) hx hb hts in_Mo t_Mo t_Mo_ok n_Mo hown hK hP hD hS 0 rfl rfl 7 (by decide) (hts _ w_1096) (fun _ h9 => h9) rfl (by decide +kernel) rfl rfl (by rw [MFl]; decide) d_Mo_inside_7 (fun H locs hP hD hS => ?_)
  rw [MFs (n := 30) (k := 7) (by decide)] at hP hD
  have hP : va_P (dC, dI) classes [(mo, .inr (13, MF 30 (va_up (rf v i br) 7 (.int (nI (i + 1)))))), (qx, .inl (cB, NN, .inl f)), (t, .inr (12, MF 13 (tw T))), (T.a0, .inl (cI, T.N, .inl T.kd)), (T.a1, .inl (cL, T.N, .inr (.inl T.nu))), (T.a2, .inl (cI, T.N, .inl T.st)), (T.a3, .inl (cI, T.N, .inl T.ln)), (T.a4, .inl (cI, T.N, .inl T.ki)), (T.a5, .inl (cI, T.N, .inl T.nx)), (T.a6, .inl (cI, T.N, .inl T.ns)), (T.a7, .inl (cI, T.N, .inl T.nl)), (T.a8, .inl (cI, T.N, .inl T.pa)), (T.a9, .inl (cI, T.N, .inl T.pl)), (T.au, .inl (cC, T.U, .inl T.un))] H := hP
  have hD : va_D A [(mo, .inr (13, MF 30 (va_up (rf v i br) 7 (.int (nI (i + 1)))))), (qx, .inl (cB, NN, .inl f)), (t, .inr (12, MF 13 (tw T))), (T.a0, .inl (cI, T.N, .inl T.kd)), (T.a1, .inl (cL, T.N, .inr (.inl T.nu))), (T.a2, .inl (cI, T.N, .inl T.st)), (T.a3, .inl (cI, T.N, .inl T.ln)), (T.a4, .inl (cI, T.N, .inl T.ki)), (T.a5, .inl (cI, T.N, .inl T.nx)), (T.a6, .inl (cI, T.N, .inl T.ns)), (T.a7, .inl (cI, T.N, .inl T.nl)), (T.a8, .inl (cI, T.N, .inl T.pa)), (T.a9, .inl (cI, T.N, .inl T.pl)), (T.au, .inl (cC, T.U, .inl T.un))] := hD
  rw [rf_u7] at hP hD
  have hP : va_P (dC, dI) classes [(mo, .inr (13, MF 30 (rf v (i + 1) br))), (qx, .inl (cB, NN, .inl f)), (t, .inr (12, MF 13 (tw T))), (T.a0, .inl (cI, T.N, .inl T.kd)), (T.a1, .inl (cL, T.N, .inr (.inl T.nu))), (T.a2, .inl (cI, T.N, .inl T.st)), (T.a3, .inl (cI, T.N, .inl T.ln)), (T.a4, .inl (cI, T.N, .inl T.ki)), (T.a5, .inl (cI, T.N, .inl T.nx)), (T.a6, .inl (cI, T.N, .inl T.ns)), (T.a7, .inl (cI, T.N, .inl T.nl)), (T.a8, .inl (cI, T.N, .inl T.pa)), (T.a9, .inl (cI, T.N, .inl T.pl)), (T.au, .inl (cC, T.U, .inl T.un))] H := hP
  have hD : va_D A [(mo, .inr (13, MF 30 (rf v (i + 1) br))), (qx, .inl (cB, NN, .inl f)), (t, .inr (12, MF 13 (tw T))), (T.a0, .inl (cI, T.N, .inl T.kd)), (T.a1, .inl (cL, T.N, .inr (.inl T.nu))), (T.a2, .inl (cI, T.N, .inl T.st)), (T.a3, .inl (cI, T.N, .inl T.ln)), (T.a4, .inl (cI, T.N, .inl T.ki)), (T.a5, .inl (cI, T.N, .inl T.nx)), (T.a6, .inl (cI, T.N, .inl T.ns)), (T.a7, .inl (cI, T.N, .inl T.nl)), (T.a8, .inl (cI, T.N, .inl T.pa)), (T.a9, .inl (cI, T.N, .inl T.pl)), (T.au, .inl (cC, T.U, .inl T.un))] := hD
  refine lv_aload_n hx hb d_Mo_inside_10 rfl (lv_at hl 0 rfl) ?_
  have hPc := hP.sub (ws' := [(mo, .inr (13, MF 30 (rf v (i + 1) br))), (qx, .inl (cB, NN, .inl f))]) [0, 1] rfl
  have hDc := hD.sub (ws' := [(mo, .inr (13, MF 30 (rf v (i + 1) br))), (qx, .inl (cB, NN, .inl f))]) [0, 1] (by decide) rfl
  have hKc := hK.sub (tys' := [(cB, .byte)]) [0] rfl
  have hFc := va_free (wc := [(mo, .inr (13, MF 30 (rf v (i + 1) br))), (qx, .inl (cB, NN, .inl f))]) hD hS hA [0, 1] rfl
  refine va_callv (va_runV (As := []) (rest := []) ⟨hx, hb, hml, hown, hts⟩ (c_Mo_blanks l dC dI mo H (rf v (i + 1) br) cB qx NN f n (i + 1) (by omega) (by omega) (by omega) ((rf_ne (by decide) (by decide)).trans h6) rf_7 ((rf_ne (by decide) (by decide)).trans h8)) (cwV 0 hts (gt_V (own := R_Mo) (C := R_Mo) (i := 184) (y := y_Mo_blanks) i_Mo_blanks w_1229 w_1231 (gt_sel (y := y_Mo_blanks) (n := 30) (by decide +kernel)) w_7) rfl rfl rfl (by decide +kernel) ⟨Nat.le_trans (m := 9) (Nat.le_of_ble_eq_true rfl) (Nat.le_add_right 9 (2 * r)), Nat.le_trans (m := 330) (Nat.le_of_ble_eq_true rfl) (Nat.le_add_right 330 (80 * r))⟩) ⟨mp_blind, va_recv hKc hPc (ci := 13) (q0 := 0) rfl rfl, fun U hU hW => ⟨rfl, hU, by rw [hU]; exact hPc, va_K.moved hW.alike hKc, hDc.weaken (fun _ _ _ _ => trivial)⟩⟩ rfl rfl hl.1 rfl (lv_room (Nat.le_of_ble_eq_true rfl)) d_Mo_inside_11 ⟨Nat.zero_le _, Nat.zero_le _⟩) hS (fun q _ h => hFc q h) hFc (fun _u t9 H1 locs ht hvm hw hB hz1 hk1 hS => ?_)
  obtain ⟨hP1, hK1, hD1⟩ := hB
  rw [ht] at hP1
  obtain ⟨hP, hD⟩ := va_join (wr := [(t, .inr (12, MF 13 (tw T))), (T.a0, .inl (cI, T.N, .inl T.kd)), (T.a1, .inl (cL, T.N, .inr (.inl T.nu))), (T.a2, .inl (cI, T.N, .inl T.st)), (T.a3, .inl (cI, T.N, .inl T.ln)), (T.a4, .inl (cI, T.N, .inl T.ki)), (T.a5, .inl (cI, T.N, .inl T.nx)), (T.a6, .inl (cI, T.N, .inl T.ns)), (T.a7, .inl (cI, T.N, .inl T.nl)), (T.a8, .inl (cI, T.N, .inl T.pa)), (T.a9, .inl (cI, T.N, .inl T.pl)), (T.au, .inl (cC, T.U, .inl T.un))]) (w1 := [(mo, .inr (13, MF 30 (va_up (rf v (i + 1) br) 7 (.int (nI (skipH f n (i + 1))))))), (qx, .inl (cB, NN, .inl f))]) hP hD [0, 1] [2, 3, 4, 5, 6, 7, 8, 9, 10, 11, 12, 13] rfl rfl (by decide) (by decide) hk1 hFc hP1 hD1
  generalize H1 = H at hP hS ⊢
  have hP : va_P (dC, dI) classes [(t, .inr (12, MF 13 (tw T))), (T.a0, .inl (cI, T.N, .inl T.kd)), (T.a1, .inl (cL, T.N, .inr (.inl T.nu))), (T.a2, .inl (cI, T.N, .inl T.st)), (T.a3, .inl (cI, T.N, .inl T.ln)), (T.a4, .inl (cI, T.N, .inl T.ki)), (T.a5, .inl (cI, T.N, .inl T.nx)), (T.a6, .inl (cI, T.N, .inl T.ns)), (T.a7, .inl (cI, T.N, .inl T.nl)), (T.a8, .inl (cI, T.N, .inl T.pa)), (T.a9, .inl (cI, T.N, .inl T.pl)), (T.au, .inl (cC, T.U, .inl T.un)), (mo, .inr (13, MF 30 (va_up (rf v (i + 1) br) 7 (.int (nI (skipH f n (i + 1))))))), (qx, .inl (cB, NN, .inl f))] H := hP
  have hD : va_D A [(t, .inr (12, MF 13 (tw T))), (T.a0, .inl (cI, T.N, .inl T.kd)), (T.a1, .inl (cL, T.N, .inr (.inl T.nu))), (T.a2, .inl (cI, T.N, .inl T.st)), (T.a3, .inl (cI, T.N, .inl T.ln)), (T.a4, .inl (cI, T.N, .inl T.ki)), (T.a5, .inl (cI, T.N, .inl T.nx)), (T.a6, .inl (cI, T.N, .inl T.ns)), (T.a7, .inl (cI, T.N, .inl T.nl)), (T.a8, .inl (cI, T.N, .inl T.pa)), (T.a9, .inl (cI, T.N, .inl T.pl)), (T.au, .inl (cC, T.U, .inl T.un)), (mo, .inr (13, MF 30 (va_up (rf v (i + 1) br) 7 (.int (nI (skipH f n (i + 1))))))), (qx, .inl (cB, NN, .inl f))] := hD
  have hP := hP.sub (ws' := [(mo, .inr (13, MF 30 (va_up (rf v (i + 1) br) 7 (.int (nI (skipH f n (i + 1))))))), (qx, .inl (cB, NN, .inl f)), (t, .inr (12, MF 13 (tw T))), (T.a0, .inl (cI, T.N, .inl T.kd)), (T.a1, .inl (cL, T.N, .inr (.inl T.nu))), (T.a2, .inl (cI, T.N, .inl T.st)), (T.a3, .inl (cI, T.N, .inl T.ln)), (T.a4, .inl (cI, T.N, .inl T.ki)), (T.a5, .inl (cI, T.N, .inl T.nx)), (T.a6, .inl (cI, T.N, .inl T.ns)), (T.a7, .inl (cI, T.N, .inl T.nl)), (T.a8, .inl (cI, T.N, .inl T.pa)), (T.a9, .inl (cI, T.N, .inl T.pl)), (T.au, .inl (cC, T.U, .inl T.un))]) [12, 13, 0, 1, 2, 3, 4, 5, 6, 7, 8, 9, 10, 11] rfl
  have hD := hD.sub (ws' := [(mo, .inr (13, MF 30 (va_up (rf v (i + 1) br) 7 (.int (nI (skipH f n (i + 1))))))), (qx, .inl (cB, NN, .inl f)), (t, .inr (12, MF 13 (tw T))), (T.a0, .inl (cI, T.N, .inl T.kd)), (T.a1, .inl (cL, T.N, .inr (.inl T.nu))), (T.a2, .inl (cI, T.N, .inl T.st)), (T.a3, .inl (cI, T.N, .inl T.ln)), (T.a4, .inl (cI, T.N, .inl T.ki)), (T.a5, .inl (cI, T.N, .inl T.nx)), (T.a6, .inl (cI, T.N, .inl T.ns)), (T.a7, .inl (cI, T.N, .inl T.nl)), (T.a8, .inl (cI, T.N, .inl T.pa)), (T.a9, .inl (cI, T.N, .inl T.pl)), (T.au, .inl (cC, T.U, .inl T.un))]) [12, 13, 0, 1, 2, 3, 4, 5, 6, 7, 8, 9, 10, 11] (by decide) rfl
  rw [rf_u7] at hP hD
  have hP : va_P (dC, dI) classes [(mo, .inr (13, MF 30 (rf v (skipH f n (i + 1)) br))), (qx, .inl (cB, NN, .inl f)), (t, .inr (12, MF 13 (tw T))), (T.a0, .inl (cI, T.N, .inl T.kd)), (T.a1, .inl (cL, T.N, .inr (.inl T.nu))), (T.a2, .inl (cI, T.N, .inl T.st)), (T.a3, .inl (cI, T.N, .inl T.ln)), (T.a4, .inl (cI, T.N, .inl T.ki)), (T.a5, .inl (cI, T.N, .inl T.nx)), (T.a6, .inl (cI, T.N, .inl T.ns)), (T.a7, .inl (cI, T.N, .inl T.nl)), (T.a8, .inl (cI, T.N, .inl T.pa)), (T.a9, .inl (cI, T.N, .inl T.pl)), (T.au, .inl (cC, T.U, .inl T.un))] H := hP
  have hD : va_D A [(mo, .inr (13, MF 30 (rf v (skipH f n (i + 1)) br))), (qx, .inl (cB, NN, .inl f)), (t, .inr (12, MF 13 (tw T))), (T.a0, .inl (cI, T.N, .inl T.kd)), (T.a1, .inl (cL, T.N, .inr (.inl T.nu))), (T.a2, .inl (cI, T.N, .inl T.st)), (T.a3, .inl (cI, T.N, .inl T.ln)), (T.a4, .inl (cI, T.N, .inl T.ki)), (T.a5, .inl (cI, T.N, .inl T.nx)), (T.a6, .inl (cI, T.N, .inl T.ns)), (T.a7, .inl (cI, T.N, .inl T.nl)), (T.a8, .inl (cI, T.N, .inl T.pa)), (T.a9, .inl (cI, T.N, .inl T.pl)), (T.au, .inl (cC, T.U, .inl T.un))] := hD
  have hsk_14 := skipH_n (f := f) (show (i + 1) ≤ n by omega)
  refine lv_aload_n hx hb d_Mo_inside_14 rfl (lv_at hl 0 rfl) ?_
  have hPc := hP.sub (ws' := [(mo, .inr (13, MF 30 (rf v (skipH f n (i + 1)) br))), (qx, .inl (cB, NN, .inl f))]) [0, 1] rfl
  have hDc := hD.sub (ws' := [(mo, .inr (13, MF 30 (rf v (skipH f n (i + 1)) br))), (qx, .inl (cB, NN, .inl f))]) [0, 1] (by decide) rfl
  have hKc := hK.sub (tys' := [(cB, .byte)]) [0] rfl
  have hFc := va_free (wc := [(mo, .inr (13, MF 30 (rf v (skipH f n (i + 1)) br))), (qx, .inl (cB, NN, .inl f))]) hD hS hA [0, 1] rfl
  refine va_calli (va_runV (As := []) (rest := []) ⟨hx, hb, hml, hown, hts⟩ (c_Mo_c l dC dI mo H (rf v (skipH f n (i + 1)) br) cB qx NN f n (skipH f n (i + 1)) (by omega) (by omega) (by omega) ((rf_ne (by decide) (by decide)).trans h6) rf_7 ((rf_ne (by decide) (by decide)).trans h8)) (cwV 0 hts (gt_V (own := R_Mo) (C := R_Mo) (i := 147) (y := y_Mo_c) i_Mo_c w_1233 w_1235 (gt_sel (y := y_Mo_c) (n := 30) (by decide +kernel)) w_7) rfl rfl rfl (by decide +kernel) ⟨Nat.le_trans (m := 9) (Nat.le_of_ble_eq_true rfl) (Nat.le_add_right 9 (2 * r)), Nat.le_trans (m := 330) (Nat.le_of_ble_eq_true rfl) (Nat.le_add_right 330 (80 * r))⟩) ⟨mp_blind, va_recv hKc hPc (ci := 13) (q0 := 0) rfl rfl, fun U hU hW => ⟨rfl, hU, by rw [hU]; exact hPc, va_K.moved hW.alike hKc, hDc.weaken (fun _ _ _ _ => trivial)⟩⟩ rfl rfl hl.1 rfl (lv_room (Nat.le_of_ble_eq_true rfl)) d_Mo_inside_15 ⟨Nat.zero_le _, Nat.zero_le _⟩) hS (fun q _ h => hFc q h) hFc (fun r1 _u t9 H1 locs ht hvm hw hB hz1 hk1 hS => ?_)
  obtain ⟨hP1, hK1, hD1⟩ := hB
  rw [ht] at hP1
  obtain ⟨hP, hD⟩ := va_join (wr := [(t, .inr (12, MF 13 (tw T))), (T.a0, .inl (cI, T.N, .inl T.kd)), (T.a1, .inl (cL, T.N, .inr (.inl T.nu))), (T.a2, .inl (cI, T.N, .inl T.st)), (T.a3, .inl (cI, T.N, .inl T.ln)), (T.a4, .inl (cI, T.N, .inl T.ki)), (T.a5, .inl (cI, T.N, .inl T.nx)), (T.a6, .inl (cI, T.N, .inl T.ns)), (T.a7, .inl (cI, T.N, .inl T.nl)), (T.a8, .inl (cI, T.N, .inl T.pa)), (T.a9, .inl (cI, T.N, .inl T.pl)), (T.au, .inl (cC, T.U, .inl T.un))]) (w1 := [(mo, .inr (13, MF 30 (rf v (skipH f n (i + 1)) br))), (qx, .inl (cB, NN, .inl f))]) hP hD [0, 1] [2, 3, 4, 5, 6, 7, 8, 9, 10, 11, 12, 13] rfl rfl (by decide) (by decide) hk1 hFc hP1 hD1
  generalize H1 = H at hP hS ⊢
  have hP : va_P (dC, dI) classes [(t, .inr (12, MF 13 (tw T))), (T.a0, .inl (cI, T.N, .inl T.kd)), (T.a1, .inl (cL, T.N, .inr (.inl T.nu))), (T.a2, .inl (cI, T.N, .inl T.st)), (T.a3, .inl (cI, T.N, .inl T.ln)), (T.a4, .inl (cI, T.N, .inl T.ki)), (T.a5, .inl (cI, T.N, .inl T.nx)), (T.a6, .inl (cI, T.N, .inl T.ns)), (T.a7, .inl (cI, T.N, .inl T.nl)), (T.a8, .inl (cI, T.N, .inl T.pa)), (T.a9, .inl (cI, T.N, .inl T.pl)), (T.au, .inl (cC, T.U, .inl T.un)), (mo, .inr (13, MF 30 (rf v (skipH f n (i + 1)) br))), (qx, .inl (cB, NN, .inl f))] H := hP
  have hD : va_D A [(t, .inr (12, MF 13 (tw T))), (T.a0, .inl (cI, T.N, .inl T.kd)), (T.a1, .inl (cL, T.N, .inr (.inl T.nu))), (T.a2, .inl (cI, T.N, .inl T.st)), (T.a3, .inl (cI, T.N, .inl T.ln)), (T.a4, .inl (cI, T.N, .inl T.ki)), (T.a5, .inl (cI, T.N, .inl T.nx)), (T.a6, .inl (cI, T.N, .inl T.ns)), (T.a7, .inl (cI, T.N, .inl T.nl)), (T.a8, .inl (cI, T.N, .inl T.pa)), (T.a9, .inl (cI, T.N, .inl T.pl)), (T.au, .inl (cC, T.U, .inl T.un)), (mo, .inr (13, MF 30 (rf v (skipH f n (i + 1)) br))), (qx, .inl (cB, NN, .inl f))] := hD
  have hP := hP.sub (ws' := [(mo, .inr (13, MF 30 (rf v (skipH f n (i + 1)) br))), (qx, .inl (cB, NN, .inl f)), (t, .inr (12, MF 13 (tw T))), (T.a0, .inl (cI, T.N, .inl T.kd)), (T.a1, .inl (cL, T.N, .inr (.inl T.nu))), (T.a2, .inl (cI, T.N, .inl T.st)), (T.a3, .inl (cI, T.N, .inl T.ln)), (T.a4, .inl (cI, T.N, .inl T.ki)), (T.a5, .inl (cI, T.N, .inl T.nx)), (T.a6, .inl (cI, T.N, .inl T.ns)), (T.a7, .inl (cI, T.N, .inl T.nl)), (T.a8, .inl (cI, T.N, .inl T.pa)), (T.a9, .inl (cI, T.N, .inl T.pl)), (T.au, .inl (cC, T.U, .inl T.un))]) [12, 13, 0, 1, 2, 3, 4, 5, 6, 7, 8, 9, 10, 11] rfl
  have hD := hD.sub (ws' := [(mo, .inr (13, MF 30 (rf v (skipH f n (i + 1)) br))), (qx, .inl (cB, NN, .inl f)), (t, .inr (12, MF 13 (tw T))), (T.a0, .inl (cI, T.N, .inl T.kd)), (T.a1, .inl (cL, T.N, .inr (.inl T.nu))), (T.a2, .inl (cI, T.N, .inl T.st)), (T.a3, .inl (cI, T.N, .inl T.ln)), (T.a4, .inl (cI, T.N, .inl T.ki)), (T.a5, .inl (cI, T.N, .inl T.nx)), (T.a6, .inl (cI, T.N, .inl T.ns)), (T.a7, .inl (cI, T.N, .inl T.nl)), (T.a8, .inl (cI, T.N, .inl T.pa)), (T.a9, .inl (cI, T.N, .inl T.pl)), (T.au, .inl (cC, T.U, .inl T.un))]) [12, 13, 0, 1, 2, 3, 4, 5, 6, 7, 8, 9, 10, 11] (by decide) rfl
  have h_r1 : r1 = hereV f n (skipH f n (i + 1)) := hw
  refine lv_iload hx hb d_Mo_inside_18 (lv_at hl 4 rfl) ?_
  refine lv_icmp_ne (tgt := 35) hx hb d_Mo_inside_20 (by decide) (fun c20 => ?_) (fun c20 => ?_)
  · refine lv_iconst (v := (-1)) hx hb d_Mo_inside_35 (by decide) ?_
    refine lv_istore (lv' := [(5, .int (-1)), (0, .ref mo), (1, .ref t), (2, .int (nI nd)), (3, .int (nI (31 - r))), (4, .int 93)]) hx hb d_Mo_inside_36 hl (by decide) rfl (fun ls hl => ?_)
    have hpi : pInside f n (pV f n r) 91 i = pIn f n (pV f n r) 91 (n + 1) (skipH f n (i + 1)) [] := by unfold pInside; rw [show clo 91 = 93 from by decide, if_neg (fun h => c20 (h_r1.trans h))]
    refine w_same (fun hq => ?_)
    refine W.widen (k := ncap T (T.ct + (n + 12 - (i + 1))) + qcap T (T.us + (n + 12 - (i + 1)))) (n := 20 * ncap T (T.ct + (n + 12 - (i + 1))) + 2 * qcap T (T.us + (n + 12 - (i + 1)))) (Nat.zero_le _) (Nat.zero_le _) ?_
    refine w_loopH (D := (dC, dI)) (cl := classes) (A := A) (H0 := s.heap) (nL := 9) 38 (σ := TS × List (List Int32 × JVt r) × Nat × Nat × Int32 × Int32) (fun ⟨Tc, acc, m9, j, b, bf⟩ H => KS r ((91 : Int32) = 123) nd T.ct Tc.ct Tc acc bf ∧ TB T Tc nd ∧ TG n (i + 1) T Tc ∧ Tc.ct + (i + 1) ≤ T.ct + j ∧ Tc.us + (i + 1) ≤ T.us + j ∧ j ≤ n ∧ i + 1 ≤ j ∧ n + 1 ≤ m9 + j ∧ pIn f n (pV f n r) 91 m9 j acc = pIn f n (pV f n r) 91 (n + 1) (skipH f n (i + 1)) [] ∧ szk s.heap H (cE T Tc) (sE T Tc)) (fun ⟨Tc, acc, m9, j, b, bf⟩ => n + 1 - j) (fun ⟨Tc, acc, m9, j, b, bf⟩ => [(mo, .inr (13, MF 30 (rf v j b))), (qx, .inl (cB, NN, .inl f)), (t, .inr (12, MF 13 (tw Tc))), (Tc.a0, .inl (cI, Tc.N, .inl Tc.kd)), (Tc.a1, .inl (cL, Tc.N, .inr (.inl Tc.nu))), (Tc.a2, .inl (cI, Tc.N, .inl Tc.st)), (Tc.a3, .inl (cI, Tc.N, .inl Tc.ln)), (Tc.a4, .inl (cI, Tc.N, .inl Tc.ki)), (Tc.a5, .inl (cI, Tc.N, .inl Tc.nx)), (Tc.a6, .inl (cI, Tc.N, .inl Tc.ns)), (Tc.a7, .inl (cI, Tc.N, .inl Tc.nl)), (Tc.a8, .inl (cI, Tc.N, .inl Tc.pa)), (Tc.a9, .inl (cI, Tc.N, .inl Tc.pl)), (Tc.au, .inl (cC, Tc.U, .inl Tc.un))]) (fun ⟨Tc, acc, m9, j, b, bf⟩ => [(0, .ref mo), (1, .ref t), (2, .int (nI nd)), (3, .int (nI (31 - r))), (4, .int 93), (5, .int bf)]) ?_ (T, [], n + 1, (skipH f n (i + 1)), br, -1) ⟨Or.inl ⟨rfl, rfl, hki0⟩, TB.rf, ⟨hT0, GB.rf⟩, by show T.ct + (i + 1) ≤ T.ct + (skipH f n (i + 1)); omega, by show T.us + (i + 1) ≤ T.us + (skipH f n (i + 1)); omega, by show (skipH f n (i + 1)) ≤ n; omega, by show i + 1 ≤ (skipH f n (i + 1)); omega, by show n + 1 ≤ n + 1 + (skipH f n (i + 1)); omega, rfl, hq.mono (Nat.zero_le _) (Nat.zero_le _)⟩ hP hD hS (lv_sub hl [1, 2, 3, 4, 5, 0] rfl)
    rintro ⟨Tc, acc, m9, j, b, bf⟩ H locs ls hI ih hP hD hS hl
    have hP : va_P (dC, dI) classes [(mo, .inr (13, MF 30 (rf v j b))), (qx, .inl (cB, NN, .inl f)), (t, .inr (12, MF 13 (tw Tc))), (Tc.a0, .inl (cI, Tc.N, .inl Tc.kd)), (Tc.a1, .inl (cL, Tc.N, .inr (.inl Tc.nu))), (Tc.a2, .inl (cI, Tc.N, .inl Tc.st)), (Tc.a3, .inl (cI, Tc.N, .inl Tc.ln)), (Tc.a4, .inl (cI, Tc.N, .inl Tc.ki)), (Tc.a5, .inl (cI, Tc.N, .inl Tc.nx)), (Tc.a6, .inl (cI, Tc.N, .inl Tc.ns)), (Tc.a7, .inl (cI, Tc.N, .inl Tc.nl)), (Tc.a8, .inl (cI, Tc.N, .inl Tc.pa)), (Tc.a9, .inl (cI, Tc.N, .inl Tc.pl)), (Tc.au, .inl (cC, Tc.U, .inl Tc.un))] H := hP
    have hD : va_D A [(mo, .inr (13, MF 30 (rf v j b))), (qx, .inl (cB, NN, .inl f)), (t, .inr (12, MF 13 (tw Tc))), (Tc.a0, .inl (cI, Tc.N, .inl Tc.kd)), (Tc.a1, .inl (cL, Tc.N, .inr (.inl Tc.nu))), (Tc.a2, .inl (cI, Tc.N, .inl Tc.st)), (Tc.a3, .inl (cI, Tc.N, .inl Tc.ln)), (Tc.a4, .inl (cI, Tc.N, .inl Tc.ki)), (Tc.a5, .inl (cI, Tc.N, .inl Tc.nx)), (Tc.a6, .inl (cI, Tc.N, .inl Tc.ns)), (Tc.a7, .inl (cI, Tc.N, .inl Tc.nl)), (Tc.a8, .inl (cI, Tc.N, .inl Tc.pa)), (Tc.a9, .inl (cI, Tc.N, .inl Tc.pl)), (Tc.au, .inl (cC, Tc.U, .inl Tc.un))] := hD
    have hl : lv_has ls 9 [(0, .ref mo), (1, .ref t), (2, .int (nI nd)), (3, .int (nI (31 - r))), (4, .int 93), (5, .int bf)] := hl
    obtain ⟨hKS, hTB, ⟨hTk_Tc, hGB_Tc⟩, hI1, hI2, hI3, hI3b, hI4, hI5, hI6⟩ := hI
    refine w_tight hI6 ?_
    obtain ⟨m0, hm0⟩ : ∃ m0, m9 = m0 + 1 := ⟨m9 - 1, by omega⟩
    have hTBc := hTB.1
    have hTkN := hTk_Tc.2.2.1
    have hTkN2 := hTk_Tc.2.1
    have hfit_Tc := hGB_Tc.fits
    refine lv_iconst (v := 0) hx hb d_Mo_inside_38 (by decide) ?_
    refine lv_istore (lv' := [(6, .int 0), (0, .ref mo), (1, .ref t), (2, .int (nI nd)), (3, .int (nI (31 - r))), (4, .int 93), (5, .int bf)]) hx hb d_Mo_inside_39 hl (by decide) rfl (fun ls hl => ?_)
    refine lv_iconst (v := 0) hx hb d_Mo_inside_41 (by decide) ?_
    refine lv_istore (lv' := [(7, .int 0), (6, .int 0), (0, .ref mo), (1, .ref t), (2, .int (nI nd)), (3, .int (nI (31 - r))), (4, .int 93), (5, .int bf)]) hx hb d_Mo_inside_42 hl (by decide) rfl (fun ls hl => ?_)
    refine lv_iload hx hb d_Mo_inside_44 (lv_at hl 6 rfl) ?_
    refine lv_bipush (v := 125) hx hb d_Mo_inside_46 (by decide) ?_
    refine lv_icmp_ne (tgt := 141) hx hb d_Mo_inside_48 (by decide) (fun _ => ?_) (fun h => absurd h (by decide))
    refine lv_aload_n hx hb d_Mo_inside_141 rfl (lv_at hl 2 rfl) ?_
    refine lv_aload_n hx hb d_Mo_inside_142 rfl (lv_at hl 3 rfl) ?_
    refine lv_iload_n hx hb d_Mo_inside_143 rfl (lv_at hl 5 rfl) ?_
    refine lv_iconst (v := 1) hx hb d_Mo_inside_144 (by decide) ?_
    refine lv_iadd hx hb d_Mo_inside_145 ?_
    refine W.eq (g2 := F0 m 146 ls [.int (nI (32 - r)), .ref t, .ref mo]) (by rw [show ((nI (31 - r)) + 1) = (nI (32 - r)) from (by rw [nI_1]; congr 1; omega)]) ?_
    have hNam : pNam f n 91 (acc.map (·.1)) j = some ([], j) := pNam_91
    obtain ⟨Ta, e_Ta⟩ : ∃ z : TS, z = Tc := ⟨_, rfl⟩
    have hP : va_P (dC, dI) classes [(mo, .inr (13, MF 30 (rf v j b))), (qx, .inl (cB, NN, .inl f)), (t, .inr (12, MF 13 (tw Ta))), (Ta.a0, .inl (cI, Ta.N, .inl Ta.kd)), (Ta.a1, .inl (cL, Ta.N, .inr (.inl Ta.nu))), (Ta.a2, .inl (cI, Ta.N, .inl Ta.st)), (Ta.a3, .inl (cI, Ta.N, .inl Ta.ln)), (Ta.a4, .inl (cI, Ta.N, .inl Ta.ki)), (Ta.a5, .inl (cI, Ta.N, .inl Ta.nx)), (Ta.a6, .inl (cI, Ta.N, .inl Ta.ns)), (Ta.a7, .inl (cI, Ta.N, .inl Ta.nl)), (Ta.a8, .inl (cI, Ta.N, .inl Ta.pa)), (Ta.a9, .inl (cI, Ta.N, .inl Ta.pl)), (Ta.au, .inl (cC, Ta.U, .inl Ta.un))] H := by subst e_Ta; exact hP
    have hD : va_D A [(mo, .inr (13, MF 30 (rf v j b))), (qx, .inl (cB, NN, .inl f)), (t, .inr (12, MF 13 (tw Ta))), (Ta.a0, .inl (cI, Ta.N, .inl Ta.kd)), (Ta.a1, .inl (cL, Ta.N, .inr (.inl Ta.nu))), (Ta.a2, .inl (cI, Ta.N, .inl Ta.st)), (Ta.a3, .inl (cI, Ta.N, .inl Ta.ln)), (Ta.a4, .inl (cI, Ta.N, .inl Ta.ki)), (Ta.a5, .inl (cI, Ta.N, .inl Ta.nx)), (Ta.a6, .inl (cI, Ta.N, .inl Ta.ns)), (Ta.a7, .inl (cI, Ta.N, .inl Ta.nl)), (Ta.a8, .inl (cI, Ta.N, .inl Ta.pa)), (Ta.a9, .inl (cI, Ta.N, .inl Ta.pl)), (Ta.au, .inl (cC, Ta.U, .inl Ta.un))] := by subst e_Ta; exact hD
    have hTk_Ta : TOK Ta := by rw [e_Ta]; exact hTk_Tc
    have hKa : KS r ((91 : Int32) = 123) nd T.ct Tc.ct Ta acc bf := by rw [e_Ta]; exact hKS
    have hTEa : TE Tc Ta := by rw [e_Ta]; exact ⟨Nat.le_refl _, fun _ _ => ⟨rfl, rfl, rfl, rfl, rfl, rfl, rfl, rfl, rfl⟩, Nat.le_refl _, fun _ _ => rfl⟩
    have hXa_Ta : Ta.ct = Tc.ct ∧ Ta.N = Tc.N ∧ Ta.us = Tc.us := by rw [e_Ta]; exact ⟨rfl, rfl, rfl⟩
    have hGB_Ta : GB (T.ct + (n + 12 - (i + 1))) (T.us + (n + 12 - (i + 1))) T Ta := by rw [e_Ta]; exact hGB_Tc
    refine w_same (fun hq => ?_)
    refine w_tight (k := cE T Ta) (n := sE T Ta) (by rw [e_Ta]; exact hq) ?_
    have hfit_Ta := hGB_Ta.fits
    have hPc := hP.sub (ws' := [(mo, .inr (13, MF 30 (rf v j b))), (qx, .inl (cB, NN, .inl f)), (t, .inr (12, MF 13 (tw Ta))), (Ta.a0, .inl (cI, Ta.N, .inl Ta.kd)), (Ta.a1, .inl (cL, Ta.N, .inr (.inl Ta.nu))), (Ta.a2, .inl (cI, Ta.N, .inl Ta.st)), (Ta.a3, .inl (cI, Ta.N, .inl Ta.ln)), (Ta.a4, .inl (cI, Ta.N, .inl Ta.ki)), (Ta.a5, .inl (cI, Ta.N, .inl Ta.nx)), (Ta.a6, .inl (cI, Ta.N, .inl Ta.ns)), (Ta.a7, .inl (cI, Ta.N, .inl Ta.nl)), (Ta.a8, .inl (cI, Ta.N, .inl Ta.pa)), (Ta.a9, .inl (cI, Ta.N, .inl Ta.pl)), (Ta.au, .inl (cC, Ta.U, .inl Ta.un))]) [0, 1, 2, 3, 4, 5, 6, 7, 8, 9, 10, 11, 12, 13] rfl
    have hDc := hD.sub (ws' := [(mo, .inr (13, MF 30 (rf v j b))), (qx, .inl (cB, NN, .inl f)), (t, .inr (12, MF 13 (tw Ta))), (Ta.a0, .inl (cI, Ta.N, .inl Ta.kd)), (Ta.a1, .inl (cL, Ta.N, .inr (.inl Ta.nu))), (Ta.a2, .inl (cI, Ta.N, .inl Ta.st)), (Ta.a3, .inl (cI, Ta.N, .inl Ta.ln)), (Ta.a4, .inl (cI, Ta.N, .inl Ta.ki)), (Ta.a5, .inl (cI, Ta.N, .inl Ta.nx)), (Ta.a6, .inl (cI, Ta.N, .inl Ta.ns)), (Ta.a7, .inl (cI, Ta.N, .inl Ta.nl)), (Ta.a8, .inl (cI, Ta.N, .inl Ta.pa)), (Ta.a9, .inl (cI, Ta.N, .inl Ta.pl)), (Ta.au, .inl (cC, Ta.U, .inl Ta.un))]) [0, 1, 2, 3, 4, 5, 6, 7, 8, 9, 10, 11, 12, 13] (by decide) rfl
    have hKc := hK.sub (tys' := [(cB, .byte), (cI, .int), (cL, .long), (cC, .char)]) [0, 1, 2, 3] rfl
    have hFc := va_free (wc := [(mo, .inr (13, MF 30 (rf v j b))), (qx, .inl (cB, NN, .inl f)), (t, .inr (12, MF 13 (tw Ta))), (Ta.a0, .inl (cI, Ta.N, .inl Ta.kd)), (Ta.a1, .inl (cL, Ta.N, .inr (.inl Ta.nu))), (Ta.a2, .inl (cI, Ta.N, .inl Ta.st)), (Ta.a3, .inl (cI, Ta.N, .inl Ta.ln)), (Ta.a4, .inl (cI, Ta.N, .inl Ta.ki)), (Ta.a5, .inl (cI, Ta.N, .inl Ta.nx)), (Ta.a6, .inl (cI, Ta.N, .inl Ta.ns)), (Ta.a7, .inl (cI, Ta.N, .inl Ta.nl)), (Ta.a8, .inl (cI, Ta.N, .inl Ta.pa)), (Ta.a9, .inl (cI, Ta.N, .inl Ta.pl)), (Ta.au, .inl (cC, Ta.U, .inl Ta.un))]) hD hS hA [0, 1, 2, 3, 4, 5, 6, 7, 8, 9, 10, 11, 12, 13] rfl
    refine w_same (fun hq0 => ?_)
    refine va_calli (va_runV (As := [.ref t, .int (nI (32 - r))]) (rest := []) ⟨hx, hb, hml, hown, hts⟩ (hVC l dC dI mo H v cB cI cL cC qx NN f n K t Ta j b hnN hNN (by omega) h6 h8 hTk_Ta (by omega) (by omega)) (cwV 2 hts (gt_V (own := R_Mo) (C := R_Mo) (i := 221) (y := y_Mo_value) i_Mo_value w_1225 w_1227 (gt_sel (y := y_Mo_value) (n := 30) (by decide +kernel)) w_7) rfl rfl rfl (by decide +kernel) ⟨by show 8 + 2 * r + 1 ≤ 9 + 2 * r; omega, by show 8 + (5 + 11) + (300 + 80 * r) ≤ 330 + 80 * r; omega⟩) ⟨me_blind, va_recv hKc hPc (ci := 13) (q0 := 0) rfl rfl, fun U hU hW => ⟨rfl, ⟨hU, by rw [hU]; exact hPc, va_K.moved hW.alike hKc, hDc.weaken (fun _ _ _ _ => trivial)⟩, by rw [hU]; exact ME.call hM hS.2.1 hFc hW⟩⟩ rfl rfl hl.1 rfl (lv_room (Nat.le_of_ble_eq_true rfl)) d_Mo_inside_146 ⟨(hGB_Ta.step (B2 := Ta.ct + (n + 12 - j)) (C2 := Ta.us + (n + 12 - j)) (by omega) (by omega)).1, (hGB_Ta.step (B2 := Ta.ct + (n + 12 - j)) (C2 := Ta.us + (n + 12 - j)) (by omega) (by omega)).2⟩) hS (fun q _ h => hFc q h) hFc (fun r0 ⟨Tb, j_Tb, b_Tb⟩ t9 H1 locs ht hvm hw hB hz1 hk1 hS => ?_)
    obtain ⟨⟨hP1, hK1, hD1⟩, hz9⟩ := hB
    rw [ht] at hP1
    rw [ht] at hz9
    obtain ⟨⟨hTk_Tb, hGn_Tb⟩, hw⟩ := hw
    have hTk_Tb : TOK Tb := hTk_Tb
    obtain ⟨hGB_Tb, hGc_Tb, hGs_Tb⟩ := hGB_Ta.tr hGn_Tb (by omega) (by omega)
    have hz9 : szk H H1 (cE Ta Tb) (sE Ta Tb) := hz9
    have hq1 : szk s.heap H1 (cE T Tb) (sE T Tb) := (hq0.trans hz9).mono hGc_Tb hGs_Tb
    refine w_tight hq1 ?_
    obtain ⟨hP, hD⟩ := va_join (wr := []) (w1 := [(mo, .inr (13, MF 30 (rf v j_Tb b_Tb))), (qx, .inl (cB, NN, .inl f)), (t, .inr (12, MF 13 (tw Tb))), (Tb.a0, .inl (cI, Tb.N, .inl Tb.kd)), (Tb.a1, .inl (cL, Tb.N, .inr (.inl Tb.nu))), (Tb.a2, .inl (cI, Tb.N, .inl Tb.st)), (Tb.a3, .inl (cI, Tb.N, .inl Tb.ln)), (Tb.a4, .inl (cI, Tb.N, .inl Tb.ki)), (Tb.a5, .inl (cI, Tb.N, .inl Tb.nx)), (Tb.a6, .inl (cI, Tb.N, .inl Tb.ns)), (Tb.a7, .inl (cI, Tb.N, .inl Tb.nl)), (Tb.a8, .inl (cI, Tb.N, .inl Tb.pa)), (Tb.a9, .inl (cI, Tb.N, .inl Tb.pl)), (Tb.au, .inl (cC, Tb.U, .inl Tb.un))]) hP hD [0, 1, 2, 3, 4, 5, 6, 7, 8, 9, 10, 11, 12, 13] [] rfl rfl (by decide) (by decide) hk1 hFc hP1 hD1
    generalize H1 = H at hP hS ⊢
    have hP : va_P (dC, dI) classes [(mo, .inr (13, MF 30 (rf v j_Tb b_Tb))), (qx, .inl (cB, NN, .inl f)), (t, .inr (12, MF 13 (tw Tb))), (Tb.a0, .inl (cI, Tb.N, .inl Tb.kd)), (Tb.a1, .inl (cL, Tb.N, .inr (.inl Tb.nu))), (Tb.a2, .inl (cI, Tb.N, .inl Tb.st)), (Tb.a3, .inl (cI, Tb.N, .inl Tb.ln)), (Tb.a4, .inl (cI, Tb.N, .inl Tb.ki)), (Tb.a5, .inl (cI, Tb.N, .inl Tb.nx)), (Tb.a6, .inl (cI, Tb.N, .inl Tb.ns)), (Tb.a7, .inl (cI, Tb.N, .inl Tb.nl)), (Tb.a8, .inl (cI, Tb.N, .inl Tb.pa)), (Tb.a9, .inl (cI, Tb.N, .inl Tb.pl)), (Tb.au, .inl (cC, Tb.U, .inl Tb.un))] H := hP
    have hD : va_D A [(mo, .inr (13, MF 30 (rf v j_Tb b_Tb))), (qx, .inl (cB, NN, .inl f)), (t, .inr (12, MF 13 (tw Tb))), (Tb.a0, .inl (cI, Tb.N, .inl Tb.kd)), (Tb.a1, .inl (cL, Tb.N, .inr (.inl Tb.nu))), (Tb.a2, .inl (cI, Tb.N, .inl Tb.st)), (Tb.a3, .inl (cI, Tb.N, .inl Tb.ln)), (Tb.a4, .inl (cI, Tb.N, .inl Tb.ki)), (Tb.a5, .inl (cI, Tb.N, .inl Tb.nx)), (Tb.a6, .inl (cI, Tb.N, .inl Tb.ns)), (Tb.a7, .inl (cI, Tb.N, .inl Tb.nl)), (Tb.a8, .inl (cI, Tb.N, .inl Tb.pa)), (Tb.a9, .inl (cI, Tb.N, .inl Tb.pl)), (Tb.au, .inl (cC, Tb.U, .inl Tb.un))] := hD
    rcases hw with ⟨x_Tb, hv_1, hv_2, hv_3, hv_4, hv_5, hv_5b, hv_6, hv_7, hv_8⟩ | ⟨hv_1, hv_2⟩
    · have hv_2 : pV f n r j = some (x_Tb, j_Tb) := hv_2
      have hv_3 : RepV Tb r Ta.ct Tb.ct x_Tb := hv_3
      have hv_4 : TE Ta Tb := hv_4
      have hv_5b : Ta.ct < Tb.ct := hv_5b
      have hv_6 : Tb.ct + j ≤ Ta.ct + j_Tb := hv_6
      have hv_7 : Tb.us + j ≤ Ta.us + j_Tb := hv_7
      have hv_8 : j_Tb ≤ n := hv_8
      have hv_9 := hv_4.2.2.1
      subst hv_1
      have hfit_Tb := hGB_Tb.fits
      refine lv_istore (lv' := [(8, .int (nI Ta.ct)), (7, .int 0), (6, .int 0), (0, .ref mo), (1, .ref t), (2, .int (nI nd)), (3, .int (nI (31 - r))), (4, .int 93), (5, .int bf)]) hx hb d_Mo_inside_149 hl (by decide) rfl (fun ls hl => ?_)
      refine lv_iload hx hb d_Mo_inside_151 (lv_at hl 0 rfl) ?_
      have hVal := hv_2
      refine lv_if_ge (tgt := 158) hx hb d_Mo_inside_153 (by decide) (fun _ => ?_) (fun h => absurd (nI_pos' (by have := hTk_Ta.2.2.1; have := hTk_Ta.2.1; omega)) h)
      refine lv_iload hx hb d_Mo_inside_158 (lv_at hl 7 rfl) ?_
      refine lv_bipush (v := 125) hx hb d_Mo_inside_160 (by decide) ?_
      refine lv_icmp_ne (tgt := 183) hx hb d_Mo_inside_162 (by decide) (fun _ => ?_) (fun h => absurd h (by decide))
      refine lv_aload_n hx hb d_Mo_inside_183 rfl (lv_at hl 4 rfl) ?_
      refine lv_iload_n hx hb d_Mo_inside_184 rfl (lv_at hl 5 rfl) ?_
      refine lv_iload hx hb d_Mo_inside_185 (lv_at hl 8 rfl) ?_
      refine lv_iload hx hb d_Mo_inside_187 (lv_at hl 0 rfl) ?_
      have hbf : bf = -1 ∨ ∃ b9, bf = nI b9 ∧ b9 < Tc.ct ∧ T.ct ≤ b9 := by
        rcases hKS with ⟨_, h, _⟩ | ⟨init, c9, b9, eb, mid, _, h2, h3, h4, h5, _, _, _, h9, _⟩
        · exact Or.inl h
        · exact Or.inr ⟨b9, h2, by have := RepV_lt h9; omega, by omega⟩
      have hkb : Ta.ct < Tb.N := by have := hTk_Tb.2.2.1; omega
      have hNb := hTk_Tb.2.1
      have hkc := hTk_Tb.2.2.1
      rcases hbf with hbf | ⟨b9, hbf, hb9, hb8⟩
      · rw [hbf]
        have hPc := hP.sub (ws' := [(t, .inr (12, MF 13 (tw Tb))), (Tb.a4, .inl (cI, Tb.N, .inl Tb.ki)), (Tb.a5, .inl (cI, Tb.N, .inl Tb.nx)), (Tb.a8, .inl (cI, Tb.N, .inl Tb.pa))]) [2, 7, 8, 11] rfl
        have hDc := hD.sub (ws' := [(t, .inr (12, MF 13 (tw Tb))), (Tb.a4, .inl (cI, Tb.N, .inl Tb.ki)), (Tb.a5, .inl (cI, Tb.N, .inl Tb.nx)), (Tb.a8, .inl (cI, Tb.N, .inl Tb.pa))]) [2, 7, 8, 11] (by decide) rfl
        have hKc := hK.sub (tys' := [(cI, .int)]) [1] rfl
        have hFc := va_free (wc := [(t, .inr (12, MF 13 (tw Tb))), (Tb.a4, .inl (cI, Tb.N, .inl Tb.ki)), (Tb.a5, .inl (cI, Tb.N, .inl Tb.nx)), (Tb.a8, .inl (cI, Tb.N, .inl Tb.pa))]) hD hS hA [2, 7, 8, 11] rfl
        refine va_callv (va_runV (As := [.int (nI nd), .int (-1), .int (nI Ta.ct)]) (rest := []) ⟨hx, hb, hml, hown, hts⟩ (c_Tree_insertF l dC dI t H (tw Tb) cI Tb.a4 Tb.a5 Tb.a8 Tb.N nd Ta.ct Tb.ki Tb.nx Tb.pa (by omega) (by omega) (by omega) rfl rfl rfl) (cwV 3 hts (gt_V (own := R_Mo) (C := R_Tree) (i := 225) (y := y_Tree_insert) i_Tree_insert w_1358 w_1359 w_1360 w_8) rfl rfl rfl (by decide +kernel) ⟨Nat.le_trans (m := 9) (Nat.le_of_ble_eq_true rfl) (Nat.le_add_right 9 (2 * r)), Nat.le_trans (m := 330) (Nat.le_of_ble_eq_true rfl) (Nat.le_add_right 330 (80 * r))⟩) ⟨mp_blind, va_recv hKc hPc (ci := 12) (q0 := 0) rfl rfl, fun U hU hW => ⟨rfl, hU, by rw [hU]; exact hPc, va_K.moved hW.alike hKc, hDc.weaken (fun _ _ _ _ => trivial)⟩⟩ rfl rfl hl.1 rfl (lv_room (Nat.le_of_ble_eq_true rfl)) d_Mo_inside_189 ⟨hfit_Tb.1, hfit_Tb.2⟩) hS (fun q _ h => hFc q h) hFc (fun _u t9 H1 locs ht hvm hw hB hz1 hk1 hS => ?_)
        obtain ⟨hP1, hK1, hD1⟩ := hB
        rw [ht] at hP1
        obtain ⟨hP, hD⟩ := va_join (wr := [(mo, .inr (13, MF 30 (rf v j_Tb b_Tb))), (qx, .inl (cB, NN, .inl f)), (Tb.a0, .inl (cI, Tb.N, .inl Tb.kd)), (Tb.a1, .inl (cL, Tb.N, .inr (.inl Tb.nu))), (Tb.a2, .inl (cI, Tb.N, .inl Tb.st)), (Tb.a3, .inl (cI, Tb.N, .inl Tb.ln)), (Tb.a6, .inl (cI, Tb.N, .inl Tb.ns)), (Tb.a7, .inl (cI, Tb.N, .inl Tb.nl)), (Tb.a9, .inl (cI, Tb.N, .inl Tb.pl)), (Tb.au, .inl (cC, Tb.U, .inl Tb.un))]) (w1 := [(t, .inr (12, MF 13 (tw Tb))), (Tb.a4, .inl (cI, Tb.N, .inl (upd Tb.ki nd (nI Ta.ct)))), (Tb.a5, .inl (cI, Tb.N, .inl (upd Tb.nx Ta.ct (Tb.ki nd)))), (Tb.a8, .inl (cI, Tb.N, .inl (upd Tb.pa Ta.ct (nI nd))))]) hP hD [2, 7, 8, 11] [0, 1, 3, 4, 5, 6, 9, 10, 12, 13] rfl rfl (by decide) (by decide) hk1 hFc hP1 hD1
        generalize H1 = H at hP hS ⊢
        have hP : va_P (dC, dI) classes [(mo, .inr (13, MF 30 (rf v j_Tb b_Tb))), (qx, .inl (cB, NN, .inl f)), (Tb.a0, .inl (cI, Tb.N, .inl Tb.kd)), (Tb.a1, .inl (cL, Tb.N, .inr (.inl Tb.nu))), (Tb.a2, .inl (cI, Tb.N, .inl Tb.st)), (Tb.a3, .inl (cI, Tb.N, .inl Tb.ln)), (Tb.a6, .inl (cI, Tb.N, .inl Tb.ns)), (Tb.a7, .inl (cI, Tb.N, .inl Tb.nl)), (Tb.a9, .inl (cI, Tb.N, .inl Tb.pl)), (Tb.au, .inl (cC, Tb.U, .inl Tb.un)), (t, .inr (12, MF 13 (tw Tb))), (Tb.a4, .inl (cI, Tb.N, .inl (upd Tb.ki nd (nI Ta.ct)))), (Tb.a5, .inl (cI, Tb.N, .inl (upd Tb.nx Ta.ct (Tb.ki nd)))), (Tb.a8, .inl (cI, Tb.N, .inl (upd Tb.pa Ta.ct (nI nd))))] H := hP
        have hD : va_D A [(mo, .inr (13, MF 30 (rf v j_Tb b_Tb))), (qx, .inl (cB, NN, .inl f)), (Tb.a0, .inl (cI, Tb.N, .inl Tb.kd)), (Tb.a1, .inl (cL, Tb.N, .inr (.inl Tb.nu))), (Tb.a2, .inl (cI, Tb.N, .inl Tb.st)), (Tb.a3, .inl (cI, Tb.N, .inl Tb.ln)), (Tb.a6, .inl (cI, Tb.N, .inl Tb.ns)), (Tb.a7, .inl (cI, Tb.N, .inl Tb.nl)), (Tb.a9, .inl (cI, Tb.N, .inl Tb.pl)), (Tb.au, .inl (cC, Tb.U, .inl Tb.un)), (t, .inr (12, MF 13 (tw Tb))), (Tb.a4, .inl (cI, Tb.N, .inl (upd Tb.ki nd (nI Ta.ct)))), (Tb.a5, .inl (cI, Tb.N, .inl (upd Tb.nx Ta.ct (Tb.ki nd)))), (Tb.a8, .inl (cI, Tb.N, .inl (upd Tb.pa Ta.ct (nI nd))))] := hD
        have hP := hP.sub (ws' := [(mo, .inr (13, MF 30 (rf v j_Tb b_Tb))), (qx, .inl (cB, NN, .inl f)), (t, .inr (12, MF 13 (tw Tb))), (Tb.a0, .inl (cI, Tb.N, .inl Tb.kd)), (Tb.a1, .inl (cL, Tb.N, .inr (.inl Tb.nu))), (Tb.a2, .inl (cI, Tb.N, .inl Tb.st)), (Tb.a3, .inl (cI, Tb.N, .inl Tb.ln)), (Tb.a4, .inl (cI, Tb.N, .inl (upd Tb.ki nd (nI Ta.ct)))), (Tb.a5, .inl (cI, Tb.N, .inl (upd Tb.nx Ta.ct (Tb.ki nd)))), (Tb.a6, .inl (cI, Tb.N, .inl Tb.ns)), (Tb.a7, .inl (cI, Tb.N, .inl Tb.nl)), (Tb.a8, .inl (cI, Tb.N, .inl (upd Tb.pa Ta.ct (nI nd)))), (Tb.a9, .inl (cI, Tb.N, .inl Tb.pl)), (Tb.au, .inl (cC, Tb.U, .inl Tb.un))]) [0, 1, 10, 2, 3, 4, 5, 11, 12, 6, 7, 13, 8, 9] rfl
        have hD := hD.sub (ws' := [(mo, .inr (13, MF 30 (rf v j_Tb b_Tb))), (qx, .inl (cB, NN, .inl f)), (t, .inr (12, MF 13 (tw Tb))), (Tb.a0, .inl (cI, Tb.N, .inl Tb.kd)), (Tb.a1, .inl (cL, Tb.N, .inr (.inl Tb.nu))), (Tb.a2, .inl (cI, Tb.N, .inl Tb.st)), (Tb.a3, .inl (cI, Tb.N, .inl Tb.ln)), (Tb.a4, .inl (cI, Tb.N, .inl (upd Tb.ki nd (nI Ta.ct)))), (Tb.a5, .inl (cI, Tb.N, .inl (upd Tb.nx Ta.ct (Tb.ki nd)))), (Tb.a6, .inl (cI, Tb.N, .inl Tb.ns)), (Tb.a7, .inl (cI, Tb.N, .inl Tb.nl)), (Tb.a8, .inl (cI, Tb.N, .inl (upd Tb.pa Ta.ct (nI nd)))), (Tb.a9, .inl (cI, Tb.N, .inl Tb.pl)), (Tb.au, .inl (cC, Tb.U, .inl Tb.un))]) [0, 1, 10, 2, 3, 4, 5, 11, 12, 6, 7, 13, 8, 9] (by decide) rfl
        obtain ⟨Td, e_Td⟩ : ∃ z : TS, z = (TS.mk Tb.N Tb.U Tb.ct Tb.us Tb.a0 Tb.a1 Tb.a2 Tb.a3 Tb.a4 Tb.a5 Tb.a6 Tb.a7 Tb.a8 Tb.a9 Tb.au Tb.kd Tb.st Tb.ln (upd Tb.ki nd (nI Ta.ct)) (upd Tb.nx Ta.ct (Tb.ki nd)) Tb.ns Tb.nl (upd Tb.pa Ta.ct (nI nd)) Tb.pl Tb.un Tb.nu) := ⟨_, rfl⟩
        have hP : va_P (dC, dI) classes [(mo, .inr (13, MF 30 (rf v j_Tb b_Tb))), (qx, .inl (cB, NN, .inl f)), (t, .inr (12, MF 13 (tw Td))), (Td.a0, .inl (cI, Td.N, .inl Td.kd)), (Td.a1, .inl (cL, Td.N, .inr (.inl Td.nu))), (Td.a2, .inl (cI, Td.N, .inl Td.st)), (Td.a3, .inl (cI, Td.N, .inl Td.ln)), (Td.a4, .inl (cI, Td.N, .inl Td.ki)), (Td.a5, .inl (cI, Td.N, .inl Td.nx)), (Td.a6, .inl (cI, Td.N, .inl Td.ns)), (Td.a7, .inl (cI, Td.N, .inl Td.nl)), (Td.a8, .inl (cI, Td.N, .inl Td.pa)), (Td.a9, .inl (cI, Td.N, .inl Td.pl)), (Td.au, .inl (cC, Td.U, .inl Td.un))] H := by subst e_Td; exact hP
        have hD : va_D A [(mo, .inr (13, MF 30 (rf v j_Tb b_Tb))), (qx, .inl (cB, NN, .inl f)), (t, .inr (12, MF 13 (tw Td))), (Td.a0, .inl (cI, Td.N, .inl Td.kd)), (Td.a1, .inl (cL, Td.N, .inr (.inl Td.nu))), (Td.a2, .inl (cI, Td.N, .inl Td.st)), (Td.a3, .inl (cI, Td.N, .inl Td.ln)), (Td.a4, .inl (cI, Td.N, .inl Td.ki)), (Td.a5, .inl (cI, Td.N, .inl Td.nx)), (Td.a6, .inl (cI, Td.N, .inl Td.ns)), (Td.a7, .inl (cI, Td.N, .inl Td.nl)), (Td.a8, .inl (cI, Td.N, .inl Td.pa)), (Td.a9, .inl (cI, Td.N, .inl Td.pl)), (Td.au, .inl (cC, Td.U, .inl Td.un))] := by subst e_Td; exact hD
        have hTd : Td.N = Tb.N ∧ Td.U = Tb.U ∧ Td.ct = Tb.ct ∧ Td.us = Tb.us ∧ Td.un = Tb.un ∧ Td.kd = Tb.kd ∧ Td.nu = Tb.nu ∧ Td.st = Tb.st ∧ Td.ln = Tb.ln ∧ Td.pa = upd Tb.pa Ta.ct (nI nd) ∧ Td.ki = upd Tb.ki nd (nI Ta.ct) ∧ Td.nx = upd Tb.nx Ta.ct (Tb.ki nd) ∧ Td.ns = Tb.ns ∧ Td.nl = Tb.nl := by rw [e_Td]; exact ⟨rfl, rfl, rfl, rfl, rfl, rfl, rfl, rfl, rfl, rfl, rfl, rfl, rfl, rfl⟩
        obtain ⟨g1, g2, g3, g4, g5, g6, g7, g8, g9, g10, g11, g12, g13, g14⟩ := hTd
        have hTk_Td : TOK Td := by obtain ⟨q1, q2, q3, q4, q5, q6, q7⟩ := hTk_Tb; exact ⟨by omega, by omega, by omega, by omega, by omega, by omega, by rw [g5]; exact q7⟩
        have hau : alkU Tb Td := ⟨Nat.le_of_eq g4.symm, fun j9 _ => by rw [g5]⟩
        have hns : ∀ j9, j9 ≠ Ta.ct → Td.ns j9 = Tb.ns j9 := fun j9 h9 => by rw [g13]
        have hnl : ∀ j9, j9 ≠ Ta.ct → Td.nl j9 = Tb.nl j9 := fun j9 h9 => by rw [g14]
        have hpa : ∀ j9, j9 ≠ Ta.ct → Td.pa j9 = Tb.pa j9 := fun j9 h9 => by rw [g10]; exact pk_un h9
        have hki : ∀ j9, j9 ≠ nd → Td.ki j9 = Tb.ki j9 := fun j9 h9 => by rw [g11]; exact pk_un h9
        have hnx : ∀ j9, j9 < T.ct → Td.nx j9 = Tb.nx j9 := fun j9 h9 => by rw [g12, pk_un (by omega)]
        have hTB2 : TB T Td nd := ((hTB.te hnd hTEa).te hnd hv_4).ins hnd (kid := Ta.ct) (by omega) hau g3 g6 g7 g8 g9 hns hnl hpa hki hnx
        have hKb := hKa.fr hnd (by omega) (by omega) (by omega) hv_4
        have hKS2 : KS r ((91 : Int32) = 123) nd T.ct Td.ct Td (acc ++ [([], x_Tb)]) (nI Ta.ct) := by
          rw [g3]
          refine hKb.add hnd (by omega) (by omega) hv_3 hau g3 g6 g7 g8 g9 hns hnl g10 (fun h => absurd h (by decide)) ?_ ?_ ?_ (by omega) (by omega)
          · rw [if_pos hbf]; exact g11
          · intro b8 h8 h7; rw [hbf] at h8; exact absurd (show nI b8 < 0 by rw [← h8]; decide) (nI_pos (by omega))
          · intro _; exact g12
        refine w_same (fun hq => ?_)
        refine w_tight (k := cE T Td) (n := sE T Td) (by unfold cE sE at hq ⊢; rw [g1, g2]; exact hq) ?_
        have hGB_Td : GB (T.ct + (n + 12 - (i + 1))) (T.us + (n + 12 - (i + 1))) T Td := by unfold GB at hGB_Tb ⊢; rw [g1, g2]; exact hGB_Tb
        have hfit_Td := hGB_Td.fits
        refine lv_iload hx hb d_Mo_inside_192 (lv_at hl 0 rfl) ?_
        refine lv_istore (lv' := [(5, .int (nI Ta.ct)), (8, .int (nI Ta.ct)), (7, .int 0), (6, .int 0), (0, .ref mo), (1, .ref t), (2, .int (nI nd)), (3, .int (nI (31 - r))), (4, .int 93)]) hx hb d_Mo_inside_194 hl (by decide) rfl (fun ls hl => ?_)
        refine lv_aload_n hx hb d_Mo_inside_196 rfl (lv_at hl 4 rfl) ?_
        have hPc := hP.sub (ws' := [(mo, .inr (13, MF 30 (rf v j_Tb b_Tb))), (qx, .inl (cB, NN, .inl f))]) [0, 1] rfl
        have hDc := hD.sub (ws' := [(mo, .inr (13, MF 30 (rf v j_Tb b_Tb))), (qx, .inl (cB, NN, .inl f))]) [0, 1] (by decide) rfl
        have hKc := hK.sub (tys' := [(cB, .byte)]) [0] rfl
        have hFc := va_free (wc := [(mo, .inr (13, MF 30 (rf v j_Tb b_Tb))), (qx, .inl (cB, NN, .inl f))]) hD hS hA [0, 1] rfl
        refine va_calli (va_runV (As := []) (rest := []) ⟨hx, hb, hml, hown, hts⟩ (c_Mo_c l dC dI mo H (rf v j_Tb b_Tb) cB qx NN f n j_Tb (by omega) (by omega) (by omega) ((rf_ne (by decide) (by decide)).trans h6) rf_7 ((rf_ne (by decide) (by decide)).trans h8)) (cwV 0 hts (gt_V (own := R_Mo) (C := R_Mo) (i := 147) (y := y_Mo_c) i_Mo_c w_1233 w_1235 (gt_sel (y := y_Mo_c) (n := 30) (by decide +kernel)) w_7) rfl rfl rfl (by decide +kernel) ⟨Nat.le_trans (m := 9) (Nat.le_of_ble_eq_true rfl) (Nat.le_add_right 9 (2 * r)), Nat.le_trans (m := 330) (Nat.le_of_ble_eq_true rfl) (Nat.le_add_right 330 (80 * r))⟩) ⟨mp_blind, va_recv hKc hPc (ci := 13) (q0 := 0) rfl rfl, fun U hU hW => ⟨rfl, hU, by rw [hU]; exact hPc, va_K.moved hW.alike hKc, hDc.weaken (fun _ _ _ _ => trivial)⟩⟩ rfl rfl hl.1 rfl (lv_room (Nat.le_of_ble_eq_true rfl)) d_Mo_inside_197 ⟨hfit_Td.1, hfit_Td.2⟩) hS (fun q _ h => hFc q h) hFc (fun r6 _u t9 H1 locs ht hvm hw hB hz1 hk1 hS => ?_)
        obtain ⟨hP1, hK1, hD1⟩ := hB
        rw [ht] at hP1
        obtain ⟨hP, hD⟩ := va_join (wr := [(t, .inr (12, MF 13 (tw Td))), (Td.a0, .inl (cI, Td.N, .inl Td.kd)), (Td.a1, .inl (cL, Td.N, .inr (.inl Td.nu))), (Td.a2, .inl (cI, Td.N, .inl Td.st)), (Td.a3, .inl (cI, Td.N, .inl Td.ln)), (Td.a4, .inl (cI, Td.N, .inl Td.ki)), (Td.a5, .inl (cI, Td.N, .inl Td.nx)), (Td.a6, .inl (cI, Td.N, .inl Td.ns)), (Td.a7, .inl (cI, Td.N, .inl Td.nl)), (Td.a8, .inl (cI, Td.N, .inl Td.pa)), (Td.a9, .inl (cI, Td.N, .inl Td.pl)), (Td.au, .inl (cC, Td.U, .inl Td.un))]) (w1 := [(mo, .inr (13, MF 30 (rf v j_Tb b_Tb))), (qx, .inl (cB, NN, .inl f))]) hP hD [0, 1] [2, 3, 4, 5, 6, 7, 8, 9, 10, 11, 12, 13] rfl rfl (by decide) (by decide) hk1 hFc hP1 hD1
        generalize H1 = H at hP hS ⊢
        have hP : va_P (dC, dI) classes [(t, .inr (12, MF 13 (tw Td))), (Td.a0, .inl (cI, Td.N, .inl Td.kd)), (Td.a1, .inl (cL, Td.N, .inr (.inl Td.nu))), (Td.a2, .inl (cI, Td.N, .inl Td.st)), (Td.a3, .inl (cI, Td.N, .inl Td.ln)), (Td.a4, .inl (cI, Td.N, .inl Td.ki)), (Td.a5, .inl (cI, Td.N, .inl Td.nx)), (Td.a6, .inl (cI, Td.N, .inl Td.ns)), (Td.a7, .inl (cI, Td.N, .inl Td.nl)), (Td.a8, .inl (cI, Td.N, .inl Td.pa)), (Td.a9, .inl (cI, Td.N, .inl Td.pl)), (Td.au, .inl (cC, Td.U, .inl Td.un)), (mo, .inr (13, MF 30 (rf v j_Tb b_Tb))), (qx, .inl (cB, NN, .inl f))] H := hP
        have hD : va_D A [(t, .inr (12, MF 13 (tw Td))), (Td.a0, .inl (cI, Td.N, .inl Td.kd)), (Td.a1, .inl (cL, Td.N, .inr (.inl Td.nu))), (Td.a2, .inl (cI, Td.N, .inl Td.st)), (Td.a3, .inl (cI, Td.N, .inl Td.ln)), (Td.a4, .inl (cI, Td.N, .inl Td.ki)), (Td.a5, .inl (cI, Td.N, .inl Td.nx)), (Td.a6, .inl (cI, Td.N, .inl Td.ns)), (Td.a7, .inl (cI, Td.N, .inl Td.nl)), (Td.a8, .inl (cI, Td.N, .inl Td.pa)), (Td.a9, .inl (cI, Td.N, .inl Td.pl)), (Td.au, .inl (cC, Td.U, .inl Td.un)), (mo, .inr (13, MF 30 (rf v j_Tb b_Tb))), (qx, .inl (cB, NN, .inl f))] := hD
        have hP := hP.sub (ws' := [(mo, .inr (13, MF 30 (rf v j_Tb b_Tb))), (qx, .inl (cB, NN, .inl f)), (t, .inr (12, MF 13 (tw Td))), (Td.a0, .inl (cI, Td.N, .inl Td.kd)), (Td.a1, .inl (cL, Td.N, .inr (.inl Td.nu))), (Td.a2, .inl (cI, Td.N, .inl Td.st)), (Td.a3, .inl (cI, Td.N, .inl Td.ln)), (Td.a4, .inl (cI, Td.N, .inl Td.ki)), (Td.a5, .inl (cI, Td.N, .inl Td.nx)), (Td.a6, .inl (cI, Td.N, .inl Td.ns)), (Td.a7, .inl (cI, Td.N, .inl Td.nl)), (Td.a8, .inl (cI, Td.N, .inl Td.pa)), (Td.a9, .inl (cI, Td.N, .inl Td.pl)), (Td.au, .inl (cC, Td.U, .inl Td.un))]) [12, 13, 0, 1, 2, 3, 4, 5, 6, 7, 8, 9, 10, 11] rfl
        have hD := hD.sub (ws' := [(mo, .inr (13, MF 30 (rf v j_Tb b_Tb))), (qx, .inl (cB, NN, .inl f)), (t, .inr (12, MF 13 (tw Td))), (Td.a0, .inl (cI, Td.N, .inl Td.kd)), (Td.a1, .inl (cL, Td.N, .inr (.inl Td.nu))), (Td.a2, .inl (cI, Td.N, .inl Td.st)), (Td.a3, .inl (cI, Td.N, .inl Td.ln)), (Td.a4, .inl (cI, Td.N, .inl Td.ki)), (Td.a5, .inl (cI, Td.N, .inl Td.nx)), (Td.a6, .inl (cI, Td.N, .inl Td.ns)), (Td.a7, .inl (cI, Td.N, .inl Td.nl)), (Td.a8, .inl (cI, Td.N, .inl Td.pa)), (Td.a9, .inl (cI, Td.N, .inl Td.pl)), (Td.au, .inl (cC, Td.U, .inl Td.un))]) [12, 13, 0, 1, 2, 3, 4, 5, 6, 7, 8, 9, 10, 11] (by decide) rfl
        have h_r6 : r6 = hereV f n j_Tb := hw
        refine lv_iload hx hb d_Mo_inside_200 (lv_at hl 8 rfl) ?_
        refine lv_icmp_ne (tgt := 217) hx hb d_Mo_inside_202 (by decide) (fun c202 => ?_) (fun c202 => ?_)
        · have hncl : ¬ hereV f n j_Tb = clo 91 := fun h => c202 (h_r6.trans h)
          refine lv_aload_n hx hb d_Mo_inside_217 rfl (lv_at hl 4 rfl) ?_
          refine lv_bipush (v := 44) hx hb d_Mo_inside_218 (by decide) ?_
          have hPc := hP.sub (ws' := [(mo, .inr (13, MF 30 (rf v j_Tb b_Tb))), (qx, .inl (cB, NN, .inl f))]) [0, 1] rfl
          have hDc := hD.sub (ws' := [(mo, .inr (13, MF 30 (rf v j_Tb b_Tb))), (qx, .inl (cB, NN, .inl f))]) [0, 1] (by decide) rfl
          have hKc := hK.sub (tys' := [(cB, .byte)]) [0] rfl
          have hFc := va_free (wc := [(mo, .inr (13, MF 30 (rf v j_Tb b_Tb))), (qx, .inl (cB, NN, .inl f))]) hD hS hA [0, 1] rfl
          refine va_calli (va_runV (As := [.int 44]) (rest := []) ⟨hx, hb, hml, hown, hts⟩ (c_Mo_take l dC dI mo H (rf v j_Tb b_Tb) cB qx NN f n j_Tb (by omega) (by omega) (by omega) ((rf_ne (by decide) (by decide)).trans h6) rf_7 ((rf_ne (by decide) (by decide)).trans h8) b_Tb rf_9 44) (cwV 1 hts (gt_V (own := R_Mo) (C := R_Mo) (i := 163) (y := y_Mo_take) i_Mo_take w_1246 w_1248 (gt_sel (y := y_Mo_take) (n := 30) (by decide +kernel)) w_7) rfl rfl rfl (by decide +kernel) ⟨Nat.le_trans (m := 9) (Nat.le_of_ble_eq_true rfl) (Nat.le_add_right 9 (2 * r)), Nat.le_trans (m := 330) (Nat.le_of_ble_eq_true rfl) (Nat.le_add_right 330 (80 * r))⟩) ⟨mp_blind, va_recv hKc hPc (ci := 13) (q0 := 0) rfl rfl, fun U hU hW => ⟨rfl, hU, by rw [hU]; exact hPc, va_K.moved hW.alike hKc, hDc.weaken (fun _ _ _ _ => trivial)⟩⟩ rfl rfl hl.1 rfl (lv_room (Nat.le_of_ble_eq_true rfl)) d_Mo_inside_220 ⟨hfit_Td.1, hfit_Td.2⟩) hS (fun q _ h => hFc q h) hFc (fun r0 u2 t9 H1 locs ht hvm hw hB hz1 hk1 hS => ?_)
          obtain ⟨hP1, hK1, hD1⟩ := hB
          rw [ht] at hP1
          obtain ⟨hP, hD⟩ := va_join (wr := [(t, .inr (12, MF 13 (tw Td))), (Td.a0, .inl (cI, Td.N, .inl Td.kd)), (Td.a1, .inl (cL, Td.N, .inr (.inl Td.nu))), (Td.a2, .inl (cI, Td.N, .inl Td.st)), (Td.a3, .inl (cI, Td.N, .inl Td.ln)), (Td.a4, .inl (cI, Td.N, .inl Td.ki)), (Td.a5, .inl (cI, Td.N, .inl Td.nx)), (Td.a6, .inl (cI, Td.N, .inl Td.ns)), (Td.a7, .inl (cI, Td.N, .inl Td.nl)), (Td.a8, .inl (cI, Td.N, .inl Td.pa)), (Td.a9, .inl (cI, Td.N, .inl Td.pl)), (Td.au, .inl (cC, Td.U, .inl Td.un))]) (w1 := [(mo, .inr (13, MF 30 u2)), (qx, .inl (cB, NN, .inl f))]) hP hD [0, 1] [2, 3, 4, 5, 6, 7, 8, 9, 10, 11, 12, 13] rfl rfl (by decide) (by decide) hk1 hFc hP1 hD1
          generalize H1 = H at hP hS ⊢
          have hP : va_P (dC, dI) classes [(t, .inr (12, MF 13 (tw Td))), (Td.a0, .inl (cI, Td.N, .inl Td.kd)), (Td.a1, .inl (cL, Td.N, .inr (.inl Td.nu))), (Td.a2, .inl (cI, Td.N, .inl Td.st)), (Td.a3, .inl (cI, Td.N, .inl Td.ln)), (Td.a4, .inl (cI, Td.N, .inl Td.ki)), (Td.a5, .inl (cI, Td.N, .inl Td.nx)), (Td.a6, .inl (cI, Td.N, .inl Td.ns)), (Td.a7, .inl (cI, Td.N, .inl Td.nl)), (Td.a8, .inl (cI, Td.N, .inl Td.pa)), (Td.a9, .inl (cI, Td.N, .inl Td.pl)), (Td.au, .inl (cC, Td.U, .inl Td.un)), (mo, .inr (13, MF 30 u2)), (qx, .inl (cB, NN, .inl f))] H := hP
          have hD : va_D A [(t, .inr (12, MF 13 (tw Td))), (Td.a0, .inl (cI, Td.N, .inl Td.kd)), (Td.a1, .inl (cL, Td.N, .inr (.inl Td.nu))), (Td.a2, .inl (cI, Td.N, .inl Td.st)), (Td.a3, .inl (cI, Td.N, .inl Td.ln)), (Td.a4, .inl (cI, Td.N, .inl Td.ki)), (Td.a5, .inl (cI, Td.N, .inl Td.nx)), (Td.a6, .inl (cI, Td.N, .inl Td.ns)), (Td.a7, .inl (cI, Td.N, .inl Td.nl)), (Td.a8, .inl (cI, Td.N, .inl Td.pa)), (Td.a9, .inl (cI, Td.N, .inl Td.pl)), (Td.au, .inl (cC, Td.U, .inl Td.un)), (mo, .inr (13, MF 30 u2)), (qx, .inl (cB, NN, .inl f))] := hD
          have hP := hP.sub (ws' := [(mo, .inr (13, MF 30 u2)), (qx, .inl (cB, NN, .inl f)), (t, .inr (12, MF 13 (tw Td))), (Td.a0, .inl (cI, Td.N, .inl Td.kd)), (Td.a1, .inl (cL, Td.N, .inr (.inl Td.nu))), (Td.a2, .inl (cI, Td.N, .inl Td.st)), (Td.a3, .inl (cI, Td.N, .inl Td.ln)), (Td.a4, .inl (cI, Td.N, .inl Td.ki)), (Td.a5, .inl (cI, Td.N, .inl Td.nx)), (Td.a6, .inl (cI, Td.N, .inl Td.ns)), (Td.a7, .inl (cI, Td.N, .inl Td.nl)), (Td.a8, .inl (cI, Td.N, .inl Td.pa)), (Td.a9, .inl (cI, Td.N, .inl Td.pl)), (Td.au, .inl (cC, Td.U, .inl Td.un))]) [12, 13, 0, 1, 2, 3, 4, 5, 6, 7, 8, 9, 10, 11] rfl
          have hD := hD.sub (ws' := [(mo, .inr (13, MF 30 u2)), (qx, .inl (cB, NN, .inl f)), (t, .inr (12, MF 13 (tw Td))), (Td.a0, .inl (cI, Td.N, .inl Td.kd)), (Td.a1, .inl (cL, Td.N, .inr (.inl Td.nu))), (Td.a2, .inl (cI, Td.N, .inl Td.st)), (Td.a3, .inl (cI, Td.N, .inl Td.ln)), (Td.a4, .inl (cI, Td.N, .inl Td.ki)), (Td.a5, .inl (cI, Td.N, .inl Td.nx)), (Td.a6, .inl (cI, Td.N, .inl Td.ns)), (Td.a7, .inl (cI, Td.N, .inl Td.nl)), (Td.a8, .inl (cI, Td.N, .inl Td.pa)), (Td.a9, .inl (cI, Td.N, .inl Td.pl)), (Td.au, .inl (cC, Td.U, .inl Td.un))]) [12, 13, 0, 1, 2, 3, 4, 5, 6, 7, 8, 9, 10, 11] (by decide) rfl
          rcases hw with ⟨ht1, ht2, ht3⟩ | ⟨ht1, ht2, ht3⟩
          · rw [rf_u7] at ht3
            rw [ht3] at hP hD
            subst ht2
            have hP : va_P (dC, dI) classes [(mo, .inr (13, MF 30 (rf v (j_Tb + 1) b_Tb))), (qx, .inl (cB, NN, .inl f)), (t, .inr (12, MF 13 (tw Td))), (Td.a0, .inl (cI, Td.N, .inl Td.kd)), (Td.a1, .inl (cL, Td.N, .inr (.inl Td.nu))), (Td.a2, .inl (cI, Td.N, .inl Td.st)), (Td.a3, .inl (cI, Td.N, .inl Td.ln)), (Td.a4, .inl (cI, Td.N, .inl Td.ki)), (Td.a5, .inl (cI, Td.N, .inl Td.nx)), (Td.a6, .inl (cI, Td.N, .inl Td.ns)), (Td.a7, .inl (cI, Td.N, .inl Td.nl)), (Td.a8, .inl (cI, Td.N, .inl Td.pa)), (Td.a9, .inl (cI, Td.N, .inl Td.pl)), (Td.au, .inl (cC, Td.U, .inl Td.un))] H := hP
            have hD : va_D A [(mo, .inr (13, MF 30 (rf v (j_Tb + 1) b_Tb))), (qx, .inl (cB, NN, .inl f)), (t, .inr (12, MF 13 (tw Td))), (Td.a0, .inl (cI, Td.N, .inl Td.kd)), (Td.a1, .inl (cL, Td.N, .inr (.inl Td.nu))), (Td.a2, .inl (cI, Td.N, .inl Td.st)), (Td.a3, .inl (cI, Td.N, .inl Td.ln)), (Td.a4, .inl (cI, Td.N, .inl Td.ki)), (Td.a5, .inl (cI, Td.N, .inl Td.nx)), (Td.a6, .inl (cI, Td.N, .inl Td.ns)), (Td.a7, .inl (cI, Td.N, .inl Td.nl)), (Td.a8, .inl (cI, Td.N, .inl Td.pa)), (Td.a9, .inl (cI, Td.N, .inl Td.pl)), (Td.au, .inl (cC, Td.U, .inl Td.un))] := hD
            refine lv_if_ne (tgt := 228) hx hb d_Mo_inside_223 (by decide) (fun _ => ?_) (fun h => absurd h (by decide))
            refine lv_goto (tgt := 38) hx hb d_Mo_inside_228 (by decide) ?_
            refine w_same (fun hq => ?_)
            refine W.widen (k := ncap T (T.ct + (n + 12 - (i + 1))) + qcap T (T.us + (n + 12 - (i + 1)))) (n := 20 * ncap T (T.ct + (n + 12 - (i + 1))) + 2 * qcap T (T.us + (n + 12 - (i + 1)))) hfit_Td.1 hfit_Td.2 ?_
            have hlt2 := here_in ht1 (by decide)
            have hst : pIn f n (pV f n r) 91 m0 (j_Tb + 1) (acc ++ [([], x_Tb)]) = pIn f n (pV f n r) 91 (n + 1) (skipH f n (i + 1)) [] := by rw [← hI5, hm0]; exact (pIn_step hNam hVal hncl ht1).symm
            exact ih (Td, acc ++ [([], x_Tb)], m0, (j_Tb + 1), b_Tb, nI Ta.ct) _ _ _ ⟨hKS2, hTB2, ⟨hTk_Td, hGB_Td⟩, by omega, by omega, by omega, by omega, by omega, hst, hq⟩ (by show n + 1 - (j_Tb + 1) < n + 1 - j; omega) hP hD hS (lv_sub hl [4, 5, 6, 7, 8, 0] rfl)
          · obtain ⟨b6, h_b6⟩ := rf_fail (v := v) (i := j_Tb) (br := b_Tb) (b2 := b_Tb) (wh := nI j_Tb)
            rw [h_b6] at ht3
            rw [ht3] at hP hD
            subst ht2
            have hP : va_P (dC, dI) classes [(mo, .inr (13, MF 30 (rf v j_Tb b6))), (qx, .inl (cB, NN, .inl f)), (t, .inr (12, MF 13 (tw Td))), (Td.a0, .inl (cI, Td.N, .inl Td.kd)), (Td.a1, .inl (cL, Td.N, .inr (.inl Td.nu))), (Td.a2, .inl (cI, Td.N, .inl Td.st)), (Td.a3, .inl (cI, Td.N, .inl Td.ln)), (Td.a4, .inl (cI, Td.N, .inl Td.ki)), (Td.a5, .inl (cI, Td.N, .inl Td.nx)), (Td.a6, .inl (cI, Td.N, .inl Td.ns)), (Td.a7, .inl (cI, Td.N, .inl Td.nl)), (Td.a8, .inl (cI, Td.N, .inl Td.pa)), (Td.a9, .inl (cI, Td.N, .inl Td.pl)), (Td.au, .inl (cC, Td.U, .inl Td.un))] H := hP
            have hD : va_D A [(mo, .inr (13, MF 30 (rf v j_Tb b6))), (qx, .inl (cB, NN, .inl f)), (t, .inr (12, MF 13 (tw Td))), (Td.a0, .inl (cI, Td.N, .inl Td.kd)), (Td.a1, .inl (cL, Td.N, .inr (.inl Td.nu))), (Td.a2, .inl (cI, Td.N, .inl Td.st)), (Td.a3, .inl (cI, Td.N, .inl Td.ln)), (Td.a4, .inl (cI, Td.N, .inl Td.ki)), (Td.a5, .inl (cI, Td.N, .inl Td.nx)), (Td.a6, .inl (cI, Td.N, .inl Td.ns)), (Td.a7, .inl (cI, Td.N, .inl Td.nl)), (Td.a8, .inl (cI, Td.N, .inl Td.pa)), (Td.a9, .inl (cI, Td.N, .inl Td.pl)), (Td.au, .inl (cC, Td.U, .inl Td.un))] := hD
            refine lv_if_ne (tgt := 228) hx hb d_Mo_inside_223 (by decide) (fun h => absurd h (by decide)) (fun _ => ?_)
            refine lv_iconst (v := 0) hx hb d_Mo_inside_226 (by decide) ?_
            have hfin : pInside f n (pV f n r) 91 i = none := by rw [hpi, ← hI5, hm0]; exact pIn_bad hNam hVal hncl ht1
            refine w_same (fun hq => ?_)
            refine W.widen (k := ncap T (T.ct + (n + 12 - (i + 1))) + qcap T (T.us + (n + 12 - (i + 1)))) (n := 20 * ncap T (T.ct + (n + 12 - (i + 1))) + 2 * qcap T (T.us + (n + 12 - (i + 1)))) hfit_Td.1 hfit_Td.2 ?_
            have hTG : TG n (i + 1) T Td := ⟨hTk_Td, hGB_Td⟩
            exact W.zret (v := 0) hx hb hr rfl (fun t9 ht hW => ⟨⟨0, (Td, j_Tb, b6), rfl, ⟨hTG, Or.inr ⟨rfl, hfin⟩⟩, ⟨by rw [ht]; exact hP, va_K.moved hW.alike hK, hD⟩, by rw [ht]; exact hq.mono (Nat.le_refl _) (Nat.le_refl _)⟩, hS.F ht⟩) hS.2.2 d_Mo_inside_227
        · refine lv_aload_n hx hb d_Mo_inside_205 rfl (lv_at hl 4 rfl) ?_
          refine lv_dup hx hb d_Mo_inside_206 rfl ?_
          refine va_get (D := (dC, dI)) (ci := 13) (v := .int (nI j_Tb)) (C := R_Mo) (T := F_Mo) (N := 30) hx hb hts in_Mo hown hK hP 0 rfl rfl 7 (by decide) (hts _ w_1096) (fun _ h9 => h9) (MFg (by decide) rf_7) d_Mo_inside_207 ?_
          refine lv_iconst (v := 1) hx hb d_Mo_inside_210 (by decide) ?_
          refine lv_iadd hx hb d_Mo_inside_211 ?_
          refine W.eq (g2 := F0 m 212 ls [.int (nI (j_Tb + 1)), .ref mo]) (by rw [show ((nI j_Tb) + 1) = (nI (j_Tb + 1)) from nI_1 _]) ?_
          refine va_put (D := (dC, dI)) (ci := 13) (v := .int (nI (j_Tb + 1))) (ty := .int) (C := R_Mo) (T := F_Mo) (N := 30) hx hb hts in_Mo t_Mo t_Mo_ok n_Mo hown hK hP hD hS 0 rfl rfl 7 (by decide) (hts _ w_1096) (fun _ h9 => h9) rfl (by decide +kernel) rfl rfl (by rw [MFl]; decide) d_Mo_inside_212 (fun H locs hP hD hS => ?_)
          rw [MFs (n := 30) (k := 7) (by decide)] at hP hD
          have hP : va_P (dC, dI) classes [(mo, .inr (13, MF 30 (va_up (rf v j_Tb b_Tb) 7 (.int (nI (j_Tb + 1)))))), (qx, .inl (cB, NN, .inl f)), (t, .inr (12, MF 13 (tw Td))), (Td.a0, .inl (cI, Td.N, .inl Td.kd)), (Td.a1, .inl (cL, Td.N, .inr (.inl Td.nu))), (Td.a2, .inl (cI, Td.N, .inl Td.st)), (Td.a3, .inl (cI, Td.N, .inl Td.ln)), (Td.a4, .inl (cI, Td.N, .inl Td.ki)), (Td.a5, .inl (cI, Td.N, .inl Td.nx)), (Td.a6, .inl (cI, Td.N, .inl Td.ns)), (Td.a7, .inl (cI, Td.N, .inl Td.nl)), (Td.a8, .inl (cI, Td.N, .inl Td.pa)), (Td.a9, .inl (cI, Td.N, .inl Td.pl)), (Td.au, .inl (cC, Td.U, .inl Td.un))] H := hP
          have hD : va_D A [(mo, .inr (13, MF 30 (va_up (rf v j_Tb b_Tb) 7 (.int (nI (j_Tb + 1)))))), (qx, .inl (cB, NN, .inl f)), (t, .inr (12, MF 13 (tw Td))), (Td.a0, .inl (cI, Td.N, .inl Td.kd)), (Td.a1, .inl (cL, Td.N, .inr (.inl Td.nu))), (Td.a2, .inl (cI, Td.N, .inl Td.st)), (Td.a3, .inl (cI, Td.N, .inl Td.ln)), (Td.a4, .inl (cI, Td.N, .inl Td.ki)), (Td.a5, .inl (cI, Td.N, .inl Td.nx)), (Td.a6, .inl (cI, Td.N, .inl Td.ns)), (Td.a7, .inl (cI, Td.N, .inl Td.nl)), (Td.a8, .inl (cI, Td.N, .inl Td.pa)), (Td.a9, .inl (cI, Td.N, .inl Td.pl)), (Td.au, .inl (cC, Td.U, .inl Td.un))] := hD
          rw [rf_u7] at hP hD
          have hP : va_P (dC, dI) classes [(mo, .inr (13, MF 30 (rf v (j_Tb + 1) b_Tb))), (qx, .inl (cB, NN, .inl f)), (t, .inr (12, MF 13 (tw Td))), (Td.a0, .inl (cI, Td.N, .inl Td.kd)), (Td.a1, .inl (cL, Td.N, .inr (.inl Td.nu))), (Td.a2, .inl (cI, Td.N, .inl Td.st)), (Td.a3, .inl (cI, Td.N, .inl Td.ln)), (Td.a4, .inl (cI, Td.N, .inl Td.ki)), (Td.a5, .inl (cI, Td.N, .inl Td.nx)), (Td.a6, .inl (cI, Td.N, .inl Td.ns)), (Td.a7, .inl (cI, Td.N, .inl Td.nl)), (Td.a8, .inl (cI, Td.N, .inl Td.pa)), (Td.a9, .inl (cI, Td.N, .inl Td.pl)), (Td.au, .inl (cC, Td.U, .inl Td.un))] H := hP
          have hD : va_D A [(mo, .inr (13, MF 30 (rf v (j_Tb + 1) b_Tb))), (qx, .inl (cB, NN, .inl f)), (t, .inr (12, MF 13 (tw Td))), (Td.a0, .inl (cI, Td.N, .inl Td.kd)), (Td.a1, .inl (cL, Td.N, .inr (.inl Td.nu))), (Td.a2, .inl (cI, Td.N, .inl Td.st)), (Td.a3, .inl (cI, Td.N, .inl Td.ln)), (Td.a4, .inl (cI, Td.N, .inl Td.ki)), (Td.a5, .inl (cI, Td.N, .inl Td.nx)), (Td.a6, .inl (cI, Td.N, .inl Td.ns)), (Td.a7, .inl (cI, Td.N, .inl Td.nl)), (Td.a8, .inl (cI, Td.N, .inl Td.pa)), (Td.a9, .inl (cI, Td.N, .inl Td.pl)), (Td.au, .inl (cC, Td.U, .inl Td.un))] := hD
          refine lv_iconst (v := 1) hx hb d_Mo_inside_215 (by decide) ?_
          have hcl : hereV f n j_Tb = clo 91 := h_r6.symm.trans c202
          have hlt9 := here_in (h_r6.symm.trans c202) (by decide)
          have hfin : pInside f n (pV f n r) 91 i = some (acc ++ [([], x_Tb)], j_Tb + 1) := by rw [hpi, ← hI5, hm0]; exact pIn_end hNam hVal hcl
          refine w_same (fun hq => ?_)
          refine W.widen (k := ncap T (T.ct + (n + 12 - (i + 1))) + qcap T (T.us + (n + 12 - (i + 1)))) (n := 20 * ncap T (T.ct + (n + 12 - (i + 1))) + 2 * qcap T (T.us + (n + 12 - (i + 1)))) hfit_Td.1 hfit_Td.2 ?_
          have hTG : TG n (i + 1) T Td := ⟨hTk_Td, hGB_Td⟩
          exact W.zret (v := 1) hx hb hr rfl (fun t9 ht hW => ⟨⟨1, (Td, (j_Tb + 1), b_Tb), rfl, ⟨hTG, Or.inl ⟨rfl, _, hfin, hKS2.all (by omega), hTB2, by show Td.ct + (i + 1) ≤ T.ct + (j_Tb + 1); omega, by show Td.us + (i + 1) ≤ T.us + (j_Tb + 1); omega, by show j_Tb + 1 ≤ n; omega⟩⟩, ⟨by rw [ht]; exact hP, va_K.moved hW.alike hK, hD⟩, by rw [ht]; exact hq.mono (Nat.le_refl _) (Nat.le_refl _)⟩, hS.F ht⟩) hS.2.2 d_Mo_inside_216
      · rw [hbf]
        have hPc := hP.sub (ws' := [(t, .inr (12, MF 13 (tw Tb))), (Tb.a4, .inl (cI, Tb.N, .inl Tb.ki)), (Tb.a5, .inl (cI, Tb.N, .inl Tb.nx)), (Tb.a8, .inl (cI, Tb.N, .inl Tb.pa))]) [2, 7, 8, 11] rfl
        have hDc := hD.sub (ws' := [(t, .inr (12, MF 13 (tw Tb))), (Tb.a4, .inl (cI, Tb.N, .inl Tb.ki)), (Tb.a5, .inl (cI, Tb.N, .inl Tb.nx)), (Tb.a8, .inl (cI, Tb.N, .inl Tb.pa))]) [2, 7, 8, 11] (by decide) rfl
        have hKc := hK.sub (tys' := [(cI, .int)]) [1] rfl
        have hFc := va_free (wc := [(t, .inr (12, MF 13 (tw Tb))), (Tb.a4, .inl (cI, Tb.N, .inl Tb.ki)), (Tb.a5, .inl (cI, Tb.N, .inl Tb.nx)), (Tb.a8, .inl (cI, Tb.N, .inl Tb.pa))]) hD hS hA [2, 7, 8, 11] rfl
        refine va_callv (va_runV (As := [.int (nI nd), .int (nI b9), .int (nI Ta.ct)]) (rest := []) ⟨hx, hb, hml, hown, hts⟩ (c_Tree_insertB l dC dI t H (tw Tb) cI Tb.a4 Tb.a5 Tb.a8 Tb.N nd Ta.ct b9 Tb.ki Tb.nx Tb.pa (by omega) (by omega) (by omega) (by omega) rfl rfl rfl) (cwV 3 hts (gt_V (own := R_Mo) (C := R_Tree) (i := 225) (y := y_Tree_insert) i_Tree_insert w_1358 w_1359 w_1360 w_8) rfl rfl rfl (by decide +kernel) ⟨Nat.le_trans (m := 9) (Nat.le_of_ble_eq_true rfl) (Nat.le_add_right 9 (2 * r)), Nat.le_trans (m := 330) (Nat.le_of_ble_eq_true rfl) (Nat.le_add_right 330 (80 * r))⟩) ⟨mp_blind, va_recv hKc hPc (ci := 12) (q0 := 0) rfl rfl, fun U hU hW => ⟨rfl, hU, by rw [hU]; exact hPc, va_K.moved hW.alike hKc, hDc.weaken (fun _ _ _ _ => trivial)⟩⟩ rfl rfl hl.1 rfl (lv_room (Nat.le_of_ble_eq_true rfl)) d_Mo_inside_189 ⟨hfit_Tb.1, hfit_Tb.2⟩) hS (fun q _ h => hFc q h) hFc (fun _u t9 H1 locs ht hvm hw hB hz1 hk1 hS => ?_)
        obtain ⟨hP1, hK1, hD1⟩ := hB
        rw [ht] at hP1
        obtain ⟨hP, hD⟩ := va_join (wr := [(mo, .inr (13, MF 30 (rf v j_Tb b_Tb))), (qx, .inl (cB, NN, .inl f)), (Tb.a0, .inl (cI, Tb.N, .inl Tb.kd)), (Tb.a1, .inl (cL, Tb.N, .inr (.inl Tb.nu))), (Tb.a2, .inl (cI, Tb.N, .inl Tb.st)), (Tb.a3, .inl (cI, Tb.N, .inl Tb.ln)), (Tb.a6, .inl (cI, Tb.N, .inl Tb.ns)), (Tb.a7, .inl (cI, Tb.N, .inl Tb.nl)), (Tb.a9, .inl (cI, Tb.N, .inl Tb.pl)), (Tb.au, .inl (cC, Tb.U, .inl Tb.un))]) (w1 := [(t, .inr (12, MF 13 (tw Tb))), (Tb.a4, .inl (cI, Tb.N, .inl Tb.ki)), (Tb.a5, .inl (cI, Tb.N, .inl (upd (upd Tb.nx Ta.ct (Tb.nx b9)) b9 (nI Ta.ct)))), (Tb.a8, .inl (cI, Tb.N, .inl (upd Tb.pa Ta.ct (nI nd))))]) hP hD [2, 7, 8, 11] [0, 1, 3, 4, 5, 6, 9, 10, 12, 13] rfl rfl (by decide) (by decide) hk1 hFc hP1 hD1
        generalize H1 = H at hP hS ⊢
        have hP : va_P (dC, dI) classes [(mo, .inr (13, MF 30 (rf v j_Tb b_Tb))), (qx, .inl (cB, NN, .inl f)), (Tb.a0, .inl (cI, Tb.N, .inl Tb.kd)), (Tb.a1, .inl (cL, Tb.N, .inr (.inl Tb.nu))), (Tb.a2, .inl (cI, Tb.N, .inl Tb.st)), (Tb.a3, .inl (cI, Tb.N, .inl Tb.ln)), (Tb.a6, .inl (cI, Tb.N, .inl Tb.ns)), (Tb.a7, .inl (cI, Tb.N, .inl Tb.nl)), (Tb.a9, .inl (cI, Tb.N, .inl Tb.pl)), (Tb.au, .inl (cC, Tb.U, .inl Tb.un)), (t, .inr (12, MF 13 (tw Tb))), (Tb.a4, .inl (cI, Tb.N, .inl Tb.ki)), (Tb.a5, .inl (cI, Tb.N, .inl (upd (upd Tb.nx Ta.ct (Tb.nx b9)) b9 (nI Ta.ct)))), (Tb.a8, .inl (cI, Tb.N, .inl (upd Tb.pa Ta.ct (nI nd))))] H := hP
        have hD : va_D A [(mo, .inr (13, MF 30 (rf v j_Tb b_Tb))), (qx, .inl (cB, NN, .inl f)), (Tb.a0, .inl (cI, Tb.N, .inl Tb.kd)), (Tb.a1, .inl (cL, Tb.N, .inr (.inl Tb.nu))), (Tb.a2, .inl (cI, Tb.N, .inl Tb.st)), (Tb.a3, .inl (cI, Tb.N, .inl Tb.ln)), (Tb.a6, .inl (cI, Tb.N, .inl Tb.ns)), (Tb.a7, .inl (cI, Tb.N, .inl Tb.nl)), (Tb.a9, .inl (cI, Tb.N, .inl Tb.pl)), (Tb.au, .inl (cC, Tb.U, .inl Tb.un)), (t, .inr (12, MF 13 (tw Tb))), (Tb.a4, .inl (cI, Tb.N, .inl Tb.ki)), (Tb.a5, .inl (cI, Tb.N, .inl (upd (upd Tb.nx Ta.ct (Tb.nx b9)) b9 (nI Ta.ct)))), (Tb.a8, .inl (cI, Tb.N, .inl (upd Tb.pa Ta.ct (nI nd))))] := hD
        have hP := hP.sub (ws' := [(mo, .inr (13, MF 30 (rf v j_Tb b_Tb))), (qx, .inl (cB, NN, .inl f)), (t, .inr (12, MF 13 (tw Tb))), (Tb.a0, .inl (cI, Tb.N, .inl Tb.kd)), (Tb.a1, .inl (cL, Tb.N, .inr (.inl Tb.nu))), (Tb.a2, .inl (cI, Tb.N, .inl Tb.st)), (Tb.a3, .inl (cI, Tb.N, .inl Tb.ln)), (Tb.a4, .inl (cI, Tb.N, .inl Tb.ki)), (Tb.a5, .inl (cI, Tb.N, .inl (upd (upd Tb.nx Ta.ct (Tb.nx b9)) b9 (nI Ta.ct)))), (Tb.a6, .inl (cI, Tb.N, .inl Tb.ns)), (Tb.a7, .inl (cI, Tb.N, .inl Tb.nl)), (Tb.a8, .inl (cI, Tb.N, .inl (upd Tb.pa Ta.ct (nI nd)))), (Tb.a9, .inl (cI, Tb.N, .inl Tb.pl)), (Tb.au, .inl (cC, Tb.U, .inl Tb.un))]) [0, 1, 10, 2, 3, 4, 5, 11, 12, 6, 7, 13, 8, 9] rfl
        have hD := hD.sub (ws' := [(mo, .inr (13, MF 30 (rf v j_Tb b_Tb))), (qx, .inl (cB, NN, .inl f)), (t, .inr (12, MF 13 (tw Tb))), (Tb.a0, .inl (cI, Tb.N, .inl Tb.kd)), (Tb.a1, .inl (cL, Tb.N, .inr (.inl Tb.nu))), (Tb.a2, .inl (cI, Tb.N, .inl Tb.st)), (Tb.a3, .inl (cI, Tb.N, .inl Tb.ln)), (Tb.a4, .inl (cI, Tb.N, .inl Tb.ki)), (Tb.a5, .inl (cI, Tb.N, .inl (upd (upd Tb.nx Ta.ct (Tb.nx b9)) b9 (nI Ta.ct)))), (Tb.a6, .inl (cI, Tb.N, .inl Tb.ns)), (Tb.a7, .inl (cI, Tb.N, .inl Tb.nl)), (Tb.a8, .inl (cI, Tb.N, .inl (upd Tb.pa Ta.ct (nI nd)))), (Tb.a9, .inl (cI, Tb.N, .inl Tb.pl)), (Tb.au, .inl (cC, Tb.U, .inl Tb.un))]) [0, 1, 10, 2, 3, 4, 5, 11, 12, 6, 7, 13, 8, 9] (by decide) rfl
        obtain ⟨Td, e_Td⟩ : ∃ z : TS, z = (TS.mk Tb.N Tb.U Tb.ct Tb.us Tb.a0 Tb.a1 Tb.a2 Tb.a3 Tb.a4 Tb.a5 Tb.a6 Tb.a7 Tb.a8 Tb.a9 Tb.au Tb.kd Tb.st Tb.ln Tb.ki (upd (upd Tb.nx Ta.ct (Tb.nx b9)) b9 (nI Ta.ct)) Tb.ns Tb.nl (upd Tb.pa Ta.ct (nI nd)) Tb.pl Tb.un Tb.nu) := ⟨_, rfl⟩
        have hP : va_P (dC, dI) classes [(mo, .inr (13, MF 30 (rf v j_Tb b_Tb))), (qx, .inl (cB, NN, .inl f)), (t, .inr (12, MF 13 (tw Td))), (Td.a0, .inl (cI, Td.N, .inl Td.kd)), (Td.a1, .inl (cL, Td.N, .inr (.inl Td.nu))), (Td.a2, .inl (cI, Td.N, .inl Td.st)), (Td.a3, .inl (cI, Td.N, .inl Td.ln)), (Td.a4, .inl (cI, Td.N, .inl Td.ki)), (Td.a5, .inl (cI, Td.N, .inl Td.nx)), (Td.a6, .inl (cI, Td.N, .inl Td.ns)), (Td.a7, .inl (cI, Td.N, .inl Td.nl)), (Td.a8, .inl (cI, Td.N, .inl Td.pa)), (Td.a9, .inl (cI, Td.N, .inl Td.pl)), (Td.au, .inl (cC, Td.U, .inl Td.un))] H := by subst e_Td; exact hP
        have hD : va_D A [(mo, .inr (13, MF 30 (rf v j_Tb b_Tb))), (qx, .inl (cB, NN, .inl f)), (t, .inr (12, MF 13 (tw Td))), (Td.a0, .inl (cI, Td.N, .inl Td.kd)), (Td.a1, .inl (cL, Td.N, .inr (.inl Td.nu))), (Td.a2, .inl (cI, Td.N, .inl Td.st)), (Td.a3, .inl (cI, Td.N, .inl Td.ln)), (Td.a4, .inl (cI, Td.N, .inl Td.ki)), (Td.a5, .inl (cI, Td.N, .inl Td.nx)), (Td.a6, .inl (cI, Td.N, .inl Td.ns)), (Td.a7, .inl (cI, Td.N, .inl Td.nl)), (Td.a8, .inl (cI, Td.N, .inl Td.pa)), (Td.a9, .inl (cI, Td.N, .inl Td.pl)), (Td.au, .inl (cC, Td.U, .inl Td.un))] := by subst e_Td; exact hD
        have hTd : Td.N = Tb.N ∧ Td.U = Tb.U ∧ Td.ct = Tb.ct ∧ Td.us = Tb.us ∧ Td.un = Tb.un ∧ Td.kd = Tb.kd ∧ Td.nu = Tb.nu ∧ Td.st = Tb.st ∧ Td.ln = Tb.ln ∧ Td.pa = upd Tb.pa Ta.ct (nI nd) ∧ Td.ki = Tb.ki ∧ Td.nx = upd (upd Tb.nx Ta.ct (Tb.nx b9)) b9 (nI Ta.ct) ∧ Td.ns = Tb.ns ∧ Td.nl = Tb.nl := by rw [e_Td]; exact ⟨rfl, rfl, rfl, rfl, rfl, rfl, rfl, rfl, rfl, rfl, rfl, rfl, rfl, rfl⟩
        obtain ⟨g1, g2, g3, g4, g5, g6, g7, g8, g9, g10, g11, g12, g13, g14⟩ := hTd
        have hTk_Td : TOK Td := by obtain ⟨q1, q2, q3, q4, q5, q6, q7⟩ := hTk_Tb; exact ⟨by omega, by omega, by omega, by omega, by omega, by omega, by rw [g5]; exact q7⟩
        have hau : alkU Tb Td := ⟨Nat.le_of_eq g4.symm, fun j9 _ => by rw [g5]⟩
        have hns : ∀ j9, j9 ≠ Ta.ct → Td.ns j9 = Tb.ns j9 := fun j9 h9 => by rw [g13]
        have hnl : ∀ j9, j9 ≠ Ta.ct → Td.nl j9 = Tb.nl j9 := fun j9 h9 => by rw [g14]
        have hpa : ∀ j9, j9 ≠ Ta.ct → Td.pa j9 = Tb.pa j9 := fun j9 h9 => by rw [g10]; exact pk_un h9
        have hki : ∀ j9, j9 ≠ nd → Td.ki j9 = Tb.ki j9 := fun j9 h9 => by rw [g11]
        have hnx : ∀ j9, j9 < T.ct → Td.nx j9 = Tb.nx j9 := fun j9 h9 => by rw [g12, pk_un (by omega), pk_un (by omega)]
        have hTB2 : TB T Td nd := ((hTB.te hnd hTEa).te hnd hv_4).ins hnd (kid := Ta.ct) (by omega) hau g3 g6 g7 g8 g9 hns hnl hpa hki hnx
        have hKb := hKa.fr hnd (by omega) (by omega) (by omega) hv_4
        have hKS2 : KS r ((91 : Int32) = 123) nd T.ct Td.ct Td (acc ++ [([], x_Tb)]) (nI Ta.ct) := by
          rw [g3]
          refine hKb.add hnd (by omega) (by omega) hv_3 hau g3 g6 g7 g8 g9 hns hnl g10 (fun h => absurd h (by decide)) ?_ ?_ ?_ (by omega) (by omega)
          · rw [if_neg (fun h => by rw [hbf] at h; exact absurd (show nI b9 < 0 by rw [h]; decide) (nI_pos (by omega)))]; exact g11
          · intro b8 h8 h7; rw [hbf] at h8; rw [← (nI_eq (by omega) (by omega)).mp h8]; exact g12
          · intro h; rw [hbf] at h; exact absurd (show nI b9 < 0 by rw [h]; decide) (nI_pos (by omega))
        refine w_same (fun hq => ?_)
        refine w_tight (k := cE T Td) (n := sE T Td) (by unfold cE sE at hq ⊢; rw [g1, g2]; exact hq) ?_
        have hGB_Td : GB (T.ct + (n + 12 - (i + 1))) (T.us + (n + 12 - (i + 1))) T Td := by unfold GB at hGB_Tb ⊢; rw [g1, g2]; exact hGB_Tb
        have hfit_Td := hGB_Td.fits
        refine lv_iload hx hb d_Mo_inside_192 (lv_at hl 0 rfl) ?_
        refine lv_istore (lv' := [(5, .int (nI Ta.ct)), (8, .int (nI Ta.ct)), (7, .int 0), (6, .int 0), (0, .ref mo), (1, .ref t), (2, .int (nI nd)), (3, .int (nI (31 - r))), (4, .int 93)]) hx hb d_Mo_inside_194 hl (by decide) rfl (fun ls hl => ?_)
        refine lv_aload_n hx hb d_Mo_inside_196 rfl (lv_at hl 4 rfl) ?_
        have hPc := hP.sub (ws' := [(mo, .inr (13, MF 30 (rf v j_Tb b_Tb))), (qx, .inl (cB, NN, .inl f))]) [0, 1] rfl
        have hDc := hD.sub (ws' := [(mo, .inr (13, MF 30 (rf v j_Tb b_Tb))), (qx, .inl (cB, NN, .inl f))]) [0, 1] (by decide) rfl
        have hKc := hK.sub (tys' := [(cB, .byte)]) [0] rfl
        have hFc := va_free (wc := [(mo, .inr (13, MF 30 (rf v j_Tb b_Tb))), (qx, .inl (cB, NN, .inl f))]) hD hS hA [0, 1] rfl
        refine va_calli (va_runV (As := []) (rest := []) ⟨hx, hb, hml, hown, hts⟩ (c_Mo_c l dC dI mo H (rf v j_Tb b_Tb) cB qx NN f n j_Tb (by omega) (by omega) (by omega) ((rf_ne (by decide) (by decide)).trans h6) rf_7 ((rf_ne (by decide) (by decide)).trans h8)) (cwV 0 hts (gt_V (own := R_Mo) (C := R_Mo) (i := 147) (y := y_Mo_c) i_Mo_c w_1233 w_1235 (gt_sel (y := y_Mo_c) (n := 30) (by decide +kernel)) w_7) rfl rfl rfl (by decide +kernel) ⟨Nat.le_trans (m := 9) (Nat.le_of_ble_eq_true rfl) (Nat.le_add_right 9 (2 * r)), Nat.le_trans (m := 330) (Nat.le_of_ble_eq_true rfl) (Nat.le_add_right 330 (80 * r))⟩) ⟨mp_blind, va_recv hKc hPc (ci := 13) (q0 := 0) rfl rfl, fun U hU hW => ⟨rfl, hU, by rw [hU]; exact hPc, va_K.moved hW.alike hKc, hDc.weaken (fun _ _ _ _ => trivial)⟩⟩ rfl rfl hl.1 rfl (lv_room (Nat.le_of_ble_eq_true rfl)) d_Mo_inside_197 ⟨hfit_Td.1, hfit_Td.2⟩) hS (fun q _ h => hFc q h) hFc (fun r6 _u t9 H1 locs ht hvm hw hB hz1 hk1 hS => ?_)
        obtain ⟨hP1, hK1, hD1⟩ := hB
        rw [ht] at hP1
        obtain ⟨hP, hD⟩ := va_join (wr := [(t, .inr (12, MF 13 (tw Td))), (Td.a0, .inl (cI, Td.N, .inl Td.kd)), (Td.a1, .inl (cL, Td.N, .inr (.inl Td.nu))), (Td.a2, .inl (cI, Td.N, .inl Td.st)), (Td.a3, .inl (cI, Td.N, .inl Td.ln)), (Td.a4, .inl (cI, Td.N, .inl Td.ki)), (Td.a5, .inl (cI, Td.N, .inl Td.nx)), (Td.a6, .inl (cI, Td.N, .inl Td.ns)), (Td.a7, .inl (cI, Td.N, .inl Td.nl)), (Td.a8, .inl (cI, Td.N, .inl Td.pa)), (Td.a9, .inl (cI, Td.N, .inl Td.pl)), (Td.au, .inl (cC, Td.U, .inl Td.un))]) (w1 := [(mo, .inr (13, MF 30 (rf v j_Tb b_Tb))), (qx, .inl (cB, NN, .inl f))]) hP hD [0, 1] [2, 3, 4, 5, 6, 7, 8, 9, 10, 11, 12, 13] rfl rfl (by decide) (by decide) hk1 hFc hP1 hD1
        generalize H1 = H at hP hS ⊢
        have hP : va_P (dC, dI) classes [(t, .inr (12, MF 13 (tw Td))), (Td.a0, .inl (cI, Td.N, .inl Td.kd)), (Td.a1, .inl (cL, Td.N, .inr (.inl Td.nu))), (Td.a2, .inl (cI, Td.N, .inl Td.st)), (Td.a3, .inl (cI, Td.N, .inl Td.ln)), (Td.a4, .inl (cI, Td.N, .inl Td.ki)), (Td.a5, .inl (cI, Td.N, .inl Td.nx)), (Td.a6, .inl (cI, Td.N, .inl Td.ns)), (Td.a7, .inl (cI, Td.N, .inl Td.nl)), (Td.a8, .inl (cI, Td.N, .inl Td.pa)), (Td.a9, .inl (cI, Td.N, .inl Td.pl)), (Td.au, .inl (cC, Td.U, .inl Td.un)), (mo, .inr (13, MF 30 (rf v j_Tb b_Tb))), (qx, .inl (cB, NN, .inl f))] H := hP
        have hD : va_D A [(t, .inr (12, MF 13 (tw Td))), (Td.a0, .inl (cI, Td.N, .inl Td.kd)), (Td.a1, .inl (cL, Td.N, .inr (.inl Td.nu))), (Td.a2, .inl (cI, Td.N, .inl Td.st)), (Td.a3, .inl (cI, Td.N, .inl Td.ln)), (Td.a4, .inl (cI, Td.N, .inl Td.ki)), (Td.a5, .inl (cI, Td.N, .inl Td.nx)), (Td.a6, .inl (cI, Td.N, .inl Td.ns)), (Td.a7, .inl (cI, Td.N, .inl Td.nl)), (Td.a8, .inl (cI, Td.N, .inl Td.pa)), (Td.a9, .inl (cI, Td.N, .inl Td.pl)), (Td.au, .inl (cC, Td.U, .inl Td.un)), (mo, .inr (13, MF 30 (rf v j_Tb b_Tb))), (qx, .inl (cB, NN, .inl f))] := hD
        have hP := hP.sub (ws' := [(mo, .inr (13, MF 30 (rf v j_Tb b_Tb))), (qx, .inl (cB, NN, .inl f)), (t, .inr (12, MF 13 (tw Td))), (Td.a0, .inl (cI, Td.N, .inl Td.kd)), (Td.a1, .inl (cL, Td.N, .inr (.inl Td.nu))), (Td.a2, .inl (cI, Td.N, .inl Td.st)), (Td.a3, .inl (cI, Td.N, .inl Td.ln)), (Td.a4, .inl (cI, Td.N, .inl Td.ki)), (Td.a5, .inl (cI, Td.N, .inl Td.nx)), (Td.a6, .inl (cI, Td.N, .inl Td.ns)), (Td.a7, .inl (cI, Td.N, .inl Td.nl)), (Td.a8, .inl (cI, Td.N, .inl Td.pa)), (Td.a9, .inl (cI, Td.N, .inl Td.pl)), (Td.au, .inl (cC, Td.U, .inl Td.un))]) [12, 13, 0, 1, 2, 3, 4, 5, 6, 7, 8, 9, 10, 11] rfl
        have hD := hD.sub (ws' := [(mo, .inr (13, MF 30 (rf v j_Tb b_Tb))), (qx, .inl (cB, NN, .inl f)), (t, .inr (12, MF 13 (tw Td))), (Td.a0, .inl (cI, Td.N, .inl Td.kd)), (Td.a1, .inl (cL, Td.N, .inr (.inl Td.nu))), (Td.a2, .inl (cI, Td.N, .inl Td.st)), (Td.a3, .inl (cI, Td.N, .inl Td.ln)), (Td.a4, .inl (cI, Td.N, .inl Td.ki)), (Td.a5, .inl (cI, Td.N, .inl Td.nx)), (Td.a6, .inl (cI, Td.N, .inl Td.ns)), (Td.a7, .inl (cI, Td.N, .inl Td.nl)), (Td.a8, .inl (cI, Td.N, .inl Td.pa)), (Td.a9, .inl (cI, Td.N, .inl Td.pl)), (Td.au, .inl (cC, Td.U, .inl Td.un))]) [12, 13, 0, 1, 2, 3, 4, 5, 6, 7, 8, 9, 10, 11] (by decide) rfl
        have h_r6 : r6 = hereV f n j_Tb := hw
        refine lv_iload hx hb d_Mo_inside_200 (lv_at hl 8 rfl) ?_
        refine lv_icmp_ne (tgt := 217) hx hb d_Mo_inside_202 (by decide) (fun c202 => ?_) (fun c202 => ?_)
        · have hncl : ¬ hereV f n j_Tb = clo 91 := fun h => c202 (h_r6.trans h)
          refine lv_aload_n hx hb d_Mo_inside_217 rfl (lv_at hl 4 rfl) ?_
          refine lv_bipush (v := 44) hx hb d_Mo_inside_218 (by decide) ?_
          have hPc := hP.sub (ws' := [(mo, .inr (13, MF 30 (rf v j_Tb b_Tb))), (qx, .inl (cB, NN, .inl f))]) [0, 1] rfl
          have hDc := hD.sub (ws' := [(mo, .inr (13, MF 30 (rf v j_Tb b_Tb))), (qx, .inl (cB, NN, .inl f))]) [0, 1] (by decide) rfl
          have hKc := hK.sub (tys' := [(cB, .byte)]) [0] rfl
          have hFc := va_free (wc := [(mo, .inr (13, MF 30 (rf v j_Tb b_Tb))), (qx, .inl (cB, NN, .inl f))]) hD hS hA [0, 1] rfl
          refine va_calli (va_runV (As := [.int 44]) (rest := []) ⟨hx, hb, hml, hown, hts⟩ (c_Mo_take l dC dI mo H (rf v j_Tb b_Tb) cB qx NN f n j_Tb (by omega) (by omega) (by omega) ((rf_ne (by decide) (by decide)).trans h6) rf_7 ((rf_ne (by decide) (by decide)).trans h8) b_Tb rf_9 44) (cwV 1 hts (gt_V (own := R_Mo) (C := R_Mo) (i := 163) (y := y_Mo_take) i_Mo_take w_1246 w_1248 (gt_sel (y := y_Mo_take) (n := 30) (by decide +kernel)) w_7) rfl rfl rfl (by decide +kernel) ⟨Nat.le_trans (m := 9) (Nat.le_of_ble_eq_true rfl) (Nat.le_add_right 9 (2 * r)), Nat.le_trans (m := 330) (Nat.le_of_ble_eq_true rfl) (Nat.le_add_right 330 (80 * r))⟩) ⟨mp_blind, va_recv hKc hPc (ci := 13) (q0 := 0) rfl rfl, fun U hU hW => ⟨rfl, hU, by rw [hU]; exact hPc, va_K.moved hW.alike hKc, hDc.weaken (fun _ _ _ _ => trivial)⟩⟩ rfl rfl hl.1 rfl (lv_room (Nat.le_of_ble_eq_true rfl)) d_Mo_inside_220 ⟨hfit_Td.1, hfit_Td.2⟩) hS (fun q _ h => hFc q h) hFc (fun r0 u2 t9 H1 locs ht hvm hw hB hz1 hk1 hS => ?_)
          obtain ⟨hP1, hK1, hD1⟩ := hB
          rw [ht] at hP1
          obtain ⟨hP, hD⟩ := va_join (wr := [(t, .inr (12, MF 13 (tw Td))), (Td.a0, .inl (cI, Td.N, .inl Td.kd)), (Td.a1, .inl (cL, Td.N, .inr (.inl Td.nu))), (Td.a2, .inl (cI, Td.N, .inl Td.st)), (Td.a3, .inl (cI, Td.N, .inl Td.ln)), (Td.a4, .inl (cI, Td.N, .inl Td.ki)), (Td.a5, .inl (cI, Td.N, .inl Td.nx)), (Td.a6, .inl (cI, Td.N, .inl Td.ns)), (Td.a7, .inl (cI, Td.N, .inl Td.nl)), (Td.a8, .inl (cI, Td.N, .inl Td.pa)), (Td.a9, .inl (cI, Td.N, .inl Td.pl)), (Td.au, .inl (cC, Td.U, .inl Td.un))]) (w1 := [(mo, .inr (13, MF 30 u2)), (qx, .inl (cB, NN, .inl f))]) hP hD [0, 1] [2, 3, 4, 5, 6, 7, 8, 9, 10, 11, 12, 13] rfl rfl (by decide) (by decide) hk1 hFc hP1 hD1
          generalize H1 = H at hP hS ⊢
          have hP : va_P (dC, dI) classes [(t, .inr (12, MF 13 (tw Td))), (Td.a0, .inl (cI, Td.N, .inl Td.kd)), (Td.a1, .inl (cL, Td.N, .inr (.inl Td.nu))), (Td.a2, .inl (cI, Td.N, .inl Td.st)), (Td.a3, .inl (cI, Td.N, .inl Td.ln)), (Td.a4, .inl (cI, Td.N, .inl Td.ki)), (Td.a5, .inl (cI, Td.N, .inl Td.nx)), (Td.a6, .inl (cI, Td.N, .inl Td.ns)), (Td.a7, .inl (cI, Td.N, .inl Td.nl)), (Td.a8, .inl (cI, Td.N, .inl Td.pa)), (Td.a9, .inl (cI, Td.N, .inl Td.pl)), (Td.au, .inl (cC, Td.U, .inl Td.un)), (mo, .inr (13, MF 30 u2)), (qx, .inl (cB, NN, .inl f))] H := hP
          have hD : va_D A [(t, .inr (12, MF 13 (tw Td))), (Td.a0, .inl (cI, Td.N, .inl Td.kd)), (Td.a1, .inl (cL, Td.N, .inr (.inl Td.nu))), (Td.a2, .inl (cI, Td.N, .inl Td.st)), (Td.a3, .inl (cI, Td.N, .inl Td.ln)), (Td.a4, .inl (cI, Td.N, .inl Td.ki)), (Td.a5, .inl (cI, Td.N, .inl Td.nx)), (Td.a6, .inl (cI, Td.N, .inl Td.ns)), (Td.a7, .inl (cI, Td.N, .inl Td.nl)), (Td.a8, .inl (cI, Td.N, .inl Td.pa)), (Td.a9, .inl (cI, Td.N, .inl Td.pl)), (Td.au, .inl (cC, Td.U, .inl Td.un)), (mo, .inr (13, MF 30 u2)), (qx, .inl (cB, NN, .inl f))] := hD
          have hP := hP.sub (ws' := [(mo, .inr (13, MF 30 u2)), (qx, .inl (cB, NN, .inl f)), (t, .inr (12, MF 13 (tw Td))), (Td.a0, .inl (cI, Td.N, .inl Td.kd)), (Td.a1, .inl (cL, Td.N, .inr (.inl Td.nu))), (Td.a2, .inl (cI, Td.N, .inl Td.st)), (Td.a3, .inl (cI, Td.N, .inl Td.ln)), (Td.a4, .inl (cI, Td.N, .inl Td.ki)), (Td.a5, .inl (cI, Td.N, .inl Td.nx)), (Td.a6, .inl (cI, Td.N, .inl Td.ns)), (Td.a7, .inl (cI, Td.N, .inl Td.nl)), (Td.a8, .inl (cI, Td.N, .inl Td.pa)), (Td.a9, .inl (cI, Td.N, .inl Td.pl)), (Td.au, .inl (cC, Td.U, .inl Td.un))]) [12, 13, 0, 1, 2, 3, 4, 5, 6, 7, 8, 9, 10, 11] rfl
          have hD := hD.sub (ws' := [(mo, .inr (13, MF 30 u2)), (qx, .inl (cB, NN, .inl f)), (t, .inr (12, MF 13 (tw Td))), (Td.a0, .inl (cI, Td.N, .inl Td.kd)), (Td.a1, .inl (cL, Td.N, .inr (.inl Td.nu))), (Td.a2, .inl (cI, Td.N, .inl Td.st)), (Td.a3, .inl (cI, Td.N, .inl Td.ln)), (Td.a4, .inl (cI, Td.N, .inl Td.ki)), (Td.a5, .inl (cI, Td.N, .inl Td.nx)), (Td.a6, .inl (cI, Td.N, .inl Td.ns)), (Td.a7, .inl (cI, Td.N, .inl Td.nl)), (Td.a8, .inl (cI, Td.N, .inl Td.pa)), (Td.a9, .inl (cI, Td.N, .inl Td.pl)), (Td.au, .inl (cC, Td.U, .inl Td.un))]) [12, 13, 0, 1, 2, 3, 4, 5, 6, 7, 8, 9, 10, 11] (by decide) rfl
          rcases hw with ⟨ht1, ht2, ht3⟩ | ⟨ht1, ht2, ht3⟩
          · rw [rf_u7] at ht3
            rw [ht3] at hP hD
            subst ht2
            have hP : va_P (dC, dI) classes [(mo, .inr (13, MF 30 (rf v (j_Tb + 1) b_Tb))), (qx, .inl (cB, NN, .inl f)), (t, .inr (12, MF 13 (tw Td))), (Td.a0, .inl (cI, Td.N, .inl Td.kd)), (Td.a1, .inl (cL, Td.N, .inr (.inl Td.nu))), (Td.a2, .inl (cI, Td.N, .inl Td.st)), (Td.a3, .inl (cI, Td.N, .inl Td.ln)), (Td.a4, .inl (cI, Td.N, .inl Td.ki)), (Td.a5, .inl (cI, Td.N, .inl Td.nx)), (Td.a6, .inl (cI, Td.N, .inl Td.ns)), (Td.a7, .inl (cI, Td.N, .inl Td.nl)), (Td.a8, .inl (cI, Td.N, .inl Td.pa)), (Td.a9, .inl (cI, Td.N, .inl Td.pl)), (Td.au, .inl (cC, Td.U, .inl Td.un))] H := hP
            have hD : va_D A [(mo, .inr (13, MF 30 (rf v (j_Tb + 1) b_Tb))), (qx, .inl (cB, NN, .inl f)), (t, .inr (12, MF 13 (tw Td))), (Td.a0, .inl (cI, Td.N, .inl Td.kd)), (Td.a1, .inl (cL, Td.N, .inr (.inl Td.nu))), (Td.a2, .inl (cI, Td.N, .inl Td.st)), (Td.a3, .inl (cI, Td.N, .inl Td.ln)), (Td.a4, .inl (cI, Td.N, .inl Td.ki)), (Td.a5, .inl (cI, Td.N, .inl Td.nx)), (Td.a6, .inl (cI, Td.N, .inl Td.ns)), (Td.a7, .inl (cI, Td.N, .inl Td.nl)), (Td.a8, .inl (cI, Td.N, .inl Td.pa)), (Td.a9, .inl (cI, Td.N, .inl Td.pl)), (Td.au, .inl (cC, Td.U, .inl Td.un))] := hD
            refine lv_if_ne (tgt := 228) hx hb d_Mo_inside_223 (by decide) (fun _ => ?_) (fun h => absurd h (by decide))
            refine lv_goto (tgt := 38) hx hb d_Mo_inside_228 (by decide) ?_
            refine w_same (fun hq => ?_)
            refine W.widen (k := ncap T (T.ct + (n + 12 - (i + 1))) + qcap T (T.us + (n + 12 - (i + 1)))) (n := 20 * ncap T (T.ct + (n + 12 - (i + 1))) + 2 * qcap T (T.us + (n + 12 - (i + 1)))) hfit_Td.1 hfit_Td.2 ?_
            have hlt2 := here_in ht1 (by decide)
            have hst : pIn f n (pV f n r) 91 m0 (j_Tb + 1) (acc ++ [([], x_Tb)]) = pIn f n (pV f n r) 91 (n + 1) (skipH f n (i + 1)) [] := by rw [← hI5, hm0]; exact (pIn_step hNam hVal hncl ht1).symm
            exact ih (Td, acc ++ [([], x_Tb)], m0, (j_Tb + 1), b_Tb, nI Ta.ct) _ _ _ ⟨hKS2, hTB2, ⟨hTk_Td, hGB_Td⟩, by omega, by omega, by omega, by omega, by omega, hst, hq⟩ (by show n + 1 - (j_Tb + 1) < n + 1 - j; omega) hP hD hS (lv_sub hl [4, 5, 6, 7, 8, 0] rfl)
          · obtain ⟨b6, h_b6⟩ := rf_fail (v := v) (i := j_Tb) (br := b_Tb) (b2 := b_Tb) (wh := nI j_Tb)
            rw [h_b6] at ht3
            rw [ht3] at hP hD
            subst ht2
            have hP : va_P (dC, dI) classes [(mo, .inr (13, MF 30 (rf v j_Tb b6))), (qx, .inl (cB, NN, .inl f)), (t, .inr (12, MF 13 (tw Td))), (Td.a0, .inl (cI, Td.N, .inl Td.kd)), (Td.a1, .inl (cL, Td.N, .inr (.inl Td.nu))), (Td.a2, .inl (cI, Td.N, .inl Td.st)), (Td.a3, .inl (cI, Td.N, .inl Td.ln)), (Td.a4, .inl (cI, Td.N, .inl Td.ki)), (Td.a5, .inl (cI, Td.N, .inl Td.nx)), (Td.a6, .inl (cI, Td.N, .inl Td.ns)), (Td.a7, .inl (cI, Td.N, .inl Td.nl)), (Td.a8, .inl (cI, Td.N, .inl Td.pa)), (Td.a9, .inl (cI, Td.N, .inl Td.pl)), (Td.au, .inl (cC, Td.U, .inl Td.un))] H := hP
            have hD : va_D A [(mo, .inr (13, MF 30 (rf v j_Tb b6))), (qx, .inl (cB, NN, .inl f)), (t, .inr (12, MF 13 (tw Td))), (Td.a0, .inl (cI, Td.N, .inl Td.kd)), (Td.a1, .inl (cL, Td.N, .inr (.inl Td.nu))), (Td.a2, .inl (cI, Td.N, .inl Td.st)), (Td.a3, .inl (cI, Td.N, .inl Td.ln)), (Td.a4, .inl (cI, Td.N, .inl Td.ki)), (Td.a5, .inl (cI, Td.N, .inl Td.nx)), (Td.a6, .inl (cI, Td.N, .inl Td.ns)), (Td.a7, .inl (cI, Td.N, .inl Td.nl)), (Td.a8, .inl (cI, Td.N, .inl Td.pa)), (Td.a9, .inl (cI, Td.N, .inl Td.pl)), (Td.au, .inl (cC, Td.U, .inl Td.un))] := hD
            refine lv_if_ne (tgt := 228) hx hb d_Mo_inside_223 (by decide) (fun h => absurd h (by decide)) (fun _ => ?_)
            refine lv_iconst (v := 0) hx hb d_Mo_inside_226 (by decide) ?_
            have hfin : pInside f n (pV f n r) 91 i = none := by rw [hpi, ← hI5, hm0]; exact pIn_bad hNam hVal hncl ht1
            refine w_same (fun hq => ?_)
            refine W.widen (k := ncap T (T.ct + (n + 12 - (i + 1))) + qcap T (T.us + (n + 12 - (i + 1)))) (n := 20 * ncap T (T.ct + (n + 12 - (i + 1))) + 2 * qcap T (T.us + (n + 12 - (i + 1)))) hfit_Td.1 hfit_Td.2 ?_
            have hTG : TG n (i + 1) T Td := ⟨hTk_Td, hGB_Td⟩
            exact W.zret (v := 0) hx hb hr rfl (fun t9 ht hW => ⟨⟨0, (Td, j_Tb, b6), rfl, ⟨hTG, Or.inr ⟨rfl, hfin⟩⟩, ⟨by rw [ht]; exact hP, va_K.moved hW.alike hK, hD⟩, by rw [ht]; exact hq.mono (Nat.le_refl _) (Nat.le_refl _)⟩, hS.F ht⟩) hS.2.2 d_Mo_inside_227
        · refine lv_aload_n hx hb d_Mo_inside_205 rfl (lv_at hl 4 rfl) ?_
          refine lv_dup hx hb d_Mo_inside_206 rfl ?_
          refine va_get (D := (dC, dI)) (ci := 13) (v := .int (nI j_Tb)) (C := R_Mo) (T := F_Mo) (N := 30) hx hb hts in_Mo hown hK hP 0 rfl rfl 7 (by decide) (hts _ w_1096) (fun _ h9 => h9) (MFg (by decide) rf_7) d_Mo_inside_207 ?_
          refine lv_iconst (v := 1) hx hb d_Mo_inside_210 (by decide) ?_
          refine lv_iadd hx hb d_Mo_inside_211 ?_
          refine W.eq (g2 := F0 m 212 ls [.int (nI (j_Tb + 1)), .ref mo]) (by rw [show ((nI j_Tb) + 1) = (nI (j_Tb + 1)) from nI_1 _]) ?_
          refine va_put (D := (dC, dI)) (ci := 13) (v := .int (nI (j_Tb + 1))) (ty := .int) (C := R_Mo) (T := F_Mo) (N := 30) hx hb hts in_Mo t_Mo t_Mo_ok n_Mo hown hK hP hD hS 0 rfl rfl 7 (by decide) (hts _ w_1096) (fun _ h9 => h9) rfl (by decide +kernel) rfl rfl (by rw [MFl]; decide) d_Mo_inside_212 (fun H locs hP hD hS => ?_)
          rw [MFs (n := 30) (k := 7) (by decide)] at hP hD
          have hP : va_P (dC, dI) classes [(mo, .inr (13, MF 30 (va_up (rf v j_Tb b_Tb) 7 (.int (nI (j_Tb + 1)))))), (qx, .inl (cB, NN, .inl f)), (t, .inr (12, MF 13 (tw Td))), (Td.a0, .inl (cI, Td.N, .inl Td.kd)), (Td.a1, .inl (cL, Td.N, .inr (.inl Td.nu))), (Td.a2, .inl (cI, Td.N, .inl Td.st)), (Td.a3, .inl (cI, Td.N, .inl Td.ln)), (Td.a4, .inl (cI, Td.N, .inl Td.ki)), (Td.a5, .inl (cI, Td.N, .inl Td.nx)), (Td.a6, .inl (cI, Td.N, .inl Td.ns)), (Td.a7, .inl (cI, Td.N, .inl Td.nl)), (Td.a8, .inl (cI, Td.N, .inl Td.pa)), (Td.a9, .inl (cI, Td.N, .inl Td.pl)), (Td.au, .inl (cC, Td.U, .inl Td.un))] H := hP
          have hD : va_D A [(mo, .inr (13, MF 30 (va_up (rf v j_Tb b_Tb) 7 (.int (nI (j_Tb + 1)))))), (qx, .inl (cB, NN, .inl f)), (t, .inr (12, MF 13 (tw Td))), (Td.a0, .inl (cI, Td.N, .inl Td.kd)), (Td.a1, .inl (cL, Td.N, .inr (.inl Td.nu))), (Td.a2, .inl (cI, Td.N, .inl Td.st)), (Td.a3, .inl (cI, Td.N, .inl Td.ln)), (Td.a4, .inl (cI, Td.N, .inl Td.ki)), (Td.a5, .inl (cI, Td.N, .inl Td.nx)), (Td.a6, .inl (cI, Td.N, .inl Td.ns)), (Td.a7, .inl (cI, Td.N, .inl Td.nl)), (Td.a8, .inl (cI, Td.N, .inl Td.pa)), (Td.a9, .inl (cI, Td.N, .inl Td.pl)), (Td.au, .inl (cC, Td.U, .inl Td.un))] := hD
          rw [rf_u7] at hP hD
          have hP : va_P (dC, dI) classes [(mo, .inr (13, MF 30 (rf v (j_Tb + 1) b_Tb))), (qx, .inl (cB, NN, .inl f)), (t, .inr (12, MF 13 (tw Td))), (Td.a0, .inl (cI, Td.N, .inl Td.kd)), (Td.a1, .inl (cL, Td.N, .inr (.inl Td.nu))), (Td.a2, .inl (cI, Td.N, .inl Td.st)), (Td.a3, .inl (cI, Td.N, .inl Td.ln)), (Td.a4, .inl (cI, Td.N, .inl Td.ki)), (Td.a5, .inl (cI, Td.N, .inl Td.nx)), (Td.a6, .inl (cI, Td.N, .inl Td.ns)), (Td.a7, .inl (cI, Td.N, .inl Td.nl)), (Td.a8, .inl (cI, Td.N, .inl Td.pa)), (Td.a9, .inl (cI, Td.N, .inl Td.pl)), (Td.au, .inl (cC, Td.U, .inl Td.un))] H := hP
          have hD : va_D A [(mo, .inr (13, MF 30 (rf v (j_Tb + 1) b_Tb))), (qx, .inl (cB, NN, .inl f)), (t, .inr (12, MF 13 (tw Td))), (Td.a0, .inl (cI, Td.N, .inl Td.kd)), (Td.a1, .inl (cL, Td.N, .inr (.inl Td.nu))), (Td.a2, .inl (cI, Td.N, .inl Td.st)), (Td.a3, .inl (cI, Td.N, .inl Td.ln)), (Td.a4, .inl (cI, Td.N, .inl Td.ki)), (Td.a5, .inl (cI, Td.N, .inl Td.nx)), (Td.a6, .inl (cI, Td.N, .inl Td.ns)), (Td.a7, .inl (cI, Td.N, .inl Td.nl)), (Td.a8, .inl (cI, Td.N, .inl Td.pa)), (Td.a9, .inl (cI, Td.N, .inl Td.pl)), (Td.au, .inl (cC, Td.U, .inl Td.un))] := hD
          refine lv_iconst (v := 1) hx hb d_Mo_inside_215 (by decide) ?_
          have hcl : hereV f n j_Tb = clo 91 := h_r6.symm.trans c202
          have hlt9 := here_in (h_r6.symm.trans c202) (by decide)
          have hfin : pInside f n (pV f n r) 91 i = some (acc ++ [([], x_Tb)], j_Tb + 1) := by rw [hpi, ← hI5, hm0]; exact pIn_end hNam hVal hcl
          refine w_same (fun hq => ?_)
          refine W.widen (k := ncap T (T.ct + (n + 12 - (i + 1))) + qcap T (T.us + (n + 12 - (i + 1)))) (n := 20 * ncap T (T.ct + (n + 12 - (i + 1))) + 2 * qcap T (T.us + (n + 12 - (i + 1)))) hfit_Td.1 hfit_Td.2 ?_
          have hTG : TG n (i + 1) T Td := ⟨hTk_Td, hGB_Td⟩
          exact W.zret (v := 1) hx hb hr rfl (fun t9 ht hW => ⟨⟨1, (Td, (j_Tb + 1), b_Tb), rfl, ⟨hTG, Or.inl ⟨rfl, _, hfin, hKS2.all (by omega), hTB2, by show Td.ct + (i + 1) ≤ T.ct + (j_Tb + 1); omega, by show Td.us + (i + 1) ≤ T.us + (j_Tb + 1); omega, by show j_Tb + 1 ≤ n; omega⟩⟩, ⟨by rw [ht]; exact hP, va_K.moved hW.alike hK, hD⟩, by rw [ht]; exact hq.mono (Nat.le_refl _) (Nat.le_refl _)⟩, hS.F ht⟩) hS.2.2 d_Mo_inside_216
    · subst hv_1
      have hfit_Tb := hGB_Tb.fits
      refine lv_istore (lv' := [(8, .int (-1)), (7, .int 0), (6, .int 0), (0, .ref mo), (1, .ref t), (2, .int (nI nd)), (3, .int (nI (31 - r))), (4, .int 93), (5, .int bf)]) hx hb d_Mo_inside_149 hl (by decide) rfl (fun ls hl => ?_)
      refine lv_iload hx hb d_Mo_inside_151 (lv_at hl 0 rfl) ?_
      refine lv_if_ge (tgt := 158) hx hb d_Mo_inside_153 (by decide) (fun h => absurd h (by decide)) (fun _ => ?_)
      refine lv_iconst (v := 0) hx hb d_Mo_inside_156 (by decide) ?_
      have hfin : pInside f n (pV f n r) 91 i = none := by rw [hpi, ← hI5, hm0]; exact pIn_v hNam hv_2
      refine w_same (fun hq => ?_)
      refine W.widen (k := ncap T (T.ct + (n + 12 - (i + 1))) + qcap T (T.us + (n + 12 - (i + 1)))) (n := 20 * ncap T (T.ct + (n + 12 - (i + 1))) + 2 * qcap T (T.us + (n + 12 - (i + 1)))) hfit_Tb.1 hfit_Tb.2 ?_
      have hTG : TG n (i + 1) T Tb := ⟨hTk_Tb, hGB_Tb⟩
      exact W.zret (v := 0) hx hb hr rfl (fun t9 ht hW => ⟨⟨0, (Tb, j_Tb, b_Tb), rfl, ⟨hTG, Or.inr ⟨rfl, hfin⟩⟩, ⟨by rw [ht]; exact hP, va_K.moved hW.alike hK, hD⟩, by rw [ht]; exact hq.mono (Nat.le_refl _) (Nat.le_refl _)⟩, hS.F ht⟩) hS.2.2 d_Mo_inside_157
  · refine lv_aload_n hx hb d_Mo_inside_23 rfl (lv_at hl 0 rfl) ?_
    refine lv_dup hx hb d_Mo_inside_24 rfl ?_
    refine va_get (D := (dC, dI)) (ci := 13) (v := .int (nI (skipH f n (i + 1)))) (C := R_Mo) (T := F_Mo) (N := 30) hx hb hts in_Mo hown hK hP 0 rfl rfl 7 (by decide) (hts _ w_1096) (fun _ h9 => h9) (MFg (by decide) rf_7) d_Mo_inside_25 ?_
    refine lv_iconst (v := 1) hx hb d_Mo_inside_28 (by decide) ?_
    refine lv_iadd hx hb d_Mo_inside_29 ?_
    refine W.eq (g2 := F0 m 30 ls [.int (nI ((skipH f n (i + 1)) + 1)), .ref mo]) (by rw [show ((nI (skipH f n (i + 1))) + 1) = (nI ((skipH f n (i + 1)) + 1)) from nI_1 _]) ?_
    refine va_put (D := (dC, dI)) (ci := 13) (v := .int (nI ((skipH f n (i + 1)) + 1))) (ty := .int) (C := R_Mo) (T := F_Mo) (N := 30) hx hb hts in_Mo t_Mo t_Mo_ok n_Mo hown hK hP hD hS 0 rfl rfl 7 (by decide) (hts _ w_1096) (fun _ h9 => h9) rfl (by decide +kernel) rfl rfl (by rw [MFl]; decide) d_Mo_inside_30 (fun H locs hP hD hS => ?_)
    rw [MFs (n := 30) (k := 7) (by decide)] at hP hD
    have hP : va_P (dC, dI) classes [(mo, .inr (13, MF 30 (va_up (rf v (skipH f n (i + 1)) br) 7 (.int (nI ((skipH f n (i + 1)) + 1)))))), (qx, .inl (cB, NN, .inl f)), (t, .inr (12, MF 13 (tw T))), (T.a0, .inl (cI, T.N, .inl T.kd)), (T.a1, .inl (cL, T.N, .inr (.inl T.nu))), (T.a2, .inl (cI, T.N, .inl T.st)), (T.a3, .inl (cI, T.N, .inl T.ln)), (T.a4, .inl (cI, T.N, .inl T.ki)), (T.a5, .inl (cI, T.N, .inl T.nx)), (T.a6, .inl (cI, T.N, .inl T.ns)), (T.a7, .inl (cI, T.N, .inl T.nl)), (T.a8, .inl (cI, T.N, .inl T.pa)), (T.a9, .inl (cI, T.N, .inl T.pl)), (T.au, .inl (cC, T.U, .inl T.un))] H := hP
    have hD : va_D A [(mo, .inr (13, MF 30 (va_up (rf v (skipH f n (i + 1)) br) 7 (.int (nI ((skipH f n (i + 1)) + 1)))))), (qx, .inl (cB, NN, .inl f)), (t, .inr (12, MF 13 (tw T))), (T.a0, .inl (cI, T.N, .inl T.kd)), (T.a1, .inl (cL, T.N, .inr (.inl T.nu))), (T.a2, .inl (cI, T.N, .inl T.st)), (T.a3, .inl (cI, T.N, .inl T.ln)), (T.a4, .inl (cI, T.N, .inl T.ki)), (T.a5, .inl (cI, T.N, .inl T.nx)), (T.a6, .inl (cI, T.N, .inl T.ns)), (T.a7, .inl (cI, T.N, .inl T.nl)), (T.a8, .inl (cI, T.N, .inl T.pa)), (T.a9, .inl (cI, T.N, .inl T.pl)), (T.au, .inl (cC, T.U, .inl T.un))] := hD
    rw [rf_u7] at hP hD
    have hP : va_P (dC, dI) classes [(mo, .inr (13, MF 30 (rf v ((skipH f n (i + 1)) + 1) br))), (qx, .inl (cB, NN, .inl f)), (t, .inr (12, MF 13 (tw T))), (T.a0, .inl (cI, T.N, .inl T.kd)), (T.a1, .inl (cL, T.N, .inr (.inl T.nu))), (T.a2, .inl (cI, T.N, .inl T.st)), (T.a3, .inl (cI, T.N, .inl T.ln)), (T.a4, .inl (cI, T.N, .inl T.ki)), (T.a5, .inl (cI, T.N, .inl T.nx)), (T.a6, .inl (cI, T.N, .inl T.ns)), (T.a7, .inl (cI, T.N, .inl T.nl)), (T.a8, .inl (cI, T.N, .inl T.pa)), (T.a9, .inl (cI, T.N, .inl T.pl)), (T.au, .inl (cC, T.U, .inl T.un))] H := hP
    have hD : va_D A [(mo, .inr (13, MF 30 (rf v ((skipH f n (i + 1)) + 1) br))), (qx, .inl (cB, NN, .inl f)), (t, .inr (12, MF 13 (tw T))), (T.a0, .inl (cI, T.N, .inl T.kd)), (T.a1, .inl (cL, T.N, .inr (.inl T.nu))), (T.a2, .inl (cI, T.N, .inl T.st)), (T.a3, .inl (cI, T.N, .inl T.ln)), (T.a4, .inl (cI, T.N, .inl T.ki)), (T.a5, .inl (cI, T.N, .inl T.nx)), (T.a6, .inl (cI, T.N, .inl T.ns)), (T.a7, .inl (cI, T.N, .inl T.nl)), (T.a8, .inl (cI, T.N, .inl T.pa)), (T.a9, .inl (cI, T.N, .inl T.pl)), (T.au, .inl (cC, T.U, .inl T.un))] := hD
    refine lv_iconst (v := 1) hx hb d_Mo_inside_33 (by decide) ?_
    have hlt9 := here_in (h_r1.symm.trans c20) (by decide)
    refine w_same (fun hq => ?_)
    refine W.widen (k := ncap T (T.ct + (n + 12 - (i + 1))) + qcap T (T.us + (n + 12 - (i + 1)))) (n := 20 * ncap T (T.ct + (n + 12 - (i + 1))) + 2 * qcap T (T.us + (n + 12 - (i + 1)))) (Nat.zero_le _) (Nat.zero_le _) ?_
    have hTG : TG n (i + 1) T T := ⟨hT0, GB.rf⟩
    exact W.zret (v := 1) hx hb hr rfl (fun t9 ht hW => ⟨⟨1, (T, ((skipH f n (i + 1)) + 1), br), rfl, ⟨hTG, Or.inl ⟨rfl, [], by unfold pInside; rw [show clo 91 = 93 from by decide, if_pos (h_r1.symm.trans c20)], hki0, TB.rf, by show T.ct + (i + 1) ≤ T.ct + ((skipH f n (i + 1)) + 1); omega, by show T.us + (i + 1) ≤ T.us + ((skipH f n (i + 1)) + 1); omega, by show ((skipH f n (i + 1)) + 1) ≤ n; omega⟩⟩, ⟨by rw [ht]; exact hP, va_K.moved hW.alike hK, hD⟩, by rw [ht]; exact hq.mono (Nat.zero_le _) (Nat.zero_le _)⟩, hS.F ht⟩) hS.2.2 d_Mo_inside_34
set_option maxHeartbeats 4000000 in
set_option maxRecDepth 100000 in
/-- the reference: inside, of a map -/
theorem c_insideO (r : Nat) (hr32 : r ≤ 31) (hVC : VC r) : IC r 123 := by
  intro l dC dI mo sz v cB cI cL cC qx NN f n K t T i br nd hnN hNN hi0 h6 h8 hT hcu hcc hnd hki0
  rw [show clo 123 = 125 from by decide]
  refine Met.ofW (cc := b_Mo_inside) (maxL := 9) (ret := (some .boolean)) (by decide) rfl ?_
  intro p e s m args below meth c s₁ B hml hv
  obtain ⟨rfl, ⟨hsz, hP, hK, hD0⟩, hM⟩ := hv
  have hx := B.exec
  have hb := B.bytes
  have hr := B.returns
  have hts0 := atoms_spec (ws := k_Mo_inside :: gtbl) B.pre
  have hts := fun w h => hts0 w (List.mem_cons_of_mem _ h)
  have hown : s.vm.findClass R_Mo = some m.cls := findClass_of_methodNamed B.named
  have hlocks := B.notSynchronized
  subst hsz
  have hD := hD0.self (sz := s.heap.size)
  generalize hAe : va_A [(mo, .inr (13, MF 30 (rf v i br))), (qx, .inl (cB, NN, .inl f)), (t, .inr (12, MF 13 (tw T))), (T.a0, .inl (cI, T.N, .inl T.kd)), (T.a1, .inl (cL, T.N, .inr (.inl T.nu))), (T.a2, .inl (cI, T.N, .inl T.st)), (T.a3, .inl (cI, T.N, .inl T.ln)), (T.a4, .inl (cI, T.N, .inl T.ki)), (T.a5, .inl (cI, T.N, .inl T.nx)), (T.a6, .inl (cI, T.N, .inl T.ns)), (T.a7, .inl (cI, T.N, .inl T.nl)), (T.a8, .inl (cI, T.N, .inl T.pa)), (T.a9, .inl (cI, T.N, .inl T.pl)), (T.au, .inl (cC, T.U, .inl T.un))] s.heap.size = A at hD hM ⊢
  have hA : ∀ q : Nat, s.heap.size ≤ q → A q := fun q h => by rw [← hAe]; exact Or.inr h
  have hS : va_S A s.heap s.heap [] := va_S.rf
  have hP : va_P (dC, dI) classes [(mo, .inr (13, MF 30 (rf v i br))), (qx, .inl (cB, NN, .inl f)), (t, .inr (12, MF 13 (tw T))), (T.a0, .inl (cI, T.N, .inl T.kd)), (T.a1, .inl (cL, T.N, .inr (.inl T.nu))), (T.a2, .inl (cI, T.N, .inl T.st)), (T.a3, .inl (cI, T.N, .inl T.ln)), (T.a4, .inl (cI, T.N, .inl T.ki)), (T.a5, .inl (cI, T.N, .inl T.nx)), (T.a6, .inl (cI, T.N, .inl T.ns)), (T.a7, .inl (cI, T.N, .inl T.nl)), (T.a8, .inl (cI, T.N, .inl T.pa)), (T.a9, .inl (cI, T.N, .inl T.pl)), (T.au, .inl (cC, T.U, .inl T.un))] s.heap := hP
  have hl := lv_entry ([.ref mo, .ref t, .int (nI nd), .int (nI (31 - r)), .int 125]) (n := 9) (Nat.le_of_ble_eq_true rfl)
  rw [lg_entry_eq]
  generalize (lg_sl ([.ref mo, .ref t, .int (nI nd), .int (nI (31 - r)), .int 125]) ++ List.replicate (9 - (lg_sl ([.ref mo, .ref t, .int (nI nd), .int (nI (31 - r)), .int 125])).length) Slot.unset).toArray = ls at hl ⊢
  have hl : lv_has ls 9 [(0, .ref mo), (1, .ref t), (2, .int (nI nd)), (3, .int (nI (31 - r))), (4, .int 125)] := hl
  have hT0 := hT
  obtain ⟨ho1, ho2, ho3, ho4, ho5, ho6, ho7⟩ := hT
  refine lv_aload_n hx hb d_Mo_inside_0 rfl (lv_at hl 0 rfl) ?_
  refine lv_dup hx hb d_Mo_inside_1 rfl ?_
  refine va_get (D := (dC, dI)) (ci := 13) (v := .int (nI i)) (C := R_Mo) (T := F_Mo) (N := 30) hx hb hts in_Mo hown hK hP 0 rfl rfl 7 (by decide) (hts _ w_1096) (fun _ h9 => h9) (MFg (by decide) rf_7) d_Mo_inside_2 ?_
  refine lv_iconst (v := 1) hx hb d_Mo_inside_5 (by decide) ?_
  refine lv_iadd hx hb d_Mo_inside_6 ?_
  refine W.eq (g2 := F0 m 7 ls [.int (nI (i + 1)), .ref mo]) (by rw [show ((nI i) + 1) = (nI (i + 1)) from nI_1 _]) ?_
  refine va_put (D := (dC, dI)) (ci := 13) (v := .int (nI (i + 1))) (ty := .int) (C := R_Mo) (T := F_Mo) (N := 30) hx hb hts in_Mo t_Mo t_Mo_ok n_Mo hown hK hP hD hS 0 rfl rfl 7 (by decide) (hts _ w_1096) (fun _ h9 => h9) rfl (by decide +kernel) rfl rfl (by rw [MFl]; decide) d_Mo_inside_7 (fun H locs hP hD hS => ?_)
  rw [MFs (n := 30) (k := 7) (by decide)] at hP hD
  have hP : va_P (dC, dI) classes [(mo, .inr (13, MF 30 (va_up (rf v i br) 7 (.int (nI (i + 1)))))), (qx, .inl (cB, NN, .inl f)), (t, .inr (12, MF 13 (tw T))), (T.a0, .inl (cI, T.N, .inl T.kd)), (T.a1, .inl (cL, T.N, .inr (.inl T.nu))), (T.a2, .inl (cI, T.N, .inl T.st)), (T.a3, .inl (cI, T.N, .inl T.ln)), (T.a4, .inl (cI, T.N, .inl T.ki)), (T.a5, .inl (cI, T.N, .inl T.nx)), (T.a6, .inl (cI, T.N, .inl T.ns)), (T.a7, .inl (cI, T.N, .inl T.nl)), (T.a8, .inl (cI, T.N, .inl T.pa)), (T.a9, .inl (cI, T.N, .inl T.pl)), (T.au, .inl (cC, T.U, .inl T.un))] H := hP
  have hD : va_D A [(mo, .inr (13, MF 30 (va_up (rf v i br) 7 (.int (nI (i + 1)))))), (qx, .inl (cB, NN, .inl f)), (t, .inr (12, MF 13 (tw T))), (T.a0, .inl (cI, T.N, .inl T.kd)), (T.a1, .inl (cL, T.N, .inr (.inl T.nu))), (T.a2, .inl (cI, T.N, .inl T.st)), (T.a3, .inl (cI, T.N, .inl T.ln)), (T.a4, .inl (cI, T.N, .inl T.ki)), (T.a5, .inl (cI, T.N, .inl T.nx)), (T.a6, .inl (cI, T.N, .inl T.ns)), (T.a7, .inl (cI, T.N, .inl T.nl)), (T.a8, .inl (cI, T.N, .inl T.pa)), (T.a9, .inl (cI, T.N, .inl T.pl)), (T.au, .inl (cC, T.U, .inl T.un))] := hD
  rw [rf_u7] at hP hD
  have hP : va_P (dC, dI) classes [(mo, .inr (13, MF 30 (rf v (i + 1) br))), (qx, .inl (cB, NN, .inl f)), (t, .inr (12, MF 13 (tw T))), (T.a0, .inl (cI, T.N, .inl T.kd)), (T.a1, .inl (cL, T.N, .inr (.inl T.nu))), (T.a2, .inl (cI, T.N, .inl T.st)), (T.a3, .inl (cI, T.N, .inl T.ln)), (T.a4, .inl (cI, T.N, .inl T.ki)), (T.a5, .inl (cI, T.N, .inl T.nx)), (T.a6, .inl (cI, T.N, .inl T.ns)), (T.a7, .inl (cI, T.N, .inl T.nl)), (T.a8, .inl (cI, T.N, .inl T.pa)), (T.a9, .inl (cI, T.N, .inl T.pl)), (T.au, .inl (cC, T.U, .inl T.un))] H := hP
  have hD : va_D A [(mo, .inr (13, MF 30 (rf v (i + 1) br))), (qx, .inl (cB, NN, .inl f)), (t, .inr (12, MF 13 (tw T))), (T.a0, .inl (cI, T.N, .inl T.kd)), (T.a1, .inl (cL, T.N, .inr (.inl T.nu))), (T.a2, .inl (cI, T.N, .inl T.st)), (T.a3, .inl (cI, T.N, .inl T.ln)), (T.a4, .inl (cI, T.N, .inl T.ki)), (T.a5, .inl (cI, T.N, .inl T.nx)), (T.a6, .inl (cI, T.N, .inl T.ns)), (T.a7, .inl (cI, T.N, .inl T.nl)), (T.a8, .inl (cI, T.N, .inl T.pa)), (T.a9, .inl (cI, T.N, .inl T.pl)), (T.au, .inl (cC, T.U, .inl T.un))] := hD
  refine lv_aload_n hx hb d_Mo_inside_10 rfl (lv_at hl 0 rfl) ?_
  have hPc := hP.sub (ws' := [(mo, .inr (13, MF 30 (rf v (i + 1) br))), (qx, .inl (cB, NN, .inl f))]) [0, 1] rfl
  have hDc := hD.sub (ws' := [(mo, .inr (13, MF 30 (rf v (i + 1) br))), (qx, .inl (cB, NN, .inl f))]) [0, 1] (by decide) rfl
  have hKc := hK.sub (tys' := [(cB, .byte)]) [0] rfl
  have hFc := va_free (wc := [(mo, .inr (13, MF 30 (rf v (i + 1) br))), (qx, .inl (cB, NN, .inl f))]) hD hS hA [0, 1] rfl
  refine va_callv (va_runV (As := []) (rest := []) ⟨hx, hb, hml, hown, hts⟩ (c_Mo_blanks l dC dI mo H (rf v (i + 1) br) cB qx NN f n (i + 1) (by omega) (by omega) (by omega) ((rf_ne (by decide) (by decide)).trans h6) rf_7 ((rf_ne (by decide) (by decide)).trans h8)) (cwV 0 hts (gt_V (own := R_Mo) (C := R_Mo) (i := 184) (y := y_Mo_blanks) i_Mo_blanks w_1229 w_1231 (gt_sel (y := y_Mo_blanks) (n := 30) (by decide +kernel)) w_7) rfl rfl rfl (by decide +kernel) ⟨Nat.le_trans (m := 9) (Nat.le_of_ble_eq_true rfl) (Nat.le_add_right 9 (2 * r)), Nat.le_trans (m := 330) (Nat.le_of_ble_eq_true rfl) (Nat.le_add_right 330 (80 * r))⟩) ⟨mp_blind, va_recv hKc hPc (ci := 13) (q0 := 0) rfl rfl, fun U hU hW => ⟨rfl, hU, by rw [hU]; exact hPc, va_K.moved hW.alike hKc, hDc.weaken (fun _ _ _ _ => trivial)⟩⟩ rfl rfl hl.1 rfl (lv_room (Nat.le_of_ble_eq_true rfl)) d_Mo_inside_11 ⟨Nat.zero_le _, Nat.zero_le _⟩) hS (fun q _ h => hFc q h) hFc (fun _u t9 H1 locs ht hvm hw hB hz1 hk1 hS => ?_)
  obtain ⟨hP1, hK1, hD1⟩ := hB
  rw [ht] at hP1
  obtain ⟨hP, hD⟩ := va_join (wr := [(t, .inr (12, MF 13 (tw T))), (T.a0, .inl (cI, T.N, .inl T.kd)), (T.a1, .inl (cL, T.N, .inr (.inl T.nu))), (T.a2, .inl (cI, T.N, .inl T.st)), (T.a3, .inl (cI, T.N, .inl T.ln)), (T.a4, .inl (cI, T.N, .inl T.ki)), (T.a5, .inl (cI, T.N, .inl T.nx)), (T.a6, .inl (cI, T.N, .inl T.ns)), (T.a7, .inl (cI, T.N, .inl T.nl)), (T.a8, .inl (cI, T.N, .inl T.pa)), (T.a9, .inl (cI, T.N, .inl T.pl)), (T.au, .inl (cC, T.U, .inl T.un))]) (w1 := [(mo, .inr (13, MF 30 (va_up (rf v (i + 1) br) 7 (.int (nI (skipH f n (i + 1))))))), (qx, .inl (cB, NN, .inl f))]) hP hD [0, 1] [2, 3, 4, 5, 6, 7, 8, 9, 10, 11, 12, 13] rfl rfl (by decide) (by decide) hk1 hFc hP1 hD1
  generalize H1 = H at hP hS ⊢
  have hP : va_P (dC, dI) classes [(t, .inr (12, MF 13 (tw T))), (T.a0, .inl (cI, T.N, .inl T.kd)), (T.a1, .inl (cL, T.N, .inr (.inl T.nu))), (T.a2, .inl (cI, T.N, .inl T.st)), (T.a3, .inl (cI, T.N, .inl T.ln)), (T.a4, .inl (cI, T.N, .inl T.ki)), (T.a5, .inl (cI, T.N, .inl T.nx)), (T.a6, .inl (cI, T.N, .inl T.ns)), (T.a7, .inl (cI, T.N, .inl T.nl)), (T.a8, .inl (cI, T.N, .inl T.pa)), (T.a9, .inl (cI, T.N, .inl T.pl)), (T.au, .inl (cC, T.U, .inl T.un)), (mo, .inr (13, MF 30 (va_up (rf v (i + 1) br) 7 (.int (nI (skipH f n (i + 1))))))), (qx, .inl (cB, NN, .inl f))] H := hP
  have hD : va_D A [(t, .inr (12, MF 13 (tw T))), (T.a0, .inl (cI, T.N, .inl T.kd)), (T.a1, .inl (cL, T.N, .inr (.inl T.nu))), (T.a2, .inl (cI, T.N, .inl T.st)), (T.a3, .inl (cI, T.N, .inl T.ln)), (T.a4, .inl (cI, T.N, .inl T.ki)), (T.a5, .inl (cI, T.N, .inl T.nx)), (T.a6, .inl (cI, T.N, .inl T.ns)), (T.a7, .inl (cI, T.N, .inl T.nl)), (T.a8, .inl (cI, T.N, .inl T.pa)), (T.a9, .inl (cI, T.N, .inl T.pl)), (T.au, .inl (cC, T.U, .inl T.un)), (mo, .inr (13, MF 30 (va_up (rf v (i + 1) br) 7 (.int (nI (skipH f n (i + 1))))))), (qx, .inl (cB, NN, .inl f))] := hD
  have hP := hP.sub (ws' := [(mo, .inr (13, MF 30 (va_up (rf v (i + 1) br) 7 (.int (nI (skipH f n (i + 1))))))), (qx, .inl (cB, NN, .inl f)), (t, .inr (12, MF 13 (tw T))), (T.a0, .inl (cI, T.N, .inl T.kd)), (T.a1, .inl (cL, T.N, .inr (.inl T.nu))), (T.a2, .inl (cI, T.N, .inl T.st)), (T.a3, .inl (cI, T.N, .inl T.ln)), (T.a4, .inl (cI, T.N, .inl T.ki)), (T.a5, .inl (cI, T.N, .inl T.nx)), (T.a6, .inl (cI, T.N, .inl T.ns)), (T.a7, .inl (cI, T.N, .inl T.nl)), (T.a8, .inl (cI, T.N, .inl T.pa)), (T.a9, .inl (cI, T.N, .inl T.pl)), (T.au, .inl (cC, T.U, .inl T.un))]) [12, 13, 0, 1, 2, 3, 4, 5, 6, 7, 8, 9, 10, 11] rfl
  have hD := hD.sub (ws' := [(mo, .inr (13, MF 30 (va_up (rf v (i + 1) br) 7 (.int (nI (skipH f n (i + 1))))))), (qx, .inl (cB, NN, .inl f)), (t, .inr (12, MF 13 (tw T))), (T.a0, .inl (cI, T.N, .inl T.kd)), (T.a1, .inl (cL, T.N, .inr (.inl T.nu))), (T.a2, .inl (cI, T.N, .inl T.st)), (T.a3, .inl (cI, T.N, .inl T.ln)), (T.a4, .inl (cI, T.N, .inl T.ki)), (T.a5, .inl (cI, T.N, .inl T.nx)), (T.a6, .inl (cI, T.N, .inl T.ns)), (T.a7, .inl (cI, T.N, .inl T.nl)), (T.a8, .inl (cI, T.N, .inl T.pa)), (T.a9, .inl (cI, T.N, .inl T.pl)), (T.au, .inl (cC, T.U, .inl T.un))]) [12, 13, 0, 1, 2, 3, 4, 5, 6, 7, 8, 9, 10, 11] (by decide) rfl
  rw [rf_u7] at hP hD
  have hP : va_P (dC, dI) classes [(mo, .inr (13, MF 30 (rf v (skipH f n (i + 1)) br))), (qx, .inl (cB, NN, .inl f)), (t, .inr (12, MF 13 (tw T))), (T.a0, .inl (cI, T.N, .inl T.kd)), (T.a1, .inl (cL, T.N, .inr (.inl T.nu))), (T.a2, .inl (cI, T.N, .inl T.st)), (T.a3, .inl (cI, T.N, .inl T.ln)), (T.a4, .inl (cI, T.N, .inl T.ki)), (T.a5, .inl (cI, T.N, .inl T.nx)), (T.a6, .inl (cI, T.N, .inl T.ns)), (T.a7, .inl (cI, T.N, .inl T.nl)), (T.a8, .inl (cI, T.N, .inl T.pa)), (T.a9, .inl (cI, T.N, .inl T.pl)), (T.au, .inl (cC, T.U, .inl T.un))] H := hP
  have hD : va_D A [(mo, .inr (13, MF 30 (rf v (skipH f n (i + 1)) br))), (qx, .inl (cB, NN, .inl f)), (t, .inr (12, MF 13 (tw T))), (T.a0, .inl (cI, T.N, .inl T.kd)), (T.a1, .inl (cL, T.N, .inr (.inl T.nu))), (T.a2, .inl (cI, T.N, .inl T.st)), (T.a3, .inl (cI, T.N, .inl T.ln)), (T.a4, .inl (cI, T.N, .inl T.ki)), (T.a5, .inl (cI, T.N, .inl T.nx)), (T.a6, .inl (cI, T.N, .inl T.ns)), (T.a7, .inl (cI, T.N, .inl T.nl)), (T.a8, .inl (cI, T.N, .inl T.pa)), (T.a9, .inl (cI, T.N, .inl T.pl)), (T.au, .inl (cC, T.U, .inl T.un))] := hD
  have hsk_14 := skipH_n (f := f) (show (i + 1) ≤ n by omega)
  refine lv_aload_n hx hb d_Mo_inside_14 rfl (lv_at hl 0 rfl) ?_
  have hPc := hP.sub (ws' := [(mo, .inr (13, MF 30 (rf v (skipH f n (i + 1)) br))), (qx, .inl (cB, NN, .inl f))]) [0, 1] rfl
  have hDc := hD.sub (ws' := [(mo, .inr (13, MF 30 (rf v (skipH f n (i + 1)) br))), (qx, .inl (cB, NN, .inl f))]) [0, 1] (by decide) rfl
  have hKc := hK.sub (tys' := [(cB, .byte)]) [0] rfl
  have hFc := va_free (wc := [(mo, .inr (13, MF 30 (rf v (skipH f n (i + 1)) br))), (qx, .inl (cB, NN, .inl f))]) hD hS hA [0, 1] rfl
  refine va_calli (va_runV (As := []) (rest := []) ⟨hx, hb, hml, hown, hts⟩ (c_Mo_c l dC dI mo H (rf v (skipH f n (i + 1)) br) cB qx NN f n (skipH f n (i + 1)) (by omega) (by omega) (by omega) ((rf_ne (by decide) (by decide)).trans h6) rf_7 ((rf_ne (by decide) (by decide)).trans h8)) (cwV 0 hts (gt_V (own := R_Mo) (C := R_Mo) (i := 147) (y := y_Mo_c) i_Mo_c w_1233 w_1235 (gt_sel (y := y_Mo_c) (n := 30) (by decide +kernel)) w_7) rfl rfl rfl (by decide +kernel) ⟨Nat.le_trans (m := 9) (Nat.le_of_ble_eq_true rfl) (Nat.le_add_right 9 (2 * r)), Nat.le_trans (m := 330) (Nat.le_of_ble_eq_true rfl) (Nat.le_add_right 330 (80 * r))⟩) ⟨mp_blind, va_recv hKc hPc (ci := 13) (q0 := 0) rfl rfl, fun U hU hW => ⟨rfl, hU, by rw [hU]; exact hPc, va_K.moved hW.alike hKc, hDc.weaken (fun _ _ _ _ => trivial)⟩⟩ rfl rfl hl.1 rfl (lv_room (Nat.le_of_ble_eq_true rfl)) d_Mo_inside_15 ⟨Nat.zero_le _, Nat.zero_le _⟩) hS (fun q _ h => hFc q h) hFc (fun r1 _u t9 H1 locs ht hvm hw hB hz1 hk1 hS => ?_)
  obtain ⟨hP1, hK1, hD1⟩ := hB
  rw [ht] at hP1
  obtain ⟨hP, hD⟩ := va_join (wr := [(t, .inr (12, MF 13 (tw T))), (T.a0, .inl (cI, T.N, .inl T.kd)), (T.a1, .inl (cL, T.N, .inr (.inl T.nu))), (T.a2, .inl (cI, T.N, .inl T.st)), (T.a3, .inl (cI, T.N, .inl T.ln)), (T.a4, .inl (cI, T.N, .inl T.ki)), (T.a5, .inl (cI, T.N, .inl T.nx)), (T.a6, .inl (cI, T.N, .inl T.ns)), (T.a7, .inl (cI, T.N, .inl T.nl)), (T.a8, .inl (cI, T.N, .inl T.pa)), (T.a9, .inl (cI, T.N, .inl T.pl)), (T.au, .inl (cC, T.U, .inl T.un))]) (w1 := [(mo, .inr (13, MF 30 (rf v (skipH f n (i + 1)) br))), (qx, .inl (cB, NN, .inl f))]) hP hD [0, 1] [2, 3, 4, 5, 6, 7, 8, 9, 10, 11, 12, 13] rfl rfl (by decide) (by decide) hk1 hFc hP1 hD1
  generalize H1 = H at hP hS ⊢
  have hP : va_P (dC, dI) classes [(t, .inr (12, MF 13 (tw T))), (T.a0, .inl (cI, T.N, .inl T.kd)), (T.a1, .inl (cL, T.N, .inr (.inl T.nu))), (T.a2, .inl (cI, T.N, .inl T.st)), (T.a3, .inl (cI, T.N, .inl T.ln)), (T.a4, .inl (cI, T.N, .inl T.ki)), (T.a5, .inl (cI, T.N, .inl T.nx)), (T.a6, .inl (cI, T.N, .inl T.ns)), (T.a7, .inl (cI, T.N, .inl T.nl)), (T.a8, .inl (cI, T.N, .inl T.pa)), (T.a9, .inl (cI, T.N, .inl T.pl)), (T.au, .inl (cC, T.U, .inl T.un)), (mo, .inr (13, MF 30 (rf v (skipH f n (i + 1)) br))), (qx, .inl (cB, NN, .inl f))] H := hP
  have hD : va_D A [(t, .inr (12, MF 13 (tw T))), (T.a0, .inl (cI, T.N, .inl T.kd)), (T.a1, .inl (cL, T.N, .inr (.inl T.nu))), (T.a2, .inl (cI, T.N, .inl T.st)), (T.a3, .inl (cI, T.N, .inl T.ln)), (T.a4, .inl (cI, T.N, .inl T.ki)), (T.a5, .inl (cI, T.N, .inl T.nx)), (T.a6, .inl (cI, T.N, .inl T.ns)), (T.a7, .inl (cI, T.N, .inl T.nl)), (T.a8, .inl (cI, T.N, .inl T.pa)), (T.a9, .inl (cI, T.N, .inl T.pl)), (T.au, .inl (cC, T.U, .inl T.un)), (mo, .inr (13, MF 30 (rf v (skipH f n (i + 1)) br))), (qx, .inl (cB, NN, .inl f))] := hD
  have hP := hP.sub (ws' := [(mo, .inr (13, MF 30 (rf v (skipH f n (i + 1)) br))), (qx, .inl (cB, NN, .inl f)), (t, .inr (12, MF 13 (tw T))), (T.a0, .inl (cI, T.N, .inl T.kd)), (T.a1, .inl (cL, T.N, .inr (.inl T.nu))), (T.a2, .inl (cI, T.N, .inl T.st)), (T.a3, .inl (cI, T.N, .inl T.ln)), (T.a4, .inl (cI, T.N, .inl T.ki)), (T.a5, .inl (cI, T.N, .inl T.nx)), (T.a6, .inl (cI, T.N, .inl T.ns)), (T.a7, .inl (cI, T.N, .inl T.nl)), (T.a8, .inl (cI, T.N, .inl T.pa)), (T.a9, .inl (cI, T.N, .inl T.pl)), (T.au, .inl (cC, T.U, .inl T.un))]) [12, 13, 0, 1, 2, 3, 4, 5, 6, 7, 8, 9, 10, 11] rfl
  have hD := hD.sub (ws' := [(mo, .inr (13, MF 30 (rf v (skipH f n (i + 1)) br))), (qx, .inl (cB, NN, .inl f)), (t, .inr (12, MF 13 (tw T))), (T.a0, .inl (cI, T.N, .inl T.kd)), (T.a1, .inl (cL, T.N, .inr (.inl T.nu))), (T.a2, .inl (cI, T.N, .inl T.st)), (T.a3, .inl (cI, T.N, .inl T.ln)), (T.a4, .inl (cI, T.N, .inl T.ki)), (T.a5, .inl (cI, T.N, .inl T.nx)), (T.a6, .inl (cI, T.N, .inl T.ns)), (T.a7, .inl (cI, T.N, .inl T.nl)), (T.a8, .inl (cI, T.N, .inl T.pa)), (T.a9, .inl (cI, T.N, .inl T.pl)), (T.au, .inl (cC, T.U, .inl T.un))]) [12, 13, 0, 1, 2, 3, 4, 5, 6, 7, 8, 9, 10, 11] (by decide) rfl
  have h_r1 : r1 = hereV f n (skipH f n (i + 1)) := hw
  refine lv_iload hx hb d_Mo_inside_18 (lv_at hl 4 rfl) ?_
  refine lv_icmp_ne (tgt := 35) hx hb d_Mo_inside_20 (by decide) (fun c20 => ?_) (fun c20 => ?_)
  · refine lv_iconst (v := (-1)) hx hb d_Mo_inside_35 (by decide) ?_
    refine lv_istore (lv' := [(5, .int (-1)), (0, .ref mo), (1, .ref t), (2, .int (nI nd)), (3, .int (nI (31 - r))), (4, .int 125)]) hx hb d_Mo_inside_36 hl (by decide) rfl (fun ls hl => ?_)
    have hpi : pInside f n (pV f n r) 123 i = pIn f n (pV f n r) 123 (n + 1) (skipH f n (i + 1)) [] := by unfold pInside; rw [show clo 123 = 125 from by decide, if_neg (fun h => c20 (h_r1.trans h))]
    refine w_same (fun hq => ?_)
    refine W.widen (k := ncap T (T.ct + (n + 12 - (i + 1))) + qcap T (T.us + (n + 12 - (i + 1)))) (n := 20 * ncap T (T.ct + (n + 12 - (i + 1))) + 2 * qcap T (T.us + (n + 12 - (i + 1)))) (Nat.zero_le _) (Nat.zero_le _) ?_
    refine w_loopH (D := (dC, dI)) (cl := classes) (A := A) (H0 := s.heap) (nL := 9) 38 (σ := TS × List (List Int32 × JVt r) × Nat × Nat × Int32 × Int32) (fun ⟨Tc, acc, m9, j, b, bf⟩ H => KS r ((123 : Int32) = 123) nd T.ct Tc.ct Tc acc bf ∧ TB T Tc nd ∧ TG n (i + 1) T Tc ∧ Tc.ct + (i + 1) ≤ T.ct + j ∧ Tc.us + (i + 1) ≤ T.us + j ∧ j ≤ n ∧ i + 1 ≤ j ∧ n + 1 ≤ m9 + j ∧ pIn f n (pV f n r) 123 m9 j acc = pIn f n (pV f n r) 123 (n + 1) (skipH f n (i + 1)) [] ∧ szk s.heap H (cE T Tc) (sE T Tc)) (fun ⟨Tc, acc, m9, j, b, bf⟩ => n + 1 - j) (fun ⟨Tc, acc, m9, j, b, bf⟩ => [(mo, .inr (13, MF 30 (rf v j b))), (qx, .inl (cB, NN, .inl f)), (t, .inr (12, MF 13 (tw Tc))), (Tc.a0, .inl (cI, Tc.N, .inl Tc.kd)), (Tc.a1, .inl (cL, Tc.N, .inr (.inl Tc.nu))), (Tc.a2, .inl (cI, Tc.N, .inl Tc.st)), (Tc.a3, .inl (cI, Tc.N, .inl Tc.ln)), (Tc.a4, .inl (cI, Tc.N, .inl Tc.ki)), (Tc.a5, .inl (cI, Tc.N, .inl Tc.nx)), (Tc.a6, .inl (cI, Tc.N, .inl Tc.ns)), (Tc.a7, .inl (cI, Tc.N, .inl Tc.nl)), (Tc.a8, .inl (cI, Tc.N, .inl Tc.pa)), (Tc.a9, .inl (cI, Tc.N, .inl Tc.pl)), (Tc.au, .inl (cC, Tc.U, .inl Tc.un))]) (fun ⟨Tc, acc, m9, j, b, bf⟩ => [(0, .ref mo), (1, .ref t), (2, .int (nI nd)), (3, .int (nI (31 - r))), (4, .int 125), (5, .int bf)]) ?_ (T, [], n + 1, (skipH f n (i + 1)), br, -1) ⟨Or.inl ⟨rfl, rfl, hki0⟩, TB.rf, ⟨hT0, GB.rf⟩, by show T.ct + (i + 1) ≤ T.ct + (skipH f n (i + 1)); omega, by show T.us + (i + 1) ≤ T.us + (skipH f n (i + 1)); omega, by show (skipH f n (i + 1)) ≤ n; omega, by show i + 1 ≤ (skipH f n (i + 1)); omega, by show n + 1 ≤ n + 1 + (skipH f n (i + 1)); omega, rfl, hq.mono (Nat.zero_le _) (Nat.zero_le _)⟩ hP hD hS (lv_sub hl [1, 2, 3, 4, 5, 0] rfl)
    rintro ⟨Tc, acc, m9, j, b, bf⟩ H locs ls hI ih hP hD hS hl
    have hP : va_P (dC, dI) classes [(mo, .inr (13, MF 30 (rf v j b))), (qx, .inl (cB, NN, .inl f)), (t, .inr (12, MF 13 (tw Tc))), (Tc.a0, .inl (cI, Tc.N, .inl Tc.kd)), (Tc.a1, .inl (cL, Tc.N, .inr (.inl Tc.nu))), (Tc.a2, .inl (cI, Tc.N, .inl Tc.st)), (Tc.a3, .inl (cI, Tc.N, .inl Tc.ln)), (Tc.a4, .inl (cI, Tc.N, .inl Tc.ki)), (Tc.a5, .inl (cI, Tc.N, .inl Tc.nx)), (Tc.a6, .inl (cI, Tc.N, .inl Tc.ns)), (Tc.a7, .inl (cI, Tc.N, .inl Tc.nl)), (Tc.a8, .inl (cI, Tc.N, .inl Tc.pa)), (Tc.a9, .inl (cI, Tc.N, .inl Tc.pl)), (Tc.au, .inl (cC, Tc.U, .inl Tc.un))] H := hP
    have hD : va_D A [(mo, .inr (13, MF 30 (rf v j b))), (qx, .inl (cB, NN, .inl f)), (t, .inr (12, MF 13 (tw Tc))), (Tc.a0, .inl (cI, Tc.N, .inl Tc.kd)), (Tc.a1, .inl (cL, Tc.N, .inr (.inl Tc.nu))), (Tc.a2, .inl (cI, Tc.N, .inl Tc.st)), (Tc.a3, .inl (cI, Tc.N, .inl Tc.ln)), (Tc.a4, .inl (cI, Tc.N, .inl Tc.ki)), (Tc.a5, .inl (cI, Tc.N, .inl Tc.nx)), (Tc.a6, .inl (cI, Tc.N, .inl Tc.ns)), (Tc.a7, .inl (cI, Tc.N, .inl Tc.nl)), (Tc.a8, .inl (cI, Tc.N, .inl Tc.pa)), (Tc.a9, .inl (cI, Tc.N, .inl Tc.pl)), (Tc.au, .inl (cC, Tc.U, .inl Tc.un))] := hD
    have hl : lv_has ls 9 [(0, .ref mo), (1, .ref t), (2, .int (nI nd)), (3, .int (nI (31 - r))), (4, .int 125), (5, .int bf)] := hl
    obtain ⟨hKS, hTB, ⟨hTk_Tc, hGB_Tc⟩, hI1, hI2, hI3, hI3b, hI4, hI5, hI6⟩ := hI
    refine w_tight hI6 ?_
    obtain ⟨m0, hm0⟩ : ∃ m0, m9 = m0 + 1 := ⟨m9 - 1, by omega⟩
    have hTBc := hTB.1
    have hTkN := hTk_Tc.2.2.1
    have hTkN2 := hTk_Tc.2.1
    have hfit_Tc := hGB_Tc.fits
    refine lv_iconst (v := 0) hx hb d_Mo_inside_38 (by decide) ?_
    refine lv_istore (lv' := [(6, .int 0), (0, .ref mo), (1, .ref t), (2, .int (nI nd)), (3, .int (nI (31 - r))), (4, .int 125), (5, .int bf)]) hx hb d_Mo_inside_39 hl (by decide) rfl (fun ls hl => ?_)
    refine lv_iconst (v := 0) hx hb d_Mo_inside_41 (by decide) ?_
    refine lv_istore (lv' := [(7, .int 0), (6, .int 0), (0, .ref mo), (1, .ref t), (2, .int (nI nd)), (3, .int (nI (31 - r))), (4, .int 125), (5, .int bf)]) hx hb d_Mo_inside_42 hl (by decide) rfl (fun ls hl => ?_)
    refine lv_iload hx hb d_Mo_inside_44 (lv_at hl 6 rfl) ?_
    refine lv_bipush (v := 125) hx hb d_Mo_inside_46 (by decide) ?_
    refine lv_icmp_ne (tgt := 141) hx hb d_Mo_inside_48 (by decide) (fun h => absurd h (by decide)) (fun _ => ?_)
    refine lv_aload_n hx hb d_Mo_inside_51 rfl (lv_at hl 2 rfl) ?_
    have hPc := hP.sub (ws' := [(mo, .inr (13, MF 30 (rf v j b))), (qx, .inl (cB, NN, .inl f))]) [0, 1] rfl
    have hDc := hD.sub (ws' := [(mo, .inr (13, MF 30 (rf v j b))), (qx, .inl (cB, NN, .inl f))]) [0, 1] (by decide) rfl
    have hKc := hK.sub (tys' := [(cB, .byte)]) [0] rfl
    have hFc := va_free (wc := [(mo, .inr (13, MF 30 (rf v j b))), (qx, .inl (cB, NN, .inl f))]) hD hS hA [0, 1] rfl
    refine va_callv (va_runV (As := []) (rest := []) ⟨hx, hb, hml, hown, hts⟩ (c_Mo_blanks l dC dI mo H (rf v j b) cB qx NN f n j (by omega) (by omega) (by omega) ((rf_ne (by decide) (by decide)).trans h6) rf_7 ((rf_ne (by decide) (by decide)).trans h8)) (cwV 0 hts (gt_V (own := R_Mo) (C := R_Mo) (i := 184) (y := y_Mo_blanks) i_Mo_blanks w_1229 w_1231 (gt_sel (y := y_Mo_blanks) (n := 30) (by decide +kernel)) w_7) rfl rfl rfl (by decide +kernel) ⟨Nat.le_trans (m := 9) (Nat.le_of_ble_eq_true rfl) (Nat.le_add_right 9 (2 * r)), Nat.le_trans (m := 330) (Nat.le_of_ble_eq_true rfl) (Nat.le_add_right 330 (80 * r))⟩) ⟨mp_blind, va_recv hKc hPc (ci := 13) (q0 := 0) rfl rfl, fun U hU hW => ⟨rfl, hU, by rw [hU]; exact hPc, va_K.moved hW.alike hKc, hDc.weaken (fun _ _ _ _ => trivial)⟩⟩ rfl rfl hl.1 rfl (lv_room (Nat.le_of_ble_eq_true rfl)) d_Mo_inside_52 ⟨hfit_Tc.1, hfit_Tc.2⟩) hS (fun q _ h => hFc q h) hFc (fun _u t9 H1 locs ht hvm hw hB hz1 hk1 hS => ?_)
    obtain ⟨hP1, hK1, hD1⟩ := hB
    rw [ht] at hP1
    obtain ⟨hP, hD⟩ := va_join (wr := [(t, .inr (12, MF 13 (tw Tc))), (Tc.a0, .inl (cI, Tc.N, .inl Tc.kd)), (Tc.a1, .inl (cL, Tc.N, .inr (.inl Tc.nu))), (Tc.a2, .inl (cI, Tc.N, .inl Tc.st)), (Tc.a3, .inl (cI, Tc.N, .inl Tc.ln)), (Tc.a4, .inl (cI, Tc.N, .inl Tc.ki)), (Tc.a5, .inl (cI, Tc.N, .inl Tc.nx)), (Tc.a6, .inl (cI, Tc.N, .inl Tc.ns)), (Tc.a7, .inl (cI, Tc.N, .inl Tc.nl)), (Tc.a8, .inl (cI, Tc.N, .inl Tc.pa)), (Tc.a9, .inl (cI, Tc.N, .inl Tc.pl)), (Tc.au, .inl (cC, Tc.U, .inl Tc.un))]) (w1 := [(mo, .inr (13, MF 30 (va_up (rf v j b) 7 (.int (nI (skipH f n j)))))), (qx, .inl (cB, NN, .inl f))]) hP hD [0, 1] [2, 3, 4, 5, 6, 7, 8, 9, 10, 11, 12, 13] rfl rfl (by decide) (by decide) hk1 hFc hP1 hD1
    generalize H1 = H at hP hS ⊢
    have hP : va_P (dC, dI) classes [(t, .inr (12, MF 13 (tw Tc))), (Tc.a0, .inl (cI, Tc.N, .inl Tc.kd)), (Tc.a1, .inl (cL, Tc.N, .inr (.inl Tc.nu))), (Tc.a2, .inl (cI, Tc.N, .inl Tc.st)), (Tc.a3, .inl (cI, Tc.N, .inl Tc.ln)), (Tc.a4, .inl (cI, Tc.N, .inl Tc.ki)), (Tc.a5, .inl (cI, Tc.N, .inl Tc.nx)), (Tc.a6, .inl (cI, Tc.N, .inl Tc.ns)), (Tc.a7, .inl (cI, Tc.N, .inl Tc.nl)), (Tc.a8, .inl (cI, Tc.N, .inl Tc.pa)), (Tc.a9, .inl (cI, Tc.N, .inl Tc.pl)), (Tc.au, .inl (cC, Tc.U, .inl Tc.un)), (mo, .inr (13, MF 30 (va_up (rf v j b) 7 (.int (nI (skipH f n j)))))), (qx, .inl (cB, NN, .inl f))] H := hP
    have hD : va_D A [(t, .inr (12, MF 13 (tw Tc))), (Tc.a0, .inl (cI, Tc.N, .inl Tc.kd)), (Tc.a1, .inl (cL, Tc.N, .inr (.inl Tc.nu))), (Tc.a2, .inl (cI, Tc.N, .inl Tc.st)), (Tc.a3, .inl (cI, Tc.N, .inl Tc.ln)), (Tc.a4, .inl (cI, Tc.N, .inl Tc.ki)), (Tc.a5, .inl (cI, Tc.N, .inl Tc.nx)), (Tc.a6, .inl (cI, Tc.N, .inl Tc.ns)), (Tc.a7, .inl (cI, Tc.N, .inl Tc.nl)), (Tc.a8, .inl (cI, Tc.N, .inl Tc.pa)), (Tc.a9, .inl (cI, Tc.N, .inl Tc.pl)), (Tc.au, .inl (cC, Tc.U, .inl Tc.un)), (mo, .inr (13, MF 30 (va_up (rf v j b) 7 (.int (nI (skipH f n j)))))), (qx, .inl (cB, NN, .inl f))] := hD
    have hP := hP.sub (ws' := [(mo, .inr (13, MF 30 (va_up (rf v j b) 7 (.int (nI (skipH f n j)))))), (qx, .inl (cB, NN, .inl f)), (t, .inr (12, MF 13 (tw Tc))), (Tc.a0, .inl (cI, Tc.N, .inl Tc.kd)), (Tc.a1, .inl (cL, Tc.N, .inr (.inl Tc.nu))), (Tc.a2, .inl (cI, Tc.N, .inl Tc.st)), (Tc.a3, .inl (cI, Tc.N, .inl Tc.ln)), (Tc.a4, .inl (cI, Tc.N, .inl Tc.ki)), (Tc.a5, .inl (cI, Tc.N, .inl Tc.nx)), (Tc.a6, .inl (cI, Tc.N, .inl Tc.ns)), (Tc.a7, .inl (cI, Tc.N, .inl Tc.nl)), (Tc.a8, .inl (cI, Tc.N, .inl Tc.pa)), (Tc.a9, .inl (cI, Tc.N, .inl Tc.pl)), (Tc.au, .inl (cC, Tc.U, .inl Tc.un))]) [12, 13, 0, 1, 2, 3, 4, 5, 6, 7, 8, 9, 10, 11] rfl
    have hD := hD.sub (ws' := [(mo, .inr (13, MF 30 (va_up (rf v j b) 7 (.int (nI (skipH f n j)))))), (qx, .inl (cB, NN, .inl f)), (t, .inr (12, MF 13 (tw Tc))), (Tc.a0, .inl (cI, Tc.N, .inl Tc.kd)), (Tc.a1, .inl (cL, Tc.N, .inr (.inl Tc.nu))), (Tc.a2, .inl (cI, Tc.N, .inl Tc.st)), (Tc.a3, .inl (cI, Tc.N, .inl Tc.ln)), (Tc.a4, .inl (cI, Tc.N, .inl Tc.ki)), (Tc.a5, .inl (cI, Tc.N, .inl Tc.nx)), (Tc.a6, .inl (cI, Tc.N, .inl Tc.ns)), (Tc.a7, .inl (cI, Tc.N, .inl Tc.nl)), (Tc.a8, .inl (cI, Tc.N, .inl Tc.pa)), (Tc.a9, .inl (cI, Tc.N, .inl Tc.pl)), (Tc.au, .inl (cC, Tc.U, .inl Tc.un))]) [12, 13, 0, 1, 2, 3, 4, 5, 6, 7, 8, 9, 10, 11] (by decide) rfl
    rw [rf_u7] at hP hD
    have hP : va_P (dC, dI) classes [(mo, .inr (13, MF 30 (rf v (skipH f n j) b))), (qx, .inl (cB, NN, .inl f)), (t, .inr (12, MF 13 (tw Tc))), (Tc.a0, .inl (cI, Tc.N, .inl Tc.kd)), (Tc.a1, .inl (cL, Tc.N, .inr (.inl Tc.nu))), (Tc.a2, .inl (cI, Tc.N, .inl Tc.st)), (Tc.a3, .inl (cI, Tc.N, .inl Tc.ln)), (Tc.a4, .inl (cI, Tc.N, .inl Tc.ki)), (Tc.a5, .inl (cI, Tc.N, .inl Tc.nx)), (Tc.a6, .inl (cI, Tc.N, .inl Tc.ns)), (Tc.a7, .inl (cI, Tc.N, .inl Tc.nl)), (Tc.a8, .inl (cI, Tc.N, .inl Tc.pa)), (Tc.a9, .inl (cI, Tc.N, .inl Tc.pl)), (Tc.au, .inl (cC, Tc.U, .inl Tc.un))] H := hP
    have hD : va_D A [(mo, .inr (13, MF 30 (rf v (skipH f n j) b))), (qx, .inl (cB, NN, .inl f)), (t, .inr (12, MF 13 (tw Tc))), (Tc.a0, .inl (cI, Tc.N, .inl Tc.kd)), (Tc.a1, .inl (cL, Tc.N, .inr (.inl Tc.nu))), (Tc.a2, .inl (cI, Tc.N, .inl Tc.st)), (Tc.a3, .inl (cI, Tc.N, .inl Tc.ln)), (Tc.a4, .inl (cI, Tc.N, .inl Tc.ki)), (Tc.a5, .inl (cI, Tc.N, .inl Tc.nx)), (Tc.a6, .inl (cI, Tc.N, .inl Tc.ns)), (Tc.a7, .inl (cI, Tc.N, .inl Tc.nl)), (Tc.a8, .inl (cI, Tc.N, .inl Tc.pa)), (Tc.a9, .inl (cI, Tc.N, .inl Tc.pl)), (Tc.au, .inl (cC, Tc.U, .inl Tc.un))] := hD
    have hsk_55 := skipH_n (f := f) (show j ≤ n by omega)
    refine lv_aload_n hx hb d_Mo_inside_55 rfl (lv_at hl 2 rfl) ?_
    refine va_get (D := (dC, dI)) (ci := 13) (v := .int (nI (skipH f n j))) (C := R_Mo) (T := F_Mo) (N := 30) hx hb hts in_Mo hown hK hP 0 rfl rfl 7 (by decide) (hts _ w_1096) (fun _ h9 => h9) (MFg (by decide) rf_7) d_Mo_inside_56 ?_
    refine lv_istore (lv' := [(8, .int (nI (skipH f n j))), (7, .int 0), (6, .int 0), (0, .ref mo), (1, .ref t), (2, .int (nI nd)), (3, .int (nI (31 - r))), (4, .int 125), (5, .int bf)]) hx hb d_Mo_inside_59 hl (by decide) rfl (fun ls hl => ?_)
    refine lv_aload_n hx hb d_Mo_inside_61 rfl (lv_at hl 3 rfl) ?_
    have hPc := hP.sub (ws' := [(mo, .inr (13, MF 30 (rf v (skipH f n j) b))), (qx, .inl (cB, NN, .inl f))]) [0, 1] rfl
    have hDc := hD.sub (ws' := [(mo, .inr (13, MF 30 (rf v (skipH f n j) b))), (qx, .inl (cB, NN, .inl f))]) [0, 1] (by decide) rfl
    have hKc := hK.sub (tys' := [(cB, .byte)]) [0] rfl
    have hFc := va_free (wc := [(mo, .inr (13, MF 30 (rf v (skipH f n j) b))), (qx, .inl (cB, NN, .inl f))]) hD hS hA [0, 1] rfl
    refine va_calli (va_runV (As := []) (rest := []) ⟨hx, hb, hml, hown, hts⟩ (c_Mo_c l dC dI mo H (rf v (skipH f n j) b) cB qx NN f n (skipH f n j) (by omega) (by omega) (by omega) ((rf_ne (by decide) (by decide)).trans h6) rf_7 ((rf_ne (by decide) (by decide)).trans h8)) (cwV 0 hts (gt_V (own := R_Mo) (C := R_Mo) (i := 147) (y := y_Mo_c) i_Mo_c w_1233 w_1235 (gt_sel (y := y_Mo_c) (n := 30) (by decide +kernel)) w_7) rfl rfl rfl (by decide +kernel) ⟨Nat.le_trans (m := 9) (Nat.le_of_ble_eq_true rfl) (Nat.le_add_right 9 (2 * r)), Nat.le_trans (m := 330) (Nat.le_of_ble_eq_true rfl) (Nat.le_add_right 330 (80 * r))⟩) ⟨mp_blind, va_recv hKc hPc (ci := 13) (q0 := 0) rfl rfl, fun U hU hW => ⟨rfl, hU, by rw [hU]; exact hPc, va_K.moved hW.alike hKc, hDc.weaken (fun _ _ _ _ => trivial)⟩⟩ rfl rfl hl.1 rfl (lv_room (Nat.le_of_ble_eq_true rfl)) d_Mo_inside_62 ⟨hfit_Tc.1, hfit_Tc.2⟩) hS (fun q _ h => hFc q h) hFc (fun r2 _u t9 H1 locs ht hvm hw hB hz1 hk1 hS => ?_)
    obtain ⟨hP1, hK1, hD1⟩ := hB
    rw [ht] at hP1
    obtain ⟨hP, hD⟩ := va_join (wr := [(t, .inr (12, MF 13 (tw Tc))), (Tc.a0, .inl (cI, Tc.N, .inl Tc.kd)), (Tc.a1, .inl (cL, Tc.N, .inr (.inl Tc.nu))), (Tc.a2, .inl (cI, Tc.N, .inl Tc.st)), (Tc.a3, .inl (cI, Tc.N, .inl Tc.ln)), (Tc.a4, .inl (cI, Tc.N, .inl Tc.ki)), (Tc.a5, .inl (cI, Tc.N, .inl Tc.nx)), (Tc.a6, .inl (cI, Tc.N, .inl Tc.ns)), (Tc.a7, .inl (cI, Tc.N, .inl Tc.nl)), (Tc.a8, .inl (cI, Tc.N, .inl Tc.pa)), (Tc.a9, .inl (cI, Tc.N, .inl Tc.pl)), (Tc.au, .inl (cC, Tc.U, .inl Tc.un))]) (w1 := [(mo, .inr (13, MF 30 (rf v (skipH f n j) b))), (qx, .inl (cB, NN, .inl f))]) hP hD [0, 1] [2, 3, 4, 5, 6, 7, 8, 9, 10, 11, 12, 13] rfl rfl (by decide) (by decide) hk1 hFc hP1 hD1
    generalize H1 = H at hP hS ⊢
    have hP : va_P (dC, dI) classes [(t, .inr (12, MF 13 (tw Tc))), (Tc.a0, .inl (cI, Tc.N, .inl Tc.kd)), (Tc.a1, .inl (cL, Tc.N, .inr (.inl Tc.nu))), (Tc.a2, .inl (cI, Tc.N, .inl Tc.st)), (Tc.a3, .inl (cI, Tc.N, .inl Tc.ln)), (Tc.a4, .inl (cI, Tc.N, .inl Tc.ki)), (Tc.a5, .inl (cI, Tc.N, .inl Tc.nx)), (Tc.a6, .inl (cI, Tc.N, .inl Tc.ns)), (Tc.a7, .inl (cI, Tc.N, .inl Tc.nl)), (Tc.a8, .inl (cI, Tc.N, .inl Tc.pa)), (Tc.a9, .inl (cI, Tc.N, .inl Tc.pl)), (Tc.au, .inl (cC, Tc.U, .inl Tc.un)), (mo, .inr (13, MF 30 (rf v (skipH f n j) b))), (qx, .inl (cB, NN, .inl f))] H := hP
    have hD : va_D A [(t, .inr (12, MF 13 (tw Tc))), (Tc.a0, .inl (cI, Tc.N, .inl Tc.kd)), (Tc.a1, .inl (cL, Tc.N, .inr (.inl Tc.nu))), (Tc.a2, .inl (cI, Tc.N, .inl Tc.st)), (Tc.a3, .inl (cI, Tc.N, .inl Tc.ln)), (Tc.a4, .inl (cI, Tc.N, .inl Tc.ki)), (Tc.a5, .inl (cI, Tc.N, .inl Tc.nx)), (Tc.a6, .inl (cI, Tc.N, .inl Tc.ns)), (Tc.a7, .inl (cI, Tc.N, .inl Tc.nl)), (Tc.a8, .inl (cI, Tc.N, .inl Tc.pa)), (Tc.a9, .inl (cI, Tc.N, .inl Tc.pl)), (Tc.au, .inl (cC, Tc.U, .inl Tc.un)), (mo, .inr (13, MF 30 (rf v (skipH f n j) b))), (qx, .inl (cB, NN, .inl f))] := hD
    have hP := hP.sub (ws' := [(mo, .inr (13, MF 30 (rf v (skipH f n j) b))), (qx, .inl (cB, NN, .inl f)), (t, .inr (12, MF 13 (tw Tc))), (Tc.a0, .inl (cI, Tc.N, .inl Tc.kd)), (Tc.a1, .inl (cL, Tc.N, .inr (.inl Tc.nu))), (Tc.a2, .inl (cI, Tc.N, .inl Tc.st)), (Tc.a3, .inl (cI, Tc.N, .inl Tc.ln)), (Tc.a4, .inl (cI, Tc.N, .inl Tc.ki)), (Tc.a5, .inl (cI, Tc.N, .inl Tc.nx)), (Tc.a6, .inl (cI, Tc.N, .inl Tc.ns)), (Tc.a7, .inl (cI, Tc.N, .inl Tc.nl)), (Tc.a8, .inl (cI, Tc.N, .inl Tc.pa)), (Tc.a9, .inl (cI, Tc.N, .inl Tc.pl)), (Tc.au, .inl (cC, Tc.U, .inl Tc.un))]) [12, 13, 0, 1, 2, 3, 4, 5, 6, 7, 8, 9, 10, 11] rfl
    have hD := hD.sub (ws' := [(mo, .inr (13, MF 30 (rf v (skipH f n j) b))), (qx, .inl (cB, NN, .inl f)), (t, .inr (12, MF 13 (tw Tc))), (Tc.a0, .inl (cI, Tc.N, .inl Tc.kd)), (Tc.a1, .inl (cL, Tc.N, .inr (.inl Tc.nu))), (Tc.a2, .inl (cI, Tc.N, .inl Tc.st)), (Tc.a3, .inl (cI, Tc.N, .inl Tc.ln)), (Tc.a4, .inl (cI, Tc.N, .inl Tc.ki)), (Tc.a5, .inl (cI, Tc.N, .inl Tc.nx)), (Tc.a6, .inl (cI, Tc.N, .inl Tc.ns)), (Tc.a7, .inl (cI, Tc.N, .inl Tc.nl)), (Tc.a8, .inl (cI, Tc.N, .inl Tc.pa)), (Tc.a9, .inl (cI, Tc.N, .inl Tc.pl)), (Tc.au, .inl (cC, Tc.U, .inl Tc.un))]) [12, 13, 0, 1, 2, 3, 4, 5, 6, 7, 8, 9, 10, 11] (by decide) rfl
    have h_r2 : r2 = hereV f n (skipH f n j) := hw
    refine lv_bipush (v := 34) hx hb d_Mo_inside_65 (by decide) ?_
    refine lv_icmp_eq (tgt := 79) hx hb d_Mo_inside_67 (by decide) (fun c67 => ?_) (fun c67 => ?_)
    · refine lv_aload_n hx hb d_Mo_inside_79 rfl (lv_at hl 4 rfl) ?_
      refine va_get (D := (dC, dI)) (ci := 12) (v := .int (nI Tc.us)) (C := R_Tree) (T := F_Tree) (N := 13) hx hb hts in_Tree hown hK hP 2 rfl rfl 12 (by decide) (hts _ w_1058) (fun _ h9 => h9) (MFg (by decide) rfl) d_Mo_inside_80 ?_
      refine lv_istore (lv' := [(6, .int (nI Tc.us)), (8, .int (nI (skipH f n j))), (7, .int 0), (0, .ref mo), (1, .ref t), (2, .int (nI nd)), (3, .int (nI (31 - r))), (4, .int 125), (5, .int bf)]) hx hb d_Mo_inside_83 hl (by decide) rfl (fun ls hl => ?_)
      refine lv_aload_n hx hb d_Mo_inside_85 rfl (lv_at hl 3 rfl) ?_
      refine lv_bipush (v := 34) hx hb d_Mo_inside_86 (by decide) ?_
      refine lv_aload_n hx hb d_Mo_inside_88 rfl (lv_at hl 4 rfl) ?_
      have hq34 : hereV f n (skipH f n j) = 34 := h_r2.symm.trans c67
      have hltq := here_in hq34 (by decide)
      have hPc := hP.sub (ws' := [(mo, .inr (13, MF 30 (rf v (skipH f n j) b))), (qx, .inl (cB, NN, .inl f)), (t, .inr (12, MF 13 (tw Tc))), (Tc.au, .inl (cC, Tc.U, .inl Tc.un))]) [0, 1, 2, 13] rfl
      have hDc := hD.sub (ws' := [(mo, .inr (13, MF 30 (rf v (skipH f n j) b))), (qx, .inl (cB, NN, .inl f)), (t, .inr (12, MF 13 (tw Tc))), (Tc.au, .inl (cC, Tc.U, .inl Tc.un))]) [0, 1, 2, 13] (by decide) rfl
      have hKc := hK.sub (tys' := [(cB, .byte), (cC, .char)]) [0, 3] rfl
      have hFc := va_free (wc := [(mo, .inr (13, MF 30 (rf v (skipH f n j) b))), (qx, .inl (cB, NN, .inl f)), (t, .inr (12, MF 13 (tw Tc))), (Tc.au, .inl (cC, Tc.U, .inl Tc.un))]) hD hS hA [0, 1, 2, 13] rfl
      refine w_same (fun hq0 => ?_)
      refine va_calli (va_runV (As := [.int 34, .ref t]) (rest := []) ⟨hx, hb, hml, hown, hts⟩ (c_Mo_quoted l dC dI mo H v cB cC qx NN f n K t Tc (skipH f n j) b 34 hnN hNN (by omega) h6 h8 (by decide) hTk_Tc (by omega)) (cwV 2 hts (gt_V (own := R_Mo) (C := R_Mo) (i := 200) (y := y_Mo_quoted) i_Mo_quoted w_1261 w_1263 (gt_sel (y := y_Mo_quoted) (n := 30) (by decide +kernel)) w_7) rfl rfl rfl (by decide +kernel) ⟨Nat.le_trans (m := 9) (Nat.le_of_ble_eq_true rfl) (Nat.le_add_right 9 (2 * r)), Nat.le_trans (m := 330) (Nat.le_of_ble_eq_true rfl) (Nat.le_add_right 330 (80 * r))⟩) ⟨me_blind, va_recv hKc hPc (ci := 13) (q0 := 0) rfl rfl, fun U hU hW => ⟨rfl, ⟨hU, by rw [hU]; exact hPc, va_K.moved hW.alike hKc, hDc.weaken (fun _ _ _ _ => trivial)⟩, by rw [hU]; exact ME.call hM hS.2.1 hFc hW⟩⟩ rfl rfl hl.1 rfl (lv_room (Nat.le_of_ble_eq_true rfl)) d_Mo_inside_89 ⟨(hGB_Tc.stepQ (C2 := Tc.us + (n + 12 - (skipH f n j))) (by omega)).1, (hGB_Tc.stepQ (C2 := Tc.us + (n + 12 - (skipH f n j))) (by omega)).2⟩) hS (fun q _ h => hFc q h) hFc (fun r0 ⟨Ta, us9, j_Ta, b_Ta⟩ t9 H1 locs ht hvm hw hB hz1 hk1 hS => ?_)
      obtain ⟨⟨hP1, hK1, hD1⟩, hz9⟩ := hB
      rw [ht] at hP1
      rw [ht] at hz9
      obtain ⟨hX_Ta, hw⟩ := hw
      have hX_Ta : TX Tc Ta us9 := hX_Ta
      have hXa_Ta := hX_Ta.alk
      have hXs_Ta := hX_Ta.us
      have hln_Ta : us9.length ≤ n + 12 - (skipH f n j) := by rcases hw with ⟨_, _, h9, h8⟩ | ⟨_, _, h9, _⟩; exact Nat.le_sub_of_add_le (show us9.length + (skipH f n j) ≤ n + 12 by have h8 : us9.length + (skipH f n j) + 2 ≤ j_Ta := h8; have h9 : j_Ta ≤ n := h9; omega); exact h9
      obtain ⟨hGB_Ta, hGc_Ta, hGs_Ta⟩ := hGB_Tc.tr hX_Ta.gb.1 (Nat.zero_le _) (show Tc.us + us9.length ≤ (T.us + (n + 12 - (i + 1))) by omega)
      rw [← hX_Ta.gb.2.1] at hGc_Ta
      rw [← hX_Ta.gb.2.2] at hGs_Ta
      have hz9 : szk H H1 (Ta.U - Tc.U) (2 * (Ta.U - Tc.U)) := hz9
      have hq1 : szk s.heap H1 (cE T Ta) (sE T Ta) := (hq0.trans hz9).mono hGc_Ta hGs_Ta
      refine w_tight hq1 ?_
      obtain ⟨hP, hD⟩ := va_join (wr := [(Tc.a0, .inl (cI, Tc.N, .inl Tc.kd)), (Tc.a1, .inl (cL, Tc.N, .inr (.inl Tc.nu))), (Tc.a2, .inl (cI, Tc.N, .inl Tc.st)), (Tc.a3, .inl (cI, Tc.N, .inl Tc.ln)), (Tc.a4, .inl (cI, Tc.N, .inl Tc.ki)), (Tc.a5, .inl (cI, Tc.N, .inl Tc.nx)), (Tc.a6, .inl (cI, Tc.N, .inl Tc.ns)), (Tc.a7, .inl (cI, Tc.N, .inl Tc.nl)), (Tc.a8, .inl (cI, Tc.N, .inl Tc.pa)), (Tc.a9, .inl (cI, Tc.N, .inl Tc.pl))]) (w1 := [(mo, .inr (13, MF 30 (rf v j_Ta b_Ta))), (qx, .inl (cB, NN, .inl f)), (t, .inr (12, MF 13 (tw Ta))), (Ta.au, .inl (cC, Ta.U, .inl Ta.un))]) hP hD [0, 1, 2, 13] [3, 4, 5, 6, 7, 8, 9, 10, 11, 12] rfl rfl (by decide) (by decide) hk1 hFc hP1 hD1
      generalize H1 = H at hP hS ⊢
      have hP : va_P (dC, dI) classes [(Tc.a0, .inl (cI, Tc.N, .inl Tc.kd)), (Tc.a1, .inl (cL, Tc.N, .inr (.inl Tc.nu))), (Tc.a2, .inl (cI, Tc.N, .inl Tc.st)), (Tc.a3, .inl (cI, Tc.N, .inl Tc.ln)), (Tc.a4, .inl (cI, Tc.N, .inl Tc.ki)), (Tc.a5, .inl (cI, Tc.N, .inl Tc.nx)), (Tc.a6, .inl (cI, Tc.N, .inl Tc.ns)), (Tc.a7, .inl (cI, Tc.N, .inl Tc.nl)), (Tc.a8, .inl (cI, Tc.N, .inl Tc.pa)), (Tc.a9, .inl (cI, Tc.N, .inl Tc.pl)), (mo, .inr (13, MF 30 (rf v j_Ta b_Ta))), (qx, .inl (cB, NN, .inl f)), (t, .inr (12, MF 13 (tw Ta))), (Ta.au, .inl (cC, Ta.U, .inl Ta.un))] H := hP
      have hD : va_D A [(Tc.a0, .inl (cI, Tc.N, .inl Tc.kd)), (Tc.a1, .inl (cL, Tc.N, .inr (.inl Tc.nu))), (Tc.a2, .inl (cI, Tc.N, .inl Tc.st)), (Tc.a3, .inl (cI, Tc.N, .inl Tc.ln)), (Tc.a4, .inl (cI, Tc.N, .inl Tc.ki)), (Tc.a5, .inl (cI, Tc.N, .inl Tc.nx)), (Tc.a6, .inl (cI, Tc.N, .inl Tc.ns)), (Tc.a7, .inl (cI, Tc.N, .inl Tc.nl)), (Tc.a8, .inl (cI, Tc.N, .inl Tc.pa)), (Tc.a9, .inl (cI, Tc.N, .inl Tc.pl)), (mo, .inr (13, MF 30 (rf v j_Ta b_Ta))), (qx, .inl (cB, NN, .inl f)), (t, .inr (12, MF 13 (tw Ta))), (Ta.au, .inl (cC, Ta.U, .inl Ta.un))] := hD
      have hP := hP.sub (ws' := [(mo, .inr (13, MF 30 (rf v j_Ta b_Ta))), (qx, .inl (cB, NN, .inl f)), (t, .inr (12, MF 13 (tw Ta))), (Tc.a0, .inl (cI, Tc.N, .inl Tc.kd)), (Tc.a1, .inl (cL, Tc.N, .inr (.inl Tc.nu))), (Tc.a2, .inl (cI, Tc.N, .inl Tc.st)), (Tc.a3, .inl (cI, Tc.N, .inl Tc.ln)), (Tc.a4, .inl (cI, Tc.N, .inl Tc.ki)), (Tc.a5, .inl (cI, Tc.N, .inl Tc.nx)), (Tc.a6, .inl (cI, Tc.N, .inl Tc.ns)), (Tc.a7, .inl (cI, Tc.N, .inl Tc.nl)), (Tc.a8, .inl (cI, Tc.N, .inl Tc.pa)), (Tc.a9, .inl (cI, Tc.N, .inl Tc.pl)), (Ta.au, .inl (cC, Ta.U, .inl Ta.un))]) [10, 11, 12, 0, 1, 2, 3, 4, 5, 6, 7, 8, 9, 13] rfl
      have hD := hD.sub (ws' := [(mo, .inr (13, MF 30 (rf v j_Ta b_Ta))), (qx, .inl (cB, NN, .inl f)), (t, .inr (12, MF 13 (tw Ta))), (Tc.a0, .inl (cI, Tc.N, .inl Tc.kd)), (Tc.a1, .inl (cL, Tc.N, .inr (.inl Tc.nu))), (Tc.a2, .inl (cI, Tc.N, .inl Tc.st)), (Tc.a3, .inl (cI, Tc.N, .inl Tc.ln)), (Tc.a4, .inl (cI, Tc.N, .inl Tc.ki)), (Tc.a5, .inl (cI, Tc.N, .inl Tc.nx)), (Tc.a6, .inl (cI, Tc.N, .inl Tc.ns)), (Tc.a7, .inl (cI, Tc.N, .inl Tc.nl)), (Tc.a8, .inl (cI, Tc.N, .inl Tc.pa)), (Tc.a9, .inl (cI, Tc.N, .inl Tc.pl)), (Ta.au, .inl (cC, Ta.U, .inl Ta.un))]) [10, 11, 12, 0, 1, 2, 3, 4, 5, 6, 7, 8, 9, 13] (by decide) rfl
      have hP := hP.sub (ws' := [(mo, .inr (13, MF 30 (rf v j_Ta b_Ta))), (qx, .inl (cB, NN, .inl f)), (t, .inr (12, MF 13 (tw Ta))), (Tc.a0, .inl (cI, Tc.N, .inl Tc.kd)), (Tc.a1, .inl (cL, Tc.N, .inr (.inl Tc.nu))), (Tc.a2, .inl (cI, Tc.N, .inl Tc.st)), (Tc.a3, .inl (cI, Tc.N, .inl Tc.ln)), (Tc.a4, .inl (cI, Tc.N, .inl Tc.ki)), (Tc.a5, .inl (cI, Tc.N, .inl Tc.nx)), (Tc.a6, .inl (cI, Tc.N, .inl Tc.ns)), (Tc.a7, .inl (cI, Tc.N, .inl Tc.nl)), (Tc.a8, .inl (cI, Tc.N, .inl Tc.pa)), (Tc.a9, .inl (cI, Tc.N, .inl Tc.pl)), (Ta.au, .inl (cC, Ta.U, .inl Ta.un))]) [0, 1, 2, 3, 4, 5, 6, 7, 8, 9, 10, 11, 12, 13] rfl
      have hD := hD.sub (ws' := [(mo, .inr (13, MF 30 (rf v j_Ta b_Ta))), (qx, .inl (cB, NN, .inl f)), (t, .inr (12, MF 13 (tw Ta))), (Tc.a0, .inl (cI, Tc.N, .inl Tc.kd)), (Tc.a1, .inl (cL, Tc.N, .inr (.inl Tc.nu))), (Tc.a2, .inl (cI, Tc.N, .inl Tc.st)), (Tc.a3, .inl (cI, Tc.N, .inl Tc.ln)), (Tc.a4, .inl (cI, Tc.N, .inl Tc.ki)), (Tc.a5, .inl (cI, Tc.N, .inl Tc.nx)), (Tc.a6, .inl (cI, Tc.N, .inl Tc.ns)), (Tc.a7, .inl (cI, Tc.N, .inl Tc.nl)), (Tc.a8, .inl (cI, Tc.N, .inl Tc.pa)), (Tc.a9, .inl (cI, Tc.N, .inl Tc.pl)), (Ta.au, .inl (cC, Ta.U, .inl Ta.un))]) [0, 1, 2, 3, 4, 5, 6, 7, 8, 9, 10, 11, 12, 13] (by decide) rfl
      have hP : va_P (dC, dI) classes [(mo, .inr (13, MF 30 (rf v j_Ta b_Ta))), (qx, .inl (cB, NN, .inl f)), (t, .inr (12, MF 13 (tw Ta))), (Ta.a0, .inl (cI, Ta.N, .inl Ta.kd)), (Ta.a1, .inl (cL, Ta.N, .inr (.inl Ta.nu))), (Ta.a2, .inl (cI, Ta.N, .inl Ta.st)), (Ta.a3, .inl (cI, Ta.N, .inl Ta.ln)), (Ta.a4, .inl (cI, Ta.N, .inl Ta.ki)), (Ta.a5, .inl (cI, Ta.N, .inl Ta.nx)), (Ta.a6, .inl (cI, Ta.N, .inl Ta.ns)), (Ta.a7, .inl (cI, Ta.N, .inl Ta.nl)), (Ta.a8, .inl (cI, Ta.N, .inl Ta.pa)), (Ta.a9, .inl (cI, Ta.N, .inl Ta.pl)), (Ta.au, .inl (cC, Ta.U, .inl Ta.un))] H := by obtain ⟨_, _, _, rfl, _⟩ := hX_Ta; exact hP
      have hD : va_D A [(mo, .inr (13, MF 30 (rf v j_Ta b_Ta))), (qx, .inl (cB, NN, .inl f)), (t, .inr (12, MF 13 (tw Ta))), (Ta.a0, .inl (cI, Ta.N, .inl Ta.kd)), (Ta.a1, .inl (cL, Ta.N, .inr (.inl Ta.nu))), (Ta.a2, .inl (cI, Ta.N, .inl Ta.st)), (Ta.a3, .inl (cI, Ta.N, .inl Ta.ln)), (Ta.a4, .inl (cI, Ta.N, .inl Ta.ki)), (Ta.a5, .inl (cI, Ta.N, .inl Ta.nx)), (Ta.a6, .inl (cI, Ta.N, .inl Ta.ns)), (Ta.a7, .inl (cI, Ta.N, .inl Ta.nl)), (Ta.a8, .inl (cI, Ta.N, .inl Ta.pa)), (Ta.a9, .inl (cI, Ta.N, .inl Ta.pl)), (Ta.au, .inl (cC, Ta.U, .inl Ta.un))] := by obtain ⟨_, _, _, rfl, _⟩ := hX_Ta; exact hD
      rcases hw with ⟨ho_1, ho_2, ho_3, ho_4⟩ | ⟨ho_1, ho_2, ho_3, ho_4⟩
      · have ho_2 : qtQ f n 34 (skipH f n j) = some (us9, j_Ta) := ho_2
        have ho_3 : j_Ta ≤ n := ho_3
        have ho_4 : us9.length + (skipH f n j) + 2 ≤ j_Ta := ho_4
        have hqt_Ta := ho_2
        have hTk_Ta := hX_Ta.ok hTk_Tc (by omega)
        have hTk_Ta := hX_Ta.ok hTk_Tc (by omega)
        subst ho_1
        have hfit_Ta := hGB_Ta.fits
        refine lv_if_ne (tgt := 97) hx hb d_Mo_inside_92 (by decide) (fun _ => ?_) (fun h => absurd h (by decide))
        refine lv_aload_n hx hb d_Mo_inside_97 rfl (lv_at hl 4 rfl) ?_
        refine va_get (D := (dC, dI)) (ci := 12) (v := .int (nI Ta.us)) (C := R_Tree) (T := F_Tree) (N := 13) hx hb hts in_Tree hown hK hP 2 rfl rfl 12 (by decide) (hts _ w_1058) (fun _ h9 => h9) (MFg (by decide) rfl) d_Mo_inside_98 ?_
        refine lv_iload hx hb d_Mo_inside_101 (lv_at hl 0 rfl) ?_
        refine lv_isub hx hb d_Mo_inside_103 ?_
        refine W.eq (g2 := F0 m 104 ls [.int (nI us9.length)]) (by rw [show ((nI Ta.us) - (nI Tc.us)) = (nI us9.length) from (by rw [hXs_Ta]; exact nI_asub _ _)]) ?_
        refine lv_istore (lv' := [(7, .int (nI us9.length)), (6, .int (nI Tc.us)), (8, .int (nI (skipH f n j))), (0, .ref mo), (1, .ref t), (2, .int (nI nd)), (3, .int (nI (31 - r))), (4, .int 125), (5, .int bf)]) hx hb d_Mo_inside_104 hl (by decide) rfl (fun ls hl => ?_)
        refine lv_aload_n hx hb d_Mo_inside_106 rfl (lv_at hl 4 rfl) ?_
        refine lv_iload_n hx hb d_Mo_inside_107 rfl (lv_at hl 5 rfl) ?_
        refine lv_aload_n hx hb d_Mo_inside_108 rfl (lv_at hl 4 rfl) ?_
        refine lv_iload hx hb d_Mo_inside_109 (lv_at hl 1 rfl) ?_
        refine lv_iload hx hb d_Mo_inside_111 (lv_at hl 0 rfl) ?_
        have hKa : KS r ((123 : Int32) = 123) nd T.ct Tc.ct Ta acc bf := hKS.fr hnd hTBc (Nat.le_refl _) (by omega) hX_Ta.te
        obtain ⟨ks, hks1, hks2, hks3⟩ := RepK_chn (Nat.le_refl _) (fun b eb c hc => (RepV_lt hc).1) _ _ _ (hKa.all (by omega))
        obtain ⟨hks4, hks5⟩ := hks3 rfl
        have hPc := hP.sub (ws' := [(t, .inr (12, MF 13 (tw Ta))), (Ta.a4, .inl (cI, Ta.N, .inl Ta.ki)), (Ta.a5, .inl (cI, Ta.N, .inl Ta.nx)), (Ta.a6, .inl (cI, Ta.N, .inl Ta.ns)), (Ta.a7, .inl (cI, Ta.N, .inl Ta.nl)), (Ta.au, .inl (cC, Ta.U, .inl Ta.un))]) [2, 7, 8, 9, 10, 13] rfl
        have hDc := hD.sub (ws' := [(t, .inr (12, MF 13 (tw Ta))), (Ta.a4, .inl (cI, Ta.N, .inl Ta.ki)), (Ta.a5, .inl (cI, Ta.N, .inl Ta.nx)), (Ta.a6, .inl (cI, Ta.N, .inl Ta.ns)), (Ta.a7, .inl (cI, Ta.N, .inl Ta.nl)), (Ta.au, .inl (cC, Ta.U, .inl Ta.un))]) [2, 7, 8, 9, 10, 13] (by decide) rfl
        have hKc := hK.sub (tys' := [(cI, .int), (cC, .char)]) [1, 3] rfl
        have hFc := va_free (wc := [(t, .inr (12, MF 13 (tw Ta))), (Ta.a4, .inl (cI, Ta.N, .inl Ta.ki)), (Ta.a5, .inl (cI, Ta.N, .inl Ta.nx)), (Ta.a6, .inl (cI, Ta.N, .inl Ta.ns)), (Ta.a7, .inl (cI, Ta.N, .inl Ta.nl)), (Ta.au, .inl (cC, Ta.U, .inl Ta.un))]) hD hS hA [2, 7, 8, 9, 10, 13] rfl
        refine va_calli (va_runV (As := [.int (nI nd), .ref t, .int (nI Tc.us), .int (nI us9.length)]) (rest := []) ⟨hx, hb, hml, hown, hts⟩ (c_Tree_findS l dC dI t H cI cC Ta nd Tc.us us9.length ks hTk_Ta (by omega) hks1 hks4 (by omega)) (cwV 4 hts (gt_V (own := R_Mo) (C := R_Tree) (i := 95) (y := y_Tree_find) i_Tree_find w_1350 w_1351 w_1352 w_8) rfl rfl rfl (by decide +kernel) ⟨Nat.le_trans (m := 9) (Nat.le_of_ble_eq_true rfl) (Nat.le_add_right 9 (2 * r)), Nat.le_trans (m := 330) (Nat.le_of_ble_eq_true rfl) (Nat.le_add_right 330 (80 * r))⟩) ⟨mp_blind, va_recv hKc hPc (ci := 12) (q0 := 0) rfl rfl, fun U hU hW => ⟨rfl, hU, by rw [hU]; exact hPc, va_K.moved hW.alike hKc, hDc.weaken (fun _ _ _ _ => trivial)⟩⟩ rfl rfl hl.1 rfl (lv_room (Nat.le_of_ble_eq_true rfl)) d_Mo_inside_113 ⟨hfit_Ta.1, hfit_Ta.2⟩) hS (fun q _ h => hFc q h) hFc (fun r3 _u t9 H1 locs ht hvm hw hB hz1 hk1 hS => ?_)
        obtain ⟨hP1, hK1, hD1⟩ := hB
        rw [ht] at hP1
        obtain ⟨hP, hD⟩ := va_join (wr := [(mo, .inr (13, MF 30 (rf v j_Ta b_Ta))), (qx, .inl (cB, NN, .inl f)), (Ta.a0, .inl (cI, Ta.N, .inl Ta.kd)), (Ta.a1, .inl (cL, Ta.N, .inr (.inl Ta.nu))), (Ta.a2, .inl (cI, Ta.N, .inl Ta.st)), (Ta.a3, .inl (cI, Ta.N, .inl Ta.ln)), (Ta.a8, .inl (cI, Ta.N, .inl Ta.pa)), (Ta.a9, .inl (cI, Ta.N, .inl Ta.pl))]) (w1 := [(t, .inr (12, MF 13 (tw Ta))), (Ta.a4, .inl (cI, Ta.N, .inl Ta.ki)), (Ta.a5, .inl (cI, Ta.N, .inl Ta.nx)), (Ta.a6, .inl (cI, Ta.N, .inl Ta.ns)), (Ta.a7, .inl (cI, Ta.N, .inl Ta.nl)), (Ta.au, .inl (cC, Ta.U, .inl Ta.un))]) hP hD [2, 7, 8, 9, 10, 13] [0, 1, 3, 4, 5, 6, 11, 12] rfl rfl (by decide) (by decide) hk1 hFc hP1 hD1
        generalize H1 = H at hP hS ⊢
        have hP : va_P (dC, dI) classes [(mo, .inr (13, MF 30 (rf v j_Ta b_Ta))), (qx, .inl (cB, NN, .inl f)), (Ta.a0, .inl (cI, Ta.N, .inl Ta.kd)), (Ta.a1, .inl (cL, Ta.N, .inr (.inl Ta.nu))), (Ta.a2, .inl (cI, Ta.N, .inl Ta.st)), (Ta.a3, .inl (cI, Ta.N, .inl Ta.ln)), (Ta.a8, .inl (cI, Ta.N, .inl Ta.pa)), (Ta.a9, .inl (cI, Ta.N, .inl Ta.pl)), (t, .inr (12, MF 13 (tw Ta))), (Ta.a4, .inl (cI, Ta.N, .inl Ta.ki)), (Ta.a5, .inl (cI, Ta.N, .inl Ta.nx)), (Ta.a6, .inl (cI, Ta.N, .inl Ta.ns)), (Ta.a7, .inl (cI, Ta.N, .inl Ta.nl)), (Ta.au, .inl (cC, Ta.U, .inl Ta.un))] H := hP
        have hD : va_D A [(mo, .inr (13, MF 30 (rf v j_Ta b_Ta))), (qx, .inl (cB, NN, .inl f)), (Ta.a0, .inl (cI, Ta.N, .inl Ta.kd)), (Ta.a1, .inl (cL, Ta.N, .inr (.inl Ta.nu))), (Ta.a2, .inl (cI, Ta.N, .inl Ta.st)), (Ta.a3, .inl (cI, Ta.N, .inl Ta.ln)), (Ta.a8, .inl (cI, Ta.N, .inl Ta.pa)), (Ta.a9, .inl (cI, Ta.N, .inl Ta.pl)), (t, .inr (12, MF 13 (tw Ta))), (Ta.a4, .inl (cI, Ta.N, .inl Ta.ki)), (Ta.a5, .inl (cI, Ta.N, .inl Ta.nx)), (Ta.a6, .inl (cI, Ta.N, .inl Ta.ns)), (Ta.a7, .inl (cI, Ta.N, .inl Ta.nl)), (Ta.au, .inl (cC, Ta.U, .inl Ta.un))] := hD
        have hP := hP.sub (ws' := [(mo, .inr (13, MF 30 (rf v j_Ta b_Ta))), (qx, .inl (cB, NN, .inl f)), (t, .inr (12, MF 13 (tw Ta))), (Ta.a0, .inl (cI, Ta.N, .inl Ta.kd)), (Ta.a1, .inl (cL, Ta.N, .inr (.inl Ta.nu))), (Ta.a2, .inl (cI, Ta.N, .inl Ta.st)), (Ta.a3, .inl (cI, Ta.N, .inl Ta.ln)), (Ta.a4, .inl (cI, Ta.N, .inl Ta.ki)), (Ta.a5, .inl (cI, Ta.N, .inl Ta.nx)), (Ta.a6, .inl (cI, Ta.N, .inl Ta.ns)), (Ta.a7, .inl (cI, Ta.N, .inl Ta.nl)), (Ta.a8, .inl (cI, Ta.N, .inl Ta.pa)), (Ta.a9, .inl (cI, Ta.N, .inl Ta.pl)), (Ta.au, .inl (cC, Ta.U, .inl Ta.un))]) [0, 1, 8, 2, 3, 4, 5, 9, 10, 11, 12, 6, 7, 13] rfl
        have hD := hD.sub (ws' := [(mo, .inr (13, MF 30 (rf v j_Ta b_Ta))), (qx, .inl (cB, NN, .inl f)), (t, .inr (12, MF 13 (tw Ta))), (Ta.a0, .inl (cI, Ta.N, .inl Ta.kd)), (Ta.a1, .inl (cL, Ta.N, .inr (.inl Ta.nu))), (Ta.a2, .inl (cI, Ta.N, .inl Ta.st)), (Ta.a3, .inl (cI, Ta.N, .inl Ta.ln)), (Ta.a4, .inl (cI, Ta.N, .inl Ta.ki)), (Ta.a5, .inl (cI, Ta.N, .inl Ta.nx)), (Ta.a6, .inl (cI, Ta.N, .inl Ta.ns)), (Ta.a7, .inl (cI, Ta.N, .inl Ta.nl)), (Ta.a8, .inl (cI, Ta.N, .inl Ta.pa)), (Ta.a9, .inl (cI, Ta.N, .inl Ta.pl)), (Ta.au, .inl (cC, Ta.U, .inl Ta.un))]) [0, 1, 8, 2, 3, 4, 5, 9, 10, 11, 12, 6, 7, 13] (by decide) rfl
        rw [hX_Ta.un.2] at hw
        rcases hw with ⟨a9, hw1, hw2, hw3⟩ | ⟨hw1, hw2⟩
        · have hmem : us9.map c16 ∈ acc.map (·.1) := by rw [← hks5, ← hw3]; exact List.mem_map_of_mem hw1
          subst hw2
          have ha9 : a9 < 2 ^ 31 := by have := chn_lt hks1 a9 hw1; omega
          refine lv_if_lt (tgt := 126) hx hb d_Mo_inside_116 (by decide) (fun h => absurd h (nI_pos (by omega))) (fun _ => ?_)
          refine lv_aload_n hx hb d_Mo_inside_119 rfl (lv_at hl 3 rfl) ?_
          refine lv_iload hx hb d_Mo_inside_120 (lv_at hl 2 rfl) ?_
          have hPc := hP.sub (ws' := [(mo, .inr (13, MF 30 (rf v j_Ta b_Ta)))]) [0] rfl
          have hDc := hD.sub (ws' := [(mo, .inr (13, MF 30 (rf v j_Ta b_Ta)))]) [0] (by decide) rfl
          have hKc := hK.sub (tys' := []) [] rfl
          have hFc := va_free (wc := [(mo, .inr (13, MF 30 (rf v j_Ta b_Ta)))]) hD hS hA [0] rfl
          refine va_calli (va_runV (As := [.int (nI (skipH f n j))]) (rest := []) ⟨hx, hb, hml, hown, hts⟩ (c_Mo_fail l dC dI mo H (rf v j_Ta b_Ta) b_Ta ((nI (skipH f n j))) rf_9) (cwV 1 hts (gt_V (own := R_Mo) (C := R_Mo) (i := 151) (y := y_Mo_fail) i_Mo_fail w_1250 w_1252 (gt_sel (y := y_Mo_fail) (n := 30) (by decide +kernel)) w_7) rfl rfl rfl (by decide +kernel) ⟨Nat.le_trans (m := 9) (Nat.le_of_ble_eq_true rfl) (Nat.le_add_right 9 (2 * r)), Nat.le_trans (m := 330) (Nat.le_of_ble_eq_true rfl) (Nat.le_add_right 330 (80 * r))⟩) ⟨mp_blind, va_recv hKc hPc (ci := 13) (q0 := 0) rfl rfl, fun U hU hW => ⟨rfl, hU, by rw [hU]; exact hPc, va_K.moved hW.alike hKc, hDc.weaken (fun _ _ _ _ => trivial)⟩⟩ rfl rfl hl.1 rfl (lv_room (Nat.le_of_ble_eq_true rfl)) d_Mo_inside_122 ⟨hfit_Ta.1, hfit_Ta.2⟩) hS (fun q _ h => hFc q h) hFc (fun r0 u2 t9 H1 locs ht hvm hw hB hz1 hk1 hS => ?_)
          obtain ⟨hP1, hK1, hD1⟩ := hB
          rw [ht] at hP1
          obtain ⟨hP, hD⟩ := va_join (wr := [(qx, .inl (cB, NN, .inl f)), (t, .inr (12, MF 13 (tw Ta))), (Ta.a0, .inl (cI, Ta.N, .inl Ta.kd)), (Ta.a1, .inl (cL, Ta.N, .inr (.inl Ta.nu))), (Ta.a2, .inl (cI, Ta.N, .inl Ta.st)), (Ta.a3, .inl (cI, Ta.N, .inl Ta.ln)), (Ta.a4, .inl (cI, Ta.N, .inl Ta.ki)), (Ta.a5, .inl (cI, Ta.N, .inl Ta.nx)), (Ta.a6, .inl (cI, Ta.N, .inl Ta.ns)), (Ta.a7, .inl (cI, Ta.N, .inl Ta.nl)), (Ta.a8, .inl (cI, Ta.N, .inl Ta.pa)), (Ta.a9, .inl (cI, Ta.N, .inl Ta.pl)), (Ta.au, .inl (cC, Ta.U, .inl Ta.un))]) (w1 := [(mo, .inr (13, MF 30 u2))]) hP hD [0] [1, 2, 3, 4, 5, 6, 7, 8, 9, 10, 11, 12, 13] rfl rfl (by decide) (by decide) hk1 hFc hP1 hD1
          generalize H1 = H at hP hS ⊢
          have hP : va_P (dC, dI) classes [(qx, .inl (cB, NN, .inl f)), (t, .inr (12, MF 13 (tw Ta))), (Ta.a0, .inl (cI, Ta.N, .inl Ta.kd)), (Ta.a1, .inl (cL, Ta.N, .inr (.inl Ta.nu))), (Ta.a2, .inl (cI, Ta.N, .inl Ta.st)), (Ta.a3, .inl (cI, Ta.N, .inl Ta.ln)), (Ta.a4, .inl (cI, Ta.N, .inl Ta.ki)), (Ta.a5, .inl (cI, Ta.N, .inl Ta.nx)), (Ta.a6, .inl (cI, Ta.N, .inl Ta.ns)), (Ta.a7, .inl (cI, Ta.N, .inl Ta.nl)), (Ta.a8, .inl (cI, Ta.N, .inl Ta.pa)), (Ta.a9, .inl (cI, Ta.N, .inl Ta.pl)), (Ta.au, .inl (cC, Ta.U, .inl Ta.un)), (mo, .inr (13, MF 30 u2))] H := hP
          have hD : va_D A [(qx, .inl (cB, NN, .inl f)), (t, .inr (12, MF 13 (tw Ta))), (Ta.a0, .inl (cI, Ta.N, .inl Ta.kd)), (Ta.a1, .inl (cL, Ta.N, .inr (.inl Ta.nu))), (Ta.a2, .inl (cI, Ta.N, .inl Ta.st)), (Ta.a3, .inl (cI, Ta.N, .inl Ta.ln)), (Ta.a4, .inl (cI, Ta.N, .inl Ta.ki)), (Ta.a5, .inl (cI, Ta.N, .inl Ta.nx)), (Ta.a6, .inl (cI, Ta.N, .inl Ta.ns)), (Ta.a7, .inl (cI, Ta.N, .inl Ta.nl)), (Ta.a8, .inl (cI, Ta.N, .inl Ta.pa)), (Ta.a9, .inl (cI, Ta.N, .inl Ta.pl)), (Ta.au, .inl (cC, Ta.U, .inl Ta.un)), (mo, .inr (13, MF 30 u2))] := hD
          have hP := hP.sub (ws' := [(mo, .inr (13, MF 30 u2)), (qx, .inl (cB, NN, .inl f)), (t, .inr (12, MF 13 (tw Ta))), (Ta.a0, .inl (cI, Ta.N, .inl Ta.kd)), (Ta.a1, .inl (cL, Ta.N, .inr (.inl Ta.nu))), (Ta.a2, .inl (cI, Ta.N, .inl Ta.st)), (Ta.a3, .inl (cI, Ta.N, .inl Ta.ln)), (Ta.a4, .inl (cI, Ta.N, .inl Ta.ki)), (Ta.a5, .inl (cI, Ta.N, .inl Ta.nx)), (Ta.a6, .inl (cI, Ta.N, .inl Ta.ns)), (Ta.a7, .inl (cI, Ta.N, .inl Ta.nl)), (Ta.a8, .inl (cI, Ta.N, .inl Ta.pa)), (Ta.a9, .inl (cI, Ta.N, .inl Ta.pl)), (Ta.au, .inl (cC, Ta.U, .inl Ta.un))]) [13, 0, 1, 2, 3, 4, 5, 6, 7, 8, 9, 10, 11, 12] rfl
          have hD := hD.sub (ws' := [(mo, .inr (13, MF 30 u2)), (qx, .inl (cB, NN, .inl f)), (t, .inr (12, MF 13 (tw Ta))), (Ta.a0, .inl (cI, Ta.N, .inl Ta.kd)), (Ta.a1, .inl (cL, Ta.N, .inr (.inl Ta.nu))), (Ta.a2, .inl (cI, Ta.N, .inl Ta.st)), (Ta.a3, .inl (cI, Ta.N, .inl Ta.ln)), (Ta.a4, .inl (cI, Ta.N, .inl Ta.ki)), (Ta.a5, .inl (cI, Ta.N, .inl Ta.nx)), (Ta.a6, .inl (cI, Ta.N, .inl Ta.ns)), (Ta.a7, .inl (cI, Ta.N, .inl Ta.nl)), (Ta.a8, .inl (cI, Ta.N, .inl Ta.pa)), (Ta.a9, .inl (cI, Ta.N, .inl Ta.pl)), (Ta.au, .inl (cC, Ta.U, .inl Ta.un))]) [13, 0, 1, 2, 3, 4, 5, 6, 7, 8, 9, 10, 11, 12] (by decide) rfl
          obtain ⟨b7, h_b7⟩ := rf_fail (v := v) (i := j_Ta) (br := b_Ta) (b2 := b_Ta) (wh := (nI (skipH f n j)))
          have hw : r0 = 0 ∧ u2 = _ := hw
          obtain ⟨hw1, hw2⟩ := hw
          rw [h_b7] at hw2
          rw [hw2] at hP hD
          subst hw1
          have hP : va_P (dC, dI) classes [(mo, .inr (13, MF 30 (rf v j_Ta b7))), (qx, .inl (cB, NN, .inl f)), (t, .inr (12, MF 13 (tw Ta))), (Ta.a0, .inl (cI, Ta.N, .inl Ta.kd)), (Ta.a1, .inl (cL, Ta.N, .inr (.inl Ta.nu))), (Ta.a2, .inl (cI, Ta.N, .inl Ta.st)), (Ta.a3, .inl (cI, Ta.N, .inl Ta.ln)), (Ta.a4, .inl (cI, Ta.N, .inl Ta.ki)), (Ta.a5, .inl (cI, Ta.N, .inl Ta.nx)), (Ta.a6, .inl (cI, Ta.N, .inl Ta.ns)), (Ta.a7, .inl (cI, Ta.N, .inl Ta.nl)), (Ta.a8, .inl (cI, Ta.N, .inl Ta.pa)), (Ta.a9, .inl (cI, Ta.N, .inl Ta.pl)), (Ta.au, .inl (cC, Ta.U, .inl Ta.un))] H := hP
          have hD : va_D A [(mo, .inr (13, MF 30 (rf v j_Ta b7))), (qx, .inl (cB, NN, .inl f)), (t, .inr (12, MF 13 (tw Ta))), (Ta.a0, .inl (cI, Ta.N, .inl Ta.kd)), (Ta.a1, .inl (cL, Ta.N, .inr (.inl Ta.nu))), (Ta.a2, .inl (cI, Ta.N, .inl Ta.st)), (Ta.a3, .inl (cI, Ta.N, .inl Ta.ln)), (Ta.a4, .inl (cI, Ta.N, .inl Ta.ki)), (Ta.a5, .inl (cI, Ta.N, .inl Ta.nx)), (Ta.a6, .inl (cI, Ta.N, .inl Ta.ns)), (Ta.a7, .inl (cI, Ta.N, .inl Ta.nl)), (Ta.a8, .inl (cI, Ta.N, .inl Ta.pa)), (Ta.a9, .inl (cI, Ta.N, .inl Ta.pl)), (Ta.au, .inl (cC, Ta.U, .inl Ta.un))] := hD
          have hfin : pInside f n (pV f n r) 123 i = none := by rw [hpi, ← hI5, hm0]; exact pIn_n (pNam_n3 hq34 hqt_Ta hmem)
          refine w_same (fun hq => ?_)
          refine W.widen (k := ncap T (T.ct + (n + 12 - (i + 1))) + qcap T (T.us + (n + 12 - (i + 1)))) (n := 20 * ncap T (T.ct + (n + 12 - (i + 1))) + 2 * qcap T (T.us + (n + 12 - (i + 1)))) hfit_Ta.1 hfit_Ta.2 ?_
          have hTG : TG n (i + 1) T Ta := ⟨hTk_Ta, hGB_Ta⟩
          exact W.zret (v := 0) hx hb hr rfl (fun t9 ht hW => ⟨⟨0, (Ta, j_Ta, b7), rfl, ⟨hTG, Or.inr ⟨rfl, hfin⟩⟩, ⟨by rw [ht]; exact hP, va_K.moved hW.alike hK, hD⟩, by rw [ht]; exact hq.mono (Nat.le_refl _) (Nat.le_refl _)⟩, hS.F ht⟩) hS.2.2 d_Mo_inside_125
        · have hmem : ¬ us9.map c16 ∈ acc.map (·.1) := fun h => by rw [← hks5] at h; obtain ⟨a9, h1, h2⟩ := List.mem_map.mp h; exact hw2 a9 h1 h2
          subst hw1
          refine lv_if_lt (tgt := 126) hx hb d_Mo_inside_116 (by decide) (fun _ => ?_) (fun h => absurd (by decide) h)
          refine lv_aload_n hx hb d_Mo_inside_126 rfl (lv_at hl 3 rfl) ?_
          have hPc := hP.sub (ws' := [(mo, .inr (13, MF 30 (rf v j_Ta b_Ta))), (qx, .inl (cB, NN, .inl f))]) [0, 1] rfl
          have hDc := hD.sub (ws' := [(mo, .inr (13, MF 30 (rf v j_Ta b_Ta))), (qx, .inl (cB, NN, .inl f))]) [0, 1] (by decide) rfl
          have hKc := hK.sub (tys' := [(cB, .byte)]) [0] rfl
          have hFc := va_free (wc := [(mo, .inr (13, MF 30 (rf v j_Ta b_Ta))), (qx, .inl (cB, NN, .inl f))]) hD hS hA [0, 1] rfl
          refine va_callv (va_runV (As := []) (rest := []) ⟨hx, hb, hml, hown, hts⟩ (c_Mo_blanks l dC dI mo H (rf v j_Ta b_Ta) cB qx NN f n j_Ta (by omega) (by omega) (by omega) ((rf_ne (by decide) (by decide)).trans h6) rf_7 ((rf_ne (by decide) (by decide)).trans h8)) (cwV 0 hts (gt_V (own := R_Mo) (C := R_Mo) (i := 184) (y := y_Mo_blanks) i_Mo_blanks w_1229 w_1231 (gt_sel (y := y_Mo_blanks) (n := 30) (by decide +kernel)) w_7) rfl rfl rfl (by decide +kernel) ⟨Nat.le_trans (m := 9) (Nat.le_of_ble_eq_true rfl) (Nat.le_add_right 9 (2 * r)), Nat.le_trans (m := 330) (Nat.le_of_ble_eq_true rfl) (Nat.le_add_right 330 (80 * r))⟩) ⟨mp_blind, va_recv hKc hPc (ci := 13) (q0 := 0) rfl rfl, fun U hU hW => ⟨rfl, hU, by rw [hU]; exact hPc, va_K.moved hW.alike hKc, hDc.weaken (fun _ _ _ _ => trivial)⟩⟩ rfl rfl hl.1 rfl (lv_room (Nat.le_of_ble_eq_true rfl)) d_Mo_inside_127 ⟨hfit_Ta.1, hfit_Ta.2⟩) hS (fun q _ h => hFc q h) hFc (fun _u t9 H1 locs ht hvm hw hB hz1 hk1 hS => ?_)
          obtain ⟨hP1, hK1, hD1⟩ := hB
          rw [ht] at hP1
          obtain ⟨hP, hD⟩ := va_join (wr := [(t, .inr (12, MF 13 (tw Ta))), (Ta.a0, .inl (cI, Ta.N, .inl Ta.kd)), (Ta.a1, .inl (cL, Ta.N, .inr (.inl Ta.nu))), (Ta.a2, .inl (cI, Ta.N, .inl Ta.st)), (Ta.a3, .inl (cI, Ta.N, .inl Ta.ln)), (Ta.a4, .inl (cI, Ta.N, .inl Ta.ki)), (Ta.a5, .inl (cI, Ta.N, .inl Ta.nx)), (Ta.a6, .inl (cI, Ta.N, .inl Ta.ns)), (Ta.a7, .inl (cI, Ta.N, .inl Ta.nl)), (Ta.a8, .inl (cI, Ta.N, .inl Ta.pa)), (Ta.a9, .inl (cI, Ta.N, .inl Ta.pl)), (Ta.au, .inl (cC, Ta.U, .inl Ta.un))]) (w1 := [(mo, .inr (13, MF 30 (va_up (rf v j_Ta b_Ta) 7 (.int (nI (skipH f n j_Ta)))))), (qx, .inl (cB, NN, .inl f))]) hP hD [0, 1] [2, 3, 4, 5, 6, 7, 8, 9, 10, 11, 12, 13] rfl rfl (by decide) (by decide) hk1 hFc hP1 hD1
          generalize H1 = H at hP hS ⊢
          have hP : va_P (dC, dI) classes [(t, .inr (12, MF 13 (tw Ta))), (Ta.a0, .inl (cI, Ta.N, .inl Ta.kd)), (Ta.a1, .inl (cL, Ta.N, .inr (.inl Ta.nu))), (Ta.a2, .inl (cI, Ta.N, .inl Ta.st)), (Ta.a3, .inl (cI, Ta.N, .inl Ta.ln)), (Ta.a4, .inl (cI, Ta.N, .inl Ta.ki)), (Ta.a5, .inl (cI, Ta.N, .inl Ta.nx)), (Ta.a6, .inl (cI, Ta.N, .inl Ta.ns)), (Ta.a7, .inl (cI, Ta.N, .inl Ta.nl)), (Ta.a8, .inl (cI, Ta.N, .inl Ta.pa)), (Ta.a9, .inl (cI, Ta.N, .inl Ta.pl)), (Ta.au, .inl (cC, Ta.U, .inl Ta.un)), (mo, .inr (13, MF 30 (va_up (rf v j_Ta b_Ta) 7 (.int (nI (skipH f n j_Ta)))))), (qx, .inl (cB, NN, .inl f))] H := hP
          have hD : va_D A [(t, .inr (12, MF 13 (tw Ta))), (Ta.a0, .inl (cI, Ta.N, .inl Ta.kd)), (Ta.a1, .inl (cL, Ta.N, .inr (.inl Ta.nu))), (Ta.a2, .inl (cI, Ta.N, .inl Ta.st)), (Ta.a3, .inl (cI, Ta.N, .inl Ta.ln)), (Ta.a4, .inl (cI, Ta.N, .inl Ta.ki)), (Ta.a5, .inl (cI, Ta.N, .inl Ta.nx)), (Ta.a6, .inl (cI, Ta.N, .inl Ta.ns)), (Ta.a7, .inl (cI, Ta.N, .inl Ta.nl)), (Ta.a8, .inl (cI, Ta.N, .inl Ta.pa)), (Ta.a9, .inl (cI, Ta.N, .inl Ta.pl)), (Ta.au, .inl (cC, Ta.U, .inl Ta.un)), (mo, .inr (13, MF 30 (va_up (rf v j_Ta b_Ta) 7 (.int (nI (skipH f n j_Ta)))))), (qx, .inl (cB, NN, .inl f))] := hD
          have hP := hP.sub (ws' := [(mo, .inr (13, MF 30 (va_up (rf v j_Ta b_Ta) 7 (.int (nI (skipH f n j_Ta)))))), (qx, .inl (cB, NN, .inl f)), (t, .inr (12, MF 13 (tw Ta))), (Ta.a0, .inl (cI, Ta.N, .inl Ta.kd)), (Ta.a1, .inl (cL, Ta.N, .inr (.inl Ta.nu))), (Ta.a2, .inl (cI, Ta.N, .inl Ta.st)), (Ta.a3, .inl (cI, Ta.N, .inl Ta.ln)), (Ta.a4, .inl (cI, Ta.N, .inl Ta.ki)), (Ta.a5, .inl (cI, Ta.N, .inl Ta.nx)), (Ta.a6, .inl (cI, Ta.N, .inl Ta.ns)), (Ta.a7, .inl (cI, Ta.N, .inl Ta.nl)), (Ta.a8, .inl (cI, Ta.N, .inl Ta.pa)), (Ta.a9, .inl (cI, Ta.N, .inl Ta.pl)), (Ta.au, .inl (cC, Ta.U, .inl Ta.un))]) [12, 13, 0, 1, 2, 3, 4, 5, 6, 7, 8, 9, 10, 11] rfl
          have hD := hD.sub (ws' := [(mo, .inr (13, MF 30 (va_up (rf v j_Ta b_Ta) 7 (.int (nI (skipH f n j_Ta)))))), (qx, .inl (cB, NN, .inl f)), (t, .inr (12, MF 13 (tw Ta))), (Ta.a0, .inl (cI, Ta.N, .inl Ta.kd)), (Ta.a1, .inl (cL, Ta.N, .inr (.inl Ta.nu))), (Ta.a2, .inl (cI, Ta.N, .inl Ta.st)), (Ta.a3, .inl (cI, Ta.N, .inl Ta.ln)), (Ta.a4, .inl (cI, Ta.N, .inl Ta.ki)), (Ta.a5, .inl (cI, Ta.N, .inl Ta.nx)), (Ta.a6, .inl (cI, Ta.N, .inl Ta.ns)), (Ta.a7, .inl (cI, Ta.N, .inl Ta.nl)), (Ta.a8, .inl (cI, Ta.N, .inl Ta.pa)), (Ta.a9, .inl (cI, Ta.N, .inl Ta.pl)), (Ta.au, .inl (cC, Ta.U, .inl Ta.un))]) [12, 13, 0, 1, 2, 3, 4, 5, 6, 7, 8, 9, 10, 11] (by decide) rfl
          rw [rf_u7] at hP hD
          have hP : va_P (dC, dI) classes [(mo, .inr (13, MF 30 (rf v (skipH f n j_Ta) b_Ta))), (qx, .inl (cB, NN, .inl f)), (t, .inr (12, MF 13 (tw Ta))), (Ta.a0, .inl (cI, Ta.N, .inl Ta.kd)), (Ta.a1, .inl (cL, Ta.N, .inr (.inl Ta.nu))), (Ta.a2, .inl (cI, Ta.N, .inl Ta.st)), (Ta.a3, .inl (cI, Ta.N, .inl Ta.ln)), (Ta.a4, .inl (cI, Ta.N, .inl Ta.ki)), (Ta.a5, .inl (cI, Ta.N, .inl Ta.nx)), (Ta.a6, .inl (cI, Ta.N, .inl Ta.ns)), (Ta.a7, .inl (cI, Ta.N, .inl Ta.nl)), (Ta.a8, .inl (cI, Ta.N, .inl Ta.pa)), (Ta.a9, .inl (cI, Ta.N, .inl Ta.pl)), (Ta.au, .inl (cC, Ta.U, .inl Ta.un))] H := hP
          have hD : va_D A [(mo, .inr (13, MF 30 (rf v (skipH f n j_Ta) b_Ta))), (qx, .inl (cB, NN, .inl f)), (t, .inr (12, MF 13 (tw Ta))), (Ta.a0, .inl (cI, Ta.N, .inl Ta.kd)), (Ta.a1, .inl (cL, Ta.N, .inr (.inl Ta.nu))), (Ta.a2, .inl (cI, Ta.N, .inl Ta.st)), (Ta.a3, .inl (cI, Ta.N, .inl Ta.ln)), (Ta.a4, .inl (cI, Ta.N, .inl Ta.ki)), (Ta.a5, .inl (cI, Ta.N, .inl Ta.nx)), (Ta.a6, .inl (cI, Ta.N, .inl Ta.ns)), (Ta.a7, .inl (cI, Ta.N, .inl Ta.nl)), (Ta.a8, .inl (cI, Ta.N, .inl Ta.pa)), (Ta.a9, .inl (cI, Ta.N, .inl Ta.pl)), (Ta.au, .inl (cC, Ta.U, .inl Ta.un))] := hD
          have hsk_130 := skipH_n (f := f) (show j_Ta ≤ n by omega)
          refine lv_aload_n hx hb d_Mo_inside_130 rfl (lv_at hl 3 rfl) ?_
          refine lv_bipush (v := 58) hx hb d_Mo_inside_131 (by decide) ?_
          have hPc := hP.sub (ws' := [(mo, .inr (13, MF 30 (rf v (skipH f n j_Ta) b_Ta))), (qx, .inl (cB, NN, .inl f))]) [0, 1] rfl
          have hDc := hD.sub (ws' := [(mo, .inr (13, MF 30 (rf v (skipH f n j_Ta) b_Ta))), (qx, .inl (cB, NN, .inl f))]) [0, 1] (by decide) rfl
          have hKc := hK.sub (tys' := [(cB, .byte)]) [0] rfl
          have hFc := va_free (wc := [(mo, .inr (13, MF 30 (rf v (skipH f n j_Ta) b_Ta))), (qx, .inl (cB, NN, .inl f))]) hD hS hA [0, 1] rfl
          refine va_calli (va_runV (As := [.int 58]) (rest := []) ⟨hx, hb, hml, hown, hts⟩ (c_Mo_take l dC dI mo H (rf v (skipH f n j_Ta) b_Ta) cB qx NN f n (skipH f n j_Ta) (by omega) (by omega) (by omega) ((rf_ne (by decide) (by decide)).trans h6) rf_7 ((rf_ne (by decide) (by decide)).trans h8) b_Ta rf_9 58) (cwV 1 hts (gt_V (own := R_Mo) (C := R_Mo) (i := 163) (y := y_Mo_take) i_Mo_take w_1246 w_1248 (gt_sel (y := y_Mo_take) (n := 30) (by decide +kernel)) w_7) rfl rfl rfl (by decide +kernel) ⟨Nat.le_trans (m := 9) (Nat.le_of_ble_eq_true rfl) (Nat.le_add_right 9 (2 * r)), Nat.le_trans (m := 330) (Nat.le_of_ble_eq_true rfl) (Nat.le_add_right 330 (80 * r))⟩) ⟨mp_blind, va_recv hKc hPc (ci := 13) (q0 := 0) rfl rfl, fun U hU hW => ⟨rfl, hU, by rw [hU]; exact hPc, va_K.moved hW.alike hKc, hDc.weaken (fun _ _ _ _ => trivial)⟩⟩ rfl rfl hl.1 rfl (lv_room (Nat.le_of_ble_eq_true rfl)) d_Mo_inside_133 ⟨hfit_Ta.1, hfit_Ta.2⟩) hS (fun q _ h => hFc q h) hFc (fun r0 u2 t9 H1 locs ht hvm hw hB hz1 hk1 hS => ?_)
          obtain ⟨hP1, hK1, hD1⟩ := hB
          rw [ht] at hP1
          obtain ⟨hP, hD⟩ := va_join (wr := [(t, .inr (12, MF 13 (tw Ta))), (Ta.a0, .inl (cI, Ta.N, .inl Ta.kd)), (Ta.a1, .inl (cL, Ta.N, .inr (.inl Ta.nu))), (Ta.a2, .inl (cI, Ta.N, .inl Ta.st)), (Ta.a3, .inl (cI, Ta.N, .inl Ta.ln)), (Ta.a4, .inl (cI, Ta.N, .inl Ta.ki)), (Ta.a5, .inl (cI, Ta.N, .inl Ta.nx)), (Ta.a6, .inl (cI, Ta.N, .inl Ta.ns)), (Ta.a7, .inl (cI, Ta.N, .inl Ta.nl)), (Ta.a8, .inl (cI, Ta.N, .inl Ta.pa)), (Ta.a9, .inl (cI, Ta.N, .inl Ta.pl)), (Ta.au, .inl (cC, Ta.U, .inl Ta.un))]) (w1 := [(mo, .inr (13, MF 30 u2)), (qx, .inl (cB, NN, .inl f))]) hP hD [0, 1] [2, 3, 4, 5, 6, 7, 8, 9, 10, 11, 12, 13] rfl rfl (by decide) (by decide) hk1 hFc hP1 hD1
          generalize H1 = H at hP hS ⊢
          have hP : va_P (dC, dI) classes [(t, .inr (12, MF 13 (tw Ta))), (Ta.a0, .inl (cI, Ta.N, .inl Ta.kd)), (Ta.a1, .inl (cL, Ta.N, .inr (.inl Ta.nu))), (Ta.a2, .inl (cI, Ta.N, .inl Ta.st)), (Ta.a3, .inl (cI, Ta.N, .inl Ta.ln)), (Ta.a4, .inl (cI, Ta.N, .inl Ta.ki)), (Ta.a5, .inl (cI, Ta.N, .inl Ta.nx)), (Ta.a6, .inl (cI, Ta.N, .inl Ta.ns)), (Ta.a7, .inl (cI, Ta.N, .inl Ta.nl)), (Ta.a8, .inl (cI, Ta.N, .inl Ta.pa)), (Ta.a9, .inl (cI, Ta.N, .inl Ta.pl)), (Ta.au, .inl (cC, Ta.U, .inl Ta.un)), (mo, .inr (13, MF 30 u2)), (qx, .inl (cB, NN, .inl f))] H := hP
          have hD : va_D A [(t, .inr (12, MF 13 (tw Ta))), (Ta.a0, .inl (cI, Ta.N, .inl Ta.kd)), (Ta.a1, .inl (cL, Ta.N, .inr (.inl Ta.nu))), (Ta.a2, .inl (cI, Ta.N, .inl Ta.st)), (Ta.a3, .inl (cI, Ta.N, .inl Ta.ln)), (Ta.a4, .inl (cI, Ta.N, .inl Ta.ki)), (Ta.a5, .inl (cI, Ta.N, .inl Ta.nx)), (Ta.a6, .inl (cI, Ta.N, .inl Ta.ns)), (Ta.a7, .inl (cI, Ta.N, .inl Ta.nl)), (Ta.a8, .inl (cI, Ta.N, .inl Ta.pa)), (Ta.a9, .inl (cI, Ta.N, .inl Ta.pl)), (Ta.au, .inl (cC, Ta.U, .inl Ta.un)), (mo, .inr (13, MF 30 u2)), (qx, .inl (cB, NN, .inl f))] := hD
          have hP := hP.sub (ws' := [(mo, .inr (13, MF 30 u2)), (qx, .inl (cB, NN, .inl f)), (t, .inr (12, MF 13 (tw Ta))), (Ta.a0, .inl (cI, Ta.N, .inl Ta.kd)), (Ta.a1, .inl (cL, Ta.N, .inr (.inl Ta.nu))), (Ta.a2, .inl (cI, Ta.N, .inl Ta.st)), (Ta.a3, .inl (cI, Ta.N, .inl Ta.ln)), (Ta.a4, .inl (cI, Ta.N, .inl Ta.ki)), (Ta.a5, .inl (cI, Ta.N, .inl Ta.nx)), (Ta.a6, .inl (cI, Ta.N, .inl Ta.ns)), (Ta.a7, .inl (cI, Ta.N, .inl Ta.nl)), (Ta.a8, .inl (cI, Ta.N, .inl Ta.pa)), (Ta.a9, .inl (cI, Ta.N, .inl Ta.pl)), (Ta.au, .inl (cC, Ta.U, .inl Ta.un))]) [12, 13, 0, 1, 2, 3, 4, 5, 6, 7, 8, 9, 10, 11] rfl
          have hD := hD.sub (ws' := [(mo, .inr (13, MF 30 u2)), (qx, .inl (cB, NN, .inl f)), (t, .inr (12, MF 13 (tw Ta))), (Ta.a0, .inl (cI, Ta.N, .inl Ta.kd)), (Ta.a1, .inl (cL, Ta.N, .inr (.inl Ta.nu))), (Ta.a2, .inl (cI, Ta.N, .inl Ta.st)), (Ta.a3, .inl (cI, Ta.N, .inl Ta.ln)), (Ta.a4, .inl (cI, Ta.N, .inl Ta.ki)), (Ta.a5, .inl (cI, Ta.N, .inl Ta.nx)), (Ta.a6, .inl (cI, Ta.N, .inl Ta.ns)), (Ta.a7, .inl (cI, Ta.N, .inl Ta.nl)), (Ta.a8, .inl (cI, Ta.N, .inl Ta.pa)), (Ta.a9, .inl (cI, Ta.N, .inl Ta.pl)), (Ta.au, .inl (cC, Ta.U, .inl Ta.un))]) [12, 13, 0, 1, 2, 3, 4, 5, 6, 7, 8, 9, 10, 11] (by decide) rfl
          rcases hw with ⟨ht1, ht2, ht3⟩ | ⟨ht1, ht2, ht3⟩
          · rw [rf_u7] at ht3
            rw [ht3] at hP hD
            subst ht2
            have hP : va_P (dC, dI) classes [(mo, .inr (13, MF 30 (rf v ((skipH f n j_Ta) + 1) b_Ta))), (qx, .inl (cB, NN, .inl f)), (t, .inr (12, MF 13 (tw Ta))), (Ta.a0, .inl (cI, Ta.N, .inl Ta.kd)), (Ta.a1, .inl (cL, Ta.N, .inr (.inl Ta.nu))), (Ta.a2, .inl (cI, Ta.N, .inl Ta.st)), (Ta.a3, .inl (cI, Ta.N, .inl Ta.ln)), (Ta.a4, .inl (cI, Ta.N, .inl Ta.ki)), (Ta.a5, .inl (cI, Ta.N, .inl Ta.nx)), (Ta.a6, .inl (cI, Ta.N, .inl Ta.ns)), (Ta.a7, .inl (cI, Ta.N, .inl Ta.nl)), (Ta.a8, .inl (cI, Ta.N, .inl Ta.pa)), (Ta.a9, .inl (cI, Ta.N, .inl Ta.pl)), (Ta.au, .inl (cC, Ta.U, .inl Ta.un))] H := hP
            have hD : va_D A [(mo, .inr (13, MF 30 (rf v ((skipH f n j_Ta) + 1) b_Ta))), (qx, .inl (cB, NN, .inl f)), (t, .inr (12, MF 13 (tw Ta))), (Ta.a0, .inl (cI, Ta.N, .inl Ta.kd)), (Ta.a1, .inl (cL, Ta.N, .inr (.inl Ta.nu))), (Ta.a2, .inl (cI, Ta.N, .inl Ta.st)), (Ta.a3, .inl (cI, Ta.N, .inl Ta.ln)), (Ta.a4, .inl (cI, Ta.N, .inl Ta.ki)), (Ta.a5, .inl (cI, Ta.N, .inl Ta.nx)), (Ta.a6, .inl (cI, Ta.N, .inl Ta.ns)), (Ta.a7, .inl (cI, Ta.N, .inl Ta.nl)), (Ta.a8, .inl (cI, Ta.N, .inl Ta.pa)), (Ta.a9, .inl (cI, Ta.N, .inl Ta.pl)), (Ta.au, .inl (cC, Ta.U, .inl Ta.un))] := hD
            refine lv_if_ne (tgt := 141) hx hb d_Mo_inside_136 (by decide) (fun _ => ?_) (fun h => absurd h (by decide))
            refine lv_aload_n hx hb d_Mo_inside_141 rfl (lv_at hl 3 rfl) ?_
            refine lv_aload_n hx hb d_Mo_inside_142 rfl (lv_at hl 4 rfl) ?_
            refine lv_iload_n hx hb d_Mo_inside_143 rfl (lv_at hl 6 rfl) ?_
            refine lv_iconst (v := 1) hx hb d_Mo_inside_144 (by decide) ?_
            refine lv_iadd hx hb d_Mo_inside_145 ?_
            refine W.eq (g2 := F0 m 146 ls [.int (nI (32 - r)), .ref t, .ref mo]) (by rw [show ((nI (31 - r)) + 1) = (nI (32 - r)) from (by rw [nI_1]; congr 1; omega)]) ?_
            have hNam : pNam f n 123 (acc.map (·.1)) j = some (us9.map c16, ((skipH f n j_Ta) + 1)) := pNam_ok hq34 hqt_Ta hmem ht1
            have hltc := here_in ht1 (by decide)
            have hTEa := hX_Ta.te
            have hPc := hP.sub (ws' := [(mo, .inr (13, MF 30 (rf v ((skipH f n j_Ta) + 1) b_Ta))), (qx, .inl (cB, NN, .inl f)), (t, .inr (12, MF 13 (tw Ta))), (Ta.a0, .inl (cI, Ta.N, .inl Ta.kd)), (Ta.a1, .inl (cL, Ta.N, .inr (.inl Ta.nu))), (Ta.a2, .inl (cI, Ta.N, .inl Ta.st)), (Ta.a3, .inl (cI, Ta.N, .inl Ta.ln)), (Ta.a4, .inl (cI, Ta.N, .inl Ta.ki)), (Ta.a5, .inl (cI, Ta.N, .inl Ta.nx)), (Ta.a6, .inl (cI, Ta.N, .inl Ta.ns)), (Ta.a7, .inl (cI, Ta.N, .inl Ta.nl)), (Ta.a8, .inl (cI, Ta.N, .inl Ta.pa)), (Ta.a9, .inl (cI, Ta.N, .inl Ta.pl)), (Ta.au, .inl (cC, Ta.U, .inl Ta.un))]) [0, 1, 2, 3, 4, 5, 6, 7, 8, 9, 10, 11, 12, 13] rfl
            have hDc := hD.sub (ws' := [(mo, .inr (13, MF 30 (rf v ((skipH f n j_Ta) + 1) b_Ta))), (qx, .inl (cB, NN, .inl f)), (t, .inr (12, MF 13 (tw Ta))), (Ta.a0, .inl (cI, Ta.N, .inl Ta.kd)), (Ta.a1, .inl (cL, Ta.N, .inr (.inl Ta.nu))), (Ta.a2, .inl (cI, Ta.N, .inl Ta.st)), (Ta.a3, .inl (cI, Ta.N, .inl Ta.ln)), (Ta.a4, .inl (cI, Ta.N, .inl Ta.ki)), (Ta.a5, .inl (cI, Ta.N, .inl Ta.nx)), (Ta.a6, .inl (cI, Ta.N, .inl Ta.ns)), (Ta.a7, .inl (cI, Ta.N, .inl Ta.nl)), (Ta.a8, .inl (cI, Ta.N, .inl Ta.pa)), (Ta.a9, .inl (cI, Ta.N, .inl Ta.pl)), (Ta.au, .inl (cC, Ta.U, .inl Ta.un))]) [0, 1, 2, 3, 4, 5, 6, 7, 8, 9, 10, 11, 12, 13] (by decide) rfl
            have hKc := hK.sub (tys' := [(cB, .byte), (cI, .int), (cL, .long), (cC, .char)]) [0, 1, 2, 3] rfl
            have hFc := va_free (wc := [(mo, .inr (13, MF 30 (rf v ((skipH f n j_Ta) + 1) b_Ta))), (qx, .inl (cB, NN, .inl f)), (t, .inr (12, MF 13 (tw Ta))), (Ta.a0, .inl (cI, Ta.N, .inl Ta.kd)), (Ta.a1, .inl (cL, Ta.N, .inr (.inl Ta.nu))), (Ta.a2, .inl (cI, Ta.N, .inl Ta.st)), (Ta.a3, .inl (cI, Ta.N, .inl Ta.ln)), (Ta.a4, .inl (cI, Ta.N, .inl Ta.ki)), (Ta.a5, .inl (cI, Ta.N, .inl Ta.nx)), (Ta.a6, .inl (cI, Ta.N, .inl Ta.ns)), (Ta.a7, .inl (cI, Ta.N, .inl Ta.nl)), (Ta.a8, .inl (cI, Ta.N, .inl Ta.pa)), (Ta.a9, .inl (cI, Ta.N, .inl Ta.pl)), (Ta.au, .inl (cC, Ta.U, .inl Ta.un))]) hD hS hA [0, 1, 2, 3, 4, 5, 6, 7, 8, 9, 10, 11, 12, 13] rfl
            refine w_same (fun hq0 => ?_)
            refine va_calli (va_runV (As := [.ref t, .int (nI (32 - r))]) (rest := []) ⟨hx, hb, hml, hown, hts⟩ (hVC l dC dI mo H v cB cI cL cC qx NN f n K t Ta ((skipH f n j_Ta) + 1) b_Ta hnN hNN (by omega) h6 h8 hTk_Ta (by omega) (by omega)) (cwV 2 hts (gt_V (own := R_Mo) (C := R_Mo) (i := 221) (y := y_Mo_value) i_Mo_value w_1225 w_1227 (gt_sel (y := y_Mo_value) (n := 30) (by decide +kernel)) w_7) rfl rfl rfl (by decide +kernel) ⟨by show 8 + 2 * r + 1 ≤ 9 + 2 * r; omega, by show 8 + (5 + 11) + (300 + 80 * r) ≤ 330 + 80 * r; omega⟩) ⟨me_blind, va_recv hKc hPc (ci := 13) (q0 := 0) rfl rfl, fun U hU hW => ⟨rfl, ⟨hU, by rw [hU]; exact hPc, va_K.moved hW.alike hKc, hDc.weaken (fun _ _ _ _ => trivial)⟩, by rw [hU]; exact ME.call hM hS.2.1 hFc hW⟩⟩ rfl rfl hl.1 rfl (lv_room (Nat.le_of_ble_eq_true rfl)) d_Mo_inside_146 ⟨(hGB_Ta.step (B2 := Ta.ct + (n + 12 - ((skipH f n j_Ta) + 1))) (C2 := Ta.us + (n + 12 - ((skipH f n j_Ta) + 1))) (by omega) (by omega)).1, (hGB_Ta.step (B2 := Ta.ct + (n + 12 - ((skipH f n j_Ta) + 1))) (C2 := Ta.us + (n + 12 - ((skipH f n j_Ta) + 1))) (by omega) (by omega)).2⟩) hS (fun q _ h => hFc q h) hFc (fun r0 ⟨Tb, j_Tb, b_Tb⟩ t9 H1 locs ht hvm hw hB hz1 hk1 hS => ?_)
            obtain ⟨⟨hP1, hK1, hD1⟩, hz9⟩ := hB
            rw [ht] at hP1
            rw [ht] at hz9
            obtain ⟨⟨hTk_Tb, hGn_Tb⟩, hw⟩ := hw
            have hTk_Tb : TOK Tb := hTk_Tb
            obtain ⟨hGB_Tb, hGc_Tb, hGs_Tb⟩ := hGB_Ta.tr hGn_Tb (by omega) (by omega)
            have hz9 : szk H H1 (cE Ta Tb) (sE Ta Tb) := hz9
            have hq1 : szk s.heap H1 (cE T Tb) (sE T Tb) := (hq0.trans hz9).mono hGc_Tb hGs_Tb
            refine w_tight hq1 ?_
            obtain ⟨hP, hD⟩ := va_join (wr := []) (w1 := [(mo, .inr (13, MF 30 (rf v j_Tb b_Tb))), (qx, .inl (cB, NN, .inl f)), (t, .inr (12, MF 13 (tw Tb))), (Tb.a0, .inl (cI, Tb.N, .inl Tb.kd)), (Tb.a1, .inl (cL, Tb.N, .inr (.inl Tb.nu))), (Tb.a2, .inl (cI, Tb.N, .inl Tb.st)), (Tb.a3, .inl (cI, Tb.N, .inl Tb.ln)), (Tb.a4, .inl (cI, Tb.N, .inl Tb.ki)), (Tb.a5, .inl (cI, Tb.N, .inl Tb.nx)), (Tb.a6, .inl (cI, Tb.N, .inl Tb.ns)), (Tb.a7, .inl (cI, Tb.N, .inl Tb.nl)), (Tb.a8, .inl (cI, Tb.N, .inl Tb.pa)), (Tb.a9, .inl (cI, Tb.N, .inl Tb.pl)), (Tb.au, .inl (cC, Tb.U, .inl Tb.un))]) hP hD [0, 1, 2, 3, 4, 5, 6, 7, 8, 9, 10, 11, 12, 13] [] rfl rfl (by decide) (by decide) hk1 hFc hP1 hD1
            generalize H1 = H at hP hS ⊢
            have hP : va_P (dC, dI) classes [(mo, .inr (13, MF 30 (rf v j_Tb b_Tb))), (qx, .inl (cB, NN, .inl f)), (t, .inr (12, MF 13 (tw Tb))), (Tb.a0, .inl (cI, Tb.N, .inl Tb.kd)), (Tb.a1, .inl (cL, Tb.N, .inr (.inl Tb.nu))), (Tb.a2, .inl (cI, Tb.N, .inl Tb.st)), (Tb.a3, .inl (cI, Tb.N, .inl Tb.ln)), (Tb.a4, .inl (cI, Tb.N, .inl Tb.ki)), (Tb.a5, .inl (cI, Tb.N, .inl Tb.nx)), (Tb.a6, .inl (cI, Tb.N, .inl Tb.ns)), (Tb.a7, .inl (cI, Tb.N, .inl Tb.nl)), (Tb.a8, .inl (cI, Tb.N, .inl Tb.pa)), (Tb.a9, .inl (cI, Tb.N, .inl Tb.pl)), (Tb.au, .inl (cC, Tb.U, .inl Tb.un))] H := hP
            have hD : va_D A [(mo, .inr (13, MF 30 (rf v j_Tb b_Tb))), (qx, .inl (cB, NN, .inl f)), (t, .inr (12, MF 13 (tw Tb))), (Tb.a0, .inl (cI, Tb.N, .inl Tb.kd)), (Tb.a1, .inl (cL, Tb.N, .inr (.inl Tb.nu))), (Tb.a2, .inl (cI, Tb.N, .inl Tb.st)), (Tb.a3, .inl (cI, Tb.N, .inl Tb.ln)), (Tb.a4, .inl (cI, Tb.N, .inl Tb.ki)), (Tb.a5, .inl (cI, Tb.N, .inl Tb.nx)), (Tb.a6, .inl (cI, Tb.N, .inl Tb.ns)), (Tb.a7, .inl (cI, Tb.N, .inl Tb.nl)), (Tb.a8, .inl (cI, Tb.N, .inl Tb.pa)), (Tb.a9, .inl (cI, Tb.N, .inl Tb.pl)), (Tb.au, .inl (cC, Tb.U, .inl Tb.un))] := hD
            rcases hw with ⟨x_Tb, hv_1, hv_2, hv_3, hv_4, hv_5, hv_5b, hv_6, hv_7, hv_8⟩ | ⟨hv_1, hv_2⟩
            · have hv_2 : pV f n r ((skipH f n j_Ta) + 1) = some (x_Tb, j_Tb) := hv_2
              have hv_3 : RepV Tb r Ta.ct Tb.ct x_Tb := hv_3
              have hv_4 : TE Ta Tb := hv_4
              have hv_5b : Ta.ct < Tb.ct := hv_5b
              have hv_6 : Tb.ct + ((skipH f n j_Ta) + 1) ≤ Ta.ct + j_Tb := hv_6
              have hv_7 : Tb.us + ((skipH f n j_Ta) + 1) ≤ Ta.us + j_Tb := hv_7
              have hv_8 : j_Tb ≤ n := hv_8
              have hv_9 := hv_4.2.2.1
              subst hv_1
              have hfit_Tb := hGB_Tb.fits
              refine lv_istore (lv' := [(8, .int (nI Ta.ct)), (7, .int (nI us9.length)), (6, .int (nI Tc.us)), (0, .ref mo), (1, .ref t), (2, .int (nI nd)), (3, .int (nI (31 - r))), (4, .int 125), (5, .int bf)]) hx hb d_Mo_inside_149 hl (by decide) rfl (fun ls hl => ?_)
              refine lv_iload hx hb d_Mo_inside_151 (lv_at hl 0 rfl) ?_
              have hVal := hv_2
              refine lv_if_ge (tgt := 158) hx hb d_Mo_inside_153 (by decide) (fun _ => ?_) (fun h => absurd (nI_pos' (by have := hTk_Ta.2.2.1; have := hTk_Ta.2.1; omega)) h)
              refine lv_iload hx hb d_Mo_inside_158 (lv_at hl 7 rfl) ?_
              refine lv_bipush (v := 125) hx hb d_Mo_inside_160 (by decide) ?_
              refine lv_icmp_ne (tgt := 183) hx hb d_Mo_inside_162 (by decide) (fun h => absurd h (by decide)) (fun _ => ?_)
              refine lv_aload_n hx hb d_Mo_inside_165 rfl (lv_at hl 4 rfl) ?_
              refine va_get (D := (dC, dI)) (ci := 12) (v := .ref Tb.a6) (C := R_Tree) (T := F_Tree) (N := 13) hx hb hts in_Tree hown hK hP 2 rfl rfl 6 (by decide) (hts _ w_1047) (fun _ h9 => h9) (MFg (by decide) rfl) d_Mo_inside_166 ?_
              refine lv_iload hx hb d_Mo_inside_169 (lv_at hl 0 rfl) ?_
              refine lv_iload hx hb d_Mo_inside_171 (lv_at hl 2 rfl) ?_
              refine va_iast hx hb hK hP hD hS 9 1 rfl rfl (vp_in_nI (show Ta.ct < Tb.N by have := hTk_Tb.2.2.1; omega) (by have := hTk_Tb.2.1; omega)) d_Mo_inside_173 (fun H locs hP hD hS => ?_)
              rw [show (nI Ta.ct).toNatClampNeg = Ta.ct from nI_clamp (by have := hTk_Tb.2.2.1; have := hTk_Tb.2.1; omega)] at hP hD
              have hP : va_P (dC, dI) classes [(mo, .inr (13, MF 30 (rf v j_Tb b_Tb))), (qx, .inl (cB, NN, .inl f)), (t, .inr (12, MF 13 (tw Tb))), (Tb.a0, .inl (cI, Tb.N, .inl Tb.kd)), (Tb.a1, .inl (cL, Tb.N, .inr (.inl Tb.nu))), (Tb.a2, .inl (cI, Tb.N, .inl Tb.st)), (Tb.a3, .inl (cI, Tb.N, .inl Tb.ln)), (Tb.a4, .inl (cI, Tb.N, .inl Tb.ki)), (Tb.a5, .inl (cI, Tb.N, .inl Tb.nx)), (Tb.a6, .inl (cI, Tb.N, .inl (upd Tb.ns Ta.ct ((nI Tc.us))))), (Tb.a7, .inl (cI, Tb.N, .inl Tb.nl)), (Tb.a8, .inl (cI, Tb.N, .inl Tb.pa)), (Tb.a9, .inl (cI, Tb.N, .inl Tb.pl)), (Tb.au, .inl (cC, Tb.U, .inl Tb.un))] H := hP
              have hD : va_D A [(mo, .inr (13, MF 30 (rf v j_Tb b_Tb))), (qx, .inl (cB, NN, .inl f)), (t, .inr (12, MF 13 (tw Tb))), (Tb.a0, .inl (cI, Tb.N, .inl Tb.kd)), (Tb.a1, .inl (cL, Tb.N, .inr (.inl Tb.nu))), (Tb.a2, .inl (cI, Tb.N, .inl Tb.st)), (Tb.a3, .inl (cI, Tb.N, .inl Tb.ln)), (Tb.a4, .inl (cI, Tb.N, .inl Tb.ki)), (Tb.a5, .inl (cI, Tb.N, .inl Tb.nx)), (Tb.a6, .inl (cI, Tb.N, .inl (upd Tb.ns Ta.ct ((nI Tc.us))))), (Tb.a7, .inl (cI, Tb.N, .inl Tb.nl)), (Tb.a8, .inl (cI, Tb.N, .inl Tb.pa)), (Tb.a9, .inl (cI, Tb.N, .inl Tb.pl)), (Tb.au, .inl (cC, Tb.U, .inl Tb.un))] := hD
              refine lv_aload_n hx hb d_Mo_inside_174 rfl (lv_at hl 4 rfl) ?_
              refine va_get (D := (dC, dI)) (ci := 12) (v := .ref Tb.a7) (C := R_Tree) (T := F_Tree) (N := 13) hx hb hts in_Tree hown hK hP 2 rfl rfl 7 (by decide) (hts _ w_1049) (fun _ h9 => h9) (MFg (by decide) rfl) d_Mo_inside_175 ?_
              refine lv_iload hx hb d_Mo_inside_178 (lv_at hl 0 rfl) ?_
              refine lv_iload hx hb d_Mo_inside_180 (lv_at hl 1 rfl) ?_
              refine va_iast hx hb hK hP hD hS 10 1 rfl rfl (vp_in_nI (show Ta.ct < Tb.N by have := hTk_Tb.2.2.1; omega) (by have := hTk_Tb.2.1; omega)) d_Mo_inside_182 (fun H locs hP hD hS => ?_)
              rw [show (nI Ta.ct).toNatClampNeg = Ta.ct from nI_clamp (by have := hTk_Tb.2.2.1; have := hTk_Tb.2.1; omega)] at hP hD
              have hP : va_P (dC, dI) classes [(mo, .inr (13, MF 30 (rf v j_Tb b_Tb))), (qx, .inl (cB, NN, .inl f)), (t, .inr (12, MF 13 (tw Tb))), (Tb.a0, .inl (cI, Tb.N, .inl Tb.kd)), (Tb.a1, .inl (cL, Tb.N, .inr (.inl Tb.nu))), (Tb.a2, .inl (cI, Tb.N, .inl Tb.st)), (Tb.a3, .inl (cI, Tb.N, .inl Tb.ln)), (Tb.a4, .inl (cI, Tb.N, .inl Tb.ki)), (Tb.a5, .inl (cI, Tb.N, .inl Tb.nx)), (Tb.a6, .inl (cI, Tb.N, .inl (upd Tb.ns Ta.ct ((nI Tc.us))))), (Tb.a7, .inl (cI, Tb.N, .inl (upd Tb.nl Ta.ct ((nI us9.length))))), (Tb.a8, .inl (cI, Tb.N, .inl Tb.pa)), (Tb.a9, .inl (cI, Tb.N, .inl Tb.pl)), (Tb.au, .inl (cC, Tb.U, .inl Tb.un))] H := hP
              have hD : va_D A [(mo, .inr (13, MF 30 (rf v j_Tb b_Tb))), (qx, .inl (cB, NN, .inl f)), (t, .inr (12, MF 13 (tw Tb))), (Tb.a0, .inl (cI, Tb.N, .inl Tb.kd)), (Tb.a1, .inl (cL, Tb.N, .inr (.inl Tb.nu))), (Tb.a2, .inl (cI, Tb.N, .inl Tb.st)), (Tb.a3, .inl (cI, Tb.N, .inl Tb.ln)), (Tb.a4, .inl (cI, Tb.N, .inl Tb.ki)), (Tb.a5, .inl (cI, Tb.N, .inl Tb.nx)), (Tb.a6, .inl (cI, Tb.N, .inl (upd Tb.ns Ta.ct ((nI Tc.us))))), (Tb.a7, .inl (cI, Tb.N, .inl (upd Tb.nl Ta.ct ((nI us9.length))))), (Tb.a8, .inl (cI, Tb.N, .inl Tb.pa)), (Tb.a9, .inl (cI, Tb.N, .inl Tb.pl)), (Tb.au, .inl (cC, Tb.U, .inl Tb.un))] := hD
              refine lv_aload_n hx hb d_Mo_inside_183 rfl (lv_at hl 4 rfl) ?_
              refine lv_iload_n hx hb d_Mo_inside_184 rfl (lv_at hl 5 rfl) ?_
              refine lv_iload hx hb d_Mo_inside_185 (lv_at hl 8 rfl) ?_
              refine lv_iload hx hb d_Mo_inside_187 (lv_at hl 0 rfl) ?_
              have hbf : bf = -1 ∨ ∃ b9, bf = nI b9 ∧ b9 < Tc.ct ∧ T.ct ≤ b9 := by
                rcases hKS with ⟨_, h, _⟩ | ⟨init, c9, b9, eb, mid, _, h2, h3, h4, h5, _, _, _, h9, _⟩
                · exact Or.inl h
                · exact Or.inr ⟨b9, h2, by have := RepV_lt h9; omega, by omega⟩
              have hkb : Ta.ct < Tb.N := by have := hTk_Tb.2.2.1; omega
              have hNb := hTk_Tb.2.1
              have hkc := hTk_Tb.2.2.1
              rcases hbf with hbf | ⟨b9, hbf, hb9, hb8⟩
              · rw [hbf]
                have hPc := hP.sub (ws' := [(t, .inr (12, MF 13 (tw Tb))), (Tb.a4, .inl (cI, Tb.N, .inl Tb.ki)), (Tb.a5, .inl (cI, Tb.N, .inl Tb.nx)), (Tb.a8, .inl (cI, Tb.N, .inl Tb.pa))]) [2, 7, 8, 11] rfl
                have hDc := hD.sub (ws' := [(t, .inr (12, MF 13 (tw Tb))), (Tb.a4, .inl (cI, Tb.N, .inl Tb.ki)), (Tb.a5, .inl (cI, Tb.N, .inl Tb.nx)), (Tb.a8, .inl (cI, Tb.N, .inl Tb.pa))]) [2, 7, 8, 11] (by decide) rfl
                have hKc := hK.sub (tys' := [(cI, .int)]) [1] rfl
                have hFc := va_free (wc := [(t, .inr (12, MF 13 (tw Tb))), (Tb.a4, .inl (cI, Tb.N, .inl Tb.ki)), (Tb.a5, .inl (cI, Tb.N, .inl Tb.nx)), (Tb.a8, .inl (cI, Tb.N, .inl Tb.pa))]) hD hS hA [2, 7, 8, 11] rfl
                refine va_callv (va_runV (As := [.int (nI nd), .int (-1), .int (nI Ta.ct)]) (rest := []) ⟨hx, hb, hml, hown, hts⟩ (c_Tree_insertF l dC dI t H (tw Tb) cI Tb.a4 Tb.a5 Tb.a8 Tb.N nd Ta.ct Tb.ki Tb.nx Tb.pa (by omega) (by omega) (by omega) rfl rfl rfl) (cwV 3 hts (gt_V (own := R_Mo) (C := R_Tree) (i := 225) (y := y_Tree_insert) i_Tree_insert w_1358 w_1359 w_1360 w_8) rfl rfl rfl (by decide +kernel) ⟨Nat.le_trans (m := 9) (Nat.le_of_ble_eq_true rfl) (Nat.le_add_right 9 (2 * r)), Nat.le_trans (m := 330) (Nat.le_of_ble_eq_true rfl) (Nat.le_add_right 330 (80 * r))⟩) ⟨mp_blind, va_recv hKc hPc (ci := 12) (q0 := 0) rfl rfl, fun U hU hW => ⟨rfl, hU, by rw [hU]; exact hPc, va_K.moved hW.alike hKc, hDc.weaken (fun _ _ _ _ => trivial)⟩⟩ rfl rfl hl.1 rfl (lv_room (Nat.le_of_ble_eq_true rfl)) d_Mo_inside_189 ⟨hfit_Tb.1, hfit_Tb.2⟩) hS (fun q _ h => hFc q h) hFc (fun _u t9 H1 locs ht hvm hw hB hz1 hk1 hS => ?_)
                obtain ⟨hP1, hK1, hD1⟩ := hB
                rw [ht] at hP1
                obtain ⟨hP, hD⟩ := va_join (wr := [(mo, .inr (13, MF 30 (rf v j_Tb b_Tb))), (qx, .inl (cB, NN, .inl f)), (Tb.a0, .inl (cI, Tb.N, .inl Tb.kd)), (Tb.a1, .inl (cL, Tb.N, .inr (.inl Tb.nu))), (Tb.a2, .inl (cI, Tb.N, .inl Tb.st)), (Tb.a3, .inl (cI, Tb.N, .inl Tb.ln)), (Tb.a6, .inl (cI, Tb.N, .inl (upd Tb.ns Ta.ct ((nI Tc.us))))), (Tb.a7, .inl (cI, Tb.N, .inl (upd Tb.nl Ta.ct ((nI us9.length))))), (Tb.a9, .inl (cI, Tb.N, .inl Tb.pl)), (Tb.au, .inl (cC, Tb.U, .inl Tb.un))]) (w1 := [(t, .inr (12, MF 13 (tw Tb))), (Tb.a4, .inl (cI, Tb.N, .inl (upd Tb.ki nd (nI Ta.ct)))), (Tb.a5, .inl (cI, Tb.N, .inl (upd Tb.nx Ta.ct (Tb.ki nd)))), (Tb.a8, .inl (cI, Tb.N, .inl (upd Tb.pa Ta.ct (nI nd))))]) hP hD [2, 7, 8, 11] [0, 1, 3, 4, 5, 6, 9, 10, 12, 13] rfl rfl (by decide) (by decide) hk1 hFc hP1 hD1
                generalize H1 = H at hP hS ⊢
                have hP : va_P (dC, dI) classes [(mo, .inr (13, MF 30 (rf v j_Tb b_Tb))), (qx, .inl (cB, NN, .inl f)), (Tb.a0, .inl (cI, Tb.N, .inl Tb.kd)), (Tb.a1, .inl (cL, Tb.N, .inr (.inl Tb.nu))), (Tb.a2, .inl (cI, Tb.N, .inl Tb.st)), (Tb.a3, .inl (cI, Tb.N, .inl Tb.ln)), (Tb.a6, .inl (cI, Tb.N, .inl (upd Tb.ns Ta.ct ((nI Tc.us))))), (Tb.a7, .inl (cI, Tb.N, .inl (upd Tb.nl Ta.ct ((nI us9.length))))), (Tb.a9, .inl (cI, Tb.N, .inl Tb.pl)), (Tb.au, .inl (cC, Tb.U, .inl Tb.un)), (t, .inr (12, MF 13 (tw Tb))), (Tb.a4, .inl (cI, Tb.N, .inl (upd Tb.ki nd (nI Ta.ct)))), (Tb.a5, .inl (cI, Tb.N, .inl (upd Tb.nx Ta.ct (Tb.ki nd)))), (Tb.a8, .inl (cI, Tb.N, .inl (upd Tb.pa Ta.ct (nI nd))))] H := hP
                have hD : va_D A [(mo, .inr (13, MF 30 (rf v j_Tb b_Tb))), (qx, .inl (cB, NN, .inl f)), (Tb.a0, .inl (cI, Tb.N, .inl Tb.kd)), (Tb.a1, .inl (cL, Tb.N, .inr (.inl Tb.nu))), (Tb.a2, .inl (cI, Tb.N, .inl Tb.st)), (Tb.a3, .inl (cI, Tb.N, .inl Tb.ln)), (Tb.a6, .inl (cI, Tb.N, .inl (upd Tb.ns Ta.ct ((nI Tc.us))))), (Tb.a7, .inl (cI, Tb.N, .inl (upd Tb.nl Ta.ct ((nI us9.length))))), (Tb.a9, .inl (cI, Tb.N, .inl Tb.pl)), (Tb.au, .inl (cC, Tb.U, .inl Tb.un)), (t, .inr (12, MF 13 (tw Tb))), (Tb.a4, .inl (cI, Tb.N, .inl (upd Tb.ki nd (nI Ta.ct)))), (Tb.a5, .inl (cI, Tb.N, .inl (upd Tb.nx Ta.ct (Tb.ki nd)))), (Tb.a8, .inl (cI, Tb.N, .inl (upd Tb.pa Ta.ct (nI nd))))] := hD
                have hP := hP.sub (ws' := [(mo, .inr (13, MF 30 (rf v j_Tb b_Tb))), (qx, .inl (cB, NN, .inl f)), (t, .inr (12, MF 13 (tw Tb))), (Tb.a0, .inl (cI, Tb.N, .inl Tb.kd)), (Tb.a1, .inl (cL, Tb.N, .inr (.inl Tb.nu))), (Tb.a2, .inl (cI, Tb.N, .inl Tb.st)), (Tb.a3, .inl (cI, Tb.N, .inl Tb.ln)), (Tb.a4, .inl (cI, Tb.N, .inl (upd Tb.ki nd (nI Ta.ct)))), (Tb.a5, .inl (cI, Tb.N, .inl (upd Tb.nx Ta.ct (Tb.ki nd)))), (Tb.a6, .inl (cI, Tb.N, .inl (upd Tb.ns Ta.ct ((nI Tc.us))))), (Tb.a7, .inl (cI, Tb.N, .inl (upd Tb.nl Ta.ct ((nI us9.length))))), (Tb.a8, .inl (cI, Tb.N, .inl (upd Tb.pa Ta.ct (nI nd)))), (Tb.a9, .inl (cI, Tb.N, .inl Tb.pl)), (Tb.au, .inl (cC, Tb.U, .inl Tb.un))]) [0, 1, 10, 2, 3, 4, 5, 11, 12, 6, 7, 13, 8, 9] rfl
                have hD := hD.sub (ws' := [(mo, .inr (13, MF 30 (rf v j_Tb b_Tb))), (qx, .inl (cB, NN, .inl f)), (t, .inr (12, MF 13 (tw Tb))), (Tb.a0, .inl (cI, Tb.N, .inl Tb.kd)), (Tb.a1, .inl (cL, Tb.N, .inr (.inl Tb.nu))), (Tb.a2, .inl (cI, Tb.N, .inl Tb.st)), (Tb.a3, .inl (cI, Tb.N, .inl Tb.ln)), (Tb.a4, .inl (cI, Tb.N, .inl (upd Tb.ki nd (nI Ta.ct)))), (Tb.a5, .inl (cI, Tb.N, .inl (upd Tb.nx Ta.ct (Tb.ki nd)))), (Tb.a6, .inl (cI, Tb.N, .inl (upd Tb.ns Ta.ct ((nI Tc.us))))), (Tb.a7, .inl (cI, Tb.N, .inl (upd Tb.nl Ta.ct ((nI us9.length))))), (Tb.a8, .inl (cI, Tb.N, .inl (upd Tb.pa Ta.ct (nI nd)))), (Tb.a9, .inl (cI, Tb.N, .inl Tb.pl)), (Tb.au, .inl (cC, Tb.U, .inl Tb.un))]) [0, 1, 10, 2, 3, 4, 5, 11, 12, 6, 7, 13, 8, 9] (by decide) rfl
                obtain ⟨Td, e_Td⟩ : ∃ z : TS, z = (TS.mk Tb.N Tb.U Tb.ct Tb.us Tb.a0 Tb.a1 Tb.a2 Tb.a3 Tb.a4 Tb.a5 Tb.a6 Tb.a7 Tb.a8 Tb.a9 Tb.au Tb.kd Tb.st Tb.ln (upd Tb.ki nd (nI Ta.ct)) (upd Tb.nx Ta.ct (Tb.ki nd)) (upd Tb.ns Ta.ct (nI Tc.us)) (upd Tb.nl Ta.ct (nI us9.length)) (upd Tb.pa Ta.ct (nI nd)) Tb.pl Tb.un Tb.nu) := ⟨_, rfl⟩
                have hP : va_P (dC, dI) classes [(mo, .inr (13, MF 30 (rf v j_Tb b_Tb))), (qx, .inl (cB, NN, .inl f)), (t, .inr (12, MF 13 (tw Td))), (Td.a0, .inl (cI, Td.N, .inl Td.kd)), (Td.a1, .inl (cL, Td.N, .inr (.inl Td.nu))), (Td.a2, .inl (cI, Td.N, .inl Td.st)), (Td.a3, .inl (cI, Td.N, .inl Td.ln)), (Td.a4, .inl (cI, Td.N, .inl Td.ki)), (Td.a5, .inl (cI, Td.N, .inl Td.nx)), (Td.a6, .inl (cI, Td.N, .inl Td.ns)), (Td.a7, .inl (cI, Td.N, .inl Td.nl)), (Td.a8, .inl (cI, Td.N, .inl Td.pa)), (Td.a9, .inl (cI, Td.N, .inl Td.pl)), (Td.au, .inl (cC, Td.U, .inl Td.un))] H := by subst e_Td; exact hP
                have hD : va_D A [(mo, .inr (13, MF 30 (rf v j_Tb b_Tb))), (qx, .inl (cB, NN, .inl f)), (t, .inr (12, MF 13 (tw Td))), (Td.a0, .inl (cI, Td.N, .inl Td.kd)), (Td.a1, .inl (cL, Td.N, .inr (.inl Td.nu))), (Td.a2, .inl (cI, Td.N, .inl Td.st)), (Td.a3, .inl (cI, Td.N, .inl Td.ln)), (Td.a4, .inl (cI, Td.N, .inl Td.ki)), (Td.a5, .inl (cI, Td.N, .inl Td.nx)), (Td.a6, .inl (cI, Td.N, .inl Td.ns)), (Td.a7, .inl (cI, Td.N, .inl Td.nl)), (Td.a8, .inl (cI, Td.N, .inl Td.pa)), (Td.a9, .inl (cI, Td.N, .inl Td.pl)), (Td.au, .inl (cC, Td.U, .inl Td.un))] := by subst e_Td; exact hD
                have hTd : Td.N = Tb.N ∧ Td.U = Tb.U ∧ Td.ct = Tb.ct ∧ Td.us = Tb.us ∧ Td.un = Tb.un ∧ Td.kd = Tb.kd ∧ Td.nu = Tb.nu ∧ Td.st = Tb.st ∧ Td.ln = Tb.ln ∧ Td.pa = upd Tb.pa Ta.ct (nI nd) ∧ Td.ki = upd Tb.ki nd (nI Ta.ct) ∧ Td.nx = upd Tb.nx Ta.ct (Tb.ki nd) ∧ Td.ns = upd Tb.ns Ta.ct (nI Tc.us) ∧ Td.nl = upd Tb.nl Ta.ct (nI us9.length) := by rw [e_Td]; exact ⟨rfl, rfl, rfl, rfl, rfl, rfl, rfl, rfl, rfl, rfl, rfl, rfl, rfl, rfl⟩
                obtain ⟨g1, g2, g3, g4, g5, g6, g7, g8, g9, g10, g11, g12, g13, g14⟩ := hTd
                have hTk_Td : TOK Td := by obtain ⟨q1, q2, q3, q4, q5, q6, q7⟩ := hTk_Tb; exact ⟨by omega, by omega, by omega, by omega, by omega, by omega, by rw [g5]; exact q7⟩
                have hau : alkU Tb Td := ⟨Nat.le_of_eq g4.symm, fun j9 _ => by rw [g5]⟩
                have hns : ∀ j9, j9 ≠ Ta.ct → Td.ns j9 = Tb.ns j9 := fun j9 h9 => by rw [g13]; exact pk_un h9
                have hnl : ∀ j9, j9 ≠ Ta.ct → Td.nl j9 = Tb.nl j9 := fun j9 h9 => by rw [g14]; exact pk_un h9
                have hpa : ∀ j9, j9 ≠ Ta.ct → Td.pa j9 = Tb.pa j9 := fun j9 h9 => by rw [g10]; exact pk_un h9
                have hki : ∀ j9, j9 ≠ nd → Td.ki j9 = Tb.ki j9 := fun j9 h9 => by rw [g11]; exact pk_un h9
                have hnx : ∀ j9, j9 < T.ct → Td.nx j9 = Tb.nx j9 := fun j9 h9 => by rw [g12, pk_un (by omega)]
                have hTB2 : TB T Td nd := ((hTB.te hnd hTEa).te hnd hv_4).ins hnd (kid := Ta.ct) (by omega) hau g3 g6 g7 g8 g9 hns hnl hpa hki hnx
                have hnmk : nmOK Td Ta.ct ∧ nmT Td Ta.ct = us9.map c16 := by
                  have h1 : Td.ns Ta.ct = nI Tc.us := by rw [g13]; exact pk_us
                  have h2 : Td.nl Ta.ct = nI us9.length := by rw [g14]; exact pk_us
                  refine ⟨⟨Tc.us, us9.length, h1, h2, by omega⟩, ?_⟩
                  rw [nmT_eq h1 h2 (by omega) (by omega), g5, sl_fr hv_4.2.2 (by omega)]
                  exact hX_Ta.un.2
                have hKb := hKa.fr hnd (by omega) (by omega) (by omega) hv_4
                have hKS2 : KS r ((123 : Int32) = 123) nd T.ct Td.ct Td (acc ++ [(us9.map c16, x_Tb)]) (nI Ta.ct) := by
                  rw [g3]
                  refine hKb.add hnd (by omega) (by omega) hv_3 hau g3 g6 g7 g8 g9 hns hnl g10 (fun _ => hnmk) ?_ ?_ ?_ (by omega) (by omega)
                  · rw [if_pos hbf]; exact g11
                  · intro b8 h8 h7; rw [hbf] at h8; exact absurd (show nI b8 < 0 by rw [← h8]; decide) (nI_pos (by omega))
                  · intro _; exact g12
                refine w_same (fun hq => ?_)
                refine w_tight (k := cE T Td) (n := sE T Td) (by unfold cE sE at hq ⊢; rw [g1, g2]; exact hq) ?_
                have hGB_Td : GB (T.ct + (n + 12 - (i + 1))) (T.us + (n + 12 - (i + 1))) T Td := by unfold GB at hGB_Tb ⊢; rw [g1, g2]; exact hGB_Tb
                have hfit_Td := hGB_Td.fits
                refine lv_iload hx hb d_Mo_inside_192 (lv_at hl 0 rfl) ?_
                refine lv_istore (lv' := [(5, .int (nI Ta.ct)), (8, .int (nI Ta.ct)), (7, .int (nI us9.length)), (6, .int (nI Tc.us)), (0, .ref mo), (1, .ref t), (2, .int (nI nd)), (3, .int (nI (31 - r))), (4, .int 125)]) hx hb d_Mo_inside_194 hl (by decide) rfl (fun ls hl => ?_)
                refine lv_aload_n hx hb d_Mo_inside_196 rfl (lv_at hl 4 rfl) ?_
                have hPc := hP.sub (ws' := [(mo, .inr (13, MF 30 (rf v j_Tb b_Tb))), (qx, .inl (cB, NN, .inl f))]) [0, 1] rfl
                have hDc := hD.sub (ws' := [(mo, .inr (13, MF 30 (rf v j_Tb b_Tb))), (qx, .inl (cB, NN, .inl f))]) [0, 1] (by decide) rfl
                have hKc := hK.sub (tys' := [(cB, .byte)]) [0] rfl
                have hFc := va_free (wc := [(mo, .inr (13, MF 30 (rf v j_Tb b_Tb))), (qx, .inl (cB, NN, .inl f))]) hD hS hA [0, 1] rfl
                refine va_calli (va_runV (As := []) (rest := []) ⟨hx, hb, hml, hown, hts⟩ (c_Mo_c l dC dI mo H (rf v j_Tb b_Tb) cB qx NN f n j_Tb (by omega) (by omega) (by omega) ((rf_ne (by decide) (by decide)).trans h6) rf_7 ((rf_ne (by decide) (by decide)).trans h8)) (cwV 0 hts (gt_V (own := R_Mo) (C := R_Mo) (i := 147) (y := y_Mo_c) i_Mo_c w_1233 w_1235 (gt_sel (y := y_Mo_c) (n := 30) (by decide +kernel)) w_7) rfl rfl rfl (by decide +kernel) ⟨Nat.le_trans (m := 9) (Nat.le_of_ble_eq_true rfl) (Nat.le_add_right 9 (2 * r)), Nat.le_trans (m := 330) (Nat.le_of_ble_eq_true rfl) (Nat.le_add_right 330 (80 * r))⟩) ⟨mp_blind, va_recv hKc hPc (ci := 13) (q0 := 0) rfl rfl, fun U hU hW => ⟨rfl, hU, by rw [hU]; exact hPc, va_K.moved hW.alike hKc, hDc.weaken (fun _ _ _ _ => trivial)⟩⟩ rfl rfl hl.1 rfl (lv_room (Nat.le_of_ble_eq_true rfl)) d_Mo_inside_197 ⟨hfit_Td.1, hfit_Td.2⟩) hS (fun q _ h => hFc q h) hFc (fun r6 _u t9 H1 locs ht hvm hw hB hz1 hk1 hS => ?_)
                obtain ⟨hP1, hK1, hD1⟩ := hB
                rw [ht] at hP1
                obtain ⟨hP, hD⟩ := va_join (wr := [(t, .inr (12, MF 13 (tw Td))), (Td.a0, .inl (cI, Td.N, .inl Td.kd)), (Td.a1, .inl (cL, Td.N, .inr (.inl Td.nu))), (Td.a2, .inl (cI, Td.N, .inl Td.st)), (Td.a3, .inl (cI, Td.N, .inl Td.ln)), (Td.a4, .inl (cI, Td.N, .inl Td.ki)), (Td.a5, .inl (cI, Td.N, .inl Td.nx)), (Td.a6, .inl (cI, Td.N, .inl Td.ns)), (Td.a7, .inl (cI, Td.N, .inl Td.nl)), (Td.a8, .inl (cI, Td.N, .inl Td.pa)), (Td.a9, .inl (cI, Td.N, .inl Td.pl)), (Td.au, .inl (cC, Td.U, .inl Td.un))]) (w1 := [(mo, .inr (13, MF 30 (rf v j_Tb b_Tb))), (qx, .inl (cB, NN, .inl f))]) hP hD [0, 1] [2, 3, 4, 5, 6, 7, 8, 9, 10, 11, 12, 13] rfl rfl (by decide) (by decide) hk1 hFc hP1 hD1
                generalize H1 = H at hP hS ⊢
                have hP : va_P (dC, dI) classes [(t, .inr (12, MF 13 (tw Td))), (Td.a0, .inl (cI, Td.N, .inl Td.kd)), (Td.a1, .inl (cL, Td.N, .inr (.inl Td.nu))), (Td.a2, .inl (cI, Td.N, .inl Td.st)), (Td.a3, .inl (cI, Td.N, .inl Td.ln)), (Td.a4, .inl (cI, Td.N, .inl Td.ki)), (Td.a5, .inl (cI, Td.N, .inl Td.nx)), (Td.a6, .inl (cI, Td.N, .inl Td.ns)), (Td.a7, .inl (cI, Td.N, .inl Td.nl)), (Td.a8, .inl (cI, Td.N, .inl Td.pa)), (Td.a9, .inl (cI, Td.N, .inl Td.pl)), (Td.au, .inl (cC, Td.U, .inl Td.un)), (mo, .inr (13, MF 30 (rf v j_Tb b_Tb))), (qx, .inl (cB, NN, .inl f))] H := hP
                have hD : va_D A [(t, .inr (12, MF 13 (tw Td))), (Td.a0, .inl (cI, Td.N, .inl Td.kd)), (Td.a1, .inl (cL, Td.N, .inr (.inl Td.nu))), (Td.a2, .inl (cI, Td.N, .inl Td.st)), (Td.a3, .inl (cI, Td.N, .inl Td.ln)), (Td.a4, .inl (cI, Td.N, .inl Td.ki)), (Td.a5, .inl (cI, Td.N, .inl Td.nx)), (Td.a6, .inl (cI, Td.N, .inl Td.ns)), (Td.a7, .inl (cI, Td.N, .inl Td.nl)), (Td.a8, .inl (cI, Td.N, .inl Td.pa)), (Td.a9, .inl (cI, Td.N, .inl Td.pl)), (Td.au, .inl (cC, Td.U, .inl Td.un)), (mo, .inr (13, MF 30 (rf v j_Tb b_Tb))), (qx, .inl (cB, NN, .inl f))] := hD
                have hP := hP.sub (ws' := [(mo, .inr (13, MF 30 (rf v j_Tb b_Tb))), (qx, .inl (cB, NN, .inl f)), (t, .inr (12, MF 13 (tw Td))), (Td.a0, .inl (cI, Td.N, .inl Td.kd)), (Td.a1, .inl (cL, Td.N, .inr (.inl Td.nu))), (Td.a2, .inl (cI, Td.N, .inl Td.st)), (Td.a3, .inl (cI, Td.N, .inl Td.ln)), (Td.a4, .inl (cI, Td.N, .inl Td.ki)), (Td.a5, .inl (cI, Td.N, .inl Td.nx)), (Td.a6, .inl (cI, Td.N, .inl Td.ns)), (Td.a7, .inl (cI, Td.N, .inl Td.nl)), (Td.a8, .inl (cI, Td.N, .inl Td.pa)), (Td.a9, .inl (cI, Td.N, .inl Td.pl)), (Td.au, .inl (cC, Td.U, .inl Td.un))]) [12, 13, 0, 1, 2, 3, 4, 5, 6, 7, 8, 9, 10, 11] rfl
                have hD := hD.sub (ws' := [(mo, .inr (13, MF 30 (rf v j_Tb b_Tb))), (qx, .inl (cB, NN, .inl f)), (t, .inr (12, MF 13 (tw Td))), (Td.a0, .inl (cI, Td.N, .inl Td.kd)), (Td.a1, .inl (cL, Td.N, .inr (.inl Td.nu))), (Td.a2, .inl (cI, Td.N, .inl Td.st)), (Td.a3, .inl (cI, Td.N, .inl Td.ln)), (Td.a4, .inl (cI, Td.N, .inl Td.ki)), (Td.a5, .inl (cI, Td.N, .inl Td.nx)), (Td.a6, .inl (cI, Td.N, .inl Td.ns)), (Td.a7, .inl (cI, Td.N, .inl Td.nl)), (Td.a8, .inl (cI, Td.N, .inl Td.pa)), (Td.a9, .inl (cI, Td.N, .inl Td.pl)), (Td.au, .inl (cC, Td.U, .inl Td.un))]) [12, 13, 0, 1, 2, 3, 4, 5, 6, 7, 8, 9, 10, 11] (by decide) rfl
                have h_r6 : r6 = hereV f n j_Tb := hw
                refine lv_iload hx hb d_Mo_inside_200 (lv_at hl 8 rfl) ?_
                refine lv_icmp_ne (tgt := 217) hx hb d_Mo_inside_202 (by decide) (fun c202 => ?_) (fun c202 => ?_)
                · have hncl : ¬ hereV f n j_Tb = clo 123 := fun h => c202 (h_r6.trans h)
                  refine lv_aload_n hx hb d_Mo_inside_217 rfl (lv_at hl 4 rfl) ?_
                  refine lv_bipush (v := 44) hx hb d_Mo_inside_218 (by decide) ?_
                  have hPc := hP.sub (ws' := [(mo, .inr (13, MF 30 (rf v j_Tb b_Tb))), (qx, .inl (cB, NN, .inl f))]) [0, 1] rfl
                  have hDc := hD.sub (ws' := [(mo, .inr (13, MF 30 (rf v j_Tb b_Tb))), (qx, .inl (cB, NN, .inl f))]) [0, 1] (by decide) rfl
                  have hKc := hK.sub (tys' := [(cB, .byte)]) [0] rfl
                  have hFc := va_free (wc := [(mo, .inr (13, MF 30 (rf v j_Tb b_Tb))), (qx, .inl (cB, NN, .inl f))]) hD hS hA [0, 1] rfl
                  refine va_calli (va_runV (As := [.int 44]) (rest := []) ⟨hx, hb, hml, hown, hts⟩ (c_Mo_take l dC dI mo H (rf v j_Tb b_Tb) cB qx NN f n j_Tb (by omega) (by omega) (by omega) ((rf_ne (by decide) (by decide)).trans h6) rf_7 ((rf_ne (by decide) (by decide)).trans h8) b_Tb rf_9 44) (cwV 1 hts (gt_V (own := R_Mo) (C := R_Mo) (i := 163) (y := y_Mo_take) i_Mo_take w_1246 w_1248 (gt_sel (y := y_Mo_take) (n := 30) (by decide +kernel)) w_7) rfl rfl rfl (by decide +kernel) ⟨Nat.le_trans (m := 9) (Nat.le_of_ble_eq_true rfl) (Nat.le_add_right 9 (2 * r)), Nat.le_trans (m := 330) (Nat.le_of_ble_eq_true rfl) (Nat.le_add_right 330 (80 * r))⟩) ⟨mp_blind, va_recv hKc hPc (ci := 13) (q0 := 0) rfl rfl, fun U hU hW => ⟨rfl, hU, by rw [hU]; exact hPc, va_K.moved hW.alike hKc, hDc.weaken (fun _ _ _ _ => trivial)⟩⟩ rfl rfl hl.1 rfl (lv_room (Nat.le_of_ble_eq_true rfl)) d_Mo_inside_220 ⟨hfit_Td.1, hfit_Td.2⟩) hS (fun q _ h => hFc q h) hFc (fun r0 u2 t9 H1 locs ht hvm hw hB hz1 hk1 hS => ?_)
                  obtain ⟨hP1, hK1, hD1⟩ := hB
                  rw [ht] at hP1
                  obtain ⟨hP, hD⟩ := va_join (wr := [(t, .inr (12, MF 13 (tw Td))), (Td.a0, .inl (cI, Td.N, .inl Td.kd)), (Td.a1, .inl (cL, Td.N, .inr (.inl Td.nu))), (Td.a2, .inl (cI, Td.N, .inl Td.st)), (Td.a3, .inl (cI, Td.N, .inl Td.ln)), (Td.a4, .inl (cI, Td.N, .inl Td.ki)), (Td.a5, .inl (cI, Td.N, .inl Td.nx)), (Td.a6, .inl (cI, Td.N, .inl Td.ns)), (Td.a7, .inl (cI, Td.N, .inl Td.nl)), (Td.a8, .inl (cI, Td.N, .inl Td.pa)), (Td.a9, .inl (cI, Td.N, .inl Td.pl)), (Td.au, .inl (cC, Td.U, .inl Td.un))]) (w1 := [(mo, .inr (13, MF 30 u2)), (qx, .inl (cB, NN, .inl f))]) hP hD [0, 1] [2, 3, 4, 5, 6, 7, 8, 9, 10, 11, 12, 13] rfl rfl (by decide) (by decide) hk1 hFc hP1 hD1
                  generalize H1 = H at hP hS ⊢
                  have hP : va_P (dC, dI) classes [(t, .inr (12, MF 13 (tw Td))), (Td.a0, .inl (cI, Td.N, .inl Td.kd)), (Td.a1, .inl (cL, Td.N, .inr (.inl Td.nu))), (Td.a2, .inl (cI, Td.N, .inl Td.st)), (Td.a3, .inl (cI, Td.N, .inl Td.ln)), (Td.a4, .inl (cI, Td.N, .inl Td.ki)), (Td.a5, .inl (cI, Td.N, .inl Td.nx)), (Td.a6, .inl (cI, Td.N, .inl Td.ns)), (Td.a7, .inl (cI, Td.N, .inl Td.nl)), (Td.a8, .inl (cI, Td.N, .inl Td.pa)), (Td.a9, .inl (cI, Td.N, .inl Td.pl)), (Td.au, .inl (cC, Td.U, .inl Td.un)), (mo, .inr (13, MF 30 u2)), (qx, .inl (cB, NN, .inl f))] H := hP
                  have hD : va_D A [(t, .inr (12, MF 13 (tw Td))), (Td.a0, .inl (cI, Td.N, .inl Td.kd)), (Td.a1, .inl (cL, Td.N, .inr (.inl Td.nu))), (Td.a2, .inl (cI, Td.N, .inl Td.st)), (Td.a3, .inl (cI, Td.N, .inl Td.ln)), (Td.a4, .inl (cI, Td.N, .inl Td.ki)), (Td.a5, .inl (cI, Td.N, .inl Td.nx)), (Td.a6, .inl (cI, Td.N, .inl Td.ns)), (Td.a7, .inl (cI, Td.N, .inl Td.nl)), (Td.a8, .inl (cI, Td.N, .inl Td.pa)), (Td.a9, .inl (cI, Td.N, .inl Td.pl)), (Td.au, .inl (cC, Td.U, .inl Td.un)), (mo, .inr (13, MF 30 u2)), (qx, .inl (cB, NN, .inl f))] := hD
                  have hP := hP.sub (ws' := [(mo, .inr (13, MF 30 u2)), (qx, .inl (cB, NN, .inl f)), (t, .inr (12, MF 13 (tw Td))), (Td.a0, .inl (cI, Td.N, .inl Td.kd)), (Td.a1, .inl (cL, Td.N, .inr (.inl Td.nu))), (Td.a2, .inl (cI, Td.N, .inl Td.st)), (Td.a3, .inl (cI, Td.N, .inl Td.ln)), (Td.a4, .inl (cI, Td.N, .inl Td.ki)), (Td.a5, .inl (cI, Td.N, .inl Td.nx)), (Td.a6, .inl (cI, Td.N, .inl Td.ns)), (Td.a7, .inl (cI, Td.N, .inl Td.nl)), (Td.a8, .inl (cI, Td.N, .inl Td.pa)), (Td.a9, .inl (cI, Td.N, .inl Td.pl)), (Td.au, .inl (cC, Td.U, .inl Td.un))]) [12, 13, 0, 1, 2, 3, 4, 5, 6, 7, 8, 9, 10, 11] rfl
                  have hD := hD.sub (ws' := [(mo, .inr (13, MF 30 u2)), (qx, .inl (cB, NN, .inl f)), (t, .inr (12, MF 13 (tw Td))), (Td.a0, .inl (cI, Td.N, .inl Td.kd)), (Td.a1, .inl (cL, Td.N, .inr (.inl Td.nu))), (Td.a2, .inl (cI, Td.N, .inl Td.st)), (Td.a3, .inl (cI, Td.N, .inl Td.ln)), (Td.a4, .inl (cI, Td.N, .inl Td.ki)), (Td.a5, .inl (cI, Td.N, .inl Td.nx)), (Td.a6, .inl (cI, Td.N, .inl Td.ns)), (Td.a7, .inl (cI, Td.N, .inl Td.nl)), (Td.a8, .inl (cI, Td.N, .inl Td.pa)), (Td.a9, .inl (cI, Td.N, .inl Td.pl)), (Td.au, .inl (cC, Td.U, .inl Td.un))]) [12, 13, 0, 1, 2, 3, 4, 5, 6, 7, 8, 9, 10, 11] (by decide) rfl
                  rcases hw with ⟨ht1, ht2, ht3⟩ | ⟨ht1, ht2, ht3⟩
                  · rw [rf_u7] at ht3
                    rw [ht3] at hP hD
                    subst ht2
                    have hP : va_P (dC, dI) classes [(mo, .inr (13, MF 30 (rf v (j_Tb + 1) b_Tb))), (qx, .inl (cB, NN, .inl f)), (t, .inr (12, MF 13 (tw Td))), (Td.a0, .inl (cI, Td.N, .inl Td.kd)), (Td.a1, .inl (cL, Td.N, .inr (.inl Td.nu))), (Td.a2, .inl (cI, Td.N, .inl Td.st)), (Td.a3, .inl (cI, Td.N, .inl Td.ln)), (Td.a4, .inl (cI, Td.N, .inl Td.ki)), (Td.a5, .inl (cI, Td.N, .inl Td.nx)), (Td.a6, .inl (cI, Td.N, .inl Td.ns)), (Td.a7, .inl (cI, Td.N, .inl Td.nl)), (Td.a8, .inl (cI, Td.N, .inl Td.pa)), (Td.a9, .inl (cI, Td.N, .inl Td.pl)), (Td.au, .inl (cC, Td.U, .inl Td.un))] H := hP
                    have hD : va_D A [(mo, .inr (13, MF 30 (rf v (j_Tb + 1) b_Tb))), (qx, .inl (cB, NN, .inl f)), (t, .inr (12, MF 13 (tw Td))), (Td.a0, .inl (cI, Td.N, .inl Td.kd)), (Td.a1, .inl (cL, Td.N, .inr (.inl Td.nu))), (Td.a2, .inl (cI, Td.N, .inl Td.st)), (Td.a3, .inl (cI, Td.N, .inl Td.ln)), (Td.a4, .inl (cI, Td.N, .inl Td.ki)), (Td.a5, .inl (cI, Td.N, .inl Td.nx)), (Td.a6, .inl (cI, Td.N, .inl Td.ns)), (Td.a7, .inl (cI, Td.N, .inl Td.nl)), (Td.a8, .inl (cI, Td.N, .inl Td.pa)), (Td.a9, .inl (cI, Td.N, .inl Td.pl)), (Td.au, .inl (cC, Td.U, .inl Td.un))] := hD
                    refine lv_if_ne (tgt := 228) hx hb d_Mo_inside_223 (by decide) (fun _ => ?_) (fun h => absurd h (by decide))
                    refine lv_goto (tgt := 38) hx hb d_Mo_inside_228 (by decide) ?_
                    refine w_same (fun hq => ?_)
                    refine W.widen (k := ncap T (T.ct + (n + 12 - (i + 1))) + qcap T (T.us + (n + 12 - (i + 1)))) (n := 20 * ncap T (T.ct + (n + 12 - (i + 1))) + 2 * qcap T (T.us + (n + 12 - (i + 1)))) hfit_Td.1 hfit_Td.2 ?_
                    have hlt2 := here_in ht1 (by decide)
                    have hst : pIn f n (pV f n r) 123 m0 (j_Tb + 1) (acc ++ [(us9.map c16, x_Tb)]) = pIn f n (pV f n r) 123 (n + 1) (skipH f n (i + 1)) [] := by rw [← hI5, hm0]; exact (pIn_step hNam hVal hncl ht1).symm
                    exact ih (Td, acc ++ [(us9.map c16, x_Tb)], m0, (j_Tb + 1), b_Tb, nI Ta.ct) _ _ _ ⟨hKS2, hTB2, ⟨hTk_Td, hGB_Td⟩, by omega, by omega, by omega, by omega, by omega, hst, hq⟩ (by show n + 1 - (j_Tb + 1) < n + 1 - j; omega) hP hD hS (lv_sub hl [4, 5, 6, 7, 8, 0] rfl)
                  · obtain ⟨b6, h_b6⟩ := rf_fail (v := v) (i := j_Tb) (br := b_Tb) (b2 := b_Tb) (wh := nI j_Tb)
                    rw [h_b6] at ht3
                    rw [ht3] at hP hD
                    subst ht2
                    have hP : va_P (dC, dI) classes [(mo, .inr (13, MF 30 (rf v j_Tb b6))), (qx, .inl (cB, NN, .inl f)), (t, .inr (12, MF 13 (tw Td))), (Td.a0, .inl (cI, Td.N, .inl Td.kd)), (Td.a1, .inl (cL, Td.N, .inr (.inl Td.nu))), (Td.a2, .inl (cI, Td.N, .inl Td.st)), (Td.a3, .inl (cI, Td.N, .inl Td.ln)), (Td.a4, .inl (cI, Td.N, .inl Td.ki)), (Td.a5, .inl (cI, Td.N, .inl Td.nx)), (Td.a6, .inl (cI, Td.N, .inl Td.ns)), (Td.a7, .inl (cI, Td.N, .inl Td.nl)), (Td.a8, .inl (cI, Td.N, .inl Td.pa)), (Td.a9, .inl (cI, Td.N, .inl Td.pl)), (Td.au, .inl (cC, Td.U, .inl Td.un))] H := hP
                    have hD : va_D A [(mo, .inr (13, MF 30 (rf v j_Tb b6))), (qx, .inl (cB, NN, .inl f)), (t, .inr (12, MF 13 (tw Td))), (Td.a0, .inl (cI, Td.N, .inl Td.kd)), (Td.a1, .inl (cL, Td.N, .inr (.inl Td.nu))), (Td.a2, .inl (cI, Td.N, .inl Td.st)), (Td.a3, .inl (cI, Td.N, .inl Td.ln)), (Td.a4, .inl (cI, Td.N, .inl Td.ki)), (Td.a5, .inl (cI, Td.N, .inl Td.nx)), (Td.a6, .inl (cI, Td.N, .inl Td.ns)), (Td.a7, .inl (cI, Td.N, .inl Td.nl)), (Td.a8, .inl (cI, Td.N, .inl Td.pa)), (Td.a9, .inl (cI, Td.N, .inl Td.pl)), (Td.au, .inl (cC, Td.U, .inl Td.un))] := hD
                    refine lv_if_ne (tgt := 228) hx hb d_Mo_inside_223 (by decide) (fun h => absurd h (by decide)) (fun _ => ?_)
                    refine lv_iconst (v := 0) hx hb d_Mo_inside_226 (by decide) ?_
                    have hfin : pInside f n (pV f n r) 123 i = none := by rw [hpi, ← hI5, hm0]; exact pIn_bad hNam hVal hncl ht1
                    refine w_same (fun hq => ?_)
                    refine W.widen (k := ncap T (T.ct + (n + 12 - (i + 1))) + qcap T (T.us + (n + 12 - (i + 1)))) (n := 20 * ncap T (T.ct + (n + 12 - (i + 1))) + 2 * qcap T (T.us + (n + 12 - (i + 1)))) hfit_Td.1 hfit_Td.2 ?_
                    have hTG : TG n (i + 1) T Td := ⟨hTk_Td, hGB_Td⟩
                    exact W.zret (v := 0) hx hb hr rfl (fun t9 ht hW => ⟨⟨0, (Td, j_Tb, b6), rfl, ⟨hTG, Or.inr ⟨rfl, hfin⟩⟩, ⟨by rw [ht]; exact hP, va_K.moved hW.alike hK, hD⟩, by rw [ht]; exact hq.mono (Nat.le_refl _) (Nat.le_refl _)⟩, hS.F ht⟩) hS.2.2 d_Mo_inside_227
                · refine lv_aload_n hx hb d_Mo_inside_205 rfl (lv_at hl 4 rfl) ?_
                  refine lv_dup hx hb d_Mo_inside_206 rfl ?_
                  refine va_get (D := (dC, dI)) (ci := 13) (v := .int (nI j_Tb)) (C := R_Mo) (T := F_Mo) (N := 30) hx hb hts in_Mo hown hK hP 0 rfl rfl 7 (by decide) (hts _ w_1096) (fun _ h9 => h9) (MFg (by decide) rf_7) d_Mo_inside_207 ?_
                  refine lv_iconst (v := 1) hx hb d_Mo_inside_210 (by decide) ?_
                  refine lv_iadd hx hb d_Mo_inside_211 ?_
                  refine W.eq (g2 := F0 m 212 ls [.int (nI (j_Tb + 1)), .ref mo]) (by rw [show ((nI j_Tb) + 1) = (nI (j_Tb + 1)) from nI_1 _]) ?_
                  refine va_put (D := (dC, dI)) (ci := 13) (v := .int (nI (j_Tb + 1))) (ty := .int) (C := R_Mo) (T := F_Mo) (N := 30) hx hb hts in_Mo t_Mo t_Mo_ok n_Mo hown hK hP hD hS 0 rfl rfl 7 (by decide) (hts _ w_1096) (fun _ h9 => h9) rfl (by decide +kernel) rfl rfl (by rw [MFl]; decide) d_Mo_inside_212 (fun H locs hP hD hS => ?_)
                  rw [MFs (n := 30) (k := 7) (by decide)] at hP hD
                  have hP : va_P (dC, dI) classes [(mo, .inr (13, MF 30 (va_up (rf v j_Tb b_Tb) 7 (.int (nI (j_Tb + 1)))))), (qx, .inl (cB, NN, .inl f)), (t, .inr (12, MF 13 (tw Td))), (Td.a0, .inl (cI, Td.N, .inl Td.kd)), (Td.a1, .inl (cL, Td.N, .inr (.inl Td.nu))), (Td.a2, .inl (cI, Td.N, .inl Td.st)), (Td.a3, .inl (cI, Td.N, .inl Td.ln)), (Td.a4, .inl (cI, Td.N, .inl Td.ki)), (Td.a5, .inl (cI, Td.N, .inl Td.nx)), (Td.a6, .inl (cI, Td.N, .inl Td.ns)), (Td.a7, .inl (cI, Td.N, .inl Td.nl)), (Td.a8, .inl (cI, Td.N, .inl Td.pa)), (Td.a9, .inl (cI, Td.N, .inl Td.pl)), (Td.au, .inl (cC, Td.U, .inl Td.un))] H := hP
                  have hD : va_D A [(mo, .inr (13, MF 30 (va_up (rf v j_Tb b_Tb) 7 (.int (nI (j_Tb + 1)))))), (qx, .inl (cB, NN, .inl f)), (t, .inr (12, MF 13 (tw Td))), (Td.a0, .inl (cI, Td.N, .inl Td.kd)), (Td.a1, .inl (cL, Td.N, .inr (.inl Td.nu))), (Td.a2, .inl (cI, Td.N, .inl Td.st)), (Td.a3, .inl (cI, Td.N, .inl Td.ln)), (Td.a4, .inl (cI, Td.N, .inl Td.ki)), (Td.a5, .inl (cI, Td.N, .inl Td.nx)), (Td.a6, .inl (cI, Td.N, .inl Td.ns)), (Td.a7, .inl (cI, Td.N, .inl Td.nl)), (Td.a8, .inl (cI, Td.N, .inl Td.pa)), (Td.a9, .inl (cI, Td.N, .inl Td.pl)), (Td.au, .inl (cC, Td.U, .inl Td.un))] := hD
                  rw [rf_u7] at hP hD
                  have hP : va_P (dC, dI) classes [(mo, .inr (13, MF 30 (rf v (j_Tb + 1) b_Tb))), (qx, .inl (cB, NN, .inl f)), (t, .inr (12, MF 13 (tw Td))), (Td.a0, .inl (cI, Td.N, .inl Td.kd)), (Td.a1, .inl (cL, Td.N, .inr (.inl Td.nu))), (Td.a2, .inl (cI, Td.N, .inl Td.st)), (Td.a3, .inl (cI, Td.N, .inl Td.ln)), (Td.a4, .inl (cI, Td.N, .inl Td.ki)), (Td.a5, .inl (cI, Td.N, .inl Td.nx)), (Td.a6, .inl (cI, Td.N, .inl Td.ns)), (Td.a7, .inl (cI, Td.N, .inl Td.nl)), (Td.a8, .inl (cI, Td.N, .inl Td.pa)), (Td.a9, .inl (cI, Td.N, .inl Td.pl)), (Td.au, .inl (cC, Td.U, .inl Td.un))] H := hP
                  have hD : va_D A [(mo, .inr (13, MF 30 (rf v (j_Tb + 1) b_Tb))), (qx, .inl (cB, NN, .inl f)), (t, .inr (12, MF 13 (tw Td))), (Td.a0, .inl (cI, Td.N, .inl Td.kd)), (Td.a1, .inl (cL, Td.N, .inr (.inl Td.nu))), (Td.a2, .inl (cI, Td.N, .inl Td.st)), (Td.a3, .inl (cI, Td.N, .inl Td.ln)), (Td.a4, .inl (cI, Td.N, .inl Td.ki)), (Td.a5, .inl (cI, Td.N, .inl Td.nx)), (Td.a6, .inl (cI, Td.N, .inl Td.ns)), (Td.a7, .inl (cI, Td.N, .inl Td.nl)), (Td.a8, .inl (cI, Td.N, .inl Td.pa)), (Td.a9, .inl (cI, Td.N, .inl Td.pl)), (Td.au, .inl (cC, Td.U, .inl Td.un))] := hD
                  refine lv_iconst (v := 1) hx hb d_Mo_inside_215 (by decide) ?_
                  have hcl : hereV f n j_Tb = clo 123 := h_r6.symm.trans c202
                  have hlt9 := here_in (h_r6.symm.trans c202) (by decide)
                  have hfin : pInside f n (pV f n r) 123 i = some (acc ++ [(us9.map c16, x_Tb)], j_Tb + 1) := by rw [hpi, ← hI5, hm0]; exact pIn_end hNam hVal hcl
                  refine w_same (fun hq => ?_)
                  refine W.widen (k := ncap T (T.ct + (n + 12 - (i + 1))) + qcap T (T.us + (n + 12 - (i + 1)))) (n := 20 * ncap T (T.ct + (n + 12 - (i + 1))) + 2 * qcap T (T.us + (n + 12 - (i + 1)))) hfit_Td.1 hfit_Td.2 ?_
                  have hTG : TG n (i + 1) T Td := ⟨hTk_Td, hGB_Td⟩
                  exact W.zret (v := 1) hx hb hr rfl (fun t9 ht hW => ⟨⟨1, (Td, (j_Tb + 1), b_Tb), rfl, ⟨hTG, Or.inl ⟨rfl, _, hfin, hKS2.all (by omega), hTB2, by show Td.ct + (i + 1) ≤ T.ct + (j_Tb + 1); omega, by show Td.us + (i + 1) ≤ T.us + (j_Tb + 1); omega, by show j_Tb + 1 ≤ n; omega⟩⟩, ⟨by rw [ht]; exact hP, va_K.moved hW.alike hK, hD⟩, by rw [ht]; exact hq.mono (Nat.le_refl _) (Nat.le_refl _)⟩, hS.F ht⟩) hS.2.2 d_Mo_inside_216
              · rw [hbf]
                have hPc := hP.sub (ws' := [(t, .inr (12, MF 13 (tw Tb))), (Tb.a4, .inl (cI, Tb.N, .inl Tb.ki)), (Tb.a5, .inl (cI, Tb.N, .inl Tb.nx)), (Tb.a8, .inl (cI, Tb.N, .inl Tb.pa))]) [2, 7, 8, 11] rfl
                have hDc := hD.sub (ws' := [(t, .inr (12, MF 13 (tw Tb))), (Tb.a4, .inl (cI, Tb.N, .inl Tb.ki)), (Tb.a5, .inl (cI, Tb.N, .inl Tb.nx)), (Tb.a8, .inl (cI, Tb.N, .inl Tb.pa))]) [2, 7, 8, 11] (by decide) rfl
                have hKc := hK.sub (tys' := [(cI, .int)]) [1] rfl
                have hFc := va_free (wc := [(t, .inr (12, MF 13 (tw Tb))), (Tb.a4, .inl (cI, Tb.N, .inl Tb.ki)), (Tb.a5, .inl (cI, Tb.N, .inl Tb.nx)), (Tb.a8, .inl (cI, Tb.N, .inl Tb.pa))]) hD hS hA [2, 7, 8, 11] rfl
                refine va_callv (va_runV (As := [.int (nI nd), .int (nI b9), .int (nI Ta.ct)]) (rest := []) ⟨hx, hb, hml, hown, hts⟩ (c_Tree_insertB l dC dI t H (tw Tb) cI Tb.a4 Tb.a5 Tb.a8 Tb.N nd Ta.ct b9 Tb.ki Tb.nx Tb.pa (by omega) (by omega) (by omega) (by omega) rfl rfl rfl) (cwV 3 hts (gt_V (own := R_Mo) (C := R_Tree) (i := 225) (y := y_Tree_insert) i_Tree_insert w_1358 w_1359 w_1360 w_8) rfl rfl rfl (by decide +kernel) ⟨Nat.le_trans (m := 9) (Nat.le_of_ble_eq_true rfl) (Nat.le_add_right 9 (2 * r)), Nat.le_trans (m := 330) (Nat.le_of_ble_eq_true rfl) (Nat.le_add_right 330 (80 * r))⟩) ⟨mp_blind, va_recv hKc hPc (ci := 12) (q0 := 0) rfl rfl, fun U hU hW => ⟨rfl, hU, by rw [hU]; exact hPc, va_K.moved hW.alike hKc, hDc.weaken (fun _ _ _ _ => trivial)⟩⟩ rfl rfl hl.1 rfl (lv_room (Nat.le_of_ble_eq_true rfl)) d_Mo_inside_189 ⟨hfit_Tb.1, hfit_Tb.2⟩) hS (fun q _ h => hFc q h) hFc (fun _u t9 H1 locs ht hvm hw hB hz1 hk1 hS => ?_)
                obtain ⟨hP1, hK1, hD1⟩ := hB
                rw [ht] at hP1
                obtain ⟨hP, hD⟩ := va_join (wr := [(mo, .inr (13, MF 30 (rf v j_Tb b_Tb))), (qx, .inl (cB, NN, .inl f)), (Tb.a0, .inl (cI, Tb.N, .inl Tb.kd)), (Tb.a1, .inl (cL, Tb.N, .inr (.inl Tb.nu))), (Tb.a2, .inl (cI, Tb.N, .inl Tb.st)), (Tb.a3, .inl (cI, Tb.N, .inl Tb.ln)), (Tb.a6, .inl (cI, Tb.N, .inl (upd Tb.ns Ta.ct ((nI Tc.us))))), (Tb.a7, .inl (cI, Tb.N, .inl (upd Tb.nl Ta.ct ((nI us9.length))))), (Tb.a9, .inl (cI, Tb.N, .inl Tb.pl)), (Tb.au, .inl (cC, Tb.U, .inl Tb.un))]) (w1 := [(t, .inr (12, MF 13 (tw Tb))), (Tb.a4, .inl (cI, Tb.N, .inl Tb.ki)), (Tb.a5, .inl (cI, Tb.N, .inl (upd (upd Tb.nx Ta.ct (Tb.nx b9)) b9 (nI Ta.ct)))), (Tb.a8, .inl (cI, Tb.N, .inl (upd Tb.pa Ta.ct (nI nd))))]) hP hD [2, 7, 8, 11] [0, 1, 3, 4, 5, 6, 9, 10, 12, 13] rfl rfl (by decide) (by decide) hk1 hFc hP1 hD1
                generalize H1 = H at hP hS ⊢
                have hP : va_P (dC, dI) classes [(mo, .inr (13, MF 30 (rf v j_Tb b_Tb))), (qx, .inl (cB, NN, .inl f)), (Tb.a0, .inl (cI, Tb.N, .inl Tb.kd)), (Tb.a1, .inl (cL, Tb.N, .inr (.inl Tb.nu))), (Tb.a2, .inl (cI, Tb.N, .inl Tb.st)), (Tb.a3, .inl (cI, Tb.N, .inl Tb.ln)), (Tb.a6, .inl (cI, Tb.N, .inl (upd Tb.ns Ta.ct ((nI Tc.us))))), (Tb.a7, .inl (cI, Tb.N, .inl (upd Tb.nl Ta.ct ((nI us9.length))))), (Tb.a9, .inl (cI, Tb.N, .inl Tb.pl)), (Tb.au, .inl (cC, Tb.U, .inl Tb.un)), (t, .inr (12, MF 13 (tw Tb))), (Tb.a4, .inl (cI, Tb.N, .inl Tb.ki)), (Tb.a5, .inl (cI, Tb.N, .inl (upd (upd Tb.nx Ta.ct (Tb.nx b9)) b9 (nI Ta.ct)))), (Tb.a8, .inl (cI, Tb.N, .inl (upd Tb.pa Ta.ct (nI nd))))] H := hP
                have hD : va_D A [(mo, .inr (13, MF 30 (rf v j_Tb b_Tb))), (qx, .inl (cB, NN, .inl f)), (Tb.a0, .inl (cI, Tb.N, .inl Tb.kd)), (Tb.a1, .inl (cL, Tb.N, .inr (.inl Tb.nu))), (Tb.a2, .inl (cI, Tb.N, .inl Tb.st)), (Tb.a3, .inl (cI, Tb.N, .inl Tb.ln)), (Tb.a6, .inl (cI, Tb.N, .inl (upd Tb.ns Ta.ct ((nI Tc.us))))), (Tb.a7, .inl (cI, Tb.N, .inl (upd Tb.nl Ta.ct ((nI us9.length))))), (Tb.a9, .inl (cI, Tb.N, .inl Tb.pl)), (Tb.au, .inl (cC, Tb.U, .inl Tb.un)), (t, .inr (12, MF 13 (tw Tb))), (Tb.a4, .inl (cI, Tb.N, .inl Tb.ki)), (Tb.a5, .inl (cI, Tb.N, .inl (upd (upd Tb.nx Ta.ct (Tb.nx b9)) b9 (nI Ta.ct)))), (Tb.a8, .inl (cI, Tb.N, .inl (upd Tb.pa Ta.ct (nI nd))))] := hD
                have hP := hP.sub (ws' := [(mo, .inr (13, MF 30 (rf v j_Tb b_Tb))), (qx, .inl (cB, NN, .inl f)), (t, .inr (12, MF 13 (tw Tb))), (Tb.a0, .inl (cI, Tb.N, .inl Tb.kd)), (Tb.a1, .inl (cL, Tb.N, .inr (.inl Tb.nu))), (Tb.a2, .inl (cI, Tb.N, .inl Tb.st)), (Tb.a3, .inl (cI, Tb.N, .inl Tb.ln)), (Tb.a4, .inl (cI, Tb.N, .inl Tb.ki)), (Tb.a5, .inl (cI, Tb.N, .inl (upd (upd Tb.nx Ta.ct (Tb.nx b9)) b9 (nI Ta.ct)))), (Tb.a6, .inl (cI, Tb.N, .inl (upd Tb.ns Ta.ct ((nI Tc.us))))), (Tb.a7, .inl (cI, Tb.N, .inl (upd Tb.nl Ta.ct ((nI us9.length))))), (Tb.a8, .inl (cI, Tb.N, .inl (upd Tb.pa Ta.ct (nI nd)))), (Tb.a9, .inl (cI, Tb.N, .inl Tb.pl)), (Tb.au, .inl (cC, Tb.U, .inl Tb.un))]) [0, 1, 10, 2, 3, 4, 5, 11, 12, 6, 7, 13, 8, 9] rfl
                have hD := hD.sub (ws' := [(mo, .inr (13, MF 30 (rf v j_Tb b_Tb))), (qx, .inl (cB, NN, .inl f)), (t, .inr (12, MF 13 (tw Tb))), (Tb.a0, .inl (cI, Tb.N, .inl Tb.kd)), (Tb.a1, .inl (cL, Tb.N, .inr (.inl Tb.nu))), (Tb.a2, .inl (cI, Tb.N, .inl Tb.st)), (Tb.a3, .inl (cI, Tb.N, .inl Tb.ln)), (Tb.a4, .inl (cI, Tb.N, .inl Tb.ki)), (Tb.a5, .inl (cI, Tb.N, .inl (upd (upd Tb.nx Ta.ct (Tb.nx b9)) b9 (nI Ta.ct)))), (Tb.a6, .inl (cI, Tb.N, .inl (upd Tb.ns Ta.ct ((nI Tc.us))))), (Tb.a7, .inl (cI, Tb.N, .inl (upd Tb.nl Ta.ct ((nI us9.length))))), (Tb.a8, .inl (cI, Tb.N, .inl (upd Tb.pa Ta.ct (nI nd)))), (Tb.a9, .inl (cI, Tb.N, .inl Tb.pl)), (Tb.au, .inl (cC, Tb.U, .inl Tb.un))]) [0, 1, 10, 2, 3, 4, 5, 11, 12, 6, 7, 13, 8, 9] (by decide) rfl
                obtain ⟨Td, e_Td⟩ : ∃ z : TS, z = (TS.mk Tb.N Tb.U Tb.ct Tb.us Tb.a0 Tb.a1 Tb.a2 Tb.a3 Tb.a4 Tb.a5 Tb.a6 Tb.a7 Tb.a8 Tb.a9 Tb.au Tb.kd Tb.st Tb.ln Tb.ki (upd (upd Tb.nx Ta.ct (Tb.nx b9)) b9 (nI Ta.ct)) (upd Tb.ns Ta.ct (nI Tc.us)) (upd Tb.nl Ta.ct (nI us9.length)) (upd Tb.pa Ta.ct (nI nd)) Tb.pl Tb.un Tb.nu) := ⟨_, rfl⟩
                have hP : va_P (dC, dI) classes [(mo, .inr (13, MF 30 (rf v j_Tb b_Tb))), (qx, .inl (cB, NN, .inl f)), (t, .inr (12, MF 13 (tw Td))), (Td.a0, .inl (cI, Td.N, .inl Td.kd)), (Td.a1, .inl (cL, Td.N, .inr (.inl Td.nu))), (Td.a2, .inl (cI, Td.N, .inl Td.st)), (Td.a3, .inl (cI, Td.N, .inl Td.ln)), (Td.a4, .inl (cI, Td.N, .inl Td.ki)), (Td.a5, .inl (cI, Td.N, .inl Td.nx)), (Td.a6, .inl (cI, Td.N, .inl Td.ns)), (Td.a7, .inl (cI, Td.N, .inl Td.nl)), (Td.a8, .inl (cI, Td.N, .inl Td.pa)), (Td.a9, .inl (cI, Td.N, .inl Td.pl)), (Td.au, .inl (cC, Td.U, .inl Td.un))] H := by subst e_Td; exact hP
                have hD : va_D A [(mo, .inr (13, MF 30 (rf v j_Tb b_Tb))), (qx, .inl (cB, NN, .inl f)), (t, .inr (12, MF 13 (tw Td))), (Td.a0, .inl (cI, Td.N, .inl Td.kd)), (Td.a1, .inl (cL, Td.N, .inr (.inl Td.nu))), (Td.a2, .inl (cI, Td.N, .inl Td.st)), (Td.a3, .inl (cI, Td.N, .inl Td.ln)), (Td.a4, .inl (cI, Td.N, .inl Td.ki)), (Td.a5, .inl (cI, Td.N, .inl Td.nx)), (Td.a6, .inl (cI, Td.N, .inl Td.ns)), (Td.a7, .inl (cI, Td.N, .inl Td.nl)), (Td.a8, .inl (cI, Td.N, .inl Td.pa)), (Td.a9, .inl (cI, Td.N, .inl Td.pl)), (Td.au, .inl (cC, Td.U, .inl Td.un))] := by subst e_Td; exact hD
                have hTd : Td.N = Tb.N ∧ Td.U = Tb.U ∧ Td.ct = Tb.ct ∧ Td.us = Tb.us ∧ Td.un = Tb.un ∧ Td.kd = Tb.kd ∧ Td.nu = Tb.nu ∧ Td.st = Tb.st ∧ Td.ln = Tb.ln ∧ Td.pa = upd Tb.pa Ta.ct (nI nd) ∧ Td.ki = Tb.ki ∧ Td.nx = upd (upd Tb.nx Ta.ct (Tb.nx b9)) b9 (nI Ta.ct) ∧ Td.ns = upd Tb.ns Ta.ct (nI Tc.us) ∧ Td.nl = upd Tb.nl Ta.ct (nI us9.length) := by rw [e_Td]; exact ⟨rfl, rfl, rfl, rfl, rfl, rfl, rfl, rfl, rfl, rfl, rfl, rfl, rfl, rfl⟩
                obtain ⟨g1, g2, g3, g4, g5, g6, g7, g8, g9, g10, g11, g12, g13, g14⟩ := hTd
                have hTk_Td : TOK Td := by obtain ⟨q1, q2, q3, q4, q5, q6, q7⟩ := hTk_Tb; exact ⟨by omega, by omega, by omega, by omega, by omega, by omega, by rw [g5]; exact q7⟩
                have hau : alkU Tb Td := ⟨Nat.le_of_eq g4.symm, fun j9 _ => by rw [g5]⟩
                have hns : ∀ j9, j9 ≠ Ta.ct → Td.ns j9 = Tb.ns j9 := fun j9 h9 => by rw [g13]; exact pk_un h9
                have hnl : ∀ j9, j9 ≠ Ta.ct → Td.nl j9 = Tb.nl j9 := fun j9 h9 => by rw [g14]; exact pk_un h9
                have hpa : ∀ j9, j9 ≠ Ta.ct → Td.pa j9 = Tb.pa j9 := fun j9 h9 => by rw [g10]; exact pk_un h9
                have hki : ∀ j9, j9 ≠ nd → Td.ki j9 = Tb.ki j9 := fun j9 h9 => by rw [g11]
                have hnx : ∀ j9, j9 < T.ct → Td.nx j9 = Tb.nx j9 := fun j9 h9 => by rw [g12, pk_un (by omega), pk_un (by omega)]
                have hTB2 : TB T Td nd := ((hTB.te hnd hTEa).te hnd hv_4).ins hnd (kid := Ta.ct) (by omega) hau g3 g6 g7 g8 g9 hns hnl hpa hki hnx
                have hnmk : nmOK Td Ta.ct ∧ nmT Td Ta.ct = us9.map c16 := by
                  have h1 : Td.ns Ta.ct = nI Tc.us := by rw [g13]; exact pk_us
                  have h2 : Td.nl Ta.ct = nI us9.length := by rw [g14]; exact pk_us
                  refine ⟨⟨Tc.us, us9.length, h1, h2, by omega⟩, ?_⟩
                  rw [nmT_eq h1 h2 (by omega) (by omega), g5, sl_fr hv_4.2.2 (by omega)]
                  exact hX_Ta.un.2
                have hKb := hKa.fr hnd (by omega) (by omega) (by omega) hv_4
                have hKS2 : KS r ((123 : Int32) = 123) nd T.ct Td.ct Td (acc ++ [(us9.map c16, x_Tb)]) (nI Ta.ct) := by
                  rw [g3]
                  refine hKb.add hnd (by omega) (by omega) hv_3 hau g3 g6 g7 g8 g9 hns hnl g10 (fun _ => hnmk) ?_ ?_ ?_ (by omega) (by omega)
                  · rw [if_neg (fun h => by rw [hbf] at h; exact absurd (show nI b9 < 0 by rw [h]; decide) (nI_pos (by omega)))]; exact g11
                  · intro b8 h8 h7; rw [hbf] at h8; rw [← (nI_eq (by omega) (by omega)).mp h8]; exact g12
                  · intro h; rw [hbf] at h; exact absurd (show nI b9 < 0 by rw [h]; decide) (nI_pos (by omega))
                refine w_same (fun hq => ?_)
                refine w_tight (k := cE T Td) (n := sE T Td) (by unfold cE sE at hq ⊢; rw [g1, g2]; exact hq) ?_
                have hGB_Td : GB (T.ct + (n + 12 - (i + 1))) (T.us + (n + 12 - (i + 1))) T Td := by unfold GB at hGB_Tb ⊢; rw [g1, g2]; exact hGB_Tb
                have hfit_Td := hGB_Td.fits
                refine lv_iload hx hb d_Mo_inside_192 (lv_at hl 0 rfl) ?_
                refine lv_istore (lv' := [(5, .int (nI Ta.ct)), (8, .int (nI Ta.ct)), (7, .int (nI us9.length)), (6, .int (nI Tc.us)), (0, .ref mo), (1, .ref t), (2, .int (nI nd)), (3, .int (nI (31 - r))), (4, .int 125)]) hx hb d_Mo_inside_194 hl (by decide) rfl (fun ls hl => ?_)
                refine lv_aload_n hx hb d_Mo_inside_196 rfl (lv_at hl 4 rfl) ?_
                have hPc := hP.sub (ws' := [(mo, .inr (13, MF 30 (rf v j_Tb b_Tb))), (qx, .inl (cB, NN, .inl f))]) [0, 1] rfl
                have hDc := hD.sub (ws' := [(mo, .inr (13, MF 30 (rf v j_Tb b_Tb))), (qx, .inl (cB, NN, .inl f))]) [0, 1] (by decide) rfl
                have hKc := hK.sub (tys' := [(cB, .byte)]) [0] rfl
                have hFc := va_free (wc := [(mo, .inr (13, MF 30 (rf v j_Tb b_Tb))), (qx, .inl (cB, NN, .inl f))]) hD hS hA [0, 1] rfl
                refine va_calli (va_runV (As := []) (rest := []) ⟨hx, hb, hml, hown, hts⟩ (c_Mo_c l dC dI mo H (rf v j_Tb b_Tb) cB qx NN f n j_Tb (by omega) (by omega) (by omega) ((rf_ne (by decide) (by decide)).trans h6) rf_7 ((rf_ne (by decide) (by decide)).trans h8)) (cwV 0 hts (gt_V (own := R_Mo) (C := R_Mo) (i := 147) (y := y_Mo_c) i_Mo_c w_1233 w_1235 (gt_sel (y := y_Mo_c) (n := 30) (by decide +kernel)) w_7) rfl rfl rfl (by decide +kernel) ⟨Nat.le_trans (m := 9) (Nat.le_of_ble_eq_true rfl) (Nat.le_add_right 9 (2 * r)), Nat.le_trans (m := 330) (Nat.le_of_ble_eq_true rfl) (Nat.le_add_right 330 (80 * r))⟩) ⟨mp_blind, va_recv hKc hPc (ci := 13) (q0 := 0) rfl rfl, fun U hU hW => ⟨rfl, hU, by rw [hU]; exact hPc, va_K.moved hW.alike hKc, hDc.weaken (fun _ _ _ _ => trivial)⟩⟩ rfl rfl hl.1 rfl (lv_room (Nat.le_of_ble_eq_true rfl)) d_Mo_inside_197 ⟨hfit_Td.1, hfit_Td.2⟩) hS (fun q _ h => hFc q h) hFc (fun r6 _u t9 H1 locs ht hvm hw hB hz1 hk1 hS => ?_)
                obtain ⟨hP1, hK1, hD1⟩ := hB
                rw [ht] at hP1
                obtain ⟨hP, hD⟩ := va_join (wr := [(t, .inr (12, MF 13 (tw Td))), (Td.a0, .inl (cI, Td.N, .inl Td.kd)), (Td.a1, .inl (cL, Td.N, .inr (.inl Td.nu))), (Td.a2, .inl (cI, Td.N, .inl Td.st)), (Td.a3, .inl (cI, Td.N, .inl Td.ln)), (Td.a4, .inl (cI, Td.N, .inl Td.ki)), (Td.a5, .inl (cI, Td.N, .inl Td.nx)), (Td.a6, .inl (cI, Td.N, .inl Td.ns)), (Td.a7, .inl (cI, Td.N, .inl Td.nl)), (Td.a8, .inl (cI, Td.N, .inl Td.pa)), (Td.a9, .inl (cI, Td.N, .inl Td.pl)), (Td.au, .inl (cC, Td.U, .inl Td.un))]) (w1 := [(mo, .inr (13, MF 30 (rf v j_Tb b_Tb))), (qx, .inl (cB, NN, .inl f))]) hP hD [0, 1] [2, 3, 4, 5, 6, 7, 8, 9, 10, 11, 12, 13] rfl rfl (by decide) (by decide) hk1 hFc hP1 hD1
                generalize H1 = H at hP hS ⊢
                have hP : va_P (dC, dI) classes [(t, .inr (12, MF 13 (tw Td))), (Td.a0, .inl (cI, Td.N, .inl Td.kd)), (Td.a1, .inl (cL, Td.N, .inr (.inl Td.nu))), (Td.a2, .inl (cI, Td.N, .inl Td.st)), (Td.a3, .inl (cI, Td.N, .inl Td.ln)), (Td.a4, .inl (cI, Td.N, .inl Td.ki)), (Td.a5, .inl (cI, Td.N, .inl Td.nx)), (Td.a6, .inl (cI, Td.N, .inl Td.ns)), (Td.a7, .inl (cI, Td.N, .inl Td.nl)), (Td.a8, .inl (cI, Td.N, .inl Td.pa)), (Td.a9, .inl (cI, Td.N, .inl Td.pl)), (Td.au, .inl (cC, Td.U, .inl Td.un)), (mo, .inr (13, MF 30 (rf v j_Tb b_Tb))), (qx, .inl (cB, NN, .inl f))] H := hP
                have hD : va_D A [(t, .inr (12, MF 13 (tw Td))), (Td.a0, .inl (cI, Td.N, .inl Td.kd)), (Td.a1, .inl (cL, Td.N, .inr (.inl Td.nu))), (Td.a2, .inl (cI, Td.N, .inl Td.st)), (Td.a3, .inl (cI, Td.N, .inl Td.ln)), (Td.a4, .inl (cI, Td.N, .inl Td.ki)), (Td.a5, .inl (cI, Td.N, .inl Td.nx)), (Td.a6, .inl (cI, Td.N, .inl Td.ns)), (Td.a7, .inl (cI, Td.N, .inl Td.nl)), (Td.a8, .inl (cI, Td.N, .inl Td.pa)), (Td.a9, .inl (cI, Td.N, .inl Td.pl)), (Td.au, .inl (cC, Td.U, .inl Td.un)), (mo, .inr (13, MF 30 (rf v j_Tb b_Tb))), (qx, .inl (cB, NN, .inl f))] := hD
                have hP := hP.sub (ws' := [(mo, .inr (13, MF 30 (rf v j_Tb b_Tb))), (qx, .inl (cB, NN, .inl f)), (t, .inr (12, MF 13 (tw Td))), (Td.a0, .inl (cI, Td.N, .inl Td.kd)), (Td.a1, .inl (cL, Td.N, .inr (.inl Td.nu))), (Td.a2, .inl (cI, Td.N, .inl Td.st)), (Td.a3, .inl (cI, Td.N, .inl Td.ln)), (Td.a4, .inl (cI, Td.N, .inl Td.ki)), (Td.a5, .inl (cI, Td.N, .inl Td.nx)), (Td.a6, .inl (cI, Td.N, .inl Td.ns)), (Td.a7, .inl (cI, Td.N, .inl Td.nl)), (Td.a8, .inl (cI, Td.N, .inl Td.pa)), (Td.a9, .inl (cI, Td.N, .inl Td.pl)), (Td.au, .inl (cC, Td.U, .inl Td.un))]) [12, 13, 0, 1, 2, 3, 4, 5, 6, 7, 8, 9, 10, 11] rfl
                have hD := hD.sub (ws' := [(mo, .inr (13, MF 30 (rf v j_Tb b_Tb))), (qx, .inl (cB, NN, .inl f)), (t, .inr (12, MF 13 (tw Td))), (Td.a0, .inl (cI, Td.N, .inl Td.kd)), (Td.a1, .inl (cL, Td.N, .inr (.inl Td.nu))), (Td.a2, .inl (cI, Td.N, .inl Td.st)), (Td.a3, .inl (cI, Td.N, .inl Td.ln)), (Td.a4, .inl (cI, Td.N, .inl Td.ki)), (Td.a5, .inl (cI, Td.N, .inl Td.nx)), (Td.a6, .inl (cI, Td.N, .inl Td.ns)), (Td.a7, .inl (cI, Td.N, .inl Td.nl)), (Td.a8, .inl (cI, Td.N, .inl Td.pa)), (Td.a9, .inl (cI, Td.N, .inl Td.pl)), (Td.au, .inl (cC, Td.U, .inl Td.un))]) [12, 13, 0, 1, 2, 3, 4, 5, 6, 7, 8, 9, 10, 11] (by decide) rfl
                have h_r6 : r6 = hereV f n j_Tb := hw
                refine lv_iload hx hb d_Mo_inside_200 (lv_at hl 8 rfl) ?_
                refine lv_icmp_ne (tgt := 217) hx hb d_Mo_inside_202 (by decide) (fun c202 => ?_) (fun c202 => ?_)
                · have hncl : ¬ hereV f n j_Tb = clo 123 := fun h => c202 (h_r6.trans h)
                  refine lv_aload_n hx hb d_Mo_inside_217 rfl (lv_at hl 4 rfl) ?_
                  refine lv_bipush (v := 44) hx hb d_Mo_inside_218 (by decide) ?_
                  have hPc := hP.sub (ws' := [(mo, .inr (13, MF 30 (rf v j_Tb b_Tb))), (qx, .inl (cB, NN, .inl f))]) [0, 1] rfl
                  have hDc := hD.sub (ws' := [(mo, .inr (13, MF 30 (rf v j_Tb b_Tb))), (qx, .inl (cB, NN, .inl f))]) [0, 1] (by decide) rfl
                  have hKc := hK.sub (tys' := [(cB, .byte)]) [0] rfl
                  have hFc := va_free (wc := [(mo, .inr (13, MF 30 (rf v j_Tb b_Tb))), (qx, .inl (cB, NN, .inl f))]) hD hS hA [0, 1] rfl
                  refine va_calli (va_runV (As := [.int 44]) (rest := []) ⟨hx, hb, hml, hown, hts⟩ (c_Mo_take l dC dI mo H (rf v j_Tb b_Tb) cB qx NN f n j_Tb (by omega) (by omega) (by omega) ((rf_ne (by decide) (by decide)).trans h6) rf_7 ((rf_ne (by decide) (by decide)).trans h8) b_Tb rf_9 44) (cwV 1 hts (gt_V (own := R_Mo) (C := R_Mo) (i := 163) (y := y_Mo_take) i_Mo_take w_1246 w_1248 (gt_sel (y := y_Mo_take) (n := 30) (by decide +kernel)) w_7) rfl rfl rfl (by decide +kernel) ⟨Nat.le_trans (m := 9) (Nat.le_of_ble_eq_true rfl) (Nat.le_add_right 9 (2 * r)), Nat.le_trans (m := 330) (Nat.le_of_ble_eq_true rfl) (Nat.le_add_right 330 (80 * r))⟩) ⟨mp_blind, va_recv hKc hPc (ci := 13) (q0 := 0) rfl rfl, fun U hU hW => ⟨rfl, hU, by rw [hU]; exact hPc, va_K.moved hW.alike hKc, hDc.weaken (fun _ _ _ _ => trivial)⟩⟩ rfl rfl hl.1 rfl (lv_room (Nat.le_of_ble_eq_true rfl)) d_Mo_inside_220 ⟨hfit_Td.1, hfit_Td.2⟩) hS (fun q _ h => hFc q h) hFc (fun r0 u2 t9 H1 locs ht hvm hw hB hz1 hk1 hS => ?_)
                  obtain ⟨hP1, hK1, hD1⟩ := hB
                  rw [ht] at hP1
                  obtain ⟨hP, hD⟩ := va_join (wr := [(t, .inr (12, MF 13 (tw Td))), (Td.a0, .inl (cI, Td.N, .inl Td.kd)), (Td.a1, .inl (cL, Td.N, .inr (.inl Td.nu))), (Td.a2, .inl (cI, Td.N, .inl Td.st)), (Td.a3, .inl (cI, Td.N, .inl Td.ln)), (Td.a4, .inl (cI, Td.N, .inl Td.ki)), (Td.a5, .inl (cI, Td.N, .inl Td.nx)), (Td.a6, .inl (cI, Td.N, .inl Td.ns)), (Td.a7, .inl (cI, Td.N, .inl Td.nl)), (Td.a8, .inl (cI, Td.N, .inl Td.pa)), (Td.a9, .inl (cI, Td.N, .inl Td.pl)), (Td.au, .inl (cC, Td.U, .inl Td.un))]) (w1 := [(mo, .inr (13, MF 30 u2)), (qx, .inl (cB, NN, .inl f))]) hP hD [0, 1] [2, 3, 4, 5, 6, 7, 8, 9, 10, 11, 12, 13] rfl rfl (by decide) (by decide) hk1 hFc hP1 hD1
                  generalize H1 = H at hP hS ⊢
                  have hP : va_P (dC, dI) classes [(t, .inr (12, MF 13 (tw Td))), (Td.a0, .inl (cI, Td.N, .inl Td.kd)), (Td.a1, .inl (cL, Td.N, .inr (.inl Td.nu))), (Td.a2, .inl (cI, Td.N, .inl Td.st)), (Td.a3, .inl (cI, Td.N, .inl Td.ln)), (Td.a4, .inl (cI, Td.N, .inl Td.ki)), (Td.a5, .inl (cI, Td.N, .inl Td.nx)), (Td.a6, .inl (cI, Td.N, .inl Td.ns)), (Td.a7, .inl (cI, Td.N, .inl Td.nl)), (Td.a8, .inl (cI, Td.N, .inl Td.pa)), (Td.a9, .inl (cI, Td.N, .inl Td.pl)), (Td.au, .inl (cC, Td.U, .inl Td.un)), (mo, .inr (13, MF 30 u2)), (qx, .inl (cB, NN, .inl f))] H := hP
                  have hD : va_D A [(t, .inr (12, MF 13 (tw Td))), (Td.a0, .inl (cI, Td.N, .inl Td.kd)), (Td.a1, .inl (cL, Td.N, .inr (.inl Td.nu))), (Td.a2, .inl (cI, Td.N, .inl Td.st)), (Td.a3, .inl (cI, Td.N, .inl Td.ln)), (Td.a4, .inl (cI, Td.N, .inl Td.ki)), (Td.a5, .inl (cI, Td.N, .inl Td.nx)), (Td.a6, .inl (cI, Td.N, .inl Td.ns)), (Td.a7, .inl (cI, Td.N, .inl Td.nl)), (Td.a8, .inl (cI, Td.N, .inl Td.pa)), (Td.a9, .inl (cI, Td.N, .inl Td.pl)), (Td.au, .inl (cC, Td.U, .inl Td.un)), (mo, .inr (13, MF 30 u2)), (qx, .inl (cB, NN, .inl f))] := hD
                  have hP := hP.sub (ws' := [(mo, .inr (13, MF 30 u2)), (qx, .inl (cB, NN, .inl f)), (t, .inr (12, MF 13 (tw Td))), (Td.a0, .inl (cI, Td.N, .inl Td.kd)), (Td.a1, .inl (cL, Td.N, .inr (.inl Td.nu))), (Td.a2, .inl (cI, Td.N, .inl Td.st)), (Td.a3, .inl (cI, Td.N, .inl Td.ln)), (Td.a4, .inl (cI, Td.N, .inl Td.ki)), (Td.a5, .inl (cI, Td.N, .inl Td.nx)), (Td.a6, .inl (cI, Td.N, .inl Td.ns)), (Td.a7, .inl (cI, Td.N, .inl Td.nl)), (Td.a8, .inl (cI, Td.N, .inl Td.pa)), (Td.a9, .inl (cI, Td.N, .inl Td.pl)), (Td.au, .inl (cC, Td.U, .inl Td.un))]) [12, 13, 0, 1, 2, 3, 4, 5, 6, 7, 8, 9, 10, 11] rfl
                  have hD := hD.sub (ws' := [(mo, .inr (13, MF 30 u2)), (qx, .inl (cB, NN, .inl f)), (t, .inr (12, MF 13 (tw Td))), (Td.a0, .inl (cI, Td.N, .inl Td.kd)), (Td.a1, .inl (cL, Td.N, .inr (.inl Td.nu))), (Td.a2, .inl (cI, Td.N, .inl Td.st)), (Td.a3, .inl (cI, Td.N, .inl Td.ln)), (Td.a4, .inl (cI, Td.N, .inl Td.ki)), (Td.a5, .inl (cI, Td.N, .inl Td.nx)), (Td.a6, .inl (cI, Td.N, .inl Td.ns)), (Td.a7, .inl (cI, Td.N, .inl Td.nl)), (Td.a8, .inl (cI, Td.N, .inl Td.pa)), (Td.a9, .inl (cI, Td.N, .inl Td.pl)), (Td.au, .inl (cC, Td.U, .inl Td.un))]) [12, 13, 0, 1, 2, 3, 4, 5, 6, 7, 8, 9, 10, 11] (by decide) rfl
                  rcases hw with ⟨ht1, ht2, ht3⟩ | ⟨ht1, ht2, ht3⟩
                  · rw [rf_u7] at ht3
                    rw [ht3] at hP hD
                    subst ht2
                    have hP : va_P (dC, dI) classes [(mo, .inr (13, MF 30 (rf v (j_Tb + 1) b_Tb))), (qx, .inl (cB, NN, .inl f)), (t, .inr (12, MF 13 (tw Td))), (Td.a0, .inl (cI, Td.N, .inl Td.kd)), (Td.a1, .inl (cL, Td.N, .inr (.inl Td.nu))), (Td.a2, .inl (cI, Td.N, .inl Td.st)), (Td.a3, .inl (cI, Td.N, .inl Td.ln)), (Td.a4, .inl (cI, Td.N, .inl Td.ki)), (Td.a5, .inl (cI, Td.N, .inl Td.nx)), (Td.a6, .inl (cI, Td.N, .inl Td.ns)), (Td.a7, .inl (cI, Td.N, .inl Td.nl)), (Td.a8, .inl (cI, Td.N, .inl Td.pa)), (Td.a9, .inl (cI, Td.N, .inl Td.pl)), (Td.au, .inl (cC, Td.U, .inl Td.un))] H := hP
                    have hD : va_D A [(mo, .inr (13, MF 30 (rf v (j_Tb + 1) b_Tb))), (qx, .inl (cB, NN, .inl f)), (t, .inr (12, MF 13 (tw Td))), (Td.a0, .inl (cI, Td.N, .inl Td.kd)), (Td.a1, .inl (cL, Td.N, .inr (.inl Td.nu))), (Td.a2, .inl (cI, Td.N, .inl Td.st)), (Td.a3, .inl (cI, Td.N, .inl Td.ln)), (Td.a4, .inl (cI, Td.N, .inl Td.ki)), (Td.a5, .inl (cI, Td.N, .inl Td.nx)), (Td.a6, .inl (cI, Td.N, .inl Td.ns)), (Td.a7, .inl (cI, Td.N, .inl Td.nl)), (Td.a8, .inl (cI, Td.N, .inl Td.pa)), (Td.a9, .inl (cI, Td.N, .inl Td.pl)), (Td.au, .inl (cC, Td.U, .inl Td.un))] := hD
                    refine lv_if_ne (tgt := 228) hx hb d_Mo_inside_223 (by decide) (fun _ => ?_) (fun h => absurd h (by decide))
                    refine lv_goto (tgt := 38) hx hb d_Mo_inside_228 (by decide) ?_
                    refine w_same (fun hq => ?_)
                    refine W.widen (k := ncap T (T.ct + (n + 12 - (i + 1))) + qcap T (T.us + (n + 12 - (i + 1)))) (n := 20 * ncap T (T.ct + (n + 12 - (i + 1))) + 2 * qcap T (T.us + (n + 12 - (i + 1)))) hfit_Td.1 hfit_Td.2 ?_
                    have hlt2 := here_in ht1 (by decide)
                    have hst : pIn f n (pV f n r) 123 m0 (j_Tb + 1) (acc ++ [(us9.map c16, x_Tb)]) = pIn f n (pV f n r) 123 (n + 1) (skipH f n (i + 1)) [] := by rw [← hI5, hm0]; exact (pIn_step hNam hVal hncl ht1).symm
                    exact ih (Td, acc ++ [(us9.map c16, x_Tb)], m0, (j_Tb + 1), b_Tb, nI Ta.ct) _ _ _ ⟨hKS2, hTB2, ⟨hTk_Td, hGB_Td⟩, by omega, by omega, by omega, by omega, by omega, hst, hq⟩ (by show n + 1 - (j_Tb + 1) < n + 1 - j; omega) hP hD hS (lv_sub hl [4, 5, 6, 7, 8, 0] rfl)
                  · obtain ⟨b6, h_b6⟩ := rf_fail (v := v) (i := j_Tb) (br := b_Tb) (b2 := b_Tb) (wh := nI j_Tb)
                    rw [h_b6] at ht3
                    rw [ht3] at hP hD
                    subst ht2
                    have hP : va_P (dC, dI) classes [(mo, .inr (13, MF 30 (rf v j_Tb b6))), (qx, .inl (cB, NN, .inl f)), (t, .inr (12, MF 13 (tw Td))), (Td.a0, .inl (cI, Td.N, .inl Td.kd)), (Td.a1, .inl (cL, Td.N, .inr (.inl Td.nu))), (Td.a2, .inl (cI, Td.N, .inl Td.st)), (Td.a3, .inl (cI, Td.N, .inl Td.ln)), (Td.a4, .inl (cI, Td.N, .inl Td.ki)), (Td.a5, .inl (cI, Td.N, .inl Td.nx)), (Td.a6, .inl (cI, Td.N, .inl Td.ns)), (Td.a7, .inl (cI, Td.N, .inl Td.nl)), (Td.a8, .inl (cI, Td.N, .inl Td.pa)), (Td.a9, .inl (cI, Td.N, .inl Td.pl)), (Td.au, .inl (cC, Td.U, .inl Td.un))] H := hP
                    have hD : va_D A [(mo, .inr (13, MF 30 (rf v j_Tb b6))), (qx, .inl (cB, NN, .inl f)), (t, .inr (12, MF 13 (tw Td))), (Td.a0, .inl (cI, Td.N, .inl Td.kd)), (Td.a1, .inl (cL, Td.N, .inr (.inl Td.nu))), (Td.a2, .inl (cI, Td.N, .inl Td.st)), (Td.a3, .inl (cI, Td.N, .inl Td.ln)), (Td.a4, .inl (cI, Td.N, .inl Td.ki)), (Td.a5, .inl (cI, Td.N, .inl Td.nx)), (Td.a6, .inl (cI, Td.N, .inl Td.ns)), (Td.a7, .inl (cI, Td.N, .inl Td.nl)), (Td.a8, .inl (cI, Td.N, .inl Td.pa)), (Td.a9, .inl (cI, Td.N, .inl Td.pl)), (Td.au, .inl (cC, Td.U, .inl Td.un))] := hD
                    refine lv_if_ne (tgt := 228) hx hb d_Mo_inside_223 (by decide) (fun h => absurd h (by decide)) (fun _ => ?_)
                    refine lv_iconst (v := 0) hx hb d_Mo_inside_226 (by decide) ?_
                    have hfin : pInside f n (pV f n r) 123 i = none := by rw [hpi, ← hI5, hm0]; exact pIn_bad hNam hVal hncl ht1
                    refine w_same (fun hq => ?_)
                    refine W.widen (k := ncap T (T.ct + (n + 12 - (i + 1))) + qcap T (T.us + (n + 12 - (i + 1)))) (n := 20 * ncap T (T.ct + (n + 12 - (i + 1))) + 2 * qcap T (T.us + (n + 12 - (i + 1)))) hfit_Td.1 hfit_Td.2 ?_
                    have hTG : TG n (i + 1) T Td := ⟨hTk_Td, hGB_Td⟩
                    exact W.zret (v := 0) hx hb hr rfl (fun t9 ht hW => ⟨⟨0, (Td, j_Tb, b6), rfl, ⟨hTG, Or.inr ⟨rfl, hfin⟩⟩, ⟨by rw [ht]; exact hP, va_K.moved hW.alike hK, hD⟩, by rw [ht]; exact hq.mono (Nat.le_refl _) (Nat.le_refl _)⟩, hS.F ht⟩) hS.2.2 d_Mo_inside_227
                · refine lv_aload_n hx hb d_Mo_inside_205 rfl (lv_at hl 4 rfl) ?_
                  refine lv_dup hx hb d_Mo_inside_206 rfl ?_
                  refine va_get (D := (dC, dI)) (ci := 13) (v := .int (nI j_Tb)) (C := R_Mo) (T := F_Mo) (N := 30) hx hb hts in_Mo hown hK hP 0 rfl rfl 7 (by decide) (hts _ w_1096) (fun _ h9 => h9) (MFg (by decide) rf_7) d_Mo_inside_207 ?_
                  refine lv_iconst (v := 1) hx hb d_Mo_inside_210 (by decide) ?_
                  refine lv_iadd hx hb d_Mo_inside_211 ?_
                  refine W.eq (g2 := F0 m 212 ls [.int (nI (j_Tb + 1)), .ref mo]) (by rw [show ((nI j_Tb) + 1) = (nI (j_Tb + 1)) from nI_1 _]) ?_
                  refine va_put (D := (dC, dI)) (ci := 13) (v := .int (nI (j_Tb + 1))) (ty := .int) (C := R_Mo) (T := F_Mo) (N := 30) hx hb hts in_Mo t_Mo t_Mo_ok n_Mo hown hK hP hD hS 0 rfl rfl 7 (by decide) (hts _ w_1096) (fun _ h9 => h9) rfl (by decide +kernel) rfl rfl (by rw [MFl]; decide) d_Mo_inside_212 (fun H locs hP hD hS => ?_)
                  rw [MFs (n := 30) (k := 7) (by decide)] at hP hD
                  have hP : va_P (dC, dI) classes [(mo, .inr (13, MF 30 (va_up (rf v j_Tb b_Tb) 7 (.int (nI (j_Tb + 1)))))), (qx, .inl (cB, NN, .inl f)), (t, .inr (12, MF 13 (tw Td))), (Td.a0, .inl (cI, Td.N, .inl Td.kd)), (Td.a1, .inl (cL, Td.N, .inr (.inl Td.nu))), (Td.a2, .inl (cI, Td.N, .inl Td.st)), (Td.a3, .inl (cI, Td.N, .inl Td.ln)), (Td.a4, .inl (cI, Td.N, .inl Td.ki)), (Td.a5, .inl (cI, Td.N, .inl Td.nx)), (Td.a6, .inl (cI, Td.N, .inl Td.ns)), (Td.a7, .inl (cI, Td.N, .inl Td.nl)), (Td.a8, .inl (cI, Td.N, .inl Td.pa)), (Td.a9, .inl (cI, Td.N, .inl Td.pl)), (Td.au, .inl (cC, Td.U, .inl Td.un))] H := hP
                  have hD : va_D A [(mo, .inr (13, MF 30 (va_up (rf v j_Tb b_Tb) 7 (.int (nI (j_Tb + 1)))))), (qx, .inl (cB, NN, .inl f)), (t, .inr (12, MF 13 (tw Td))), (Td.a0, .inl (cI, Td.N, .inl Td.kd)), (Td.a1, .inl (cL, Td.N, .inr (.inl Td.nu))), (Td.a2, .inl (cI, Td.N, .inl Td.st)), (Td.a3, .inl (cI, Td.N, .inl Td.ln)), (Td.a4, .inl (cI, Td.N, .inl Td.ki)), (Td.a5, .inl (cI, Td.N, .inl Td.nx)), (Td.a6, .inl (cI, Td.N, .inl Td.ns)), (Td.a7, .inl (cI, Td.N, .inl Td.nl)), (Td.a8, .inl (cI, Td.N, .inl Td.pa)), (Td.a9, .inl (cI, Td.N, .inl Td.pl)), (Td.au, .inl (cC, Td.U, .inl Td.un))] := hD
                  rw [rf_u7] at hP hD
                  have hP : va_P (dC, dI) classes [(mo, .inr (13, MF 30 (rf v (j_Tb + 1) b_Tb))), (qx, .inl (cB, NN, .inl f)), (t, .inr (12, MF 13 (tw Td))), (Td.a0, .inl (cI, Td.N, .inl Td.kd)), (Td.a1, .inl (cL, Td.N, .inr (.inl Td.nu))), (Td.a2, .inl (cI, Td.N, .inl Td.st)), (Td.a3, .inl (cI, Td.N, .inl Td.ln)), (Td.a4, .inl (cI, Td.N, .inl Td.ki)), (Td.a5, .inl (cI, Td.N, .inl Td.nx)), (Td.a6, .inl (cI, Td.N, .inl Td.ns)), (Td.a7, .inl (cI, Td.N, .inl Td.nl)), (Td.a8, .inl (cI, Td.N, .inl Td.pa)), (Td.a9, .inl (cI, Td.N, .inl Td.pl)), (Td.au, .inl (cC, Td.U, .inl Td.un))] H := hP
                  have hD : va_D A [(mo, .inr (13, MF 30 (rf v (j_Tb + 1) b_Tb))), (qx, .inl (cB, NN, .inl f)), (t, .inr (12, MF 13 (tw Td))), (Td.a0, .inl (cI, Td.N, .inl Td.kd)), (Td.a1, .inl (cL, Td.N, .inr (.inl Td.nu))), (Td.a2, .inl (cI, Td.N, .inl Td.st)), (Td.a3, .inl (cI, Td.N, .inl Td.ln)), (Td.a4, .inl (cI, Td.N, .inl Td.ki)), (Td.a5, .inl (cI, Td.N, .inl Td.nx)), (Td.a6, .inl (cI, Td.N, .inl Td.ns)), (Td.a7, .inl (cI, Td.N, .inl Td.nl)), (Td.a8, .inl (cI, Td.N, .inl Td.pa)), (Td.a9, .inl (cI, Td.N, .inl Td.pl)), (Td.au, .inl (cC, Td.U, .inl Td.un))] := hD
                  refine lv_iconst (v := 1) hx hb d_Mo_inside_215 (by decide) ?_
                  have hcl : hereV f n j_Tb = clo 123 := h_r6.symm.trans c202
                  have hlt9 := here_in (h_r6.symm.trans c202) (by decide)
                  have hfin : pInside f n (pV f n r) 123 i = some (acc ++ [(us9.map c16, x_Tb)], j_Tb + 1) := by rw [hpi, ← hI5, hm0]; exact pIn_end hNam hVal hcl
                  refine w_same (fun hq => ?_)
                  refine W.widen (k := ncap T (T.ct + (n + 12 - (i + 1))) + qcap T (T.us + (n + 12 - (i + 1)))) (n := 20 * ncap T (T.ct + (n + 12 - (i + 1))) + 2 * qcap T (T.us + (n + 12 - (i + 1)))) hfit_Td.1 hfit_Td.2 ?_
                  have hTG : TG n (i + 1) T Td := ⟨hTk_Td, hGB_Td⟩
                  exact W.zret (v := 1) hx hb hr rfl (fun t9 ht hW => ⟨⟨1, (Td, (j_Tb + 1), b_Tb), rfl, ⟨hTG, Or.inl ⟨rfl, _, hfin, hKS2.all (by omega), hTB2, by show Td.ct + (i + 1) ≤ T.ct + (j_Tb + 1); omega, by show Td.us + (i + 1) ≤ T.us + (j_Tb + 1); omega, by show j_Tb + 1 ≤ n; omega⟩⟩, ⟨by rw [ht]; exact hP, va_K.moved hW.alike hK, hD⟩, by rw [ht]; exact hq.mono (Nat.le_refl _) (Nat.le_refl _)⟩, hS.F ht⟩) hS.2.2 d_Mo_inside_216
            · subst hv_1
              have hfit_Tb := hGB_Tb.fits
              refine lv_istore (lv' := [(8, .int (-1)), (7, .int (nI us9.length)), (6, .int (nI Tc.us)), (0, .ref mo), (1, .ref t), (2, .int (nI nd)), (3, .int (nI (31 - r))), (4, .int 125), (5, .int bf)]) hx hb d_Mo_inside_149 hl (by decide) rfl (fun ls hl => ?_)
              refine lv_iload hx hb d_Mo_inside_151 (lv_at hl 0 rfl) ?_
              refine lv_if_ge (tgt := 158) hx hb d_Mo_inside_153 (by decide) (fun h => absurd h (by decide)) (fun _ => ?_)
              refine lv_iconst (v := 0) hx hb d_Mo_inside_156 (by decide) ?_
              have hfin : pInside f n (pV f n r) 123 i = none := by rw [hpi, ← hI5, hm0]; exact pIn_v hNam hv_2
              refine w_same (fun hq => ?_)
              refine W.widen (k := ncap T (T.ct + (n + 12 - (i + 1))) + qcap T (T.us + (n + 12 - (i + 1)))) (n := 20 * ncap T (T.ct + (n + 12 - (i + 1))) + 2 * qcap T (T.us + (n + 12 - (i + 1)))) hfit_Tb.1 hfit_Tb.2 ?_
              have hTG : TG n (i + 1) T Tb := ⟨hTk_Tb, hGB_Tb⟩
              exact W.zret (v := 0) hx hb hr rfl (fun t9 ht hW => ⟨⟨0, (Tb, j_Tb, b_Tb), rfl, ⟨hTG, Or.inr ⟨rfl, hfin⟩⟩, ⟨by rw [ht]; exact hP, va_K.moved hW.alike hK, hD⟩, by rw [ht]; exact hq.mono (Nat.le_refl _) (Nat.le_refl _)⟩, hS.F ht⟩) hS.2.2 d_Mo_inside_157
          · obtain ⟨b5, h_b5⟩ := rf_fail (v := v) (i := (skipH f n j_Ta)) (br := b_Ta) (b2 := b_Ta) (wh := nI (skipH f n j_Ta))
            rw [h_b5] at ht3
            rw [ht3] at hP hD
            subst ht2
            have hP : va_P (dC, dI) classes [(mo, .inr (13, MF 30 (rf v (skipH f n j_Ta) b5))), (qx, .inl (cB, NN, .inl f)), (t, .inr (12, MF 13 (tw Ta))), (Ta.a0, .inl (cI, Ta.N, .inl Ta.kd)), (Ta.a1, .inl (cL, Ta.N, .inr (.inl Ta.nu))), (Ta.a2, .inl (cI, Ta.N, .inl Ta.st)), (Ta.a3, .inl (cI, Ta.N, .inl Ta.ln)), (Ta.a4, .inl (cI, Ta.N, .inl Ta.ki)), (Ta.a5, .inl (cI, Ta.N, .inl Ta.nx)), (Ta.a6, .inl (cI, Ta.N, .inl Ta.ns)), (Ta.a7, .inl (cI, Ta.N, .inl Ta.nl)), (Ta.a8, .inl (cI, Ta.N, .inl Ta.pa)), (Ta.a9, .inl (cI, Ta.N, .inl Ta.pl)), (Ta.au, .inl (cC, Ta.U, .inl Ta.un))] H := hP
            have hD : va_D A [(mo, .inr (13, MF 30 (rf v (skipH f n j_Ta) b5))), (qx, .inl (cB, NN, .inl f)), (t, .inr (12, MF 13 (tw Ta))), (Ta.a0, .inl (cI, Ta.N, .inl Ta.kd)), (Ta.a1, .inl (cL, Ta.N, .inr (.inl Ta.nu))), (Ta.a2, .inl (cI, Ta.N, .inl Ta.st)), (Ta.a3, .inl (cI, Ta.N, .inl Ta.ln)), (Ta.a4, .inl (cI, Ta.N, .inl Ta.ki)), (Ta.a5, .inl (cI, Ta.N, .inl Ta.nx)), (Ta.a6, .inl (cI, Ta.N, .inl Ta.ns)), (Ta.a7, .inl (cI, Ta.N, .inl Ta.nl)), (Ta.a8, .inl (cI, Ta.N, .inl Ta.pa)), (Ta.a9, .inl (cI, Ta.N, .inl Ta.pl)), (Ta.au, .inl (cC, Ta.U, .inl Ta.un))] := hD
            refine lv_if_ne (tgt := 141) hx hb d_Mo_inside_136 (by decide) (fun h => absurd h (by decide)) (fun _ => ?_)
            refine lv_iconst (v := 0) hx hb d_Mo_inside_139 (by decide) ?_
            have hfin : pInside f n (pV f n r) 123 i = none := by rw [hpi, ← hI5, hm0]; exact pIn_n (pNam_n4 hq34 hqt_Ta hmem ht1)
            refine w_same (fun hq => ?_)
            refine W.widen (k := ncap T (T.ct + (n + 12 - (i + 1))) + qcap T (T.us + (n + 12 - (i + 1)))) (n := 20 * ncap T (T.ct + (n + 12 - (i + 1))) + 2 * qcap T (T.us + (n + 12 - (i + 1)))) hfit_Ta.1 hfit_Ta.2 ?_
            have hTG : TG n (i + 1) T Ta := ⟨hTk_Ta, hGB_Ta⟩
            exact W.zret (v := 0) hx hb hr rfl (fun t9 ht hW => ⟨⟨0, (Ta, (skipH f n j_Ta), b5), rfl, ⟨hTG, Or.inr ⟨rfl, hfin⟩⟩, ⟨by rw [ht]; exact hP, va_K.moved hW.alike hK, hD⟩, by rw [ht]; exact hq.mono (Nat.le_refl _) (Nat.le_refl _)⟩, hS.F ht⟩) hS.2.2 d_Mo_inside_140
      · have ho_2 : qtQ f n 34 (skipH f n j) = none := ho_2
        have ho_3 : us9.length ≤ n + 12 - (skipH f n j) := ho_3
        have ho_4 : j_Ta ≤ n + 30 := ho_4
        have hqt_Ta := ho_2
        have hTk_Ta := hX_Ta.ok hTk_Tc (by omega)
        have hTk_Ta := hX_Ta.ok hTk_Tc (by omega)
        subst ho_1
        have hfit_Ta := hGB_Ta.fits
        refine lv_if_ne (tgt := 97) hx hb d_Mo_inside_92 (by decide) (fun h => absurd h (by decide)) (fun _ => ?_)
        refine lv_iconst (v := 0) hx hb d_Mo_inside_95 (by decide) ?_
        have hfin : pInside f n (pV f n r) 123 i = none := by rw [hpi, ← hI5, hm0]; exact pIn_n (pNam_n2 hq34 hqt_Ta)
        refine w_same (fun hq => ?_)
        refine W.widen (k := ncap T (T.ct + (n + 12 - (i + 1))) + qcap T (T.us + (n + 12 - (i + 1)))) (n := 20 * ncap T (T.ct + (n + 12 - (i + 1))) + 2 * qcap T (T.us + (n + 12 - (i + 1)))) hfit_Ta.1 hfit_Ta.2 ?_
        have hTG : TG n (i + 1) T Ta := ⟨hTk_Ta, hGB_Ta⟩
        exact W.zret (v := 0) hx hb hr rfl (fun t9 ht hW => ⟨⟨0, (Ta, j_Ta, b_Ta), rfl, ⟨hTG, Or.inr ⟨rfl, hfin⟩⟩, ⟨by rw [ht]; exact hP, va_K.moved hW.alike hK, hD⟩, by rw [ht]; exact hq.mono (Nat.le_refl _) (Nat.le_refl _)⟩, hS.F ht⟩) hS.2.2 d_Mo_inside_96
    · refine lv_aload_n hx hb d_Mo_inside_70 rfl (lv_at hl 3 rfl) ?_
      refine lv_aload_n hx hb d_Mo_inside_71 rfl (lv_at hl 3 rfl) ?_
      refine va_get (D := (dC, dI)) (ci := 13) (v := .int (nI (skipH f n j))) (C := R_Mo) (T := F_Mo) (N := 30) hx hb hts in_Mo hown hK hP 0 rfl rfl 7 (by decide) (hts _ w_1096) (fun _ h9 => h9) (MFg (by decide) rf_7) d_Mo_inside_72 ?_
      have hPc := hP.sub (ws' := [(mo, .inr (13, MF 30 (rf v (skipH f n j) b)))]) [0] rfl
      have hDc := hD.sub (ws' := [(mo, .inr (13, MF 30 (rf v (skipH f n j) b)))]) [0] (by decide) rfl
      have hKc := hK.sub (tys' := []) [] rfl
      have hFc := va_free (wc := [(mo, .inr (13, MF 30 (rf v (skipH f n j) b)))]) hD hS hA [0] rfl
      refine va_calli (va_runV (As := [.int (nI (skipH f n j))]) (rest := []) ⟨hx, hb, hml, hown, hts⟩ (c_Mo_fail l dC dI mo H (rf v (skipH f n j) b) b ((nI (skipH f n j))) rf_9) (cwV 1 hts (gt_V (own := R_Mo) (C := R_Mo) (i := 151) (y := y_Mo_fail) i_Mo_fail w_1250 w_1252 (gt_sel (y := y_Mo_fail) (n := 30) (by decide +kernel)) w_7) rfl rfl rfl (by decide +kernel) ⟨Nat.le_trans (m := 9) (Nat.le_of_ble_eq_true rfl) (Nat.le_add_right 9 (2 * r)), Nat.le_trans (m := 330) (Nat.le_of_ble_eq_true rfl) (Nat.le_add_right 330 (80 * r))⟩) ⟨mp_blind, va_recv hKc hPc (ci := 13) (q0 := 0) rfl rfl, fun U hU hW => ⟨rfl, hU, by rw [hU]; exact hPc, va_K.moved hW.alike hKc, hDc.weaken (fun _ _ _ _ => trivial)⟩⟩ rfl rfl hl.1 rfl (lv_room (Nat.le_of_ble_eq_true rfl)) d_Mo_inside_75 ⟨hfit_Tc.1, hfit_Tc.2⟩) hS (fun q _ h => hFc q h) hFc (fun r0 u2 t9 H1 locs ht hvm hw hB hz1 hk1 hS => ?_)
      obtain ⟨hP1, hK1, hD1⟩ := hB
      rw [ht] at hP1
      obtain ⟨hP, hD⟩ := va_join (wr := [(qx, .inl (cB, NN, .inl f)), (t, .inr (12, MF 13 (tw Tc))), (Tc.a0, .inl (cI, Tc.N, .inl Tc.kd)), (Tc.a1, .inl (cL, Tc.N, .inr (.inl Tc.nu))), (Tc.a2, .inl (cI, Tc.N, .inl Tc.st)), (Tc.a3, .inl (cI, Tc.N, .inl Tc.ln)), (Tc.a4, .inl (cI, Tc.N, .inl Tc.ki)), (Tc.a5, .inl (cI, Tc.N, .inl Tc.nx)), (Tc.a6, .inl (cI, Tc.N, .inl Tc.ns)), (Tc.a7, .inl (cI, Tc.N, .inl Tc.nl)), (Tc.a8, .inl (cI, Tc.N, .inl Tc.pa)), (Tc.a9, .inl (cI, Tc.N, .inl Tc.pl)), (Tc.au, .inl (cC, Tc.U, .inl Tc.un))]) (w1 := [(mo, .inr (13, MF 30 u2))]) hP hD [0] [1, 2, 3, 4, 5, 6, 7, 8, 9, 10, 11, 12, 13] rfl rfl (by decide) (by decide) hk1 hFc hP1 hD1
      generalize H1 = H at hP hS ⊢
      have hP : va_P (dC, dI) classes [(qx, .inl (cB, NN, .inl f)), (t, .inr (12, MF 13 (tw Tc))), (Tc.a0, .inl (cI, Tc.N, .inl Tc.kd)), (Tc.a1, .inl (cL, Tc.N, .inr (.inl Tc.nu))), (Tc.a2, .inl (cI, Tc.N, .inl Tc.st)), (Tc.a3, .inl (cI, Tc.N, .inl Tc.ln)), (Tc.a4, .inl (cI, Tc.N, .inl Tc.ki)), (Tc.a5, .inl (cI, Tc.N, .inl Tc.nx)), (Tc.a6, .inl (cI, Tc.N, .inl Tc.ns)), (Tc.a7, .inl (cI, Tc.N, .inl Tc.nl)), (Tc.a8, .inl (cI, Tc.N, .inl Tc.pa)), (Tc.a9, .inl (cI, Tc.N, .inl Tc.pl)), (Tc.au, .inl (cC, Tc.U, .inl Tc.un)), (mo, .inr (13, MF 30 u2))] H := hP
      have hD : va_D A [(qx, .inl (cB, NN, .inl f)), (t, .inr (12, MF 13 (tw Tc))), (Tc.a0, .inl (cI, Tc.N, .inl Tc.kd)), (Tc.a1, .inl (cL, Tc.N, .inr (.inl Tc.nu))), (Tc.a2, .inl (cI, Tc.N, .inl Tc.st)), (Tc.a3, .inl (cI, Tc.N, .inl Tc.ln)), (Tc.a4, .inl (cI, Tc.N, .inl Tc.ki)), (Tc.a5, .inl (cI, Tc.N, .inl Tc.nx)), (Tc.a6, .inl (cI, Tc.N, .inl Tc.ns)), (Tc.a7, .inl (cI, Tc.N, .inl Tc.nl)), (Tc.a8, .inl (cI, Tc.N, .inl Tc.pa)), (Tc.a9, .inl (cI, Tc.N, .inl Tc.pl)), (Tc.au, .inl (cC, Tc.U, .inl Tc.un)), (mo, .inr (13, MF 30 u2))] := hD
      have hP := hP.sub (ws' := [(mo, .inr (13, MF 30 u2)), (qx, .inl (cB, NN, .inl f)), (t, .inr (12, MF 13 (tw Tc))), (Tc.a0, .inl (cI, Tc.N, .inl Tc.kd)), (Tc.a1, .inl (cL, Tc.N, .inr (.inl Tc.nu))), (Tc.a2, .inl (cI, Tc.N, .inl Tc.st)), (Tc.a3, .inl (cI, Tc.N, .inl Tc.ln)), (Tc.a4, .inl (cI, Tc.N, .inl Tc.ki)), (Tc.a5, .inl (cI, Tc.N, .inl Tc.nx)), (Tc.a6, .inl (cI, Tc.N, .inl Tc.ns)), (Tc.a7, .inl (cI, Tc.N, .inl Tc.nl)), (Tc.a8, .inl (cI, Tc.N, .inl Tc.pa)), (Tc.a9, .inl (cI, Tc.N, .inl Tc.pl)), (Tc.au, .inl (cC, Tc.U, .inl Tc.un))]) [13, 0, 1, 2, 3, 4, 5, 6, 7, 8, 9, 10, 11, 12] rfl
      have hD := hD.sub (ws' := [(mo, .inr (13, MF 30 u2)), (qx, .inl (cB, NN, .inl f)), (t, .inr (12, MF 13 (tw Tc))), (Tc.a0, .inl (cI, Tc.N, .inl Tc.kd)), (Tc.a1, .inl (cL, Tc.N, .inr (.inl Tc.nu))), (Tc.a2, .inl (cI, Tc.N, .inl Tc.st)), (Tc.a3, .inl (cI, Tc.N, .inl Tc.ln)), (Tc.a4, .inl (cI, Tc.N, .inl Tc.ki)), (Tc.a5, .inl (cI, Tc.N, .inl Tc.nx)), (Tc.a6, .inl (cI, Tc.N, .inl Tc.ns)), (Tc.a7, .inl (cI, Tc.N, .inl Tc.nl)), (Tc.a8, .inl (cI, Tc.N, .inl Tc.pa)), (Tc.a9, .inl (cI, Tc.N, .inl Tc.pl)), (Tc.au, .inl (cC, Tc.U, .inl Tc.un))]) [13, 0, 1, 2, 3, 4, 5, 6, 7, 8, 9, 10, 11, 12] (by decide) rfl
      obtain ⟨b7, h_b7⟩ := rf_fail (v := v) (i := (skipH f n j)) (br := b) (b2 := b) (wh := (nI (skipH f n j)))
      have hw : r0 = 0 ∧ u2 = _ := hw
      obtain ⟨hw1, hw2⟩ := hw
      rw [h_b7] at hw2
      rw [hw2] at hP hD
      subst hw1
      have hP : va_P (dC, dI) classes [(mo, .inr (13, MF 30 (rf v (skipH f n j) b7))), (qx, .inl (cB, NN, .inl f)), (t, .inr (12, MF 13 (tw Tc))), (Tc.a0, .inl (cI, Tc.N, .inl Tc.kd)), (Tc.a1, .inl (cL, Tc.N, .inr (.inl Tc.nu))), (Tc.a2, .inl (cI, Tc.N, .inl Tc.st)), (Tc.a3, .inl (cI, Tc.N, .inl Tc.ln)), (Tc.a4, .inl (cI, Tc.N, .inl Tc.ki)), (Tc.a5, .inl (cI, Tc.N, .inl Tc.nx)), (Tc.a6, .inl (cI, Tc.N, .inl Tc.ns)), (Tc.a7, .inl (cI, Tc.N, .inl Tc.nl)), (Tc.a8, .inl (cI, Tc.N, .inl Tc.pa)), (Tc.a9, .inl (cI, Tc.N, .inl Tc.pl)), (Tc.au, .inl (cC, Tc.U, .inl Tc.un))] H := hP
      have hD : va_D A [(mo, .inr (13, MF 30 (rf v (skipH f n j) b7))), (qx, .inl (cB, NN, .inl f)), (t, .inr (12, MF 13 (tw Tc))), (Tc.a0, .inl (cI, Tc.N, .inl Tc.kd)), (Tc.a1, .inl (cL, Tc.N, .inr (.inl Tc.nu))), (Tc.a2, .inl (cI, Tc.N, .inl Tc.st)), (Tc.a3, .inl (cI, Tc.N, .inl Tc.ln)), (Tc.a4, .inl (cI, Tc.N, .inl Tc.ki)), (Tc.a5, .inl (cI, Tc.N, .inl Tc.nx)), (Tc.a6, .inl (cI, Tc.N, .inl Tc.ns)), (Tc.a7, .inl (cI, Tc.N, .inl Tc.nl)), (Tc.a8, .inl (cI, Tc.N, .inl Tc.pa)), (Tc.a9, .inl (cI, Tc.N, .inl Tc.pl)), (Tc.au, .inl (cC, Tc.U, .inl Tc.un))] := hD
      have hfin : pInside f n (pV f n r) 123 i = none := by rw [hpi, ← hI5, hm0]; exact pIn_n (pNam_n1 (fun h => c67 (h_r2.trans h)))
      refine w_same (fun hq => ?_)
      refine W.widen (k := ncap T (T.ct + (n + 12 - (i + 1))) + qcap T (T.us + (n + 12 - (i + 1)))) (n := 20 * ncap T (T.ct + (n + 12 - (i + 1))) + 2 * qcap T (T.us + (n + 12 - (i + 1)))) hfit_Tc.1 hfit_Tc.2 ?_
      have hTG : TG n (i + 1) T Tc := ⟨hTk_Tc, hGB_Tc⟩
      exact W.zret (v := 0) hx hb hr rfl (fun t9 ht hW => ⟨⟨0, (Tc, (skipH f n j), b7), rfl, ⟨hTG, Or.inr ⟨rfl, hfin⟩⟩, ⟨by rw [ht]; exact hP, va_K.moved hW.alike hK, hD⟩, by rw [ht]; exact hq.mono (Nat.le_refl _) (Nat.le_refl _)⟩, hS.F ht⟩) hS.2.2 d_Mo_inside_78
  · refine lv_aload_n hx hb d_Mo_inside_23 rfl (lv_at hl 0 rfl) ?_
    refine lv_dup hx hb d_Mo_inside_24 rfl ?_
    refine va_get (D := (dC, dI)) (ci := 13) (v := .int (nI (skipH f n (i + 1)))) (C := R_Mo) (T := F_Mo) (N := 30) hx hb hts in_Mo hown hK hP 0 rfl rfl 7 (by decide) (hts _ w_1096) (fun _ h9 => h9) (MFg (by decide) rf_7) d_Mo_inside_25 ?_
    refine lv_iconst (v := 1) hx hb d_Mo_inside_28 (by decide) ?_
    refine lv_iadd hx hb d_Mo_inside_29 ?_
    refine W.eq (g2 := F0 m 30 ls [.int (nI ((skipH f n (i + 1)) + 1)), .ref mo]) (by rw [show ((nI (skipH f n (i + 1))) + 1) = (nI ((skipH f n (i + 1)) + 1)) from nI_1 _]) ?_
    refine va_put (D := (dC, dI)) (ci := 13) (v := .int (nI ((skipH f n (i + 1)) + 1))) (ty := .int) (C := R_Mo) (T := F_Mo) (N := 30) hx hb hts in_Mo t_Mo t_Mo_ok n_Mo hown hK hP hD hS 0 rfl rfl 7 (by decide) (hts _ w_1096) (fun _ h9 => h9) rfl (by decide +kernel) rfl rfl (by rw [MFl]; decide) d_Mo_inside_30 (fun H locs hP hD hS => ?_)
    rw [MFs (n := 30) (k := 7) (by decide)] at hP hD
    have hP : va_P (dC, dI) classes [(mo, .inr (13, MF 30 (va_up (rf v (skipH f n (i + 1)) br) 7 (.int (nI ((skipH f n (i + 1)) + 1)))))), (qx, .inl (cB, NN, .inl f)), (t, .inr (12, MF 13 (tw T))), (T.a0, .inl (cI, T.N, .inl T.kd)), (T.a1, .inl (cL, T.N, .inr (.inl T.nu))), (T.a2, .inl (cI, T.N, .inl T.st)), (T.a3, .inl (cI, T.N, .inl T.ln)), (T.a4, .inl (cI, T.N, .inl T.ki)), (T.a5, .inl (cI, T.N, .inl T.nx)), (T.a6, .inl (cI, T.N, .inl T.ns)), (T.a7, .inl (cI, T.N, .inl T.nl)), (T.a8, .inl (cI, T.N, .inl T.pa)), (T.a9, .inl (cI, T.N, .inl T.pl)), (T.au, .inl (cC, T.U, .inl T.un))] H := hP
    have hD : va_D A [(mo, .inr (13, MF 30 (va_up (rf v (skipH f n (i + 1)) br) 7 (.int (nI ((skipH f n (i + 1)) + 1)))))), (qx, .inl (cB, NN, .inl f)), (t, .inr (12, MF 13 (tw T))), (T.a0, .inl (cI, T.N, .inl T.kd)), (T.a1, .inl (cL, T.N, .inr (.inl T.nu))), (T.a2, .inl (cI, T.N, .inl T.st)), (T.a3, .inl (cI, T.N, .inl T.ln)), (T.a4, .inl (cI, T.N, .inl T.ki)), (T.a5, .inl (cI, T.N, .inl T.nx)), (T.a6, .inl (cI, T.N, .inl T.ns)), (T.a7, .inl (cI, T.N, .inl T.nl)), (T.a8, .inl (cI, T.N, .inl T.pa)), (T.a9, .inl (cI, T.N, .inl T.pl)), (T.au, .inl (cC, T.U, .inl T.un))] := hD
    rw [rf_u7] at hP hD
    have hP : va_P (dC, dI) classes [(mo, .inr (13, MF 30 (rf v ((skipH f n (i + 1)) + 1) br))), (qx, .inl (cB, NN, .inl f)), (t, .inr (12, MF 13 (tw T))), (T.a0, .inl (cI, T.N, .inl T.kd)), (T.a1, .inl (cL, T.N, .inr (.inl T.nu))), (T.a2, .inl (cI, T.N, .inl T.st)), (T.a3, .inl (cI, T.N, .inl T.ln)), (T.a4, .inl (cI, T.N, .inl T.ki)), (T.a5, .inl (cI, T.N, .inl T.nx)), (T.a6, .inl (cI, T.N, .inl T.ns)), (T.a7, .inl (cI, T.N, .inl T.nl)), (T.a8, .inl (cI, T.N, .inl T.pa)), (T.a9, .inl (cI, T.N, .inl T.pl)), (T.au, .inl (cC, T.U, .inl T.un))] H := hP
    have hD : va_D A [(mo, .inr (13, MF 30 (rf v ((skipH f n (i + 1)) + 1) br))), (qx, .inl (cB, NN, .inl f)), (t, .inr (12, MF 13 (tw T))), (T.a0, .inl (cI, T.N, .inl T.kd)), (T.a1, .inl (cL, T.N, .inr (.inl T.nu))), (T.a2, .inl (cI, T.N, .inl T.st)), (T.a3, .inl (cI, T.N, .inl T.ln)), (T.a4, .inl (cI, T.N, .inl T.ki)), (T.a5, .inl (cI, T.N, .inl T.nx)), (T.a6, .inl (cI, T.N, .inl T.ns)), (T.a7, .inl (cI, T.N, .inl T.nl)), (T.a8, .inl (cI, T.N, .inl T.pa)), (T.a9, .inl (cI, T.N, .inl T.pl)), (T.au, .inl (cC, T.U, .inl T.un))] := hD
    refine lv_iconst (v := 1) hx hb d_Mo_inside_33 (by decide) ?_
    have hlt9 := here_in (h_r1.symm.trans c20) (by decide)
    refine w_same (fun hq => ?_)
    refine W.widen (k := ncap T (T.ct + (n + 12 - (i + 1))) + qcap T (T.us + (n + 12 - (i + 1)))) (n := 20 * ncap T (T.ct + (n + 12 - (i + 1))) + 2 * qcap T (T.us + (n + 12 - (i + 1)))) (Nat.zero_le _) (Nat.zero_le _) ?_
    have hTG : TG n (i + 1) T T := ⟨hT0, GB.rf⟩
    exact W.zret (v := 1) hx hb hr rfl (fun t9 ht hW => ⟨⟨1, (T, ((skipH f n (i + 1)) + 1), br), rfl, ⟨hTG, Or.inl ⟨rfl, [], by unfold pInside; rw [show clo 123 = 125 from by decide, if_pos (h_r1.symm.trans c20)], hki0, TB.rf, by show T.ct + (i + 1) ≤ T.ct + ((skipH f n (i + 1)) + 1); omega, by show T.us + (i + 1) ≤ T.us + ((skipH f n (i + 1)) + 1); omega, by show ((skipH f n (i + 1)) + 1) ≤ n; omega⟩⟩, ⟨by rw [ht]; exact hP, va_K.moved hW.alike hK, hD⟩, by rw [ht]; exact hq.mono (Nat.zero_le _) (Nat.zero_le _)⟩, hS.F ht⟩) hS.2.2 d_Mo_inside_34
