theorem w_1419 : (.methodLink "QueryBenchModel" 279 ⟨"QueryBenchModel", "selectors", "(IIZ)Z"⟩ : Cond) ∈ gtbl := gt_in 1419 (by decide +kernel) (by decide +kernel)
theorem w_1421 : (.instanceMethod ⟨"QueryBenchModel", "selectors", "(IIZ)Z"⟩ : Cond) ∈ gtbl := gt_in 1421 (by decide +kernel) (by decide +kernel)
theorem w_1478 : (.methodLink "QueryBenchModel" 283 ⟨"QueryBenchModel", "letter", "(I)Z"⟩ : Cond) ∈ gtbl := gt_in 1478 (by decide +kernel) (by decide +kernel)
theorem w_1479 : (.static ⟨"QueryBenchModel", "letter", "(I)Z"⟩ : Cond) ∈ gtbl := gt_in 1479 (by decide +kernel) (by decide +kernel)
/-- a segment begun at row R0 for the query of row y: fl says whether it may still have one node at most, ds whether it descends -/
def SGi (Q0 : QS) (V0 : TS) (R0 y : Nat) (Q : QS) (V : TS) (fl ds : Bool) : Prop := Q.R = R0 + 1 ∧ Q.qf (8 * R0 + 1) = (if ds = true then 1 else 0) ∧ Q.qf (8 * R0 + 2) = -1 ∧ Q.qf (8 * R0 + 3) = -1 ∧ al3 Q0 V0 Q V R0 y ∧ Q.qf (8 * y + 3) = (if fl = true then Q0.qf (8 * y + 3) else 0)
theorem SGi.st {Q0 Q1 Q : QS} {V0 : TS} {y : Nat} (hy : y < Q0.R) (hR : Q.R = Q0.R + 1) (h1 : alr Q0 V0 Q1 V0 0 Q0.R) (h2 : ∀ j : Nat, 0 < j → j < 8 → Q1.qf (8 * Q0.R + j) = -1) (h : Q.qf = upd Q1.qf (8 * Q0.R + 1) 0) (he : Q.ef = Q1.ef) : SGi Q0 V0 Q0.R y Q V0 true false := by
  refine ⟨hR, ?_, ?_, ?_, ⟨fun r k hr hk _ => ?_, h1.2.tr (EUk.ef he)⟩, ?_⟩
  · rw [h]; exact pk_us
  · rw [h, pk_un (by omega)]; exact h2 2 (by decide) (by decide)
  · rw [h, pk_un (by omega)]; exact h2 3 (by decide) (by decide)
  · rw [h, pk_un (by omega)]; exact h1.1 r k (Nat.zero_le _) hr hk
  · rw [h, pk_un (by omega), if_pos rfl]; exact h1.1 y 3 (Nat.zero_le _) hy (by decide)
theorem SGi.dd {Q0 Q Q4 Q5 : QS} {V0 V : TS} {R0 y : Nat} {fl ds : Bool} (h : SGi Q0 V0 R0 y Q V fl ds) (hy : y < R0) (e4 : Q4.qf = upd Q.qf (8 * R0 + 1) 1) (f4 : Q4.ef = Q.ef) (e5 : Q5.qf = upd Q4.qf (8 * y + 3) 0) (f5 : Q5.ef = Q4.ef) (hR : Q5.R = Q.R) : SGi Q0 V0 R0 y Q5 V false true := by
  obtain ⟨h1, h2, h3, h4, h5, h6⟩ := h
  rw [e4] at e5
  refine ⟨by omega, ?_, ?_, ?_, ⟨fun r k hr hk he => ?_, h5.2.tr (EUk.ef (f5.trans f4))⟩, ?_⟩
  · rw [e5, pk_un (by omega), pk_us, if_pos rfl]
  · rw [e5, pk_un (by omega), pk_un (by omega)]; exact h3
  · rw [e5, pk_un (by omega), pk_un (by omega)]; exact h4
  · rw [e5, pk_un (by omega), pk_un (by omega)]; exact h5.1 r k hr hk he
  · rw [e5, pk_us, if_neg (by decide)]
/-- what a segment leaves -/
def SGf (O : QP CT) (Q0 : QS) (V0 : TS) (R0 y : Nat) (Q : QS) (V : TS) (fl : Bool) (m : QT) : Prop := SEGp O Q V R0 Q.R R0 m ∧ Q.qf (8 * R0 + 3) = -1 ∧ al3 Q0 V0 Q V R0 y ∧ Q.qf (8 * y + 3) = (if fl = true then Q0.qf (8 * y + 3) else 0)
theorem ds_m {ds : Bool} {x : Int32} (h : x = (if ds = true then 1 else 0)) : (x = 0 ∨ x = 1) ∧ decide (x = 1) = ds := by
  cases ds with
  | false => rw [if_neg (by decide)] at h; rw [h]; decide
  | true => rw [if_pos rfl] at h; rw [h]; decide
theorem SGi.sls {O : QP CT} {Q0 Q Q2 : QS} {V0 V V2 : TS} {R0 y : Nat} {fl fl1 ds : Bool} {l : List QT} (h : SGi Q0 V0 R0 y Q V fl ds) (hy : y < R0) (hR : Q.R ≤ Q2.R) (hC : CHn 1 (SELp O) Q2 V2 Q2.R (-1) l Q.R (Q2.qf (8 * R0 + 2))) (hE : ∀ r k : Nat, r < Q.R → k < 8 → ¬ (r = R0 ∧ k = 2) → ¬ (r = y ∧ k = 3) → Q2.qf (8 * r + k) = Q.qf (8 * r + k)) (h3 : Q2.qf (8 * y + 3) = (if fl1 = true then Q.qf (8 * y + 3) else 0)) (hU : EUk Q V Q2 V2 0 Q.R) : SGf O Q0 V0 R0 y Q2 V2 (fl && fl1) (segS ds l) := by
  obtain ⟨g1, g2, g3, g4, g5, g6⟩ := h
  have hds := ds_m ((hE R0 1 (by omega) (by decide) (by omega) (by omega)).trans g2)
  refine ⟨⟨Nat.le_refl _, by omega, hds.1, l, by rw [← g1]; exact hC, by rw [hds.2]⟩, ?_, ⟨fun r k hr hk he => ?_, g5.2.tr (hU.sub (Nat.le_refl _) (by omega))⟩, ?_⟩
  · rw [hE R0 3 (by omega) (by decide) (by omega) (by omega)]; exact g4
  · rw [hE r k (by omega) hk (by omega) he]; exact g5.1 r k hr hk he
  · rw [h3, g6]; cases fl <;> cases fl1 <;> rfl
theorem SGi.fin {O : QP CT} {Q0 Q Q2 : QS} {V0 V V2 : TS} {R0 y : Nat} {fl c ds : Bool} {m : QT} (h : SGi Q0 V0 R0 y Q V fl ds) (hy : y < R0) (hR2 : Q2.R = R0 + 2) (hS : SELp O Q2 V2 (R0 + 1) (R0 + 2) (R0 + 1) m) (hl : Q2.qf (8 * (R0 + 1) + 1) = -1) (h2 : Q2.qf (8 * R0 + 2) = nI (R0 + 1)) (hE : ∀ r k : Nat, r < R0 + 1 → k < 8 → ¬ (r = R0 ∧ k = 2) → ¬ (r = y ∧ k = 3) → Q2.qf (8 * r + k) = Q.qf (8 * r + k)) (h3 : Q2.qf (8 * y + 3) = (if c = true then Q0.qf (8 * y + 3) else 0)) (hU : EUk Q V Q2 V2 0 (R0 + 1)) : SGf O Q0 V0 R0 y Q2 V2 c (segS ds [m]) := by
  obtain ⟨g1, g2, g3, g4, g5, g6⟩ := h
  have hds := ds_m ((hE R0 1 (by omega) (by decide) (by omega) (by omega)).trans g2)
  refine ⟨⟨Nat.le_refl _, by omega, hds.1, [m], ⟨R0 + 1, R0 + 1, R0 + 2, h2, Nat.le_refl _, by omega, hS, hl⟩, by rw [hds.2]⟩, ?_, ⟨fun r k hr hk he => ?_, g5.2.tr (hU.sub (Nat.le_refl _) (by omega))⟩, h3⟩
  · rw [hE R0 3 (by omega) (by decide) (by omega) (by omega)]; exact g4
  · rw [hE r k (by omega) hk (by omega) he]; exact g5.1 r k hr hk he
/-- a segment that is one selector of kind kd: its row is the next -/
theorem SGi.star {O : QP CT} {Q0 Q Q1 Qb Q3 : QS} {V0 V : TS} {R0 y : Nat} {fl ds : Bool} (h : SGi Q0 V0 R0 y Q V fl ds) (hy : y < R0) (hR2 : Q3.R = Q.R + 1) (h1 : alr Q V Q1 V 0 Q.R) (h0 : Q1.qf (8 * Q.R) = 2) (h2 : ∀ j : Nat, 0 < j → j < 8 → Q1.qf (8 * Q.R + j) = -1) (eb : Qb.qf = upd Q1.qf (8 * R0 + 2) (nI Q.R)) (fb : Qb.ef = Q1.ef) (e3 : Q3.qf = upd Qb.qf (8 * y + 3) 0) (f3 : Q3.ef = Qb.ef) : SGf O Q0 V0 R0 y Q3 V false (segS ds [eachS]) := by
  have g1 := h.1
  rw [eb] at e3
  rw [g1] at e3 h0 h2 hR2
  refine SGi.fin h hy (by omega) ⟨Nat.le_refl _, by omega, Or.inr (Or.inl ⟨?_, rfl⟩)⟩ ?_ ?_ (fun r k hr hk he hf => ?_) ?_ ((h1.2.sub (Nat.le_refl _) (by omega)).tr (EUk.ef (f3.trans fb)))
  · rw [e3, pk_un (by omega), pk_un (by omega)]; exact h0
  · rw [e3, pk_un (by omega), pk_un (by omega)]; exact h2 1 (by decide) (by decide)
  · rw [e3, pk_un (by omega), pk_us]
  · rw [e3, pk_un (by omega), pk_un (by omega)]; exact h1.1 r k (Nat.zero_le _) (by omega) hk
  · rw [e3, pk_us, if_neg (by decide)]
theorem SGi.name {O : QP CT} {Q0 Q Q1 Q2 Q3 Q4 : QS} {V0 V V2 : TS} {R0 y st ln : Nat} {fl ds : Bool} {t : List Int32} (h : SGi Q0 V0 R0 y Q V fl ds) (hy : y < R0) (hR2 : Q4.R = Q.R + 1) (h1 : alr Q V Q1 V 0 Q.R) (h0 : Q1.qf (8 * Q.R) = 1) (h2 : ∀ j : Nat, 0 < j → j < 8 → Q1.qf (8 * Q.R + j) = -1) (e2 : Q2.qf = upd Q1.qf (8 * Q.R + 2) (nI st)) (f2 : Q2.ef = Q1.ef) (e3 : Q3.qf = upd Q2.qf (8 * Q.R + 3) (nI ln)) (f3 : Q3.ef = Q2.ef) (e4 : Q4.qf = upd Q3.qf (8 * R0 + 2) (nI Q.R)) (f4 : Q4.ef = Q3.ef) (hV : V.us ≤ V2.us ∧ ∀ j : Nat, j < V.us → V2.un j = V.un j) (hu : st + ln ≤ V2.us) (ht : sl V2.un st ln = t) : SGf O Q0 V0 R0 y Q4 V2 fl (segS ds [namS t]) := by
  have g1 := h.1
  have g6 := h.2.2.2.2.2
  rw [e3, e2] at e4
  rw [g1] at e4 h0 h2 hR2
  have hU : EUk Q V Q4 V2 0 (R0 + 1) := ⟨fun r k r1 r2 hk => by rw [f4, f3, f2]; exact h1.2.1 r k r1 (by omega) hk, hV⟩
  refine SGi.fin h hy (by omega) ⟨Nat.le_refl _, by omega, Or.inl ⟨?_, t, ⟨st, ln, ?_, ?_, hu, ht⟩, rfl⟩⟩ ?_ ?_ (fun r k hr hk he hf => ?_) ?_ hU
  · rw [e4, pk_un (by omega), pk_un (by omega), pk_un (by omega)]; exact h0
  · rw [e4, pk_un (by omega), pk_un (by omega), pk_us]
  · rw [e4, pk_un (by omega), pk_us]
  · rw [e4, pk_un (by omega), pk_un (by omega), pk_un (by omega)]; exact h2 1 (by decide) (by decide)
  · rw [e4, pk_us]
  · rw [e4, pk_un (by omega), pk_un (by omega), pk_un (by omega)]; exact h1.1 r k (Nat.zero_le _) (by omega) hk
  · rw [e4, pk_un (by omega), pk_un (by omega), pk_un (by omega), h1.1 y 3 (Nat.zero_le _) (by omega) (by decide)]; exact g6
section
variable {f : Nat → Int32} {n : Nat} {ok : Bool} {orL : Nat → Option (Nat × CT)} {sg : Bool} {i : Nat}
theorem sgP_a (h : ¬ hereV f n i = 46) : sgP f n ok orL sg i = (slsP f n ok orL sg i).map (fun p => (p.1, p.2.1, segS false p.2.2)) := by unfold sgP; rw [if_neg h]
theorem sgP_b (h : hereV f n i = 46) (h2 : hereV f n (i + 1) = 46 ∧ sg = false) (h3 : hereV f n (i + 2) = 91) : sgP f n ok orL sg i = (slsP f n ok orL sg (i + 2)).map (fun p => (p.1, false, segS true p.2.2)) := by unfold sgP; rw [if_pos h, if_pos h2, if_pos h3]
theorem sgP_c (h : hereV f n i = 46) (h2 : hereV f n (i + 1) = 46 ∧ sg = false) (h3 : ¬ hereV f n (i + 2) = 91) : sgP f n ok orL sg i = sgN f n sg (i + 2) false true := by unfold sgP; rw [if_pos h, if_pos h2, if_neg h3]
theorem sgP_d (h : hereV f n i = 46) (h2 : ¬ (hereV f n (i + 1) = 46 ∧ sg = false)) : sgP f n ok orL sg i = sgN f n sg (i + 1) true false := by unfold sgP; rw [if_pos h, if_neg h2]
theorem nmE_s {k j : Nat} (h : letH (hereV f n j) ∨ digH (hereV f n j)) : nmE f n (k + 1) j = nmE f n k (j + 1) := by simp only [nmE]; rw [if_pos h]
theorem nmE_e {k j : Nat} (h : ¬ (letH (hereV f n j) ∨ digH (hereV f n j))) : nmE f n (k + 1) j = j := by simp only [nmE]; rw [if_neg h]
theorem nmT_0 {j : Nat} : nmT_ f n j j = [] := by unfold nmT_; rw [Nat.sub_self]; rfl
theorem nmT_s {i j : Nat} (h : i ≤ j) : nmT_ f n i (j + 1) = nmT_ f n i j ++ [hereV f n j] := by
  unfold nmT_
  rw [show j + 1 - i = (j - i) + 1 by omega, List.range_succ, List.map_append]
  show _ ++ [hereV f n (i + (j - i))] = _
  rw [show i + (j - i) = j by omega]
theorem letdig_b {x : Int32} (h : letH x ∨ digH x) : 0 ≤ x ∧ x ≤ 126 := by
  rcases h with h | h
  · rcases h with h | h | h
    · exact ⟨Int32.le_trans (by decide) (Int32.not_lt.mp h.1), Int32.le_trans h.2 (by decide)⟩
    · exact ⟨Int32.le_trans (by decide) (Int32.not_lt.mp h.1), Int32.le_trans h.2 (by decide)⟩
    · rw [h]; decide
  · exact ⟨Int32.le_trans (by decide) h.1, Int32.le_trans h.2 (by decide)⟩
end
def SGo (f : Nat → Int32) (ok : Bool) (orL : Nat → Option (Nat × CT)) (O : QP CT) (sg : Bool) (n i o y : Nat) (Q : QS) (V : TS) (res : Int32) (u : QS × TS × Nat × Int32 × Nat) : Prop := QPo n i 8 Q V u ∧ ((∃ fl m, res = nI Q.R ∧ sgP f n ok orL sg i = some (u.2.2.1, fl, m) ∧ SGf O Q V Q.R y u.1 u.2.1 fl m ∧ u.1.R + 8 * i + 7 ≤ Q.R + 8 * u.2.2.1 ∧ u.2.1.us + i ≤ V.us + u.2.2.1 ∧ u.2.2.1 ≤ n ∧ Q.R < u.1.R ∧ u.2.2.2.2 = o) ∨ (res = -1 ∧ sgP f n ok orL sg i = none))
theorem uq_fit {BN BU : Nat} {Q Q1 : QS} {V V1 : TS} (h : GQ BN BU Q V Q1 V1) (hB : V1.us + 1 ≤ BU) : cQ Q V Q1 V1 + grC V1.U V1.us ≤ kcap Q BN + qcap V BU ∧ sQ Q V Q1 V1 + grS V1.U V1.us ≤ 22 * kcap Q BN + 2 * qcap V BU := by
  have h9 := h.stepQ (C2 := V1.us + 1) hB
  have e1 : grC V1.U V1.us ≤ qcap V1 (V1.us + 1) := by unfold grC qcap; split <;> omega
  have e2 : grS V1.U V1.us ≤ 2 * qcap V1 (V1.us + 1) := by unfold grS qcap; split <;> omega
  omega
theorem lt_01 {x r : Int32} (h : r = if letH x then 1 else 0) : (¬ r = 0 → letH x) ∧ (r = 0 → ¬ letH x) := by
  constructor
  · intro h0
    exact Classical.byContradiction (fun hn => h0 (by rw [h, if_neg hn]))
  · intro h0 hd
    rw [h, if_pos hd] at h0
    exact absurd h0 (by decide)
theorem letH_lt {f : Nat → Int32} {n i : Nat} (h : letH (hereV f n i)) : i < n := Classical.byContradiction (fun hn => by unfold hereV at h; rw [if_neg hn] at h; revert h; decide)
abbrev b_Mo_segment : ByteArray := prog_14_method_40_code
def y_Mo_segment : MethodName := ⟨"QueryBenchModel", "segment", "(IZ)I"⟩
abbrev k_Mo_segment : Cond := .code y_Mo_segment b_Mo_segment 5 (some .int)
theorem i_Mo_segment : k_Mo_segment ∈ gtbl := gt_in 1418 (by decide +kernel) (by decide +kernel)
theorem d_Mo_segment_0 : decode b_Mo_segment 0 = .ok (.aload_n 0, 1) := by decide +kernel
theorem d_Mo_segment_1 : decode b_Mo_segment 1 = .ok (.bipush 21, 2) := by decide +kernel
theorem d_Mo_segment_3 : decode b_Mo_segment 3 = .ok (.invokevirtual 269, 3) := by decide +kernel
theorem d_Mo_segment_6 : decode b_Mo_segment 6 = .ok (.istore_n 3, 1) := by decide +kernel
theorem d_Mo_segment_7 : decode b_Mo_segment 7 = .ok (.aload_n 0, 1) := by decide +kernel
theorem d_Mo_segment_8 : decode b_Mo_segment 8 = .ok (.iload_n 3, 1) := by decide +kernel
theorem d_Mo_segment_9 : decode b_Mo_segment 9 = .ok (.iconst 1, 1) := by decide +kernel
theorem d_Mo_segment_10 : decode b_Mo_segment 10 = .ok (.iconst 0, 1) := by decide +kernel
theorem d_Mo_segment_11 : decode b_Mo_segment 11 = .ok (.invokevirtual 272, 3) := by decide +kernel
theorem d_Mo_segment_14 : decode b_Mo_segment 14 = .ok (.aload_n 0, 1) := by decide +kernel
theorem d_Mo_segment_15 : decode b_Mo_segment 15 = .ok (.invokevirtual 147, 3) := by decide +kernel
theorem d_Mo_segment_18 : decode b_Mo_segment 18 = .ok (.bipush 46, 2) := by decide +kernel
theorem d_Mo_segment_20 : decode b_Mo_segment 20 = .ok (.if_icmp .ne 236, 3) := by decide +kernel
theorem d_Mo_segment_23 : decode b_Mo_segment 23 = .ok (.aload_n 0, 1) := by decide +kernel
theorem d_Mo_segment_24 : decode b_Mo_segment 24 = .ok (.dup, 1) := by decide +kernel
theorem d_Mo_segment_25 : decode b_Mo_segment 25 = .ok (.getfield 135, 3) := by decide +kernel
theorem d_Mo_segment_28 : decode b_Mo_segment 28 = .ok (.iconst 1, 1) := by decide +kernel
theorem d_Mo_segment_29 : decode b_Mo_segment 29 = .ok (.iadd, 1) := by decide +kernel
theorem d_Mo_segment_30 : decode b_Mo_segment 30 = .ok (.putfield 135, 3) := by decide +kernel
theorem d_Mo_segment_33 : decode b_Mo_segment 33 = .ok (.aload_n 0, 1) := by decide +kernel
theorem d_Mo_segment_34 : decode b_Mo_segment 34 = .ok (.invokevirtual 147, 3) := by decide +kernel
theorem d_Mo_segment_37 : decode b_Mo_segment 37 = .ok (.bipush 46, 2) := by decide +kernel
theorem d_Mo_segment_39 : decode b_Mo_segment 39 = .ok (.if_icmp .ne 56, 3) := by decide +kernel
theorem d_Mo_segment_42 : decode b_Mo_segment 42 = .ok (.iload_n 2, 1) := by decide +kernel
theorem d_Mo_segment_43 : decode b_Mo_segment 43 = .ok (.ifCond .ne 52, 3) := by decide +kernel
theorem d_Mo_segment_46 : decode b_Mo_segment 46 = .ok (.aload_n 0, 1) := by decide +kernel
theorem d_Mo_segment_47 : decode b_Mo_segment 47 = .ok (.dup, 1) := by decide +kernel
theorem d_Mo_segment_48 : decode b_Mo_segment 48 = .ok (.getfield 135, 3) := by decide +kernel
theorem d_Mo_segment_51 : decode b_Mo_segment 51 = .ok (.iconst 1, 1) := by decide +kernel
theorem d_Mo_segment_52 : decode b_Mo_segment 52 = .ok (.iadd, 1) := by decide +kernel
theorem d_Mo_segment_53 : decode b_Mo_segment 53 = .ok (.putfield 135, 3) := by decide +kernel
theorem d_Mo_segment_56 : decode b_Mo_segment 56 = .ok (.aload_n 0, 1) := by decide +kernel
theorem d_Mo_segment_57 : decode b_Mo_segment 57 = .ok (.iload_n 3, 1) := by decide +kernel
theorem d_Mo_segment_58 : decode b_Mo_segment 58 = .ok (.iconst 1, 1) := by decide +kernel
theorem d_Mo_segment_59 : decode b_Mo_segment 59 = .ok (.iconst 1, 1) := by decide +kernel
theorem d_Mo_segment_60 : decode b_Mo_segment 60 = .ok (.invokevirtual 272, 3) := by decide +kernel
theorem d_Mo_segment_63 : decode b_Mo_segment 63 = .ok (.aload_n 0, 1) := by decide +kernel
theorem d_Mo_segment_64 : decode b_Mo_segment 64 = .ok (.iload_n 1, 1) := by decide +kernel
theorem d_Mo_segment_65 : decode b_Mo_segment 65 = .ok (.iconst 3, 1) := by decide +kernel
theorem d_Mo_segment_66 : decode b_Mo_segment 66 = .ok (.iconst 0, 1) := by decide +kernel
theorem d_Mo_segment_67 : decode b_Mo_segment 67 = .ok (.invokevirtual 272, 3) := by decide +kernel
theorem d_Mo_segment_70 : decode b_Mo_segment 70 = .ok (.aload_n 0, 1) := by decide +kernel
theorem d_Mo_segment_71 : decode b_Mo_segment 71 = .ok (.invokevirtual 147, 3) := by decide +kernel
theorem d_Mo_segment_74 : decode b_Mo_segment 74 = .ok (.bipush 91, 2) := by decide +kernel
theorem d_Mo_segment_76 : decode b_Mo_segment 76 = .ok (.if_icmp .ne 19, 3) := by decide +kernel
theorem d_Mo_segment_79 : decode b_Mo_segment 79 = .ok (.aload_n 0, 1) := by decide +kernel
theorem d_Mo_segment_80 : decode b_Mo_segment 80 = .ok (.iload_n 1, 1) := by decide +kernel
theorem d_Mo_segment_81 : decode b_Mo_segment 81 = .ok (.iload_n 3, 1) := by decide +kernel
theorem d_Mo_segment_82 : decode b_Mo_segment 82 = .ok (.iload_n 2, 1) := by decide +kernel
theorem d_Mo_segment_83 : decode b_Mo_segment 83 = .ok (.invokevirtual 279, 3) := by decide +kernel
theorem d_Mo_segment_86 : decode b_Mo_segment 86 = .ok (.ifCond .eq 7, 3) := by decide +kernel
theorem d_Mo_segment_89 : decode b_Mo_segment 89 = .ok (.iload_n 3, 1) := by decide +kernel
theorem d_Mo_segment_90 : decode b_Mo_segment 90 = .ok (.goto 4, 3) := by decide +kernel
theorem d_Mo_segment_93 : decode b_Mo_segment 93 = .ok (.iconst (-1), 1) := by decide +kernel
theorem d_Mo_segment_94 : decode b_Mo_segment 94 = .ok (.ireturn, 1) := by decide +kernel
theorem d_Mo_segment_95 : decode b_Mo_segment 95 = .ok (.aload_n 0, 1) := by decide +kernel
theorem d_Mo_segment_96 : decode b_Mo_segment 96 = .ok (.invokevirtual 147, 3) := by decide +kernel
theorem d_Mo_segment_99 : decode b_Mo_segment 99 = .ok (.bipush 42, 2) := by decide +kernel
theorem d_Mo_segment_101 : decode b_Mo_segment 101 = .ok (.if_icmp .ne 37, 3) := by decide +kernel
theorem d_Mo_segment_104 : decode b_Mo_segment 104 = .ok (.iload_n 2, 1) := by decide +kernel
theorem d_Mo_segment_105 : decode b_Mo_segment 105 = .ok (.ifCond .ne 33, 3) := by decide +kernel
theorem d_Mo_segment_108 : decode b_Mo_segment 108 = .ok (.aload_n 0, 1) := by decide +kernel
theorem d_Mo_segment_109 : decode b_Mo_segment 109 = .ok (.dup, 1) := by decide +kernel
theorem d_Mo_segment_110 : decode b_Mo_segment 110 = .ok (.getfield 135, 3) := by decide +kernel
theorem d_Mo_segment_113 : decode b_Mo_segment 113 = .ok (.iconst 1, 1) := by decide +kernel
theorem d_Mo_segment_114 : decode b_Mo_segment 114 = .ok (.iadd, 1) := by decide +kernel
theorem d_Mo_segment_115 : decode b_Mo_segment 115 = .ok (.putfield 135, 3) := by decide +kernel
theorem d_Mo_segment_118 : decode b_Mo_segment 118 = .ok (.aload_n 0, 1) := by decide +kernel
theorem d_Mo_segment_119 : decode b_Mo_segment 119 = .ok (.iload_n 3, 1) := by decide +kernel
theorem d_Mo_segment_120 : decode b_Mo_segment 120 = .ok (.iconst 2, 1) := by decide +kernel
theorem d_Mo_segment_121 : decode b_Mo_segment 121 = .ok (.aload_n 0, 1) := by decide +kernel
theorem d_Mo_segment_122 : decode b_Mo_segment 122 = .ok (.iconst 2, 1) := by decide +kernel
theorem d_Mo_segment_123 : decode b_Mo_segment 123 = .ok (.invokevirtual 269, 3) := by decide +kernel
theorem d_Mo_segment_126 : decode b_Mo_segment 126 = .ok (.invokevirtual 272, 3) := by decide +kernel
theorem d_Mo_segment_129 : decode b_Mo_segment 129 = .ok (.aload_n 0, 1) := by decide +kernel
theorem d_Mo_segment_130 : decode b_Mo_segment 130 = .ok (.iload_n 1, 1) := by decide +kernel
theorem d_Mo_segment_131 : decode b_Mo_segment 131 = .ok (.iconst 3, 1) := by decide +kernel
theorem d_Mo_segment_132 : decode b_Mo_segment 132 = .ok (.iconst 0, 1) := by decide +kernel
theorem d_Mo_segment_133 : decode b_Mo_segment 133 = .ok (.invokevirtual 272, 3) := by decide +kernel
theorem d_Mo_segment_136 : decode b_Mo_segment 136 = .ok (.iload_n 3, 1) := by decide +kernel
theorem d_Mo_segment_137 : decode b_Mo_segment 137 = .ok (.ireturn, 1) := by decide +kernel
theorem d_Mo_segment_138 : decode b_Mo_segment 138 = .ok (.aload_n 0, 1) := by decide +kernel
theorem d_Mo_segment_139 : decode b_Mo_segment 139 = .ok (.invokevirtual 147, 3) := by decide +kernel
theorem d_Mo_segment_142 : decode b_Mo_segment 142 = .ok (.invokestatic 283, 3) := by decide +kernel
theorem d_Mo_segment_145 : decode b_Mo_segment 145 = .ok (.ifCond .ne 14, 3) := by decide +kernel
theorem d_Mo_segment_148 : decode b_Mo_segment 148 = .ok (.aload_n 0, 1) := by decide +kernel
theorem d_Mo_segment_149 : decode b_Mo_segment 149 = .ok (.aload_n 0, 1) := by decide +kernel
theorem d_Mo_segment_150 : decode b_Mo_segment 150 = .ok (.getfield 135, 3) := by decide +kernel
theorem d_Mo_segment_153 : decode b_Mo_segment 153 = .ok (.invokevirtual 151, 3) := by decide +kernel
theorem d_Mo_segment_156 : decode b_Mo_segment 156 = .ok (.pop, 1) := by decide +kernel
theorem d_Mo_segment_157 : decode b_Mo_segment 157 = .ok (.iconst (-1), 1) := by decide +kernel
theorem d_Mo_segment_158 : decode b_Mo_segment 158 = .ok (.ireturn, 1) := by decide +kernel
theorem d_Mo_segment_159 : decode b_Mo_segment 159 = .ok (.aload_n 0, 1) := by decide +kernel
theorem d_Mo_segment_160 : decode b_Mo_segment 160 = .ok (.iconst 1, 1) := by decide +kernel
theorem d_Mo_segment_161 : decode b_Mo_segment 161 = .ok (.invokevirtual 269, 3) := by decide +kernel
theorem d_Mo_segment_164 : decode b_Mo_segment 164 = .ok (.istore 4, 2) := by decide +kernel
theorem d_Mo_segment_166 : decode b_Mo_segment 166 = .ok (.aload_n 0, 1) := by decide +kernel
theorem d_Mo_segment_167 : decode b_Mo_segment 167 = .ok (.iload 4, 2) := by decide +kernel
theorem d_Mo_segment_169 : decode b_Mo_segment 169 = .ok (.iconst 2, 1) := by decide +kernel
theorem d_Mo_segment_170 : decode b_Mo_segment 170 = .ok (.aload_n 0, 1) := by decide +kernel
theorem d_Mo_segment_171 : decode b_Mo_segment 171 = .ok (.getfield 56, 3) := by decide +kernel
theorem d_Mo_segment_174 : decode b_Mo_segment 174 = .ok (.getfield 204, 3) := by decide +kernel
theorem d_Mo_segment_177 : decode b_Mo_segment 177 = .ok (.invokevirtual 272, 3) := by decide +kernel
theorem d_Mo_segment_180 : decode b_Mo_segment 180 = .ok (.aload_n 0, 1) := by decide +kernel
theorem d_Mo_segment_181 : decode b_Mo_segment 181 = .ok (.invokevirtual 147, 3) := by decide +kernel
theorem d_Mo_segment_184 : decode b_Mo_segment 184 = .ok (.invokestatic 283, 3) := by decide +kernel
theorem d_Mo_segment_187 : decode b_Mo_segment 187 = .ok (.ifCond .ne 13, 3) := by decide +kernel
theorem d_Mo_segment_190 : decode b_Mo_segment 190 = .ok (.aload_n 0, 1) := by decide +kernel
theorem d_Mo_segment_191 : decode b_Mo_segment 191 = .ok (.invokevirtual 147, 3) := by decide +kernel
theorem d_Mo_segment_194 : decode b_Mo_segment 194 = .ok (.invokestatic 166, 3) := by decide +kernel
theorem d_Mo_segment_197 : decode b_Mo_segment 197 = .ok (.ifCond .eq 27, 3) := by decide +kernel
theorem d_Mo_segment_200 : decode b_Mo_segment 200 = .ok (.aload_n 0, 1) := by decide +kernel
theorem d_Mo_segment_201 : decode b_Mo_segment 201 = .ok (.getfield 56, 3) := by decide +kernel
theorem d_Mo_segment_204 : decode b_Mo_segment 204 = .ok (.aload_n 0, 1) := by decide +kernel
theorem d_Mo_segment_205 : decode b_Mo_segment 205 = .ok (.invokevirtual 147, 3) := by decide +kernel
theorem d_Mo_segment_208 : decode b_Mo_segment 208 = .ok (.invokevirtual 177, 3) := by decide +kernel
theorem d_Mo_segment_211 : decode b_Mo_segment 211 = .ok (.aload_n 0, 1) := by decide +kernel
theorem d_Mo_segment_212 : decode b_Mo_segment 212 = .ok (.dup, 1) := by decide +kernel
theorem d_Mo_segment_213 : decode b_Mo_segment 213 = .ok (.getfield 135, 3) := by decide +kernel
theorem d_Mo_segment_216 : decode b_Mo_segment 216 = .ok (.iconst 1, 1) := by decide +kernel
theorem d_Mo_segment_217 : decode b_Mo_segment 217 = .ok (.iadd, 1) := by decide +kernel
theorem d_Mo_segment_218 : decode b_Mo_segment 218 = .ok (.putfield 135, 3) := by decide +kernel
theorem d_Mo_segment_221 : decode b_Mo_segment 221 = .ok (.goto (-41), 3) := by decide +kernel
theorem d_Mo_segment_224 : decode b_Mo_segment 224 = .ok (.aload_n 0, 1) := by decide +kernel
theorem d_Mo_segment_225 : decode b_Mo_segment 225 = .ok (.iload 4, 2) := by decide +kernel
theorem d_Mo_segment_227 : decode b_Mo_segment 227 = .ok (.iconst 3, 1) := by decide +kernel
theorem d_Mo_segment_228 : decode b_Mo_segment 228 = .ok (.aload_n 0, 1) := by decide +kernel
theorem d_Mo_segment_229 : decode b_Mo_segment 229 = .ok (.getfield 56, 3) := by decide +kernel
theorem d_Mo_segment_232 : decode b_Mo_segment 232 = .ok (.getfield 204, 3) := by decide +kernel
theorem d_Mo_segment_235 : decode b_Mo_segment 235 = .ok (.aload_n 0, 1) := by decide +kernel
theorem d_Mo_segment_236 : decode b_Mo_segment 236 = .ok (.iload 4, 2) := by decide +kernel
theorem d_Mo_segment_238 : decode b_Mo_segment 238 = .ok (.iconst 2, 1) := by decide +kernel
theorem d_Mo_segment_239 : decode b_Mo_segment 239 = .ok (.invokevirtual 286, 3) := by decide +kernel
theorem d_Mo_segment_242 : decode b_Mo_segment 242 = .ok (.isub, 1) := by decide +kernel
theorem d_Mo_segment_243 : decode b_Mo_segment 243 = .ok (.invokevirtual 272, 3) := by decide +kernel
theorem d_Mo_segment_246 : decode b_Mo_segment 246 = .ok (.aload_n 0, 1) := by decide +kernel
theorem d_Mo_segment_247 : decode b_Mo_segment 247 = .ok (.iload_n 3, 1) := by decide +kernel
theorem d_Mo_segment_248 : decode b_Mo_segment 248 = .ok (.iconst 2, 1) := by decide +kernel
theorem d_Mo_segment_249 : decode b_Mo_segment 249 = .ok (.iload 4, 2) := by decide +kernel
theorem d_Mo_segment_251 : decode b_Mo_segment 251 = .ok (.invokevirtual 272, 3) := by decide +kernel
theorem d_Mo_segment_254 : decode b_Mo_segment 254 = .ok (.iload_n 3, 1) := by decide +kernel
theorem d_Mo_segment_255 : decode b_Mo_segment 255 = .ok (.ireturn, 1) := by decide +kernel
theorem d_Mo_segment_256 : decode b_Mo_segment 256 = .ok (.aload_n 0, 1) := by decide +kernel
theorem d_Mo_segment_257 : decode b_Mo_segment 257 = .ok (.iload_n 1, 1) := by decide +kernel
theorem d_Mo_segment_258 : decode b_Mo_segment 258 = .ok (.iload_n 3, 1) := by decide +kernel
theorem d_Mo_segment_259 : decode b_Mo_segment 259 = .ok (.iload_n 2, 1) := by decide +kernel
theorem d_Mo_segment_260 : decode b_Mo_segment 260 = .ok (.invokevirtual 279, 3) := by decide +kernel
theorem d_Mo_segment_263 : decode b_Mo_segment 263 = .ok (.ifCond .eq 7, 3) := by decide +kernel
theorem d_Mo_segment_266 : decode b_Mo_segment 266 = .ok (.iload_n 3, 1) := by decide +kernel
theorem d_Mo_segment_267 : decode b_Mo_segment 267 = .ok (.goto 4, 3) := by decide +kernel
theorem d_Mo_segment_270 : decode b_Mo_segment 270 = .ok (.iconst (-1), 1) := by decide +kernel
theorem d_Mo_segment_271 : decode b_Mo_segment 271 = .ok (.ireturn, 1) := by decide +kernel
set_option maxHeartbeats 4000000 in
set_option maxRecDepth 100000 in
/-- the reference: segment -/
theorem c_seg0 (orL : (Nat → Int32) → Nat → Nat → Option (Nat × CT)) (O : QP CT) (F L : Nat) (hOf : Frm 8 O) (l : Launch) (dC : Nat → ClassId) (dI : Nat → Nat → Nat) (mo : Nat) (sz : Heap) (v : Nat → Value) (cB cI cL cC : ClassId) (qx NN : Nat) (f : Nat → Int32) (n : Nat) (K : Nat → Nat × Nat) (tv : Nat) (Q : QS) (V : TS) (o i : Nat) (br : Int32) (y : Nat) (ok : Bool) (hok : ok = true ↔ ¬ o = 16) (ho16 : o ≤ 16) (hOR : ¬ o = 16 → ORC orL O (o + 1) F L) (hnN : n ≤ NN) (hNN : NN ≤ 4096) (hi0 : i ≤ n) (h6 : v 6 = .ref qx) (h8 : v 8 = .int (nI n)) (h22 : v 22 = .ref tv) (hQ : QOK Q) (hV : TOK V) (hcu : V.us + (n + 12 - i) ≤ 400000) (hcr : Q.R + 8 * (n - i) + 8 ≤ 40000) (hy : y < Q.R) : Met l y_Mo_segment (k_Mo_segment :: gtbl) ({ frames := 9 + F, cells := kcap Q (Q.R + 8 * (n - i) + 8) + qcap V (V.us + (n + 12 - i)), slots := 22 * kcap Q (Q.R + 8 * (n - i) + 8) + 2 * qcap V (V.us + (n + 12 - i)), locals := 280 + L }) (va_Pc [.ref mo, .int (nI y), .int 0] (me K dC dI [(mo, .inr (13, MF 30 (rf (rs v Q o) i br))), (qx, .inl (cB, NN, .inl f)), (Q.qq, .inl (cI, (8 * Q.C), .inl Q.qf)), (Q.qe, .inl (cL, (3 * Q.C), .inr (.inl Q.ef))), (tv, .inr (12, MF 13 (tw V))), (V.au, .inl (cC, V.U, .inl V.un))] [(cB, .byte), (cI, .int), (cL, .long), (cC, .char)] sz)) (va_Qi (fun (res : Int32) (u : QS × TS × Nat × Int32 × Nat) => SGo f ok (orL f n) O false n i o y Q V res u) (fun u t9 => mz dC dI [(mo, .inr (13, MF 30 (rf (rs v u.1 u.2.2.2.2) u.2.2.1 u.2.2.2.1))), (qx, .inl (cB, NN, .inl f)), (u.1.qq, .inl (cI, (8 * u.1.C), .inl u.1.qf)), (u.1.qe, .inl (cL, (3 * u.1.C), .inr (.inl u.1.ef))), (tv, .inr (12, MF 13 (tw u.2.1))), (u.2.1.au, .inl (cC, u.2.1.U, .inl u.2.1.un))] [(cB, .byte), (cI, .int), (cL, .long), (cC, .char)] (va_A [(mo, .inr (13, MF 30 (rf (rs v Q o) i br))), (qx, .inl (cB, NN, .inl f)), (Q.qq, .inl (cI, (8 * Q.C), .inl Q.qf)), (Q.qe, .inl (cL, (3 * Q.C), .inr (.inl Q.ef))), (tv, .inr (12, MF 13 (tw V))), (V.au, .inl (cC, V.U, .inl V.un))] sz.size) t9 ∧ szk sz t9.heap (cQ Q V u.1 u.2.1) (sQ Q V u.1 u.2.1)) (va_A [(mo, .inr (13, MF 30 (rf (rs v Q o) i br))), (qx, .inl (cB, NN, .inl f)), (Q.qq, .inl (cI, (8 * Q.C), .inl Q.qf)), (Q.qe, .inl (cL, (3 * Q.C), .inr (.inl Q.ef))), (tv, .inr (12, MF 13 (tw V))), (V.au, .inl (cC, V.U, .inl V.un))] sz.size)) (kcap Q (Q.R + 8 * (n - i) + 8) + qcap V (V.us + (n + 12 - i))) (22 * kcap Q (Q.R + 8 * (n - i) + 8) + 2 * qcap V (V.us + (n + 12 - i))) (va_A [(mo, .inr (13, MF 30 (rf (rs v Q o) i br))), (qx, .inl (cB, NN, .inl f)), (Q.qq, .inl (cI, (8 * Q.C), .inl Q.qf)), (Q.qe, .inl (cL, (3 * Q.C), .inr (.inl Q.ef))), (tv, .inr (12, MF 13 (tw V))), (V.au, .inl (cC, V.U, .inl V.un))] sz.size) := by
  refine Met.ofW (cc := b_Mo_segment) (maxL := 5) (ret := (some .int)) (by decide) rfl ?_
  intro p e s m args below meth c s₁ B hml hv
  obtain ⟨rfl, ⟨hsz, hP, hK, hD0⟩, hM⟩ := hv
  have hx := B.exec
  have hb := B.bytes
  have hr := B.returns
  have hts0 := atoms_spec (ws := k_Mo_segment :: gtbl) B.pre
  have hts := fun w h => hts0 w (List.mem_cons_of_mem _ h)
  have hown : s.vm.findClass R_Mo = some m.cls := findClass_of_methodNamed B.named
  have hlocks := B.notSynchronized
  subst hsz
  have hD := hD0.self (sz := s.heap.size)
  generalize hAe : va_A [(mo, .inr (13, MF 30 (rf (rs v Q o) i br))), (qx, .inl (cB, NN, .inl f)), (Q.qq, .inl (cI, (8 * Q.C), .inl Q.qf)), (Q.qe, .inl (cL, (3 * Q.C), .inr (.inl Q.ef))), (tv, .inr (12, MF 13 (tw V))), (V.au, .inl (cC, V.U, .inl V.un))] s.heap.size = A at hD hM ⊢
  have hA : ∀ q : Nat, s.heap.size ≤ q → A q := fun q h => by rw [← hAe]; exact Or.inr h
  have hS : va_S A s.heap s.heap [] := va_S.rf
  have hP : va_P (dC, dI) classes [(mo, .inr (13, MF 30 (rf (rs v Q o) i br))), (qx, .inl (cB, NN, .inl f)), (Q.qq, .inl (cI, (8 * Q.C), .inl Q.qf)), (Q.qe, .inl (cL, (3 * Q.C), .inr (.inl Q.ef))), (tv, .inr (12, MF 13 (tw V))), (V.au, .inl (cC, V.U, .inl V.un))] s.heap := hP
  have hl := lv_entry ([.ref mo, .int (nI y), .int 0]) (n := 5) (Nat.le_of_ble_eq_true rfl)
  rw [lg_entry_eq]
  generalize (lg_sl ([.ref mo, .int (nI y), .int 0]) ++ List.replicate (5 - (lg_sl ([.ref mo, .int (nI y), .int 0])).length) Slot.unset).toArray = ls at hl ⊢
  have hl : lv_has ls 5 [(0, .ref mo), (1, .int (nI y)), (2, .int 0)] := hl
  have hQk_Q := hQ
  have hTk_V := hV
  have hCo := hQ.2.2.1
  have hCo2 := hQ.2.1
  clear hQ hV
  have hG_QV : GQ (Q.R + 8 * (n - i) + 8) (V.us + (n + 12 - i)) Q V Q V := GQ.rf
  refine w_same (fun hq => ?_)
  refine w_tight (k := cQ Q V Q V) (n := sQ Q V Q V) (by rw [cQ_rf.1, cQ_rf.2]; exact hq) ?_
  have hqb_QV : Q.R ≤ Q.C ∧ Q.C ≤ 100000 := ⟨hQk_Q.2.2.1, hQk_Q.2.1⟩
  have hfit_QV := hG_QV.fits
  refine lv_aload_n hx hb d_Mo_segment_0 rfl (lv_at hl 0 rfl) ?_
  refine lv_bipush (v := 21) hx hb d_Mo_segment_1 (by decide) ?_
  have hPc := hP.sub (ws' := [(mo, .inr (13, MF 30 (rf (rs v Q o) i br))), (Q.qq, .inl (cI, (8 * Q.C), .inl Q.qf)), (Q.qe, .inl (cL, (3 * Q.C), .inr (.inl Q.ef)))]) [0, 2, 3] rfl
  have hDc := hD.sub (ws' := [(mo, .inr (13, MF 30 (rf (rs v Q o) i br))), (Q.qq, .inl (cI, (8 * Q.C), .inl Q.qf)), (Q.qe, .inl (cL, (3 * Q.C), .inr (.inl Q.ef)))]) [0, 2, 3] (by decide) rfl
  have hKc := hK.sub (tys' := [(cI, .int), (cL, .long)]) [1, 2] rfl
  have hFc := va_free (wc := [(mo, .inr (13, MF 30 (rf (rs v Q o) i br))), (Q.qq, .inl (cI, (8 * Q.C), .inl Q.qf)), (Q.qe, .inl (cL, (3 * Q.C), .inr (.inl Q.ef)))]) hD hS hA [0, 2, 3] rfl
  refine w_same (fun hq0 => ?_)
  refine va_calli (va_runV (As := [.int 21]) (rest := []) ⟨hx, hb, hml, hown, hts⟩ (c_Mo_row l dC dI mo s.heap v cI cL Q o i br 21 hQk_Q) (cwV 1 hts (gt_V (own := R_Mo) (C := R_Mo) (i := 269) (y := y_Mo_row) i_Mo_row w_1407 w_1409 (gt_sel (y := y_Mo_row) (n := 30) (by decide +kernel)) w_7) rfl rfl rfl (by decide +kernel) ⟨Nat.le_trans (m := 9) (Nat.le_of_ble_eq_true rfl) (Nat.le_add_right 9 F), Nat.le_trans (m := 280) (Nat.le_of_ble_eq_true rfl) (Nat.le_add_right 280 L)⟩) ⟨mp_blind, va_recv hKc hPc (ci := 13) (q0 := 0) rfl rfl, fun U hU hW => ⟨rfl, hU, by rw [hU]; exact hPc, va_K.moved hW.alike hKc, hDc.weaken (fun _ _ _ _ => trivial)⟩⟩ rfl rfl hl.1 rfl (lv_room (Nat.le_of_ble_eq_true rfl)) d_Mo_segment_3 ⟨(QAd.fit hG_QV hQk_Q (by omega)).1, (QAd.fit hG_QV hQk_Q (by omega)).2⟩) hS (fun q _ h => hFc q h) hFc (fun r0 Q1 t9 H1 locs ht hvm hw hB hz1 hk1 hS => ?_)
  obtain ⟨⟨hP1, hK1, hD1⟩, hz9⟩ := hB
  rw [ht] at hP1
  rw [ht] at hz9
  obtain ⟨hr0, hA_Q1⟩ := hw
  have hA_Q1 : QAd Q Q1 21 := hA_Q1
  obtain ⟨hQk_Q1, hGa, hGb, hGd, hR_Q1⟩ := hA_Q1.gq hQk_Q (by omega) V
  obtain ⟨hG_Q1V, hGc, hGs⟩ := hG_QV.tr hGa (show Q.R + 1 ≤ Q.R + 8 * (n - i) + 8 by omega) (Nat.zero_le _)
  have hGc := Nat.le_trans (Nat.add_le_add_left hGb _) hGc
  have hGs := Nat.le_trans (Nat.add_le_add_left hGd _) hGs
  have hq1 : szk s.heap H1 (cQ Q V Q1 V) (sQ Q V Q1 V) := (hq0.trans hz9).mono hGc hGs
  refine w_tight hq1 ?_
  obtain ⟨hP, hD⟩ := va_join (wr := [(qx, .inl (cB, NN, .inl f)), (tv, .inr (12, MF 13 (tw V))), (V.au, .inl (cC, V.U, .inl V.un))]) (w1 := [(mo, .inr (13, MF 30 (rf (rs v Q1 o) i br))), (Q1.qq, .inl (cI, (8 * Q1.C), .inl Q1.qf)), (Q1.qe, .inl (cL, (3 * Q1.C), .inr (.inl Q1.ef)))]) hP hD [0, 2, 3] [1, 4, 5] rfl rfl (by decide) (by decide) hk1 hFc hP1 hD1
  generalize H1 = H at hP hS ⊢
  have hP : va_P (dC, dI) classes [(qx, .inl (cB, NN, .inl f)), (tv, .inr (12, MF 13 (tw V))), (V.au, .inl (cC, V.U, .inl V.un)), (mo, .inr (13, MF 30 (rf (rs v Q1 o) i br))), (Q1.qq, .inl (cI, (8 * Q1.C), .inl Q1.qf)), (Q1.qe, .inl (cL, (3 * Q1.C), .inr (.inl Q1.ef)))] H := hP
  have hD : va_D A [(qx, .inl (cB, NN, .inl f)), (tv, .inr (12, MF 13 (tw V))), (V.au, .inl (cC, V.U, .inl V.un)), (mo, .inr (13, MF 30 (rf (rs v Q1 o) i br))), (Q1.qq, .inl (cI, (8 * Q1.C), .inl Q1.qf)), (Q1.qe, .inl (cL, (3 * Q1.C), .inr (.inl Q1.ef)))] := hD
  have hP := hP.sub (ws' := [(mo, .inr (13, MF 30 (rf (rs v Q1 o) i br))), (qx, .inl (cB, NN, .inl f)), (tv, .inr (12, MF 13 (tw V))), (V.au, .inl (cC, V.U, .inl V.un)), (Q1.qq, .inl (cI, (8 * Q1.C), .inl Q1.qf)), (Q1.qe, .inl (cL, (3 * Q1.C), .inr (.inl Q1.ef)))]) [3, 0, 1, 2, 4, 5] rfl
  have hD := hD.sub (ws' := [(mo, .inr (13, MF 30 (rf (rs v Q1 o) i br))), (qx, .inl (cB, NN, .inl f)), (tv, .inr (12, MF 13 (tw V))), (V.au, .inl (cC, V.U, .inl V.un)), (Q1.qq, .inl (cI, (8 * Q1.C), .inl Q1.qf)), (Q1.qe, .inl (cL, (3 * Q1.C), .inr (.inl Q1.ef)))]) [3, 0, 1, 2, 4, 5] (by decide) rfl
  have hP := hP.sub (ws' := [(mo, .inr (13, MF 30 (rf (rs v Q1 o) i br))), (qx, .inl (cB, NN, .inl f)), (Q1.qq, .inl (cI, (8 * Q1.C), .inl Q1.qf)), (Q1.qe, .inl (cL, (3 * Q1.C), .inr (.inl Q1.ef))), (tv, .inr (12, MF 13 (tw V))), (V.au, .inl (cC, V.U, .inl V.un))]) [0, 1, 4, 5, 2, 3] rfl
  have hD := hD.sub (ws' := [(mo, .inr (13, MF 30 (rf (rs v Q1 o) i br))), (qx, .inl (cB, NN, .inl f)), (Q1.qq, .inl (cI, (8 * Q1.C), .inl Q1.qf)), (Q1.qe, .inl (cL, (3 * Q1.C), .inr (.inl Q1.ef))), (tv, .inr (12, MF 13 (tw V))), (V.au, .inl (cC, V.U, .inl V.un))]) [0, 1, 4, 5, 2, 3] (by decide) rfl
  have hr0 : r0 = nI Q.R := hr0
  subst hr0
  have hqb_Q1V : Q1.R ≤ Q1.C ∧ Q1.C ≤ 100000 := ⟨hQk_Q1.2.2.1, hQk_Q1.2.1⟩
  have hfit_Q1V := hG_Q1V.fits
  have hE_Q1 : alr Q V Q1 V 0 Q.R := ⟨fun r9 k9 _ h1 h2 => hA_Q1.2.2.1 _ (by omega), ⟨fun r9 k9 _ h1 h2 => hA_Q1.2.2.2.1.2 _ (by omega), Nat.le_refl _, fun _ _ => rfl⟩⟩
  refine lv_istore_n (lv' := [(3, .int (nI Q.R)), (0, .ref mo), (1, .int (nI y)), (2, .int 0)]) hx hb d_Mo_segment_6 rfl hl (by decide) rfl (fun ls hl => ?_)
  refine lv_aload_n hx hb d_Mo_segment_7 rfl (lv_at hl 1 rfl) ?_
  refine lv_iload_n hx hb d_Mo_segment_8 rfl (lv_at hl 0 rfl) ?_
  refine lv_iconst (v := 1) hx hb d_Mo_segment_9 (by decide) ?_
  refine lv_iconst (v := 0) hx hb d_Mo_segment_10 (by decide) ?_
  refine W.eq (g2 := F0 m 11 ls [.int 0, .int (nI 1), .int (nI Q.R), .ref mo]) rfl ?_
  have hPc := hP.sub (ws' := [(mo, .inr (13, MF 30 (rf (rs v Q1 o) i br))), (Q1.qq, .inl (cI, (8 * Q1.C), .inl Q1.qf))]) [0, 2] rfl
  have hDc := hD.sub (ws' := [(mo, .inr (13, MF 30 (rf (rs v Q1 o) i br))), (Q1.qq, .inl (cI, (8 * Q1.C), .inl Q1.qf))]) [0, 2] (by decide) rfl
  have hKc := hK.sub (tys' := [(cI, .int)]) [1] rfl
  have hFc := va_free (wc := [(mo, .inr (13, MF 30 (rf (rs v Q1 o) i br))), (Q1.qq, .inl (cI, (8 * Q1.C), .inl Q1.qf))]) hD hS hA [0, 2] rfl
  refine va_callv (va_runV (As := [.int (nI Q.R), .int (nI 1), .int 0]) (rest := []) ⟨hx, hb, hml, hown, hts⟩ (c_Mo_set l dC dI mo H (rf (rs v Q1 o) i br) cI Q1.qq (8 * Q1.C) Q1.qf Q.R 1 0 (by omega) (by omega) ((rf_ne (by decide) (by decide)).trans rs_19)) (cwV 3 hts (gt_V (own := R_Mo) (C := R_Mo) (i := 272) (y := y_Mo_set) i_Mo_set w_1411 w_1413 (gt_sel (y := y_Mo_set) (n := 30) (by decide +kernel)) w_7) rfl rfl rfl (by decide +kernel) ⟨Nat.le_trans (m := 9) (Nat.le_of_ble_eq_true rfl) (Nat.le_add_right 9 F), Nat.le_trans (m := 280) (Nat.le_of_ble_eq_true rfl) (Nat.le_add_right 280 L)⟩) ⟨mp_blind, va_recv hKc hPc (ci := 13) (q0 := 0) rfl rfl, fun U hU hW => ⟨rfl, hU, by rw [hU]; exact hPc, va_K.moved hW.alike hKc, hDc.weaken (fun _ _ _ _ => trivial)⟩⟩ rfl rfl hl.1 rfl (lv_room (Nat.le_of_ble_eq_true rfl)) d_Mo_segment_11 ⟨hfit_Q1V.1, hfit_Q1V.2⟩) hS (fun q _ h => hFc q h) hFc (fun _u t9 H1 locs ht hvm hw hB hz1 hk1 hS => ?_)
  obtain ⟨hP1, hK1, hD1⟩ := hB
  rw [ht] at hP1
  obtain ⟨hP, hD⟩ := va_join (wr := [(qx, .inl (cB, NN, .inl f)), (Q1.qe, .inl (cL, (3 * Q1.C), .inr (.inl Q1.ef))), (tv, .inr (12, MF 13 (tw V))), (V.au, .inl (cC, V.U, .inl V.un))]) (w1 := [(mo, .inr (13, MF 30 (rf (rs v Q1 o) i br))), (Q1.qq, .inl (cI, (8 * Q1.C), .inl (upd Q1.qf (8 * Q.R + 1) 0)))]) hP hD [0, 2] [1, 3, 4, 5] rfl rfl (by decide) (by decide) hk1 hFc hP1 hD1
  generalize H1 = H at hP hS ⊢
  have hP : va_P (dC, dI) classes [(qx, .inl (cB, NN, .inl f)), (Q1.qe, .inl (cL, (3 * Q1.C), .inr (.inl Q1.ef))), (tv, .inr (12, MF 13 (tw V))), (V.au, .inl (cC, V.U, .inl V.un)), (mo, .inr (13, MF 30 (rf (rs v Q1 o) i br))), (Q1.qq, .inl (cI, (8 * Q1.C), .inl (upd Q1.qf (8 * Q.R + 1) 0)))] H := hP
  have hD : va_D A [(qx, .inl (cB, NN, .inl f)), (Q1.qe, .inl (cL, (3 * Q1.C), .inr (.inl Q1.ef))), (tv, .inr (12, MF 13 (tw V))), (V.au, .inl (cC, V.U, .inl V.un)), (mo, .inr (13, MF 30 (rf (rs v Q1 o) i br))), (Q1.qq, .inl (cI, (8 * Q1.C), .inl (upd Q1.qf (8 * Q.R + 1) 0)))] := hD
  have hP := hP.sub (ws' := [(mo, .inr (13, MF 30 (rf (rs v Q1 o) i br))), (qx, .inl (cB, NN, .inl f)), (Q1.qq, .inl (cI, (8 * Q1.C), .inl (upd Q1.qf (8 * Q.R + 1) 0))), (Q1.qe, .inl (cL, (3 * Q1.C), .inr (.inl Q1.ef))), (tv, .inr (12, MF 13 (tw V))), (V.au, .inl (cC, V.U, .inl V.un))]) [4, 0, 5, 1, 2, 3] rfl
  have hD := hD.sub (ws' := [(mo, .inr (13, MF 30 (rf (rs v Q1 o) i br))), (qx, .inl (cB, NN, .inl f)), (Q1.qq, .inl (cI, (8 * Q1.C), .inl (upd Q1.qf (8 * Q.R + 1) 0))), (Q1.qe, .inl (cL, (3 * Q1.C), .inr (.inl Q1.ef))), (tv, .inr (12, MF 13 (tw V))), (V.au, .inl (cC, V.U, .inl V.un))]) [4, 0, 5, 1, 2, 3] (by decide) rfl
  obtain ⟨Q2, e_Q2⟩ : ∃ z : QS, z = QS.wf Q1 (upd Q1.qf (8 * Q.R + 1) 0) := ⟨_, rfl⟩
  have hP : va_P (dC, dI) classes [(mo, .inr (13, MF 30 (rf (rs v Q2 o) i br))), (qx, .inl (cB, NN, .inl f)), (Q2.qq, .inl (cI, (8 * Q2.C), .inl Q2.qf)), (Q2.qe, .inl (cL, (3 * Q2.C), .inr (.inl Q2.ef))), (tv, .inr (12, MF 13 (tw V))), (V.au, .inl (cC, V.U, .inl V.un))] H := by subst e_Q2; exact hP
  have hD : va_D A [(mo, .inr (13, MF 30 (rf (rs v Q2 o) i br))), (qx, .inl (cB, NN, .inl f)), (Q2.qq, .inl (cI, (8 * Q2.C), .inl Q2.qf)), (Q2.qe, .inl (cL, (3 * Q2.C), .inr (.inl Q2.ef))), (tv, .inr (12, MF 13 (tw V))), (V.au, .inl (cC, V.U, .inl V.un))] := by subst e_Q2; exact hD
  have hf_Q2 : Q2.C = Q1.C ∧ Q2.R = Q1.R ∧ Q2.qf = upd Q1.qf (8 * Q.R + 1) 0 := by rw [e_Q2]; exact ⟨rfl, rfl, rfl⟩
  have he_Q2 : Q2.ef = Q1.ef := by rw [e_Q2]; rfl
  have hQk_Q2 : QOK Q2 := by rw [e_Q2]; exact hQk_Q1
  have hG_Q2V : GQ (Q.R + 8 * (n - i) + 8) (V.us + (n + 12 - i)) Q V Q2 V := by unfold GQ at hG_Q1V ⊢; rw [hf_Q2.1]; exact hG_Q1V
  refine w_same (fun hq => ?_)
  refine w_tight (k := cQ Q V Q2 V) (n := sQ Q V Q2 V) (by unfold cQ sQ at hq ⊢; rw [hf_Q2.1]; exact hq) ?_
  have hR_Q2 := hf_Q2.2.1
  have hqb_Q2V : Q2.R ≤ Q2.C ∧ Q2.C ≤ 100000 := ⟨hQk_Q2.2.2.1, hQk_Q2.2.1⟩
  have hfit_Q2V := hG_Q2V.fits
  have hSG : SGi Q V Q.R y Q2 V true false := SGi.st hy (by omega) hE_Q1 hA_Q1.2.2.2.2.2 hf_Q2.2.2 he_Q2
  refine lv_aload_n hx hb d_Mo_segment_14 rfl (lv_at hl 1 rfl) ?_
  have hPc := hP.sub (ws' := [(mo, .inr (13, MF 30 (rf (rs v Q2 o) i br))), (qx, .inl (cB, NN, .inl f))]) [0, 1] rfl
  have hDc := hD.sub (ws' := [(mo, .inr (13, MF 30 (rf (rs v Q2 o) i br))), (qx, .inl (cB, NN, .inl f))]) [0, 1] (by decide) rfl
  have hKc := hK.sub (tys' := [(cB, .byte)]) [0] rfl
  have hFc := va_free (wc := [(mo, .inr (13, MF 30 (rf (rs v Q2 o) i br))), (qx, .inl (cB, NN, .inl f))]) hD hS hA [0, 1] rfl
  refine va_calli (va_runV (As := []) (rest := []) ⟨hx, hb, hml, hown, hts⟩ (c_Mo_c l dC dI mo H (rf (rs v Q2 o) i br) cB qx NN f n i (by omega) (by omega) (by omega) ((rf_ne (by decide) (by decide)).trans ((rs_ne (by decide) (by decide) (by decide) (by decide)).trans h6)) rf_7 ((rf_ne (by decide) (by decide)).trans ((rs_ne (by decide) (by decide) (by decide) (by decide)).trans h8))) (cwV 0 hts (gt_V (own := R_Mo) (C := R_Mo) (i := 147) (y := y_Mo_c) i_Mo_c w_1233 w_1235 (gt_sel (y := y_Mo_c) (n := 30) (by decide +kernel)) w_7) rfl rfl rfl (by decide +kernel) ⟨Nat.le_trans (m := 9) (Nat.le_of_ble_eq_true rfl) (Nat.le_add_right 9 F), Nat.le_trans (m := 280) (Nat.le_of_ble_eq_true rfl) (Nat.le_add_right 280 L)⟩) ⟨mp_blind, va_recv hKc hPc (ci := 13) (q0 := 0) rfl rfl, fun U hU hW => ⟨rfl, hU, by rw [hU]; exact hPc, va_K.moved hW.alike hKc, hDc.weaken (fun _ _ _ _ => trivial)⟩⟩ rfl rfl hl.1 rfl (lv_room (Nat.le_of_ble_eq_true rfl)) d_Mo_segment_15 ⟨hfit_Q2V.1, hfit_Q2V.2⟩) hS (fun q _ h => hFc q h) hFc (fun r1 _u t9 H1 locs ht hvm hw hB hz1 hk1 hS => ?_)
  obtain ⟨hP1, hK1, hD1⟩ := hB
  rw [ht] at hP1
  obtain ⟨hP, hD⟩ := va_join (wr := [(Q2.qq, .inl (cI, (8 * Q2.C), .inl Q2.qf)), (Q2.qe, .inl (cL, (3 * Q2.C), .inr (.inl Q2.ef))), (tv, .inr (12, MF 13 (tw V))), (V.au, .inl (cC, V.U, .inl V.un))]) (w1 := [(mo, .inr (13, MF 30 (rf (rs v Q2 o) i br))), (qx, .inl (cB, NN, .inl f))]) hP hD [0, 1] [2, 3, 4, 5] rfl rfl (by decide) (by decide) hk1 hFc hP1 hD1
  generalize H1 = H at hP hS ⊢
  have hP : va_P (dC, dI) classes [(Q2.qq, .inl (cI, (8 * Q2.C), .inl Q2.qf)), (Q2.qe, .inl (cL, (3 * Q2.C), .inr (.inl Q2.ef))), (tv, .inr (12, MF 13 (tw V))), (V.au, .inl (cC, V.U, .inl V.un)), (mo, .inr (13, MF 30 (rf (rs v Q2 o) i br))), (qx, .inl (cB, NN, .inl f))] H := hP
  have hD : va_D A [(Q2.qq, .inl (cI, (8 * Q2.C), .inl Q2.qf)), (Q2.qe, .inl (cL, (3 * Q2.C), .inr (.inl Q2.ef))), (tv, .inr (12, MF 13 (tw V))), (V.au, .inl (cC, V.U, .inl V.un)), (mo, .inr (13, MF 30 (rf (rs v Q2 o) i br))), (qx, .inl (cB, NN, .inl f))] := hD
  have hP := hP.sub (ws' := [(mo, .inr (13, MF 30 (rf (rs v Q2 o) i br))), (qx, .inl (cB, NN, .inl f)), (Q2.qq, .inl (cI, (8 * Q2.C), .inl Q2.qf)), (Q2.qe, .inl (cL, (3 * Q2.C), .inr (.inl Q2.ef))), (tv, .inr (12, MF 13 (tw V))), (V.au, .inl (cC, V.U, .inl V.un))]) [4, 5, 0, 1, 2, 3] rfl
  have hD := hD.sub (ws' := [(mo, .inr (13, MF 30 (rf (rs v Q2 o) i br))), (qx, .inl (cB, NN, .inl f)), (Q2.qq, .inl (cI, (8 * Q2.C), .inl Q2.qf)), (Q2.qe, .inl (cL, (3 * Q2.C), .inr (.inl Q2.ef))), (tv, .inr (12, MF 13 (tw V))), (V.au, .inl (cC, V.U, .inl V.un))]) [4, 5, 0, 1, 2, 3] (by decide) rfl
  have h_r1 : r1 = hereV f n i := hw
  refine lv_bipush (v := 46) hx hb d_Mo_segment_18 (by decide) ?_
  refine lv_icmp_ne (tgt := 256) hx hb d_Mo_segment_20 (by decide) (fun c20 => ?_) (fun c20 => ?_)
  · refine lv_aload_n hx hb d_Mo_segment_256 rfl (lv_at hl 1 rfl) ?_
    refine lv_iload_n hx hb d_Mo_segment_257 rfl (lv_at hl 2 rfl) ?_
    refine lv_iload_n hx hb d_Mo_segment_258 rfl (lv_at hl 0 rfl) ?_
    refine lv_iload_n hx hb d_Mo_segment_259 rfl (lv_at hl 3 rfl) ?_
    have hPc := hP.sub (ws' := [(mo, .inr (13, MF 30 (rf (rs v Q2 o) i br))), (qx, .inl (cB, NN, .inl f)), (Q2.qq, .inl (cI, (8 * Q2.C), .inl Q2.qf)), (Q2.qe, .inl (cL, (3 * Q2.C), .inr (.inl Q2.ef))), (tv, .inr (12, MF 13 (tw V))), (V.au, .inl (cC, V.U, .inl V.un))]) [0, 1, 2, 3, 4, 5] rfl
    have hDc := hD.sub (ws' := [(mo, .inr (13, MF 30 (rf (rs v Q2 o) i br))), (qx, .inl (cB, NN, .inl f)), (Q2.qq, .inl (cI, (8 * Q2.C), .inl Q2.qf)), (Q2.qe, .inl (cL, (3 * Q2.C), .inr (.inl Q2.ef))), (tv, .inr (12, MF 13 (tw V))), (V.au, .inl (cC, V.U, .inl V.un))]) [0, 1, 2, 3, 4, 5] (by decide) rfl
    have hKc := hK.sub (tys' := [(cB, .byte), (cI, .int), (cL, .long), (cC, .char)]) [0, 1, 2, 3] rfl
    have hFc := va_free (wc := [(mo, .inr (13, MF 30 (rf (rs v Q2 o) i br))), (qx, .inl (cB, NN, .inl f)), (Q2.qq, .inl (cI, (8 * Q2.C), .inl Q2.qf)), (Q2.qe, .inl (cL, (3 * Q2.C), .inr (.inl Q2.ef))), (tv, .inr (12, MF 13 (tw V))), (V.au, .inl (cC, V.U, .inl V.un))]) hD hS hA [0, 1, 2, 3, 4, 5] rfl
    refine w_same (fun hq0 => ?_)
    refine va_calli (va_runV (As := [.int (nI y), .int (nI Q.R), .int 0]) (rest := []) ⟨hx, hb, hml, hown, hts⟩ (c_sls0 orL O F L hOf l dC dI mo H v cB cI cL cC qx NN f n K tv Q2 V o i br Q.R y ok hok ho16 hOR hnN hNN (by omega) h6 h8 h22 hQk_Q2 hTk_V (by omega) (by omega) (by omega) (by omega) hSG.2.2.1) (cwV 3 hts (gt_V (own := R_Mo) (C := R_Mo) (i := 279) (y := y_Mo_selectors) i_Mo_selectors w_1419 w_1421 (gt_sel (y := y_Mo_selectors) (n := 30) (by decide +kernel)) w_7) rfl rfl rfl (by decide +kernel) ⟨by show 8 + F + 1 ≤ 9 + F; omega, by show 8 + (6 + 11) + (240 + L) ≤ 280 + L; omega⟩) ⟨me_blind, va_recv hKc hPc (ci := 13) (q0 := 0) rfl rfl, fun U hU hW => ⟨rfl, ⟨hU, by rw [hU]; exact hPc, va_K.moved hW.alike hKc, hDc.weaken (fun _ _ _ _ => trivial)⟩, by rw [hU]; exact ME.call hM hS.2.1 hFc hW⟩⟩ rfl rfl hl.1 rfl (lv_room (Nat.le_of_ble_eq_true rfl)) d_Mo_segment_260 ⟨(hG_Q2V.step (B2 := Q2.R + 8 * (n - i) + 7) (C2 := V.us + (n + 12 - i)) (by omega) (by omega)).1, (hG_Q2V.step (B2 := Q2.R + 8 * (n - i) + 7) (C2 := V.us + (n + 12 - i)) (by omega) (by omega)).2⟩) hS (fun q _ h => hFc q h) hFc (fun r0 ⟨Q3, V3, j3, b3, o3⟩ t9 H1 locs ht hvm hw hB hz1 hk1 hS => ?_)
    obtain ⟨⟨hP1, hK1, hD1⟩, hz9⟩ := hB
    rw [ht] at hP1
    rw [ht] at hz9
    obtain ⟨⟨hQk_Q3, hGn, hTXs, hR1_Q3, hR2_Q3⟩, hw⟩ := hw
    have hQk_Q3 : QOK Q3 := hQk_Q3
    obtain ⟨hG_Q3V3, hGc, hGs⟩ := hG_Q2V.tr hGn (by omega) (by omega)
    have hR1_Q3 : Q2.R ≤ Q3.R := hR1_Q3
    have hR2_Q3 : Q3.R ≤ Q2.R + 8 * (n - i) + 7 := hR2_Q3
    obtain ⟨us3, hX_V3, hln_V3⟩ := hTXs
    have hX_V3 : TX V V3 us3 := hX_V3
    have hXs_V3 := hX_V3.us
    have hz9 : szk H H1 (cQ Q2 V Q3 V3) (sQ Q2 V Q3 V3) := hz9
    have hq1 : szk s.heap H1 (cQ Q V Q3 V3) (sQ Q V Q3 V3) := (hq0.trans hz9).mono hGc hGs
    refine w_tight hq1 ?_
    obtain ⟨hP, hD⟩ := va_join (wr := []) (w1 := [(mo, .inr (13, MF 30 (rf (rs v Q3 o3) j3 b3))), (qx, .inl (cB, NN, .inl f)), (Q3.qq, .inl (cI, (8 * Q3.C), .inl Q3.qf)), (Q3.qe, .inl (cL, (3 * Q3.C), .inr (.inl Q3.ef))), (tv, .inr (12, MF 13 (tw V3))), (V3.au, .inl (cC, V3.U, .inl V3.un))]) hP hD [0, 1, 2, 3, 4, 5] [] rfl rfl (by decide) (by decide) hk1 hFc hP1 hD1
    generalize H1 = H at hP hS ⊢
    have hP : va_P (dC, dI) classes [(mo, .inr (13, MF 30 (rf (rs v Q3 o3) j3 b3))), (qx, .inl (cB, NN, .inl f)), (Q3.qq, .inl (cI, (8 * Q3.C), .inl Q3.qf)), (Q3.qe, .inl (cL, (3 * Q3.C), .inr (.inl Q3.ef))), (tv, .inr (12, MF 13 (tw V3))), (V3.au, .inl (cC, V3.U, .inl V3.un))] H := hP
    have hD : va_D A [(mo, .inr (13, MF 30 (rf (rs v Q3 o3) j3 b3))), (qx, .inl (cB, NN, .inl f)), (Q3.qq, .inl (cI, (8 * Q3.C), .inl Q3.qf)), (Q3.qe, .inl (cL, (3 * Q3.C), .inr (.inl Q3.ef))), (tv, .inr (12, MF 13 (tw V3))), (V3.au, .inl (cC, V3.U, .inl V3.un))] := hD
    have hP := hP.sub (ws' := [(mo, .inr (13, MF 30 (rf (rs v Q3 o3) j3 b3))), (qx, .inl (cB, NN, .inl f)), (tv, .inr (12, MF 13 (tw V3))), (Q3.qq, .inl (cI, (8 * Q3.C), .inl Q3.qf)), (Q3.qe, .inl (cL, (3 * Q3.C), .inr (.inl Q3.ef))), (V3.au, .inl (cC, V3.U, .inl V3.un))]) [0, 1, 4, 2, 3, 5] rfl
    have hD := hD.sub (ws' := [(mo, .inr (13, MF 30 (rf (rs v Q3 o3) j3 b3))), (qx, .inl (cB, NN, .inl f)), (tv, .inr (12, MF 13 (tw V3))), (Q3.qq, .inl (cI, (8 * Q3.C), .inl Q3.qf)), (Q3.qe, .inl (cL, (3 * Q3.C), .inr (.inl Q3.ef))), (V3.au, .inl (cC, V3.U, .inl V3.un))]) [0, 1, 4, 2, 3, 5] (by decide) rfl
    have hP := hP.sub (ws' := [(mo, .inr (13, MF 30 (rf (rs v Q3 o3) j3 b3))), (qx, .inl (cB, NN, .inl f)), (Q3.qq, .inl (cI, (8 * Q3.C), .inl Q3.qf)), (Q3.qe, .inl (cL, (3 * Q3.C), .inr (.inl Q3.ef))), (tv, .inr (12, MF 13 (tw V3))), (V3.au, .inl (cC, V3.U, .inl V3.un))]) [0, 1, 3, 4, 2, 5] rfl
    have hD := hD.sub (ws' := [(mo, .inr (13, MF 30 (rf (rs v Q3 o3) j3 b3))), (qx, .inl (cB, NN, .inl f)), (Q3.qq, .inl (cI, (8 * Q3.C), .inl Q3.qf)), (Q3.qe, .inl (cL, (3 * Q3.C), .inr (.inl Q3.ef))), (tv, .inr (12, MF 13 (tw V3))), (V3.au, .inl (cC, V3.U, .inl V3.un))]) [0, 1, 3, 4, 2, 5] (by decide) rfl
    have hTk_V3 := hX_V3.ok hTk_V (by omega)
    have hqb_Q3V3 : Q3.R ≤ Q3.C ∧ Q3.C ≤ 100000 := ⟨hQk_Q3.2.2.1, hQk_Q3.2.1⟩
    have hfit_Q3V3 := hG_Q3V3.fits
    rcases hw with ⟨fl1, l1, hv_1, hv_2, hv_3, hv_4, hv_5, hv_6, hv_7, hv_8, hv_9⟩ | ⟨hv_1, hv_2⟩
    · have hv_9 : o = o3 := hv_9.symm
      subst hv_9
      have hP : va_P (dC, dI) classes [(mo, .inr (13, MF 30 (rf (rs v Q3 o) j3 b3))), (qx, .inl (cB, NN, .inl f)), (Q3.qq, .inl (cI, (8 * Q3.C), .inl Q3.qf)), (Q3.qe, .inl (cL, (3 * Q3.C), .inr (.inl Q3.ef))), (tv, .inr (12, MF 13 (tw V3))), (V3.au, .inl (cC, V3.U, .inl V3.un))] H := hP
      have hD : va_D A [(mo, .inr (13, MF 30 (rf (rs v Q3 o) j3 b3))), (qx, .inl (cB, NN, .inl f)), (Q3.qq, .inl (cI, (8 * Q3.C), .inl Q3.qf)), (Q3.qe, .inl (cL, (3 * Q3.C), .inr (.inl Q3.ef))), (tv, .inr (12, MF 13 (tw V3))), (V3.au, .inl (cC, V3.U, .inl V3.un))] := hD
      have hv_2 : slsP f n ok (orL f n) false i = some (j3, fl1, l1) := hv_2
      have hv_6 : Q3.R + 8 * i + 8 ≤ Q2.R + 8 * j3 := hv_6
      have hv_7 : V3.us + i ≤ V.us + j3 := hv_7
      have hv_8 : j3 ≤ n := hv_8
      have hSF : SGf O Q V Q.R y Q3 V3 fl1 (segS false l1) := hSG.sls hy (by omega) hv_3.1 hv_4 hv_5 hv_3.2
      subst hv_1
      refine lv_if_eq (tgt := 270) hx hb d_Mo_segment_263 (by decide) (fun h => absurd h (by decide)) (fun _ => ?_)
      refine lv_iload_n hx hb d_Mo_segment_266 rfl (lv_at hl 0 rfl) ?_
      refine lv_goto (tgt := 271) hx hb d_Mo_segment_267 (by decide) ?_
      have hfin : sgP f n ok (orL f n) false i = some (j3, fl1, segS false l1) := by rw [sgP_a (fun h => c20 (h_r1.trans h)), hv_2]; rfl
      refine w_same (fun hq => ?_)
      refine W.widen (k := kcap Q (Q.R + 8 * (n - i) + 8) + qcap V (V.us + (n + 12 - i))) (n := 22 * kcap Q (Q.R + 8 * (n - i) + 8) + 2 * qcap V (V.us + (n + 12 - i))) hfit_Q3V3.1 hfit_Q3V3.2 ?_
      have hPo : QPo n i 8 Q V (Q3, V3, j3, b3, o) := ⟨hQk_Q3, hG_Q3V3, ⟨_, hX_V3, by omega⟩, by show Q.R ≤ Q3.R; omega, by show Q3.R ≤ Q.R + 8 * (n - i) + 8; omega⟩
      exact W.iret (v := nI Q.R) hx hb hr (fun t9 ht hW => ⟨⟨nI Q.R, (Q3, V3, j3, b3, o), rfl, ⟨hPo, Or.inl ⟨fl1, segS false l1, rfl, hfin, hSF, by show Q3.R + 8 * i + 7 ≤ Q.R + 8 * j3; omega, by show V3.us + i ≤ V.us + j3; omega, by show j3 ≤ n; omega, by show Q.R < Q3.R; omega, rfl⟩⟩, ⟨by rw [ht]; exact hP, va_K.moved hW.alike hK, hD⟩, by rw [ht]; exact hq⟩, hS.F ht⟩) hS.2.2 d_Mo_segment_271
    · have hv_2 : slsP f n ok (orL f n) false i = none := hv_2
      subst hv_1
      refine lv_if_eq (tgt := 270) hx hb d_Mo_segment_263 (by decide) (fun _ => ?_) (fun h => absurd (by decide) h)
      refine lv_iconst (v := (-1)) hx hb d_Mo_segment_270 (by decide) ?_
      have hfin : sgP f n ok (orL f n) false i = none := by rw [sgP_a (fun h => c20 (h_r1.trans h)), hv_2]; rfl
      refine w_same (fun hq => ?_)
      refine W.widen (k := kcap Q (Q.R + 8 * (n - i) + 8) + qcap V (V.us + (n + 12 - i))) (n := 22 * kcap Q (Q.R + 8 * (n - i) + 8) + 2 * qcap V (V.us + (n + 12 - i))) hfit_Q3V3.1 hfit_Q3V3.2 ?_
      have hPo : QPo n i 8 Q V (Q3, V3, j3, b3, o3) := ⟨hQk_Q3, hG_Q3V3, ⟨_, hX_V3, by omega⟩, by show Q.R ≤ Q3.R; omega, by show Q3.R ≤ Q.R + 8 * (n - i) + 8; omega⟩
      exact W.iret (v := -1) hx hb hr (fun t9 ht hW => ⟨⟨-1, (Q3, V3, j3, b3, o3), rfl, ⟨hPo, Or.inr ⟨rfl, hfin⟩⟩, ⟨by rw [ht]; exact hP, va_K.moved hW.alike hK, hD⟩, by rw [ht]; exact hq⟩, hS.F ht⟩) hS.2.2 d_Mo_segment_271
  · have hlt0 := here_in (h_r1.symm.trans c20) (by decide)
    have hdot : hereV f n i = 46 := h_r1.symm.trans c20
    refine w_join (D := (dC, dI)) (cl := classes) (A := A) (H0 := s.heap) (nL := 5) 95 (σ := QS × Nat × Int32 × Bool × Bool) (fun ⟨Qj, j, b, fl, ds⟩ => SGi Q V Q.R y Qj V fl ds ∧ QOK Qj ∧ GQ (Q.R + 8 * (n - i) + 8) (V.us + (n + 12 - i)) Q V Qj V ∧ i + 1 ≤ j ∧ j ≤ n ∧ sgP f n ok (orL f n) false i = sgN f n false j fl ds) (fun ⟨Qj, j, b, fl, ds⟩ => cQ Q V Qj V) (fun ⟨Qj, j, b, fl, ds⟩ => sQ Q V Qj V) (fun ⟨Qj, j, b, fl, ds⟩ => [(mo, .inr (13, MF 30 (rf (rs v Qj o) j b))), (qx, .inl (cB, NN, .inl f)), (Qj.qq, .inl (cI, (8 * Qj.C), .inl Qj.qf)), (Qj.qe, .inl (cL, (3 * Qj.C), .inr (.inl Qj.ef))), (tv, .inr (12, MF 13 (tw V))), (V.au, .inl (cC, V.U, .inl V.un))]) (fun ⟨Qj, j, b, fl, ds⟩ => [(0, .ref mo), (1, .int (nI y)), (2, .int 0), (3, .int (nI Q.R))]) (fun jn95 => ?_) ?_
    · refine lv_aload_n hx hb d_Mo_segment_23 rfl (lv_at hl 1 rfl) ?_
      refine lv_dup hx hb d_Mo_segment_24 rfl ?_
      refine va_get (D := (dC, dI)) (ci := 13) (v := .int (nI i)) (C := R_Mo) (T := F_Mo) (N := 30) hx hb hts in_Mo hown hK hP 0 rfl rfl 7 (by decide) (hts _ w_1096) (fun _ h9 => h9) (MFg (by decide) rf_7) d_Mo_segment_25 ?_
      refine lv_iconst (v := 1) hx hb d_Mo_segment_28 (by decide) ?_
      refine lv_iadd hx hb d_Mo_segment_29 ?_
      refine W.eq (g2 := F0 m 30 ls [.int (nI (i + 1)), .ref mo]) (by rw [show ((nI i) + 1) = (nI (i + 1)) from nI_1 _]) ?_
      refine va_put (D := (dC, dI)) (ci := 13) (v := .int (nI (i + 1))) (ty := .int) (C := R_Mo) (T := F_Mo) (N := 30) hx hb hts in_Mo t_Mo t_Mo_ok n_Mo hown hK hP hD hS 0 rfl rfl 7 (by decide) (hts _ w_1096) (fun _ h9 => h9) rfl (by decide +kernel) rfl rfl (by rw [MFl]; decide) d_Mo_segment_30 (fun H locs hP hD hS => ?_)
      rw [MFs (n := 30) (k := 7) (by decide)] at hP hD
      have hP : va_P (dC, dI) classes [(mo, .inr (13, MF 30 (va_up (rf (rs v Q2 o) i br) 7 (.int (nI (i + 1)))))), (qx, .inl (cB, NN, .inl f)), (Q2.qq, .inl (cI, (8 * Q2.C), .inl Q2.qf)), (Q2.qe, .inl (cL, (3 * Q2.C), .inr (.inl Q2.ef))), (tv, .inr (12, MF 13 (tw V))), (V.au, .inl (cC, V.U, .inl V.un))] H := hP
      have hD : va_D A [(mo, .inr (13, MF 30 (va_up (rf (rs v Q2 o) i br) 7 (.int (nI (i + 1)))))), (qx, .inl (cB, NN, .inl f)), (Q2.qq, .inl (cI, (8 * Q2.C), .inl Q2.qf)), (Q2.qe, .inl (cL, (3 * Q2.C), .inr (.inl Q2.ef))), (tv, .inr (12, MF 13 (tw V))), (V.au, .inl (cC, V.U, .inl V.un))] := hD
      rw [rf_u7] at hP hD
      have hP : va_P (dC, dI) classes [(mo, .inr (13, MF 30 (rf (rs v Q2 o) (i + 1) br))), (qx, .inl (cB, NN, .inl f)), (Q2.qq, .inl (cI, (8 * Q2.C), .inl Q2.qf)), (Q2.qe, .inl (cL, (3 * Q2.C), .inr (.inl Q2.ef))), (tv, .inr (12, MF 13 (tw V))), (V.au, .inl (cC, V.U, .inl V.un))] H := hP
      have hD : va_D A [(mo, .inr (13, MF 30 (rf (rs v Q2 o) (i + 1) br))), (qx, .inl (cB, NN, .inl f)), (Q2.qq, .inl (cI, (8 * Q2.C), .inl Q2.qf)), (Q2.qe, .inl (cL, (3 * Q2.C), .inr (.inl Q2.ef))), (tv, .inr (12, MF 13 (tw V))), (V.au, .inl (cC, V.U, .inl V.un))] := hD
      refine lv_aload_n hx hb d_Mo_segment_33 rfl (lv_at hl 1 rfl) ?_
      have hPc := hP.sub (ws' := [(mo, .inr (13, MF 30 (rf (rs v Q2 o) (i + 1) br))), (qx, .inl (cB, NN, .inl f))]) [0, 1] rfl
      have hDc := hD.sub (ws' := [(mo, .inr (13, MF 30 (rf (rs v Q2 o) (i + 1) br))), (qx, .inl (cB, NN, .inl f))]) [0, 1] (by decide) rfl
      have hKc := hK.sub (tys' := [(cB, .byte)]) [0] rfl
      have hFc := va_free (wc := [(mo, .inr (13, MF 30 (rf (rs v Q2 o) (i + 1) br))), (qx, .inl (cB, NN, .inl f))]) hD hS hA [0, 1] rfl
      refine va_calli (va_runV (As := []) (rest := []) ⟨hx, hb, hml, hown, hts⟩ (c_Mo_c l dC dI mo H (rf (rs v Q2 o) (i + 1) br) cB qx NN f n (i + 1) (by omega) (by omega) (by omega) ((rf_ne (by decide) (by decide)).trans ((rs_ne (by decide) (by decide) (by decide) (by decide)).trans h6)) rf_7 ((rf_ne (by decide) (by decide)).trans ((rs_ne (by decide) (by decide) (by decide) (by decide)).trans h8))) (cwV 0 hts (gt_V (own := R_Mo) (C := R_Mo) (i := 147) (y := y_Mo_c) i_Mo_c w_1233 w_1235 (gt_sel (y := y_Mo_c) (n := 30) (by decide +kernel)) w_7) rfl rfl rfl (by decide +kernel) ⟨Nat.le_trans (m := 9) (Nat.le_of_ble_eq_true rfl) (Nat.le_add_right 9 F), Nat.le_trans (m := 280) (Nat.le_of_ble_eq_true rfl) (Nat.le_add_right 280 L)⟩) ⟨mp_blind, va_recv hKc hPc (ci := 13) (q0 := 0) rfl rfl, fun U hU hW => ⟨rfl, hU, by rw [hU]; exact hPc, va_K.moved hW.alike hKc, hDc.weaken (fun _ _ _ _ => trivial)⟩⟩ rfl rfl hl.1 rfl (lv_room (Nat.le_of_ble_eq_true rfl)) d_Mo_segment_34 ⟨hfit_Q2V.1, hfit_Q2V.2⟩) hS (fun q _ h => hFc q h) hFc (fun r2 _u t9 H1 locs ht hvm hw hB hz1 hk1 hS => ?_)
      obtain ⟨hP1, hK1, hD1⟩ := hB
      rw [ht] at hP1
      obtain ⟨hP, hD⟩ := va_join (wr := [(Q2.qq, .inl (cI, (8 * Q2.C), .inl Q2.qf)), (Q2.qe, .inl (cL, (3 * Q2.C), .inr (.inl Q2.ef))), (tv, .inr (12, MF 13 (tw V))), (V.au, .inl (cC, V.U, .inl V.un))]) (w1 := [(mo, .inr (13, MF 30 (rf (rs v Q2 o) (i + 1) br))), (qx, .inl (cB, NN, .inl f))]) hP hD [0, 1] [2, 3, 4, 5] rfl rfl (by decide) (by decide) hk1 hFc hP1 hD1
      generalize H1 = H at hP hS ⊢
      have hP : va_P (dC, dI) classes [(Q2.qq, .inl (cI, (8 * Q2.C), .inl Q2.qf)), (Q2.qe, .inl (cL, (3 * Q2.C), .inr (.inl Q2.ef))), (tv, .inr (12, MF 13 (tw V))), (V.au, .inl (cC, V.U, .inl V.un)), (mo, .inr (13, MF 30 (rf (rs v Q2 o) (i + 1) br))), (qx, .inl (cB, NN, .inl f))] H := hP
      have hD : va_D A [(Q2.qq, .inl (cI, (8 * Q2.C), .inl Q2.qf)), (Q2.qe, .inl (cL, (3 * Q2.C), .inr (.inl Q2.ef))), (tv, .inr (12, MF 13 (tw V))), (V.au, .inl (cC, V.U, .inl V.un)), (mo, .inr (13, MF 30 (rf (rs v Q2 o) (i + 1) br))), (qx, .inl (cB, NN, .inl f))] := hD
      have hP := hP.sub (ws' := [(mo, .inr (13, MF 30 (rf (rs v Q2 o) (i + 1) br))), (qx, .inl (cB, NN, .inl f)), (Q2.qq, .inl (cI, (8 * Q2.C), .inl Q2.qf)), (Q2.qe, .inl (cL, (3 * Q2.C), .inr (.inl Q2.ef))), (tv, .inr (12, MF 13 (tw V))), (V.au, .inl (cC, V.U, .inl V.un))]) [4, 5, 0, 1, 2, 3] rfl
      have hD := hD.sub (ws' := [(mo, .inr (13, MF 30 (rf (rs v Q2 o) (i + 1) br))), (qx, .inl (cB, NN, .inl f)), (Q2.qq, .inl (cI, (8 * Q2.C), .inl Q2.qf)), (Q2.qe, .inl (cL, (3 * Q2.C), .inr (.inl Q2.ef))), (tv, .inr (12, MF 13 (tw V))), (V.au, .inl (cC, V.U, .inl V.un))]) [4, 5, 0, 1, 2, 3] (by decide) rfl
      have h_r2 : r2 = hereV f n (i + 1) := hw
      refine lv_bipush (v := 46) hx hb d_Mo_segment_37 (by decide) ?_
      refine lv_icmp_ne (tgt := 95) hx hb d_Mo_segment_39 (by decide) (fun c39 => ?_) (fun c39 => ?_)
      · exact jn95 (Q2, (i + 1), br, true, false) _ _ _ ⟨hSG, hQk_Q2, hG_Q2V, by show i + 1 ≤ (i + 1); omega, by show (i + 1) ≤ n; omega, sgP_d hdot (fun h => c39 (h_r2.trans h.1))⟩ hP hD hS (lv_sub hl [1, 2, 3, 0] rfl)
      · refine lv_iload_n hx hb d_Mo_segment_42 rfl (lv_at hl 3 rfl) ?_
        refine lv_if_ne (tgt := 95) hx hb d_Mo_segment_43 (by decide) (fun h => absurd h (by decide)) (fun _ => ?_)
        refine lv_aload_n hx hb d_Mo_segment_46 rfl (lv_at hl 1 rfl) ?_
        refine lv_dup hx hb d_Mo_segment_47 rfl ?_
        refine va_get (D := (dC, dI)) (ci := 13) (v := .int (nI (i + 1))) (C := R_Mo) (T := F_Mo) (N := 30) hx hb hts in_Mo hown hK hP 0 rfl rfl 7 (by decide) (hts _ w_1096) (fun _ h9 => h9) (MFg (by decide) rf_7) d_Mo_segment_48 ?_
        refine lv_iconst (v := 1) hx hb d_Mo_segment_51 (by decide) ?_
        refine lv_iadd hx hb d_Mo_segment_52 ?_
        have hltd := here_in (h_r2.symm.trans c39) (by decide)
        refine W.eq (g2 := F0 m 53 ls [.int (nI ((i + 1) + 1)), .ref mo]) (by rw [show ((nI (i + 1)) + 1) = (nI ((i + 1) + 1)) from nI_1 _]) ?_
        refine va_put (D := (dC, dI)) (ci := 13) (v := .int (nI ((i + 1) + 1))) (ty := .int) (C := R_Mo) (T := F_Mo) (N := 30) hx hb hts in_Mo t_Mo t_Mo_ok n_Mo hown hK hP hD hS 0 rfl rfl 7 (by decide) (hts _ w_1096) (fun _ h9 => h9) rfl (by decide +kernel) rfl rfl (by rw [MFl]; decide) d_Mo_segment_53 (fun H locs hP hD hS => ?_)
        rw [MFs (n := 30) (k := 7) (by decide)] at hP hD
        have hP : va_P (dC, dI) classes [(mo, .inr (13, MF 30 (va_up (rf (rs v Q2 o) (i + 1) br) 7 (.int (nI ((i + 1) + 1)))))), (qx, .inl (cB, NN, .inl f)), (Q2.qq, .inl (cI, (8 * Q2.C), .inl Q2.qf)), (Q2.qe, .inl (cL, (3 * Q2.C), .inr (.inl Q2.ef))), (tv, .inr (12, MF 13 (tw V))), (V.au, .inl (cC, V.U, .inl V.un))] H := hP
        have hD : va_D A [(mo, .inr (13, MF 30 (va_up (rf (rs v Q2 o) (i + 1) br) 7 (.int (nI ((i + 1) + 1)))))), (qx, .inl (cB, NN, .inl f)), (Q2.qq, .inl (cI, (8 * Q2.C), .inl Q2.qf)), (Q2.qe, .inl (cL, (3 * Q2.C), .inr (.inl Q2.ef))), (tv, .inr (12, MF 13 (tw V))), (V.au, .inl (cC, V.U, .inl V.un))] := hD
        rw [rf_u7] at hP hD
        have hP : va_P (dC, dI) classes [(mo, .inr (13, MF 30 (rf (rs v Q2 o) ((i + 1) + 1) br))), (qx, .inl (cB, NN, .inl f)), (Q2.qq, .inl (cI, (8 * Q2.C), .inl Q2.qf)), (Q2.qe, .inl (cL, (3 * Q2.C), .inr (.inl Q2.ef))), (tv, .inr (12, MF 13 (tw V))), (V.au, .inl (cC, V.U, .inl V.un))] H := hP
        have hD : va_D A [(mo, .inr (13, MF 30 (rf (rs v Q2 o) ((i + 1) + 1) br))), (qx, .inl (cB, NN, .inl f)), (Q2.qq, .inl (cI, (8 * Q2.C), .inl Q2.qf)), (Q2.qe, .inl (cL, (3 * Q2.C), .inr (.inl Q2.ef))), (tv, .inr (12, MF 13 (tw V))), (V.au, .inl (cC, V.U, .inl V.un))] := hD
        refine lv_aload_n hx hb d_Mo_segment_56 rfl (lv_at hl 1 rfl) ?_
        refine lv_iload_n hx hb d_Mo_segment_57 rfl (lv_at hl 0 rfl) ?_
        refine lv_iconst (v := 1) hx hb d_Mo_segment_58 (by decide) ?_
        refine lv_iconst (v := 1) hx hb d_Mo_segment_59 (by decide) ?_
        refine W.eq (g2 := F0 m 60 ls [.int 1, .int (nI 1), .int (nI Q.R), .ref mo]) rfl ?_
        have hPc := hP.sub (ws' := [(mo, .inr (13, MF 30 (rf (rs v Q2 o) ((i + 1) + 1) br))), (Q2.qq, .inl (cI, (8 * Q2.C), .inl Q2.qf))]) [0, 2] rfl
        have hDc := hD.sub (ws' := [(mo, .inr (13, MF 30 (rf (rs v Q2 o) ((i + 1) + 1) br))), (Q2.qq, .inl (cI, (8 * Q2.C), .inl Q2.qf))]) [0, 2] (by decide) rfl
        have hKc := hK.sub (tys' := [(cI, .int)]) [1] rfl
        have hFc := va_free (wc := [(mo, .inr (13, MF 30 (rf (rs v Q2 o) ((i + 1) + 1) br))), (Q2.qq, .inl (cI, (8 * Q2.C), .inl Q2.qf))]) hD hS hA [0, 2] rfl
        refine va_callv (va_runV (As := [.int (nI Q.R), .int (nI 1), .int 1]) (rest := []) ⟨hx, hb, hml, hown, hts⟩ (c_Mo_set l dC dI mo H (rf (rs v Q2 o) ((i + 1) + 1) br) cI Q2.qq (8 * Q2.C) Q2.qf Q.R 1 1 (by omega) (by omega) ((rf_ne (by decide) (by decide)).trans rs_19)) (cwV 3 hts (gt_V (own := R_Mo) (C := R_Mo) (i := 272) (y := y_Mo_set) i_Mo_set w_1411 w_1413 (gt_sel (y := y_Mo_set) (n := 30) (by decide +kernel)) w_7) rfl rfl rfl (by decide +kernel) ⟨Nat.le_trans (m := 9) (Nat.le_of_ble_eq_true rfl) (Nat.le_add_right 9 F), Nat.le_trans (m := 280) (Nat.le_of_ble_eq_true rfl) (Nat.le_add_right 280 L)⟩) ⟨mp_blind, va_recv hKc hPc (ci := 13) (q0 := 0) rfl rfl, fun U hU hW => ⟨rfl, hU, by rw [hU]; exact hPc, va_K.moved hW.alike hKc, hDc.weaken (fun _ _ _ _ => trivial)⟩⟩ rfl rfl hl.1 rfl (lv_room (Nat.le_of_ble_eq_true rfl)) d_Mo_segment_60 ⟨hfit_Q2V.1, hfit_Q2V.2⟩) hS (fun q _ h => hFc q h) hFc (fun _u t9 H1 locs ht hvm hw hB hz1 hk1 hS => ?_)
        obtain ⟨hP1, hK1, hD1⟩ := hB
        rw [ht] at hP1
        obtain ⟨hP, hD⟩ := va_join (wr := [(qx, .inl (cB, NN, .inl f)), (Q2.qe, .inl (cL, (3 * Q2.C), .inr (.inl Q2.ef))), (tv, .inr (12, MF 13 (tw V))), (V.au, .inl (cC, V.U, .inl V.un))]) (w1 := [(mo, .inr (13, MF 30 (rf (rs v Q2 o) ((i + 1) + 1) br))), (Q2.qq, .inl (cI, (8 * Q2.C), .inl (upd Q2.qf (8 * Q.R + 1) 1)))]) hP hD [0, 2] [1, 3, 4, 5] rfl rfl (by decide) (by decide) hk1 hFc hP1 hD1
        generalize H1 = H at hP hS ⊢
        have hP : va_P (dC, dI) classes [(qx, .inl (cB, NN, .inl f)), (Q2.qe, .inl (cL, (3 * Q2.C), .inr (.inl Q2.ef))), (tv, .inr (12, MF 13 (tw V))), (V.au, .inl (cC, V.U, .inl V.un)), (mo, .inr (13, MF 30 (rf (rs v Q2 o) ((i + 1) + 1) br))), (Q2.qq, .inl (cI, (8 * Q2.C), .inl (upd Q2.qf (8 * Q.R + 1) 1)))] H := hP
        have hD : va_D A [(qx, .inl (cB, NN, .inl f)), (Q2.qe, .inl (cL, (3 * Q2.C), .inr (.inl Q2.ef))), (tv, .inr (12, MF 13 (tw V))), (V.au, .inl (cC, V.U, .inl V.un)), (mo, .inr (13, MF 30 (rf (rs v Q2 o) ((i + 1) + 1) br))), (Q2.qq, .inl (cI, (8 * Q2.C), .inl (upd Q2.qf (8 * Q.R + 1) 1)))] := hD
        have hP := hP.sub (ws' := [(mo, .inr (13, MF 30 (rf (rs v Q2 o) ((i + 1) + 1) br))), (qx, .inl (cB, NN, .inl f)), (Q2.qq, .inl (cI, (8 * Q2.C), .inl (upd Q2.qf (8 * Q.R + 1) 1))), (Q2.qe, .inl (cL, (3 * Q2.C), .inr (.inl Q2.ef))), (tv, .inr (12, MF 13 (tw V))), (V.au, .inl (cC, V.U, .inl V.un))]) [4, 0, 5, 1, 2, 3] rfl
        have hD := hD.sub (ws' := [(mo, .inr (13, MF 30 (rf (rs v Q2 o) ((i + 1) + 1) br))), (qx, .inl (cB, NN, .inl f)), (Q2.qq, .inl (cI, (8 * Q2.C), .inl (upd Q2.qf (8 * Q.R + 1) 1))), (Q2.qe, .inl (cL, (3 * Q2.C), .inr (.inl Q2.ef))), (tv, .inr (12, MF 13 (tw V))), (V.au, .inl (cC, V.U, .inl V.un))]) [4, 0, 5, 1, 2, 3] (by decide) rfl
        obtain ⟨Q4, e_Q4⟩ : ∃ z : QS, z = QS.wf Q2 (upd Q2.qf (8 * Q.R + 1) 1) := ⟨_, rfl⟩
        have hP : va_P (dC, dI) classes [(mo, .inr (13, MF 30 (rf (rs v Q4 o) ((i + 1) + 1) br))), (qx, .inl (cB, NN, .inl f)), (Q4.qq, .inl (cI, (8 * Q4.C), .inl Q4.qf)), (Q4.qe, .inl (cL, (3 * Q4.C), .inr (.inl Q4.ef))), (tv, .inr (12, MF 13 (tw V))), (V.au, .inl (cC, V.U, .inl V.un))] H := by subst e_Q4; exact hP
        have hD : va_D A [(mo, .inr (13, MF 30 (rf (rs v Q4 o) ((i + 1) + 1) br))), (qx, .inl (cB, NN, .inl f)), (Q4.qq, .inl (cI, (8 * Q4.C), .inl Q4.qf)), (Q4.qe, .inl (cL, (3 * Q4.C), .inr (.inl Q4.ef))), (tv, .inr (12, MF 13 (tw V))), (V.au, .inl (cC, V.U, .inl V.un))] := by subst e_Q4; exact hD
        have hf_Q4 : Q4.C = Q2.C ∧ Q4.R = Q2.R ∧ Q4.qf = upd Q2.qf (8 * Q.R + 1) 1 := by rw [e_Q4]; exact ⟨rfl, rfl, rfl⟩
        have he_Q4 : Q4.ef = Q2.ef := by rw [e_Q4]; rfl
        have hQk_Q4 : QOK Q4 := by rw [e_Q4]; exact hQk_Q2
        have hG_Q4V : GQ (Q.R + 8 * (n - i) + 8) (V.us + (n + 12 - i)) Q V Q4 V := by unfold GQ at hG_Q2V ⊢; rw [hf_Q4.1]; exact hG_Q2V
        refine w_same (fun hq => ?_)
        refine w_tight (k := cQ Q V Q4 V) (n := sQ Q V Q4 V) (by unfold cQ sQ at hq ⊢; rw [hf_Q4.1]; exact hq) ?_
        have hR_Q4 := hf_Q4.2.1
        have hqb_Q4V : Q4.R ≤ Q4.C ∧ Q4.C ≤ 100000 := ⟨hQk_Q4.2.2.1, hQk_Q4.2.1⟩
        have hfit_Q4V := hG_Q4V.fits
        refine lv_aload_n hx hb d_Mo_segment_63 rfl (lv_at hl 1 rfl) ?_
        refine lv_iload_n hx hb d_Mo_segment_64 rfl (lv_at hl 2 rfl) ?_
        refine lv_iconst (v := 3) hx hb d_Mo_segment_65 (by decide) ?_
        refine lv_iconst (v := 0) hx hb d_Mo_segment_66 (by decide) ?_
        refine W.eq (g2 := F0 m 67 ls [.int 0, .int (nI 3), .int (nI y), .ref mo]) rfl ?_
        have hPc := hP.sub (ws' := [(mo, .inr (13, MF 30 (rf (rs v Q4 o) ((i + 1) + 1) br))), (Q4.qq, .inl (cI, (8 * Q4.C), .inl Q4.qf))]) [0, 2] rfl
        have hDc := hD.sub (ws' := [(mo, .inr (13, MF 30 (rf (rs v Q4 o) ((i + 1) + 1) br))), (Q4.qq, .inl (cI, (8 * Q4.C), .inl Q4.qf))]) [0, 2] (by decide) rfl
        have hKc := hK.sub (tys' := [(cI, .int)]) [1] rfl
        have hFc := va_free (wc := [(mo, .inr (13, MF 30 (rf (rs v Q4 o) ((i + 1) + 1) br))), (Q4.qq, .inl (cI, (8 * Q4.C), .inl Q4.qf))]) hD hS hA [0, 2] rfl
        refine va_callv (va_runV (As := [.int (nI y), .int (nI 3), .int 0]) (rest := []) ⟨hx, hb, hml, hown, hts⟩ (c_Mo_set l dC dI mo H (rf (rs v Q4 o) ((i + 1) + 1) br) cI Q4.qq (8 * Q4.C) Q4.qf y 3 0 (by omega) (by omega) ((rf_ne (by decide) (by decide)).trans rs_19)) (cwV 3 hts (gt_V (own := R_Mo) (C := R_Mo) (i := 272) (y := y_Mo_set) i_Mo_set w_1411 w_1413 (gt_sel (y := y_Mo_set) (n := 30) (by decide +kernel)) w_7) rfl rfl rfl (by decide +kernel) ⟨Nat.le_trans (m := 9) (Nat.le_of_ble_eq_true rfl) (Nat.le_add_right 9 F), Nat.le_trans (m := 280) (Nat.le_of_ble_eq_true rfl) (Nat.le_add_right 280 L)⟩) ⟨mp_blind, va_recv hKc hPc (ci := 13) (q0 := 0) rfl rfl, fun U hU hW => ⟨rfl, hU, by rw [hU]; exact hPc, va_K.moved hW.alike hKc, hDc.weaken (fun _ _ _ _ => trivial)⟩⟩ rfl rfl hl.1 rfl (lv_room (Nat.le_of_ble_eq_true rfl)) d_Mo_segment_67 ⟨hfit_Q4V.1, hfit_Q4V.2⟩) hS (fun q _ h => hFc q h) hFc (fun _u t9 H1 locs ht hvm hw hB hz1 hk1 hS => ?_)
        obtain ⟨hP1, hK1, hD1⟩ := hB
        rw [ht] at hP1
        obtain ⟨hP, hD⟩ := va_join (wr := [(qx, .inl (cB, NN, .inl f)), (Q4.qe, .inl (cL, (3 * Q4.C), .inr (.inl Q4.ef))), (tv, .inr (12, MF 13 (tw V))), (V.au, .inl (cC, V.U, .inl V.un))]) (w1 := [(mo, .inr (13, MF 30 (rf (rs v Q4 o) ((i + 1) + 1) br))), (Q4.qq, .inl (cI, (8 * Q4.C), .inl (upd Q4.qf (8 * y + 3) 0)))]) hP hD [0, 2] [1, 3, 4, 5] rfl rfl (by decide) (by decide) hk1 hFc hP1 hD1
        generalize H1 = H at hP hS ⊢
        have hP : va_P (dC, dI) classes [(qx, .inl (cB, NN, .inl f)), (Q4.qe, .inl (cL, (3 * Q4.C), .inr (.inl Q4.ef))), (tv, .inr (12, MF 13 (tw V))), (V.au, .inl (cC, V.U, .inl V.un)), (mo, .inr (13, MF 30 (rf (rs v Q4 o) ((i + 1) + 1) br))), (Q4.qq, .inl (cI, (8 * Q4.C), .inl (upd Q4.qf (8 * y + 3) 0)))] H := hP
        have hD : va_D A [(qx, .inl (cB, NN, .inl f)), (Q4.qe, .inl (cL, (3 * Q4.C), .inr (.inl Q4.ef))), (tv, .inr (12, MF 13 (tw V))), (V.au, .inl (cC, V.U, .inl V.un)), (mo, .inr (13, MF 30 (rf (rs v Q4 o) ((i + 1) + 1) br))), (Q4.qq, .inl (cI, (8 * Q4.C), .inl (upd Q4.qf (8 * y + 3) 0)))] := hD
        have hP := hP.sub (ws' := [(mo, .inr (13, MF 30 (rf (rs v Q4 o) ((i + 1) + 1) br))), (qx, .inl (cB, NN, .inl f)), (Q4.qq, .inl (cI, (8 * Q4.C), .inl (upd Q4.qf (8 * y + 3) 0))), (Q4.qe, .inl (cL, (3 * Q4.C), .inr (.inl Q4.ef))), (tv, .inr (12, MF 13 (tw V))), (V.au, .inl (cC, V.U, .inl V.un))]) [4, 0, 5, 1, 2, 3] rfl
        have hD := hD.sub (ws' := [(mo, .inr (13, MF 30 (rf (rs v Q4 o) ((i + 1) + 1) br))), (qx, .inl (cB, NN, .inl f)), (Q4.qq, .inl (cI, (8 * Q4.C), .inl (upd Q4.qf (8 * y + 3) 0))), (Q4.qe, .inl (cL, (3 * Q4.C), .inr (.inl Q4.ef))), (tv, .inr (12, MF 13 (tw V))), (V.au, .inl (cC, V.U, .inl V.un))]) [4, 0, 5, 1, 2, 3] (by decide) rfl
        obtain ⟨Q5, e_Q5⟩ : ∃ z : QS, z = QS.wf Q4 (upd Q4.qf (8 * y + 3) 0) := ⟨_, rfl⟩
        have hP : va_P (dC, dI) classes [(mo, .inr (13, MF 30 (rf (rs v Q5 o) ((i + 1) + 1) br))), (qx, .inl (cB, NN, .inl f)), (Q5.qq, .inl (cI, (8 * Q5.C), .inl Q5.qf)), (Q5.qe, .inl (cL, (3 * Q5.C), .inr (.inl Q5.ef))), (tv, .inr (12, MF 13 (tw V))), (V.au, .inl (cC, V.U, .inl V.un))] H := by subst e_Q5; exact hP
        have hD : va_D A [(mo, .inr (13, MF 30 (rf (rs v Q5 o) ((i + 1) + 1) br))), (qx, .inl (cB, NN, .inl f)), (Q5.qq, .inl (cI, (8 * Q5.C), .inl Q5.qf)), (Q5.qe, .inl (cL, (3 * Q5.C), .inr (.inl Q5.ef))), (tv, .inr (12, MF 13 (tw V))), (V.au, .inl (cC, V.U, .inl V.un))] := by subst e_Q5; exact hD
        have hf_Q5 : Q5.C = Q4.C ∧ Q5.R = Q4.R ∧ Q5.qf = upd Q4.qf (8 * y + 3) 0 := by rw [e_Q5]; exact ⟨rfl, rfl, rfl⟩
        have he_Q5 : Q5.ef = Q4.ef := by rw [e_Q5]; rfl
        have hQk_Q5 : QOK Q5 := by rw [e_Q5]; exact hQk_Q4
        have hG_Q5V : GQ (Q.R + 8 * (n - i) + 8) (V.us + (n + 12 - i)) Q V Q5 V := by unfold GQ at hG_Q4V ⊢; rw [hf_Q5.1]; exact hG_Q4V
        refine w_same (fun hq => ?_)
        refine w_tight (k := cQ Q V Q5 V) (n := sQ Q V Q5 V) (by unfold cQ sQ at hq ⊢; rw [hf_Q5.1]; exact hq) ?_
        have hR_Q5 := hf_Q5.2.1
        have hqb_Q5V : Q5.R ≤ Q5.C ∧ Q5.C ≤ 100000 := ⟨hQk_Q5.2.2.1, hQk_Q5.2.1⟩
        have hfit_Q5V := hG_Q5V.fits
        have hSG5 : SGi Q V Q.R y Q5 V false true := hSG.dd hy hf_Q4.2.2 he_Q4 hf_Q5.2.2 he_Q5 (by omega)
        refine lv_aload_n hx hb d_Mo_segment_70 rfl (lv_at hl 1 rfl) ?_
        have hPc := hP.sub (ws' := [(mo, .inr (13, MF 30 (rf (rs v Q5 o) ((i + 1) + 1) br))), (qx, .inl (cB, NN, .inl f))]) [0, 1] rfl
        have hDc := hD.sub (ws' := [(mo, .inr (13, MF 30 (rf (rs v Q5 o) ((i + 1) + 1) br))), (qx, .inl (cB, NN, .inl f))]) [0, 1] (by decide) rfl
        have hKc := hK.sub (tys' := [(cB, .byte)]) [0] rfl
        have hFc := va_free (wc := [(mo, .inr (13, MF 30 (rf (rs v Q5 o) ((i + 1) + 1) br))), (qx, .inl (cB, NN, .inl f))]) hD hS hA [0, 1] rfl
        refine va_calli (va_runV (As := []) (rest := []) ⟨hx, hb, hml, hown, hts⟩ (c_Mo_c l dC dI mo H (rf (rs v Q5 o) ((i + 1) + 1) br) cB qx NN f n ((i + 1) + 1) (by omega) (by omega) (by omega) ((rf_ne (by decide) (by decide)).trans ((rs_ne (by decide) (by decide) (by decide) (by decide)).trans h6)) rf_7 ((rf_ne (by decide) (by decide)).trans ((rs_ne (by decide) (by decide) (by decide) (by decide)).trans h8))) (cwV 0 hts (gt_V (own := R_Mo) (C := R_Mo) (i := 147) (y := y_Mo_c) i_Mo_c w_1233 w_1235 (gt_sel (y := y_Mo_c) (n := 30) (by decide +kernel)) w_7) rfl rfl rfl (by decide +kernel) ⟨Nat.le_trans (m := 9) (Nat.le_of_ble_eq_true rfl) (Nat.le_add_right 9 F), Nat.le_trans (m := 280) (Nat.le_of_ble_eq_true rfl) (Nat.le_add_right 280 L)⟩) ⟨mp_blind, va_recv hKc hPc (ci := 13) (q0 := 0) rfl rfl, fun U hU hW => ⟨rfl, hU, by rw [hU]; exact hPc, va_K.moved hW.alike hKc, hDc.weaken (fun _ _ _ _ => trivial)⟩⟩ rfl rfl hl.1 rfl (lv_room (Nat.le_of_ble_eq_true rfl)) d_Mo_segment_71 ⟨hfit_Q5V.1, hfit_Q5V.2⟩) hS (fun q _ h => hFc q h) hFc (fun r3 _u t9 H1 locs ht hvm hw hB hz1 hk1 hS => ?_)
        obtain ⟨hP1, hK1, hD1⟩ := hB
        rw [ht] at hP1
        obtain ⟨hP, hD⟩ := va_join (wr := [(Q5.qq, .inl (cI, (8 * Q5.C), .inl Q5.qf)), (Q5.qe, .inl (cL, (3 * Q5.C), .inr (.inl Q5.ef))), (tv, .inr (12, MF 13 (tw V))), (V.au, .inl (cC, V.U, .inl V.un))]) (w1 := [(mo, .inr (13, MF 30 (rf (rs v Q5 o) ((i + 1) + 1) br))), (qx, .inl (cB, NN, .inl f))]) hP hD [0, 1] [2, 3, 4, 5] rfl rfl (by decide) (by decide) hk1 hFc hP1 hD1
        generalize H1 = H at hP hS ⊢
        have hP : va_P (dC, dI) classes [(Q5.qq, .inl (cI, (8 * Q5.C), .inl Q5.qf)), (Q5.qe, .inl (cL, (3 * Q5.C), .inr (.inl Q5.ef))), (tv, .inr (12, MF 13 (tw V))), (V.au, .inl (cC, V.U, .inl V.un)), (mo, .inr (13, MF 30 (rf (rs v Q5 o) ((i + 1) + 1) br))), (qx, .inl (cB, NN, .inl f))] H := hP
        have hD : va_D A [(Q5.qq, .inl (cI, (8 * Q5.C), .inl Q5.qf)), (Q5.qe, .inl (cL, (3 * Q5.C), .inr (.inl Q5.ef))), (tv, .inr (12, MF 13 (tw V))), (V.au, .inl (cC, V.U, .inl V.un)), (mo, .inr (13, MF 30 (rf (rs v Q5 o) ((i + 1) + 1) br))), (qx, .inl (cB, NN, .inl f))] := hD
        have hP := hP.sub (ws' := [(mo, .inr (13, MF 30 (rf (rs v Q5 o) ((i + 1) + 1) br))), (qx, .inl (cB, NN, .inl f)), (Q5.qq, .inl (cI, (8 * Q5.C), .inl Q5.qf)), (Q5.qe, .inl (cL, (3 * Q5.C), .inr (.inl Q5.ef))), (tv, .inr (12, MF 13 (tw V))), (V.au, .inl (cC, V.U, .inl V.un))]) [4, 5, 0, 1, 2, 3] rfl
        have hD := hD.sub (ws' := [(mo, .inr (13, MF 30 (rf (rs v Q5 o) ((i + 1) + 1) br))), (qx, .inl (cB, NN, .inl f)), (Q5.qq, .inl (cI, (8 * Q5.C), .inl Q5.qf)), (Q5.qe, .inl (cL, (3 * Q5.C), .inr (.inl Q5.ef))), (tv, .inr (12, MF 13 (tw V))), (V.au, .inl (cC, V.U, .inl V.un))]) [4, 5, 0, 1, 2, 3] (by decide) rfl
        have h_r3 : r3 = hereV f n ((i + 1) + 1) := hw
        refine lv_bipush (v := 91) hx hb d_Mo_segment_74 (by decide) ?_
        refine lv_icmp_ne (tgt := 95) hx hb d_Mo_segment_76 (by decide) (fun c76 => ?_) (fun c76 => ?_)
        · have hlt1 := here_in (h_r2.symm.trans c39) (by decide)
          exact jn95 (Q5, ((i + 1) + 1), br, false, true) _ _ _ ⟨hSG5, hQk_Q5, hG_Q5V, by show i + 1 ≤ ((i + 1) + 1); omega, by show ((i + 1) + 1) ≤ n; omega, sgP_c hdot ⟨h_r2.symm.trans c39, rfl⟩ (fun h => c76 (h_r3.trans h))⟩ hP hD hS (lv_sub hl [1, 2, 3, 0] rfl)
        · refine lv_aload_n hx hb d_Mo_segment_79 rfl (lv_at hl 1 rfl) ?_
          refine lv_iload_n hx hb d_Mo_segment_80 rfl (lv_at hl 2 rfl) ?_
          refine lv_iload_n hx hb d_Mo_segment_81 rfl (lv_at hl 0 rfl) ?_
          refine lv_iload_n hx hb d_Mo_segment_82 rfl (lv_at hl 3 rfl) ?_
          have hPc := hP.sub (ws' := [(mo, .inr (13, MF 30 (rf (rs v Q5 o) ((i + 1) + 1) br))), (qx, .inl (cB, NN, .inl f)), (Q5.qq, .inl (cI, (8 * Q5.C), .inl Q5.qf)), (Q5.qe, .inl (cL, (3 * Q5.C), .inr (.inl Q5.ef))), (tv, .inr (12, MF 13 (tw V))), (V.au, .inl (cC, V.U, .inl V.un))]) [0, 1, 2, 3, 4, 5] rfl
          have hDc := hD.sub (ws' := [(mo, .inr (13, MF 30 (rf (rs v Q5 o) ((i + 1) + 1) br))), (qx, .inl (cB, NN, .inl f)), (Q5.qq, .inl (cI, (8 * Q5.C), .inl Q5.qf)), (Q5.qe, .inl (cL, (3 * Q5.C), .inr (.inl Q5.ef))), (tv, .inr (12, MF 13 (tw V))), (V.au, .inl (cC, V.U, .inl V.un))]) [0, 1, 2, 3, 4, 5] (by decide) rfl
          have hKc := hK.sub (tys' := [(cB, .byte), (cI, .int), (cL, .long), (cC, .char)]) [0, 1, 2, 3] rfl
          have hFc := va_free (wc := [(mo, .inr (13, MF 30 (rf (rs v Q5 o) ((i + 1) + 1) br))), (qx, .inl (cB, NN, .inl f)), (Q5.qq, .inl (cI, (8 * Q5.C), .inl Q5.qf)), (Q5.qe, .inl (cL, (3 * Q5.C), .inr (.inl Q5.ef))), (tv, .inr (12, MF 13 (tw V))), (V.au, .inl (cC, V.U, .inl V.un))]) hD hS hA [0, 1, 2, 3, 4, 5] rfl
          refine w_same (fun hq0 => ?_)
          refine va_calli (va_runV (As := [.int (nI y), .int (nI Q.R), .int 0]) (rest := []) ⟨hx, hb, hml, hown, hts⟩ (c_sls0 orL O F L hOf l dC dI mo H v cB cI cL cC qx NN f n K tv Q5 V o ((i + 1) + 1) br Q.R y ok hok ho16 hOR hnN hNN (by omega) h6 h8 h22 hQk_Q5 hTk_V (by omega) (by omega) (by omega) (by omega) hSG5.2.2.1) (cwV 3 hts (gt_V (own := R_Mo) (C := R_Mo) (i := 279) (y := y_Mo_selectors) i_Mo_selectors w_1419 w_1421 (gt_sel (y := y_Mo_selectors) (n := 30) (by decide +kernel)) w_7) rfl rfl rfl (by decide +kernel) ⟨by show 8 + F + 1 ≤ 9 + F; omega, by show 8 + (6 + 11) + (240 + L) ≤ 280 + L; omega⟩) ⟨me_blind, va_recv hKc hPc (ci := 13) (q0 := 0) rfl rfl, fun U hU hW => ⟨rfl, ⟨hU, by rw [hU]; exact hPc, va_K.moved hW.alike hKc, hDc.weaken (fun _ _ _ _ => trivial)⟩, by rw [hU]; exact ME.call hM hS.2.1 hFc hW⟩⟩ rfl rfl hl.1 rfl (lv_room (Nat.le_of_ble_eq_true rfl)) d_Mo_segment_83 ⟨(hG_Q5V.step (B2 := Q5.R + 8 * (n - ((i + 1) + 1)) + 7) (C2 := V.us + (n + 12 - ((i + 1) + 1))) (by omega) (by omega)).1, (hG_Q5V.step (B2 := Q5.R + 8 * (n - ((i + 1) + 1)) + 7) (C2 := V.us + (n + 12 - ((i + 1) + 1))) (by omega) (by omega)).2⟩) hS (fun q _ h => hFc q h) hFc (fun r0 ⟨Q6, V6, j6, b6, o6⟩ t9 H1 locs ht hvm hw hB hz1 hk1 hS => ?_)
          obtain ⟨⟨hP1, hK1, hD1⟩, hz9⟩ := hB
          rw [ht] at hP1
          rw [ht] at hz9
          obtain ⟨⟨hQk_Q6, hGn, hTXs, hR1_Q6, hR2_Q6⟩, hw⟩ := hw
          have hQk_Q6 : QOK Q6 := hQk_Q6
          obtain ⟨hG_Q6V6, hGc, hGs⟩ := hG_Q5V.tr hGn (by omega) (by omega)
          have hR1_Q6 : Q5.R ≤ Q6.R := hR1_Q6
          have hR2_Q6 : Q6.R ≤ Q5.R + 8 * (n - ((i + 1) + 1)) + 7 := hR2_Q6
          obtain ⟨us6, hX_V6, hln_V6⟩ := hTXs
          have hX_V6 : TX V V6 us6 := hX_V6
          have hXs_V6 := hX_V6.us
          have hz9 : szk H H1 (cQ Q5 V Q6 V6) (sQ Q5 V Q6 V6) := hz9
          have hq1 : szk s.heap H1 (cQ Q V Q6 V6) (sQ Q V Q6 V6) := (hq0.trans hz9).mono hGc hGs
          refine w_tight hq1 ?_
          obtain ⟨hP, hD⟩ := va_join (wr := []) (w1 := [(mo, .inr (13, MF 30 (rf (rs v Q6 o6) j6 b6))), (qx, .inl (cB, NN, .inl f)), (Q6.qq, .inl (cI, (8 * Q6.C), .inl Q6.qf)), (Q6.qe, .inl (cL, (3 * Q6.C), .inr (.inl Q6.ef))), (tv, .inr (12, MF 13 (tw V6))), (V6.au, .inl (cC, V6.U, .inl V6.un))]) hP hD [0, 1, 2, 3, 4, 5] [] rfl rfl (by decide) (by decide) hk1 hFc hP1 hD1
          generalize H1 = H at hP hS ⊢
          have hP : va_P (dC, dI) classes [(mo, .inr (13, MF 30 (rf (rs v Q6 o6) j6 b6))), (qx, .inl (cB, NN, .inl f)), (Q6.qq, .inl (cI, (8 * Q6.C), .inl Q6.qf)), (Q6.qe, .inl (cL, (3 * Q6.C), .inr (.inl Q6.ef))), (tv, .inr (12, MF 13 (tw V6))), (V6.au, .inl (cC, V6.U, .inl V6.un))] H := hP
          have hD : va_D A [(mo, .inr (13, MF 30 (rf (rs v Q6 o6) j6 b6))), (qx, .inl (cB, NN, .inl f)), (Q6.qq, .inl (cI, (8 * Q6.C), .inl Q6.qf)), (Q6.qe, .inl (cL, (3 * Q6.C), .inr (.inl Q6.ef))), (tv, .inr (12, MF 13 (tw V6))), (V6.au, .inl (cC, V6.U, .inl V6.un))] := hD
          have hP := hP.sub (ws' := [(mo, .inr (13, MF 30 (rf (rs v Q6 o6) j6 b6))), (qx, .inl (cB, NN, .inl f)), (tv, .inr (12, MF 13 (tw V6))), (Q6.qq, .inl (cI, (8 * Q6.C), .inl Q6.qf)), (Q6.qe, .inl (cL, (3 * Q6.C), .inr (.inl Q6.ef))), (V6.au, .inl (cC, V6.U, .inl V6.un))]) [0, 1, 4, 2, 3, 5] rfl
          have hD := hD.sub (ws' := [(mo, .inr (13, MF 30 (rf (rs v Q6 o6) j6 b6))), (qx, .inl (cB, NN, .inl f)), (tv, .inr (12, MF 13 (tw V6))), (Q6.qq, .inl (cI, (8 * Q6.C), .inl Q6.qf)), (Q6.qe, .inl (cL, (3 * Q6.C), .inr (.inl Q6.ef))), (V6.au, .inl (cC, V6.U, .inl V6.un))]) [0, 1, 4, 2, 3, 5] (by decide) rfl
          have hP := hP.sub (ws' := [(mo, .inr (13, MF 30 (rf (rs v Q6 o6) j6 b6))), (qx, .inl (cB, NN, .inl f)), (Q6.qq, .inl (cI, (8 * Q6.C), .inl Q6.qf)), (Q6.qe, .inl (cL, (3 * Q6.C), .inr (.inl Q6.ef))), (tv, .inr (12, MF 13 (tw V6))), (V6.au, .inl (cC, V6.U, .inl V6.un))]) [0, 1, 3, 4, 2, 5] rfl
          have hD := hD.sub (ws' := [(mo, .inr (13, MF 30 (rf (rs v Q6 o6) j6 b6))), (qx, .inl (cB, NN, .inl f)), (Q6.qq, .inl (cI, (8 * Q6.C), .inl Q6.qf)), (Q6.qe, .inl (cL, (3 * Q6.C), .inr (.inl Q6.ef))), (tv, .inr (12, MF 13 (tw V6))), (V6.au, .inl (cC, V6.U, .inl V6.un))]) [0, 1, 3, 4, 2, 5] (by decide) rfl
          have hTk_V6 := hX_V6.ok hTk_V (by omega)
          have hqb_Q6V6 : Q6.R ≤ Q6.C ∧ Q6.C ≤ 100000 := ⟨hQk_Q6.2.2.1, hQk_Q6.2.1⟩
          have hfit_Q6V6 := hG_Q6V6.fits
          rcases hw with ⟨fl1, l1, hv_1, hv_2, hv_3, hv_4, hv_5, hv_6, hv_7, hv_8, hv_9⟩ | ⟨hv_1, hv_2⟩
          · have hv_9 : o = o6 := hv_9.symm
            subst hv_9
            have hP : va_P (dC, dI) classes [(mo, .inr (13, MF 30 (rf (rs v Q6 o) j6 b6))), (qx, .inl (cB, NN, .inl f)), (Q6.qq, .inl (cI, (8 * Q6.C), .inl Q6.qf)), (Q6.qe, .inl (cL, (3 * Q6.C), .inr (.inl Q6.ef))), (tv, .inr (12, MF 13 (tw V6))), (V6.au, .inl (cC, V6.U, .inl V6.un))] H := hP
            have hD : va_D A [(mo, .inr (13, MF 30 (rf (rs v Q6 o) j6 b6))), (qx, .inl (cB, NN, .inl f)), (Q6.qq, .inl (cI, (8 * Q6.C), .inl Q6.qf)), (Q6.qe, .inl (cL, (3 * Q6.C), .inr (.inl Q6.ef))), (tv, .inr (12, MF 13 (tw V6))), (V6.au, .inl (cC, V6.U, .inl V6.un))] := hD
            have hv_2 : slsP f n ok (orL f n) false ((i + 1) + 1) = some (j6, fl1, l1) := hv_2
            have hv_6 : Q6.R + 8 * ((i + 1) + 1) + 8 ≤ Q5.R + 8 * j6 := hv_6
            have hv_7 : V6.us + ((i + 1) + 1) ≤ V.us + j6 := hv_7
            have hv_8 : j6 ≤ n := hv_8
            have hSF : SGf O Q V Q.R y Q6 V6 false (segS true l1) := hSG5.sls hy (by omega) hv_3.1 hv_4 hv_5 hv_3.2
            subst hv_1
            refine lv_if_eq (tgt := 93) hx hb d_Mo_segment_86 (by decide) (fun h => absurd h (by decide)) (fun _ => ?_)
            refine lv_iload_n hx hb d_Mo_segment_89 rfl (lv_at hl 0 rfl) ?_
            refine lv_goto (tgt := 94) hx hb d_Mo_segment_90 (by decide) ?_
            have hfin : sgP f n ok (orL f n) false i = some (j6, false, segS true l1) := by rw [sgP_b hdot ⟨h_r2.symm.trans c39, rfl⟩ (h_r3.symm.trans c76)]; exact congrArg (Option.map (fun p => (p.1, false, segS true p.2.2))) hv_2
            refine w_same (fun hq => ?_)
            refine W.widen (k := kcap Q (Q.R + 8 * (n - i) + 8) + qcap V (V.us + (n + 12 - i))) (n := 22 * kcap Q (Q.R + 8 * (n - i) + 8) + 2 * qcap V (V.us + (n + 12 - i))) hfit_Q6V6.1 hfit_Q6V6.2 ?_
            have hPo : QPo n i 8 Q V (Q6, V6, j6, b6, o) := ⟨hQk_Q6, hG_Q6V6, ⟨_, hX_V6, by omega⟩, by show Q.R ≤ Q6.R; omega, by show Q6.R ≤ Q.R + 8 * (n - i) + 8; omega⟩
            exact W.iret (v := nI Q.R) hx hb hr (fun t9 ht hW => ⟨⟨nI Q.R, (Q6, V6, j6, b6, o), rfl, ⟨hPo, Or.inl ⟨false, segS true l1, rfl, hfin, hSF, by show Q6.R + 8 * i + 7 ≤ Q.R + 8 * j6; omega, by show V6.us + i ≤ V.us + j6; omega, by show j6 ≤ n; omega, by show Q.R < Q6.R; omega, rfl⟩⟩, ⟨by rw [ht]; exact hP, va_K.moved hW.alike hK, hD⟩, by rw [ht]; exact hq⟩, hS.F ht⟩) hS.2.2 d_Mo_segment_94
          · have hv_2 : slsP f n ok (orL f n) false ((i + 1) + 1) = none := hv_2
            subst hv_1
            refine lv_if_eq (tgt := 93) hx hb d_Mo_segment_86 (by decide) (fun _ => ?_) (fun h => absurd (by decide) h)
            refine lv_iconst (v := (-1)) hx hb d_Mo_segment_93 (by decide) ?_
            have hfin : sgP f n ok (orL f n) false i = none := by rw [sgP_b hdot ⟨h_r2.symm.trans c39, rfl⟩ (h_r3.symm.trans c76)]; exact congrArg (Option.map (fun p => (p.1, false, segS true p.2.2))) hv_2
            refine w_same (fun hq => ?_)
            refine W.widen (k := kcap Q (Q.R + 8 * (n - i) + 8) + qcap V (V.us + (n + 12 - i))) (n := 22 * kcap Q (Q.R + 8 * (n - i) + 8) + 2 * qcap V (V.us + (n + 12 - i))) hfit_Q6V6.1 hfit_Q6V6.2 ?_
            have hPo : QPo n i 8 Q V (Q6, V6, j6, b6, o6) := ⟨hQk_Q6, hG_Q6V6, ⟨_, hX_V6, by omega⟩, by show Q.R ≤ Q6.R; omega, by show Q6.R ≤ Q.R + 8 * (n - i) + 8; omega⟩
            exact W.iret (v := -1) hx hb hr (fun t9 ht hW => ⟨⟨-1, (Q6, V6, j6, b6, o6), rfl, ⟨hPo, Or.inr ⟨rfl, hfin⟩⟩, ⟨by rw [ht]; exact hP, va_K.moved hW.alike hK, hD⟩, by rw [ht]; exact hq⟩, hS.F ht⟩) hS.2.2 d_Mo_segment_94
    · rintro ⟨Qj, j, b, fl, ds⟩ H locs ls hI95 hP hD hS hl
      have hP : va_P (dC, dI) classes [(mo, .inr (13, MF 30 (rf (rs v Qj o) j b))), (qx, .inl (cB, NN, .inl f)), (Qj.qq, .inl (cI, (8 * Qj.C), .inl Qj.qf)), (Qj.qe, .inl (cL, (3 * Qj.C), .inr (.inl Qj.ef))), (tv, .inr (12, MF 13 (tw V))), (V.au, .inl (cC, V.U, .inl V.un))] H := hP
      have hD : va_D A [(mo, .inr (13, MF 30 (rf (rs v Qj o) j b))), (qx, .inl (cB, NN, .inl f)), (Qj.qq, .inl (cI, (8 * Qj.C), .inl Qj.qf)), (Qj.qe, .inl (cL, (3 * Qj.C), .inr (.inl Qj.ef))), (tv, .inr (12, MF 13 (tw V))), (V.au, .inl (cC, V.U, .inl V.un))] := hD
      have hl : lv_has ls 5 [(0, .ref mo), (1, .int (nI y)), (2, .int 0), (3, .int (nI Q.R))] := hl
      obtain ⟨hSGj, hQk_Qj, hG_QjV, hj1, hj2, hsN⟩ := hI95
      have hqb_QjV : Qj.R ≤ Qj.C ∧ Qj.C ≤ 100000 := ⟨hQk_Qj.2.2.1, hQk_Qj.2.1⟩
      have hfit_QjV := hG_QjV.fits
      have hR_Qj := hSGj.1
      refine lv_aload_n hx hb d_Mo_segment_95 rfl (lv_at hl 0 rfl) ?_
      have hPc := hP.sub (ws' := [(mo, .inr (13, MF 30 (rf (rs v Qj o) j b))), (qx, .inl (cB, NN, .inl f))]) [0, 1] rfl
      have hDc := hD.sub (ws' := [(mo, .inr (13, MF 30 (rf (rs v Qj o) j b))), (qx, .inl (cB, NN, .inl f))]) [0, 1] (by decide) rfl
      have hKc := hK.sub (tys' := [(cB, .byte)]) [0] rfl
      have hFc := va_free (wc := [(mo, .inr (13, MF 30 (rf (rs v Qj o) j b))), (qx, .inl (cB, NN, .inl f))]) hD hS hA [0, 1] rfl
      refine va_calli (va_runV (As := []) (rest := []) ⟨hx, hb, hml, hown, hts⟩ (c_Mo_c l dC dI mo H (rf (rs v Qj o) j b) cB qx NN f n j (by omega) (by omega) (by omega) ((rf_ne (by decide) (by decide)).trans ((rs_ne (by decide) (by decide) (by decide) (by decide)).trans h6)) rf_7 ((rf_ne (by decide) (by decide)).trans ((rs_ne (by decide) (by decide) (by decide) (by decide)).trans h8))) (cwV 0 hts (gt_V (own := R_Mo) (C := R_Mo) (i := 147) (y := y_Mo_c) i_Mo_c w_1233 w_1235 (gt_sel (y := y_Mo_c) (n := 30) (by decide +kernel)) w_7) rfl rfl rfl (by decide +kernel) ⟨Nat.le_trans (m := 9) (Nat.le_of_ble_eq_true rfl) (Nat.le_add_right 9 F), Nat.le_trans (m := 280) (Nat.le_of_ble_eq_true rfl) (Nat.le_add_right 280 L)⟩) ⟨mp_blind, va_recv hKc hPc (ci := 13) (q0 := 0) rfl rfl, fun U hU hW => ⟨rfl, hU, by rw [hU]; exact hPc, va_K.moved hW.alike hKc, hDc.weaken (fun _ _ _ _ => trivial)⟩⟩ rfl rfl hl.1 rfl (lv_room (Nat.le_of_ble_eq_true rfl)) d_Mo_segment_96 ⟨hfit_QjV.1, hfit_QjV.2⟩) hS (fun q _ h => hFc q h) hFc (fun r4 _u t9 H1 locs ht hvm hw hB hz1 hk1 hS => ?_)
      obtain ⟨hP1, hK1, hD1⟩ := hB
      rw [ht] at hP1
      obtain ⟨hP, hD⟩ := va_join (wr := [(Qj.qq, .inl (cI, (8 * Qj.C), .inl Qj.qf)), (Qj.qe, .inl (cL, (3 * Qj.C), .inr (.inl Qj.ef))), (tv, .inr (12, MF 13 (tw V))), (V.au, .inl (cC, V.U, .inl V.un))]) (w1 := [(mo, .inr (13, MF 30 (rf (rs v Qj o) j b))), (qx, .inl (cB, NN, .inl f))]) hP hD [0, 1] [2, 3, 4, 5] rfl rfl (by decide) (by decide) hk1 hFc hP1 hD1
      generalize H1 = H at hP hS ⊢
      have hP : va_P (dC, dI) classes [(Qj.qq, .inl (cI, (8 * Qj.C), .inl Qj.qf)), (Qj.qe, .inl (cL, (3 * Qj.C), .inr (.inl Qj.ef))), (tv, .inr (12, MF 13 (tw V))), (V.au, .inl (cC, V.U, .inl V.un)), (mo, .inr (13, MF 30 (rf (rs v Qj o) j b))), (qx, .inl (cB, NN, .inl f))] H := hP
      have hD : va_D A [(Qj.qq, .inl (cI, (8 * Qj.C), .inl Qj.qf)), (Qj.qe, .inl (cL, (3 * Qj.C), .inr (.inl Qj.ef))), (tv, .inr (12, MF 13 (tw V))), (V.au, .inl (cC, V.U, .inl V.un)), (mo, .inr (13, MF 30 (rf (rs v Qj o) j b))), (qx, .inl (cB, NN, .inl f))] := hD
      have hP := hP.sub (ws' := [(mo, .inr (13, MF 30 (rf (rs v Qj o) j b))), (qx, .inl (cB, NN, .inl f)), (Qj.qq, .inl (cI, (8 * Qj.C), .inl Qj.qf)), (Qj.qe, .inl (cL, (3 * Qj.C), .inr (.inl Qj.ef))), (tv, .inr (12, MF 13 (tw V))), (V.au, .inl (cC, V.U, .inl V.un))]) [4, 5, 0, 1, 2, 3] rfl
      have hD := hD.sub (ws' := [(mo, .inr (13, MF 30 (rf (rs v Qj o) j b))), (qx, .inl (cB, NN, .inl f)), (Qj.qq, .inl (cI, (8 * Qj.C), .inl Qj.qf)), (Qj.qe, .inl (cL, (3 * Qj.C), .inr (.inl Qj.ef))), (tv, .inr (12, MF 13 (tw V))), (V.au, .inl (cC, V.U, .inl V.un))]) [4, 5, 0, 1, 2, 3] (by decide) rfl
      have h_r4 : r4 = hereV f n j := hw
      refine lv_bipush (v := 42) hx hb d_Mo_segment_99 (by decide) ?_
      refine lv_icmp_ne (tgt := 138) hx hb d_Mo_segment_101 (by decide) (fun c101 => ?_) (fun c101 => ?_)
      · refine lv_aload_n hx hb d_Mo_segment_138 rfl (lv_at hl 0 rfl) ?_
        have hPc := hP.sub (ws' := [(mo, .inr (13, MF 30 (rf (rs v Qj o) j b))), (qx, .inl (cB, NN, .inl f))]) [0, 1] rfl
        have hDc := hD.sub (ws' := [(mo, .inr (13, MF 30 (rf (rs v Qj o) j b))), (qx, .inl (cB, NN, .inl f))]) [0, 1] (by decide) rfl
        have hKc := hK.sub (tys' := [(cB, .byte)]) [0] rfl
        have hFc := va_free (wc := [(mo, .inr (13, MF 30 (rf (rs v Qj o) j b))), (qx, .inl (cB, NN, .inl f))]) hD hS hA [0, 1] rfl
        refine va_calli (va_runV (As := []) (rest := []) ⟨hx, hb, hml, hown, hts⟩ (c_Mo_c l dC dI mo H (rf (rs v Qj o) j b) cB qx NN f n j (by omega) (by omega) (by omega) ((rf_ne (by decide) (by decide)).trans ((rs_ne (by decide) (by decide) (by decide) (by decide)).trans h6)) rf_7 ((rf_ne (by decide) (by decide)).trans ((rs_ne (by decide) (by decide) (by decide) (by decide)).trans h8))) (cwV 0 hts (gt_V (own := R_Mo) (C := R_Mo) (i := 147) (y := y_Mo_c) i_Mo_c w_1233 w_1235 (gt_sel (y := y_Mo_c) (n := 30) (by decide +kernel)) w_7) rfl rfl rfl (by decide +kernel) ⟨Nat.le_trans (m := 9) (Nat.le_of_ble_eq_true rfl) (Nat.le_add_right 9 F), Nat.le_trans (m := 280) (Nat.le_of_ble_eq_true rfl) (Nat.le_add_right 280 L)⟩) ⟨mp_blind, va_recv hKc hPc (ci := 13) (q0 := 0) rfl rfl, fun U hU hW => ⟨rfl, hU, by rw [hU]; exact hPc, va_K.moved hW.alike hKc, hDc.weaken (fun _ _ _ _ => trivial)⟩⟩ rfl rfl hl.1 rfl (lv_room (Nat.le_of_ble_eq_true rfl)) d_Mo_segment_139 ⟨hfit_QjV.1, hfit_QjV.2⟩) hS (fun q _ h => hFc q h) hFc (fun r5 _u t9 H1 locs ht hvm hw hB hz1 hk1 hS => ?_)
        obtain ⟨hP1, hK1, hD1⟩ := hB
        rw [ht] at hP1
        obtain ⟨hP, hD⟩ := va_join (wr := [(Qj.qq, .inl (cI, (8 * Qj.C), .inl Qj.qf)), (Qj.qe, .inl (cL, (3 * Qj.C), .inr (.inl Qj.ef))), (tv, .inr (12, MF 13 (tw V))), (V.au, .inl (cC, V.U, .inl V.un))]) (w1 := [(mo, .inr (13, MF 30 (rf (rs v Qj o) j b))), (qx, .inl (cB, NN, .inl f))]) hP hD [0, 1] [2, 3, 4, 5] rfl rfl (by decide) (by decide) hk1 hFc hP1 hD1
        generalize H1 = H at hP hS ⊢
        have hP : va_P (dC, dI) classes [(Qj.qq, .inl (cI, (8 * Qj.C), .inl Qj.qf)), (Qj.qe, .inl (cL, (3 * Qj.C), .inr (.inl Qj.ef))), (tv, .inr (12, MF 13 (tw V))), (V.au, .inl (cC, V.U, .inl V.un)), (mo, .inr (13, MF 30 (rf (rs v Qj o) j b))), (qx, .inl (cB, NN, .inl f))] H := hP
        have hD : va_D A [(Qj.qq, .inl (cI, (8 * Qj.C), .inl Qj.qf)), (Qj.qe, .inl (cL, (3 * Qj.C), .inr (.inl Qj.ef))), (tv, .inr (12, MF 13 (tw V))), (V.au, .inl (cC, V.U, .inl V.un)), (mo, .inr (13, MF 30 (rf (rs v Qj o) j b))), (qx, .inl (cB, NN, .inl f))] := hD
        have hP := hP.sub (ws' := [(mo, .inr (13, MF 30 (rf (rs v Qj o) j b))), (qx, .inl (cB, NN, .inl f)), (Qj.qq, .inl (cI, (8 * Qj.C), .inl Qj.qf)), (Qj.qe, .inl (cL, (3 * Qj.C), .inr (.inl Qj.ef))), (tv, .inr (12, MF 13 (tw V))), (V.au, .inl (cC, V.U, .inl V.un))]) [4, 5, 0, 1, 2, 3] rfl
        have hD := hD.sub (ws' := [(mo, .inr (13, MF 30 (rf (rs v Qj o) j b))), (qx, .inl (cB, NN, .inl f)), (Qj.qq, .inl (cI, (8 * Qj.C), .inl Qj.qf)), (Qj.qe, .inl (cL, (3 * Qj.C), .inr (.inl Qj.ef))), (tv, .inr (12, MF 13 (tw V))), (V.au, .inl (cC, V.U, .inl V.un))]) [4, 5, 0, 1, 2, 3] (by decide) rfl
        have h_r5 : r5 = hereV f n j := hw
        have hPc := hP.sub (ws' := []) [] rfl
        have hDc := hD.sub (ws' := []) [] (by decide) rfl
        have hKc := hK.sub (tys' := []) [] rfl
        have hFc := va_free (wc := []) hD hS hA [] rfl
        refine va_calli (va_runS (As := [.int r5]) (rest := []) ⟨hx, hb, hml, hown, hts⟩ (c_Mo_letter l dC dI H r5) (va_cwS 1 hts (gt_S (own := R_Mo) (i := 283) (y := y_Mo_letter) i_Mo_letter w_1478 w_1479 w_7) rfl rfl rfl (by decide +kernel) ⟨Nat.le_trans (m := 9) (Nat.le_of_ble_eq_true rfl) (Nat.le_add_right 9 F), Nat.le_trans (m := 280) (Nat.le_of_ble_eq_true rfl) (Nat.le_add_right 280 L)⟩) ⟨mp_blind, fun U hU hW => ⟨rfl, hU, by rw [hU]; exact hPc, va_K.moved hW.alike hKc, hDc.weaken (fun _ _ _ _ => trivial)⟩⟩ rfl rfl hl.1 rfl (lv_room (Nat.le_of_ble_eq_true rfl)) d_Mo_segment_142 ⟨hfit_QjV.1, hfit_QjV.2⟩) hS (fun q _ h => hFc q h) hFc (fun t5 _u t9 H1 locs ht hvm hw hB hz1 hk1 hS => ?_)
        obtain ⟨hP1, hK1, hD1⟩ := hB
        rw [ht] at hP1
        obtain ⟨hP, hD⟩ := va_join (wr := [(mo, .inr (13, MF 30 (rf (rs v Qj o) j b))), (qx, .inl (cB, NN, .inl f)), (Qj.qq, .inl (cI, (8 * Qj.C), .inl Qj.qf)), (Qj.qe, .inl (cL, (3 * Qj.C), .inr (.inl Qj.ef))), (tv, .inr (12, MF 13 (tw V))), (V.au, .inl (cC, V.U, .inl V.un))]) (w1 := []) hP hD [] [0, 1, 2, 3, 4, 5] rfl rfl (by decide) (by decide) hk1 hFc hP1 hD1
        generalize H1 = H at hP hS ⊢
        have hP : va_P (dC, dI) classes [(mo, .inr (13, MF 30 (rf (rs v Qj o) j b))), (qx, .inl (cB, NN, .inl f)), (Qj.qq, .inl (cI, (8 * Qj.C), .inl Qj.qf)), (Qj.qe, .inl (cL, (3 * Qj.C), .inr (.inl Qj.ef))), (tv, .inr (12, MF 13 (tw V))), (V.au, .inl (cC, V.U, .inl V.un))] H := hP
        have hD : va_D A [(mo, .inr (13, MF 30 (rf (rs v Qj o) j b))), (qx, .inl (cB, NN, .inl f)), (Qj.qq, .inl (cI, (8 * Qj.C), .inl Qj.qf)), (Qj.qe, .inl (cL, (3 * Qj.C), .inr (.inl Qj.ef))), (tv, .inr (12, MF 13 (tw V))), (V.au, .inl (cC, V.U, .inl V.un))] := hD
        have h_t5 := lt_01 hw
        refine lv_if_ne (tgt := 159) hx hb d_Mo_segment_145 (by decide) (fun c145 => ?_) (fun c145 => ?_)
        · refine lv_aload_n hx hb d_Mo_segment_159 rfl (lv_at hl 0 rfl) ?_
          refine lv_iconst (v := 1) hx hb d_Mo_segment_160 (by decide) ?_
          have hPc := hP.sub (ws' := [(mo, .inr (13, MF 30 (rf (rs v Qj o) j b))), (Qj.qq, .inl (cI, (8 * Qj.C), .inl Qj.qf)), (Qj.qe, .inl (cL, (3 * Qj.C), .inr (.inl Qj.ef)))]) [0, 2, 3] rfl
          have hDc := hD.sub (ws' := [(mo, .inr (13, MF 30 (rf (rs v Qj o) j b))), (Qj.qq, .inl (cI, (8 * Qj.C), .inl Qj.qf)), (Qj.qe, .inl (cL, (3 * Qj.C), .inr (.inl Qj.ef)))]) [0, 2, 3] (by decide) rfl
          have hKc := hK.sub (tys' := [(cI, .int), (cL, .long)]) [1, 2] rfl
          have hFc := va_free (wc := [(mo, .inr (13, MF 30 (rf (rs v Qj o) j b))), (Qj.qq, .inl (cI, (8 * Qj.C), .inl Qj.qf)), (Qj.qe, .inl (cL, (3 * Qj.C), .inr (.inl Qj.ef)))]) hD hS hA [0, 2, 3] rfl
          refine w_same (fun hq0 => ?_)
          refine va_calli (va_runV (As := [.int 1]) (rest := []) ⟨hx, hb, hml, hown, hts⟩ (c_Mo_row l dC dI mo H v cI cL Qj o j b 1 hQk_Qj) (cwV 1 hts (gt_V (own := R_Mo) (C := R_Mo) (i := 269) (y := y_Mo_row) i_Mo_row w_1407 w_1409 (gt_sel (y := y_Mo_row) (n := 30) (by decide +kernel)) w_7) rfl rfl rfl (by decide +kernel) ⟨Nat.le_trans (m := 9) (Nat.le_of_ble_eq_true rfl) (Nat.le_add_right 9 F), Nat.le_trans (m := 280) (Nat.le_of_ble_eq_true rfl) (Nat.le_add_right 280 L)⟩) ⟨mp_blind, va_recv hKc hPc (ci := 13) (q0 := 0) rfl rfl, fun U hU hW => ⟨rfl, hU, by rw [hU]; exact hPc, va_K.moved hW.alike hKc, hDc.weaken (fun _ _ _ _ => trivial)⟩⟩ rfl rfl hl.1 rfl (lv_room (Nat.le_of_ble_eq_true rfl)) d_Mo_segment_161 ⟨(QAd.fit hG_QjV hQk_Qj (by omega)).1, (QAd.fit hG_QjV hQk_Qj (by omega)).2⟩) hS (fun q _ h => hFc q h) hFc (fun r0 Qa t9 H1 locs ht hvm hw hB hz1 hk1 hS => ?_)
          obtain ⟨⟨hP1, hK1, hD1⟩, hz9⟩ := hB
          rw [ht] at hP1
          rw [ht] at hz9
          obtain ⟨hr0, hA_Qa⟩ := hw
          have hA_Qa : QAd Qj Qa 1 := hA_Qa
          obtain ⟨hQk_Qa, hGa, hGb, hGd, hR_Qa⟩ := hA_Qa.gq hQk_Qj (by omega) V
          obtain ⟨hG_QaV, hGc, hGs⟩ := hG_QjV.tr hGa (show Qj.R + 1 ≤ Q.R + 8 * (n - i) + 8 by omega) (Nat.zero_le _)
          have hGc := Nat.le_trans (Nat.add_le_add_left hGb _) hGc
          have hGs := Nat.le_trans (Nat.add_le_add_left hGd _) hGs
          have hq1 : szk s.heap H1 (cQ Q V Qa V) (sQ Q V Qa V) := (hq0.trans hz9).mono hGc hGs
          refine w_tight hq1 ?_
          obtain ⟨hP, hD⟩ := va_join (wr := [(qx, .inl (cB, NN, .inl f)), (tv, .inr (12, MF 13 (tw V))), (V.au, .inl (cC, V.U, .inl V.un))]) (w1 := [(mo, .inr (13, MF 30 (rf (rs v Qa o) j b))), (Qa.qq, .inl (cI, (8 * Qa.C), .inl Qa.qf)), (Qa.qe, .inl (cL, (3 * Qa.C), .inr (.inl Qa.ef)))]) hP hD [0, 2, 3] [1, 4, 5] rfl rfl (by decide) (by decide) hk1 hFc hP1 hD1
          generalize H1 = H at hP hS ⊢
          have hP : va_P (dC, dI) classes [(qx, .inl (cB, NN, .inl f)), (tv, .inr (12, MF 13 (tw V))), (V.au, .inl (cC, V.U, .inl V.un)), (mo, .inr (13, MF 30 (rf (rs v Qa o) j b))), (Qa.qq, .inl (cI, (8 * Qa.C), .inl Qa.qf)), (Qa.qe, .inl (cL, (3 * Qa.C), .inr (.inl Qa.ef)))] H := hP
          have hD : va_D A [(qx, .inl (cB, NN, .inl f)), (tv, .inr (12, MF 13 (tw V))), (V.au, .inl (cC, V.U, .inl V.un)), (mo, .inr (13, MF 30 (rf (rs v Qa o) j b))), (Qa.qq, .inl (cI, (8 * Qa.C), .inl Qa.qf)), (Qa.qe, .inl (cL, (3 * Qa.C), .inr (.inl Qa.ef)))] := hD
          have hP := hP.sub (ws' := [(mo, .inr (13, MF 30 (rf (rs v Qa o) j b))), (qx, .inl (cB, NN, .inl f)), (tv, .inr (12, MF 13 (tw V))), (V.au, .inl (cC, V.U, .inl V.un)), (Qa.qq, .inl (cI, (8 * Qa.C), .inl Qa.qf)), (Qa.qe, .inl (cL, (3 * Qa.C), .inr (.inl Qa.ef)))]) [3, 0, 1, 2, 4, 5] rfl
          have hD := hD.sub (ws' := [(mo, .inr (13, MF 30 (rf (rs v Qa o) j b))), (qx, .inl (cB, NN, .inl f)), (tv, .inr (12, MF 13 (tw V))), (V.au, .inl (cC, V.U, .inl V.un)), (Qa.qq, .inl (cI, (8 * Qa.C), .inl Qa.qf)), (Qa.qe, .inl (cL, (3 * Qa.C), .inr (.inl Qa.ef)))]) [3, 0, 1, 2, 4, 5] (by decide) rfl
          have hP := hP.sub (ws' := [(mo, .inr (13, MF 30 (rf (rs v Qa o) j b))), (qx, .inl (cB, NN, .inl f)), (Qa.qq, .inl (cI, (8 * Qa.C), .inl Qa.qf)), (Qa.qe, .inl (cL, (3 * Qa.C), .inr (.inl Qa.ef))), (tv, .inr (12, MF 13 (tw V))), (V.au, .inl (cC, V.U, .inl V.un))]) [0, 1, 4, 5, 2, 3] rfl
          have hD := hD.sub (ws' := [(mo, .inr (13, MF 30 (rf (rs v Qa o) j b))), (qx, .inl (cB, NN, .inl f)), (Qa.qq, .inl (cI, (8 * Qa.C), .inl Qa.qf)), (Qa.qe, .inl (cL, (3 * Qa.C), .inr (.inl Qa.ef))), (tv, .inr (12, MF 13 (tw V))), (V.au, .inl (cC, V.U, .inl V.un))]) [0, 1, 4, 5, 2, 3] (by decide) rfl
          have hr0 : r0 = nI Qj.R := hr0
          subst hr0
          have hqb_QaV : Qa.R ≤ Qa.C ∧ Qa.C ≤ 100000 := ⟨hQk_Qa.2.2.1, hQk_Qa.2.1⟩
          have hfit_QaV := hG_QaV.fits
          have hE_Qa : alr Qj V Qa V 0 Qj.R := ⟨fun r9 k9 _ h1 h2 => hA_Qa.2.2.1 _ (by omega), ⟨fun r9 k9 _ h1 h2 => hA_Qa.2.2.2.1.2 _ (by omega), Nat.le_refl _, fun _ _ => rfl⟩⟩
          refine lv_istore (lv' := [(4, .int (nI Qj.R)), (0, .ref mo), (1, .int (nI y)), (2, .int 0), (3, .int (nI Q.R))]) hx hb d_Mo_segment_164 hl (by decide) rfl (fun ls hl => ?_)
          refine lv_aload_n hx hb d_Mo_segment_166 rfl (lv_at hl 1 rfl) ?_
          refine lv_iload hx hb d_Mo_segment_167 (lv_at hl 0 rfl) ?_
          refine lv_iconst (v := 2) hx hb d_Mo_segment_169 (by decide) ?_
          refine lv_aload_n hx hb d_Mo_segment_170 rfl (lv_at hl 1 rfl) ?_
          refine va_get (D := (dC, dI)) (ci := 13) (v := .ref tv) (C := R_Mo) (T := F_Mo) (N := 30) hx hb hts in_Mo hown hK hP 0 rfl rfl 22 (by decide) (hts _ w_1111) (fun _ h9 => h9) (MFg (by decide) ((rf_ne (by decide) (by decide)).trans ((rs_ne (by decide) (by decide) (by decide) (by decide)).trans h22))) d_Mo_segment_171 ?_
          refine va_get (D := (dC, dI)) (ci := 12) (v := .int (nI V.us)) (C := R_Tree) (T := F_Tree) (N := 13) hx hb hts in_Tree hown hK hP 4 rfl rfl 12 (by decide) (hts _ w_1058) (fun _ h9 => h9) (MFg (by decide) rfl) d_Mo_segment_174 ?_
          refine W.eq (g2 := F0 m 177 ls [.int (nI V.us), .int (nI 2), .int (nI Qj.R), .ref mo]) rfl ?_
          have hPc := hP.sub (ws' := [(mo, .inr (13, MF 30 (rf (rs v Qa o) j b))), (Qa.qq, .inl (cI, (8 * Qa.C), .inl Qa.qf))]) [0, 2] rfl
          have hDc := hD.sub (ws' := [(mo, .inr (13, MF 30 (rf (rs v Qa o) j b))), (Qa.qq, .inl (cI, (8 * Qa.C), .inl Qa.qf))]) [0, 2] (by decide) rfl
          have hKc := hK.sub (tys' := [(cI, .int)]) [1] rfl
          have hFc := va_free (wc := [(mo, .inr (13, MF 30 (rf (rs v Qa o) j b))), (Qa.qq, .inl (cI, (8 * Qa.C), .inl Qa.qf))]) hD hS hA [0, 2] rfl
          refine va_callv (va_runV (As := [.int (nI Qj.R), .int (nI 2), .int (nI V.us)]) (rest := []) ⟨hx, hb, hml, hown, hts⟩ (c_Mo_set l dC dI mo H (rf (rs v Qa o) j b) cI Qa.qq (8 * Qa.C) Qa.qf Qj.R 2 ((nI V.us)) (by omega) (by omega) ((rf_ne (by decide) (by decide)).trans rs_19)) (cwV 3 hts (gt_V (own := R_Mo) (C := R_Mo) (i := 272) (y := y_Mo_set) i_Mo_set w_1411 w_1413 (gt_sel (y := y_Mo_set) (n := 30) (by decide +kernel)) w_7) rfl rfl rfl (by decide +kernel) ⟨Nat.le_trans (m := 9) (Nat.le_of_ble_eq_true rfl) (Nat.le_add_right 9 F), Nat.le_trans (m := 280) (Nat.le_of_ble_eq_true rfl) (Nat.le_add_right 280 L)⟩) ⟨mp_blind, va_recv hKc hPc (ci := 13) (q0 := 0) rfl rfl, fun U hU hW => ⟨rfl, hU, by rw [hU]; exact hPc, va_K.moved hW.alike hKc, hDc.weaken (fun _ _ _ _ => trivial)⟩⟩ rfl rfl hl.1 rfl (lv_room (Nat.le_of_ble_eq_true rfl)) d_Mo_segment_177 ⟨hfit_QaV.1, hfit_QaV.2⟩) hS (fun q _ h => hFc q h) hFc (fun _u t9 H1 locs ht hvm hw hB hz1 hk1 hS => ?_)
          obtain ⟨hP1, hK1, hD1⟩ := hB
          rw [ht] at hP1
          obtain ⟨hP, hD⟩ := va_join (wr := [(qx, .inl (cB, NN, .inl f)), (Qa.qe, .inl (cL, (3 * Qa.C), .inr (.inl Qa.ef))), (tv, .inr (12, MF 13 (tw V))), (V.au, .inl (cC, V.U, .inl V.un))]) (w1 := [(mo, .inr (13, MF 30 (rf (rs v Qa o) j b))), (Qa.qq, .inl (cI, (8 * Qa.C), .inl (upd Qa.qf (8 * Qj.R + 2) ((nI V.us)))))]) hP hD [0, 2] [1, 3, 4, 5] rfl rfl (by decide) (by decide) hk1 hFc hP1 hD1
          generalize H1 = H at hP hS ⊢
          have hP : va_P (dC, dI) classes [(qx, .inl (cB, NN, .inl f)), (Qa.qe, .inl (cL, (3 * Qa.C), .inr (.inl Qa.ef))), (tv, .inr (12, MF 13 (tw V))), (V.au, .inl (cC, V.U, .inl V.un)), (mo, .inr (13, MF 30 (rf (rs v Qa o) j b))), (Qa.qq, .inl (cI, (8 * Qa.C), .inl (upd Qa.qf (8 * Qj.R + 2) ((nI V.us)))))] H := hP
          have hD : va_D A [(qx, .inl (cB, NN, .inl f)), (Qa.qe, .inl (cL, (3 * Qa.C), .inr (.inl Qa.ef))), (tv, .inr (12, MF 13 (tw V))), (V.au, .inl (cC, V.U, .inl V.un)), (mo, .inr (13, MF 30 (rf (rs v Qa o) j b))), (Qa.qq, .inl (cI, (8 * Qa.C), .inl (upd Qa.qf (8 * Qj.R + 2) ((nI V.us)))))] := hD
          have hP := hP.sub (ws' := [(mo, .inr (13, MF 30 (rf (rs v Qa o) j b))), (qx, .inl (cB, NN, .inl f)), (Qa.qq, .inl (cI, (8 * Qa.C), .inl (upd Qa.qf (8 * Qj.R + 2) ((nI V.us))))), (Qa.qe, .inl (cL, (3 * Qa.C), .inr (.inl Qa.ef))), (tv, .inr (12, MF 13 (tw V))), (V.au, .inl (cC, V.U, .inl V.un))]) [4, 0, 5, 1, 2, 3] rfl
          have hD := hD.sub (ws' := [(mo, .inr (13, MF 30 (rf (rs v Qa o) j b))), (qx, .inl (cB, NN, .inl f)), (Qa.qq, .inl (cI, (8 * Qa.C), .inl (upd Qa.qf (8 * Qj.R + 2) ((nI V.us))))), (Qa.qe, .inl (cL, (3 * Qa.C), .inr (.inl Qa.ef))), (tv, .inr (12, MF 13 (tw V))), (V.au, .inl (cC, V.U, .inl V.un))]) [4, 0, 5, 1, 2, 3] (by decide) rfl
          obtain ⟨Qb, e_Qb⟩ : ∃ z : QS, z = QS.wf Qa (upd Qa.qf (8 * Qj.R + 2) ((nI V.us))) := ⟨_, rfl⟩
          have hP : va_P (dC, dI) classes [(mo, .inr (13, MF 30 (rf (rs v Qb o) j b))), (qx, .inl (cB, NN, .inl f)), (Qb.qq, .inl (cI, (8 * Qb.C), .inl Qb.qf)), (Qb.qe, .inl (cL, (3 * Qb.C), .inr (.inl Qb.ef))), (tv, .inr (12, MF 13 (tw V))), (V.au, .inl (cC, V.U, .inl V.un))] H := by subst e_Qb; exact hP
          have hD : va_D A [(mo, .inr (13, MF 30 (rf (rs v Qb o) j b))), (qx, .inl (cB, NN, .inl f)), (Qb.qq, .inl (cI, (8 * Qb.C), .inl Qb.qf)), (Qb.qe, .inl (cL, (3 * Qb.C), .inr (.inl Qb.ef))), (tv, .inr (12, MF 13 (tw V))), (V.au, .inl (cC, V.U, .inl V.un))] := by subst e_Qb; exact hD
          have hf_Qb : Qb.C = Qa.C ∧ Qb.R = Qa.R ∧ Qb.qf = upd Qa.qf (8 * Qj.R + 2) ((nI V.us)) := by rw [e_Qb]; exact ⟨rfl, rfl, rfl⟩
          have he_Qb : Qb.ef = Qa.ef := by rw [e_Qb]; rfl
          have hQk_Qb : QOK Qb := by rw [e_Qb]; exact hQk_Qa
          have hG_QbV : GQ (Q.R + 8 * (n - i) + 8) (V.us + (n + 12 - i)) Q V Qb V := by unfold GQ at hG_QaV ⊢; rw [hf_Qb.1]; exact hG_QaV
          refine w_same (fun hq => ?_)
          refine w_tight (k := cQ Q V Qb V) (n := sQ Q V Qb V) (by unfold cQ sQ at hq ⊢; rw [hf_Qb.1]; exact hq) ?_
          have hR_Qb := hf_Qb.2.1
          have hqb_QbV : Qb.R ≤ Qb.C ∧ Qb.C ≤ 100000 := ⟨hQk_Qb.2.2.1, hQk_Qb.2.1⟩
          have hfit_QbV := hG_QbV.fits
          have hlet : letH (hereV f n j) := by rw [← h_r5]; exact h_t5.1 c145
          have hltj := letH_lt hlet
          refine w_same (fun hq => ?_)
          refine W.widen (k := kcap Q (Q.R + 8 * (n - i) + 8) + qcap V (V.us + (n + 12 - i))) (n := 22 * kcap Q (Q.R + 8 * (n - i) + 8) + 2 * qcap V (V.us + (n + 12 - i))) hfit_QbV.1 hfit_QbV.2 ?_
          refine w_loopH (D := (dC, dI)) (cl := classes) (A := A) (H0 := s.heap) (nL := 5) 180 (σ := TS × Nat × Nat × Int32) (fun ⟨Vc, m9, j2, b2⟩ H => (TX V Vc (nmT_ f n j j2) ∧ (nmT_ f n j j2).map c16 = nmT_ f n j j2) ∧ TOK Vc ∧ GQ (Q.R + 8 * (n - i) + 8) (V.us + (n + 12 - i)) Q V Qb Vc ∧ Vc.us + j = V.us + j2 ∧ j ≤ j2 ∧ j2 ≤ n ∧ n + 1 ≤ m9 + j2 ∧ nmE f n m9 j2 = nmE f n (n + 1) j ∧ szk s.heap H (cQ Q V Qb Vc) (sQ Q V Qb Vc)) (fun ⟨Vc, m9, j2, b2⟩ => n + 1 - j2) (fun ⟨Vc, m9, j2, b2⟩ => [(mo, .inr (13, MF 30 (rf (rs v Qb o) j2 b2))), (qx, .inl (cB, NN, .inl f)), (Qb.qq, .inl (cI, (8 * Qb.C), .inl Qb.qf)), (Qb.qe, .inl (cL, (3 * Qb.C), .inr (.inl Qb.ef))), (tv, .inr (12, MF 13 (tw Vc))), (Vc.au, .inl (cC, Vc.U, .inl Vc.un))]) (fun ⟨Vc, m9, j2, b2⟩ => [(0, .ref mo), (1, .int (nI y)), (2, .int 0), (3, .int (nI Q.R)), (4, .int (nI Qj.R))]) ?_ (V, n + 1, j, b) ⟨⟨by rw [nmT_0]; exact TX.rf hTk_V, by rw [nmT_0]; rfl⟩, hTk_V, hG_QbV, rfl, Nat.le_refl _, hj2, by show n + 1 ≤ n + 1 + j; omega, rfl, hq⟩ hP hD hS (lv_sub hl [1, 2, 3, 4, 0] rfl)
          rintro ⟨Vc, m9, j2, b2⟩ H locs ls hI ih hP hD hS hl
          have hP : va_P (dC, dI) classes [(mo, .inr (13, MF 30 (rf (rs v Qb o) j2 b2))), (qx, .inl (cB, NN, .inl f)), (Qb.qq, .inl (cI, (8 * Qb.C), .inl Qb.qf)), (Qb.qe, .inl (cL, (3 * Qb.C), .inr (.inl Qb.ef))), (tv, .inr (12, MF 13 (tw Vc))), (Vc.au, .inl (cC, Vc.U, .inl Vc.un))] H := hP
          have hD : va_D A [(mo, .inr (13, MF 30 (rf (rs v Qb o) j2 b2))), (qx, .inl (cB, NN, .inl f)), (Qb.qq, .inl (cI, (8 * Qb.C), .inl Qb.qf)), (Qb.qe, .inl (cL, (3 * Qb.C), .inr (.inl Qb.ef))), (tv, .inr (12, MF 13 (tw Vc))), (Vc.au, .inl (cC, Vc.U, .inl Vc.un))] := hD
          have hl : lv_has ls 5 [(0, .ref mo), (1, .int (nI y)), (2, .int 0), (3, .int (nI Q.R)), (4, .int (nI Qj.R))] := hl
          obtain ⟨⟨hXc, hcm⟩, hTk_Vc, hG_QbVc, hI1, hI2, hI3, hI4, hI5, hI6⟩ := hI
          refine w_tight hI6 ?_
          obtain ⟨m0, hm0⟩ : ∃ m0, m9 = m0 + 1 := ⟨m9 - 1, by omega⟩
          have hXcs := hXc.us
          have hqb_QbVc : Qb.R ≤ Qb.C ∧ Qb.C ≤ 100000 := ⟨hQk_Qb.2.2.1, hQk_Qb.2.1⟩
          have hfit_QbVc := hG_QbVc.fits
          refine lv_aload_n hx hb d_Mo_segment_180 rfl (lv_at hl 0 rfl) ?_
          have hPc := hP.sub (ws' := [(mo, .inr (13, MF 30 (rf (rs v Qb o) j2 b2))), (qx, .inl (cB, NN, .inl f))]) [0, 1] rfl
          have hDc := hD.sub (ws' := [(mo, .inr (13, MF 30 (rf (rs v Qb o) j2 b2))), (qx, .inl (cB, NN, .inl f))]) [0, 1] (by decide) rfl
          have hKc := hK.sub (tys' := [(cB, .byte)]) [0] rfl
          have hFc := va_free (wc := [(mo, .inr (13, MF 30 (rf (rs v Qb o) j2 b2))), (qx, .inl (cB, NN, .inl f))]) hD hS hA [0, 1] rfl
          refine va_calli (va_runV (As := []) (rest := []) ⟨hx, hb, hml, hown, hts⟩ (c_Mo_c l dC dI mo H (rf (rs v Qb o) j2 b2) cB qx NN f n j2 (by omega) (by omega) (by omega) ((rf_ne (by decide) (by decide)).trans ((rs_ne (by decide) (by decide) (by decide) (by decide)).trans h6)) rf_7 ((rf_ne (by decide) (by decide)).trans ((rs_ne (by decide) (by decide) (by decide) (by decide)).trans h8))) (cwV 0 hts (gt_V (own := R_Mo) (C := R_Mo) (i := 147) (y := y_Mo_c) i_Mo_c w_1233 w_1235 (gt_sel (y := y_Mo_c) (n := 30) (by decide +kernel)) w_7) rfl rfl rfl (by decide +kernel) ⟨Nat.le_trans (m := 9) (Nat.le_of_ble_eq_true rfl) (Nat.le_add_right 9 F), Nat.le_trans (m := 280) (Nat.le_of_ble_eq_true rfl) (Nat.le_add_right 280 L)⟩) ⟨mp_blind, va_recv hKc hPc (ci := 13) (q0 := 0) rfl rfl, fun U hU hW => ⟨rfl, hU, by rw [hU]; exact hPc, va_K.moved hW.alike hKc, hDc.weaken (fun _ _ _ _ => trivial)⟩⟩ rfl rfl hl.1 rfl (lv_room (Nat.le_of_ble_eq_true rfl)) d_Mo_segment_181 ⟨hfit_QbVc.1, hfit_QbVc.2⟩) hS (fun q _ h => hFc q h) hFc (fun r6 _u t9 H1 locs ht hvm hw hB hz1 hk1 hS => ?_)
          obtain ⟨hP1, hK1, hD1⟩ := hB
          rw [ht] at hP1
          obtain ⟨hP, hD⟩ := va_join (wr := [(Qb.qq, .inl (cI, (8 * Qb.C), .inl Qb.qf)), (Qb.qe, .inl (cL, (3 * Qb.C), .inr (.inl Qb.ef))), (tv, .inr (12, MF 13 (tw Vc))), (Vc.au, .inl (cC, Vc.U, .inl Vc.un))]) (w1 := [(mo, .inr (13, MF 30 (rf (rs v Qb o) j2 b2))), (qx, .inl (cB, NN, .inl f))]) hP hD [0, 1] [2, 3, 4, 5] rfl rfl (by decide) (by decide) hk1 hFc hP1 hD1
          generalize H1 = H at hP hS ⊢
          have hP : va_P (dC, dI) classes [(Qb.qq, .inl (cI, (8 * Qb.C), .inl Qb.qf)), (Qb.qe, .inl (cL, (3 * Qb.C), .inr (.inl Qb.ef))), (tv, .inr (12, MF 13 (tw Vc))), (Vc.au, .inl (cC, Vc.U, .inl Vc.un)), (mo, .inr (13, MF 30 (rf (rs v Qb o) j2 b2))), (qx, .inl (cB, NN, .inl f))] H := hP
          have hD : va_D A [(Qb.qq, .inl (cI, (8 * Qb.C), .inl Qb.qf)), (Qb.qe, .inl (cL, (3 * Qb.C), .inr (.inl Qb.ef))), (tv, .inr (12, MF 13 (tw Vc))), (Vc.au, .inl (cC, Vc.U, .inl Vc.un)), (mo, .inr (13, MF 30 (rf (rs v Qb o) j2 b2))), (qx, .inl (cB, NN, .inl f))] := hD
          have hP := hP.sub (ws' := [(mo, .inr (13, MF 30 (rf (rs v Qb o) j2 b2))), (qx, .inl (cB, NN, .inl f)), (Qb.qq, .inl (cI, (8 * Qb.C), .inl Qb.qf)), (Qb.qe, .inl (cL, (3 * Qb.C), .inr (.inl Qb.ef))), (tv, .inr (12, MF 13 (tw Vc))), (Vc.au, .inl (cC, Vc.U, .inl Vc.un))]) [4, 5, 0, 1, 2, 3] rfl
          have hD := hD.sub (ws' := [(mo, .inr (13, MF 30 (rf (rs v Qb o) j2 b2))), (qx, .inl (cB, NN, .inl f)), (Qb.qq, .inl (cI, (8 * Qb.C), .inl Qb.qf)), (Qb.qe, .inl (cL, (3 * Qb.C), .inr (.inl Qb.ef))), (tv, .inr (12, MF 13 (tw Vc))), (Vc.au, .inl (cC, Vc.U, .inl Vc.un))]) [4, 5, 0, 1, 2, 3] (by decide) rfl
          have h_r6 : r6 = hereV f n j2 := hw
          have hPc := hP.sub (ws' := []) [] rfl
          have hDc := hD.sub (ws' := []) [] (by decide) rfl
          have hKc := hK.sub (tys' := []) [] rfl
          have hFc := va_free (wc := []) hD hS hA [] rfl
          refine va_calli (va_runS (As := [.int r6]) (rest := []) ⟨hx, hb, hml, hown, hts⟩ (c_Mo_letter l dC dI H r6) (va_cwS 1 hts (gt_S (own := R_Mo) (i := 283) (y := y_Mo_letter) i_Mo_letter w_1478 w_1479 w_7) rfl rfl rfl (by decide +kernel) ⟨Nat.le_trans (m := 9) (Nat.le_of_ble_eq_true rfl) (Nat.le_add_right 9 F), Nat.le_trans (m := 280) (Nat.le_of_ble_eq_true rfl) (Nat.le_add_right 280 L)⟩) ⟨mp_blind, fun U hU hW => ⟨rfl, hU, by rw [hU]; exact hPc, va_K.moved hW.alike hKc, hDc.weaken (fun _ _ _ _ => trivial)⟩⟩ rfl rfl hl.1 rfl (lv_room (Nat.le_of_ble_eq_true rfl)) d_Mo_segment_184 ⟨hfit_QbVc.1, hfit_QbVc.2⟩) hS (fun q _ h => hFc q h) hFc (fun t6 _u t9 H1 locs ht hvm hw hB hz1 hk1 hS => ?_)
          obtain ⟨hP1, hK1, hD1⟩ := hB
          rw [ht] at hP1
          obtain ⟨hP, hD⟩ := va_join (wr := [(mo, .inr (13, MF 30 (rf (rs v Qb o) j2 b2))), (qx, .inl (cB, NN, .inl f)), (Qb.qq, .inl (cI, (8 * Qb.C), .inl Qb.qf)), (Qb.qe, .inl (cL, (3 * Qb.C), .inr (.inl Qb.ef))), (tv, .inr (12, MF 13 (tw Vc))), (Vc.au, .inl (cC, Vc.U, .inl Vc.un))]) (w1 := []) hP hD [] [0, 1, 2, 3, 4, 5] rfl rfl (by decide) (by decide) hk1 hFc hP1 hD1
          generalize H1 = H at hP hS ⊢
          have hP : va_P (dC, dI) classes [(mo, .inr (13, MF 30 (rf (rs v Qb o) j2 b2))), (qx, .inl (cB, NN, .inl f)), (Qb.qq, .inl (cI, (8 * Qb.C), .inl Qb.qf)), (Qb.qe, .inl (cL, (3 * Qb.C), .inr (.inl Qb.ef))), (tv, .inr (12, MF 13 (tw Vc))), (Vc.au, .inl (cC, Vc.U, .inl Vc.un))] H := hP
          have hD : va_D A [(mo, .inr (13, MF 30 (rf (rs v Qb o) j2 b2))), (qx, .inl (cB, NN, .inl f)), (Qb.qq, .inl (cI, (8 * Qb.C), .inl Qb.qf)), (Qb.qe, .inl (cL, (3 * Qb.C), .inr (.inl Qb.ef))), (tv, .inr (12, MF 13 (tw Vc))), (Vc.au, .inl (cC, Vc.U, .inl Vc.un))] := hD
          have h_t6 := lt_01 hw
          refine lv_if_ne (tgt := 200) hx hb d_Mo_segment_187 (by decide) (fun c187 => ?_) (fun c187 => ?_)
          · have hgo : letH (hereV f n j2) ∨ digH (hereV f n j2) := Or.inl (by rw [← h_r6]; exact h_t6.1 c187)
            have hltg : j2 < n := hgo.elim letH_lt digH_lt
            refine lv_aload_n hx hb d_Mo_segment_200 rfl (lv_at hl 0 rfl) ?_
            refine va_get (D := (dC, dI)) (ci := 13) (v := .ref tv) (C := R_Mo) (T := F_Mo) (N := 30) hx hb hts in_Mo hown hK hP 0 rfl rfl 22 (by decide) (hts _ w_1111) (fun _ h9 => h9) (MFg (by decide) ((rf_ne (by decide) (by decide)).trans ((rs_ne (by decide) (by decide) (by decide) (by decide)).trans h22))) d_Mo_segment_201 ?_
            refine lv_aload_n hx hb d_Mo_segment_204 rfl (lv_at hl 0 rfl) ?_
            have hPc := hP.sub (ws' := [(mo, .inr (13, MF 30 (rf (rs v Qb o) j2 b2))), (qx, .inl (cB, NN, .inl f))]) [0, 1] rfl
            have hDc := hD.sub (ws' := [(mo, .inr (13, MF 30 (rf (rs v Qb o) j2 b2))), (qx, .inl (cB, NN, .inl f))]) [0, 1] (by decide) rfl
            have hKc := hK.sub (tys' := [(cB, .byte)]) [0] rfl
            have hFc := va_free (wc := [(mo, .inr (13, MF 30 (rf (rs v Qb o) j2 b2))), (qx, .inl (cB, NN, .inl f))]) hD hS hA [0, 1] rfl
            refine va_calli (va_runV (As := []) (rest := [.ref tv]) ⟨hx, hb, hml, hown, hts⟩ (c_Mo_c l dC dI mo H (rf (rs v Qb o) j2 b2) cB qx NN f n j2 (by omega) (by omega) (by omega) ((rf_ne (by decide) (by decide)).trans ((rs_ne (by decide) (by decide) (by decide) (by decide)).trans h6)) rf_7 ((rf_ne (by decide) (by decide)).trans ((rs_ne (by decide) (by decide) (by decide) (by decide)).trans h8))) (cwV 0 hts (gt_V (own := R_Mo) (C := R_Mo) (i := 147) (y := y_Mo_c) i_Mo_c w_1233 w_1235 (gt_sel (y := y_Mo_c) (n := 30) (by decide +kernel)) w_7) rfl rfl rfl (by decide +kernel) ⟨Nat.le_trans (m := 9) (Nat.le_of_ble_eq_true rfl) (Nat.le_add_right 9 F), Nat.le_trans (m := 280) (Nat.le_of_ble_eq_true rfl) (Nat.le_add_right 280 L)⟩) ⟨mp_blind, va_recv hKc hPc (ci := 13) (q0 := 0) rfl rfl, fun U hU hW => ⟨rfl, hU, by rw [hU]; exact hPc, va_K.moved hW.alike hKc, hDc.weaken (fun _ _ _ _ => trivial)⟩⟩ rfl rfl hl.1 rfl (lv_room (Nat.le_of_ble_eq_true rfl)) d_Mo_segment_205 ⟨hfit_QbVc.1, hfit_QbVc.2⟩) hS (fun q _ h => hFc q h) hFc (fun r8 _u t9 H1 locs ht hvm hw hB hz1 hk1 hS => ?_)
            obtain ⟨hP1, hK1, hD1⟩ := hB
            rw [ht] at hP1
            obtain ⟨hP, hD⟩ := va_join (wr := [(Qb.qq, .inl (cI, (8 * Qb.C), .inl Qb.qf)), (Qb.qe, .inl (cL, (3 * Qb.C), .inr (.inl Qb.ef))), (tv, .inr (12, MF 13 (tw Vc))), (Vc.au, .inl (cC, Vc.U, .inl Vc.un))]) (w1 := [(mo, .inr (13, MF 30 (rf (rs v Qb o) j2 b2))), (qx, .inl (cB, NN, .inl f))]) hP hD [0, 1] [2, 3, 4, 5] rfl rfl (by decide) (by decide) hk1 hFc hP1 hD1
            generalize H1 = H at hP hS ⊢
            have hP : va_P (dC, dI) classes [(Qb.qq, .inl (cI, (8 * Qb.C), .inl Qb.qf)), (Qb.qe, .inl (cL, (3 * Qb.C), .inr (.inl Qb.ef))), (tv, .inr (12, MF 13 (tw Vc))), (Vc.au, .inl (cC, Vc.U, .inl Vc.un)), (mo, .inr (13, MF 30 (rf (rs v Qb o) j2 b2))), (qx, .inl (cB, NN, .inl f))] H := hP
            have hD : va_D A [(Qb.qq, .inl (cI, (8 * Qb.C), .inl Qb.qf)), (Qb.qe, .inl (cL, (3 * Qb.C), .inr (.inl Qb.ef))), (tv, .inr (12, MF 13 (tw Vc))), (Vc.au, .inl (cC, Vc.U, .inl Vc.un)), (mo, .inr (13, MF 30 (rf (rs v Qb o) j2 b2))), (qx, .inl (cB, NN, .inl f))] := hD
            have hP := hP.sub (ws' := [(mo, .inr (13, MF 30 (rf (rs v Qb o) j2 b2))), (qx, .inl (cB, NN, .inl f)), (Qb.qq, .inl (cI, (8 * Qb.C), .inl Qb.qf)), (Qb.qe, .inl (cL, (3 * Qb.C), .inr (.inl Qb.ef))), (tv, .inr (12, MF 13 (tw Vc))), (Vc.au, .inl (cC, Vc.U, .inl Vc.un))]) [4, 5, 0, 1, 2, 3] rfl
            have hD := hD.sub (ws' := [(mo, .inr (13, MF 30 (rf (rs v Qb o) j2 b2))), (qx, .inl (cB, NN, .inl f)), (Qb.qq, .inl (cI, (8 * Qb.C), .inl Qb.qf)), (Qb.qe, .inl (cL, (3 * Qb.C), .inr (.inl Qb.ef))), (tv, .inr (12, MF 13 (tw Vc))), (Vc.au, .inl (cC, Vc.U, .inl Vc.un))]) [4, 5, 0, 1, 2, 3] (by decide) rfl
            have h_r8 : r8 = hereV f n j2 := hw
            have hPc := hP.sub (ws' := [(tv, .inr (12, MF 13 (tw Vc))), (Vc.au, .inl (cC, Vc.U, .inl Vc.un))]) [4, 5] rfl
            have hDc := hD.sub (ws' := [(tv, .inr (12, MF 13 (tw Vc))), (Vc.au, .inl (cC, Vc.U, .inl Vc.un))]) [4, 5] (by decide) rfl
            have hKc := hK.sub (tys' := [(cC, .char)]) [3] rfl
            have hFc := va_free (wc := [(tv, .inr (12, MF 13 (tw Vc))), (Vc.au, .inl (cC, Vc.U, .inl Vc.un))]) hD hS hA [4, 5] rfl
            refine w_same (fun hq0 => ?_)
            refine va_callv (va_runV (As := [.int r8]) (rest := []) ⟨hx, hb, hml, hown, hts⟩ (c_Tree_unitT l dC dI tv H cC Vc r8 hTk_Vc) (cwV 1 hts (gt_V (own := R_Mo) (C := R_Tree) (i := 177) (y := y_Tree_unit) i_Tree_unit w_1265 w_1266 w_1267 w_8) rfl rfl rfl (by decide +kernel) ⟨Nat.le_trans (m := 9) (Nat.le_of_ble_eq_true rfl) (Nat.le_add_right 9 F), Nat.le_trans (m := 280) (Nat.le_of_ble_eq_true rfl) (Nat.le_add_right 280 L)⟩) ⟨mp_blind, va_recv hKc hPc (ci := 12) (q0 := 0) rfl rfl, fun U hU hW => ⟨rfl, hU, by rw [hU]; exact hPc, va_K.moved hW.alike hKc, hDc.weaken (fun _ _ _ _ => trivial)⟩⟩ rfl rfl hl.1 rfl (lv_room (Nat.le_of_ble_eq_true rfl)) d_Mo_segment_208 ⟨(uq_fit hG_QbVc (by omega)).1, (uq_fit hG_QbVc (by omega)).2⟩) hS (fun q _ h => hFc q h) hFc (fun Vn t9 H1 locs ht hvm hw hB hz1 hk1 hS => ?_)
            obtain ⟨⟨hP1, hK1, hD1⟩, hz9⟩ := hB
            rw [ht] at hP1
            rw [ht] at hz9
            have hX_Vn : TX Vc Vn [r8] := hw
            have hXs_Vn := hX_Vn.us
            rw [List.length_singleton] at hXs_Vn
            obtain ⟨hG_QbVn, hGc, hGs⟩ := hG_QbVc.tr (hX_Vn.gq Qb).1 (Nat.zero_le _) (show Vc.us + 1 ≤ V.us + (n + 12 - i) by omega)
            rw [← (hX_Vn.gq Qb).2.1] at hGc
            rw [← (hX_Vn.gq Qb).2.2] at hGs
            have hq1 : szk s.heap H1 (cQ Q V Qb Vn) (sQ Q V Qb Vn) := (hq0.trans hz9).mono hGc hGs
            refine w_tight hq1 ?_
            obtain ⟨hP, hD⟩ := va_join (wr := [(mo, .inr (13, MF 30 (rf (rs v Qb o) j2 b2))), (qx, .inl (cB, NN, .inl f)), (Qb.qq, .inl (cI, (8 * Qb.C), .inl Qb.qf)), (Qb.qe, .inl (cL, (3 * Qb.C), .inr (.inl Qb.ef)))]) (w1 := [(tv, .inr (12, MF 13 (tw Vn))), (Vn.au, .inl (cC, Vn.U, .inl Vn.un))]) hP hD [4, 5] [0, 1, 2, 3] rfl rfl (by decide) (by decide) hk1 hFc hP1 hD1
            generalize H1 = H at hP hS ⊢
            have hP : va_P (dC, dI) classes [(mo, .inr (13, MF 30 (rf (rs v Qb o) j2 b2))), (qx, .inl (cB, NN, .inl f)), (Qb.qq, .inl (cI, (8 * Qb.C), .inl Qb.qf)), (Qb.qe, .inl (cL, (3 * Qb.C), .inr (.inl Qb.ef))), (tv, .inr (12, MF 13 (tw Vn))), (Vn.au, .inl (cC, Vn.U, .inl Vn.un))] H := hP
            have hD : va_D A [(mo, .inr (13, MF 30 (rf (rs v Qb o) j2 b2))), (qx, .inl (cB, NN, .inl f)), (Qb.qq, .inl (cI, (8 * Qb.C), .inl Qb.qf)), (Qb.qe, .inl (cL, (3 * Qb.C), .inr (.inl Qb.ef))), (tv, .inr (12, MF 13 (tw Vn))), (Vn.au, .inl (cC, Vn.U, .inl Vn.un))] := hD
            have hP := hP.sub (ws' := [(mo, .inr (13, MF 30 (rf (rs v Qb o) j2 b2))), (qx, .inl (cB, NN, .inl f)), (Qb.qq, .inl (cI, (8 * Qb.C), .inl Qb.qf)), (Qb.qe, .inl (cL, (3 * Qb.C), .inr (.inl Qb.ef))), (tv, .inr (12, MF 13 (tw Vn))), (Vn.au, .inl (cC, Vn.U, .inl Vn.un))]) [0, 1, 2, 3, 4, 5] rfl
            have hD := hD.sub (ws' := [(mo, .inr (13, MF 30 (rf (rs v Qb o) j2 b2))), (qx, .inl (cB, NN, .inl f)), (Qb.qq, .inl (cI, (8 * Qb.C), .inl Qb.qf)), (Qb.qe, .inl (cL, (3 * Qb.C), .inr (.inl Qb.ef))), (tv, .inr (12, MF 13 (tw Vn))), (Vn.au, .inl (cC, Vn.U, .inl Vn.un))]) [0, 1, 2, 3, 4, 5] (by decide) rfl
            have hTk_Vn := hX_Vn.ok hTk_Vc (by rw [List.length_singleton]; omega)
            have hqb_QbVn : Qb.R ≤ Qb.C ∧ Qb.C ≤ 100000 := ⟨hQk_Qb.2.2.1, hQk_Qb.2.1⟩
            have hfit_QbVn := hG_QbVn.fits
            refine lv_aload_n hx hb d_Mo_segment_211 rfl (lv_at hl 0 rfl) ?_
            refine lv_dup hx hb d_Mo_segment_212 rfl ?_
            refine va_get (D := (dC, dI)) (ci := 13) (v := .int (nI j2)) (C := R_Mo) (T := F_Mo) (N := 30) hx hb hts in_Mo hown hK hP 0 rfl rfl 7 (by decide) (hts _ w_1096) (fun _ h9 => h9) (MFg (by decide) rf_7) d_Mo_segment_213 ?_
            refine lv_iconst (v := 1) hx hb d_Mo_segment_216 (by decide) ?_
            refine lv_iadd hx hb d_Mo_segment_217 ?_
            refine W.eq (g2 := F0 m 218 ls [.int (nI (j2 + 1)), .ref mo]) (by rw [show ((nI j2) + 1) = (nI (j2 + 1)) from nI_1 _]) ?_
            refine va_put (D := (dC, dI)) (ci := 13) (v := .int (nI (j2 + 1))) (ty := .int) (C := R_Mo) (T := F_Mo) (N := 30) hx hb hts in_Mo t_Mo t_Mo_ok n_Mo hown hK hP hD hS 0 rfl rfl 7 (by decide) (hts _ w_1096) (fun _ h9 => h9) rfl (by decide +kernel) rfl rfl (by rw [MFl]; decide) d_Mo_segment_218 (fun H locs hP hD hS => ?_)
            rw [MFs (n := 30) (k := 7) (by decide)] at hP hD
            have hP : va_P (dC, dI) classes [(mo, .inr (13, MF 30 (va_up (rf (rs v Qb o) j2 b2) 7 (.int (nI (j2 + 1)))))), (qx, .inl (cB, NN, .inl f)), (Qb.qq, .inl (cI, (8 * Qb.C), .inl Qb.qf)), (Qb.qe, .inl (cL, (3 * Qb.C), .inr (.inl Qb.ef))), (tv, .inr (12, MF 13 (tw Vn))), (Vn.au, .inl (cC, Vn.U, .inl Vn.un))] H := hP
            have hD : va_D A [(mo, .inr (13, MF 30 (va_up (rf (rs v Qb o) j2 b2) 7 (.int (nI (j2 + 1)))))), (qx, .inl (cB, NN, .inl f)), (Qb.qq, .inl (cI, (8 * Qb.C), .inl Qb.qf)), (Qb.qe, .inl (cL, (3 * Qb.C), .inr (.inl Qb.ef))), (tv, .inr (12, MF 13 (tw Vn))), (Vn.au, .inl (cC, Vn.U, .inl Vn.un))] := hD
            rw [rf_u7] at hP hD
            have hP : va_P (dC, dI) classes [(mo, .inr (13, MF 30 (rf (rs v Qb o) (j2 + 1) b2))), (qx, .inl (cB, NN, .inl f)), (Qb.qq, .inl (cI, (8 * Qb.C), .inl Qb.qf)), (Qb.qe, .inl (cL, (3 * Qb.C), .inr (.inl Qb.ef))), (tv, .inr (12, MF 13 (tw Vn))), (Vn.au, .inl (cC, Vn.U, .inl Vn.un))] H := hP
            have hD : va_D A [(mo, .inr (13, MF 30 (rf (rs v Qb o) (j2 + 1) b2))), (qx, .inl (cB, NN, .inl f)), (Qb.qq, .inl (cI, (8 * Qb.C), .inl Qb.qf)), (Qb.qe, .inl (cL, (3 * Qb.C), .inr (.inl Qb.ef))), (tv, .inr (12, MF 13 (tw Vn))), (Vn.au, .inl (cC, Vn.U, .inl Vn.un))] := hD
            refine lv_goto (tgt := 180) hx hb d_Mo_segment_221 (by decide) ?_
            refine w_same (fun hq => ?_)
            refine W.widen (k := kcap Q (Q.R + 8 * (n - i) + 8) + qcap V (V.us + (n + 12 - i))) (n := 22 * kcap Q (Q.R + 8 * (n - i) + 8) + 2 * qcap V (V.us + (n + 12 - i))) hfit_QbVn.1 hfit_QbVn.2 ?_
            have hst : nmE f n m0 (j2 + 1) = nmE f n (n + 1) j := by rw [← hI5, hm0]; exact (nmE_s hgo).symm
            have hX2 : TX V Vn (nmT_ f n j (j2 + 1)) := by rw [nmT_s hI2, ← h_r8]; exact hXc.trans hX_Vn
            have hcm2 : (nmT_ f n j (j2 + 1)).map c16 = nmT_ f n j (j2 + 1) := by rw [nmT_s hI2, List.map_append, hcm, List.map_singleton, c16_id (letdig_b hgo).1 (Int32.le_trans (letdig_b hgo).2 (by decide))]
            exact ih (Vn, m0, j2 + 1, b2) _ _ _ ⟨⟨hX2, hcm2⟩, hTk_Vn, hG_QbVn, by show Vn.us + j = V.us + (j2 + 1); omega, by omega, by omega, by omega, hst, hq⟩ (by show n + 1 - (j2 + 1) < n + 1 - j2; omega) hP hD hS (lv_sub hl [0, 1, 2, 3, 4] rfl)
          · refine lv_aload_n hx hb d_Mo_segment_190 rfl (lv_at hl 0 rfl) ?_
            have hPc := hP.sub (ws' := [(mo, .inr (13, MF 30 (rf (rs v Qb o) j2 b2))), (qx, .inl (cB, NN, .inl f))]) [0, 1] rfl
            have hDc := hD.sub (ws' := [(mo, .inr (13, MF 30 (rf (rs v Qb o) j2 b2))), (qx, .inl (cB, NN, .inl f))]) [0, 1] (by decide) rfl
            have hKc := hK.sub (tys' := [(cB, .byte)]) [0] rfl
            have hFc := va_free (wc := [(mo, .inr (13, MF 30 (rf (rs v Qb o) j2 b2))), (qx, .inl (cB, NN, .inl f))]) hD hS hA [0, 1] rfl
            refine va_calli (va_runV (As := []) (rest := []) ⟨hx, hb, hml, hown, hts⟩ (c_Mo_c l dC dI mo H (rf (rs v Qb o) j2 b2) cB qx NN f n j2 (by omega) (by omega) (by omega) ((rf_ne (by decide) (by decide)).trans ((rs_ne (by decide) (by decide) (by decide) (by decide)).trans h6)) rf_7 ((rf_ne (by decide) (by decide)).trans ((rs_ne (by decide) (by decide) (by decide) (by decide)).trans h8))) (cwV 0 hts (gt_V (own := R_Mo) (C := R_Mo) (i := 147) (y := y_Mo_c) i_Mo_c w_1233 w_1235 (gt_sel (y := y_Mo_c) (n := 30) (by decide +kernel)) w_7) rfl rfl rfl (by decide +kernel) ⟨Nat.le_trans (m := 9) (Nat.le_of_ble_eq_true rfl) (Nat.le_add_right 9 F), Nat.le_trans (m := 280) (Nat.le_of_ble_eq_true rfl) (Nat.le_add_right 280 L)⟩) ⟨mp_blind, va_recv hKc hPc (ci := 13) (q0 := 0) rfl rfl, fun U hU hW => ⟨rfl, hU, by rw [hU]; exact hPc, va_K.moved hW.alike hKc, hDc.weaken (fun _ _ _ _ => trivial)⟩⟩ rfl rfl hl.1 rfl (lv_room (Nat.le_of_ble_eq_true rfl)) d_Mo_segment_191 ⟨hfit_QbVc.1, hfit_QbVc.2⟩) hS (fun q _ h => hFc q h) hFc (fun r7 _u t9 H1 locs ht hvm hw hB hz1 hk1 hS => ?_)
            obtain ⟨hP1, hK1, hD1⟩ := hB
            rw [ht] at hP1
            obtain ⟨hP, hD⟩ := va_join (wr := [(Qb.qq, .inl (cI, (8 * Qb.C), .inl Qb.qf)), (Qb.qe, .inl (cL, (3 * Qb.C), .inr (.inl Qb.ef))), (tv, .inr (12, MF 13 (tw Vc))), (Vc.au, .inl (cC, Vc.U, .inl Vc.un))]) (w1 := [(mo, .inr (13, MF 30 (rf (rs v Qb o) j2 b2))), (qx, .inl (cB, NN, .inl f))]) hP hD [0, 1] [2, 3, 4, 5] rfl rfl (by decide) (by decide) hk1 hFc hP1 hD1
            generalize H1 = H at hP hS ⊢
            have hP : va_P (dC, dI) classes [(Qb.qq, .inl (cI, (8 * Qb.C), .inl Qb.qf)), (Qb.qe, .inl (cL, (3 * Qb.C), .inr (.inl Qb.ef))), (tv, .inr (12, MF 13 (tw Vc))), (Vc.au, .inl (cC, Vc.U, .inl Vc.un)), (mo, .inr (13, MF 30 (rf (rs v Qb o) j2 b2))), (qx, .inl (cB, NN, .inl f))] H := hP
            have hD : va_D A [(Qb.qq, .inl (cI, (8 * Qb.C), .inl Qb.qf)), (Qb.qe, .inl (cL, (3 * Qb.C), .inr (.inl Qb.ef))), (tv, .inr (12, MF 13 (tw Vc))), (Vc.au, .inl (cC, Vc.U, .inl Vc.un)), (mo, .inr (13, MF 30 (rf (rs v Qb o) j2 b2))), (qx, .inl (cB, NN, .inl f))] := hD
            have hP := hP.sub (ws' := [(mo, .inr (13, MF 30 (rf (rs v Qb o) j2 b2))), (qx, .inl (cB, NN, .inl f)), (Qb.qq, .inl (cI, (8 * Qb.C), .inl Qb.qf)), (Qb.qe, .inl (cL, (3 * Qb.C), .inr (.inl Qb.ef))), (tv, .inr (12, MF 13 (tw Vc))), (Vc.au, .inl (cC, Vc.U, .inl Vc.un))]) [4, 5, 0, 1, 2, 3] rfl
            have hD := hD.sub (ws' := [(mo, .inr (13, MF 30 (rf (rs v Qb o) j2 b2))), (qx, .inl (cB, NN, .inl f)), (Qb.qq, .inl (cI, (8 * Qb.C), .inl Qb.qf)), (Qb.qe, .inl (cL, (3 * Qb.C), .inr (.inl Qb.ef))), (tv, .inr (12, MF 13 (tw Vc))), (Vc.au, .inl (cC, Vc.U, .inl Vc.un))]) [4, 5, 0, 1, 2, 3] (by decide) rfl
            have h_r7 : r7 = hereV f n j2 := hw
            have hPc := hP.sub (ws' := []) [] rfl
            have hDc := hD.sub (ws' := []) [] (by decide) rfl
            have hKc := hK.sub (tys' := []) [] rfl
            have hFc := va_free (wc := []) hD hS hA [] rfl
            refine va_calli (va_runS (As := [.int r7]) (rest := []) ⟨hx, hb, hml, hown, hts⟩ (c_Mo_digit l dC dI H r7) (va_cwS 1 hts (gt_S (own := R_Mo) (i := 166) (y := y_Mo_digit) i_Mo_digit w_1332 w_1333 w_7) rfl rfl rfl (by decide +kernel) ⟨Nat.le_trans (m := 9) (Nat.le_of_ble_eq_true rfl) (Nat.le_add_right 9 F), Nat.le_trans (m := 280) (Nat.le_of_ble_eq_true rfl) (Nat.le_add_right 280 L)⟩) ⟨mp_blind, fun U hU hW => ⟨rfl, hU, by rw [hU]; exact hPc, va_K.moved hW.alike hKc, hDc.weaken (fun _ _ _ _ => trivial)⟩⟩ rfl rfl hl.1 rfl (lv_room (Nat.le_of_ble_eq_true rfl)) d_Mo_segment_194 ⟨hfit_QbVc.1, hfit_QbVc.2⟩) hS (fun q _ h => hFc q h) hFc (fun d7 _u t9 H1 locs ht hvm hw hB hz1 hk1 hS => ?_)
            obtain ⟨hP1, hK1, hD1⟩ := hB
            rw [ht] at hP1
            obtain ⟨hP, hD⟩ := va_join (wr := [(mo, .inr (13, MF 30 (rf (rs v Qb o) j2 b2))), (qx, .inl (cB, NN, .inl f)), (Qb.qq, .inl (cI, (8 * Qb.C), .inl Qb.qf)), (Qb.qe, .inl (cL, (3 * Qb.C), .inr (.inl Qb.ef))), (tv, .inr (12, MF 13 (tw Vc))), (Vc.au, .inl (cC, Vc.U, .inl Vc.un))]) (w1 := []) hP hD [] [0, 1, 2, 3, 4, 5] rfl rfl (by decide) (by decide) hk1 hFc hP1 hD1
            generalize H1 = H at hP hS ⊢
            have hP : va_P (dC, dI) classes [(mo, .inr (13, MF 30 (rf (rs v Qb o) j2 b2))), (qx, .inl (cB, NN, .inl f)), (Qb.qq, .inl (cI, (8 * Qb.C), .inl Qb.qf)), (Qb.qe, .inl (cL, (3 * Qb.C), .inr (.inl Qb.ef))), (tv, .inr (12, MF 13 (tw Vc))), (Vc.au, .inl (cC, Vc.U, .inl Vc.un))] H := hP
            have hD : va_D A [(mo, .inr (13, MF 30 (rf (rs v Qb o) j2 b2))), (qx, .inl (cB, NN, .inl f)), (Qb.qq, .inl (cI, (8 * Qb.C), .inl Qb.qf)), (Qb.qe, .inl (cL, (3 * Qb.C), .inr (.inl Qb.ef))), (tv, .inr (12, MF 13 (tw Vc))), (Vc.au, .inl (cC, Vc.U, .inl Vc.un))] := hD
            have h_d7 := dg_01 hw
            refine lv_if_eq (tgt := 224) hx hb d_Mo_segment_197 (by decide) (fun c197 => ?_) (fun c197 => ?_)
            · have hng : ¬ (letH (hereV f n j2) ∨ digH (hereV f n j2)) := fun h => h.elim (by rw [← h_r6]; exact h_t6.2 c187) (by rw [← h_r7]; exact h_d7.2 c197)
              have hne : ¬ j2 = j := fun h => hng (by rw [h]; exact Or.inl hlet)
              have hnm : nmE f n (n + 1) j = j2 := by rw [← hI5, hm0]; exact nmE_e hng
              obtain ⟨ln, hln⟩ : ∃ ln, Vc.us = V.us + ln := ⟨Vc.us - V.us, by omega⟩
              refine lv_aload_n hx hb d_Mo_segment_224 rfl (lv_at hl 0 rfl) ?_
              refine lv_iload hx hb d_Mo_segment_225 (lv_at hl 4 rfl) ?_
              refine lv_iconst (v := 3) hx hb d_Mo_segment_227 (by decide) ?_
              refine lv_aload_n hx hb d_Mo_segment_228 rfl (lv_at hl 0 rfl) ?_
              refine va_get (D := (dC, dI)) (ci := 13) (v := .ref tv) (C := R_Mo) (T := F_Mo) (N := 30) hx hb hts in_Mo hown hK hP 0 rfl rfl 22 (by decide) (hts _ w_1111) (fun _ h9 => h9) (MFg (by decide) ((rf_ne (by decide) (by decide)).trans ((rs_ne (by decide) (by decide) (by decide) (by decide)).trans h22))) d_Mo_segment_229 ?_
              refine va_get (D := (dC, dI)) (ci := 12) (v := .int (nI Vc.us)) (C := R_Tree) (T := F_Tree) (N := 13) hx hb hts in_Tree hown hK hP 4 rfl rfl 12 (by decide) (hts _ w_1058) (fun _ h9 => h9) (MFg (by decide) rfl) d_Mo_segment_232 ?_
              refine lv_aload_n hx hb d_Mo_segment_235 rfl (lv_at hl 0 rfl) ?_
              refine lv_iload hx hb d_Mo_segment_236 (lv_at hl 4 rfl) ?_
              refine lv_iconst (v := 2) hx hb d_Mo_segment_238 (by decide) ?_
              refine W.eq (g2 := F0 m 239 ls [.int (nI 2), .int (nI Qj.R), .ref mo, .int (nI Vc.us), .int 3, .int (nI Qj.R), .ref mo]) rfl ?_
              have hPc := hP.sub (ws' := [(mo, .inr (13, MF 30 (rf (rs v Qb o) j2 b2))), (Qb.qq, .inl (cI, (8 * Qb.C), .inl Qb.qf))]) [0, 2] rfl
              have hDc := hD.sub (ws' := [(mo, .inr (13, MF 30 (rf (rs v Qb o) j2 b2))), (Qb.qq, .inl (cI, (8 * Qb.C), .inl Qb.qf))]) [0, 2] (by decide) rfl
              have hKc := hK.sub (tys' := [(cI, .int)]) [1] rfl
              have hFc := va_free (wc := [(mo, .inr (13, MF 30 (rf (rs v Qb o) j2 b2))), (Qb.qq, .inl (cI, (8 * Qb.C), .inl Qb.qf))]) hD hS hA [0, 2] rfl
              refine va_calli (va_runV (As := [.int (nI Qj.R), .int (nI 2)]) (rest := [.int (nI Vc.us), .int 3, .int (nI Qj.R), .ref mo]) ⟨hx, hb, hml, hown, hts⟩ (c_Mo_field l dC dI mo H (rf (rs v Qb o) j2 b2) cI Qb.qq (8 * Qb.C) Qb.qf Qj.R 2 (by omega) (by omega) ((rf_ne (by decide) (by decide)).trans rs_19)) (cwV 2 hts (gt_V (own := R_Mo) (C := R_Mo) (i := 286) (y := y_Mo_field) i_Mo_field w_1431 w_1433 (gt_sel (y := y_Mo_field) (n := 30) (by decide +kernel)) w_7) rfl rfl rfl (by decide +kernel) ⟨Nat.le_trans (m := 9) (Nat.le_of_ble_eq_true rfl) (Nat.le_add_right 9 F), Nat.le_trans (m := 280) (Nat.le_of_ble_eq_true rfl) (Nat.le_add_right 280 L)⟩) ⟨mp_blind, va_recv hKc hPc (ci := 13) (q0 := 0) rfl rfl, fun U hU hW => ⟨rfl, hU, by rw [hU]; exact hPc, va_K.moved hW.alike hKc, hDc.weaken (fun _ _ _ _ => trivial)⟩⟩ rfl rfl hl.1 rfl (lv_room (Nat.le_of_ble_eq_true rfl)) d_Mo_segment_239 ⟨hfit_QbVc.1, hfit_QbVc.2⟩) hS (fun q _ h => hFc q h) hFc (fun r9 _u t9 H1 locs ht hvm hw hB hz1 hk1 hS => ?_)
              obtain ⟨hP1, hK1, hD1⟩ := hB
              rw [ht] at hP1
              obtain ⟨hP, hD⟩ := va_join (wr := [(qx, .inl (cB, NN, .inl f)), (Qb.qe, .inl (cL, (3 * Qb.C), .inr (.inl Qb.ef))), (tv, .inr (12, MF 13 (tw Vc))), (Vc.au, .inl (cC, Vc.U, .inl Vc.un))]) (w1 := [(mo, .inr (13, MF 30 (rf (rs v Qb o) j2 b2))), (Qb.qq, .inl (cI, (8 * Qb.C), .inl Qb.qf))]) hP hD [0, 2] [1, 3, 4, 5] rfl rfl (by decide) (by decide) hk1 hFc hP1 hD1
              generalize H1 = H at hP hS ⊢
              have hP : va_P (dC, dI) classes [(qx, .inl (cB, NN, .inl f)), (Qb.qe, .inl (cL, (3 * Qb.C), .inr (.inl Qb.ef))), (tv, .inr (12, MF 13 (tw Vc))), (Vc.au, .inl (cC, Vc.U, .inl Vc.un)), (mo, .inr (13, MF 30 (rf (rs v Qb o) j2 b2))), (Qb.qq, .inl (cI, (8 * Qb.C), .inl Qb.qf))] H := hP
              have hD : va_D A [(qx, .inl (cB, NN, .inl f)), (Qb.qe, .inl (cL, (3 * Qb.C), .inr (.inl Qb.ef))), (tv, .inr (12, MF 13 (tw Vc))), (Vc.au, .inl (cC, Vc.U, .inl Vc.un)), (mo, .inr (13, MF 30 (rf (rs v Qb o) j2 b2))), (Qb.qq, .inl (cI, (8 * Qb.C), .inl Qb.qf))] := hD
              have hP := hP.sub (ws' := [(mo, .inr (13, MF 30 (rf (rs v Qb o) j2 b2))), (qx, .inl (cB, NN, .inl f)), (Qb.qq, .inl (cI, (8 * Qb.C), .inl Qb.qf)), (Qb.qe, .inl (cL, (3 * Qb.C), .inr (.inl Qb.ef))), (tv, .inr (12, MF 13 (tw Vc))), (Vc.au, .inl (cC, Vc.U, .inl Vc.un))]) [4, 0, 5, 1, 2, 3] rfl
              have hD := hD.sub (ws' := [(mo, .inr (13, MF 30 (rf (rs v Qb o) j2 b2))), (qx, .inl (cB, NN, .inl f)), (Qb.qq, .inl (cI, (8 * Qb.C), .inl Qb.qf)), (Qb.qe, .inl (cL, (3 * Qb.C), .inr (.inl Qb.ef))), (tv, .inr (12, MF 13 (tw Vc))), (Vc.au, .inl (cC, Vc.U, .inl Vc.un))]) [4, 0, 5, 1, 2, 3] (by decide) rfl
              have h_r9 : r9 = Qb.qf (8 * Qj.R + 2) := hw
              have h9 : r9 = nI V.us := by rw [h_r9, hf_Qb.2.2]; exact pk_us
              subst h9
              refine lv_isub hx hb d_Mo_segment_242 ?_
              refine W.eq (g2 := F0 m 243 ls [.int (nI ln), .int 3, .int (nI Qj.R), .ref mo]) (by rw [show ((nI Vc.us) - (nI V.us)) = (nI ln) from (by rw [hln]; exact nI_asub _ _)]) ?_
              refine W.eq (g2 := F0 m 243 ls [.int (nI ln), .int (nI 3), .int (nI Qj.R), .ref mo]) rfl ?_
              have hPc := hP.sub (ws' := [(mo, .inr (13, MF 30 (rf (rs v Qb o) j2 b2))), (Qb.qq, .inl (cI, (8 * Qb.C), .inl Qb.qf))]) [0, 2] rfl
              have hDc := hD.sub (ws' := [(mo, .inr (13, MF 30 (rf (rs v Qb o) j2 b2))), (Qb.qq, .inl (cI, (8 * Qb.C), .inl Qb.qf))]) [0, 2] (by decide) rfl
              have hKc := hK.sub (tys' := [(cI, .int)]) [1] rfl
              have hFc := va_free (wc := [(mo, .inr (13, MF 30 (rf (rs v Qb o) j2 b2))), (Qb.qq, .inl (cI, (8 * Qb.C), .inl Qb.qf))]) hD hS hA [0, 2] rfl
              refine va_callv (va_runV (As := [.int (nI Qj.R), .int (nI 3), .int (nI ln)]) (rest := []) ⟨hx, hb, hml, hown, hts⟩ (c_Mo_set l dC dI mo H (rf (rs v Qb o) j2 b2) cI Qb.qq (8 * Qb.C) Qb.qf Qj.R 3 ((nI ln)) (by omega) (by omega) ((rf_ne (by decide) (by decide)).trans rs_19)) (cwV 3 hts (gt_V (own := R_Mo) (C := R_Mo) (i := 272) (y := y_Mo_set) i_Mo_set w_1411 w_1413 (gt_sel (y := y_Mo_set) (n := 30) (by decide +kernel)) w_7) rfl rfl rfl (by decide +kernel) ⟨Nat.le_trans (m := 9) (Nat.le_of_ble_eq_true rfl) (Nat.le_add_right 9 F), Nat.le_trans (m := 280) (Nat.le_of_ble_eq_true rfl) (Nat.le_add_right 280 L)⟩) ⟨mp_blind, va_recv hKc hPc (ci := 13) (q0 := 0) rfl rfl, fun U hU hW => ⟨rfl, hU, by rw [hU]; exact hPc, va_K.moved hW.alike hKc, hDc.weaken (fun _ _ _ _ => trivial)⟩⟩ rfl rfl hl.1 rfl (lv_room (Nat.le_of_ble_eq_true rfl)) d_Mo_segment_243 ⟨hfit_QbVc.1, hfit_QbVc.2⟩) hS (fun q _ h => hFc q h) hFc (fun _u t9 H1 locs ht hvm hw hB hz1 hk1 hS => ?_)
              obtain ⟨hP1, hK1, hD1⟩ := hB
              rw [ht] at hP1
              obtain ⟨hP, hD⟩ := va_join (wr := [(qx, .inl (cB, NN, .inl f)), (Qb.qe, .inl (cL, (3 * Qb.C), .inr (.inl Qb.ef))), (tv, .inr (12, MF 13 (tw Vc))), (Vc.au, .inl (cC, Vc.U, .inl Vc.un))]) (w1 := [(mo, .inr (13, MF 30 (rf (rs v Qb o) j2 b2))), (Qb.qq, .inl (cI, (8 * Qb.C), .inl (upd Qb.qf (8 * Qj.R + 3) ((nI ln)))))]) hP hD [0, 2] [1, 3, 4, 5] rfl rfl (by decide) (by decide) hk1 hFc hP1 hD1
              generalize H1 = H at hP hS ⊢
              have hP : va_P (dC, dI) classes [(qx, .inl (cB, NN, .inl f)), (Qb.qe, .inl (cL, (3 * Qb.C), .inr (.inl Qb.ef))), (tv, .inr (12, MF 13 (tw Vc))), (Vc.au, .inl (cC, Vc.U, .inl Vc.un)), (mo, .inr (13, MF 30 (rf (rs v Qb o) j2 b2))), (Qb.qq, .inl (cI, (8 * Qb.C), .inl (upd Qb.qf (8 * Qj.R + 3) ((nI ln)))))] H := hP
              have hD : va_D A [(qx, .inl (cB, NN, .inl f)), (Qb.qe, .inl (cL, (3 * Qb.C), .inr (.inl Qb.ef))), (tv, .inr (12, MF 13 (tw Vc))), (Vc.au, .inl (cC, Vc.U, .inl Vc.un)), (mo, .inr (13, MF 30 (rf (rs v Qb o) j2 b2))), (Qb.qq, .inl (cI, (8 * Qb.C), .inl (upd Qb.qf (8 * Qj.R + 3) ((nI ln)))))] := hD
              have hP := hP.sub (ws' := [(mo, .inr (13, MF 30 (rf (rs v Qb o) j2 b2))), (qx, .inl (cB, NN, .inl f)), (Qb.qq, .inl (cI, (8 * Qb.C), .inl (upd Qb.qf (8 * Qj.R + 3) ((nI ln))))), (Qb.qe, .inl (cL, (3 * Qb.C), .inr (.inl Qb.ef))), (tv, .inr (12, MF 13 (tw Vc))), (Vc.au, .inl (cC, Vc.U, .inl Vc.un))]) [4, 0, 5, 1, 2, 3] rfl
              have hD := hD.sub (ws' := [(mo, .inr (13, MF 30 (rf (rs v Qb o) j2 b2))), (qx, .inl (cB, NN, .inl f)), (Qb.qq, .inl (cI, (8 * Qb.C), .inl (upd Qb.qf (8 * Qj.R + 3) ((nI ln))))), (Qb.qe, .inl (cL, (3 * Qb.C), .inr (.inl Qb.ef))), (tv, .inr (12, MF 13 (tw Vc))), (Vc.au, .inl (cC, Vc.U, .inl Vc.un))]) [4, 0, 5, 1, 2, 3] (by decide) rfl
              obtain ⟨Qd, e_Qd⟩ : ∃ z : QS, z = QS.wf Qb (upd Qb.qf (8 * Qj.R + 3) ((nI ln))) := ⟨_, rfl⟩
              have hP : va_P (dC, dI) classes [(mo, .inr (13, MF 30 (rf (rs v Qd o) j2 b2))), (qx, .inl (cB, NN, .inl f)), (Qd.qq, .inl (cI, (8 * Qd.C), .inl Qd.qf)), (Qd.qe, .inl (cL, (3 * Qd.C), .inr (.inl Qd.ef))), (tv, .inr (12, MF 13 (tw Vc))), (Vc.au, .inl (cC, Vc.U, .inl Vc.un))] H := by subst e_Qd; exact hP
              have hD : va_D A [(mo, .inr (13, MF 30 (rf (rs v Qd o) j2 b2))), (qx, .inl (cB, NN, .inl f)), (Qd.qq, .inl (cI, (8 * Qd.C), .inl Qd.qf)), (Qd.qe, .inl (cL, (3 * Qd.C), .inr (.inl Qd.ef))), (tv, .inr (12, MF 13 (tw Vc))), (Vc.au, .inl (cC, Vc.U, .inl Vc.un))] := by subst e_Qd; exact hD
              have hf_Qd : Qd.C = Qb.C ∧ Qd.R = Qb.R ∧ Qd.qf = upd Qb.qf (8 * Qj.R + 3) ((nI ln)) := by rw [e_Qd]; exact ⟨rfl, rfl, rfl⟩
              have he_Qd : Qd.ef = Qb.ef := by rw [e_Qd]; rfl
              have hQk_Qd : QOK Qd := by rw [e_Qd]; exact hQk_Qb
              have hG_QdVc : GQ (Q.R + 8 * (n - i) + 8) (V.us + (n + 12 - i)) Q V Qd Vc := by unfold GQ at hG_QbVc ⊢; rw [hf_Qd.1]; exact hG_QbVc
              refine w_same (fun hq => ?_)
              refine w_tight (k := cQ Q V Qd Vc) (n := sQ Q V Qd Vc) (by unfold cQ sQ at hq ⊢; rw [hf_Qd.1]; exact hq) ?_
              have hR_Qd := hf_Qd.2.1
              have hqb_QdVc : Qd.R ≤ Qd.C ∧ Qd.C ≤ 100000 := ⟨hQk_Qd.2.2.1, hQk_Qd.2.1⟩
              have hfit_QdVc := hG_QdVc.fits
              refine lv_aload_n hx hb d_Mo_segment_246 rfl (lv_at hl 0 rfl) ?_
              refine lv_iload_n hx hb d_Mo_segment_247 rfl (lv_at hl 3 rfl) ?_
              refine lv_iconst (v := 2) hx hb d_Mo_segment_248 (by decide) ?_
              refine lv_iload hx hb d_Mo_segment_249 (lv_at hl 4 rfl) ?_
              refine W.eq (g2 := F0 m 251 ls [.int (nI Qj.R), .int (nI 2), .int (nI Q.R), .ref mo]) rfl ?_
              have hPc := hP.sub (ws' := [(mo, .inr (13, MF 30 (rf (rs v Qd o) j2 b2))), (Qd.qq, .inl (cI, (8 * Qd.C), .inl Qd.qf))]) [0, 2] rfl
              have hDc := hD.sub (ws' := [(mo, .inr (13, MF 30 (rf (rs v Qd o) j2 b2))), (Qd.qq, .inl (cI, (8 * Qd.C), .inl Qd.qf))]) [0, 2] (by decide) rfl
              have hKc := hK.sub (tys' := [(cI, .int)]) [1] rfl
              have hFc := va_free (wc := [(mo, .inr (13, MF 30 (rf (rs v Qd o) j2 b2))), (Qd.qq, .inl (cI, (8 * Qd.C), .inl Qd.qf))]) hD hS hA [0, 2] rfl
              refine va_callv (va_runV (As := [.int (nI Q.R), .int (nI 2), .int (nI Qj.R)]) (rest := []) ⟨hx, hb, hml, hown, hts⟩ (c_Mo_set l dC dI mo H (rf (rs v Qd o) j2 b2) cI Qd.qq (8 * Qd.C) Qd.qf Q.R 2 ((nI Qj.R)) (by omega) (by omega) ((rf_ne (by decide) (by decide)).trans rs_19)) (cwV 3 hts (gt_V (own := R_Mo) (C := R_Mo) (i := 272) (y := y_Mo_set) i_Mo_set w_1411 w_1413 (gt_sel (y := y_Mo_set) (n := 30) (by decide +kernel)) w_7) rfl rfl rfl (by decide +kernel) ⟨Nat.le_trans (m := 9) (Nat.le_of_ble_eq_true rfl) (Nat.le_add_right 9 F), Nat.le_trans (m := 280) (Nat.le_of_ble_eq_true rfl) (Nat.le_add_right 280 L)⟩) ⟨mp_blind, va_recv hKc hPc (ci := 13) (q0 := 0) rfl rfl, fun U hU hW => ⟨rfl, hU, by rw [hU]; exact hPc, va_K.moved hW.alike hKc, hDc.weaken (fun _ _ _ _ => trivial)⟩⟩ rfl rfl hl.1 rfl (lv_room (Nat.le_of_ble_eq_true rfl)) d_Mo_segment_251 ⟨hfit_QdVc.1, hfit_QdVc.2⟩) hS (fun q _ h => hFc q h) hFc (fun _u t9 H1 locs ht hvm hw hB hz1 hk1 hS => ?_)
              obtain ⟨hP1, hK1, hD1⟩ := hB
              rw [ht] at hP1
              obtain ⟨hP, hD⟩ := va_join (wr := [(qx, .inl (cB, NN, .inl f)), (Qd.qe, .inl (cL, (3 * Qd.C), .inr (.inl Qd.ef))), (tv, .inr (12, MF 13 (tw Vc))), (Vc.au, .inl (cC, Vc.U, .inl Vc.un))]) (w1 := [(mo, .inr (13, MF 30 (rf (rs v Qd o) j2 b2))), (Qd.qq, .inl (cI, (8 * Qd.C), .inl (upd Qd.qf (8 * Q.R + 2) ((nI Qj.R)))))]) hP hD [0, 2] [1, 3, 4, 5] rfl rfl (by decide) (by decide) hk1 hFc hP1 hD1
              generalize H1 = H at hP hS ⊢
              have hP : va_P (dC, dI) classes [(qx, .inl (cB, NN, .inl f)), (Qd.qe, .inl (cL, (3 * Qd.C), .inr (.inl Qd.ef))), (tv, .inr (12, MF 13 (tw Vc))), (Vc.au, .inl (cC, Vc.U, .inl Vc.un)), (mo, .inr (13, MF 30 (rf (rs v Qd o) j2 b2))), (Qd.qq, .inl (cI, (8 * Qd.C), .inl (upd Qd.qf (8 * Q.R + 2) ((nI Qj.R)))))] H := hP
              have hD : va_D A [(qx, .inl (cB, NN, .inl f)), (Qd.qe, .inl (cL, (3 * Qd.C), .inr (.inl Qd.ef))), (tv, .inr (12, MF 13 (tw Vc))), (Vc.au, .inl (cC, Vc.U, .inl Vc.un)), (mo, .inr (13, MF 30 (rf (rs v Qd o) j2 b2))), (Qd.qq, .inl (cI, (8 * Qd.C), .inl (upd Qd.qf (8 * Q.R + 2) ((nI Qj.R)))))] := hD
              have hP := hP.sub (ws' := [(mo, .inr (13, MF 30 (rf (rs v Qd o) j2 b2))), (qx, .inl (cB, NN, .inl f)), (Qd.qq, .inl (cI, (8 * Qd.C), .inl (upd Qd.qf (8 * Q.R + 2) ((nI Qj.R))))), (Qd.qe, .inl (cL, (3 * Qd.C), .inr (.inl Qd.ef))), (tv, .inr (12, MF 13 (tw Vc))), (Vc.au, .inl (cC, Vc.U, .inl Vc.un))]) [4, 0, 5, 1, 2, 3] rfl
              have hD := hD.sub (ws' := [(mo, .inr (13, MF 30 (rf (rs v Qd o) j2 b2))), (qx, .inl (cB, NN, .inl f)), (Qd.qq, .inl (cI, (8 * Qd.C), .inl (upd Qd.qf (8 * Q.R + 2) ((nI Qj.R))))), (Qd.qe, .inl (cL, (3 * Qd.C), .inr (.inl Qd.ef))), (tv, .inr (12, MF 13 (tw Vc))), (Vc.au, .inl (cC, Vc.U, .inl Vc.un))]) [4, 0, 5, 1, 2, 3] (by decide) rfl
              obtain ⟨Qe, e_Qe⟩ : ∃ z : QS, z = QS.wf Qd (upd Qd.qf (8 * Q.R + 2) ((nI Qj.R))) := ⟨_, rfl⟩
              have hP : va_P (dC, dI) classes [(mo, .inr (13, MF 30 (rf (rs v Qe o) j2 b2))), (qx, .inl (cB, NN, .inl f)), (Qe.qq, .inl (cI, (8 * Qe.C), .inl Qe.qf)), (Qe.qe, .inl (cL, (3 * Qe.C), .inr (.inl Qe.ef))), (tv, .inr (12, MF 13 (tw Vc))), (Vc.au, .inl (cC, Vc.U, .inl Vc.un))] H := by subst e_Qe; exact hP
              have hD : va_D A [(mo, .inr (13, MF 30 (rf (rs v Qe o) j2 b2))), (qx, .inl (cB, NN, .inl f)), (Qe.qq, .inl (cI, (8 * Qe.C), .inl Qe.qf)), (Qe.qe, .inl (cL, (3 * Qe.C), .inr (.inl Qe.ef))), (tv, .inr (12, MF 13 (tw Vc))), (Vc.au, .inl (cC, Vc.U, .inl Vc.un))] := by subst e_Qe; exact hD
              have hf_Qe : Qe.C = Qd.C ∧ Qe.R = Qd.R ∧ Qe.qf = upd Qd.qf (8 * Q.R + 2) ((nI Qj.R)) := by rw [e_Qe]; exact ⟨rfl, rfl, rfl⟩
              have he_Qe : Qe.ef = Qd.ef := by rw [e_Qe]; rfl
              have hQk_Qe : QOK Qe := by rw [e_Qe]; exact hQk_Qd
              have hG_QeVc : GQ (Q.R + 8 * (n - i) + 8) (V.us + (n + 12 - i)) Q V Qe Vc := by unfold GQ at hG_QdVc ⊢; rw [hf_Qe.1]; exact hG_QdVc
              refine w_same (fun hq => ?_)
              refine w_tight (k := cQ Q V Qe Vc) (n := sQ Q V Qe Vc) (by unfold cQ sQ at hq ⊢; rw [hf_Qe.1]; exact hq) ?_
              have hR_Qe := hf_Qe.2.1
              have hqb_QeVc : Qe.R ≤ Qe.C ∧ Qe.C ≤ 100000 := ⟨hQk_Qe.2.2.1, hQk_Qe.2.1⟩
              have hfit_QeVc := hG_QeVc.fits
              have hlnl : (nmT_ f n j j2).length = ln := by omega
              have hSF : SGf O Q V Q.R y Qe Vc fl (segS ds [namS (nmT_ f n j j2)]) := hSGj.name hy (by omega) hE_Qa hA_Qa.2.2.2.2.1 hA_Qa.2.2.2.2.2 hf_Qb.2.2 he_Qb hf_Qd.2.2 he_Qd hf_Qe.2.2 he_Qe hXc.un.1 (by omega) (by rw [← hlnl, hXc.un.2]; exact hcm)
              refine lv_iload_n hx hb d_Mo_segment_254 rfl (lv_at hl 3 rfl) ?_
              have hfin : sgP f n ok (orL f n) false i = some (j2, fl, segS ds [namS (nmT_ f n j j2)]) := by rw [hsN]; unfold sgN; rw [if_neg (fun h => c101 (h_r4.trans h.1)), if_neg (fun h => h hlet), hnm]
              refine w_same (fun hq => ?_)
              refine W.widen (k := kcap Q (Q.R + 8 * (n - i) + 8) + qcap V (V.us + (n + 12 - i))) (n := 22 * kcap Q (Q.R + 8 * (n - i) + 8) + 2 * qcap V (V.us + (n + 12 - i))) hfit_QeVc.1 hfit_QeVc.2 ?_
              have hPo : QPo n i 8 Q V (Qe, Vc, j2, b2, o) := ⟨hQk_Qe, hG_QeVc, ⟨_, hXc, by omega⟩, by show Q.R ≤ Qe.R; omega, by show Qe.R ≤ Q.R + 8 * (n - i) + 8; omega⟩
              exact W.iret (v := nI Q.R) hx hb hr (fun t9 ht hW => ⟨⟨nI Q.R, (Qe, Vc, j2, b2, o), rfl, ⟨hPo, Or.inl ⟨fl, segS ds [namS (nmT_ f n j j2)], rfl, hfin, hSF, by show Qe.R + 8 * i + 7 ≤ Q.R + 8 * j2; omega, by show Vc.us + i ≤ V.us + j2; omega, by show j2 ≤ n; omega, by show Q.R < Qe.R; omega, rfl⟩⟩, ⟨by rw [ht]; exact hP, va_K.moved hW.alike hK, hD⟩, by rw [ht]; exact hq⟩, hS.F ht⟩) hS.2.2 d_Mo_segment_255
            · have hgo : letH (hereV f n j2) ∨ digH (hereV f n j2) := Or.inr (by rw [← h_r7]; exact h_d7.1 c197)
              have hltg : j2 < n := hgo.elim letH_lt digH_lt
              refine lv_aload_n hx hb d_Mo_segment_200 rfl (lv_at hl 0 rfl) ?_
              refine va_get (D := (dC, dI)) (ci := 13) (v := .ref tv) (C := R_Mo) (T := F_Mo) (N := 30) hx hb hts in_Mo hown hK hP 0 rfl rfl 22 (by decide) (hts _ w_1111) (fun _ h9 => h9) (MFg (by decide) ((rf_ne (by decide) (by decide)).trans ((rs_ne (by decide) (by decide) (by decide) (by decide)).trans h22))) d_Mo_segment_201 ?_
              refine lv_aload_n hx hb d_Mo_segment_204 rfl (lv_at hl 0 rfl) ?_
              have hPc := hP.sub (ws' := [(mo, .inr (13, MF 30 (rf (rs v Qb o) j2 b2))), (qx, .inl (cB, NN, .inl f))]) [0, 1] rfl
              have hDc := hD.sub (ws' := [(mo, .inr (13, MF 30 (rf (rs v Qb o) j2 b2))), (qx, .inl (cB, NN, .inl f))]) [0, 1] (by decide) rfl
              have hKc := hK.sub (tys' := [(cB, .byte)]) [0] rfl
              have hFc := va_free (wc := [(mo, .inr (13, MF 30 (rf (rs v Qb o) j2 b2))), (qx, .inl (cB, NN, .inl f))]) hD hS hA [0, 1] rfl
              refine va_calli (va_runV (As := []) (rest := [.ref tv]) ⟨hx, hb, hml, hown, hts⟩ (c_Mo_c l dC dI mo H (rf (rs v Qb o) j2 b2) cB qx NN f n j2 (by omega) (by omega) (by omega) ((rf_ne (by decide) (by decide)).trans ((rs_ne (by decide) (by decide) (by decide) (by decide)).trans h6)) rf_7 ((rf_ne (by decide) (by decide)).trans ((rs_ne (by decide) (by decide) (by decide) (by decide)).trans h8))) (cwV 0 hts (gt_V (own := R_Mo) (C := R_Mo) (i := 147) (y := y_Mo_c) i_Mo_c w_1233 w_1235 (gt_sel (y := y_Mo_c) (n := 30) (by decide +kernel)) w_7) rfl rfl rfl (by decide +kernel) ⟨Nat.le_trans (m := 9) (Nat.le_of_ble_eq_true rfl) (Nat.le_add_right 9 F), Nat.le_trans (m := 280) (Nat.le_of_ble_eq_true rfl) (Nat.le_add_right 280 L)⟩) ⟨mp_blind, va_recv hKc hPc (ci := 13) (q0 := 0) rfl rfl, fun U hU hW => ⟨rfl, hU, by rw [hU]; exact hPc, va_K.moved hW.alike hKc, hDc.weaken (fun _ _ _ _ => trivial)⟩⟩ rfl rfl hl.1 rfl (lv_room (Nat.le_of_ble_eq_true rfl)) d_Mo_segment_205 ⟨hfit_QbVc.1, hfit_QbVc.2⟩) hS (fun q _ h => hFc q h) hFc (fun r8 _u t9 H1 locs ht hvm hw hB hz1 hk1 hS => ?_)
              obtain ⟨hP1, hK1, hD1⟩ := hB
              rw [ht] at hP1
              obtain ⟨hP, hD⟩ := va_join (wr := [(Qb.qq, .inl (cI, (8 * Qb.C), .inl Qb.qf)), (Qb.qe, .inl (cL, (3 * Qb.C), .inr (.inl Qb.ef))), (tv, .inr (12, MF 13 (tw Vc))), (Vc.au, .inl (cC, Vc.U, .inl Vc.un))]) (w1 := [(mo, .inr (13, MF 30 (rf (rs v Qb o) j2 b2))), (qx, .inl (cB, NN, .inl f))]) hP hD [0, 1] [2, 3, 4, 5] rfl rfl (by decide) (by decide) hk1 hFc hP1 hD1
              generalize H1 = H at hP hS ⊢
              have hP : va_P (dC, dI) classes [(Qb.qq, .inl (cI, (8 * Qb.C), .inl Qb.qf)), (Qb.qe, .inl (cL, (3 * Qb.C), .inr (.inl Qb.ef))), (tv, .inr (12, MF 13 (tw Vc))), (Vc.au, .inl (cC, Vc.U, .inl Vc.un)), (mo, .inr (13, MF 30 (rf (rs v Qb o) j2 b2))), (qx, .inl (cB, NN, .inl f))] H := hP
              have hD : va_D A [(Qb.qq, .inl (cI, (8 * Qb.C), .inl Qb.qf)), (Qb.qe, .inl (cL, (3 * Qb.C), .inr (.inl Qb.ef))), (tv, .inr (12, MF 13 (tw Vc))), (Vc.au, .inl (cC, Vc.U, .inl Vc.un)), (mo, .inr (13, MF 30 (rf (rs v Qb o) j2 b2))), (qx, .inl (cB, NN, .inl f))] := hD
              have hP := hP.sub (ws' := [(mo, .inr (13, MF 30 (rf (rs v Qb o) j2 b2))), (qx, .inl (cB, NN, .inl f)), (Qb.qq, .inl (cI, (8 * Qb.C), .inl Qb.qf)), (Qb.qe, .inl (cL, (3 * Qb.C), .inr (.inl Qb.ef))), (tv, .inr (12, MF 13 (tw Vc))), (Vc.au, .inl (cC, Vc.U, .inl Vc.un))]) [4, 5, 0, 1, 2, 3] rfl
              have hD := hD.sub (ws' := [(mo, .inr (13, MF 30 (rf (rs v Qb o) j2 b2))), (qx, .inl (cB, NN, .inl f)), (Qb.qq, .inl (cI, (8 * Qb.C), .inl Qb.qf)), (Qb.qe, .inl (cL, (3 * Qb.C), .inr (.inl Qb.ef))), (tv, .inr (12, MF 13 (tw Vc))), (Vc.au, .inl (cC, Vc.U, .inl Vc.un))]) [4, 5, 0, 1, 2, 3] (by decide) rfl
              have h_r8 : r8 = hereV f n j2 := hw
              have hPc := hP.sub (ws' := [(tv, .inr (12, MF 13 (tw Vc))), (Vc.au, .inl (cC, Vc.U, .inl Vc.un))]) [4, 5] rfl
              have hDc := hD.sub (ws' := [(tv, .inr (12, MF 13 (tw Vc))), (Vc.au, .inl (cC, Vc.U, .inl Vc.un))]) [4, 5] (by decide) rfl
              have hKc := hK.sub (tys' := [(cC, .char)]) [3] rfl
              have hFc := va_free (wc := [(tv, .inr (12, MF 13 (tw Vc))), (Vc.au, .inl (cC, Vc.U, .inl Vc.un))]) hD hS hA [4, 5] rfl
              refine w_same (fun hq0 => ?_)
              refine va_callv (va_runV (As := [.int r8]) (rest := []) ⟨hx, hb, hml, hown, hts⟩ (c_Tree_unitT l dC dI tv H cC Vc r8 hTk_Vc) (cwV 1 hts (gt_V (own := R_Mo) (C := R_Tree) (i := 177) (y := y_Tree_unit) i_Tree_unit w_1265 w_1266 w_1267 w_8) rfl rfl rfl (by decide +kernel) ⟨Nat.le_trans (m := 9) (Nat.le_of_ble_eq_true rfl) (Nat.le_add_right 9 F), Nat.le_trans (m := 280) (Nat.le_of_ble_eq_true rfl) (Nat.le_add_right 280 L)⟩) ⟨mp_blind, va_recv hKc hPc (ci := 12) (q0 := 0) rfl rfl, fun U hU hW => ⟨rfl, hU, by rw [hU]; exact hPc, va_K.moved hW.alike hKc, hDc.weaken (fun _ _ _ _ => trivial)⟩⟩ rfl rfl hl.1 rfl (lv_room (Nat.le_of_ble_eq_true rfl)) d_Mo_segment_208 ⟨(uq_fit hG_QbVc (by omega)).1, (uq_fit hG_QbVc (by omega)).2⟩) hS (fun q _ h => hFc q h) hFc (fun Vn t9 H1 locs ht hvm hw hB hz1 hk1 hS => ?_)
              obtain ⟨⟨hP1, hK1, hD1⟩, hz9⟩ := hB
              rw [ht] at hP1
              rw [ht] at hz9
              have hX_Vn : TX Vc Vn [r8] := hw
              have hXs_Vn := hX_Vn.us
              rw [List.length_singleton] at hXs_Vn
              obtain ⟨hG_QbVn, hGc, hGs⟩ := hG_QbVc.tr (hX_Vn.gq Qb).1 (Nat.zero_le _) (show Vc.us + 1 ≤ V.us + (n + 12 - i) by omega)
              rw [← (hX_Vn.gq Qb).2.1] at hGc
              rw [← (hX_Vn.gq Qb).2.2] at hGs
              have hq1 : szk s.heap H1 (cQ Q V Qb Vn) (sQ Q V Qb Vn) := (hq0.trans hz9).mono hGc hGs
              refine w_tight hq1 ?_
              obtain ⟨hP, hD⟩ := va_join (wr := [(mo, .inr (13, MF 30 (rf (rs v Qb o) j2 b2))), (qx, .inl (cB, NN, .inl f)), (Qb.qq, .inl (cI, (8 * Qb.C), .inl Qb.qf)), (Qb.qe, .inl (cL, (3 * Qb.C), .inr (.inl Qb.ef)))]) (w1 := [(tv, .inr (12, MF 13 (tw Vn))), (Vn.au, .inl (cC, Vn.U, .inl Vn.un))]) hP hD [4, 5] [0, 1, 2, 3] rfl rfl (by decide) (by decide) hk1 hFc hP1 hD1
              generalize H1 = H at hP hS ⊢
              have hP : va_P (dC, dI) classes [(mo, .inr (13, MF 30 (rf (rs v Qb o) j2 b2))), (qx, .inl (cB, NN, .inl f)), (Qb.qq, .inl (cI, (8 * Qb.C), .inl Qb.qf)), (Qb.qe, .inl (cL, (3 * Qb.C), .inr (.inl Qb.ef))), (tv, .inr (12, MF 13 (tw Vn))), (Vn.au, .inl (cC, Vn.U, .inl Vn.un))] H := hP
              have hD : va_D A [(mo, .inr (13, MF 30 (rf (rs v Qb o) j2 b2))), (qx, .inl (cB, NN, .inl f)), (Qb.qq, .inl (cI, (8 * Qb.C), .inl Qb.qf)), (Qb.qe, .inl (cL, (3 * Qb.C), .inr (.inl Qb.ef))), (tv, .inr (12, MF 13 (tw Vn))), (Vn.au, .inl (cC, Vn.U, .inl Vn.un))] := hD
              have hP := hP.sub (ws' := [(mo, .inr (13, MF 30 (rf (rs v Qb o) j2 b2))), (qx, .inl (cB, NN, .inl f)), (Qb.qq, .inl (cI, (8 * Qb.C), .inl Qb.qf)), (Qb.qe, .inl (cL, (3 * Qb.C), .inr (.inl Qb.ef))), (tv, .inr (12, MF 13 (tw Vn))), (Vn.au, .inl (cC, Vn.U, .inl Vn.un))]) [0, 1, 2, 3, 4, 5] rfl
              have hD := hD.sub (ws' := [(mo, .inr (13, MF 30 (rf (rs v Qb o) j2 b2))), (qx, .inl (cB, NN, .inl f)), (Qb.qq, .inl (cI, (8 * Qb.C), .inl Qb.qf)), (Qb.qe, .inl (cL, (3 * Qb.C), .inr (.inl Qb.ef))), (tv, .inr (12, MF 13 (tw Vn))), (Vn.au, .inl (cC, Vn.U, .inl Vn.un))]) [0, 1, 2, 3, 4, 5] (by decide) rfl
              have hTk_Vn := hX_Vn.ok hTk_Vc (by rw [List.length_singleton]; omega)
              have hqb_QbVn : Qb.R ≤ Qb.C ∧ Qb.C ≤ 100000 := ⟨hQk_Qb.2.2.1, hQk_Qb.2.1⟩
              have hfit_QbVn := hG_QbVn.fits
              refine lv_aload_n hx hb d_Mo_segment_211 rfl (lv_at hl 0 rfl) ?_
              refine lv_dup hx hb d_Mo_segment_212 rfl ?_
              refine va_get (D := (dC, dI)) (ci := 13) (v := .int (nI j2)) (C := R_Mo) (T := F_Mo) (N := 30) hx hb hts in_Mo hown hK hP 0 rfl rfl 7 (by decide) (hts _ w_1096) (fun _ h9 => h9) (MFg (by decide) rf_7) d_Mo_segment_213 ?_
              refine lv_iconst (v := 1) hx hb d_Mo_segment_216 (by decide) ?_
              refine lv_iadd hx hb d_Mo_segment_217 ?_
              refine W.eq (g2 := F0 m 218 ls [.int (nI (j2 + 1)), .ref mo]) (by rw [show ((nI j2) + 1) = (nI (j2 + 1)) from nI_1 _]) ?_
              refine va_put (D := (dC, dI)) (ci := 13) (v := .int (nI (j2 + 1))) (ty := .int) (C := R_Mo) (T := F_Mo) (N := 30) hx hb hts in_Mo t_Mo t_Mo_ok n_Mo hown hK hP hD hS 0 rfl rfl 7 (by decide) (hts _ w_1096) (fun _ h9 => h9) rfl (by decide +kernel) rfl rfl (by rw [MFl]; decide) d_Mo_segment_218 (fun H locs hP hD hS => ?_)
              rw [MFs (n := 30) (k := 7) (by decide)] at hP hD
              have hP : va_P (dC, dI) classes [(mo, .inr (13, MF 30 (va_up (rf (rs v Qb o) j2 b2) 7 (.int (nI (j2 + 1)))))), (qx, .inl (cB, NN, .inl f)), (Qb.qq, .inl (cI, (8 * Qb.C), .inl Qb.qf)), (Qb.qe, .inl (cL, (3 * Qb.C), .inr (.inl Qb.ef))), (tv, .inr (12, MF 13 (tw Vn))), (Vn.au, .inl (cC, Vn.U, .inl Vn.un))] H := hP
              have hD : va_D A [(mo, .inr (13, MF 30 (va_up (rf (rs v Qb o) j2 b2) 7 (.int (nI (j2 + 1)))))), (qx, .inl (cB, NN, .inl f)), (Qb.qq, .inl (cI, (8 * Qb.C), .inl Qb.qf)), (Qb.qe, .inl (cL, (3 * Qb.C), .inr (.inl Qb.ef))), (tv, .inr (12, MF 13 (tw Vn))), (Vn.au, .inl (cC, Vn.U, .inl Vn.un))] := hD
              rw [rf_u7] at hP hD
              have hP : va_P (dC, dI) classes [(mo, .inr (13, MF 30 (rf (rs v Qb o) (j2 + 1) b2))), (qx, .inl (cB, NN, .inl f)), (Qb.qq, .inl (cI, (8 * Qb.C), .inl Qb.qf)), (Qb.qe, .inl (cL, (3 * Qb.C), .inr (.inl Qb.ef))), (tv, .inr (12, MF 13 (tw Vn))), (Vn.au, .inl (cC, Vn.U, .inl Vn.un))] H := hP
              have hD : va_D A [(mo, .inr (13, MF 30 (rf (rs v Qb o) (j2 + 1) b2))), (qx, .inl (cB, NN, .inl f)), (Qb.qq, .inl (cI, (8 * Qb.C), .inl Qb.qf)), (Qb.qe, .inl (cL, (3 * Qb.C), .inr (.inl Qb.ef))), (tv, .inr (12, MF 13 (tw Vn))), (Vn.au, .inl (cC, Vn.U, .inl Vn.un))] := hD
              refine lv_goto (tgt := 180) hx hb d_Mo_segment_221 (by decide) ?_
              refine w_same (fun hq => ?_)
              refine W.widen (k := kcap Q (Q.R + 8 * (n - i) + 8) + qcap V (V.us + (n + 12 - i))) (n := 22 * kcap Q (Q.R + 8 * (n - i) + 8) + 2 * qcap V (V.us + (n + 12 - i))) hfit_QbVn.1 hfit_QbVn.2 ?_
              have hst : nmE f n m0 (j2 + 1) = nmE f n (n + 1) j := by rw [← hI5, hm0]; exact (nmE_s hgo).symm
              have hX2 : TX V Vn (nmT_ f n j (j2 + 1)) := by rw [nmT_s hI2, ← h_r8]; exact hXc.trans hX_Vn
              have hcm2 : (nmT_ f n j (j2 + 1)).map c16 = nmT_ f n j (j2 + 1) := by rw [nmT_s hI2, List.map_append, hcm, List.map_singleton, c16_id (letdig_b hgo).1 (Int32.le_trans (letdig_b hgo).2 (by decide))]
              exact ih (Vn, m0, j2 + 1, b2) _ _ _ ⟨⟨hX2, hcm2⟩, hTk_Vn, hG_QbVn, by show Vn.us + j = V.us + (j2 + 1); omega, by omega, by omega, by omega, hst, hq⟩ (by show n + 1 - (j2 + 1) < n + 1 - j2; omega) hP hD hS (lv_sub hl [0, 1, 2, 3, 4] rfl)
        · refine lv_aload_n hx hb d_Mo_segment_148 rfl (lv_at hl 0 rfl) ?_
          refine lv_aload_n hx hb d_Mo_segment_149 rfl (lv_at hl 0 rfl) ?_
          refine va_get (D := (dC, dI)) (ci := 13) (v := .int (nI j)) (C := R_Mo) (T := F_Mo) (N := 30) hx hb hts in_Mo hown hK hP 0 rfl rfl 7 (by decide) (hts _ w_1096) (fun _ h9 => h9) (MFg (by decide) rf_7) d_Mo_segment_150 ?_
          have hPc := hP.sub (ws' := [(mo, .inr (13, MF 30 (rf (rs v Qj o) j b)))]) [0] rfl
          have hDc := hD.sub (ws' := [(mo, .inr (13, MF 30 (rf (rs v Qj o) j b)))]) [0] (by decide) rfl
          have hKc := hK.sub (tys' := []) [] rfl
          have hFc := va_free (wc := [(mo, .inr (13, MF 30 (rf (rs v Qj o) j b)))]) hD hS hA [0] rfl
          refine va_calli (va_runV (As := [.int (nI j)]) (rest := []) ⟨hx, hb, hml, hown, hts⟩ (c_Mo_fail l dC dI mo H (rf (rs v Qj o) j b) b ((nI j)) rf_9) (cwV 1 hts (gt_V (own := R_Mo) (C := R_Mo) (i := 151) (y := y_Mo_fail) i_Mo_fail w_1250 w_1252 (gt_sel (y := y_Mo_fail) (n := 30) (by decide +kernel)) w_7) rfl rfl rfl (by decide +kernel) ⟨Nat.le_trans (m := 9) (Nat.le_of_ble_eq_true rfl) (Nat.le_add_right 9 F), Nat.le_trans (m := 280) (Nat.le_of_ble_eq_true rfl) (Nat.le_add_right 280 L)⟩) ⟨mp_blind, va_recv hKc hPc (ci := 13) (q0 := 0) rfl rfl, fun U hU hW => ⟨rfl, hU, by rw [hU]; exact hPc, va_K.moved hW.alike hKc, hDc.weaken (fun _ _ _ _ => trivial)⟩⟩ rfl rfl hl.1 rfl (lv_room (Nat.le_of_ble_eq_true rfl)) d_Mo_segment_153 ⟨hfit_QjV.1, hfit_QjV.2⟩) hS (fun q _ h => hFc q h) hFc (fun r0 u2 t9 H1 locs ht hvm hw hB hz1 hk1 hS => ?_)
          obtain ⟨hP1, hK1, hD1⟩ := hB
          rw [ht] at hP1
          obtain ⟨hP, hD⟩ := va_join (wr := [(qx, .inl (cB, NN, .inl f)), (Qj.qq, .inl (cI, (8 * Qj.C), .inl Qj.qf)), (Qj.qe, .inl (cL, (3 * Qj.C), .inr (.inl Qj.ef))), (tv, .inr (12, MF 13 (tw V))), (V.au, .inl (cC, V.U, .inl V.un))]) (w1 := [(mo, .inr (13, MF 30 u2))]) hP hD [0] [1, 2, 3, 4, 5] rfl rfl (by decide) (by decide) hk1 hFc hP1 hD1
          generalize H1 = H at hP hS ⊢
          have hP : va_P (dC, dI) classes [(qx, .inl (cB, NN, .inl f)), (Qj.qq, .inl (cI, (8 * Qj.C), .inl Qj.qf)), (Qj.qe, .inl (cL, (3 * Qj.C), .inr (.inl Qj.ef))), (tv, .inr (12, MF 13 (tw V))), (V.au, .inl (cC, V.U, .inl V.un)), (mo, .inr (13, MF 30 u2))] H := hP
          have hD : va_D A [(qx, .inl (cB, NN, .inl f)), (Qj.qq, .inl (cI, (8 * Qj.C), .inl Qj.qf)), (Qj.qe, .inl (cL, (3 * Qj.C), .inr (.inl Qj.ef))), (tv, .inr (12, MF 13 (tw V))), (V.au, .inl (cC, V.U, .inl V.un)), (mo, .inr (13, MF 30 u2))] := hD
          have hP := hP.sub (ws' := [(mo, .inr (13, MF 30 u2)), (qx, .inl (cB, NN, .inl f)), (Qj.qq, .inl (cI, (8 * Qj.C), .inl Qj.qf)), (Qj.qe, .inl (cL, (3 * Qj.C), .inr (.inl Qj.ef))), (tv, .inr (12, MF 13 (tw V))), (V.au, .inl (cC, V.U, .inl V.un))]) [5, 0, 1, 2, 3, 4] rfl
          have hD := hD.sub (ws' := [(mo, .inr (13, MF 30 u2)), (qx, .inl (cB, NN, .inl f)), (Qj.qq, .inl (cI, (8 * Qj.C), .inl Qj.qf)), (Qj.qe, .inl (cL, (3 * Qj.C), .inr (.inl Qj.ef))), (tv, .inr (12, MF 13 (tw V))), (V.au, .inl (cC, V.U, .inl V.un))]) [5, 0, 1, 2, 3, 4] (by decide) rfl
          obtain ⟨b7, h_b7⟩ := rf_fail (v := (rs v Qj o)) (i := j) (br := b) (b2 := b) (wh := (nI j))
          have hw : r0 = 0 ∧ u2 = _ := hw
          obtain ⟨hw1, hw2⟩ := hw
          rw [h_b7] at hw2
          rw [hw2] at hP hD
          subst hw1
          have hP : va_P (dC, dI) classes [(mo, .inr (13, MF 30 (rf (rs v Qj o) j b7))), (qx, .inl (cB, NN, .inl f)), (Qj.qq, .inl (cI, (8 * Qj.C), .inl Qj.qf)), (Qj.qe, .inl (cL, (3 * Qj.C), .inr (.inl Qj.ef))), (tv, .inr (12, MF 13 (tw V))), (V.au, .inl (cC, V.U, .inl V.un))] H := hP
          have hD : va_D A [(mo, .inr (13, MF 30 (rf (rs v Qj o) j b7))), (qx, .inl (cB, NN, .inl f)), (Qj.qq, .inl (cI, (8 * Qj.C), .inl Qj.qf)), (Qj.qe, .inl (cL, (3 * Qj.C), .inr (.inl Qj.ef))), (tv, .inr (12, MF 13 (tw V))), (V.au, .inl (cC, V.U, .inl V.un))] := hD
          refine lv_pop hx hb d_Mo_segment_156 rfl ?_
          refine lv_iconst (v := (-1)) hx hb d_Mo_segment_157 (by decide) ?_
          have hfin : sgP f n ok (orL f n) false i = none := by rw [hsN]; unfold sgN; rw [if_neg (fun h => c101 (h_r4.trans h.1)), if_pos (by rw [← h_r5]; exact h_t5.2 c145)]
          refine w_same (fun hq => ?_)
          refine W.widen (k := kcap Q (Q.R + 8 * (n - i) + 8) + qcap V (V.us + (n + 12 - i))) (n := 22 * kcap Q (Q.R + 8 * (n - i) + 8) + 2 * qcap V (V.us + (n + 12 - i))) hfit_QjV.1 hfit_QjV.2 ?_
          have hPo : QPo n i 8 Q V (Qj, V, j, b7, o) := ⟨hQk_Qj, hG_QjV, ⟨[], TX.rf hTk_V, Nat.zero_le _⟩, by show Q.R ≤ Qj.R; omega, by show Qj.R ≤ Q.R + 8 * (n - i) + 8; omega⟩
          exact W.iret (v := -1) hx hb hr (fun t9 ht hW => ⟨⟨-1, (Qj, V, j, b7, o), rfl, ⟨hPo, Or.inr ⟨rfl, hfin⟩⟩, ⟨by rw [ht]; exact hP, va_K.moved hW.alike hK, hD⟩, by rw [ht]; exact hq⟩, hS.F ht⟩) hS.2.2 d_Mo_segment_158
      · refine lv_iload_n hx hb d_Mo_segment_104 rfl (lv_at hl 2 rfl) ?_
        refine lv_if_ne (tgt := 138) hx hb d_Mo_segment_105 (by decide) (fun h => absurd h (by decide)) (fun _ => ?_)
        refine lv_aload_n hx hb d_Mo_segment_108 rfl (lv_at hl 0 rfl) ?_
        refine lv_dup hx hb d_Mo_segment_109 rfl ?_
        refine va_get (D := (dC, dI)) (ci := 13) (v := .int (nI j)) (C := R_Mo) (T := F_Mo) (N := 30) hx hb hts in_Mo hown hK hP 0 rfl rfl 7 (by decide) (hts _ w_1096) (fun _ h9 => h9) (MFg (by decide) rf_7) d_Mo_segment_110 ?_
        refine lv_iconst (v := 1) hx hb d_Mo_segment_113 (by decide) ?_
        refine lv_iadd hx hb d_Mo_segment_114 ?_
        have hlt4 := here_in (h_r4.symm.trans c101) (by decide)
        refine W.eq (g2 := F0 m 115 ls [.int (nI (j + 1)), .ref mo]) (by rw [show ((nI j) + 1) = (nI (j + 1)) from nI_1 _]) ?_
        refine va_put (D := (dC, dI)) (ci := 13) (v := .int (nI (j + 1))) (ty := .int) (C := R_Mo) (T := F_Mo) (N := 30) hx hb hts in_Mo t_Mo t_Mo_ok n_Mo hown hK hP hD hS 0 rfl rfl 7 (by decide) (hts _ w_1096) (fun _ h9 => h9) rfl (by decide +kernel) rfl rfl (by rw [MFl]; decide) d_Mo_segment_115 (fun H locs hP hD hS => ?_)
        rw [MFs (n := 30) (k := 7) (by decide)] at hP hD
        have hP : va_P (dC, dI) classes [(mo, .inr (13, MF 30 (va_up (rf (rs v Qj o) j b) 7 (.int (nI (j + 1)))))), (qx, .inl (cB, NN, .inl f)), (Qj.qq, .inl (cI, (8 * Qj.C), .inl Qj.qf)), (Qj.qe, .inl (cL, (3 * Qj.C), .inr (.inl Qj.ef))), (tv, .inr (12, MF 13 (tw V))), (V.au, .inl (cC, V.U, .inl V.un))] H := hP
        have hD : va_D A [(mo, .inr (13, MF 30 (va_up (rf (rs v Qj o) j b) 7 (.int (nI (j + 1)))))), (qx, .inl (cB, NN, .inl f)), (Qj.qq, .inl (cI, (8 * Qj.C), .inl Qj.qf)), (Qj.qe, .inl (cL, (3 * Qj.C), .inr (.inl Qj.ef))), (tv, .inr (12, MF 13 (tw V))), (V.au, .inl (cC, V.U, .inl V.un))] := hD
        rw [rf_u7] at hP hD
        have hP : va_P (dC, dI) classes [(mo, .inr (13, MF 30 (rf (rs v Qj o) (j + 1) b))), (qx, .inl (cB, NN, .inl f)), (Qj.qq, .inl (cI, (8 * Qj.C), .inl Qj.qf)), (Qj.qe, .inl (cL, (3 * Qj.C), .inr (.inl Qj.ef))), (tv, .inr (12, MF 13 (tw V))), (V.au, .inl (cC, V.U, .inl V.un))] H := hP
        have hD : va_D A [(mo, .inr (13, MF 30 (rf (rs v Qj o) (j + 1) b))), (qx, .inl (cB, NN, .inl f)), (Qj.qq, .inl (cI, (8 * Qj.C), .inl Qj.qf)), (Qj.qe, .inl (cL, (3 * Qj.C), .inr (.inl Qj.ef))), (tv, .inr (12, MF 13 (tw V))), (V.au, .inl (cC, V.U, .inl V.un))] := hD
        refine lv_aload_n hx hb d_Mo_segment_118 rfl (lv_at hl 0 rfl) ?_
        refine lv_iload_n hx hb d_Mo_segment_119 rfl (lv_at hl 3 rfl) ?_
        refine lv_iconst (v := 2) hx hb d_Mo_segment_120 (by decide) ?_
        refine lv_aload_n hx hb d_Mo_segment_121 rfl (lv_at hl 0 rfl) ?_
        refine lv_iconst (v := 2) hx hb d_Mo_segment_122 (by decide) ?_
        have hPc := hP.sub (ws' := [(mo, .inr (13, MF 30 (rf (rs v Qj o) (j + 1) b))), (Qj.qq, .inl (cI, (8 * Qj.C), .inl Qj.qf)), (Qj.qe, .inl (cL, (3 * Qj.C), .inr (.inl Qj.ef)))]) [0, 2, 3] rfl
        have hDc := hD.sub (ws' := [(mo, .inr (13, MF 30 (rf (rs v Qj o) (j + 1) b))), (Qj.qq, .inl (cI, (8 * Qj.C), .inl Qj.qf)), (Qj.qe, .inl (cL, (3 * Qj.C), .inr (.inl Qj.ef)))]) [0, 2, 3] (by decide) rfl
        have hKc := hK.sub (tys' := [(cI, .int), (cL, .long)]) [1, 2] rfl
        have hFc := va_free (wc := [(mo, .inr (13, MF 30 (rf (rs v Qj o) (j + 1) b))), (Qj.qq, .inl (cI, (8 * Qj.C), .inl Qj.qf)), (Qj.qe, .inl (cL, (3 * Qj.C), .inr (.inl Qj.ef)))]) hD hS hA [0, 2, 3] rfl
        refine w_same (fun hq0 => ?_)
        refine va_calli (va_runV (As := [.int 2]) (rest := [.int 2, .int (nI Q.R), .ref mo]) ⟨hx, hb, hml, hown, hts⟩ (c_Mo_row l dC dI mo H v cI cL Qj o (j + 1) b 2 hQk_Qj) (cwV 1 hts (gt_V (own := R_Mo) (C := R_Mo) (i := 269) (y := y_Mo_row) i_Mo_row w_1407 w_1409 (gt_sel (y := y_Mo_row) (n := 30) (by decide +kernel)) w_7) rfl rfl rfl (by decide +kernel) ⟨Nat.le_trans (m := 9) (Nat.le_of_ble_eq_true rfl) (Nat.le_add_right 9 F), Nat.le_trans (m := 280) (Nat.le_of_ble_eq_true rfl) (Nat.le_add_right 280 L)⟩) ⟨mp_blind, va_recv hKc hPc (ci := 13) (q0 := 0) rfl rfl, fun U hU hW => ⟨rfl, hU, by rw [hU]; exact hPc, va_K.moved hW.alike hKc, hDc.weaken (fun _ _ _ _ => trivial)⟩⟩ rfl rfl hl.1 rfl (lv_room (Nat.le_of_ble_eq_true rfl)) d_Mo_segment_123 ⟨(QAd.fit hG_QjV hQk_Qj (by omega)).1, (QAd.fit hG_QjV hQk_Qj (by omega)).2⟩) hS (fun q _ h => hFc q h) hFc (fun r0 Qa t9 H1 locs ht hvm hw hB hz1 hk1 hS => ?_)
        obtain ⟨⟨hP1, hK1, hD1⟩, hz9⟩ := hB
        rw [ht] at hP1
        rw [ht] at hz9
        obtain ⟨hr0, hA_Qa⟩ := hw
        have hA_Qa : QAd Qj Qa 2 := hA_Qa
        obtain ⟨hQk_Qa, hGa, hGb, hGd, hR_Qa⟩ := hA_Qa.gq hQk_Qj (by omega) V
        obtain ⟨hG_QaV, hGc, hGs⟩ := hG_QjV.tr hGa (show Qj.R + 1 ≤ Q.R + 8 * (n - i) + 8 by omega) (Nat.zero_le _)
        have hGc := Nat.le_trans (Nat.add_le_add_left hGb _) hGc
        have hGs := Nat.le_trans (Nat.add_le_add_left hGd _) hGs
        have hq1 : szk s.heap H1 (cQ Q V Qa V) (sQ Q V Qa V) := (hq0.trans hz9).mono hGc hGs
        refine w_tight hq1 ?_
        obtain ⟨hP, hD⟩ := va_join (wr := [(qx, .inl (cB, NN, .inl f)), (tv, .inr (12, MF 13 (tw V))), (V.au, .inl (cC, V.U, .inl V.un))]) (w1 := [(mo, .inr (13, MF 30 (rf (rs v Qa o) (j + 1) b))), (Qa.qq, .inl (cI, (8 * Qa.C), .inl Qa.qf)), (Qa.qe, .inl (cL, (3 * Qa.C), .inr (.inl Qa.ef)))]) hP hD [0, 2, 3] [1, 4, 5] rfl rfl (by decide) (by decide) hk1 hFc hP1 hD1
        generalize H1 = H at hP hS ⊢
        have hP : va_P (dC, dI) classes [(qx, .inl (cB, NN, .inl f)), (tv, .inr (12, MF 13 (tw V))), (V.au, .inl (cC, V.U, .inl V.un)), (mo, .inr (13, MF 30 (rf (rs v Qa o) (j + 1) b))), (Qa.qq, .inl (cI, (8 * Qa.C), .inl Qa.qf)), (Qa.qe, .inl (cL, (3 * Qa.C), .inr (.inl Qa.ef)))] H := hP
        have hD : va_D A [(qx, .inl (cB, NN, .inl f)), (tv, .inr (12, MF 13 (tw V))), (V.au, .inl (cC, V.U, .inl V.un)), (mo, .inr (13, MF 30 (rf (rs v Qa o) (j + 1) b))), (Qa.qq, .inl (cI, (8 * Qa.C), .inl Qa.qf)), (Qa.qe, .inl (cL, (3 * Qa.C), .inr (.inl Qa.ef)))] := hD
        have hP := hP.sub (ws' := [(mo, .inr (13, MF 30 (rf (rs v Qa o) (j + 1) b))), (qx, .inl (cB, NN, .inl f)), (tv, .inr (12, MF 13 (tw V))), (V.au, .inl (cC, V.U, .inl V.un)), (Qa.qq, .inl (cI, (8 * Qa.C), .inl Qa.qf)), (Qa.qe, .inl (cL, (3 * Qa.C), .inr (.inl Qa.ef)))]) [3, 0, 1, 2, 4, 5] rfl
        have hD := hD.sub (ws' := [(mo, .inr (13, MF 30 (rf (rs v Qa o) (j + 1) b))), (qx, .inl (cB, NN, .inl f)), (tv, .inr (12, MF 13 (tw V))), (V.au, .inl (cC, V.U, .inl V.un)), (Qa.qq, .inl (cI, (8 * Qa.C), .inl Qa.qf)), (Qa.qe, .inl (cL, (3 * Qa.C), .inr (.inl Qa.ef)))]) [3, 0, 1, 2, 4, 5] (by decide) rfl
        have hP := hP.sub (ws' := [(mo, .inr (13, MF 30 (rf (rs v Qa o) (j + 1) b))), (qx, .inl (cB, NN, .inl f)), (Qa.qq, .inl (cI, (8 * Qa.C), .inl Qa.qf)), (Qa.qe, .inl (cL, (3 * Qa.C), .inr (.inl Qa.ef))), (tv, .inr (12, MF 13 (tw V))), (V.au, .inl (cC, V.U, .inl V.un))]) [0, 1, 4, 5, 2, 3] rfl
        have hD := hD.sub (ws' := [(mo, .inr (13, MF 30 (rf (rs v Qa o) (j + 1) b))), (qx, .inl (cB, NN, .inl f)), (Qa.qq, .inl (cI, (8 * Qa.C), .inl Qa.qf)), (Qa.qe, .inl (cL, (3 * Qa.C), .inr (.inl Qa.ef))), (tv, .inr (12, MF 13 (tw V))), (V.au, .inl (cC, V.U, .inl V.un))]) [0, 1, 4, 5, 2, 3] (by decide) rfl
        have hr0 : r0 = nI Qj.R := hr0
        subst hr0
        have hqb_QaV : Qa.R ≤ Qa.C ∧ Qa.C ≤ 100000 := ⟨hQk_Qa.2.2.1, hQk_Qa.2.1⟩
        have hfit_QaV := hG_QaV.fits
        have hE_Qa : alr Qj V Qa V 0 Qj.R := ⟨fun r9 k9 _ h1 h2 => hA_Qa.2.2.1 _ (by omega), ⟨fun r9 k9 _ h1 h2 => hA_Qa.2.2.2.1.2 _ (by omega), Nat.le_refl _, fun _ _ => rfl⟩⟩
        refine W.eq (g2 := F0 m 126 ls [.int (nI Qj.R), .int (nI 2), .int (nI Q.R), .ref mo]) rfl ?_
        have hPc := hP.sub (ws' := [(mo, .inr (13, MF 30 (rf (rs v Qa o) (j + 1) b))), (Qa.qq, .inl (cI, (8 * Qa.C), .inl Qa.qf))]) [0, 2] rfl
        have hDc := hD.sub (ws' := [(mo, .inr (13, MF 30 (rf (rs v Qa o) (j + 1) b))), (Qa.qq, .inl (cI, (8 * Qa.C), .inl Qa.qf))]) [0, 2] (by decide) rfl
        have hKc := hK.sub (tys' := [(cI, .int)]) [1] rfl
        have hFc := va_free (wc := [(mo, .inr (13, MF 30 (rf (rs v Qa o) (j + 1) b))), (Qa.qq, .inl (cI, (8 * Qa.C), .inl Qa.qf))]) hD hS hA [0, 2] rfl
        refine va_callv (va_runV (As := [.int (nI Q.R), .int (nI 2), .int (nI Qj.R)]) (rest := []) ⟨hx, hb, hml, hown, hts⟩ (c_Mo_set l dC dI mo H (rf (rs v Qa o) (j + 1) b) cI Qa.qq (8 * Qa.C) Qa.qf Q.R 2 ((nI Qj.R)) (by omega) (by omega) ((rf_ne (by decide) (by decide)).trans rs_19)) (cwV 3 hts (gt_V (own := R_Mo) (C := R_Mo) (i := 272) (y := y_Mo_set) i_Mo_set w_1411 w_1413 (gt_sel (y := y_Mo_set) (n := 30) (by decide +kernel)) w_7) rfl rfl rfl (by decide +kernel) ⟨Nat.le_trans (m := 9) (Nat.le_of_ble_eq_true rfl) (Nat.le_add_right 9 F), Nat.le_trans (m := 280) (Nat.le_of_ble_eq_true rfl) (Nat.le_add_right 280 L)⟩) ⟨mp_blind, va_recv hKc hPc (ci := 13) (q0 := 0) rfl rfl, fun U hU hW => ⟨rfl, hU, by rw [hU]; exact hPc, va_K.moved hW.alike hKc, hDc.weaken (fun _ _ _ _ => trivial)⟩⟩ rfl rfl hl.1 rfl (lv_room (Nat.le_of_ble_eq_true rfl)) d_Mo_segment_126 ⟨hfit_QaV.1, hfit_QaV.2⟩) hS (fun q _ h => hFc q h) hFc (fun _u t9 H1 locs ht hvm hw hB hz1 hk1 hS => ?_)
        obtain ⟨hP1, hK1, hD1⟩ := hB
        rw [ht] at hP1
        obtain ⟨hP, hD⟩ := va_join (wr := [(qx, .inl (cB, NN, .inl f)), (Qa.qe, .inl (cL, (3 * Qa.C), .inr (.inl Qa.ef))), (tv, .inr (12, MF 13 (tw V))), (V.au, .inl (cC, V.U, .inl V.un))]) (w1 := [(mo, .inr (13, MF 30 (rf (rs v Qa o) (j + 1) b))), (Qa.qq, .inl (cI, (8 * Qa.C), .inl (upd Qa.qf (8 * Q.R + 2) ((nI Qj.R)))))]) hP hD [0, 2] [1, 3, 4, 5] rfl rfl (by decide) (by decide) hk1 hFc hP1 hD1
        generalize H1 = H at hP hS ⊢
        have hP : va_P (dC, dI) classes [(qx, .inl (cB, NN, .inl f)), (Qa.qe, .inl (cL, (3 * Qa.C), .inr (.inl Qa.ef))), (tv, .inr (12, MF 13 (tw V))), (V.au, .inl (cC, V.U, .inl V.un)), (mo, .inr (13, MF 30 (rf (rs v Qa o) (j + 1) b))), (Qa.qq, .inl (cI, (8 * Qa.C), .inl (upd Qa.qf (8 * Q.R + 2) ((nI Qj.R)))))] H := hP
        have hD : va_D A [(qx, .inl (cB, NN, .inl f)), (Qa.qe, .inl (cL, (3 * Qa.C), .inr (.inl Qa.ef))), (tv, .inr (12, MF 13 (tw V))), (V.au, .inl (cC, V.U, .inl V.un)), (mo, .inr (13, MF 30 (rf (rs v Qa o) (j + 1) b))), (Qa.qq, .inl (cI, (8 * Qa.C), .inl (upd Qa.qf (8 * Q.R + 2) ((nI Qj.R)))))] := hD
        have hP := hP.sub (ws' := [(mo, .inr (13, MF 30 (rf (rs v Qa o) (j + 1) b))), (qx, .inl (cB, NN, .inl f)), (Qa.qq, .inl (cI, (8 * Qa.C), .inl (upd Qa.qf (8 * Q.R + 2) ((nI Qj.R))))), (Qa.qe, .inl (cL, (3 * Qa.C), .inr (.inl Qa.ef))), (tv, .inr (12, MF 13 (tw V))), (V.au, .inl (cC, V.U, .inl V.un))]) [4, 0, 5, 1, 2, 3] rfl
        have hD := hD.sub (ws' := [(mo, .inr (13, MF 30 (rf (rs v Qa o) (j + 1) b))), (qx, .inl (cB, NN, .inl f)), (Qa.qq, .inl (cI, (8 * Qa.C), .inl (upd Qa.qf (8 * Q.R + 2) ((nI Qj.R))))), (Qa.qe, .inl (cL, (3 * Qa.C), .inr (.inl Qa.ef))), (tv, .inr (12, MF 13 (tw V))), (V.au, .inl (cC, V.U, .inl V.un))]) [4, 0, 5, 1, 2, 3] (by decide) rfl
        obtain ⟨Qb, e_Qb⟩ : ∃ z : QS, z = QS.wf Qa (upd Qa.qf (8 * Q.R + 2) ((nI Qj.R))) := ⟨_, rfl⟩
        have hP : va_P (dC, dI) classes [(mo, .inr (13, MF 30 (rf (rs v Qb o) (j + 1) b))), (qx, .inl (cB, NN, .inl f)), (Qb.qq, .inl (cI, (8 * Qb.C), .inl Qb.qf)), (Qb.qe, .inl (cL, (3 * Qb.C), .inr (.inl Qb.ef))), (tv, .inr (12, MF 13 (tw V))), (V.au, .inl (cC, V.U, .inl V.un))] H := by subst e_Qb; exact hP
        have hD : va_D A [(mo, .inr (13, MF 30 (rf (rs v Qb o) (j + 1) b))), (qx, .inl (cB, NN, .inl f)), (Qb.qq, .inl (cI, (8 * Qb.C), .inl Qb.qf)), (Qb.qe, .inl (cL, (3 * Qb.C), .inr (.inl Qb.ef))), (tv, .inr (12, MF 13 (tw V))), (V.au, .inl (cC, V.U, .inl V.un))] := by subst e_Qb; exact hD
        have hf_Qb : Qb.C = Qa.C ∧ Qb.R = Qa.R ∧ Qb.qf = upd Qa.qf (8 * Q.R + 2) ((nI Qj.R)) := by rw [e_Qb]; exact ⟨rfl, rfl, rfl⟩
        have he_Qb : Qb.ef = Qa.ef := by rw [e_Qb]; rfl
        have hQk_Qb : QOK Qb := by rw [e_Qb]; exact hQk_Qa
        have hG_QbV : GQ (Q.R + 8 * (n - i) + 8) (V.us + (n + 12 - i)) Q V Qb V := by unfold GQ at hG_QaV ⊢; rw [hf_Qb.1]; exact hG_QaV
        refine w_same (fun hq => ?_)
        refine w_tight (k := cQ Q V Qb V) (n := sQ Q V Qb V) (by unfold cQ sQ at hq ⊢; rw [hf_Qb.1]; exact hq) ?_
        have hR_Qb := hf_Qb.2.1
        have hqb_QbV : Qb.R ≤ Qb.C ∧ Qb.C ≤ 100000 := ⟨hQk_Qb.2.2.1, hQk_Qb.2.1⟩
        have hfit_QbV := hG_QbV.fits
        refine lv_aload_n hx hb d_Mo_segment_129 rfl (lv_at hl 0 rfl) ?_
        refine lv_iload_n hx hb d_Mo_segment_130 rfl (lv_at hl 1 rfl) ?_
        refine lv_iconst (v := 3) hx hb d_Mo_segment_131 (by decide) ?_
        refine lv_iconst (v := 0) hx hb d_Mo_segment_132 (by decide) ?_
        refine W.eq (g2 := F0 m 133 ls [.int 0, .int (nI 3), .int (nI y), .ref mo]) rfl ?_
        have hPc := hP.sub (ws' := [(mo, .inr (13, MF 30 (rf (rs v Qb o) (j + 1) b))), (Qb.qq, .inl (cI, (8 * Qb.C), .inl Qb.qf))]) [0, 2] rfl
        have hDc := hD.sub (ws' := [(mo, .inr (13, MF 30 (rf (rs v Qb o) (j + 1) b))), (Qb.qq, .inl (cI, (8 * Qb.C), .inl Qb.qf))]) [0, 2] (by decide) rfl
        have hKc := hK.sub (tys' := [(cI, .int)]) [1] rfl
        have hFc := va_free (wc := [(mo, .inr (13, MF 30 (rf (rs v Qb o) (j + 1) b))), (Qb.qq, .inl (cI, (8 * Qb.C), .inl Qb.qf))]) hD hS hA [0, 2] rfl
        refine va_callv (va_runV (As := [.int (nI y), .int (nI 3), .int 0]) (rest := []) ⟨hx, hb, hml, hown, hts⟩ (c_Mo_set l dC dI mo H (rf (rs v Qb o) (j + 1) b) cI Qb.qq (8 * Qb.C) Qb.qf y 3 0 (by omega) (by omega) ((rf_ne (by decide) (by decide)).trans rs_19)) (cwV 3 hts (gt_V (own := R_Mo) (C := R_Mo) (i := 272) (y := y_Mo_set) i_Mo_set w_1411 w_1413 (gt_sel (y := y_Mo_set) (n := 30) (by decide +kernel)) w_7) rfl rfl rfl (by decide +kernel) ⟨Nat.le_trans (m := 9) (Nat.le_of_ble_eq_true rfl) (Nat.le_add_right 9 F), Nat.le_trans (m := 280) (Nat.le_of_ble_eq_true rfl) (Nat.le_add_right 280 L)⟩) ⟨mp_blind, va_recv hKc hPc (ci := 13) (q0 := 0) rfl rfl, fun U hU hW => ⟨rfl, hU, by rw [hU]; exact hPc, va_K.moved hW.alike hKc, hDc.weaken (fun _ _ _ _ => trivial)⟩⟩ rfl rfl hl.1 rfl (lv_room (Nat.le_of_ble_eq_true rfl)) d_Mo_segment_133 ⟨hfit_QbV.1, hfit_QbV.2⟩) hS (fun q _ h => hFc q h) hFc (fun _u t9 H1 locs ht hvm hw hB hz1 hk1 hS => ?_)
        obtain ⟨hP1, hK1, hD1⟩ := hB
        rw [ht] at hP1
        obtain ⟨hP, hD⟩ := va_join (wr := [(qx, .inl (cB, NN, .inl f)), (Qb.qe, .inl (cL, (3 * Qb.C), .inr (.inl Qb.ef))), (tv, .inr (12, MF 13 (tw V))), (V.au, .inl (cC, V.U, .inl V.un))]) (w1 := [(mo, .inr (13, MF 30 (rf (rs v Qb o) (j + 1) b))), (Qb.qq, .inl (cI, (8 * Qb.C), .inl (upd Qb.qf (8 * y + 3) 0)))]) hP hD [0, 2] [1, 3, 4, 5] rfl rfl (by decide) (by decide) hk1 hFc hP1 hD1
        generalize H1 = H at hP hS ⊢
        have hP : va_P (dC, dI) classes [(qx, .inl (cB, NN, .inl f)), (Qb.qe, .inl (cL, (3 * Qb.C), .inr (.inl Qb.ef))), (tv, .inr (12, MF 13 (tw V))), (V.au, .inl (cC, V.U, .inl V.un)), (mo, .inr (13, MF 30 (rf (rs v Qb o) (j + 1) b))), (Qb.qq, .inl (cI, (8 * Qb.C), .inl (upd Qb.qf (8 * y + 3) 0)))] H := hP
        have hD : va_D A [(qx, .inl (cB, NN, .inl f)), (Qb.qe, .inl (cL, (3 * Qb.C), .inr (.inl Qb.ef))), (tv, .inr (12, MF 13 (tw V))), (V.au, .inl (cC, V.U, .inl V.un)), (mo, .inr (13, MF 30 (rf (rs v Qb o) (j + 1) b))), (Qb.qq, .inl (cI, (8 * Qb.C), .inl (upd Qb.qf (8 * y + 3) 0)))] := hD
        have hP := hP.sub (ws' := [(mo, .inr (13, MF 30 (rf (rs v Qb o) (j + 1) b))), (qx, .inl (cB, NN, .inl f)), (Qb.qq, .inl (cI, (8 * Qb.C), .inl (upd Qb.qf (8 * y + 3) 0))), (Qb.qe, .inl (cL, (3 * Qb.C), .inr (.inl Qb.ef))), (tv, .inr (12, MF 13 (tw V))), (V.au, .inl (cC, V.U, .inl V.un))]) [4, 0, 5, 1, 2, 3] rfl
        have hD := hD.sub (ws' := [(mo, .inr (13, MF 30 (rf (rs v Qb o) (j + 1) b))), (qx, .inl (cB, NN, .inl f)), (Qb.qq, .inl (cI, (8 * Qb.C), .inl (upd Qb.qf (8 * y + 3) 0))), (Qb.qe, .inl (cL, (3 * Qb.C), .inr (.inl Qb.ef))), (tv, .inr (12, MF 13 (tw V))), (V.au, .inl (cC, V.U, .inl V.un))]) [4, 0, 5, 1, 2, 3] (by decide) rfl
        obtain ⟨Qd, e_Qd⟩ : ∃ z : QS, z = QS.wf Qb (upd Qb.qf (8 * y + 3) 0) := ⟨_, rfl⟩
        have hP : va_P (dC, dI) classes [(mo, .inr (13, MF 30 (rf (rs v Qd o) (j + 1) b))), (qx, .inl (cB, NN, .inl f)), (Qd.qq, .inl (cI, (8 * Qd.C), .inl Qd.qf)), (Qd.qe, .inl (cL, (3 * Qd.C), .inr (.inl Qd.ef))), (tv, .inr (12, MF 13 (tw V))), (V.au, .inl (cC, V.U, .inl V.un))] H := by subst e_Qd; exact hP
        have hD : va_D A [(mo, .inr (13, MF 30 (rf (rs v Qd o) (j + 1) b))), (qx, .inl (cB, NN, .inl f)), (Qd.qq, .inl (cI, (8 * Qd.C), .inl Qd.qf)), (Qd.qe, .inl (cL, (3 * Qd.C), .inr (.inl Qd.ef))), (tv, .inr (12, MF 13 (tw V))), (V.au, .inl (cC, V.U, .inl V.un))] := by subst e_Qd; exact hD
        have hf_Qd : Qd.C = Qb.C ∧ Qd.R = Qb.R ∧ Qd.qf = upd Qb.qf (8 * y + 3) 0 := by rw [e_Qd]; exact ⟨rfl, rfl, rfl⟩
        have he_Qd : Qd.ef = Qb.ef := by rw [e_Qd]; rfl
        have hQk_Qd : QOK Qd := by rw [e_Qd]; exact hQk_Qb
        have hG_QdV : GQ (Q.R + 8 * (n - i) + 8) (V.us + (n + 12 - i)) Q V Qd V := by unfold GQ at hG_QbV ⊢; rw [hf_Qd.1]; exact hG_QbV
        refine w_same (fun hq => ?_)
        refine w_tight (k := cQ Q V Qd V) (n := sQ Q V Qd V) (by unfold cQ sQ at hq ⊢; rw [hf_Qd.1]; exact hq) ?_
        have hR_Qd := hf_Qd.2.1
        have hqb_QdV : Qd.R ≤ Qd.C ∧ Qd.C ≤ 100000 := ⟨hQk_Qd.2.2.1, hQk_Qd.2.1⟩
        have hfit_QdV := hG_QdV.fits
        have hSF : SGf O Q V Q.R y Qd V false (segS ds [eachS]) := hSGj.star hy (by omega) hE_Qa hA_Qa.2.2.2.2.1 hA_Qa.2.2.2.2.2 hf_Qb.2.2 he_Qb hf_Qd.2.2 he_Qd
        refine lv_iload_n hx hb d_Mo_segment_136 rfl (lv_at hl 3 rfl) ?_
        have hlt4 := here_in (h_r4.symm.trans c101) (by decide)
        have hfin : sgP f n ok (orL f n) false i = some ((j + 1), false, segS ds [eachS]) := by rw [hsN]; unfold sgN; rw [if_pos ⟨h_r4.symm.trans c101, rfl⟩]
        refine w_same (fun hq => ?_)
        refine W.widen (k := kcap Q (Q.R + 8 * (n - i) + 8) + qcap V (V.us + (n + 12 - i))) (n := 22 * kcap Q (Q.R + 8 * (n - i) + 8) + 2 * qcap V (V.us + (n + 12 - i))) hfit_QdV.1 hfit_QdV.2 ?_
        have hPo : QPo n i 8 Q V (Qd, V, (j + 1), b, o) := ⟨hQk_Qd, hG_QdV, ⟨[], TX.rf hTk_V, Nat.zero_le _⟩, by show Q.R ≤ Qd.R; omega, by show Qd.R ≤ Q.R + 8 * (n - i) + 8; omega⟩
        exact W.iret (v := nI Q.R) hx hb hr (fun t9 ht hW => ⟨⟨nI Q.R, (Qd, V, (j + 1), b, o), rfl, ⟨hPo, Or.inl ⟨false, segS ds [eachS], rfl, hfin, hSF, by show Qd.R + 8 * i + 7 ≤ Q.R + 8 * (j + 1); omega, by show V.us + i ≤ V.us + (j + 1); omega, by show (j + 1) ≤ n; omega, by show Q.R < Qd.R; omega, rfl⟩⟩, ⟨by rw [ht]; exact hP, va_K.moved hW.alike hK, hD⟩, by rw [ht]; exact hq⟩, hS.F ht⟩) hS.2.2 d_Mo_segment_137
set_option maxHeartbeats 4000000 in
set_option maxRecDepth 100000 in
/-- the reference: segment -/
theorem c_seg1 (orL : (Nat → Int32) → Nat → Nat → Option (Nat × CT)) (O : QP CT) (F L : Nat) (hOf : Frm 8 O) (l : Launch) (dC : Nat → ClassId) (dI : Nat → Nat → Nat) (mo : Nat) (sz : Heap) (v : Nat → Value) (cB cI cL cC : ClassId) (qx NN : Nat) (f : Nat → Int32) (n : Nat) (K : Nat → Nat × Nat) (tv : Nat) (Q : QS) (V : TS) (o i : Nat) (br : Int32) (y : Nat) (ok : Bool) (hok : ok = true ↔ ¬ o = 16) (ho16 : o ≤ 16) (hOR : ¬ o = 16 → ORC orL O (o + 1) F L) (hnN : n ≤ NN) (hNN : NN ≤ 4096) (hi0 : i ≤ n) (h6 : v 6 = .ref qx) (h8 : v 8 = .int (nI n)) (h22 : v 22 = .ref tv) (hQ : QOK Q) (hV : TOK V) (hcu : V.us + (n + 12 - i) ≤ 400000) (hcr : Q.R + 8 * (n - i) + 8 ≤ 40000) (hy : y < Q.R) : Met l y_Mo_segment (k_Mo_segment :: gtbl) ({ frames := 9 + F, cells := kcap Q (Q.R + 8 * (n - i) + 8) + qcap V (V.us + (n + 12 - i)), slots := 22 * kcap Q (Q.R + 8 * (n - i) + 8) + 2 * qcap V (V.us + (n + 12 - i)), locals := 280 + L }) (va_Pc [.ref mo, .int (nI y), .int 1] (me K dC dI [(mo, .inr (13, MF 30 (rf (rs v Q o) i br))), (qx, .inl (cB, NN, .inl f)), (Q.qq, .inl (cI, (8 * Q.C), .inl Q.qf)), (Q.qe, .inl (cL, (3 * Q.C), .inr (.inl Q.ef))), (tv, .inr (12, MF 13 (tw V))), (V.au, .inl (cC, V.U, .inl V.un))] [(cB, .byte), (cI, .int), (cL, .long), (cC, .char)] sz)) (va_Qi (fun (res : Int32) (u : QS × TS × Nat × Int32 × Nat) => SGo f ok (orL f n) O true n i o y Q V res u) (fun u t9 => mz dC dI [(mo, .inr (13, MF 30 (rf (rs v u.1 u.2.2.2.2) u.2.2.1 u.2.2.2.1))), (qx, .inl (cB, NN, .inl f)), (u.1.qq, .inl (cI, (8 * u.1.C), .inl u.1.qf)), (u.1.qe, .inl (cL, (3 * u.1.C), .inr (.inl u.1.ef))), (tv, .inr (12, MF 13 (tw u.2.1))), (u.2.1.au, .inl (cC, u.2.1.U, .inl u.2.1.un))] [(cB, .byte), (cI, .int), (cL, .long), (cC, .char)] (va_A [(mo, .inr (13, MF 30 (rf (rs v Q o) i br))), (qx, .inl (cB, NN, .inl f)), (Q.qq, .inl (cI, (8 * Q.C), .inl Q.qf)), (Q.qe, .inl (cL, (3 * Q.C), .inr (.inl Q.ef))), (tv, .inr (12, MF 13 (tw V))), (V.au, .inl (cC, V.U, .inl V.un))] sz.size) t9 ∧ szk sz t9.heap (cQ Q V u.1 u.2.1) (sQ Q V u.1 u.2.1)) (va_A [(mo, .inr (13, MF 30 (rf (rs v Q o) i br))), (qx, .inl (cB, NN, .inl f)), (Q.qq, .inl (cI, (8 * Q.C), .inl Q.qf)), (Q.qe, .inl (cL, (3 * Q.C), .inr (.inl Q.ef))), (tv, .inr (12, MF 13 (tw V))), (V.au, .inl (cC, V.U, .inl V.un))] sz.size)) (kcap Q (Q.R + 8 * (n - i) + 8) + qcap V (V.us + (n + 12 - i))) (22 * kcap Q (Q.R + 8 * (n - i) + 8) + 2 * qcap V (V.us + (n + 12 - i))) (va_A [(mo, .inr (13, MF 30 (rf (rs v Q o) i br))), (qx, .inl (cB, NN, .inl f)), (Q.qq, .inl (cI, (8 * Q.C), .inl Q.qf)), (Q.qe, .inl (cL, (3 * Q.C), .inr (.inl Q.ef))), (tv, .inr (12, MF 13 (tw V))), (V.au, .inl (cC, V.U, .inl V.un))] sz.size) := by
  refine Met.ofW (cc := b_Mo_segment) (maxL := 5) (ret := (some .int)) (by decide) rfl ?_
  intro p e s m args below meth c s₁ B hml hv
  obtain ⟨rfl, ⟨hsz, hP, hK, hD0⟩, hM⟩ := hv
  have hx := B.exec
  have hb := B.bytes
  have hr := B.returns
  have hts0 := atoms_spec (ws := k_Mo_segment :: gtbl) B.pre
  have hts := fun w h => hts0 w (List.mem_cons_of_mem _ h)
  have hown : s.vm.findClass R_Mo = some m.cls := findClass_of_methodNamed B.named
  have hlocks := B.notSynchronized
  subst hsz
  have hD := hD0.self (sz := s.heap.size)
  generalize hAe : va_A [(mo, .inr (13, MF 30 (rf (rs v Q o) i br))), (qx, .inl (cB, NN, .inl f)), (Q.qq, .inl (cI, (8 * Q.C), .inl Q.qf)), (Q.qe, .inl (cL, (3 * Q.C), .inr (.inl Q.ef))), (tv, .inr (12, MF 13 (tw V))), (V.au, .inl (cC, V.U, .inl V.un))] s.heap.size = A at hD hM ⊢
  have hA : ∀ q : Nat, s.heap.size ≤ q → A q := fun q h => by rw [← hAe]; exact Or.inr h
  have hS : va_S A s.heap s.heap [] := va_S.rf
  have hP : va_P (dC, dI) classes [(mo, .inr (13, MF 30 (rf (rs v Q o) i br))), (qx, .inl (cB, NN, .inl f)), (Q.qq, .inl (cI, (8 * Q.C), .inl Q.qf)), (Q.qe, .inl (cL, (3 * Q.C), .inr (.inl Q.ef))), (tv, .inr (12, MF 13 (tw V))), (V.au, .inl (cC, V.U, .inl V.un))] s.heap := hP
  have hl := lv_entry ([.ref mo, .int (nI y), .int 1]) (n := 5) (Nat.le_of_ble_eq_true rfl)
  rw [lg_entry_eq]
  generalize (lg_sl ([.ref mo, .int (nI y), .int 1]) ++ List.replicate (5 - (lg_sl ([.ref mo, .int (nI y), .int 1])).length) Slot.unset).toArray = ls at hl ⊢
  have hl : lv_has ls 5 [(0, .ref mo), (1, .int (nI y)), (2, .int 1)] := hl
  have hQk_Q := hQ
  have hTk_V := hV
  have hCo := hQ.2.2.1
  have hCo2 := hQ.2.1
  clear hQ hV
  have hG_QV : GQ (Q.R + 8 * (n - i) + 8) (V.us + (n + 12 - i)) Q V Q V := GQ.rf
  refine w_same (fun hq => ?_)
  refine w_tight (k := cQ Q V Q V) (n := sQ Q V Q V) (by rw [cQ_rf.1, cQ_rf.2]; exact hq) ?_
  have hqb_QV : Q.R ≤ Q.C ∧ Q.C ≤ 100000 := ⟨hQk_Q.2.2.1, hQk_Q.2.1⟩
  have hfit_QV := hG_QV.fits
  refine lv_aload_n hx hb d_Mo_segment_0 rfl (lv_at hl 0 rfl) ?_
  refine lv_bipush (v := 21) hx hb d_Mo_segment_1 (by decide) ?_
  have hPc := hP.sub (ws' := [(mo, .inr (13, MF 30 (rf (rs v Q o) i br))), (Q.qq, .inl (cI, (8 * Q.C), .inl Q.qf)), (Q.qe, .inl (cL, (3 * Q.C), .inr (.inl Q.ef)))]) [0, 2, 3] rfl
  have hDc := hD.sub (ws' := [(mo, .inr (13, MF 30 (rf (rs v Q o) i br))), (Q.qq, .inl (cI, (8 * Q.C), .inl Q.qf)), (Q.qe, .inl (cL, (3 * Q.C), .inr (.inl Q.ef)))]) [0, 2, 3] (by decide) rfl
  have hKc := hK.sub (tys' := [(cI, .int), (cL, .long)]) [1, 2] rfl
  have hFc := va_free (wc := [(mo, .inr (13, MF 30 (rf (rs v Q o) i br))), (Q.qq, .inl (cI, (8 * Q.C), .inl Q.qf)), (Q.qe, .inl (cL, (3 * Q.C), .inr (.inl Q.ef)))]) hD hS hA [0, 2, 3] rfl
  refine w_same (fun hq0 => ?_)
  refine va_calli (va_runV (As := [.int 21]) (rest := []) ⟨hx, hb, hml, hown, hts⟩ (c_Mo_row l dC dI mo s.heap v cI cL Q o i br 21 hQk_Q) (cwV 1 hts (gt_V (own := R_Mo) (C := R_Mo) (i := 269) (y := y_Mo_row) i_Mo_row w_1407 w_1409 (gt_sel (y := y_Mo_row) (n := 30) (by decide +kernel)) w_7) rfl rfl rfl (by decide +kernel) ⟨Nat.le_trans (m := 9) (Nat.le_of_ble_eq_true rfl) (Nat.le_add_right 9 F), Nat.le_trans (m := 280) (Nat.le_of_ble_eq_true rfl) (Nat.le_add_right 280 L)⟩) ⟨mp_blind, va_recv hKc hPc (ci := 13) (q0 := 0) rfl rfl, fun U hU hW => ⟨rfl, hU, by rw [hU]; exact hPc, va_K.moved hW.alike hKc, hDc.weaken (fun _ _ _ _ => trivial)⟩⟩ rfl rfl hl.1 rfl (lv_room (Nat.le_of_ble_eq_true rfl)) d_Mo_segment_3 ⟨(QAd.fit hG_QV hQk_Q (by omega)).1, (QAd.fit hG_QV hQk_Q (by omega)).2⟩) hS (fun q _ h => hFc q h) hFc (fun r0 Q1 t9 H1 locs ht hvm hw hB hz1 hk1 hS => ?_)
  obtain ⟨⟨hP1, hK1, hD1⟩, hz9⟩ := hB
  rw [ht] at hP1
  rw [ht] at hz9
  obtain ⟨hr0, hA_Q1⟩ := hw
  have hA_Q1 : QAd Q Q1 21 := hA_Q1
  obtain ⟨hQk_Q1, hGa, hGb, hGd, hR_Q1⟩ := hA_Q1.gq hQk_Q (by omega) V
  obtain ⟨hG_Q1V, hGc, hGs⟩ := hG_QV.tr hGa (show Q.R + 1 ≤ Q.R + 8 * (n - i) + 8 by omega) (Nat.zero_le _)
  have hGc := Nat.le_trans (Nat.add_le_add_left hGb _) hGc
  have hGs := Nat.le_trans (Nat.add_le_add_left hGd _) hGs
  have hq1 : szk s.heap H1 (cQ Q V Q1 V) (sQ Q V Q1 V) := (hq0.trans hz9).mono hGc hGs
  refine w_tight hq1 ?_
  obtain ⟨hP, hD⟩ := va_join (wr := [(qx, .inl (cB, NN, .inl f)), (tv, .inr (12, MF 13 (tw V))), (V.au, .inl (cC, V.U, .inl V.un))]) (w1 := [(mo, .inr (13, MF 30 (rf (rs v Q1 o) i br))), (Q1.qq, .inl (cI, (8 * Q1.C), .inl Q1.qf)), (Q1.qe, .inl (cL, (3 * Q1.C), .inr (.inl Q1.ef)))]) hP hD [0, 2, 3] [1, 4, 5] rfl rfl (by decide) (by decide) hk1 hFc hP1 hD1
  generalize H1 = H at hP hS ⊢
  have hP : va_P (dC, dI) classes [(qx, .inl (cB, NN, .inl f)), (tv, .inr (12, MF 13 (tw V))), (V.au, .inl (cC, V.U, .inl V.un)), (mo, .inr (13, MF 30 (rf (rs v Q1 o) i br))), (Q1.qq, .inl (cI, (8 * Q1.C), .inl Q1.qf)), (Q1.qe, .inl (cL, (3 * Q1.C), .inr (.inl Q1.ef)))] H := hP
  have hD : va_D A [(qx, .inl (cB, NN, .inl f)), (tv, .inr (12, MF 13 (tw V))), (V.au, .inl (cC, V.U, .inl V.un)), (mo, .inr (13, MF 30 (rf (rs v Q1 o) i br))), (Q1.qq, .inl (cI, (8 * Q1.C), .inl Q1.qf)), (Q1.qe, .inl (cL, (3 * Q1.C), .inr (.inl Q1.ef)))] := hD
  have hP := hP.sub (ws' := [(mo, .inr (13, MF 30 (rf (rs v Q1 o) i br))), (qx, .inl (cB, NN, .inl f)), (tv, .inr (12, MF 13 (tw V))), (V.au, .inl (cC, V.U, .inl V.un)), (Q1.qq, .inl (cI, (8 * Q1.C), .inl Q1.qf)), (Q1.qe, .inl (cL, (3 * Q1.C), .inr (.inl Q1.ef)))]) [3, 0, 1, 2, 4, 5] rfl
  have hD := hD.sub (ws' := [(mo, .inr (13, MF 30 (rf (rs v Q1 o) i br))), (qx, .inl (cB, NN, .inl f)), (tv, .inr (12, MF 13 (tw V))), (V.au, .inl (cC, V.U, .inl V.un)), (Q1.qq, .inl (cI, (8 * Q1.C), .inl Q1.qf)), (Q1.qe, .inl (cL, (3 * Q1.C), .inr (.inl Q1.ef)))]) [3, 0, 1, 2, 4, 5] (by decide) rfl
  have hP := hP.sub (ws' := [(mo, .inr (13, MF 30 (rf (rs v Q1 o) i br))), (qx, .inl (cB, NN, .inl f)), (Q1.qq, .inl (cI, (8 * Q1.C), .inl Q1.qf)), (Q1.qe, .inl (cL, (3 * Q1.C), .inr (.inl Q1.ef))), (tv, .inr (12, MF 13 (tw V))), (V.au, .inl (cC, V.U, .inl V.un))]) [0, 1, 4, 5, 2, 3] rfl
  have hD := hD.sub (ws' := [(mo, .inr (13, MF 30 (rf (rs v Q1 o) i br))), (qx, .inl (cB, NN, .inl f)), (Q1.qq, .inl (cI, (8 * Q1.C), .inl Q1.qf)), (Q1.qe, .inl (cL, (3 * Q1.C), .inr (.inl Q1.ef))), (tv, .inr (12, MF 13 (tw V))), (V.au, .inl (cC, V.U, .inl V.un))]) [0, 1, 4, 5, 2, 3] (by decide) rfl
  have hr0 : r0 = nI Q.R := hr0
  subst hr0
  have hqb_Q1V : Q1.R ≤ Q1.C ∧ Q1.C ≤ 100000 := ⟨hQk_Q1.2.2.1, hQk_Q1.2.1⟩
  have hfit_Q1V := hG_Q1V.fits
  have hE_Q1 : alr Q V Q1 V 0 Q.R := ⟨fun r9 k9 _ h1 h2 => hA_Q1.2.2.1 _ (by omega), ⟨fun r9 k9 _ h1 h2 => hA_Q1.2.2.2.1.2 _ (by omega), Nat.le_refl _, fun _ _ => rfl⟩⟩
  refine lv_istore_n (lv' := [(3, .int (nI Q.R)), (0, .ref mo), (1, .int (nI y)), (2, .int 1)]) hx hb d_Mo_segment_6 rfl hl (by decide) rfl (fun ls hl => ?_)
  refine lv_aload_n hx hb d_Mo_segment_7 rfl (lv_at hl 1 rfl) ?_
  refine lv_iload_n hx hb d_Mo_segment_8 rfl (lv_at hl 0 rfl) ?_
  refine lv_iconst (v := 1) hx hb d_Mo_segment_9 (by decide) ?_
  refine lv_iconst (v := 0) hx hb d_Mo_segment_10 (by decide) ?_
  refine W.eq (g2 := F0 m 11 ls [.int 0, .int (nI 1), .int (nI Q.R), .ref mo]) rfl ?_
  have hPc := hP.sub (ws' := [(mo, .inr (13, MF 30 (rf (rs v Q1 o) i br))), (Q1.qq, .inl (cI, (8 * Q1.C), .inl Q1.qf))]) [0, 2] rfl
  have hDc := hD.sub (ws' := [(mo, .inr (13, MF 30 (rf (rs v Q1 o) i br))), (Q1.qq, .inl (cI, (8 * Q1.C), .inl Q1.qf))]) [0, 2] (by decide) rfl
  have hKc := hK.sub (tys' := [(cI, .int)]) [1] rfl
  have hFc := va_free (wc := [(mo, .inr (13, MF 30 (rf (rs v Q1 o) i br))), (Q1.qq, .inl (cI, (8 * Q1.C), .inl Q1.qf))]) hD hS hA [0, 2] rfl
  refine va_callv (va_runV (As := [.int (nI Q.R), .int (nI 1), .int 0]) (rest := []) ⟨hx, hb, hml, hown, hts⟩ (c_Mo_set l dC dI mo H (rf (rs v Q1 o) i br) cI Q1.qq (8 * Q1.C) Q1.qf Q.R 1 0 (by omega) (by omega) ((rf_ne (by decide) (by decide)).trans rs_19)) (cwV 3 hts (gt_V (own := R_Mo) (C := R_Mo) (i := 272) (y := y_Mo_set) i_Mo_set w_1411 w_1413 (gt_sel (y := y_Mo_set) (n := 30) (by decide +kernel)) w_7) rfl rfl rfl (by decide +kernel) ⟨Nat.le_trans (m := 9) (Nat.le_of_ble_eq_true rfl) (Nat.le_add_right 9 F), Nat.le_trans (m := 280) (Nat.le_of_ble_eq_true rfl) (Nat.le_add_right 280 L)⟩) ⟨mp_blind, va_recv hKc hPc (ci := 13) (q0 := 0) rfl rfl, fun U hU hW => ⟨rfl, hU, by rw [hU]; exact hPc, va_K.moved hW.alike hKc, hDc.weaken (fun _ _ _ _ => trivial)⟩⟩ rfl rfl hl.1 rfl (lv_room (Nat.le_of_ble_eq_true rfl)) d_Mo_segment_11 ⟨hfit_Q1V.1, hfit_Q1V.2⟩) hS (fun q _ h => hFc q h) hFc (fun _u t9 H1 locs ht hvm hw hB hz1 hk1 hS => ?_)
  obtain ⟨hP1, hK1, hD1⟩ := hB
  rw [ht] at hP1
  obtain ⟨hP, hD⟩ := va_join (wr := [(qx, .inl (cB, NN, .inl f)), (Q1.qe, .inl (cL, (3 * Q1.C), .inr (.inl Q1.ef))), (tv, .inr (12, MF 13 (tw V))), (V.au, .inl (cC, V.U, .inl V.un))]) (w1 := [(mo, .inr (13, MF 30 (rf (rs v Q1 o) i br))), (Q1.qq, .inl (cI, (8 * Q1.C), .inl (upd Q1.qf (8 * Q.R + 1) 0)))]) hP hD [0, 2] [1, 3, 4, 5] rfl rfl (by decide) (by decide) hk1 hFc hP1 hD1
  generalize H1 = H at hP hS ⊢
  have hP : va_P (dC, dI) classes [(qx, .inl (cB, NN, .inl f)), (Q1.qe, .inl (cL, (3 * Q1.C), .inr (.inl Q1.ef))), (tv, .inr (12, MF 13 (tw V))), (V.au, .inl (cC, V.U, .inl V.un)), (mo, .inr (13, MF 30 (rf (rs v Q1 o) i br))), (Q1.qq, .inl (cI, (8 * Q1.C), .inl (upd Q1.qf (8 * Q.R + 1) 0)))] H := hP
  have hD : va_D A [(qx, .inl (cB, NN, .inl f)), (Q1.qe, .inl (cL, (3 * Q1.C), .inr (.inl Q1.ef))), (tv, .inr (12, MF 13 (tw V))), (V.au, .inl (cC, V.U, .inl V.un)), (mo, .inr (13, MF 30 (rf (rs v Q1 o) i br))), (Q1.qq, .inl (cI, (8 * Q1.C), .inl (upd Q1.qf (8 * Q.R + 1) 0)))] := hD
  have hP := hP.sub (ws' := [(mo, .inr (13, MF 30 (rf (rs v Q1 o) i br))), (qx, .inl (cB, NN, .inl f)), (Q1.qq, .inl (cI, (8 * Q1.C), .inl (upd Q1.qf (8 * Q.R + 1) 0))), (Q1.qe, .inl (cL, (3 * Q1.C), .inr (.inl Q1.ef))), (tv, .inr (12, MF 13 (tw V))), (V.au, .inl (cC, V.U, .inl V.un))]) [4, 0, 5, 1, 2, 3] rfl
  have hD := hD.sub (ws' := [(mo, .inr (13, MF 30 (rf (rs v Q1 o) i br))), (qx, .inl (cB, NN, .inl f)), (Q1.qq, .inl (cI, (8 * Q1.C), .inl (upd Q1.qf (8 * Q.R + 1) 0))), (Q1.qe, .inl (cL, (3 * Q1.C), .inr (.inl Q1.ef))), (tv, .inr (12, MF 13 (tw V))), (V.au, .inl (cC, V.U, .inl V.un))]) [4, 0, 5, 1, 2, 3] (by decide) rfl
  obtain ⟨Q2, e_Q2⟩ : ∃ z : QS, z = QS.wf Q1 (upd Q1.qf (8 * Q.R + 1) 0) := ⟨_, rfl⟩
  have hP : va_P (dC, dI) classes [(mo, .inr (13, MF 30 (rf (rs v Q2 o) i br))), (qx, .inl (cB, NN, .inl f)), (Q2.qq, .inl (cI, (8 * Q2.C), .inl Q2.qf)), (Q2.qe, .inl (cL, (3 * Q2.C), .inr (.inl Q2.ef))), (tv, .inr (12, MF 13 (tw V))), (V.au, .inl (cC, V.U, .inl V.un))] H := by subst e_Q2; exact hP
  have hD : va_D A [(mo, .inr (13, MF 30 (rf (rs v Q2 o) i br))), (qx, .inl (cB, NN, .inl f)), (Q2.qq, .inl (cI, (8 * Q2.C), .inl Q2.qf)), (Q2.qe, .inl (cL, (3 * Q2.C), .inr (.inl Q2.ef))), (tv, .inr (12, MF 13 (tw V))), (V.au, .inl (cC, V.U, .inl V.un))] := by subst e_Q2; exact hD
  have hf_Q2 : Q2.C = Q1.C ∧ Q2.R = Q1.R ∧ Q2.qf = upd Q1.qf (8 * Q.R + 1) 0 := by rw [e_Q2]; exact ⟨rfl, rfl, rfl⟩
  have he_Q2 : Q2.ef = Q1.ef := by rw [e_Q2]; rfl
  have hQk_Q2 : QOK Q2 := by rw [e_Q2]; exact hQk_Q1
  have hG_Q2V : GQ (Q.R + 8 * (n - i) + 8) (V.us + (n + 12 - i)) Q V Q2 V := by unfold GQ at hG_Q1V ⊢; rw [hf_Q2.1]; exact hG_Q1V
  refine w_same (fun hq => ?_)
  refine w_tight (k := cQ Q V Q2 V) (n := sQ Q V Q2 V) (by unfold cQ sQ at hq ⊢; rw [hf_Q2.1]; exact hq) ?_
  have hR_Q2 := hf_Q2.2.1
  have hqb_Q2V : Q2.R ≤ Q2.C ∧ Q2.C ≤ 100000 := ⟨hQk_Q2.2.2.1, hQk_Q2.2.1⟩
  have hfit_Q2V := hG_Q2V.fits
  have hSG : SGi Q V Q.R y Q2 V true false := SGi.st hy (by omega) hE_Q1 hA_Q1.2.2.2.2.2 hf_Q2.2.2 he_Q2
  refine lv_aload_n hx hb d_Mo_segment_14 rfl (lv_at hl 1 rfl) ?_
  have hPc := hP.sub (ws' := [(mo, .inr (13, MF 30 (rf (rs v Q2 o) i br))), (qx, .inl (cB, NN, .inl f))]) [0, 1] rfl
  have hDc := hD.sub (ws' := [(mo, .inr (13, MF 30 (rf (rs v Q2 o) i br))), (qx, .inl (cB, NN, .inl f))]) [0, 1] (by decide) rfl
  have hKc := hK.sub (tys' := [(cB, .byte)]) [0] rfl
  have hFc := va_free (wc := [(mo, .inr (13, MF 30 (rf (rs v Q2 o) i br))), (qx, .inl (cB, NN, .inl f))]) hD hS hA [0, 1] rfl
  refine va_calli (va_runV (As := []) (rest := []) ⟨hx, hb, hml, hown, hts⟩ (c_Mo_c l dC dI mo H (rf (rs v Q2 o) i br) cB qx NN f n i (by omega) (by omega) (by omega) ((rf_ne (by decide) (by decide)).trans ((rs_ne (by decide) (by decide) (by decide) (by decide)).trans h6)) rf_7 ((rf_ne (by decide) (by decide)).trans ((rs_ne (by decide) (by decide) (by decide) (by decide)).trans h8))) (cwV 0 hts (gt_V (own := R_Mo) (C := R_Mo) (i := 147) (y := y_Mo_c) i_Mo_c w_1233 w_1235 (gt_sel (y := y_Mo_c) (n := 30) (by decide +kernel)) w_7) rfl rfl rfl (by decide +kernel) ⟨Nat.le_trans (m := 9) (Nat.le_of_ble_eq_true rfl) (Nat.le_add_right 9 F), Nat.le_trans (m := 280) (Nat.le_of_ble_eq_true rfl) (Nat.le_add_right 280 L)⟩) ⟨mp_blind, va_recv hKc hPc (ci := 13) (q0 := 0) rfl rfl, fun U hU hW => ⟨rfl, hU, by rw [hU]; exact hPc, va_K.moved hW.alike hKc, hDc.weaken (fun _ _ _ _ => trivial)⟩⟩ rfl rfl hl.1 rfl (lv_room (Nat.le_of_ble_eq_true rfl)) d_Mo_segment_15 ⟨hfit_Q2V.1, hfit_Q2V.2⟩) hS (fun q _ h => hFc q h) hFc (fun r1 _u t9 H1 locs ht hvm hw hB hz1 hk1 hS => ?_)
  obtain ⟨hP1, hK1, hD1⟩ := hB
  rw [ht] at hP1
  obtain ⟨hP, hD⟩ := va_join (wr := [(Q2.qq, .inl (cI, (8 * Q2.C), .inl Q2.qf)), (Q2.qe, .inl (cL, (3 * Q2.C), .inr (.inl Q2.ef))), (tv, .inr (12, MF 13 (tw V))), (V.au, .inl (cC, V.U, .inl V.un))]) (w1 := [(mo, .inr (13, MF 30 (rf (rs v Q2 o) i br))), (qx, .inl (cB, NN, .inl f))]) hP hD [0, 1] [2, 3, 4, 5] rfl rfl (by decide) (by decide) hk1 hFc hP1 hD1
  generalize H1 = H at hP hS ⊢
  have hP : va_P (dC, dI) classes [(Q2.qq, .inl (cI, (8 * Q2.C), .inl Q2.qf)), (Q2.qe, .inl (cL, (3 * Q2.C), .inr (.inl Q2.ef))), (tv, .inr (12, MF 13 (tw V))), (V.au, .inl (cC, V.U, .inl V.un)), (mo, .inr (13, MF 30 (rf (rs v Q2 o) i br))), (qx, .inl (cB, NN, .inl f))] H := hP
  have hD : va_D A [(Q2.qq, .inl (cI, (8 * Q2.C), .inl Q2.qf)), (Q2.qe, .inl (cL, (3 * Q2.C), .inr (.inl Q2.ef))), (tv, .inr (12, MF 13 (tw V))), (V.au, .inl (cC, V.U, .inl V.un)), (mo, .inr (13, MF 30 (rf (rs v Q2 o) i br))), (qx, .inl (cB, NN, .inl f))] := hD
  have hP := hP.sub (ws' := [(mo, .inr (13, MF 30 (rf (rs v Q2 o) i br))), (qx, .inl (cB, NN, .inl f)), (Q2.qq, .inl (cI, (8 * Q2.C), .inl Q2.qf)), (Q2.qe, .inl (cL, (3 * Q2.C), .inr (.inl Q2.ef))), (tv, .inr (12, MF 13 (tw V))), (V.au, .inl (cC, V.U, .inl V.un))]) [4, 5, 0, 1, 2, 3] rfl
  have hD := hD.sub (ws' := [(mo, .inr (13, MF 30 (rf (rs v Q2 o) i br))), (qx, .inl (cB, NN, .inl f)), (Q2.qq, .inl (cI, (8 * Q2.C), .inl Q2.qf)), (Q2.qe, .inl (cL, (3 * Q2.C), .inr (.inl Q2.ef))), (tv, .inr (12, MF 13 (tw V))), (V.au, .inl (cC, V.U, .inl V.un))]) [4, 5, 0, 1, 2, 3] (by decide) rfl
  have h_r1 : r1 = hereV f n i := hw
  refine lv_bipush (v := 46) hx hb d_Mo_segment_18 (by decide) ?_
  refine lv_icmp_ne (tgt := 256) hx hb d_Mo_segment_20 (by decide) (fun c20 => ?_) (fun c20 => ?_)
  · refine lv_aload_n hx hb d_Mo_segment_256 rfl (lv_at hl 1 rfl) ?_
    refine lv_iload_n hx hb d_Mo_segment_257 rfl (lv_at hl 2 rfl) ?_
    refine lv_iload_n hx hb d_Mo_segment_258 rfl (lv_at hl 0 rfl) ?_
    refine lv_iload_n hx hb d_Mo_segment_259 rfl (lv_at hl 3 rfl) ?_
    have hPc := hP.sub (ws' := [(mo, .inr (13, MF 30 (rf (rs v Q2 o) i br))), (qx, .inl (cB, NN, .inl f)), (Q2.qq, .inl (cI, (8 * Q2.C), .inl Q2.qf)), (Q2.qe, .inl (cL, (3 * Q2.C), .inr (.inl Q2.ef))), (tv, .inr (12, MF 13 (tw V))), (V.au, .inl (cC, V.U, .inl V.un))]) [0, 1, 2, 3, 4, 5] rfl
    have hDc := hD.sub (ws' := [(mo, .inr (13, MF 30 (rf (rs v Q2 o) i br))), (qx, .inl (cB, NN, .inl f)), (Q2.qq, .inl (cI, (8 * Q2.C), .inl Q2.qf)), (Q2.qe, .inl (cL, (3 * Q2.C), .inr (.inl Q2.ef))), (tv, .inr (12, MF 13 (tw V))), (V.au, .inl (cC, V.U, .inl V.un))]) [0, 1, 2, 3, 4, 5] (by decide) rfl
    have hKc := hK.sub (tys' := [(cB, .byte), (cI, .int), (cL, .long), (cC, .char)]) [0, 1, 2, 3] rfl
    have hFc := va_free (wc := [(mo, .inr (13, MF 30 (rf (rs v Q2 o) i br))), (qx, .inl (cB, NN, .inl f)), (Q2.qq, .inl (cI, (8 * Q2.C), .inl Q2.qf)), (Q2.qe, .inl (cL, (3 * Q2.C), .inr (.inl Q2.ef))), (tv, .inr (12, MF 13 (tw V))), (V.au, .inl (cC, V.U, .inl V.un))]) hD hS hA [0, 1, 2, 3, 4, 5] rfl
    refine w_same (fun hq0 => ?_)
    refine va_calli (va_runV (As := [.int (nI y), .int (nI Q.R), .int 1]) (rest := []) ⟨hx, hb, hml, hown, hts⟩ (c_sls1 orL O F L hOf l dC dI mo H v cB cI cL cC qx NN f n K tv Q2 V o i br Q.R y ok hok ho16 hOR hnN hNN (by omega) h6 h8 h22 hQk_Q2 hTk_V (by omega) (by omega) (by omega) (by omega) hSG.2.2.1) (cwV 3 hts (gt_V (own := R_Mo) (C := R_Mo) (i := 279) (y := y_Mo_selectors) i_Mo_selectors w_1419 w_1421 (gt_sel (y := y_Mo_selectors) (n := 30) (by decide +kernel)) w_7) rfl rfl rfl (by decide +kernel) ⟨by show 8 + F + 1 ≤ 9 + F; omega, by show 8 + (6 + 11) + (240 + L) ≤ 280 + L; omega⟩) ⟨me_blind, va_recv hKc hPc (ci := 13) (q0 := 0) rfl rfl, fun U hU hW => ⟨rfl, ⟨hU, by rw [hU]; exact hPc, va_K.moved hW.alike hKc, hDc.weaken (fun _ _ _ _ => trivial)⟩, by rw [hU]; exact ME.call hM hS.2.1 hFc hW⟩⟩ rfl rfl hl.1 rfl (lv_room (Nat.le_of_ble_eq_true rfl)) d_Mo_segment_260 ⟨(hG_Q2V.step (B2 := Q2.R + 8 * (n - i) + 7) (C2 := V.us + (n + 12 - i)) (by omega) (by omega)).1, (hG_Q2V.step (B2 := Q2.R + 8 * (n - i) + 7) (C2 := V.us + (n + 12 - i)) (by omega) (by omega)).2⟩) hS (fun q _ h => hFc q h) hFc (fun r0 ⟨Q3, V3, j3, b3, o3⟩ t9 H1 locs ht hvm hw hB hz1 hk1 hS => ?_)
    obtain ⟨⟨hP1, hK1, hD1⟩, hz9⟩ := hB
    rw [ht] at hP1
    rw [ht] at hz9
    obtain ⟨⟨hQk_Q3, hGn, hTXs, hR1_Q3, hR2_Q3⟩, hw⟩ := hw
    have hQk_Q3 : QOK Q3 := hQk_Q3
    obtain ⟨hG_Q3V3, hGc, hGs⟩ := hG_Q2V.tr hGn (by omega) (by omega)
    have hR1_Q3 : Q2.R ≤ Q3.R := hR1_Q3
    have hR2_Q3 : Q3.R ≤ Q2.R + 8 * (n - i) + 7 := hR2_Q3
    obtain ⟨us3, hX_V3, hln_V3⟩ := hTXs
    have hX_V3 : TX V V3 us3 := hX_V3
    have hXs_V3 := hX_V3.us
    have hz9 : szk H H1 (cQ Q2 V Q3 V3) (sQ Q2 V Q3 V3) := hz9
    have hq1 : szk s.heap H1 (cQ Q V Q3 V3) (sQ Q V Q3 V3) := (hq0.trans hz9).mono hGc hGs
    refine w_tight hq1 ?_
    obtain ⟨hP, hD⟩ := va_join (wr := []) (w1 := [(mo, .inr (13, MF 30 (rf (rs v Q3 o3) j3 b3))), (qx, .inl (cB, NN, .inl f)), (Q3.qq, .inl (cI, (8 * Q3.C), .inl Q3.qf)), (Q3.qe, .inl (cL, (3 * Q3.C), .inr (.inl Q3.ef))), (tv, .inr (12, MF 13 (tw V3))), (V3.au, .inl (cC, V3.U, .inl V3.un))]) hP hD [0, 1, 2, 3, 4, 5] [] rfl rfl (by decide) (by decide) hk1 hFc hP1 hD1
    generalize H1 = H at hP hS ⊢
    have hP : va_P (dC, dI) classes [(mo, .inr (13, MF 30 (rf (rs v Q3 o3) j3 b3))), (qx, .inl (cB, NN, .inl f)), (Q3.qq, .inl (cI, (8 * Q3.C), .inl Q3.qf)), (Q3.qe, .inl (cL, (3 * Q3.C), .inr (.inl Q3.ef))), (tv, .inr (12, MF 13 (tw V3))), (V3.au, .inl (cC, V3.U, .inl V3.un))] H := hP
    have hD : va_D A [(mo, .inr (13, MF 30 (rf (rs v Q3 o3) j3 b3))), (qx, .inl (cB, NN, .inl f)), (Q3.qq, .inl (cI, (8 * Q3.C), .inl Q3.qf)), (Q3.qe, .inl (cL, (3 * Q3.C), .inr (.inl Q3.ef))), (tv, .inr (12, MF 13 (tw V3))), (V3.au, .inl (cC, V3.U, .inl V3.un))] := hD
    have hP := hP.sub (ws' := [(mo, .inr (13, MF 30 (rf (rs v Q3 o3) j3 b3))), (qx, .inl (cB, NN, .inl f)), (tv, .inr (12, MF 13 (tw V3))), (Q3.qq, .inl (cI, (8 * Q3.C), .inl Q3.qf)), (Q3.qe, .inl (cL, (3 * Q3.C), .inr (.inl Q3.ef))), (V3.au, .inl (cC, V3.U, .inl V3.un))]) [0, 1, 4, 2, 3, 5] rfl
    have hD := hD.sub (ws' := [(mo, .inr (13, MF 30 (rf (rs v Q3 o3) j3 b3))), (qx, .inl (cB, NN, .inl f)), (tv, .inr (12, MF 13 (tw V3))), (Q3.qq, .inl (cI, (8 * Q3.C), .inl Q3.qf)), (Q3.qe, .inl (cL, (3 * Q3.C), .inr (.inl Q3.ef))), (V3.au, .inl (cC, V3.U, .inl V3.un))]) [0, 1, 4, 2, 3, 5] (by decide) rfl
    have hP := hP.sub (ws' := [(mo, .inr (13, MF 30 (rf (rs v Q3 o3) j3 b3))), (qx, .inl (cB, NN, .inl f)), (Q3.qq, .inl (cI, (8 * Q3.C), .inl Q3.qf)), (Q3.qe, .inl (cL, (3 * Q3.C), .inr (.inl Q3.ef))), (tv, .inr (12, MF 13 (tw V3))), (V3.au, .inl (cC, V3.U, .inl V3.un))]) [0, 1, 3, 4, 2, 5] rfl
    have hD := hD.sub (ws' := [(mo, .inr (13, MF 30 (rf (rs v Q3 o3) j3 b3))), (qx, .inl (cB, NN, .inl f)), (Q3.qq, .inl (cI, (8 * Q3.C), .inl Q3.qf)), (Q3.qe, .inl (cL, (3 * Q3.C), .inr (.inl Q3.ef))), (tv, .inr (12, MF 13 (tw V3))), (V3.au, .inl (cC, V3.U, .inl V3.un))]) [0, 1, 3, 4, 2, 5] (by decide) rfl
    have hTk_V3 := hX_V3.ok hTk_V (by omega)
    have hqb_Q3V3 : Q3.R ≤ Q3.C ∧ Q3.C ≤ 100000 := ⟨hQk_Q3.2.2.1, hQk_Q3.2.1⟩
    have hfit_Q3V3 := hG_Q3V3.fits
    rcases hw with ⟨fl1, l1, hv_1, hv_2, hv_3, hv_4, hv_5, hv_6, hv_7, hv_8, hv_9⟩ | ⟨hv_1, hv_2⟩
    · have hv_9 : o = o3 := hv_9.symm
      subst hv_9
      have hP : va_P (dC, dI) classes [(mo, .inr (13, MF 30 (rf (rs v Q3 o) j3 b3))), (qx, .inl (cB, NN, .inl f)), (Q3.qq, .inl (cI, (8 * Q3.C), .inl Q3.qf)), (Q3.qe, .inl (cL, (3 * Q3.C), .inr (.inl Q3.ef))), (tv, .inr (12, MF 13 (tw V3))), (V3.au, .inl (cC, V3.U, .inl V3.un))] H := hP
      have hD : va_D A [(mo, .inr (13, MF 30 (rf (rs v Q3 o) j3 b3))), (qx, .inl (cB, NN, .inl f)), (Q3.qq, .inl (cI, (8 * Q3.C), .inl Q3.qf)), (Q3.qe, .inl (cL, (3 * Q3.C), .inr (.inl Q3.ef))), (tv, .inr (12, MF 13 (tw V3))), (V3.au, .inl (cC, V3.U, .inl V3.un))] := hD
      have hv_2 : slsP f n ok (orL f n) true i = some (j3, fl1, l1) := hv_2
      have hv_6 : Q3.R + 8 * i + 8 ≤ Q2.R + 8 * j3 := hv_6
      have hv_7 : V3.us + i ≤ V.us + j3 := hv_7
      have hv_8 : j3 ≤ n := hv_8
      have hSF : SGf O Q V Q.R y Q3 V3 fl1 (segS false l1) := hSG.sls hy (by omega) hv_3.1 hv_4 hv_5 hv_3.2
      subst hv_1
      refine lv_if_eq (tgt := 270) hx hb d_Mo_segment_263 (by decide) (fun h => absurd h (by decide)) (fun _ => ?_)
      refine lv_iload_n hx hb d_Mo_segment_266 rfl (lv_at hl 0 rfl) ?_
      refine lv_goto (tgt := 271) hx hb d_Mo_segment_267 (by decide) ?_
      have hfin : sgP f n ok (orL f n) true i = some (j3, fl1, segS false l1) := by rw [sgP_a (fun h => c20 (h_r1.trans h)), hv_2]; rfl
      refine w_same (fun hq => ?_)
      refine W.widen (k := kcap Q (Q.R + 8 * (n - i) + 8) + qcap V (V.us + (n + 12 - i))) (n := 22 * kcap Q (Q.R + 8 * (n - i) + 8) + 2 * qcap V (V.us + (n + 12 - i))) hfit_Q3V3.1 hfit_Q3V3.2 ?_
      have hPo : QPo n i 8 Q V (Q3, V3, j3, b3, o) := ⟨hQk_Q3, hG_Q3V3, ⟨_, hX_V3, by omega⟩, by show Q.R ≤ Q3.R; omega, by show Q3.R ≤ Q.R + 8 * (n - i) + 8; omega⟩
      exact W.iret (v := nI Q.R) hx hb hr (fun t9 ht hW => ⟨⟨nI Q.R, (Q3, V3, j3, b3, o), rfl, ⟨hPo, Or.inl ⟨fl1, segS false l1, rfl, hfin, hSF, by show Q3.R + 8 * i + 7 ≤ Q.R + 8 * j3; omega, by show V3.us + i ≤ V.us + j3; omega, by show j3 ≤ n; omega, by show Q.R < Q3.R; omega, rfl⟩⟩, ⟨by rw [ht]; exact hP, va_K.moved hW.alike hK, hD⟩, by rw [ht]; exact hq⟩, hS.F ht⟩) hS.2.2 d_Mo_segment_271
    · have hv_2 : slsP f n ok (orL f n) true i = none := hv_2
      subst hv_1
      refine lv_if_eq (tgt := 270) hx hb d_Mo_segment_263 (by decide) (fun _ => ?_) (fun h => absurd (by decide) h)
      refine lv_iconst (v := (-1)) hx hb d_Mo_segment_270 (by decide) ?_
      have hfin : sgP f n ok (orL f n) true i = none := by rw [sgP_a (fun h => c20 (h_r1.trans h)), hv_2]; rfl
      refine w_same (fun hq => ?_)
      refine W.widen (k := kcap Q (Q.R + 8 * (n - i) + 8) + qcap V (V.us + (n + 12 - i))) (n := 22 * kcap Q (Q.R + 8 * (n - i) + 8) + 2 * qcap V (V.us + (n + 12 - i))) hfit_Q3V3.1 hfit_Q3V3.2 ?_
      have hPo : QPo n i 8 Q V (Q3, V3, j3, b3, o3) := ⟨hQk_Q3, hG_Q3V3, ⟨_, hX_V3, by omega⟩, by show Q.R ≤ Q3.R; omega, by show Q3.R ≤ Q.R + 8 * (n - i) + 8; omega⟩
      exact W.iret (v := -1) hx hb hr (fun t9 ht hW => ⟨⟨-1, (Q3, V3, j3, b3, o3), rfl, ⟨hPo, Or.inr ⟨rfl, hfin⟩⟩, ⟨by rw [ht]; exact hP, va_K.moved hW.alike hK, hD⟩, by rw [ht]; exact hq⟩, hS.F ht⟩) hS.2.2 d_Mo_segment_271
  · have hlt0 := here_in (h_r1.symm.trans c20) (by decide)
    have hdot : hereV f n i = 46 := h_r1.symm.trans c20
    refine w_join (D := (dC, dI)) (cl := classes) (A := A) (H0 := s.heap) (nL := 5) 95 (σ := QS × Nat × Int32 × Bool × Bool) (fun ⟨Qj, j, b, fl, ds⟩ => SGi Q V Q.R y Qj V fl ds ∧ QOK Qj ∧ GQ (Q.R + 8 * (n - i) + 8) (V.us + (n + 12 - i)) Q V Qj V ∧ i + 1 ≤ j ∧ j ≤ n ∧ sgP f n ok (orL f n) true i = sgN f n true j fl ds) (fun ⟨Qj, j, b, fl, ds⟩ => cQ Q V Qj V) (fun ⟨Qj, j, b, fl, ds⟩ => sQ Q V Qj V) (fun ⟨Qj, j, b, fl, ds⟩ => [(mo, .inr (13, MF 30 (rf (rs v Qj o) j b))), (qx, .inl (cB, NN, .inl f)), (Qj.qq, .inl (cI, (8 * Qj.C), .inl Qj.qf)), (Qj.qe, .inl (cL, (3 * Qj.C), .inr (.inl Qj.ef))), (tv, .inr (12, MF 13 (tw V))), (V.au, .inl (cC, V.U, .inl V.un))]) (fun ⟨Qj, j, b, fl, ds⟩ => [(0, .ref mo), (1, .int (nI y)), (2, .int 1), (3, .int (nI Q.R))]) (fun jn95 => ?_) ?_
    · refine lv_aload_n hx hb d_Mo_segment_23 rfl (lv_at hl 1 rfl) ?_
      refine lv_dup hx hb d_Mo_segment_24 rfl ?_
      refine va_get (D := (dC, dI)) (ci := 13) (v := .int (nI i)) (C := R_Mo) (T := F_Mo) (N := 30) hx hb hts in_Mo hown hK hP 0 rfl rfl 7 (by decide) (hts _ w_1096) (fun _ h9 => h9) (MFg (by decide) rf_7) d_Mo_segment_25 ?_
      refine lv_iconst (v := 1) hx hb d_Mo_segment_28 (by decide) ?_
      refine lv_iadd hx hb d_Mo_segment_29 ?_
      refine W.eq (g2 := F0 m 30 ls [.int (nI (i + 1)), .ref mo]) (by rw [show ((nI i) + 1) = (nI (i + 1)) from nI_1 _]) ?_
      refine va_put (D := (dC, dI)) (ci := 13) (v := .int (nI (i + 1))) (ty := .int) (C := R_Mo) (T := F_Mo) (N := 30) hx hb hts in_Mo t_Mo t_Mo_ok n_Mo hown hK hP hD hS 0 rfl rfl 7 (by decide) (hts _ w_1096) (fun _ h9 => h9) rfl (by decide +kernel) rfl rfl (by rw [MFl]; decide) d_Mo_segment_30 (fun H locs hP hD hS => ?_)
      rw [MFs (n := 30) (k := 7) (by decide)] at hP hD
      have hP : va_P (dC, dI) classes [(mo, .inr (13, MF 30 (va_up (rf (rs v Q2 o) i br) 7 (.int (nI (i + 1)))))), (qx, .inl (cB, NN, .inl f)), (Q2.qq, .inl (cI, (8 * Q2.C), .inl Q2.qf)), (Q2.qe, .inl (cL, (3 * Q2.C), .inr (.inl Q2.ef))), (tv, .inr (12, MF 13 (tw V))), (V.au, .inl (cC, V.U, .inl V.un))] H := hP
      have hD : va_D A [(mo, .inr (13, MF 30 (va_up (rf (rs v Q2 o) i br) 7 (.int (nI (i + 1)))))), (qx, .inl (cB, NN, .inl f)), (Q2.qq, .inl (cI, (8 * Q2.C), .inl Q2.qf)), (Q2.qe, .inl (cL, (3 * Q2.C), .inr (.inl Q2.ef))), (tv, .inr (12, MF 13 (tw V))), (V.au, .inl (cC, V.U, .inl V.un))] := hD
      rw [rf_u7] at hP hD
      have hP : va_P (dC, dI) classes [(mo, .inr (13, MF 30 (rf (rs v Q2 o) (i + 1) br))), (qx, .inl (cB, NN, .inl f)), (Q2.qq, .inl (cI, (8 * Q2.C), .inl Q2.qf)), (Q2.qe, .inl (cL, (3 * Q2.C), .inr (.inl Q2.ef))), (tv, .inr (12, MF 13 (tw V))), (V.au, .inl (cC, V.U, .inl V.un))] H := hP
      have hD : va_D A [(mo, .inr (13, MF 30 (rf (rs v Q2 o) (i + 1) br))), (qx, .inl (cB, NN, .inl f)), (Q2.qq, .inl (cI, (8 * Q2.C), .inl Q2.qf)), (Q2.qe, .inl (cL, (3 * Q2.C), .inr (.inl Q2.ef))), (tv, .inr (12, MF 13 (tw V))), (V.au, .inl (cC, V.U, .inl V.un))] := hD
      refine lv_aload_n hx hb d_Mo_segment_33 rfl (lv_at hl 1 rfl) ?_
      have hPc := hP.sub (ws' := [(mo, .inr (13, MF 30 (rf (rs v Q2 o) (i + 1) br))), (qx, .inl (cB, NN, .inl f))]) [0, 1] rfl
      have hDc := hD.sub (ws' := [(mo, .inr (13, MF 30 (rf (rs v Q2 o) (i + 1) br))), (qx, .inl (cB, NN, .inl f))]) [0, 1] (by decide) rfl
      have hKc := hK.sub (tys' := [(cB, .byte)]) [0] rfl
      have hFc := va_free (wc := [(mo, .inr (13, MF 30 (rf (rs v Q2 o) (i + 1) br))), (qx, .inl (cB, NN, .inl f))]) hD hS hA [0, 1] rfl
      refine va_calli (va_runV (As := []) (rest := []) ⟨hx, hb, hml, hown, hts⟩ (c_Mo_c l dC dI mo H (rf (rs v Q2 o) (i + 1) br) cB qx NN f n (i + 1) (by omega) (by omega) (by omega) ((rf_ne (by decide) (by decide)).trans ((rs_ne (by decide) (by decide) (by decide) (by decide)).trans h6)) rf_7 ((rf_ne (by decide) (by decide)).trans ((rs_ne (by decide) (by decide) (by decide) (by decide)).trans h8))) (cwV 0 hts (gt_V (own := R_Mo) (C := R_Mo) (i := 147) (y := y_Mo_c) i_Mo_c w_1233 w_1235 (gt_sel (y := y_Mo_c) (n := 30) (by decide +kernel)) w_7) rfl rfl rfl (by decide +kernel) ⟨Nat.le_trans (m := 9) (Nat.le_of_ble_eq_true rfl) (Nat.le_add_right 9 F), Nat.le_trans (m := 280) (Nat.le_of_ble_eq_true rfl) (Nat.le_add_right 280 L)⟩) ⟨mp_blind, va_recv hKc hPc (ci := 13) (q0 := 0) rfl rfl, fun U hU hW => ⟨rfl, hU, by rw [hU]; exact hPc, va_K.moved hW.alike hKc, hDc.weaken (fun _ _ _ _ => trivial)⟩⟩ rfl rfl hl.1 rfl (lv_room (Nat.le_of_ble_eq_true rfl)) d_Mo_segment_34 ⟨hfit_Q2V.1, hfit_Q2V.2⟩) hS (fun q _ h => hFc q h) hFc (fun r2 _u t9 H1 locs ht hvm hw hB hz1 hk1 hS => ?_)
      obtain ⟨hP1, hK1, hD1⟩ := hB
      rw [ht] at hP1
      obtain ⟨hP, hD⟩ := va_join (wr := [(Q2.qq, .inl (cI, (8 * Q2.C), .inl Q2.qf)), (Q2.qe, .inl (cL, (3 * Q2.C), .inr (.inl Q2.ef))), (tv, .inr (12, MF 13 (tw V))), (V.au, .inl (cC, V.U, .inl V.un))]) (w1 := [(mo, .inr (13, MF 30 (rf (rs v Q2 o) (i + 1) br))), (qx, .inl (cB, NN, .inl f))]) hP hD [0, 1] [2, 3, 4, 5] rfl rfl (by decide) (by decide) hk1 hFc hP1 hD1
      generalize H1 = H at hP hS ⊢
      have hP : va_P (dC, dI) classes [(Q2.qq, .inl (cI, (8 * Q2.C), .inl Q2.qf)), (Q2.qe, .inl (cL, (3 * Q2.C), .inr (.inl Q2.ef))), (tv, .inr (12, MF 13 (tw V))), (V.au, .inl (cC, V.U, .inl V.un)), (mo, .inr (13, MF 30 (rf (rs v Q2 o) (i + 1) br))), (qx, .inl (cB, NN, .inl f))] H := hP
      have hD : va_D A [(Q2.qq, .inl (cI, (8 * Q2.C), .inl Q2.qf)), (Q2.qe, .inl (cL, (3 * Q2.C), .inr (.inl Q2.ef))), (tv, .inr (12, MF 13 (tw V))), (V.au, .inl (cC, V.U, .inl V.un)), (mo, .inr (13, MF 30 (rf (rs v Q2 o) (i + 1) br))), (qx, .inl (cB, NN, .inl f))] := hD
      have hP := hP.sub (ws' := [(mo, .inr (13, MF 30 (rf (rs v Q2 o) (i + 1) br))), (qx, .inl (cB, NN, .inl f)), (Q2.qq, .inl (cI, (8 * Q2.C), .inl Q2.qf)), (Q2.qe, .inl (cL, (3 * Q2.C), .inr (.inl Q2.ef))), (tv, .inr (12, MF 13 (tw V))), (V.au, .inl (cC, V.U, .inl V.un))]) [4, 5, 0, 1, 2, 3] rfl
      have hD := hD.sub (ws' := [(mo, .inr (13, MF 30 (rf (rs v Q2 o) (i + 1) br))), (qx, .inl (cB, NN, .inl f)), (Q2.qq, .inl (cI, (8 * Q2.C), .inl Q2.qf)), (Q2.qe, .inl (cL, (3 * Q2.C), .inr (.inl Q2.ef))), (tv, .inr (12, MF 13 (tw V))), (V.au, .inl (cC, V.U, .inl V.un))]) [4, 5, 0, 1, 2, 3] (by decide) rfl
      have h_r2 : r2 = hereV f n (i + 1) := hw
      refine lv_bipush (v := 46) hx hb d_Mo_segment_37 (by decide) ?_
      refine lv_icmp_ne (tgt := 95) hx hb d_Mo_segment_39 (by decide) (fun c39 => ?_) (fun c39 => ?_)
      · exact jn95 (Q2, (i + 1), br, true, false) _ _ _ ⟨hSG, hQk_Q2, hG_Q2V, by show i + 1 ≤ (i + 1); omega, by show (i + 1) ≤ n; omega, sgP_d hdot (fun h => c39 (h_r2.trans h.1))⟩ hP hD hS (lv_sub hl [1, 2, 3, 0] rfl)
      · refine lv_iload_n hx hb d_Mo_segment_42 rfl (lv_at hl 3 rfl) ?_
        refine lv_if_ne (tgt := 95) hx hb d_Mo_segment_43 (by decide) (fun _ => ?_) (fun h => absurd h (by decide))
        exact jn95 (Q2, (i + 1), br, true, false) _ _ _ ⟨hSG, hQk_Q2, hG_Q2V, by show i + 1 ≤ (i + 1); omega, by show (i + 1) ≤ n; omega, sgP_d hdot (fun h => absurd h.2 (by decide))⟩ hP hD hS (lv_sub hl [1, 2, 3, 0] rfl)
    · rintro ⟨Qj, j, b, fl, ds⟩ H locs ls hI95 hP hD hS hl
      have hP : va_P (dC, dI) classes [(mo, .inr (13, MF 30 (rf (rs v Qj o) j b))), (qx, .inl (cB, NN, .inl f)), (Qj.qq, .inl (cI, (8 * Qj.C), .inl Qj.qf)), (Qj.qe, .inl (cL, (3 * Qj.C), .inr (.inl Qj.ef))), (tv, .inr (12, MF 13 (tw V))), (V.au, .inl (cC, V.U, .inl V.un))] H := hP
      have hD : va_D A [(mo, .inr (13, MF 30 (rf (rs v Qj o) j b))), (qx, .inl (cB, NN, .inl f)), (Qj.qq, .inl (cI, (8 * Qj.C), .inl Qj.qf)), (Qj.qe, .inl (cL, (3 * Qj.C), .inr (.inl Qj.ef))), (tv, .inr (12, MF 13 (tw V))), (V.au, .inl (cC, V.U, .inl V.un))] := hD
      have hl : lv_has ls 5 [(0, .ref mo), (1, .int (nI y)), (2, .int 1), (3, .int (nI Q.R))] := hl
      obtain ⟨hSGj, hQk_Qj, hG_QjV, hj1, hj2, hsN⟩ := hI95
      have hqb_QjV : Qj.R ≤ Qj.C ∧ Qj.C ≤ 100000 := ⟨hQk_Qj.2.2.1, hQk_Qj.2.1⟩
      have hfit_QjV := hG_QjV.fits
      have hR_Qj := hSGj.1
      refine lv_aload_n hx hb d_Mo_segment_95 rfl (lv_at hl 0 rfl) ?_
      have hPc := hP.sub (ws' := [(mo, .inr (13, MF 30 (rf (rs v Qj o) j b))), (qx, .inl (cB, NN, .inl f))]) [0, 1] rfl
      have hDc := hD.sub (ws' := [(mo, .inr (13, MF 30 (rf (rs v Qj o) j b))), (qx, .inl (cB, NN, .inl f))]) [0, 1] (by decide) rfl
      have hKc := hK.sub (tys' := [(cB, .byte)]) [0] rfl
      have hFc := va_free (wc := [(mo, .inr (13, MF 30 (rf (rs v Qj o) j b))), (qx, .inl (cB, NN, .inl f))]) hD hS hA [0, 1] rfl
      refine va_calli (va_runV (As := []) (rest := []) ⟨hx, hb, hml, hown, hts⟩ (c_Mo_c l dC dI mo H (rf (rs v Qj o) j b) cB qx NN f n j (by omega) (by omega) (by omega) ((rf_ne (by decide) (by decide)).trans ((rs_ne (by decide) (by decide) (by decide) (by decide)).trans h6)) rf_7 ((rf_ne (by decide) (by decide)).trans ((rs_ne (by decide) (by decide) (by decide) (by decide)).trans h8))) (cwV 0 hts (gt_V (own := R_Mo) (C := R_Mo) (i := 147) (y := y_Mo_c) i_Mo_c w_1233 w_1235 (gt_sel (y := y_Mo_c) (n := 30) (by decide +kernel)) w_7) rfl rfl rfl (by decide +kernel) ⟨Nat.le_trans (m := 9) (Nat.le_of_ble_eq_true rfl) (Nat.le_add_right 9 F), Nat.le_trans (m := 280) (Nat.le_of_ble_eq_true rfl) (Nat.le_add_right 280 L)⟩) ⟨mp_blind, va_recv hKc hPc (ci := 13) (q0 := 0) rfl rfl, fun U hU hW => ⟨rfl, hU, by rw [hU]; exact hPc, va_K.moved hW.alike hKc, hDc.weaken (fun _ _ _ _ => trivial)⟩⟩ rfl rfl hl.1 rfl (lv_room (Nat.le_of_ble_eq_true rfl)) d_Mo_segment_96 ⟨hfit_QjV.1, hfit_QjV.2⟩) hS (fun q _ h => hFc q h) hFc (fun r4 _u t9 H1 locs ht hvm hw hB hz1 hk1 hS => ?_)
      obtain ⟨hP1, hK1, hD1⟩ := hB
      rw [ht] at hP1
      obtain ⟨hP, hD⟩ := va_join (wr := [(Qj.qq, .inl (cI, (8 * Qj.C), .inl Qj.qf)), (Qj.qe, .inl (cL, (3 * Qj.C), .inr (.inl Qj.ef))), (tv, .inr (12, MF 13 (tw V))), (V.au, .inl (cC, V.U, .inl V.un))]) (w1 := [(mo, .inr (13, MF 30 (rf (rs v Qj o) j b))), (qx, .inl (cB, NN, .inl f))]) hP hD [0, 1] [2, 3, 4, 5] rfl rfl (by decide) (by decide) hk1 hFc hP1 hD1
      generalize H1 = H at hP hS ⊢
      have hP : va_P (dC, dI) classes [(Qj.qq, .inl (cI, (8 * Qj.C), .inl Qj.qf)), (Qj.qe, .inl (cL, (3 * Qj.C), .inr (.inl Qj.ef))), (tv, .inr (12, MF 13 (tw V))), (V.au, .inl (cC, V.U, .inl V.un)), (mo, .inr (13, MF 30 (rf (rs v Qj o) j b))), (qx, .inl (cB, NN, .inl f))] H := hP
      have hD : va_D A [(Qj.qq, .inl (cI, (8 * Qj.C), .inl Qj.qf)), (Qj.qe, .inl (cL, (3 * Qj.C), .inr (.inl Qj.ef))), (tv, .inr (12, MF 13 (tw V))), (V.au, .inl (cC, V.U, .inl V.un)), (mo, .inr (13, MF 30 (rf (rs v Qj o) j b))), (qx, .inl (cB, NN, .inl f))] := hD
      have hP := hP.sub (ws' := [(mo, .inr (13, MF 30 (rf (rs v Qj o) j b))), (qx, .inl (cB, NN, .inl f)), (Qj.qq, .inl (cI, (8 * Qj.C), .inl Qj.qf)), (Qj.qe, .inl (cL, (3 * Qj.C), .inr (.inl Qj.ef))), (tv, .inr (12, MF 13 (tw V))), (V.au, .inl (cC, V.U, .inl V.un))]) [4, 5, 0, 1, 2, 3] rfl
      have hD := hD.sub (ws' := [(mo, .inr (13, MF 30 (rf (rs v Qj o) j b))), (qx, .inl (cB, NN, .inl f)), (Qj.qq, .inl (cI, (8 * Qj.C), .inl Qj.qf)), (Qj.qe, .inl (cL, (3 * Qj.C), .inr (.inl Qj.ef))), (tv, .inr (12, MF 13 (tw V))), (V.au, .inl (cC, V.U, .inl V.un))]) [4, 5, 0, 1, 2, 3] (by decide) rfl
      have h_r4 : r4 = hereV f n j := hw
      refine lv_bipush (v := 42) hx hb d_Mo_segment_99 (by decide) ?_
      refine lv_icmp_ne (tgt := 138) hx hb d_Mo_segment_101 (by decide) (fun c101 => ?_) (fun c101 => ?_)
      · refine lv_aload_n hx hb d_Mo_segment_138 rfl (lv_at hl 0 rfl) ?_
        have hPc := hP.sub (ws' := [(mo, .inr (13, MF 30 (rf (rs v Qj o) j b))), (qx, .inl (cB, NN, .inl f))]) [0, 1] rfl
        have hDc := hD.sub (ws' := [(mo, .inr (13, MF 30 (rf (rs v Qj o) j b))), (qx, .inl (cB, NN, .inl f))]) [0, 1] (by decide) rfl
        have hKc := hK.sub (tys' := [(cB, .byte)]) [0] rfl
        have hFc := va_free (wc := [(mo, .inr (13, MF 30 (rf (rs v Qj o) j b))), (qx, .inl (cB, NN, .inl f))]) hD hS hA [0, 1] rfl
        refine va_calli (va_runV (As := []) (rest := []) ⟨hx, hb, hml, hown, hts⟩ (c_Mo_c l dC dI mo H (rf (rs v Qj o) j b) cB qx NN f n j (by omega) (by omega) (by omega) ((rf_ne (by decide) (by decide)).trans ((rs_ne (by decide) (by decide) (by decide) (by decide)).trans h6)) rf_7 ((rf_ne (by decide) (by decide)).trans ((rs_ne (by decide) (by decide) (by decide) (by decide)).trans h8))) (cwV 0 hts (gt_V (own := R_Mo) (C := R_Mo) (i := 147) (y := y_Mo_c) i_Mo_c w_1233 w_1235 (gt_sel (y := y_Mo_c) (n := 30) (by decide +kernel)) w_7) rfl rfl rfl (by decide +kernel) ⟨Nat.le_trans (m := 9) (Nat.le_of_ble_eq_true rfl) (Nat.le_add_right 9 F), Nat.le_trans (m := 280) (Nat.le_of_ble_eq_true rfl) (Nat.le_add_right 280 L)⟩) ⟨mp_blind, va_recv hKc hPc (ci := 13) (q0 := 0) rfl rfl, fun U hU hW => ⟨rfl, hU, by rw [hU]; exact hPc, va_K.moved hW.alike hKc, hDc.weaken (fun _ _ _ _ => trivial)⟩⟩ rfl rfl hl.1 rfl (lv_room (Nat.le_of_ble_eq_true rfl)) d_Mo_segment_139 ⟨hfit_QjV.1, hfit_QjV.2⟩) hS (fun q _ h => hFc q h) hFc (fun r5 _u t9 H1 locs ht hvm hw hB hz1 hk1 hS => ?_)
        obtain ⟨hP1, hK1, hD1⟩ := hB
        rw [ht] at hP1
        obtain ⟨hP, hD⟩ := va_join (wr := [(Qj.qq, .inl (cI, (8 * Qj.C), .inl Qj.qf)), (Qj.qe, .inl (cL, (3 * Qj.C), .inr (.inl Qj.ef))), (tv, .inr (12, MF 13 (tw V))), (V.au, .inl (cC, V.U, .inl V.un))]) (w1 := [(mo, .inr (13, MF 30 (rf (rs v Qj o) j b))), (qx, .inl (cB, NN, .inl f))]) hP hD [0, 1] [2, 3, 4, 5] rfl rfl (by decide) (by decide) hk1 hFc hP1 hD1
        generalize H1 = H at hP hS ⊢
        have hP : va_P (dC, dI) classes [(Qj.qq, .inl (cI, (8 * Qj.C), .inl Qj.qf)), (Qj.qe, .inl (cL, (3 * Qj.C), .inr (.inl Qj.ef))), (tv, .inr (12, MF 13 (tw V))), (V.au, .inl (cC, V.U, .inl V.un)), (mo, .inr (13, MF 30 (rf (rs v Qj o) j b))), (qx, .inl (cB, NN, .inl f))] H := hP
        have hD : va_D A [(Qj.qq, .inl (cI, (8 * Qj.C), .inl Qj.qf)), (Qj.qe, .inl (cL, (3 * Qj.C), .inr (.inl Qj.ef))), (tv, .inr (12, MF 13 (tw V))), (V.au, .inl (cC, V.U, .inl V.un)), (mo, .inr (13, MF 30 (rf (rs v Qj o) j b))), (qx, .inl (cB, NN, .inl f))] := hD
        have hP := hP.sub (ws' := [(mo, .inr (13, MF 30 (rf (rs v Qj o) j b))), (qx, .inl (cB, NN, .inl f)), (Qj.qq, .inl (cI, (8 * Qj.C), .inl Qj.qf)), (Qj.qe, .inl (cL, (3 * Qj.C), .inr (.inl Qj.ef))), (tv, .inr (12, MF 13 (tw V))), (V.au, .inl (cC, V.U, .inl V.un))]) [4, 5, 0, 1, 2, 3] rfl
        have hD := hD.sub (ws' := [(mo, .inr (13, MF 30 (rf (rs v Qj o) j b))), (qx, .inl (cB, NN, .inl f)), (Qj.qq, .inl (cI, (8 * Qj.C), .inl Qj.qf)), (Qj.qe, .inl (cL, (3 * Qj.C), .inr (.inl Qj.ef))), (tv, .inr (12, MF 13 (tw V))), (V.au, .inl (cC, V.U, .inl V.un))]) [4, 5, 0, 1, 2, 3] (by decide) rfl
        have h_r5 : r5 = hereV f n j := hw
        have hPc := hP.sub (ws' := []) [] rfl
        have hDc := hD.sub (ws' := []) [] (by decide) rfl
        have hKc := hK.sub (tys' := []) [] rfl
        have hFc := va_free (wc := []) hD hS hA [] rfl
        refine va_calli (va_runS (As := [.int r5]) (rest := []) ⟨hx, hb, hml, hown, hts⟩ (c_Mo_letter l dC dI H r5) (va_cwS 1 hts (gt_S (own := R_Mo) (i := 283) (y := y_Mo_letter) i_Mo_letter w_1478 w_1479 w_7) rfl rfl rfl (by decide +kernel) ⟨Nat.le_trans (m := 9) (Nat.le_of_ble_eq_true rfl) (Nat.le_add_right 9 F), Nat.le_trans (m := 280) (Nat.le_of_ble_eq_true rfl) (Nat.le_add_right 280 L)⟩) ⟨mp_blind, fun U hU hW => ⟨rfl, hU, by rw [hU]; exact hPc, va_K.moved hW.alike hKc, hDc.weaken (fun _ _ _ _ => trivial)⟩⟩ rfl rfl hl.1 rfl (lv_room (Nat.le_of_ble_eq_true rfl)) d_Mo_segment_142 ⟨hfit_QjV.1, hfit_QjV.2⟩) hS (fun q _ h => hFc q h) hFc (fun t5 _u t9 H1 locs ht hvm hw hB hz1 hk1 hS => ?_)
        obtain ⟨hP1, hK1, hD1⟩ := hB
        rw [ht] at hP1
        obtain ⟨hP, hD⟩ := va_join (wr := [(mo, .inr (13, MF 30 (rf (rs v Qj o) j b))), (qx, .inl (cB, NN, .inl f)), (Qj.qq, .inl (cI, (8 * Qj.C), .inl Qj.qf)), (Qj.qe, .inl (cL, (3 * Qj.C), .inr (.inl Qj.ef))), (tv, .inr (12, MF 13 (tw V))), (V.au, .inl (cC, V.U, .inl V.un))]) (w1 := []) hP hD [] [0, 1, 2, 3, 4, 5] rfl rfl (by decide) (by decide) hk1 hFc hP1 hD1
        generalize H1 = H at hP hS ⊢
        have hP : va_P (dC, dI) classes [(mo, .inr (13, MF 30 (rf (rs v Qj o) j b))), (qx, .inl (cB, NN, .inl f)), (Qj.qq, .inl (cI, (8 * Qj.C), .inl Qj.qf)), (Qj.qe, .inl (cL, (3 * Qj.C), .inr (.inl Qj.ef))), (tv, .inr (12, MF 13 (tw V))), (V.au, .inl (cC, V.U, .inl V.un))] H := hP
        have hD : va_D A [(mo, .inr (13, MF 30 (rf (rs v Qj o) j b))), (qx, .inl (cB, NN, .inl f)), (Qj.qq, .inl (cI, (8 * Qj.C), .inl Qj.qf)), (Qj.qe, .inl (cL, (3 * Qj.C), .inr (.inl Qj.ef))), (tv, .inr (12, MF 13 (tw V))), (V.au, .inl (cC, V.U, .inl V.un))] := hD
        have h_t5 := lt_01 hw
        refine lv_if_ne (tgt := 159) hx hb d_Mo_segment_145 (by decide) (fun c145 => ?_) (fun c145 => ?_)
        · refine lv_aload_n hx hb d_Mo_segment_159 rfl (lv_at hl 0 rfl) ?_
          refine lv_iconst (v := 1) hx hb d_Mo_segment_160 (by decide) ?_
          have hPc := hP.sub (ws' := [(mo, .inr (13, MF 30 (rf (rs v Qj o) j b))), (Qj.qq, .inl (cI, (8 * Qj.C), .inl Qj.qf)), (Qj.qe, .inl (cL, (3 * Qj.C), .inr (.inl Qj.ef)))]) [0, 2, 3] rfl
          have hDc := hD.sub (ws' := [(mo, .inr (13, MF 30 (rf (rs v Qj o) j b))), (Qj.qq, .inl (cI, (8 * Qj.C), .inl Qj.qf)), (Qj.qe, .inl (cL, (3 * Qj.C), .inr (.inl Qj.ef)))]) [0, 2, 3] (by decide) rfl
          have hKc := hK.sub (tys' := [(cI, .int), (cL, .long)]) [1, 2] rfl
          have hFc := va_free (wc := [(mo, .inr (13, MF 30 (rf (rs v Qj o) j b))), (Qj.qq, .inl (cI, (8 * Qj.C), .inl Qj.qf)), (Qj.qe, .inl (cL, (3 * Qj.C), .inr (.inl Qj.ef)))]) hD hS hA [0, 2, 3] rfl
          refine w_same (fun hq0 => ?_)
          refine va_calli (va_runV (As := [.int 1]) (rest := []) ⟨hx, hb, hml, hown, hts⟩ (c_Mo_row l dC dI mo H v cI cL Qj o j b 1 hQk_Qj) (cwV 1 hts (gt_V (own := R_Mo) (C := R_Mo) (i := 269) (y := y_Mo_row) i_Mo_row w_1407 w_1409 (gt_sel (y := y_Mo_row) (n := 30) (by decide +kernel)) w_7) rfl rfl rfl (by decide +kernel) ⟨Nat.le_trans (m := 9) (Nat.le_of_ble_eq_true rfl) (Nat.le_add_right 9 F), Nat.le_trans (m := 280) (Nat.le_of_ble_eq_true rfl) (Nat.le_add_right 280 L)⟩) ⟨mp_blind, va_recv hKc hPc (ci := 13) (q0 := 0) rfl rfl, fun U hU hW => ⟨rfl, hU, by rw [hU]; exact hPc, va_K.moved hW.alike hKc, hDc.weaken (fun _ _ _ _ => trivial)⟩⟩ rfl rfl hl.1 rfl (lv_room (Nat.le_of_ble_eq_true rfl)) d_Mo_segment_161 ⟨(QAd.fit hG_QjV hQk_Qj (by omega)).1, (QAd.fit hG_QjV hQk_Qj (by omega)).2⟩) hS (fun q _ h => hFc q h) hFc (fun r0 Qa t9 H1 locs ht hvm hw hB hz1 hk1 hS => ?_)
          obtain ⟨⟨hP1, hK1, hD1⟩, hz9⟩ := hB
          rw [ht] at hP1
          rw [ht] at hz9
          obtain ⟨hr0, hA_Qa⟩ := hw
          have hA_Qa : QAd Qj Qa 1 := hA_Qa
          obtain ⟨hQk_Qa, hGa, hGb, hGd, hR_Qa⟩ := hA_Qa.gq hQk_Qj (by omega) V
          obtain ⟨hG_QaV, hGc, hGs⟩ := hG_QjV.tr hGa (show Qj.R + 1 ≤ Q.R + 8 * (n - i) + 8 by omega) (Nat.zero_le _)
          have hGc := Nat.le_trans (Nat.add_le_add_left hGb _) hGc
          have hGs := Nat.le_trans (Nat.add_le_add_left hGd _) hGs
          have hq1 : szk s.heap H1 (cQ Q V Qa V) (sQ Q V Qa V) := (hq0.trans hz9).mono hGc hGs
          refine w_tight hq1 ?_
          obtain ⟨hP, hD⟩ := va_join (wr := [(qx, .inl (cB, NN, .inl f)), (tv, .inr (12, MF 13 (tw V))), (V.au, .inl (cC, V.U, .inl V.un))]) (w1 := [(mo, .inr (13, MF 30 (rf (rs v Qa o) j b))), (Qa.qq, .inl (cI, (8 * Qa.C), .inl Qa.qf)), (Qa.qe, .inl (cL, (3 * Qa.C), .inr (.inl Qa.ef)))]) hP hD [0, 2, 3] [1, 4, 5] rfl rfl (by decide) (by decide) hk1 hFc hP1 hD1
          generalize H1 = H at hP hS ⊢
          have hP : va_P (dC, dI) classes [(qx, .inl (cB, NN, .inl f)), (tv, .inr (12, MF 13 (tw V))), (V.au, .inl (cC, V.U, .inl V.un)), (mo, .inr (13, MF 30 (rf (rs v Qa o) j b))), (Qa.qq, .inl (cI, (8 * Qa.C), .inl Qa.qf)), (Qa.qe, .inl (cL, (3 * Qa.C), .inr (.inl Qa.ef)))] H := hP
          have hD : va_D A [(qx, .inl (cB, NN, .inl f)), (tv, .inr (12, MF 13 (tw V))), (V.au, .inl (cC, V.U, .inl V.un)), (mo, .inr (13, MF 30 (rf (rs v Qa o) j b))), (Qa.qq, .inl (cI, (8 * Qa.C), .inl Qa.qf)), (Qa.qe, .inl (cL, (3 * Qa.C), .inr (.inl Qa.ef)))] := hD
          have hP := hP.sub (ws' := [(mo, .inr (13, MF 30 (rf (rs v Qa o) j b))), (qx, .inl (cB, NN, .inl f)), (tv, .inr (12, MF 13 (tw V))), (V.au, .inl (cC, V.U, .inl V.un)), (Qa.qq, .inl (cI, (8 * Qa.C), .inl Qa.qf)), (Qa.qe, .inl (cL, (3 * Qa.C), .inr (.inl Qa.ef)))]) [3, 0, 1, 2, 4, 5] rfl
          have hD := hD.sub (ws' := [(mo, .inr (13, MF 30 (rf (rs v Qa o) j b))), (qx, .inl (cB, NN, .inl f)), (tv, .inr (12, MF 13 (tw V))), (V.au, .inl (cC, V.U, .inl V.un)), (Qa.qq, .inl (cI, (8 * Qa.C), .inl Qa.qf)), (Qa.qe, .inl (cL, (3 * Qa.C), .inr (.inl Qa.ef)))]) [3, 0, 1, 2, 4, 5] (by decide) rfl
          have hP := hP.sub (ws' := [(mo, .inr (13, MF 30 (rf (rs v Qa o) j b))), (qx, .inl (cB, NN, .inl f)), (Qa.qq, .inl (cI, (8 * Qa.C), .inl Qa.qf)), (Qa.qe, .inl (cL, (3 * Qa.C), .inr (.inl Qa.ef))), (tv, .inr (12, MF 13 (tw V))), (V.au, .inl (cC, V.U, .inl V.un))]) [0, 1, 4, 5, 2, 3] rfl
          have hD := hD.sub (ws' := [(mo, .inr (13, MF 30 (rf (rs v Qa o) j b))), (qx, .inl (cB, NN, .inl f)), (Qa.qq, .inl (cI, (8 * Qa.C), .inl Qa.qf)), (Qa.qe, .inl (cL, (3 * Qa.C), .inr (.inl Qa.ef))), (tv, .inr (12, MF 13 (tw V))), (V.au, .inl (cC, V.U, .inl V.un))]) [0, 1, 4, 5, 2, 3] (by decide) rfl
          have hr0 : r0 = nI Qj.R := hr0
          subst hr0
          have hqb_QaV : Qa.R ≤ Qa.C ∧ Qa.C ≤ 100000 := ⟨hQk_Qa.2.2.1, hQk_Qa.2.1⟩
          have hfit_QaV := hG_QaV.fits
          have hE_Qa : alr Qj V Qa V 0 Qj.R := ⟨fun r9 k9 _ h1 h2 => hA_Qa.2.2.1 _ (by omega), ⟨fun r9 k9 _ h1 h2 => hA_Qa.2.2.2.1.2 _ (by omega), Nat.le_refl _, fun _ _ => rfl⟩⟩
          refine lv_istore (lv' := [(4, .int (nI Qj.R)), (0, .ref mo), (1, .int (nI y)), (2, .int 1), (3, .int (nI Q.R))]) hx hb d_Mo_segment_164 hl (by decide) rfl (fun ls hl => ?_)
          refine lv_aload_n hx hb d_Mo_segment_166 rfl (lv_at hl 1 rfl) ?_
          refine lv_iload hx hb d_Mo_segment_167 (lv_at hl 0 rfl) ?_
          refine lv_iconst (v := 2) hx hb d_Mo_segment_169 (by decide) ?_
          refine lv_aload_n hx hb d_Mo_segment_170 rfl (lv_at hl 1 rfl) ?_
          refine va_get (D := (dC, dI)) (ci := 13) (v := .ref tv) (C := R_Mo) (T := F_Mo) (N := 30) hx hb hts in_Mo hown hK hP 0 rfl rfl 22 (by decide) (hts _ w_1111) (fun _ h9 => h9) (MFg (by decide) ((rf_ne (by decide) (by decide)).trans ((rs_ne (by decide) (by decide) (by decide) (by decide)).trans h22))) d_Mo_segment_171 ?_
          refine va_get (D := (dC, dI)) (ci := 12) (v := .int (nI V.us)) (C := R_Tree) (T := F_Tree) (N := 13) hx hb hts in_Tree hown hK hP 4 rfl rfl 12 (by decide) (hts _ w_1058) (fun _ h9 => h9) (MFg (by decide) rfl) d_Mo_segment_174 ?_
          refine W.eq (g2 := F0 m 177 ls [.int (nI V.us), .int (nI 2), .int (nI Qj.R), .ref mo]) rfl ?_
          have hPc := hP.sub (ws' := [(mo, .inr (13, MF 30 (rf (rs v Qa o) j b))), (Qa.qq, .inl (cI, (8 * Qa.C), .inl Qa.qf))]) [0, 2] rfl
          have hDc := hD.sub (ws' := [(mo, .inr (13, MF 30 (rf (rs v Qa o) j b))), (Qa.qq, .inl (cI, (8 * Qa.C), .inl Qa.qf))]) [0, 2] (by decide) rfl
          have hKc := hK.sub (tys' := [(cI, .int)]) [1] rfl
          have hFc := va_free (wc := [(mo, .inr (13, MF 30 (rf (rs v Qa o) j b))), (Qa.qq, .inl (cI, (8 * Qa.C), .inl Qa.qf))]) hD hS hA [0, 2] rfl
          refine va_callv (va_runV (As := [.int (nI Qj.R), .int (nI 2), .int (nI V.us)]) (rest := []) ⟨hx, hb, hml, hown, hts⟩ (c_Mo_set l dC dI mo H (rf (rs v Qa o) j b) cI Qa.qq (8 * Qa.C) Qa.qf Qj.R 2 ((nI V.us)) (by omega) (by omega) ((rf_ne (by decide) (by decide)).trans rs_19)) (cwV 3 hts (gt_V (own := R_Mo) (C := R_Mo) (i := 272) (y := y_Mo_set) i_Mo_set w_1411 w_1413 (gt_sel (y := y_Mo_set) (n := 30) (by decide +kernel)) w_7) rfl rfl rfl (by decide +kernel) ⟨Nat.le_trans (m := 9) (Nat.le_of_ble_eq_true rfl) (Nat.le_add_right 9 F), Nat.le_trans (m := 280) (Nat.le_of_ble_eq_true rfl) (Nat.le_add_right 280 L)⟩) ⟨mp_blind, va_recv hKc hPc (ci := 13) (q0 := 0) rfl rfl, fun U hU hW => ⟨rfl, hU, by rw [hU]; exact hPc, va_K.moved hW.alike hKc, hDc.weaken (fun _ _ _ _ => trivial)⟩⟩ rfl rfl hl.1 rfl (lv_room (Nat.le_of_ble_eq_true rfl)) d_Mo_segment_177 ⟨hfit_QaV.1, hfit_QaV.2⟩) hS (fun q _ h => hFc q h) hFc (fun _u t9 H1 locs ht hvm hw hB hz1 hk1 hS => ?_)
          obtain ⟨hP1, hK1, hD1⟩ := hB
          rw [ht] at hP1
          obtain ⟨hP, hD⟩ := va_join (wr := [(qx, .inl (cB, NN, .inl f)), (Qa.qe, .inl (cL, (3 * Qa.C), .inr (.inl Qa.ef))), (tv, .inr (12, MF 13 (tw V))), (V.au, .inl (cC, V.U, .inl V.un))]) (w1 := [(mo, .inr (13, MF 30 (rf (rs v Qa o) j b))), (Qa.qq, .inl (cI, (8 * Qa.C), .inl (upd Qa.qf (8 * Qj.R + 2) ((nI V.us)))))]) hP hD [0, 2] [1, 3, 4, 5] rfl rfl (by decide) (by decide) hk1 hFc hP1 hD1
          generalize H1 = H at hP hS ⊢
          have hP : va_P (dC, dI) classes [(qx, .inl (cB, NN, .inl f)), (Qa.qe, .inl (cL, (3 * Qa.C), .inr (.inl Qa.ef))), (tv, .inr (12, MF 13 (tw V))), (V.au, .inl (cC, V.U, .inl V.un)), (mo, .inr (13, MF 30 (rf (rs v Qa o) j b))), (Qa.qq, .inl (cI, (8 * Qa.C), .inl (upd Qa.qf (8 * Qj.R + 2) ((nI V.us)))))] H := hP
          have hD : va_D A [(qx, .inl (cB, NN, .inl f)), (Qa.qe, .inl (cL, (3 * Qa.C), .inr (.inl Qa.ef))), (tv, .inr (12, MF 13 (tw V))), (V.au, .inl (cC, V.U, .inl V.un)), (mo, .inr (13, MF 30 (rf (rs v Qa o) j b))), (Qa.qq, .inl (cI, (8 * Qa.C), .inl (upd Qa.qf (8 * Qj.R + 2) ((nI V.us)))))] := hD
          have hP := hP.sub (ws' := [(mo, .inr (13, MF 30 (rf (rs v Qa o) j b))), (qx, .inl (cB, NN, .inl f)), (Qa.qq, .inl (cI, (8 * Qa.C), .inl (upd Qa.qf (8 * Qj.R + 2) ((nI V.us))))), (Qa.qe, .inl (cL, (3 * Qa.C), .inr (.inl Qa.ef))), (tv, .inr (12, MF 13 (tw V))), (V.au, .inl (cC, V.U, .inl V.un))]) [4, 0, 5, 1, 2, 3] rfl
          have hD := hD.sub (ws' := [(mo, .inr (13, MF 30 (rf (rs v Qa o) j b))), (qx, .inl (cB, NN, .inl f)), (Qa.qq, .inl (cI, (8 * Qa.C), .inl (upd Qa.qf (8 * Qj.R + 2) ((nI V.us))))), (Qa.qe, .inl (cL, (3 * Qa.C), .inr (.inl Qa.ef))), (tv, .inr (12, MF 13 (tw V))), (V.au, .inl (cC, V.U, .inl V.un))]) [4, 0, 5, 1, 2, 3] (by decide) rfl
          obtain ⟨Qb, e_Qb⟩ : ∃ z : QS, z = QS.wf Qa (upd Qa.qf (8 * Qj.R + 2) ((nI V.us))) := ⟨_, rfl⟩
          have hP : va_P (dC, dI) classes [(mo, .inr (13, MF 30 (rf (rs v Qb o) j b))), (qx, .inl (cB, NN, .inl f)), (Qb.qq, .inl (cI, (8 * Qb.C), .inl Qb.qf)), (Qb.qe, .inl (cL, (3 * Qb.C), .inr (.inl Qb.ef))), (tv, .inr (12, MF 13 (tw V))), (V.au, .inl (cC, V.U, .inl V.un))] H := by subst e_Qb; exact hP
          have hD : va_D A [(mo, .inr (13, MF 30 (rf (rs v Qb o) j b))), (qx, .inl (cB, NN, .inl f)), (Qb.qq, .inl (cI, (8 * Qb.C), .inl Qb.qf)), (Qb.qe, .inl (cL, (3 * Qb.C), .inr (.inl Qb.ef))), (tv, .inr (12, MF 13 (tw V))), (V.au, .inl (cC, V.U, .inl V.un))] := by subst e_Qb; exact hD
          have hf_Qb : Qb.C = Qa.C ∧ Qb.R = Qa.R ∧ Qb.qf = upd Qa.qf (8 * Qj.R + 2) ((nI V.us)) := by rw [e_Qb]; exact ⟨rfl, rfl, rfl⟩
          have he_Qb : Qb.ef = Qa.ef := by rw [e_Qb]; rfl
          have hQk_Qb : QOK Qb := by rw [e_Qb]; exact hQk_Qa
          have hG_QbV : GQ (Q.R + 8 * (n - i) + 8) (V.us + (n + 12 - i)) Q V Qb V := by unfold GQ at hG_QaV ⊢; rw [hf_Qb.1]; exact hG_QaV
          refine w_same (fun hq => ?_)
          refine w_tight (k := cQ Q V Qb V) (n := sQ Q V Qb V) (by unfold cQ sQ at hq ⊢; rw [hf_Qb.1]; exact hq) ?_
          have hR_Qb := hf_Qb.2.1
          have hqb_QbV : Qb.R ≤ Qb.C ∧ Qb.C ≤ 100000 := ⟨hQk_Qb.2.2.1, hQk_Qb.2.1⟩
          have hfit_QbV := hG_QbV.fits
          have hlet : letH (hereV f n j) := by rw [← h_r5]; exact h_t5.1 c145
          have hltj := letH_lt hlet
          refine w_same (fun hq => ?_)
          refine W.widen (k := kcap Q (Q.R + 8 * (n - i) + 8) + qcap V (V.us + (n + 12 - i))) (n := 22 * kcap Q (Q.R + 8 * (n - i) + 8) + 2 * qcap V (V.us + (n + 12 - i))) hfit_QbV.1 hfit_QbV.2 ?_
          refine w_loopH (D := (dC, dI)) (cl := classes) (A := A) (H0 := s.heap) (nL := 5) 180 (σ := TS × Nat × Nat × Int32) (fun ⟨Vc, m9, j2, b2⟩ H => (TX V Vc (nmT_ f n j j2) ∧ (nmT_ f n j j2).map c16 = nmT_ f n j j2) ∧ TOK Vc ∧ GQ (Q.R + 8 * (n - i) + 8) (V.us + (n + 12 - i)) Q V Qb Vc ∧ Vc.us + j = V.us + j2 ∧ j ≤ j2 ∧ j2 ≤ n ∧ n + 1 ≤ m9 + j2 ∧ nmE f n m9 j2 = nmE f n (n + 1) j ∧ szk s.heap H (cQ Q V Qb Vc) (sQ Q V Qb Vc)) (fun ⟨Vc, m9, j2, b2⟩ => n + 1 - j2) (fun ⟨Vc, m9, j2, b2⟩ => [(mo, .inr (13, MF 30 (rf (rs v Qb o) j2 b2))), (qx, .inl (cB, NN, .inl f)), (Qb.qq, .inl (cI, (8 * Qb.C), .inl Qb.qf)), (Qb.qe, .inl (cL, (3 * Qb.C), .inr (.inl Qb.ef))), (tv, .inr (12, MF 13 (tw Vc))), (Vc.au, .inl (cC, Vc.U, .inl Vc.un))]) (fun ⟨Vc, m9, j2, b2⟩ => [(0, .ref mo), (1, .int (nI y)), (2, .int 1), (3, .int (nI Q.R)), (4, .int (nI Qj.R))]) ?_ (V, n + 1, j, b) ⟨⟨by rw [nmT_0]; exact TX.rf hTk_V, by rw [nmT_0]; rfl⟩, hTk_V, hG_QbV, rfl, Nat.le_refl _, hj2, by show n + 1 ≤ n + 1 + j; omega, rfl, hq⟩ hP hD hS (lv_sub hl [1, 2, 3, 4, 0] rfl)
          rintro ⟨Vc, m9, j2, b2⟩ H locs ls hI ih hP hD hS hl
          have hP : va_P (dC, dI) classes [(mo, .inr (13, MF 30 (rf (rs v Qb o) j2 b2))), (qx, .inl (cB, NN, .inl f)), (Qb.qq, .inl (cI, (8 * Qb.C), .inl Qb.qf)), (Qb.qe, .inl (cL, (3 * Qb.C), .inr (.inl Qb.ef))), (tv, .inr (12, MF 13 (tw Vc))), (Vc.au, .inl (cC, Vc.U, .inl Vc.un))] H := hP
          have hD : va_D A [(mo, .inr (13, MF 30 (rf (rs v Qb o) j2 b2))), (qx, .inl (cB, NN, .inl f)), (Qb.qq, .inl (cI, (8 * Qb.C), .inl Qb.qf)), (Qb.qe, .inl (cL, (3 * Qb.C), .inr (.inl Qb.ef))), (tv, .inr (12, MF 13 (tw Vc))), (Vc.au, .inl (cC, Vc.U, .inl Vc.un))] := hD
          have hl : lv_has ls 5 [(0, .ref mo), (1, .int (nI y)), (2, .int 1), (3, .int (nI Q.R)), (4, .int (nI Qj.R))] := hl
          obtain ⟨⟨hXc, hcm⟩, hTk_Vc, hG_QbVc, hI1, hI2, hI3, hI4, hI5, hI6⟩ := hI
          refine w_tight hI6 ?_
          obtain ⟨m0, hm0⟩ : ∃ m0, m9 = m0 + 1 := ⟨m9 - 1, by omega⟩
          have hXcs := hXc.us
          have hqb_QbVc : Qb.R ≤ Qb.C ∧ Qb.C ≤ 100000 := ⟨hQk_Qb.2.2.1, hQk_Qb.2.1⟩
          have hfit_QbVc := hG_QbVc.fits
          refine lv_aload_n hx hb d_Mo_segment_180 rfl (lv_at hl 0 rfl) ?_
          have hPc := hP.sub (ws' := [(mo, .inr (13, MF 30 (rf (rs v Qb o) j2 b2))), (qx, .inl (cB, NN, .inl f))]) [0, 1] rfl
          have hDc := hD.sub (ws' := [(mo, .inr (13, MF 30 (rf (rs v Qb o) j2 b2))), (qx, .inl (cB, NN, .inl f))]) [0, 1] (by decide) rfl
          have hKc := hK.sub (tys' := [(cB, .byte)]) [0] rfl
          have hFc := va_free (wc := [(mo, .inr (13, MF 30 (rf (rs v Qb o) j2 b2))), (qx, .inl (cB, NN, .inl f))]) hD hS hA [0, 1] rfl
          refine va_calli (va_runV (As := []) (rest := []) ⟨hx, hb, hml, hown, hts⟩ (c_Mo_c l dC dI mo H (rf (rs v Qb o) j2 b2) cB qx NN f n j2 (by omega) (by omega) (by omega) ((rf_ne (by decide) (by decide)).trans ((rs_ne (by decide) (by decide) (by decide) (by decide)).trans h6)) rf_7 ((rf_ne (by decide) (by decide)).trans ((rs_ne (by decide) (by decide) (by decide) (by decide)).trans h8))) (cwV 0 hts (gt_V (own := R_Mo) (C := R_Mo) (i := 147) (y := y_Mo_c) i_Mo_c w_1233 w_1235 (gt_sel (y := y_Mo_c) (n := 30) (by decide +kernel)) w_7) rfl rfl rfl (by decide +kernel) ⟨Nat.le_trans (m := 9) (Nat.le_of_ble_eq_true rfl) (Nat.le_add_right 9 F), Nat.le_trans (m := 280) (Nat.le_of_ble_eq_true rfl) (Nat.le_add_right 280 L)⟩) ⟨mp_blind, va_recv hKc hPc (ci := 13) (q0 := 0) rfl rfl, fun U hU hW => ⟨rfl, hU, by rw [hU]; exact hPc, va_K.moved hW.alike hKc, hDc.weaken (fun _ _ _ _ => trivial)⟩⟩ rfl rfl hl.1 rfl (lv_room (Nat.le_of_ble_eq_true rfl)) d_Mo_segment_181 ⟨hfit_QbVc.1, hfit_QbVc.2⟩) hS (fun q _ h => hFc q h) hFc (fun r6 _u t9 H1 locs ht hvm hw hB hz1 hk1 hS => ?_)
          obtain ⟨hP1, hK1, hD1⟩ := hB
          rw [ht] at hP1
          obtain ⟨hP, hD⟩ := va_join (wr := [(Qb.qq, .inl (cI, (8 * Qb.C), .inl Qb.qf)), (Qb.qe, .inl (cL, (3 * Qb.C), .inr (.inl Qb.ef))), (tv, .inr (12, MF 13 (tw Vc))), (Vc.au, .inl (cC, Vc.U, .inl Vc.un))]) (w1 := [(mo, .inr (13, MF 30 (rf (rs v Qb o) j2 b2))), (qx, .inl (cB, NN, .inl f))]) hP hD [0, 1] [2, 3, 4, 5] rfl rfl (by decide) (by decide) hk1 hFc hP1 hD1
          generalize H1 = H at hP hS ⊢
          have hP : va_P (dC, dI) classes [(Qb.qq, .inl (cI, (8 * Qb.C), .inl Qb.qf)), (Qb.qe, .inl (cL, (3 * Qb.C), .inr (.inl Qb.ef))), (tv, .inr (12, MF 13 (tw Vc))), (Vc.au, .inl (cC, Vc.U, .inl Vc.un)), (mo, .inr (13, MF 30 (rf (rs v Qb o) j2 b2))), (qx, .inl (cB, NN, .inl f))] H := hP
          have hD : va_D A [(Qb.qq, .inl (cI, (8 * Qb.C), .inl Qb.qf)), (Qb.qe, .inl (cL, (3 * Qb.C), .inr (.inl Qb.ef))), (tv, .inr (12, MF 13 (tw Vc))), (Vc.au, .inl (cC, Vc.U, .inl Vc.un)), (mo, .inr (13, MF 30 (rf (rs v Qb o) j2 b2))), (qx, .inl (cB, NN, .inl f))] := hD
          have hP := hP.sub (ws' := [(mo, .inr (13, MF 30 (rf (rs v Qb o) j2 b2))), (qx, .inl (cB, NN, .inl f)), (Qb.qq, .inl (cI, (8 * Qb.C), .inl Qb.qf)), (Qb.qe, .inl (cL, (3 * Qb.C), .inr (.inl Qb.ef))), (tv, .inr (12, MF 13 (tw Vc))), (Vc.au, .inl (cC, Vc.U, .inl Vc.un))]) [4, 5, 0, 1, 2, 3] rfl
          have hD := hD.sub (ws' := [(mo, .inr (13, MF 30 (rf (rs v Qb o) j2 b2))), (qx, .inl (cB, NN, .inl f)), (Qb.qq, .inl (cI, (8 * Qb.C), .inl Qb.qf)), (Qb.qe, .inl (cL, (3 * Qb.C), .inr (.inl Qb.ef))), (tv, .inr (12, MF 13 (tw Vc))), (Vc.au, .inl (cC, Vc.U, .inl Vc.un))]) [4, 5, 0, 1, 2, 3] (by decide) rfl
          have h_r6 : r6 = hereV f n j2 := hw
          have hPc := hP.sub (ws' := []) [] rfl
          have hDc := hD.sub (ws' := []) [] (by decide) rfl
          have hKc := hK.sub (tys' := []) [] rfl
          have hFc := va_free (wc := []) hD hS hA [] rfl
          refine va_calli (va_runS (As := [.int r6]) (rest := []) ⟨hx, hb, hml, hown, hts⟩ (c_Mo_letter l dC dI H r6) (va_cwS 1 hts (gt_S (own := R_Mo) (i := 283) (y := y_Mo_letter) i_Mo_letter w_1478 w_1479 w_7) rfl rfl rfl (by decide +kernel) ⟨Nat.le_trans (m := 9) (Nat.le_of_ble_eq_true rfl) (Nat.le_add_right 9 F), Nat.le_trans (m := 280) (Nat.le_of_ble_eq_true rfl) (Nat.le_add_right 280 L)⟩) ⟨mp_blind, fun U hU hW => ⟨rfl, hU, by rw [hU]; exact hPc, va_K.moved hW.alike hKc, hDc.weaken (fun _ _ _ _ => trivial)⟩⟩ rfl rfl hl.1 rfl (lv_room (Nat.le_of_ble_eq_true rfl)) d_Mo_segment_184 ⟨hfit_QbVc.1, hfit_QbVc.2⟩) hS (fun q _ h => hFc q h) hFc (fun t6 _u t9 H1 locs ht hvm hw hB hz1 hk1 hS => ?_)
          obtain ⟨hP1, hK1, hD1⟩ := hB
          rw [ht] at hP1
          obtain ⟨hP, hD⟩ := va_join (wr := [(mo, .inr (13, MF 30 (rf (rs v Qb o) j2 b2))), (qx, .inl (cB, NN, .inl f)), (Qb.qq, .inl (cI, (8 * Qb.C), .inl Qb.qf)), (Qb.qe, .inl (cL, (3 * Qb.C), .inr (.inl Qb.ef))), (tv, .inr (12, MF 13 (tw Vc))), (Vc.au, .inl (cC, Vc.U, .inl Vc.un))]) (w1 := []) hP hD [] [0, 1, 2, 3, 4, 5] rfl rfl (by decide) (by decide) hk1 hFc hP1 hD1
          generalize H1 = H at hP hS ⊢
          have hP : va_P (dC, dI) classes [(mo, .inr (13, MF 30 (rf (rs v Qb o) j2 b2))), (qx, .inl (cB, NN, .inl f)), (Qb.qq, .inl (cI, (8 * Qb.C), .inl Qb.qf)), (Qb.qe, .inl (cL, (3 * Qb.C), .inr (.inl Qb.ef))), (tv, .inr (12, MF 13 (tw Vc))), (Vc.au, .inl (cC, Vc.U, .inl Vc.un))] H := hP
          have hD : va_D A [(mo, .inr (13, MF 30 (rf (rs v Qb o) j2 b2))), (qx, .inl (cB, NN, .inl f)), (Qb.qq, .inl (cI, (8 * Qb.C), .inl Qb.qf)), (Qb.qe, .inl (cL, (3 * Qb.C), .inr (.inl Qb.ef))), (tv, .inr (12, MF 13 (tw Vc))), (Vc.au, .inl (cC, Vc.U, .inl Vc.un))] := hD
          have h_t6 := lt_01 hw
          refine lv_if_ne (tgt := 200) hx hb d_Mo_segment_187 (by decide) (fun c187 => ?_) (fun c187 => ?_)
          · have hgo : letH (hereV f n j2) ∨ digH (hereV f n j2) := Or.inl (by rw [← h_r6]; exact h_t6.1 c187)
            have hltg : j2 < n := hgo.elim letH_lt digH_lt
            refine lv_aload_n hx hb d_Mo_segment_200 rfl (lv_at hl 0 rfl) ?_
            refine va_get (D := (dC, dI)) (ci := 13) (v := .ref tv) (C := R_Mo) (T := F_Mo) (N := 30) hx hb hts in_Mo hown hK hP 0 rfl rfl 22 (by decide) (hts _ w_1111) (fun _ h9 => h9) (MFg (by decide) ((rf_ne (by decide) (by decide)).trans ((rs_ne (by decide) (by decide) (by decide) (by decide)).trans h22))) d_Mo_segment_201 ?_
            refine lv_aload_n hx hb d_Mo_segment_204 rfl (lv_at hl 0 rfl) ?_
            have hPc := hP.sub (ws' := [(mo, .inr (13, MF 30 (rf (rs v Qb o) j2 b2))), (qx, .inl (cB, NN, .inl f))]) [0, 1] rfl
            have hDc := hD.sub (ws' := [(mo, .inr (13, MF 30 (rf (rs v Qb o) j2 b2))), (qx, .inl (cB, NN, .inl f))]) [0, 1] (by decide) rfl
            have hKc := hK.sub (tys' := [(cB, .byte)]) [0] rfl
            have hFc := va_free (wc := [(mo, .inr (13, MF 30 (rf (rs v Qb o) j2 b2))), (qx, .inl (cB, NN, .inl f))]) hD hS hA [0, 1] rfl
            refine va_calli (va_runV (As := []) (rest := [.ref tv]) ⟨hx, hb, hml, hown, hts⟩ (c_Mo_c l dC dI mo H (rf (rs v Qb o) j2 b2) cB qx NN f n j2 (by omega) (by omega) (by omega) ((rf_ne (by decide) (by decide)).trans ((rs_ne (by decide) (by decide) (by decide) (by decide)).trans h6)) rf_7 ((rf_ne (by decide) (by decide)).trans ((rs_ne (by decide) (by decide) (by decide) (by decide)).trans h8))) (cwV 0 hts (gt_V (own := R_Mo) (C := R_Mo) (i := 147) (y := y_Mo_c) i_Mo_c w_1233 w_1235 (gt_sel (y := y_Mo_c) (n := 30) (by decide +kernel)) w_7) rfl rfl rfl (by decide +kernel) ⟨Nat.le_trans (m := 9) (Nat.le_of_ble_eq_true rfl) (Nat.le_add_right 9 F), Nat.le_trans (m := 280) (Nat.le_of_ble_eq_true rfl) (Nat.le_add_right 280 L)⟩) ⟨mp_blind, va_recv hKc hPc (ci := 13) (q0 := 0) rfl rfl, fun U hU hW => ⟨rfl, hU, by rw [hU]; exact hPc, va_K.moved hW.alike hKc, hDc.weaken (fun _ _ _ _ => trivial)⟩⟩ rfl rfl hl.1 rfl (lv_room (Nat.le_of_ble_eq_true rfl)) d_Mo_segment_205 ⟨hfit_QbVc.1, hfit_QbVc.2⟩) hS (fun q _ h => hFc q h) hFc (fun r8 _u t9 H1 locs ht hvm hw hB hz1 hk1 hS => ?_)
            obtain ⟨hP1, hK1, hD1⟩ := hB
            rw [ht] at hP1
            obtain ⟨hP, hD⟩ := va_join (wr := [(Qb.qq, .inl (cI, (8 * Qb.C), .inl Qb.qf)), (Qb.qe, .inl (cL, (3 * Qb.C), .inr (.inl Qb.ef))), (tv, .inr (12, MF 13 (tw Vc))), (Vc.au, .inl (cC, Vc.U, .inl Vc.un))]) (w1 := [(mo, .inr (13, MF 30 (rf (rs v Qb o) j2 b2))), (qx, .inl (cB, NN, .inl f))]) hP hD [0, 1] [2, 3, 4, 5] rfl rfl (by decide) (by decide) hk1 hFc hP1 hD1
            generalize H1 = H at hP hS ⊢
            have hP : va_P (dC, dI) classes [(Qb.qq, .inl (cI, (8 * Qb.C), .inl Qb.qf)), (Qb.qe, .inl (cL, (3 * Qb.C), .inr (.inl Qb.ef))), (tv, .inr (12, MF 13 (tw Vc))), (Vc.au, .inl (cC, Vc.U, .inl Vc.un)), (mo, .inr (13, MF 30 (rf (rs v Qb o) j2 b2))), (qx, .inl (cB, NN, .inl f))] H := hP
            have hD : va_D A [(Qb.qq, .inl (cI, (8 * Qb.C), .inl Qb.qf)), (Qb.qe, .inl (cL, (3 * Qb.C), .inr (.inl Qb.ef))), (tv, .inr (12, MF 13 (tw Vc))), (Vc.au, .inl (cC, Vc.U, .inl Vc.un)), (mo, .inr (13, MF 30 (rf (rs v Qb o) j2 b2))), (qx, .inl (cB, NN, .inl f))] := hD
            have hP := hP.sub (ws' := [(mo, .inr (13, MF 30 (rf (rs v Qb o) j2 b2))), (qx, .inl (cB, NN, .inl f)), (Qb.qq, .inl (cI, (8 * Qb.C), .inl Qb.qf)), (Qb.qe, .inl (cL, (3 * Qb.C), .inr (.inl Qb.ef))), (tv, .inr (12, MF 13 (tw Vc))), (Vc.au, .inl (cC, Vc.U, .inl Vc.un))]) [4, 5, 0, 1, 2, 3] rfl
            have hD := hD.sub (ws' := [(mo, .inr (13, MF 30 (rf (rs v Qb o) j2 b2))), (qx, .inl (cB, NN, .inl f)), (Qb.qq, .inl (cI, (8 * Qb.C), .inl Qb.qf)), (Qb.qe, .inl (cL, (3 * Qb.C), .inr (.inl Qb.ef))), (tv, .inr (12, MF 13 (tw Vc))), (Vc.au, .inl (cC, Vc.U, .inl Vc.un))]) [4, 5, 0, 1, 2, 3] (by decide) rfl
            have h_r8 : r8 = hereV f n j2 := hw
            have hPc := hP.sub (ws' := [(tv, .inr (12, MF 13 (tw Vc))), (Vc.au, .inl (cC, Vc.U, .inl Vc.un))]) [4, 5] rfl
            have hDc := hD.sub (ws' := [(tv, .inr (12, MF 13 (tw Vc))), (Vc.au, .inl (cC, Vc.U, .inl Vc.un))]) [4, 5] (by decide) rfl
            have hKc := hK.sub (tys' := [(cC, .char)]) [3] rfl
            have hFc := va_free (wc := [(tv, .inr (12, MF 13 (tw Vc))), (Vc.au, .inl (cC, Vc.U, .inl Vc.un))]) hD hS hA [4, 5] rfl
            refine w_same (fun hq0 => ?_)
            refine va_callv (va_runV (As := [.int r8]) (rest := []) ⟨hx, hb, hml, hown, hts⟩ (c_Tree_unitT l dC dI tv H cC Vc r8 hTk_Vc) (cwV 1 hts (gt_V (own := R_Mo) (C := R_Tree) (i := 177) (y := y_Tree_unit) i_Tree_unit w_1265 w_1266 w_1267 w_8) rfl rfl rfl (by decide +kernel) ⟨Nat.le_trans (m := 9) (Nat.le_of_ble_eq_true rfl) (Nat.le_add_right 9 F), Nat.le_trans (m := 280) (Nat.le_of_ble_eq_true rfl) (Nat.le_add_right 280 L)⟩) ⟨mp_blind, va_recv hKc hPc (ci := 12) (q0 := 0) rfl rfl, fun U hU hW => ⟨rfl, hU, by rw [hU]; exact hPc, va_K.moved hW.alike hKc, hDc.weaken (fun _ _ _ _ => trivial)⟩⟩ rfl rfl hl.1 rfl (lv_room (Nat.le_of_ble_eq_true rfl)) d_Mo_segment_208 ⟨(uq_fit hG_QbVc (by omega)).1, (uq_fit hG_QbVc (by omega)).2⟩) hS (fun q _ h => hFc q h) hFc (fun Vn t9 H1 locs ht hvm hw hB hz1 hk1 hS => ?_)
            obtain ⟨⟨hP1, hK1, hD1⟩, hz9⟩ := hB
            rw [ht] at hP1
            rw [ht] at hz9
            have hX_Vn : TX Vc Vn [r8] := hw
            have hXs_Vn := hX_Vn.us
            rw [List.length_singleton] at hXs_Vn
            obtain ⟨hG_QbVn, hGc, hGs⟩ := hG_QbVc.tr (hX_Vn.gq Qb).1 (Nat.zero_le _) (show Vc.us + 1 ≤ V.us + (n + 12 - i) by omega)
            rw [← (hX_Vn.gq Qb).2.1] at hGc
            rw [← (hX_Vn.gq Qb).2.2] at hGs
            have hq1 : szk s.heap H1 (cQ Q V Qb Vn) (sQ Q V Qb Vn) := (hq0.trans hz9).mono hGc hGs
            refine w_tight hq1 ?_
            obtain ⟨hP, hD⟩ := va_join (wr := [(mo, .inr (13, MF 30 (rf (rs v Qb o) j2 b2))), (qx, .inl (cB, NN, .inl f)), (Qb.qq, .inl (cI, (8 * Qb.C), .inl Qb.qf)), (Qb.qe, .inl (cL, (3 * Qb.C), .inr (.inl Qb.ef)))]) (w1 := [(tv, .inr (12, MF 13 (tw Vn))), (Vn.au, .inl (cC, Vn.U, .inl Vn.un))]) hP hD [4, 5] [0, 1, 2, 3] rfl rfl (by decide) (by decide) hk1 hFc hP1 hD1
            generalize H1 = H at hP hS ⊢
            have hP : va_P (dC, dI) classes [(mo, .inr (13, MF 30 (rf (rs v Qb o) j2 b2))), (qx, .inl (cB, NN, .inl f)), (Qb.qq, .inl (cI, (8 * Qb.C), .inl Qb.qf)), (Qb.qe, .inl (cL, (3 * Qb.C), .inr (.inl Qb.ef))), (tv, .inr (12, MF 13 (tw Vn))), (Vn.au, .inl (cC, Vn.U, .inl Vn.un))] H := hP
            have hD : va_D A [(mo, .inr (13, MF 30 (rf (rs v Qb o) j2 b2))), (qx, .inl (cB, NN, .inl f)), (Qb.qq, .inl (cI, (8 * Qb.C), .inl Qb.qf)), (Qb.qe, .inl (cL, (3 * Qb.C), .inr (.inl Qb.ef))), (tv, .inr (12, MF 13 (tw Vn))), (Vn.au, .inl (cC, Vn.U, .inl Vn.un))] := hD
            have hP := hP.sub (ws' := [(mo, .inr (13, MF 30 (rf (rs v Qb o) j2 b2))), (qx, .inl (cB, NN, .inl f)), (Qb.qq, .inl (cI, (8 * Qb.C), .inl Qb.qf)), (Qb.qe, .inl (cL, (3 * Qb.C), .inr (.inl Qb.ef))), (tv, .inr (12, MF 13 (tw Vn))), (Vn.au, .inl (cC, Vn.U, .inl Vn.un))]) [0, 1, 2, 3, 4, 5] rfl
            have hD := hD.sub (ws' := [(mo, .inr (13, MF 30 (rf (rs v Qb o) j2 b2))), (qx, .inl (cB, NN, .inl f)), (Qb.qq, .inl (cI, (8 * Qb.C), .inl Qb.qf)), (Qb.qe, .inl (cL, (3 * Qb.C), .inr (.inl Qb.ef))), (tv, .inr (12, MF 13 (tw Vn))), (Vn.au, .inl (cC, Vn.U, .inl Vn.un))]) [0, 1, 2, 3, 4, 5] (by decide) rfl
            have hTk_Vn := hX_Vn.ok hTk_Vc (by rw [List.length_singleton]; omega)
            have hqb_QbVn : Qb.R ≤ Qb.C ∧ Qb.C ≤ 100000 := ⟨hQk_Qb.2.2.1, hQk_Qb.2.1⟩
            have hfit_QbVn := hG_QbVn.fits
            refine lv_aload_n hx hb d_Mo_segment_211 rfl (lv_at hl 0 rfl) ?_
            refine lv_dup hx hb d_Mo_segment_212 rfl ?_
            refine va_get (D := (dC, dI)) (ci := 13) (v := .int (nI j2)) (C := R_Mo) (T := F_Mo) (N := 30) hx hb hts in_Mo hown hK hP 0 rfl rfl 7 (by decide) (hts _ w_1096) (fun _ h9 => h9) (MFg (by decide) rf_7) d_Mo_segment_213 ?_
            refine lv_iconst (v := 1) hx hb d_Mo_segment_216 (by decide) ?_
            refine lv_iadd hx hb d_Mo_segment_217 ?_
            refine W.eq (g2 := F0 m 218 ls [.int (nI (j2 + 1)), .ref mo]) (by rw [show ((nI j2) + 1) = (nI (j2 + 1)) from nI_1 _]) ?_
            refine va_put (D := (dC, dI)) (ci := 13) (v := .int (nI (j2 + 1))) (ty := .int) (C := R_Mo) (T := F_Mo) (N := 30) hx hb hts in_Mo t_Mo t_Mo_ok n_Mo hown hK hP hD hS 0 rfl rfl 7 (by decide) (hts _ w_1096) (fun _ h9 => h9) rfl (by decide +kernel) rfl rfl (by rw [MFl]; decide) d_Mo_segment_218 (fun H locs hP hD hS => ?_)
            rw [MFs (n := 30) (k := 7) (by decide)] at hP hD
            have hP : va_P (dC, dI) classes [(mo, .inr (13, MF 30 (va_up (rf (rs v Qb o) j2 b2) 7 (.int (nI (j2 + 1)))))), (qx, .inl (cB, NN, .inl f)), (Qb.qq, .inl (cI, (8 * Qb.C), .inl Qb.qf)), (Qb.qe, .inl (cL, (3 * Qb.C), .inr (.inl Qb.ef))), (tv, .inr (12, MF 13 (tw Vn))), (Vn.au, .inl (cC, Vn.U, .inl Vn.un))] H := hP
            have hD : va_D A [(mo, .inr (13, MF 30 (va_up (rf (rs v Qb o) j2 b2) 7 (.int (nI (j2 + 1)))))), (qx, .inl (cB, NN, .inl f)), (Qb.qq, .inl (cI, (8 * Qb.C), .inl Qb.qf)), (Qb.qe, .inl (cL, (3 * Qb.C), .inr (.inl Qb.ef))), (tv, .inr (12, MF 13 (tw Vn))), (Vn.au, .inl (cC, Vn.U, .inl Vn.un))] := hD
            rw [rf_u7] at hP hD
            have hP : va_P (dC, dI) classes [(mo, .inr (13, MF 30 (rf (rs v Qb o) (j2 + 1) b2))), (qx, .inl (cB, NN, .inl f)), (Qb.qq, .inl (cI, (8 * Qb.C), .inl Qb.qf)), (Qb.qe, .inl (cL, (3 * Qb.C), .inr (.inl Qb.ef))), (tv, .inr (12, MF 13 (tw Vn))), (Vn.au, .inl (cC, Vn.U, .inl Vn.un))] H := hP
            have hD : va_D A [(mo, .inr (13, MF 30 (rf (rs v Qb o) (j2 + 1) b2))), (qx, .inl (cB, NN, .inl f)), (Qb.qq, .inl (cI, (8 * Qb.C), .inl Qb.qf)), (Qb.qe, .inl (cL, (3 * Qb.C), .inr (.inl Qb.ef))), (tv, .inr (12, MF 13 (tw Vn))), (Vn.au, .inl (cC, Vn.U, .inl Vn.un))] := hD
            refine lv_goto (tgt := 180) hx hb d_Mo_segment_221 (by decide) ?_
            refine w_same (fun hq => ?_)
            refine W.widen (k := kcap Q (Q.R + 8 * (n - i) + 8) + qcap V (V.us + (n + 12 - i))) (n := 22 * kcap Q (Q.R + 8 * (n - i) + 8) + 2 * qcap V (V.us + (n + 12 - i))) hfit_QbVn.1 hfit_QbVn.2 ?_
            have hst : nmE f n m0 (j2 + 1) = nmE f n (n + 1) j := by rw [← hI5, hm0]; exact (nmE_s hgo).symm
            have hX2 : TX V Vn (nmT_ f n j (j2 + 1)) := by rw [nmT_s hI2, ← h_r8]; exact hXc.trans hX_Vn
            have hcm2 : (nmT_ f n j (j2 + 1)).map c16 = nmT_ f n j (j2 + 1) := by rw [nmT_s hI2, List.map_append, hcm, List.map_singleton, c16_id (letdig_b hgo).1 (Int32.le_trans (letdig_b hgo).2 (by decide))]
            exact ih (Vn, m0, j2 + 1, b2) _ _ _ ⟨⟨hX2, hcm2⟩, hTk_Vn, hG_QbVn, by show Vn.us + j = V.us + (j2 + 1); omega, by omega, by omega, by omega, hst, hq⟩ (by show n + 1 - (j2 + 1) < n + 1 - j2; omega) hP hD hS (lv_sub hl [0, 1, 2, 3, 4] rfl)
          · refine lv_aload_n hx hb d_Mo_segment_190 rfl (lv_at hl 0 rfl) ?_
            have hPc := hP.sub (ws' := [(mo, .inr (13, MF 30 (rf (rs v Qb o) j2 b2))), (qx, .inl (cB, NN, .inl f))]) [0, 1] rfl
            have hDc := hD.sub (ws' := [(mo, .inr (13, MF 30 (rf (rs v Qb o) j2 b2))), (qx, .inl (cB, NN, .inl f))]) [0, 1] (by decide) rfl
            have hKc := hK.sub (tys' := [(cB, .byte)]) [0] rfl
            have hFc := va_free (wc := [(mo, .inr (13, MF 30 (rf (rs v Qb o) j2 b2))), (qx, .inl (cB, NN, .inl f))]) hD hS hA [0, 1] rfl
            refine va_calli (va_runV (As := []) (rest := []) ⟨hx, hb, hml, hown, hts⟩ (c_Mo_c l dC dI mo H (rf (rs v Qb o) j2 b2) cB qx NN f n j2 (by omega) (by omega) (by omega) ((rf_ne (by decide) (by decide)).trans ((rs_ne (by decide) (by decide) (by decide) (by decide)).trans h6)) rf_7 ((rf_ne (by decide) (by decide)).trans ((rs_ne (by decide) (by decide) (by decide) (by decide)).trans h8))) (cwV 0 hts (gt_V (own := R_Mo) (C := R_Mo) (i := 147) (y := y_Mo_c) i_Mo_c w_1233 w_1235 (gt_sel (y := y_Mo_c) (n := 30) (by decide +kernel)) w_7) rfl rfl rfl (by decide +kernel) ⟨Nat.le_trans (m := 9) (Nat.le_of_ble_eq_true rfl) (Nat.le_add_right 9 F), Nat.le_trans (m := 280) (Nat.le_of_ble_eq_true rfl) (Nat.le_add_right 280 L)⟩) ⟨mp_blind, va_recv hKc hPc (ci := 13) (q0 := 0) rfl rfl, fun U hU hW => ⟨rfl, hU, by rw [hU]; exact hPc, va_K.moved hW.alike hKc, hDc.weaken (fun _ _ _ _ => trivial)⟩⟩ rfl rfl hl.1 rfl (lv_room (Nat.le_of_ble_eq_true rfl)) d_Mo_segment_191 ⟨hfit_QbVc.1, hfit_QbVc.2⟩) hS (fun q _ h => hFc q h) hFc (fun r7 _u t9 H1 locs ht hvm hw hB hz1 hk1 hS => ?_)
            obtain ⟨hP1, hK1, hD1⟩ := hB
            rw [ht] at hP1
            obtain ⟨hP, hD⟩ := va_join (wr := [(Qb.qq, .inl (cI, (8 * Qb.C), .inl Qb.qf)), (Qb.qe, .inl (cL, (3 * Qb.C), .inr (.inl Qb.ef))), (tv, .inr (12, MF 13 (tw Vc))), (Vc.au, .inl (cC, Vc.U, .inl Vc.un))]) (w1 := [(mo, .inr (13, MF 30 (rf (rs v Qb o) j2 b2))), (qx, .inl (cB, NN, .inl f))]) hP hD [0, 1] [2, 3, 4, 5] rfl rfl (by decide) (by decide) hk1 hFc hP1 hD1
            generalize H1 = H at hP hS ⊢
            have hP : va_P (dC, dI) classes [(Qb.qq, .inl (cI, (8 * Qb.C), .inl Qb.qf)), (Qb.qe, .inl (cL, (3 * Qb.C), .inr (.inl Qb.ef))), (tv, .inr (12, MF 13 (tw Vc))), (Vc.au, .inl (cC, Vc.U, .inl Vc.un)), (mo, .inr (13, MF 30 (rf (rs v Qb o) j2 b2))), (qx, .inl (cB, NN, .inl f))] H := hP
            have hD : va_D A [(Qb.qq, .inl (cI, (8 * Qb.C), .inl Qb.qf)), (Qb.qe, .inl (cL, (3 * Qb.C), .inr (.inl Qb.ef))), (tv, .inr (12, MF 13 (tw Vc))), (Vc.au, .inl (cC, Vc.U, .inl Vc.un)), (mo, .inr (13, MF 30 (rf (rs v Qb o) j2 b2))), (qx, .inl (cB, NN, .inl f))] := hD
            have hP := hP.sub (ws' := [(mo, .inr (13, MF 30 (rf (rs v Qb o) j2 b2))), (qx, .inl (cB, NN, .inl f)), (Qb.qq, .inl (cI, (8 * Qb.C), .inl Qb.qf)), (Qb.qe, .inl (cL, (3 * Qb.C), .inr (.inl Qb.ef))), (tv, .inr (12, MF 13 (tw Vc))), (Vc.au, .inl (cC, Vc.U, .inl Vc.un))]) [4, 5, 0, 1, 2, 3] rfl
            have hD := hD.sub (ws' := [(mo, .inr (13, MF 30 (rf (rs v Qb o) j2 b2))), (qx, .inl (cB, NN, .inl f)), (Qb.qq, .inl (cI, (8 * Qb.C), .inl Qb.qf)), (Qb.qe, .inl (cL, (3 * Qb.C), .inr (.inl Qb.ef))), (tv, .inr (12, MF 13 (tw Vc))), (Vc.au, .inl (cC, Vc.U, .inl Vc.un))]) [4, 5, 0, 1, 2, 3] (by decide) rfl
            have h_r7 : r7 = hereV f n j2 := hw
            have hPc := hP.sub (ws' := []) [] rfl
            have hDc := hD.sub (ws' := []) [] (by decide) rfl
            have hKc := hK.sub (tys' := []) [] rfl
            have hFc := va_free (wc := []) hD hS hA [] rfl
            refine va_calli (va_runS (As := [.int r7]) (rest := []) ⟨hx, hb, hml, hown, hts⟩ (c_Mo_digit l dC dI H r7) (va_cwS 1 hts (gt_S (own := R_Mo) (i := 166) (y := y_Mo_digit) i_Mo_digit w_1332 w_1333 w_7) rfl rfl rfl (by decide +kernel) ⟨Nat.le_trans (m := 9) (Nat.le_of_ble_eq_true rfl) (Nat.le_add_right 9 F), Nat.le_trans (m := 280) (Nat.le_of_ble_eq_true rfl) (Nat.le_add_right 280 L)⟩) ⟨mp_blind, fun U hU hW => ⟨rfl, hU, by rw [hU]; exact hPc, va_K.moved hW.alike hKc, hDc.weaken (fun _ _ _ _ => trivial)⟩⟩ rfl rfl hl.1 rfl (lv_room (Nat.le_of_ble_eq_true rfl)) d_Mo_segment_194 ⟨hfit_QbVc.1, hfit_QbVc.2⟩) hS (fun q _ h => hFc q h) hFc (fun d7 _u t9 H1 locs ht hvm hw hB hz1 hk1 hS => ?_)
            obtain ⟨hP1, hK1, hD1⟩ := hB
            rw [ht] at hP1
            obtain ⟨hP, hD⟩ := va_join (wr := [(mo, .inr (13, MF 30 (rf (rs v Qb o) j2 b2))), (qx, .inl (cB, NN, .inl f)), (Qb.qq, .inl (cI, (8 * Qb.C), .inl Qb.qf)), (Qb.qe, .inl (cL, (3 * Qb.C), .inr (.inl Qb.ef))), (tv, .inr (12, MF 13 (tw Vc))), (Vc.au, .inl (cC, Vc.U, .inl Vc.un))]) (w1 := []) hP hD [] [0, 1, 2, 3, 4, 5] rfl rfl (by decide) (by decide) hk1 hFc hP1 hD1
            generalize H1 = H at hP hS ⊢
            have hP : va_P (dC, dI) classes [(mo, .inr (13, MF 30 (rf (rs v Qb o) j2 b2))), (qx, .inl (cB, NN, .inl f)), (Qb.qq, .inl (cI, (8 * Qb.C), .inl Qb.qf)), (Qb.qe, .inl (cL, (3 * Qb.C), .inr (.inl Qb.ef))), (tv, .inr (12, MF 13 (tw Vc))), (Vc.au, .inl (cC, Vc.U, .inl Vc.un))] H := hP
            have hD : va_D A [(mo, .inr (13, MF 30 (rf (rs v Qb o) j2 b2))), (qx, .inl (cB, NN, .inl f)), (Qb.qq, .inl (cI, (8 * Qb.C), .inl Qb.qf)), (Qb.qe, .inl (cL, (3 * Qb.C), .inr (.inl Qb.ef))), (tv, .inr (12, MF 13 (tw Vc))), (Vc.au, .inl (cC, Vc.U, .inl Vc.un))] := hD
            have h_d7 := dg_01 hw
            refine lv_if_eq (tgt := 224) hx hb d_Mo_segment_197 (by decide) (fun c197 => ?_) (fun c197 => ?_)
            · have hng : ¬ (letH (hereV f n j2) ∨ digH (hereV f n j2)) := fun h => h.elim (by rw [← h_r6]; exact h_t6.2 c187) (by rw [← h_r7]; exact h_d7.2 c197)
              have hne : ¬ j2 = j := fun h => hng (by rw [h]; exact Or.inl hlet)
              have hnm : nmE f n (n + 1) j = j2 := by rw [← hI5, hm0]; exact nmE_e hng
              obtain ⟨ln, hln⟩ : ∃ ln, Vc.us = V.us + ln := ⟨Vc.us - V.us, by omega⟩
              refine lv_aload_n hx hb d_Mo_segment_224 rfl (lv_at hl 0 rfl) ?_
              refine lv_iload hx hb d_Mo_segment_225 (lv_at hl 4 rfl) ?_
              refine lv_iconst (v := 3) hx hb d_Mo_segment_227 (by decide) ?_
              refine lv_aload_n hx hb d_Mo_segment_228 rfl (lv_at hl 0 rfl) ?_
              refine va_get (D := (dC, dI)) (ci := 13) (v := .ref tv) (C := R_Mo) (T := F_Mo) (N := 30) hx hb hts in_Mo hown hK hP 0 rfl rfl 22 (by decide) (hts _ w_1111) (fun _ h9 => h9) (MFg (by decide) ((rf_ne (by decide) (by decide)).trans ((rs_ne (by decide) (by decide) (by decide) (by decide)).trans h22))) d_Mo_segment_229 ?_
              refine va_get (D := (dC, dI)) (ci := 12) (v := .int (nI Vc.us)) (C := R_Tree) (T := F_Tree) (N := 13) hx hb hts in_Tree hown hK hP 4 rfl rfl 12 (by decide) (hts _ w_1058) (fun _ h9 => h9) (MFg (by decide) rfl) d_Mo_segment_232 ?_
              refine lv_aload_n hx hb d_Mo_segment_235 rfl (lv_at hl 0 rfl) ?_
              refine lv_iload hx hb d_Mo_segment_236 (lv_at hl 4 rfl) ?_
              refine lv_iconst (v := 2) hx hb d_Mo_segment_238 (by decide) ?_
              refine W.eq (g2 := F0 m 239 ls [.int (nI 2), .int (nI Qj.R), .ref mo, .int (nI Vc.us), .int 3, .int (nI Qj.R), .ref mo]) rfl ?_
              have hPc := hP.sub (ws' := [(mo, .inr (13, MF 30 (rf (rs v Qb o) j2 b2))), (Qb.qq, .inl (cI, (8 * Qb.C), .inl Qb.qf))]) [0, 2] rfl
              have hDc := hD.sub (ws' := [(mo, .inr (13, MF 30 (rf (rs v Qb o) j2 b2))), (Qb.qq, .inl (cI, (8 * Qb.C), .inl Qb.qf))]) [0, 2] (by decide) rfl
              have hKc := hK.sub (tys' := [(cI, .int)]) [1] rfl
              have hFc := va_free (wc := [(mo, .inr (13, MF 30 (rf (rs v Qb o) j2 b2))), (Qb.qq, .inl (cI, (8 * Qb.C), .inl Qb.qf))]) hD hS hA [0, 2] rfl
              refine va_calli (va_runV (As := [.int (nI Qj.R), .int (nI 2)]) (rest := [.int (nI Vc.us), .int 3, .int (nI Qj.R), .ref mo]) ⟨hx, hb, hml, hown, hts⟩ (c_Mo_field l dC dI mo H (rf (rs v Qb o) j2 b2) cI Qb.qq (8 * Qb.C) Qb.qf Qj.R 2 (by omega) (by omega) ((rf_ne (by decide) (by decide)).trans rs_19)) (cwV 2 hts (gt_V (own := R_Mo) (C := R_Mo) (i := 286) (y := y_Mo_field) i_Mo_field w_1431 w_1433 (gt_sel (y := y_Mo_field) (n := 30) (by decide +kernel)) w_7) rfl rfl rfl (by decide +kernel) ⟨Nat.le_trans (m := 9) (Nat.le_of_ble_eq_true rfl) (Nat.le_add_right 9 F), Nat.le_trans (m := 280) (Nat.le_of_ble_eq_true rfl) (Nat.le_add_right 280 L)⟩) ⟨mp_blind, va_recv hKc hPc (ci := 13) (q0 := 0) rfl rfl, fun U hU hW => ⟨rfl, hU, by rw [hU]; exact hPc, va_K.moved hW.alike hKc, hDc.weaken (fun _ _ _ _ => trivial)⟩⟩ rfl rfl hl.1 rfl (lv_room (Nat.le_of_ble_eq_true rfl)) d_Mo_segment_239 ⟨hfit_QbVc.1, hfit_QbVc.2⟩) hS (fun q _ h => hFc q h) hFc (fun r9 _u t9 H1 locs ht hvm hw hB hz1 hk1 hS => ?_)
              obtain ⟨hP1, hK1, hD1⟩ := hB
              rw [ht] at hP1
              obtain ⟨hP, hD⟩ := va_join (wr := [(qx, .inl (cB, NN, .inl f)), (Qb.qe, .inl (cL, (3 * Qb.C), .inr (.inl Qb.ef))), (tv, .inr (12, MF 13 (tw Vc))), (Vc.au, .inl (cC, Vc.U, .inl Vc.un))]) (w1 := [(mo, .inr (13, MF 30 (rf (rs v Qb o) j2 b2))), (Qb.qq, .inl (cI, (8 * Qb.C), .inl Qb.qf))]) hP hD [0, 2] [1, 3, 4, 5] rfl rfl (by decide) (by decide) hk1 hFc hP1 hD1
              generalize H1 = H at hP hS ⊢
              have hP : va_P (dC, dI) classes [(qx, .inl (cB, NN, .inl f)), (Qb.qe, .inl (cL, (3 * Qb.C), .inr (.inl Qb.ef))), (tv, .inr (12, MF 13 (tw Vc))), (Vc.au, .inl (cC, Vc.U, .inl Vc.un)), (mo, .inr (13, MF 30 (rf (rs v Qb o) j2 b2))), (Qb.qq, .inl (cI, (8 * Qb.C), .inl Qb.qf))] H := hP
              have hD : va_D A [(qx, .inl (cB, NN, .inl f)), (Qb.qe, .inl (cL, (3 * Qb.C), .inr (.inl Qb.ef))), (tv, .inr (12, MF 13 (tw Vc))), (Vc.au, .inl (cC, Vc.U, .inl Vc.un)), (mo, .inr (13, MF 30 (rf (rs v Qb o) j2 b2))), (Qb.qq, .inl (cI, (8 * Qb.C), .inl Qb.qf))] := hD
              have hP := hP.sub (ws' := [(mo, .inr (13, MF 30 (rf (rs v Qb o) j2 b2))), (qx, .inl (cB, NN, .inl f)), (Qb.qq, .inl (cI, (8 * Qb.C), .inl Qb.qf)), (Qb.qe, .inl (cL, (3 * Qb.C), .inr (.inl Qb.ef))), (tv, .inr (12, MF 13 (tw Vc))), (Vc.au, .inl (cC, Vc.U, .inl Vc.un))]) [4, 0, 5, 1, 2, 3] rfl
              have hD := hD.sub (ws' := [(mo, .inr (13, MF 30 (rf (rs v Qb o) j2 b2))), (qx, .inl (cB, NN, .inl f)), (Qb.qq, .inl (cI, (8 * Qb.C), .inl Qb.qf)), (Qb.qe, .inl (cL, (3 * Qb.C), .inr (.inl Qb.ef))), (tv, .inr (12, MF 13 (tw Vc))), (Vc.au, .inl (cC, Vc.U, .inl Vc.un))]) [4, 0, 5, 1, 2, 3] (by decide) rfl
              have h_r9 : r9 = Qb.qf (8 * Qj.R + 2) := hw
              have h9 : r9 = nI V.us := by rw [h_r9, hf_Qb.2.2]; exact pk_us
              subst h9
              refine lv_isub hx hb d_Mo_segment_242 ?_
              refine W.eq (g2 := F0 m 243 ls [.int (nI ln), .int 3, .int (nI Qj.R), .ref mo]) (by rw [show ((nI Vc.us) - (nI V.us)) = (nI ln) from (by rw [hln]; exact nI_asub _ _)]) ?_
              refine W.eq (g2 := F0 m 243 ls [.int (nI ln), .int (nI 3), .int (nI Qj.R), .ref mo]) rfl ?_
              have hPc := hP.sub (ws' := [(mo, .inr (13, MF 30 (rf (rs v Qb o) j2 b2))), (Qb.qq, .inl (cI, (8 * Qb.C), .inl Qb.qf))]) [0, 2] rfl
              have hDc := hD.sub (ws' := [(mo, .inr (13, MF 30 (rf (rs v Qb o) j2 b2))), (Qb.qq, .inl (cI, (8 * Qb.C), .inl Qb.qf))]) [0, 2] (by decide) rfl
              have hKc := hK.sub (tys' := [(cI, .int)]) [1] rfl
              have hFc := va_free (wc := [(mo, .inr (13, MF 30 (rf (rs v Qb o) j2 b2))), (Qb.qq, .inl (cI, (8 * Qb.C), .inl Qb.qf))]) hD hS hA [0, 2] rfl
              refine va_callv (va_runV (As := [.int (nI Qj.R), .int (nI 3), .int (nI ln)]) (rest := []) ⟨hx, hb, hml, hown, hts⟩ (c_Mo_set l dC dI mo H (rf (rs v Qb o) j2 b2) cI Qb.qq (8 * Qb.C) Qb.qf Qj.R 3 ((nI ln)) (by omega) (by omega) ((rf_ne (by decide) (by decide)).trans rs_19)) (cwV 3 hts (gt_V (own := R_Mo) (C := R_Mo) (i := 272) (y := y_Mo_set) i_Mo_set w_1411 w_1413 (gt_sel (y := y_Mo_set) (n := 30) (by decide +kernel)) w_7) rfl rfl rfl (by decide +kernel) ⟨Nat.le_trans (m := 9) (Nat.le_of_ble_eq_true rfl) (Nat.le_add_right 9 F), Nat.le_trans (m := 280) (Nat.le_of_ble_eq_true rfl) (Nat.le_add_right 280 L)⟩) ⟨mp_blind, va_recv hKc hPc (ci := 13) (q0 := 0) rfl rfl, fun U hU hW => ⟨rfl, hU, by rw [hU]; exact hPc, va_K.moved hW.alike hKc, hDc.weaken (fun _ _ _ _ => trivial)⟩⟩ rfl rfl hl.1 rfl (lv_room (Nat.le_of_ble_eq_true rfl)) d_Mo_segment_243 ⟨hfit_QbVc.1, hfit_QbVc.2⟩) hS (fun q _ h => hFc q h) hFc (fun _u t9 H1 locs ht hvm hw hB hz1 hk1 hS => ?_)
              obtain ⟨hP1, hK1, hD1⟩ := hB
              rw [ht] at hP1
              obtain ⟨hP, hD⟩ := va_join (wr := [(qx, .inl (cB, NN, .inl f)), (Qb.qe, .inl (cL, (3 * Qb.C), .inr (.inl Qb.ef))), (tv, .inr (12, MF 13 (tw Vc))), (Vc.au, .inl (cC, Vc.U, .inl Vc.un))]) (w1 := [(mo, .inr (13, MF 30 (rf (rs v Qb o) j2 b2))), (Qb.qq, .inl (cI, (8 * Qb.C), .inl (upd Qb.qf (8 * Qj.R + 3) ((nI ln)))))]) hP hD [0, 2] [1, 3, 4, 5] rfl rfl (by decide) (by decide) hk1 hFc hP1 hD1
              generalize H1 = H at hP hS ⊢
              have hP : va_P (dC, dI) classes [(qx, .inl (cB, NN, .inl f)), (Qb.qe, .inl (cL, (3 * Qb.C), .inr (.inl Qb.ef))), (tv, .inr (12, MF 13 (tw Vc))), (Vc.au, .inl (cC, Vc.U, .inl Vc.un)), (mo, .inr (13, MF 30 (rf (rs v Qb o) j2 b2))), (Qb.qq, .inl (cI, (8 * Qb.C), .inl (upd Qb.qf (8 * Qj.R + 3) ((nI ln)))))] H := hP
              have hD : va_D A [(qx, .inl (cB, NN, .inl f)), (Qb.qe, .inl (cL, (3 * Qb.C), .inr (.inl Qb.ef))), (tv, .inr (12, MF 13 (tw Vc))), (Vc.au, .inl (cC, Vc.U, .inl Vc.un)), (mo, .inr (13, MF 30 (rf (rs v Qb o) j2 b2))), (Qb.qq, .inl (cI, (8 * Qb.C), .inl (upd Qb.qf (8 * Qj.R + 3) ((nI ln)))))] := hD
              have hP := hP.sub (ws' := [(mo, .inr (13, MF 30 (rf (rs v Qb o) j2 b2))), (qx, .inl (cB, NN, .inl f)), (Qb.qq, .inl (cI, (8 * Qb.C), .inl (upd Qb.qf (8 * Qj.R + 3) ((nI ln))))), (Qb.qe, .inl (cL, (3 * Qb.C), .inr (.inl Qb.ef))), (tv, .inr (12, MF 13 (tw Vc))), (Vc.au, .inl (cC, Vc.U, .inl Vc.un))]) [4, 0, 5, 1, 2, 3] rfl
              have hD := hD.sub (ws' := [(mo, .inr (13, MF 30 (rf (rs v Qb o) j2 b2))), (qx, .inl (cB, NN, .inl f)), (Qb.qq, .inl (cI, (8 * Qb.C), .inl (upd Qb.qf (8 * Qj.R + 3) ((nI ln))))), (Qb.qe, .inl (cL, (3 * Qb.C), .inr (.inl Qb.ef))), (tv, .inr (12, MF 13 (tw Vc))), (Vc.au, .inl (cC, Vc.U, .inl Vc.un))]) [4, 0, 5, 1, 2, 3] (by decide) rfl
              obtain ⟨Qd, e_Qd⟩ : ∃ z : QS, z = QS.wf Qb (upd Qb.qf (8 * Qj.R + 3) ((nI ln))) := ⟨_, rfl⟩
              have hP : va_P (dC, dI) classes [(mo, .inr (13, MF 30 (rf (rs v Qd o) j2 b2))), (qx, .inl (cB, NN, .inl f)), (Qd.qq, .inl (cI, (8 * Qd.C), .inl Qd.qf)), (Qd.qe, .inl (cL, (3 * Qd.C), .inr (.inl Qd.ef))), (tv, .inr (12, MF 13 (tw Vc))), (Vc.au, .inl (cC, Vc.U, .inl Vc.un))] H := by subst e_Qd; exact hP
              have hD : va_D A [(mo, .inr (13, MF 30 (rf (rs v Qd o) j2 b2))), (qx, .inl (cB, NN, .inl f)), (Qd.qq, .inl (cI, (8 * Qd.C), .inl Qd.qf)), (Qd.qe, .inl (cL, (3 * Qd.C), .inr (.inl Qd.ef))), (tv, .inr (12, MF 13 (tw Vc))), (Vc.au, .inl (cC, Vc.U, .inl Vc.un))] := by subst e_Qd; exact hD
              have hf_Qd : Qd.C = Qb.C ∧ Qd.R = Qb.R ∧ Qd.qf = upd Qb.qf (8 * Qj.R + 3) ((nI ln)) := by rw [e_Qd]; exact ⟨rfl, rfl, rfl⟩
              have he_Qd : Qd.ef = Qb.ef := by rw [e_Qd]; rfl
              have hQk_Qd : QOK Qd := by rw [e_Qd]; exact hQk_Qb
              have hG_QdVc : GQ (Q.R + 8 * (n - i) + 8) (V.us + (n + 12 - i)) Q V Qd Vc := by unfold GQ at hG_QbVc ⊢; rw [hf_Qd.1]; exact hG_QbVc
              refine w_same (fun hq => ?_)
              refine w_tight (k := cQ Q V Qd Vc) (n := sQ Q V Qd Vc) (by unfold cQ sQ at hq ⊢; rw [hf_Qd.1]; exact hq) ?_
              have hR_Qd := hf_Qd.2.1
              have hqb_QdVc : Qd.R ≤ Qd.C ∧ Qd.C ≤ 100000 := ⟨hQk_Qd.2.2.1, hQk_Qd.2.1⟩
              have hfit_QdVc := hG_QdVc.fits
              refine lv_aload_n hx hb d_Mo_segment_246 rfl (lv_at hl 0 rfl) ?_
              refine lv_iload_n hx hb d_Mo_segment_247 rfl (lv_at hl 3 rfl) ?_
              refine lv_iconst (v := 2) hx hb d_Mo_segment_248 (by decide) ?_
              refine lv_iload hx hb d_Mo_segment_249 (lv_at hl 4 rfl) ?_
              refine W.eq (g2 := F0 m 251 ls [.int (nI Qj.R), .int (nI 2), .int (nI Q.R), .ref mo]) rfl ?_
              have hPc := hP.sub (ws' := [(mo, .inr (13, MF 30 (rf (rs v Qd o) j2 b2))), (Qd.qq, .inl (cI, (8 * Qd.C), .inl Qd.qf))]) [0, 2] rfl
              have hDc := hD.sub (ws' := [(mo, .inr (13, MF 30 (rf (rs v Qd o) j2 b2))), (Qd.qq, .inl (cI, (8 * Qd.C), .inl Qd.qf))]) [0, 2] (by decide) rfl
              have hKc := hK.sub (tys' := [(cI, .int)]) [1] rfl
              have hFc := va_free (wc := [(mo, .inr (13, MF 30 (rf (rs v Qd o) j2 b2))), (Qd.qq, .inl (cI, (8 * Qd.C), .inl Qd.qf))]) hD hS hA [0, 2] rfl
              refine va_callv (va_runV (As := [.int (nI Q.R), .int (nI 2), .int (nI Qj.R)]) (rest := []) ⟨hx, hb, hml, hown, hts⟩ (c_Mo_set l dC dI mo H (rf (rs v Qd o) j2 b2) cI Qd.qq (8 * Qd.C) Qd.qf Q.R 2 ((nI Qj.R)) (by omega) (by omega) ((rf_ne (by decide) (by decide)).trans rs_19)) (cwV 3 hts (gt_V (own := R_Mo) (C := R_Mo) (i := 272) (y := y_Mo_set) i_Mo_set w_1411 w_1413 (gt_sel (y := y_Mo_set) (n := 30) (by decide +kernel)) w_7) rfl rfl rfl (by decide +kernel) ⟨Nat.le_trans (m := 9) (Nat.le_of_ble_eq_true rfl) (Nat.le_add_right 9 F), Nat.le_trans (m := 280) (Nat.le_of_ble_eq_true rfl) (Nat.le_add_right 280 L)⟩) ⟨mp_blind, va_recv hKc hPc (ci := 13) (q0 := 0) rfl rfl, fun U hU hW => ⟨rfl, hU, by rw [hU]; exact hPc, va_K.moved hW.alike hKc, hDc.weaken (fun _ _ _ _ => trivial)⟩⟩ rfl rfl hl.1 rfl (lv_room (Nat.le_of_ble_eq_true rfl)) d_Mo_segment_251 ⟨hfit_QdVc.1, hfit_QdVc.2⟩) hS (fun q _ h => hFc q h) hFc (fun _u t9 H1 locs ht hvm hw hB hz1 hk1 hS => ?_)
              obtain ⟨hP1, hK1, hD1⟩ := hB
              rw [ht] at hP1
              obtain ⟨hP, hD⟩ := va_join (wr := [(qx, .inl (cB, NN, .inl f)), (Qd.qe, .inl (cL, (3 * Qd.C), .inr (.inl Qd.ef))), (tv, .inr (12, MF 13 (tw Vc))), (Vc.au, .inl (cC, Vc.U, .inl Vc.un))]) (w1 := [(mo, .inr (13, MF 30 (rf (rs v Qd o) j2 b2))), (Qd.qq, .inl (cI, (8 * Qd.C), .inl (upd Qd.qf (8 * Q.R + 2) ((nI Qj.R)))))]) hP hD [0, 2] [1, 3, 4, 5] rfl rfl (by decide) (by decide) hk1 hFc hP1 hD1
              generalize H1 = H at hP hS ⊢
              have hP : va_P (dC, dI) classes [(qx, .inl (cB, NN, .inl f)), (Qd.qe, .inl (cL, (3 * Qd.C), .inr (.inl Qd.ef))), (tv, .inr (12, MF 13 (tw Vc))), (Vc.au, .inl (cC, Vc.U, .inl Vc.un)), (mo, .inr (13, MF 30 (rf (rs v Qd o) j2 b2))), (Qd.qq, .inl (cI, (8 * Qd.C), .inl (upd Qd.qf (8 * Q.R + 2) ((nI Qj.R)))))] H := hP
              have hD : va_D A [(qx, .inl (cB, NN, .inl f)), (Qd.qe, .inl (cL, (3 * Qd.C), .inr (.inl Qd.ef))), (tv, .inr (12, MF 13 (tw Vc))), (Vc.au, .inl (cC, Vc.U, .inl Vc.un)), (mo, .inr (13, MF 30 (rf (rs v Qd o) j2 b2))), (Qd.qq, .inl (cI, (8 * Qd.C), .inl (upd Qd.qf (8 * Q.R + 2) ((nI Qj.R)))))] := hD
              have hP := hP.sub (ws' := [(mo, .inr (13, MF 30 (rf (rs v Qd o) j2 b2))), (qx, .inl (cB, NN, .inl f)), (Qd.qq, .inl (cI, (8 * Qd.C), .inl (upd Qd.qf (8 * Q.R + 2) ((nI Qj.R))))), (Qd.qe, .inl (cL, (3 * Qd.C), .inr (.inl Qd.ef))), (tv, .inr (12, MF 13 (tw Vc))), (Vc.au, .inl (cC, Vc.U, .inl Vc.un))]) [4, 0, 5, 1, 2, 3] rfl
              have hD := hD.sub (ws' := [(mo, .inr (13, MF 30 (rf (rs v Qd o) j2 b2))), (qx, .inl (cB, NN, .inl f)), (Qd.qq, .inl (cI, (8 * Qd.C), .inl (upd Qd.qf (8 * Q.R + 2) ((nI Qj.R))))), (Qd.qe, .inl (cL, (3 * Qd.C), .inr (.inl Qd.ef))), (tv, .inr (12, MF 13 (tw Vc))), (Vc.au, .inl (cC, Vc.U, .inl Vc.un))]) [4, 0, 5, 1, 2, 3] (by decide) rfl
              obtain ⟨Qe, e_Qe⟩ : ∃ z : QS, z = QS.wf Qd (upd Qd.qf (8 * Q.R + 2) ((nI Qj.R))) := ⟨_, rfl⟩
              have hP : va_P (dC, dI) classes [(mo, .inr (13, MF 30 (rf (rs v Qe o) j2 b2))), (qx, .inl (cB, NN, .inl f)), (Qe.qq, .inl (cI, (8 * Qe.C), .inl Qe.qf)), (Qe.qe, .inl (cL, (3 * Qe.C), .inr (.inl Qe.ef))), (tv, .inr (12, MF 13 (tw Vc))), (Vc.au, .inl (cC, Vc.U, .inl Vc.un))] H := by subst e_Qe; exact hP
              have hD : va_D A [(mo, .inr (13, MF 30 (rf (rs v Qe o) j2 b2))), (qx, .inl (cB, NN, .inl f)), (Qe.qq, .inl (cI, (8 * Qe.C), .inl Qe.qf)), (Qe.qe, .inl (cL, (3 * Qe.C), .inr (.inl Qe.ef))), (tv, .inr (12, MF 13 (tw Vc))), (Vc.au, .inl (cC, Vc.U, .inl Vc.un))] := by subst e_Qe; exact hD
              have hf_Qe : Qe.C = Qd.C ∧ Qe.R = Qd.R ∧ Qe.qf = upd Qd.qf (8 * Q.R + 2) ((nI Qj.R)) := by rw [e_Qe]; exact ⟨rfl, rfl, rfl⟩
              have he_Qe : Qe.ef = Qd.ef := by rw [e_Qe]; rfl
              have hQk_Qe : QOK Qe := by rw [e_Qe]; exact hQk_Qd
              have hG_QeVc : GQ (Q.R + 8 * (n - i) + 8) (V.us + (n + 12 - i)) Q V Qe Vc := by unfold GQ at hG_QdVc ⊢; rw [hf_Qe.1]; exact hG_QdVc
              refine w_same (fun hq => ?_)
              refine w_tight (k := cQ Q V Qe Vc) (n := sQ Q V Qe Vc) (by unfold cQ sQ at hq ⊢; rw [hf_Qe.1]; exact hq) ?_
              have hR_Qe := hf_Qe.2.1
              have hqb_QeVc : Qe.R ≤ Qe.C ∧ Qe.C ≤ 100000 := ⟨hQk_Qe.2.2.1, hQk_Qe.2.1⟩
              have hfit_QeVc := hG_QeVc.fits
              have hlnl : (nmT_ f n j j2).length = ln := by omega
              have hSF : SGf O Q V Q.R y Qe Vc fl (segS ds [namS (nmT_ f n j j2)]) := hSGj.name hy (by omega) hE_Qa hA_Qa.2.2.2.2.1 hA_Qa.2.2.2.2.2 hf_Qb.2.2 he_Qb hf_Qd.2.2 he_Qd hf_Qe.2.2 he_Qe hXc.un.1 (by omega) (by rw [← hlnl, hXc.un.2]; exact hcm)
              refine lv_iload_n hx hb d_Mo_segment_254 rfl (lv_at hl 3 rfl) ?_
              have hfin : sgP f n ok (orL f n) true i = some (j2, fl, segS ds [namS (nmT_ f n j j2)]) := by rw [hsN]; unfold sgN; rw [if_neg (fun h => c101 (h_r4.trans h.1)), if_neg (fun h => h hlet), hnm]
              refine w_same (fun hq => ?_)
              refine W.widen (k := kcap Q (Q.R + 8 * (n - i) + 8) + qcap V (V.us + (n + 12 - i))) (n := 22 * kcap Q (Q.R + 8 * (n - i) + 8) + 2 * qcap V (V.us + (n + 12 - i))) hfit_QeVc.1 hfit_QeVc.2 ?_
              have hPo : QPo n i 8 Q V (Qe, Vc, j2, b2, o) := ⟨hQk_Qe, hG_QeVc, ⟨_, hXc, by omega⟩, by show Q.R ≤ Qe.R; omega, by show Qe.R ≤ Q.R + 8 * (n - i) + 8; omega⟩
              exact W.iret (v := nI Q.R) hx hb hr (fun t9 ht hW => ⟨⟨nI Q.R, (Qe, Vc, j2, b2, o), rfl, ⟨hPo, Or.inl ⟨fl, segS ds [namS (nmT_ f n j j2)], rfl, hfin, hSF, by show Qe.R + 8 * i + 7 ≤ Q.R + 8 * j2; omega, by show Vc.us + i ≤ V.us + j2; omega, by show j2 ≤ n; omega, by show Q.R < Qe.R; omega, rfl⟩⟩, ⟨by rw [ht]; exact hP, va_K.moved hW.alike hK, hD⟩, by rw [ht]; exact hq⟩, hS.F ht⟩) hS.2.2 d_Mo_segment_255
            · have hgo : letH (hereV f n j2) ∨ digH (hereV f n j2) := Or.inr (by rw [← h_r7]; exact h_d7.1 c197)
              have hltg : j2 < n := hgo.elim letH_lt digH_lt
              refine lv_aload_n hx hb d_Mo_segment_200 rfl (lv_at hl 0 rfl) ?_
              refine va_get (D := (dC, dI)) (ci := 13) (v := .ref tv) (C := R_Mo) (T := F_Mo) (N := 30) hx hb hts in_Mo hown hK hP 0 rfl rfl 22 (by decide) (hts _ w_1111) (fun _ h9 => h9) (MFg (by decide) ((rf_ne (by decide) (by decide)).trans ((rs_ne (by decide) (by decide) (by decide) (by decide)).trans h22))) d_Mo_segment_201 ?_
              refine lv_aload_n hx hb d_Mo_segment_204 rfl (lv_at hl 0 rfl) ?_
              have hPc := hP.sub (ws' := [(mo, .inr (13, MF 30 (rf (rs v Qb o) j2 b2))), (qx, .inl (cB, NN, .inl f))]) [0, 1] rfl
              have hDc := hD.sub (ws' := [(mo, .inr (13, MF 30 (rf (rs v Qb o) j2 b2))), (qx, .inl (cB, NN, .inl f))]) [0, 1] (by decide) rfl
              have hKc := hK.sub (tys' := [(cB, .byte)]) [0] rfl
              have hFc := va_free (wc := [(mo, .inr (13, MF 30 (rf (rs v Qb o) j2 b2))), (qx, .inl (cB, NN, .inl f))]) hD hS hA [0, 1] rfl
              refine va_calli (va_runV (As := []) (rest := [.ref tv]) ⟨hx, hb, hml, hown, hts⟩ (c_Mo_c l dC dI mo H (rf (rs v Qb o) j2 b2) cB qx NN f n j2 (by omega) (by omega) (by omega) ((rf_ne (by decide) (by decide)).trans ((rs_ne (by decide) (by decide) (by decide) (by decide)).trans h6)) rf_7 ((rf_ne (by decide) (by decide)).trans ((rs_ne (by decide) (by decide) (by decide) (by decide)).trans h8))) (cwV 0 hts (gt_V (own := R_Mo) (C := R_Mo) (i := 147) (y := y_Mo_c) i_Mo_c w_1233 w_1235 (gt_sel (y := y_Mo_c) (n := 30) (by decide +kernel)) w_7) rfl rfl rfl (by decide +kernel) ⟨Nat.le_trans (m := 9) (Nat.le_of_ble_eq_true rfl) (Nat.le_add_right 9 F), Nat.le_trans (m := 280) (Nat.le_of_ble_eq_true rfl) (Nat.le_add_right 280 L)⟩) ⟨mp_blind, va_recv hKc hPc (ci := 13) (q0 := 0) rfl rfl, fun U hU hW => ⟨rfl, hU, by rw [hU]; exact hPc, va_K.moved hW.alike hKc, hDc.weaken (fun _ _ _ _ => trivial)⟩⟩ rfl rfl hl.1 rfl (lv_room (Nat.le_of_ble_eq_true rfl)) d_Mo_segment_205 ⟨hfit_QbVc.1, hfit_QbVc.2⟩) hS (fun q _ h => hFc q h) hFc (fun r8 _u t9 H1 locs ht hvm hw hB hz1 hk1 hS => ?_)
              obtain ⟨hP1, hK1, hD1⟩ := hB
              rw [ht] at hP1
              obtain ⟨hP, hD⟩ := va_join (wr := [(Qb.qq, .inl (cI, (8 * Qb.C), .inl Qb.qf)), (Qb.qe, .inl (cL, (3 * Qb.C), .inr (.inl Qb.ef))), (tv, .inr (12, MF 13 (tw Vc))), (Vc.au, .inl (cC, Vc.U, .inl Vc.un))]) (w1 := [(mo, .inr (13, MF 30 (rf (rs v Qb o) j2 b2))), (qx, .inl (cB, NN, .inl f))]) hP hD [0, 1] [2, 3, 4, 5] rfl rfl (by decide) (by decide) hk1 hFc hP1 hD1
              generalize H1 = H at hP hS ⊢
              have hP : va_P (dC, dI) classes [(Qb.qq, .inl (cI, (8 * Qb.C), .inl Qb.qf)), (Qb.qe, .inl (cL, (3 * Qb.C), .inr (.inl Qb.ef))), (tv, .inr (12, MF 13 (tw Vc))), (Vc.au, .inl (cC, Vc.U, .inl Vc.un)), (mo, .inr (13, MF 30 (rf (rs v Qb o) j2 b2))), (qx, .inl (cB, NN, .inl f))] H := hP
              have hD : va_D A [(Qb.qq, .inl (cI, (8 * Qb.C), .inl Qb.qf)), (Qb.qe, .inl (cL, (3 * Qb.C), .inr (.inl Qb.ef))), (tv, .inr (12, MF 13 (tw Vc))), (Vc.au, .inl (cC, Vc.U, .inl Vc.un)), (mo, .inr (13, MF 30 (rf (rs v Qb o) j2 b2))), (qx, .inl (cB, NN, .inl f))] := hD
              have hP := hP.sub (ws' := [(mo, .inr (13, MF 30 (rf (rs v Qb o) j2 b2))), (qx, .inl (cB, NN, .inl f)), (Qb.qq, .inl (cI, (8 * Qb.C), .inl Qb.qf)), (Qb.qe, .inl (cL, (3 * Qb.C), .inr (.inl Qb.ef))), (tv, .inr (12, MF 13 (tw Vc))), (Vc.au, .inl (cC, Vc.U, .inl Vc.un))]) [4, 5, 0, 1, 2, 3] rfl
              have hD := hD.sub (ws' := [(mo, .inr (13, MF 30 (rf (rs v Qb o) j2 b2))), (qx, .inl (cB, NN, .inl f)), (Qb.qq, .inl (cI, (8 * Qb.C), .inl Qb.qf)), (Qb.qe, .inl (cL, (3 * Qb.C), .inr (.inl Qb.ef))), (tv, .inr (12, MF 13 (tw Vc))), (Vc.au, .inl (cC, Vc.U, .inl Vc.un))]) [4, 5, 0, 1, 2, 3] (by decide) rfl
              have h_r8 : r8 = hereV f n j2 := hw
              have hPc := hP.sub (ws' := [(tv, .inr (12, MF 13 (tw Vc))), (Vc.au, .inl (cC, Vc.U, .inl Vc.un))]) [4, 5] rfl
              have hDc := hD.sub (ws' := [(tv, .inr (12, MF 13 (tw Vc))), (Vc.au, .inl (cC, Vc.U, .inl Vc.un))]) [4, 5] (by decide) rfl
              have hKc := hK.sub (tys' := [(cC, .char)]) [3] rfl
              have hFc := va_free (wc := [(tv, .inr (12, MF 13 (tw Vc))), (Vc.au, .inl (cC, Vc.U, .inl Vc.un))]) hD hS hA [4, 5] rfl
              refine w_same (fun hq0 => ?_)
              refine va_callv (va_runV (As := [.int r8]) (rest := []) ⟨hx, hb, hml, hown, hts⟩ (c_Tree_unitT l dC dI tv H cC Vc r8 hTk_Vc) (cwV 1 hts (gt_V (own := R_Mo) (C := R_Tree) (i := 177) (y := y_Tree_unit) i_Tree_unit w_1265 w_1266 w_1267 w_8) rfl rfl rfl (by decide +kernel) ⟨Nat.le_trans (m := 9) (Nat.le_of_ble_eq_true rfl) (Nat.le_add_right 9 F), Nat.le_trans (m := 280) (Nat.le_of_ble_eq_true rfl) (Nat.le_add_right 280 L)⟩) ⟨mp_blind, va_recv hKc hPc (ci := 12) (q0 := 0) rfl rfl, fun U hU hW => ⟨rfl, hU, by rw [hU]; exact hPc, va_K.moved hW.alike hKc, hDc.weaken (fun _ _ _ _ => trivial)⟩⟩ rfl rfl hl.1 rfl (lv_room (Nat.le_of_ble_eq_true rfl)) d_Mo_segment_208 ⟨(uq_fit hG_QbVc (by omega)).1, (uq_fit hG_QbVc (by omega)).2⟩) hS (fun q _ h => hFc q h) hFc (fun Vn t9 H1 locs ht hvm hw hB hz1 hk1 hS => ?_)
              obtain ⟨⟨hP1, hK1, hD1⟩, hz9⟩ := hB
              rw [ht] at hP1
              rw [ht] at hz9
              have hX_Vn : TX Vc Vn [r8] := hw
              have hXs_Vn := hX_Vn.us
              rw [List.length_singleton] at hXs_Vn
              obtain ⟨hG_QbVn, hGc, hGs⟩ := hG_QbVc.tr (hX_Vn.gq Qb).1 (Nat.zero_le _) (show Vc.us + 1 ≤ V.us + (n + 12 - i) by omega)
              rw [← (hX_Vn.gq Qb).2.1] at hGc
              rw [← (hX_Vn.gq Qb).2.2] at hGs
              have hq1 : szk s.heap H1 (cQ Q V Qb Vn) (sQ Q V Qb Vn) := (hq0.trans hz9).mono hGc hGs
              refine w_tight hq1 ?_
              obtain ⟨hP, hD⟩ := va_join (wr := [(mo, .inr (13, MF 30 (rf (rs v Qb o) j2 b2))), (qx, .inl (cB, NN, .inl f)), (Qb.qq, .inl (cI, (8 * Qb.C), .inl Qb.qf)), (Qb.qe, .inl (cL, (3 * Qb.C), .inr (.inl Qb.ef)))]) (w1 := [(tv, .inr (12, MF 13 (tw Vn))), (Vn.au, .inl (cC, Vn.U, .inl Vn.un))]) hP hD [4, 5] [0, 1, 2, 3] rfl rfl (by decide) (by decide) hk1 hFc hP1 hD1
              generalize H1 = H at hP hS ⊢
              have hP : va_P (dC, dI) classes [(mo, .inr (13, MF 30 (rf (rs v Qb o) j2 b2))), (qx, .inl (cB, NN, .inl f)), (Qb.qq, .inl (cI, (8 * Qb.C), .inl Qb.qf)), (Qb.qe, .inl (cL, (3 * Qb.C), .inr (.inl Qb.ef))), (tv, .inr (12, MF 13 (tw Vn))), (Vn.au, .inl (cC, Vn.U, .inl Vn.un))] H := hP
              have hD : va_D A [(mo, .inr (13, MF 30 (rf (rs v Qb o) j2 b2))), (qx, .inl (cB, NN, .inl f)), (Qb.qq, .inl (cI, (8 * Qb.C), .inl Qb.qf)), (Qb.qe, .inl (cL, (3 * Qb.C), .inr (.inl Qb.ef))), (tv, .inr (12, MF 13 (tw Vn))), (Vn.au, .inl (cC, Vn.U, .inl Vn.un))] := hD
              have hP := hP.sub (ws' := [(mo, .inr (13, MF 30 (rf (rs v Qb o) j2 b2))), (qx, .inl (cB, NN, .inl f)), (Qb.qq, .inl (cI, (8 * Qb.C), .inl Qb.qf)), (Qb.qe, .inl (cL, (3 * Qb.C), .inr (.inl Qb.ef))), (tv, .inr (12, MF 13 (tw Vn))), (Vn.au, .inl (cC, Vn.U, .inl Vn.un))]) [0, 1, 2, 3, 4, 5] rfl
              have hD := hD.sub (ws' := [(mo, .inr (13, MF 30 (rf (rs v Qb o) j2 b2))), (qx, .inl (cB, NN, .inl f)), (Qb.qq, .inl (cI, (8 * Qb.C), .inl Qb.qf)), (Qb.qe, .inl (cL, (3 * Qb.C), .inr (.inl Qb.ef))), (tv, .inr (12, MF 13 (tw Vn))), (Vn.au, .inl (cC, Vn.U, .inl Vn.un))]) [0, 1, 2, 3, 4, 5] (by decide) rfl
              have hTk_Vn := hX_Vn.ok hTk_Vc (by rw [List.length_singleton]; omega)
              have hqb_QbVn : Qb.R ≤ Qb.C ∧ Qb.C ≤ 100000 := ⟨hQk_Qb.2.2.1, hQk_Qb.2.1⟩
              have hfit_QbVn := hG_QbVn.fits
              refine lv_aload_n hx hb d_Mo_segment_211 rfl (lv_at hl 0 rfl) ?_
              refine lv_dup hx hb d_Mo_segment_212 rfl ?_
              refine va_get (D := (dC, dI)) (ci := 13) (v := .int (nI j2)) (C := R_Mo) (T := F_Mo) (N := 30) hx hb hts in_Mo hown hK hP 0 rfl rfl 7 (by decide) (hts _ w_1096) (fun _ h9 => h9) (MFg (by decide) rf_7) d_Mo_segment_213 ?_
              refine lv_iconst (v := 1) hx hb d_Mo_segment_216 (by decide) ?_
              refine lv_iadd hx hb d_Mo_segment_217 ?_
              refine W.eq (g2 := F0 m 218 ls [.int (nI (j2 + 1)), .ref mo]) (by rw [show ((nI j2) + 1) = (nI (j2 + 1)) from nI_1 _]) ?_
              refine va_put (D := (dC, dI)) (ci := 13) (v := .int (nI (j2 + 1))) (ty := .int) (C := R_Mo) (T := F_Mo) (N := 30) hx hb hts in_Mo t_Mo t_Mo_ok n_Mo hown hK hP hD hS 0 rfl rfl 7 (by decide) (hts _ w_1096) (fun _ h9 => h9) rfl (by decide +kernel) rfl rfl (by rw [MFl]; decide) d_Mo_segment_218 (fun H locs hP hD hS => ?_)
              rw [MFs (n := 30) (k := 7) (by decide)] at hP hD
              have hP : va_P (dC, dI) classes [(mo, .inr (13, MF 30 (va_up (rf (rs v Qb o) j2 b2) 7 (.int (nI (j2 + 1)))))), (qx, .inl (cB, NN, .inl f)), (Qb.qq, .inl (cI, (8 * Qb.C), .inl Qb.qf)), (Qb.qe, .inl (cL, (3 * Qb.C), .inr (.inl Qb.ef))), (tv, .inr (12, MF 13 (tw Vn))), (Vn.au, .inl (cC, Vn.U, .inl Vn.un))] H := hP
              have hD : va_D A [(mo, .inr (13, MF 30 (va_up (rf (rs v Qb o) j2 b2) 7 (.int (nI (j2 + 1)))))), (qx, .inl (cB, NN, .inl f)), (Qb.qq, .inl (cI, (8 * Qb.C), .inl Qb.qf)), (Qb.qe, .inl (cL, (3 * Qb.C), .inr (.inl Qb.ef))), (tv, .inr (12, MF 13 (tw Vn))), (Vn.au, .inl (cC, Vn.U, .inl Vn.un))] := hD
              rw [rf_u7] at hP hD
              have hP : va_P (dC, dI) classes [(mo, .inr (13, MF 30 (rf (rs v Qb o) (j2 + 1) b2))), (qx, .inl (cB, NN, .inl f)), (Qb.qq, .inl (cI, (8 * Qb.C), .inl Qb.qf)), (Qb.qe, .inl (cL, (3 * Qb.C), .inr (.inl Qb.ef))), (tv, .inr (12, MF 13 (tw Vn))), (Vn.au, .inl (cC, Vn.U, .inl Vn.un))] H := hP
              have hD : va_D A [(mo, .inr (13, MF 30 (rf (rs v Qb o) (j2 + 1) b2))), (qx, .inl (cB, NN, .inl f)), (Qb.qq, .inl (cI, (8 * Qb.C), .inl Qb.qf)), (Qb.qe, .inl (cL, (3 * Qb.C), .inr (.inl Qb.ef))), (tv, .inr (12, MF 13 (tw Vn))), (Vn.au, .inl (cC, Vn.U, .inl Vn.un))] := hD
              refine lv_goto (tgt := 180) hx hb d_Mo_segment_221 (by decide) ?_
              refine w_same (fun hq => ?_)
              refine W.widen (k := kcap Q (Q.R + 8 * (n - i) + 8) + qcap V (V.us + (n + 12 - i))) (n := 22 * kcap Q (Q.R + 8 * (n - i) + 8) + 2 * qcap V (V.us + (n + 12 - i))) hfit_QbVn.1 hfit_QbVn.2 ?_
              have hst : nmE f n m0 (j2 + 1) = nmE f n (n + 1) j := by rw [← hI5, hm0]; exact (nmE_s hgo).symm
              have hX2 : TX V Vn (nmT_ f n j (j2 + 1)) := by rw [nmT_s hI2, ← h_r8]; exact hXc.trans hX_Vn
              have hcm2 : (nmT_ f n j (j2 + 1)).map c16 = nmT_ f n j (j2 + 1) := by rw [nmT_s hI2, List.map_append, hcm, List.map_singleton, c16_id (letdig_b hgo).1 (Int32.le_trans (letdig_b hgo).2 (by decide))]
              exact ih (Vn, m0, j2 + 1, b2) _ _ _ ⟨⟨hX2, hcm2⟩, hTk_Vn, hG_QbVn, by show Vn.us + j = V.us + (j2 + 1); omega, by omega, by omega, by omega, hst, hq⟩ (by show n + 1 - (j2 + 1) < n + 1 - j2; omega) hP hD hS (lv_sub hl [0, 1, 2, 3, 4] rfl)
        · refine lv_aload_n hx hb d_Mo_segment_148 rfl (lv_at hl 0 rfl) ?_
          refine lv_aload_n hx hb d_Mo_segment_149 rfl (lv_at hl 0 rfl) ?_
          refine va_get (D := (dC, dI)) (ci := 13) (v := .int (nI j)) (C := R_Mo) (T := F_Mo) (N := 30) hx hb hts in_Mo hown hK hP 0 rfl rfl 7 (by decide) (hts _ w_1096) (fun _ h9 => h9) (MFg (by decide) rf_7) d_Mo_segment_150 ?_
          have hPc := hP.sub (ws' := [(mo, .inr (13, MF 30 (rf (rs v Qj o) j b)))]) [0] rfl
          have hDc := hD.sub (ws' := [(mo, .inr (13, MF 30 (rf (rs v Qj o) j b)))]) [0] (by decide) rfl
          have hKc := hK.sub (tys' := []) [] rfl
          have hFc := va_free (wc := [(mo, .inr (13, MF 30 (rf (rs v Qj o) j b)))]) hD hS hA [0] rfl
          refine va_calli (va_runV (As := [.int (nI j)]) (rest := []) ⟨hx, hb, hml, hown, hts⟩ (c_Mo_fail l dC dI mo H (rf (rs v Qj o) j b) b ((nI j)) rf_9) (cwV 1 hts (gt_V (own := R_Mo) (C := R_Mo) (i := 151) (y := y_Mo_fail) i_Mo_fail w_1250 w_1252 (gt_sel (y := y_Mo_fail) (n := 30) (by decide +kernel)) w_7) rfl rfl rfl (by decide +kernel) ⟨Nat.le_trans (m := 9) (Nat.le_of_ble_eq_true rfl) (Nat.le_add_right 9 F), Nat.le_trans (m := 280) (Nat.le_of_ble_eq_true rfl) (Nat.le_add_right 280 L)⟩) ⟨mp_blind, va_recv hKc hPc (ci := 13) (q0 := 0) rfl rfl, fun U hU hW => ⟨rfl, hU, by rw [hU]; exact hPc, va_K.moved hW.alike hKc, hDc.weaken (fun _ _ _ _ => trivial)⟩⟩ rfl rfl hl.1 rfl (lv_room (Nat.le_of_ble_eq_true rfl)) d_Mo_segment_153 ⟨hfit_QjV.1, hfit_QjV.2⟩) hS (fun q _ h => hFc q h) hFc (fun r0 u2 t9 H1 locs ht hvm hw hB hz1 hk1 hS => ?_)
          obtain ⟨hP1, hK1, hD1⟩ := hB
          rw [ht] at hP1
          obtain ⟨hP, hD⟩ := va_join (wr := [(qx, .inl (cB, NN, .inl f)), (Qj.qq, .inl (cI, (8 * Qj.C), .inl Qj.qf)), (Qj.qe, .inl (cL, (3 * Qj.C), .inr (.inl Qj.ef))), (tv, .inr (12, MF 13 (tw V))), (V.au, .inl (cC, V.U, .inl V.un))]) (w1 := [(mo, .inr (13, MF 30 u2))]) hP hD [0] [1, 2, 3, 4, 5] rfl rfl (by decide) (by decide) hk1 hFc hP1 hD1
          generalize H1 = H at hP hS ⊢
          have hP : va_P (dC, dI) classes [(qx, .inl (cB, NN, .inl f)), (Qj.qq, .inl (cI, (8 * Qj.C), .inl Qj.qf)), (Qj.qe, .inl (cL, (3 * Qj.C), .inr (.inl Qj.ef))), (tv, .inr (12, MF 13 (tw V))), (V.au, .inl (cC, V.U, .inl V.un)), (mo, .inr (13, MF 30 u2))] H := hP
          have hD : va_D A [(qx, .inl (cB, NN, .inl f)), (Qj.qq, .inl (cI, (8 * Qj.C), .inl Qj.qf)), (Qj.qe, .inl (cL, (3 * Qj.C), .inr (.inl Qj.ef))), (tv, .inr (12, MF 13 (tw V))), (V.au, .inl (cC, V.U, .inl V.un)), (mo, .inr (13, MF 30 u2))] := hD
          have hP := hP.sub (ws' := [(mo, .inr (13, MF 30 u2)), (qx, .inl (cB, NN, .inl f)), (Qj.qq, .inl (cI, (8 * Qj.C), .inl Qj.qf)), (Qj.qe, .inl (cL, (3 * Qj.C), .inr (.inl Qj.ef))), (tv, .inr (12, MF 13 (tw V))), (V.au, .inl (cC, V.U, .inl V.un))]) [5, 0, 1, 2, 3, 4] rfl
          have hD := hD.sub (ws' := [(mo, .inr (13, MF 30 u2)), (qx, .inl (cB, NN, .inl f)), (Qj.qq, .inl (cI, (8 * Qj.C), .inl Qj.qf)), (Qj.qe, .inl (cL, (3 * Qj.C), .inr (.inl Qj.ef))), (tv, .inr (12, MF 13 (tw V))), (V.au, .inl (cC, V.U, .inl V.un))]) [5, 0, 1, 2, 3, 4] (by decide) rfl
          obtain ⟨b7, h_b7⟩ := rf_fail (v := (rs v Qj o)) (i := j) (br := b) (b2 := b) (wh := (nI j))
          have hw : r0 = 0 ∧ u2 = _ := hw
          obtain ⟨hw1, hw2⟩ := hw
          rw [h_b7] at hw2
          rw [hw2] at hP hD
          subst hw1
          have hP : va_P (dC, dI) classes [(mo, .inr (13, MF 30 (rf (rs v Qj o) j b7))), (qx, .inl (cB, NN, .inl f)), (Qj.qq, .inl (cI, (8 * Qj.C), .inl Qj.qf)), (Qj.qe, .inl (cL, (3 * Qj.C), .inr (.inl Qj.ef))), (tv, .inr (12, MF 13 (tw V))), (V.au, .inl (cC, V.U, .inl V.un))] H := hP
          have hD : va_D A [(mo, .inr (13, MF 30 (rf (rs v Qj o) j b7))), (qx, .inl (cB, NN, .inl f)), (Qj.qq, .inl (cI, (8 * Qj.C), .inl Qj.qf)), (Qj.qe, .inl (cL, (3 * Qj.C), .inr (.inl Qj.ef))), (tv, .inr (12, MF 13 (tw V))), (V.au, .inl (cC, V.U, .inl V.un))] := hD
          refine lv_pop hx hb d_Mo_segment_156 rfl ?_
          refine lv_iconst (v := (-1)) hx hb d_Mo_segment_157 (by decide) ?_
          have hfin : sgP f n ok (orL f n) true i = none := by rw [hsN]; unfold sgN; rw [if_neg (fun h => c101 (h_r4.trans h.1)), if_pos (by rw [← h_r5]; exact h_t5.2 c145)]
          refine w_same (fun hq => ?_)
          refine W.widen (k := kcap Q (Q.R + 8 * (n - i) + 8) + qcap V (V.us + (n + 12 - i))) (n := 22 * kcap Q (Q.R + 8 * (n - i) + 8) + 2 * qcap V (V.us + (n + 12 - i))) hfit_QjV.1 hfit_QjV.2 ?_
          have hPo : QPo n i 8 Q V (Qj, V, j, b7, o) := ⟨hQk_Qj, hG_QjV, ⟨[], TX.rf hTk_V, Nat.zero_le _⟩, by show Q.R ≤ Qj.R; omega, by show Qj.R ≤ Q.R + 8 * (n - i) + 8; omega⟩
          exact W.iret (v := -1) hx hb hr (fun t9 ht hW => ⟨⟨-1, (Qj, V, j, b7, o), rfl, ⟨hPo, Or.inr ⟨rfl, hfin⟩⟩, ⟨by rw [ht]; exact hP, va_K.moved hW.alike hK, hD⟩, by rw [ht]; exact hq⟩, hS.F ht⟩) hS.2.2 d_Mo_segment_158
      · refine lv_iload_n hx hb d_Mo_segment_104 rfl (lv_at hl 2 rfl) ?_
        refine lv_if_ne (tgt := 138) hx hb d_Mo_segment_105 (by decide) (fun _ => ?_) (fun h => absurd h (by decide))
        refine lv_aload_n hx hb d_Mo_segment_138 rfl (lv_at hl 0 rfl) ?_
        have hPc := hP.sub (ws' := [(mo, .inr (13, MF 30 (rf (rs v Qj o) j b))), (qx, .inl (cB, NN, .inl f))]) [0, 1] rfl
        have hDc := hD.sub (ws' := [(mo, .inr (13, MF 30 (rf (rs v Qj o) j b))), (qx, .inl (cB, NN, .inl f))]) [0, 1] (by decide) rfl
        have hKc := hK.sub (tys' := [(cB, .byte)]) [0] rfl
        have hFc := va_free (wc := [(mo, .inr (13, MF 30 (rf (rs v Qj o) j b))), (qx, .inl (cB, NN, .inl f))]) hD hS hA [0, 1] rfl
        refine va_calli (va_runV (As := []) (rest := []) ⟨hx, hb, hml, hown, hts⟩ (c_Mo_c l dC dI mo H (rf (rs v Qj o) j b) cB qx NN f n j (by omega) (by omega) (by omega) ((rf_ne (by decide) (by decide)).trans ((rs_ne (by decide) (by decide) (by decide) (by decide)).trans h6)) rf_7 ((rf_ne (by decide) (by decide)).trans ((rs_ne (by decide) (by decide) (by decide) (by decide)).trans h8))) (cwV 0 hts (gt_V (own := R_Mo) (C := R_Mo) (i := 147) (y := y_Mo_c) i_Mo_c w_1233 w_1235 (gt_sel (y := y_Mo_c) (n := 30) (by decide +kernel)) w_7) rfl rfl rfl (by decide +kernel) ⟨Nat.le_trans (m := 9) (Nat.le_of_ble_eq_true rfl) (Nat.le_add_right 9 F), Nat.le_trans (m := 280) (Nat.le_of_ble_eq_true rfl) (Nat.le_add_right 280 L)⟩) ⟨mp_blind, va_recv hKc hPc (ci := 13) (q0 := 0) rfl rfl, fun U hU hW => ⟨rfl, hU, by rw [hU]; exact hPc, va_K.moved hW.alike hKc, hDc.weaken (fun _ _ _ _ => trivial)⟩⟩ rfl rfl hl.1 rfl (lv_room (Nat.le_of_ble_eq_true rfl)) d_Mo_segment_139 ⟨hfit_QjV.1, hfit_QjV.2⟩) hS (fun q _ h => hFc q h) hFc (fun r5 _u t9 H1 locs ht hvm hw hB hz1 hk1 hS => ?_)
        obtain ⟨hP1, hK1, hD1⟩ := hB
        rw [ht] at hP1
        obtain ⟨hP, hD⟩ := va_join (wr := [(Qj.qq, .inl (cI, (8 * Qj.C), .inl Qj.qf)), (Qj.qe, .inl (cL, (3 * Qj.C), .inr (.inl Qj.ef))), (tv, .inr (12, MF 13 (tw V))), (V.au, .inl (cC, V.U, .inl V.un))]) (w1 := [(mo, .inr (13, MF 30 (rf (rs v Qj o) j b))), (qx, .inl (cB, NN, .inl f))]) hP hD [0, 1] [2, 3, 4, 5] rfl rfl (by decide) (by decide) hk1 hFc hP1 hD1
        generalize H1 = H at hP hS ⊢
        have hP : va_P (dC, dI) classes [(Qj.qq, .inl (cI, (8 * Qj.C), .inl Qj.qf)), (Qj.qe, .inl (cL, (3 * Qj.C), .inr (.inl Qj.ef))), (tv, .inr (12, MF 13 (tw V))), (V.au, .inl (cC, V.U, .inl V.un)), (mo, .inr (13, MF 30 (rf (rs v Qj o) j b))), (qx, .inl (cB, NN, .inl f))] H := hP
        have hD : va_D A [(Qj.qq, .inl (cI, (8 * Qj.C), .inl Qj.qf)), (Qj.qe, .inl (cL, (3 * Qj.C), .inr (.inl Qj.ef))), (tv, .inr (12, MF 13 (tw V))), (V.au, .inl (cC, V.U, .inl V.un)), (mo, .inr (13, MF 30 (rf (rs v Qj o) j b))), (qx, .inl (cB, NN, .inl f))] := hD
        have hP := hP.sub (ws' := [(mo, .inr (13, MF 30 (rf (rs v Qj o) j b))), (qx, .inl (cB, NN, .inl f)), (Qj.qq, .inl (cI, (8 * Qj.C), .inl Qj.qf)), (Qj.qe, .inl (cL, (3 * Qj.C), .inr (.inl Qj.ef))), (tv, .inr (12, MF 13 (tw V))), (V.au, .inl (cC, V.U, .inl V.un))]) [4, 5, 0, 1, 2, 3] rfl
        have hD := hD.sub (ws' := [(mo, .inr (13, MF 30 (rf (rs v Qj o) j b))), (qx, .inl (cB, NN, .inl f)), (Qj.qq, .inl (cI, (8 * Qj.C), .inl Qj.qf)), (Qj.qe, .inl (cL, (3 * Qj.C), .inr (.inl Qj.ef))), (tv, .inr (12, MF 13 (tw V))), (V.au, .inl (cC, V.U, .inl V.un))]) [4, 5, 0, 1, 2, 3] (by decide) rfl
        have h_r5 : r5 = hereV f n j := hw
        have hPc := hP.sub (ws' := []) [] rfl
        have hDc := hD.sub (ws' := []) [] (by decide) rfl
        have hKc := hK.sub (tys' := []) [] rfl
        have hFc := va_free (wc := []) hD hS hA [] rfl
        refine va_calli (va_runS (As := [.int r5]) (rest := []) ⟨hx, hb, hml, hown, hts⟩ (c_Mo_letter l dC dI H r5) (va_cwS 1 hts (gt_S (own := R_Mo) (i := 283) (y := y_Mo_letter) i_Mo_letter w_1478 w_1479 w_7) rfl rfl rfl (by decide +kernel) ⟨Nat.le_trans (m := 9) (Nat.le_of_ble_eq_true rfl) (Nat.le_add_right 9 F), Nat.le_trans (m := 280) (Nat.le_of_ble_eq_true rfl) (Nat.le_add_right 280 L)⟩) ⟨mp_blind, fun U hU hW => ⟨rfl, hU, by rw [hU]; exact hPc, va_K.moved hW.alike hKc, hDc.weaken (fun _ _ _ _ => trivial)⟩⟩ rfl rfl hl.1 rfl (lv_room (Nat.le_of_ble_eq_true rfl)) d_Mo_segment_142 ⟨hfit_QjV.1, hfit_QjV.2⟩) hS (fun q _ h => hFc q h) hFc (fun t5 _u t9 H1 locs ht hvm hw hB hz1 hk1 hS => ?_)
        obtain ⟨hP1, hK1, hD1⟩ := hB
        rw [ht] at hP1
        obtain ⟨hP, hD⟩ := va_join (wr := [(mo, .inr (13, MF 30 (rf (rs v Qj o) j b))), (qx, .inl (cB, NN, .inl f)), (Qj.qq, .inl (cI, (8 * Qj.C), .inl Qj.qf)), (Qj.qe, .inl (cL, (3 * Qj.C), .inr (.inl Qj.ef))), (tv, .inr (12, MF 13 (tw V))), (V.au, .inl (cC, V.U, .inl V.un))]) (w1 := []) hP hD [] [0, 1, 2, 3, 4, 5] rfl rfl (by decide) (by decide) hk1 hFc hP1 hD1
        generalize H1 = H at hP hS ⊢
        have hP : va_P (dC, dI) classes [(mo, .inr (13, MF 30 (rf (rs v Qj o) j b))), (qx, .inl (cB, NN, .inl f)), (Qj.qq, .inl (cI, (8 * Qj.C), .inl Qj.qf)), (Qj.qe, .inl (cL, (3 * Qj.C), .inr (.inl Qj.ef))), (tv, .inr (12, MF 13 (tw V))), (V.au, .inl (cC, V.U, .inl V.un))] H := hP
        have hD : va_D A [(mo, .inr (13, MF 30 (rf (rs v Qj o) j b))), (qx, .inl (cB, NN, .inl f)), (Qj.qq, .inl (cI, (8 * Qj.C), .inl Qj.qf)), (Qj.qe, .inl (cL, (3 * Qj.C), .inr (.inl Qj.ef))), (tv, .inr (12, MF 13 (tw V))), (V.au, .inl (cC, V.U, .inl V.un))] := hD
        have h_t5 := lt_01 hw
        refine lv_if_ne (tgt := 159) hx hb d_Mo_segment_145 (by decide) (fun c145 => ?_) (fun c145 => ?_)
        · refine lv_aload_n hx hb d_Mo_segment_159 rfl (lv_at hl 0 rfl) ?_
          refine lv_iconst (v := 1) hx hb d_Mo_segment_160 (by decide) ?_
          have hPc := hP.sub (ws' := [(mo, .inr (13, MF 30 (rf (rs v Qj o) j b))), (Qj.qq, .inl (cI, (8 * Qj.C), .inl Qj.qf)), (Qj.qe, .inl (cL, (3 * Qj.C), .inr (.inl Qj.ef)))]) [0, 2, 3] rfl
          have hDc := hD.sub (ws' := [(mo, .inr (13, MF 30 (rf (rs v Qj o) j b))), (Qj.qq, .inl (cI, (8 * Qj.C), .inl Qj.qf)), (Qj.qe, .inl (cL, (3 * Qj.C), .inr (.inl Qj.ef)))]) [0, 2, 3] (by decide) rfl
          have hKc := hK.sub (tys' := [(cI, .int), (cL, .long)]) [1, 2] rfl
          have hFc := va_free (wc := [(mo, .inr (13, MF 30 (rf (rs v Qj o) j b))), (Qj.qq, .inl (cI, (8 * Qj.C), .inl Qj.qf)), (Qj.qe, .inl (cL, (3 * Qj.C), .inr (.inl Qj.ef)))]) hD hS hA [0, 2, 3] rfl
          refine w_same (fun hq0 => ?_)
          refine va_calli (va_runV (As := [.int 1]) (rest := []) ⟨hx, hb, hml, hown, hts⟩ (c_Mo_row l dC dI mo H v cI cL Qj o j b 1 hQk_Qj) (cwV 1 hts (gt_V (own := R_Mo) (C := R_Mo) (i := 269) (y := y_Mo_row) i_Mo_row w_1407 w_1409 (gt_sel (y := y_Mo_row) (n := 30) (by decide +kernel)) w_7) rfl rfl rfl (by decide +kernel) ⟨Nat.le_trans (m := 9) (Nat.le_of_ble_eq_true rfl) (Nat.le_add_right 9 F), Nat.le_trans (m := 280) (Nat.le_of_ble_eq_true rfl) (Nat.le_add_right 280 L)⟩) ⟨mp_blind, va_recv hKc hPc (ci := 13) (q0 := 0) rfl rfl, fun U hU hW => ⟨rfl, hU, by rw [hU]; exact hPc, va_K.moved hW.alike hKc, hDc.weaken (fun _ _ _ _ => trivial)⟩⟩ rfl rfl hl.1 rfl (lv_room (Nat.le_of_ble_eq_true rfl)) d_Mo_segment_161 ⟨(QAd.fit hG_QjV hQk_Qj (by omega)).1, (QAd.fit hG_QjV hQk_Qj (by omega)).2⟩) hS (fun q _ h => hFc q h) hFc (fun r0 Qa t9 H1 locs ht hvm hw hB hz1 hk1 hS => ?_)
          obtain ⟨⟨hP1, hK1, hD1⟩, hz9⟩ := hB
          rw [ht] at hP1
          rw [ht] at hz9
          obtain ⟨hr0, hA_Qa⟩ := hw
          have hA_Qa : QAd Qj Qa 1 := hA_Qa
          obtain ⟨hQk_Qa, hGa, hGb, hGd, hR_Qa⟩ := hA_Qa.gq hQk_Qj (by omega) V
          obtain ⟨hG_QaV, hGc, hGs⟩ := hG_QjV.tr hGa (show Qj.R + 1 ≤ Q.R + 8 * (n - i) + 8 by omega) (Nat.zero_le _)
          have hGc := Nat.le_trans (Nat.add_le_add_left hGb _) hGc
          have hGs := Nat.le_trans (Nat.add_le_add_left hGd _) hGs
          have hq1 : szk s.heap H1 (cQ Q V Qa V) (sQ Q V Qa V) := (hq0.trans hz9).mono hGc hGs
          refine w_tight hq1 ?_
          obtain ⟨hP, hD⟩ := va_join (wr := [(qx, .inl (cB, NN, .inl f)), (tv, .inr (12, MF 13 (tw V))), (V.au, .inl (cC, V.U, .inl V.un))]) (w1 := [(mo, .inr (13, MF 30 (rf (rs v Qa o) j b))), (Qa.qq, .inl (cI, (8 * Qa.C), .inl Qa.qf)), (Qa.qe, .inl (cL, (3 * Qa.C), .inr (.inl Qa.ef)))]) hP hD [0, 2, 3] [1, 4, 5] rfl rfl (by decide) (by decide) hk1 hFc hP1 hD1
          generalize H1 = H at hP hS ⊢
          have hP : va_P (dC, dI) classes [(qx, .inl (cB, NN, .inl f)), (tv, .inr (12, MF 13 (tw V))), (V.au, .inl (cC, V.U, .inl V.un)), (mo, .inr (13, MF 30 (rf (rs v Qa o) j b))), (Qa.qq, .inl (cI, (8 * Qa.C), .inl Qa.qf)), (Qa.qe, .inl (cL, (3 * Qa.C), .inr (.inl Qa.ef)))] H := hP
          have hD : va_D A [(qx, .inl (cB, NN, .inl f)), (tv, .inr (12, MF 13 (tw V))), (V.au, .inl (cC, V.U, .inl V.un)), (mo, .inr (13, MF 30 (rf (rs v Qa o) j b))), (Qa.qq, .inl (cI, (8 * Qa.C), .inl Qa.qf)), (Qa.qe, .inl (cL, (3 * Qa.C), .inr (.inl Qa.ef)))] := hD
          have hP := hP.sub (ws' := [(mo, .inr (13, MF 30 (rf (rs v Qa o) j b))), (qx, .inl (cB, NN, .inl f)), (tv, .inr (12, MF 13 (tw V))), (V.au, .inl (cC, V.U, .inl V.un)), (Qa.qq, .inl (cI, (8 * Qa.C), .inl Qa.qf)), (Qa.qe, .inl (cL, (3 * Qa.C), .inr (.inl Qa.ef)))]) [3, 0, 1, 2, 4, 5] rfl
          have hD := hD.sub (ws' := [(mo, .inr (13, MF 30 (rf (rs v Qa o) j b))), (qx, .inl (cB, NN, .inl f)), (tv, .inr (12, MF 13 (tw V))), (V.au, .inl (cC, V.U, .inl V.un)), (Qa.qq, .inl (cI, (8 * Qa.C), .inl Qa.qf)), (Qa.qe, .inl (cL, (3 * Qa.C), .inr (.inl Qa.ef)))]) [3, 0, 1, 2, 4, 5] (by decide) rfl
          have hP := hP.sub (ws' := [(mo, .inr (13, MF 30 (rf (rs v Qa o) j b))), (qx, .inl (cB, NN, .inl f)), (Qa.qq, .inl (cI, (8 * Qa.C), .inl Qa.qf)), (Qa.qe, .inl (cL, (3 * Qa.C), .inr (.inl Qa.ef))), (tv, .inr (12, MF 13 (tw V))), (V.au, .inl (cC, V.U, .inl V.un))]) [0, 1, 4, 5, 2, 3] rfl
          have hD := hD.sub (ws' := [(mo, .inr (13, MF 30 (rf (rs v Qa o) j b))), (qx, .inl (cB, NN, .inl f)), (Qa.qq, .inl (cI, (8 * Qa.C), .inl Qa.qf)), (Qa.qe, .inl (cL, (3 * Qa.C), .inr (.inl Qa.ef))), (tv, .inr (12, MF 13 (tw V))), (V.au, .inl (cC, V.U, .inl V.un))]) [0, 1, 4, 5, 2, 3] (by decide) rfl
          have hr0 : r0 = nI Qj.R := hr0
          subst hr0
          have hqb_QaV : Qa.R ≤ Qa.C ∧ Qa.C ≤ 100000 := ⟨hQk_Qa.2.2.1, hQk_Qa.2.1⟩
          have hfit_QaV := hG_QaV.fits
          have hE_Qa : alr Qj V Qa V 0 Qj.R := ⟨fun r9 k9 _ h1 h2 => hA_Qa.2.2.1 _ (by omega), ⟨fun r9 k9 _ h1 h2 => hA_Qa.2.2.2.1.2 _ (by omega), Nat.le_refl _, fun _ _ => rfl⟩⟩
          refine lv_istore (lv' := [(4, .int (nI Qj.R)), (0, .ref mo), (1, .int (nI y)), (2, .int 1), (3, .int (nI Q.R))]) hx hb d_Mo_segment_164 hl (by decide) rfl (fun ls hl => ?_)
          refine lv_aload_n hx hb d_Mo_segment_166 rfl (lv_at hl 1 rfl) ?_
          refine lv_iload hx hb d_Mo_segment_167 (lv_at hl 0 rfl) ?_
          refine lv_iconst (v := 2) hx hb d_Mo_segment_169 (by decide) ?_
          refine lv_aload_n hx hb d_Mo_segment_170 rfl (lv_at hl 1 rfl) ?_
          refine va_get (D := (dC, dI)) (ci := 13) (v := .ref tv) (C := R_Mo) (T := F_Mo) (N := 30) hx hb hts in_Mo hown hK hP 0 rfl rfl 22 (by decide) (hts _ w_1111) (fun _ h9 => h9) (MFg (by decide) ((rf_ne (by decide) (by decide)).trans ((rs_ne (by decide) (by decide) (by decide) (by decide)).trans h22))) d_Mo_segment_171 ?_
          refine va_get (D := (dC, dI)) (ci := 12) (v := .int (nI V.us)) (C := R_Tree) (T := F_Tree) (N := 13) hx hb hts in_Tree hown hK hP 4 rfl rfl 12 (by decide) (hts _ w_1058) (fun _ h9 => h9) (MFg (by decide) rfl) d_Mo_segment_174 ?_
          refine W.eq (g2 := F0 m 177 ls [.int (nI V.us), .int (nI 2), .int (nI Qj.R), .ref mo]) rfl ?_
          have hPc := hP.sub (ws' := [(mo, .inr (13, MF 30 (rf (rs v Qa o) j b))), (Qa.qq, .inl (cI, (8 * Qa.C), .inl Qa.qf))]) [0, 2] rfl
          have hDc := hD.sub (ws' := [(mo, .inr (13, MF 30 (rf (rs v Qa o) j b))), (Qa.qq, .inl (cI, (8 * Qa.C), .inl Qa.qf))]) [0, 2] (by decide) rfl
          have hKc := hK.sub (tys' := [(cI, .int)]) [1] rfl
          have hFc := va_free (wc := [(mo, .inr (13, MF 30 (rf (rs v Qa o) j b))), (Qa.qq, .inl (cI, (8 * Qa.C), .inl Qa.qf))]) hD hS hA [0, 2] rfl
          refine va_callv (va_runV (As := [.int (nI Qj.R), .int (nI 2), .int (nI V.us)]) (rest := []) ⟨hx, hb, hml, hown, hts⟩ (c_Mo_set l dC dI mo H (rf (rs v Qa o) j b) cI Qa.qq (8 * Qa.C) Qa.qf Qj.R 2 ((nI V.us)) (by omega) (by omega) ((rf_ne (by decide) (by decide)).trans rs_19)) (cwV 3 hts (gt_V (own := R_Mo) (C := R_Mo) (i := 272) (y := y_Mo_set) i_Mo_set w_1411 w_1413 (gt_sel (y := y_Mo_set) (n := 30) (by decide +kernel)) w_7) rfl rfl rfl (by decide +kernel) ⟨Nat.le_trans (m := 9) (Nat.le_of_ble_eq_true rfl) (Nat.le_add_right 9 F), Nat.le_trans (m := 280) (Nat.le_of_ble_eq_true rfl) (Nat.le_add_right 280 L)⟩) ⟨mp_blind, va_recv hKc hPc (ci := 13) (q0 := 0) rfl rfl, fun U hU hW => ⟨rfl, hU, by rw [hU]; exact hPc, va_K.moved hW.alike hKc, hDc.weaken (fun _ _ _ _ => trivial)⟩⟩ rfl rfl hl.1 rfl (lv_room (Nat.le_of_ble_eq_true rfl)) d_Mo_segment_177 ⟨hfit_QaV.1, hfit_QaV.2⟩) hS (fun q _ h => hFc q h) hFc (fun _u t9 H1 locs ht hvm hw hB hz1 hk1 hS => ?_)
          obtain ⟨hP1, hK1, hD1⟩ := hB
          rw [ht] at hP1
          obtain ⟨hP, hD⟩ := va_join (wr := [(qx, .inl (cB, NN, .inl f)), (Qa.qe, .inl (cL, (3 * Qa.C), .inr (.inl Qa.ef))), (tv, .inr (12, MF 13 (tw V))), (V.au, .inl (cC, V.U, .inl V.un))]) (w1 := [(mo, .inr (13, MF 30 (rf (rs v Qa o) j b))), (Qa.qq, .inl (cI, (8 * Qa.C), .inl (upd Qa.qf (8 * Qj.R + 2) ((nI V.us)))))]) hP hD [0, 2] [1, 3, 4, 5] rfl rfl (by decide) (by decide) hk1 hFc hP1 hD1
          generalize H1 = H at hP hS ⊢
          have hP : va_P (dC, dI) classes [(qx, .inl (cB, NN, .inl f)), (Qa.qe, .inl (cL, (3 * Qa.C), .inr (.inl Qa.ef))), (tv, .inr (12, MF 13 (tw V))), (V.au, .inl (cC, V.U, .inl V.un)), (mo, .inr (13, MF 30 (rf (rs v Qa o) j b))), (Qa.qq, .inl (cI, (8 * Qa.C), .inl (upd Qa.qf (8 * Qj.R + 2) ((nI V.us)))))] H := hP
          have hD : va_D A [(qx, .inl (cB, NN, .inl f)), (Qa.qe, .inl (cL, (3 * Qa.C), .inr (.inl Qa.ef))), (tv, .inr (12, MF 13 (tw V))), (V.au, .inl (cC, V.U, .inl V.un)), (mo, .inr (13, MF 30 (rf (rs v Qa o) j b))), (Qa.qq, .inl (cI, (8 * Qa.C), .inl (upd Qa.qf (8 * Qj.R + 2) ((nI V.us)))))] := hD
          have hP := hP.sub (ws' := [(mo, .inr (13, MF 30 (rf (rs v Qa o) j b))), (qx, .inl (cB, NN, .inl f)), (Qa.qq, .inl (cI, (8 * Qa.C), .inl (upd Qa.qf (8 * Qj.R + 2) ((nI V.us))))), (Qa.qe, .inl (cL, (3 * Qa.C), .inr (.inl Qa.ef))), (tv, .inr (12, MF 13 (tw V))), (V.au, .inl (cC, V.U, .inl V.un))]) [4, 0, 5, 1, 2, 3] rfl
          have hD := hD.sub (ws' := [(mo, .inr (13, MF 30 (rf (rs v Qa o) j b))), (qx, .inl (cB, NN, .inl f)), (Qa.qq, .inl (cI, (8 * Qa.C), .inl (upd Qa.qf (8 * Qj.R + 2) ((nI V.us))))), (Qa.qe, .inl (cL, (3 * Qa.C), .inr (.inl Qa.ef))), (tv, .inr (12, MF 13 (tw V))), (V.au, .inl (cC, V.U, .inl V.un))]) [4, 0, 5, 1, 2, 3] (by decide) rfl
          obtain ⟨Qb, e_Qb⟩ : ∃ z : QS, z = QS.wf Qa (upd Qa.qf (8 * Qj.R + 2) ((nI V.us))) := ⟨_, rfl⟩
          have hP : va_P (dC, dI) classes [(mo, .inr (13, MF 30 (rf (rs v Qb o) j b))), (qx, .inl (cB, NN, .inl f)), (Qb.qq, .inl (cI, (8 * Qb.C), .inl Qb.qf)), (Qb.qe, .inl (cL, (3 * Qb.C), .inr (.inl Qb.ef))), (tv, .inr (12, MF 13 (tw V))), (V.au, .inl (cC, V.U, .inl V.un))] H := by subst e_Qb; exact hP
          have hD : va_D A [(mo, .inr (13, MF 30 (rf (rs v Qb o) j b))), (qx, .inl (cB, NN, .inl f)), (Qb.qq, .inl (cI, (8 * Qb.C), .inl Qb.qf)), (Qb.qe, .inl (cL, (3 * Qb.C), .inr (.inl Qb.ef))), (tv, .inr (12, MF 13 (tw V))), (V.au, .inl (cC, V.U, .inl V.un))] := by subst e_Qb; exact hD
          have hf_Qb : Qb.C = Qa.C ∧ Qb.R = Qa.R ∧ Qb.qf = upd Qa.qf (8 * Qj.R + 2) ((nI V.us)) := by rw [e_Qb]; exact ⟨rfl, rfl, rfl⟩
          have he_Qb : Qb.ef = Qa.ef := by rw [e_Qb]; rfl
          have hQk_Qb : QOK Qb := by rw [e_Qb]; exact hQk_Qa
          have hG_QbV : GQ (Q.R + 8 * (n - i) + 8) (V.us + (n + 12 - i)) Q V Qb V := by unfold GQ at hG_QaV ⊢; rw [hf_Qb.1]; exact hG_QaV
          refine w_same (fun hq => ?_)
          refine w_tight (k := cQ Q V Qb V) (n := sQ Q V Qb V) (by unfold cQ sQ at hq ⊢; rw [hf_Qb.1]; exact hq) ?_
          have hR_Qb := hf_Qb.2.1
          have hqb_QbV : Qb.R ≤ Qb.C ∧ Qb.C ≤ 100000 := ⟨hQk_Qb.2.2.1, hQk_Qb.2.1⟩
          have hfit_QbV := hG_QbV.fits
          have hlet : letH (hereV f n j) := by rw [← h_r5]; exact h_t5.1 c145
          have hltj := letH_lt hlet
          refine w_same (fun hq => ?_)
          refine W.widen (k := kcap Q (Q.R + 8 * (n - i) + 8) + qcap V (V.us + (n + 12 - i))) (n := 22 * kcap Q (Q.R + 8 * (n - i) + 8) + 2 * qcap V (V.us + (n + 12 - i))) hfit_QbV.1 hfit_QbV.2 ?_
          refine w_loopH (D := (dC, dI)) (cl := classes) (A := A) (H0 := s.heap) (nL := 5) 180 (σ := TS × Nat × Nat × Int32) (fun ⟨Vc, m9, j2, b2⟩ H => (TX V Vc (nmT_ f n j j2) ∧ (nmT_ f n j j2).map c16 = nmT_ f n j j2) ∧ TOK Vc ∧ GQ (Q.R + 8 * (n - i) + 8) (V.us + (n + 12 - i)) Q V Qb Vc ∧ Vc.us + j = V.us + j2 ∧ j ≤ j2 ∧ j2 ≤ n ∧ n + 1 ≤ m9 + j2 ∧ nmE f n m9 j2 = nmE f n (n + 1) j ∧ szk s.heap H (cQ Q V Qb Vc) (sQ Q V Qb Vc)) (fun ⟨Vc, m9, j2, b2⟩ => n + 1 - j2) (fun ⟨Vc, m9, j2, b2⟩ => [(mo, .inr (13, MF 30 (rf (rs v Qb o) j2 b2))), (qx, .inl (cB, NN, .inl f)), (Qb.qq, .inl (cI, (8 * Qb.C), .inl Qb.qf)), (Qb.qe, .inl (cL, (3 * Qb.C), .inr (.inl Qb.ef))), (tv, .inr (12, MF 13 (tw Vc))), (Vc.au, .inl (cC, Vc.U, .inl Vc.un))]) (fun ⟨Vc, m9, j2, b2⟩ => [(0, .ref mo), (1, .int (nI y)), (2, .int 1), (3, .int (nI Q.R)), (4, .int (nI Qj.R))]) ?_ (V, n + 1, j, b) ⟨⟨by rw [nmT_0]; exact TX.rf hTk_V, by rw [nmT_0]; rfl⟩, hTk_V, hG_QbV, rfl, Nat.le_refl _, hj2, by show n + 1 ≤ n + 1 + j; omega, rfl, hq⟩ hP hD hS (lv_sub hl [1, 2, 3, 4, 0] rfl)
          rintro ⟨Vc, m9, j2, b2⟩ H locs ls hI ih hP hD hS hl
          have hP : va_P (dC, dI) classes [(mo, .inr (13, MF 30 (rf (rs v Qb o) j2 b2))), (qx, .inl (cB, NN, .inl f)), (Qb.qq, .inl (cI, (8 * Qb.C), .inl Qb.qf)), (Qb.qe, .inl (cL, (3 * Qb.C), .inr (.inl Qb.ef))), (tv, .inr (12, MF 13 (tw Vc))), (Vc.au, .inl (cC, Vc.U, .inl Vc.un))] H := hP
          have hD : va_D A [(mo, .inr (13, MF 30 (rf (rs v Qb o) j2 b2))), (qx, .inl (cB, NN, .inl f)), (Qb.qq, .inl (cI, (8 * Qb.C), .inl Qb.qf)), (Qb.qe, .inl (cL, (3 * Qb.C), .inr (.inl Qb.ef))), (tv, .inr (12, MF 13 (tw Vc))), (Vc.au, .inl (cC, Vc.U, .inl Vc.un))] := hD
          have hl : lv_has ls 5 [(0, .ref mo), (1, .int (nI y)), (2, .int 1), (3, .int (nI Q.R)), (4, .int (nI Qj.R))] := hl
          obtain ⟨⟨hXc, hcm⟩, hTk_Vc, hG_QbVc, hI1, hI2, hI3, hI4, hI5, hI6⟩ := hI
          refine w_tight hI6 ?_
          obtain ⟨m0, hm0⟩ : ∃ m0, m9 = m0 + 1 := ⟨m9 - 1, by omega⟩
          have hXcs := hXc.us
          have hqb_QbVc : Qb.R ≤ Qb.C ∧ Qb.C ≤ 100000 := ⟨hQk_Qb.2.2.1, hQk_Qb.2.1⟩
          have hfit_QbVc := hG_QbVc.fits
          refine lv_aload_n hx hb d_Mo_segment_180 rfl (lv_at hl 0 rfl) ?_
          have hPc := hP.sub (ws' := [(mo, .inr (13, MF 30 (rf (rs v Qb o) j2 b2))), (qx, .inl (cB, NN, .inl f))]) [0, 1] rfl
          have hDc := hD.sub (ws' := [(mo, .inr (13, MF 30 (rf (rs v Qb o) j2 b2))), (qx, .inl (cB, NN, .inl f))]) [0, 1] (by decide) rfl
          have hKc := hK.sub (tys' := [(cB, .byte)]) [0] rfl
          have hFc := va_free (wc := [(mo, .inr (13, MF 30 (rf (rs v Qb o) j2 b2))), (qx, .inl (cB, NN, .inl f))]) hD hS hA [0, 1] rfl
          refine va_calli (va_runV (As := []) (rest := []) ⟨hx, hb, hml, hown, hts⟩ (c_Mo_c l dC dI mo H (rf (rs v Qb o) j2 b2) cB qx NN f n j2 (by omega) (by omega) (by omega) ((rf_ne (by decide) (by decide)).trans ((rs_ne (by decide) (by decide) (by decide) (by decide)).trans h6)) rf_7 ((rf_ne (by decide) (by decide)).trans ((rs_ne (by decide) (by decide) (by decide) (by decide)).trans h8))) (cwV 0 hts (gt_V (own := R_Mo) (C := R_Mo) (i := 147) (y := y_Mo_c) i_Mo_c w_1233 w_1235 (gt_sel (y := y_Mo_c) (n := 30) (by decide +kernel)) w_7) rfl rfl rfl (by decide +kernel) ⟨Nat.le_trans (m := 9) (Nat.le_of_ble_eq_true rfl) (Nat.le_add_right 9 F), Nat.le_trans (m := 280) (Nat.le_of_ble_eq_true rfl) (Nat.le_add_right 280 L)⟩) ⟨mp_blind, va_recv hKc hPc (ci := 13) (q0 := 0) rfl rfl, fun U hU hW => ⟨rfl, hU, by rw [hU]; exact hPc, va_K.moved hW.alike hKc, hDc.weaken (fun _ _ _ _ => trivial)⟩⟩ rfl rfl hl.1 rfl (lv_room (Nat.le_of_ble_eq_true rfl)) d_Mo_segment_181 ⟨hfit_QbVc.1, hfit_QbVc.2⟩) hS (fun q _ h => hFc q h) hFc (fun r6 _u t9 H1 locs ht hvm hw hB hz1 hk1 hS => ?_)
          obtain ⟨hP1, hK1, hD1⟩ := hB
          rw [ht] at hP1
          obtain ⟨hP, hD⟩ := va_join (wr := [(Qb.qq, .inl (cI, (8 * Qb.C), .inl Qb.qf)), (Qb.qe, .inl (cL, (3 * Qb.C), .inr (.inl Qb.ef))), (tv, .inr (12, MF 13 (tw Vc))), (Vc.au, .inl (cC, Vc.U, .inl Vc.un))]) (w1 := [(mo, .inr (13, MF 30 (rf (rs v Qb o) j2 b2))), (qx, .inl (cB, NN, .inl f))]) hP hD [0, 1] [2, 3, 4, 5] rfl rfl (by decide) (by decide) hk1 hFc hP1 hD1
          generalize H1 = H at hP hS ⊢
          have hP : va_P (dC, dI) classes [(Qb.qq, .inl (cI, (8 * Qb.C), .inl Qb.qf)), (Qb.qe, .inl (cL, (3 * Qb.C), .inr (.inl Qb.ef))), (tv, .inr (12, MF 13 (tw Vc))), (Vc.au, .inl (cC, Vc.U, .inl Vc.un)), (mo, .inr (13, MF 30 (rf (rs v Qb o) j2 b2))), (qx, .inl (cB, NN, .inl f))] H := hP
          have hD : va_D A [(Qb.qq, .inl (cI, (8 * Qb.C), .inl Qb.qf)), (Qb.qe, .inl (cL, (3 * Qb.C), .inr (.inl Qb.ef))), (tv, .inr (12, MF 13 (tw Vc))), (Vc.au, .inl (cC, Vc.U, .inl Vc.un)), (mo, .inr (13, MF 30 (rf (rs v Qb o) j2 b2))), (qx, .inl (cB, NN, .inl f))] := hD
          have hP := hP.sub (ws' := [(mo, .inr (13, MF 30 (rf (rs v Qb o) j2 b2))), (qx, .inl (cB, NN, .inl f)), (Qb.qq, .inl (cI, (8 * Qb.C), .inl Qb.qf)), (Qb.qe, .inl (cL, (3 * Qb.C), .inr (.inl Qb.ef))), (tv, .inr (12, MF 13 (tw Vc))), (Vc.au, .inl (cC, Vc.U, .inl Vc.un))]) [4, 5, 0, 1, 2, 3] rfl
          have hD := hD.sub (ws' := [(mo, .inr (13, MF 30 (rf (rs v Qb o) j2 b2))), (qx, .inl (cB, NN, .inl f)), (Qb.qq, .inl (cI, (8 * Qb.C), .inl Qb.qf)), (Qb.qe, .inl (cL, (3 * Qb.C), .inr (.inl Qb.ef))), (tv, .inr (12, MF 13 (tw Vc))), (Vc.au, .inl (cC, Vc.U, .inl Vc.un))]) [4, 5, 0, 1, 2, 3] (by decide) rfl
          have h_r6 : r6 = hereV f n j2 := hw
          have hPc := hP.sub (ws' := []) [] rfl
          have hDc := hD.sub (ws' := []) [] (by decide) rfl
          have hKc := hK.sub (tys' := []) [] rfl
          have hFc := va_free (wc := []) hD hS hA [] rfl
          refine va_calli (va_runS (As := [.int r6]) (rest := []) ⟨hx, hb, hml, hown, hts⟩ (c_Mo_letter l dC dI H r6) (va_cwS 1 hts (gt_S (own := R_Mo) (i := 283) (y := y_Mo_letter) i_Mo_letter w_1478 w_1479 w_7) rfl rfl rfl (by decide +kernel) ⟨Nat.le_trans (m := 9) (Nat.le_of_ble_eq_true rfl) (Nat.le_add_right 9 F), Nat.le_trans (m := 280) (Nat.le_of_ble_eq_true rfl) (Nat.le_add_right 280 L)⟩) ⟨mp_blind, fun U hU hW => ⟨rfl, hU, by rw [hU]; exact hPc, va_K.moved hW.alike hKc, hDc.weaken (fun _ _ _ _ => trivial)⟩⟩ rfl rfl hl.1 rfl (lv_room (Nat.le_of_ble_eq_true rfl)) d_Mo_segment_184 ⟨hfit_QbVc.1, hfit_QbVc.2⟩) hS (fun q _ h => hFc q h) hFc (fun t6 _u t9 H1 locs ht hvm hw hB hz1 hk1 hS => ?_)
          obtain ⟨hP1, hK1, hD1⟩ := hB
          rw [ht] at hP1
          obtain ⟨hP, hD⟩ := va_join (wr := [(mo, .inr (13, MF 30 (rf (rs v Qb o) j2 b2))), (qx, .inl (cB, NN, .inl f)), (Qb.qq, .inl (cI, (8 * Qb.C), .inl Qb.qf)), (Qb.qe, .inl (cL, (3 * Qb.C), .inr (.inl Qb.ef))), (tv, .inr (12, MF 13 (tw Vc))), (Vc.au, .inl (cC, Vc.U, .inl Vc.un))]) (w1 := []) hP hD [] [0, 1, 2, 3, 4, 5] rfl rfl (by decide) (by decide) hk1 hFc hP1 hD1
          generalize H1 = H at hP hS ⊢
          have hP : va_P (dC, dI) classes [(mo, .inr (13, MF 30 (rf (rs v Qb o) j2 b2))), (qx, .inl (cB, NN, .inl f)), (Qb.qq, .inl (cI, (8 * Qb.C), .inl Qb.qf)), (Qb.qe, .inl (cL, (3 * Qb.C), .inr (.inl Qb.ef))), (tv, .inr (12, MF 13 (tw Vc))), (Vc.au, .inl (cC, Vc.U, .inl Vc.un))] H := hP
          have hD : va_D A [(mo, .inr (13, MF 30 (rf (rs v Qb o) j2 b2))), (qx, .inl (cB, NN, .inl f)), (Qb.qq, .inl (cI, (8 * Qb.C), .inl Qb.qf)), (Qb.qe, .inl (cL, (3 * Qb.C), .inr (.inl Qb.ef))), (tv, .inr (12, MF 13 (tw Vc))), (Vc.au, .inl (cC, Vc.U, .inl Vc.un))] := hD
          have h_t6 := lt_01 hw
          refine lv_if_ne (tgt := 200) hx hb d_Mo_segment_187 (by decide) (fun c187 => ?_) (fun c187 => ?_)
          · have hgo : letH (hereV f n j2) ∨ digH (hereV f n j2) := Or.inl (by rw [← h_r6]; exact h_t6.1 c187)
            have hltg : j2 < n := hgo.elim letH_lt digH_lt
            refine lv_aload_n hx hb d_Mo_segment_200 rfl (lv_at hl 0 rfl) ?_
            refine va_get (D := (dC, dI)) (ci := 13) (v := .ref tv) (C := R_Mo) (T := F_Mo) (N := 30) hx hb hts in_Mo hown hK hP 0 rfl rfl 22 (by decide) (hts _ w_1111) (fun _ h9 => h9) (MFg (by decide) ((rf_ne (by decide) (by decide)).trans ((rs_ne (by decide) (by decide) (by decide) (by decide)).trans h22))) d_Mo_segment_201 ?_
            refine lv_aload_n hx hb d_Mo_segment_204 rfl (lv_at hl 0 rfl) ?_
            have hPc := hP.sub (ws' := [(mo, .inr (13, MF 30 (rf (rs v Qb o) j2 b2))), (qx, .inl (cB, NN, .inl f))]) [0, 1] rfl
            have hDc := hD.sub (ws' := [(mo, .inr (13, MF 30 (rf (rs v Qb o) j2 b2))), (qx, .inl (cB, NN, .inl f))]) [0, 1] (by decide) rfl
            have hKc := hK.sub (tys' := [(cB, .byte)]) [0] rfl
            have hFc := va_free (wc := [(mo, .inr (13, MF 30 (rf (rs v Qb o) j2 b2))), (qx, .inl (cB, NN, .inl f))]) hD hS hA [0, 1] rfl
            refine va_calli (va_runV (As := []) (rest := [.ref tv]) ⟨hx, hb, hml, hown, hts⟩ (c_Mo_c l dC dI mo H (rf (rs v Qb o) j2 b2) cB qx NN f n j2 (by omega) (by omega) (by omega) ((rf_ne (by decide) (by decide)).trans ((rs_ne (by decide) (by decide) (by decide) (by decide)).trans h6)) rf_7 ((rf_ne (by decide) (by decide)).trans ((rs_ne (by decide) (by decide) (by decide) (by decide)).trans h8))) (cwV 0 hts (gt_V (own := R_Mo) (C := R_Mo) (i := 147) (y := y_Mo_c) i_Mo_c w_1233 w_1235 (gt_sel (y := y_Mo_c) (n := 30) (by decide +kernel)) w_7) rfl rfl rfl (by decide +kernel) ⟨Nat.le_trans (m := 9) (Nat.le_of_ble_eq_true rfl) (Nat.le_add_right 9 F), Nat.le_trans (m := 280) (Nat.le_of_ble_eq_true rfl) (Nat.le_add_right 280 L)⟩) ⟨mp_blind, va_recv hKc hPc (ci := 13) (q0 := 0) rfl rfl, fun U hU hW => ⟨rfl, hU, by rw [hU]; exact hPc, va_K.moved hW.alike hKc, hDc.weaken (fun _ _ _ _ => trivial)⟩⟩ rfl rfl hl.1 rfl (lv_room (Nat.le_of_ble_eq_true rfl)) d_Mo_segment_205 ⟨hfit_QbVc.1, hfit_QbVc.2⟩) hS (fun q _ h => hFc q h) hFc (fun r8 _u t9 H1 locs ht hvm hw hB hz1 hk1 hS => ?_)
            obtain ⟨hP1, hK1, hD1⟩ := hB
            rw [ht] at hP1
            obtain ⟨hP, hD⟩ := va_join (wr := [(Qb.qq, .inl (cI, (8 * Qb.C), .inl Qb.qf)), (Qb.qe, .inl (cL, (3 * Qb.C), .inr (.inl Qb.ef))), (tv, .inr (12, MF 13 (tw Vc))), (Vc.au, .inl (cC, Vc.U, .inl Vc.un))]) (w1 := [(mo, .inr (13, MF 30 (rf (rs v Qb o) j2 b2))), (qx, .inl (cB, NN, .inl f))]) hP hD [0, 1] [2, 3, 4, 5] rfl rfl (by decide) (by decide) hk1 hFc hP1 hD1
            generalize H1 = H at hP hS ⊢
            have hP : va_P (dC, dI) classes [(Qb.qq, .inl (cI, (8 * Qb.C), .inl Qb.qf)), (Qb.qe, .inl (cL, (3 * Qb.C), .inr (.inl Qb.ef))), (tv, .inr (12, MF 13 (tw Vc))), (Vc.au, .inl (cC, Vc.U, .inl Vc.un)), (mo, .inr (13, MF 30 (rf (rs v Qb o) j2 b2))), (qx, .inl (cB, NN, .inl f))] H := hP
            have hD : va_D A [(Qb.qq, .inl (cI, (8 * Qb.C), .inl Qb.qf)), (Qb.qe, .inl (cL, (3 * Qb.C), .inr (.inl Qb.ef))), (tv, .inr (12, MF 13 (tw Vc))), (Vc.au, .inl (cC, Vc.U, .inl Vc.un)), (mo, .inr (13, MF 30 (rf (rs v Qb o) j2 b2))), (qx, .inl (cB, NN, .inl f))] := hD
            have hP := hP.sub (ws' := [(mo, .inr (13, MF 30 (rf (rs v Qb o) j2 b2))), (qx, .inl (cB, NN, .inl f)), (Qb.qq, .inl (cI, (8 * Qb.C), .inl Qb.qf)), (Qb.qe, .inl (cL, (3 * Qb.C), .inr (.inl Qb.ef))), (tv, .inr (12, MF 13 (tw Vc))), (Vc.au, .inl (cC, Vc.U, .inl Vc.un))]) [4, 5, 0, 1, 2, 3] rfl
            have hD := hD.sub (ws' := [(mo, .inr (13, MF 30 (rf (rs v Qb o) j2 b2))), (qx, .inl (cB, NN, .inl f)), (Qb.qq, .inl (cI, (8 * Qb.C), .inl Qb.qf)), (Qb.qe, .inl (cL, (3 * Qb.C), .inr (.inl Qb.ef))), (tv, .inr (12, MF 13 (tw Vc))), (Vc.au, .inl (cC, Vc.U, .inl Vc.un))]) [4, 5, 0, 1, 2, 3] (by decide) rfl
            have h_r8 : r8 = hereV f n j2 := hw
            have hPc := hP.sub (ws' := [(tv, .inr (12, MF 13 (tw Vc))), (Vc.au, .inl (cC, Vc.U, .inl Vc.un))]) [4, 5] rfl
            have hDc := hD.sub (ws' := [(tv, .inr (12, MF 13 (tw Vc))), (Vc.au, .inl (cC, Vc.U, .inl Vc.un))]) [4, 5] (by decide) rfl
            have hKc := hK.sub (tys' := [(cC, .char)]) [3] rfl
            have hFc := va_free (wc := [(tv, .inr (12, MF 13 (tw Vc))), (Vc.au, .inl (cC, Vc.U, .inl Vc.un))]) hD hS hA [4, 5] rfl
            refine w_same (fun hq0 => ?_)
            refine va_callv (va_runV (As := [.int r8]) (rest := []) ⟨hx, hb, hml, hown, hts⟩ (c_Tree_unitT l dC dI tv H cC Vc r8 hTk_Vc) (cwV 1 hts (gt_V (own := R_Mo) (C := R_Tree) (i := 177) (y := y_Tree_unit) i_Tree_unit w_1265 w_1266 w_1267 w_8) rfl rfl rfl (by decide +kernel) ⟨Nat.le_trans (m := 9) (Nat.le_of_ble_eq_true rfl) (Nat.le_add_right 9 F), Nat.le_trans (m := 280) (Nat.le_of_ble_eq_true rfl) (Nat.le_add_right 280 L)⟩) ⟨mp_blind, va_recv hKc hPc (ci := 12) (q0 := 0) rfl rfl, fun U hU hW => ⟨rfl, hU, by rw [hU]; exact hPc, va_K.moved hW.alike hKc, hDc.weaken (fun _ _ _ _ => trivial)⟩⟩ rfl rfl hl.1 rfl (lv_room (Nat.le_of_ble_eq_true rfl)) d_Mo_segment_208 ⟨(uq_fit hG_QbVc (by omega)).1, (uq_fit hG_QbVc (by omega)).2⟩) hS (fun q _ h => hFc q h) hFc (fun Vn t9 H1 locs ht hvm hw hB hz1 hk1 hS => ?_)
            obtain ⟨⟨hP1, hK1, hD1⟩, hz9⟩ := hB
            rw [ht] at hP1
            rw [ht] at hz9
            have hX_Vn : TX Vc Vn [r8] := hw
            have hXs_Vn := hX_Vn.us
            rw [List.length_singleton] at hXs_Vn
            obtain ⟨hG_QbVn, hGc, hGs⟩ := hG_QbVc.tr (hX_Vn.gq Qb).1 (Nat.zero_le _) (show Vc.us + 1 ≤ V.us + (n + 12 - i) by omega)
            rw [← (hX_Vn.gq Qb).2.1] at hGc
            rw [← (hX_Vn.gq Qb).2.2] at hGs
            have hq1 : szk s.heap H1 (cQ Q V Qb Vn) (sQ Q V Qb Vn) := (hq0.trans hz9).mono hGc hGs
            refine w_tight hq1 ?_
            obtain ⟨hP, hD⟩ := va_join (wr := [(mo, .inr (13, MF 30 (rf (rs v Qb o) j2 b2))), (qx, .inl (cB, NN, .inl f)), (Qb.qq, .inl (cI, (8 * Qb.C), .inl Qb.qf)), (Qb.qe, .inl (cL, (3 * Qb.C), .inr (.inl Qb.ef)))]) (w1 := [(tv, .inr (12, MF 13 (tw Vn))), (Vn.au, .inl (cC, Vn.U, .inl Vn.un))]) hP hD [4, 5] [0, 1, 2, 3] rfl rfl (by decide) (by decide) hk1 hFc hP1 hD1
            generalize H1 = H at hP hS ⊢
            have hP : va_P (dC, dI) classes [(mo, .inr (13, MF 30 (rf (rs v Qb o) j2 b2))), (qx, .inl (cB, NN, .inl f)), (Qb.qq, .inl (cI, (8 * Qb.C), .inl Qb.qf)), (Qb.qe, .inl (cL, (3 * Qb.C), .inr (.inl Qb.ef))), (tv, .inr (12, MF 13 (tw Vn))), (Vn.au, .inl (cC, Vn.U, .inl Vn.un))] H := hP
            have hD : va_D A [(mo, .inr (13, MF 30 (rf (rs v Qb o) j2 b2))), (qx, .inl (cB, NN, .inl f)), (Qb.qq, .inl (cI, (8 * Qb.C), .inl Qb.qf)), (Qb.qe, .inl (cL, (3 * Qb.C), .inr (.inl Qb.ef))), (tv, .inr (12, MF 13 (tw Vn))), (Vn.au, .inl (cC, Vn.U, .inl Vn.un))] := hD
            have hP := hP.sub (ws' := [(mo, .inr (13, MF 30 (rf (rs v Qb o) j2 b2))), (qx, .inl (cB, NN, .inl f)), (Qb.qq, .inl (cI, (8 * Qb.C), .inl Qb.qf)), (Qb.qe, .inl (cL, (3 * Qb.C), .inr (.inl Qb.ef))), (tv, .inr (12, MF 13 (tw Vn))), (Vn.au, .inl (cC, Vn.U, .inl Vn.un))]) [0, 1, 2, 3, 4, 5] rfl
            have hD := hD.sub (ws' := [(mo, .inr (13, MF 30 (rf (rs v Qb o) j2 b2))), (qx, .inl (cB, NN, .inl f)), (Qb.qq, .inl (cI, (8 * Qb.C), .inl Qb.qf)), (Qb.qe, .inl (cL, (3 * Qb.C), .inr (.inl Qb.ef))), (tv, .inr (12, MF 13 (tw Vn))), (Vn.au, .inl (cC, Vn.U, .inl Vn.un))]) [0, 1, 2, 3, 4, 5] (by decide) rfl
            have hTk_Vn := hX_Vn.ok hTk_Vc (by rw [List.length_singleton]; omega)
            have hqb_QbVn : Qb.R ≤ Qb.C ∧ Qb.C ≤ 100000 := ⟨hQk_Qb.2.2.1, hQk_Qb.2.1⟩
            have hfit_QbVn := hG_QbVn.fits
            refine lv_aload_n hx hb d_Mo_segment_211 rfl (lv_at hl 0 rfl) ?_
            refine lv_dup hx hb d_Mo_segment_212 rfl ?_
            refine va_get (D := (dC, dI)) (ci := 13) (v := .int (nI j2)) (C := R_Mo) (T := F_Mo) (N := 30) hx hb hts in_Mo hown hK hP 0 rfl rfl 7 (by decide) (hts _ w_1096) (fun _ h9 => h9) (MFg (by decide) rf_7) d_Mo_segment_213 ?_
            refine lv_iconst (v := 1) hx hb d_Mo_segment_216 (by decide) ?_
            refine lv_iadd hx hb d_Mo_segment_217 ?_
            refine W.eq (g2 := F0 m 218 ls [.int (nI (j2 + 1)), .ref mo]) (by rw [show ((nI j2) + 1) = (nI (j2 + 1)) from nI_1 _]) ?_
            refine va_put (D := (dC, dI)) (ci := 13) (v := .int (nI (j2 + 1))) (ty := .int) (C := R_Mo) (T := F_Mo) (N := 30) hx hb hts in_Mo t_Mo t_Mo_ok n_Mo hown hK hP hD hS 0 rfl rfl 7 (by decide) (hts _ w_1096) (fun _ h9 => h9) rfl (by decide +kernel) rfl rfl (by rw [MFl]; decide) d_Mo_segment_218 (fun H locs hP hD hS => ?_)
            rw [MFs (n := 30) (k := 7) (by decide)] at hP hD
            have hP : va_P (dC, dI) classes [(mo, .inr (13, MF 30 (va_up (rf (rs v Qb o) j2 b2) 7 (.int (nI (j2 + 1)))))), (qx, .inl (cB, NN, .inl f)), (Qb.qq, .inl (cI, (8 * Qb.C), .inl Qb.qf)), (Qb.qe, .inl (cL, (3 * Qb.C), .inr (.inl Qb.ef))), (tv, .inr (12, MF 13 (tw Vn))), (Vn.au, .inl (cC, Vn.U, .inl Vn.un))] H := hP
            have hD : va_D A [(mo, .inr (13, MF 30 (va_up (rf (rs v Qb o) j2 b2) 7 (.int (nI (j2 + 1)))))), (qx, .inl (cB, NN, .inl f)), (Qb.qq, .inl (cI, (8 * Qb.C), .inl Qb.qf)), (Qb.qe, .inl (cL, (3 * Qb.C), .inr (.inl Qb.ef))), (tv, .inr (12, MF 13 (tw Vn))), (Vn.au, .inl (cC, Vn.U, .inl Vn.un))] := hD
            rw [rf_u7] at hP hD
            have hP : va_P (dC, dI) classes [(mo, .inr (13, MF 30 (rf (rs v Qb o) (j2 + 1) b2))), (qx, .inl (cB, NN, .inl f)), (Qb.qq, .inl (cI, (8 * Qb.C), .inl Qb.qf)), (Qb.qe, .inl (cL, (3 * Qb.C), .inr (.inl Qb.ef))), (tv, .inr (12, MF 13 (tw Vn))), (Vn.au, .inl (cC, Vn.U, .inl Vn.un))] H := hP
            have hD : va_D A [(mo, .inr (13, MF 30 (rf (rs v Qb o) (j2 + 1) b2))), (qx, .inl (cB, NN, .inl f)), (Qb.qq, .inl (cI, (8 * Qb.C), .inl Qb.qf)), (Qb.qe, .inl (cL, (3 * Qb.C), .inr (.inl Qb.ef))), (tv, .inr (12, MF 13 (tw Vn))), (Vn.au, .inl (cC, Vn.U, .inl Vn.un))] := hD
            refine lv_goto (tgt := 180) hx hb d_Mo_segment_221 (by decide) ?_
            refine w_same (fun hq => ?_)
            refine W.widen (k := kcap Q (Q.R + 8 * (n - i) + 8) + qcap V (V.us + (n + 12 - i))) (n := 22 * kcap Q (Q.R + 8 * (n - i) + 8) + 2 * qcap V (V.us + (n + 12 - i))) hfit_QbVn.1 hfit_QbVn.2 ?_
            have hst : nmE f n m0 (j2 + 1) = nmE f n (n + 1) j := by rw [← hI5, hm0]; exact (nmE_s hgo).symm
            have hX2 : TX V Vn (nmT_ f n j (j2 + 1)) := by rw [nmT_s hI2, ← h_r8]; exact hXc.trans hX_Vn
            have hcm2 : (nmT_ f n j (j2 + 1)).map c16 = nmT_ f n j (j2 + 1) := by rw [nmT_s hI2, List.map_append, hcm, List.map_singleton, c16_id (letdig_b hgo).1 (Int32.le_trans (letdig_b hgo).2 (by decide))]
            exact ih (Vn, m0, j2 + 1, b2) _ _ _ ⟨⟨hX2, hcm2⟩, hTk_Vn, hG_QbVn, by show Vn.us + j = V.us + (j2 + 1); omega, by omega, by omega, by omega, hst, hq⟩ (by show n + 1 - (j2 + 1) < n + 1 - j2; omega) hP hD hS (lv_sub hl [0, 1, 2, 3, 4] rfl)
          · refine lv_aload_n hx hb d_Mo_segment_190 rfl (lv_at hl 0 rfl) ?_
            have hPc := hP.sub (ws' := [(mo, .inr (13, MF 30 (rf (rs v Qb o) j2 b2))), (qx, .inl (cB, NN, .inl f))]) [0, 1] rfl
            have hDc := hD.sub (ws' := [(mo, .inr (13, MF 30 (rf (rs v Qb o) j2 b2))), (qx, .inl (cB, NN, .inl f))]) [0, 1] (by decide) rfl
            have hKc := hK.sub (tys' := [(cB, .byte)]) [0] rfl
            have hFc := va_free (wc := [(mo, .inr (13, MF 30 (rf (rs v Qb o) j2 b2))), (qx, .inl (cB, NN, .inl f))]) hD hS hA [0, 1] rfl
            refine va_calli (va_runV (As := []) (rest := []) ⟨hx, hb, hml, hown, hts⟩ (c_Mo_c l dC dI mo H (rf (rs v Qb o) j2 b2) cB qx NN f n j2 (by omega) (by omega) (by omega) ((rf_ne (by decide) (by decide)).trans ((rs_ne (by decide) (by decide) (by decide) (by decide)).trans h6)) rf_7 ((rf_ne (by decide) (by decide)).trans ((rs_ne (by decide) (by decide) (by decide) (by decide)).trans h8))) (cwV 0 hts (gt_V (own := R_Mo) (C := R_Mo) (i := 147) (y := y_Mo_c) i_Mo_c w_1233 w_1235 (gt_sel (y := y_Mo_c) (n := 30) (by decide +kernel)) w_7) rfl rfl rfl (by decide +kernel) ⟨Nat.le_trans (m := 9) (Nat.le_of_ble_eq_true rfl) (Nat.le_add_right 9 F), Nat.le_trans (m := 280) (Nat.le_of_ble_eq_true rfl) (Nat.le_add_right 280 L)⟩) ⟨mp_blind, va_recv hKc hPc (ci := 13) (q0 := 0) rfl rfl, fun U hU hW => ⟨rfl, hU, by rw [hU]; exact hPc, va_K.moved hW.alike hKc, hDc.weaken (fun _ _ _ _ => trivial)⟩⟩ rfl rfl hl.1 rfl (lv_room (Nat.le_of_ble_eq_true rfl)) d_Mo_segment_191 ⟨hfit_QbVc.1, hfit_QbVc.2⟩) hS (fun q _ h => hFc q h) hFc (fun r7 _u t9 H1 locs ht hvm hw hB hz1 hk1 hS => ?_)
            obtain ⟨hP1, hK1, hD1⟩ := hB
            rw [ht] at hP1
            obtain ⟨hP, hD⟩ := va_join (wr := [(Qb.qq, .inl (cI, (8 * Qb.C), .inl Qb.qf)), (Qb.qe, .inl (cL, (3 * Qb.C), .inr (.inl Qb.ef))), (tv, .inr (12, MF 13 (tw Vc))), (Vc.au, .inl (cC, Vc.U, .inl Vc.un))]) (w1 := [(mo, .inr (13, MF 30 (rf (rs v Qb o) j2 b2))), (qx, .inl (cB, NN, .inl f))]) hP hD [0, 1] [2, 3, 4, 5] rfl rfl (by decide) (by decide) hk1 hFc hP1 hD1
            generalize H1 = H at hP hS ⊢
            have hP : va_P (dC, dI) classes [(Qb.qq, .inl (cI, (8 * Qb.C), .inl Qb.qf)), (Qb.qe, .inl (cL, (3 * Qb.C), .inr (.inl Qb.ef))), (tv, .inr (12, MF 13 (tw Vc))), (Vc.au, .inl (cC, Vc.U, .inl Vc.un)), (mo, .inr (13, MF 30 (rf (rs v Qb o) j2 b2))), (qx, .inl (cB, NN, .inl f))] H := hP
            have hD : va_D A [(Qb.qq, .inl (cI, (8 * Qb.C), .inl Qb.qf)), (Qb.qe, .inl (cL, (3 * Qb.C), .inr (.inl Qb.ef))), (tv, .inr (12, MF 13 (tw Vc))), (Vc.au, .inl (cC, Vc.U, .inl Vc.un)), (mo, .inr (13, MF 30 (rf (rs v Qb o) j2 b2))), (qx, .inl (cB, NN, .inl f))] := hD
            have hP := hP.sub (ws' := [(mo, .inr (13, MF 30 (rf (rs v Qb o) j2 b2))), (qx, .inl (cB, NN, .inl f)), (Qb.qq, .inl (cI, (8 * Qb.C), .inl Qb.qf)), (Qb.qe, .inl (cL, (3 * Qb.C), .inr (.inl Qb.ef))), (tv, .inr (12, MF 13 (tw Vc))), (Vc.au, .inl (cC, Vc.U, .inl Vc.un))]) [4, 5, 0, 1, 2, 3] rfl
            have hD := hD.sub (ws' := [(mo, .inr (13, MF 30 (rf (rs v Qb o) j2 b2))), (qx, .inl (cB, NN, .inl f)), (Qb.qq, .inl (cI, (8 * Qb.C), .inl Qb.qf)), (Qb.qe, .inl (cL, (3 * Qb.C), .inr (.inl Qb.ef))), (tv, .inr (12, MF 13 (tw Vc))), (Vc.au, .inl (cC, Vc.U, .inl Vc.un))]) [4, 5, 0, 1, 2, 3] (by decide) rfl
            have h_r7 : r7 = hereV f n j2 := hw
            have hPc := hP.sub (ws' := []) [] rfl
            have hDc := hD.sub (ws' := []) [] (by decide) rfl
            have hKc := hK.sub (tys' := []) [] rfl
            have hFc := va_free (wc := []) hD hS hA [] rfl
            refine va_calli (va_runS (As := [.int r7]) (rest := []) ⟨hx, hb, hml, hown, hts⟩ (c_Mo_digit l dC dI H r7) (va_cwS 1 hts (gt_S (own := R_Mo) (i := 166) (y := y_Mo_digit) i_Mo_digit w_1332 w_1333 w_7) rfl rfl rfl (by decide +kernel) ⟨Nat.le_trans (m := 9) (Nat.le_of_ble_eq_true rfl) (Nat.le_add_right 9 F), Nat.le_trans (m := 280) (Nat.le_of_ble_eq_true rfl) (Nat.le_add_right 280 L)⟩) ⟨mp_blind, fun U hU hW => ⟨rfl, hU, by rw [hU]; exact hPc, va_K.moved hW.alike hKc, hDc.weaken (fun _ _ _ _ => trivial)⟩⟩ rfl rfl hl.1 rfl (lv_room (Nat.le_of_ble_eq_true rfl)) d_Mo_segment_194 ⟨hfit_QbVc.1, hfit_QbVc.2⟩) hS (fun q _ h => hFc q h) hFc (fun d7 _u t9 H1 locs ht hvm hw hB hz1 hk1 hS => ?_)
            obtain ⟨hP1, hK1, hD1⟩ := hB
            rw [ht] at hP1
            obtain ⟨hP, hD⟩ := va_join (wr := [(mo, .inr (13, MF 30 (rf (rs v Qb o) j2 b2))), (qx, .inl (cB, NN, .inl f)), (Qb.qq, .inl (cI, (8 * Qb.C), .inl Qb.qf)), (Qb.qe, .inl (cL, (3 * Qb.C), .inr (.inl Qb.ef))), (tv, .inr (12, MF 13 (tw Vc))), (Vc.au, .inl (cC, Vc.U, .inl Vc.un))]) (w1 := []) hP hD [] [0, 1, 2, 3, 4, 5] rfl rfl (by decide) (by decide) hk1 hFc hP1 hD1
            generalize H1 = H at hP hS ⊢
            have hP : va_P (dC, dI) classes [(mo, .inr (13, MF 30 (rf (rs v Qb o) j2 b2))), (qx, .inl (cB, NN, .inl f)), (Qb.qq, .inl (cI, (8 * Qb.C), .inl Qb.qf)), (Qb.qe, .inl (cL, (3 * Qb.C), .inr (.inl Qb.ef))), (tv, .inr (12, MF 13 (tw Vc))), (Vc.au, .inl (cC, Vc.U, .inl Vc.un))] H := hP
            have hD : va_D A [(mo, .inr (13, MF 30 (rf (rs v Qb o) j2 b2))), (qx, .inl (cB, NN, .inl f)), (Qb.qq, .inl (cI, (8 * Qb.C), .inl Qb.qf)), (Qb.qe, .inl (cL, (3 * Qb.C), .inr (.inl Qb.ef))), (tv, .inr (12, MF 13 (tw Vc))), (Vc.au, .inl (cC, Vc.U, .inl Vc.un))] := hD
            have h_d7 := dg_01 hw
            refine lv_if_eq (tgt := 224) hx hb d_Mo_segment_197 (by decide) (fun c197 => ?_) (fun c197 => ?_)
            · have hng : ¬ (letH (hereV f n j2) ∨ digH (hereV f n j2)) := fun h => h.elim (by rw [← h_r6]; exact h_t6.2 c187) (by rw [← h_r7]; exact h_d7.2 c197)
              have hne : ¬ j2 = j := fun h => hng (by rw [h]; exact Or.inl hlet)
              have hnm : nmE f n (n + 1) j = j2 := by rw [← hI5, hm0]; exact nmE_e hng
              obtain ⟨ln, hln⟩ : ∃ ln, Vc.us = V.us + ln := ⟨Vc.us - V.us, by omega⟩
              refine lv_aload_n hx hb d_Mo_segment_224 rfl (lv_at hl 0 rfl) ?_
              refine lv_iload hx hb d_Mo_segment_225 (lv_at hl 4 rfl) ?_
              refine lv_iconst (v := 3) hx hb d_Mo_segment_227 (by decide) ?_
              refine lv_aload_n hx hb d_Mo_segment_228 rfl (lv_at hl 0 rfl) ?_
              refine va_get (D := (dC, dI)) (ci := 13) (v := .ref tv) (C := R_Mo) (T := F_Mo) (N := 30) hx hb hts in_Mo hown hK hP 0 rfl rfl 22 (by decide) (hts _ w_1111) (fun _ h9 => h9) (MFg (by decide) ((rf_ne (by decide) (by decide)).trans ((rs_ne (by decide) (by decide) (by decide) (by decide)).trans h22))) d_Mo_segment_229 ?_
              refine va_get (D := (dC, dI)) (ci := 12) (v := .int (nI Vc.us)) (C := R_Tree) (T := F_Tree) (N := 13) hx hb hts in_Tree hown hK hP 4 rfl rfl 12 (by decide) (hts _ w_1058) (fun _ h9 => h9) (MFg (by decide) rfl) d_Mo_segment_232 ?_
              refine lv_aload_n hx hb d_Mo_segment_235 rfl (lv_at hl 0 rfl) ?_
              refine lv_iload hx hb d_Mo_segment_236 (lv_at hl 4 rfl) ?_
              refine lv_iconst (v := 2) hx hb d_Mo_segment_238 (by decide) ?_
              refine W.eq (g2 := F0 m 239 ls [.int (nI 2), .int (nI Qj.R), .ref mo, .int (nI Vc.us), .int 3, .int (nI Qj.R), .ref mo]) rfl ?_
              have hPc := hP.sub (ws' := [(mo, .inr (13, MF 30 (rf (rs v Qb o) j2 b2))), (Qb.qq, .inl (cI, (8 * Qb.C), .inl Qb.qf))]) [0, 2] rfl
              have hDc := hD.sub (ws' := [(mo, .inr (13, MF 30 (rf (rs v Qb o) j2 b2))), (Qb.qq, .inl (cI, (8 * Qb.C), .inl Qb.qf))]) [0, 2] (by decide) rfl
              have hKc := hK.sub (tys' := [(cI, .int)]) [1] rfl
              have hFc := va_free (wc := [(mo, .inr (13, MF 30 (rf (rs v Qb o) j2 b2))), (Qb.qq, .inl (cI, (8 * Qb.C), .inl Qb.qf))]) hD hS hA [0, 2] rfl
              refine va_calli (va_runV (As := [.int (nI Qj.R), .int (nI 2)]) (rest := [.int (nI Vc.us), .int 3, .int (nI Qj.R), .ref mo]) ⟨hx, hb, hml, hown, hts⟩ (c_Mo_field l dC dI mo H (rf (rs v Qb o) j2 b2) cI Qb.qq (8 * Qb.C) Qb.qf Qj.R 2 (by omega) (by omega) ((rf_ne (by decide) (by decide)).trans rs_19)) (cwV 2 hts (gt_V (own := R_Mo) (C := R_Mo) (i := 286) (y := y_Mo_field) i_Mo_field w_1431 w_1433 (gt_sel (y := y_Mo_field) (n := 30) (by decide +kernel)) w_7) rfl rfl rfl (by decide +kernel) ⟨Nat.le_trans (m := 9) (Nat.le_of_ble_eq_true rfl) (Nat.le_add_right 9 F), Nat.le_trans (m := 280) (Nat.le_of_ble_eq_true rfl) (Nat.le_add_right 280 L)⟩) ⟨mp_blind, va_recv hKc hPc (ci := 13) (q0 := 0) rfl rfl, fun U hU hW => ⟨rfl, hU, by rw [hU]; exact hPc, va_K.moved hW.alike hKc, hDc.weaken (fun _ _ _ _ => trivial)⟩⟩ rfl rfl hl.1 rfl (lv_room (Nat.le_of_ble_eq_true rfl)) d_Mo_segment_239 ⟨hfit_QbVc.1, hfit_QbVc.2⟩) hS (fun q _ h => hFc q h) hFc (fun r9 _u t9 H1 locs ht hvm hw hB hz1 hk1 hS => ?_)
              obtain ⟨hP1, hK1, hD1⟩ := hB
              rw [ht] at hP1
              obtain ⟨hP, hD⟩ := va_join (wr := [(qx, .inl (cB, NN, .inl f)), (Qb.qe, .inl (cL, (3 * Qb.C), .inr (.inl Qb.ef))), (tv, .inr (12, MF 13 (tw Vc))), (Vc.au, .inl (cC, Vc.U, .inl Vc.un))]) (w1 := [(mo, .inr (13, MF 30 (rf (rs v Qb o) j2 b2))), (Qb.qq, .inl (cI, (8 * Qb.C), .inl Qb.qf))]) hP hD [0, 2] [1, 3, 4, 5] rfl rfl (by decide) (by decide) hk1 hFc hP1 hD1
              generalize H1 = H at hP hS ⊢
              have hP : va_P (dC, dI) classes [(qx, .inl (cB, NN, .inl f)), (Qb.qe, .inl (cL, (3 * Qb.C), .inr (.inl Qb.ef))), (tv, .inr (12, MF 13 (tw Vc))), (Vc.au, .inl (cC, Vc.U, .inl Vc.un)), (mo, .inr (13, MF 30 (rf (rs v Qb o) j2 b2))), (Qb.qq, .inl (cI, (8 * Qb.C), .inl Qb.qf))] H := hP
              have hD : va_D A [(qx, .inl (cB, NN, .inl f)), (Qb.qe, .inl (cL, (3 * Qb.C), .inr (.inl Qb.ef))), (tv, .inr (12, MF 13 (tw Vc))), (Vc.au, .inl (cC, Vc.U, .inl Vc.un)), (mo, .inr (13, MF 30 (rf (rs v Qb o) j2 b2))), (Qb.qq, .inl (cI, (8 * Qb.C), .inl Qb.qf))] := hD
              have hP := hP.sub (ws' := [(mo, .inr (13, MF 30 (rf (rs v Qb o) j2 b2))), (qx, .inl (cB, NN, .inl f)), (Qb.qq, .inl (cI, (8 * Qb.C), .inl Qb.qf)), (Qb.qe, .inl (cL, (3 * Qb.C), .inr (.inl Qb.ef))), (tv, .inr (12, MF 13 (tw Vc))), (Vc.au, .inl (cC, Vc.U, .inl Vc.un))]) [4, 0, 5, 1, 2, 3] rfl
              have hD := hD.sub (ws' := [(mo, .inr (13, MF 30 (rf (rs v Qb o) j2 b2))), (qx, .inl (cB, NN, .inl f)), (Qb.qq, .inl (cI, (8 * Qb.C), .inl Qb.qf)), (Qb.qe, .inl (cL, (3 * Qb.C), .inr (.inl Qb.ef))), (tv, .inr (12, MF 13 (tw Vc))), (Vc.au, .inl (cC, Vc.U, .inl Vc.un))]) [4, 0, 5, 1, 2, 3] (by decide) rfl
              have h_r9 : r9 = Qb.qf (8 * Qj.R + 2) := hw
              have h9 : r9 = nI V.us := by rw [h_r9, hf_Qb.2.2]; exact pk_us
              subst h9
              refine lv_isub hx hb d_Mo_segment_242 ?_
              refine W.eq (g2 := F0 m 243 ls [.int (nI ln), .int 3, .int (nI Qj.R), .ref mo]) (by rw [show ((nI Vc.us) - (nI V.us)) = (nI ln) from (by rw [hln]; exact nI_asub _ _)]) ?_
              refine W.eq (g2 := F0 m 243 ls [.int (nI ln), .int (nI 3), .int (nI Qj.R), .ref mo]) rfl ?_
              have hPc := hP.sub (ws' := [(mo, .inr (13, MF 30 (rf (rs v Qb o) j2 b2))), (Qb.qq, .inl (cI, (8 * Qb.C), .inl Qb.qf))]) [0, 2] rfl
              have hDc := hD.sub (ws' := [(mo, .inr (13, MF 30 (rf (rs v Qb o) j2 b2))), (Qb.qq, .inl (cI, (8 * Qb.C), .inl Qb.qf))]) [0, 2] (by decide) rfl
              have hKc := hK.sub (tys' := [(cI, .int)]) [1] rfl
              have hFc := va_free (wc := [(mo, .inr (13, MF 30 (rf (rs v Qb o) j2 b2))), (Qb.qq, .inl (cI, (8 * Qb.C), .inl Qb.qf))]) hD hS hA [0, 2] rfl
              refine va_callv (va_runV (As := [.int (nI Qj.R), .int (nI 3), .int (nI ln)]) (rest := []) ⟨hx, hb, hml, hown, hts⟩ (c_Mo_set l dC dI mo H (rf (rs v Qb o) j2 b2) cI Qb.qq (8 * Qb.C) Qb.qf Qj.R 3 ((nI ln)) (by omega) (by omega) ((rf_ne (by decide) (by decide)).trans rs_19)) (cwV 3 hts (gt_V (own := R_Mo) (C := R_Mo) (i := 272) (y := y_Mo_set) i_Mo_set w_1411 w_1413 (gt_sel (y := y_Mo_set) (n := 30) (by decide +kernel)) w_7) rfl rfl rfl (by decide +kernel) ⟨Nat.le_trans (m := 9) (Nat.le_of_ble_eq_true rfl) (Nat.le_add_right 9 F), Nat.le_trans (m := 280) (Nat.le_of_ble_eq_true rfl) (Nat.le_add_right 280 L)⟩) ⟨mp_blind, va_recv hKc hPc (ci := 13) (q0 := 0) rfl rfl, fun U hU hW => ⟨rfl, hU, by rw [hU]; exact hPc, va_K.moved hW.alike hKc, hDc.weaken (fun _ _ _ _ => trivial)⟩⟩ rfl rfl hl.1 rfl (lv_room (Nat.le_of_ble_eq_true rfl)) d_Mo_segment_243 ⟨hfit_QbVc.1, hfit_QbVc.2⟩) hS (fun q _ h => hFc q h) hFc (fun _u t9 H1 locs ht hvm hw hB hz1 hk1 hS => ?_)
              obtain ⟨hP1, hK1, hD1⟩ := hB
              rw [ht] at hP1
              obtain ⟨hP, hD⟩ := va_join (wr := [(qx, .inl (cB, NN, .inl f)), (Qb.qe, .inl (cL, (3 * Qb.C), .inr (.inl Qb.ef))), (tv, .inr (12, MF 13 (tw Vc))), (Vc.au, .inl (cC, Vc.U, .inl Vc.un))]) (w1 := [(mo, .inr (13, MF 30 (rf (rs v Qb o) j2 b2))), (Qb.qq, .inl (cI, (8 * Qb.C), .inl (upd Qb.qf (8 * Qj.R + 3) ((nI ln)))))]) hP hD [0, 2] [1, 3, 4, 5] rfl rfl (by decide) (by decide) hk1 hFc hP1 hD1
              generalize H1 = H at hP hS ⊢
              have hP : va_P (dC, dI) classes [(qx, .inl (cB, NN, .inl f)), (Qb.qe, .inl (cL, (3 * Qb.C), .inr (.inl Qb.ef))), (tv, .inr (12, MF 13 (tw Vc))), (Vc.au, .inl (cC, Vc.U, .inl Vc.un)), (mo, .inr (13, MF 30 (rf (rs v Qb o) j2 b2))), (Qb.qq, .inl (cI, (8 * Qb.C), .inl (upd Qb.qf (8 * Qj.R + 3) ((nI ln)))))] H := hP
              have hD : va_D A [(qx, .inl (cB, NN, .inl f)), (Qb.qe, .inl (cL, (3 * Qb.C), .inr (.inl Qb.ef))), (tv, .inr (12, MF 13 (tw Vc))), (Vc.au, .inl (cC, Vc.U, .inl Vc.un)), (mo, .inr (13, MF 30 (rf (rs v Qb o) j2 b2))), (Qb.qq, .inl (cI, (8 * Qb.C), .inl (upd Qb.qf (8 * Qj.R + 3) ((nI ln)))))] := hD
              have hP := hP.sub (ws' := [(mo, .inr (13, MF 30 (rf (rs v Qb o) j2 b2))), (qx, .inl (cB, NN, .inl f)), (Qb.qq, .inl (cI, (8 * Qb.C), .inl (upd Qb.qf (8 * Qj.R + 3) ((nI ln))))), (Qb.qe, .inl (cL, (3 * Qb.C), .inr (.inl Qb.ef))), (tv, .inr (12, MF 13 (tw Vc))), (Vc.au, .inl (cC, Vc.U, .inl Vc.un))]) [4, 0, 5, 1, 2, 3] rfl
              have hD := hD.sub (ws' := [(mo, .inr (13, MF 30 (rf (rs v Qb o) j2 b2))), (qx, .inl (cB, NN, .inl f)), (Qb.qq, .inl (cI, (8 * Qb.C), .inl (upd Qb.qf (8 * Qj.R + 3) ((nI ln))))), (Qb.qe, .inl (cL, (3 * Qb.C), .inr (.inl Qb.ef))), (tv, .inr (12, MF 13 (tw Vc))), (Vc.au, .inl (cC, Vc.U, .inl Vc.un))]) [4, 0, 5, 1, 2, 3] (by decide) rfl
              obtain ⟨Qd, e_Qd⟩ : ∃ z : QS, z = QS.wf Qb (upd Qb.qf (8 * Qj.R + 3) ((nI ln))) := ⟨_, rfl⟩
              have hP : va_P (dC, dI) classes [(mo, .inr (13, MF 30 (rf (rs v Qd o) j2 b2))), (qx, .inl (cB, NN, .inl f)), (Qd.qq, .inl (cI, (8 * Qd.C), .inl Qd.qf)), (Qd.qe, .inl (cL, (3 * Qd.C), .inr (.inl Qd.ef))), (tv, .inr (12, MF 13 (tw Vc))), (Vc.au, .inl (cC, Vc.U, .inl Vc.un))] H := by subst e_Qd; exact hP
              have hD : va_D A [(mo, .inr (13, MF 30 (rf (rs v Qd o) j2 b2))), (qx, .inl (cB, NN, .inl f)), (Qd.qq, .inl (cI, (8 * Qd.C), .inl Qd.qf)), (Qd.qe, .inl (cL, (3 * Qd.C), .inr (.inl Qd.ef))), (tv, .inr (12, MF 13 (tw Vc))), (Vc.au, .inl (cC, Vc.U, .inl Vc.un))] := by subst e_Qd; exact hD
              have hf_Qd : Qd.C = Qb.C ∧ Qd.R = Qb.R ∧ Qd.qf = upd Qb.qf (8 * Qj.R + 3) ((nI ln)) := by rw [e_Qd]; exact ⟨rfl, rfl, rfl⟩
              have he_Qd : Qd.ef = Qb.ef := by rw [e_Qd]; rfl
              have hQk_Qd : QOK Qd := by rw [e_Qd]; exact hQk_Qb
              have hG_QdVc : GQ (Q.R + 8 * (n - i) + 8) (V.us + (n + 12 - i)) Q V Qd Vc := by unfold GQ at hG_QbVc ⊢; rw [hf_Qd.1]; exact hG_QbVc
              refine w_same (fun hq => ?_)
              refine w_tight (k := cQ Q V Qd Vc) (n := sQ Q V Qd Vc) (by unfold cQ sQ at hq ⊢; rw [hf_Qd.1]; exact hq) ?_
              have hR_Qd := hf_Qd.2.1
              have hqb_QdVc : Qd.R ≤ Qd.C ∧ Qd.C ≤ 100000 := ⟨hQk_Qd.2.2.1, hQk_Qd.2.1⟩
              have hfit_QdVc := hG_QdVc.fits
              refine lv_aload_n hx hb d_Mo_segment_246 rfl (lv_at hl 0 rfl) ?_
              refine lv_iload_n hx hb d_Mo_segment_247 rfl (lv_at hl 3 rfl) ?_
              refine lv_iconst (v := 2) hx hb d_Mo_segment_248 (by decide) ?_
              refine lv_iload hx hb d_Mo_segment_249 (lv_at hl 4 rfl) ?_
              refine W.eq (g2 := F0 m 251 ls [.int (nI Qj.R), .int (nI 2), .int (nI Q.R), .ref mo]) rfl ?_
              have hPc := hP.sub (ws' := [(mo, .inr (13, MF 30 (rf (rs v Qd o) j2 b2))), (Qd.qq, .inl (cI, (8 * Qd.C), .inl Qd.qf))]) [0, 2] rfl
              have hDc := hD.sub (ws' := [(mo, .inr (13, MF 30 (rf (rs v Qd o) j2 b2))), (Qd.qq, .inl (cI, (8 * Qd.C), .inl Qd.qf))]) [0, 2] (by decide) rfl
              have hKc := hK.sub (tys' := [(cI, .int)]) [1] rfl
              have hFc := va_free (wc := [(mo, .inr (13, MF 30 (rf (rs v Qd o) j2 b2))), (Qd.qq, .inl (cI, (8 * Qd.C), .inl Qd.qf))]) hD hS hA [0, 2] rfl
              refine va_callv (va_runV (As := [.int (nI Q.R), .int (nI 2), .int (nI Qj.R)]) (rest := []) ⟨hx, hb, hml, hown, hts⟩ (c_Mo_set l dC dI mo H (rf (rs v Qd o) j2 b2) cI Qd.qq (8 * Qd.C) Qd.qf Q.R 2 ((nI Qj.R)) (by omega) (by omega) ((rf_ne (by decide) (by decide)).trans rs_19)) (cwV 3 hts (gt_V (own := R_Mo) (C := R_Mo) (i := 272) (y := y_Mo_set) i_Mo_set w_1411 w_1413 (gt_sel (y := y_Mo_set) (n := 30) (by decide +kernel)) w_7) rfl rfl rfl (by decide +kernel) ⟨Nat.le_trans (m := 9) (Nat.le_of_ble_eq_true rfl) (Nat.le_add_right 9 F), Nat.le_trans (m := 280) (Nat.le_of_ble_eq_true rfl) (Nat.le_add_right 280 L)⟩) ⟨mp_blind, va_recv hKc hPc (ci := 13) (q0 := 0) rfl rfl, fun U hU hW => ⟨rfl, hU, by rw [hU]; exact hPc, va_K.moved hW.alike hKc, hDc.weaken (fun _ _ _ _ => trivial)⟩⟩ rfl rfl hl.1 rfl (lv_room (Nat.le_of_ble_eq_true rfl)) d_Mo_segment_251 ⟨hfit_QdVc.1, hfit_QdVc.2⟩) hS (fun q _ h => hFc q h) hFc (fun _u t9 H1 locs ht hvm hw hB hz1 hk1 hS => ?_)
              obtain ⟨hP1, hK1, hD1⟩ := hB
              rw [ht] at hP1
              obtain ⟨hP, hD⟩ := va_join (wr := [(qx, .inl (cB, NN, .inl f)), (Qd.qe, .inl (cL, (3 * Qd.C), .inr (.inl Qd.ef))), (tv, .inr (12, MF 13 (tw Vc))), (Vc.au, .inl (cC, Vc.U, .inl Vc.un))]) (w1 := [(mo, .inr (13, MF 30 (rf (rs v Qd o) j2 b2))), (Qd.qq, .inl (cI, (8 * Qd.C), .inl (upd Qd.qf (8 * Q.R + 2) ((nI Qj.R)))))]) hP hD [0, 2] [1, 3, 4, 5] rfl rfl (by decide) (by decide) hk1 hFc hP1 hD1
              generalize H1 = H at hP hS ⊢
              have hP : va_P (dC, dI) classes [(qx, .inl (cB, NN, .inl f)), (Qd.qe, .inl (cL, (3 * Qd.C), .inr (.inl Qd.ef))), (tv, .inr (12, MF 13 (tw Vc))), (Vc.au, .inl (cC, Vc.U, .inl Vc.un)), (mo, .inr (13, MF 30 (rf (rs v Qd o) j2 b2))), (Qd.qq, .inl (cI, (8 * Qd.C), .inl (upd Qd.qf (8 * Q.R + 2) ((nI Qj.R)))))] H := hP
              have hD : va_D A [(qx, .inl (cB, NN, .inl f)), (Qd.qe, .inl (cL, (3 * Qd.C), .inr (.inl Qd.ef))), (tv, .inr (12, MF 13 (tw Vc))), (Vc.au, .inl (cC, Vc.U, .inl Vc.un)), (mo, .inr (13, MF 30 (rf (rs v Qd o) j2 b2))), (Qd.qq, .inl (cI, (8 * Qd.C), .inl (upd Qd.qf (8 * Q.R + 2) ((nI Qj.R)))))] := hD
              have hP := hP.sub (ws' := [(mo, .inr (13, MF 30 (rf (rs v Qd o) j2 b2))), (qx, .inl (cB, NN, .inl f)), (Qd.qq, .inl (cI, (8 * Qd.C), .inl (upd Qd.qf (8 * Q.R + 2) ((nI Qj.R))))), (Qd.qe, .inl (cL, (3 * Qd.C), .inr (.inl Qd.ef))), (tv, .inr (12, MF 13 (tw Vc))), (Vc.au, .inl (cC, Vc.U, .inl Vc.un))]) [4, 0, 5, 1, 2, 3] rfl
              have hD := hD.sub (ws' := [(mo, .inr (13, MF 30 (rf (rs v Qd o) j2 b2))), (qx, .inl (cB, NN, .inl f)), (Qd.qq, .inl (cI, (8 * Qd.C), .inl (upd Qd.qf (8 * Q.R + 2) ((nI Qj.R))))), (Qd.qe, .inl (cL, (3 * Qd.C), .inr (.inl Qd.ef))), (tv, .inr (12, MF 13 (tw Vc))), (Vc.au, .inl (cC, Vc.U, .inl Vc.un))]) [4, 0, 5, 1, 2, 3] (by decide) rfl
              obtain ⟨Qe, e_Qe⟩ : ∃ z : QS, z = QS.wf Qd (upd Qd.qf (8 * Q.R + 2) ((nI Qj.R))) := ⟨_, rfl⟩
              have hP : va_P (dC, dI) classes [(mo, .inr (13, MF 30 (rf (rs v Qe o) j2 b2))), (qx, .inl (cB, NN, .inl f)), (Qe.qq, .inl (cI, (8 * Qe.C), .inl Qe.qf)), (Qe.qe, .inl (cL, (3 * Qe.C), .inr (.inl Qe.ef))), (tv, .inr (12, MF 13 (tw Vc))), (Vc.au, .inl (cC, Vc.U, .inl Vc.un))] H := by subst e_Qe; exact hP
              have hD : va_D A [(mo, .inr (13, MF 30 (rf (rs v Qe o) j2 b2))), (qx, .inl (cB, NN, .inl f)), (Qe.qq, .inl (cI, (8 * Qe.C), .inl Qe.qf)), (Qe.qe, .inl (cL, (3 * Qe.C), .inr (.inl Qe.ef))), (tv, .inr (12, MF 13 (tw Vc))), (Vc.au, .inl (cC, Vc.U, .inl Vc.un))] := by subst e_Qe; exact hD
              have hf_Qe : Qe.C = Qd.C ∧ Qe.R = Qd.R ∧ Qe.qf = upd Qd.qf (8 * Q.R + 2) ((nI Qj.R)) := by rw [e_Qe]; exact ⟨rfl, rfl, rfl⟩
              have he_Qe : Qe.ef = Qd.ef := by rw [e_Qe]; rfl
              have hQk_Qe : QOK Qe := by rw [e_Qe]; exact hQk_Qd
              have hG_QeVc : GQ (Q.R + 8 * (n - i) + 8) (V.us + (n + 12 - i)) Q V Qe Vc := by unfold GQ at hG_QdVc ⊢; rw [hf_Qe.1]; exact hG_QdVc
              refine w_same (fun hq => ?_)
              refine w_tight (k := cQ Q V Qe Vc) (n := sQ Q V Qe Vc) (by unfold cQ sQ at hq ⊢; rw [hf_Qe.1]; exact hq) ?_
              have hR_Qe := hf_Qe.2.1
              have hqb_QeVc : Qe.R ≤ Qe.C ∧ Qe.C ≤ 100000 := ⟨hQk_Qe.2.2.1, hQk_Qe.2.1⟩
              have hfit_QeVc := hG_QeVc.fits
              have hlnl : (nmT_ f n j j2).length = ln := by omega
              have hSF : SGf O Q V Q.R y Qe Vc fl (segS ds [namS (nmT_ f n j j2)]) := hSGj.name hy (by omega) hE_Qa hA_Qa.2.2.2.2.1 hA_Qa.2.2.2.2.2 hf_Qb.2.2 he_Qb hf_Qd.2.2 he_Qd hf_Qe.2.2 he_Qe hXc.un.1 (by omega) (by rw [← hlnl, hXc.un.2]; exact hcm)
              refine lv_iload_n hx hb d_Mo_segment_254 rfl (lv_at hl 3 rfl) ?_
              have hfin : sgP f n ok (orL f n) true i = some (j2, fl, segS ds [namS (nmT_ f n j j2)]) := by rw [hsN]; unfold sgN; rw [if_neg (fun h => absurd h.2 (by decide)), if_neg (fun h => h hlet), hnm]
              refine w_same (fun hq => ?_)
              refine W.widen (k := kcap Q (Q.R + 8 * (n - i) + 8) + qcap V (V.us + (n + 12 - i))) (n := 22 * kcap Q (Q.R + 8 * (n - i) + 8) + 2 * qcap V (V.us + (n + 12 - i))) hfit_QeVc.1 hfit_QeVc.2 ?_
              have hPo : QPo n i 8 Q V (Qe, Vc, j2, b2, o) := ⟨hQk_Qe, hG_QeVc, ⟨_, hXc, by omega⟩, by show Q.R ≤ Qe.R; omega, by show Qe.R ≤ Q.R + 8 * (n - i) + 8; omega⟩
              exact W.iret (v := nI Q.R) hx hb hr (fun t9 ht hW => ⟨⟨nI Q.R, (Qe, Vc, j2, b2, o), rfl, ⟨hPo, Or.inl ⟨fl, segS ds [namS (nmT_ f n j j2)], rfl, hfin, hSF, by show Qe.R + 8 * i + 7 ≤ Q.R + 8 * j2; omega, by show Vc.us + i ≤ V.us + j2; omega, by show j2 ≤ n; omega, by show Q.R < Qe.R; omega, rfl⟩⟩, ⟨by rw [ht]; exact hP, va_K.moved hW.alike hK, hD⟩, by rw [ht]; exact hq⟩, hS.F ht⟩) hS.2.2 d_Mo_segment_255
            · have hgo : letH (hereV f n j2) ∨ digH (hereV f n j2) := Or.inr (by rw [← h_r7]; exact h_d7.1 c197)
              have hltg : j2 < n := hgo.elim letH_lt digH_lt
              refine lv_aload_n hx hb d_Mo_segment_200 rfl (lv_at hl 0 rfl) ?_
              refine va_get (D := (dC, dI)) (ci := 13) (v := .ref tv) (C := R_Mo) (T := F_Mo) (N := 30) hx hb hts in_Mo hown hK hP 0 rfl rfl 22 (by decide) (hts _ w_1111) (fun _ h9 => h9) (MFg (by decide) ((rf_ne (by decide) (by decide)).trans ((rs_ne (by decide) (by decide) (by decide) (by decide)).trans h22))) d_Mo_segment_201 ?_
              refine lv_aload_n hx hb d_Mo_segment_204 rfl (lv_at hl 0 rfl) ?_
              have hPc := hP.sub (ws' := [(mo, .inr (13, MF 30 (rf (rs v Qb o) j2 b2))), (qx, .inl (cB, NN, .inl f))]) [0, 1] rfl
              have hDc := hD.sub (ws' := [(mo, .inr (13, MF 30 (rf (rs v Qb o) j2 b2))), (qx, .inl (cB, NN, .inl f))]) [0, 1] (by decide) rfl
              have hKc := hK.sub (tys' := [(cB, .byte)]) [0] rfl
              have hFc := va_free (wc := [(mo, .inr (13, MF 30 (rf (rs v Qb o) j2 b2))), (qx, .inl (cB, NN, .inl f))]) hD hS hA [0, 1] rfl
              refine va_calli (va_runV (As := []) (rest := [.ref tv]) ⟨hx, hb, hml, hown, hts⟩ (c_Mo_c l dC dI mo H (rf (rs v Qb o) j2 b2) cB qx NN f n j2 (by omega) (by omega) (by omega) ((rf_ne (by decide) (by decide)).trans ((rs_ne (by decide) (by decide) (by decide) (by decide)).trans h6)) rf_7 ((rf_ne (by decide) (by decide)).trans ((rs_ne (by decide) (by decide) (by decide) (by decide)).trans h8))) (cwV 0 hts (gt_V (own := R_Mo) (C := R_Mo) (i := 147) (y := y_Mo_c) i_Mo_c w_1233 w_1235 (gt_sel (y := y_Mo_c) (n := 30) (by decide +kernel)) w_7) rfl rfl rfl (by decide +kernel) ⟨Nat.le_trans (m := 9) (Nat.le_of_ble_eq_true rfl) (Nat.le_add_right 9 F), Nat.le_trans (m := 280) (Nat.le_of_ble_eq_true rfl) (Nat.le_add_right 280 L)⟩) ⟨mp_blind, va_recv hKc hPc (ci := 13) (q0 := 0) rfl rfl, fun U hU hW => ⟨rfl, hU, by rw [hU]; exact hPc, va_K.moved hW.alike hKc, hDc.weaken (fun _ _ _ _ => trivial)⟩⟩ rfl rfl hl.1 rfl (lv_room (Nat.le_of_ble_eq_true rfl)) d_Mo_segment_205 ⟨hfit_QbVc.1, hfit_QbVc.2⟩) hS (fun q _ h => hFc q h) hFc (fun r8 _u t9 H1 locs ht hvm hw hB hz1 hk1 hS => ?_)
              obtain ⟨hP1, hK1, hD1⟩ := hB
              rw [ht] at hP1
              obtain ⟨hP, hD⟩ := va_join (wr := [(Qb.qq, .inl (cI, (8 * Qb.C), .inl Qb.qf)), (Qb.qe, .inl (cL, (3 * Qb.C), .inr (.inl Qb.ef))), (tv, .inr (12, MF 13 (tw Vc))), (Vc.au, .inl (cC, Vc.U, .inl Vc.un))]) (w1 := [(mo, .inr (13, MF 30 (rf (rs v Qb o) j2 b2))), (qx, .inl (cB, NN, .inl f))]) hP hD [0, 1] [2, 3, 4, 5] rfl rfl (by decide) (by decide) hk1 hFc hP1 hD1
              generalize H1 = H at hP hS ⊢
              have hP : va_P (dC, dI) classes [(Qb.qq, .inl (cI, (8 * Qb.C), .inl Qb.qf)), (Qb.qe, .inl (cL, (3 * Qb.C), .inr (.inl Qb.ef))), (tv, .inr (12, MF 13 (tw Vc))), (Vc.au, .inl (cC, Vc.U, .inl Vc.un)), (mo, .inr (13, MF 30 (rf (rs v Qb o) j2 b2))), (qx, .inl (cB, NN, .inl f))] H := hP
              have hD : va_D A [(Qb.qq, .inl (cI, (8 * Qb.C), .inl Qb.qf)), (Qb.qe, .inl (cL, (3 * Qb.C), .inr (.inl Qb.ef))), (tv, .inr (12, MF 13 (tw Vc))), (Vc.au, .inl (cC, Vc.U, .inl Vc.un)), (mo, .inr (13, MF 30 (rf (rs v Qb o) j2 b2))), (qx, .inl (cB, NN, .inl f))] := hD
              have hP := hP.sub (ws' := [(mo, .inr (13, MF 30 (rf (rs v Qb o) j2 b2))), (qx, .inl (cB, NN, .inl f)), (Qb.qq, .inl (cI, (8 * Qb.C), .inl Qb.qf)), (Qb.qe, .inl (cL, (3 * Qb.C), .inr (.inl Qb.ef))), (tv, .inr (12, MF 13 (tw Vc))), (Vc.au, .inl (cC, Vc.U, .inl Vc.un))]) [4, 5, 0, 1, 2, 3] rfl
              have hD := hD.sub (ws' := [(mo, .inr (13, MF 30 (rf (rs v Qb o) j2 b2))), (qx, .inl (cB, NN, .inl f)), (Qb.qq, .inl (cI, (8 * Qb.C), .inl Qb.qf)), (Qb.qe, .inl (cL, (3 * Qb.C), .inr (.inl Qb.ef))), (tv, .inr (12, MF 13 (tw Vc))), (Vc.au, .inl (cC, Vc.U, .inl Vc.un))]) [4, 5, 0, 1, 2, 3] (by decide) rfl
              have h_r8 : r8 = hereV f n j2 := hw
              have hPc := hP.sub (ws' := [(tv, .inr (12, MF 13 (tw Vc))), (Vc.au, .inl (cC, Vc.U, .inl Vc.un))]) [4, 5] rfl
              have hDc := hD.sub (ws' := [(tv, .inr (12, MF 13 (tw Vc))), (Vc.au, .inl (cC, Vc.U, .inl Vc.un))]) [4, 5] (by decide) rfl
              have hKc := hK.sub (tys' := [(cC, .char)]) [3] rfl
              have hFc := va_free (wc := [(tv, .inr (12, MF 13 (tw Vc))), (Vc.au, .inl (cC, Vc.U, .inl Vc.un))]) hD hS hA [4, 5] rfl
              refine w_same (fun hq0 => ?_)
              refine va_callv (va_runV (As := [.int r8]) (rest := []) ⟨hx, hb, hml, hown, hts⟩ (c_Tree_unitT l dC dI tv H cC Vc r8 hTk_Vc) (cwV 1 hts (gt_V (own := R_Mo) (C := R_Tree) (i := 177) (y := y_Tree_unit) i_Tree_unit w_1265 w_1266 w_1267 w_8) rfl rfl rfl (by decide +kernel) ⟨Nat.le_trans (m := 9) (Nat.le_of_ble_eq_true rfl) (Nat.le_add_right 9 F), Nat.le_trans (m := 280) (Nat.le_of_ble_eq_true rfl) (Nat.le_add_right 280 L)⟩) ⟨mp_blind, va_recv hKc hPc (ci := 12) (q0 := 0) rfl rfl, fun U hU hW => ⟨rfl, hU, by rw [hU]; exact hPc, va_K.moved hW.alike hKc, hDc.weaken (fun _ _ _ _ => trivial)⟩⟩ rfl rfl hl.1 rfl (lv_room (Nat.le_of_ble_eq_true rfl)) d_Mo_segment_208 ⟨(uq_fit hG_QbVc (by omega)).1, (uq_fit hG_QbVc (by omega)).2⟩) hS (fun q _ h => hFc q h) hFc (fun Vn t9 H1 locs ht hvm hw hB hz1 hk1 hS => ?_)
              obtain ⟨⟨hP1, hK1, hD1⟩, hz9⟩ := hB
              rw [ht] at hP1
              rw [ht] at hz9
              have hX_Vn : TX Vc Vn [r8] := hw
              have hXs_Vn := hX_Vn.us
              rw [List.length_singleton] at hXs_Vn
              obtain ⟨hG_QbVn, hGc, hGs⟩ := hG_QbVc.tr (hX_Vn.gq Qb).1 (Nat.zero_le _) (show Vc.us + 1 ≤ V.us + (n + 12 - i) by omega)
              rw [← (hX_Vn.gq Qb).2.1] at hGc
              rw [← (hX_Vn.gq Qb).2.2] at hGs
              have hq1 : szk s.heap H1 (cQ Q V Qb Vn) (sQ Q V Qb Vn) := (hq0.trans hz9).mono hGc hGs
              refine w_tight hq1 ?_
              obtain ⟨hP, hD⟩ := va_join (wr := [(mo, .inr (13, MF 30 (rf (rs v Qb o) j2 b2))), (qx, .inl (cB, NN, .inl f)), (Qb.qq, .inl (cI, (8 * Qb.C), .inl Qb.qf)), (Qb.qe, .inl (cL, (3 * Qb.C), .inr (.inl Qb.ef)))]) (w1 := [(tv, .inr (12, MF 13 (tw Vn))), (Vn.au, .inl (cC, Vn.U, .inl Vn.un))]) hP hD [4, 5] [0, 1, 2, 3] rfl rfl (by decide) (by decide) hk1 hFc hP1 hD1
              generalize H1 = H at hP hS ⊢
              have hP : va_P (dC, dI) classes [(mo, .inr (13, MF 30 (rf (rs v Qb o) j2 b2))), (qx, .inl (cB, NN, .inl f)), (Qb.qq, .inl (cI, (8 * Qb.C), .inl Qb.qf)), (Qb.qe, .inl (cL, (3 * Qb.C), .inr (.inl Qb.ef))), (tv, .inr (12, MF 13 (tw Vn))), (Vn.au, .inl (cC, Vn.U, .inl Vn.un))] H := hP
              have hD : va_D A [(mo, .inr (13, MF 30 (rf (rs v Qb o) j2 b2))), (qx, .inl (cB, NN, .inl f)), (Qb.qq, .inl (cI, (8 * Qb.C), .inl Qb.qf)), (Qb.qe, .inl (cL, (3 * Qb.C), .inr (.inl Qb.ef))), (tv, .inr (12, MF 13 (tw Vn))), (Vn.au, .inl (cC, Vn.U, .inl Vn.un))] := hD
              have hP := hP.sub (ws' := [(mo, .inr (13, MF 30 (rf (rs v Qb o) j2 b2))), (qx, .inl (cB, NN, .inl f)), (Qb.qq, .inl (cI, (8 * Qb.C), .inl Qb.qf)), (Qb.qe, .inl (cL, (3 * Qb.C), .inr (.inl Qb.ef))), (tv, .inr (12, MF 13 (tw Vn))), (Vn.au, .inl (cC, Vn.U, .inl Vn.un))]) [0, 1, 2, 3, 4, 5] rfl
              have hD := hD.sub (ws' := [(mo, .inr (13, MF 30 (rf (rs v Qb o) j2 b2))), (qx, .inl (cB, NN, .inl f)), (Qb.qq, .inl (cI, (8 * Qb.C), .inl Qb.qf)), (Qb.qe, .inl (cL, (3 * Qb.C), .inr (.inl Qb.ef))), (tv, .inr (12, MF 13 (tw Vn))), (Vn.au, .inl (cC, Vn.U, .inl Vn.un))]) [0, 1, 2, 3, 4, 5] (by decide) rfl
              have hTk_Vn := hX_Vn.ok hTk_Vc (by rw [List.length_singleton]; omega)
              have hqb_QbVn : Qb.R ≤ Qb.C ∧ Qb.C ≤ 100000 := ⟨hQk_Qb.2.2.1, hQk_Qb.2.1⟩
              have hfit_QbVn := hG_QbVn.fits
              refine lv_aload_n hx hb d_Mo_segment_211 rfl (lv_at hl 0 rfl) ?_
              refine lv_dup hx hb d_Mo_segment_212 rfl ?_
              refine va_get (D := (dC, dI)) (ci := 13) (v := .int (nI j2)) (C := R_Mo) (T := F_Mo) (N := 30) hx hb hts in_Mo hown hK hP 0 rfl rfl 7 (by decide) (hts _ w_1096) (fun _ h9 => h9) (MFg (by decide) rf_7) d_Mo_segment_213 ?_
              refine lv_iconst (v := 1) hx hb d_Mo_segment_216 (by decide) ?_
              refine lv_iadd hx hb d_Mo_segment_217 ?_
              refine W.eq (g2 := F0 m 218 ls [.int (nI (j2 + 1)), .ref mo]) (by rw [show ((nI j2) + 1) = (nI (j2 + 1)) from nI_1 _]) ?_
              refine va_put (D := (dC, dI)) (ci := 13) (v := .int (nI (j2 + 1))) (ty := .int) (C := R_Mo) (T := F_Mo) (N := 30) hx hb hts in_Mo t_Mo t_Mo_ok n_Mo hown hK hP hD hS 0 rfl rfl 7 (by decide) (hts _ w_1096) (fun _ h9 => h9) rfl (by decide +kernel) rfl rfl (by rw [MFl]; decide) d_Mo_segment_218 (fun H locs hP hD hS => ?_)
              rw [MFs (n := 30) (k := 7) (by decide)] at hP hD
              have hP : va_P (dC, dI) classes [(mo, .inr (13, MF 30 (va_up (rf (rs v Qb o) j2 b2) 7 (.int (nI (j2 + 1)))))), (qx, .inl (cB, NN, .inl f)), (Qb.qq, .inl (cI, (8 * Qb.C), .inl Qb.qf)), (Qb.qe, .inl (cL, (3 * Qb.C), .inr (.inl Qb.ef))), (tv, .inr (12, MF 13 (tw Vn))), (Vn.au, .inl (cC, Vn.U, .inl Vn.un))] H := hP
              have hD : va_D A [(mo, .inr (13, MF 30 (va_up (rf (rs v Qb o) j2 b2) 7 (.int (nI (j2 + 1)))))), (qx, .inl (cB, NN, .inl f)), (Qb.qq, .inl (cI, (8 * Qb.C), .inl Qb.qf)), (Qb.qe, .inl (cL, (3 * Qb.C), .inr (.inl Qb.ef))), (tv, .inr (12, MF 13 (tw Vn))), (Vn.au, .inl (cC, Vn.U, .inl Vn.un))] := hD
              rw [rf_u7] at hP hD
              have hP : va_P (dC, dI) classes [(mo, .inr (13, MF 30 (rf (rs v Qb o) (j2 + 1) b2))), (qx, .inl (cB, NN, .inl f)), (Qb.qq, .inl (cI, (8 * Qb.C), .inl Qb.qf)), (Qb.qe, .inl (cL, (3 * Qb.C), .inr (.inl Qb.ef))), (tv, .inr (12, MF 13 (tw Vn))), (Vn.au, .inl (cC, Vn.U, .inl Vn.un))] H := hP
              have hD : va_D A [(mo, .inr (13, MF 30 (rf (rs v Qb o) (j2 + 1) b2))), (qx, .inl (cB, NN, .inl f)), (Qb.qq, .inl (cI, (8 * Qb.C), .inl Qb.qf)), (Qb.qe, .inl (cL, (3 * Qb.C), .inr (.inl Qb.ef))), (tv, .inr (12, MF 13 (tw Vn))), (Vn.au, .inl (cC, Vn.U, .inl Vn.un))] := hD
              refine lv_goto (tgt := 180) hx hb d_Mo_segment_221 (by decide) ?_
              refine w_same (fun hq => ?_)
              refine W.widen (k := kcap Q (Q.R + 8 * (n - i) + 8) + qcap V (V.us + (n + 12 - i))) (n := 22 * kcap Q (Q.R + 8 * (n - i) + 8) + 2 * qcap V (V.us + (n + 12 - i))) hfit_QbVn.1 hfit_QbVn.2 ?_
              have hst : nmE f n m0 (j2 + 1) = nmE f n (n + 1) j := by rw [← hI5, hm0]; exact (nmE_s hgo).symm
              have hX2 : TX V Vn (nmT_ f n j (j2 + 1)) := by rw [nmT_s hI2, ← h_r8]; exact hXc.trans hX_Vn
              have hcm2 : (nmT_ f n j (j2 + 1)).map c16 = nmT_ f n j (j2 + 1) := by rw [nmT_s hI2, List.map_append, hcm, List.map_singleton, c16_id (letdig_b hgo).1 (Int32.le_trans (letdig_b hgo).2 (by decide))]
              exact ih (Vn, m0, j2 + 1, b2) _ _ _ ⟨⟨hX2, hcm2⟩, hTk_Vn, hG_QbVn, by show Vn.us + j = V.us + (j2 + 1); omega, by omega, by omega, by omega, hst, hq⟩ (by show n + 1 - (j2 + 1) < n + 1 - j2; omega) hP hD hS (lv_sub hl [0, 1, 2, 3, 4] rfl)
        · refine lv_aload_n hx hb d_Mo_segment_148 rfl (lv_at hl 0 rfl) ?_
          refine lv_aload_n hx hb d_Mo_segment_149 rfl (lv_at hl 0 rfl) ?_
          refine va_get (D := (dC, dI)) (ci := 13) (v := .int (nI j)) (C := R_Mo) (T := F_Mo) (N := 30) hx hb hts in_Mo hown hK hP 0 rfl rfl 7 (by decide) (hts _ w_1096) (fun _ h9 => h9) (MFg (by decide) rf_7) d_Mo_segment_150 ?_
          have hPc := hP.sub (ws' := [(mo, .inr (13, MF 30 (rf (rs v Qj o) j b)))]) [0] rfl
          have hDc := hD.sub (ws' := [(mo, .inr (13, MF 30 (rf (rs v Qj o) j b)))]) [0] (by decide) rfl
          have hKc := hK.sub (tys' := []) [] rfl
          have hFc := va_free (wc := [(mo, .inr (13, MF 30 (rf (rs v Qj o) j b)))]) hD hS hA [0] rfl
          refine va_calli (va_runV (As := [.int (nI j)]) (rest := []) ⟨hx, hb, hml, hown, hts⟩ (c_Mo_fail l dC dI mo H (rf (rs v Qj o) j b) b ((nI j)) rf_9) (cwV 1 hts (gt_V (own := R_Mo) (C := R_Mo) (i := 151) (y := y_Mo_fail) i_Mo_fail w_1250 w_1252 (gt_sel (y := y_Mo_fail) (n := 30) (by decide +kernel)) w_7) rfl rfl rfl (by decide +kernel) ⟨Nat.le_trans (m := 9) (Nat.le_of_ble_eq_true rfl) (Nat.le_add_right 9 F), Nat.le_trans (m := 280) (Nat.le_of_ble_eq_true rfl) (Nat.le_add_right 280 L)⟩) ⟨mp_blind, va_recv hKc hPc (ci := 13) (q0 := 0) rfl rfl, fun U hU hW => ⟨rfl, hU, by rw [hU]; exact hPc, va_K.moved hW.alike hKc, hDc.weaken (fun _ _ _ _ => trivial)⟩⟩ rfl rfl hl.1 rfl (lv_room (Nat.le_of_ble_eq_true rfl)) d_Mo_segment_153 ⟨hfit_QjV.1, hfit_QjV.2⟩) hS (fun q _ h => hFc q h) hFc (fun r0 u2 t9 H1 locs ht hvm hw hB hz1 hk1 hS => ?_)
          obtain ⟨hP1, hK1, hD1⟩ := hB
          rw [ht] at hP1
          obtain ⟨hP, hD⟩ := va_join (wr := [(qx, .inl (cB, NN, .inl f)), (Qj.qq, .inl (cI, (8 * Qj.C), .inl Qj.qf)), (Qj.qe, .inl (cL, (3 * Qj.C), .inr (.inl Qj.ef))), (tv, .inr (12, MF 13 (tw V))), (V.au, .inl (cC, V.U, .inl V.un))]) (w1 := [(mo, .inr (13, MF 30 u2))]) hP hD [0] [1, 2, 3, 4, 5] rfl rfl (by decide) (by decide) hk1 hFc hP1 hD1
          generalize H1 = H at hP hS ⊢
          have hP : va_P (dC, dI) classes [(qx, .inl (cB, NN, .inl f)), (Qj.qq, .inl (cI, (8 * Qj.C), .inl Qj.qf)), (Qj.qe, .inl (cL, (3 * Qj.C), .inr (.inl Qj.ef))), (tv, .inr (12, MF 13 (tw V))), (V.au, .inl (cC, V.U, .inl V.un)), (mo, .inr (13, MF 30 u2))] H := hP
          have hD : va_D A [(qx, .inl (cB, NN, .inl f)), (Qj.qq, .inl (cI, (8 * Qj.C), .inl Qj.qf)), (Qj.qe, .inl (cL, (3 * Qj.C), .inr (.inl Qj.ef))), (tv, .inr (12, MF 13 (tw V))), (V.au, .inl (cC, V.U, .inl V.un)), (mo, .inr (13, MF 30 u2))] := hD
          have hP := hP.sub (ws' := [(mo, .inr (13, MF 30 u2)), (qx, .inl (cB, NN, .inl f)), (Qj.qq, .inl (cI, (8 * Qj.C), .inl Qj.qf)), (Qj.qe, .inl (cL, (3 * Qj.C), .inr (.inl Qj.ef))), (tv, .inr (12, MF 13 (tw V))), (V.au, .inl (cC, V.U, .inl V.un))]) [5, 0, 1, 2, 3, 4] rfl
          have hD := hD.sub (ws' := [(mo, .inr (13, MF 30 u2)), (qx, .inl (cB, NN, .inl f)), (Qj.qq, .inl (cI, (8 * Qj.C), .inl Qj.qf)), (Qj.qe, .inl (cL, (3 * Qj.C), .inr (.inl Qj.ef))), (tv, .inr (12, MF 13 (tw V))), (V.au, .inl (cC, V.U, .inl V.un))]) [5, 0, 1, 2, 3, 4] (by decide) rfl
          obtain ⟨b7, h_b7⟩ := rf_fail (v := (rs v Qj o)) (i := j) (br := b) (b2 := b) (wh := (nI j))
          have hw : r0 = 0 ∧ u2 = _ := hw
          obtain ⟨hw1, hw2⟩ := hw
          rw [h_b7] at hw2
          rw [hw2] at hP hD
          subst hw1
          have hP : va_P (dC, dI) classes [(mo, .inr (13, MF 30 (rf (rs v Qj o) j b7))), (qx, .inl (cB, NN, .inl f)), (Qj.qq, .inl (cI, (8 * Qj.C), .inl Qj.qf)), (Qj.qe, .inl (cL, (3 * Qj.C), .inr (.inl Qj.ef))), (tv, .inr (12, MF 13 (tw V))), (V.au, .inl (cC, V.U, .inl V.un))] H := hP
          have hD : va_D A [(mo, .inr (13, MF 30 (rf (rs v Qj o) j b7))), (qx, .inl (cB, NN, .inl f)), (Qj.qq, .inl (cI, (8 * Qj.C), .inl Qj.qf)), (Qj.qe, .inl (cL, (3 * Qj.C), .inr (.inl Qj.ef))), (tv, .inr (12, MF 13 (tw V))), (V.au, .inl (cC, V.U, .inl V.un))] := hD
          refine lv_pop hx hb d_Mo_segment_156 rfl ?_
          refine lv_iconst (v := (-1)) hx hb d_Mo_segment_157 (by decide) ?_
          have hfin : sgP f n ok (orL f n) true i = none := by rw [hsN]; unfold sgN; rw [if_neg (fun h => absurd h.2 (by decide)), if_pos (by rw [← h_r5]; exact h_t5.2 c145)]
          refine w_same (fun hq => ?_)
          refine W.widen (k := kcap Q (Q.R + 8 * (n - i) + 8) + qcap V (V.us + (n + 12 - i))) (n := 22 * kcap Q (Q.R + 8 * (n - i) + 8) + 2 * qcap V (V.us + (n + 12 - i))) hfit_QjV.1 hfit_QjV.2 ?_
          have hPo : QPo n i 8 Q V (Qj, V, j, b7, o) := ⟨hQk_Qj, hG_QjV, ⟨[], TX.rf hTk_V, Nat.zero_le _⟩, by show Q.R ≤ Qj.R; omega, by show Qj.R ≤ Q.R + 8 * (n - i) + 8; omega⟩
          exact W.iret (v := -1) hx hb hr (fun t9 ht hW => ⟨⟨-1, (Qj, V, j, b7, o), rfl, ⟨hPo, Or.inr ⟨rfl, hfin⟩⟩, ⟨by rw [ht]; exact hP, va_K.moved hW.alike hK, hD⟩, by rw [ht]; exact hq⟩, hS.F ht⟩) hS.2.2 d_Mo_segment_158
