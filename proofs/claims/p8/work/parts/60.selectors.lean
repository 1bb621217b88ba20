theorem w_1423 : (.methodLink "QueryBenchModel" 290 ⟨"QueryBenchModel", "enter", "(I)Z"⟩ : Cond) ∈ gtbl := gt_in 1423 (by decide +kernel) (by decide +kernel)
theorem w_1425 : (.instanceMethod ⟨"QueryBenchModel", "enter", "(I)Z"⟩ : Cond) ∈ gtbl := gt_in 1425 (by decide +kernel) (by decide +kernel)
theorem w_1427 : (.methodLink "QueryBenchModel" 293 ⟨"QueryBenchModel", "selector", "(Z)I"⟩ : Cond) ∈ gtbl := gt_in 1427 (by decide +kernel) (by decide +kernel)
theorem w_1429 : (.instanceMethod ⟨"QueryBenchModel", "selector", "(Z)I"⟩ : Cond) ∈ gtbl := gt_in 1429 (by decide +kernel) (by decide +kernel)
theorem w_1447 : (.methodLink "QueryBenchModel" 297 ⟨"QueryBenchModel", "shut", "(I)Z"⟩ : Cond) ∈ gtbl := gt_in 1447 (by decide +kernel) (by decide +kernel)
theorem w_1449 : (.instanceMethod ⟨"QueryBenchModel", "shut", "(I)Z"⟩ : Cond) ∈ gtbl := gt_in 1449 (by decide +kernel) (by decide +kernel)
/-- the selectors read so far, from row R0 on: s9 is the segment's row, y the query's -/
def SLi (O : QP CT) (Q0 : QS) (V0 : TS) (R0 s9 y : Nat) (Q : QS) (V : TS) (bf : Int32) (fst fl : Bool) (l : List QT) : Prop :=
  R0 ≤ Q.R ∧ KQ 1 (SELp O) Q V R0 Q.R (Q.qf (8 * s9 + 2)) bf l ∧ ((bf = -1 ∧ fst = true ∧ l = []) ∨ (∃ a : Nat, bf = nI a ∧ a < Q.R ∧ R0 ≤ a ∧ fst = false)) ∧ (∀ r k : Nat, r < R0 → k < 8 → ¬ (r = s9 ∧ k = 2) → ¬ (r = y ∧ k = 3) → Q.qf (8 * r + k) = Q0.qf (8 * r + k)) ∧ Q.qf (8 * y + 3) = (if fl = true then Q0.qf (8 * y + 3) else 0) ∧ EUk Q0 V0 Q V 0 R0
theorem SLi.rf {O : QP CT} {Q0 : QS} {V0 : TS} {s9 y : Nat} (h : Q0.qf (8 * s9 + 2) = -1) : SLi O Q0 V0 Q0.R s9 y Q0 V0 (-1) true true [] := ⟨Nat.le_refl _, Or.inl ⟨h, rfl, rfl⟩, Or.inl ⟨rfl, rfl, rfl⟩, fun _ _ _ _ _ _ => rfl, rfl, EUk.rf⟩
theorem SLi.one {O : QP CT} (hO : Frm 8 O) {Q0 Q Q1 Q2 : QS} {V0 V V1 : TS} {R0 s9 y : Nat} {fst fl : Bool} {l : List QT} {m : QT} (h : SLi O Q0 V0 R0 s9 y Q V (-1) fst fl l) (hl0 : l = []) (hs : s9 < R0) (hy : y < R0) (hE : alr Q V Q1 V1 0 Q.R) (hS : SELp O Q1 V1 Q.R Q1.R Q.R m) (hl : Q1.qf (8 * Q.R + 1) = -1) (hu : Q2.qf = upd Q1.qf (8 * s9 + 2) (nI Q.R)) (he : Q2.ef = Q1.ef) (hR : Q2.R = Q1.R) : SLi O Q0 V0 R0 s9 y Q2 V1 (nI Q.R) false fl (l ++ [m]) := by
  obtain ⟨h1, h2, h3, h4, h5, h6⟩ := h
  have hin := SELp_in _ _ _ _ _ _ hS
  have hn : ∀ r k : Nat, k < 8 → ¬ (r = s9 ∧ k = 2) → Q2.qf (8 * r + k) = Q1.qf (8 * r + k) := fun r k hk he => by rw [hu]; exact pk_un (by omega)
  refine ⟨by omega, ?_, Or.inr ⟨Q.R, rfl, by omega, h1, rfl⟩, fun r k hr hk he hf => ?_, ?_, ?_⟩
  · rw [hl0, hR, hu, pk_us]
    exact KQ.one h1 (SELp_fr hO _ _ _ _ _ _ _ _ hS ⟨fun r k r1 r2 hk _ => hn r k hk (by omega), EUk.ef he⟩) (by rw [hn Q.R 1 (by decide) (by omega)]; exact hl)
  · rw [hn r k hk he, hE.1 r k (Nat.zero_le _) (by omega) hk]; exact h4 r k hr hk he hf
  · rw [hn y 3 (by decide) (by omega), hE.1 y 3 (Nat.zero_le _) (by omega) (by decide)]; exact h5
  · exact (h6.tr (hE.2.sub (Nat.le_refl _) h1)).tr (EUk.ef he)
theorem SLi.add {O : QP CT} (hO : Frm 8 O) {Q0 Q Q1 Q2 : QS} {V0 V V1 : TS} {R0 s9 y a : Nat} {fst fl : Bool} {l : List QT} {m : QT} (h : SLi O Q0 V0 R0 s9 y Q V (nI a) fst fl l) (ha1 : a < Q.R) (ha2 : R0 ≤ a) (hRb : Q.R < 2 ^ 28) (hs : s9 < R0) (hy : y < R0) (hE : alr Q V Q1 V1 0 Q.R) (hS : SELp O Q1 V1 Q.R Q1.R Q.R m) (hl : Q1.qf (8 * Q.R + 1) = -1) (hu : Q2.qf = upd Q1.qf (8 * a + 1) (nI Q.R)) (he : Q2.ef = Q1.ef) (hR : Q2.R = Q1.R) : SLi O Q0 V0 R0 s9 y Q2 V1 (nI Q.R) false fl (l ++ [m]) := by
  obtain ⟨h1, h2, h3, h4, h5, h6⟩ := h
  have hin := SELp_in _ _ _ _ _ _ hS
  have hn : ∀ r k : Nat, k < 8 → ¬ (r = a ∧ k = 1) → Q2.qf (8 * r + k) = Q1.qf (8 * r + k) := fun r k hk he => by rw [hu]; exact pk_un (by omega)
  have h7 := KQ.fr (SELp_fr hO) SELp_in (by decide) h2 (hE.sub (Nat.zero_le _) (Nat.le_refl _))
  refine ⟨by omega, ?_, Or.inr ⟨Q.R, rfl, by omega, h1, rfl⟩, fun r k hr hk he hf => ?_, ?_, ?_⟩
  · rw [hn s9 2 (by decide) (by omega), hE.1 s9 2 (Nat.zero_le _) (by omega) (by decide), hR]
    exact KQ.add (SELp_fr hO) SELp_in (by decide) h7 (by omega) hRb (Nat.le_refl _) hS hl hu he
  · rw [hn r k hk (by omega), hE.1 r k (Nat.zero_le _) (by omega) hk]; exact h4 r k hr hk he hf
  · rw [hn y 3 (by decide) (by omega), hE.1 y 3 (Nat.zero_le _) (by omega) (by decide)]; exact h5
  · exact (h6.tr (hE.2.sub (Nat.le_refl _) h1)).tr (EUk.ef he)
theorem SLi.off {O : QP CT} (hO : Frm 8 O) {Q0 Q Q2 : QS} {V0 V : TS} {R0 s9 y : Nat} {bf : Int32} {fst fl : Bool} {l : List QT} (h : SLi O Q0 V0 R0 s9 y Q V bf fst fl l) (hs : s9 < R0) (hy : y < R0) (hu : Q2.qf = upd Q.qf (8 * y + 3) 0) (he : Q2.ef = Q.ef) (hR : Q2.R = Q.R) : SLi O Q0 V0 R0 s9 y Q2 V bf fst false l := by
  obtain ⟨h1, h2, h3, h4, h5, h6⟩ := h
  have hn : ∀ r k : Nat, k < 8 → ¬ (r = y ∧ k = 3) → Q2.qf (8 * r + k) = Q.qf (8 * r + k) := fun r k hk he => by rw [hu]; exact pk_un (by omega)
  refine ⟨by omega, ?_, by rw [hR]; exact h3, fun r k hr hk he hf => ?_, ?_, h6.tr (EUk.ef he)⟩
  · rw [hn s9 2 (by decide) (by omega), hR]
    exact KQ.fr (SELp_fr hO) SELp_in (by decide) h2 ⟨fun r k r1 _ hk => hn r k hk (by omega), EUk.ef he⟩
  · rw [hn r k hk hf]; exact h4 r k hr hk he hf
  · rw [hu, pk_us, if_neg (by decide)]
theorem SLi.all {O : QP CT} {Q0 Q : QS} {V0 V : TS} {R0 s9 y : Nat} {bf : Int32} {fst fl : Bool} {l : List QT} (h : SLi O Q0 V0 R0 s9 y Q V bf fst fl l) : CHn 1 (SELp O) Q V Q.R (-1) l R0 (Q.qf (8 * s9 + 2)) := KQ.all SELp_in h.2.1
/-- ones of a kind read so far, chained at field lk, the first at field 2 of row y -/
def CHi {M : Type} (lk : Nat) (P : QP M) (Q0 : QS) (V0 : TS) (y : Nat) (Q : QS) (V : TS) (bf : Int32) (l : List M) : Prop :=
  y < Q.R ∧ KQ lk P Q V (y + 1) Q.R (Q.qf (8 * y + 2)) bf l ∧ ((bf = -1 ∧ l = []) ∨ ∃ a : Nat, bf = nI a ∧ a < Q.R ∧ y + 1 ≤ a) ∧ (∀ r k : Nat, r < y → k < 8 → Q.qf (8 * r + k) = Q0.qf (8 * r + k)) ∧ EUk Q0 V0 Q V 0 y
/-- rows below R stay, but for field 3 of row y -/
def al3 (Q : QS) (V : TS) (Q2 : QS) (V2 : TS) (R y : Nat) : Prop := (∀ r k : Nat, r < R → k < 8 → ¬ (r = y ∧ k = 3) → Q2.qf (8 * r + k) = Q.qf (8 * r + k)) ∧ EUk Q V Q2 V2 0 R
theorem alr.a3 {Q Q2 : QS} {V V2 : TS} {R y : Nat} (h : alr Q V Q2 V2 0 R) : al3 Q V Q2 V2 R y := ⟨fun r k r1 hk _ => h.1 r k (Nat.zero_le _) r1 hk, h.2⟩
section CHis
variable {M : Type} {lk : Nat} {P : QP M}
theorem CHi.one (hF : Frm lk P) (hI : Inn P) (hlk : lk < 8) {Q0 Q Q1 Q2 : QS} {V0 V V1 : TS} {y c : Nat} {bf : Int32} {l : List M} {m : M} (h : CHi lk P Q0 V0 y Q V bf l) (hl0 : l = []) (hE : al3 Q V Q1 V1 Q.R y) (hS : P Q1 V1 Q.R Q1.R c m) (hl : Q1.qf (8 * c + lk) = -1) (hu : Q2.qf = upd Q1.qf (8 * y + 2) (nI c)) (he : Q2.ef = Q1.ef) (hR : Q2.R = Q1.R) : CHi lk P Q0 V0 y Q2 V1 (nI c) (l ++ [m]) := by
  obtain ⟨h1, h2, h3, h4, h5⟩ := h
  have hin := hI _ _ _ _ _ _ hS
  have hn : ∀ r k : Nat, k < 8 → ¬ (r = y ∧ k = 2) → Q2.qf (8 * r + k) = Q1.qf (8 * r + k) := fun r k hk he => by rw [hu]; exact pk_un (by omega)
  refine ⟨by omega, ?_, Or.inr ⟨c, rfl, by omega, by omega⟩, fun r k hr hk => ?_, (h5.tr (hE.2.sub (Nat.le_refl _) (by omega))).tr (EUk.ef he)⟩
  · rw [hl0, hu, pk_us, hR]
    exact KQ.one (lo2 := Q.R) h1 (hF _ _ _ _ _ _ _ _ hS ⟨fun r k r1 r2 hk _ => hn r k hk (by omega), EUk.ef he⟩) (by rw [hn c lk hlk (by omega)]; exact hl)
  · rw [hn r k hk (by omega), hE.1 r k (by omega) hk (by omega)]; exact h4 r k hr hk
theorem CHi.add (hF : Frm lk P) (hI : Inn P) (hlk : lk < 8) {Q0 Q Q1 Q2 : QS} {V0 V V1 : TS} {y a c : Nat} {l : List M} {m : M} (h : CHi lk P Q0 V0 y Q V (nI a) l) (ha1 : a < Q.R) (ha2 : y + 1 ≤ a) (hRb : Q.R < 2 ^ 28) (hE : al3 Q V Q1 V1 Q.R y) (hS : P Q1 V1 Q.R Q1.R c m) (hl : Q1.qf (8 * c + lk) = -1) (hu : Q2.qf = upd Q1.qf (8 * a + lk) (nI c)) (he : Q2.ef = Q1.ef) (hR : Q2.R = Q1.R) : CHi lk P Q0 V0 y Q2 V1 (nI c) (l ++ [m]) := by
  obtain ⟨h1, h2, h3, h4, h5⟩ := h
  have hin := hI _ _ _ _ _ _ hS
  have hn : ∀ r k : Nat, k < 8 → ¬ (r = a ∧ k = lk) → Q2.qf (8 * r + k) = Q1.qf (8 * r + k) := fun r k hk he => by rw [hu]; exact pk_un (by omega)
  have h6 := KQ.fr hF hI hlk h2 ⟨fun r k r1 r2 hk => hE.1 r k r2 hk (by omega), hE.2.sub (Nat.zero_le _) (Nat.le_refl _)⟩
  refine ⟨by omega, ?_, Or.inr ⟨c, rfl, by omega, by omega⟩, fun r k hr hk => ?_, (h5.tr (hE.2.sub (Nat.le_refl _) (by omega))).tr (EUk.ef he)⟩
  · rw [hn y 2 (by decide) (by omega), hE.1 y 2 h1 (by decide) (by omega), hR]
    exact KQ.add hF hI hlk h6 (by omega) hRb (Nat.le_refl _) hS hl hu he
  · rw [hn r k hk (by omega), hE.1 r k (by omega) hk (by omega)]; exact h4 r k hr hk
theorem CHi.all (hI : Inn P) {Q0 Q : QS} {V0 V : TS} {y : Nat} {bf : Int32} {l : List M} (h : CHi lk P Q0 V0 y Q V bf l) : CHn lk P Q V Q.R (-1) l (y + 1) (Q.qf (8 * y + 2)) := KQ.all hI h.2.1
/-- the rows of before, and how they stay -/
theorem CHi.ex {Q0 Q : QS} {V0 V : TS} {y : Nat} {bf : Int32} {l : List M} (h : CHi lk P Q0 V0 y Q V bf l) : alr Q0 V0 Q V 0 y := ⟨fun r k _ hr hk => h.2.2.2.1 r k hr hk, h.2.2.2.2⟩
end CHis
section
variable {f : Nat → Int32} {n : Nat} {orL : Nat → Option (Nat × CT)} {sg : Bool} {k j j2 : Nat} {fst fl p2 : Bool} {m : QT} {ac : List QT}
theorem slsL_n (h : selP f n orL sg (skipH f n j) = none) : slsL f n orL sg (k + 1) j fst fl ac = none := by simp only [slsL, h]
theorem slsL_e (h : selP f n orL sg (skipH f n j) = some (j2, p2, m)) (h2 : hereV f n (skipH f n j2) = 93) : slsL f n orL sg (k + 1) j fst fl ac = some (skipH f n j2 + 1, fl && (fst && p2), ac ++ [m]) := by simp only [slsL, h]; rw [if_pos h2]
theorem slsL_b (h : selP f n orL sg (skipH f n j) = some (j2, p2, m)) (h2 : ¬ hereV f n (skipH f n j2) = 93) (h3 : sg = true ∨ ¬ hereV f n (skipH f n j2) = 44) : slsL f n orL sg (k + 1) j fst fl ac = none := by simp only [slsL, h]; rw [if_neg h2, if_pos h3]
theorem slsL_s (h : selP f n orL sg (skipH f n j) = some (j2, p2, m)) (h2 : ¬ hereV f n (skipH f n j2) = 93) (h3 : ¬ (sg = true ∨ ¬ hereV f n (skipH f n j2) = 44)) : slsL f n orL sg (k + 1) j fst fl ac = slsL f n orL sg k (skipH f n j2 + 1) false (fl && (fst && p2)) (ac ++ [m]) := by simp only [slsL, h]; rw [if_neg h2, if_neg h3]
end
def SLSo (f : Nat → Int32) (ok : Bool) (orL : Nat → Option (Nat × CT)) (O : QP CT) (sg : Bool) (n i o s9 y : Nat) (Q : QS) (V : TS) (res : Int32) (u : QS × TS × Nat × Int32 × Nat) : Prop := QPo n i 7 Q V u ∧ ((∃ fl m, res = 1 ∧ slsP f n ok orL sg i = some (u.2.2.1, fl, m) ∧ (CHn 1 (SELp O) u.1 u.2.1 u.1.R (-1) m Q.R (u.1.qf (8 * s9 + 2)) ∧ EUk Q V u.1 u.2.1 0 Q.R) ∧ (∀ r k, r < Q.R → k < 8 → ¬ (r = s9 ∧ k = 2) → ¬ (r = y ∧ k = 3) → u.1.qf (8 * r + k) = Q.qf (8 * r + k)) ∧ u.1.qf (8 * y + 3) = (if fl = true then Q.qf (8 * y + 3) else 0) ∧ u.1.R + 8 * i + 8 ≤ Q.R + 8 * u.2.2.1 ∧ u.2.1.us + i ≤ V.us + u.2.2.1 ∧ u.2.2.1 ≤ n ∧ u.2.2.2.2 = o) ∨ (res = 0 ∧ slsP f n ok orL sg i = none))
theorem b_on (fl : Bool) {p : Bool} (h : p = true) : fl = (fl && (true && p)) := by rw [h]; cases fl <;> rfl
theorem b_off (fl : Bool) {p : Bool} (h : p = false) : false = (fl && (true && p)) := by rw [h]; cases fl <;> rfl
theorem b_of2 (fl p : Bool) : false = (fl && (false && p)) := by cases fl <;> rfl
abbrev b_Mo_selectors : ByteArray := prog_14_method_41_code
def y_Mo_selectors : MethodName := ⟨"QueryBenchModel", "selectors", "(IIZ)Z"⟩
abbrev k_Mo_selectors : Cond := .code y_Mo_selectors b_Mo_selectors 6 (some .boolean)
theorem i_Mo_selectors : k_Mo_selectors ∈ gtbl := gt_in 1422 (by decide +kernel) (by decide +kernel)
theorem d_Mo_selectors_0 : decode b_Mo_selectors 0 = .ok (.aload_n 0, 1) := by decide +kernel
theorem d_Mo_selectors_1 : decode b_Mo_selectors 1 = .ok (.bipush 91, 2) := by decide +kernel
theorem d_Mo_selectors_3 : decode b_Mo_selectors 3 = .ok (.invokevirtual 290, 3) := by decide +kernel
theorem d_Mo_selectors_6 : decode b_Mo_selectors 6 = .ok (.ifCond .ne 5, 3) := by decide +kernel
theorem d_Mo_selectors_9 : decode b_Mo_selectors 9 = .ok (.iconst 0, 1) := by decide +kernel
theorem d_Mo_selectors_10 : decode b_Mo_selectors 10 = .ok (.ireturn, 1) := by decide +kernel
theorem d_Mo_selectors_11 : decode b_Mo_selectors 11 = .ok (.iconst (-1), 1) := by decide +kernel
theorem d_Mo_selectors_12 : decode b_Mo_selectors 12 = .ok (.istore 4, 2) := by decide +kernel
theorem d_Mo_selectors_14 : decode b_Mo_selectors 14 = .ok (.aload_n 0, 1) := by decide +kernel
theorem d_Mo_selectors_15 : decode b_Mo_selectors 15 = .ok (.invokevirtual 184, 3) := by decide +kernel
theorem d_Mo_selectors_18 : decode b_Mo_selectors 18 = .ok (.aload_n 0, 1) := by decide +kernel
theorem d_Mo_selectors_19 : decode b_Mo_selectors 19 = .ok (.iload_n 3, 1) := by decide +kernel
theorem d_Mo_selectors_20 : decode b_Mo_selectors 20 = .ok (.invokevirtual 293, 3) := by decide +kernel
theorem d_Mo_selectors_23 : decode b_Mo_selectors 23 = .ok (.istore 5, 2) := by decide +kernel
theorem d_Mo_selectors_25 : decode b_Mo_selectors 25 = .ok (.iload 5, 2) := by decide +kernel
theorem d_Mo_selectors_27 : decode b_Mo_selectors 27 = .ok (.ifCond .ge 5, 3) := by decide +kernel
theorem d_Mo_selectors_30 : decode b_Mo_selectors 30 = .ok (.iconst 0, 1) := by decide +kernel
theorem d_Mo_selectors_31 : decode b_Mo_selectors 31 = .ok (.ireturn, 1) := by decide +kernel
theorem d_Mo_selectors_32 : decode b_Mo_selectors 32 = .ok (.iload 4, 2) := by decide +kernel
theorem d_Mo_selectors_34 : decode b_Mo_selectors 34 = .ok (.ifCond .ge 14, 3) := by decide +kernel
theorem d_Mo_selectors_37 : decode b_Mo_selectors 37 = .ok (.aload_n 0, 1) := by decide +kernel
theorem d_Mo_selectors_38 : decode b_Mo_selectors 38 = .ok (.iload_n 2, 1) := by decide +kernel
theorem d_Mo_selectors_39 : decode b_Mo_selectors 39 = .ok (.iconst 2, 1) := by decide +kernel
theorem d_Mo_selectors_40 : decode b_Mo_selectors 40 = .ok (.iload 5, 2) := by decide +kernel
theorem d_Mo_selectors_42 : decode b_Mo_selectors 42 = .ok (.invokevirtual 272, 3) := by decide +kernel
theorem d_Mo_selectors_45 : decode b_Mo_selectors 45 = .ok (.goto 12, 3) := by decide +kernel
theorem d_Mo_selectors_48 : decode b_Mo_selectors 48 = .ok (.aload_n 0, 1) := by decide +kernel
theorem d_Mo_selectors_49 : decode b_Mo_selectors 49 = .ok (.iload 4, 2) := by decide +kernel
theorem d_Mo_selectors_51 : decode b_Mo_selectors 51 = .ok (.iconst 1, 1) := by decide +kernel
theorem d_Mo_selectors_52 : decode b_Mo_selectors 52 = .ok (.iload 5, 2) := by decide +kernel
theorem d_Mo_selectors_54 : decode b_Mo_selectors 54 = .ok (.invokevirtual 272, 3) := by decide +kernel
theorem d_Mo_selectors_57 : decode b_Mo_selectors 57 = .ok (.iload 4, 2) := by decide +kernel
theorem d_Mo_selectors_59 : decode b_Mo_selectors 59 = .ok (.ifCond .ge 25, 3) := by decide +kernel
theorem d_Mo_selectors_62 : decode b_Mo_selectors 62 = .ok (.aload_n 0, 1) := by decide +kernel
theorem d_Mo_selectors_63 : decode b_Mo_selectors 63 = .ok (.iload 5, 2) := by decide +kernel
theorem d_Mo_selectors_65 : decode b_Mo_selectors 65 = .ok (.iconst 0, 1) := by decide +kernel
theorem d_Mo_selectors_66 : decode b_Mo_selectors 66 = .ok (.invokevirtual 286, 3) := by decide +kernel
theorem d_Mo_selectors_69 : decode b_Mo_selectors 69 = .ok (.iconst 1, 1) := by decide +kernel
theorem d_Mo_selectors_70 : decode b_Mo_selectors 70 = .ok (.if_icmp .eq 21, 3) := by decide +kernel
theorem d_Mo_selectors_73 : decode b_Mo_selectors 73 = .ok (.aload_n 0, 1) := by decide +kernel
theorem d_Mo_selectors_74 : decode b_Mo_selectors 74 = .ok (.iload 5, 2) := by decide +kernel
theorem d_Mo_selectors_76 : decode b_Mo_selectors 76 = .ok (.iconst 0, 1) := by decide +kernel
theorem d_Mo_selectors_77 : decode b_Mo_selectors 77 = .ok (.invokevirtual 286, 3) := by decide +kernel
theorem d_Mo_selectors_80 : decode b_Mo_selectors 80 = .ok (.iconst 3, 1) := by decide +kernel
theorem d_Mo_selectors_81 : decode b_Mo_selectors 81 = .ok (.if_icmp .eq 10, 3) := by decide +kernel
theorem d_Mo_selectors_84 : decode b_Mo_selectors 84 = .ok (.aload_n 0, 1) := by decide +kernel
theorem d_Mo_selectors_85 : decode b_Mo_selectors 85 = .ok (.iload_n 1, 1) := by decide +kernel
theorem d_Mo_selectors_86 : decode b_Mo_selectors 86 = .ok (.iconst 3, 1) := by decide +kernel
theorem d_Mo_selectors_87 : decode b_Mo_selectors 87 = .ok (.iconst 0, 1) := by decide +kernel
theorem d_Mo_selectors_88 : decode b_Mo_selectors 88 = .ok (.invokevirtual 272, 3) := by decide +kernel
theorem d_Mo_selectors_91 : decode b_Mo_selectors 91 = .ok (.iload 5, 2) := by decide +kernel
theorem d_Mo_selectors_93 : decode b_Mo_selectors 93 = .ok (.istore 4, 2) := by decide +kernel
theorem d_Mo_selectors_95 : decode b_Mo_selectors 95 = .ok (.aload_n 0, 1) := by decide +kernel
theorem d_Mo_selectors_96 : decode b_Mo_selectors 96 = .ok (.invokevirtual 184, 3) := by decide +kernel
theorem d_Mo_selectors_99 : decode b_Mo_selectors 99 = .ok (.aload_n 0, 1) := by decide +kernel
theorem d_Mo_selectors_100 : decode b_Mo_selectors 100 = .ok (.invokevirtual 147, 3) := by decide +kernel
theorem d_Mo_selectors_103 : decode b_Mo_selectors 103 = .ok (.bipush 93, 2) := by decide +kernel
theorem d_Mo_selectors_105 : decode b_Mo_selectors 105 = .ok (.if_icmp .ne 10, 3) := by decide +kernel
theorem d_Mo_selectors_108 : decode b_Mo_selectors 108 = .ok (.aload_n 0, 1) := by decide +kernel
theorem d_Mo_selectors_109 : decode b_Mo_selectors 109 = .ok (.bipush 93, 2) := by decide +kernel
theorem d_Mo_selectors_111 : decode b_Mo_selectors 111 = .ok (.invokevirtual 297, 3) := by decide +kernel
theorem d_Mo_selectors_114 : decode b_Mo_selectors 114 = .ok (.ireturn, 1) := by decide +kernel
theorem d_Mo_selectors_115 : decode b_Mo_selectors 115 = .ok (.iload_n 3, 1) := by decide +kernel
theorem d_Mo_selectors_116 : decode b_Mo_selectors 116 = .ok (.ifCond .ne 12, 3) := by decide +kernel
theorem d_Mo_selectors_119 : decode b_Mo_selectors 119 = .ok (.aload_n 0, 1) := by decide +kernel
theorem d_Mo_selectors_120 : decode b_Mo_selectors 120 = .ok (.invokevirtual 147, 3) := by decide +kernel
theorem d_Mo_selectors_123 : decode b_Mo_selectors 123 = .ok (.bipush 44, 2) := by decide +kernel
theorem d_Mo_selectors_125 : decode b_Mo_selectors 125 = .ok (.if_icmp .eq 12, 3) := by decide +kernel
theorem d_Mo_selectors_128 : decode b_Mo_selectors 128 = .ok (.aload_n 0, 1) := by decide +kernel
theorem d_Mo_selectors_129 : decode b_Mo_selectors 129 = .ok (.aload_n 0, 1) := by decide +kernel
theorem d_Mo_selectors_130 : decode b_Mo_selectors 130 = .ok (.getfield 135, 3) := by decide +kernel
theorem d_Mo_selectors_133 : decode b_Mo_selectors 133 = .ok (.invokevirtual 151, 3) := by decide +kernel
theorem d_Mo_selectors_136 : decode b_Mo_selectors 136 = .ok (.ireturn, 1) := by decide +kernel
theorem d_Mo_selectors_137 : decode b_Mo_selectors 137 = .ok (.aload_n 0, 1) := by decide +kernel
theorem d_Mo_selectors_138 : decode b_Mo_selectors 138 = .ok (.dup, 1) := by decide +kernel
theorem d_Mo_selectors_139 : decode b_Mo_selectors 139 = .ok (.getfield 135, 3) := by decide +kernel
theorem d_Mo_selectors_142 : decode b_Mo_selectors 142 = .ok (.iconst 1, 1) := by decide +kernel
theorem d_Mo_selectors_143 : decode b_Mo_selectors 143 = .ok (.iadd, 1) := by decide +kernel
theorem d_Mo_selectors_144 : decode b_Mo_selectors 144 = .ok (.putfield 135, 3) := by decide +kernel
theorem d_Mo_selectors_147 : decode b_Mo_selectors 147 = .ok (.goto (-133), 3) := by decide +kernel
set_option maxHeartbeats 4000000 in
set_option maxRecDepth 100000 in
/-- the reference: selectors -/
theorem c_sls0 (orL : (Nat → Int32) → Nat → Nat → Option (Nat × CT)) (O : QP CT) (F L : Nat) (hOf : Frm 8 O) (l : Launch) (dC : Nat → ClassId) (dI : Nat → Nat → Nat) (mo : Nat) (sz : Heap) (v : Nat → Value) (cB cI cL cC : ClassId) (qx NN : Nat) (f : Nat → Int32) (n : Nat) (K : Nat → Nat × Nat) (tv : Nat) (Q : QS) (V : TS) (o i : Nat) (br : Int32) (s9 y : Nat) (ok : Bool) (hok : ok = true ↔ ¬ o = 16) (ho16 : o ≤ 16) (hOR : ¬ o = 16 → ORC orL O (o + 1) F L) (hnN : n ≤ NN) (hNN : NN ≤ 4096) (hi0 : i ≤ n) (h6 : v 6 = .ref qx) (h8 : v 8 = .int (nI n)) (h22 : v 22 = .ref tv) (hQ : QOK Q) (hV : TOK V) (hcu : V.us + (n + 12 - i) ≤ 400000) (hcr : Q.R + 8 * (n - i) + 7 ≤ 40000) (hs9 : s9 < Q.R) (hy : y < Q.R) (hsy : Q.qf (8 * s9 + 2) = -1) : Met l y_Mo_selectors (k_Mo_selectors :: gtbl) ({ frames := 8 + F, cells := kcap Q (Q.R + 8 * (n - i) + 7) + qcap V (V.us + (n + 12 - i)), slots := 22 * kcap Q (Q.R + 8 * (n - i) + 7) + 2 * qcap V (V.us + (n + 12 - i)), locals := 240 + L }) (va_Pc [.ref mo, .int (nI y), .int (nI s9), .int 0] (me K dC dI [(mo, .inr (13, MF 30 (rf (rs v Q o) i br))), (qx, .inl (cB, NN, .inl f)), (Q.qq, .inl (cI, (8 * Q.C), .inl Q.qf)), (Q.qe, .inl (cL, (3 * Q.C), .inr (.inl Q.ef))), (tv, .inr (12, MF 13 (tw V))), (V.au, .inl (cC, V.U, .inl V.un))] [(cB, .byte), (cI, .int), (cL, .long), (cC, .char)] sz)) (va_Qi (fun (res : Int32) (u : QS × TS × Nat × Int32 × Nat) => SLSo f ok (orL f n) O false n i o s9 y Q V res u) (fun u t9 => mz dC dI [(mo, .inr (13, MF 30 (rf (rs v u.1 u.2.2.2.2) u.2.2.1 u.2.2.2.1))), (qx, .inl (cB, NN, .inl f)), (u.1.qq, .inl (cI, (8 * u.1.C), .inl u.1.qf)), (u.1.qe, .inl (cL, (3 * u.1.C), .inr (.inl u.1.ef))), (tv, .inr (12, MF 13 (tw u.2.1))), (u.2.1.au, .inl (cC, u.2.1.U, .inl u.2.1.un))] [(cB, .byte), (cI, .int), (cL, .long), (cC, .char)] (va_A [(mo, .inr (13, MF 30 (rf (rs v Q o) i br))), (qx, .inl (cB, NN, .inl f)), (Q.qq, .inl (cI, (8 * Q.C), .inl Q.qf)), (Q.qe, .inl (cL, (3 * Q.C), .inr (.inl Q.ef))), (tv, .inr (12, MF 13 (tw V))), (V.au, .inl (cC, V.U, .inl V.un))] sz.size) t9 ∧ szk sz t9.heap (cQ Q V u.1 u.2.1) (sQ Q V u.1 u.2.1)) (va_A [(mo, .inr (13, MF 30 (rf (rs v Q o) i br))), (qx, .inl (cB, NN, .inl f)), (Q.qq, .inl (cI, (8 * Q.C), .inl Q.qf)), (Q.qe, .inl (cL, (3 * Q.C), .inr (.inl Q.ef))), (tv, .inr (12, MF 13 (tw V))), (V.au, .inl (cC, V.U, .inl V.un))] sz.size)) (kcap Q (Q.R + 8 * (n - i) + 7) + qcap V (V.us + (n + 12 - i))) (22 * kcap Q (Q.R + 8 * (n - i) + 7) + 2 * qcap V (V.us + (n + 12 - i))) (va_A [(mo, .inr (13, MF 30 (rf (rs v Q o) i br))), (qx, .inl (cB, NN, .inl f)), (Q.qq, .inl (cI, (8 * Q.C), .inl Q.qf)), (Q.qe, .inl (cL, (3 * Q.C), .inr (.inl Q.ef))), (tv, .inr (12, MF 13 (tw V))), (V.au, .inl (cC, V.U, .inl V.un))] sz.size) := by
  refine Met.ofW (cc := b_Mo_selectors) (maxL := 6) (ret := (some .boolean)) (by decide) rfl ?_
  intro p e s m args below meth c s₁ B hml hv
  obtain ⟨rfl, ⟨hsz, hP, hK, hD0⟩, hM⟩ := hv
  have hx := B.exec
  have hb := B.bytes
  have hr := B.returns
  have hts0 := atoms_spec (ws := k_Mo_selectors :: gtbl) B.pre
  have hts := fun w h => hts0 w (List.mem_cons_of_mem _ h)
  have hown : s.vm.findClass R_Mo = some m.cls := findClass_of_methodNamed B.named
  have hlocks := B.notSynchronized
  subst hsz
  have hD := hD0.self (sz := s.heap.size)
  generalize hAe : va_A [(mo, .inr (13, MF 30 (rf (rs v Q o) i br))), (qx, .inl (cB, NN, .inl f)), (Q.qq, .inl (cI, (8 * Q.C), .inl Q.qf)), (Q.qe, .inl (cL, (3 * Q.C), .inr (.inl Q.ef))), (tv, .inr (12, MF 13 (tw V))), (V.au, .inl (cC, V.U, .inl V.un))] s.heap.size = A at hD hM ⊢
  have hA : ∀ q : Nat, s.heap.size ≤ q → A q := fun q h => by rw [← hAe]; exact Or.inr h
  have hS : va_S A s.heap s.heap [] := va_S.rf
  have hP : va_P (dC, dI) classes [(mo, .inr (13, MF 30 (rf (rs v Q o) i br))), (qx, .inl (cB, NN, .inl f)), (Q.qq, .inl (cI, (8 * Q.C), .inl Q.qf)), (Q.qe, .inl (cL, (3 * Q.C), .inr (.inl Q.ef))), (tv, .inr (12, MF 13 (tw V))), (V.au, .inl (cC, V.U, .inl V.un))] s.heap := hP
  have hl := lv_entry ([.ref mo, .int (nI y), .int (nI s9), .int 0]) (n := 6) (Nat.le_of_ble_eq_true rfl)
  rw [lg_entry_eq]
  generalize (lg_sl ([.ref mo, .int (nI y), .int (nI s9), .int 0]) ++ List.replicate (6 - (lg_sl ([.ref mo, .int (nI y), .int (nI s9), .int 0])).length) Slot.unset).toArray = ls at hl ⊢
  have hl : lv_has ls 6 [(0, .ref mo), (1, .int (nI y)), (2, .int (nI s9)), (3, .int 0)] := hl
  have hQk_Q := hQ
  have hTk_V := hV
  have hCo := hQ.2.2.1
  have hCo2 := hQ.2.1
  clear hQ hV
  have hG_QV : GQ (Q.R + 8 * (n - i) + 7) (V.us + (n + 12 - i)) Q V Q V := GQ.rf
  refine w_same (fun hq => ?_)
  refine w_tight (k := cQ Q V Q V) (n := sQ Q V Q V) (by rw [cQ_rf.1, cQ_rf.2]; exact hq) ?_
  have hqb_QV : Q.R ≤ Q.C ∧ Q.C ≤ 100000 := ⟨hQk_Q.2.2.1, hQk_Q.2.1⟩
  have hfit_QV := hG_QV.fits
  refine lv_aload_n hx hb d_Mo_selectors_0 rfl (lv_at hl 0 rfl) ?_
  refine lv_bipush (v := 91) hx hb d_Mo_selectors_1 (by decide) ?_
  have hPc := hP.sub (ws' := [(mo, .inr (13, MF 30 (rf (rs v Q o) i br))), (qx, .inl (cB, NN, .inl f))]) [0, 1] rfl
  have hDc := hD.sub (ws' := [(mo, .inr (13, MF 30 (rf (rs v Q o) i br))), (qx, .inl (cB, NN, .inl f))]) [0, 1] (by decide) rfl
  have hKc := hK.sub (tys' := [(cB, .byte)]) [0] rfl
  have hFc := va_free (wc := [(mo, .inr (13, MF 30 (rf (rs v Q o) i br))), (qx, .inl (cB, NN, .inl f))]) hD hS hA [0, 1] rfl
  refine va_calli (va_runV (As := [.int 91]) (rest := []) ⟨hx, hb, hml, hown, hts⟩ (c_Mo_enter l dC dI mo s.heap (rf (rs v Q o) i br) cB qx NN f n i (by omega) (by omega) (by omega) ((rf_ne (by decide) (by decide)).trans ((rs_ne (by decide) (by decide) (by decide) (by decide)).trans h6)) rf_7 ((rf_ne (by decide) (by decide)).trans ((rs_ne (by decide) (by decide) (by decide) (by decide)).trans h8)) br rf_9 91 o (by omega) ((rf_ne (by decide) (by decide)).trans rs_23)) (cwV 1 hts (gt_V (own := R_Mo) (C := R_Mo) (i := 290) (y := y_Mo_enter) i_Mo_enter w_1423 w_1425 (gt_sel (y := y_Mo_enter) (n := 30) (by decide +kernel)) w_7) rfl rfl rfl (by decide +kernel) ⟨Nat.le_trans (m := 8) (Nat.le_of_ble_eq_true rfl) (Nat.le_add_right 8 F), Nat.le_trans (m := 240) (Nat.le_of_ble_eq_true rfl) (Nat.le_add_right 240 L)⟩) ⟨mp_blind, va_recv hKc hPc (ci := 13) (q0 := 0) rfl rfl, fun U hU hW => ⟨rfl, hU, by rw [hU]; exact hPc, va_K.moved hW.alike hKc, hDc.weaken (fun _ _ _ _ => trivial)⟩⟩ rfl rfl hl.1 rfl (lv_room (Nat.le_of_ble_eq_true rfl)) d_Mo_selectors_3 ⟨hfit_QV.1, hfit_QV.2⟩) hS (fun q _ h => hFc q h) hFc (fun r0 u2 t9 H1 locs ht hvm hw hB hz1 hk1 hS => ?_)
  obtain ⟨hP1, hK1, hD1⟩ := hB
  rw [ht] at hP1
  obtain ⟨hP, hD⟩ := va_join (wr := [(Q.qq, .inl (cI, (8 * Q.C), .inl Q.qf)), (Q.qe, .inl (cL, (3 * Q.C), .inr (.inl Q.ef))), (tv, .inr (12, MF 13 (tw V))), (V.au, .inl (cC, V.U, .inl V.un))]) (w1 := [(mo, .inr (13, MF 30 u2)), (qx, .inl (cB, NN, .inl f))]) hP hD [0, 1] [2, 3, 4, 5] rfl rfl (by decide) (by decide) hk1 hFc hP1 hD1
  generalize H1 = H at hP hS ⊢
  have hP : va_P (dC, dI) classes [(Q.qq, .inl (cI, (8 * Q.C), .inl Q.qf)), (Q.qe, .inl (cL, (3 * Q.C), .inr (.inl Q.ef))), (tv, .inr (12, MF 13 (tw V))), (V.au, .inl (cC, V.U, .inl V.un)), (mo, .inr (13, MF 30 u2)), (qx, .inl (cB, NN, .inl f))] H := hP
  have hD : va_D A [(Q.qq, .inl (cI, (8 * Q.C), .inl Q.qf)), (Q.qe, .inl (cL, (3 * Q.C), .inr (.inl Q.ef))), (tv, .inr (12, MF 13 (tw V))), (V.au, .inl (cC, V.U, .inl V.un)), (mo, .inr (13, MF 30 u2)), (qx, .inl (cB, NN, .inl f))] := hD
  have hP := hP.sub (ws' := [(mo, .inr (13, MF 30 u2)), (qx, .inl (cB, NN, .inl f)), (Q.qq, .inl (cI, (8 * Q.C), .inl Q.qf)), (Q.qe, .inl (cL, (3 * Q.C), .inr (.inl Q.ef))), (tv, .inr (12, MF 13 (tw V))), (V.au, .inl (cC, V.U, .inl V.un))]) [4, 5, 0, 1, 2, 3] rfl
  have hD := hD.sub (ws' := [(mo, .inr (13, MF 30 u2)), (qx, .inl (cB, NN, .inl f)), (Q.qq, .inl (cI, (8 * Q.C), .inl Q.qf)), (Q.qe, .inl (cL, (3 * Q.C), .inr (.inl Q.ef))), (tv, .inr (12, MF 13 (tw V))), (V.au, .inl (cC, V.U, .inl V.un))]) [4, 5, 0, 1, 2, 3] (by decide) rfl
  rcases hw with ⟨hn1, ht2, ht3⟩ | ⟨hn1, ht2, ht3⟩
  · rw [rs_o, rf_u7] at ht3
    rw [ht3] at hP hD
    subst ht2
    have hP : va_P (dC, dI) classes [(mo, .inr (13, MF 30 (rf (rs v Q (o + 1)) (i + 1) br))), (qx, .inl (cB, NN, .inl f)), (Q.qq, .inl (cI, (8 * Q.C), .inl Q.qf)), (Q.qe, .inl (cL, (3 * Q.C), .inr (.inl Q.ef))), (tv, .inr (12, MF 13 (tw V))), (V.au, .inl (cC, V.U, .inl V.un))] H := hP
    have hD : va_D A [(mo, .inr (13, MF 30 (rf (rs v Q (o + 1)) (i + 1) br))), (qx, .inl (cB, NN, .inl f)), (Q.qq, .inl (cI, (8 * Q.C), .inl Q.qf)), (Q.qe, .inl (cL, (3 * Q.C), .inr (.inl Q.ef))), (tv, .inr (12, MF 13 (tw V))), (V.au, .inl (cC, V.U, .inl V.un))] := hD
    refine lv_if_ne (tgt := 11) hx hb d_Mo_selectors_6 (by decide) (fun _ => ?_) (fun h => absurd h (by decide))
    refine lv_iconst (v := (-1)) hx hb d_Mo_selectors_11 (by decide) ?_
    refine lv_istore (lv' := [(4, .int (-1)), (0, .ref mo), (1, .int (nI y)), (2, .int (nI s9)), (3, .int 0)]) hx hb d_Mo_selectors_12 hl (by decide) rfl (fun ls hl => ?_)
    have hlt0 := here_in hn1.1 (by decide)
    have hsl0 : slsP f n ok (orL f n) false i = slsL f n (orL f n) false (n + 1) (i + 1) true true [] := by unfold slsP; rw [if_pos ⟨hn1.1, hok.mpr hn1.2⟩]
    refine w_same (fun hq => ?_)
    refine W.widen (k := kcap Q (Q.R + 8 * (n - i) + 7) + qcap V (V.us + (n + 12 - i))) (n := 22 * kcap Q (Q.R + 8 * (n - i) + 7) + 2 * qcap V (V.us + (n + 12 - i))) hfit_QV.1 hfit_QV.2 ?_
    refine w_loopH (D := (dC, dI)) (cl := classes) (A := A) (H0 := s.heap) (nL := 6) 14 (σ := QS × TS × Nat × Nat × Int32 × Int32 × Bool × Bool × List QT) (fun ⟨Qc, Vc, m9, j, b, bf, fst, fl, ac⟩ H => SLi O Q V Q.R s9 y Qc Vc bf fst fl ac ∧ QOK Qc ∧ TOK Vc ∧ GQ (Q.R + 8 * (n - i) + 7) (V.us + (n + 12 - i)) Q V Qc Vc ∧ (∃ us, TX V Vc us) ∧ Qc.R + 8 * (i + 1) ≤ Q.R + 8 * j ∧ Vc.us + (i + 1) ≤ V.us + j ∧ Q.R ≤ Qc.R ∧ j ≤ n ∧ i + 1 ≤ j ∧ n + 1 ≤ m9 + j ∧ slsL f n (orL f n) false m9 j fst fl ac = slsL f n (orL f n) false (n + 1) (i + 1) true true [] ∧ szk s.heap H (cQ Q V Qc Vc) (sQ Q V Qc Vc)) (fun ⟨Qc, Vc, m9, j, b, bf, fst, fl, ac⟩ => n + 1 - j) (fun ⟨Qc, Vc, m9, j, b, bf, fst, fl, ac⟩ => [(mo, .inr (13, MF 30 (rf (rs v Qc (o + 1)) j b))), (qx, .inl (cB, NN, .inl f)), (Qc.qq, .inl (cI, (8 * Qc.C), .inl Qc.qf)), (Qc.qe, .inl (cL, (3 * Qc.C), .inr (.inl Qc.ef))), (tv, .inr (12, MF 13 (tw Vc))), (Vc.au, .inl (cC, Vc.U, .inl Vc.un))]) (fun ⟨Qc, Vc, m9, j, b, bf, fst, fl, ac⟩ => [(0, .ref mo), (1, .int (nI y)), (2, .int (nI s9)), (3, .int 0), (4, .int bf)]) ?_ (Q, V, n + 1, i + 1, br, -1, true, true, []) ⟨SLi.rf hsy, hQk_Q, hTk_V, hG_QV, ⟨[], TX.rf hTk_V⟩, by show Q.R + 8 * (i + 1) ≤ Q.R + 8 * (i + 1); omega, by show V.us + (i + 1) ≤ V.us + (i + 1); omega, Nat.le_refl _, by show i + 1 ≤ n; omega, Nat.le_refl _, by show n + 1 ≤ n + 1 + (i + 1); omega, rfl, hq⟩ hP hD hS (lv_sub hl [1, 2, 3, 4, 0] rfl)
    rintro ⟨Qc, Vc, m9, j, b, bf, fst, fl, ac⟩ H locs ls hI ih hP hD hS hl
    have hP : va_P (dC, dI) classes [(mo, .inr (13, MF 30 (rf (rs v Qc (o + 1)) j b))), (qx, .inl (cB, NN, .inl f)), (Qc.qq, .inl (cI, (8 * Qc.C), .inl Qc.qf)), (Qc.qe, .inl (cL, (3 * Qc.C), .inr (.inl Qc.ef))), (tv, .inr (12, MF 13 (tw Vc))), (Vc.au, .inl (cC, Vc.U, .inl Vc.un))] H := hP
    have hD : va_D A [(mo, .inr (13, MF 30 (rf (rs v Qc (o + 1)) j b))), (qx, .inl (cB, NN, .inl f)), (Qc.qq, .inl (cI, (8 * Qc.C), .inl Qc.qf)), (Qc.qe, .inl (cL, (3 * Qc.C), .inr (.inl Qc.ef))), (tv, .inr (12, MF 13 (tw Vc))), (Vc.au, .inl (cC, Vc.U, .inl Vc.un))] := hD
    have hl : lv_has ls 6 [(0, .ref mo), (1, .int (nI y)), (2, .int (nI s9)), (3, .int 0), (4, .int bf)] := hl
    obtain ⟨hSL, hQk_Qc, hTk_Vc, hG_QcVc, ⟨usc, hXc⟩, hI1, hI2, hI3, hI4, hI5, hI6, hI7, hI8⟩ := hI
    refine w_tight hI8 ?_
    obtain ⟨m0, hm0⟩ : ∃ m0, m9 = m0 + 1 := ⟨m9 - 1, by omega⟩
    have hXcs := hXc.us
    have hqb_QcVc : Qc.R ≤ Qc.C ∧ Qc.C ≤ 100000 := ⟨hQk_Qc.2.2.1, hQk_Qc.2.1⟩
    have hfit_QcVc := hG_QcVc.fits
    refine lv_aload_n hx hb d_Mo_selectors_14 rfl (lv_at hl 0 rfl) ?_
    have hPc := hP.sub (ws' := [(mo, .inr (13, MF 30 (rf (rs v Qc (o + 1)) j b))), (qx, .inl (cB, NN, .inl f))]) [0, 1] rfl
    have hDc := hD.sub (ws' := [(mo, .inr (13, MF 30 (rf (rs v Qc (o + 1)) j b))), (qx, .inl (cB, NN, .inl f))]) [0, 1] (by decide) rfl
    have hKc := hK.sub (tys' := [(cB, .byte)]) [0] rfl
    have hFc := va_free (wc := [(mo, .inr (13, MF 30 (rf (rs v Qc (o + 1)) j b))), (qx, .inl (cB, NN, .inl f))]) hD hS hA [0, 1] rfl
    refine va_callv (va_runV (As := []) (rest := []) ⟨hx, hb, hml, hown, hts⟩ (c_Mo_blanks l dC dI mo H (rf (rs v Qc (o + 1)) j b) cB qx NN f n j (by omega) (by omega) (by omega) ((rf_ne (by decide) (by decide)).trans ((rs_ne (by decide) (by decide) (by decide) (by decide)).trans h6)) rf_7 ((rf_ne (by decide) (by decide)).trans ((rs_ne (by decide) (by decide) (by decide) (by decide)).trans h8))) (cwV 0 hts (gt_V (own := R_Mo) (C := R_Mo) (i := 184) (y := y_Mo_blanks) i_Mo_blanks w_1229 w_1231 (gt_sel (y := y_Mo_blanks) (n := 30) (by decide +kernel)) w_7) rfl rfl rfl (by decide +kernel) ⟨Nat.le_trans (m := 8) (Nat.le_of_ble_eq_true rfl) (Nat.le_add_right 8 F), Nat.le_trans (m := 240) (Nat.le_of_ble_eq_true rfl) (Nat.le_add_right 240 L)⟩) ⟨mp_blind, va_recv hKc hPc (ci := 13) (q0 := 0) rfl rfl, fun U hU hW => ⟨rfl, hU, by rw [hU]; exact hPc, va_K.moved hW.alike hKc, hDc.weaken (fun _ _ _ _ => trivial)⟩⟩ rfl rfl hl.1 rfl (lv_room (Nat.le_of_ble_eq_true rfl)) d_Mo_selectors_15 ⟨hfit_QcVc.1, hfit_QcVc.2⟩) hS (fun q _ h => hFc q h) hFc (fun _u t9 H1 locs ht hvm hw hB hz1 hk1 hS => ?_)
    obtain ⟨hP1, hK1, hD1⟩ := hB
    rw [ht] at hP1
    obtain ⟨hP, hD⟩ := va_join (wr := [(Qc.qq, .inl (cI, (8 * Qc.C), .inl Qc.qf)), (Qc.qe, .inl (cL, (3 * Qc.C), .inr (.inl Qc.ef))), (tv, .inr (12, MF 13 (tw Vc))), (Vc.au, .inl (cC, Vc.U, .inl Vc.un))]) (w1 := [(mo, .inr (13, MF 30 (va_up (rf (rs v Qc (o + 1)) j b) 7 (.int (nI (skipH f n j)))))), (qx, .inl (cB, NN, .inl f))]) hP hD [0, 1] [2, 3, 4, 5] rfl rfl (by decide) (by decide) hk1 hFc hP1 hD1
    generalize H1 = H at hP hS ⊢
    have hP : va_P (dC, dI) classes [(Qc.qq, .inl (cI, (8 * Qc.C), .inl Qc.qf)), (Qc.qe, .inl (cL, (3 * Qc.C), .inr (.inl Qc.ef))), (tv, .inr (12, MF 13 (tw Vc))), (Vc.au, .inl (cC, Vc.U, .inl Vc.un)), (mo, .inr (13, MF 30 (va_up (rf (rs v Qc (o + 1)) j b) 7 (.int (nI (skipH f n j)))))), (qx, .inl (cB, NN, .inl f))] H := hP
    have hD : va_D A [(Qc.qq, .inl (cI, (8 * Qc.C), .inl Qc.qf)), (Qc.qe, .inl (cL, (3 * Qc.C), .inr (.inl Qc.ef))), (tv, .inr (12, MF 13 (tw Vc))), (Vc.au, .inl (cC, Vc.U, .inl Vc.un)), (mo, .inr (13, MF 30 (va_up (rf (rs v Qc (o + 1)) j b) 7 (.int (nI (skipH f n j)))))), (qx, .inl (cB, NN, .inl f))] := hD
    have hP := hP.sub (ws' := [(mo, .inr (13, MF 30 (va_up (rf (rs v Qc (o + 1)) j b) 7 (.int (nI (skipH f n j)))))), (qx, .inl (cB, NN, .inl f)), (Qc.qq, .inl (cI, (8 * Qc.C), .inl Qc.qf)), (Qc.qe, .inl (cL, (3 * Qc.C), .inr (.inl Qc.ef))), (tv, .inr (12, MF 13 (tw Vc))), (Vc.au, .inl (cC, Vc.U, .inl Vc.un))]) [4, 5, 0, 1, 2, 3] rfl
    have hD := hD.sub (ws' := [(mo, .inr (13, MF 30 (va_up (rf (rs v Qc (o + 1)) j b) 7 (.int (nI (skipH f n j)))))), (qx, .inl (cB, NN, .inl f)), (Qc.qq, .inl (cI, (8 * Qc.C), .inl Qc.qf)), (Qc.qe, .inl (cL, (3 * Qc.C), .inr (.inl Qc.ef))), (tv, .inr (12, MF 13 (tw Vc))), (Vc.au, .inl (cC, Vc.U, .inl Vc.un))]) [4, 5, 0, 1, 2, 3] (by decide) rfl
    rw [rf_u7] at hP hD
    have hP : va_P (dC, dI) classes [(mo, .inr (13, MF 30 (rf (rs v Qc (o + 1)) (skipH f n j) b))), (qx, .inl (cB, NN, .inl f)), (Qc.qq, .inl (cI, (8 * Qc.C), .inl Qc.qf)), (Qc.qe, .inl (cL, (3 * Qc.C), .inr (.inl Qc.ef))), (tv, .inr (12, MF 13 (tw Vc))), (Vc.au, .inl (cC, Vc.U, .inl Vc.un))] H := hP
    have hD : va_D A [(mo, .inr (13, MF 30 (rf (rs v Qc (o + 1)) (skipH f n j) b))), (qx, .inl (cB, NN, .inl f)), (Qc.qq, .inl (cI, (8 * Qc.C), .inl Qc.qf)), (Qc.qe, .inl (cL, (3 * Qc.C), .inr (.inl Qc.ef))), (tv, .inr (12, MF 13 (tw Vc))), (Vc.au, .inl (cC, Vc.U, .inl Vc.un))] := hD
    have hsk_18 := skipH_n (f := f) (show j ≤ n by omega)
    refine lv_aload_n hx hb d_Mo_selectors_18 rfl (lv_at hl 0 rfl) ?_
    refine lv_iload_n hx hb d_Mo_selectors_19 rfl (lv_at hl 3 rfl) ?_
    have hPc := hP.sub (ws' := [(mo, .inr (13, MF 30 (rf (rs v Qc (o + 1)) (skipH f n j) b))), (qx, .inl (cB, NN, .inl f)), (Qc.qq, .inl (cI, (8 * Qc.C), .inl Qc.qf)), (Qc.qe, .inl (cL, (3 * Qc.C), .inr (.inl Qc.ef))), (tv, .inr (12, MF 13 (tw Vc))), (Vc.au, .inl (cC, Vc.U, .inl Vc.un))]) [0, 1, 2, 3, 4, 5] rfl
    have hDc := hD.sub (ws' := [(mo, .inr (13, MF 30 (rf (rs v Qc (o + 1)) (skipH f n j) b))), (qx, .inl (cB, NN, .inl f)), (Qc.qq, .inl (cI, (8 * Qc.C), .inl Qc.qf)), (Qc.qe, .inl (cL, (3 * Qc.C), .inr (.inl Qc.ef))), (tv, .inr (12, MF 13 (tw Vc))), (Vc.au, .inl (cC, Vc.U, .inl Vc.un))]) [0, 1, 2, 3, 4, 5] (by decide) rfl
    have hKc := hK.sub (tys' := [(cB, .byte), (cI, .int), (cL, .long), (cC, .char)]) [0, 1, 2, 3] rfl
    have hFc := va_free (wc := [(mo, .inr (13, MF 30 (rf (rs v Qc (o + 1)) (skipH f n j) b))), (qx, .inl (cB, NN, .inl f)), (Qc.qq, .inl (cI, (8 * Qc.C), .inl Qc.qf)), (Qc.qe, .inl (cL, (3 * Qc.C), .inr (.inl Qc.ef))), (tv, .inr (12, MF 13 (tw Vc))), (Vc.au, .inl (cC, Vc.U, .inl Vc.un))]) hD hS hA [0, 1, 2, 3, 4, 5] rfl
    refine w_same (fun hq0 => ?_)
    refine va_calli (va_runV (As := [.int 0]) (rest := []) ⟨hx, hb, hml, hown, hts⟩ (c_sel0 orL O F L hOf l dC dI mo H v cB cI cL cC qx NN f n K tv Qc Vc (o + 1) (skipH f n j) b (hOR hn1.2) hnN hNN (by omega) h6 h8 h22 hQk_Qc hTk_Vc (by omega) (by omega)) (cwV 1 hts (gt_V (own := R_Mo) (C := R_Mo) (i := 293) (y := y_Mo_selector) i_Mo_selector w_1427 w_1429 (gt_sel (y := y_Mo_selector) (n := 30) (by decide +kernel)) w_7) rfl rfl rfl (by decide +kernel) ⟨by show 7 + F + 1 ≤ 8 + F; omega, by show 8 + (5 + 11) + (200 + L) ≤ 240 + L; omega⟩) ⟨me_blind, va_recv hKc hPc (ci := 13) (q0 := 0) rfl rfl, fun U hU hW => ⟨rfl, ⟨hU, by rw [hU]; exact hPc, va_K.moved hW.alike hKc, hDc.weaken (fun _ _ _ _ => trivial)⟩, by rw [hU]; exact ME.call hM hS.2.1 hFc hW⟩⟩ rfl rfl hl.1 rfl (lv_room (Nat.le_of_ble_eq_true rfl)) d_Mo_selectors_20 ⟨(hG_QcVc.step (B2 := Qc.R + 8 * (n - (skipH f n j)) + 4) (C2 := Vc.us + (n + 12 - (skipH f n j))) (by omega) (by omega)).1, (hG_QcVc.step (B2 := Qc.R + 8 * (n - (skipH f n j)) + 4) (C2 := Vc.us + (n + 12 - (skipH f n j))) (by omega) (by omega)).2⟩) hS (fun q _ h => hFc q h) hFc (fun r0 ⟨Q1, V1, j1, b1, o1⟩ t9 H1 locs ht hvm hw hB hz1 hk1 hS => ?_)
    obtain ⟨⟨hP1, hK1, hD1⟩, hz9⟩ := hB
    rw [ht] at hP1
    rw [ht] at hz9
    obtain ⟨⟨hQk_Q1, hGn, hTXs, hR1_Q1, hR2_Q1⟩, hw⟩ := hw
    have hQk_Q1 : QOK Q1 := hQk_Q1
    obtain ⟨hG_Q1V1, hGc, hGs⟩ := hG_QcVc.tr hGn (by omega) (by omega)
    have hR1_Q1 : Qc.R ≤ Q1.R := hR1_Q1
    have hR2_Q1 : Q1.R ≤ Qc.R + 8 * (n - (skipH f n j)) + 4 := hR2_Q1
    obtain ⟨us1, hX_V1, hln_V1⟩ := hTXs
    have hX_V1 : TX Vc V1 us1 := hX_V1
    have hXs_V1 := hX_V1.us
    have hz9 : szk H H1 (cQ Qc Vc Q1 V1) (sQ Qc Vc Q1 V1) := hz9
    have hq1 : szk s.heap H1 (cQ Q V Q1 V1) (sQ Q V Q1 V1) := (hq0.trans hz9).mono hGc hGs
    refine w_tight hq1 ?_
    obtain ⟨hP, hD⟩ := va_join (wr := []) (w1 := [(mo, .inr (13, MF 30 (rf (rs v Q1 o1) j1 b1))), (qx, .inl (cB, NN, .inl f)), (Q1.qq, .inl (cI, (8 * Q1.C), .inl Q1.qf)), (Q1.qe, .inl (cL, (3 * Q1.C), .inr (.inl Q1.ef))), (tv, .inr (12, MF 13 (tw V1))), (V1.au, .inl (cC, V1.U, .inl V1.un))]) hP hD [0, 1, 2, 3, 4, 5] [] rfl rfl (by decide) (by decide) hk1 hFc hP1 hD1
    generalize H1 = H at hP hS ⊢
    have hP : va_P (dC, dI) classes [(mo, .inr (13, MF 30 (rf (rs v Q1 o1) j1 b1))), (qx, .inl (cB, NN, .inl f)), (Q1.qq, .inl (cI, (8 * Q1.C), .inl Q1.qf)), (Q1.qe, .inl (cL, (3 * Q1.C), .inr (.inl Q1.ef))), (tv, .inr (12, MF 13 (tw V1))), (V1.au, .inl (cC, V1.U, .inl V1.un))] H := hP
    have hD : va_D A [(mo, .inr (13, MF 30 (rf (rs v Q1 o1) j1 b1))), (qx, .inl (cB, NN, .inl f)), (Q1.qq, .inl (cI, (8 * Q1.C), .inl Q1.qf)), (Q1.qe, .inl (cL, (3 * Q1.C), .inr (.inl Q1.ef))), (tv, .inr (12, MF 13 (tw V1))), (V1.au, .inl (cC, V1.U, .inl V1.un))] := hD
    have hP := hP.sub (ws' := [(mo, .inr (13, MF 30 (rf (rs v Q1 o1) j1 b1))), (qx, .inl (cB, NN, .inl f)), (tv, .inr (12, MF 13 (tw V1))), (Q1.qq, .inl (cI, (8 * Q1.C), .inl Q1.qf)), (Q1.qe, .inl (cL, (3 * Q1.C), .inr (.inl Q1.ef))), (V1.au, .inl (cC, V1.U, .inl V1.un))]) [0, 1, 4, 2, 3, 5] rfl
    have hD := hD.sub (ws' := [(mo, .inr (13, MF 30 (rf (rs v Q1 o1) j1 b1))), (qx, .inl (cB, NN, .inl f)), (tv, .inr (12, MF 13 (tw V1))), (Q1.qq, .inl (cI, (8 * Q1.C), .inl Q1.qf)), (Q1.qe, .inl (cL, (3 * Q1.C), .inr (.inl Q1.ef))), (V1.au, .inl (cC, V1.U, .inl V1.un))]) [0, 1, 4, 2, 3, 5] (by decide) rfl
    have hP := hP.sub (ws' := [(mo, .inr (13, MF 30 (rf (rs v Q1 o1) j1 b1))), (qx, .inl (cB, NN, .inl f)), (Q1.qq, .inl (cI, (8 * Q1.C), .inl Q1.qf)), (Q1.qe, .inl (cL, (3 * Q1.C), .inr (.inl Q1.ef))), (tv, .inr (12, MF 13 (tw V1))), (V1.au, .inl (cC, V1.U, .inl V1.un))]) [0, 1, 3, 4, 2, 5] rfl
    have hD := hD.sub (ws' := [(mo, .inr (13, MF 30 (rf (rs v Q1 o1) j1 b1))), (qx, .inl (cB, NN, .inl f)), (Q1.qq, .inl (cI, (8 * Q1.C), .inl Q1.qf)), (Q1.qe, .inl (cL, (3 * Q1.C), .inr (.inl Q1.ef))), (tv, .inr (12, MF 13 (tw V1))), (V1.au, .inl (cC, V1.U, .inl V1.un))]) [0, 1, 3, 4, 2, 5] (by decide) rfl
    have hTk_V1 := hX_V1.ok hTk_Vc (by omega)
    have hqb_Q1V1 : Q1.R ≤ Q1.C ∧ Q1.C ≤ 100000 := ⟨hQk_Q1.2.2.1, hQk_Q1.2.1⟩
    have hfit_Q1V1 := hG_Q1V1.fits
    rcases hw with ⟨fl1, g1, hv_1, hv_2, hv_3, hv_4, hv_5, hv_6, hv_7, hv_8, hv_9, hv_10, hv_11⟩ | ⟨hv_1, hv_2⟩
    · have hv_11 : (o + 1) = o1 := hv_11.symm
      subst hv_11
      have hP : va_P (dC, dI) classes [(mo, .inr (13, MF 30 (rf (rs v Q1 (o + 1)) j1 b1))), (qx, .inl (cB, NN, .inl f)), (Q1.qq, .inl (cI, (8 * Q1.C), .inl Q1.qf)), (Q1.qe, .inl (cL, (3 * Q1.C), .inr (.inl Q1.ef))), (tv, .inr (12, MF 13 (tw V1))), (V1.au, .inl (cC, V1.U, .inl V1.un))] H := hP
      have hD : va_D A [(mo, .inr (13, MF 30 (rf (rs v Q1 (o + 1)) j1 b1))), (qx, .inl (cB, NN, .inl f)), (Q1.qq, .inl (cI, (8 * Q1.C), .inl Q1.qf)), (Q1.qe, .inl (cL, (3 * Q1.C), .inr (.inl Q1.ef))), (tv, .inr (12, MF 13 (tw V1))), (V1.au, .inl (cC, V1.U, .inl V1.un))] := hD
      have hv_2 : selP f n (orL f n) false (skipH f n j) = some (j1, fl1, g1) := hv_2
      have hv_3 : SELp O Q1 V1 Qc.R Q1.R Qc.R g1 := hv_3
      have hv_4 : fl1 = true ↔ (Q1.qf (8 * Qc.R + 0) = 1 ∨ Q1.qf (8 * Qc.R + 0) = 3) := hv_4
      have hv_5 : Q1.qf (8 * Qc.R + 1) = -1 := hv_5
      have hv_6 : alr Qc Vc Q1 V1 0 Qc.R := hv_6
      have hv_7 : Q1.R + 8 * (skipH f n j) + 7 ≤ Qc.R + 8 * j1 := hv_7
      have hv_8 : V1.us + (skipH f n j) ≤ Vc.us + j1 := hv_8
      have hv_9 : j1 ≤ n := hv_9
      have hv_10 : Qc.R < Q1.R := hv_10
      subst hv_1
      refine lv_istore (lv' := [(5, .int (nI Qc.R)), (0, .ref mo), (1, .int (nI y)), (2, .int (nI s9)), (3, .int 0), (4, .int bf)]) hx hb d_Mo_selectors_23 hl (by decide) rfl (fun ls hl => ?_)
      refine lv_iload hx hb d_Mo_selectors_25 (lv_at hl 0 rfl) ?_
      refine lv_if_ge (tgt := 32) hx hb d_Mo_selectors_27 (by decide) (fun _ => ?_) (fun h => absurd (nI_pos' (by omega)) h)
      refine w_join (D := (dC, dI)) (cl := classes) (A := A) (H0 := s.heap) (nL := 6) 91 (σ := QS × Bool) (fun ⟨Qz, fl2⟩ => SLi O Q V Q.R s9 y Qz V1 (nI Qc.R) false fl2 (ac ++ [g1]) ∧ fl2 = (fl && (fst && fl1)) ∧ QOK Qz ∧ GQ (Q.R + 8 * (n - i) + 7) (V.us + (n + 12 - i)) Q V Qz V1 ∧ Qz.R = Q1.R) (fun ⟨Qz, fl2⟩ => cQ Q V Qz V1) (fun ⟨Qz, fl2⟩ => sQ Q V Qz V1) (fun ⟨Qz, fl2⟩ => [(mo, .inr (13, MF 30 (rf (rs v Qz (o + 1)) j1 b1))), (qx, .inl (cB, NN, .inl f)), (Qz.qq, .inl (cI, (8 * Qz.C), .inl Qz.qf)), (Qz.qe, .inl (cL, (3 * Qz.C), .inr (.inl Qz.ef))), (tv, .inr (12, MF 13 (tw V1))), (V1.au, .inl (cC, V1.U, .inl V1.un))]) (fun ⟨Qz, fl2⟩ => [(0, .ref mo), (1, .int (nI y)), (2, .int (nI s9)), (3, .int 0), (5, .int (nI Qc.R))]) (fun jn91 => ?_) ?_
      · rcases hSL.2.2.1 with ⟨hb1, hb2, hb5⟩ | ⟨a9, hb1, hb2, hb3, hb4⟩
        · rw [hb1] at hl hSL
          have hl : lv_has ls 6 [(5, .int (nI Qc.R)), (0, .ref mo), (1, .int (nI y)), (2, .int (nI s9)), (3, .int 0), (4, .int (-1))] := hl
          refine lv_iload hx hb d_Mo_selectors_32 (lv_at hl 5 rfl) ?_
          refine lv_if_ge (tgt := 48) hx hb d_Mo_selectors_34 (by decide) (fun h => absurd h (by decide)) (fun _ => ?_)
          refine lv_aload_n hx hb d_Mo_selectors_37 rfl (lv_at hl 1 rfl) ?_
          refine lv_iload_n hx hb d_Mo_selectors_38 rfl (lv_at hl 3 rfl) ?_
          refine lv_iconst (v := 2) hx hb d_Mo_selectors_39 (by decide) ?_
          refine lv_iload hx hb d_Mo_selectors_40 (lv_at hl 0 rfl) ?_
          refine W.eq (g2 := F0 m 42 ls [.int (nI Qc.R), .int (nI 2), .int (nI s9), .ref mo]) rfl ?_
          have hPc := hP.sub (ws' := [(mo, .inr (13, MF 30 (rf (rs v Q1 (o + 1)) j1 b1))), (Q1.qq, .inl (cI, (8 * Q1.C), .inl Q1.qf))]) [0, 2] rfl
          have hDc := hD.sub (ws' := [(mo, .inr (13, MF 30 (rf (rs v Q1 (o + 1)) j1 b1))), (Q1.qq, .inl (cI, (8 * Q1.C), .inl Q1.qf))]) [0, 2] (by decide) rfl
          have hKc := hK.sub (tys' := [(cI, .int)]) [1] rfl
          have hFc := va_free (wc := [(mo, .inr (13, MF 30 (rf (rs v Q1 (o + 1)) j1 b1))), (Q1.qq, .inl (cI, (8 * Q1.C), .inl Q1.qf))]) hD hS hA [0, 2] rfl
          refine va_callv (va_runV (As := [.int (nI s9), .int (nI 2), .int (nI Qc.R)]) (rest := []) ⟨hx, hb, hml, hown, hts⟩ (c_Mo_set l dC dI mo H (rf (rs v Q1 (o + 1)) j1 b1) cI Q1.qq (8 * Q1.C) Q1.qf s9 2 ((nI Qc.R)) (by omega) (by omega) ((rf_ne (by decide) (by decide)).trans rs_19)) (cwV 3 hts (gt_V (own := R_Mo) (C := R_Mo) (i := 272) (y := y_Mo_set) i_Mo_set w_1411 w_1413 (gt_sel (y := y_Mo_set) (n := 30) (by decide +kernel)) w_7) rfl rfl rfl (by decide +kernel) ⟨Nat.le_trans (m := 8) (Nat.le_of_ble_eq_true rfl) (Nat.le_add_right 8 F), Nat.le_trans (m := 240) (Nat.le_of_ble_eq_true rfl) (Nat.le_add_right 240 L)⟩) ⟨mp_blind, va_recv hKc hPc (ci := 13) (q0 := 0) rfl rfl, fun U hU hW => ⟨rfl, hU, by rw [hU]; exact hPc, va_K.moved hW.alike hKc, hDc.weaken (fun _ _ _ _ => trivial)⟩⟩ rfl rfl hl.1 rfl (lv_room (Nat.le_of_ble_eq_true rfl)) d_Mo_selectors_42 ⟨hfit_Q1V1.1, hfit_Q1V1.2⟩) hS (fun q _ h => hFc q h) hFc (fun _u t9 H1 locs ht hvm hw hB hz1 hk1 hS => ?_)
          obtain ⟨hP1, hK1, hD1⟩ := hB
          rw [ht] at hP1
          obtain ⟨hP, hD⟩ := va_join (wr := [(qx, .inl (cB, NN, .inl f)), (Q1.qe, .inl (cL, (3 * Q1.C), .inr (.inl Q1.ef))), (tv, .inr (12, MF 13 (tw V1))), (V1.au, .inl (cC, V1.U, .inl V1.un))]) (w1 := [(mo, .inr (13, MF 30 (rf (rs v Q1 (o + 1)) j1 b1))), (Q1.qq, .inl (cI, (8 * Q1.C), .inl (upd Q1.qf (8 * s9 + 2) ((nI Qc.R)))))]) hP hD [0, 2] [1, 3, 4, 5] rfl rfl (by decide) (by decide) hk1 hFc hP1 hD1
          generalize H1 = H at hP hS ⊢
          have hP : va_P (dC, dI) classes [(qx, .inl (cB, NN, .inl f)), (Q1.qe, .inl (cL, (3 * Q1.C), .inr (.inl Q1.ef))), (tv, .inr (12, MF 13 (tw V1))), (V1.au, .inl (cC, V1.U, .inl V1.un)), (mo, .inr (13, MF 30 (rf (rs v Q1 (o + 1)) j1 b1))), (Q1.qq, .inl (cI, (8 * Q1.C), .inl (upd Q1.qf (8 * s9 + 2) ((nI Qc.R)))))] H := hP
          have hD : va_D A [(qx, .inl (cB, NN, .inl f)), (Q1.qe, .inl (cL, (3 * Q1.C), .inr (.inl Q1.ef))), (tv, .inr (12, MF 13 (tw V1))), (V1.au, .inl (cC, V1.U, .inl V1.un)), (mo, .inr (13, MF 30 (rf (rs v Q1 (o + 1)) j1 b1))), (Q1.qq, .inl (cI, (8 * Q1.C), .inl (upd Q1.qf (8 * s9 + 2) ((nI Qc.R)))))] := hD
          have hP := hP.sub (ws' := [(mo, .inr (13, MF 30 (rf (rs v Q1 (o + 1)) j1 b1))), (qx, .inl (cB, NN, .inl f)), (Q1.qq, .inl (cI, (8 * Q1.C), .inl (upd Q1.qf (8 * s9 + 2) ((nI Qc.R))))), (Q1.qe, .inl (cL, (3 * Q1.C), .inr (.inl Q1.ef))), (tv, .inr (12, MF 13 (tw V1))), (V1.au, .inl (cC, V1.U, .inl V1.un))]) [4, 0, 5, 1, 2, 3] rfl
          have hD := hD.sub (ws' := [(mo, .inr (13, MF 30 (rf (rs v Q1 (o + 1)) j1 b1))), (qx, .inl (cB, NN, .inl f)), (Q1.qq, .inl (cI, (8 * Q1.C), .inl (upd Q1.qf (8 * s9 + 2) ((nI Qc.R))))), (Q1.qe, .inl (cL, (3 * Q1.C), .inr (.inl Q1.ef))), (tv, .inr (12, MF 13 (tw V1))), (V1.au, .inl (cC, V1.U, .inl V1.un))]) [4, 0, 5, 1, 2, 3] (by decide) rfl
          obtain ⟨Q2, e_Q2⟩ : ∃ z : QS, z = QS.wf Q1 (upd Q1.qf (8 * s9 + 2) ((nI Qc.R))) := ⟨_, rfl⟩
          have hP : va_P (dC, dI) classes [(mo, .inr (13, MF 30 (rf (rs v Q2 (o + 1)) j1 b1))), (qx, .inl (cB, NN, .inl f)), (Q2.qq, .inl (cI, (8 * Q2.C), .inl Q2.qf)), (Q2.qe, .inl (cL, (3 * Q2.C), .inr (.inl Q2.ef))), (tv, .inr (12, MF 13 (tw V1))), (V1.au, .inl (cC, V1.U, .inl V1.un))] H := by subst e_Q2; exact hP
          have hD : va_D A [(mo, .inr (13, MF 30 (rf (rs v Q2 (o + 1)) j1 b1))), (qx, .inl (cB, NN, .inl f)), (Q2.qq, .inl (cI, (8 * Q2.C), .inl Q2.qf)), (Q2.qe, .inl (cL, (3 * Q2.C), .inr (.inl Q2.ef))), (tv, .inr (12, MF 13 (tw V1))), (V1.au, .inl (cC, V1.U, .inl V1.un))] := by subst e_Q2; exact hD
          have hf_Q2 : Q2.C = Q1.C ∧ Q2.R = Q1.R ∧ Q2.qf = upd Q1.qf (8 * s9 + 2) ((nI Qc.R)) := by rw [e_Q2]; exact ⟨rfl, rfl, rfl⟩
          have he_Q2 : Q2.ef = Q1.ef := by rw [e_Q2]; rfl
          have hQk_Q2 : QOK Q2 := by rw [e_Q2]; exact hQk_Q1
          have hG_Q2V1 : GQ (Q.R + 8 * (n - i) + 7) (V.us + (n + 12 - i)) Q V Q2 V1 := by unfold GQ at hG_Q1V1 ⊢; rw [hf_Q2.1]; exact hG_Q1V1
          refine w_same (fun hq => ?_)
          refine w_tight (k := cQ Q V Q2 V1) (n := sQ Q V Q2 V1) (by unfold cQ sQ at hq ⊢; rw [hf_Q2.1]; exact hq) ?_
          have hR_Q2 := hf_Q2.2.1
          have hqb_Q2V1 : Q2.R ≤ Q2.C ∧ Q2.C ≤ 100000 := ⟨hQk_Q2.2.2.1, hQk_Q2.2.1⟩
          have hfit_Q2V1 := hG_Q2V1.fits
          have hSL2 : SLi O Q V Q.R s9 y Q2 V1 (nI Qc.R) false fl (ac ++ [g1]) := hSL.one hOf hb5 hs9 hy hv_6 hv_3 hv_5 hf_Q2.2.2 he_Q2 hR_Q2
          refine lv_goto (tgt := 57) hx hb d_Mo_selectors_45 (by decide) ?_
          refine lv_iload hx hb d_Mo_selectors_57 (lv_at hl 5 rfl) ?_
          refine lv_if_ge (tgt := 84) hx hb d_Mo_selectors_59 (by decide) (fun h => absurd h (by decide)) (fun _ => ?_)
          refine lv_aload_n hx hb d_Mo_selectors_62 rfl (lv_at hl 1 rfl) ?_
          refine lv_iload hx hb d_Mo_selectors_63 (lv_at hl 0 rfl) ?_
          refine lv_iconst (v := 0) hx hb d_Mo_selectors_65 (by decide) ?_
          refine W.eq (g2 := F0 m 66 ls [.int (nI 0), .int (nI Qc.R), .ref mo]) rfl ?_
          have hPc := hP.sub (ws' := [(mo, .inr (13, MF 30 (rf (rs v Q2 (o + 1)) j1 b1))), (Q2.qq, .inl (cI, (8 * Q2.C), .inl Q2.qf))]) [0, 2] rfl
          have hDc := hD.sub (ws' := [(mo, .inr (13, MF 30 (rf (rs v Q2 (o + 1)) j1 b1))), (Q2.qq, .inl (cI, (8 * Q2.C), .inl Q2.qf))]) [0, 2] (by decide) rfl
          have hKc := hK.sub (tys' := [(cI, .int)]) [1] rfl
          have hFc := va_free (wc := [(mo, .inr (13, MF 30 (rf (rs v Q2 (o + 1)) j1 b1))), (Q2.qq, .inl (cI, (8 * Q2.C), .inl Q2.qf))]) hD hS hA [0, 2] rfl
          refine va_calli (va_runV (As := [.int (nI Qc.R), .int (nI 0)]) (rest := []) ⟨hx, hb, hml, hown, hts⟩ (c_Mo_field l dC dI mo H (rf (rs v Q2 (o + 1)) j1 b1) cI Q2.qq (8 * Q2.C) Q2.qf Qc.R 0 (by omega) (by omega) ((rf_ne (by decide) (by decide)).trans rs_19)) (cwV 2 hts (gt_V (own := R_Mo) (C := R_Mo) (i := 286) (y := y_Mo_field) i_Mo_field w_1431 w_1433 (gt_sel (y := y_Mo_field) (n := 30) (by decide +kernel)) w_7) rfl rfl rfl (by decide +kernel) ⟨Nat.le_trans (m := 8) (Nat.le_of_ble_eq_true rfl) (Nat.le_add_right 8 F), Nat.le_trans (m := 240) (Nat.le_of_ble_eq_true rfl) (Nat.le_add_right 240 L)⟩) ⟨mp_blind, va_recv hKc hPc (ci := 13) (q0 := 0) rfl rfl, fun U hU hW => ⟨rfl, hU, by rw [hU]; exact hPc, va_K.moved hW.alike hKc, hDc.weaken (fun _ _ _ _ => trivial)⟩⟩ rfl rfl hl.1 rfl (lv_room (Nat.le_of_ble_eq_true rfl)) d_Mo_selectors_66 ⟨hfit_Q2V1.1, hfit_Q2V1.2⟩) hS (fun q _ h => hFc q h) hFc (fun r7 _u t9 H1 locs ht hvm hw hB hz1 hk1 hS => ?_)
          obtain ⟨hP1, hK1, hD1⟩ := hB
          rw [ht] at hP1
          obtain ⟨hP, hD⟩ := va_join (wr := [(qx, .inl (cB, NN, .inl f)), (Q2.qe, .inl (cL, (3 * Q2.C), .inr (.inl Q2.ef))), (tv, .inr (12, MF 13 (tw V1))), (V1.au, .inl (cC, V1.U, .inl V1.un))]) (w1 := [(mo, .inr (13, MF 30 (rf (rs v Q2 (o + 1)) j1 b1))), (Q2.qq, .inl (cI, (8 * Q2.C), .inl Q2.qf))]) hP hD [0, 2] [1, 3, 4, 5] rfl rfl (by decide) (by decide) hk1 hFc hP1 hD1
          generalize H1 = H at hP hS ⊢
          have hP : va_P (dC, dI) classes [(qx, .inl (cB, NN, .inl f)), (Q2.qe, .inl (cL, (3 * Q2.C), .inr (.inl Q2.ef))), (tv, .inr (12, MF 13 (tw V1))), (V1.au, .inl (cC, V1.U, .inl V1.un)), (mo, .inr (13, MF 30 (rf (rs v Q2 (o + 1)) j1 b1))), (Q2.qq, .inl (cI, (8 * Q2.C), .inl Q2.qf))] H := hP
          have hD : va_D A [(qx, .inl (cB, NN, .inl f)), (Q2.qe, .inl (cL, (3 * Q2.C), .inr (.inl Q2.ef))), (tv, .inr (12, MF 13 (tw V1))), (V1.au, .inl (cC, V1.U, .inl V1.un)), (mo, .inr (13, MF 30 (rf (rs v Q2 (o + 1)) j1 b1))), (Q2.qq, .inl (cI, (8 * Q2.C), .inl Q2.qf))] := hD
          have hP := hP.sub (ws' := [(mo, .inr (13, MF 30 (rf (rs v Q2 (o + 1)) j1 b1))), (qx, .inl (cB, NN, .inl f)), (Q2.qq, .inl (cI, (8 * Q2.C), .inl Q2.qf)), (Q2.qe, .inl (cL, (3 * Q2.C), .inr (.inl Q2.ef))), (tv, .inr (12, MF 13 (tw V1))), (V1.au, .inl (cC, V1.U, .inl V1.un))]) [4, 0, 5, 1, 2, 3] rfl
          have hD := hD.sub (ws' := [(mo, .inr (13, MF 30 (rf (rs v Q2 (o + 1)) j1 b1))), (qx, .inl (cB, NN, .inl f)), (Q2.qq, .inl (cI, (8 * Q2.C), .inl Q2.qf)), (Q2.qe, .inl (cL, (3 * Q2.C), .inr (.inl Q2.ef))), (tv, .inr (12, MF 13 (tw V1))), (V1.au, .inl (cC, V1.U, .inl V1.un))]) [4, 0, 5, 1, 2, 3] (by decide) rfl
          have h_r7 : r7 = Q2.qf (8 * Qc.R + 0) := hw
          have hk_r7 : r7 = Q1.qf (8 * Qc.R + 0) := by rw [h_r7, hf_Q2.2.2]; exact pk_un (by omega)
          refine lv_iconst (v := 1) hx hb d_Mo_selectors_69 (by decide) ?_
          refine lv_icmp_eq (tgt := 91) hx hb d_Mo_selectors_70 (by decide) (fun c70 => ?_) (fun c70 => ?_)
          · have hfl1 : fl1 = true := hv_4.mpr (Or.inl (hk_r7.symm.trans c70))
            exact jn91 (Q2, fl) _ _ _ ⟨hSL2, by rw [hb2]; exact b_on fl hfl1, hQk_Q2, hG_Q2V1, by show Q2.R = Q1.R; omega⟩ hP hD hS (lv_sub hl [1, 2, 3, 4, 0] rfl)
          · refine lv_aload_n hx hb d_Mo_selectors_73 rfl (lv_at hl 1 rfl) ?_
            refine lv_iload hx hb d_Mo_selectors_74 (lv_at hl 0 rfl) ?_
            refine lv_iconst (v := 0) hx hb d_Mo_selectors_76 (by decide) ?_
            refine W.eq (g2 := F0 m 77 ls [.int (nI 0), .int (nI Qc.R), .ref mo]) rfl ?_
            have hPc := hP.sub (ws' := [(mo, .inr (13, MF 30 (rf (rs v Q2 (o + 1)) j1 b1))), (Q2.qq, .inl (cI, (8 * Q2.C), .inl Q2.qf))]) [0, 2] rfl
            have hDc := hD.sub (ws' := [(mo, .inr (13, MF 30 (rf (rs v Q2 (o + 1)) j1 b1))), (Q2.qq, .inl (cI, (8 * Q2.C), .inl Q2.qf))]) [0, 2] (by decide) rfl
            have hKc := hK.sub (tys' := [(cI, .int)]) [1] rfl
            have hFc := va_free (wc := [(mo, .inr (13, MF 30 (rf (rs v Q2 (o + 1)) j1 b1))), (Q2.qq, .inl (cI, (8 * Q2.C), .inl Q2.qf))]) hD hS hA [0, 2] rfl
            refine va_calli (va_runV (As := [.int (nI Qc.R), .int (nI 0)]) (rest := []) ⟨hx, hb, hml, hown, hts⟩ (c_Mo_field l dC dI mo H (rf (rs v Q2 (o + 1)) j1 b1) cI Q2.qq (8 * Q2.C) Q2.qf Qc.R 0 (by omega) (by omega) ((rf_ne (by decide) (by decide)).trans rs_19)) (cwV 2 hts (gt_V (own := R_Mo) (C := R_Mo) (i := 286) (y := y_Mo_field) i_Mo_field w_1431 w_1433 (gt_sel (y := y_Mo_field) (n := 30) (by decide +kernel)) w_7) rfl rfl rfl (by decide +kernel) ⟨Nat.le_trans (m := 8) (Nat.le_of_ble_eq_true rfl) (Nat.le_add_right 8 F), Nat.le_trans (m := 240) (Nat.le_of_ble_eq_true rfl) (Nat.le_add_right 240 L)⟩) ⟨mp_blind, va_recv hKc hPc (ci := 13) (q0 := 0) rfl rfl, fun U hU hW => ⟨rfl, hU, by rw [hU]; exact hPc, va_K.moved hW.alike hKc, hDc.weaken (fun _ _ _ _ => trivial)⟩⟩ rfl rfl hl.1 rfl (lv_room (Nat.le_of_ble_eq_true rfl)) d_Mo_selectors_77 ⟨hfit_Q2V1.1, hfit_Q2V1.2⟩) hS (fun q _ h => hFc q h) hFc (fun r9 _u t9 H1 locs ht hvm hw hB hz1 hk1 hS => ?_)
            obtain ⟨hP1, hK1, hD1⟩ := hB
            rw [ht] at hP1
            obtain ⟨hP, hD⟩ := va_join (wr := [(qx, .inl (cB, NN, .inl f)), (Q2.qe, .inl (cL, (3 * Q2.C), .inr (.inl Q2.ef))), (tv, .inr (12, MF 13 (tw V1))), (V1.au, .inl (cC, V1.U, .inl V1.un))]) (w1 := [(mo, .inr (13, MF 30 (rf (rs v Q2 (o + 1)) j1 b1))), (Q2.qq, .inl (cI, (8 * Q2.C), .inl Q2.qf))]) hP hD [0, 2] [1, 3, 4, 5] rfl rfl (by decide) (by decide) hk1 hFc hP1 hD1
            generalize H1 = H at hP hS ⊢
            have hP : va_P (dC, dI) classes [(qx, .inl (cB, NN, .inl f)), (Q2.qe, .inl (cL, (3 * Q2.C), .inr (.inl Q2.ef))), (tv, .inr (12, MF 13 (tw V1))), (V1.au, .inl (cC, V1.U, .inl V1.un)), (mo, .inr (13, MF 30 (rf (rs v Q2 (o + 1)) j1 b1))), (Q2.qq, .inl (cI, (8 * Q2.C), .inl Q2.qf))] H := hP
            have hD : va_D A [(qx, .inl (cB, NN, .inl f)), (Q2.qe, .inl (cL, (3 * Q2.C), .inr (.inl Q2.ef))), (tv, .inr (12, MF 13 (tw V1))), (V1.au, .inl (cC, V1.U, .inl V1.un)), (mo, .inr (13, MF 30 (rf (rs v Q2 (o + 1)) j1 b1))), (Q2.qq, .inl (cI, (8 * Q2.C), .inl Q2.qf))] := hD
            have hP := hP.sub (ws' := [(mo, .inr (13, MF 30 (rf (rs v Q2 (o + 1)) j1 b1))), (qx, .inl (cB, NN, .inl f)), (Q2.qq, .inl (cI, (8 * Q2.C), .inl Q2.qf)), (Q2.qe, .inl (cL, (3 * Q2.C), .inr (.inl Q2.ef))), (tv, .inr (12, MF 13 (tw V1))), (V1.au, .inl (cC, V1.U, .inl V1.un))]) [4, 0, 5, 1, 2, 3] rfl
            have hD := hD.sub (ws' := [(mo, .inr (13, MF 30 (rf (rs v Q2 (o + 1)) j1 b1))), (qx, .inl (cB, NN, .inl f)), (Q2.qq, .inl (cI, (8 * Q2.C), .inl Q2.qf)), (Q2.qe, .inl (cL, (3 * Q2.C), .inr (.inl Q2.ef))), (tv, .inr (12, MF 13 (tw V1))), (V1.au, .inl (cC, V1.U, .inl V1.un))]) [4, 0, 5, 1, 2, 3] (by decide) rfl
            have h_r9 : r9 = Q2.qf (8 * Qc.R + 0) := hw
            have hk_r9 : r9 = Q1.qf (8 * Qc.R + 0) := by rw [h_r9, hf_Q2.2.2]; exact pk_un (by omega)
            refine lv_iconst (v := 3) hx hb d_Mo_selectors_80 (by decide) ?_
            refine lv_icmp_eq (tgt := 91) hx hb d_Mo_selectors_81 (by decide) (fun c81 => ?_) (fun c81 => ?_)
            · have hfl1 : fl1 = true := hv_4.mpr (Or.inr (hk_r9.symm.trans c81))
              exact jn91 (Q2, fl) _ _ _ ⟨hSL2, by rw [hb2]; exact b_on fl hfl1, hQk_Q2, hG_Q2V1, by show Q2.R = Q1.R; omega⟩ hP hD hS (lv_sub hl [1, 2, 3, 4, 0] rfl)
            · refine lv_aload_n hx hb d_Mo_selectors_84 rfl (lv_at hl 1 rfl) ?_
              refine lv_iload_n hx hb d_Mo_selectors_85 rfl (lv_at hl 2 rfl) ?_
              refine lv_iconst (v := 3) hx hb d_Mo_selectors_86 (by decide) ?_
              refine lv_iconst (v := 0) hx hb d_Mo_selectors_87 (by decide) ?_
              refine W.eq (g2 := F0 m 88 ls [.int 0, .int (nI 3), .int (nI y), .ref mo]) rfl ?_
              have hPc := hP.sub (ws' := [(mo, .inr (13, MF 30 (rf (rs v Q2 (o + 1)) j1 b1))), (Q2.qq, .inl (cI, (8 * Q2.C), .inl Q2.qf))]) [0, 2] rfl
              have hDc := hD.sub (ws' := [(mo, .inr (13, MF 30 (rf (rs v Q2 (o + 1)) j1 b1))), (Q2.qq, .inl (cI, (8 * Q2.C), .inl Q2.qf))]) [0, 2] (by decide) rfl
              have hKc := hK.sub (tys' := [(cI, .int)]) [1] rfl
              have hFc := va_free (wc := [(mo, .inr (13, MF 30 (rf (rs v Q2 (o + 1)) j1 b1))), (Q2.qq, .inl (cI, (8 * Q2.C), .inl Q2.qf))]) hD hS hA [0, 2] rfl
              refine va_callv (va_runV (As := [.int (nI y), .int (nI 3), .int 0]) (rest := []) ⟨hx, hb, hml, hown, hts⟩ (c_Mo_set l dC dI mo H (rf (rs v Q2 (o + 1)) j1 b1) cI Q2.qq (8 * Q2.C) Q2.qf y 3 0 (by omega) (by omega) ((rf_ne (by decide) (by decide)).trans rs_19)) (cwV 3 hts (gt_V (own := R_Mo) (C := R_Mo) (i := 272) (y := y_Mo_set) i_Mo_set w_1411 w_1413 (gt_sel (y := y_Mo_set) (n := 30) (by decide +kernel)) w_7) rfl rfl rfl (by decide +kernel) ⟨Nat.le_trans (m := 8) (Nat.le_of_ble_eq_true rfl) (Nat.le_add_right 8 F), Nat.le_trans (m := 240) (Nat.le_of_ble_eq_true rfl) (Nat.le_add_right 240 L)⟩) ⟨mp_blind, va_recv hKc hPc (ci := 13) (q0 := 0) rfl rfl, fun U hU hW => ⟨rfl, hU, by rw [hU]; exact hPc, va_K.moved hW.alike hKc, hDc.weaken (fun _ _ _ _ => trivial)⟩⟩ rfl rfl hl.1 rfl (lv_room (Nat.le_of_ble_eq_true rfl)) d_Mo_selectors_88 ⟨hfit_Q2V1.1, hfit_Q2V1.2⟩) hS (fun q _ h => hFc q h) hFc (fun _u t9 H1 locs ht hvm hw hB hz1 hk1 hS => ?_)
              obtain ⟨hP1, hK1, hD1⟩ := hB
              rw [ht] at hP1
              obtain ⟨hP, hD⟩ := va_join (wr := [(qx, .inl (cB, NN, .inl f)), (Q2.qe, .inl (cL, (3 * Q2.C), .inr (.inl Q2.ef))), (tv, .inr (12, MF 13 (tw V1))), (V1.au, .inl (cC, V1.U, .inl V1.un))]) (w1 := [(mo, .inr (13, MF 30 (rf (rs v Q2 (o + 1)) j1 b1))), (Q2.qq, .inl (cI, (8 * Q2.C), .inl (upd Q2.qf (8 * y + 3) 0)))]) hP hD [0, 2] [1, 3, 4, 5] rfl rfl (by decide) (by decide) hk1 hFc hP1 hD1
              generalize H1 = H at hP hS ⊢
              have hP : va_P (dC, dI) classes [(qx, .inl (cB, NN, .inl f)), (Q2.qe, .inl (cL, (3 * Q2.C), .inr (.inl Q2.ef))), (tv, .inr (12, MF 13 (tw V1))), (V1.au, .inl (cC, V1.U, .inl V1.un)), (mo, .inr (13, MF 30 (rf (rs v Q2 (o + 1)) j1 b1))), (Q2.qq, .inl (cI, (8 * Q2.C), .inl (upd Q2.qf (8 * y + 3) 0)))] H := hP
              have hD : va_D A [(qx, .inl (cB, NN, .inl f)), (Q2.qe, .inl (cL, (3 * Q2.C), .inr (.inl Q2.ef))), (tv, .inr (12, MF 13 (tw V1))), (V1.au, .inl (cC, V1.U, .inl V1.un)), (mo, .inr (13, MF 30 (rf (rs v Q2 (o + 1)) j1 b1))), (Q2.qq, .inl (cI, (8 * Q2.C), .inl (upd Q2.qf (8 * y + 3) 0)))] := hD
              have hP := hP.sub (ws' := [(mo, .inr (13, MF 30 (rf (rs v Q2 (o + 1)) j1 b1))), (qx, .inl (cB, NN, .inl f)), (Q2.qq, .inl (cI, (8 * Q2.C), .inl (upd Q2.qf (8 * y + 3) 0))), (Q2.qe, .inl (cL, (3 * Q2.C), .inr (.inl Q2.ef))), (tv, .inr (12, MF 13 (tw V1))), (V1.au, .inl (cC, V1.U, .inl V1.un))]) [4, 0, 5, 1, 2, 3] rfl
              have hD := hD.sub (ws' := [(mo, .inr (13, MF 30 (rf (rs v Q2 (o + 1)) j1 b1))), (qx, .inl (cB, NN, .inl f)), (Q2.qq, .inl (cI, (8 * Q2.C), .inl (upd Q2.qf (8 * y + 3) 0))), (Q2.qe, .inl (cL, (3 * Q2.C), .inr (.inl Q2.ef))), (tv, .inr (12, MF 13 (tw V1))), (V1.au, .inl (cC, V1.U, .inl V1.un))]) [4, 0, 5, 1, 2, 3] (by decide) rfl
              obtain ⟨Q3, e_Q3⟩ : ∃ z : QS, z = QS.wf Q2 (upd Q2.qf (8 * y + 3) 0) := ⟨_, rfl⟩
              have hP : va_P (dC, dI) classes [(mo, .inr (13, MF 30 (rf (rs v Q3 (o + 1)) j1 b1))), (qx, .inl (cB, NN, .inl f)), (Q3.qq, .inl (cI, (8 * Q3.C), .inl Q3.qf)), (Q3.qe, .inl (cL, (3 * Q3.C), .inr (.inl Q3.ef))), (tv, .inr (12, MF 13 (tw V1))), (V1.au, .inl (cC, V1.U, .inl V1.un))] H := by subst e_Q3; exact hP
              have hD : va_D A [(mo, .inr (13, MF 30 (rf (rs v Q3 (o + 1)) j1 b1))), (qx, .inl (cB, NN, .inl f)), (Q3.qq, .inl (cI, (8 * Q3.C), .inl Q3.qf)), (Q3.qe, .inl (cL, (3 * Q3.C), .inr (.inl Q3.ef))), (tv, .inr (12, MF 13 (tw V1))), (V1.au, .inl (cC, V1.U, .inl V1.un))] := by subst e_Q3; exact hD
              have hf_Q3 : Q3.C = Q2.C ∧ Q3.R = Q2.R ∧ Q3.qf = upd Q2.qf (8 * y + 3) 0 := by rw [e_Q3]; exact ⟨rfl, rfl, rfl⟩
              have he_Q3 : Q3.ef = Q2.ef := by rw [e_Q3]; rfl
              have hQk_Q3 : QOK Q3 := by rw [e_Q3]; exact hQk_Q2
              have hG_Q3V1 : GQ (Q.R + 8 * (n - i) + 7) (V.us + (n + 12 - i)) Q V Q3 V1 := by unfold GQ at hG_Q2V1 ⊢; rw [hf_Q3.1]; exact hG_Q2V1
              refine w_same (fun hq => ?_)
              refine w_tight (k := cQ Q V Q3 V1) (n := sQ Q V Q3 V1) (by unfold cQ sQ at hq ⊢; rw [hf_Q3.1]; exact hq) ?_
              have hR_Q3 := hf_Q3.2.1
              have hqb_Q3V1 : Q3.R ≤ Q3.C ∧ Q3.C ≤ 100000 := ⟨hQk_Q3.2.2.1, hQk_Q3.2.1⟩
              have hfit_Q3V1 := hG_Q3V1.fits
              have hSL3 : SLi O Q V Q.R s9 y Q3 V1 (nI Qc.R) false false (ac ++ [g1]) := hSL2.off hOf hs9 hy hf_Q3.2.2 he_Q3 hR_Q3
              have hfl1 : fl1 = false := Bool.eq_false_iff.mpr (fun h => (hv_4.mp h).elim (fun q => c70 (hk_r7.trans q)) (fun q => c81 (hk_r9.trans q)))
              exact jn91 (Q3, false) _ _ _ ⟨hSL3, by rw [hb2]; exact b_off fl hfl1, hQk_Q3, hG_Q3V1, by show Q3.R = Q1.R; omega⟩ hP hD hS (lv_sub hl [1, 2, 3, 4, 0] rfl)
        · rw [hb1] at hl hSL
          have hl : lv_has ls 6 [(5, .int (nI Qc.R)), (0, .ref mo), (1, .int (nI y)), (2, .int (nI s9)), (3, .int 0), (4, .int (nI a9))] := hl
          refine lv_iload hx hb d_Mo_selectors_32 (lv_at hl 5 rfl) ?_
          refine lv_if_ge (tgt := 48) hx hb d_Mo_selectors_34 (by decide) (fun _ => ?_) (fun h => absurd (nI_pos' (by omega)) h)
          refine lv_aload_n hx hb d_Mo_selectors_48 rfl (lv_at hl 1 rfl) ?_
          refine lv_iload hx hb d_Mo_selectors_49 (lv_at hl 5 rfl) ?_
          refine lv_iconst (v := 1) hx hb d_Mo_selectors_51 (by decide) ?_
          refine lv_iload hx hb d_Mo_selectors_52 (lv_at hl 0 rfl) ?_
          refine W.eq (g2 := F0 m 54 ls [.int (nI Qc.R), .int (nI 1), .int (nI a9), .ref mo]) rfl ?_
          have hPc := hP.sub (ws' := [(mo, .inr (13, MF 30 (rf (rs v Q1 (o + 1)) j1 b1))), (Q1.qq, .inl (cI, (8 * Q1.C), .inl Q1.qf))]) [0, 2] rfl
          have hDc := hD.sub (ws' := [(mo, .inr (13, MF 30 (rf (rs v Q1 (o + 1)) j1 b1))), (Q1.qq, .inl (cI, (8 * Q1.C), .inl Q1.qf))]) [0, 2] (by decide) rfl
          have hKc := hK.sub (tys' := [(cI, .int)]) [1] rfl
          have hFc := va_free (wc := [(mo, .inr (13, MF 30 (rf (rs v Q1 (o + 1)) j1 b1))), (Q1.qq, .inl (cI, (8 * Q1.C), .inl Q1.qf))]) hD hS hA [0, 2] rfl
          refine va_callv (va_runV (As := [.int (nI a9), .int (nI 1), .int (nI Qc.R)]) (rest := []) ⟨hx, hb, hml, hown, hts⟩ (c_Mo_set l dC dI mo H (rf (rs v Q1 (o + 1)) j1 b1) cI Q1.qq (8 * Q1.C) Q1.qf a9 1 ((nI Qc.R)) (by omega) (by omega) ((rf_ne (by decide) (by decide)).trans rs_19)) (cwV 3 hts (gt_V (own := R_Mo) (C := R_Mo) (i := 272) (y := y_Mo_set) i_Mo_set w_1411 w_1413 (gt_sel (y := y_Mo_set) (n := 30) (by decide +kernel)) w_7) rfl rfl rfl (by decide +kernel) ⟨Nat.le_trans (m := 8) (Nat.le_of_ble_eq_true rfl) (Nat.le_add_right 8 F), Nat.le_trans (m := 240) (Nat.le_of_ble_eq_true rfl) (Nat.le_add_right 240 L)⟩) ⟨mp_blind, va_recv hKc hPc (ci := 13) (q0 := 0) rfl rfl, fun U hU hW => ⟨rfl, hU, by rw [hU]; exact hPc, va_K.moved hW.alike hKc, hDc.weaken (fun _ _ _ _ => trivial)⟩⟩ rfl rfl hl.1 rfl (lv_room (Nat.le_of_ble_eq_true rfl)) d_Mo_selectors_54 ⟨hfit_Q1V1.1, hfit_Q1V1.2⟩) hS (fun q _ h => hFc q h) hFc (fun _u t9 H1 locs ht hvm hw hB hz1 hk1 hS => ?_)
          obtain ⟨hP1, hK1, hD1⟩ := hB
          rw [ht] at hP1
          obtain ⟨hP, hD⟩ := va_join (wr := [(qx, .inl (cB, NN, .inl f)), (Q1.qe, .inl (cL, (3 * Q1.C), .inr (.inl Q1.ef))), (tv, .inr (12, MF 13 (tw V1))), (V1.au, .inl (cC, V1.U, .inl V1.un))]) (w1 := [(mo, .inr (13, MF 30 (rf (rs v Q1 (o + 1)) j1 b1))), (Q1.qq, .inl (cI, (8 * Q1.C), .inl (upd Q1.qf (8 * a9 + 1) ((nI Qc.R)))))]) hP hD [0, 2] [1, 3, 4, 5] rfl rfl (by decide) (by decide) hk1 hFc hP1 hD1
          generalize H1 = H at hP hS ⊢
          have hP : va_P (dC, dI) classes [(qx, .inl (cB, NN, .inl f)), (Q1.qe, .inl (cL, (3 * Q1.C), .inr (.inl Q1.ef))), (tv, .inr (12, MF 13 (tw V1))), (V1.au, .inl (cC, V1.U, .inl V1.un)), (mo, .inr (13, MF 30 (rf (rs v Q1 (o + 1)) j1 b1))), (Q1.qq, .inl (cI, (8 * Q1.C), .inl (upd Q1.qf (8 * a9 + 1) ((nI Qc.R)))))] H := hP
          have hD : va_D A [(qx, .inl (cB, NN, .inl f)), (Q1.qe, .inl (cL, (3 * Q1.C), .inr (.inl Q1.ef))), (tv, .inr (12, MF 13 (tw V1))), (V1.au, .inl (cC, V1.U, .inl V1.un)), (mo, .inr (13, MF 30 (rf (rs v Q1 (o + 1)) j1 b1))), (Q1.qq, .inl (cI, (8 * Q1.C), .inl (upd Q1.qf (8 * a9 + 1) ((nI Qc.R)))))] := hD
          have hP := hP.sub (ws' := [(mo, .inr (13, MF 30 (rf (rs v Q1 (o + 1)) j1 b1))), (qx, .inl (cB, NN, .inl f)), (Q1.qq, .inl (cI, (8 * Q1.C), .inl (upd Q1.qf (8 * a9 + 1) ((nI Qc.R))))), (Q1.qe, .inl (cL, (3 * Q1.C), .inr (.inl Q1.ef))), (tv, .inr (12, MF 13 (tw V1))), (V1.au, .inl (cC, V1.U, .inl V1.un))]) [4, 0, 5, 1, 2, 3] rfl
          have hD := hD.sub (ws' := [(mo, .inr (13, MF 30 (rf (rs v Q1 (o + 1)) j1 b1))), (qx, .inl (cB, NN, .inl f)), (Q1.qq, .inl (cI, (8 * Q1.C), .inl (upd Q1.qf (8 * a9 + 1) ((nI Qc.R))))), (Q1.qe, .inl (cL, (3 * Q1.C), .inr (.inl Q1.ef))), (tv, .inr (12, MF 13 (tw V1))), (V1.au, .inl (cC, V1.U, .inl V1.un))]) [4, 0, 5, 1, 2, 3] (by decide) rfl
          obtain ⟨Q2, e_Q2⟩ : ∃ z : QS, z = QS.wf Q1 (upd Q1.qf (8 * a9 + 1) ((nI Qc.R))) := ⟨_, rfl⟩
          have hP : va_P (dC, dI) classes [(mo, .inr (13, MF 30 (rf (rs v Q2 (o + 1)) j1 b1))), (qx, .inl (cB, NN, .inl f)), (Q2.qq, .inl (cI, (8 * Q2.C), .inl Q2.qf)), (Q2.qe, .inl (cL, (3 * Q2.C), .inr (.inl Q2.ef))), (tv, .inr (12, MF 13 (tw V1))), (V1.au, .inl (cC, V1.U, .inl V1.un))] H := by subst e_Q2; exact hP
          have hD : va_D A [(mo, .inr (13, MF 30 (rf (rs v Q2 (o + 1)) j1 b1))), (qx, .inl (cB, NN, .inl f)), (Q2.qq, .inl (cI, (8 * Q2.C), .inl Q2.qf)), (Q2.qe, .inl (cL, (3 * Q2.C), .inr (.inl Q2.ef))), (tv, .inr (12, MF 13 (tw V1))), (V1.au, .inl (cC, V1.U, .inl V1.un))] := by subst e_Q2; exact hD
          have hf_Q2 : Q2.C = Q1.C ∧ Q2.R = Q1.R ∧ Q2.qf = upd Q1.qf (8 * a9 + 1) ((nI Qc.R)) := by rw [e_Q2]; exact ⟨rfl, rfl, rfl⟩
          have he_Q2 : Q2.ef = Q1.ef := by rw [e_Q2]; rfl
          have hQk_Q2 : QOK Q2 := by rw [e_Q2]; exact hQk_Q1
          have hG_Q2V1 : GQ (Q.R + 8 * (n - i) + 7) (V.us + (n + 12 - i)) Q V Q2 V1 := by unfold GQ at hG_Q1V1 ⊢; rw [hf_Q2.1]; exact hG_Q1V1
          refine w_same (fun hq => ?_)
          refine w_tight (k := cQ Q V Q2 V1) (n := sQ Q V Q2 V1) (by unfold cQ sQ at hq ⊢; rw [hf_Q2.1]; exact hq) ?_
          have hR_Q2 := hf_Q2.2.1
          have hqb_Q2V1 : Q2.R ≤ Q2.C ∧ Q2.C ≤ 100000 := ⟨hQk_Q2.2.2.1, hQk_Q2.2.1⟩
          have hfit_Q2V1 := hG_Q2V1.fits
          have hSL2 : SLi O Q V Q.R s9 y Q2 V1 (nI Qc.R) false fl (ac ++ [g1]) := hSL.add hOf hb2 hb3 (by omega) hs9 hy hv_6 hv_3 hv_5 hf_Q2.2.2 he_Q2 hR_Q2
          refine lv_iload hx hb d_Mo_selectors_57 (lv_at hl 5 rfl) ?_
          refine lv_if_ge (tgt := 84) hx hb d_Mo_selectors_59 (by decide) (fun _ => ?_) (fun h => absurd (nI_pos' (by omega)) h)
          refine lv_aload_n hx hb d_Mo_selectors_84 rfl (lv_at hl 1 rfl) ?_
          refine lv_iload_n hx hb d_Mo_selectors_85 rfl (lv_at hl 2 rfl) ?_
          refine lv_iconst (v := 3) hx hb d_Mo_selectors_86 (by decide) ?_
          refine lv_iconst (v := 0) hx hb d_Mo_selectors_87 (by decide) ?_
          refine W.eq (g2 := F0 m 88 ls [.int 0, .int (nI 3), .int (nI y), .ref mo]) rfl ?_
          have hPc := hP.sub (ws' := [(mo, .inr (13, MF 30 (rf (rs v Q2 (o + 1)) j1 b1))), (Q2.qq, .inl (cI, (8 * Q2.C), .inl Q2.qf))]) [0, 2] rfl
          have hDc := hD.sub (ws' := [(mo, .inr (13, MF 30 (rf (rs v Q2 (o + 1)) j1 b1))), (Q2.qq, .inl (cI, (8 * Q2.C), .inl Q2.qf))]) [0, 2] (by decide) rfl
          have hKc := hK.sub (tys' := [(cI, .int)]) [1] rfl
          have hFc := va_free (wc := [(mo, .inr (13, MF 30 (rf (rs v Q2 (o + 1)) j1 b1))), (Q2.qq, .inl (cI, (8 * Q2.C), .inl Q2.qf))]) hD hS hA [0, 2] rfl
          refine va_callv (va_runV (As := [.int (nI y), .int (nI 3), .int 0]) (rest := []) ⟨hx, hb, hml, hown, hts⟩ (c_Mo_set l dC dI mo H (rf (rs v Q2 (o + 1)) j1 b1) cI Q2.qq (8 * Q2.C) Q2.qf y 3 0 (by omega) (by omega) ((rf_ne (by decide) (by decide)).trans rs_19)) (cwV 3 hts (gt_V (own := R_Mo) (C := R_Mo) (i := 272) (y := y_Mo_set) i_Mo_set w_1411 w_1413 (gt_sel (y := y_Mo_set) (n := 30) (by decide +kernel)) w_7) rfl rfl rfl (by decide +kernel) ⟨Nat.le_trans (m := 8) (Nat.le_of_ble_eq_true rfl) (Nat.le_add_right 8 F), Nat.le_trans (m := 240) (Nat.le_of_ble_eq_true rfl) (Nat.le_add_right 240 L)⟩) ⟨mp_blind, va_recv hKc hPc (ci := 13) (q0 := 0) rfl rfl, fun U hU hW => ⟨rfl, hU, by rw [hU]; exact hPc, va_K.moved hW.alike hKc, hDc.weaken (fun _ _ _ _ => trivial)⟩⟩ rfl rfl hl.1 rfl (lv_room (Nat.le_of_ble_eq_true rfl)) d_Mo_selectors_88 ⟨hfit_Q2V1.1, hfit_Q2V1.2⟩) hS (fun q _ h => hFc q h) hFc (fun _u t9 H1 locs ht hvm hw hB hz1 hk1 hS => ?_)
          obtain ⟨hP1, hK1, hD1⟩ := hB
          rw [ht] at hP1
          obtain ⟨hP, hD⟩ := va_join (wr := [(qx, .inl (cB, NN, .inl f)), (Q2.qe, .inl (cL, (3 * Q2.C), .inr (.inl Q2.ef))), (tv, .inr (12, MF 13 (tw V1))), (V1.au, .inl (cC, V1.U, .inl V1.un))]) (w1 := [(mo, .inr (13, MF 30 (rf (rs v Q2 (o + 1)) j1 b1))), (Q2.qq, .inl (cI, (8 * Q2.C), .inl (upd Q2.qf (8 * y + 3) 0)))]) hP hD [0, 2] [1, 3, 4, 5] rfl rfl (by decide) (by decide) hk1 hFc hP1 hD1
          generalize H1 = H at hP hS ⊢
          have hP : va_P (dC, dI) classes [(qx, .inl (cB, NN, .inl f)), (Q2.qe, .inl (cL, (3 * Q2.C), .inr (.inl Q2.ef))), (tv, .inr (12, MF 13 (tw V1))), (V1.au, .inl (cC, V1.U, .inl V1.un)), (mo, .inr (13, MF 30 (rf (rs v Q2 (o + 1)) j1 b1))), (Q2.qq, .inl (cI, (8 * Q2.C), .inl (upd Q2.qf (8 * y + 3) 0)))] H := hP
          have hD : va_D A [(qx, .inl (cB, NN, .inl f)), (Q2.qe, .inl (cL, (3 * Q2.C), .inr (.inl Q2.ef))), (tv, .inr (12, MF 13 (tw V1))), (V1.au, .inl (cC, V1.U, .inl V1.un)), (mo, .inr (13, MF 30 (rf (rs v Q2 (o + 1)) j1 b1))), (Q2.qq, .inl (cI, (8 * Q2.C), .inl (upd Q2.qf (8 * y + 3) 0)))] := hD
          have hP := hP.sub (ws' := [(mo, .inr (13, MF 30 (rf (rs v Q2 (o + 1)) j1 b1))), (qx, .inl (cB, NN, .inl f)), (Q2.qq, .inl (cI, (8 * Q2.C), .inl (upd Q2.qf (8 * y + 3) 0))), (Q2.qe, .inl (cL, (3 * Q2.C), .inr (.inl Q2.ef))), (tv, .inr (12, MF 13 (tw V1))), (V1.au, .inl (cC, V1.U, .inl V1.un))]) [4, 0, 5, 1, 2, 3] rfl
          have hD := hD.sub (ws' := [(mo, .inr (13, MF 30 (rf (rs v Q2 (o + 1)) j1 b1))), (qx, .inl (cB, NN, .inl f)), (Q2.qq, .inl (cI, (8 * Q2.C), .inl (upd Q2.qf (8 * y + 3) 0))), (Q2.qe, .inl (cL, (3 * Q2.C), .inr (.inl Q2.ef))), (tv, .inr (12, MF 13 (tw V1))), (V1.au, .inl (cC, V1.U, .inl V1.un))]) [4, 0, 5, 1, 2, 3] (by decide) rfl
          obtain ⟨Q3, e_Q3⟩ : ∃ z : QS, z = QS.wf Q2 (upd Q2.qf (8 * y + 3) 0) := ⟨_, rfl⟩
          have hP : va_P (dC, dI) classes [(mo, .inr (13, MF 30 (rf (rs v Q3 (o + 1)) j1 b1))), (qx, .inl (cB, NN, .inl f)), (Q3.qq, .inl (cI, (8 * Q3.C), .inl Q3.qf)), (Q3.qe, .inl (cL, (3 * Q3.C), .inr (.inl Q3.ef))), (tv, .inr (12, MF 13 (tw V1))), (V1.au, .inl (cC, V1.U, .inl V1.un))] H := by subst e_Q3; exact hP
          have hD : va_D A [(mo, .inr (13, MF 30 (rf (rs v Q3 (o + 1)) j1 b1))), (qx, .inl (cB, NN, .inl f)), (Q3.qq, .inl (cI, (8 * Q3.C), .inl Q3.qf)), (Q3.qe, .inl (cL, (3 * Q3.C), .inr (.inl Q3.ef))), (tv, .inr (12, MF 13 (tw V1))), (V1.au, .inl (cC, V1.U, .inl V1.un))] := by subst e_Q3; exact hD
          have hf_Q3 : Q3.C = Q2.C ∧ Q3.R = Q2.R ∧ Q3.qf = upd Q2.qf (8 * y + 3) 0 := by rw [e_Q3]; exact ⟨rfl, rfl, rfl⟩
          have he_Q3 : Q3.ef = Q2.ef := by rw [e_Q3]; rfl
          have hQk_Q3 : QOK Q3 := by rw [e_Q3]; exact hQk_Q2
          have hG_Q3V1 : GQ (Q.R + 8 * (n - i) + 7) (V.us + (n + 12 - i)) Q V Q3 V1 := by unfold GQ at hG_Q2V1 ⊢; rw [hf_Q3.1]; exact hG_Q2V1
          refine w_same (fun hq => ?_)
          refine w_tight (k := cQ Q V Q3 V1) (n := sQ Q V Q3 V1) (by unfold cQ sQ at hq ⊢; rw [hf_Q3.1]; exact hq) ?_
          have hR_Q3 := hf_Q3.2.1
          have hqb_Q3V1 : Q3.R ≤ Q3.C ∧ Q3.C ≤ 100000 := ⟨hQk_Q3.2.2.1, hQk_Q3.2.1⟩
          have hfit_Q3V1 := hG_Q3V1.fits
          have hSL3 : SLi O Q V Q.R s9 y Q3 V1 (nI Qc.R) false false (ac ++ [g1]) := hSL2.off hOf hs9 hy hf_Q3.2.2 he_Q3 hR_Q3
          exact jn91 (Q3, false) _ _ _ ⟨hSL3, by rw [hb4]; exact b_of2 fl fl1, hQk_Q3, hG_Q3V1, by show Q3.R = Q1.R; omega⟩ hP hD hS (lv_sub hl [1, 2, 3, 4, 0] rfl)
      · rintro ⟨Qz, fl2⟩ H locs ls hI91 hP hD hS hl
        have hP : va_P (dC, dI) classes [(mo, .inr (13, MF 30 (rf (rs v Qz (o + 1)) j1 b1))), (qx, .inl (cB, NN, .inl f)), (Qz.qq, .inl (cI, (8 * Qz.C), .inl Qz.qf)), (Qz.qe, .inl (cL, (3 * Qz.C), .inr (.inl Qz.ef))), (tv, .inr (12, MF 13 (tw V1))), (V1.au, .inl (cC, V1.U, .inl V1.un))] H := hP
        have hD : va_D A [(mo, .inr (13, MF 30 (rf (rs v Qz (o + 1)) j1 b1))), (qx, .inl (cB, NN, .inl f)), (Qz.qq, .inl (cI, (8 * Qz.C), .inl Qz.qf)), (Qz.qe, .inl (cL, (3 * Qz.C), .inr (.inl Qz.ef))), (tv, .inr (12, MF 13 (tw V1))), (V1.au, .inl (cC, V1.U, .inl V1.un))] := hD
        have hl : lv_has ls 6 [(0, .ref mo), (1, .int (nI y)), (2, .int (nI s9)), (3, .int 0), (5, .int (nI Qc.R))] := hl
        obtain ⟨hSLz, hfl2, hQk_Qz, hG_QzV1, hR_Qz⟩ := hI91
        have hqb_QzV1 : Qz.R ≤ Qz.C ∧ Qz.C ≤ 100000 := ⟨hQk_Qz.2.2.1, hQk_Qz.2.1⟩
        have hfit_QzV1 := hG_QzV1.fits
        refine lv_iload hx hb d_Mo_selectors_91 (lv_at hl 4 rfl) ?_
        refine lv_istore (lv' := [(4, .int (nI Qc.R)), (0, .ref mo), (1, .int (nI y)), (2, .int (nI s9)), (3, .int 0), (5, .int (nI Qc.R))]) hx hb d_Mo_selectors_93 hl (by decide) rfl (fun ls hl => ?_)
        refine lv_aload_n hx hb d_Mo_selectors_95 rfl (lv_at hl 1 rfl) ?_
        have hPc := hP.sub (ws' := [(mo, .inr (13, MF 30 (rf (rs v Qz (o + 1)) j1 b1))), (qx, .inl (cB, NN, .inl f))]) [0, 1] rfl
        have hDc := hD.sub (ws' := [(mo, .inr (13, MF 30 (rf (rs v Qz (o + 1)) j1 b1))), (qx, .inl (cB, NN, .inl f))]) [0, 1] (by decide) rfl
        have hKc := hK.sub (tys' := [(cB, .byte)]) [0] rfl
        have hFc := va_free (wc := [(mo, .inr (13, MF 30 (rf (rs v Qz (o + 1)) j1 b1))), (qx, .inl (cB, NN, .inl f))]) hD hS hA [0, 1] rfl
        refine va_callv (va_runV (As := []) (rest := []) ⟨hx, hb, hml, hown, hts⟩ (c_Mo_blanks l dC dI mo H (rf (rs v Qz (o + 1)) j1 b1) cB qx NN f n j1 (by omega) (by omega) (by omega) ((rf_ne (by decide) (by decide)).trans ((rs_ne (by decide) (by decide) (by decide) (by decide)).trans h6)) rf_7 ((rf_ne (by decide) (by decide)).trans ((rs_ne (by decide) (by decide) (by decide) (by decide)).trans h8))) (cwV 0 hts (gt_V (own := R_Mo) (C := R_Mo) (i := 184) (y := y_Mo_blanks) i_Mo_blanks w_1229 w_1231 (gt_sel (y := y_Mo_blanks) (n := 30) (by decide +kernel)) w_7) rfl rfl rfl (by decide +kernel) ⟨Nat.le_trans (m := 8) (Nat.le_of_ble_eq_true rfl) (Nat.le_add_right 8 F), Nat.le_trans (m := 240) (Nat.le_of_ble_eq_true rfl) (Nat.le_add_right 240 L)⟩) ⟨mp_blind, va_recv hKc hPc (ci := 13) (q0 := 0) rfl rfl, fun U hU hW => ⟨rfl, hU, by rw [hU]; exact hPc, va_K.moved hW.alike hKc, hDc.weaken (fun _ _ _ _ => trivial)⟩⟩ rfl rfl hl.1 rfl (lv_room (Nat.le_of_ble_eq_true rfl)) d_Mo_selectors_96 ⟨hfit_QzV1.1, hfit_QzV1.2⟩) hS (fun q _ h => hFc q h) hFc (fun _u t9 H1 locs ht hvm hw hB hz1 hk1 hS => ?_)
        obtain ⟨hP1, hK1, hD1⟩ := hB
        rw [ht] at hP1
        obtain ⟨hP, hD⟩ := va_join (wr := [(Qz.qq, .inl (cI, (8 * Qz.C), .inl Qz.qf)), (Qz.qe, .inl (cL, (3 * Qz.C), .inr (.inl Qz.ef))), (tv, .inr (12, MF 13 (tw V1))), (V1.au, .inl (cC, V1.U, .inl V1.un))]) (w1 := [(mo, .inr (13, MF 30 (va_up (rf (rs v Qz (o + 1)) j1 b1) 7 (.int (nI (skipH f n j1)))))), (qx, .inl (cB, NN, .inl f))]) hP hD [0, 1] [2, 3, 4, 5] rfl rfl (by decide) (by decide) hk1 hFc hP1 hD1
        generalize H1 = H at hP hS ⊢
        have hP : va_P (dC, dI) classes [(Qz.qq, .inl (cI, (8 * Qz.C), .inl Qz.qf)), (Qz.qe, .inl (cL, (3 * Qz.C), .inr (.inl Qz.ef))), (tv, .inr (12, MF 13 (tw V1))), (V1.au, .inl (cC, V1.U, .inl V1.un)), (mo, .inr (13, MF 30 (va_up (rf (rs v Qz (o + 1)) j1 b1) 7 (.int (nI (skipH f n j1)))))), (qx, .inl (cB, NN, .inl f))] H := hP
        have hD : va_D A [(Qz.qq, .inl (cI, (8 * Qz.C), .inl Qz.qf)), (Qz.qe, .inl (cL, (3 * Qz.C), .inr (.inl Qz.ef))), (tv, .inr (12, MF 13 (tw V1))), (V1.au, .inl (cC, V1.U, .inl V1.un)), (mo, .inr (13, MF 30 (va_up (rf (rs v Qz (o + 1)) j1 b1) 7 (.int (nI (skipH f n j1)))))), (qx, .inl (cB, NN, .inl f))] := hD
        have hP := hP.sub (ws' := [(mo, .inr (13, MF 30 (va_up (rf (rs v Qz (o + 1)) j1 b1) 7 (.int (nI (skipH f n j1)))))), (qx, .inl (cB, NN, .inl f)), (Qz.qq, .inl (cI, (8 * Qz.C), .inl Qz.qf)), (Qz.qe, .inl (cL, (3 * Qz.C), .inr (.inl Qz.ef))), (tv, .inr (12, MF 13 (tw V1))), (V1.au, .inl (cC, V1.U, .inl V1.un))]) [4, 5, 0, 1, 2, 3] rfl
        have hD := hD.sub (ws' := [(mo, .inr (13, MF 30 (va_up (rf (rs v Qz (o + 1)) j1 b1) 7 (.int (nI (skipH f n j1)))))), (qx, .inl (cB, NN, .inl f)), (Qz.qq, .inl (cI, (8 * Qz.C), .inl Qz.qf)), (Qz.qe, .inl (cL, (3 * Qz.C), .inr (.inl Qz.ef))), (tv, .inr (12, MF 13 (tw V1))), (V1.au, .inl (cC, V1.U, .inl V1.un))]) [4, 5, 0, 1, 2, 3] (by decide) rfl
        rw [rf_u7] at hP hD
        have hP : va_P (dC, dI) classes [(mo, .inr (13, MF 30 (rf (rs v Qz (o + 1)) (skipH f n j1) b1))), (qx, .inl (cB, NN, .inl f)), (Qz.qq, .inl (cI, (8 * Qz.C), .inl Qz.qf)), (Qz.qe, .inl (cL, (3 * Qz.C), .inr (.inl Qz.ef))), (tv, .inr (12, MF 13 (tw V1))), (V1.au, .inl (cC, V1.U, .inl V1.un))] H := hP
        have hD : va_D A [(mo, .inr (13, MF 30 (rf (rs v Qz (o + 1)) (skipH f n j1) b1))), (qx, .inl (cB, NN, .inl f)), (Qz.qq, .inl (cI, (8 * Qz.C), .inl Qz.qf)), (Qz.qe, .inl (cL, (3 * Qz.C), .inr (.inl Qz.ef))), (tv, .inr (12, MF 13 (tw V1))), (V1.au, .inl (cC, V1.U, .inl V1.un))] := hD
        have hsk_99 := skipH_n (f := f) (show j1 ≤ n by omega)
        refine lv_aload_n hx hb d_Mo_selectors_99 rfl (lv_at hl 1 rfl) ?_
        have hPc := hP.sub (ws' := [(mo, .inr (13, MF 30 (rf (rs v Qz (o + 1)) (skipH f n j1) b1))), (qx, .inl (cB, NN, .inl f))]) [0, 1] rfl
        have hDc := hD.sub (ws' := [(mo, .inr (13, MF 30 (rf (rs v Qz (o + 1)) (skipH f n j1) b1))), (qx, .inl (cB, NN, .inl f))]) [0, 1] (by decide) rfl
        have hKc := hK.sub (tys' := [(cB, .byte)]) [0] rfl
        have hFc := va_free (wc := [(mo, .inr (13, MF 30 (rf (rs v Qz (o + 1)) (skipH f n j1) b1))), (qx, .inl (cB, NN, .inl f))]) hD hS hA [0, 1] rfl
        refine va_calli (va_runV (As := []) (rest := []) ⟨hx, hb, hml, hown, hts⟩ (c_Mo_c l dC dI mo H (rf (rs v Qz (o + 1)) (skipH f n j1) b1) cB qx NN f n (skipH f n j1) (by omega) (by omega) (by omega) ((rf_ne (by decide) (by decide)).trans ((rs_ne (by decide) (by decide) (by decide) (by decide)).trans h6)) rf_7 ((rf_ne (by decide) (by decide)).trans ((rs_ne (by decide) (by decide) (by decide) (by decide)).trans h8))) (cwV 0 hts (gt_V (own := R_Mo) (C := R_Mo) (i := 147) (y := y_Mo_c) i_Mo_c w_1233 w_1235 (gt_sel (y := y_Mo_c) (n := 30) (by decide +kernel)) w_7) rfl rfl rfl (by decide +kernel) ⟨Nat.le_trans (m := 8) (Nat.le_of_ble_eq_true rfl) (Nat.le_add_right 8 F), Nat.le_trans (m := 240) (Nat.le_of_ble_eq_true rfl) (Nat.le_add_right 240 L)⟩) ⟨mp_blind, va_recv hKc hPc (ci := 13) (q0 := 0) rfl rfl, fun U hU hW => ⟨rfl, hU, by rw [hU]; exact hPc, va_K.moved hW.alike hKc, hDc.weaken (fun _ _ _ _ => trivial)⟩⟩ rfl rfl hl.1 rfl (lv_room (Nat.le_of_ble_eq_true rfl)) d_Mo_selectors_100 ⟨hfit_QzV1.1, hfit_QzV1.2⟩) hS (fun q _ h => hFc q h) hFc (fun r6 _u t9 H1 locs ht hvm hw hB hz1 hk1 hS => ?_)
        obtain ⟨hP1, hK1, hD1⟩ := hB
        rw [ht] at hP1
        obtain ⟨hP, hD⟩ := va_join (wr := [(Qz.qq, .inl (cI, (8 * Qz.C), .inl Qz.qf)), (Qz.qe, .inl (cL, (3 * Qz.C), .inr (.inl Qz.ef))), (tv, .inr (12, MF 13 (tw V1))), (V1.au, .inl (cC, V1.U, .inl V1.un))]) (w1 := [(mo, .inr (13, MF 30 (rf (rs v Qz (o + 1)) (skipH f n j1) b1))), (qx, .inl (cB, NN, .inl f))]) hP hD [0, 1] [2, 3, 4, 5] rfl rfl (by decide) (by decide) hk1 hFc hP1 hD1
        generalize H1 = H at hP hS ⊢
        have hP : va_P (dC, dI) classes [(Qz.qq, .inl (cI, (8 * Qz.C), .inl Qz.qf)), (Qz.qe, .inl (cL, (3 * Qz.C), .inr (.inl Qz.ef))), (tv, .inr (12, MF 13 (tw V1))), (V1.au, .inl (cC, V1.U, .inl V1.un)), (mo, .inr (13, MF 30 (rf (rs v Qz (o + 1)) (skipH f n j1) b1))), (qx, .inl (cB, NN, .inl f))] H := hP
        have hD : va_D A [(Qz.qq, .inl (cI, (8 * Qz.C), .inl Qz.qf)), (Qz.qe, .inl (cL, (3 * Qz.C), .inr (.inl Qz.ef))), (tv, .inr (12, MF 13 (tw V1))), (V1.au, .inl (cC, V1.U, .inl V1.un)), (mo, .inr (13, MF 30 (rf (rs v Qz (o + 1)) (skipH f n j1) b1))), (qx, .inl (cB, NN, .inl f))] := hD
        have hP := hP.sub (ws' := [(mo, .inr (13, MF 30 (rf (rs v Qz (o + 1)) (skipH f n j1) b1))), (qx, .inl (cB, NN, .inl f)), (Qz.qq, .inl (cI, (8 * Qz.C), .inl Qz.qf)), (Qz.qe, .inl (cL, (3 * Qz.C), .inr (.inl Qz.ef))), (tv, .inr (12, MF 13 (tw V1))), (V1.au, .inl (cC, V1.U, .inl V1.un))]) [4, 5, 0, 1, 2, 3] rfl
        have hD := hD.sub (ws' := [(mo, .inr (13, MF 30 (rf (rs v Qz (o + 1)) (skipH f n j1) b1))), (qx, .inl (cB, NN, .inl f)), (Qz.qq, .inl (cI, (8 * Qz.C), .inl Qz.qf)), (Qz.qe, .inl (cL, (3 * Qz.C), .inr (.inl Qz.ef))), (tv, .inr (12, MF 13 (tw V1))), (V1.au, .inl (cC, V1.U, .inl V1.un))]) [4, 5, 0, 1, 2, 3] (by decide) rfl
        have h_r6 : r6 = hereV f n (skipH f n j1) := hw
        refine lv_bipush (v := 93) hx hb d_Mo_selectors_103 (by decide) ?_
        refine lv_icmp_ne (tgt := 115) hx hb d_Mo_selectors_105 (by decide) (fun c105 => ?_) (fun c105 => ?_)
        · refine lv_iload_n hx hb d_Mo_selectors_115 rfl (lv_at hl 4 rfl) ?_
          refine lv_if_ne (tgt := 128) hx hb d_Mo_selectors_116 (by decide) (fun h => absurd h (by decide)) (fun _ => ?_)
          refine lv_aload_n hx hb d_Mo_selectors_119 rfl (lv_at hl 1 rfl) ?_
          have hPc := hP.sub (ws' := [(mo, .inr (13, MF 30 (rf (rs v Qz (o + 1)) (skipH f n j1) b1))), (qx, .inl (cB, NN, .inl f))]) [0, 1] rfl
          have hDc := hD.sub (ws' := [(mo, .inr (13, MF 30 (rf (rs v Qz (o + 1)) (skipH f n j1) b1))), (qx, .inl (cB, NN, .inl f))]) [0, 1] (by decide) rfl
          have hKc := hK.sub (tys' := [(cB, .byte)]) [0] rfl
          have hFc := va_free (wc := [(mo, .inr (13, MF 30 (rf (rs v Qz (o + 1)) (skipH f n j1) b1))), (qx, .inl (cB, NN, .inl f))]) hD hS hA [0, 1] rfl
          refine va_calli (va_runV (As := []) (rest := []) ⟨hx, hb, hml, hown, hts⟩ (c_Mo_c l dC dI mo H (rf (rs v Qz (o + 1)) (skipH f n j1) b1) cB qx NN f n (skipH f n j1) (by omega) (by omega) (by omega) ((rf_ne (by decide) (by decide)).trans ((rs_ne (by decide) (by decide) (by decide) (by decide)).trans h6)) rf_7 ((rf_ne (by decide) (by decide)).trans ((rs_ne (by decide) (by decide) (by decide) (by decide)).trans h8))) (cwV 0 hts (gt_V (own := R_Mo) (C := R_Mo) (i := 147) (y := y_Mo_c) i_Mo_c w_1233 w_1235 (gt_sel (y := y_Mo_c) (n := 30) (by decide +kernel)) w_7) rfl rfl rfl (by decide +kernel) ⟨Nat.le_trans (m := 8) (Nat.le_of_ble_eq_true rfl) (Nat.le_add_right 8 F), Nat.le_trans (m := 240) (Nat.le_of_ble_eq_true rfl) (Nat.le_add_right 240 L)⟩) ⟨mp_blind, va_recv hKc hPc (ci := 13) (q0 := 0) rfl rfl, fun U hU hW => ⟨rfl, hU, by rw [hU]; exact hPc, va_K.moved hW.alike hKc, hDc.weaken (fun _ _ _ _ => trivial)⟩⟩ rfl rfl hl.1 rfl (lv_room (Nat.le_of_ble_eq_true rfl)) d_Mo_selectors_120 ⟨hfit_QzV1.1, hfit_QzV1.2⟩) hS (fun q _ h => hFc q h) hFc (fun r8 _u t9 H1 locs ht hvm hw hB hz1 hk1 hS => ?_)
          obtain ⟨hP1, hK1, hD1⟩ := hB
          rw [ht] at hP1
          obtain ⟨hP, hD⟩ := va_join (wr := [(Qz.qq, .inl (cI, (8 * Qz.C), .inl Qz.qf)), (Qz.qe, .inl (cL, (3 * Qz.C), .inr (.inl Qz.ef))), (tv, .inr (12, MF 13 (tw V1))), (V1.au, .inl (cC, V1.U, .inl V1.un))]) (w1 := [(mo, .inr (13, MF 30 (rf (rs v Qz (o + 1)) (skipH f n j1) b1))), (qx, .inl (cB, NN, .inl f))]) hP hD [0, 1] [2, 3, 4, 5] rfl rfl (by decide) (by decide) hk1 hFc hP1 hD1
          generalize H1 = H at hP hS ⊢
          have hP : va_P (dC, dI) classes [(Qz.qq, .inl (cI, (8 * Qz.C), .inl Qz.qf)), (Qz.qe, .inl (cL, (3 * Qz.C), .inr (.inl Qz.ef))), (tv, .inr (12, MF 13 (tw V1))), (V1.au, .inl (cC, V1.U, .inl V1.un)), (mo, .inr (13, MF 30 (rf (rs v Qz (o + 1)) (skipH f n j1) b1))), (qx, .inl (cB, NN, .inl f))] H := hP
          have hD : va_D A [(Qz.qq, .inl (cI, (8 * Qz.C), .inl Qz.qf)), (Qz.qe, .inl (cL, (3 * Qz.C), .inr (.inl Qz.ef))), (tv, .inr (12, MF 13 (tw V1))), (V1.au, .inl (cC, V1.U, .inl V1.un)), (mo, .inr (13, MF 30 (rf (rs v Qz (o + 1)) (skipH f n j1) b1))), (qx, .inl (cB, NN, .inl f))] := hD
          have hP := hP.sub (ws' := [(mo, .inr (13, MF 30 (rf (rs v Qz (o + 1)) (skipH f n j1) b1))), (qx, .inl (cB, NN, .inl f)), (Qz.qq, .inl (cI, (8 * Qz.C), .inl Qz.qf)), (Qz.qe, .inl (cL, (3 * Qz.C), .inr (.inl Qz.ef))), (tv, .inr (12, MF 13 (tw V1))), (V1.au, .inl (cC, V1.U, .inl V1.un))]) [4, 5, 0, 1, 2, 3] rfl
          have hD := hD.sub (ws' := [(mo, .inr (13, MF 30 (rf (rs v Qz (o + 1)) (skipH f n j1) b1))), (qx, .inl (cB, NN, .inl f)), (Qz.qq, .inl (cI, (8 * Qz.C), .inl Qz.qf)), (Qz.qe, .inl (cL, (3 * Qz.C), .inr (.inl Qz.ef))), (tv, .inr (12, MF 13 (tw V1))), (V1.au, .inl (cC, V1.U, .inl V1.un))]) [4, 5, 0, 1, 2, 3] (by decide) rfl
          have h_r8 : r8 = hereV f n (skipH f n j1) := hw
          refine lv_bipush (v := 44) hx hb d_Mo_selectors_123 (by decide) ?_
          refine lv_icmp_eq (tgt := 137) hx hb d_Mo_selectors_125 (by decide) (fun c125 => ?_) (fun c125 => ?_)
          · refine lv_aload_n hx hb d_Mo_selectors_137 rfl (lv_at hl 1 rfl) ?_
            refine lv_dup hx hb d_Mo_selectors_138 rfl ?_
            refine va_get (D := (dC, dI)) (ci := 13) (v := .int (nI (skipH f n j1))) (C := R_Mo) (T := F_Mo) (N := 30) hx hb hts in_Mo hown hK hP 0 rfl rfl 7 (by decide) (hts _ w_1096) (fun _ h9 => h9) (MFg (by decide) rf_7) d_Mo_selectors_139 ?_
            refine lv_iconst (v := 1) hx hb d_Mo_selectors_142 (by decide) ?_
            refine lv_iadd hx hb d_Mo_selectors_143 ?_
            refine W.eq (g2 := F0 m 144 ls [.int (nI ((skipH f n j1) + 1)), .ref mo]) (by rw [show ((nI (skipH f n j1)) + 1) = (nI ((skipH f n j1) + 1)) from nI_1 _]) ?_
            refine va_put (D := (dC, dI)) (ci := 13) (v := .int (nI ((skipH f n j1) + 1))) (ty := .int) (C := R_Mo) (T := F_Mo) (N := 30) hx hb hts in_Mo t_Mo t_Mo_ok n_Mo hown hK hP hD hS 0 rfl rfl 7 (by decide) (hts _ w_1096) (fun _ h9 => h9) rfl (by decide +kernel) rfl rfl (by rw [MFl]; decide) d_Mo_selectors_144 (fun H locs hP hD hS => ?_)
            rw [MFs (n := 30) (k := 7) (by decide)] at hP hD
            have hP : va_P (dC, dI) classes [(mo, .inr (13, MF 30 (va_up (rf (rs v Qz (o + 1)) (skipH f n j1) b1) 7 (.int (nI ((skipH f n j1) + 1)))))), (qx, .inl (cB, NN, .inl f)), (Qz.qq, .inl (cI, (8 * Qz.C), .inl Qz.qf)), (Qz.qe, .inl (cL, (3 * Qz.C), .inr (.inl Qz.ef))), (tv, .inr (12, MF 13 (tw V1))), (V1.au, .inl (cC, V1.U, .inl V1.un))] H := hP
            have hD : va_D A [(mo, .inr (13, MF 30 (va_up (rf (rs v Qz (o + 1)) (skipH f n j1) b1) 7 (.int (nI ((skipH f n j1) + 1)))))), (qx, .inl (cB, NN, .inl f)), (Qz.qq, .inl (cI, (8 * Qz.C), .inl Qz.qf)), (Qz.qe, .inl (cL, (3 * Qz.C), .inr (.inl Qz.ef))), (tv, .inr (12, MF 13 (tw V1))), (V1.au, .inl (cC, V1.U, .inl V1.un))] := hD
            rw [rf_u7] at hP hD
            have hP : va_P (dC, dI) classes [(mo, .inr (13, MF 30 (rf (rs v Qz (o + 1)) ((skipH f n j1) + 1) b1))), (qx, .inl (cB, NN, .inl f)), (Qz.qq, .inl (cI, (8 * Qz.C), .inl Qz.qf)), (Qz.qe, .inl (cL, (3 * Qz.C), .inr (.inl Qz.ef))), (tv, .inr (12, MF 13 (tw V1))), (V1.au, .inl (cC, V1.U, .inl V1.un))] H := hP
            have hD : va_D A [(mo, .inr (13, MF 30 (rf (rs v Qz (o + 1)) ((skipH f n j1) + 1) b1))), (qx, .inl (cB, NN, .inl f)), (Qz.qq, .inl (cI, (8 * Qz.C), .inl Qz.qf)), (Qz.qe, .inl (cL, (3 * Qz.C), .inr (.inl Qz.ef))), (tv, .inr (12, MF 13 (tw V1))), (V1.au, .inl (cC, V1.U, .inl V1.un))] := hD
            refine lv_goto (tgt := 14) hx hb d_Mo_selectors_147 (by decide) ?_
            refine w_same (fun hq => ?_)
            refine W.widen (k := kcap Q (Q.R + 8 * (n - i) + 7) + qcap V (V.us + (n + 12 - i))) (n := 22 * kcap Q (Q.R + 8 * (n - i) + 7) + 2 * qcap V (V.us + (n + 12 - i))) hfit_QzV1.1 hfit_QzV1.2 ?_
            have hlt2 := here_in (h_r8.symm.trans c125) (by decide)
            have hst : slsL f n (orL f n) false m0 ((skipH f n j1) + 1) false fl2 (ac ++ [g1]) = slsL f n (orL f n) false (n + 1) (i + 1) true true [] := by rw [← hI7, hm0, hfl2]; exact (slsL_s hv_2 (fun h => c105 (h_r6.trans h)) (fun h => h.elim (fun q => absurd q (by decide)) (fun q => q (h_r8.symm.trans c125)))).symm
            exact ih (Qz, V1, m0, ((skipH f n j1) + 1), b1, nI Qc.R, false, fl2, ac ++ [g1]) _ _ _ ⟨hSLz, hQk_Qz, hTk_V1, hG_QzV1, ⟨_, hXc.trans hX_V1⟩, by omega, by omega, by omega, by omega, by omega, by omega, hst, hq⟩ (by show n + 1 - ((skipH f n j1) + 1) < n + 1 - j; omega) hP hD hS (lv_sub hl [1, 2, 3, 4, 0] rfl)
          · refine lv_aload_n hx hb d_Mo_selectors_128 rfl (lv_at hl 1 rfl) ?_
            refine lv_aload_n hx hb d_Mo_selectors_129 rfl (lv_at hl 1 rfl) ?_
            refine va_get (D := (dC, dI)) (ci := 13) (v := .int (nI (skipH f n j1))) (C := R_Mo) (T := F_Mo) (N := 30) hx hb hts in_Mo hown hK hP 0 rfl rfl 7 (by decide) (hts _ w_1096) (fun _ h9 => h9) (MFg (by decide) rf_7) d_Mo_selectors_130 ?_
            have hPc := hP.sub (ws' := [(mo, .inr (13, MF 30 (rf (rs v Qz (o + 1)) (skipH f n j1) b1)))]) [0] rfl
            have hDc := hD.sub (ws' := [(mo, .inr (13, MF 30 (rf (rs v Qz (o + 1)) (skipH f n j1) b1)))]) [0] (by decide) rfl
            have hKc := hK.sub (tys' := []) [] rfl
            have hFc := va_free (wc := [(mo, .inr (13, MF 30 (rf (rs v Qz (o + 1)) (skipH f n j1) b1)))]) hD hS hA [0] rfl
            refine va_calli (va_runV (As := [.int (nI (skipH f n j1))]) (rest := []) ⟨hx, hb, hml, hown, hts⟩ (c_Mo_fail l dC dI mo H (rf (rs v Qz (o + 1)) (skipH f n j1) b1) b1 ((nI (skipH f n j1))) rf_9) (cwV 1 hts (gt_V (own := R_Mo) (C := R_Mo) (i := 151) (y := y_Mo_fail) i_Mo_fail w_1250 w_1252 (gt_sel (y := y_Mo_fail) (n := 30) (by decide +kernel)) w_7) rfl rfl rfl (by decide +kernel) ⟨Nat.le_trans (m := 8) (Nat.le_of_ble_eq_true rfl) (Nat.le_add_right 8 F), Nat.le_trans (m := 240) (Nat.le_of_ble_eq_true rfl) (Nat.le_add_right 240 L)⟩) ⟨mp_blind, va_recv hKc hPc (ci := 13) (q0 := 0) rfl rfl, fun U hU hW => ⟨rfl, hU, by rw [hU]; exact hPc, va_K.moved hW.alike hKc, hDc.weaken (fun _ _ _ _ => trivial)⟩⟩ rfl rfl hl.1 rfl (lv_room (Nat.le_of_ble_eq_true rfl)) d_Mo_selectors_133 ⟨hfit_QzV1.1, hfit_QzV1.2⟩) hS (fun q _ h => hFc q h) hFc (fun r0 u2 t9 H1 locs ht hvm hw hB hz1 hk1 hS => ?_)
            obtain ⟨hP1, hK1, hD1⟩ := hB
            rw [ht] at hP1
            obtain ⟨hP, hD⟩ := va_join (wr := [(qx, .inl (cB, NN, .inl f)), (Qz.qq, .inl (cI, (8 * Qz.C), .inl Qz.qf)), (Qz.qe, .inl (cL, (3 * Qz.C), .inr (.inl Qz.ef))), (tv, .inr (12, MF 13 (tw V1))), (V1.au, .inl (cC, V1.U, .inl V1.un))]) (w1 := [(mo, .inr (13, MF 30 u2))]) hP hD [0] [1, 2, 3, 4, 5] rfl rfl (by decide) (by decide) hk1 hFc hP1 hD1
            generalize H1 = H at hP hS ⊢
            have hP : va_P (dC, dI) classes [(qx, .inl (cB, NN, .inl f)), (Qz.qq, .inl (cI, (8 * Qz.C), .inl Qz.qf)), (Qz.qe, .inl (cL, (3 * Qz.C), .inr (.inl Qz.ef))), (tv, .inr (12, MF 13 (tw V1))), (V1.au, .inl (cC, V1.U, .inl V1.un)), (mo, .inr (13, MF 30 u2))] H := hP
            have hD : va_D A [(qx, .inl (cB, NN, .inl f)), (Qz.qq, .inl (cI, (8 * Qz.C), .inl Qz.qf)), (Qz.qe, .inl (cL, (3 * Qz.C), .inr (.inl Qz.ef))), (tv, .inr (12, MF 13 (tw V1))), (V1.au, .inl (cC, V1.U, .inl V1.un)), (mo, .inr (13, MF 30 u2))] := hD
            have hP := hP.sub (ws' := [(mo, .inr (13, MF 30 u2)), (qx, .inl (cB, NN, .inl f)), (Qz.qq, .inl (cI, (8 * Qz.C), .inl Qz.qf)), (Qz.qe, .inl (cL, (3 * Qz.C), .inr (.inl Qz.ef))), (tv, .inr (12, MF 13 (tw V1))), (V1.au, .inl (cC, V1.U, .inl V1.un))]) [5, 0, 1, 2, 3, 4] rfl
            have hD := hD.sub (ws' := [(mo, .inr (13, MF 30 u2)), (qx, .inl (cB, NN, .inl f)), (Qz.qq, .inl (cI, (8 * Qz.C), .inl Qz.qf)), (Qz.qe, .inl (cL, (3 * Qz.C), .inr (.inl Qz.ef))), (tv, .inr (12, MF 13 (tw V1))), (V1.au, .inl (cC, V1.U, .inl V1.un))]) [5, 0, 1, 2, 3, 4] (by decide) rfl
            obtain ⟨b7, h_b7⟩ := rf_fail (v := (rs v Qz (o + 1))) (i := (skipH f n j1)) (br := b1) (b2 := b1) (wh := (nI (skipH f n j1)))
            have hw : r0 = 0 ∧ u2 = _ := hw
            obtain ⟨hw1, hw2⟩ := hw
            rw [h_b7] at hw2
            rw [hw2] at hP hD
            subst hw1
            have hP : va_P (dC, dI) classes [(mo, .inr (13, MF 30 (rf (rs v Qz (o + 1)) (skipH f n j1) b7))), (qx, .inl (cB, NN, .inl f)), (Qz.qq, .inl (cI, (8 * Qz.C), .inl Qz.qf)), (Qz.qe, .inl (cL, (3 * Qz.C), .inr (.inl Qz.ef))), (tv, .inr (12, MF 13 (tw V1))), (V1.au, .inl (cC, V1.U, .inl V1.un))] H := hP
            have hD : va_D A [(mo, .inr (13, MF 30 (rf (rs v Qz (o + 1)) (skipH f n j1) b7))), (qx, .inl (cB, NN, .inl f)), (Qz.qq, .inl (cI, (8 * Qz.C), .inl Qz.qf)), (Qz.qe, .inl (cL, (3 * Qz.C), .inr (.inl Qz.ef))), (tv, .inr (12, MF 13 (tw V1))), (V1.au, .inl (cC, V1.U, .inl V1.un))] := hD
            have hfin : slsP f n ok (orL f n) false i = none := by rw [hsl0, ← hI7, hm0]; exact slsL_b hv_2 (fun h => c105 (h_r6.trans h)) (Or.inr (fun h => c125 (h_r8.trans h)))
            refine w_same (fun hq => ?_)
            refine W.widen (k := kcap Q (Q.R + 8 * (n - i) + 7) + qcap V (V.us + (n + 12 - i))) (n := 22 * kcap Q (Q.R + 8 * (n - i) + 7) + 2 * qcap V (V.us + (n + 12 - i))) hfit_QzV1.1 hfit_QzV1.2 ?_
            have hPo : QPo n i 7 Q V (Qz, V1, (skipH f n j1), b7, (o + 1)) := ⟨hQk_Qz, hG_QzV1, ⟨_, (hXc.trans hX_V1), by rw [List.length_append]; omega⟩, by show Q.R ≤ Qz.R; omega, by show Qz.R ≤ Q.R + 8 * (n - i) + 7; omega⟩
            exact W.zret (v := 0) hx hb hr rfl (fun t9 ht hW => ⟨⟨0, (Qz, V1, (skipH f n j1), b7, (o + 1)), rfl, ⟨hPo, Or.inr ⟨rfl, hfin⟩⟩, ⟨by rw [ht]; exact hP, va_K.moved hW.alike hK, hD⟩, by rw [ht]; exact hq⟩, hS.F ht⟩) hS.2.2 d_Mo_selectors_136
        · refine lv_aload_n hx hb d_Mo_selectors_108 rfl (lv_at hl 1 rfl) ?_
          refine lv_bipush (v := 93) hx hb d_Mo_selectors_109 (by decide) ?_
          have hPc := hP.sub (ws' := [(mo, .inr (13, MF 30 (rf (rs v Qz (o + 1)) (skipH f n j1) b1))), (qx, .inl (cB, NN, .inl f))]) [0, 1] rfl
          have hDc := hD.sub (ws' := [(mo, .inr (13, MF 30 (rf (rs v Qz (o + 1)) (skipH f n j1) b1))), (qx, .inl (cB, NN, .inl f))]) [0, 1] (by decide) rfl
          have hKc := hK.sub (tys' := [(cB, .byte)]) [0] rfl
          have hFc := va_free (wc := [(mo, .inr (13, MF 30 (rf (rs v Qz (o + 1)) (skipH f n j1) b1))), (qx, .inl (cB, NN, .inl f))]) hD hS hA [0, 1] rfl
          refine va_calli (va_runV (As := [.int 93]) (rest := []) ⟨hx, hb, hml, hown, hts⟩ (c_Mo_shut l dC dI mo H (rf (rs v Qz (o + 1)) (skipH f n j1) b1) cB qx NN f n (skipH f n j1) (by omega) (by omega) (by omega) ((rf_ne (by decide) (by decide)).trans ((rs_ne (by decide) (by decide) (by decide) (by decide)).trans h6)) rf_7 ((rf_ne (by decide) (by decide)).trans ((rs_ne (by decide) (by decide) (by decide) (by decide)).trans h8)) b1 rf_9 93 o ((rf_ne (by decide) (by decide)).trans rs_23)) (cwV 1 hts (gt_V (own := R_Mo) (C := R_Mo) (i := 297) (y := y_Mo_shut) i_Mo_shut w_1447 w_1449 (gt_sel (y := y_Mo_shut) (n := 30) (by decide +kernel)) w_7) rfl rfl rfl (by decide +kernel) ⟨Nat.le_trans (m := 8) (Nat.le_of_ble_eq_true rfl) (Nat.le_add_right 8 F), Nat.le_trans (m := 240) (Nat.le_of_ble_eq_true rfl) (Nat.le_add_right 240 L)⟩) ⟨mp_blind, va_recv hKc hPc (ci := 13) (q0 := 0) rfl rfl, fun U hU hW => ⟨rfl, hU, by rw [hU]; exact hPc, va_K.moved hW.alike hKc, hDc.weaken (fun _ _ _ _ => trivial)⟩⟩ rfl rfl hl.1 rfl (lv_room (Nat.le_of_ble_eq_true rfl)) d_Mo_selectors_111 ⟨hfit_QzV1.1, hfit_QzV1.2⟩) hS (fun q _ h => hFc q h) hFc (fun r0 u2 t9 H1 locs ht hvm hw hB hz1 hk1 hS => ?_)
          obtain ⟨hP1, hK1, hD1⟩ := hB
          rw [ht] at hP1
          obtain ⟨hP, hD⟩ := va_join (wr := [(Qz.qq, .inl (cI, (8 * Qz.C), .inl Qz.qf)), (Qz.qe, .inl (cL, (3 * Qz.C), .inr (.inl Qz.ef))), (tv, .inr (12, MF 13 (tw V1))), (V1.au, .inl (cC, V1.U, .inl V1.un))]) (w1 := [(mo, .inr (13, MF 30 u2)), (qx, .inl (cB, NN, .inl f))]) hP hD [0, 1] [2, 3, 4, 5] rfl rfl (by decide) (by decide) hk1 hFc hP1 hD1
          generalize H1 = H at hP hS ⊢
          have hP : va_P (dC, dI) classes [(Qz.qq, .inl (cI, (8 * Qz.C), .inl Qz.qf)), (Qz.qe, .inl (cL, (3 * Qz.C), .inr (.inl Qz.ef))), (tv, .inr (12, MF 13 (tw V1))), (V1.au, .inl (cC, V1.U, .inl V1.un)), (mo, .inr (13, MF 30 u2)), (qx, .inl (cB, NN, .inl f))] H := hP
          have hD : va_D A [(Qz.qq, .inl (cI, (8 * Qz.C), .inl Qz.qf)), (Qz.qe, .inl (cL, (3 * Qz.C), .inr (.inl Qz.ef))), (tv, .inr (12, MF 13 (tw V1))), (V1.au, .inl (cC, V1.U, .inl V1.un)), (mo, .inr (13, MF 30 u2)), (qx, .inl (cB, NN, .inl f))] := hD
          have hP := hP.sub (ws' := [(mo, .inr (13, MF 30 u2)), (qx, .inl (cB, NN, .inl f)), (Qz.qq, .inl (cI, (8 * Qz.C), .inl Qz.qf)), (Qz.qe, .inl (cL, (3 * Qz.C), .inr (.inl Qz.ef))), (tv, .inr (12, MF 13 (tw V1))), (V1.au, .inl (cC, V1.U, .inl V1.un))]) [4, 5, 0, 1, 2, 3] rfl
          have hD := hD.sub (ws' := [(mo, .inr (13, MF 30 u2)), (qx, .inl (cB, NN, .inl f)), (Qz.qq, .inl (cI, (8 * Qz.C), .inl Qz.qf)), (Qz.qe, .inl (cL, (3 * Qz.C), .inr (.inl Qz.ef))), (tv, .inr (12, MF 13 (tw V1))), (V1.au, .inl (cC, V1.U, .inl V1.un))]) [4, 5, 0, 1, 2, 3] (by decide) rfl
          rcases hw with ⟨hn2, ht2, ht3⟩ | ⟨hn2, ht2, ht3⟩
          · rw [rf_u7, rs_o] at ht3
            rw [ht3] at hP hD
            subst ht2
            have hP : va_P (dC, dI) classes [(mo, .inr (13, MF 30 (rf (rs v Qz o) ((skipH f n j1) + 1) b1))), (qx, .inl (cB, NN, .inl f)), (Qz.qq, .inl (cI, (8 * Qz.C), .inl Qz.qf)), (Qz.qe, .inl (cL, (3 * Qz.C), .inr (.inl Qz.ef))), (tv, .inr (12, MF 13 (tw V1))), (V1.au, .inl (cC, V1.U, .inl V1.un))] H := hP
            have hD : va_D A [(mo, .inr (13, MF 30 (rf (rs v Qz o) ((skipH f n j1) + 1) b1))), (qx, .inl (cB, NN, .inl f)), (Qz.qq, .inl (cI, (8 * Qz.C), .inl Qz.qf)), (Qz.qe, .inl (cL, (3 * Qz.C), .inr (.inl Qz.ef))), (tv, .inr (12, MF 13 (tw V1))), (V1.au, .inl (cC, V1.U, .inl V1.un))] := hD
            have hlt9 := here_in hn2 (by decide)
            have hfin : slsP f n ok (orL f n) false i = some (((skipH f n j1) + 1), fl2, ac ++ [g1]) := by rw [hsl0, ← hI7, hm0, hfl2]; exact slsL_e hv_2 (h_r6.symm.trans c105)
            refine w_same (fun hq => ?_)
            refine W.widen (k := kcap Q (Q.R + 8 * (n - i) + 7) + qcap V (V.us + (n + 12 - i))) (n := 22 * kcap Q (Q.R + 8 * (n - i) + 7) + 2 * qcap V (V.us + (n + 12 - i))) hfit_QzV1.1 hfit_QzV1.2 ?_
            have hPo : QPo n i 7 Q V (Qz, V1, ((skipH f n j1) + 1), b1, o) := ⟨hQk_Qz, hG_QzV1, ⟨_, (hXc.trans hX_V1), by rw [List.length_append]; omega⟩, by show Q.R ≤ Qz.R; omega, by show Qz.R ≤ Q.R + 8 * (n - i) + 7; omega⟩
            exact W.zret (v := 1) hx hb hr rfl (fun t9 ht hW => ⟨⟨1, (Qz, V1, ((skipH f n j1) + 1), b1, o), rfl, ⟨hPo, Or.inl ⟨fl2, ac ++ [g1], rfl, hfin, ⟨hSLz.all, hSLz.2.2.2.2.2⟩, hSLz.2.2.2.1, hSLz.2.2.2.2.1, by show Qz.R + 8 * i + 8 ≤ Q.R + 8 * ((skipH f n j1) + 1); omega, by show V1.us + i ≤ V.us + ((skipH f n j1) + 1); omega, by show ((skipH f n j1) + 1) ≤ n; omega, rfl⟩⟩, ⟨by rw [ht]; exact hP, va_K.moved hW.alike hK, hD⟩, by rw [ht]; exact hq⟩, hS.F ht⟩) hS.2.2 d_Mo_selectors_114
          · obtain ⟨b6, h_b6⟩ := rf_fail (v := (rs v Qz (o + 1))) (i := (skipH f n j1)) (br := b1) (b2 := b1) (wh := nI (skipH f n j1))
            rw [h_b6] at ht3
            rw [ht3] at hP hD
            subst ht2
            have hP : va_P (dC, dI) classes [(mo, .inr (13, MF 30 (rf (rs v Qz (o + 1)) (skipH f n j1) b6))), (qx, .inl (cB, NN, .inl f)), (Qz.qq, .inl (cI, (8 * Qz.C), .inl Qz.qf)), (Qz.qe, .inl (cL, (3 * Qz.C), .inr (.inl Qz.ef))), (tv, .inr (12, MF 13 (tw V1))), (V1.au, .inl (cC, V1.U, .inl V1.un))] H := hP
            have hD : va_D A [(mo, .inr (13, MF 30 (rf (rs v Qz (o + 1)) (skipH f n j1) b6))), (qx, .inl (cB, NN, .inl f)), (Qz.qq, .inl (cI, (8 * Qz.C), .inl Qz.qf)), (Qz.qe, .inl (cL, (3 * Qz.C), .inr (.inl Qz.ef))), (tv, .inr (12, MF 13 (tw V1))), (V1.au, .inl (cC, V1.U, .inl V1.un))] := hD
            exact absurd (h_r6.symm.trans c105) hn2
    · have hv_2 : selP f n (orL f n) false (skipH f n j) = none := hv_2
      subst hv_1
      refine lv_istore (lv' := [(5, .int (-1)), (0, .ref mo), (1, .int (nI y)), (2, .int (nI s9)), (3, .int 0), (4, .int bf)]) hx hb d_Mo_selectors_23 hl (by decide) rfl (fun ls hl => ?_)
      refine lv_iload hx hb d_Mo_selectors_25 (lv_at hl 0 rfl) ?_
      refine lv_if_ge (tgt := 32) hx hb d_Mo_selectors_27 (by decide) (fun h => absurd h (by decide)) (fun _ => ?_)
      refine lv_iconst (v := 0) hx hb d_Mo_selectors_30 (by decide) ?_
      have hfin : slsP f n ok (orL f n) false i = none := by rw [hsl0, ← hI7, hm0]; exact slsL_n hv_2
      refine w_same (fun hq => ?_)
      refine W.widen (k := kcap Q (Q.R + 8 * (n - i) + 7) + qcap V (V.us + (n + 12 - i))) (n := 22 * kcap Q (Q.R + 8 * (n - i) + 7) + 2 * qcap V (V.us + (n + 12 - i))) hfit_Q1V1.1 hfit_Q1V1.2 ?_
      have hPo : QPo n i 7 Q V (Q1, V1, j1, b1, o1) := ⟨hQk_Q1, hG_Q1V1, ⟨_, (hXc.trans hX_V1), by rw [List.length_append]; omega⟩, by show Q.R ≤ Q1.R; omega, by show Q1.R ≤ Q.R + 8 * (n - i) + 7; omega⟩
      exact W.zret (v := 0) hx hb hr rfl (fun t9 ht hW => ⟨⟨0, (Q1, V1, j1, b1, o1), rfl, ⟨hPo, Or.inr ⟨rfl, hfin⟩⟩, ⟨by rw [ht]; exact hP, va_K.moved hW.alike hK, hD⟩, by rw [ht]; exact hq⟩, hS.F ht⟩) hS.2.2 d_Mo_selectors_31
  · obtain ⟨b5, h_b5⟩ := rf_fail (v := (rs v Q o)) (i := i) (br := br) (b2 := br) (wh := nI i)
    rw [h_b5] at ht3
    rw [ht3] at hP hD
    subst ht2
    have hP : va_P (dC, dI) classes [(mo, .inr (13, MF 30 (rf (rs v Q o) i b5))), (qx, .inl (cB, NN, .inl f)), (Q.qq, .inl (cI, (8 * Q.C), .inl Q.qf)), (Q.qe, .inl (cL, (3 * Q.C), .inr (.inl Q.ef))), (tv, .inr (12, MF 13 (tw V))), (V.au, .inl (cC, V.U, .inl V.un))] H := hP
    have hD : va_D A [(mo, .inr (13, MF 30 (rf (rs v Q o) i b5))), (qx, .inl (cB, NN, .inl f)), (Q.qq, .inl (cI, (8 * Q.C), .inl Q.qf)), (Q.qe, .inl (cL, (3 * Q.C), .inr (.inl Q.ef))), (tv, .inr (12, MF 13 (tw V))), (V.au, .inl (cC, V.U, .inl V.un))] := hD
    refine lv_if_ne (tgt := 11) hx hb d_Mo_selectors_6 (by decide) (fun h => absurd h (by decide)) (fun _ => ?_)
    refine lv_iconst (v := 0) hx hb d_Mo_selectors_9 (by decide) ?_
    have hfin : slsP f n ok (orL f n) false i = none := by unfold slsP; rw [if_neg (fun h => hn1 ⟨h.1, hok.mp h.2⟩)]
    refine w_same (fun hq => ?_)
    refine W.widen (k := kcap Q (Q.R + 8 * (n - i) + 7) + qcap V (V.us + (n + 12 - i))) (n := 22 * kcap Q (Q.R + 8 * (n - i) + 7) + 2 * qcap V (V.us + (n + 12 - i))) hfit_QV.1 hfit_QV.2 ?_
    have hPo : QPo n i 7 Q V (Q, V, i, b5, o) := ⟨hQk_Q, hG_QV, ⟨[], TX.rf hTk_V, Nat.zero_le _⟩, by show Q.R ≤ Q.R; omega, by show Q.R ≤ Q.R + 8 * (n - i) + 7; omega⟩
    exact W.zret (v := 0) hx hb hr rfl (fun t9 ht hW => ⟨⟨0, (Q, V, i, b5, o), rfl, ⟨hPo, Or.inr ⟨rfl, hfin⟩⟩, ⟨by rw [ht]; exact hP, va_K.moved hW.alike hK, hD⟩, by rw [ht]; exact hq⟩, hS.F ht⟩) hS.2.2 d_Mo_selectors_10
set_option maxHeartbeats 4000000 in
set_option maxRecDepth 100000 in
/-- the reference: selectors -/
theorem c_sls1 (orL : (Nat → Int32) → Nat → Nat → Option (Nat × CT)) (O : QP CT) (F L : Nat) (hOf : Frm 8 O) (l : Launch) (dC : Nat → ClassId) (dI : Nat → Nat → Nat) (mo : Nat) (sz : Heap) (v : Nat → Value) (cB cI cL cC : ClassId) (qx NN : Nat) (f : Nat → Int32) (n : Nat) (K : Nat → Nat × Nat) (tv : Nat) (Q : QS) (V : TS) (o i : Nat) (br : Int32) (s9 y : Nat) (ok : Bool) (hok : ok = true ↔ ¬ o = 16) (ho16 : o ≤ 16) (hOR : ¬ o = 16 → ORC orL O (o + 1) F L) (hnN : n ≤ NN) (hNN : NN ≤ 4096) (hi0 : i ≤ n) (h6 : v 6 = .ref qx) (h8 : v 8 = .int (nI n)) (h22 : v 22 = .ref tv) (hQ : QOK Q) (hV : TOK V) (hcu : V.us + (n + 12 - i) ≤ 400000) (hcr : Q.R + 8 * (n - i) + 7 ≤ 40000) (hs9 : s9 < Q.R) (hy : y < Q.R) (hsy : Q.qf (8 * s9 + 2) = -1) : Met l y_Mo_selectors (k_Mo_selectors :: gtbl) ({ frames := 8 + F, cells := kcap Q (Q.R + 8 * (n - i) + 7) + qcap V (V.us + (n + 12 - i)), slots := 22 * kcap Q (Q.R + 8 * (n - i) + 7) + 2 * qcap V (V.us + (n + 12 - i)), locals := 240 + L }) (va_Pc [.ref mo, .int (nI y), .int (nI s9), .int 1] (me K dC dI [(mo, .inr (13, MF 30 (rf (rs v Q o) i br))), (qx, .inl (cB, NN, .inl f)), (Q.qq, .inl (cI, (8 * Q.C), .inl Q.qf)), (Q.qe, .inl (cL, (3 * Q.C), .inr (.inl Q.ef))), (tv, .inr (12, MF 13 (tw V))), (V.au, .inl (cC, V.U, .inl V.un))] [(cB, .byte), (cI, .int), (cL, .long), (cC, .char)] sz)) (va_Qi (fun (res : Int32) (u : QS × TS × Nat × Int32 × Nat) => SLSo f ok (orL f n) O true n i o s9 y Q V res u) (fun u t9 => mz dC dI [(mo, .inr (13, MF 30 (rf (rs v u.1 u.2.2.2.2) u.2.2.1 u.2.2.2.1))), (qx, .inl (cB, NN, .inl f)), (u.1.qq, .inl (cI, (8 * u.1.C), .inl u.1.qf)), (u.1.qe, .inl (cL, (3 * u.1.C), .inr (.inl u.1.ef))), (tv, .inr (12, MF 13 (tw u.2.1))), (u.2.1.au, .inl (cC, u.2.1.U, .inl u.2.1.un))] [(cB, .byte), (cI, .int), (cL, .long), (cC, .char)] (va_A [(mo, .inr (13, MF 30 (rf (rs v Q o) i br))), (qx, .inl (cB, NN, .inl f)), (Q.qq, .inl (cI, (8 * Q.C), .inl Q.qf)), (Q.qe, .inl (cL, (3 * Q.C), .inr (.inl Q.ef))), (tv, .inr (12, MF 13 (tw V))), (V.au, .inl (cC, V.U, .inl V.un))] sz.size) t9 ∧ szk sz t9.heap (cQ Q V u.1 u.2.1) (sQ Q V u.1 u.2.1)) (va_A [(mo, .inr (13, MF 30 (rf (rs v Q o) i br))), (qx, .inl (cB, NN, .inl f)), (Q.qq, .inl (cI, (8 * Q.C), .inl Q.qf)), (Q.qe, .inl (cL, (3 * Q.C), .inr (.inl Q.ef))), (tv, .inr (12, MF 13 (tw V))), (V.au, .inl (cC, V.U, .inl V.un))] sz.size)) (kcap Q (Q.R + 8 * (n - i) + 7) + qcap V (V.us + (n + 12 - i))) (22 * kcap Q (Q.R + 8 * (n - i) + 7) + 2 * qcap V (V.us + (n + 12 - i))) (va_A [(mo, .inr (13, MF 30 (rf (rs v Q o) i br))), (qx, .inl (cB, NN, .inl f)), (Q.qq, .inl (cI, (8 * Q.C), .inl Q.qf)), (Q.qe, .inl (cL, (3 * Q.C), .inr (.inl Q.ef))), (tv, .inr (12, MF 13 (tw V))), (V.au, .inl (cC, V.U, .inl V.un))] sz.size) := by
  refine Met.ofW (cc := b_Mo_selectors) (maxL := 6) (ret := (some .boolean)) (by decide) rfl ?_
  intro p e s m args below meth c s₁ B hml hv
  obtain ⟨rfl, ⟨hsz, hP, hK, hD0⟩, hM⟩ := hv
  have hx := B.exec
  have hb := B.bytes
  have hr := B.returns
  have hts0 := atoms_spec (ws := k_Mo_selectors :: gtbl) B.pre
  have hts := fun w h => hts0 w (List.mem_cons_of_mem _ h)
  have hown : s.vm.findClass R_Mo = some m.cls := findClass_of_methodNamed B.named
  have hlocks := B.notSynchronized
  subst hsz
  have hD := hD0.self (sz := s.heap.size)
  generalize hAe : va_A [(mo, .inr (13, MF 30 (rf (rs v Q o) i br))), (qx, .inl (cB, NN, .inl f)), (Q.qq, .inl (cI, (8 * Q.C), .inl Q.qf)), (Q.qe, .inl (cL, (3 * Q.C), .inr (.inl Q.ef))), (tv, .inr (12, MF 13 (tw V))), (V.au, .inl (cC, V.U, .inl V.un))] s.heap.size = A at hD hM ⊢
  have hA : ∀ q : Nat, s.heap.size ≤ q → A q := fun q h => by rw [← hAe]; exact Or.inr h
  have hS : va_S A s.heap s.heap [] := va_S.rf
  have hP : va_P (dC, dI) classes [(mo, .inr (13, MF 30 (rf (rs v Q o) i br))), (qx, .inl (cB, NN, .inl f)), (Q.qq, .inl (cI, (8 * Q.C), .inl Q.qf)), (Q.qe, .inl (cL, (3 * Q.C), .inr (.inl Q.ef))), (tv, .inr (12, MF 13 (tw V))), (V.au, .inl (cC, V.U, .inl V.un))] s.heap := hP
  have hl := lv_entry ([.ref mo, .int (nI y), .int (nI s9), .int 1]) (n := 6) (Nat.le_of_ble_eq_true rfl)
  rw [lg_entry_eq]
  generalize (lg_sl ([.ref mo, .int (nI y), .int (nI s9), .int 1]) ++ List.replicate (6 - (lg_sl ([.ref mo, .int (nI y), .int (nI s9), .int 1])).length) Slot.unset).toArray = ls at hl ⊢
  have hl : lv_has ls 6 [(0, .ref mo), (1, .int (nI y)), (2, .int (nI s9)), (3, .int 1)] := hl
  have hQk_Q := hQ
  have hTk_V := hV
  have hCo := hQ.2.2.1
  have hCo2 := hQ.2.1
  clear hQ hV
  have hG_QV : GQ (Q.R + 8 * (n - i) + 7) (V.us + (n + 12 - i)) Q V Q V := GQ.rf
  refine w_same (fun hq => ?_)
  refine w_tight (k := cQ Q V Q V) (n := sQ Q V Q V) (by rw [cQ_rf.1, cQ_rf.2]; exact hq) ?_
  have hqb_QV : Q.R ≤ Q.C ∧ Q.C ≤ 100000 := ⟨hQk_Q.2.2.1, hQk_Q.2.1⟩
  have hfit_QV := hG_QV.fits
  refine lv_aload_n hx hb d_Mo_selectors_0 rfl (lv_at hl 0 rfl) ?_
  refine lv_bipush (v := 91) hx hb d_Mo_selectors_1 (by decide) ?_
  have hPc := hP.sub (ws' := [(mo, .inr (13, MF 30 (rf (rs v Q o) i br))), (qx, .inl (cB, NN, .inl f))]) [0, 1] rfl
  have hDc := hD.sub (ws' := [(mo, .inr (13, MF 30 (rf (rs v Q o) i br))), (qx, .inl (cB, NN, .inl f))]) [0, 1] (by decide) rfl
  have hKc := hK.sub (tys' := [(cB, .byte)]) [0] rfl
  have hFc := va_free (wc := [(mo, .inr (13, MF 30 (rf (rs v Q o) i br))), (qx, .inl (cB, NN, .inl f))]) hD hS hA [0, 1] rfl
  refine va_calli (va_runV (As := [.int 91]) (rest := []) ⟨hx, hb, hml, hown, hts⟩ (c_Mo_enter l dC dI mo s.heap (rf (rs v Q o) i br) cB qx NN f n i (by omega) (by omega) (by omega) ((rf_ne (by decide) (by decide)).trans ((rs_ne (by decide) (by decide) (by decide) (by decide)).trans h6)) rf_7 ((rf_ne (by decide) (by decide)).trans ((rs_ne (by decide) (by decide) (by decide) (by decide)).trans h8)) br rf_9 91 o (by omega) ((rf_ne (by decide) (by decide)).trans rs_23)) (cwV 1 hts (gt_V (own := R_Mo) (C := R_Mo) (i := 290) (y := y_Mo_enter) i_Mo_enter w_1423 w_1425 (gt_sel (y := y_Mo_enter) (n := 30) (by decide +kernel)) w_7) rfl rfl rfl (by decide +kernel) ⟨Nat.le_trans (m := 8) (Nat.le_of_ble_eq_true rfl) (Nat.le_add_right 8 F), Nat.le_trans (m := 240) (Nat.le_of_ble_eq_true rfl) (Nat.le_add_right 240 L)⟩) ⟨mp_blind, va_recv hKc hPc (ci := 13) (q0 := 0) rfl rfl, fun U hU hW => ⟨rfl, hU, by rw [hU]; exact hPc, va_K.moved hW.alike hKc, hDc.weaken (fun _ _ _ _ => trivial)⟩⟩ rfl rfl hl.1 rfl (lv_room (Nat.le_of_ble_eq_true rfl)) d_Mo_selectors_3 ⟨hfit_QV.1, hfit_QV.2⟩) hS (fun q _ h => hFc q h) hFc (fun r0 u2 t9 H1 locs ht hvm hw hB hz1 hk1 hS => ?_)
  obtain ⟨hP1, hK1, hD1⟩ := hB
  rw [ht] at hP1
  obtain ⟨hP, hD⟩ := va_join (wr := [(Q.qq, .inl (cI, (8 * Q.C), .inl Q.qf)), (Q.qe, .inl (cL, (3 * Q.C), .inr (.inl Q.ef))), (tv, .inr (12, MF 13 (tw V))), (V.au, .inl (cC, V.U, .inl V.un))]) (w1 := [(mo, .inr (13, MF 30 u2)), (qx, .inl (cB, NN, .inl f))]) hP hD [0, 1] [2, 3, 4, 5] rfl rfl (by decide) (by decide) hk1 hFc hP1 hD1
  generalize H1 = H at hP hS ⊢
  have hP : va_P (dC, dI) classes [(Q.qq, .inl (cI, (8 * Q.C), .inl Q.qf)), (Q.qe, .inl (cL, (3 * Q.C), .inr (.inl Q.ef))), (tv, .inr (12, MF 13 (tw V))), (V.au, .inl (cC, V.U, .inl V.un)), (mo, .inr (13, MF 30 u2)), (qx, .inl (cB, NN, .inl f))] H := hP
  have hD : va_D A [(Q.qq, .inl (cI, (8 * Q.C), .inl Q.qf)), (Q.qe, .inl (cL, (3 * Q.C), .inr (.inl Q.ef))), (tv, .inr (12, MF 13 (tw V))), (V.au, .inl (cC, V.U, .inl V.un)), (mo, .inr (13, MF 30 u2)), (qx, .inl (cB, NN, .inl f))] := hD
  have hP := hP.sub (ws' := [(mo, .inr (13, MF 30 u2)), (qx, .inl (cB, NN, .inl f)), (Q.qq, .inl (cI, (8 * Q.C), .inl Q.qf)), (Q.qe, .inl (cL, (3 * Q.C), .inr (.inl Q.ef))), (tv, .inr (12, MF 13 (tw V))), (V.au, .inl (cC, V.U, .inl V.un))]) [4, 5, 0, 1, 2, 3] rfl
  have hD := hD.sub (ws' := [(mo, .inr (13, MF 30 u2)), (qx, .inl (cB, NN, .inl f)), (Q.qq, .inl (cI, (8 * Q.C), .inl Q.qf)), (Q.qe, .inl (cL, (3 * Q.C), .inr (.inl Q.ef))), (tv, .inr (12, MF 13 (tw V))), (V.au, .inl (cC, V.U, .inl V.un))]) [4, 5, 0, 1, 2, 3] (by decide) rfl
  rcases hw with ⟨hn1, ht2, ht3⟩ | ⟨hn1, ht2, ht3⟩
  · rw [rs_o, rf_u7] at ht3
    rw [ht3] at hP hD
    subst ht2
    have hP : va_P (dC, dI) classes [(mo, .inr (13, MF 30 (rf (rs v Q (o + 1)) (i + 1) br))), (qx, .inl (cB, NN, .inl f)), (Q.qq, .inl (cI, (8 * Q.C), .inl Q.qf)), (Q.qe, .inl (cL, (3 * Q.C), .inr (.inl Q.ef))), (tv, .inr (12, MF 13 (tw V))), (V.au, .inl (cC, V.U, .inl V.un))] H := hP
    have hD : va_D A [(mo, .inr (13, MF 30 (rf (rs v Q (o + 1)) (i + 1) br))), (qx, .inl (cB, NN, .inl f)), (Q.qq, .inl (cI, (8 * Q.C), .inl Q.qf)), (Q.qe, .inl (cL, (3 * Q.C), .inr (.inl Q.ef))), (tv, .inr (12, MF 13 (tw V))), (V.au, .inl (cC, V.U, .inl V.un))] := hD
    refine lv_if_ne (tgt := 11) hx hb d_Mo_selectors_6 (by decide) (fun _ => ?_) (fun h => absurd h (by decide))
    refine lv_iconst (v := (-1)) hx hb d_Mo_selectors_11 (by decide) ?_
    refine lv_istore (lv' := [(4, .int (-1)), (0, .ref mo), (1, .int (nI y)), (2, .int (nI s9)), (3, .int 1)]) hx hb d_Mo_selectors_12 hl (by decide) rfl (fun ls hl => ?_)
    have hlt0 := here_in hn1.1 (by decide)
    have hsl0 : slsP f n ok (orL f n) true i = slsL f n (orL f n) true (n + 1) (i + 1) true true [] := by unfold slsP; rw [if_pos ⟨hn1.1, hok.mpr hn1.2⟩]
    refine w_same (fun hq => ?_)
    refine W.widen (k := kcap Q (Q.R + 8 * (n - i) + 7) + qcap V (V.us + (n + 12 - i))) (n := 22 * kcap Q (Q.R + 8 * (n - i) + 7) + 2 * qcap V (V.us + (n + 12 - i))) hfit_QV.1 hfit_QV.2 ?_
    refine w_loopH (D := (dC, dI)) (cl := classes) (A := A) (H0 := s.heap) (nL := 6) 14 (σ := QS × TS × Nat × Nat × Int32 × Int32 × Bool × Bool × List QT) (fun ⟨Qc, Vc, m9, j, b, bf, fst, fl, ac⟩ H => SLi O Q V Q.R s9 y Qc Vc bf fst fl ac ∧ QOK Qc ∧ TOK Vc ∧ GQ (Q.R + 8 * (n - i) + 7) (V.us + (n + 12 - i)) Q V Qc Vc ∧ (∃ us, TX V Vc us) ∧ Qc.R + 8 * (i + 1) ≤ Q.R + 8 * j ∧ Vc.us + (i + 1) ≤ V.us + j ∧ Q.R ≤ Qc.R ∧ j ≤ n ∧ i + 1 ≤ j ∧ n + 1 ≤ m9 + j ∧ slsL f n (orL f n) true m9 j fst fl ac = slsL f n (orL f n) true (n + 1) (i + 1) true true [] ∧ szk s.heap H (cQ Q V Qc Vc) (sQ Q V Qc Vc)) (fun ⟨Qc, Vc, m9, j, b, bf, fst, fl, ac⟩ => n + 1 - j) (fun ⟨Qc, Vc, m9, j, b, bf, fst, fl, ac⟩ => [(mo, .inr (13, MF 30 (rf (rs v Qc (o + 1)) j b))), (qx, .inl (cB, NN, .inl f)), (Qc.qq, .inl (cI, (8 * Qc.C), .inl Qc.qf)), (Qc.qe, .inl (cL, (3 * Qc.C), .inr (.inl Qc.ef))), (tv, .inr (12, MF 13 (tw Vc))), (Vc.au, .inl (cC, Vc.U, .inl Vc.un))]) (fun ⟨Qc, Vc, m9, j, b, bf, fst, fl, ac⟩ => [(0, .ref mo), (1, .int (nI y)), (2, .int (nI s9)), (3, .int 1), (4, .int bf)]) ?_ (Q, V, n + 1, i + 1, br, -1, true, true, []) ⟨SLi.rf hsy, hQk_Q, hTk_V, hG_QV, ⟨[], TX.rf hTk_V⟩, by show Q.R + 8 * (i + 1) ≤ Q.R + 8 * (i + 1); omega, by show V.us + (i + 1) ≤ V.us + (i + 1); omega, Nat.le_refl _, by show i + 1 ≤ n; omega, Nat.le_refl _, by show n + 1 ≤ n + 1 + (i + 1); omega, rfl, hq⟩ hP hD hS (lv_sub hl [1, 2, 3, 4, 0] rfl)
    rintro ⟨Qc, Vc, m9, j, b, bf, fst, fl, ac⟩ H locs ls hI ih hP hD hS hl
    have hP : va_P (dC, dI) classes [(mo, .inr (13, MF 30 (rf (rs v Qc (o + 1)) j b))), (qx, .inl (cB, NN, .inl f)), (Qc.qq, .inl (cI, (8 * Qc.C), .inl Qc.qf)), (Qc.qe, .inl (cL, (3 * Qc.C), .inr (.inl Qc.ef))), (tv, .inr (12, MF 13 (tw Vc))), (Vc.au, .inl (cC, Vc.U, .inl Vc.un))] H := hP
    have hD : va_D A [(mo, .inr (13, MF 30 (rf (rs v Qc (o + 1)) j b))), (qx, .inl (cB, NN, .inl f)), (Qc.qq, .inl (cI, (8 * Qc.C), .inl Qc.qf)), (Qc.qe, .inl (cL, (3 * Qc.C), .inr (.inl Qc.ef))), (tv, .inr (12, MF 13 (tw Vc))), (Vc.au, .inl (cC, Vc.U, .inl Vc.un))] := hD
    have hl : lv_has ls 6 [(0, .ref mo), (1, .int (nI y)), (2, .int (nI s9)), (3, .int 1), (4, .int bf)] := hl
    obtain ⟨hSL, hQk_Qc, hTk_Vc, hG_QcVc, ⟨usc, hXc⟩, hI1, hI2, hI3, hI4, hI5, hI6, hI7, hI8⟩ := hI
    refine w_tight hI8 ?_
    obtain ⟨m0, hm0⟩ : ∃ m0, m9 = m0 + 1 := ⟨m9 - 1, by omega⟩
    have hXcs := hXc.us
    have hqb_QcVc : Qc.R ≤ Qc.C ∧ Qc.C ≤ 100000 := ⟨hQk_Qc.2.2.1, hQk_Qc.2.1⟩
    have hfit_QcVc := hG_QcVc.fits
    refine lv_aload_n hx hb d_Mo_selectors_14 rfl (lv_at hl 0 rfl) ?_
    have hPc := hP.sub (ws' := [(mo, .inr (13, MF 30 (rf (rs v Qc (o + 1)) j b))), (qx, .inl (cB, NN, .inl f))]) [0, 1] rfl
    have hDc := hD.sub (ws' := [(mo, .inr (13, MF 30 (rf (rs v Qc (o + 1)) j b))), (qx, .inl (cB, NN, .inl f))]) [0, 1] (by decide) rfl
    have hKc := hK.sub (tys' := [(cB, .byte)]) [0] rfl
    have hFc := va_free (wc := [(mo, .inr (13, MF 30 (rf (rs v Qc (o + 1)) j b))), (qx, .inl (cB, NN, .inl f))]) hD hS hA [0, 1] rfl
    refine va_callv (va_runV (As := []) (rest := []) ⟨hx, hb, hml, hown, hts⟩ (c_Mo_blanks l dC dI mo H (rf (rs v Qc (o + 1)) j b) cB qx NN f n j (by omega) (by omega) (by omega) ((rf_ne (by decide) (by decide)).trans ((rs_ne (by decide) (by decide) (by decide) (by decide)).trans h6)) rf_7 ((rf_ne (by decide) (by decide)).trans ((rs_ne (by decide) (by decide) (by decide) (by decide)).trans h8))) (cwV 0 hts (gt_V (own := R_Mo) (C := R_Mo) (i := 184) (y := y_Mo_blanks) i_Mo_blanks w_1229 w_1231 (gt_sel (y := y_Mo_blanks) (n := 30) (by decide +kernel)) w_7) rfl rfl rfl (by decide +kernel) ⟨Nat.le_trans (m := 8) (Nat.le_of_ble_eq_true rfl) (Nat.le_add_right 8 F), Nat.le_trans (m := 240) (Nat.le_of_ble_eq_true rfl) (Nat.le_add_right 240 L)⟩) ⟨mp_blind, va_recv hKc hPc (ci := 13) (q0 := 0) rfl rfl, fun U hU hW => ⟨rfl, hU, by rw [hU]; exact hPc, va_K.moved hW.alike hKc, hDc.weaken (fun _ _ _ _ => trivial)⟩⟩ rfl rfl hl.1 rfl (lv_room (Nat.le_of_ble_eq_true rfl)) d_Mo_selectors_15 ⟨hfit_QcVc.1, hfit_QcVc.2⟩) hS (fun q _ h => hFc q h) hFc (fun _u t9 H1 locs ht hvm hw hB hz1 hk1 hS => ?_)
    obtain ⟨hP1, hK1, hD1⟩ := hB
    rw [ht] at hP1
    obtain ⟨hP, hD⟩ := va_join (wr := [(Qc.qq, .inl (cI, (8 * Qc.C), .inl Qc.qf)), (Qc.qe, .inl (cL, (3 * Qc.C), .inr (.inl Qc.ef))), (tv, .inr (12, MF 13 (tw Vc))), (Vc.au, .inl (cC, Vc.U, .inl Vc.un))]) (w1 := [(mo, .inr (13, MF 30 (va_up (rf (rs v Qc (o + 1)) j b) 7 (.int (nI (skipH f n j)))))), (qx, .inl (cB, NN, .inl f))]) hP hD [0, 1] [2, 3, 4, 5] rfl rfl (by decide) (by decide) hk1 hFc hP1 hD1
    generalize H1 = H at hP hS ⊢
    have hP : va_P (dC, dI) classes [(Qc.qq, .inl (cI, (8 * Qc.C), .inl Qc.qf)), (Qc.qe, .inl (cL, (3 * Qc.C), .inr (.inl Qc.ef))), (tv, .inr (12, MF 13 (tw Vc))), (Vc.au, .inl (cC, Vc.U, .inl Vc.un)), (mo, .inr (13, MF 30 (va_up (rf (rs v Qc (o + 1)) j b) 7 (.int (nI (skipH f n j)))))), (qx, .inl (cB, NN, .inl f))] H := hP
    have hD : va_D A [(Qc.qq, .inl (cI, (8 * Qc.C), .inl Qc.qf)), (Qc.qe, .inl (cL, (3 * Qc.C), .inr (.inl Qc.ef))), (tv, .inr (12, MF 13 (tw Vc))), (Vc.au, .inl (cC, Vc.U, .inl Vc.un)), (mo, .inr (13, MF 30 (va_up (rf (rs v Qc (o + 1)) j b) 7 (.int (nI (skipH f n j)))))), (qx, .inl (cB, NN, .inl f))] := hD
    have hP := hP.sub (ws' := [(mo, .inr (13, MF 30 (va_up (rf (rs v Qc (o + 1)) j b) 7 (.int (nI (skipH f n j)))))), (qx, .inl (cB, NN, .inl f)), (Qc.qq, .inl (cI, (8 * Qc.C), .inl Qc.qf)), (Qc.qe, .inl (cL, (3 * Qc.C), .inr (.inl Qc.ef))), (tv, .inr (12, MF 13 (tw Vc))), (Vc.au, .inl (cC, Vc.U, .inl Vc.un))]) [4, 5, 0, 1, 2, 3] rfl
    have hD := hD.sub (ws' := [(mo, .inr (13, MF 30 (va_up (rf (rs v Qc (o + 1)) j b) 7 (.int (nI (skipH f n j)))))), (qx, .inl (cB, NN, .inl f)), (Qc.qq, .inl (cI, (8 * Qc.C), .inl Qc.qf)), (Qc.qe, .inl (cL, (3 * Qc.C), .inr (.inl Qc.ef))), (tv, .inr (12, MF 13 (tw Vc))), (Vc.au, .inl (cC, Vc.U, .inl Vc.un))]) [4, 5, 0, 1, 2, 3] (by decide) rfl
    rw [rf_u7] at hP hD
    have hP : va_P (dC, dI) classes [(mo, .inr (13, MF 30 (rf (rs v Qc (o + 1)) (skipH f n j) b))), (qx, .inl (cB, NN, .inl f)), (Qc.qq, .inl (cI, (8 * Qc.C), .inl Qc.qf)), (Qc.qe, .inl (cL, (3 * Qc.C), .inr (.inl Qc.ef))), (tv, .inr (12, MF 13 (tw Vc))), (Vc.au, .inl (cC, Vc.U, .inl Vc.un))] H := hP
    have hD : va_D A [(mo, .inr (13, MF 30 (rf (rs v Qc (o + 1)) (skipH f n j) b))), (qx, .inl (cB, NN, .inl f)), (Qc.qq, .inl (cI, (8 * Qc.C), .inl Qc.qf)), (Qc.qe, .inl (cL, (3 * Qc.C), .inr (.inl Qc.ef))), (tv, .inr (12, MF 13 (tw Vc))), (Vc.au, .inl (cC, Vc.U, .inl Vc.un))] := hD
    have hsk_18 := skipH_n (f := f) (show j ≤ n by omega)
    refine lv_aload_n hx hb d_Mo_selectors_18 rfl (lv_at hl 0 rfl) ?_
    refine lv_iload_n hx hb d_Mo_selectors_19 rfl (lv_at hl 3 rfl) ?_
    have hPc := hP.sub (ws' := [(mo, .inr (13, MF 30 (rf (rs v Qc (o + 1)) (skipH f n j) b))), (qx, .inl (cB, NN, .inl f)), (Qc.qq, .inl (cI, (8 * Qc.C), .inl Qc.qf)), (Qc.qe, .inl (cL, (3 * Qc.C), .inr (.inl Qc.ef))), (tv, .inr (12, MF 13 (tw Vc))), (Vc.au, .inl (cC, Vc.U, .inl Vc.un))]) [0, 1, 2, 3, 4, 5] rfl
    have hDc := hD.sub (ws' := [(mo, .inr (13, MF 30 (rf (rs v Qc (o + 1)) (skipH f n j) b))), (qx, .inl (cB, NN, .inl f)), (Qc.qq, .inl (cI, (8 * Qc.C), .inl Qc.qf)), (Qc.qe, .inl (cL, (3 * Qc.C), .inr (.inl Qc.ef))), (tv, .inr (12, MF 13 (tw Vc))), (Vc.au, .inl (cC, Vc.U, .inl Vc.un))]) [0, 1, 2, 3, 4, 5] (by decide) rfl
    have hKc := hK.sub (tys' := [(cB, .byte), (cI, .int), (cL, .long), (cC, .char)]) [0, 1, 2, 3] rfl
    have hFc := va_free (wc := [(mo, .inr (13, MF 30 (rf (rs v Qc (o + 1)) (skipH f n j) b))), (qx, .inl (cB, NN, .inl f)), (Qc.qq, .inl (cI, (8 * Qc.C), .inl Qc.qf)), (Qc.qe, .inl (cL, (3 * Qc.C), .inr (.inl Qc.ef))), (tv, .inr (12, MF 13 (tw Vc))), (Vc.au, .inl (cC, Vc.U, .inl Vc.un))]) hD hS hA [0, 1, 2, 3, 4, 5] rfl
    refine w_same (fun hq0 => ?_)
    refine va_calli (va_runV (As := [.int 1]) (rest := []) ⟨hx, hb, hml, hown, hts⟩ (c_sel1 orL O F L hOf l dC dI mo H v cB cI cL cC qx NN f n K tv Qc Vc (o + 1) (skipH f n j) b (hOR hn1.2) hnN hNN (by omega) h6 h8 h22 hQk_Qc hTk_Vc (by omega) (by omega)) (cwV 1 hts (gt_V (own := R_Mo) (C := R_Mo) (i := 293) (y := y_Mo_selector) i_Mo_selector w_1427 w_1429 (gt_sel (y := y_Mo_selector) (n := 30) (by decide +kernel)) w_7) rfl rfl rfl (by decide +kernel) ⟨by show 7 + F + 1 ≤ 8 + F; omega, by show 8 + (5 + 11) + (200 + L) ≤ 240 + L; omega⟩) ⟨me_blind, va_recv hKc hPc (ci := 13) (q0 := 0) rfl rfl, fun U hU hW => ⟨rfl, ⟨hU, by rw [hU]; exact hPc, va_K.moved hW.alike hKc, hDc.weaken (fun _ _ _ _ => trivial)⟩, by rw [hU]; exact ME.call hM hS.2.1 hFc hW⟩⟩ rfl rfl hl.1 rfl (lv_room (Nat.le_of_ble_eq_true rfl)) d_Mo_selectors_20 ⟨(hG_QcVc.step (B2 := Qc.R + 8 * (n - (skipH f n j)) + 4) (C2 := Vc.us + (n + 12 - (skipH f n j))) (by omega) (by omega)).1, (hG_QcVc.step (B2 := Qc.R + 8 * (n - (skipH f n j)) + 4) (C2 := Vc.us + (n + 12 - (skipH f n j))) (by omega) (by omega)).2⟩) hS (fun q _ h => hFc q h) hFc (fun r0 ⟨Q1, V1, j1, b1, o1⟩ t9 H1 locs ht hvm hw hB hz1 hk1 hS => ?_)
    obtain ⟨⟨hP1, hK1, hD1⟩, hz9⟩ := hB
    rw [ht] at hP1
    rw [ht] at hz9
    obtain ⟨⟨hQk_Q1, hGn, hTXs, hR1_Q1, hR2_Q1⟩, hw⟩ := hw
    have hQk_Q1 : QOK Q1 := hQk_Q1
    obtain ⟨hG_Q1V1, hGc, hGs⟩ := hG_QcVc.tr hGn (by omega) (by omega)
    have hR1_Q1 : Qc.R ≤ Q1.R := hR1_Q1
    have hR2_Q1 : Q1.R ≤ Qc.R + 8 * (n - (skipH f n j)) + 4 := hR2_Q1
    obtain ⟨us1, hX_V1, hln_V1⟩ := hTXs
    have hX_V1 : TX Vc V1 us1 := hX_V1
    have hXs_V1 := hX_V1.us
    have hz9 : szk H H1 (cQ Qc Vc Q1 V1) (sQ Qc Vc Q1 V1) := hz9
    have hq1 : szk s.heap H1 (cQ Q V Q1 V1) (sQ Q V Q1 V1) := (hq0.trans hz9).mono hGc hGs
    refine w_tight hq1 ?_
    obtain ⟨hP, hD⟩ := va_join (wr := []) (w1 := [(mo, .inr (13, MF 30 (rf (rs v Q1 o1) j1 b1))), (qx, .inl (cB, NN, .inl f)), (Q1.qq, .inl (cI, (8 * Q1.C), .inl Q1.qf)), (Q1.qe, .inl (cL, (3 * Q1.C), .inr (.inl Q1.ef))), (tv, .inr (12, MF 13 (tw V1))), (V1.au, .inl (cC, V1.U, .inl V1.un))]) hP hD [0, 1, 2, 3, 4, 5] [] rfl rfl (by decide) (by decide) hk1 hFc hP1 hD1
    generalize H1 = H at hP hS ⊢
    have hP : va_P (dC, dI) classes [(mo, .inr (13, MF 30 (rf (rs v Q1 o1) j1 b1))), (qx, .inl (cB, NN, .inl f)), (Q1.qq, .inl (cI, (8 * Q1.C), .inl Q1.qf)), (Q1.qe, .inl (cL, (3 * Q1.C), .inr (.inl Q1.ef))), (tv, .inr (12, MF 13 (tw V1))), (V1.au, .inl (cC, V1.U, .inl V1.un))] H := hP
    have hD : va_D A [(mo, .inr (13, MF 30 (rf (rs v Q1 o1) j1 b1))), (qx, .inl (cB, NN, .inl f)), (Q1.qq, .inl (cI, (8 * Q1.C), .inl Q1.qf)), (Q1.qe, .inl (cL, (3 * Q1.C), .inr (.inl Q1.ef))), (tv, .inr (12, MF 13 (tw V1))), (V1.au, .inl (cC, V1.U, .inl V1.un))] := hD
    have hP := hP.sub (ws' := [(mo, .inr (13, MF 30 (rf (rs v Q1 o1) j1 b1))), (qx, .inl (cB, NN, .inl f)), (tv, .inr (12, MF 13 (tw V1))), (Q1.qq, .inl (cI, (8 * Q1.C), .inl Q1.qf)), (Q1.qe, .inl (cL, (3 * Q1.C), .inr (.inl Q1.ef))), (V1.au, .inl (cC, V1.U, .inl V1.un))]) [0, 1, 4, 2, 3, 5] rfl
    have hD := hD.sub (ws' := [(mo, .inr (13, MF 30 (rf (rs v Q1 o1) j1 b1))), (qx, .inl (cB, NN, .inl f)), (tv, .inr (12, MF 13 (tw V1))), (Q1.qq, .inl (cI, (8 * Q1.C), .inl Q1.qf)), (Q1.qe, .inl (cL, (3 * Q1.C), .inr (.inl Q1.ef))), (V1.au, .inl (cC, V1.U, .inl V1.un))]) [0, 1, 4, 2, 3, 5] (by decide) rfl
    have hP := hP.sub (ws' := [(mo, .inr (13, MF 30 (rf (rs v Q1 o1) j1 b1))), (qx, .inl (cB, NN, .inl f)), (Q1.qq, .inl (cI, (8 * Q1.C), .inl Q1.qf)), (Q1.qe, .inl (cL, (3 * Q1.C), .inr (.inl Q1.ef))), (tv, .inr (12, MF 13 (tw V1))), (V1.au, .inl (cC, V1.U, .inl V1.un))]) [0, 1, 3, 4, 2, 5] rfl
    have hD := hD.sub (ws' := [(mo, .inr (13, MF 30 (rf (rs v Q1 o1) j1 b1))), (qx, .inl (cB, NN, .inl f)), (Q1.qq, .inl (cI, (8 * Q1.C), .inl Q1.qf)), (Q1.qe, .inl (cL, (3 * Q1.C), .inr (.inl Q1.ef))), (tv, .inr (12, MF 13 (tw V1))), (V1.au, .inl (cC, V1.U, .inl V1.un))]) [0, 1, 3, 4, 2, 5] (by decide) rfl
    have hTk_V1 := hX_V1.ok hTk_Vc (by omega)
    have hqb_Q1V1 : Q1.R ≤ Q1.C ∧ Q1.C ≤ 100000 := ⟨hQk_Q1.2.2.1, hQk_Q1.2.1⟩
    have hfit_Q1V1 := hG_Q1V1.fits
    rcases hw with ⟨fl1, g1, hv_1, hv_2, hv_3, hv_4, hv_5, hv_6, hv_7, hv_8, hv_9, hv_10, hv_11⟩ | ⟨hv_1, hv_2⟩
    · have hv_11 : (o + 1) = o1 := hv_11.symm
      subst hv_11
      have hP : va_P (dC, dI) classes [(mo, .inr (13, MF 30 (rf (rs v Q1 (o + 1)) j1 b1))), (qx, .inl (cB, NN, .inl f)), (Q1.qq, .inl (cI, (8 * Q1.C), .inl Q1.qf)), (Q1.qe, .inl (cL, (3 * Q1.C), .inr (.inl Q1.ef))), (tv, .inr (12, MF 13 (tw V1))), (V1.au, .inl (cC, V1.U, .inl V1.un))] H := hP
      have hD : va_D A [(mo, .inr (13, MF 30 (rf (rs v Q1 (o + 1)) j1 b1))), (qx, .inl (cB, NN, .inl f)), (Q1.qq, .inl (cI, (8 * Q1.C), .inl Q1.qf)), (Q1.qe, .inl (cL, (3 * Q1.C), .inr (.inl Q1.ef))), (tv, .inr (12, MF 13 (tw V1))), (V1.au, .inl (cC, V1.U, .inl V1.un))] := hD
      have hv_2 : selP f n (orL f n) true (skipH f n j) = some (j1, fl1, g1) := hv_2
      have hv_3 : SELp O Q1 V1 Qc.R Q1.R Qc.R g1 := hv_3
      have hv_4 : fl1 = true ↔ (Q1.qf (8 * Qc.R + 0) = 1 ∨ Q1.qf (8 * Qc.R + 0) = 3) := hv_4
      have hv_5 : Q1.qf (8 * Qc.R + 1) = -1 := hv_5
      have hv_6 : alr Qc Vc Q1 V1 0 Qc.R := hv_6
      have hv_7 : Q1.R + 8 * (skipH f n j) + 7 ≤ Qc.R + 8 * j1 := hv_7
      have hv_8 : V1.us + (skipH f n j) ≤ Vc.us + j1 := hv_8
      have hv_9 : j1 ≤ n := hv_9
      have hv_10 : Qc.R < Q1.R := hv_10
      subst hv_1
      refine lv_istore (lv' := [(5, .int (nI Qc.R)), (0, .ref mo), (1, .int (nI y)), (2, .int (nI s9)), (3, .int 1), (4, .int bf)]) hx hb d_Mo_selectors_23 hl (by decide) rfl (fun ls hl => ?_)
      refine lv_iload hx hb d_Mo_selectors_25 (lv_at hl 0 rfl) ?_
      refine lv_if_ge (tgt := 32) hx hb d_Mo_selectors_27 (by decide) (fun _ => ?_) (fun h => absurd (nI_pos' (by omega)) h)
      refine w_join (D := (dC, dI)) (cl := classes) (A := A) (H0 := s.heap) (nL := 6) 91 (σ := QS × Bool) (fun ⟨Qz, fl2⟩ => SLi O Q V Q.R s9 y Qz V1 (nI Qc.R) false fl2 (ac ++ [g1]) ∧ fl2 = (fl && (fst && fl1)) ∧ QOK Qz ∧ GQ (Q.R + 8 * (n - i) + 7) (V.us + (n + 12 - i)) Q V Qz V1 ∧ Qz.R = Q1.R) (fun ⟨Qz, fl2⟩ => cQ Q V Qz V1) (fun ⟨Qz, fl2⟩ => sQ Q V Qz V1) (fun ⟨Qz, fl2⟩ => [(mo, .inr (13, MF 30 (rf (rs v Qz (o + 1)) j1 b1))), (qx, .inl (cB, NN, .inl f)), (Qz.qq, .inl (cI, (8 * Qz.C), .inl Qz.qf)), (Qz.qe, .inl (cL, (3 * Qz.C), .inr (.inl Qz.ef))), (tv, .inr (12, MF 13 (tw V1))), (V1.au, .inl (cC, V1.U, .inl V1.un))]) (fun ⟨Qz, fl2⟩ => [(0, .ref mo), (1, .int (nI y)), (2, .int (nI s9)), (3, .int 1), (5, .int (nI Qc.R))]) (fun jn91 => ?_) ?_
      · rcases hSL.2.2.1 with ⟨hb1, hb2, hb5⟩ | ⟨a9, hb1, hb2, hb3, hb4⟩
        · rw [hb1] at hl hSL
          have hl : lv_has ls 6 [(5, .int (nI Qc.R)), (0, .ref mo), (1, .int (nI y)), (2, .int (nI s9)), (3, .int 1), (4, .int (-1))] := hl
          refine lv_iload hx hb d_Mo_selectors_32 (lv_at hl 5 rfl) ?_
          refine lv_if_ge (tgt := 48) hx hb d_Mo_selectors_34 (by decide) (fun h => absurd h (by decide)) (fun _ => ?_)
          refine lv_aload_n hx hb d_Mo_selectors_37 rfl (lv_at hl 1 rfl) ?_
          refine lv_iload_n hx hb d_Mo_selectors_38 rfl (lv_at hl 3 rfl) ?_
          refine lv_iconst (v := 2) hx hb d_Mo_selectors_39 (by decide) ?_
          refine lv_iload hx hb d_Mo_selectors_40 (lv_at hl 0 rfl) ?_
          refine W.eq (g2 := F0 m 42 ls [.int (nI Qc.R), .int (nI 2), .int (nI s9), .ref mo]) rfl ?_
          have hPc := hP.sub (ws' := [(mo, .inr (13, MF 30 (rf (rs v Q1 (o + 1)) j1 b1))), (Q1.qq, .inl (cI, (8 * Q1.C), .inl Q1.qf))]) [0, 2] rfl
          have hDc := hD.sub (ws' := [(mo, .inr (13, MF 30 (rf (rs v Q1 (o + 1)) j1 b1))), (Q1.qq, .inl (cI, (8 * Q1.C), .inl Q1.qf))]) [0, 2] (by decide) rfl
          have hKc := hK.sub (tys' := [(cI, .int)]) [1] rfl
          have hFc := va_free (wc := [(mo, .inr (13, MF 30 (rf (rs v Q1 (o + 1)) j1 b1))), (Q1.qq, .inl (cI, (8 * Q1.C), .inl Q1.qf))]) hD hS hA [0, 2] rfl
          refine va_callv (va_runV (As := [.int (nI s9), .int (nI 2), .int (nI Qc.R)]) (rest := []) ⟨hx, hb, hml, hown, hts⟩ (c_Mo_set l dC dI mo H (rf (rs v Q1 (o + 1)) j1 b1) cI Q1.qq (8 * Q1.C) Q1.qf s9 2 ((nI Qc.R)) (by omega) (by omega) ((rf_ne (by decide) (by decide)).trans rs_19)) (cwV 3 hts (gt_V (own := R_Mo) (C := R_Mo) (i := 272) (y := y_Mo_set) i_Mo_set w_1411 w_1413 (gt_sel (y := y_Mo_set) (n := 30) (by decide +kernel)) w_7) rfl rfl rfl (by decide +kernel) ⟨Nat.le_trans (m := 8) (Nat.le_of_ble_eq_true rfl) (Nat.le_add_right 8 F), Nat.le_trans (m := 240) (Nat.le_of_ble_eq_true rfl) (Nat.le_add_right 240 L)⟩) ⟨mp_blind, va_recv hKc hPc (ci := 13) (q0 := 0) rfl rfl, fun U hU hW => ⟨rfl, hU, by rw [hU]; exact hPc, va_K.moved hW.alike hKc, hDc.weaken (fun _ _ _ _ => trivial)⟩⟩ rfl rfl hl.1 rfl (lv_room (Nat.le_of_ble_eq_true rfl)) d_Mo_selectors_42 ⟨hfit_Q1V1.1, hfit_Q1V1.2⟩) hS (fun q _ h => hFc q h) hFc (fun _u t9 H1 locs ht hvm hw hB hz1 hk1 hS => ?_)
          obtain ⟨hP1, hK1, hD1⟩ := hB
          rw [ht] at hP1
          obtain ⟨hP, hD⟩ := va_join (wr := [(qx, .inl (cB, NN, .inl f)), (Q1.qe, .inl (cL, (3 * Q1.C), .inr (.inl Q1.ef))), (tv, .inr (12, MF 13 (tw V1))), (V1.au, .inl (cC, V1.U, .inl V1.un))]) (w1 := [(mo, .inr (13, MF 30 (rf (rs v Q1 (o + 1)) j1 b1))), (Q1.qq, .inl (cI, (8 * Q1.C), .inl (upd Q1.qf (8 * s9 + 2) ((nI Qc.R)))))]) hP hD [0, 2] [1, 3, 4, 5] rfl rfl (by decide) (by decide) hk1 hFc hP1 hD1
          generalize H1 = H at hP hS ⊢
          have hP : va_P (dC, dI) classes [(qx, .inl (cB, NN, .inl f)), (Q1.qe, .inl (cL, (3 * Q1.C), .inr (.inl Q1.ef))), (tv, .inr (12, MF 13 (tw V1))), (V1.au, .inl (cC, V1.U, .inl V1.un)), (mo, .inr (13, MF 30 (rf (rs v Q1 (o + 1)) j1 b1))), (Q1.qq, .inl (cI, (8 * Q1.C), .inl (upd Q1.qf (8 * s9 + 2) ((nI Qc.R)))))] H := hP
          have hD : va_D A [(qx, .inl (cB, NN, .inl f)), (Q1.qe, .inl (cL, (3 * Q1.C), .inr (.inl Q1.ef))), (tv, .inr (12, MF 13 (tw V1))), (V1.au, .inl (cC, V1.U, .inl V1.un)), (mo, .inr (13, MF 30 (rf (rs v Q1 (o + 1)) j1 b1))), (Q1.qq, .inl (cI, (8 * Q1.C), .inl (upd Q1.qf (8 * s9 + 2) ((nI Qc.R)))))] := hD
          have hP := hP.sub (ws' := [(mo, .inr (13, MF 30 (rf (rs v Q1 (o + 1)) j1 b1))), (qx, .inl (cB, NN, .inl f)), (Q1.qq, .inl (cI, (8 * Q1.C), .inl (upd Q1.qf (8 * s9 + 2) ((nI Qc.R))))), (Q1.qe, .inl (cL, (3 * Q1.C), .inr (.inl Q1.ef))), (tv, .inr (12, MF 13 (tw V1))), (V1.au, .inl (cC, V1.U, .inl V1.un))]) [4, 0, 5, 1, 2, 3] rfl
          have hD := hD.sub (ws' := [(mo, .inr (13, MF 30 (rf (rs v Q1 (o + 1)) j1 b1))), (qx, .inl (cB, NN, .inl f)), (Q1.qq, .inl (cI, (8 * Q1.C), .inl (upd Q1.qf (8 * s9 + 2) ((nI Qc.R))))), (Q1.qe, .inl (cL, (3 * Q1.C), .inr (.inl Q1.ef))), (tv, .inr (12, MF 13 (tw V1))), (V1.au, .inl (cC, V1.U, .inl V1.un))]) [4, 0, 5, 1, 2, 3] (by decide) rfl
          obtain ⟨Q2, e_Q2⟩ : ∃ z : QS, z = QS.wf Q1 (upd Q1.qf (8 * s9 + 2) ((nI Qc.R))) := ⟨_, rfl⟩
          have hP : va_P (dC, dI) classes [(mo, .inr (13, MF 30 (rf (rs v Q2 (o + 1)) j1 b1))), (qx, .inl (cB, NN, .inl f)), (Q2.qq, .inl (cI, (8 * Q2.C), .inl Q2.qf)), (Q2.qe, .inl (cL, (3 * Q2.C), .inr (.inl Q2.ef))), (tv, .inr (12, MF 13 (tw V1))), (V1.au, .inl (cC, V1.U, .inl V1.un))] H := by subst e_Q2; exact hP
          have hD : va_D A [(mo, .inr (13, MF 30 (rf (rs v Q2 (o + 1)) j1 b1))), (qx, .inl (cB, NN, .inl f)), (Q2.qq, .inl (cI, (8 * Q2.C), .inl Q2.qf)), (Q2.qe, .inl (cL, (3 * Q2.C), .inr (.inl Q2.ef))), (tv, .inr (12, MF 13 (tw V1))), (V1.au, .inl (cC, V1.U, .inl V1.un))] := by subst e_Q2; exact hD
          have hf_Q2 : Q2.C = Q1.C ∧ Q2.R = Q1.R ∧ Q2.qf = upd Q1.qf (8 * s9 + 2) ((nI Qc.R)) := by rw [e_Q2]; exact ⟨rfl, rfl, rfl⟩
          have he_Q2 : Q2.ef = Q1.ef := by rw [e_Q2]; rfl
          have hQk_Q2 : QOK Q2 := by rw [e_Q2]; exact hQk_Q1
          have hG_Q2V1 : GQ (Q.R + 8 * (n - i) + 7) (V.us + (n + 12 - i)) Q V Q2 V1 := by unfold GQ at hG_Q1V1 ⊢; rw [hf_Q2.1]; exact hG_Q1V1
          refine w_same (fun hq => ?_)
          refine w_tight (k := cQ Q V Q2 V1) (n := sQ Q V Q2 V1) (by unfold cQ sQ at hq ⊢; rw [hf_Q2.1]; exact hq) ?_
          have hR_Q2 := hf_Q2.2.1
          have hqb_Q2V1 : Q2.R ≤ Q2.C ∧ Q2.C ≤ 100000 := ⟨hQk_Q2.2.2.1, hQk_Q2.2.1⟩
          have hfit_Q2V1 := hG_Q2V1.fits
          have hSL2 : SLi O Q V Q.R s9 y Q2 V1 (nI Qc.R) false fl (ac ++ [g1]) := hSL.one hOf hb5 hs9 hy hv_6 hv_3 hv_5 hf_Q2.2.2 he_Q2 hR_Q2
          refine lv_goto (tgt := 57) hx hb d_Mo_selectors_45 (by decide) ?_
          refine lv_iload hx hb d_Mo_selectors_57 (lv_at hl 5 rfl) ?_
          refine lv_if_ge (tgt := 84) hx hb d_Mo_selectors_59 (by decide) (fun h => absurd h (by decide)) (fun _ => ?_)
          refine lv_aload_n hx hb d_Mo_selectors_62 rfl (lv_at hl 1 rfl) ?_
          refine lv_iload hx hb d_Mo_selectors_63 (lv_at hl 0 rfl) ?_
          refine lv_iconst (v := 0) hx hb d_Mo_selectors_65 (by decide) ?_
          refine W.eq (g2 := F0 m 66 ls [.int (nI 0), .int (nI Qc.R), .ref mo]) rfl ?_
          have hPc := hP.sub (ws' := [(mo, .inr (13, MF 30 (rf (rs v Q2 (o + 1)) j1 b1))), (Q2.qq, .inl (cI, (8 * Q2.C), .inl Q2.qf))]) [0, 2] rfl
          have hDc := hD.sub (ws' := [(mo, .inr (13, MF 30 (rf (rs v Q2 (o + 1)) j1 b1))), (Q2.qq, .inl (cI, (8 * Q2.C), .inl Q2.qf))]) [0, 2] (by decide) rfl
          have hKc := hK.sub (tys' := [(cI, .int)]) [1] rfl
          have hFc := va_free (wc := [(mo, .inr (13, MF 30 (rf (rs v Q2 (o + 1)) j1 b1))), (Q2.qq, .inl (cI, (8 * Q2.C), .inl Q2.qf))]) hD hS hA [0, 2] rfl
          refine va_calli (va_runV (As := [.int (nI Qc.R), .int (nI 0)]) (rest := []) ⟨hx, hb, hml, hown, hts⟩ (c_Mo_field l dC dI mo H (rf (rs v Q2 (o + 1)) j1 b1) cI Q2.qq (8 * Q2.C) Q2.qf Qc.R 0 (by omega) (by omega) ((rf_ne (by decide) (by decide)).trans rs_19)) (cwV 2 hts (gt_V (own := R_Mo) (C := R_Mo) (i := 286) (y := y_Mo_field) i_Mo_field w_1431 w_1433 (gt_sel (y := y_Mo_field) (n := 30) (by decide +kernel)) w_7) rfl rfl rfl (by decide +kernel) ⟨Nat.le_trans (m := 8) (Nat.le_of_ble_eq_true rfl) (Nat.le_add_right 8 F), Nat.le_trans (m := 240) (Nat.le_of_ble_eq_true rfl) (Nat.le_add_right 240 L)⟩) ⟨mp_blind, va_recv hKc hPc (ci := 13) (q0 := 0) rfl rfl, fun U hU hW => ⟨rfl, hU, by rw [hU]; exact hPc, va_K.moved hW.alike hKc, hDc.weaken (fun _ _ _ _ => trivial)⟩⟩ rfl rfl hl.1 rfl (lv_room (Nat.le_of_ble_eq_true rfl)) d_Mo_selectors_66 ⟨hfit_Q2V1.1, hfit_Q2V1.2⟩) hS (fun q _ h => hFc q h) hFc (fun r7 _u t9 H1 locs ht hvm hw hB hz1 hk1 hS => ?_)
          obtain ⟨hP1, hK1, hD1⟩ := hB
          rw [ht] at hP1
          obtain ⟨hP, hD⟩ := va_join (wr := [(qx, .inl (cB, NN, .inl f)), (Q2.qe, .inl (cL, (3 * Q2.C), .inr (.inl Q2.ef))), (tv, .inr (12, MF 13 (tw V1))), (V1.au, .inl (cC, V1.U, .inl V1.un))]) (w1 := [(mo, .inr (13, MF 30 (rf (rs v Q2 (o + 1)) j1 b1))), (Q2.qq, .inl (cI, (8 * Q2.C), .inl Q2.qf))]) hP hD [0, 2] [1, 3, 4, 5] rfl rfl (by decide) (by decide) hk1 hFc hP1 hD1
          generalize H1 = H at hP hS ⊢
          have hP : va_P (dC, dI) classes [(qx, .inl (cB, NN, .inl f)), (Q2.qe, .inl (cL, (3 * Q2.C), .inr (.inl Q2.ef))), (tv, .inr (12, MF 13 (tw V1))), (V1.au, .inl (cC, V1.U, .inl V1.un)), (mo, .inr (13, MF 30 (rf (rs v Q2 (o + 1)) j1 b1))), (Q2.qq, .inl (cI, (8 * Q2.C), .inl Q2.qf))] H := hP
          have hD : va_D A [(qx, .inl (cB, NN, .inl f)), (Q2.qe, .inl (cL, (3 * Q2.C), .inr (.inl Q2.ef))), (tv, .inr (12, MF 13 (tw V1))), (V1.au, .inl (cC, V1.U, .inl V1.un)), (mo, .inr (13, MF 30 (rf (rs v Q2 (o + 1)) j1 b1))), (Q2.qq, .inl (cI, (8 * Q2.C), .inl Q2.qf))] := hD
          have hP := hP.sub (ws' := [(mo, .inr (13, MF 30 (rf (rs v Q2 (o + 1)) j1 b1))), (qx, .inl (cB, NN, .inl f)), (Q2.qq, .inl (cI, (8 * Q2.C), .inl Q2.qf)), (Q2.qe, .inl (cL, (3 * Q2.C), .inr (.inl Q2.ef))), (tv, .inr (12, MF 13 (tw V1))), (V1.au, .inl (cC, V1.U, .inl V1.un))]) [4, 0, 5, 1, 2, 3] rfl
          have hD := hD.sub (ws' := [(mo, .inr (13, MF 30 (rf (rs v Q2 (o + 1)) j1 b1))), (qx, .inl (cB, NN, .inl f)), (Q2.qq, .inl (cI, (8 * Q2.C), .inl Q2.qf)), (Q2.qe, .inl (cL, (3 * Q2.C), .inr (.inl Q2.ef))), (tv, .inr (12, MF 13 (tw V1))), (V1.au, .inl (cC, V1.U, .inl V1.un))]) [4, 0, 5, 1, 2, 3] (by decide) rfl
          have h_r7 : r7 = Q2.qf (8 * Qc.R + 0) := hw
          have hk_r7 : r7 = Q1.qf (8 * Qc.R + 0) := by rw [h_r7, hf_Q2.2.2]; exact pk_un (by omega)
          refine lv_iconst (v := 1) hx hb d_Mo_selectors_69 (by decide) ?_
          refine lv_icmp_eq (tgt := 91) hx hb d_Mo_selectors_70 (by decide) (fun c70 => ?_) (fun c70 => ?_)
          · have hfl1 : fl1 = true := hv_4.mpr (Or.inl (hk_r7.symm.trans c70))
            exact jn91 (Q2, fl) _ _ _ ⟨hSL2, by rw [hb2]; exact b_on fl hfl1, hQk_Q2, hG_Q2V1, by show Q2.R = Q1.R; omega⟩ hP hD hS (lv_sub hl [1, 2, 3, 4, 0] rfl)
          · refine lv_aload_n hx hb d_Mo_selectors_73 rfl (lv_at hl 1 rfl) ?_
            refine lv_iload hx hb d_Mo_selectors_74 (lv_at hl 0 rfl) ?_
            refine lv_iconst (v := 0) hx hb d_Mo_selectors_76 (by decide) ?_
            refine W.eq (g2 := F0 m 77 ls [.int (nI 0), .int (nI Qc.R), .ref mo]) rfl ?_
            have hPc := hP.sub (ws' := [(mo, .inr (13, MF 30 (rf (rs v Q2 (o + 1)) j1 b1))), (Q2.qq, .inl (cI, (8 * Q2.C), .inl Q2.qf))]) [0, 2] rfl
            have hDc := hD.sub (ws' := [(mo, .inr (13, MF 30 (rf (rs v Q2 (o + 1)) j1 b1))), (Q2.qq, .inl (cI, (8 * Q2.C), .inl Q2.qf))]) [0, 2] (by decide) rfl
            have hKc := hK.sub (tys' := [(cI, .int)]) [1] rfl
            have hFc := va_free (wc := [(mo, .inr (13, MF 30 (rf (rs v Q2 (o + 1)) j1 b1))), (Q2.qq, .inl (cI, (8 * Q2.C), .inl Q2.qf))]) hD hS hA [0, 2] rfl
            refine va_calli (va_runV (As := [.int (nI Qc.R), .int (nI 0)]) (rest := []) ⟨hx, hb, hml, hown, hts⟩ (c_Mo_field l dC dI mo H (rf (rs v Q2 (o + 1)) j1 b1) cI Q2.qq (8 * Q2.C) Q2.qf Qc.R 0 (by omega) (by omega) ((rf_ne (by decide) (by decide)).trans rs_19)) (cwV 2 hts (gt_V (own := R_Mo) (C := R_Mo) (i := 286) (y := y_Mo_field) i_Mo_field w_1431 w_1433 (gt_sel (y := y_Mo_field) (n := 30) (by decide +kernel)) w_7) rfl rfl rfl (by decide +kernel) ⟨Nat.le_trans (m := 8) (Nat.le_of_ble_eq_true rfl) (Nat.le_add_right 8 F), Nat.le_trans (m := 240) (Nat.le_of_ble_eq_true rfl) (Nat.le_add_right 240 L)⟩) ⟨mp_blind, va_recv hKc hPc (ci := 13) (q0 := 0) rfl rfl, fun U hU hW => ⟨rfl, hU, by rw [hU]; exact hPc, va_K.moved hW.alike hKc, hDc.weaken (fun _ _ _ _ => trivial)⟩⟩ rfl rfl hl.1 rfl (lv_room (Nat.le_of_ble_eq_true rfl)) d_Mo_selectors_77 ⟨hfit_Q2V1.1, hfit_Q2V1.2⟩) hS (fun q _ h => hFc q h) hFc (fun r9 _u t9 H1 locs ht hvm hw hB hz1 hk1 hS => ?_)
            obtain ⟨hP1, hK1, hD1⟩ := hB
            rw [ht] at hP1
            obtain ⟨hP, hD⟩ := va_join (wr := [(qx, .inl (cB, NN, .inl f)), (Q2.qe, .inl (cL, (3 * Q2.C), .inr (.inl Q2.ef))), (tv, .inr (12, MF 13 (tw V1))), (V1.au, .inl (cC, V1.U, .inl V1.un))]) (w1 := [(mo, .inr (13, MF 30 (rf (rs v Q2 (o + 1)) j1 b1))), (Q2.qq, .inl (cI, (8 * Q2.C), .inl Q2.qf))]) hP hD [0, 2] [1, 3, 4, 5] rfl rfl (by decide) (by decide) hk1 hFc hP1 hD1
            generalize H1 = H at hP hS ⊢
            have hP : va_P (dC, dI) classes [(qx, .inl (cB, NN, .inl f)), (Q2.qe, .inl (cL, (3 * Q2.C), .inr (.inl Q2.ef))), (tv, .inr (12, MF 13 (tw V1))), (V1.au, .inl (cC, V1.U, .inl V1.un)), (mo, .inr (13, MF 30 (rf (rs v Q2 (o + 1)) j1 b1))), (Q2.qq, .inl (cI, (8 * Q2.C), .inl Q2.qf))] H := hP
            have hD : va_D A [(qx, .inl (cB, NN, .inl f)), (Q2.qe, .inl (cL, (3 * Q2.C), .inr (.inl Q2.ef))), (tv, .inr (12, MF 13 (tw V1))), (V1.au, .inl (cC, V1.U, .inl V1.un)), (mo, .inr (13, MF 30 (rf (rs v Q2 (o + 1)) j1 b1))), (Q2.qq, .inl (cI, (8 * Q2.C), .inl Q2.qf))] := hD
            have hP := hP.sub (ws' := [(mo, .inr (13, MF 30 (rf (rs v Q2 (o + 1)) j1 b1))), (qx, .inl (cB, NN, .inl f)), (Q2.qq, .inl (cI, (8 * Q2.C), .inl Q2.qf)), (Q2.qe, .inl (cL, (3 * Q2.C), .inr (.inl Q2.ef))), (tv, .inr (12, MF 13 (tw V1))), (V1.au, .inl (cC, V1.U, .inl V1.un))]) [4, 0, 5, 1, 2, 3] rfl
            have hD := hD.sub (ws' := [(mo, .inr (13, MF 30 (rf (rs v Q2 (o + 1)) j1 b1))), (qx, .inl (cB, NN, .inl f)), (Q2.qq, .inl (cI, (8 * Q2.C), .inl Q2.qf)), (Q2.qe, .inl (cL, (3 * Q2.C), .inr (.inl Q2.ef))), (tv, .inr (12, MF 13 (tw V1))), (V1.au, .inl (cC, V1.U, .inl V1.un))]) [4, 0, 5, 1, 2, 3] (by decide) rfl
            have h_r9 : r9 = Q2.qf (8 * Qc.R + 0) := hw
            have hk_r9 : r9 = Q1.qf (8 * Qc.R + 0) := by rw [h_r9, hf_Q2.2.2]; exact pk_un (by omega)
            refine lv_iconst (v := 3) hx hb d_Mo_selectors_80 (by decide) ?_
            refine lv_icmp_eq (tgt := 91) hx hb d_Mo_selectors_81 (by decide) (fun c81 => ?_) (fun c81 => ?_)
            · have hfl1 : fl1 = true := hv_4.mpr (Or.inr (hk_r9.symm.trans c81))
              exact jn91 (Q2, fl) _ _ _ ⟨hSL2, by rw [hb2]; exact b_on fl hfl1, hQk_Q2, hG_Q2V1, by show Q2.R = Q1.R; omega⟩ hP hD hS (lv_sub hl [1, 2, 3, 4, 0] rfl)
            · refine lv_aload_n hx hb d_Mo_selectors_84 rfl (lv_at hl 1 rfl) ?_
              refine lv_iload_n hx hb d_Mo_selectors_85 rfl (lv_at hl 2 rfl) ?_
              refine lv_iconst (v := 3) hx hb d_Mo_selectors_86 (by decide) ?_
              refine lv_iconst (v := 0) hx hb d_Mo_selectors_87 (by decide) ?_
              refine W.eq (g2 := F0 m 88 ls [.int 0, .int (nI 3), .int (nI y), .ref mo]) rfl ?_
              have hPc := hP.sub (ws' := [(mo, .inr (13, MF 30 (rf (rs v Q2 (o + 1)) j1 b1))), (Q2.qq, .inl (cI, (8 * Q2.C), .inl Q2.qf))]) [0, 2] rfl
              have hDc := hD.sub (ws' := [(mo, .inr (13, MF 30 (rf (rs v Q2 (o + 1)) j1 b1))), (Q2.qq, .inl (cI, (8 * Q2.C), .inl Q2.qf))]) [0, 2] (by decide) rfl
              have hKc := hK.sub (tys' := [(cI, .int)]) [1] rfl
              have hFc := va_free (wc := [(mo, .inr (13, MF 30 (rf (rs v Q2 (o + 1)) j1 b1))), (Q2.qq, .inl (cI, (8 * Q2.C), .inl Q2.qf))]) hD hS hA [0, 2] rfl
              refine va_callv (va_runV (As := [.int (nI y), .int (nI 3), .int 0]) (rest := []) ⟨hx, hb, hml, hown, hts⟩ (c_Mo_set l dC dI mo H (rf (rs v Q2 (o + 1)) j1 b1) cI Q2.qq (8 * Q2.C) Q2.qf y 3 0 (by omega) (by omega) ((rf_ne (by decide) (by decide)).trans rs_19)) (cwV 3 hts (gt_V (own := R_Mo) (C := R_Mo) (i := 272) (y := y_Mo_set) i_Mo_set w_1411 w_1413 (gt_sel (y := y_Mo_set) (n := 30) (by decide +kernel)) w_7) rfl rfl rfl (by decide +kernel) ⟨Nat.le_trans (m := 8) (Nat.le_of_ble_eq_true rfl) (Nat.le_add_right 8 F), Nat.le_trans (m := 240) (Nat.le_of_ble_eq_true rfl) (Nat.le_add_right 240 L)⟩) ⟨mp_blind, va_recv hKc hPc (ci := 13) (q0 := 0) rfl rfl, fun U hU hW => ⟨rfl, hU, by rw [hU]; exact hPc, va_K.moved hW.alike hKc, hDc.weaken (fun _ _ _ _ => trivial)⟩⟩ rfl rfl hl.1 rfl (lv_room (Nat.le_of_ble_eq_true rfl)) d_Mo_selectors_88 ⟨hfit_Q2V1.1, hfit_Q2V1.2⟩) hS (fun q _ h => hFc q h) hFc (fun _u t9 H1 locs ht hvm hw hB hz1 hk1 hS => ?_)
              obtain ⟨hP1, hK1, hD1⟩ := hB
              rw [ht] at hP1
              obtain ⟨hP, hD⟩ := va_join (wr := [(qx, .inl (cB, NN, .inl f)), (Q2.qe, .inl (cL, (3 * Q2.C), .inr (.inl Q2.ef))), (tv, .inr (12, MF 13 (tw V1))), (V1.au, .inl (cC, V1.U, .inl V1.un))]) (w1 := [(mo, .inr (13, MF 30 (rf (rs v Q2 (o + 1)) j1 b1))), (Q2.qq, .inl (cI, (8 * Q2.C), .inl (upd Q2.qf (8 * y + 3) 0)))]) hP hD [0, 2] [1, 3, 4, 5] rfl rfl (by decide) (by decide) hk1 hFc hP1 hD1
              generalize H1 = H at hP hS ⊢
              have hP : va_P (dC, dI) classes [(qx, .inl (cB, NN, .inl f)), (Q2.qe, .inl (cL, (3 * Q2.C), .inr (.inl Q2.ef))), (tv, .inr (12, MF 13 (tw V1))), (V1.au, .inl (cC, V1.U, .inl V1.un)), (mo, .inr (13, MF 30 (rf (rs v Q2 (o + 1)) j1 b1))), (Q2.qq, .inl (cI, (8 * Q2.C), .inl (upd Q2.qf (8 * y + 3) 0)))] H := hP
              have hD : va_D A [(qx, .inl (cB, NN, .inl f)), (Q2.qe, .inl (cL, (3 * Q2.C), .inr (.inl Q2.ef))), (tv, .inr (12, MF 13 (tw V1))), (V1.au, .inl (cC, V1.U, .inl V1.un)), (mo, .inr (13, MF 30 (rf (rs v Q2 (o + 1)) j1 b1))), (Q2.qq, .inl (cI, (8 * Q2.C), .inl (upd Q2.qf (8 * y + 3) 0)))] := hD
              have hP := hP.sub (ws' := [(mo, .inr (13, MF 30 (rf (rs v Q2 (o + 1)) j1 b1))), (qx, .inl (cB, NN, .inl f)), (Q2.qq, .inl (cI, (8 * Q2.C), .inl (upd Q2.qf (8 * y + 3) 0))), (Q2.qe, .inl (cL, (3 * Q2.C), .inr (.inl Q2.ef))), (tv, .inr (12, MF 13 (tw V1))), (V1.au, .inl (cC, V1.U, .inl V1.un))]) [4, 0, 5, 1, 2, 3] rfl
              have hD := hD.sub (ws' := [(mo, .inr (13, MF 30 (rf (rs v Q2 (o + 1)) j1 b1))), (qx, .inl (cB, NN, .inl f)), (Q2.qq, .inl (cI, (8 * Q2.C), .inl (upd Q2.qf (8 * y + 3) 0))), (Q2.qe, .inl (cL, (3 * Q2.C), .inr (.inl Q2.ef))), (tv, .inr (12, MF 13 (tw V1))), (V1.au, .inl (cC, V1.U, .inl V1.un))]) [4, 0, 5, 1, 2, 3] (by decide) rfl
              obtain ⟨Q3, e_Q3⟩ : ∃ z : QS, z = QS.wf Q2 (upd Q2.qf (8 * y + 3) 0) := ⟨_, rfl⟩
              have hP : va_P (dC, dI) classes [(mo, .inr (13, MF 30 (rf (rs v Q3 (o + 1)) j1 b1))), (qx, .inl (cB, NN, .inl f)), (Q3.qq, .inl (cI, (8 * Q3.C), .inl Q3.qf)), (Q3.qe, .inl (cL, (3 * Q3.C), .inr (.inl Q3.ef))), (tv, .inr (12, MF 13 (tw V1))), (V1.au, .inl (cC, V1.U, .inl V1.un))] H := by subst e_Q3; exact hP
              have hD : va_D A [(mo, .inr (13, MF 30 (rf (rs v Q3 (o + 1)) j1 b1))), (qx, .inl (cB, NN, .inl f)), (Q3.qq, .inl (cI, (8 * Q3.C), .inl Q3.qf)), (Q3.qe, .inl (cL, (3 * Q3.C), .inr (.inl Q3.ef))), (tv, .inr (12, MF 13 (tw V1))), (V1.au, .inl (cC, V1.U, .inl V1.un))] := by subst e_Q3; exact hD
              have hf_Q3 : Q3.C = Q2.C ∧ Q3.R = Q2.R ∧ Q3.qf = upd Q2.qf (8 * y + 3) 0 := by rw [e_Q3]; exact ⟨rfl, rfl, rfl⟩
              have he_Q3 : Q3.ef = Q2.ef := by rw [e_Q3]; rfl
              have hQk_Q3 : QOK Q3 := by rw [e_Q3]; exact hQk_Q2
              have hG_Q3V1 : GQ (Q.R + 8 * (n - i) + 7) (V.us + (n + 12 - i)) Q V Q3 V1 := by unfold GQ at hG_Q2V1 ⊢; rw [hf_Q3.1]; exact hG_Q2V1
              refine w_same (fun hq => ?_)
              refine w_tight (k := cQ Q V Q3 V1) (n := sQ Q V Q3 V1) (by unfold cQ sQ at hq ⊢; rw [hf_Q3.1]; exact hq) ?_
              have hR_Q3 := hf_Q3.2.1
              have hqb_Q3V1 : Q3.R ≤ Q3.C ∧ Q3.C ≤ 100000 := ⟨hQk_Q3.2.2.1, hQk_Q3.2.1⟩
              have hfit_Q3V1 := hG_Q3V1.fits
              have hSL3 : SLi O Q V Q.R s9 y Q3 V1 (nI Qc.R) false false (ac ++ [g1]) := hSL2.off hOf hs9 hy hf_Q3.2.2 he_Q3 hR_Q3
              have hfl1 : fl1 = false := Bool.eq_false_iff.mpr (fun h => (hv_4.mp h).elim (fun q => c70 (hk_r7.trans q)) (fun q => c81 (hk_r9.trans q)))
              exact jn91 (Q3, false) _ _ _ ⟨hSL3, by rw [hb2]; exact b_off fl hfl1, hQk_Q3, hG_Q3V1, by show Q3.R = Q1.R; omega⟩ hP hD hS (lv_sub hl [1, 2, 3, 4, 0] rfl)
        · rw [hb1] at hl hSL
          have hl : lv_has ls 6 [(5, .int (nI Qc.R)), (0, .ref mo), (1, .int (nI y)), (2, .int (nI s9)), (3, .int 1), (4, .int (nI a9))] := hl
          refine lv_iload hx hb d_Mo_selectors_32 (lv_at hl 5 rfl) ?_
          refine lv_if_ge (tgt := 48) hx hb d_Mo_selectors_34 (by decide) (fun _ => ?_) (fun h => absurd (nI_pos' (by omega)) h)
          refine lv_aload_n hx hb d_Mo_selectors_48 rfl (lv_at hl 1 rfl) ?_
          refine lv_iload hx hb d_Mo_selectors_49 (lv_at hl 5 rfl) ?_
          refine lv_iconst (v := 1) hx hb d_Mo_selectors_51 (by decide) ?_
          refine lv_iload hx hb d_Mo_selectors_52 (lv_at hl 0 rfl) ?_
          refine W.eq (g2 := F0 m 54 ls [.int (nI Qc.R), .int (nI 1), .int (nI a9), .ref mo]) rfl ?_
          have hPc := hP.sub (ws' := [(mo, .inr (13, MF 30 (rf (rs v Q1 (o + 1)) j1 b1))), (Q1.qq, .inl (cI, (8 * Q1.C), .inl Q1.qf))]) [0, 2] rfl
          have hDc := hD.sub (ws' := [(mo, .inr (13, MF 30 (rf (rs v Q1 (o + 1)) j1 b1))), (Q1.qq, .inl (cI, (8 * Q1.C), .inl Q1.qf))]) [0, 2] (by decide) rfl
          have hKc := hK.sub (tys' := [(cI, .int)]) [1] rfl
          have hFc := va_free (wc := [(mo, .inr (13, MF 30 (rf (rs v Q1 (o + 1)) j1 b1))), (Q1.qq, .inl (cI, (8 * Q1.C), .inl Q1.qf))]) hD hS hA [0, 2] rfl
          refine va_callv (va_runV (As := [.int (nI a9), .int (nI 1), .int (nI Qc.R)]) (rest := []) ⟨hx, hb, hml, hown, hts⟩ (c_Mo_set l dC dI mo H (rf (rs v Q1 (o + 1)) j1 b1) cI Q1.qq (8 * Q1.C) Q1.qf a9 1 ((nI Qc.R)) (by omega) (by omega) ((rf_ne (by decide) (by decide)).trans rs_19)) (cwV 3 hts (gt_V (own := R_Mo) (C := R_Mo) (i := 272) (y := y_Mo_set) i_Mo_set w_1411 w_1413 (gt_sel (y := y_Mo_set) (n := 30) (by decide +kernel)) w_7) rfl rfl rfl (by decide +kernel) ⟨Nat.le_trans (m := 8) (Nat.le_of_ble_eq_true rfl) (Nat.le_add_right 8 F), Nat.le_trans (m := 240) (Nat.le_of_ble_eq_true rfl) (Nat.le_add_right 240 L)⟩) ⟨mp_blind, va_recv hKc hPc (ci := 13) (q0 := 0) rfl rfl, fun U hU hW => ⟨rfl, hU, by rw [hU]; exact hPc, va_K.moved hW.alike hKc, hDc.weaken (fun _ _ _ _ => trivial)⟩⟩ rfl rfl hl.1 rfl (lv_room (Nat.le_of_ble_eq_true rfl)) d_Mo_selectors_54 ⟨hfit_Q1V1.1, hfit_Q1V1.2⟩) hS (fun q _ h => hFc q h) hFc (fun _u t9 H1 locs ht hvm hw hB hz1 hk1 hS => ?_)
          obtain ⟨hP1, hK1, hD1⟩ := hB
          rw [ht] at hP1
          obtain ⟨hP, hD⟩ := va_join (wr := [(qx, .inl (cB, NN, .inl f)), (Q1.qe, .inl (cL, (3 * Q1.C), .inr (.inl Q1.ef))), (tv, .inr (12, MF 13 (tw V1))), (V1.au, .inl (cC, V1.U, .inl V1.un))]) (w1 := [(mo, .inr (13, MF 30 (rf (rs v Q1 (o + 1)) j1 b1))), (Q1.qq, .inl (cI, (8 * Q1.C), .inl (upd Q1.qf (8 * a9 + 1) ((nI Qc.R)))))]) hP hD [0, 2] [1, 3, 4, 5] rfl rfl (by decide) (by decide) hk1 hFc hP1 hD1
          generalize H1 = H at hP hS ⊢
          have hP : va_P (dC, dI) classes [(qx, .inl (cB, NN, .inl f)), (Q1.qe, .inl (cL, (3 * Q1.C), .inr (.inl Q1.ef))), (tv, .inr (12, MF 13 (tw V1))), (V1.au, .inl (cC, V1.U, .inl V1.un)), (mo, .inr (13, MF 30 (rf (rs v Q1 (o + 1)) j1 b1))), (Q1.qq, .inl (cI, (8 * Q1.C), .inl (upd Q1.qf (8 * a9 + 1) ((nI Qc.R)))))] H := hP
          have hD : va_D A [(qx, .inl (cB, NN, .inl f)), (Q1.qe, .inl (cL, (3 * Q1.C), .inr (.inl Q1.ef))), (tv, .inr (12, MF 13 (tw V1))), (V1.au, .inl (cC, V1.U, .inl V1.un)), (mo, .inr (13, MF 30 (rf (rs v Q1 (o + 1)) j1 b1))), (Q1.qq, .inl (cI, (8 * Q1.C), .inl (upd Q1.qf (8 * a9 + 1) ((nI Qc.R)))))] := hD
          have hP := hP.sub (ws' := [(mo, .inr (13, MF 30 (rf (rs v Q1 (o + 1)) j1 b1))), (qx, .inl (cB, NN, .inl f)), (Q1.qq, .inl (cI, (8 * Q1.C), .inl (upd Q1.qf (8 * a9 + 1) ((nI Qc.R))))), (Q1.qe, .inl (cL, (3 * Q1.C), .inr (.inl Q1.ef))), (tv, .inr (12, MF 13 (tw V1))), (V1.au, .inl (cC, V1.U, .inl V1.un))]) [4, 0, 5, 1, 2, 3] rfl
          have hD := hD.sub (ws' := [(mo, .inr (13, MF 30 (rf (rs v Q1 (o + 1)) j1 b1))), (qx, .inl (cB, NN, .inl f)), (Q1.qq, .inl (cI, (8 * Q1.C), .inl (upd Q1.qf (8 * a9 + 1) ((nI Qc.R))))), (Q1.qe, .inl (cL, (3 * Q1.C), .inr (.inl Q1.ef))), (tv, .inr (12, MF 13 (tw V1))), (V1.au, .inl (cC, V1.U, .inl V1.un))]) [4, 0, 5, 1, 2, 3] (by decide) rfl
          obtain ⟨Q2, e_Q2⟩ : ∃ z : QS, z = QS.wf Q1 (upd Q1.qf (8 * a9 + 1) ((nI Qc.R))) := ⟨_, rfl⟩
          have hP : va_P (dC, dI) classes [(mo, .inr (13, MF 30 (rf (rs v Q2 (o + 1)) j1 b1))), (qx, .inl (cB, NN, .inl f)), (Q2.qq, .inl (cI, (8 * Q2.C), .inl Q2.qf)), (Q2.qe, .inl (cL, (3 * Q2.C), .inr (.inl Q2.ef))), (tv, .inr (12, MF 13 (tw V1))), (V1.au, .inl (cC, V1.U, .inl V1.un))] H := by subst e_Q2; exact hP
          have hD : va_D A [(mo, .inr (13, MF 30 (rf (rs v Q2 (o + 1)) j1 b1))), (qx, .inl (cB, NN, .inl f)), (Q2.qq, .inl (cI, (8 * Q2.C), .inl Q2.qf)), (Q2.qe, .inl (cL, (3 * Q2.C), .inr (.inl Q2.ef))), (tv, .inr (12, MF 13 (tw V1))), (V1.au, .inl (cC, V1.U, .inl V1.un))] := by subst e_Q2; exact hD
          have hf_Q2 : Q2.C = Q1.C ∧ Q2.R = Q1.R ∧ Q2.qf = upd Q1.qf (8 * a9 + 1) ((nI Qc.R)) := by rw [e_Q2]; exact ⟨rfl, rfl, rfl⟩
          have he_Q2 : Q2.ef = Q1.ef := by rw [e_Q2]; rfl
          have hQk_Q2 : QOK Q2 := by rw [e_Q2]; exact hQk_Q1
          have hG_Q2V1 : GQ (Q.R + 8 * (n - i) + 7) (V.us + (n + 12 - i)) Q V Q2 V1 := by unfold GQ at hG_Q1V1 ⊢; rw [hf_Q2.1]; exact hG_Q1V1
          refine w_same (fun hq => ?_)
          refine w_tight (k := cQ Q V Q2 V1) (n := sQ Q V Q2 V1) (by unfold cQ sQ at hq ⊢; rw [hf_Q2.1]; exact hq) ?_
          have hR_Q2 := hf_Q2.2.1
          have hqb_Q2V1 : Q2.R ≤ Q2.C ∧ Q2.C ≤ 100000 := ⟨hQk_Q2.2.2.1, hQk_Q2.2.1⟩
          have hfit_Q2V1 := hG_Q2V1.fits
          have hSL2 : SLi O Q V Q.R s9 y Q2 V1 (nI Qc.R) false fl (ac ++ [g1]) := hSL.add hOf hb2 hb3 (by omega) hs9 hy hv_6 hv_3 hv_5 hf_Q2.2.2 he_Q2 hR_Q2
          refine lv_iload hx hb d_Mo_selectors_57 (lv_at hl 5 rfl) ?_
          refine lv_if_ge (tgt := 84) hx hb d_Mo_selectors_59 (by decide) (fun _ => ?_) (fun h => absurd (nI_pos' (by omega)) h)
          refine lv_aload_n hx hb d_Mo_selectors_84 rfl (lv_at hl 1 rfl) ?_
          refine lv_iload_n hx hb d_Mo_selectors_85 rfl (lv_at hl 2 rfl) ?_
          refine lv_iconst (v := 3) hx hb d_Mo_selectors_86 (by decide) ?_
          refine lv_iconst (v := 0) hx hb d_Mo_selectors_87 (by decide) ?_
          refine W.eq (g2 := F0 m 88 ls [.int 0, .int (nI 3), .int (nI y), .ref mo]) rfl ?_
          have hPc := hP.sub (ws' := [(mo, .inr (13, MF 30 (rf (rs v Q2 (o + 1)) j1 b1))), (Q2.qq, .inl (cI, (8 * Q2.C), .inl Q2.qf))]) [0, 2] rfl
          have hDc := hD.sub (ws' := [(mo, .inr (13, MF 30 (rf (rs v Q2 (o + 1)) j1 b1))), (Q2.qq, .inl (cI, (8 * Q2.C), .inl Q2.qf))]) [0, 2] (by decide) rfl
          have hKc := hK.sub (tys' := [(cI, .int)]) [1] rfl
          have hFc := va_free (wc := [(mo, .inr (13, MF 30 (rf (rs v Q2 (o + 1)) j1 b1))), (Q2.qq, .inl (cI, (8 * Q2.C), .inl Q2.qf))]) hD hS hA [0, 2] rfl
          refine va_callv (va_runV (As := [.int (nI y), .int (nI 3), .int 0]) (rest := []) ⟨hx, hb, hml, hown, hts⟩ (c_Mo_set l dC dI mo H (rf (rs v Q2 (o + 1)) j1 b1) cI Q2.qq (8 * Q2.C) Q2.qf y 3 0 (by omega) (by omega) ((rf_ne (by decide) (by decide)).trans rs_19)) (cwV 3 hts (gt_V (own := R_Mo) (C := R_Mo) (i := 272) (y := y_Mo_set) i_Mo_set w_1411 w_1413 (gt_sel (y := y_Mo_set) (n := 30) (by decide +kernel)) w_7) rfl rfl rfl (by decide +kernel) ⟨Nat.le_trans (m := 8) (Nat.le_of_ble_eq_true rfl) (Nat.le_add_right 8 F), Nat.le_trans (m := 240) (Nat.le_of_ble_eq_true rfl) (Nat.le_add_right 240 L)⟩) ⟨mp_blind, va_recv hKc hPc (ci := 13) (q0 := 0) rfl rfl, fun U hU hW => ⟨rfl, hU, by rw [hU]; exact hPc, va_K.moved hW.alike hKc, hDc.weaken (fun _ _ _ _ => trivial)⟩⟩ rfl rfl hl.1 rfl (lv_room (Nat.le_of_ble_eq_true rfl)) d_Mo_selectors_88 ⟨hfit_Q2V1.1, hfit_Q2V1.2⟩) hS (fun q _ h => hFc q h) hFc (fun _u t9 H1 locs ht hvm hw hB hz1 hk1 hS => ?_)
          obtain ⟨hP1, hK1, hD1⟩ := hB
          rw [ht] at hP1
          obtain ⟨hP, hD⟩ := va_join (wr := [(qx, .inl (cB, NN, .inl f)), (Q2.qe, .inl (cL, (3 * Q2.C), .inr (.inl Q2.ef))), (tv, .inr (12, MF 13 (tw V1))), (V1.au, .inl (cC, V1.U, .inl V1.un))]) (w1 := [(mo, .inr (13, MF 30 (rf (rs v Q2 (o + 1)) j1 b1))), (Q2.qq, .inl (cI, (8 * Q2.C), .inl (upd Q2.qf (8 * y + 3) 0)))]) hP hD [0, 2] [1, 3, 4, 5] rfl rfl (by decide) (by decide) hk1 hFc hP1 hD1
          generalize H1 = H at hP hS ⊢
          have hP : va_P (dC, dI) classes [(qx, .inl (cB, NN, .inl f)), (Q2.qe, .inl (cL, (3 * Q2.C), .inr (.inl Q2.ef))), (tv, .inr (12, MF 13 (tw V1))), (V1.au, .inl (cC, V1.U, .inl V1.un)), (mo, .inr (13, MF 30 (rf (rs v Q2 (o + 1)) j1 b1))), (Q2.qq, .inl (cI, (8 * Q2.C), .inl (upd Q2.qf (8 * y + 3) 0)))] H := hP
          have hD : va_D A [(qx, .inl (cB, NN, .inl f)), (Q2.qe, .inl (cL, (3 * Q2.C), .inr (.inl Q2.ef))), (tv, .inr (12, MF 13 (tw V1))), (V1.au, .inl (cC, V1.U, .inl V1.un)), (mo, .inr (13, MF 30 (rf (rs v Q2 (o + 1)) j1 b1))), (Q2.qq, .inl (cI, (8 * Q2.C), .inl (upd Q2.qf (8 * y + 3) 0)))] := hD
          have hP := hP.sub (ws' := [(mo, .inr (13, MF 30 (rf (rs v Q2 (o + 1)) j1 b1))), (qx, .inl (cB, NN, .inl f)), (Q2.qq, .inl (cI, (8 * Q2.C), .inl (upd Q2.qf (8 * y + 3) 0))), (Q2.qe, .inl (cL, (3 * Q2.C), .inr (.inl Q2.ef))), (tv, .inr (12, MF 13 (tw V1))), (V1.au, .inl (cC, V1.U, .inl V1.un))]) [4, 0, 5, 1, 2, 3] rfl
          have hD := hD.sub (ws' := [(mo, .inr (13, MF 30 (rf (rs v Q2 (o + 1)) j1 b1))), (qx, .inl (cB, NN, .inl f)), (Q2.qq, .inl (cI, (8 * Q2.C), .inl (upd Q2.qf (8 * y + 3) 0))), (Q2.qe, .inl (cL, (3 * Q2.C), .inr (.inl Q2.ef))), (tv, .inr (12, MF 13 (tw V1))), (V1.au, .inl (cC, V1.U, .inl V1.un))]) [4, 0, 5, 1, 2, 3] (by decide) rfl
          obtain ⟨Q3, e_Q3⟩ : ∃ z : QS, z = QS.wf Q2 (upd Q2.qf (8 * y + 3) 0) := ⟨_, rfl⟩
          have hP : va_P (dC, dI) classes [(mo, .inr (13, MF 30 (rf (rs v Q3 (o + 1)) j1 b1))), (qx, .inl (cB, NN, .inl f)), (Q3.qq, .inl (cI, (8 * Q3.C), .inl Q3.qf)), (Q3.qe, .inl (cL, (3 * Q3.C), .inr (.inl Q3.ef))), (tv, .inr (12, MF 13 (tw V1))), (V1.au, .inl (cC, V1.U, .inl V1.un))] H := by subst e_Q3; exact hP
          have hD : va_D A [(mo, .inr (13, MF 30 (rf (rs v Q3 (o + 1)) j1 b1))), (qx, .inl (cB, NN, .inl f)), (Q3.qq, .inl (cI, (8 * Q3.C), .inl Q3.qf)), (Q3.qe, .inl (cL, (3 * Q3.C), .inr (.inl Q3.ef))), (tv, .inr (12, MF 13 (tw V1))), (V1.au, .inl (cC, V1.U, .inl V1.un))] := by subst e_Q3; exact hD
          have hf_Q3 : Q3.C = Q2.C ∧ Q3.R = Q2.R ∧ Q3.qf = upd Q2.qf (8 * y + 3) 0 := by rw [e_Q3]; exact ⟨rfl, rfl, rfl⟩
          have he_Q3 : Q3.ef = Q2.ef := by rw [e_Q3]; rfl
          have hQk_Q3 : QOK Q3 := by rw [e_Q3]; exact hQk_Q2
          have hG_Q3V1 : GQ (Q.R + 8 * (n - i) + 7) (V.us + (n + 12 - i)) Q V Q3 V1 := by unfold GQ at hG_Q2V1 ⊢; rw [hf_Q3.1]; exact hG_Q2V1
          refine w_same (fun hq => ?_)
          refine w_tight (k := cQ Q V Q3 V1) (n := sQ Q V Q3 V1) (by unfold cQ sQ at hq ⊢; rw [hf_Q3.1]; exact hq) ?_
          have hR_Q3 := hf_Q3.2.1
          have hqb_Q3V1 : Q3.R ≤ Q3.C ∧ Q3.C ≤ 100000 := ⟨hQk_Q3.2.2.1, hQk_Q3.2.1⟩
          have hfit_Q3V1 := hG_Q3V1.fits
          have hSL3 : SLi O Q V Q.R s9 y Q3 V1 (nI Qc.R) false false (ac ++ [g1]) := hSL2.off hOf hs9 hy hf_Q3.2.2 he_Q3 hR_Q3
          exact jn91 (Q3, false) _ _ _ ⟨hSL3, by rw [hb4]; exact b_of2 fl fl1, hQk_Q3, hG_Q3V1, by show Q3.R = Q1.R; omega⟩ hP hD hS (lv_sub hl [1, 2, 3, 4, 0] rfl)
      · rintro ⟨Qz, fl2⟩ H locs ls hI91 hP hD hS hl
        have hP : va_P (dC, dI) classes [(mo, .inr (13, MF 30 (rf (rs v Qz (o + 1)) j1 b1))), (qx, .inl (cB, NN, .inl f)), (Qz.qq, .inl (cI, (8 * Qz.C), .inl Qz.qf)), (Qz.qe, .inl (cL, (3 * Qz.C), .inr (.inl Qz.ef))), (tv, .inr (12, MF 13 (tw V1))), (V1.au, .inl (cC, V1.U, .inl V1.un))] H := hP
        have hD : va_D A [(mo, .inr (13, MF 30 (rf (rs v Qz (o + 1)) j1 b1))), (qx, .inl (cB, NN, .inl f)), (Qz.qq, .inl (cI, (8 * Qz.C), .inl Qz.qf)), (Qz.qe, .inl (cL, (3 * Qz.C), .inr (.inl Qz.ef))), (tv, .inr (12, MF 13 (tw V1))), (V1.au, .inl (cC, V1.U, .inl V1.un))] := hD
        have hl : lv_has ls 6 [(0, .ref mo), (1, .int (nI y)), (2, .int (nI s9)), (3, .int 1), (5, .int (nI Qc.R))] := hl
        obtain ⟨hSLz, hfl2, hQk_Qz, hG_QzV1, hR_Qz⟩ := hI91
        have hqb_QzV1 : Qz.R ≤ Qz.C ∧ Qz.C ≤ 100000 := ⟨hQk_Qz.2.2.1, hQk_Qz.2.1⟩
        have hfit_QzV1 := hG_QzV1.fits
        refine lv_iload hx hb d_Mo_selectors_91 (lv_at hl 4 rfl) ?_
        refine lv_istore (lv' := [(4, .int (nI Qc.R)), (0, .ref mo), (1, .int (nI y)), (2, .int (nI s9)), (3, .int 1), (5, .int (nI Qc.R))]) hx hb d_Mo_selectors_93 hl (by decide) rfl (fun ls hl => ?_)
        refine lv_aload_n hx hb d_Mo_selectors_95 rfl (lv_at hl 1 rfl) ?_
        have hPc := hP.sub (ws' := [(mo, .inr (13, MF 30 (rf (rs v Qz (o + 1)) j1 b1))), (qx, .inl (cB, NN, .inl f))]) [0, 1] rfl
        have hDc := hD.sub (ws' := [(mo, .inr (13, MF 30 (rf (rs v Qz (o + 1)) j1 b1))), (qx, .inl (cB, NN, .inl f))]) [0, 1] (by decide) rfl
        have hKc := hK.sub (tys' := [(cB, .byte)]) [0] rfl
        have hFc := va_free (wc := [(mo, .inr (13, MF 30 (rf (rs v Qz (o + 1)) j1 b1))), (qx, .inl (cB, NN, .inl f))]) hD hS hA [0, 1] rfl
        refine va_callv (va_runV (As := []) (rest := []) ⟨hx, hb, hml, hown, hts⟩ (c_Mo_blanks l dC dI mo H (rf (rs v Qz (o + 1)) j1 b1) cB qx NN f n j1 (by omega) (by omega) (by omega) ((rf_ne (by decide) (by decide)).trans ((rs_ne (by decide) (by decide) (by decide) (by decide)).trans h6)) rf_7 ((rf_ne (by decide) (by decide)).trans ((rs_ne (by decide) (by decide) (by decide) (by decide)).trans h8))) (cwV 0 hts (gt_V (own := R_Mo) (C := R_Mo) (i := 184) (y := y_Mo_blanks) i_Mo_blanks w_1229 w_1231 (gt_sel (y := y_Mo_blanks) (n := 30) (by decide +kernel)) w_7) rfl rfl rfl (by decide +kernel) ⟨Nat.le_trans (m := 8) (Nat.le_of_ble_eq_true rfl) (Nat.le_add_right 8 F), Nat.le_trans (m := 240) (Nat.le_of_ble_eq_true rfl) (Nat.le_add_right 240 L)⟩) ⟨mp_blind, va_recv hKc hPc (ci := 13) (q0 := 0) rfl rfl, fun U hU hW => ⟨rfl, hU, by rw [hU]; exact hPc, va_K.moved hW.alike hKc, hDc.weaken (fun _ _ _ _ => trivial)⟩⟩ rfl rfl hl.1 rfl (lv_room (Nat.le_of_ble_eq_true rfl)) d_Mo_selectors_96 ⟨hfit_QzV1.1, hfit_QzV1.2⟩) hS (fun q _ h => hFc q h) hFc (fun _u t9 H1 locs ht hvm hw hB hz1 hk1 hS => ?_)
        obtain ⟨hP1, hK1, hD1⟩ := hB
        rw [ht] at hP1
        obtain ⟨hP, hD⟩ := va_join (wr := [(Qz.qq, .inl (cI, (8 * Qz.C), .inl Qz.qf)), (Qz.qe, .inl (cL, (3 * Qz.C), .inr (.inl Qz.ef))), (tv, .inr (12, MF 13 (tw V1))), (V1.au, .inl (cC, V1.U, .inl V1.un))]) (w1 := [(mo, .inr (13, MF 30 (va_up (rf (rs v Qz (o + 1)) j1 b1) 7 (.int (nI (skipH f n j1)))))), (qx, .inl (cB, NN, .inl f))]) hP hD [0, 1] [2, 3, 4, 5] rfl rfl (by decide) (by decide) hk1 hFc hP1 hD1
        generalize H1 = H at hP hS ⊢
        have hP : va_P (dC, dI) classes [(Qz.qq, .inl (cI, (8 * Qz.C), .inl Qz.qf)), (Qz.qe, .inl (cL, (3 * Qz.C), .inr (.inl Qz.ef))), (tv, .inr (12, MF 13 (tw V1))), (V1.au, .inl (cC, V1.U, .inl V1.un)), (mo, .inr (13, MF 30 (va_up (rf (rs v Qz (o + 1)) j1 b1) 7 (.int (nI (skipH f n j1)))))), (qx, .inl (cB, NN, .inl f))] H := hP
        have hD : va_D A [(Qz.qq, .inl (cI, (8 * Qz.C), .inl Qz.qf)), (Qz.qe, .inl (cL, (3 * Qz.C), .inr (.inl Qz.ef))), (tv, .inr (12, MF 13 (tw V1))), (V1.au, .inl (cC, V1.U, .inl V1.un)), (mo, .inr (13, MF 30 (va_up (rf (rs v Qz (o + 1)) j1 b1) 7 (.int (nI (skipH f n j1)))))), (qx, .inl (cB, NN, .inl f))] := hD
        have hP := hP.sub (ws' := [(mo, .inr (13, MF 30 (va_up (rf (rs v Qz (o + 1)) j1 b1) 7 (.int (nI (skipH f n j1)))))), (qx, .inl (cB, NN, .inl f)), (Qz.qq, .inl (cI, (8 * Qz.C), .inl Qz.qf)), (Qz.qe, .inl (cL, (3 * Qz.C), .inr (.inl Qz.ef))), (tv, .inr (12, MF 13 (tw V1))), (V1.au, .inl (cC, V1.U, .inl V1.un))]) [4, 5, 0, 1, 2, 3] rfl
        have hD := hD.sub (ws' := [(mo, .inr (13, MF 30 (va_up (rf (rs v Qz (o + 1)) j1 b1) 7 (.int (nI (skipH f n j1)))))), (qx, .inl (cB, NN, .inl f)), (Qz.qq, .inl (cI, (8 * Qz.C), .inl Qz.qf)), (Qz.qe, .inl (cL, (3 * Qz.C), .inr (.inl Qz.ef))), (tv, .inr (12, MF 13 (tw V1))), (V1.au, .inl (cC, V1.U, .inl V1.un))]) [4, 5, 0, 1, 2, 3] (by decide) rfl
        rw [rf_u7] at hP hD
        have hP : va_P (dC, dI) classes [(mo, .inr (13, MF 30 (rf (rs v Qz (o + 1)) (skipH f n j1) b1))), (qx, .inl (cB, NN, .inl f)), (Qz.qq, .inl (cI, (8 * Qz.C), .inl Qz.qf)), (Qz.qe, .inl (cL, (3 * Qz.C), .inr (.inl Qz.ef))), (tv, .inr (12, MF 13 (tw V1))), (V1.au, .inl (cC, V1.U, .inl V1.un))] H := hP
        have hD : va_D A [(mo, .inr (13, MF 30 (rf (rs v Qz (o + 1)) (skipH f n j1) b1))), (qx, .inl (cB, NN, .inl f)), (Qz.qq, .inl (cI, (8 * Qz.C), .inl Qz.qf)), (Qz.qe, .inl (cL, (3 * Qz.C), .inr (.inl Qz.ef))), (tv, .inr (12, MF 13 (tw V1))), (V1.au, .inl (cC, V1.U, .inl V1.un))] := hD
        have hsk_99 := skipH_n (f := f) (show j1 ≤ n by omega)
        refine lv_aload_n hx hb d_Mo_selectors_99 rfl (lv_at hl 1 rfl) ?_
        have hPc := hP.sub (ws' := [(mo, .inr (13, MF 30 (rf (rs v Qz (o + 1)) (skipH f n j1) b1))), (qx, .inl (cB, NN, .inl f))]) [0, 1] rfl
        have hDc := hD.sub (ws' := [(mo, .inr (13, MF 30 (rf (rs v Qz (o + 1)) (skipH f n j1) b1))), (qx, .inl (cB, NN, .inl f))]) [0, 1] (by decide) rfl
        have hKc := hK.sub (tys' := [(cB, .byte)]) [0] rfl
        have hFc := va_free (wc := [(mo, .inr (13, MF 30 (rf (rs v Qz (o + 1)) (skipH f n j1) b1))), (qx, .inl (cB, NN, .inl f))]) hD hS hA [0, 1] rfl
        refine va_calli (va_runV (As := []) (rest := []) ⟨hx, hb, hml, hown, hts⟩ (c_Mo_c l dC dI mo H (rf (rs v Qz (o + 1)) (skipH f n j1) b1) cB qx NN f n (skipH f n j1) (by omega) (by omega) (by omega) ((rf_ne (by decide) (by decide)).trans ((rs_ne (by decide) (by decide) (by decide) (by decide)).trans h6)) rf_7 ((rf_ne (by decide) (by decide)).trans ((rs_ne (by decide) (by decide) (by decide) (by decide)).trans h8))) (cwV 0 hts (gt_V (own := R_Mo) (C := R_Mo) (i := 147) (y := y_Mo_c) i_Mo_c w_1233 w_1235 (gt_sel (y := y_Mo_c) (n := 30) (by decide +kernel)) w_7) rfl rfl rfl (by decide +kernel) ⟨Nat.le_trans (m := 8) (Nat.le_of_ble_eq_true rfl) (Nat.le_add_right 8 F), Nat.le_trans (m := 240) (Nat.le_of_ble_eq_true rfl) (Nat.le_add_right 240 L)⟩) ⟨mp_blind, va_recv hKc hPc (ci := 13) (q0 := 0) rfl rfl, fun U hU hW => ⟨rfl, hU, by rw [hU]; exact hPc, va_K.moved hW.alike hKc, hDc.weaken (fun _ _ _ _ => trivial)⟩⟩ rfl rfl hl.1 rfl (lv_room (Nat.le_of_ble_eq_true rfl)) d_Mo_selectors_100 ⟨hfit_QzV1.1, hfit_QzV1.2⟩) hS (fun q _ h => hFc q h) hFc (fun r6 _u t9 H1 locs ht hvm hw hB hz1 hk1 hS => ?_)
        obtain ⟨hP1, hK1, hD1⟩ := hB
        rw [ht] at hP1
        obtain ⟨hP, hD⟩ := va_join (wr := [(Qz.qq, .inl (cI, (8 * Qz.C), .inl Qz.qf)), (Qz.qe, .inl (cL, (3 * Qz.C), .inr (.inl Qz.ef))), (tv, .inr (12, MF 13 (tw V1))), (V1.au, .inl (cC, V1.U, .inl V1.un))]) (w1 := [(mo, .inr (13, MF 30 (rf (rs v Qz (o + 1)) (skipH f n j1) b1))), (qx, .inl (cB, NN, .inl f))]) hP hD [0, 1] [2, 3, 4, 5] rfl rfl (by decide) (by decide) hk1 hFc hP1 hD1
        generalize H1 = H at hP hS ⊢
        have hP : va_P (dC, dI) classes [(Qz.qq, .inl (cI, (8 * Qz.C), .inl Qz.qf)), (Qz.qe, .inl (cL, (3 * Qz.C), .inr (.inl Qz.ef))), (tv, .inr (12, MF 13 (tw V1))), (V1.au, .inl (cC, V1.U, .inl V1.un)), (mo, .inr (13, MF 30 (rf (rs v Qz (o + 1)) (skipH f n j1) b1))), (qx, .inl (cB, NN, .inl f))] H := hP
        have hD : va_D A [(Qz.qq, .inl (cI, (8 * Qz.C), .inl Qz.qf)), (Qz.qe, .inl (cL, (3 * Qz.C), .inr (.inl Qz.ef))), (tv, .inr (12, MF 13 (tw V1))), (V1.au, .inl (cC, V1.U, .inl V1.un)), (mo, .inr (13, MF 30 (rf (rs v Qz (o + 1)) (skipH f n j1) b1))), (qx, .inl (cB, NN, .inl f))] := hD
        have hP := hP.sub (ws' := [(mo, .inr (13, MF 30 (rf (rs v Qz (o + 1)) (skipH f n j1) b1))), (qx, .inl (cB, NN, .inl f)), (Qz.qq, .inl (cI, (8 * Qz.C), .inl Qz.qf)), (Qz.qe, .inl (cL, (3 * Qz.C), .inr (.inl Qz.ef))), (tv, .inr (12, MF 13 (tw V1))), (V1.au, .inl (cC, V1.U, .inl V1.un))]) [4, 5, 0, 1, 2, 3] rfl
        have hD := hD.sub (ws' := [(mo, .inr (13, MF 30 (rf (rs v Qz (o + 1)) (skipH f n j1) b1))), (qx, .inl (cB, NN, .inl f)), (Qz.qq, .inl (cI, (8 * Qz.C), .inl Qz.qf)), (Qz.qe, .inl (cL, (3 * Qz.C), .inr (.inl Qz.ef))), (tv, .inr (12, MF 13 (tw V1))), (V1.au, .inl (cC, V1.U, .inl V1.un))]) [4, 5, 0, 1, 2, 3] (by decide) rfl
        have h_r6 : r6 = hereV f n (skipH f n j1) := hw
        refine lv_bipush (v := 93) hx hb d_Mo_selectors_103 (by decide) ?_
        refine lv_icmp_ne (tgt := 115) hx hb d_Mo_selectors_105 (by decide) (fun c105 => ?_) (fun c105 => ?_)
        · refine lv_iload_n hx hb d_Mo_selectors_115 rfl (lv_at hl 4 rfl) ?_
          refine lv_if_ne (tgt := 128) hx hb d_Mo_selectors_116 (by decide) (fun _ => ?_) (fun h => absurd h (by decide))
          refine lv_aload_n hx hb d_Mo_selectors_128 rfl (lv_at hl 1 rfl) ?_
          refine lv_aload_n hx hb d_Mo_selectors_129 rfl (lv_at hl 1 rfl) ?_
          refine va_get (D := (dC, dI)) (ci := 13) (v := .int (nI (skipH f n j1))) (C := R_Mo) (T := F_Mo) (N := 30) hx hb hts in_Mo hown hK hP 0 rfl rfl 7 (by decide) (hts _ w_1096) (fun _ h9 => h9) (MFg (by decide) rf_7) d_Mo_selectors_130 ?_
          have hPc := hP.sub (ws' := [(mo, .inr (13, MF 30 (rf (rs v Qz (o + 1)) (skipH f n j1) b1)))]) [0] rfl
          have hDc := hD.sub (ws' := [(mo, .inr (13, MF 30 (rf (rs v Qz (o + 1)) (skipH f n j1) b1)))]) [0] (by decide) rfl
          have hKc := hK.sub (tys' := []) [] rfl
          have hFc := va_free (wc := [(mo, .inr (13, MF 30 (rf (rs v Qz (o + 1)) (skipH f n j1) b1)))]) hD hS hA [0] rfl
          refine va_calli (va_runV (As := [.int (nI (skipH f n j1))]) (rest := []) ⟨hx, hb, hml, hown, hts⟩ (c_Mo_fail l dC dI mo H (rf (rs v Qz (o + 1)) (skipH f n j1) b1) b1 ((nI (skipH f n j1))) rf_9) (cwV 1 hts (gt_V (own := R_Mo) (C := R_Mo) (i := 151) (y := y_Mo_fail) i_Mo_fail w_1250 w_1252 (gt_sel (y := y_Mo_fail) (n := 30) (by decide +kernel)) w_7) rfl rfl rfl (by decide +kernel) ⟨Nat.le_trans (m := 8) (Nat.le_of_ble_eq_true rfl) (Nat.le_add_right 8 F), Nat.le_trans (m := 240) (Nat.le_of_ble_eq_true rfl) (Nat.le_add_right 240 L)⟩) ⟨mp_blind, va_recv hKc hPc (ci := 13) (q0 := 0) rfl rfl, fun U hU hW => ⟨rfl, hU, by rw [hU]; exact hPc, va_K.moved hW.alike hKc, hDc.weaken (fun _ _ _ _ => trivial)⟩⟩ rfl rfl hl.1 rfl (lv_room (Nat.le_of_ble_eq_true rfl)) d_Mo_selectors_133 ⟨hfit_QzV1.1, hfit_QzV1.2⟩) hS (fun q _ h => hFc q h) hFc (fun r0 u2 t9 H1 locs ht hvm hw hB hz1 hk1 hS => ?_)
          obtain ⟨hP1, hK1, hD1⟩ := hB
          rw [ht] at hP1
          obtain ⟨hP, hD⟩ := va_join (wr := [(qx, .inl (cB, NN, .inl f)), (Qz.qq, .inl (cI, (8 * Qz.C), .inl Qz.qf)), (Qz.qe, .inl (cL, (3 * Qz.C), .inr (.inl Qz.ef))), (tv, .inr (12, MF 13 (tw V1))), (V1.au, .inl (cC, V1.U, .inl V1.un))]) (w1 := [(mo, .inr (13, MF 30 u2))]) hP hD [0] [1, 2, 3, 4, 5] rfl rfl (by decide) (by decide) hk1 hFc hP1 hD1
          generalize H1 = H at hP hS ⊢
          have hP : va_P (dC, dI) classes [(qx, .inl (cB, NN, .inl f)), (Qz.qq, .inl (cI, (8 * Qz.C), .inl Qz.qf)), (Qz.qe, .inl (cL, (3 * Qz.C), .inr (.inl Qz.ef))), (tv, .inr (12, MF 13 (tw V1))), (V1.au, .inl (cC, V1.U, .inl V1.un)), (mo, .inr (13, MF 30 u2))] H := hP
          have hD : va_D A [(qx, .inl (cB, NN, .inl f)), (Qz.qq, .inl (cI, (8 * Qz.C), .inl Qz.qf)), (Qz.qe, .inl (cL, (3 * Qz.C), .inr (.inl Qz.ef))), (tv, .inr (12, MF 13 (tw V1))), (V1.au, .inl (cC, V1.U, .inl V1.un)), (mo, .inr (13, MF 30 u2))] := hD
          have hP := hP.sub (ws' := [(mo, .inr (13, MF 30 u2)), (qx, .inl (cB, NN, .inl f)), (Qz.qq, .inl (cI, (8 * Qz.C), .inl Qz.qf)), (Qz.qe, .inl (cL, (3 * Qz.C), .inr (.inl Qz.ef))), (tv, .inr (12, MF 13 (tw V1))), (V1.au, .inl (cC, V1.U, .inl V1.un))]) [5, 0, 1, 2, 3, 4] rfl
          have hD := hD.sub (ws' := [(mo, .inr (13, MF 30 u2)), (qx, .inl (cB, NN, .inl f)), (Qz.qq, .inl (cI, (8 * Qz.C), .inl Qz.qf)), (Qz.qe, .inl (cL, (3 * Qz.C), .inr (.inl Qz.ef))), (tv, .inr (12, MF 13 (tw V1))), (V1.au, .inl (cC, V1.U, .inl V1.un))]) [5, 0, 1, 2, 3, 4] (by decide) rfl
          obtain ⟨b7, h_b7⟩ := rf_fail (v := (rs v Qz (o + 1))) (i := (skipH f n j1)) (br := b1) (b2 := b1) (wh := (nI (skipH f n j1)))
          have hw : r0 = 0 ∧ u2 = _ := hw
          obtain ⟨hw1, hw2⟩ := hw
          rw [h_b7] at hw2
          rw [hw2] at hP hD
          subst hw1
          have hP : va_P (dC, dI) classes [(mo, .inr (13, MF 30 (rf (rs v Qz (o + 1)) (skipH f n j1) b7))), (qx, .inl (cB, NN, .inl f)), (Qz.qq, .inl (cI, (8 * Qz.C), .inl Qz.qf)), (Qz.qe, .inl (cL, (3 * Qz.C), .inr (.inl Qz.ef))), (tv, .inr (12, MF 13 (tw V1))), (V1.au, .inl (cC, V1.U, .inl V1.un))] H := hP
          have hD : va_D A [(mo, .inr (13, MF 30 (rf (rs v Qz (o + 1)) (skipH f n j1) b7))), (qx, .inl (cB, NN, .inl f)), (Qz.qq, .inl (cI, (8 * Qz.C), .inl Qz.qf)), (Qz.qe, .inl (cL, (3 * Qz.C), .inr (.inl Qz.ef))), (tv, .inr (12, MF 13 (tw V1))), (V1.au, .inl (cC, V1.U, .inl V1.un))] := hD
          have hfin : slsP f n ok (orL f n) true i = none := by rw [hsl0, ← hI7, hm0]; exact slsL_b hv_2 (fun h => c105 (h_r6.trans h)) (Or.inl rfl)
          refine w_same (fun hq => ?_)
          refine W.widen (k := kcap Q (Q.R + 8 * (n - i) + 7) + qcap V (V.us + (n + 12 - i))) (n := 22 * kcap Q (Q.R + 8 * (n - i) + 7) + 2 * qcap V (V.us + (n + 12 - i))) hfit_QzV1.1 hfit_QzV1.2 ?_
          have hPo : QPo n i 7 Q V (Qz, V1, (skipH f n j1), b7, (o + 1)) := ⟨hQk_Qz, hG_QzV1, ⟨_, (hXc.trans hX_V1), by rw [List.length_append]; omega⟩, by show Q.R ≤ Qz.R; omega, by show Qz.R ≤ Q.R + 8 * (n - i) + 7; omega⟩
          exact W.zret (v := 0) hx hb hr rfl (fun t9 ht hW => ⟨⟨0, (Qz, V1, (skipH f n j1), b7, (o + 1)), rfl, ⟨hPo, Or.inr ⟨rfl, hfin⟩⟩, ⟨by rw [ht]; exact hP, va_K.moved hW.alike hK, hD⟩, by rw [ht]; exact hq⟩, hS.F ht⟩) hS.2.2 d_Mo_selectors_136
        · refine lv_aload_n hx hb d_Mo_selectors_108 rfl (lv_at hl 1 rfl) ?_
          refine lv_bipush (v := 93) hx hb d_Mo_selectors_109 (by decide) ?_
          have hPc := hP.sub (ws' := [(mo, .inr (13, MF 30 (rf (rs v Qz (o + 1)) (skipH f n j1) b1))), (qx, .inl (cB, NN, .inl f))]) [0, 1] rfl
          have hDc := hD.sub (ws' := [(mo, .inr (13, MF 30 (rf (rs v Qz (o + 1)) (skipH f n j1) b1))), (qx, .inl (cB, NN, .inl f))]) [0, 1] (by decide) rfl
          have hKc := hK.sub (tys' := [(cB, .byte)]) [0] rfl
          have hFc := va_free (wc := [(mo, .inr (13, MF 30 (rf (rs v Qz (o + 1)) (skipH f n j1) b1))), (qx, .inl (cB, NN, .inl f))]) hD hS hA [0, 1] rfl
          refine va_calli (va_runV (As := [.int 93]) (rest := []) ⟨hx, hb, hml, hown, hts⟩ (c_Mo_shut l dC dI mo H (rf (rs v Qz (o + 1)) (skipH f n j1) b1) cB qx NN f n (skipH f n j1) (by omega) (by omega) (by omega) ((rf_ne (by decide) (by decide)).trans ((rs_ne (by decide) (by decide) (by decide) (by decide)).trans h6)) rf_7 ((rf_ne (by decide) (by decide)).trans ((rs_ne (by decide) (by decide) (by decide) (by decide)).trans h8)) b1 rf_9 93 o ((rf_ne (by decide) (by decide)).trans rs_23)) (cwV 1 hts (gt_V (own := R_Mo) (C := R_Mo) (i := 297) (y := y_Mo_shut) i_Mo_shut w_1447 w_1449 (gt_sel (y := y_Mo_shut) (n := 30) (by decide +kernel)) w_7) rfl rfl rfl (by decide +kernel) ⟨Nat.le_trans (m := 8) (Nat.le_of_ble_eq_true rfl) (Nat.le_add_right 8 F), Nat.le_trans (m := 240) (Nat.le_of_ble_eq_true rfl) (Nat.le_add_right 240 L)⟩) ⟨mp_blind, va_recv hKc hPc (ci := 13) (q0 := 0) rfl rfl, fun U hU hW => ⟨rfl, hU, by rw [hU]; exact hPc, va_K.moved hW.alike hKc, hDc.weaken (fun _ _ _ _ => trivial)⟩⟩ rfl rfl hl.1 rfl (lv_room (Nat.le_of_ble_eq_true rfl)) d_Mo_selectors_111 ⟨hfit_QzV1.1, hfit_QzV1.2⟩) hS (fun q _ h => hFc q h) hFc (fun r0 u2 t9 H1 locs ht hvm hw hB hz1 hk1 hS => ?_)
          obtain ⟨hP1, hK1, hD1⟩ := hB
          rw [ht] at hP1
          obtain ⟨hP, hD⟩ := va_join (wr := [(Qz.qq, .inl (cI, (8 * Qz.C), .inl Qz.qf)), (Qz.qe, .inl (cL, (3 * Qz.C), .inr (.inl Qz.ef))), (tv, .inr (12, MF 13 (tw V1))), (V1.au, .inl (cC, V1.U, .inl V1.un))]) (w1 := [(mo, .inr (13, MF 30 u2)), (qx, .inl (cB, NN, .inl f))]) hP hD [0, 1] [2, 3, 4, 5] rfl rfl (by decide) (by decide) hk1 hFc hP1 hD1
          generalize H1 = H at hP hS ⊢
          have hP : va_P (dC, dI) classes [(Qz.qq, .inl (cI, (8 * Qz.C), .inl Qz.qf)), (Qz.qe, .inl (cL, (3 * Qz.C), .inr (.inl Qz.ef))), (tv, .inr (12, MF 13 (tw V1))), (V1.au, .inl (cC, V1.U, .inl V1.un)), (mo, .inr (13, MF 30 u2)), (qx, .inl (cB, NN, .inl f))] H := hP
          have hD : va_D A [(Qz.qq, .inl (cI, (8 * Qz.C), .inl Qz.qf)), (Qz.qe, .inl (cL, (3 * Qz.C), .inr (.inl Qz.ef))), (tv, .inr (12, MF 13 (tw V1))), (V1.au, .inl (cC, V1.U, .inl V1.un)), (mo, .inr (13, MF 30 u2)), (qx, .inl (cB, NN, .inl f))] := hD
          have hP := hP.sub (ws' := [(mo, .inr (13, MF 30 u2)), (qx, .inl (cB, NN, .inl f)), (Qz.qq, .inl (cI, (8 * Qz.C), .inl Qz.qf)), (Qz.qe, .inl (cL, (3 * Qz.C), .inr (.inl Qz.ef))), (tv, .inr (12, MF 13 (tw V1))), (V1.au, .inl (cC, V1.U, .inl V1.un))]) [4, 5, 0, 1, 2, 3] rfl
          have hD := hD.sub (ws' := [(mo, .inr (13, MF 30 u2)), (qx, .inl (cB, NN, .inl f)), (Qz.qq, .inl (cI, (8 * Qz.C), .inl Qz.qf)), (Qz.qe, .inl (cL, (3 * Qz.C), .inr (.inl Qz.ef))), (tv, .inr (12, MF 13 (tw V1))), (V1.au, .inl (cC, V1.U, .inl V1.un))]) [4, 5, 0, 1, 2, 3] (by decide) rfl
          rcases hw with ⟨hn2, ht2, ht3⟩ | ⟨hn2, ht2, ht3⟩
          · rw [rf_u7, rs_o] at ht3
            rw [ht3] at hP hD
            subst ht2
            have hP : va_P (dC, dI) classes [(mo, .inr (13, MF 30 (rf (rs v Qz o) ((skipH f n j1) + 1) b1))), (qx, .inl (cB, NN, .inl f)), (Qz.qq, .inl (cI, (8 * Qz.C), .inl Qz.qf)), (Qz.qe, .inl (cL, (3 * Qz.C), .inr (.inl Qz.ef))), (tv, .inr (12, MF 13 (tw V1))), (V1.au, .inl (cC, V1.U, .inl V1.un))] H := hP
            have hD : va_D A [(mo, .inr (13, MF 30 (rf (rs v Qz o) ((skipH f n j1) + 1) b1))), (qx, .inl (cB, NN, .inl f)), (Qz.qq, .inl (cI, (8 * Qz.C), .inl Qz.qf)), (Qz.qe, .inl (cL, (3 * Qz.C), .inr (.inl Qz.ef))), (tv, .inr (12, MF 13 (tw V1))), (V1.au, .inl (cC, V1.U, .inl V1.un))] := hD
            have hlt9 := here_in hn2 (by decide)
            have hfin : slsP f n ok (orL f n) true i = some (((skipH f n j1) + 1), fl2, ac ++ [g1]) := by rw [hsl0, ← hI7, hm0, hfl2]; exact slsL_e hv_2 (h_r6.symm.trans c105)
            refine w_same (fun hq => ?_)
            refine W.widen (k := kcap Q (Q.R + 8 * (n - i) + 7) + qcap V (V.us + (n + 12 - i))) (n := 22 * kcap Q (Q.R + 8 * (n - i) + 7) + 2 * qcap V (V.us + (n + 12 - i))) hfit_QzV1.1 hfit_QzV1.2 ?_
            have hPo : QPo n i 7 Q V (Qz, V1, ((skipH f n j1) + 1), b1, o) := ⟨hQk_Qz, hG_QzV1, ⟨_, (hXc.trans hX_V1), by rw [List.length_append]; omega⟩, by show Q.R ≤ Qz.R; omega, by show Qz.R ≤ Q.R + 8 * (n - i) + 7; omega⟩
            exact W.zret (v := 1) hx hb hr rfl (fun t9 ht hW => ⟨⟨1, (Qz, V1, ((skipH f n j1) + 1), b1, o), rfl, ⟨hPo, Or.inl ⟨fl2, ac ++ [g1], rfl, hfin, ⟨hSLz.all, hSLz.2.2.2.2.2⟩, hSLz.2.2.2.1, hSLz.2.2.2.2.1, by show Qz.R + 8 * i + 8 ≤ Q.R + 8 * ((skipH f n j1) + 1); omega, by show V1.us + i ≤ V.us + ((skipH f n j1) + 1); omega, by show ((skipH f n j1) + 1) ≤ n; omega, rfl⟩⟩, ⟨by rw [ht]; exact hP, va_K.moved hW.alike hK, hD⟩, by rw [ht]; exact hq⟩, hS.F ht⟩) hS.2.2 d_Mo_selectors_114
          · obtain ⟨b6, h_b6⟩ := rf_fail (v := (rs v Qz (o + 1))) (i := (skipH f n j1)) (br := b1) (b2 := b1) (wh := nI (skipH f n j1))
            rw [h_b6] at ht3
            rw [ht3] at hP hD
            subst ht2
            have hP : va_P (dC, dI) classes [(mo, .inr (13, MF 30 (rf (rs v Qz (o + 1)) (skipH f n j1) b6))), (qx, .inl (cB, NN, .inl f)), (Qz.qq, .inl (cI, (8 * Qz.C), .inl Qz.qf)), (Qz.qe, .inl (cL, (3 * Qz.C), .inr (.inl Qz.ef))), (tv, .inr (12, MF 13 (tw V1))), (V1.au, .inl (cC, V1.U, .inl V1.un))] H := hP
            have hD : va_D A [(mo, .inr (13, MF 30 (rf (rs v Qz (o + 1)) (skipH f n j1) b6))), (qx, .inl (cB, NN, .inl f)), (Qz.qq, .inl (cI, (8 * Qz.C), .inl Qz.qf)), (Qz.qe, .inl (cL, (3 * Qz.C), .inr (.inl Qz.ef))), (tv, .inr (12, MF 13 (tw V1))), (V1.au, .inl (cC, V1.U, .inl V1.un))] := hD
            exact absurd (h_r6.symm.trans c105) hn2
    · have hv_2 : selP f n (orL f n) true (skipH f n j) = none := hv_2
      subst hv_1
      refine lv_istore (lv' := [(5, .int (-1)), (0, .ref mo), (1, .int (nI y)), (2, .int (nI s9)), (3, .int 1), (4, .int bf)]) hx hb d_Mo_selectors_23 hl (by decide) rfl (fun ls hl => ?_)
      refine lv_iload hx hb d_Mo_selectors_25 (lv_at hl 0 rfl) ?_
      refine lv_if_ge (tgt := 32) hx hb d_Mo_selectors_27 (by decide) (fun h => absurd h (by decide)) (fun _ => ?_)
      refine lv_iconst (v := 0) hx hb d_Mo_selectors_30 (by decide) ?_
      have hfin : slsP f n ok (orL f n) true i = none := by rw [hsl0, ← hI7, hm0]; exact slsL_n hv_2
      refine w_same (fun hq => ?_)
      refine W.widen (k := kcap Q (Q.R + 8 * (n - i) + 7) + qcap V (V.us + (n + 12 - i))) (n := 22 * kcap Q (Q.R + 8 * (n - i) + 7) + 2 * qcap V (V.us + (n + 12 - i))) hfit_Q1V1.1 hfit_Q1V1.2 ?_
      have hPo : QPo n i 7 Q V (Q1, V1, j1, b1, o1) := ⟨hQk_Q1, hG_Q1V1, ⟨_, (hXc.trans hX_V1), by rw [List.length_append]; omega⟩, by show Q.R ≤ Q1.R; omega, by show Q1.R ≤ Q.R + 8 * (n - i) + 7; omega⟩
      exact W.zret (v := 0) hx hb hr rfl (fun t9 ht hW => ⟨⟨0, (Q1, V1, j1, b1, o1), rfl, ⟨hPo, Or.inr ⟨rfl, hfin⟩⟩, ⟨by rw [ht]; exact hP, va_K.moved hW.alike hK, hD⟩, by rw [ht]; exact hq⟩, hS.F ht⟩) hS.2.2 d_Mo_selectors_31
  · obtain ⟨b5, h_b5⟩ := rf_fail (v := (rs v Q o)) (i := i) (br := br) (b2 := br) (wh := nI i)
    rw [h_b5] at ht3
    rw [ht3] at hP hD
    subst ht2
    have hP : va_P (dC, dI) classes [(mo, .inr (13, MF 30 (rf (rs v Q o) i b5))), (qx, .inl (cB, NN, .inl f)), (Q.qq, .inl (cI, (8 * Q.C), .inl Q.qf)), (Q.qe, .inl (cL, (3 * Q.C), .inr (.inl Q.ef))), (tv, .inr (12, MF 13 (tw V))), (V.au, .inl (cC, V.U, .inl V.un))] H := hP
    have hD : va_D A [(mo, .inr (13, MF 30 (rf (rs v Q o) i b5))), (qx, .inl (cB, NN, .inl f)), (Q.qq, .inl (cI, (8 * Q.C), .inl Q.qf)), (Q.qe, .inl (cL, (3 * Q.C), .inr (.inl Q.ef))), (tv, .inr (12, MF 13 (tw V))), (V.au, .inl (cC, V.U, .inl V.un))] := hD
    refine lv_if_ne (tgt := 11) hx hb d_Mo_selectors_6 (by decide) (fun h => absurd h (by decide)) (fun _ => ?_)
    refine lv_iconst (v := 0) hx hb d_Mo_selectors_9 (by decide) ?_
    have hfin : slsP f n ok (orL f n) true i = none := by unfold slsP; rw [if_neg (fun h => hn1 ⟨h.1, hok.mp h.2⟩)]
    refine w_same (fun hq => ?_)
    refine W.widen (k := kcap Q (Q.R + 8 * (n - i) + 7) + qcap V (V.us + (n + 12 - i))) (n := 22 * kcap Q (Q.R + 8 * (n - i) + 7) + 2 * qcap V (V.us + (n + 12 - i))) hfit_QV.1 hfit_QV.2 ?_
    have hPo : QPo n i 7 Q V (Q, V, i, b5, o) := ⟨hQk_Q, hG_QV, ⟨[], TX.rf hTk_V, Nat.zero_le _⟩, by show Q.R ≤ Q.R; omega, by show Q.R ≤ Q.R + 8 * (n - i) + 7; omega⟩
    exact W.zret (v := 0) hx hb hr rfl (fun t9 ht hW => ⟨⟨0, (Q, V, i, b5, o), rfl, ⟨hPo, Or.inr ⟨rfl, hfin⟩⟩, ⟨by rw [ht]; exact hP, va_K.moved hW.alike hK, hD⟩, by rw [ht]; exact hq⟩, hS.F ht⟩) hS.2.2 d_Mo_selectors_10
