/-- a predicate on the rows lo .. hi, whose head is row a; m: what they mean -/
abbrev QP (M : Type) : Type := QS → TS → Nat → Nat → Nat → M → Prop
/-- numbers and units stay -/
def EUk (Q : QS) (V : TS) (Q2 : QS) (V2 : TS) (lo hi : Nat) : Prop := (∀ r k : Nat, lo ≤ r → r < hi → k < 3 → Q2.ef (3 * r + k) = Q.ef (3 * r + k)) ∧ V.us ≤ V2.us ∧ ∀ j : Nat, j < V.us → V2.un j = V.un j
theorem EUk.rf {Q : QS} {V : TS} {lo hi : Nat} : EUk Q V Q V lo hi := ⟨fun _ _ _ _ _ => rfl, Nat.le_refl _, fun _ _ => rfl⟩
theorem EUk.sub {Q Q2 : QS} {V V2 : TS} {lo hi lo2 hi2 : Nat} (h : EUk Q V Q2 V2 lo hi) (h1 : lo ≤ lo2) (h2 : hi2 ≤ hi) : EUk Q V Q2 V2 lo2 hi2 := ⟨fun r k a b c => h.1 r k (by omega) (by omega) c, h.2⟩
theorem EUk.tr {Q Q2 Q3 : QS} {V V2 V3 : TS} {lo hi : Nat} (h : EUk Q V Q2 V2 lo hi) (g : EUk Q2 V2 Q3 V3 lo hi) : EUk Q V Q3 V3 lo hi := ⟨fun r k a b c => (g.1 r k a b c).trans (h.1 r k a b c), Nat.le_trans h.2.1 g.2.1, fun j hj => (g.2.2 j (by have := h.2.1; omega)).trans (h.2.2 j hj)⟩
theorem EUk.ef {Q Q2 : QS} {V : TS} {lo hi : Nat} (h : Q2.ef = Q.ef) : EUk Q V Q2 V lo hi := ⟨fun _ _ _ _ _ => by rw [h], Nat.le_refl _, fun _ _ => rfl⟩
/-- the rows lo .. hi are alike, but for field lk of row a -/
def agr (Q : QS) (V : TS) (Q2 : QS) (V2 : TS) (lo hi a lk : Nat) : Prop := (∀ r k : Nat, lo ≤ r → r < hi → k < 8 → ¬ (r = a ∧ k = lk) → Q2.qf (8 * r + k) = Q.qf (8 * r + k)) ∧ EUk Q V Q2 V2 lo hi
/-- the rows lo .. hi are alike -/
def alr (Q : QS) (V : TS) (Q2 : QS) (V2 : TS) (lo hi : Nat) : Prop := (∀ r k : Nat, lo ≤ r → r < hi → k < 8 → Q2.qf (8 * r + k) = Q.qf (8 * r + k)) ∧ EUk Q V Q2 V2 lo hi
theorem alr.sub {Q Q2 : QS} {V V2 : TS} {lo hi lo2 hi2 : Nat} (h : alr Q V Q2 V2 lo hi) (h1 : lo ≤ lo2) (h2 : hi2 ≤ hi) : alr Q V Q2 V2 lo2 hi2 := ⟨fun r k a b c => h.1 r k (by omega) (by omega) c, h.2.sub h1 h2⟩
theorem alr.agr {Q Q2 : QS} {V V2 : TS} {lo hi a lk : Nat} (h : alr Q V Q2 V2 lo hi) : agr Q V Q2 V2 lo hi a lk := ⟨fun r k x y z _ => h.1 r k x y z, h.2⟩
theorem alr.tr {Q Q2 Q3 : QS} {V V2 V3 : TS} {lo hi : Nat} (h : alr Q V Q2 V2 lo hi) (g : alr Q2 V2 Q3 V3 lo hi) : alr Q V Q3 V3 lo hi := ⟨fun r k a b c => (g.1 r k a b c).trans (h.1 r k a b c), h.2.tr g.2⟩
/-- one field is set, outside of lo .. hi -/
theorem alr.upd {Q Q2 : QS} {V : TS} {lo hi a b : Nat} {y : Int32} (h1 : Q2.qf = upd Q.qf (8 * a + b) y) (h2 : Q2.ef = Q.ef) (hb : b < 8) (h : ¬ (lo ≤ a ∧ a < hi)) : alr Q V Q2 V lo hi := ⟨fun r k r1 r2 hk => by rw [h1]; exact pk_un (by omega), EUk.ef h2⟩
/-- a predicate that does not look at field lk of its head, nor outside -/
def Frm {M : Type} (lk : Nat) (P : QP M) : Prop := ∀ (Q : QS) (V : TS) (Q2 : QS) (V2 : TS) (lo hi a : Nat) (m : M), P Q V lo hi a m → agr Q V Q2 V2 lo hi a lk → P Q2 V2 lo hi a m
/-- its head lies in it -/
def Inn {M : Type} (P : QP M) : Prop := ∀ (Q : QS) (V : TS) (lo hi a : Nat) (m : M), P Q V lo hi a m → lo ≤ a ∧ a < hi
/-- a chain of heads, each at field lk of the one before, up to z -/
def CHn {M : Type} (lk : Nat) (P : QP M) (Q : QS) (V : TS) (hi : Nat) (z : Int32) : List M → Nat → Int32 → Prop
  | [], _, k => k = z
  | m :: l, lo, k => ∃ a lo2 hi2 : Nat, k = nI a ∧ lo ≤ lo2 ∧ hi2 ≤ hi ∧ P Q V lo2 hi2 a m ∧ CHn lk P Q V hi z l hi2 (Q.qf (8 * a + lk))
section Chains
variable {M : Type} {lk : Nat} {P : QP M}
theorem CHn_fr (hP : Frm lk P) (hI : Inn P) (hlk : lk < 8) {Q Q2 : QS} {V V2 : TS} {hi : Nat} {z : Int32} : ∀ (l : List M) (lo : Nat) (k : Int32), CHn lk P Q V hi z l lo k → alr Q V Q2 V2 lo hi → CHn lk P Q2 V2 hi z l lo k := by
  intro l
  induction l with
  | nil => intro lo k h _; exact h
  | cons m l ih =>
    intro lo k h ha
    obtain ⟨a, lo2, hi2, e1, e2, e3, e4, e5⟩ := h
    have hin := hI _ _ _ _ _ _ e4
    refine ⟨a, lo2, hi2, e1, e2, e3, hP _ _ _ _ _ _ _ _ e4 (ha.sub e2 e3).agr, ?_⟩
    rw [ha.1 a lk (by omega) (by omega) hlk]
    exact ih hi2 _ e5 (ha.sub (by omega) (Nat.le_refl _))
/-- one more at the end -/
theorem CHn_snoc (hI : Inn P) {Q : QS} {V : TS} {hi mid a lo2 hi2 : Nat} {z : Int32} {m : M} (h1 : mid ≤ lo2) (h2 : hi2 ≤ hi) (h3 : P Q V lo2 hi2 a m) (h4 : Q.qf (8 * a + lk) = z) : ∀ (l : List M) (lo : Nat) (k : Int32), lo ≤ mid → CHn lk P Q V mid (nI a) l lo k → CHn lk P Q V hi z (l ++ [m]) lo k := by
  intro l
  induction l with
  | nil => intro lo k hlo h; exact ⟨a, lo2, hi2, h, by omega, h2, h3, h4⟩
  | cons m2 l ih =>
    intro lo k hlo h
    obtain ⟨b, lo3, hi3, e1, e2, e3, e4, e5⟩ := h
    have hin := hI _ _ _ _ _ _ e4
    have hin2 := hI _ _ _ _ _ _ h3
    exact ⟨b, lo3, hi3, e1, e2, by omega, e4, ih hi3 _ e3 e5⟩
/-- the chain so far, its last apart: k is where it begins (or -1), bf its last (or -1) -/
def KQ (lk : Nat) (P : QP M) (Q : QS) (V : TS) (lo hi : Nat) (k bf : Int32) (l : List M) : Prop := (k = -1 ∧ bf = -1 ∧ l = []) ∨ ∃ (l0 : List M) (m : M) (a lo2 hi2 mid : Nat), l = l0 ++ [m] ∧ bf = nI a ∧ lo ≤ mid ∧ mid ≤ lo2 ∧ hi2 ≤ hi ∧ CHn lk P Q V mid (nI a) l0 lo k ∧ P Q V lo2 hi2 a m ∧ Q.qf (8 * a + lk) = -1
theorem KQ.all (hI : Inn P) {Q : QS} {V : TS} {lo hi : Nat} {k bf : Int32} {l : List M} (h : KQ lk P Q V lo hi k bf l) : CHn lk P Q V hi (-1) l lo k := by
  rcases h with ⟨h1, h2, h3⟩ | ⟨l0, m, a, lo2, hi2, mid, e0, e1, e2, e3, e4, e5, e6, e7⟩
  · rw [h3]; exact h1
  · rw [e0]; exact CHn_snoc hI e3 e4 e6 e7 l0 lo k e2 e5
theorem KQ.fr (hP : Frm lk P) (hI : Inn P) (hlk : lk < 8) {Q Q2 : QS} {V V2 : TS} {lo hi : Nat} {k bf : Int32} {l : List M} (h : KQ lk P Q V lo hi k bf l) (ha : alr Q V Q2 V2 lo hi) : KQ lk P Q2 V2 lo hi k bf l := by
  rcases h with h | ⟨l0, m, a, lo2, hi2, mid, e0, e1, e2, e3, e4, e5, e6, e7⟩
  · exact Or.inl h
  · have hin := hI _ _ _ _ _ _ e6
    refine Or.inr ⟨l0, m, a, lo2, hi2, mid, e0, e1, e2, e3, e4, CHn_fr hP hI hlk l0 lo k e5 (ha.sub (Nat.le_refl _) (by omega)), hP _ _ _ _ _ _ _ _ e6 (ha.sub (by omega) e4).agr, ?_⟩
    rw [ha.1 a lk (by omega) (by omega) hlk]; exact e7
/-- the first of a chain -/
theorem KQ.one {Q : QS} {V : TS} {lo hi lo2 a : Nat} {m : M} (h1 : lo ≤ lo2) (h3 : P Q V lo2 hi a m) (h4 : Q.qf (8 * a + lk) = -1) : KQ lk P Q V lo hi (nI a) (nI a) [m] := Or.inr ⟨[], m, a, lo2, hi, lo2, rfl, rfl, h1, Nat.le_refl _, Nat.le_refl _, rfl, h3, h4⟩
/-- one more: the last of before gets its link -/
theorem KQ.add (hP : Frm lk P) (hI : Inn P) (hlk : lk < 8) {Q Q2 : QS} {V : TS} {lo hi hi3 lo3 a c : Nat} {k : Int32} {l : List M} {m : M} (h : KQ lk P Q V lo hi k (nI a) l) (hab : a < 2 ^ 28) (hhi : hi < 2 ^ 28) (h1 : hi ≤ lo3) (h3 : P Q V lo3 hi3 c m) (h4 : Q.qf (8 * c + lk) = -1) (hu : Q2.qf = upd Q.qf (8 * a + lk) (nI c)) (he : Q2.ef = Q.ef) : KQ lk P Q2 V lo hi3 k (nI c) (l ++ [m]) := by
  have hc := hI _ _ _ _ _ _ h3
  rcases h with ⟨h, e, -⟩ | ⟨l0, m2, a2, lo2, hi2, mid, e0, e1, e2, e3, e4, e5, e6, e7⟩
  · exact absurd (show nI a < 0 by rw [e]; decide) (nI_pos (by omega))
  · have hin := hI _ _ _ _ _ _ e6
    have ea : a = a2 := by
      have h9 := congrArg Int32.toNatClampNeg e1
      rw [nI_clamp (by omega), nI_clamp (by omega)] at h9
      exact h9
    subst ea
    have hne : ∀ r k : Nat, k < 8 → ¬ (r = a ∧ k = lk) → Q2.qf (8 * r + k) = Q.qf (8 * r + k) := fun r k hk he => by rw [hu]; exact pk_un (by omega)
    refine Or.inr ⟨l, m, c, lo3, hi3, lo3, rfl, rfl, by omega, Nat.le_refl _, Nat.le_refl _, ?_, hP _ _ _ _ _ _ _ _ h3 ⟨fun r k r1 r2 hk _ => hne r k hk (by omega), EUk.ef he⟩, by rw [hne c lk hlk (by omega)]; exact h4⟩
    rw [e0]
    refine CHn_snoc hI (mid := mid) (lo2 := lo2) (hi2 := hi2) e3 (by omega) (hP _ _ _ _ _ _ _ _ e6 ⟨fun r k r1 r2 hk he => hne r k hk he, EUk.ef he⟩) (by rw [hu]; exact pk_us) l0 lo k e2 ?_
    exact CHn_fr hP hI hlk l0 lo k e5 ⟨fun r k r1 r2 hk => hne r k hk (by omega), EUk.ef he⟩
theorem Frm8 (h : Frm lk P) : Frm 8 P := fun Q V Q2 V2 lo hi a m hp ha => h Q V Q2 V2 lo hi a m hp ⟨fun r k r1 r2 hk _ => ha.1 r k r1 r2 hk (by omega), ha.2⟩
theorem Frm.use (h : Frm 8 P) {Q Q2 : QS} {V V2 : TS} {lo hi a : Nat} {m : M} (hp : P Q V lo hi a m) (ha : alr Q V Q2 V2 lo hi) : P Q2 V2 lo hi a m := h Q V Q2 V2 lo hi a m hp ha.agr
/-- P holds of a head that lies within lo .. hi, apart from row x -/
def Wth (P : QP M) (Q : QS) (V : TS) (lo hi x a : Nat) (m : M) : Prop := ∃ lo2 hi2 : Nat, lo ≤ lo2 ∧ hi2 ≤ hi ∧ ¬ (lo2 ≤ x ∧ x < hi2) ∧ P Q V lo2 hi2 a m
theorem Wth_fr (h : Frm 8 P) {lk : Nat} {Q Q2 : QS} {V V2 : TS} {lo hi x a : Nat} {m : M} (hp : Wth P Q V lo hi x a m) (ha : agr Q V Q2 V2 lo hi x lk) : Wth P Q2 V2 lo hi x a m := by
  obtain ⟨lo2, hi2, e1, e2, e3, e4⟩ := hp
  exact ⟨lo2, hi2, e1, e2, e3, h.use e4 ⟨fun r k r1 r2 hk => ha.1 r k (by omega) (by omega) hk (fun e => e3 (by omega)), ha.2.sub e1 e2⟩⟩
end Chains
/-- a name in a row: its units -/
def NMq (Q : QS) (V : TS) (x : Nat) (t : List Int32) : Prop := ∃ st ln : Nat, Q.qf (8 * x + 2) = nI st ∧ Q.qf (8 * x + 3) = nI ln ∧ st + ln ≤ V.us ∧ sl V.un st ln = t
theorem NMq_fr {Q Q2 : QS} {V V2 : TS} {x lo hi : Nat} {t : List Int32} (h : NMq Q V x t) (hs : EUk Q V Q2 V2 lo hi) (h1 : Q2.qf (8 * x + 2) = Q.qf (8 * x + 2)) (h2 : Q2.qf (8 * x + 3) = Q.qf (8 * x + 3)) : NMq Q2 V2 x t := by
  obtain ⟨st, ln, e1, e2, e3, e4⟩ := h
  exact ⟨st, ln, h1.trans e1, h2.trans e2, Nat.le_trans e3 hs.2.1, by rw [← e4]; exact sl_eq.mpr ⟨rfl, fun j hj => hs.2.2 _ (by omega)⟩⟩
/-- a slice, by what is said of it -/
def slq (h : Int32) (a b c : Int64) : QT := slcS (if h &&& 1 = 0 then none else some a) (if h &&& 2 = 0 then none else some b) (if h &&& 4 = 0 then 1 else c)
/-- a selector; O: the conditions that a filter may hold -/
def SELp (O : QP CT) : QP QT := fun Q V lo hi x m => lo ≤ x ∧ x < hi ∧ ((Q.qf (8 * x + 0) = 1 ∧ ∃ t, NMq Q V x t ∧ m = namS t) ∨ (Q.qf (8 * x + 0) = 2 ∧ m = eachS) ∨ (Q.qf (8 * x + 0) = 3 ∧ m = idxS (Q.ef (3 * x + 0))) ∨ (Q.qf (8 * x + 0) = 4 ∧ m = slq (Q.qf (8 * x + 2)) (Q.ef (3 * x + 0)) (Q.ef (3 * x + 1)) (Q.ef (3 * x + 2))) ∨ (Q.qf (8 * x + 0) = 5 ∧ ∃ (a : Nat) (g : CT), Q.qf (8 * x + 2) = nI a ∧ Wth O Q V lo hi x a g ∧ m = filS g))
theorem SELp_in {O : QP CT} : Inn (SELp O) := fun _ _ _ _ _ _ h => ⟨h.1, h.2.1⟩
theorem SELp_fr {O : QP CT} (hO : Frm 8 O) : Frm 1 (SELp O) := by
  intro Q V Q2 V2 lo hi x m h ha
  obtain ⟨h1, h2, h3⟩ := h
  have f0 := ha.1 x 0 h1 h2 (by decide) (by omega)
  have f2 := ha.1 x 2 h1 h2 (by decide) (by omega)
  have f3 := ha.1 x 3 h1 h2 (by decide) (by omega)
  have g0 := ha.2.1 x 0 h1 h2 (by decide)
  have g1 := ha.2.1 x 1 h1 h2 (by decide)
  have g2 := ha.2.1 x 2 h1 h2 (by decide)
  refine ⟨h1, h2, ?_⟩
  rw [f0]
  rcases h3 with ⟨e, t, hn, e1⟩ | ⟨e, e1⟩ | ⟨e, e1⟩ | ⟨e, e1⟩ | ⟨e, a, g, e1, e2, e3⟩
  · exact Or.inl ⟨e, t, NMq_fr hn ha.2 f2 f3, e1⟩
  · exact Or.inr (Or.inl ⟨e, e1⟩)
  · exact Or.inr (Or.inr (Or.inl ⟨e, by rw [g0]; exact e1⟩))
  · exact Or.inr (Or.inr (Or.inr (Or.inl ⟨e, by rw [f2, g0, g1, g2]; exact e1⟩)))
  · exact Or.inr (Or.inr (Or.inr (Or.inr ⟨e, a, g, f2.trans e1, Wth_fr hO e2 ha, e3⟩)))
/-- a segment -/
def SEGp (O : QP CT) : QP QT := fun Q V lo hi x m => lo ≤ x ∧ x < hi ∧ (Q.qf (8 * x + 1) = 0 ∨ Q.qf (8 * x + 1) = 1) ∧ ∃ l : List QT, CHn 1 (SELp O) Q V hi (-1) l (x + 1) (Q.qf (8 * x + 2)) ∧ m = segS (decide (Q.qf (8 * x + 1) = 1)) l
theorem SEGp_in {O : QP CT} : Inn (SEGp O) := fun _ _ _ _ _ _ h => ⟨h.1, h.2.1⟩
theorem SEGp_fr {O : QP CT} (hO : Frm 8 O) : Frm 3 (SEGp O) := by
  intro Q V Q2 V2 lo hi x m h ha
  obtain ⟨h1, h2, h3, l, h4, h5⟩ := h
  have f1 := ha.1 x 1 h1 h2 (by decide) (by omega)
  have f2 := ha.1 x 2 h1 h2 (by decide) (by omega)
  refine ⟨h1, h2, by rw [f1]; exact h3, l, ?_, by rw [f1]; exact h5⟩
  rw [f2]
  exact CHn_fr (SELp_fr hO) SELp_in (by decide) l _ _ h4 ⟨fun r k r1 r2 hk => ha.1 r k (by omega) r2 hk (by omega), ha.2.sub (by omega) (Nat.le_refl _)⟩
/-- a query -/
def QRYp (O : QP CT) : QP QT := fun Q V lo hi x m => lo ≤ x ∧ x < hi ∧ (Q.qf (8 * x + 1) = 0 ∨ Q.qf (8 * x + 1) = 1) ∧ ∃ l : List QT, CHn 3 (SEGp O) Q V hi (-1) l (x + 1) (Q.qf (8 * x + 2)) ∧ m = qryS (decide (Q.qf (8 * x + 1) = 1)) l
theorem QRYp_fr {O : QP CT} (hO : Frm 8 O) : Frm 3 (QRYp O) := by
  intro Q V Q2 V2 lo hi x m h ha
  obtain ⟨h1, h2, h3, l, h4, h5⟩ := h
  have f1 := ha.1 x 1 h1 h2 (by decide) (by omega)
  have f2 := ha.1 x 2 h1 h2 (by decide) (by omega)
  refine ⟨h1, h2, by rw [f1]; exact h3, l, ?_, by rw [f1]; exact h5⟩
  rw [f2]
  exact CHn_fr (SEGp_fr hO) SEGp_in (by decide) l _ _ h4 ⟨fun r k r1 r2 hk => ha.1 r k (by omega) r2 hk (by omega), ha.2.sub (by omega) (Nat.le_refl _)⟩
/-- what may be compared; C, Y: what may stand in brackets -/
def CMPf (O : QP CT) (C : QP OT) (Y : QP QT) : QP OT := fun Q V lo hi x m => lo ≤ x ∧ x < hi ∧ ((Q.qf (8 * x + 0) = 40 ∧ m = litO (3, Q.ef (3 * x + 0), [])) ∨ (Q.qf (8 * x + 0) = 41 ∧ ∃ t, NMq Q V x t ∧ uOK t ∧ m = litO (4, 0, t)) ∨ (Q.qf (8 * x + 0) = 42 ∧ m = litO (1, 0, [])) ∨ (Q.qf (8 * x + 0) = 43 ∧ m = litO (2, 0, [])) ∨ (Q.qf (8 * x + 0) = 44 ∧ m = litO (0, 0, [])) ∨ (Q.qf (8 * x + 0) = 45 ∧ ∃ (a : Nat) (g : QT), Q.qf (8 * x + 2) = nI a ∧ Wth (QRYp O) Q V lo hi x a g ∧ m = onlO g) ∨ (Q.qf (8 * x + 0) = 46 ∧ ∃ (a : Nat) (g : OT), Q.qf (8 * x + 2) = nI a ∧ Wth C Q V lo hi x a g ∧ m = lenO g) ∨ (Q.qf (8 * x + 0) = 47 ∧ ∃ (a : Nat) (g : QT), Q.qf (8 * x + 2) = nI a ∧ Wth Y Q V lo hi x a g ∧ m = cntO g) ∨ (Q.qf (8 * x + 0) = 48 ∧ ∃ (a : Nat) (g : QT), Q.qf (8 * x + 2) = nI a ∧ Wth Y Q V lo hi x a g ∧ m = onlO g))
theorem CMPf_in {O : QP CT} {C : QP OT} {Y : QP QT} : Inn (CMPf O C Y) := fun _ _ _ _ _ _ h => ⟨h.1, h.2.1⟩
theorem CMPf_fr {O : QP CT} {C : QP OT} {Y : QP QT} (hO : Frm 8 O) (hC : Frm 8 C) (hY : Frm 8 Y) : Frm 8 (CMPf O C Y) := by
  intro Q V Q2 V2 lo hi x m h ha
  obtain ⟨h1, h2, h3⟩ := h
  have f0 := ha.1 x 0 h1 h2 (by decide) (by omega)
  have f2 := ha.1 x 2 h1 h2 (by decide) (by omega)
  have f3 := ha.1 x 3 h1 h2 (by decide) (by omega)
  have g0 := ha.2.1 x 0 h1 h2 (by decide)
  refine ⟨h1, h2, ?_⟩
  rw [f0]
  rcases h3 with ⟨e, e1⟩ | ⟨e, t, hn, e1⟩ | e | e | e | ⟨e, a, g, e1, e2, e3⟩ | ⟨e, a, g, e1, e2, e3⟩ | ⟨e, a, g, e1, e2, e3⟩ | ⟨e, a, g, e1, e2, e3⟩
  · exact Or.inl ⟨e, by rw [g0]; exact e1⟩
  · exact Or.inr (Or.inl ⟨e, t, NMq_fr hn ha.2 f2 f3, e1⟩)
  · exact Or.inr (Or.inr (Or.inl e))
  · exact Or.inr (Or.inr (Or.inr (Or.inl e)))
  · exact Or.inr (Or.inr (Or.inr (Or.inr (Or.inl e))))
  · exact Or.inr (Or.inr (Or.inr (Or.inr (Or.inr (Or.inl ⟨e, a, g, f2.trans e1, Wth_fr (Frm8 (QRYp_fr hO)) e2 ha, e3⟩)))))
  · exact Or.inr (Or.inr (Or.inr (Or.inr (Or.inr (Or.inr (Or.inl ⟨e, a, g, f2.trans e1, Wth_fr hC e2 ha, e3⟩))))))
  · exact Or.inr (Or.inr (Or.inr (Or.inr (Or.inr (Or.inr (Or.inr (Or.inl ⟨e, a, g, f2.trans e1, Wth_fr hY e2 ha, e3⟩)))))))
  · exact Or.inr (Or.inr (Or.inr (Or.inr (Or.inr (Or.inr (Or.inr (Or.inr ⟨e, a, g, f2.trans e1, Wth_fr hY e2 ha, e3⟩)))))))
/-- is there such a node? -/
def TSTp (O : QP CT) : QP CT := fun Q V lo hi x m => lo ≤ x ∧ x < hi ∧ Q.qf (8 * x + 0) = 34 ∧ ∃ (a : Nat) (g : QT), Q.qf (8 * x + 2) = nI a ∧ Wth (QRYp O) Q V lo hi x a g ∧ m = tstC g
theorem TSTp_fr {O : QP CT} (hO : Frm 8 O) : Frm 8 (TSTp O) := by
  intro Q V Q2 V2 lo hi x m h ha
  obtain ⟨h1, h2, h3, a, g, h4, h5, h6⟩ := h
  exact ⟨h1, h2, (ha.1 x 0 h1 h2 (by decide) (by omega)).trans h3, a, g, (ha.1 x 2 h1 h2 (by decide) (by omega)).trans h4, Wth_fr (Frm8 (QRYp_fr hO)) h5 ha, h6⟩
/-- a simple condition -/
def BASf (O : QP CT) (C : QP OT) (Y : QP QT) : QP CT := fun Q V lo hi x m => lo ≤ x ∧ x < hi ∧ ((Q.qf (8 * x + 0) = 33 ∧ ∃ (a b op : Nat) (y z : OT), Q.qf (8 * x + 2) = nI a ∧ Q.qf (8 * x + 3) = nI b ∧ Q.qf (8 * x + 4) = nI op ∧ op ≤ 5 ∧ Wth (CMPf O C Y) Q V lo hi x a y ∧ Wth (CMPf O C Y) Q V lo hi x b z ∧ m = cmpC op y z) ∨ (Q.qf (8 * x + 0) = 32 ∧ ∃ (a : Nat) (g : CT), Q.qf (8 * x + 2) = nI a ∧ (Wth O Q V lo hi x a g ∨ Wth (TSTp O) Q V lo hi x a g) ∧ m = notC g) ∨ (Q.qf (8 * x + 0) = 35 ∧ ∃ (a : Nat) (g : CT), Q.qf (8 * x + 2) = nI a ∧ (Wth O Q V lo hi x a g ∨ Wth (TSTp O) Q V lo hi x a g) ∧ m = g))
theorem BASf_in {O : QP CT} {C : QP OT} {Y : QP QT} : Inn (BASf O C Y) := fun _ _ _ _ _ _ h => ⟨h.1, h.2.1⟩
theorem BASf_fr {O : QP CT} {C : QP OT} {Y : QP QT} (hO : Frm 8 O) (hC : Frm 8 C) (hY : Frm 8 Y) : Frm 1 (BASf O C Y) := by
  intro Q V Q2 V2 lo hi x m h ha
  obtain ⟨h1, h2, h3⟩ := h
  have f0 := ha.1 x 0 h1 h2 (by decide) (by omega)
  have f2 := ha.1 x 2 h1 h2 (by decide) (by omega)
  have f3 := ha.1 x 3 h1 h2 (by decide) (by omega)
  have f4 := ha.1 x 4 h1 h2 (by decide) (by omega)
  refine ⟨h1, h2, ?_⟩
  rw [f0]
  rcases h3 with ⟨e, a, b, op, y, z, e1, e2, e3, e4, e5, e6, e7⟩ | ⟨e, a, g, e1, e2, e3⟩ | ⟨e, a, g, e1, e2, e3⟩
  · exact Or.inl ⟨e, a, b, op, y, z, f2.trans e1, f3.trans e2, f4.trans e3, e4, Wth_fr (CMPf_fr hO hC hY) e5 ha, Wth_fr (CMPf_fr hO hC hY) e6 ha, e7⟩
  · exact Or.inr (Or.inl ⟨e, a, g, f2.trans e1, e2.imp (fun z => Wth_fr hO z ha) (fun z => Wth_fr (TSTp_fr hO) z ha), e3⟩)
  · exact Or.inr (Or.inr ⟨e, a, g, f2.trans e1, e2.imp (fun z => Wth_fr hO z ha) (fun z => Wth_fr (TSTp_fr hO) z ha), e3⟩)
def ANDf (O : QP CT) (C : QP OT) (Y : QP QT) : QP CT := fun Q V lo hi x m => lo ≤ x ∧ x < hi ∧ Q.qf (8 * x + 0) = 31 ∧ ∃ l : List CT, CHn 1 (BASf O C Y) Q V hi (-1) l (x + 1) (Q.qf (8 * x + 2)) ∧ m = allC l
theorem ANDf_in {O : QP CT} {C : QP OT} {Y : QP QT} : Inn (ANDf O C Y) := fun _ _ _ _ _ _ h => ⟨h.1, h.2.1⟩
theorem ANDf_fr {O : QP CT} {C : QP OT} {Y : QP QT} (hO : Frm 8 O) (hC : Frm 8 C) (hY : Frm 8 Y) : Frm 1 (ANDf O C Y) := by
  intro Q V Q2 V2 lo hi x m h ha
  obtain ⟨h1, h2, h3, l, h4, h5⟩ := h
  have f0 := ha.1 x 0 h1 h2 (by decide) (by omega)
  have f2 := ha.1 x 2 h1 h2 (by decide) (by omega)
  refine ⟨h1, h2, f0.trans h3, l, ?_, h5⟩
  rw [f2]
  exact CHn_fr (BASf_fr hO hC hY) BASf_in (by decide) l _ _ h4 ⟨fun r k r1 r2 hk => ha.1 r k (by omega) r2 hk (by omega), ha.2.sub (by omega) (Nat.le_refl _)⟩
def ORf (O : QP CT) (C : QP OT) (Y : QP QT) : QP CT := fun Q V lo hi x m => lo ≤ x ∧ x < hi ∧ Q.qf (8 * x + 0) = 30 ∧ ∃ l : List CT, CHn 1 (ANDf O C Y) Q V hi (-1) l (x + 1) (Q.qf (8 * x + 2)) ∧ m = anyC_ l
theorem ORf_fr {O : QP CT} {C : QP OT} {Y : QP QT} (hO : Frm 8 O) (hC : Frm 8 C) (hY : Frm 8 Y) : Frm 8 (ORf O C Y) := by
  intro Q V Q2 V2 lo hi x m h ha
  obtain ⟨h1, h2, h3, l, h4, h5⟩ := h
  have f0 := ha.1 x 0 h1 h2 (by decide) (by omega)
  have f2 := ha.1 x 2 h1 h2 (by decide) (by omega)
  refine ⟨h1, h2, f0.trans h3, l, ?_, h5⟩
  rw [f2]
  exact CHn_fr (ANDf_fr hO hC hY) ANDf_in (by decide) l _ _ h4 ⟨fun r k r1 r2 hk => ha.1 r k (by omega) r2 hk (by omega), ha.2.sub (by omega) (Nat.le_refl _)⟩
def noQ {M : Type} : QP M := fun _ _ _ _ _ _ => False
theorem noQ_fr {M : Type} : Frm 8 (noQ (M := M)) := fun _ _ _ _ _ _ _ _ h => h.elim
/-- conditions, what may be compared, and queries, with at most d brackets one in another -/
def DDp : Nat → QP CT × QP OT × QP QT
  | 0 => (ORf noQ noQ noQ, CMPf noQ noQ noQ, QRYp noQ)
  | d + 1 => (ORf (DDp d).1 (DDp d).2.1 (DDp d).2.2, CMPf (DDp d).1 (DDp d).2.1 (DDp d).2.2, QRYp (DDp d).1)
theorem DDp_fr : ∀ d, Frm 8 (DDp d).1 ∧ Frm 8 (DDp d).2.1 ∧ Frm 8 (DDp d).2.2 := by
  intro d
  induction d with
  | zero => exact ⟨ORf_fr noQ_fr noQ_fr noQ_fr, CMPf_fr noQ_fr noQ_fr noQ_fr, Frm8 (QRYp_fr noQ_fr)⟩
  | succ d ih => exact ⟨ORf_fr ih.1 ih.2.1 ih.2.2, CMPf_fr ih.1 ih.2.1 ih.2.2, Frm8 (QRYp_fr ih.1)⟩
section
variable (f : Nat → Int32) (n : Nat)
/-- behind a name's letters and digits -/
def nmE : Nat → Nat → Nat
  | 0, j => j
  | k + 1, j => if letH (hereV f n j) ∨ digH (hereV f n j) then nmE k (j + 1) else j
/-- the units of a name, from i to j -/
def nmT_ (i j : Nat) : List Int32 := (List.range (j - i)).map (fun k => hereV f n (i + k))
abbrev numC (x : Int32) : Prop := x = 45 ∨ digH x
/-- a slice behind its end: its step -/
def slT (b : Option Int64) (j2 : Nat) : Option (Nat × Option Int64 × Int64) := if ¬ hereV f n (skipH f n j2) = 58 then some (j2, b, 1) else if numC (hereV f n (skipH f n (skipH f n j2 + 1))) then (whM f n (skipH f n (skipH f n j2 + 1))).map (fun p => (p.2, b, p.1)) else some (skipH f n j2 + 1, b, 1)
/-- a slice, from its first colon on: where it ends, its end, its step -/
def slP (j : Nat) : Option (Nat × Option Int64 × Int64) := if numC (hereV f n (skipH f n (j + 1))) then (whM f n (skipH f n (j + 1))).bind (fun p => slT f n (some p.1) p.2) else slT f n none (skipH f n (j + 1))
/-- a selector: where it ends, whether a query with it alone has one node at most, what it means; orL: a filter's condition -/
def selP (orL : Nat → Option (Nat × CT)) (sg : Bool) (i : Nat) : Option (Nat × Bool × QT) :=
  if hereV f n i = 39 ∨ hereV f n i = 34 then (qtQ f n (hereV f n i) i).map (fun p => (p.2, true, namS p.1))
  else if hereV f n i = 42 ∧ sg = false then some (i + 1, false, eachS)
  else if hereV f n i = 63 ∧ sg = false then (orL (skipH f n (i + 1))).map (fun j => (j.1, false, filS j.2))
  else if ¬ hereV f n i = 45 ∧ ¬ digH (hereV f n i) ∧ (¬ hereV f n i = 58 ∨ sg = true) then none
  else if hereV f n i = 58 then (slP f n i).map (fun j => (j.1, false, slcS none j.2.1 j.2.2))
  else match whM f n i with
    | none => none
    | some p => if ¬ hereV f n (skipH f n p.2) = 58 ∨ sg = true then some (p.2, true, idxS p.1) else (slP f n (skipH f n p.2)).map (fun j => (j.1, false, slcS (some p.1) j.2.1 j.2.2))
def slsL (orL : Nat → Option (Nat × CT)) (sg : Bool) : Nat → Nat → Bool → Bool → List QT → Option (Nat × Bool × List QT)
  | 0, _, _, _, _ => none
  | k + 1, j, fst, fl, ac => match selP f n orL sg (skipH f n j) with
    | none => none
    | some p => if hereV f n (skipH f n p.1) = 93 then some (skipH f n p.1 + 1, fl && (fst && p.2.1), ac ++ [p.2.2]) else if sg = true ∨ ¬ hereV f n (skipH f n p.1) = 44 then none else slsL orL sg k (skipH f n p.1 + 1) false (fl && (fst && p.2.1)) (ac ++ [p.2.2])
/-- selectors in brackets; ok: one more bracket may be opened -/
def slsP (ok : Bool) (orL : Nat → Option (Nat × CT)) (sg : Bool) (i : Nat) : Option (Nat × Bool × List QT) := if hereV f n i = 91 ∧ ok = true then slsL f n orL sg (n + 1) (i + 1) true true [] else none
def sgN (sg : Bool) (j : Nat) (fl ds : Bool) : Option (Nat × Bool × QT) := if hereV f n j = 42 ∧ sg = false then some (j + 1, false, segS ds [eachS]) else if ¬ letH (hereV f n j) then none else some (nmE f n (n + 1) j, fl, segS ds [namS (nmT_ f n j (nmE f n (n + 1) j))])
def sgP (ok : Bool) (orL : Nat → Option (Nat × CT)) (sg : Bool) (i : Nat) : Option (Nat × Bool × QT) :=
  if hereV f n i = 46 then (if hereV f n (i + 1) = 46 ∧ sg = false then (if hereV f n (i + 2) = 91 then (slsP f n ok orL sg (i + 2)).map (fun p => (p.1, false, segS true p.2.2)) else sgN f n sg (i + 2) false true) else sgN f n sg (i + 1) true false)
  else (slsP f n ok orL sg i).map (fun p => (p.1, p.2.1, segS false p.2.2))
def qrL (ok : Bool) (orL : Nat → Option (Nat × CT)) (sg : Bool) : Nat → Nat → Bool → List QT → Option (Nat × Bool × List QT)
  | 0, _, _, _ => none
  | k + 1, i, fl, ac => if ¬ hereV f n (skipH f n i) = 46 ∧ ¬ hereV f n (skipH f n i) = 91 then some (i, fl, ac) else match sgP f n ok orL sg (skipH f n i) with
    | none => none
    | some p => qrL ok orL sg k p.1 (fl && p.2.1) (ac ++ [p.2.2])
/-- the segments of a query -/
def qrP (ok : Bool) (orL : Nat → Option (Nat × CT)) (sg rt : Bool) (i : Nat) : Option (Nat × Bool × QT) := (qrL f n ok orL sg (n + 1) i true []).map (fun p => (p.1, p.2.1, qryS rt p.2.2))
abbrev begC (x : Int32) : Prop := x = 64 ∨ x = 36
/-- the name of a function, and where it ends -/
def fnP (i : Nat) : Option Nat := if hereV f n i = 108 then (if mtB f n i (mtx 11) 6 = true then some (i + 6) else none) else if hereV f n i = 99 then (if mtB f n i (mtx 12) 5 = true then some (i + 5) else none) else if hereV f n i = 118 then (if mtB f n i (mtx 13) 5 = true then some (i + 5) else none) else none
/-- what stands in a function's brackets, and what the function makes of it -/
def fnA (cmL : Nat → Option (Nat × OT)) (qyL : Bool → Nat → Option (Nat × Bool × QT)) (i j : Nat) : Option (Nat × OT) := if hereV f n i = 108 then (cmL j).map (fun p => (p.1, lenO p.2)) else if begC (hereV f n j) then (qyL (decide (hereV f n j = 36)) (j + 1)).map (fun p => (p.1, if hereV f n i = 99 then cntO p.2.2 else onlO p.2.2)) else none
/-- a function, behind its name -/
def fnT (ok : Bool) (cmL : Nat → Option (Nat × OT)) (qyL : Bool → Nat → Option (Nat × Bool × QT)) (i j : Nat) : Option (Nat × OT) := if ¬ (hereV f n j = 40 ∧ ok = true) then none else match fnA f n cmL qyL i (skipH f n (j + 1)) with
      | none => none
      | some j2 => if hereV f n (skipH f n j2.1) = 41 then some (skipH f n j2.1 + 1, j2.2) else none
/-- what may be compared -/
def cmP (ok : Bool) (orL : Nat → Option (Nat × CT)) (cmL : Nat → Option (Nat × OT)) (qyL : Bool → Nat → Option (Nat × Bool × QT)) (i : Nat) : Option (Nat × OT) :=
  if numC (hereV f n i) then (whM f n i).map (fun p => (p.2, litO (3, p.1, [])))
  else if hereV f n i = 39 ∨ hereV f n i = 34 then (qtQ f n (hereV f n i) i).map (fun p => (p.2, litO (4, 0, p.1)))
  else if begC (hereV f n i) then (qrP f n ok orL true (decide (hereV f n i = 36)) (i + 1)).map (fun p => (p.1, onlO p.2.2))
  else if hereV f n i = 116 then (if mtB f n i (mtx 2) 4 = true then some (i + 4, litO (1, 0, [])) else none)
  else if hereV f n i = 102 then (if mtB f n i (mtx 3) 5 = true then some (i + 5, litO (2, 0, [])) else none)
  else if hereV f n i = 110 then (if mtB f n i (mtx 1) 4 = true then some (i + 4, litO (0, 0, [])) else none)
  else match fnP f n i with
    | none => none
    | some j => fnT f n ok cmL qyL i j
/-- a sign of comparison: where it ends, which -/
def opP (j : Nat) : Option (Nat × Nat) := if hereV f n j = 61 then (if mtB f n j (mtx 9) 2 = true then some (j + 2, 0) else none) else if hereV f n j = 33 then (if mtB f n j (mtx 10) 2 = true then some (j + 2, 1) else none) else if hereV f n j = 60 ∨ hereV f n j = 62 then (if hereV f n (j + 1) = 61 then some (j + 2, if hereV f n j = 60 then 3 else 5) else some (j + 1, if hereV f n j = 60 then 2 else 4)) else none
/-- a sign of comparison and what stands behind it -/
def cpP (cm : Nat → Option (Nat × OT)) (x : OT) (j : Nat) : Option (Nat × CT) :=
  match opP f n j with
  | none => none
  | some j2 => (cm (skipH f n j2.1)).map (fun p => (p.1, cmpC j2.2 x p.2))
/-- a simple condition behind its sign of denial -/
def baB (ok : Bool) (orL : Nat → Option (Nat × CT)) (cmL : Nat → Option (Nat × OT)) (qyL : Bool → Nat → Option (Nat × Bool × QT)) (nt : Bool) (i1 : Nat) : Option (Nat × CT) :=
  if hereV f n i1 = 40 then
    (if ok = false then none else match orL (skipH f n (i1 + 1)) with
      | none => none
      | some j => if hereV f n (skipH f n j.1) = 41 then some (skipH f n j.1 + 1, if nt = true then notC j.2 else j.2) else none)
  else if begC (hereV f n i1) then
    (match qrP f n ok orL false (decide (hereV f n i1 = 36)) (i1 + 1) with
      | none => none
      | some p => if nt = false ∧ opH (hereV f n (skipH f n p.1)) then (if p.2.1 = false then none else cpP f n (cmP f n ok orL cmL qyL) (onlO p.2.2) (skipH f n p.1)) else some (p.1, if nt = true then notC (tstC p.2.2) else tstC p.2.2))
  else if nt = true then none
  else match cmP f n ok orL cmL qyL i1 with
    | none => none
    | some j => cpP f n (cmP f n ok orL cmL qyL) j.2 (skipH f n j.1)
/-- a simple condition -/
def baP (ok : Bool) (orL : Nat → Option (Nat × CT)) (cmL : Nat → Option (Nat × OT)) (qyL : Bool → Nat → Option (Nat × Bool × QT)) (i : Nat) : Option (Nat × CT) := baB f n ok orL cmL qyL (decide (hereV f n i = 33)) (if hereV f n i = 33 then skipH f n (i + 1) else i)
/-- ones of the same kind with a sign between: the sign is c twice, the text tx -/
def liP (one : Nat → Option (Nat × CT)) (c : Int32) (tx : Nat) : Nat → Nat → List CT → Option (Nat × List CT)
  | 0, _, _ => none
  | k + 1, i, ac => match one i with
    | none => none
    | some j => if ¬ hereV f n (skipH f n j.1) = c then some (j.1, ac ++ [j.2]) else if mtB f n (skipH f n j.1) (mtx tx) 2 = true then liP one c tx k (skipH f n (skipH f n j.1 + 2)) (ac ++ [j.2]) else none
def anP (ok : Bool) (orL : Nat → Option (Nat × CT)) (cmL : Nat → Option (Nat × OT)) (qyL : Bool → Nat → Option (Nat × Bool × QT)) (i : Nat) : Option (Nat × CT) := (liP f n (baP f n ok orL cmL qyL) 38 8 (n + 1) i []).map (fun p => (p.1, allC p.2))
def orP (ok : Bool) (orL : Nat → Option (Nat × CT)) (cmL : Nat → Option (Nat × OT)) (qyL : Bool → Nat → Option (Nat × Bool × QT)) (i : Nat) : Option (Nat × CT) := (liP f n (anP f n ok orL cmL qyL) 124 7 (n + 1) i []).map (fun p => (p.1, anyC_ p.2))
/-- conditions, what may be compared, and queries, where d brackets may still be opened -/
def DDf : Nat → (Nat → Option (Nat × CT)) × (Nat → Option (Nat × OT)) × (Bool → Nat → Option (Nat × Bool × QT))
  | 0 => (orP f n false (fun _ => none) (fun _ => none) (fun _ _ => none), cmP f n false (fun _ => none) (fun _ => none) (fun _ _ => none), qrP f n false (fun _ => none) false)
  | d + 1 => (orP f n true (DDf d).1 (DDf d).2.1 (DDf d).2.2, cmP f n true (DDf d).1 (DDf d).2.1 (DDf d).2.2, qrP f n true (DDf d).1 false)
/-- a whole query: is it singular, and what it means -/
def pQ : Option (Bool × QT) := if hereV f n 0 = 36 then (match (DDf f n 16).2.2 true 1 with
  | none => none
  | some p => if p.1 < n then none else some p.2) else none
end
