/-- a predicate on the rows lo .. hi, whose head is row a; s: how many units are said -/
abbrev QP : Type := (Nat → Int32) → Nat → Nat → Nat → Nat → Prop
/-- the rows lo .. hi are alike, but for field lk of row a -/
def agr (q q2 : Nat → Int32) (lo hi a lk : Nat) : Prop := ∀ r k, lo ≤ r → r < hi → k < 8 → ¬ (r = a ∧ k = lk) → q2 (8 * r + k) = q (8 * r + k)
/-- a predicate that does not look at field lk of its head, nor outside -/
def Frm (lk : Nat) (P : QP) : Prop := ∀ q q2 s s2 lo hi a, P q s lo hi a → s ≤ s2 → agr q q2 lo hi a lk → P q2 s2 lo hi a
/-- its head lies in it -/
def Inn (P : QP) : Prop := ∀ q s lo hi a, P q s lo hi a → lo ≤ a ∧ a < hi
theorem agr.sub {q q2 : Nat → Int32} {lo hi a lk lo2 hi2 a2 lk2 : Nat} (h : agr q q2 lo hi a lk) (h1 : lo ≤ lo2) (h2 : hi2 ≤ hi) (h3 : ¬ (lo2 ≤ a ∧ a < hi2)) : agr q q2 lo2 hi2 a2 lk2 := fun r k hr1 hr2 hk _ => h r k (by omega) (by omega) hk (fun e => h3 (by omega))
theorem agr.sub' {q q2 : Nat → Int32} {lo hi a lk lo2 hi2 lk2 : Nat} (h : agr q q2 lo hi a lk) (h1 : lo ≤ lo2) (h2 : hi2 ≤ hi) (h3 : lk = lk2) : agr q q2 lo2 hi2 a lk2 := fun r k hr1 hr2 hk he => h r k (by omega) (by omega) hk (by rw [h3]; exact he)
/-- a chain of m heads, each at field lk of the one before, up to z -/
def CHn (lk : Nat) (P : QP) (q : Nat → Int32) (s hi : Nat) (z : Int32) : Nat → Nat → Int32 → Prop
  | 0, _, k => k = z
  | m + 1, lo, k => ∃ a lo2 hi2, k = nI a ∧ lo ≤ lo2 ∧ hi2 ≤ hi ∧ P q s lo2 hi2 a ∧ CHn lk P q s hi z m hi2 (q (8 * a + lk))
theorem CHn_fr {lk : Nat} {P : QP} (hP : Frm lk P) (hI : Inn P) (hlk : lk < 8) {q q2 : Nat → Int32} {s s2 hi : Nat} {z : Int32} (hs : s ≤ s2) : ∀ (m lo : Nat) (k : Int32), CHn lk P q s hi z m lo k → (∀ r k, lo ≤ r → r < hi → k < 8 → q2 (8 * r + k) = q (8 * r + k)) → CHn lk P q2 s2 hi z m lo k := by
  intro m
  induction m with
  | zero => intro lo k h _; exact h
  | succ m ih =>
    intro lo k h ha
    obtain ⟨a, lo2, hi2, e1, e2, e3, e4, e5⟩ := h
    have hin := hI _ _ _ _ _ e4
    refine ⟨a, lo2, hi2, e1, e2, e3, hP _ _ _ _ _ _ _ e4 hs (fun r k h1 h2 h3 _ => ha r k (by omega) (by omega) h3), ?_⟩
    rw [ha a lk (by omega) (by omega) hlk]
    exact ih hi2 _ e5 (fun r k h1 h2 h3 => ha r k (by omega) h2 h3)
/-- one more at the end -/
theorem CHn_snoc {lk : Nat} {P : QP} (hI : Inn P) {q : Nat → Int32} {s hi mid a lo2 hi2 : Nat} {z : Int32} (h1 : mid ≤ lo2) (h2 : hi2 ≤ hi) (h3 : P q s lo2 hi2 a) (h4 : q (8 * a + lk) = z) : ∀ (m lo : Nat) (k : Int32), lo ≤ mid → CHn lk P q s mid (nI a) m lo k → CHn lk P q s hi z (m + 1) lo k := by
  intro m
  induction m with
  | zero => intro lo k hlo h; exact ⟨a, lo2, hi2, h, by omega, h2, h3, h4⟩
  | succ m ih =>
    intro lo k hlo h
    obtain ⟨b, lo3, hi3, e1, e2, e3, e4, e5⟩ := h
    have hin := hI _ _ _ _ _ e4
    have hin2 := hI _ _ _ _ _ h3
    exact ⟨b, lo3, hi3, e1, e2, by omega, e4, ih hi3 _ e3 e5⟩
/-- the chain so far, its last apart: k is where it begins (or -1), bf its last (or -1) -/
def KQ (lk : Nat) (P : QP) (q : Nat → Int32) (s lo hi : Nat) (k bf : Int32) : Prop := (k = -1 ∧ bf = -1) ∨ ∃ m a lo2 hi2 mid, bf = nI a ∧ lo ≤ mid ∧ mid ≤ lo2 ∧ hi2 ≤ hi ∧ CHn lk P q s mid (nI a) m lo k ∧ P q s lo2 hi2 a ∧ q (8 * a + lk) = -1
theorem KQ.all {lk : Nat} {P : QP} (hI : Inn P) {q : Nat → Int32} {s lo hi : Nat} {k bf : Int32} (h : KQ lk P q s lo hi k bf) : ∃ m, CHn lk P q s hi (-1) m lo k := by
  rcases h with ⟨h1, h2⟩ | ⟨m, a, lo2, hi2, mid, e1, e2, e3, e4, e5, e6, e7⟩
  · exact ⟨0, h1⟩
  · exact ⟨m + 1, CHn_snoc hI e3 e4 e6 e7 m lo k e2 e5⟩
theorem KQ.fr {lk : Nat} {P : QP} (hP : Frm lk P) (hI : Inn P) (hlk : lk < 8) {q q2 : Nat → Int32} {s s2 lo hi : Nat} {k bf : Int32} (h : KQ lk P q s lo hi k bf) (hs : s ≤ s2) (ha : ∀ r k, lo ≤ r → r < hi → k < 8 → q2 (8 * r + k) = q (8 * r + k)) : KQ lk P q2 s2 lo hi k bf := by
  rcases h with h | ⟨m, a, lo2, hi2, mid, e1, e2, e3, e4, e5, e6, e7⟩
  · exact Or.inl h
  · have hin := hI _ _ _ _ _ e6
    refine Or.inr ⟨m, a, lo2, hi2, mid, e1, e2, e3, e4, CHn_fr hP hI hlk hs m lo k e5 (fun r k h1 h2 h3 => ha r k h1 (by omega) h3), hP _ _ _ _ _ _ _ e6 hs (fun r k h1 h2 h3 _ => ha r k (by omega) (by omega) h3), ?_⟩
    rw [ha a lk (by omega) (by omega) hlk]; exact e7
/-- the first of a chain -/
theorem KQ.one {lk : Nat} {P : QP} {q : Nat → Int32} {s lo hi lo2 a : Nat} (h1 : lo ≤ lo2) (h3 : P q s lo2 hi a) (h4 : q (8 * a + lk) = -1) : KQ lk P q s lo hi (nI a) (nI a) := Or.inr ⟨0, a, lo2, hi, lo2, rfl, h1, Nat.le_refl _, Nat.le_refl _, rfl, h3, h4⟩
/-- one more: the last of before gets its link -/
theorem KQ.add {lk : Nat} {P : QP} (hP : Frm lk P) (hI : Inn P) (hlk : lk < 8) {q : Nat → Int32} {s lo hi hi3 lo3 a c : Nat} {k : Int32} (h : KQ lk P q s lo hi k (nI a)) (hab : a < 2 ^ 28) (hhi : hi < 2 ^ 28) (h1 : hi ≤ lo3) (h3 : P q s lo3 hi3 c) (h4 : q (8 * c + lk) = -1) : KQ lk P (upd q (8 * a + lk) (nI c)) s lo hi3 k (nI c) := by
  have hc := hI _ _ _ _ _ h3
  rcases h with ⟨h, e⟩ | ⟨m, a2, lo2, hi2, mid, e1, e2, e3, e4, e5, e6, e7⟩
  · exact absurd (show nI a < 0 by rw [e]; decide) (nI_pos (by omega))
  · have hin := hI _ _ _ _ _ e6
    have ea : a = a2 := by
      have h9 := congrArg Int32.toNatClampNeg e1
      rw [nI_clamp (by omega), nI_clamp (by omega)] at h9
      exact h9
    subst ea
    have hne : ∀ r k, k < 8 → ¬ (r = a ∧ k = lk) → upd q (8 * a + lk) (nI c) (8 * r + k) = q (8 * r + k) := fun r k hk he => pk_un (by omega)
    refine Or.inr ⟨m + 1, c, lo3, hi3, lo3, rfl, by omega, Nat.le_refl _, Nat.le_refl _, ?_, hP _ _ _ _ _ _ _ h3 (Nat.le_refl _) (fun r k r1 r2 hk _ => hne r k hk (by omega)), by rw [hne c lk hlk (by omega)]; exact h4⟩
    refine CHn_snoc hI (mid := mid) (lo2 := lo2) (hi2 := hi2) e3 (by omega) (hP _ _ _ _ _ _ _ e6 (Nat.le_refl _) (fun r k r1 r2 hk he => hne r k hk he)) pk_us m lo k e2 ?_
    exact CHn_fr hP hI hlk (Nat.le_refl _) m lo k e5 (fun r k r1 r2 hk => hne r k hk (by omega))
/-- a name in a row: where it begins, how long it is -/
def NMq (q : Nat → Int32) (s x : Nat) : Prop := ∃ st ln, q (8 * x + 2) = nI st ∧ q (8 * x + 3) = nI ln ∧ st + ln ≤ s
theorem NMq_fr {q q2 : Nat → Int32} {s s2 x : Nat} (h : NMq q s x) (hs : s ≤ s2) (h1 : q2 (8 * x + 2) = q (8 * x + 2)) (h2 : q2 (8 * x + 3) = q (8 * x + 3)) : NMq q2 s2 x := by
  obtain ⟨st, ln, e1, e2, e3⟩ := h
  exact ⟨st, ln, h1.trans e1, h2.trans e2, by omega⟩
theorem Frm8 {P : QP} {lk : Nat} (h : Frm lk P) : Frm 8 P := fun q q2 s s2 lo hi a hp hs ha => h q q2 s s2 lo hi a hp hs (fun r k r1 r2 hk _ => ha r k r1 r2 hk (by omega))
theorem Frm.use {P : QP} (h : Frm 8 P) {q q2 : Nat → Int32} {s s2 lo hi a : Nat} (hp : P q s lo hi a) (hs : s ≤ s2) (ha : ∀ r k, lo ≤ r → r < hi → k < 8 → q2 (8 * r + k) = q (8 * r + k)) : P q2 s2 lo hi a := h q q2 s s2 lo hi a hp hs (fun r k r1 r2 hk _ => ha r k r1 r2 hk)
/-- P holds of a head that lies within lo .. hi, apart from row x -/
def Wth (P : QP) (q : Nat → Int32) (s lo hi x a : Nat) : Prop := ∃ lo2 hi2, lo ≤ lo2 ∧ hi2 ≤ hi ∧ ¬ (lo2 ≤ x ∧ x < hi2) ∧ P q s lo2 hi2 a
theorem Wth_fr {P : QP} (h : Frm 8 P) {lk : Nat} {q q2 : Nat → Int32} {s s2 lo hi x a : Nat} (hp : Wth P q s lo hi x a) (hs : s ≤ s2) (ha : agr q q2 lo hi x lk) : Wth P q2 s2 lo hi x a := by
  obtain ⟨lo2, hi2, e1, e2, e3, e4⟩ := hp
  exact ⟨lo2, hi2, e1, e2, e3, h.use e4 hs (fun r k r1 r2 hk => ha r k (by omega) (by omega) hk (fun e => e3 (by omega)))⟩
/-- a selector; O: the conditions that a filter may hold -/
def SELp (O : QP) : QP := fun q s lo hi x => lo ≤ x ∧ x < hi ∧ ((q (8 * x + 0) = 1 ∧ NMq q s x) ∨ q (8 * x + 0) = 2 ∨ q (8 * x + 0) = 3 ∨ q (8 * x + 0) = 4 ∨ (q (8 * x + 0) = 5 ∧ ∃ a, q (8 * x + 2) = nI a ∧ Wth O q s lo hi x a))
theorem SELp_in {O : QP} : Inn (SELp O) := fun _ _ _ _ _ h => ⟨h.1, h.2.1⟩
theorem SELp_fr {O : QP} (hO : Frm 8 O) : Frm 1 (SELp O) := by
  intro q q2 s s2 lo hi x h hs ha
  obtain ⟨h1, h2, h3⟩ := h
  have f0 := ha x 0 h1 h2 (by decide) (by omega)
  have f2 := ha x 2 h1 h2 (by decide) (by omega)
  have f3 := ha x 3 h1 h2 (by decide) (by omega)
  refine ⟨h1, h2, ?_⟩
  rw [f0]
  rcases h3 with ⟨e, hn⟩ | e | e | e | ⟨e, a, e1, e2⟩
  · exact Or.inl ⟨e, NMq_fr hn hs f2 f3⟩
  · exact Or.inr (Or.inl e)
  · exact Or.inr (Or.inr (Or.inl e))
  · exact Or.inr (Or.inr (Or.inr (Or.inl e)))
  · exact Or.inr (Or.inr (Or.inr (Or.inr ⟨e, a, f2.trans e1, Wth_fr hO e2 hs ha⟩)))
/-- a segment -/
def SEGp (O : QP) : QP := fun q s lo hi x => lo ≤ x ∧ x < hi ∧ (q (8 * x + 1) = 0 ∨ q (8 * x + 1) = 1) ∧ ∃ m, CHn 1 (SELp O) q s hi (-1) m (x + 1) (q (8 * x + 2))
theorem SEGp_in {O : QP} : Inn (SEGp O) := fun _ _ _ _ _ h => ⟨h.1, h.2.1⟩
theorem SEGp_fr {O : QP} (hO : Frm 8 O) : Frm 3 (SEGp O) := by
  intro q q2 s s2 lo hi x h hs ha
  obtain ⟨h1, h2, h3, m, h4⟩ := h
  have f1 := ha x 1 h1 h2 (by decide) (by omega)
  have f2 := ha x 2 h1 h2 (by decide) (by omega)
  refine ⟨h1, h2, by rw [f1]; exact h3, m, ?_⟩
  rw [f2]
  exact CHn_fr (SELp_fr hO) SELp_in (by decide) hs m _ _ h4 (fun r k r1 r2 hk => ha r k (by omega) r2 hk (by omega))
/-- a query -/
def QRYp (O : QP) : QP := fun q s lo hi x => lo ≤ x ∧ x < hi ∧ (q (8 * x + 1) = 0 ∨ q (8 * x + 1) = 1) ∧ ∃ m, CHn 3 (SEGp O) q s hi (-1) m (x + 1) (q (8 * x + 2))
theorem QRYp_in {O : QP} : Inn (QRYp O) := fun _ _ _ _ _ h => ⟨h.1, h.2.1⟩
theorem QRYp_fr {O : QP} (hO : Frm 8 O) : Frm 3 (QRYp O) := by
  intro q q2 s s2 lo hi x h hs ha
  obtain ⟨h1, h2, h3, m, h4⟩ := h
  have f1 := ha x 1 h1 h2 (by decide) (by omega)
  have f2 := ha x 2 h1 h2 (by decide) (by omega)
  refine ⟨h1, h2, by rw [f1]; exact h3, m, ?_⟩
  rw [f2]
  exact CHn_fr (SEGp_fr hO) SEGp_in (by decide) hs m _ _ h4 (fun r k r1 r2 hk => ha r k (by omega) r2 hk (by omega))
/-- what may be compared; C, Y: what may stand in brackets -/
def CMPf (O C Y : QP) : QP := fun q s lo hi x => lo ≤ x ∧ x < hi ∧ (q (8 * x + 0) = 40 ∨ (q (8 * x + 0) = 41 ∧ NMq q s x) ∨ q (8 * x + 0) = 42 ∨ q (8 * x + 0) = 43 ∨ q (8 * x + 0) = 44 ∨ (q (8 * x + 0) = 45 ∧ ∃ a, q (8 * x + 2) = nI a ∧ Wth (QRYp O) q s lo hi x a) ∨ (q (8 * x + 0) = 46 ∧ ∃ a, q (8 * x + 2) = nI a ∧ Wth C q s lo hi x a) ∨ ((q (8 * x + 0) = 47 ∨ q (8 * x + 0) = 48) ∧ ∃ a, q (8 * x + 2) = nI a ∧ Wth Y q s lo hi x a))
theorem CMPf_in {O C Y : QP} : Inn (CMPf O C Y) := fun _ _ _ _ _ h => ⟨h.1, h.2.1⟩
theorem CMPf_fr {O C Y : QP} (hO : Frm 8 O) (hC : Frm 8 C) (hY : Frm 8 Y) : Frm 8 (CMPf O C Y) := by
  intro q q2 s s2 lo hi x h hs ha
  obtain ⟨h1, h2, h3⟩ := h
  have f0 := ha x 0 h1 h2 (by decide) (by omega)
  have f2 := ha x 2 h1 h2 (by decide) (by omega)
  have f3 := ha x 3 h1 h2 (by decide) (by omega)
  refine ⟨h1, h2, ?_⟩
  rw [f0]
  rcases h3 with e | ⟨e, hn⟩ | e | e | e | ⟨e, a, e1, e2⟩ | ⟨e, a, e1, e2⟩ | ⟨e, a, e1, e2⟩
  · exact Or.inl e
  · exact Or.inr (Or.inl ⟨e, NMq_fr hn hs f2 f3⟩)
  · exact Or.inr (Or.inr (Or.inl e))
  · exact Or.inr (Or.inr (Or.inr (Or.inl e)))
  · exact Or.inr (Or.inr (Or.inr (Or.inr (Or.inl e))))
  · exact Or.inr (Or.inr (Or.inr (Or.inr (Or.inr (Or.inl ⟨e, a, f2.trans e1, Wth_fr (Frm8 (QRYp_fr hO)) e2 hs ha⟩)))))
  · exact Or.inr (Or.inr (Or.inr (Or.inr (Or.inr (Or.inr (Or.inl ⟨e, a, f2.trans e1, Wth_fr hC e2 hs ha⟩))))))
  · exact Or.inr (Or.inr (Or.inr (Or.inr (Or.inr (Or.inr (Or.inr ⟨e, a, f2.trans e1, Wth_fr hY e2 hs ha⟩))))))
/-- is there such a node? -/
def TSTp (O : QP) : QP := fun q s lo hi x => lo ≤ x ∧ x < hi ∧ q (8 * x + 0) = 34 ∧ ∃ a, q (8 * x + 2) = nI a ∧ Wth (QRYp O) q s lo hi x a
theorem TSTp_fr {O : QP} (hO : Frm 8 O) : Frm 8 (TSTp O) := by
  intro q q2 s s2 lo hi x h hs ha
  obtain ⟨h1, h2, h3, a, h4, h5⟩ := h
  exact ⟨h1, h2, (ha x 0 h1 h2 (by decide) (by omega)).trans h3, a, (ha x 2 h1 h2 (by decide) (by omega)).trans h4, Wth_fr (Frm8 (QRYp_fr hO)) h5 hs ha⟩
/-- a simple condition -/
def BASf (O C Y : QP) : QP := fun q s lo hi x => lo ≤ x ∧ x < hi ∧ ((q (8 * x + 0) = 33 ∧ ∃ a b, q (8 * x + 2) = nI a ∧ q (8 * x + 3) = nI b ∧ Wth (CMPf O C Y) q s lo hi x a ∧ Wth (CMPf O C Y) q s lo hi x b) ∨ ((q (8 * x + 0) = 32 ∨ q (8 * x + 0) = 35) ∧ ∃ a, q (8 * x + 2) = nI a ∧ (Wth O q s lo hi x a ∨ Wth (TSTp O) q s lo hi x a)))
theorem BASf_in {O C Y : QP} : Inn (BASf O C Y) := fun _ _ _ _ _ h => ⟨h.1, h.2.1⟩
theorem BASf_fr {O C Y : QP} (hO : Frm 8 O) (hC : Frm 8 C) (hY : Frm 8 Y) : Frm 1 (BASf O C Y) := by
  intro q q2 s s2 lo hi x h hs ha
  obtain ⟨h1, h2, h3⟩ := h
  have f0 := ha x 0 h1 h2 (by decide) (by omega)
  have f2 := ha x 2 h1 h2 (by decide) (by omega)
  have f3 := ha x 3 h1 h2 (by decide) (by omega)
  refine ⟨h1, h2, ?_⟩
  rw [f0]
  rcases h3 with ⟨e, a, b, e1, e2, e3, e4⟩ | ⟨e, a, e1, e2⟩
  · exact Or.inl ⟨e, a, b, f2.trans e1, f3.trans e2, Wth_fr (CMPf_fr hO hC hY) e3 hs ha, Wth_fr (CMPf_fr hO hC hY) e4 hs ha⟩
  · exact Or.inr ⟨e, a, f2.trans e1, e2.imp (fun z => Wth_fr hO z hs ha) (fun z => Wth_fr (TSTp_fr hO) z hs ha)⟩
def ANDf (O C Y : QP) : QP := fun q s lo hi x => lo ≤ x ∧ x < hi ∧ q (8 * x + 0) = 31 ∧ ∃ m, CHn 1 (BASf O C Y) q s hi (-1) m (x + 1) (q (8 * x + 2))
theorem ANDf_in {O C Y : QP} : Inn (ANDf O C Y) := fun _ _ _ _ _ h => ⟨h.1, h.2.1⟩
theorem ANDf_fr {O C Y : QP} (hO : Frm 8 O) (hC : Frm 8 C) (hY : Frm 8 Y) : Frm 1 (ANDf O C Y) := by
  intro q q2 s s2 lo hi x h hs ha
  obtain ⟨h1, h2, h3, m, h4⟩ := h
  have f0 := ha x 0 h1 h2 (by decide) (by omega)
  have f2 := ha x 2 h1 h2 (by decide) (by omega)
  refine ⟨h1, h2, f0.trans h3, m, ?_⟩
  rw [f2]
  exact CHn_fr (BASf_fr hO hC hY) BASf_in (by decide) hs m _ _ h4 (fun r k r1 r2 hk => ha r k (by omega) r2 hk (by omega))
def ORf (O C Y : QP) : QP := fun q s lo hi x => lo ≤ x ∧ x < hi ∧ q (8 * x + 0) = 30 ∧ ∃ m, CHn 1 (ANDf O C Y) q s hi (-1) m (x + 1) (q (8 * x + 2))
theorem ORf_in {O C Y : QP} : Inn (ORf O C Y) := fun _ _ _ _ _ h => ⟨h.1, h.2.1⟩
theorem ORf_fr {O C Y : QP} (hO : Frm 8 O) (hC : Frm 8 C) (hY : Frm 8 Y) : Frm 8 (ORf O C Y) := by
  intro q q2 s s2 lo hi x h hs ha
  obtain ⟨h1, h2, h3, m, h4⟩ := h
  have f0 := ha x 0 h1 h2 (by decide) (by omega)
  have f2 := ha x 2 h1 h2 (by decide) (by omega)
  refine ⟨h1, h2, f0.trans h3, m, ?_⟩
  rw [f2]
  exact CHn_fr (ANDf_fr hO hC hY) ANDf_in (by decide) hs m _ _ h4 (fun r k r1 r2 hk => ha r k (by omega) r2 hk (by omega))
def noQ : QP := fun _ _ _ _ _ => False
theorem noQ_fr : Frm 8 noQ := fun _ _ _ _ _ _ _ h => h.elim
/-- conditions, what may be compared, and queries, with at most d brackets one in another -/
def DDp : Nat → QP × QP × QP
  | 0 => (ORf noQ noQ noQ, CMPf noQ noQ noQ, QRYp noQ)
  | d + 1 => (ORf (DDp d).1 (DDp d).2.1 (DDp d).2.2, CMPf (DDp d).1 (DDp d).2.1 (DDp d).2.2, QRYp (DDp d).1)
theorem DDp_fr : ∀ d, Frm 8 (DDp d).1 ∧ Frm 8 (DDp d).2.1 ∧ Frm 8 (DDp d).2.2 := by
  intro d
  induction d with
  | zero => exact ⟨ORf_fr noQ_fr noQ_fr noQ_fr, CMPf_fr noQ_fr noQ_fr noQ_fr, Frm8 (QRYp_fr noQ_fr)⟩
  | succ d ih => exact ⟨ORf_fr ih.1 ih.2.1 ih.2.2, CMPf_fr ih.1 ih.2.1 ih.2.2, Frm8 (QRYp_fr ih.1)⟩
section
variable (f : Nat → Int32) (n : Nat)
/-- behind a name's letters and digits -/
def nmE : Nat → Nat → Nat
  | 0, j => j
  | k + 1, j => if letH (hereV f n j) ∨ digH (hereV f n j) then nmE k (j + 1) else j
abbrev numC (x : Int32) : Prop := x = 45 ∨ digH x
/-- a slice, from its first colon on -/
def slP (j : Nat) : Option Nat :=
  match (if numC (hereV f n (skipH f n (j + 1))) then (whM f n (skipH f n (j + 1))).map (·.2) else some (skipH f n (j + 1))) with
  | none => none
  | some j2 => if ¬ hereV f n (skipH f n j2) = 58 then some j2 else if numC (hereV f n (skipH f n (skipH f n j2 + 1))) then (whM f n (skipH f n (skipH f n j2 + 1))).map (·.2) else some (skipH f n j2 + 1)
/-- a selector: where it ends, and whether a query with it alone has one node at most; orL: a filter's condition -/
def selP (orL : Nat → Option Nat) (sg : Bool) (i : Nat) : Option (Nat × Bool) :=
  if hereV f n i = 39 ∨ hereV f n i = 34 then (qtQ f n (hereV f n i) i).map (fun p => (p.2, true))
  else if hereV f n i = 42 ∧ sg = false then some (i + 1, false)
  else if hereV f n i = 63 ∧ sg = false then (orL (skipH f n (i + 1))).map (fun j => (j, false))
  else if ¬ hereV f n i = 45 ∧ ¬ digH (hereV f n i) ∧ (¬ hereV f n i = 58 ∨ sg = true) then none
  else if hereV f n i = 58 then (slP f n i).map (fun j => (j, false))
  else match whM f n i with
    | none => none
    | some p => if ¬ hereV f n (skipH f n p.2) = 58 ∨ sg = true then some (p.2, true) else (slP f n (skipH f n p.2)).map (fun j => (j, false))
def slsL (orL : Nat → Option Nat) (sg : Bool) : Nat → Nat → Bool → Bool → Option (Nat × Bool)
  | 0, _, _, _ => none
  | k + 1, j, fst, fl => match selP f n orL sg (skipH f n j) with
    | none => none
    | some p => if hereV f n (skipH f n p.1) = 93 then some (skipH f n p.1 + 1, fl && (fst && p.2)) else if sg = true ∨ ¬ hereV f n (skipH f n p.1) = 44 then none else slsL orL sg k (skipH f n p.1 + 1) false (fl && (fst && p.2))
/-- selectors in brackets; ok: one more bracket may be opened -/
def slsP (ok : Bool) (orL : Nat → Option Nat) (sg : Bool) (i : Nat) : Option (Nat × Bool) := if hereV f n i = 91 ∧ ok = true then slsL f n orL sg (n + 1) (i + 1) true true else none
def sgN (sg : Bool) (j : Nat) (fl : Bool) : Option (Nat × Bool) := if hereV f n j = 42 ∧ sg = false then some (j + 1, false) else if ¬ letH (hereV f n j) then none else some (nmE f n (n + 1) j, fl)
def sgP (ok : Bool) (orL : Nat → Option Nat) (sg : Bool) (i : Nat) : Option (Nat × Bool) :=
  if hereV f n i = 46 then (if hereV f n (i + 1) = 46 ∧ sg = false then (if hereV f n (i + 2) = 91 then (slsP f n ok orL sg (i + 2)).map (fun p => (p.1, false)) else sgN f n sg (i + 2) false) else sgN f n sg (i + 1) true)
  else slsP f n ok orL sg i
def qrL (ok : Bool) (orL : Nat → Option Nat) (sg : Bool) : Nat → Nat → Bool → Option (Nat × Bool)
  | 0, _, _ => none
  | k + 1, i, fl => if ¬ hereV f n (skipH f n i) = 46 ∧ ¬ hereV f n (skipH f n i) = 91 then some (i, fl) else match sgP f n ok orL sg (skipH f n i) with
    | none => none
    | some p => qrL ok orL sg k p.1 (fl && p.2)
/-- the segments of a query -/
def qrP (ok : Bool) (orL : Nat → Option Nat) (sg : Bool) (i : Nat) : Option (Nat × Bool) := qrL f n ok orL sg (n + 1) i true
abbrev begC (x : Int32) : Prop := x = 64 ∨ x = 36
/-- what may be compared -/
def cmP (ok : Bool) (orL cmL : Nat → Option Nat) (qyL : Nat → Option (Nat × Bool)) (i : Nat) : Option Nat :=
  if numC (hereV f n i) then (whM f n i).map (·.2)
  else if hereV f n i = 39 ∨ hereV f n i = 34 then (qtQ f n (hereV f n i) i).map (·.2)
  else if begC (hereV f n i) then (qrP f n ok orL true (i + 1)).map (·.1)
  else if hereV f n i = 116 then (if mtB f n i (mtx 2) 4 = true then some (i + 4) else none)
  else if hereV f n i = 102 then (if mtB f n i (mtx 3) 5 = true then some (i + 5) else none)
  else if hereV f n i = 110 then (if mtB f n i (mtx 1) 4 = true then some (i + 4) else none)
  else
    match (if hereV f n i = 108 then (if mtB f n i (mtx 11) 6 = true then some (i + 6) else none) else if hereV f n i = 99 then (if mtB f n i (mtx 12) 5 = true then some (i + 5) else none) else if hereV f n i = 118 then (if mtB f n i (mtx 13) 5 = true then some (i + 5) else none) else none) with
    | none => none
    | some j => if ¬ (hereV f n j = 40 ∧ ok = true) then none else
      match (if hereV f n i = 108 then cmL (skipH f n (j + 1)) else if begC (hereV f n (skipH f n (j + 1))) then (qyL (skipH f n (j + 1) + 1)).map (·.1) else none) with
      | none => none
      | some j2 => if hereV f n (skipH f n j2) = 41 then some (skipH f n j2 + 1) else none
/-- a sign of comparison and what stands behind it -/
def cpP (cm : Nat → Option Nat) (j : Nat) : Option Nat :=
  match (if hereV f n j = 61 then (if mtB f n j (mtx 9) 2 = true then some (j + 2) else none) else if hereV f n j = 33 then (if mtB f n j (mtx 10) 2 = true then some (j + 2) else none) else if hereV f n j = 60 ∨ hereV f n j = 62 then (if hereV f n (j + 1) = 61 then some (j + 2) else some (j + 1)) else none) with
  | none => none
  | some j2 => cm (skipH f n j2)
/-- a simple condition -/
def baP (ok : Bool) (orL cmL : Nat → Option Nat) (qyL : Nat → Option (Nat × Bool)) (i : Nat) : Option Nat :=
  let nt := decide (hereV f n i = 33)
  let i1 := if hereV f n i = 33 then skipH f n (i + 1) else i
  if hereV f n i1 = 40 then
    (if ok = false then none else match orL (skipH f n (i1 + 1)) with
      | none => none
      | some j => if hereV f n (skipH f n j) = 41 then some (skipH f n j + 1) else none)
  else if begC (hereV f n i1) then
    (match qrP f n ok orL false (i1 + 1) with
      | none => none
      | some p => if nt = false ∧ opH (hereV f n (skipH f n p.1)) then (if p.2 = false then none else cpP f n (cmP f n ok orL cmL qyL) (skipH f n p.1)) else some p.1)
  else if nt = true then none
  else match cmP f n ok orL cmL qyL i1 with
    | none => none
    | some j => cpP f n (cmP f n ok orL cmL qyL) (skipH f n j)
/-- ones of the same kind with a sign between: the sign is c twice, the text tx -/
def liP (one : Nat → Option Nat) (c : Int32) (tx : Nat) : Nat → Nat → Option Nat
  | 0, _ => none
  | k + 1, i => match one i with
    | none => none
    | some j => if ¬ hereV f n (skipH f n j) = c then some j else if mtB f n (skipH f n j) (mtx tx) 2 = true then liP one c tx k (skipH f n (skipH f n j + 2)) else none
def anP (ok : Bool) (orL cmL : Nat → Option Nat) (qyL : Nat → Option (Nat × Bool)) (i : Nat) : Option Nat := liP f n (baP f n ok orL cmL qyL) 38 8 (n + 1) i
def orP (ok : Bool) (orL cmL : Nat → Option Nat) (qyL : Nat → Option (Nat × Bool)) (i : Nat) : Option Nat := liP f n (anP f n ok orL cmL qyL) 124 7 (n + 1) i
/-- conditions, what may be compared, and queries, where d brackets may still be opened -/
def DDf : Nat → (Nat → Option Nat) × (Nat → Option Nat) × (Nat → Option (Nat × Bool))
  | 0 => (orP f n false (fun _ => none) (fun _ => none) (fun _ => none), cmP f n false (fun _ => none) (fun _ => none) (fun _ => none), qrP f n false (fun _ => none) false)
  | d + 1 => (orP f n true (DDf d).1 (DDf d).2.1 (DDf d).2.2, cmP f n true (DDf d).1 (DDf d).2.1 (DDf d).2.2, qrP f n true (DDf d).1 false)
/-- a whole query -/
def pQ : Option Bool := if hereV f n 0 = 36 then (match (DDf f n 16).2.2 1 with
  | none => none
  | some p => if p.1 < n then none else some p.2) else none
end
