/-- marks: 0 not looked at, 1 a value whose number changes, 2 a value that stays, 3 all else -/
def SUB (S S' : Nat → Nat) : Prop := ∀ a, ¬ S a = 0 → S' a = S a
def DIS (S S' : Nat → Nat) : Prop := ∀ a, S a = 0 ∨ S' a = 0
def joM (S S' : Nat → Nat) : Nat → Nat := fun a => if S a = 0 then S' a else S a
def onM (a k : Nat) : Nat → Nat := fun b => if b = a then k else 0
theorem SUB.rf {S : Nat → Nat} : SUB S S := fun _ _ => rfl
theorem SUB.tr {S T U : Nat → Nat} (h1 : SUB S T) (h2 : SUB T U) : SUB S U := fun a h => (h2 a (by rw [h1 a h]; exact h)).trans (h1 a h)
theorem SUB.l {S S' : Nat → Nat} : SUB S (joM S S') := fun a h => by unfold joM; rw [if_neg h]
theorem SUB.r {S S' : Nat → Nat} (hd : DIS S S') : SUB S' (joM S S') := fun a h => by
  unfold joM
  rw [if_pos ((hd a).resolve_right h)]
theorem joM_on {S : Nat → Nat} {a k : Nat} (h : S a = 0) : joM S (onM a k) a = k := by
  unfold joM onM
  rw [if_pos h, if_pos rfl]
theorem DIS.on {S : Nat → Nat} {a k : Nat} (h : S a = 0) : DIS S (onM a k) := fun b => by
  by_cases e : b = a
  · left; rw [e]; exact h
  · right; unfold onM; rw [if_neg e]
/-- the numbers are as they were, but for those that change -/
def NUg (S : Nat → Nat) (ν ν' : Nat → Int64) : Prop := ∀ a, ¬ S a = 1 → ν' a = ν a
theorem NUg.rf {S : Nat → Nat} {ν : Nat → Int64} : NUg S ν ν := fun _ _ => rfl
theorem NUg.tr {S : Nat → Nat} {ν ν1 ν2 : Nat → Int64} (h1 : NUg S ν ν1) (h2 : NUg S ν1 ν2) : NUg S ν ν2 := fun a h => (h2 a h).trans (h1 a h)
theorem NUg.up {S T : Nat → Nat} {ν ν1 : Nat → Int64} (h : NUg S ν ν1) (hs : SUB S T) : NUg T ν ν1 := fun a ha => h a (fun e => ha ((hs a (by rw [e]; decide)).trans e))
/-- an object of a number's value, whatever the number -/
def NV (f : Nat → va_E) (b : Nat) : Prop := ∃ nu tx pa na ix nm no sp, f b = vE 3 nu tx none pa na ix nm no sp
/-- the same cell, but for field k -/
def eqx (k : Nat) (e e' : va_E) : Prop := e' = e ∨ ∃ c l o, e = .inr (c, l) ∧ e' = .inr (c, l.set k (va_rf o))
/-- what is marked is as it was -/
def AGR (S : Nat → Nat) (f f' : Nat → va_E) : Prop := ∀ b, (¬ S b = 0 → ¬ S b = 1 → f' b = f b) ∧ (S b = 1 → NV f b → NV f' b)
theorem AGR.sub {S T : Nat → Nat} {f f' : Nat → va_E} (h : AGR T f f') (hs : SUB S T) : AGR S f f' := fun b => ⟨fun h0 h1 => (h b).1 (by rw [hs b h0]; exact h0) (by rw [hs b h0]; exact h1), fun h1 => (h b).2 ((hs b (by rw [h1]; decide)).trans h1)⟩
theorem AGR.same {S : Nat → Nat} {f f' : Nat → va_E} (h : ∀ b, ¬ S b = 0 → f' b = f b) : AGR S f f' := fun b => ⟨fun h0 _ => h b h0, fun h1 hv => by
  obtain ⟨nu, tx, pa, na, ix, nm, no, sp, e⟩ := hv
  exact ⟨nu, tx, pa, na, ix, nm, no, sp, (h b (by rw [h1]; decide)).trans e⟩⟩
theorem pf_ν {f : Nat → va_E} {ν ν' : Nat → Int64} {b : Nat} (h : ν' b = ν b) : pf f ν' b = pf f ν b := by
  unfold pf
  rw [h]
theorem AGR.nu {S : Nat → Nat} {f : Nat → va_E} {ν ν' : Nat → Int64} (h : NUg S ν ν') : AGR S (pf f ν) (pf f ν') := fun b => ⟨fun _ h1 => pf_ν (h b h1), fun _ hv => by
  obtain ⟨nu, tx, pa, na, ix, nm, no, sp, e⟩ := hv
  have e2 : pf f ν' = pf (pf f ν) ν' := by
    funext c
    unfold pf
    split <;> rename_i h9
    · rfl
    · split <;> rename_i h8
      · exact (h9 _ _ _ h8).elim
      · rfl
  rw [e2]
  exact ⟨_, tx, pa, na, ix, nm, no, sp, pf_V e⟩⟩
abbrev RT (M : Type) : Type := (Nat → va_E) → (Nat → Nat) → Nat → M → Prop
def RLE {M : Type} (R R' : RT M) : Prop := ∀ f S a m, R f S a m → R' f S a m
/-- what holds with these marks holds with more -/
def MonS {M : Type} (R : RT M) : Prop := ∀ f S S' a m, R f S a m → SUB S S' → R f S' a m
/-- it looks at nothing that is not marked, nor at field k of its own cell -/
def FrC {M : Type} (k : Nat) (R : RT M) : Prop := ∀ f f' S a m, R f S a m → eqx k (f a) (f' a) → AGR S f f' → R f' S a m
/-- a chain up to z: k the field that leads on -/
def CHE {M : Type} (R : RT M) (k : Nat) (f : Nat → va_E) (S : Nat → Nat) (z : Option Nat) : Option Nat → List M → Prop
  | o, [] => o = z
  | o, m :: l => ∃ a, o = some a ∧ S a = 3 ∧ R f S a m ∧ CHE R k f S z (refE k (f a)) l
abbrev CHD {M : Type} (R : RT M) (k : Nat) (f : Nat → va_E) (S : Nat → Nat) (o : Option Nat) (l : List M) : Prop := CHE R k f S none o l
theorem CHD_le {M : Type} {R R' : RT M} (h : RLE R R') {k : Nat} {f : Nat → va_E} {S : Nat → Nat} {z : Option Nat} : ∀ (l : List M) (o : Option Nat), CHE R k f S z o l → CHE R' k f S z o l := by
  intro l
  induction l with
  | nil => intro o h; exact h
  | cons m l ih =>
    intro o hc
    obtain ⟨a, h1, h2, h3, h4⟩ := hc
    exact ⟨a, h1, h2, h _ _ _ _ h3, ih _ h4⟩
theorem CHD_mo {M : Type} {R : RT M} (h : MonS R) {k : Nat} {f : Nat → va_E} {S S' : Nat → Nat} (hs : SUB S S') {z : Option Nat} : ∀ (l : List M) (o : Option Nat), CHE R k f S z o l → CHE R k f S' z o l := by
  intro l
  induction l with
  | nil => intro o h; exact h
  | cons m l ih =>
    intro o hc
    obtain ⟨a, h1, h2, h3, h4⟩ := hc
    exact ⟨a, h1, (hs a (by rw [h2]; decide)).trans h2, h _ _ _ _ _ h3 hs, ih _ h4⟩
theorem CHD_fr {M : Type} {R : RT M} {j : Nat} (h : FrC j R) {k : Nat} {f f' : Nat → va_E} {S : Nat → Nat} (ha : AGR S f f') {z : Option Nat} : ∀ (l : List M) (o : Option Nat), CHE R k f S z o l → CHE R k f' S z o l := by
  intro l
  induction l with
  | nil => intro o h; exact h
  | cons m l ih =>
    intro o hc
    obtain ⟨a, h1, h2, h3, h4⟩ := hc
    have e := (ha a).1 (by rw [h2]; decide) (by rw [h2]; decide)
    refine ⟨a, h1, h2, h _ _ _ _ _ h3 (Or.inl e) ha, ?_⟩
    rw [e]
    exact ih _ h4
theorem CHE_snoc {M : Type} {R : RT M} {k : Nat} {f : Nat → va_E} {S : Nat → Nat} {y : Nat} {z : Option Nat} {m : M} (hs : S y = 3) (hr : R f S y m) (hz : refE k (f y) = z) : ∀ (l : List M) (o : Option Nat), CHE R k f S (some y) o l → CHE R k f S z o (l ++ [m]) := by
  intro l
  induction l with
  | nil => intro o h; exact ⟨y, h, hs, hr, hz⟩
  | cons m' l ih =>
    intro o hc
    obtain ⟨a, h1, h2, h3, h4⟩ := hc
    exact ⟨a, h1, h2, h3, ih _ h4⟩
/-- a chain under way: o its first, y its last, which is not marked -/
def KI {M : Type} (R : RT M) (k : Nat) (f : Nat → va_E) (S : Nat → Nat) (o : Option Nat) (y : Nat) (l : List M) (m : M) : Prop := CHE R k f S (some y) o l ∧ S y = 0 ∧ R f S y m ∧ refE k (f y) = none
theorem KI.one {M : Type} {R : RT M} {k : Nat} {f : Nat → va_E} {S : Nat → Nat} {y : Nat} {m : M} (h1 : R f S y m) (h2 : S y = 0) (h3 : refE k (f y) = none) : KI R k f S (some y) y [] m := ⟨rfl, h2, h1, h3⟩
theorem KI.all {M : Type} {R : RT M} (hm : MonS R) {k : Nat} {f : Nat → va_E} {S : Nat → Nat} {o : Option Nat} {y : Nat} {l : List M} {m : M} (h : KI R k f S o y l m) : CHD R k f (joM S (onM y 3)) o (l ++ [m]) := by
  obtain ⟨h1, h2, h3, h4⟩ := h
  exact CHE_snoc (joM_on h2) (hm _ _ _ _ _ h3 SUB.l) h4 _ _ (CHD_mo hm SUB.l _ _ h1)
/-- it stays so where nothing of it changes -/
theorem KI.fr {M : Type} {R : RT M} {k : Nat} (hf : FrC k R) {f f' : Nat → va_E} {S : Nat → Nat} {o : Option Nat} {y : Nat} {l : List M} {m : M} (h : KI R k f S o y l m) (ha : AGR S f f') (hy : f' y = f y) : KI R k f' S o y l m := by
  obtain ⟨h1, h2, h3, h4⟩ := h
  exact ⟨CHD_fr hf ha _ _ h1, h2, hf _ _ _ _ _ h3 (Or.inl hy) ha, by rw [hy]; exact h4⟩
/-- one more: v is put behind y -/
theorem KI.add {M : Type} {R : RT M} {k : Nat} (hm : MonS R) (hf : FrC k R) {f f' : Nat → va_E} {S S1 : Nat → Nat} {o : Option Nat} {y v : Nat} {l : List M} {m m1 : M} (h : KI R k f S o y l m) (hv : R f S1 v m1) (hvn : refE k (f v) = none) (hv1 : S1 v = 0) (hvS : S v = 0) (hne : v ≠ y) (hy1 : S1 y = 0) (hd : DIS S S1) (hb : ∀ b, b ≠ y → f' b = f b) (hy : eqx k (f y) (f' y)) (hl : refE k (f' y) = some v) : KI R k f' (joM (joM S (onM y 3)) S1) o v (l ++ [m]) m1 := by
  obtain ⟨h1, h2, h3, h4⟩ := h
  have a1 : AGR S f f' := AGR.same (fun b h0 => hb b (fun e => h0 (by rw [e]; exact h2)))
  have a2 : AGR S1 f f' := AGR.same (fun b h0 => hb b (fun e => h0 (by rw [e]; exact hy1)))
  have d1 : DIS (joM S (onM y 3)) S1 := fun b => by
    by_cases e : b = y
    · right; rw [e]; exact hy1
    · rcases hd b with q | q
      · left; unfold joM onM; rw [if_pos q, if_neg e]
      · right; exact q
  have s1 : SUB S (joM (joM S (onM y 3)) S1) := SUB.l.tr SUB.l
  refine ⟨CHE_snoc ?_ (hm _ _ _ _ _ (hf _ _ _ _ _ h3 hy a1) s1) hl _ _ (CHD_mo hm s1 _ _ (CHD_fr hf a1 _ _ h1)), ?_, hm _ _ _ _ _ (hf _ _ _ _ _ hv (Or.inl (hb v hne)) a2) (SUB.r d1), by rw [hb v hne]; exact hvn⟩
  · show joM (joM S (onM y 3)) S1 y = 3
    have e := joM_on (S := S) (a := y) (k := 3) h2
    unfold joM at e ⊢
    rw [if_neg (by rw [e]; decide)]
    exact e
  · show joM (joM S (onM y 3)) S1 v = 0
    unfold joM onM
    rw [if_pos hvS, if_neg hne, if_pos rfl]
    exact hv1
/-- a selector: K what a filter may say -/
def LDf (K : RT CT) : RT QT := fun f S a m => ∃ kd nm hs ht st sp se fl nx, f a = lE kd nm hs ht st sp se fl nx ∧ ((kd = 0 ∧ ∃ b, nm = some b ∧ S b = 3 ∧ m = namS (txL f b)) ∨ (kd = 1 ∧ m = eachS) ∨ (kd = 2 ∧ m = idxS st) ∨ (kd = 3 ∧ m = slcS (if hs = 0 then none else some st) (if ht = 0 then none else some sp) se) ∨ (kd = 4 ∧ ∃ b g, fl = some b ∧ S b = 3 ∧ K f S b g ∧ m = filS g))
/-- a segment -/
def GDf (K : RT CT) : RT QT := fun f S a m => ∃ ds fi nx, f a = gE ds fi nx ∧ ∃ l, CHD (LDf K) 8 f S fi l ∧ m = segS (decide (¬ ds = 0)) l
/-- a query -/
def QDf (K : RT CT) : RT QT := fun f S a m => ∃ fr sg fi la, f a = qE fr sg fi la ∧ ∃ l, CHD (GDf K) 2 f S fi l ∧ m = qryS (decide (¬ fr = 0)) l
/-- what is compared -/
def ODf (O : RT OT) (Q : RT QT) : RT OT := fun f S a m => ∃ kd va qu inn, f a = oE kd va qu inn ∧ ((kd = 0 ∧ ∃ b x, va = some b ∧ S b = 2 ∧ CL f b x ∧ x.1 < 5 ∧ refE 3 (f b) = none ∧ (∀ q, x.1 = 4 → refE 2 (f b) = some q → S q = 3) ∧ m = litO x) ∨ (kd = 1 ∧ ∃ q s, qu = some q ∧ S q = 3 ∧ Q f S q s ∧ m = onlO s) ∨ (kd = 2 ∧ ∃ b q s, va = some b ∧ S b = 1 ∧ NV f b ∧ qu = some q ∧ S q = 3 ∧ Q f S q s ∧ m = cntO s) ∨ (kd = 3 ∧ ∃ b o x, va = some b ∧ S b = 1 ∧ NV f b ∧ inn = some o ∧ S o = 3 ∧ O f S o x ∧ m = lenO x))
/-- a condition -/
def KDf (K : RT CT) (O : RT OT) (Q : RT QT) : RT CT := fun f S a m => ∃ kd fi nx qu le ri, f a = kE kd fi nx qu le ri ∧ ((kd = 0 ∧ ∃ l, CHD K 2 f S fi l ∧ m = anyC_ l) ∨ (kd = 1 ∧ ∃ l, CHD K 2 f S fi l ∧ m = allC l) ∨ (kd = 2 ∧ ∃ b g, fi = some b ∧ S b = 3 ∧ K f S b g ∧ m = notC g) ∨ (kd = 3 ∧ ∃ q s, qu = some q ∧ S q = 3 ∧ Q f S q s ∧ m = tstC s) ∨ (∃ op x y b c Sl Sr, op ≤ 5 ∧ kd = nI (4 + op) ∧ le = some b ∧ ri = some c ∧ S b = 3 ∧ S c = 3 ∧ SUB Sl S ∧ SUB Sr S ∧ DIS Sl Sr ∧ O f Sl b x ∧ O f Sr c y ∧ m = cmpC op x y))
theorem LDf_le {K K' : RT CT} (h : RLE K K') : RLE (LDf K) (LDf K') := by
  intro f S a m ⟨kd, nm, hs, ht, st, sp, se, fl, nx, e, hx⟩
  refine ⟨kd, nm, hs, ht, st, sp, se, fl, nx, e, ?_⟩
  rcases hx with hx | hx | hx | hx | ⟨h1, b, g, h2, h3, h4, h5⟩
  · exact Or.inl hx
  · exact Or.inr (Or.inl hx)
  · exact Or.inr (Or.inr (Or.inl hx))
  · exact Or.inr (Or.inr (Or.inr (Or.inl hx)))
  · exact Or.inr (Or.inr (Or.inr (Or.inr ⟨h1, b, g, h2, h3, h _ _ _ _ h4, h5⟩)))
theorem LDf_mo {K : RT CT} (h : MonS K) : MonS (LDf K) := by
  intro f S S' a m ⟨kd, nm, hs, ht, st, sp, se, fl, nx, e, hx⟩ hS
  refine ⟨kd, nm, hs, ht, st, sp, se, fl, nx, e, ?_⟩
  rcases hx with ⟨h1, b, h2, h3, h4⟩ | hx | hx | hx | ⟨h1, b, g, h2, h3, h4, h5⟩
  · exact Or.inl ⟨h1, b, h2, (hS b (by rw [h3]; decide)).trans h3, h4⟩
  · exact Or.inr (Or.inl hx)
  · exact Or.inr (Or.inr (Or.inl hx))
  · exact Or.inr (Or.inr (Or.inr (Or.inl hx)))
  · exact Or.inr (Or.inr (Or.inr (Or.inr ⟨h1, b, g, h2, (hS b (by rw [h3]; decide)).trans h3, h _ _ _ _ _ h4 hS, h5⟩)))
theorem AGR.ax {S : Nat → Nat} {f f' : Nat → va_E} (h : AGR S f f') {b k : Nat} (hb : S b = k) (h0 : ¬ k = 0) (h1 : ¬ k = 1) : f' b = f b := (h b).1 (by rw [hb]; exact h0) (by rw [hb]; exact h1)
theorem eqx_L {f f' : Nat → va_E} {a : Nat} {kd : Int32} {nm : Option Nat} {hs ht : Int32} {st sp se : Int64} {fl nx : Option Nat} (h : f a = lE kd nm hs ht st sp se fl nx) (he : eqx 8 (f a) (f' a)) : ∃ nx', f' a = lE kd nm hs ht st sp se fl nx' := by
  rcases he with e | ⟨c, l, o, e1, e2⟩
  · exact ⟨nx, e.trans h⟩
  · have e3 := Sum.inr.inj (h.symm.trans e1)
    obtain ⟨rfl, rfl⟩ := Prod.mk.inj e3
    exact ⟨o, e2⟩
theorem eqx_G {f f' : Nat → va_E} {a : Nat} {ds : Int32} {fi nx : Option Nat} (h : f a = gE ds fi nx) (he : eqx 2 (f a) (f' a)) : ∃ nx', f' a = gE ds fi nx' := by
  rcases he with e | ⟨c, l, o, e1, e2⟩
  · exact ⟨nx, e.trans h⟩
  · have e3 := Sum.inr.inj (h.symm.trans e1)
    obtain ⟨rfl, rfl⟩ := Prod.mk.inj e3
    exact ⟨o, e2⟩
theorem eqx_K {f f' : Nat → va_E} {a : Nat} {kd : Int32} {fi nx qu le ri : Option Nat} (h : f a = kE kd fi nx qu le ri) (he : eqx 2 (f a) (f' a)) : ∃ nx', f' a = kE kd fi nx' qu le ri := by
  rcases he with e | ⟨c, l, o, e1, e2⟩
  · exact ⟨nx, e.trans h⟩
  · have e3 := Sum.inr.inj (h.symm.trans e1)
    obtain ⟨rfl, rfl⟩ := Prod.mk.inj e3
    exact ⟨o, e2⟩
theorem LDf_fr {K : RT CT} (h : FrC 2 K) : FrC 8 (LDf K) := by
  intro f f' S a m ⟨kd, nm, hs, ht, st, sp, se, fl, nx, e, hx⟩ he ha
  obtain ⟨nx', e'⟩ := eqx_L e he
  refine ⟨kd, nm, hs, ht, st, sp, se, fl, nx', e', ?_⟩
  rcases hx with ⟨h1, b, h2, h3, h4⟩ | hx | hx | hx | ⟨h1, b, g, h2, h3, h4, h5⟩
  · exact Or.inl ⟨h1, b, h2, h3, by rw [txL_eq (ha.ax h3 (by decide) (by decide))]; exact h4⟩
  · exact Or.inr (Or.inl hx)
  · exact Or.inr (Or.inr (Or.inl hx))
  · exact Or.inr (Or.inr (Or.inr (Or.inl hx)))
  · exact Or.inr (Or.inr (Or.inr (Or.inr ⟨h1, b, g, h2, h3, h _ _ _ _ _ h4 (Or.inl (ha.ax h3 (by decide) (by decide))) ha, h5⟩)))
theorem GDf_le {K K' : RT CT} (h : RLE K K') : RLE (GDf K) (GDf K') := by
  intro f S a m ⟨ds, fi, nx, e, l, h1, h2⟩
  exact ⟨ds, fi, nx, e, l, CHD_le (LDf_le h) _ _ h1, h2⟩
theorem GDf_mo {K : RT CT} (h : MonS K) : MonS (GDf K) := by
  intro f S S' a m ⟨ds, fi, nx, e, l, h1, h2⟩ hS
  exact ⟨ds, fi, nx, e, l, CHD_mo (LDf_mo h) hS _ _ h1, h2⟩
theorem GDf_fr {K : RT CT} (h : FrC 2 K) : FrC 2 (GDf K) := by
  intro f f' S a m ⟨ds, fi, nx, e, l, h1, h2⟩ he ha
  obtain ⟨nx', e'⟩ := eqx_G e he
  exact ⟨ds, fi, nx', e', l, CHD_fr (LDf_fr h) ha _ _ h1, h2⟩
theorem QDf_le {K K' : RT CT} (h : RLE K K') : RLE (QDf K) (QDf K') := by
  intro f S a m ⟨fr, sg, fi, la, e, l, h1, h2⟩
  exact ⟨fr, sg, fi, la, e, l, CHD_le (GDf_le h) _ _ h1, h2⟩
theorem QDf_mo {K : RT CT} (h : MonS K) : MonS (QDf K) := by
  intro f S S' a m ⟨fr, sg, fi, la, e, l, h1, h2⟩ hS
  exact ⟨fr, sg, fi, la, e, l, CHD_mo (GDf_mo h) hS _ _ h1, h2⟩
theorem QDf_fr {K : RT CT} (h : FrC 2 K) {f f' : Nat → va_E} {S : Nat → Nat} {a : Nat} {m : QT} (hq : QDf K f S a m) (he : f' a = f a) (ha : AGR S f f') : QDf K f' S a m := by
  obtain ⟨fr, sg, fi, la, e, l, h1, h2⟩ := hq
  exact ⟨fr, sg, fi, la, he.trans e, l, CHD_fr (GDf_fr h) ha _ _ h1, h2⟩
/-- as FrC, its own cell as it was -/
def FrO {M : Type} (R : RT M) : Prop := ∀ f f' S a m, R f S a m → f' a = f a → AGR S f f' → R f' S a m
theorem FrC.o {M : Type} {k : Nat} {R : RT M} (h : FrC k R) : FrO R := fun f f' S a m hr he ha => h f f' S a m hr (Or.inl he) ha
theorem ODf_le {O O' : RT OT} {Q Q' : RT QT} (hO : RLE O O') (hQ : RLE Q Q') : RLE (ODf O Q) (ODf O' Q') := by
  intro f S a m ⟨kd, va, qu, inn, e, hx⟩
  refine ⟨kd, va, qu, inn, e, ?_⟩
  rcases hx with hx | ⟨h1, q, s, h2, h3, h4, h5⟩ | ⟨h1, b, q, s, g1, g2, g3, h2, h3, h4, h5⟩ | ⟨h1, b, q, s, g1, g2, g3, h2, h3, h4, h5⟩
  · exact Or.inl hx
  · exact Or.inr (Or.inl ⟨h1, q, s, h2, h3, hQ _ _ _ _ h4, h5⟩)
  · exact Or.inr (Or.inr (Or.inl ⟨h1, b, q, s, g1, g2, g3, h2, h3, hQ _ _ _ _ h4, h5⟩))
  · exact Or.inr (Or.inr (Or.inr ⟨h1, b, q, s, g1, g2, g3, h2, h3, hO _ _ _ _ h4, h5⟩))
theorem ODf_mo {O : RT OT} {Q : RT QT} (hO : MonS O) (hQ : MonS Q) : MonS (ODf O Q) := by
  intro f S S' a m ⟨kd, va, qu, inn, e, hx⟩ hS
  have up : ∀ {b k : Nat}, S b = k → ¬ k = 0 → S' b = k := fun {b k} hb h0 => (hS b (by rw [hb]; exact h0)).trans hb
  refine ⟨kd, va, qu, inn, e, ?_⟩
  rcases hx with ⟨h1, b, x, h2, h3, h4, h5, h6, h7, h8⟩ | ⟨h1, q, s, h2, h3, h4, h5⟩ | ⟨h1, b, q, s, g1, g2, g3, h2, h3, h4, h5⟩ | ⟨h1, b, q, s, g1, g2, g3, h2, h3, h4, h5⟩
  · exact Or.inl ⟨h1, b, x, h2, up h3 (by decide), h4, h5, h6, fun q q1 q2 => up (h7 q q1 q2) (by decide), h8⟩
  · exact Or.inr (Or.inl ⟨h1, q, s, h2, up h3 (by decide), hQ _ _ _ _ _ h4 hS, h5⟩)
  · exact Or.inr (Or.inr (Or.inl ⟨h1, b, q, s, g1, up g2 (by decide), g3, h2, up h3 (by decide), hQ _ _ _ _ _ h4 hS, h5⟩))
  · exact Or.inr (Or.inr (Or.inr ⟨h1, b, q, s, g1, up g2 (by decide), g3, h2, up h3 (by decide), hO _ _ _ _ _ h4 hS, h5⟩))
theorem CL.fr {f f' : Nat → va_E} {b : Nat} {x : LF} (h : CL f b x) (he : f' b = f b) (ht : ∀ q, x.1 = 4 → refE 2 (f b) = some q → f' q = f q) : CL f' b x := by
  obtain ⟨kd, nu, tx, me, pa, na, ix, nm, no, sp, e, h1, h2, h3, h4⟩ := h
  refine ⟨kd, nu, tx, me, pa, na, ix, nm, no, sp, he.trans e, h1, h2, h3, fun h5 => ?_⟩
  obtain ⟨q, q1, q2⟩ := h4 h5
  refine ⟨q, q1, ?_⟩
  rw [txL_eq (ht q h5 (by rw [e, q1]; rfl))]
  exact q2
theorem ODf_fr {O : RT OT} {Q : RT QT} (hO : FrO O) (hQ : FrO Q) : FrO (ODf O Q) := by
  intro f f' S a m ⟨kd, va, qu, inn, e, hx⟩ he ha
  refine ⟨kd, va, qu, inn, he.trans e, ?_⟩
  rcases hx with ⟨h1, b, x, h2, h3, h4, h5, h6, h7, h8⟩ | ⟨h1, q, s, h2, h3, h4, h5⟩ | ⟨h1, b, q, s, g1, g2, g3, h2, h3, h4, h5⟩ | ⟨h1, b, q, s, g1, g2, g3, h2, h3, h4, h5⟩
  · have eb := ha.ax h3 (by decide) (by decide)
    exact Or.inl ⟨h1, b, x, h2, h3, h4.fr eb (fun q q1 q2 => ha.ax (h7 q q1 q2) (by decide) (by decide)), h5, by rw [eb]; exact h6, fun q q1 q2 => h7 q q1 (by rw [← eb]; exact q2), h8⟩
  · exact Or.inr (Or.inl ⟨h1, q, s, h2, h3, hQ _ _ _ _ _ h4 (ha.ax h3 (by decide) (by decide)) ha, h5⟩)
  · exact Or.inr (Or.inr (Or.inl ⟨h1, b, q, s, g1, g2, (ha b).2 g2 g3, h2, h3, hQ _ _ _ _ _ h4 (ha.ax h3 (by decide) (by decide)) ha, h5⟩))
  · exact Or.inr (Or.inr (Or.inr ⟨h1, b, q, s, g1, g2, (ha b).2 g2 g3, h2, h3, hO _ _ _ _ _ h4 (ha.ax h3 (by decide) (by decide)) ha, h5⟩))
theorem KDf_le {K K' : RT CT} {O O' : RT OT} {Q Q' : RT QT} (hK : RLE K K') (hO : RLE O O') (hQ : RLE Q Q') : RLE (KDf K O Q) (KDf K' O' Q') := by
  intro f S a m ⟨kd, fi, nx, qu, le, ri, e, hx⟩
  refine ⟨kd, fi, nx, qu, le, ri, e, ?_⟩
  rcases hx with ⟨h1, l, h2, h3⟩ | ⟨h1, l, h2, h3⟩ | ⟨h1, b, g, h2, h3, h4, h5⟩ | ⟨h1, q, s, h2, h3, h4, h5⟩ | ⟨op, x, y, b, c, Sl, Sr, g1, g2, g3, g4, g5, g6, g7, g8, g9, h1, h2, h3⟩
  · exact Or.inl ⟨h1, l, CHD_le hK _ _ h2, h3⟩
  · exact Or.inr (Or.inl ⟨h1, l, CHD_le hK _ _ h2, h3⟩)
  · exact Or.inr (Or.inr (Or.inl ⟨h1, b, g, h2, h3, hK _ _ _ _ h4, h5⟩))
  · exact Or.inr (Or.inr (Or.inr (Or.inl ⟨h1, q, s, h2, h3, hQ _ _ _ _ h4, h5⟩)))
  · exact Or.inr (Or.inr (Or.inr (Or.inr ⟨op, x, y, b, c, Sl, Sr, g1, g2, g3, g4, g5, g6, g7, g8, g9, hO _ _ _ _ h1, hO _ _ _ _ h2, h3⟩)))
theorem KDf_mo {K : RT CT} {O : RT OT} {Q : RT QT} (hK : MonS K) (hQ : MonS Q) : MonS (KDf K O Q) := by
  intro f S S' a m ⟨kd, fi, nx, qu, le, ri, e, hx⟩ hS
  have up : ∀ {b k : Nat}, S b = k → ¬ k = 0 → S' b = k := fun {b k} hb h0 => (hS b (by rw [hb]; exact h0)).trans hb
  refine ⟨kd, fi, nx, qu, le, ri, e, ?_⟩
  rcases hx with ⟨h1, l, h2, h3⟩ | ⟨h1, l, h2, h3⟩ | ⟨h1, b, g, h2, h3, h4, h5⟩ | ⟨h1, q, s, h2, h3, h4, h5⟩ | ⟨op, x, y, b, c, Sl, Sr, g1, g2, g3, g4, g5, g6, g7, g8, g9, h1, h2, h3⟩
  · exact Or.inl ⟨h1, l, CHD_mo hK hS _ _ h2, h3⟩
  · exact Or.inr (Or.inl ⟨h1, l, CHD_mo hK hS _ _ h2, h3⟩)
  · exact Or.inr (Or.inr (Or.inl ⟨h1, b, g, h2, up h3 (by decide), hK _ _ _ _ _ h4 hS, h5⟩))
  · exact Or.inr (Or.inr (Or.inr (Or.inl ⟨h1, q, s, h2, up h3 (by decide), hQ _ _ _ _ _ h4 hS, h5⟩)))
  · exact Or.inr (Or.inr (Or.inr (Or.inr ⟨op, x, y, b, c, Sl, Sr, g1, g2, g3, g4, up g5 (by decide), up g6 (by decide), g7.tr hS, g8.tr hS, g9, h1, h2, h3⟩)))
theorem KDf_fr {K : RT CT} {O : RT OT} {Q : RT QT} (hK : FrC 2 K) (hO : FrO O) (hQ : FrO Q) : FrC 2 (KDf K O Q) := by
  intro f f' S a m ⟨kd, fi, nx, qu, le, ri, e, hx⟩ he ha
  obtain ⟨nx', e'⟩ := eqx_K e he
  refine ⟨kd, fi, nx', qu, le, ri, e', ?_⟩
  rcases hx with ⟨h1, l, h2, h3⟩ | ⟨h1, l, h2, h3⟩ | ⟨h1, b, g, h2, h3, h4, h5⟩ | ⟨h1, q, s, h2, h3, h4, h5⟩ | ⟨op, x, y, b, c, Sl, Sr, g1, g2, g3, g4, g5, g6, g7, g8, g9, h1, h2, h3⟩
  · exact Or.inl ⟨h1, l, CHD_fr hK ha _ _ h2, h3⟩
  · exact Or.inr (Or.inl ⟨h1, l, CHD_fr hK ha _ _ h2, h3⟩)
  · exact Or.inr (Or.inr (Or.inl ⟨h1, b, g, h2, h3, hK _ _ _ _ _ h4 (Or.inl (ha.ax h3 (by decide) (by decide))) ha, h5⟩))
  · exact Or.inr (Or.inr (Or.inr (Or.inl ⟨h1, q, s, h2, h3, hQ _ _ _ _ _ h4 (ha.ax h3 (by decide) (by decide)) ha, h5⟩)))
  · exact Or.inr (Or.inr (Or.inr (Or.inr ⟨op, x, y, b, c, Sl, Sr, g1, g2, g3, g4, g5, g6, g7, g8, g9, hO _ _ _ _ _ h1 (ha.ax g5 (by decide) (by decide)) (ha.sub g7), hO _ _ _ _ _ h2 (ha.ax g6 (by decide) (by decide)) (ha.sub g8), h3⟩)))
/-- what objects say, d deep at most -/
def RD : Nat → RT CT × RT OT × RT QT
  | 0 => (fun _ _ _ _ => False, fun _ _ _ _ => False, fun _ _ _ _ => False)
  | d + 1 => (KDf (RD d).1 (RD d).2.1 (RD d).2.2, ODf (RD d).2.1 (RD d).2.2, QDf (RD d).1)
theorem RD_le : ∀ d, RLE (RD d).1 (RD (d + 1)).1 ∧ RLE (RD d).2.1 (RD (d + 1)).2.1 ∧ RLE (RD d).2.2 (RD (d + 1)).2.2 := by
  intro d
  induction d with
  | zero => exact ⟨fun _ _ _ _ h => h.elim, fun _ _ _ _ h => h.elim, fun _ _ _ _ h => h.elim⟩
  | succ d ih => exact ⟨KDf_le ih.1 ih.2.1 ih.2.2, ODf_le ih.2.1 ih.2.2, QDf_le ih.1⟩
theorem RD_les {d e : Nat} (h : d ≤ e) : RLE (RD d).1 (RD e).1 ∧ RLE (RD d).2.1 (RD e).2.1 ∧ RLE (RD d).2.2 (RD e).2.2 := by
  induction h with
  | refl => exact ⟨fun _ _ _ _ h => h, fun _ _ _ _ h => h, fun _ _ _ _ h => h⟩
  | step _ ih => exact ⟨fun _ _ _ _ h => (RD_le _).1 _ _ _ _ (ih.1 _ _ _ _ h), fun _ _ _ _ h => (RD_le _).2.1 _ _ _ _ (ih.2.1 _ _ _ _ h), fun _ _ _ _ h => (RD_le _).2.2 _ _ _ _ (ih.2.2 _ _ _ _ h)⟩
theorem RD_mo : ∀ d, MonS (RD d).1 ∧ MonS (RD d).2.1 ∧ MonS (RD d).2.2 := by
  intro d
  induction d with
  | zero => exact ⟨fun _ _ _ _ _ h => h.elim, fun _ _ _ _ _ h => h.elim, fun _ _ _ _ _ h => h.elim⟩
  | succ d ih => exact ⟨KDf_mo ih.1 ih.2.2, ODf_mo ih.2.1 ih.2.2, QDf_mo ih.1⟩
theorem RD_fr : ∀ d, FrC 2 (RD d).1 ∧ FrO (RD d).2.1 ∧ FrO (RD d).2.2 := by
  intro d
  induction d with
  | zero => exact ⟨fun _ _ _ _ _ h => h.elim, fun _ _ _ _ _ h => h.elim, fun _ _ _ _ _ h => h.elim⟩
  | succ d ih => exact ⟨KDf_fr ih.1 ih.2.1 ih.2.2, ODf_fr ih.2.1 ih.2.2, fun _ _ _ _ _ h he ha => QDf_fr ih.1 h he ha⟩
/-- a condition, an operand, a query, a segment, a selector says this -/
def KD : RT CT := fun f S a m => ∃ d, (RD d).1 f S a m
def OD : RT OT := fun f S a m => ∃ d, (RD d).2.1 f S a m
def QD : RT QT := fun f S a m => ∃ d, (RD d).2.2 f S a m
def GD : RT QT := fun f S a m => ∃ d, GDf (RD d).1 f S a m
def LD : RT QT := fun f S a m => ∃ d, LDf (RD d).1 f S a m
theorem KD_mo : MonS KD := fun _ _ _ _ _ ⟨d, h⟩ hs => ⟨d, (RD_mo d).1 _ _ _ _ _ h hs⟩
theorem OD_mo : MonS OD := fun _ _ _ _ _ ⟨d, h⟩ hs => ⟨d, (RD_mo d).2.1 _ _ _ _ _ h hs⟩
theorem QD_mo : MonS QD := fun _ _ _ _ _ ⟨d, h⟩ hs => ⟨d, (RD_mo d).2.2 _ _ _ _ _ h hs⟩
theorem GD_mo : MonS GD := fun _ _ _ _ _ ⟨d, h⟩ hs => ⟨d, GDf_mo (RD_mo d).1 _ _ _ _ _ h hs⟩
theorem LD_mo : MonS LD := fun _ _ _ _ _ ⟨d, h⟩ hs => ⟨d, LDf_mo (RD_mo d).1 _ _ _ _ _ h hs⟩
theorem KD_fr : FrC 2 KD := fun _ _ _ _ _ ⟨d, h⟩ he ha => ⟨d, (RD_fr d).1 _ _ _ _ _ h he ha⟩
theorem OD_fr : FrO OD := fun _ _ _ _ _ ⟨d, h⟩ he ha => ⟨d, (RD_fr d).2.1 _ _ _ _ _ h he ha⟩
theorem QD_fr : FrO QD := fun _ _ _ _ _ ⟨d, h⟩ he ha => ⟨d, (RD_fr d).2.2 _ _ _ _ _ h he ha⟩
theorem GD_fr : FrC 2 GD := fun _ _ _ _ _ ⟨d, h⟩ he ha => ⟨d, GDf_fr (RD_fr d).1 _ _ _ _ _ h he ha⟩
theorem LD_fr : FrC 8 LD := fun _ _ _ _ _ ⟨d, h⟩ he ha => ⟨d, LDf_fr (RD_fr d).1 _ _ _ _ _ h he ha⟩
/-- a chain of what is d deep, each of its own depth -/
theorem CHE_all {M : Type} {R : Nat → RT M} (hle : ∀ d e, d ≤ e → RLE (R d) (R e)) {k : Nat} {f : Nat → va_E} {S : Nat → Nat} {z : Option Nat} : ∀ (l : List M) (o : Option Nat), CHE (fun f S a m => ∃ d, R d f S a m) k f S z o l → ∃ d, CHE (R d) k f S z o l := by
  intro l
  induction l with
  | nil => intro o h; exact ⟨0, h⟩
  | cons m l ih =>
    intro o hc
    obtain ⟨a, h1, h2, ⟨d, h3⟩, h4⟩ := hc
    obtain ⟨e, h5⟩ := ih _ h4
    exact ⟨max d e, a, h1, h2, hle _ _ (Nat.le_max_left _ _) _ _ _ _ h3, CHD_le (hle _ _ (Nat.le_max_right _ _)) _ _ h5⟩
theorem KD_chain {k : Nat} {f : Nat → va_E} {S : Nat → Nat} {z o : Option Nat} {l : List CT} (h : CHE KD k f S z o l) : ∃ d, CHE (RD d).1 k f S z o l := CHE_all (R := fun d => (RD d).1) (fun _ _ h => (RD_les h).1) _ _ h
theorem LD_chain {k : Nat} {f : Nat → va_E} {S : Nat → Nat} {z o : Option Nat} {l : List QT} (h : CHE LD k f S z o l) : ∃ d, CHE (LDf (RD d).1) k f S z o l := CHE_all (R := fun d => LDf (RD d).1) (fun _ _ h => LDf_le (RD_les h).1) _ _ h
theorem GD_chain {k : Nat} {f : Nat → va_E} {S : Nat → Nat} {z o : Option Nat} {l : List QT} (h : CHE GD k f S z o l) : ∃ d, CHE (GDf (RD d).1) k f S z o l := CHE_all (R := fun d => GDf (RD d).1) (fun _ _ h => GDf_le (RD_les h).1) _ _ h
-- what they are made of
theorem KD_in {f : Nat → va_E} {S : Nat → Nat} {a : Nat} {m : CT} (h : KDf KD OD QD f S a m) : KD f S a m := by
  obtain ⟨kd, fi, nx, qu, le, ri, e, hx⟩ := h
  rcases hx with ⟨h1, l, h2, h3⟩ | ⟨h1, l, h2, h3⟩ | ⟨h1, b, g, h2, h3, ⟨d, h4⟩, h5⟩ | ⟨h1, q, s, h2, h3, ⟨d, h4⟩, h5⟩ | ⟨op, x, y, b, c, Sl, Sr, g1, g2, g3, g4, g5, g6, g7, g8, g9, ⟨d, h1⟩, ⟨d2, h2⟩, h3⟩
  · obtain ⟨d, h4⟩ := KD_chain h2
    exact ⟨d + 1, kd, fi, nx, qu, le, ri, e, Or.inl ⟨h1, l, h4, h3⟩⟩
  · obtain ⟨d, h4⟩ := KD_chain h2
    exact ⟨d + 1, kd, fi, nx, qu, le, ri, e, Or.inr (Or.inl ⟨h1, l, h4, h3⟩)⟩
  · exact ⟨d + 1, kd, fi, nx, qu, le, ri, e, Or.inr (Or.inr (Or.inl ⟨h1, b, g, h2, h3, h4, h5⟩))⟩
  · exact ⟨d + 1, kd, fi, nx, qu, le, ri, e, Or.inr (Or.inr (Or.inr (Or.inl ⟨h1, q, s, h2, h3, h4, h5⟩)))⟩
  · exact ⟨max d d2 + 1, kd, fi, nx, qu, le, ri, e, Or.inr (Or.inr (Or.inr (Or.inr ⟨op, x, y, b, c, Sl, Sr, g1, g2, g3, g4, g5, g6, g7, g8, g9, (RD_les (Nat.le_max_left _ _)).2.1 _ _ _ _ h1, (RD_les (Nat.le_max_right _ _)).2.1 _ _ _ _ h2, h3⟩)))⟩
theorem KD_out {f : Nat → va_E} {S : Nat → Nat} {a : Nat} {m : CT} (h : KD f S a m) : KDf KD OD QD f S a m := by
  obtain ⟨d, h⟩ := h
  cases d with
  | zero => exact h.elim
  | succ d => exact KDf_le (fun _ _ _ _ h => ⟨d, h⟩) (fun _ _ _ _ h => ⟨d, h⟩) (fun _ _ _ _ h => ⟨d, h⟩) _ _ _ _ h
theorem OD_in {f : Nat → va_E} {S : Nat → Nat} {a : Nat} {m : OT} (h : ODf OD QD f S a m) : OD f S a m := by
  obtain ⟨kd, va, qu, inn, e, hx⟩ := h
  rcases hx with hx | ⟨h1, q, s, h2, h3, ⟨d, h4⟩, h5⟩ | ⟨h1, b, q, s, g1, g2, g3, h2, h3, ⟨d, h4⟩, h5⟩ | ⟨h1, b, q, s, g1, g2, g3, h2, h3, ⟨d, h4⟩, h5⟩
  · exact ⟨1, kd, va, qu, inn, e, Or.inl hx⟩
  · exact ⟨d + 1, kd, va, qu, inn, e, Or.inr (Or.inl ⟨h1, q, s, h2, h3, h4, h5⟩)⟩
  · exact ⟨d + 1, kd, va, qu, inn, e, Or.inr (Or.inr (Or.inl ⟨h1, b, q, s, g1, g2, g3, h2, h3, h4, h5⟩))⟩
  · exact ⟨d + 1, kd, va, qu, inn, e, Or.inr (Or.inr (Or.inr ⟨h1, b, q, s, g1, g2, g3, h2, h3, h4, h5⟩))⟩
theorem OD_out {f : Nat → va_E} {S : Nat → Nat} {a : Nat} {m : OT} (h : OD f S a m) : ODf OD QD f S a m := by
  obtain ⟨d, h⟩ := h
  cases d with
  | zero => exact h.elim
  | succ d => exact ODf_le (fun _ _ _ _ h => ⟨d, h⟩) (fun _ _ _ _ h => ⟨d, h⟩) _ _ _ _ h
theorem LD_in {f : Nat → va_E} {S : Nat → Nat} {a : Nat} {m : QT} (h : LDf KD f S a m) : LD f S a m := by
  obtain ⟨kd, nm, hs, ht, st, sp, se, fl, nx, e, hx⟩ := h
  rcases hx with hx | hx | hx | hx | ⟨h1, b, g, h2, h3, ⟨d, h4⟩, h5⟩
  · exact ⟨0, kd, nm, hs, ht, st, sp, se, fl, nx, e, Or.inl hx⟩
  · exact ⟨0, kd, nm, hs, ht, st, sp, se, fl, nx, e, Or.inr (Or.inl hx)⟩
  · exact ⟨0, kd, nm, hs, ht, st, sp, se, fl, nx, e, Or.inr (Or.inr (Or.inl hx))⟩
  · exact ⟨0, kd, nm, hs, ht, st, sp, se, fl, nx, e, Or.inr (Or.inr (Or.inr (Or.inl hx)))⟩
  · exact ⟨d, kd, nm, hs, ht, st, sp, se, fl, nx, e, Or.inr (Or.inr (Or.inr (Or.inr ⟨h1, b, g, h2, h3, h4, h5⟩)))⟩
theorem LD_out {f : Nat → va_E} {S : Nat → Nat} {a : Nat} {m : QT} (h : LD f S a m) : LDf KD f S a m := by
  obtain ⟨d, h⟩ := h
  exact LDf_le (fun _ _ _ _ h => ⟨d, h⟩) _ _ _ _ h
theorem GD_in {f : Nat → va_E} {S : Nat → Nat} {a : Nat} {ds : Int32} {fi nx : Option Nat} {l : List QT} (e : f a = gE ds fi nx) (h : CHD LD 8 f S fi l) : GD f S a (segS (decide (¬ ds = 0)) l) := by
  obtain ⟨d, h⟩ := LD_chain h
  exact ⟨d, ds, fi, nx, e, l, h, rfl⟩
theorem GD_out {f : Nat → va_E} {S : Nat → Nat} {a : Nat} {m : QT} (h : GD f S a m) : ∃ ds fi nx l, f a = gE ds fi nx ∧ CHD LD 8 f S fi l ∧ m = segS (decide (¬ ds = 0)) l := by
  obtain ⟨d, ds, fi, nx, e, l, h1, h2⟩ := h
  exact ⟨ds, fi, nx, l, e, CHD_le (fun _ _ _ _ h => ⟨d, h⟩) _ _ h1, h2⟩
theorem QD_in {f : Nat → va_E} {S : Nat → Nat} {a : Nat} {fr sg : Int32} {fi la : Option Nat} {l : List QT} (e : f a = qE fr sg fi la) (h : CHD GD 2 f S fi l) : QD f S a (qryS (decide (¬ fr = 0)) l) := by
  obtain ⟨d, h⟩ := GD_chain h
  exact ⟨d + 1, fr, sg, fi, la, e, l, h, rfl⟩
theorem QD_out {f : Nat → va_E} {S : Nat → Nat} {a : Nat} {m : QT} (h : QD f S a m) : ∃ fr sg fi la l, f a = qE fr sg fi la ∧ CHD GD 2 f S fi l ∧ m = qryS (decide (¬ fr = 0)) l := by
  obtain ⟨d, h⟩ := h
  cases d with
  | zero => exact h.elim
  | succ d =>
    obtain ⟨fr, sg, fi, la, e, l, h1, h2⟩ := h
    exact ⟨fr, sg, fi, la, l, e, CHD_le (fun _ _ _ _ h => ⟨d, h⟩) _ _ h1, h2⟩
section DMake
variable {f : Nat → va_E} {S : Nat → Nat} {a b c : Nat}
theorem LD.nam {hs ht : Int32} {st sp se : Int64} {fl nx : Option Nat} (e : f a = lE 0 (some b) hs ht st sp se fl nx) (hb : S b = 3) : LD f S a (namS (txL f b)) := LD_in ⟨_, _, _, _, _, _, _, _, _, e, Or.inl ⟨rfl, b, rfl, hb, rfl⟩⟩
theorem LD.each {nm : Option Nat} {hs ht : Int32} {st sp se : Int64} {fl nx : Option Nat} (e : f a = lE 1 nm hs ht st sp se fl nx) : LD f S a eachS := LD_in ⟨_, _, _, _, _, _, _, _, _, e, Or.inr (Or.inl ⟨rfl, rfl⟩)⟩
theorem LD.idx {nm : Option Nat} {hs ht : Int32} {st sp se : Int64} {fl nx : Option Nat} (e : f a = lE 2 nm hs ht st sp se fl nx) : LD f S a (idxS st) := LD_in ⟨_, _, _, _, _, _, _, _, _, e, Or.inr (Or.inr (Or.inl ⟨rfl, rfl⟩))⟩
theorem LD.slc {nm : Option Nat} {hs ht : Int32} {st sp se : Int64} {fl nx : Option Nat} (e : f a = lE 3 nm hs ht st sp se fl nx) : LD f S a (slcS (if hs = 0 then none else some st) (if ht = 0 then none else some sp) se) := LD_in ⟨_, _, _, _, _, _, _, _, _, e, Or.inr (Or.inr (Or.inr (Or.inl ⟨rfl, rfl⟩)))⟩
theorem LD.fil {nm : Option Nat} {hs ht : Int32} {st sp se : Int64} {nx : Option Nat} {g : CT} (e : f a = lE 4 nm hs ht st sp se (some b) nx) (hb : S b = 3) (hg : KD f S b g) : LD f S a (filS g) := LD_in ⟨_, _, _, _, _, _, _, _, _, e, Or.inr (Or.inr (Or.inr (Or.inr ⟨rfl, b, g, rfl, hb, hg, rfl⟩)))⟩
theorem OD.lit {qu inn : Option Nat} {x : LF} (e : f a = oE 0 (some b) qu inn) (hb : S b = 2) (hc : CL f b x) (h5 : x.1 < 5) (h3 : refE 3 (f b) = none) (ht : ∀ q, x.1 = 4 → refE 2 (f b) = some q → S q = 3) : OD f S a (litO x) := OD_in ⟨_, _, _, _, e, Or.inl ⟨rfl, b, x, rfl, hb, hc, h5, h3, ht, rfl⟩⟩
theorem OD.onl {va inn : Option Nat} {s : QT} (e : f a = oE 1 va (some b) inn) (hb : S b = 3) (hq : QD f S b s) : OD f S a (onlO s) := OD_in ⟨_, _, _, _, e, Or.inr (Or.inl ⟨rfl, b, s, rfl, hb, hq, rfl⟩)⟩
theorem OD.cnt {inn : Option Nat} {s : QT} (e : f a = oE 2 (some c) (some b) inn) (hc : S c = 1) (hv : NV f c) (hb : S b = 3) (hq : QD f S b s) : OD f S a (cntO s) := OD_in ⟨_, _, _, _, e, Or.inr (Or.inr (Or.inl ⟨rfl, c, b, s, rfl, hc, hv, rfl, hb, hq, rfl⟩))⟩
theorem OD.len {qu : Option Nat} {x : OT} (e : f a = oE 3 (some c) qu (some b)) (hc : S c = 1) (hv : NV f c) (hb : S b = 3) (hq : OD f S b x) : OD f S a (lenO x) := OD_in ⟨_, _, _, _, e, Or.inr (Or.inr (Or.inr ⟨rfl, c, b, x, rfl, hc, hv, rfl, hb, hq, rfl⟩))⟩
theorem KD.any {fi nx qu le ri : Option Nat} {l : List CT} (e : f a = kE 0 fi nx qu le ri) (h : CHD KD 2 f S fi l) : KD f S a (anyC_ l) := KD_in ⟨_, _, _, _, _, _, e, Or.inl ⟨rfl, l, h, rfl⟩⟩
theorem KD.all {fi nx qu le ri : Option Nat} {l : List CT} (e : f a = kE 1 fi nx qu le ri) (h : CHD KD 2 f S fi l) : KD f S a (allC l) := KD_in ⟨_, _, _, _, _, _, e, Or.inr (Or.inl ⟨rfl, l, h, rfl⟩)⟩
theorem KD.not {nx qu le ri : Option Nat} {g : CT} (e : f a = kE 2 (some b) nx qu le ri) (hb : S b = 3) (h : KD f S b g) : KD f S a (notC g) := KD_in ⟨_, _, _, _, _, _, e, Or.inr (Or.inr (Or.inl ⟨rfl, b, g, rfl, hb, h, rfl⟩))⟩
theorem KD.tst {fi nx le ri : Option Nat} {s : QT} (e : f a = kE 3 fi nx (some b) le ri) (hb : S b = 3) (h : QD f S b s) : KD f S a (tstC s) := KD_in ⟨_, _, _, _, _, _, e, Or.inr (Or.inr (Or.inr (Or.inl ⟨rfl, b, s, rfl, hb, h, rfl⟩)))⟩
theorem KD.cmp {fi nx qu : Option Nat} {op : Nat} {x y : OT} {Sl Sr : Nat → Nat} (e : f a = kE (nI (4 + op)) fi nx qu (some b) (some c)) (ho : op ≤ 5) (hb : S b = 3) (hc : S c = 3) (hl : SUB Sl S) (hr : SUB Sr S) (hd : DIS Sl Sr) (hx : OD f Sl b x) (hy : OD f Sr c y) : KD f S a (cmpC op x y) := KD_in ⟨_, _, _, _, _, _, e, Or.inr (Or.inr (Or.inr (Or.inr ⟨op, x, y, b, c, Sl, Sr, ho, rfl, rfl, rfl, hb, hc, hl, hr, hd, hx, hy, rfl⟩)))⟩
end DMake
