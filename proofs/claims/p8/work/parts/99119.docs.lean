/-- what stands in an object's field -/
def fldE (k : Nat) : va_E → Value
  | .inr p => (p.2[k]?).getD .null
  | .inl _ => .null
def intE (k : Nat) (e : va_E) : Int32 := match fldE k e with
  | .int x => x
  | _ => 0
def refE (k : Nat) (e : va_E) : Option Nat := match fldE k e with
  | .ref a => some a
  | _ => none
theorem refE_rf {k : Nat} {e : va_E} {o : Option Nat} (h : fldE k e = va_rf o) : refE k e = o := by
  unfold refE
  rw [h]
  cases o <;> rfl
/-- the first difference decides -/
theorem ltT_ne : ∀ (i : Nat) (s t : List Int32) (a b : Int32), (∀ j, j < i → s[j]? = t[j]?) → s[i]? = some a → t[i]? = some b → ¬ a = b → ltT s t = decide (rkI a < rkI b) := by
  intro i
  induction i with
  | zero =>
    intro s t a b _ h1 h2 h3
    cases s with
    | nil => cases h1
    | cons x s =>
      cases t with
      | nil => cases h2
      | cons y t =>
        obtain rfl : x = a := Option.some.inj h1
        obtain rfl : y = b := Option.some.inj h2
        simp only [ltT]
        rw [if_neg h3]
  | succ i ih =>
    intro s t a b h h1 h2 h3
    cases s with
    | nil => cases h1
    | cons x s =>
      cases t with
      | nil => cases h2
      | cons y t =>
        obtain rfl : x = y := Option.some.inj (h 0 (Nat.zero_lt_succ _))
        simp only [ltT]
        rw [if_pos trivial]
        exact ih s t a b (fun j hj => h (j + 1) (Nat.succ_lt_succ hj)) h1 h2 h3
theorem ltT_pre : ∀ (s t : List Int32), (∀ j, j < s.length → j < t.length → s[j]? = t[j]?) → ltT s t = decide (s.length < t.length) := by
  intro s
  induction s with
  | nil =>
    intro t _
    cases t with
    | nil => rfl
    | cons y t => simp [ltT]
  | cons x s ih =>
    intro t h
    cases t with
    | nil => simp [ltT]
    | cons y t =>
      obtain rfl : x = y := Option.some.inj (h 0 (Nat.zero_lt_succ _) (Nat.zero_lt_succ _))
      simp only [ltT]
      rw [if_pos trivial, ih t (fun j h1 h2 => h (j + 1) (Nat.succ_lt_succ h1) (Nat.succ_lt_succ h2))]
      simp
/-- the kinds, as the objects have them -/
def ckd (k : Nat) : Int32 := if k = 1 then 2 else if k = 2 then 1 else nI k
theorem ckd_inj {a b : Nat} (ha : a ≤ 6) (hb : b ≤ 6) (h : ckd a = ckd b) : a = b := by
  have h1 : a = 0 ∨ a = 1 ∨ a = 2 ∨ a = 3 ∨ a = 4 ∨ a = 5 ∨ a = 6 := by omega
  have h2 : b = 0 ∨ b = 1 ∨ b = 2 ∨ b = 3 ∨ b = 4 ∨ b = 5 ∨ b = 6 := by omega
  rcases h1 with rfl | rfl | rfl | rfl | rfl | rfl | rfl <;> rcases h2 with rfl | rfl | rfl | rfl | rfl | rfl | rfl <;> first | rfl | (revert h; decide)
/-- the i-th member of an object -/
def memF (f : Nat → va_E) (a i : Nat) : Option Nat := match f a with
  | .inr (_, [_, _, _, .ref m, _, _, _, _, _, _]) => (match f m with
    | .inl (_, _, .inr (.inr (.inr (.inr g)))) => g i
    | _ => none)
  | _ => none
theorem memF_a {f : Nat → va_E} {a m n i : Nat} {cV : ClassId} {g : Nat → Option Nat} {kd : Int32} {nu : Int64} {tx pa na : Option Nat} {ix : Int32} {nm no : Option Nat} {sp : Int32} (h : f a = vE kd nu tx (some m) pa na ix nm no sp) (hm : f m = aE cV n g) : memF f a i = g i := by
  unfold memF
  rw [h]
  show (match f m with
    | .inl (_, _, .inr (.inr (.inr (.inr g)))) => g i
    | _ => none) = _
  rw [hm]
/-- an object has this kind, this number, these units -/
def CL (f : Nat → va_E) (a : Nat) (x : LF) : Prop := ∃ kd nu tx me pa na ix nm no sp, f a = vE kd nu tx me pa na ix nm no sp ∧ kd = ckd x.1 ∧ x.1 ≤ 6 ∧ (x.1 = 3 → nu = x.2.1) ∧ (x.1 = 4 → ∃ q, tx = some q ∧ txL f q = x.2.2)
/-- an object holds a value -/
def CVl (f : Nat → va_E) : (r : Nat) → Nat → JVt r → Prop
  | 0, a, x => CL f a x ∧ x.1 < 5 ∧ szF f a = 0
  | r + 1, a, x => CL f a x.1 ∧ (x.1.1 < 5 → x.2 = []) ∧ szF f a = x.2.length ∧ ∀ i c, x.2[i]? = some c → ∃ b, memF f a i = some b ∧ CVl f r b c.2 ∧ (x.1.1 = 6 → nmL f b = some c.1)
abbrev CU (f : Nat → va_E) (a : Nat) (u : VU) : Prop := CVl f u.1 a u.2
theorem ksJ_get {r : Nat} {x : JVt (r + 1)} {i : Nat} {c : List Int32 × VU} (h : (ksJ (r + 1) x)[i]? = some c) : ∃ d, x.2[i]? = some d ∧ c = (d.1, ⟨r, d.2⟩) := by
  have h1 : (x.2.map (fun p => (p.1, (⟨r, p.2⟩ : VU))))[i]? = some c := h
  rw [List.getElem?_map] at h1
  cases hd : x.2[i]? with
  | none => rw [hd] at h1; cases h1
  | some d => rw [hd] at h1; exact ⟨d, rfl, (Option.some.inj h1).symm⟩
theorem CU.get {f : Nat → va_E} {a : Nat} {u : VU} (h : CU f a u) : CL f a (lfU u) ∧ szF f a = (ksU u).length ∧ ((lfU u).1 < 5 → ksU u = []) ∧ ∀ i c, (ksU u)[i]? = some c → ∃ b, memF f a i = some b ∧ CU f b c.2 ∧ ((lfU u).1 = 6 → nmL f b = some c.1) := by
  obtain ⟨r, x⟩ := u
  cases r with
  | zero =>
    have h : CL f a x ∧ (x : LF).1 < 5 ∧ szF f a = 0 := h
    exact ⟨h.1, h.2.2, fun _ => rfl, fun i c hc => by cases hc⟩
  | succ r =>
    have h : CL f a x.1 ∧ (x.1.1 < 5 → x.2 = []) ∧ szF f a = x.2.length ∧ ∀ i c, x.2[i]? = some c → ∃ b, memF f a i = some b ∧ CVl f r b c.2 ∧ (x.1.1 = 6 → nmL f b = some c.1) := h
    refine ⟨h.1, h.2.2.1.trans (List.length_map _).symm, fun h5 => ?_, fun i c hc => ?_⟩
    · show x.2.map _ = []
      rw [h.2.1 h5]
      rfl
    · obtain ⟨d, h1, h2⟩ := ksJ_get hc
      obtain ⟨b, b1, b2, b3⟩ := h.2.2.2 i d h1
      subst h2
      exact ⟨b, b1, b2, b3⟩
theorem chN_s {t : List Int32} {i : Nat} {c : Int32} (h : t[i]? = some c) : chrN (t.take (i + 1)) = chrN (t.take i) + (if loU c then 0 else 1) := by
  have hi := (List.getElem?_eq_some_iff.mp h).1
  have hc := (List.getElem?_eq_some_iff.mp h).2
  unfold chrN
  rw [List.take_succ, h, List.filter_append, List.length_append]
  congr 1
  show (List.filter _ [c]).length = _
  by_cases hl : loU c
  · rw [if_pos hl]; simp [hl]
  · have h9 : c < 56320 ∨ 57343 < c := by
      by_cases z : 56320 ≤ c
      · exact Or.inr (Int32.not_le.mp (fun y => hl ⟨z, y⟩))
      · exact Or.inl (Int32.not_le.mp z)
    rw [if_neg hl, List.filter_cons_of_pos (by simpa using h9)]
    rfl
theorem CL.of {f : Nat → va_E} {a : Nat} {x : LF} (h : CL f a x) {kd : Int32} {nu : Int64} {tx me pa na : Option Nat} {ix : Int32} {nm no : Option Nat} {sp : Int32} (ef : f a = vE kd nu tx me pa na ix nm no sp) : kd = ckd x.1 ∧ x.1 ≤ 6 ∧ (x.1 = 3 → nu = x.2.1) ∧ (x.1 = 4 → ∃ q, tx = some q ∧ txL f q = x.2.2) := by
  obtain ⟨kd', nu', tx', me', pa', na', ix', nm', no', sp', e, h1, h2, h3, h4⟩ := h
  obtain ⟨x1, x2, x3, x4, x5, x6, x7, x8, x9, x10⟩ := vE_inj (ef.symm.trans e)
  subst x1; subst x2; subst x3
  exact ⟨h1, h2, h3, h4⟩
theorem ckd_n {k : Nat} (hk : k ≤ 6) {m : Nat} (hm : m = 0 ∨ (3 ≤ m ∧ m ≤ 6)) : ckd k = nI m ↔ k = m := by
  have h1 : k = 0 ∨ k = 1 ∨ k = 2 ∨ k = 3 ∨ k = 4 ∨ k = 5 ∨ k = 6 := by omega
  have h2 : m = 0 ∨ m = 3 ∨ m = 4 ∨ m = 5 ∨ m = 6 := by omega
  rcases h1 with rfl | rfl | rfl | rfl | rfl | rfl | rfl <;> rcases h2 with rfl | rfl | rfl | rfl | rfl <;> decide
/-- a member of this name, the first one -/
def MBR (E : Nat → Nat) (f : Nat → va_E) (a : Nat) (u : VU) (t : List Int32) (r : Option Nat) : Prop := oR (isF E) r ∧ (((lfU u).1 = 6 ∧ ∃ (i : Nat) (c : List Int32 × VU) (b : Nat), (ksU u)[i]? = some c ∧ c.1 = t ∧ (∀ (j : Nat) (d : List Int32 × VU), j < i → (ksU u)[j]? = some d → ¬ d.1 = t) ∧ r = some b ∧ memF f a i = some b ∧ CU f b c.2) ∨ (r = none ∧ ((lfU u).1 = 6 → ∀ (j : Nat) (d : List Int32 × VU), (ksU u)[j]? = some d → ¬ d.1 = t)))
/-- how long a value is -/
def lnI (u : VU) : Int32 := if (lfU u).1 = 4 then nI (chrN (lfU u).2.2) else if 5 ≤ (lfU u).1 then nI (ksU u).length else -1
theorem sameU_l {u v : VU} (h0 : u.1 = 0 → (lfU u).1 < 5) (hk : (lfU u).1 = (lfU v).1) (h5 : 5 ≤ (lfU u).1) (h6 : (lfU u).1 ≤ 6) (hl : ¬ (ksU u).length = (ksU v).length) : sameU u v = false := by
  rw [sameU_def h0, decide_eq_true hk, if_neg (by omega), if_neg (by omega)]
  by_cases e : (lfU u).1 = 5
  · rw [if_pos e, decide_eq_false hl]; rfl
  · rw [if_neg e, if_pos (by omega), decide_eq_false hl]; rfl
theorem CU.lf0 {f : Nat → va_E} {a : Nat} {u : VU} (h : CU f a u) : u.1 = 0 → (lfU u).1 < 5 := by
  obtain ⟨r, x⟩ := u
  intro h0
  cases r with
  | zero => exact h.2.1
  | succ r => cases h0
theorem ksU_dep {u : VU} {i : Nat} {c : List Int32 × VU} (h : (ksU u)[i]? = some c) : c.2.1 + 1 = u.1 := by
  obtain ⟨r, x⟩ := u
  cases r with
  | zero => cases h
  | succ r =>
    obtain ⟨d, -, rfl⟩ := ksJ_get h
    rfl
/-- a is the object of the node nd -/
def NCr (PL : List NT) (AL : List Nat) (a : Nat) (nd : NT) : Prop := ∃ k : Nat, PL[k]? = some nd ∧ AL[k]? = some a
/-- a document's objects: PL its nodes in their order, AL their objects -/
def DOC (E : Nat → Nat) (f : Nat → va_E) (PL : List NT) (AL : List Nat) : Prop := (PL.length = AL.length ∧ PL.length ≤ 4096) ∧ ∀ (k : Nat) (nd : NT) (a : Nat), PL[k]? = some nd → AL[k]? = some a → isF E a ∧ CU f a nd.2 ∧ (∀ i c, (kdsN nd)[i]? = some c → ∃ b, memF f a i = some b ∧ NCr PL AL b c.2) ∧ fldE 9 (f a) = .int (nI (preN nd).length) ∧ (∀ j e, (preN nd)[j]? = some e → PL[k + j]? = some e) ∧ refE 8 (f a) = AL[k + 1]? ∧ nd.2.1 ≤ 32
/-- only latest's link has changed -/
def KX (E : Nat → Nat) (la : Option Nat) (f f' : Nat → va_E) : Prop := (∀ a, E a ≠ 0 → nx8 (f' a) = nx8 (f a)) ∧ ∀ a, E a ≠ 0 → la ≠ some a → f' a = f a
theorem EX.z {E E1 : Nat → Nat} {r : Nat} (h : EX E E1) (ha : E1 r = 0) : E r = 0 := Classical.byContradiction fun q => q (by rw [← h r q]; exact ha)
-- where a list of lists has its members
def offL {α : Type} (Xs : List (List α)) (i : Nat) : Nat := ((Xs.take i).flatten).length
theorem offL_s {α : Type} {Y : List α} {Xs : List (List α)} {i : Nat} : offL (Y :: Xs) (i + 1) = Y.length + offL Xs i := by
  unfold offL
  rw [List.take_succ_cons, List.flatten_cons, List.length_append]
theorem flat_get {α : Type} : ∀ (Xs : List (List α)) (i j : Nat) (X : List α), Xs[i]? = some X → j < X.length → Xs.flatten[offL Xs i + j]? = X[j]? := by
  intro Xs
  induction Xs with
  | nil => intro i j X h; cases h
  | cons Y Xs ih =>
    intro i j X h hj
    cases i with
    | zero =>
      obtain rfl : Y = X := Option.some.inj h
      show (Y ++ Xs.flatten)[0 + j]? = Y[j]?
      rw [Nat.zero_add, List.getElem?_append_left hj]
    | succ i =>
      rw [offL_s, List.flatten_cons, List.getElem?_append_right (by omega), show Y.length + offL Xs i + j - Y.length = offL Xs i + j by omega]
      exact ih i j X h hj
theorem flat_at {α : Type} : ∀ (Xs : List (List α)) (k : Nat) (e : α), Xs.flatten[k]? = some e → ∃ i j X, Xs[i]? = some X ∧ X[j]? = some e ∧ k = offL Xs i + j := by
  intro Xs
  induction Xs with
  | nil => intro k e h; simp at h
  | cons Y Xs ih =>
    intro k e h
    rw [List.flatten_cons] at h
    by_cases hk : k < Y.length
    · rw [List.getElem?_append_left hk] at h
      exact ⟨0, k, Y, rfl, h, (Nat.zero_add k).symm⟩
    · rw [List.getElem?_append_right (by omega)] at h
      obtain ⟨i, j, X, h1, h2, h3⟩ := ih _ _ h
      exact ⟨i + 1, j, X, h1, h2, by rw [offL_s]; omega⟩
theorem off_eq {α β : Type} : ∀ (Xs : List (List α)) (Ys : List (List β)), Xs.length = Ys.length → (∀ (i : Nat) (X : List α) (Y : List β), Xs[i]? = some X → Ys[i]? = some Y → X.length = Y.length) → ∀ i, offL Xs i = offL Ys i := by
  intro Xs
  induction Xs with
  | nil =>
    intro Ys hl _ i
    cases Ys with
    | nil => unfold offL; rw [List.take_nil, List.take_nil]; rfl
    | cons Y Ys => cases hl
  | cons X Xs ih =>
    intro Ys hl h i
    cases Ys with
    | nil => cases hl
    | cons Y Ys =>
      cases i with
      | zero => rfl
      | succ i => rw [offL_s, offL_s, h 0 X Y rfl rfl, ih Ys (Nat.succ.inj hl) (fun i A B h1 h2 => h (i + 1) A B h1 h2) i]
theorem off_all {α : Type} (Xs : List (List α)) : offL Xs Xs.length = Xs.flatten.length := by
  unfold offL
  rw [List.take_length]
/-- the same value, but for its place among others -/
def vSm (f f' : Nat → va_E) (a : Nat) : Prop := ∃ kd nu tx me pa na ix nm no sp pa' na' ix' nm' no', f a = vE kd nu tx me pa na ix nm no sp ∧ f' a = vE kd nu tx me pa' na' ix' nm' no' sp
/-- its place among the members of another -/
def UPf (f : Nat → va_E) (a i : Nat) (ob : Prop) (b : Nat) : Prop := fldE 4 (f b) = .ref a ∧ fldE 6 (f b) = .int (nI i) ∧ (¬ ob → refE 5 (f b) = none)
def upS (e e' : va_E) : Prop := fldE 4 e' = fldE 4 e ∧ fldE 5 e' = fldE 5 e ∧ fldE 6 e' = fldE 6 e
theorem UPf.of {f f' : Nat → va_E} {a i b : Nat} {ob : Prop} (h : UPf f a i ob b) (e : upS (f b) (f' b)) : UPf f' a i ob b := by
  refine ⟨e.1.trans h.1, e.2.2.trans h.2.1, fun q => ?_⟩
  have h5 := h.2.2 q
  unfold refE at h5 ⊢
  rw [e.2.1]
  exact h5
theorem UPf.iff {f : Nat → va_E} {a i b : Nat} {ob ob' : Prop} (h : UPf f a i ob b) (e : ob → ob') : UPf f a i ob' b := ⟨h.1, h.2.1, fun q => h.2.2 (fun z => q (e z))⟩
theorem upS.v {f f' : Nat → va_E} {a : Nat} {kd : Int32} {nu : Int64} {tx me pa na : Option Nat} {ix : Int32} {nm no : Option Nat} {sp : Int32} {kd' : Int32} {nu' : Int64} {tx' me' : Option Nat} {nm' no' : Option Nat} {sp' : Int32} (e1 : f a = vE kd nu tx me pa na ix nm no sp) (e2 : f' a = vE kd' nu' tx' me' pa na ix nm' no' sp') : upS (f a) (f' a) := by
  rw [e1, e2]
  exact ⟨rfl, rfl, rfl⟩
theorem upS.e {e e' : va_E} (h : e' = e) : upS e e' := by rw [h]; exact ⟨rfl, rfl, rfl⟩
theorem UPf.v {f : Nat → va_E} {a i b : Nat} {ob : Prop} {kd : Int32} {nu : Int64} {tx me na : Option Nat} {nm no : Option Nat} {sp : Int32} (e : f b = vE kd nu tx me (some a) na (nI i) nm no sp) (h : ¬ ob → na = none) : UPf f a i ob b := by
  refine ⟨by rw [e]; rfl, by rw [e]; rfl, fun q => ?_⟩
  rw [e, ← h q]
  exact refE_rf (o := na) rfl
/-- a value's objects, in their order -/
def DV (f : Nat → va_E) : (r : Nat) → JVt r → List Nat → Prop
  | 0, x, AL => ∃ a : Nat, AL = [a] ∧ CL f a x ∧ (x : LF).1 < 5 ∧ szF f a = 0 ∧ fldE 9 (f a) = .int (nI 1)
  | r + 1, x, AL => ∃ (a : Nat) (Ks : List (List Nat)), AL = a :: Ks.flatten ∧ CL f a x.1 ∧ (x.1.1 < 5 → x.2 = []) ∧ szF f a = x.2.length ∧ fldE 9 (f a) = .int (nI AL.length) ∧ Ks.length = x.2.length ∧ ∀ (i : Nat) (c : List Int32 × JVt r) (K : List Nat), x.2[i]? = some c → Ks[i]? = some K → DV f r c.2 K ∧ ∃ b, K.head? = some b ∧ memF f a i = some b ∧ (x.1.1 = 6 → nmL f b = some c.1) ∧ UPf f a i (x.1.1 = 6) b
theorem DV.cu {f : Nat → va_E} : ∀ (r : Nat) (x : JVt r) (AL : List Nat), DV f r x AL → ∃ a, AL.head? = some a ∧ CVl f r a x := by
  intro r
  induction r with
  | zero =>
    intro x AL h
    obtain ⟨a, h1, h2, h3, h4, h5⟩ := h
    exact ⟨a, by rw [h1]; rfl, h2, h3, h4⟩
  | succ r ih =>
    intro x AL h
    obtain ⟨a, Ks, h1, h2, h3, h4, h5, h6, h7⟩ := h
    refine ⟨a, by rw [h1]; rfl, h2, h3, h4, fun i c hc => ?_⟩
    have hi := (List.getElem?_eq_some_iff.mp hc).1
    obtain ⟨K, hK⟩ : ∃ K, Ks[i]? = some K := ⟨_, List.getElem?_eq_getElem (by omega)⟩
    obtain ⟨g1, b, g2, g3, g4, -⟩ := h7 i c K hc hK
    obtain ⟨b2, k1, k2⟩ := ih c.2 K g1
    obtain rfl : b = b2 := Option.some.inj (g2.symm.trans k1)
    exact ⟨b, g3, k2, g4⟩
/-- what stands at each place of the order -/
def DVat (f : Nat → va_E) (PL : List NT) (AL : List Nat) : Prop := PL.length = AL.length ∧ ∀ (k : Nat) (nd : NT) (a : Nat), PL[k]? = some nd → AL[k]? = some a → CU f a nd.2 ∧ (∀ i c, (kdsN nd)[i]? = some c → ∃ (b j : Nat), memF f a i = some b ∧ PL[j]? = some c.2 ∧ AL[j]? = some b) ∧ fldE 9 (f a) = .int (nI (preN nd).length) ∧ ∀ j e, (preN nd)[j]? = some e → PL[k + j]? = some e
theorem preN_0 (nd : NT) : (preN nd)[0]? = some nd := by
  rw [pre_kids nd]
  rfl
theorem DV.at_ {f : Nat → va_E} : ∀ (r : Nat) (x : JVt r) (AL : List Nat) (p : List Nat), DV f r x AL → DVat f (preN (p, ⟨r, x⟩)) AL := by
  intro r
  induction r with
  | zero =>
    intro x AL p h
    have hcu := DV.cu 0 x AL h
    obtain ⟨a, rfl, h2, h3, h4, h5⟩ := h
    refine ⟨rfl, fun k nd b hk hb => ?_⟩
    cases k with
    | zero =>
      obtain rfl : a = b := Option.some.inj hb
      obtain rfl : ((p, ⟨0, x⟩) : NT) = nd := Option.some.inj hk
      refine ⟨⟨h2, h3, h4⟩, fun i c hc => ?_, h5, fun j e he => by rw [Nat.zero_add]; exact he⟩
      have hc : ([] : List (List Int32 × NT))[i]? = some c := hc
      cases hc
    | succ k => cases hb
  | succ r ih =>
    intro x AL p h
    obtain ⟨a0, hhd, hcu⟩ := DV.cu (r + 1) x AL h
    obtain ⟨a, Ks, h1, h2, h3, h4, h5, h6, h7⟩ := h
    obtain rfl : a = a0 := by rw [h1] at hhd; exact Option.some.inj hhd
    have hM0 : ∀ (i : Nat) (c : List Int32 × NT), (kdsN ((p, ⟨r + 1, x⟩) : NT))[i]? = some c → ∃ d, x.2[i]? = some d ∧ c = (d.1, (p ++ [i], (⟨r, d.2⟩ : VU))) := fun i c hc => by
      obtain ⟨e, h8, h9⟩ := kds_ks hc
      obtain ⟨d, d1, rfl⟩ := ksJ_get h8
      exact ⟨d, d1, h9⟩
    obtain ⟨Ms, hMs⟩ : ∃ z, z = (kdsN ((p, ⟨r + 1, x⟩) : NT)).map (fun c => preN c.2) := ⟨_, rfl⟩
    have hPL : preN ((p, ⟨r + 1, x⟩) : NT) = (p, ⟨r + 1, x⟩) :: Ms.flatten := by rw [pre_kids, ← hMs]
    have hMl : Ms.length = Ks.length := by
      rw [hMs, List.length_map, kdsN_len, h6]
      exact List.length_map _
    have hMi : ∀ (i : Nat) (M : List NT), Ms[i]? = some M → ∃ (d : List Int32 × JVt r) (K : List Nat), x.2[i]? = some d ∧ Ks[i]? = some K ∧ M = preN (p ++ [i], (⟨r, d.2⟩ : VU)) ∧ DVat f M K := fun i M hM => by
      rw [hMs, List.getElem?_map] at hM
      cases hc : (kdsN ((p, ⟨r + 1, x⟩) : NT))[i]? with
      | none => rw [hc] at hM; cases hM
      | some c =>
        rw [hc] at hM
        obtain rfl := Option.some.inj hM
        obtain ⟨d, d1, d2⟩ := hM0 i c hc
        have hi := (List.getElem?_eq_some_iff.mp d1).1
        obtain ⟨K, hK⟩ : ∃ K, Ks[i]? = some K := ⟨_, List.getElem?_eq_getElem (by omega)⟩
        refine ⟨d, K, d1, hK, by rw [d2], ?_⟩
        rw [d2]
        exact ih d.2 K (p ++ [i]) (h7 i d K d1 hK).1
    have hbl : ∀ (i : Nat) (M : List NT) (K : List Nat), Ms[i]? = some M → Ks[i]? = some K → M.length = K.length := fun i M K hM hK => by
      obtain ⟨d, K2, -, g2, -, g4⟩ := hMi i M hM
      obtain rfl : K = K2 := Option.some.inj (hK.symm.trans g2)
      exact g4.1
    have hoff := off_eq Ms Ks hMl hbl
    have hfl : Ms.flatten.length = Ks.flatten.length := by
      have e := hoff Ms.length
      rw [off_all, hMl, off_all] at e
      exact e
    have hln : (preN ((p, ⟨r + 1, x⟩) : NT)).length = AL.length := by rw [hPL, h1, List.length_cons, List.length_cons, hfl]
    refine ⟨hln, fun k nd b hk hb => ?_⟩
    rw [hPL] at hk
    rw [h1] at hb
    cases k with
    | zero =>
      obtain rfl : a = b := Option.some.inj hb
      obtain rfl : ((p, ⟨r + 1, x⟩) : NT) = nd := Option.some.inj hk
      refine ⟨hcu, fun i c hc => ?_, by rw [hln]; exact h5, fun j e he => by rw [Nat.zero_add]; exact he⟩
      obtain ⟨d, d1, d2⟩ := hM0 i c hc
      have hM : Ms[i]? = some (preN c.2) := by rw [hMs, List.getElem?_map, hc]; rfl
      obtain ⟨d', K, d1', hK, -, hat⟩ := hMi i _ hM
      obtain rfl : d = d' := Option.some.inj (d1.symm.trans d1')
      obtain ⟨-, b, g2, g3, -, -⟩ := h7 i d K d1 hK
      have hK0 : K[0]? = some b := by rw [← g2]; cases K <;> rfl
      have hM1 : (preN c.2)[0]? = some c.2 := preN_0 c.2
      refine ⟨b, offL Ks i + 0 + 1, g3, ?_, ?_⟩
      · rw [hPL, List.getElem?_cons_succ, ← hoff]
        show Ms.flatten[offL Ms i + 0]? = some c.2
        rw [flat_get Ms i 0 _ hM (List.getElem?_eq_some_iff.mp hM1).1]
        exact hM1
      · rw [h1, List.getElem?_cons_succ]
        show Ks.flatten[offL Ks i + 0]? = some b
        rw [flat_get Ks i 0 K hK (List.getElem?_eq_some_iff.mp hK0).1]
        exact hK0
    | succ k =>
      rw [List.getElem?_cons_succ] at hk hb
      obtain ⟨i, j, M, hM, hMj, hkk⟩ := flat_at Ms k nd hk
      obtain ⟨d, K, d1, hK, hMe, hat⟩ := hMi i M hM
      have hjM := (List.getElem?_eq_some_iff.mp hMj).1
      have hjK : j < K.length := by rw [← hat.1]; exact hjM
      have hKj : K[j]? = some b := by
        rw [hkk, hoff, flat_get Ks i j K hK hjK] at hb
        exact hb
      obtain ⟨g1, g2, g3, g4⟩ := hat.2 j nd b hMj hKj
      refine ⟨g1, fun q c hc => ?_, g3, fun q e he => ?_⟩
      · obtain ⟨b2, j2, k1, k2, k3⟩ := g2 q c hc
        refine ⟨b2, offL Ks i + j2 + 1, k1, ?_, ?_⟩
        · rw [hPL, List.getElem?_cons_succ, ← hoff, flat_get Ms i j2 M hM (List.getElem?_eq_some_iff.mp k2).1]
          exact k2
        · rw [h1, List.getElem?_cons_succ, flat_get Ks i j2 K hK (List.getElem?_eq_some_iff.mp k3).1]
          exact k3
      · have he2 := g4 q e he
        rw [hPL, show k + 1 + q = (offL Ms i + (j + q)) + 1 by omega, List.getElem?_cons_succ, flat_get Ms i (j + q) M hM (List.getElem?_eq_some_iff.mp he2).1]
        exact he2
/-- each leads to the next -/
def LKs (f : Nat → va_E) (AL : List Nat) : Prop := ∀ (j a b : Nat), AL[j]? = some a → AL[j + 1]? = some b → refE 8 (f a) = some b
theorem preJ_dep : ∀ (r : Nat) (p : List Nat) (x : JVt r) (nd : NT), nd ∈ preJ r p x → nd.2.1 ≤ r := by
  intro r
  induction r with
  | zero =>
    intro p x nd h
    have h : nd ∈ [((p, ⟨0, x⟩) : NT)] := h
    rw [List.mem_singleton.mp h]
    exact Nat.le_refl _
  | succ r ih =>
    intro p x nd h
    have h : nd ∈ ((p, ⟨r + 1, x⟩) : NT) :: (x.2.mapIdx (fun i c => preJ r (p ++ [i]) c.2)).flatten := h
    rcases List.mem_cons.mp h with h | h
    · rw [h]
      exact Nat.le_refl _
    · obtain ⟨l, hl, hn⟩ := List.mem_flatten.mp h
      obtain ⟨i, hi, e⟩ := List.mem_mapIdx.mp hl
      have e : preJ r (p ++ [i]) (x.2[i]).2 = l := e
      rw [← e] at hn
      have := ih (p ++ [i]) (x.2[i]).2 nd hn
      omega
theorem DV.doc {E : Nat → Nat} {f : Nat → va_E} {x : JVt 32} {AL : List Nat} {lb : Nat} (h : DV f 32 x AL) (hl : LKs f AL) (hlen : AL.length ≤ 4096) (hF : ∀ a, a ∈ AL → isF E a) (hb : ∀ (k a : Nat), AL[k]? = some a → k + 1 = AL.length → a = lb) (hlb : refE 8 (f lb) = none) : DOC E f (preN ([], ⟨32, x⟩)) AL := by
  obtain ⟨h1, h2⟩ := DV.at_ 32 x AL [] h
  refine ⟨⟨h1, by omega⟩, fun k nd a hk ha => ?_⟩
  obtain ⟨g1, g2, g3, g4⟩ := h2 k nd a hk ha
  refine ⟨hF a (List.mem_of_getElem? ha), g1, fun i c hc => ?_, g3, g4, ?_, preJ_dep 32 [] x nd (List.mem_of_getElem? hk)⟩
  · obtain ⟨b, j, k1, k2, k3⟩ := g2 i c hc
    exact ⟨b, k1, j, k2, k3⟩
  · cases hn : AL[k + 1]? with
    | some b => exact hl k a b ha hn
    | none =>
      have hk9 := (List.getElem?_eq_some_iff.mp ha).1
      have hn9 := List.getElem?_eq_none_iff.mp hn
      rw [hb k a ha (by omega)]
      exact hlb
theorem szF_w {f : Nat → va_E} {a : Nat} {kd : Int32} {nu : Int64} {tx me pa na : Option Nat} {ix : Int32} {nm no : Option Nat} {sp : Int32} (e : f a = vE kd nu tx me pa na ix nm no sp) : szF f a = (me.map (fun b => match f b with
    | .inl (_, n, _) => n
    | _ => 0)).getD 0 := by
  unfold szF
  rw [e]
  cases me <;> rfl
theorem memF_w {f : Nat → va_E} {a i : Nat} {kd : Int32} {nu : Int64} {tx me pa na : Option Nat} {ix : Int32} {nm no : Option Nat} {sp : Int32} (e : f a = vE kd nu tx me pa na ix nm no sp) : memF f a i = me.bind (fun b => match f b with
    | .inl (_, _, .inr (.inr (.inr (.inr g)))) => g i
    | _ => none) := by
  unfold memF
  rw [e]
  cases me <;> rfl
section DVfr
variable {cI cV : ClassId} {E lv : Nat → Nat} {L : List Nat} {f f' : Nat → va_E}
/-- an object's own: kind, number, units, members, span -/
theorem vSm.own (hO : PO cI cV E lv L f) (hrow : ∀ b, E b = 4 ∨ E b = 5 ∨ E b = 6 → f' b = f b) {a : Nat} (ha : isV E a) (h : vSm f f' a) : (∀ x, CL f a x → CL f' a x) ∧ szF f' a = szF f a ∧ (∀ i, memF f' a i = memF f a i) ∧ fldE 9 (f' a) = fldE 9 (f a) := by
  obtain ⟨kd, nu, tx, me, pa, na, ix, nm, no, sp, pa', na', ix', nm', no', e1, e2⟩ := h
  obtain ⟨y1, y2, y3, y4, y5, y6, y7, y8, y9, y10, e3, hv⟩ := hO.val ha
  obtain ⟨x1, x2, x3, x4, x5, x6, x7, x8, x9, x10⟩ := vE_inj (e1.symm.trans e3)
  subst x1; subst x2; subst x3; subst x4
  have hme : ∀ b, me = some b → f' b = f b := fun b hb => hrow b (Or.inr (hv.2.1 b hb))
  refine ⟨fun x hx => ?_, ?_, fun i => ?_, by rw [e1, e2]; rfl⟩
  · obtain ⟨k1, k2, k3, k4⟩ := hx.of e1
    refine ⟨kd, nu, tx, me, pa', na', ix', nm', no', sp, e2, k1, k2, k3, fun z => ?_⟩
    obtain ⟨q, q1, q2⟩ := k4 z
    exact ⟨q, q1, (txL_eq (hrow q (Or.inl (hv.1 q q1)))).trans q2⟩
  · rw [szF_w e1, szF_w e2]
    cases hm : me with
    | none => rfl
    | some b => show (match f' b with | .inl (_, n, _) => n | _ => 0) = (match f b with | .inl (_, n, _) => n | _ => 0); rw [hme b hm]
  · rw [memF_w e1, memF_w e2]
    cases hm : me with
    | none => rfl
    | some b =>
      show (match f' b with
        | .inl (_, _, .inr (.inr (.inr (.inr g)))) => g i
        | _ => none) = (match f b with
        | .inl (_, _, .inr (.inr (.inr (.inr g)))) => g i
        | _ => none)
      rw [hme b hm]
theorem DV.fr (hO : PO cI cV E lv L f) (hrow : ∀ b, E b = 4 ∨ E b = 5 ∨ E b = 6 → f' b = f b) : ∀ (r : Nat) (x : JVt r) (AL : List Nat), DV f r x AL → (∀ a, a ∈ AL → isV E a ∧ vSm f f' a) → (∀ a, a ∈ AL.tail → nmL f' a = nmL f a ∧ upS (f a) (f' a)) → DV f' r x AL := by
  intro r
  induction r with
  | zero =>
    intro x AL h hs _
    obtain ⟨a, rfl, h2, h3, h4, h5⟩ := h
    obtain ⟨q1, q2⟩ := hs a List.mem_cons_self
    obtain ⟨k1, k2, k3, k4⟩ := q2.own hO hrow q1
    exact ⟨a, rfl, k1 _ h2, h3, k2.trans h4, k4.trans h5⟩
  | succ r ih =>
    intro x AL h hs hn
    obtain ⟨a, Ks, rfl, h2, h3, h4, h5, h6, h7⟩ := h
    obtain ⟨q1, q2⟩ := hs a List.mem_cons_self
    obtain ⟨k1, k2, k3, k4⟩ := q2.own hO hrow q1
    refine ⟨a, Ks, rfl, k1 _ h2, h3, k2.trans h4, k4.trans h5, h6, fun i c K hc hK => ?_⟩
    obtain ⟨g1, b, g2, g3, g4, g9⟩ := h7 i c K hc hK
    have hin : ∀ z, z ∈ K → z ∈ Ks.flatten := fun z hz => List.mem_flatten.mpr ⟨K, List.mem_of_getElem? hK, hz⟩
    have hbK : b ∈ K := by cases K with
      | nil => cases g2
      | cons y K => obtain rfl : y = b := Option.some.inj g2; exact List.mem_cons_self
    refine ⟨ih c.2 K g1 (fun z hz => hs z (List.mem_cons_of_mem _ (hin z hz))) (fun z hz => hn z (hin z (List.mem_of_mem_tail hz))), b, g2, (k3 i).trans g3, fun z => (hn b (hin b hbK)).1.trans (g4 z), g9.of (hn b (hin b hbK)).2⟩
end DVfr
/-- the objects of a value that has been read -/
def OBJ (E E' : Nat → Nat) (la : Option Nat) (f' : Nat → va_E) (v lb ct : Nat) (k : Nat) (x : JVt k) : Prop := ∃ AL : List Nat, DV f' k x AL ∧ LKs f' AL ∧ AL.head? = some v ∧ (∀ (j a : Nat), AL[j]? = some a → j + 1 = AL.length → a = lb) ∧ refE 8 (f' lb) = none ∧ (∀ a, a ∈ AL → E a = 0 ∧ isF E' a) ∧ (∀ z, la = some z → refE 8 (f' z) = some v) ∧ AL.Nodup ∧ AL.length = ct ∧ refE 4 (f' v) = none
/-- the members that have been read -/
def KSd (E E1 : Nat → Nat) (f1 : Nat → va_E) (it : Nat) (kd : Int32) (k : Nat) (acc : List (List Int32 × JVt k)) (ms : List Nat) (lb ct : Nat) : Prop := ∃ Ks : List (List Nat), Ks.length = acc.length ∧ ms.length = acc.length ∧ (∀ (j : Nat) (c : List Int32 × JVt k) (K : List Nat) (m : Nat), acc[j]? = some c → Ks[j]? = some K → ms[j]? = some m → DV f1 k c.2 K ∧ K.head? = some m ∧ (kd = 6 → nmL f1 m = some c.1) ∧ UPf f1 it j (kd = 6) m) ∧ LKs f1 (it :: Ks.flatten) ∧ (∀ (j a : Nat), (it :: Ks.flatten)[j]? = some a → j + 1 = (it :: Ks.flatten).length → a = lb) ∧ refE 8 (f1 lb) = none ∧ (∀ a, a ∈ Ks.flatten → E a = 0 ∧ isF E1 a) ∧ (it :: Ks.flatten).Nodup ∧ Ks.flatten.length = ct
theorem KSd.st {E E1 : Nat → Nat} {f1 : Nat → va_E} {it : Nat} {kd : Int32} {k : Nat} (h : refE 8 (f1 it) = none) : KSd E E1 f1 it kd k [] [] it 0 := ⟨[], rfl, rfl, fun j c K m h => (by cases h), fun j a b h1 h2 => (by cases h2), fun j a h1 h2 => (by
  cases j with
  | zero => exact (Option.some.inj h1).symm
  | succ j => cases h1), h, fun a ha => (by cases ha), (by simp), rfl⟩
theorem refE8_v {f : Nat → va_E} {a : Nat} {kd : Int32} {nu : Int64} {tx me pa na : Option Nat} {ix : Int32} {nm no : Option Nat} {sp : Int32} (e : f a = vE kd nu tx me pa na ix nm no sp) : refE 8 (f a) = no := by
  rw [e]
  exact refE_rf (o := no) rfl
section KSn
variable {cI cV : ClassId} {E E1 E2 E3 lv : Nat → Nat} {L1 L3 : List Nat} {f1 f2 f3 f4 : Nat → va_E} {it lb v lb3 s k ct c3 : Nat} {kd : Int32} {acc : List (List Int32 × JVt k)} {ms : List Nat} {x : JVt k} {X : List Int32}
theorem KSd.next (hO1 : PO cI cV E1 lv L1 f1) (h : KSd E E1 f1 it kd k acc ms lb ct) (hx : EX E E1) (hit : E it = 1) (hx2 : EX E1 E2) (hf2 : ∀ a, E1 a ≠ 0 → f2 a = f1 a) (hO3 : PO cI cV E3 lv L3 f3) (hx3 : EX E2 E3) (hK : KX E2 (some lb) f2 f3) (hlb : isV E1 lb) (hms : ∀ a, a ∈ ms → isV E1 a ∧ E a = 0) (ho : OBJ E2 E3 (some lb) f3 v lb3 c3 k x) (hs : s = 2 ∨ s = 3) (hoff : ∀ a, a ≠ v → ms[ms.length - 1]? ≠ some a → f4 a = f3 a) (hv4 : ∃ kd nu tx me pa na ix nm no sp pa' na' ix', f3 v = vE kd nu tx me pa na ix nm no sp ∧ f4 v = vE kd nu tx me pa' na' ix' nm no sp) (hz4 : ∀ z, ms[ms.length - 1]? = some z → ∃ kd nu tx me pa na ix nm nm' no sp, f3 z = vE kd nu tx me pa na ix nm no sp ∧ f4 z = vE kd nu tx me pa na ix nm' no sp) (hnm : kd = 6 → nmL f4 v = some X) (hup : UPf f4 it ms.length (kd = 6) v) : KSd E (va_up E3 v s) f4 it kd k (acc ++ [(X, x)]) (ms ++ [v]) lb3 (ct + c3) := by
  obtain ⟨Ks, h1, h2, h3, h4, h5, h6, h7, h8, h10⟩ := h
  obtain ⟨AL, o1, o2, o3, o4, o5, o6, o7, o8, o9, -⟩ := ho
  have hvAL : v ∈ AL := by
    cases AL with
    | nil => cases o3
    | cons y AL => obtain rfl : y = v := Option.some.inj o3; exact List.mem_cons_self
  have nz : ∀ {F : Nat → Nat} {a : Nat}, isV F a → F a ≠ 0 := fun {F a} h => by rcases h with h | h | h <;> omega
  have hE2v : E2 v = 0 := (o6 v hvAL).1
  have hE1v : E1 v = 0 := hx2.z hE2v
  have hit1 : isV E1 it := Or.inl ((hx it (by omega)).trans hit)
  have hOLV : ∀ a, a ∈ it :: Ks.flatten → isV E1 a := fun a ha => by
    rcases List.mem_cons.mp ha with e | e
    · rw [e]; exact hit1
    · exact isF.v (h7 a e).2
  have hAL2 : ∀ a, a ∈ AL → E2 a = 0 := fun a ha => (o6 a ha).1
  have hlast2 : ∀ z, ms[ms.length - 1]? = some z → E2 z ≠ 0 := fun z hz => by
    have q := (hms z (List.mem_of_getElem? hz)).1
    rw [hx2 z (nz q)]; exact nz q
  have hx13 : EX E1 E3 := hx2.tr hx3
  -- an object that was there
  have old : ∀ a, isV E1 a → ∃ kd nu tx me pa na ix nm no sp nm' no', f1 a = vE kd nu tx me pa na ix nm no sp ∧ f4 a = vE kd nu tx me pa na ix nm' no' sp ∧ refE 8 (f4 a) = refE 8 (f3 a) ∧ (a ≠ lb → no' = no) := fun a ha => by
    obtain ⟨kd, nu, tx, me, pa, na, ix, nm, no, sp, e, -⟩ := hO1.val ha
    have q1 := nz ha
    have q2 : E2 a ≠ 0 := by rw [hx2 a q1]; exact q1
    have e2 : f2 a = vE kd nu tx me pa na ix nm no sp := (hf2 a q1).trans e
    obtain ⟨z1, z2, z3, z4, z5, z6, z7, z8, z9, z10, e3, -⟩ := hO3.val (hx13.el.v ha)
    obtain ⟨no', e4⟩ := nx8_5 e2 ⟨z1, z2, z3, z4, z5, z6, z7, z8, z9, z10, e3⟩ (hK.1 a q2)
    have hno : a ≠ lb → no' = no := fun hn => by
      have e5 := hK.2 a q2 (fun q => hn (Option.some.inj q).symm)
      rw [e4, e2] at e5
      obtain ⟨x1, x2, x3, x4, x5, x6, x7, x8, x9, x10⟩ := vE_inj e5
      exact x9
    have hav : a ≠ v := fun q => q1 (by rw [q]; exact hE1v)
    by_cases hl : ms[ms.length - 1]? = some a
    · obtain ⟨y1, y2, y3, y4, y5, y6, y7, y8, y9, y10, y11, g1, g2⟩ := hz4 a hl
      obtain ⟨x1, x2, x3, x4, x5, x6, x7, x8, x9, x10⟩ := vE_inj (e4.symm.trans g1)
      subst x1; subst x2; subst x3; subst x4; subst x5; subst x6; subst x7; subst x10
      exact ⟨_, _, _, _, _, _, _, nm, no, _, y9, y10, e, g2, by rw [refE8_v g1, refE8_v g2], fun hn => by rw [← x9]; exact hno hn⟩
    · have e6 := hoff a hav hl
      exact ⟨kd, nu, tx, me, pa, na, ix, nm, no, sp, nm, no', e, e6.trans e4, by rw [e6], hno⟩
  have rowE : ∀ b, E1 b = 4 ∨ E1 b = 5 ∨ E1 b = 6 → f4 b = f1 b := fun b hb => by
    have q1 : E1 b ≠ 0 := by omega
    have hbv : b ≠ v := fun e => q1 (by rw [e]; exact hE1v)
    have hbl : ms[ms.length - 1]? ≠ some b := fun e => by
      have q := (hms b (List.mem_of_getElem? e)).1
      rcases q with q | q | q <;> omega
    rw [hoff b hbv hbl, hK.2 b (by rw [hx2 b q1]; exact q1) (fun e => by
      have e := Option.some.inj e
      rw [e] at hlb
      rcases hlb with q | q | q <;> omega)]
    exact hf2 b q1
  have nmO : ∀ a, isV E1 a → nmL f4 a = nmL f1 a := fun a ha => by
    obtain ⟨kd, nu, tx, me, pa, na, ix, nm, no, sp, nm', no', e1, e2, -, -⟩ := old a ha
    exact nmL_same hO1 ha e1 e2 (fun b hb => rowE b (Or.inl hb))
  have upO : ∀ a, isV E1 a → upS (f1 a) (f4 a) := fun a ha => by
    obtain ⟨kd, nu, tx, me, pa, na, ix, nm, no, sp, nm', no', e1, e2, -, -⟩ := old a ha
    exact upS.v e1 e2
  have smO : ∀ a, isV E1 a → vSm f1 f4 a := fun a ha => by
    obtain ⟨kd, nu, tx, me, pa, na, ix, nm, no, sp, nm', no', e1, e2, -, -⟩ := old a ha
    exact ⟨kd, nu, tx, me, pa, na, ix, nm, no, sp, pa, na, ix, nm', no', e1, e2⟩
  -- an object that is new
  have row3 : ∀ b, E3 b = 4 ∨ E3 b = 5 ∨ E3 b = 6 → f4 b = f3 b := fun b hb => by
    have hbv : b ≠ v := fun e => by
      have q := (o6 v hvAL).2
      rw [e] at hb
      rcases q with q | q <;> omega
    have hbl : ms[ms.length - 1]? ≠ some b := fun e => by
      have q := hx13.el.v (hms b (List.mem_of_getElem? e)).1
      rcases q with q | q | q <;> omega
    exact hoff b hbv hbl
  have newA : ∀ a, a ∈ AL → a ≠ v → f4 a = f3 a := fun a ha hn => hoff a hn (fun e => hlast2 a e (hAL2 a ha))
  have smN : ∀ a, a ∈ AL → vSm f3 f4 a ∧ refE 8 (f4 a) = refE 8 (f3 a) := fun a ha => by
    by_cases e : a = v
    · subst e
      obtain ⟨kd, nu, tx, me, pa, na, ix, nm, no, sp, pa', na', ix', e1, e2⟩ := hv4
      exact ⟨⟨kd, nu, tx, me, pa, na, ix, nm, no, sp, pa', na', ix', nm, no, e1, e2⟩, by rw [refE8_v e1, refE8_v e2]⟩
    · have e1 := newA a ha e
      obtain ⟨kd, nu, tx, me, pa, na, ix, nm, no, sp, e2, -⟩ := hO3.val (isF.v (o6 a ha).2)
      exact ⟨⟨kd, nu, tx, me, pa, na, ix, nm, no, sp, pa, na, ix, nm, no, e2, e1.trans e2⟩, by rw [e1]⟩
  have tlv : ∀ a, a ∈ AL.tail → a ≠ v ∧ a ∈ AL := fun a ha => by
    cases AL with
    | nil => cases ha
    | cons y AL =>
      obtain rfl : y = v := Option.some.inj o3
      exact ⟨fun e => (List.nodup_cons.mp o8).1 (by rw [← e]; exact ha), List.mem_cons_of_mem _ ha⟩
  have dvN : DV f4 k x AL := DV.fr hO3 row3 k x AL o1 (fun a ha => ⟨isF.v (o6 a ha).2, (smN a ha).1⟩) (fun a ha => by
    obtain ⟨q1, q2⟩ := tlv a ha
    obtain ⟨kd, nu, tx, me, pa, na, ix, nm, no, sp, e2, -⟩ := hO3.val (isF.v (o6 a q2).2)
    exact ⟨nmL_same hO3 (isF.v (o6 a q2).2) e2 ((newA a q2 q1).trans e2) (fun b hb => row3 b (Or.inl hb)), upS.e (newA a q2 q1)⟩)
  have hfl : (Ks ++ [AL]).flatten = Ks.flatten ++ AL := by rw [List.flatten_append, List.flatten_cons, List.flatten_nil, List.append_nil]
  have hOL : it :: (Ks ++ [AL]).flatten = (it :: Ks.flatten) ++ AL := by rw [hfl]; rfl
  have dis : ∀ a, a ∈ it :: Ks.flatten → a ∈ AL → False := fun a q1 q2 => by
    have q3 := nz (hOLV a q1)
    have q4 : E2 a ≠ 0 := by rw [hx2 a q3]; exact q3
    exact q4 (hAL2 a q2)
  refine ⟨Ks ++ [AL], by rw [List.length_append, List.length_append, h1]; rfl, by rw [List.length_append, List.length_append, h2]; rfl, fun j c K m hc hK' hm => ?_, ?_, ?_, ?_, ?_, ?_, by rw [hfl, List.length_append, h10, o9]⟩
  · by_cases hj : j < acc.length
    · rw [List.getElem?_append_left hj] at hc
      rw [List.getElem?_append_left (by omega)] at hK' hm
      obtain ⟨g1, g2, g3, g9⟩ := h3 j c K m hc hK' hm
      have hin : ∀ z, z ∈ K → isV E1 z := fun z hz => hOLV z (List.mem_cons_of_mem _ (List.mem_flatten.mpr ⟨K, List.mem_of_getElem? hK', hz⟩))
      refine ⟨DV.fr hO1 rowE k c.2 K g1 (fun z hz => ⟨hin z hz, smO z (hin z hz)⟩) (fun z hz => ⟨nmO z (hin z (List.mem_of_mem_tail hz)), upO z (hin z (List.mem_of_mem_tail hz))⟩), g2, fun q => ?_, g9.of (upO m (hms m (List.mem_of_getElem? hm)).1)⟩
      rw [nmO m (hms m (List.mem_of_getElem? hm)).1]
      exact g3 q
    · have hjl := (List.getElem?_eq_some_iff.mp hc).1
      rw [List.length_append, List.length_singleton] at hjl
      obtain rfl : j = acc.length := by omega
      rw [List.getElem?_append_right (Nat.le_refl _), Nat.sub_self] at hc
      rw [List.getElem?_append_right (by omega), h1, Nat.sub_self] at hK'
      rw [List.getElem?_append_right (by omega), h2, Nat.sub_self] at hm
      obtain rfl : (X, x) = c := Option.some.inj hc
      obtain rfl : AL = K := Option.some.inj hK'
      obtain rfl : v = m := Option.some.inj hm
      exact ⟨dvN, o3, hnm, by rw [← h2]; exact hup⟩
  · rw [hOL]
    intro j a b ha hb
    by_cases hj1 : j + 1 < (it :: Ks.flatten).length
    · rw [List.getElem?_append_left (by omega)] at ha
      rw [List.getElem?_append_left hj1] at hb
      have hne : a ≠ lb := fun e => by
        have hl9 := (List.getElem?_eq_some_iff.mp ha).1
        obtain ⟨z, hz⟩ : ∃ z, (it :: Ks.flatten)[(it :: Ks.flatten).length - 1]? = some z := ⟨_, List.getElem?_eq_getElem (by omega)⟩
        have hz2 := h5 _ z hz (by omega)
        have := nodup_ix h8 (ha.trans (by rw [e])) (hz.trans (by rw [hz2]))
        omega
      obtain ⟨kd, nu, tx, me, pa, na, ix, nm, no, sp, nm', no', e1, e2, -, e4⟩ := old a (hOLV a (List.mem_of_getElem? ha))
      have h9 := h4 j a b ha hb
      rw [refE8_v e1] at h9
      rw [refE8_v e2, e4 hne]
      exact h9
    · rw [List.getElem?_append_right (by omega)] at hb
      by_cases hj2 : j < (it :: Ks.flatten).length
      · rw [List.getElem?_append_left hj2] at ha
        have hal := h5 j a ha (by omega)
        rw [show j + 1 - (it :: Ks.flatten).length = 0 by omega] at hb
        have hbv : b = v := by
          cases AL with
          | nil => cases hb
          | cons y AL =>
            obtain rfl : y = v := Option.some.inj o3
            exact (Option.some.inj hb).symm
        obtain ⟨kd, nu, tx, me, pa, na, ix, nm, no, sp, nm', no', e1, e2, e3, -⟩ := old a (hOLV a (List.mem_of_getElem? ha))
        rw [e3, hal, hbv]
        exact o7 lb rfl
      · rw [List.getElem?_append_right (by omega)] at ha
        rw [(smN a (List.mem_of_getElem? ha)).2]
        refine o2 (j - (it :: Ks.flatten).length) a b ha ?_
        rw [show j - (it :: Ks.flatten).length + 1 = j + 1 - (it :: Ks.flatten).length by omega]
        exact hb
  · rw [hOL]
    intro j a ha hj
    rw [List.length_append] at hj
    have hAl : 0 < AL.length := List.length_pos_of_mem hvAL
    rw [List.getElem?_append_right (by omega)] at ha
    exact o4 _ a ha (by omega)
  · have hl3 : lb3 ∈ AL := by
      have hAl : 0 < AL.length := List.length_pos_of_mem hvAL
      obtain ⟨z, hz⟩ : ∃ z, AL[AL.length - 1]? = some z := ⟨_, List.getElem?_eq_getElem (by omega)⟩
      have := o4 _ z hz (by omega)
      rw [← this]
      exact List.mem_of_getElem? hz
    rw [(smN lb3 hl3).2]
    exact o5
  · rw [hfl]
    intro a ha
    rcases List.mem_append.mp ha with q | q
    · obtain ⟨q1, q2⟩ := h7 a q
      have q3 := nz (isF.v q2)
      have hav : a ≠ v := fun e => q3 (by rw [e]; exact hE1v)
      refine ⟨q1, ?_⟩
      show va_up E3 v s a = 2 ∨ va_up E3 v s a = 3
      rw [va_up_ne _ _ hav, hx13 a q3]
      exact q2
    · obtain ⟨q1, q2⟩ := o6 a q
      refine ⟨hx.z (hx2.z q1), ?_⟩
      show va_up E3 v s a = 2 ∨ va_up E3 v s a = 3
      by_cases e : a = v
      · rw [e, va_up_self]; exact hs
      · rw [va_up_ne _ _ e]; exact q2
  · rw [hOL]
    exact List.nodup_append.mpr ⟨h8, o8, fun a ha b hb e => dis a ha (by rw [e]; exact hb)⟩
end KSn
/-- the row of members, if there is one -/
def MRw (cV : ClassId) (E1 : Nat → Nat) (f1 : Nat → va_E) (it : Nat) (me : Option Nat) (ms : List Nat) : Prop := (me = none ∧ ms = []) ∨ ∃ (ra : Nat) (gr : Nat → Option Nat), me = some ra ∧ E1 ra ≠ 0 ∧ ra ≠ it ∧ f1 ra = aE cV ms.length gr ∧ ∀ j, j < ms.length → gr j = ms[j]?
section KSf
variable {cI cV : ClassId} {E E1 lv : Nat → Nat} {L1 : List Nat} {f1 f5 : Nat → va_E} {it lb k ct kdn : Nat} {kd : Int32} {acc : List (List Int32 × JVt k)} {ms : List Nat}
/-- a container is done -/
theorem KSd.fin {E0 E5 : Nat → Nat} {la : Option Nat} (hO1 : PO cI cV E1 lv L1 f1) (h : KSd E E1 f1 it kd k acc ms lb ct) (hit : isV E1 it) (hkd : kd = ckd kdn) (hk5 : 5 ≤ kdn) (hk6 : kdn ≤ 6) {me no : Option Nat} {sp : Int32} (e1 : f1 it = vE kd 0 none me none none 0 none no 0) (e5 : f5 it = vE kd 0 none me none none 0 none no sp) (hme : MRw cV E1 f1 it me ms) (hoff : ∀ a, E1 a ≠ 0 → a ≠ it → f5 a = f1 a) (hsp : sp = nI (ct + 1)) (hE0 : EX E0 E) (h0 : E0 it = 0) (hE5 : ∀ a, isF E1 a → isF E5 a) (h5 : isF E5 it) (hla : ∀ z, la = some z → refE 8 (f5 z) = some it) : OBJ E0 E5 la f5 it lb (ct + 1) (k + 1) ((kdn, 0, []), acc) := by
  obtain ⟨Ks, h1, h2, h3, h4, g5, g6, h7, h8, h10⟩ := h
  have nz : ∀ {F : Nat → Nat} {a : Nat}, isV F a → F a ≠ 0 := fun {F a} h => by rcases h with h | h | h <;> omega
  have hni : ∀ a, a ∈ Ks.flatten → a ≠ it := fun a ha e => (List.nodup_cons.mp h8).1 (by rw [← e]; exact ha)
  have hsm : ∀ a, a ∈ Ks.flatten → f5 a = f1 a := fun a ha => hoff a (nz (isF.v (h7 a ha).2)) (hni a ha)
  have hrow : ∀ b, E1 b = 4 ∨ E1 b = 5 ∨ E1 b = 6 → f5 b = f1 b := fun b hb => hoff b (by omega) (fun e => by
    rw [e] at hb
    rcases hit with q | q | q <;> omega)
  have hlen : (it :: Ks.flatten).length = ct + 1 := by rw [List.length_cons, h10]
  have hmsl : szF f5 it = ms.length ∧ ∀ i, i < ms.length → memF f5 it i = ms[i]? := by
    rcases hme with ⟨m1, m2⟩ | ⟨ra, gr, m1, m2, m5, m3, m4⟩
    · subst m1
      refine ⟨by rw [szF_w e5, m2]; rfl, fun i hi => by rw [m2] at hi; exact absurd hi (Nat.not_lt_zero _)⟩
    · subst m1
      have m3 : f5 ra = aE cV ms.length gr := (hoff ra m2 m5).trans m3
      refine ⟨?_, fun i hi => ?_⟩
      · rw [szF_w e5]
        show (match f5 ra with | .inl (_, n, _) => n | _ => 0) = ms.length
        rw [m3]
      · rw [memF_w e5]
        show (match f5 ra with
          | .inl (_, _, .inr (.inr (.inr (.inr g)))) => g i
          | _ => none) = ms[i]?
        rw [m3]
        exact m4 i hi
  have lk : ∀ a, a ∈ it :: Ks.flatten → refE 8 (f5 a) = refE 8 (f1 a) := fun a ha => by
    rcases List.mem_cons.mp ha with e | e
    · rw [e, refE8_v e1, refE8_v e5]
    · rw [hsm a e]
  have hlb : lb ∈ it :: Ks.flatten := by
    obtain ⟨z, hz⟩ : ∃ z, (it :: Ks.flatten)[(it :: Ks.flatten).length - 1]? = some z := ⟨_, List.getElem?_eq_getElem (by omega)⟩
    have := g5 _ z hz (by omega)
    rw [← this]
    exact List.mem_of_getElem? hz
  refine ⟨it :: Ks.flatten, ⟨it, Ks, rfl, ⟨kd, 0, none, me, none, none, 0, none, no, sp, e5, hkd, hk6, fun z => absurd z (by show ¬ kdn = 3; omega), fun z => absurd z (by show ¬ kdn = 4; omega)⟩, fun z => absurd z (by show ¬ kdn < 5; omega), by rw [hmsl.1]; exact h2, by rw [e5, hlen, ← hsp]; rfl, h1, fun i c K hc hK => ?_⟩, fun j a b ha hb => ?_, rfl, g5, by rw [lk lb hlb]; exact g6, fun a ha => ?_, hla, h8, hlen, by rw [e5]; exact refE_rf (o := none) rfl⟩
  · have hi := (List.getElem?_eq_some_iff.mp hc).1
    have hi : i < acc.length := hi
    obtain ⟨m, hm⟩ : ∃ m, ms[i]? = some m := ⟨_, List.getElem?_eq_getElem (by omega)⟩
    obtain ⟨q1, q2, q3, q9⟩ := h3 i c K m hc hK hm
    have hin : ∀ z, z ∈ K → z ∈ Ks.flatten := fun z hz => List.mem_flatten.mpr ⟨K, List.mem_of_getElem? hK, hz⟩
    have nmz : ∀ z, z ∈ K → nmL f5 z = nmL f1 z := fun z hz => by
      obtain ⟨kd, nu, tx, me, pa, na, ix, nm, no, sp, e, -⟩ := hO1.val (isF.v (h7 z (hin z hz)).2)
      exact nmL_same hO1 (isF.v (h7 z (hin z hz)).2) e ((hsm z (hin z hz)).trans e) (fun b hb => hrow b (Or.inl hb))
    have hmK : m ∈ K := by cases K with
      | nil => cases q2
      | cons y K => obtain rfl : y = m := Option.some.inj q2; exact List.mem_cons_self
    refine ⟨DV.fr hO1 hrow k c.2 K q1 (fun z hz => ?_) (fun z hz => ⟨nmz z (List.mem_of_mem_tail hz), upS.e (hsm z (hin z (List.mem_of_mem_tail hz)))⟩), m, q2, (hmsl.2 i (by omega)).trans hm, fun z => ?_, (q9.of (upS.e (hsm m (hin m hmK)))).iff (fun e => ?_)⟩
    · obtain ⟨kd, nu, tx, me, pa, na, ix, nm, no, sp, e, -⟩ := hO1.val (isF.v (h7 z (hin z hz)).2)
      exact ⟨isF.v (h7 z (hin z hz)).2, kd, nu, tx, me, pa, na, ix, nm, no, sp, pa, na, ix, nm, no, e, (hsm z (hin z hz)).trans e⟩
    · rw [nmz m hmK]
      have z : kdn = 6 := z
      exact q3 (by rw [hkd, z]; rfl)
    · show kdn = 6
      rcases (show kdn = 5 ∨ kdn = 6 by omega) with h9 | h9
      · rw [hkd, h9] at e
        exact absurd e (by decide)
      · exact h9
  · rw [lk a (List.mem_of_getElem? ha)]
    exact h4 j a b ha hb
  · rcases List.mem_cons.mp ha with e | e
    · rw [e]; exact ⟨h0, h5⟩
    · exact ⟨hE0.z (h7 a e).1, hE5 a (h7 a e).2⟩
end KSf
/-- a leaf -/
theorem OBJ.leaf {E E' : Nat → Nat} {la : Option Nat} {f' : Nat → va_E} {v k : Nat} {x : LF} {kd : Int32} {nu : Int64} {tx : Option Nat} {sp : Int32} (e : f' v = vE kd nu tx none none none 0 none none sp) (hk : kd = ckd x.1) (h5 : x.1 < 5) (hn : x.1 = 3 → nu = x.2.1) (ht : x.1 = 4 → ∃ q, tx = some q ∧ txL f' q = x.2.2) (hsp : sp = nI 1) (h0 : E v = 0) (hE : isF E' v) (hla : ∀ z, la = some z → refE 8 (f' z) = some v) : OBJ E E' la f' v v 1 k (jleaf k x) := by
  have hcl : CL f' v x := ⟨kd, nu, tx, none, none, none, 0, none, none, sp, e, hk, by omega, hn, ht⟩
  have hsz : szF f' v = 0 := by rw [szF_w e]; rfl
  have h9 : fldE 9 (f' v) = .int (nI 1) := by rw [e, ← hsp]; rfl
  refine ⟨[v], ?_, fun j a b h1 h2 => (by cases h2), rfl, fun j a h1 h2 => ?_, refE8_v e, fun a ha => ?_, hla, by simp, rfl, by rw [e]; exact refE_rf (o := none) rfl⟩
  · cases k with
    | zero => exact ⟨v, rfl, hcl, h5, hsz, h9⟩
    | succ k => exact ⟨v, [], rfl, hcl, fun _ => rfl, hsz, h9, rfl, fun i c K hc => by cases hc⟩
  · cases j with
    | zero => exact (Option.some.inj h1).symm
    | succ j => cases h1
  · rw [List.mem_singleton.mp ha]; exact ⟨h0, hE⟩
/-- the row of members is there -/
theorem KSd.row {cI cV : ClassId} {E E1 E5 lv : Nat → Nat} {L1 : List Nat} {f1 f5 : Nat → va_E} {it lb k ct ra : Nat} {kd : Int32} {acc : List (List Int32 × JVt k)} {ms : List Nat} {no : Option Nat} (hO1 : PO cI cV E1 lv L1 f1) (h : KSd E E1 f1 it kd k acc ms lb ct) (hit : isV E1 it) (e1 : f1 it = vE kd 0 none none none none 0 none no 0) (e5 : f5 it = vE kd 0 none (some ra) none none 0 none no 0) (hoff : ∀ a, E1 a ≠ 0 → a ≠ it → f5 a = f1 a) (hx : EX E1 E5) : KSd E E5 f5 it kd k acc ms lb ct := by
  obtain ⟨Ks, h1, h2, h3, h4, g5, g6, h7, h8, h10⟩ := h
  have nz : ∀ {F : Nat → Nat} {a : Nat}, isV F a → F a ≠ 0 := fun {F a} h => by rcases h with h | h | h <;> omega
  have hni : ∀ a, a ∈ Ks.flatten → a ≠ it := fun a ha e => (List.nodup_cons.mp h8).1 (by rw [← e]; exact ha)
  have hsm : ∀ a, a ∈ Ks.flatten → f5 a = f1 a := fun a ha => hoff a (nz (isF.v (h7 a ha).2)) (hni a ha)
  have hrow : ∀ b, E1 b = 4 ∨ E1 b = 5 ∨ E1 b = 6 → f5 b = f1 b := fun b hb => hoff b (by omega) (fun e => by
    rw [e] at hb
    rcases hit with q | q | q <;> omega)
  have lk : ∀ a, a ∈ it :: Ks.flatten → refE 8 (f5 a) = refE 8 (f1 a) := fun a ha => by
    rcases List.mem_cons.mp ha with e | e
    · rw [e, refE8_v e1, refE8_v e5]
    · rw [hsm a e]
  have hlb : lb ∈ it :: Ks.flatten := by
    obtain ⟨z, hz⟩ : ∃ z, (it :: Ks.flatten)[(it :: Ks.flatten).length - 1]? = some z := ⟨_, List.getElem?_eq_getElem (by rw [List.length_cons]; omega)⟩
    have := g5 _ z hz (by rw [List.length_cons]; omega)
    rw [← this]
    exact List.mem_of_getElem? hz
  refine ⟨Ks, h1, h2, fun j c K m hc hK hm => ?_, fun j a b ha hb => ?_, g5, by rw [lk lb hlb]; exact g6, fun a ha => ⟨(h7 a ha).1, ?_⟩, h8, h10⟩
  · obtain ⟨q1, q2, q3, q9⟩ := h3 j c K m hc hK hm
    have hin : ∀ z, z ∈ K → z ∈ Ks.flatten := fun z hz => List.mem_flatten.mpr ⟨K, List.mem_of_getElem? hK, hz⟩
    have nmz : ∀ z, z ∈ K → nmL f5 z = nmL f1 z := fun z hz => by
      obtain ⟨kd, nu, tx, me, pa, na, ix, nm, no, sp, e, -⟩ := hO1.val (isF.v (h7 z (hin z hz)).2)
      exact nmL_same hO1 (isF.v (h7 z (hin z hz)).2) e ((hsm z (hin z hz)).trans e) (fun b hb => hrow b (Or.inl hb))
    have hmK : m ∈ K := by cases K with
      | nil => cases q2
      | cons y K => obtain rfl : y = m := Option.some.inj q2; exact List.mem_cons_self
    refine ⟨DV.fr hO1 hrow k c.2 K q1 (fun z hz => ?_) (fun z hz => ⟨nmz z (List.mem_of_mem_tail hz), upS.e (hsm z (hin z (List.mem_of_mem_tail hz)))⟩), q2, fun z => by rw [nmz m hmK]; exact q3 z, q9.of (upS.e (hsm m (hin m hmK)))⟩
    obtain ⟨kd, nu, tx, me, pa, na, ix, nm, no, sp, e, -⟩ := hO1.val (isF.v (h7 z (hin z hz)).2)
    exact ⟨isF.v (h7 z (hin z hz)).2, kd, nu, tx, me, pa, na, ix, nm, no, sp, pa, na, ix, nm, no, e, (hsm z (hin z hz)).trans e⟩
  · rw [lk a (List.mem_of_getElem? ha)]
    exact h4 j a b ha hb
  · have q := (h7 a ha).2
    show E5 a = 2 ∨ E5 a = 3
    rw [hx a (nz (isF.v q))]
    exact q
-- what the class's reader of documents says, with the objects that it made
def JFx (f : Nat → Int32) (n k d i p D : Nat) (dp : Int32) (x : JVt k) : Prop := jV f n k i = some (x, p) ∧ dp = nI (max D (d + dpJ k x))
theorem JFx.leaf {f : Nat → Int32} {n k d i p D : Nat} {x : LF} {p1 : Nat} {dp : Int32} (h : ¬ (hereV f n (skipB f n i) = 91 ∨ hereV f n (skipB f n i) = 123)) (hl : jLeaf f n (skipB f n i) = some (x, p1)) (hx : x.1 < 5) (hp : p = skipB f n p1) (hD : d ≤ D) (hdp : dp = nI D) : JFx f n k d i p D dp (jleaf k x) := ⟨by rw [jV_leaf h, hl, hp]; rfl, by rw [dpJ_leaf k hx, hdp]; congr 1; omega⟩
def MFx (cV : ClassId) (bf : Nat → Int32) (n k d i p D : Nat) (kd dp : Int32) (E E' : Nat → Nat) (f' : Nat → va_E) (it lb : Nat) (md md' : Int32) : Prop := ∃ acc : List (List Int32 × JVt (k - 1)), jMem bf n (jV bf n (k - 1)) (decide (kd = 6)) 4097 i [] = some (acc, p) ∧ dp = nI (max D (d + dpK (dpJ (k - 1)) acc)) ∧ ∃ (ms : List Nat) (ct : Nat) (me no : Option Nat), KSd E E' f' it kd (k - 1) acc ms lb ct ∧ f' it = vE kd 0 none me none none 0 none no 0 ∧ MRw cV E' f' it me ms ∧ md' = md + nI ct
def CFx (cV : ClassId) (bf : Nat → Int32) (n k d i p D : Nat) (kd dp : Int32) (E E' : Nat → Nat) (f' : Nat → va_E) (it lb : Nat) (md md' : Int32) : Prop := 0 < k ∧ ∃ acc : List (List Int32 × JVt (k - 1)), jIns bf n (jV bf n (k - 1)) (decide (kd = 6)) i = some (acc, p) ∧ dp = nI (max D (d + 1 + dpK (dpJ (k - 1)) acc)) ∧ ∃ (ms : List Nat) (ct : Nat) (me no : Option Nat), KSd E E' f' it kd (k - 1) acc ms lb ct ∧ f' it = vE kd 0 none me none none 0 none no 0 ∧ MRw cV E' f' it me ms ∧ md' = md + nI ct
theorem MFx.mfn {cV : ClassId} {bf : Nat → Int32} {n k d i p D : Nat} {kd dp : Int32} {E E' : Nat → Nat} {f' : Nat → va_E} {it lb : Nat} {md md' : Int32} (h : MFx cV bf n k d i p D kd dp E E' f' it lb md md') : MFn bf n k d i p D kd dp := by
  obtain ⟨acc, h1, h2, -⟩ := h
  exact ⟨acc, h1, h2⟩
theorem MI.finx {cV : ClassId} {bf : Nat → Int32} {n k d i D : Nat} {kd : Int32} {ms0 : List Nat} {f1 : Nat → va_E} {acc : List (List Int32 × JVt (k - 1))} {p : Nat} {mo dp : Int32} {E E' : Nat → Nat} {f' : Nat → va_E} {it lb : Nat} {md md' : Int32} (h : MI bf n k d i D kd ms0 f1 acc p mo dp) (hm : mo = 0) (ho : ∃ (ms : List Nat) (ct : Nat) (me no : Option Nat), KSd E E' f' it kd (k - 1) acc ms lb ct ∧ f' it = vE kd 0 none me none none 0 none no 0 ∧ MRw cV E' f' it me ms ∧ md' = md + nI ct) : MFx cV bf n k d i p D kd dp E E' f' it lb md md' := by
  rcases h.2.1 with g | g
  · exact absurd (g.1.symm.trans hm) (by decide)
  · exact ⟨acc, g.2, h.2.2.1, ho⟩
theorem CFx.empty {cV : ClassId} {bf : Nat → Int32} {n k d i D : Nat} {kd dp b : Int32} {D1 : Nat} {E : Nat → Nat} {f' : Nat → va_E} {it : Nat} {md : Int32} {no : Option Nat} (hk : 0 < k) (hb : jclo (decide (kd = 6)) = b) (h : hereV bf n (skipB bf n (i + 1)) = b) (hD : D1 = max D (d + 1)) (hdp : dp = nI D1) (hf : f' it = vE kd 0 none none none none 0 none none 0) : CFx cV bf n k d i (skipB bf n (i + 1) + 1) D kd dp E E f' it it md md := ⟨hk, [], jIns_e (h.trans hb.symm), by rw [hdp, hD]; congr 1, [], 0, none, none, KSd.st (refE8_v hf), hf, Or.inl ⟨rfl, rfl⟩, (Int32.add_zero md).symm⟩
theorem CFx.full {cV : ClassId} {bf : Nat → Int32} {n k d i p D : Nat} {kd dp b : Int32} {D1 : Nat} {E E' : Nat → Nat} {f' : Nat → va_E} {it lb : Nat} {md md' : Int32} (hk : 0 < k) (hb : jclo (decide (kd = 6)) = b) (h : ¬ hereV bf n (skipB bf n (i + 1)) = b) (hM : MFx cV bf n k (d + 1) (skipB bf n (i + 1)) p D1 kd dp E E' f' it lb md md') (hc : hereV bf n p = b) (hD : D1 = max D (d + 1)) : CFx cV bf n k d i (p + 1) D kd dp E E' f' it lb md md' := by
  obtain ⟨acc, h1, h2, h3⟩ := hM
  refine ⟨hk, acc, jIns_ok (by rw [hb]; exact h) h1 (by rw [hb]; exact hc), ?_, h3⟩
  rw [h2, hD]
  congr 1
  omega
theorem md_span {a : Int32} {c : Nat} : (a + 1 + nI c) - a = nI (c + 1) := by
  rw [Int32.add_assoc, Int32.add_comm a, Int32.add_sub_cancel, show (1 : Int32) = nI 1 from rfl, nI_add', Nat.add_comm]
theorem CFx.obj {cI cV : ClassId} {lv : Nat → Nat} {L : List Nat} {bf : Nat → Int32} {n k d i p D s : Nat} {kd dp : Int32} {E E' E0 E5 : Nat → Nat} {f' f5 : Nat → va_E} {it lb : Nat} {la : Option Nat} {md0 md' sp : Int32} (h : CFx cV bf n k d (skipB bf n i) p D kd dp E E' f' it lb (md0 + 1) md') (hkd : (kd = 5 ∧ hereV bf n (skipB bf n i) = 91) ∨ (kd = 6 ∧ hereV bf n (skipB bf n i) = 123)) (hs : s = skipB bf n p) (hO : PO cI cV E' lv L f') (hit : isV E' it) (he5 : ∀ me no, f' it = vE kd 0 none me none none 0 none no 0 → f5 it = vE kd 0 none me none none 0 none no sp) (hoff : ∀ a, E' a ≠ 0 → a ≠ it → f5 a = f' a) (hsp : sp = md' - md0) (hE0 : EX E0 E) (h0 : E0 it = 0) (hE5 : ∀ a, isF E' a → isF E5 a) (h5 : isF E5 it) (hla : ∀ z, la = some z → refE 8 (f5 z) = some it) : ∃ (x : JVt k) (ct : Nat), JFx bf n k d i s D dp x ∧ OBJ E0 E5 la f5 it lb ct k x ∧ md' = md0 + nI ct := by
  obtain ⟨hk, acc, h1, h2, ms, ct, me, no, g1, g2, g3, g4⟩ := h
  have hjf : JF bf n k d i s D dp := CFn.jf ⟨hk, acc, h1, h2⟩ hkd hs
  cases k with
  | zero => exact absurd hk (Nat.lt_irrefl 0)
  | succ k =>
    obtain ⟨kdn, hkn, hk5, hk6, hjv⟩ : ∃ kdn : Nat, kd = ckd kdn ∧ 5 ≤ kdn ∧ kdn ≤ 6 ∧ jV bf n (k + 1) i = some (((kdn, 0, []), acc), s) := by
      have h1 : jIns bf n (jV bf n k) (decide (kd = 6)) (skipB bf n i) = some (acc, p) := h1
      rcases hkd with ⟨e1, e2⟩ | ⟨e1, e2⟩
      · refine ⟨5, e1, by decide, by decide, ?_⟩
        show (if _ then _ else _) = _
        rw [if_pos (Or.inl e2), show decide (hereV bf n (skipB bf n i) = 123) = decide (kd = 6) by rw [e2, e1]; rfl, h1, hs]
        show some (((if hereV bf n (skipB bf n i) = 91 then 5 else 6, 0, []), acc), skipB bf n p) = _
        rw [if_pos e2]
      · refine ⟨6, e1, by decide, by decide, ?_⟩
        show (if _ then _ else _) = _
        rw [if_pos (Or.inr e2), show decide (hereV bf n (skipB bf n i) = 123) = decide (kd = 6) by rw [e2, e1]; rfl, h1, hs]
        show some (((if hereV bf n (skipB bf n i) = 91 then 5 else 6, 0, []), acc), skipB bf n p) = _
        rw [if_neg (by rw [e2]; decide)]
    obtain ⟨x0, q1, q2⟩ := hjf
    obtain rfl : x0 = ((kdn, 0, []), acc) := (Prod.mk.inj (Option.some.inj (q1.symm.trans hjv))).1
    refine ⟨_, ct + 1, ⟨q1, q2⟩, KSd.fin hO g1 hit hkn hk5 hk6 g2 (he5 me no g2) g3 hoff (by rw [hsp, g4]; exact md_span) hE0 h0 hE5 h5 hla, ?_⟩
    rw [g4, Int32.add_assoc, show (1 : Int32) = nI 1 from rfl, nI_add', Nat.add_comm]
theorem wfL_cnt {x : LF} (h : wfL x) : 1 ≤ (prLf x).length := by
  rcases h with h | h | h | ⟨v, _, h⟩ | ⟨us, _, h⟩
  · rw [h]; decide
  · rw [h]; decide
  · rw [h]; decide
  · rw [h]
    show 1 ≤ (nmB v).length
    unfold nmB
    rw [List.length_append]
    show 1 ≤ _ + ((48 + nI (v.toInt.natAbs / 10 ^ (tenK v.toInt.natAbs 16 0) % 10)) :: dgK v.toInt.natAbs (tenK v.toInt.natAbs 16 0)).length
    rw [List.length_cons]
    omega
  · rw [h]
    have := unL_len 34 us
    show 1 ≤ (unL 34 us).length
    omega
/-- a value is written no shorter than it has nodes -/
theorem ncnt_pr : ∀ (r : Nat) (x : JVt r), wfV r x → ncnt r x ≤ (prV r x).length := by
  intro r
  induction r with
  | zero => intro x h; exact wfL_cnt h
  | succ r ih =>
    intro x h
    have hk : ∀ (ob fst : Bool) (cs : List (List Int32 × JVt r)), (∀ c, c ∈ cs → wfV r c.2) → cntK (ncnt r) cs ≤ (prK (prV r) ob fst cs).length := by
      intro ob fst cs
      induction cs generalizing fst with
      | nil => intro _; exact Nat.zero_le _
      | cons c cs ihc =>
        intro hc
        have h2 := ih c.2 (hc c List.mem_cons_self)
        have h3 := ihc false (fun d hd => hc d (List.mem_cons_of_mem _ hd))
        simp only [cntK, prK, List.length_append]
        omega
    simp only [ncnt, prV]
    rcases h with ⟨h1, h2⟩ | ⟨h1, h2⟩ | ⟨h1, h2, _⟩
    · have h5 : x.1.1 < 5 := wfL_5 h1
      rw [if_pos h5, h2]
      have := wfL_cnt h1
      simp only [cntK]
      omega
    · have h9 := hk (decide (x.1.1 = 6)) true x.2 (fun c hc => (h2 c hc).2)
      have e1 : x.1.1 = 5 := by rw [h1]
      rw [if_neg (by omega)]
      simp only [List.length_append, List.length_cons, List.length_nil]
      omega
    · have h9 := hk (decide (x.1.1 = 6)) true x.2 (fun c hc => (h2 c hc).2)
      have e1 : x.1.1 = 6 := by rw [h1]
      rw [if_neg (by omega)]
      simp only [List.length_append, List.length_cons, List.length_nil]
      omega
theorem flat_cnt {β : Type} {cn : β → Nat} : ∀ (cs : List (List Int32 × β)) (Ks : List (List Nat)), Ks.length = cs.length → (∀ (i : Nat) (c : List Int32 × β) (K : List Nat), cs[i]? = some c → Ks[i]? = some K → K.length = cn c.2) → Ks.flatten.length = cntK cn cs := by
  intro cs
  induction cs with
  | nil =>
    intro Ks hl _
    cases Ks with
    | nil => rfl
    | cons K Ks => cases hl
  | cons c cs ih =>
    intro Ks hl h
    cases Ks with
    | nil => cases hl
    | cons K Ks =>
      rw [List.flatten_cons, List.length_append, h 0 c K rfl rfl, ih Ks (Nat.succ.inj hl) (fun i d J h1 h2 => h (i + 1) d J h1 h2)]
      rfl
theorem DV.cnt {f : Nat → va_E} : ∀ (r : Nat) (x : JVt r) (AL : List Nat), DV f r x AL → AL.length = ncnt r x := by
  intro r
  induction r with
  | zero =>
    intro x AL h
    obtain ⟨a, rfl, -⟩ := h
    rfl
  | succ r ih =>
    intro x AL h
    obtain ⟨a, Ks, rfl, h2, h3, h4, h5, h6, h7⟩ := h
    rw [List.length_cons, flat_cnt (cn := ncnt r) x.2 Ks h6 (fun i c K hc hK => ih c.2 K (h7 i c K hc hK).1)]
    show _ = 1 + cntK (ncnt r) x.2
    omega
/-- whence each comes -/
def DUPs (f : Nat → va_E) (PL : List NT) (AL : List Nat) : Prop := ∀ (k : Nat) (nd : NT) (a : Nat), PL[k + 1]? = some nd → AL[k + 1]? = some a → ∃ (k' : Nat) (nd' : NT) (a' i : Nat) (c : List Int32 × NT), k' ≤ k ∧ PL[k']? = some nd' ∧ AL[k']? = some a' ∧ (kdsN nd')[i]? = some c ∧ c.2 = nd ∧ UPf f a' i (kdN nd' = 6) a ∧ (kdN nd' = 6 → nmL f a = some c.1)
theorem DV.ups {f : Nat → va_E} : ∀ (r : Nat) (x : JVt r) (AL : List Nat) (p : List Nat), DV f r x AL → DUPs f (preN (p, ⟨r, x⟩)) AL := by
  intro r
  induction r with
  | zero =>
    intro x AL p h k nd a hk ha
    obtain ⟨a, rfl, -⟩ := h
    cases ha
  | succ r ih =>
    intro x AL p h
    obtain ⟨a, Ks, h1, h2, h3, h4, h5, h6, h7⟩ := h
    have hM0 : ∀ (i : Nat) (c : List Int32 × NT), (kdsN ((p, ⟨r + 1, x⟩) : NT))[i]? = some c → ∃ d, x.2[i]? = some d ∧ c = (d.1, (p ++ [i], (⟨r, d.2⟩ : VU))) := fun i c hc => by
      obtain ⟨e, h8, h9⟩ := kds_ks hc
      obtain ⟨d, d1, rfl⟩ := ksJ_get h8
      exact ⟨d, d1, h9⟩
    obtain ⟨Ms, hMs⟩ : ∃ z, z = (kdsN ((p, ⟨r + 1, x⟩) : NT)).map (fun c => preN c.2) := ⟨_, rfl⟩
    have hPL : preN ((p, ⟨r + 1, x⟩) : NT) = (p, ⟨r + 1, x⟩) :: Ms.flatten := by rw [pre_kids, ← hMs]
    have hMl : Ms.length = Ks.length := by
      rw [hMs, List.length_map, kdsN_len, h6]
      exact List.length_map _
    have hMi : ∀ (i : Nat) (M : List NT), Ms[i]? = some M → ∃ (c : List Int32 × NT) (d : List Int32 × JVt r) (K : List Nat), (kdsN ((p, ⟨r + 1, x⟩) : NT))[i]? = some c ∧ c = (d.1, (p ++ [i], (⟨r, d.2⟩ : VU))) ∧ x.2[i]? = some d ∧ Ks[i]? = some K ∧ M = preN c.2 ∧ M.length = K.length ∧ DUPs f M K := fun i M hM => by
      rw [hMs, List.getElem?_map] at hM
      cases hc : (kdsN ((p, ⟨r + 1, x⟩) : NT))[i]? with
      | none => rw [hc] at hM; cases hM
      | some c =>
        rw [hc] at hM
        obtain rfl := Option.some.inj hM
        obtain ⟨d, d1, d2⟩ := hM0 i c hc
        have hi := (List.getElem?_eq_some_iff.mp d1).1
        obtain ⟨K, hK⟩ : ∃ K, Ks[i]? = some K := ⟨_, List.getElem?_eq_getElem (by omega)⟩
        refine ⟨c, d, K, rfl, d2, d1, hK, rfl, ?_, ?_⟩
        · rw [d2]
          exact (DV.at_ r d.2 K (p ++ [i]) (h7 i d K d1 hK).1).1
        · rw [d2]
          exact ih d.2 K (p ++ [i]) (h7 i d K d1 hK).1
    have hbl : ∀ (i : Nat) (M : List NT) (K : List Nat), Ms[i]? = some M → Ks[i]? = some K → M.length = K.length := fun i M K hM hK => by
      obtain ⟨c, d, K2, -, -, -, g2, -, g4, -⟩ := hMi i M hM
      obtain rfl : K = K2 := Option.some.inj (hK.symm.trans g2)
      exact g4
    have hoff := off_eq Ms Ks hMl hbl
    intro k nd b hk hb
    rw [hPL, List.getElem?_cons_succ] at hk
    rw [h1, List.getElem?_cons_succ] at hb
    obtain ⟨i, j, M, hM, hMj, hkk⟩ := flat_at Ms k nd hk
    obtain ⟨c, d, K, hc, hcd, d1, hK, hMe, hML, hup⟩ := hMi i M hM
    have hjM := (List.getElem?_eq_some_iff.mp hMj).1
    have hjK : j < K.length := by rw [← hML]; exact hjM
    have hKj : K[j]? = some b := by
      rw [hkk, hoff, flat_get Ks i j K hK hjK] at hb
      exact hb
    cases j with
    | zero =>
      obtain ⟨-, b2, g2, g3, g4, g9⟩ := h7 i d K d1 hK
      have hK0 : K[0]? = some b2 := by rw [← g2]; cases K <;> rfl
      obtain rfl : b = b2 := Option.some.inj (hKj.symm.trans hK0)
      have hM1 : (preN c.2)[0]? = some c.2 := preN_0 c.2
      rw [hMe, hM1] at hMj
      refine ⟨0, (p, ⟨r + 1, x⟩), a, i, c, Nat.zero_le _, by rw [hPL]; rfl, by rw [h1]; rfl, hc, Option.some.inj hMj, g9, fun z => ?_⟩
      rw [hcd]
      exact g4 z
    | succ j =>
      obtain ⟨k', nd', a', q, c', u1, u2, u3, u4, u5, u6, u7⟩ := hup j nd b hMj hKj
      refine ⟨offL Ks i + k' + 1, nd', a', q, c', ?_, ?_, ?_, u4, u5, u6, u7⟩
      · rw [hkk, hoff]; omega
      · rw [hPL, List.getElem?_cons_succ, ← hoff, flat_get Ms i k' M hM (List.getElem?_eq_some_iff.mp u2).1]
        exact u2
      · rw [h1, List.getElem?_cons_succ, flat_get Ks i k' K hK (List.getElem?_eq_some_iff.mp u3).1]
        exact u3
def DUP (f : Nat → va_E) (PL : List NT) (AL : List Nat) : Prop := (∀ a, AL.head? = some a → refE 4 (f a) = none) ∧ DUPs f PL AL
def DUX (f : Nat → va_E) (x : JVt 32) (AL : List Nat) : Prop := DUP f (preN (rtN x)) AL ∧ allL smF 32 x
/-- a document of the class -/
def DCx (E E' : Nat → Nat) (f' : Nat → va_E) (v : Nat) (x : JVt 32) : Prop := ∃ AL : List Nat, DOC E' f' (preN (rtN x)) AL ∧ AL.head? = some v ∧ (∀ a, a ∈ AL → E a = 0 ∧ ¬ E' a = 0) ∧ DUX f' x AL
theorem OBJ.dcx {E E' : Nat → Nat} {f' : Nat → va_E} {v lb ct n : Nat} {x : JVt 32} (h : OBJ E E' none f' v lb ct 32 x) (hw : wfV 32 x) (hn : (prV 32 x).length ≤ n) (hn4 : n ≤ 4096) : DCx E E' f' v x := by
  obtain ⟨AL, h1, h2, h3, h4, h5, h6, h7, h8, h9, hp4⟩ := h
  have hc := DV.cnt 32 x AL h1
  have hp := ncnt_pr 32 x hw
  refine ⟨AL, DV.doc h1 h2 (by omega) (fun a ha => (h6 a ha).2) h4 h5, h3, fun a ha => ⟨(h6 a ha).1, ?_⟩, ⟨⟨fun a ha => by obtain rfl : v = a := Option.some.inj (h3.symm.trans ha); exact hp4, DV.ups 32 x AL [] h1⟩, wf_sm 32 x hw⟩⟩
  have q := (h6 a ha).2
  rcases q with q | q <;> (rw [q]; decide)
