/-- does the text stand here? -/
def mtB (f : Nat → Int32) (n i : Nat) (b : Nat → Int32) : Nat → Bool
  | 0 => true
  | k + 1 => mtB f n i b k && decide (hereV f n (i + k) = b k &&& 255)
theorem mtB_iff {f : Nat → Int32} {n i : Nat} {b : Nat → Int32} : ∀ {k : Nat}, mtB f n i b k = true ↔ mtch f n i b k := by
  intro k
  induction k with
  | zero => exact ⟨fun _ j hj => absurd hj (Nat.not_lt_zero _), fun _ => rfl⟩
  | succ k ih =>
    simp only [mtB, Bool.and_eq_true, decide_eq_true_eq]
    rw [ih]
    constructor
    · rintro ⟨h1, h2⟩ j hj
      rcases Nat.lt_or_ge j k with h | h
      · exact h1 j h
      · obtain rfl : j = k := by omega
        exact h2
    · intro h
      exact ⟨fun j hj => h j (by omega), h k (by omega)⟩
theorem mtch_le {f : Nat → Int32} {n i k : Nat} {b : Nat → Int32} (h : mtch f n i b (k + 1)) (hb : 0 ≤ b k &&& 255) : i + k < n := Classical.byContradiction (fun hn => by
  have := h k (by omega)
  unfold hereV at this
  rw [if_neg hn] at this
  rw [← this] at hb
  revert hb
  decide)
/-- a value that is no container -/
def pLeaf (f : Nat → Int32) (n i : Nat) : Option (LF × Nat) :=
  if hereV f n i = 110 then (if mtB f n i (mtx 1) 4 = true then some ((0, 0, []), i + 4) else none)
  else if hereV f n i = 116 then (if mtB f n i (mtx 2) 4 = true then some ((1, 0, []), i + 4) else none)
  else if hereV f n i = 102 then (if mtB f n i (mtx 3) 5 = true then some ((2, 0, []), i + 5) else none)
  else if hereV f n i = 34 then (match qtQ f n 34 i with | some p => some ((4, 0, p.1.map c16), p.2) | none => none)
  else if hereV f n i = 45 ∨ digH (hereV f n i) then (match numM f n i with | some p => some ((3, p.1, []), p.2) | none => none)
  else none
def clo (op : Int32) : Int32 := if op = 91 then 93 else 125
/-- a member's name, and what stands behind its colon -/
def pNam (f : Nat → Int32) (n : Nat) (op : Int32) (nms : List (List Int32)) (i : Nat) : Option (List Int32 × Nat) :=
  if op = 91 then some ([], i)
  else if ¬ hereV f n (skipH f n i) = 34 then none
  else match qtQ f n 34 (skipH f n i) with
    | none => none
    | some p => if p.1.map c16 ∈ nms then none else if ¬ hereV f n (skipH f n p.2) = 58 then none else some (p.1.map c16, skipH f n p.2 + 1)
/-- the members from i on -/
def pIn {β : Type} (f : Nat → Int32) (n : Nat) (pv : Nat → Option (β × Nat)) (op : Int32) : Nat → Nat → List (List Int32 × β) → Option (List (List Int32 × β) × Nat)
  | 0, _, _ => none
  | m + 1, i, acc => match pNam f n op (acc.map (·.1)) i with
    | none => none
    | some nj => match pv nj.2 with
      | none => none
      | some xj => if hereV f n xj.2 = clo op then some (acc ++ [(nj.1, xj.1)], xj.2 + 1) else if hereV f n xj.2 = 44 then pIn f n pv op m (xj.2 + 1) (acc ++ [(nj.1, xj.1)]) else none
def pInside {β : Type} (f : Nat → Int32) (n : Nat) (pv : Nat → Option (β × Nat)) (op : Int32) (i : Nat) : Option (List (List Int32 × β) × Nat) :=
  if hereV f n (skipH f n (i + 1)) = clo op then some ([], skipH f n (i + 1) + 1) else pIn f n pv op (n + 1) (skipH f n (i + 1)) []
/-- a value, at most r deep -/
def pV (f : Nat → Int32) (n : Nat) : (r : Nat) → Nat → Option (JVt r × Nat)
  | 0, i => (pLeaf f n (skipH f n i)).map (fun p => (jleaf 0 p.1, skipH f n p.2))
  | r + 1, i => if hereV f n (skipH f n i) = 91 ∨ hereV f n (skipH f n i) = 123 then (pInside f n (pV f n r) (hereV f n (skipH f n i)) (skipH f n i)).map (fun p => (((if hereV f n (skipH f n i) = 91 then 5 else 6, 0, []), p.1), skipH f n p.2))
    else (pLeaf f n (skipH f n i)).map (fun p => (jleaf (r + 1) p.1, skipH f n p.2))
theorem pV_leaf {f : Nat → Int32} {n i : Nat} (r : Nat) (h : ¬ (hereV f n (skipH f n i) = 91 ∨ hereV f n (skipH f n i) = 123)) : pV f n r i = (pLeaf f n (skipH f n i)).map (fun p => (jleaf r p.1, skipH f n p.2)) := by
  cases r with
  | zero => rfl
  | succ r => simp only [pV]; rw [if_neg h]
/-- T2 goes on from T: what was there stays -/
def TE (T T2 : TS) : Prop := T.ct ≤ T2.ct ∧ alk T T2 (fun j => j < T.ct) ∧ alkU T T2
theorem alk.trans {T T2 T3 : TS} {P : Nat → Prop} (h1 : alk T T2 P) (h2 : alk T2 T3 P) : alk T T3 P := fun j hj => by
  obtain ⟨a1, a2, a3, a4, a5, a6, a7, a8, a9⟩ := h1 j hj
  obtain ⟨b1, b2, b3, b4, b5, b6, b7, b8, b9⟩ := h2 j hj
  exact ⟨b1.trans a1, b2.trans a2, b3.trans a3, b4.trans a4, b5.trans a5, b6.trans a6, b7.trans a7, b8.trans a8, b9.trans a9⟩
theorem alkU.trans {T T2 T3 : TS} (h1 : alkU T T2) (h2 : alkU T2 T3) : alkU T T3 := ⟨Nat.le_trans h1.1 h2.1, fun j hj => (h2.2 j (Nat.lt_of_lt_of_le hj h1.1)).trans (h1.2 j hj)⟩
theorem alk.mono {T T2 : TS} {P Q : Nat → Prop} (h : alk T T2 P) (hQ : ∀ j, Q j → P j) : alk T T2 Q := fun j hj => h j (hQ j hj)
theorem TE.trans {T T2 T3 : TS} (h1 : TE T T2) (h2 : TE T2 T3) : TE T T3 := ⟨Nat.le_trans h1.1 h2.1, h1.2.1.trans (h2.2.1.mono (fun j hj => Nat.lt_of_lt_of_le hj h1.1)), h1.2.2.trans h2.2.2⟩
theorem TAd.te {T T2 : TS} {k : Int32} (h : TAd T T2 k) : TE T T2 := by
  obtain ⟨h1, h2, h3, h4, h5, h6, h7, h8⟩ := h
  exact ⟨by omega, h7, by rw [h5]; exact Nat.le_refl _, fun j _ => by rw [h4]⟩
theorem TAd.ok {T T2 : TS} {k : Int32} (h : TAd T T2 k) (hT : TOK T) (hc : T.ct ≤ 400000) : TOK T2 ∧ T.N ≤ T2.N ∧ (T2.N = T.N ∨ T2.N ≤ 2 * T2.ct) ∧ T2.U = T.U ∧ T2.us = T.us ∧ T2.ct = T.ct + 1 ∧ adC T ≤ T2.N - T.N ∧ adS T ≤ 20 * (T2.N - T.N) := by
  obtain ⟨h1, h2, h3, h4, h5, h6, h7, h8⟩ := h
  obtain ⟨a1, a2, a3, a4, a5, a6, a7⟩ := hT
  have hN : (¬ T.ct = T.N ∧ T2.N = T.N) ∨ (T.ct = T.N ∧ T2.N = 2 * T.N) := by
    by_cases e : T.ct = T.N
    · rw [if_pos e] at h1; exact Or.inr ⟨e, h1⟩
    · rw [if_neg e] at h1; exact Or.inl ⟨e, h1⟩
  refine ⟨⟨by omega, by omega, ?_, by omega, by omega, by omega, by rw [h4]; exact a7⟩, by omega, by omega, h2, h5, h6, ?_, ?_⟩
  · by_cases e : T.ct = T.N
    · rw [if_pos e] at h1; omega
    · rw [if_neg e] at h1; omega
  · unfold adC; split <;> omega
  · unfold adS; split <;> omega
theorem TX.alk {T T2 : TS} {us : List Int32} (h : TX T T2 us) : alk T T2 (fun _ => True) ∧ T2.ct = T.ct ∧ T2.N = T.N := by
  obtain ⟨U, a, g, rfl, _⟩ := h
  exact ⟨fun j _ => ⟨rfl, rfl, rfl, rfl, rfl, rfl, rfl, rfl, rfl⟩, rfl, rfl⟩
theorem TX.un {T T2 : TS} {us : List Int32} (h : TX T T2 us) : alkU T T2 ∧ sl T2.un T.us us.length = us.map c16 := by
  obtain ⟨U, a, g, rfl, b1, b2, _⟩ := h
  refine ⟨⟨Nat.le_add_right _ _, b1⟩, ?_⟩
  apply List.ext_getElem?
  intro j
  by_cases hj : j < us.length
  · have := b2 j hj
    rw [List.getD_eq_getElem?_getD] at this
    simp only [sl, List.getElem?_map, List.getElem?_range hj, Option.map_some]
    rw [show (TS.wU T U a g (T.us + us.length)).un (T.us + j) = g (T.us + j) from rfl, this]
    rw [List.getElem?_eq_getElem hj]
    rfl
  · rw [List.getElem?_eq_none (by rw [sl_len]; omega), List.getElem?_eq_none (by rw [List.length_map]; omega)]
theorem TX.te {T T2 : TS} {us : List Int32} (h : TX T T2 us) : TE T T2 := ⟨by rw [h.alk.2.1]; exact Nat.le_refl _, h.alk.1.mono (fun _ _ => trivial), h.un.1⟩
theorem leafRep {T : TS} {a : Nat} {x : LF} (h1 : RepL T a x) (h2 : x.1 < 5) (h3 : T.ki a = -1) (h4 : T.ct = a + 1) (r : Nat) : RepV T r a T.ct (jleaf r x) := by
  cases r with
  | zero => exact ⟨by omega, Nat.le_refl _, h1, h3, h2⟩
  | succ r => exact ⟨by omega, Nat.le_refl _, h1, fun _ => rfl, h3⟩
/-- the members so far, the last of them apart -/
def KS (r : Nat) (ob : Prop) (nd lo hi : Nat) (T : TS) (acc : List (List Int32 × JVt r)) (bf : Int32) : Prop := (acc = [] ∧ bf = -1 ∧ T.ki nd = -1) ∨ ∃ (init : List (List Int32 × JVt r)) (c : List Int32 × JVt r) (b eb mid : Nat), acc = init ++ [c] ∧ bf = nI b ∧ lo ≤ mid ∧ mid ≤ b ∧ eb ≤ hi ∧ RepK (RepV T r) T ob nd mid (nI b) lo (T.ki nd) init ∧ T.pa b = nI nd ∧ (ob → nmOK T b ∧ nmT T b = c.1) ∧ RepV T r b eb c.2 ∧ T.nx b = -1
theorem KS.fr {r : Nat} {ob : Prop} {nd lo hi : Nat} {T T2 : TS} {acc : List (List Int32 × JVt r)} {bf : Int32} (h : KS r ob nd lo hi T acc bf) (hlo : nd < lo) (hct : lo ≤ T.ct) (hhi : hi ≤ T.ct) (hb : T.us < 2 ^ 31) (hte : TE T T2) : KS r ob nd lo hi T2 acc bf := by
  obtain ⟨h1, h2, h3⟩ := hte
  rcases h with ⟨e1, e2, e3⟩ | ⟨init, c, b, eb, mid, e1, e2, e3, e4, e5, e6, e7, e8, e9, e10⟩
  · exact Or.inl ⟨e1, e2, (h2 nd (by omega)).2.2.2.2.1.trans e3⟩
  · have hbe := RepV_lt e9
    have hbb := h2 b (by omega)
    have hV : ∀ (b eb : Nat) (c : JVt r), eb ≤ T.ct → RepV T r b eb c → RepV T2 r b eb c := fun b eb c he hc => by
      have hl := RepV_lt hc
      have hbb := h2 b (by omega)
      exact RepV_fr h3 hb h1 r b eb c hc hbb.1 hbb.2.1 hbb.2.2.1 hbb.2.2.2.1 hbb.2.2.2.2.1 (fun j hj => h2 j (by omega))
    refine Or.inr ⟨init, c, b, eb, mid, e1, e2, e3, e4, e5, ?_, hbb.2.2.2.2.2.2.2.2.trans e7, fun ho => ?_, hV _ _ _ (by omega) e9, hbb.2.2.2.2.2.1.trans e10⟩
    · rw [(h2 nd (by omega)).2.2.2.2.1]
      refine RepK_fr h3 hb (fun b eb c hc => (RepV_lt hc).1) rfl _ _ _ e6 (fun j hj1 hj2 => ?_) (fun b2 eb2 c2 hb1 hb2 hc => hV _ _ _ (by omega) hc)
      have := h2 j (by omega)
      exact ⟨this.2.2.2.2.2.1, this.2.2.2.2.2.2.1, this.2.2.2.2.2.2.2.1, this.2.2.2.2.2.2.2.2⟩
    · obtain ⟨m1, m2⟩ := e8 ho
      obtain ⟨m3, m4⟩ := nm_fr h3 hbb.2.2.2.2.2.2.1 hbb.2.2.2.2.2.2.2.1 hb m1
      exact ⟨m3, m4.trans m2⟩
theorem KS.all {r : Nat} {ob : Prop} {nd lo hi : Nat} {T : TS} {acc : List (List Int32 × JVt r)} {bf : Int32} (h : KS r ob nd lo hi T acc bf) (hhi : hi ≤ T.ct) : RepK (RepV T r) T ob nd T.ct (-1) lo (T.ki nd) acc := by
  rcases h with ⟨e1, e2, e3⟩ | ⟨init, c, b, eb, mid, e1, e2, e3, e4, e5, e6, e7, e8, e9, e10⟩
  · rw [e1]; exact e3
  · rw [e1]
    exact RepK_snoc e4 (Nat.le_trans e5 hhi) e7 e8 e9 e10 (fun b eb c hc => (RepV_lt hc).1) _ _ _ e3 e6
/-- a member more -/
theorem KS.add {r : Nat} {ob : Prop} {nd lo hi : Nat} {T T2 : TS} {acc : List (List Int32 × JVt r)} {bf : Int32} {nm : List Int32} {x : JVt r} {kid : Nat} (h : KS r ob nd lo hi T acc bf) (hlo : nd < lo) (hkl : lo ≤ kid) (hb : T.us < 2 ^ 31) (hV : RepV T r kid T.ct x)
    (hu : alkU T T2) (hct : T2.ct = T.ct) (hkd : T2.kd = T.kd) (hnu : T2.nu = T.nu) (hst : T2.st = T.st) (hln : T2.ln = T.ln) (hns : ∀ j, j ≠ kid → T2.ns j = T.ns j) (hnl : ∀ j, j ≠ kid → T2.nl j = T.nl j) (hpa : T2.pa = upd T.pa kid (nI nd)) (hnm : ob → nmOK T2 kid ∧ nmT T2 kid = nm)
    (hki : T2.ki = if bf = -1 then upd T.ki nd (nI kid) else T.ki) (hnx : ∀ b, bf = nI b → b < T.ct → T2.nx = upd (upd T.nx kid (T.nx b)) b (nI kid)) (hnx0 : bf = -1 → T2.nx = upd T.nx kid (T.ki nd)) (hctb : T.ct < 2 ^ 31) (hhi : hi ≤ kid) : KS r ob nd lo T.ct T2 (acc ++ [(nm, x)]) (nI kid) := by
  have hk := RepV_lt hV
  have hkid : ∀ e, e ≤ T.ct → RepV T r kid e x → (∀ j, kid < j → j < e → T2.nx j = T.nx j) → (∀ j, j = kid → T2.ki j = T.ki j) → RepV T2 r kid e x := fun e he hx h1 h2 =>
    RepV_fr hu hb (Nat.le_of_eq hct.symm) r kid e x hx (by rw [hkd]) (by rw [hnu]) (by rw [hst]) (by rw [hln]) (h2 kid rfl) (fun j hj => ⟨by rw [hkd], by rw [hnu], by rw [hst], by rw [hln], by
      rw [hki]
      split
      · exact pk_un (by omega)
      · rfl, h1 j hj.1 hj.2, hns j (by omega), hnl j (by omega), by rw [hpa]; exact pk_un (by omega)⟩)
  have hkin : ∀ j, j ≠ nd → T2.ki j = T.ki j := fun j hj => by
    rw [hki]
    split
    · exact pk_un hj
    · rfl
  rcases h with ⟨e1, e2, e3⟩ | ⟨init, c, b, eb, mid, e1, e2, e3, e4, e5, e6, e7, e8, e9, e10⟩
  · refine Or.inr ⟨[], (nm, x), kid, T.ct, lo, by rw [e1], rfl, Nat.le_refl _, hkl, Nat.le_refl _, ?_, by rw [hpa]; exact pk_us, hnm, ?_, by rw [hnx0 e2, pk_us]; exact e3⟩
    · show T2.ki nd = nI kid
      rw [hki, if_pos e2]; exact pk_us
    · exact hkid _ (Nat.le_refl _) hV (fun j h1 h2 => by rw [hnx0 e2]; exact pk_un (by omega)) (fun j hj => hkin j (by omega))
  · have hbe := RepV_lt e9
    have hek : eb ≤ kid := by omega
    have hnx' := hnx b e2 (by omega)
    have hne : ¬ bf = -1 := fun hh => by
      rw [e2] at hh
      exact absurd (show nI b < 0 by rw [hh]; decide) (nI_pos (by omega))
    have hnxo : ∀ j, j ≠ kid → j ≠ b → T2.nx j = T.nx j := fun j h1 h2 => by rw [hnx', pk_un h2, pk_un h1]
    have hVo : ∀ (b2 eb2 : Nat) (c2 : JVt r), nd < b2 → (∀ j, b2 < j → j < eb2 → j ≠ kid ∧ j ≠ b) → RepV T r b2 eb2 c2 → RepV T2 r b2 eb2 c2 := fun b2 eb2 c2 h0 h1 hc =>
      RepV_fr hu hb (Nat.le_of_eq hct.symm) r b2 eb2 c2 hc (by rw [hkd]) (by rw [hnu]) (by rw [hst]) (by rw [hln]) (hkin _ (by omega)) (fun j hj => ⟨by rw [hkd], by rw [hnu], by rw [hst], by rw [hln], hkin _ (by omega), hnxo j (h1 j hj.1 hj.2).1 (h1 j hj.1 hj.2).2, hns j (h1 j hj.1 hj.2).1, hnl j (h1 j hj.1 hj.2).1, by rw [hpa]; exact pk_un (h1 j hj.1 hj.2).1⟩)
    refine Or.inr ⟨init ++ [c], (nm, x), kid, T.ct, kid, by rw [e1], rfl, hkl, Nat.le_refl _, Nat.le_refl _, ?_, by rw [hpa]; exact pk_us, hnm, ?_, ?_⟩
    · refine RepK_snoc (mid := mid) (b := b) (eb := eb) e4 hek (by rw [hpa, pk_un (by omega)]; exact e7) (fun ho => ?_) (hVo b eb c.2 (by omega) (fun j h1 h2 => ⟨by omega, by omega⟩) e9) (by rw [hnx']; exact pk_us) (fun b eb c hc => (RepV_lt hc).1) _ _ _ e3 ?_
      · obtain ⟨m1, m2⟩ := e8 ho
        obtain ⟨m3, m4⟩ := nm_fr hu (hns b (by omega)) (hnl b (by omega)) hb m1
        exact ⟨m3, m4.trans m2⟩
      · rw [hki, if_neg hne]
        refine RepK_fr hu hb (fun b eb c hc => (RepV_lt hc).1) rfl _ _ _ e6 (fun j hj1 hj2 => ⟨hnxo j (by omega) (by omega), hns j (by omega), hnl j (by omega), by rw [hpa]; exact pk_un (by omega)⟩) (fun b2 eb2 c2 hb1 hb2 hc => hVo b2 eb2 c2 (by omega) (fun j h1 h2 => ⟨by omega, by omega⟩) hc)
    · exact hkid _ (Nat.le_refl _) hV (fun j h1 h2 => hnxo j (by omega) (by omega)) (fun j hj => hkin j (by omega))
    · rw [hnx', pk_un (by omega), pk_us]; exact e10
