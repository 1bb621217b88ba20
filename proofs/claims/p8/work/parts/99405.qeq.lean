section QEqD
variable {f : Nat → Int32} {n : Nat}
theorem skipH_nb (i : Nat) : ∀ k, n - i = k → ¬ blkH (hereV f n (skipH f n i)) := by
  intro k
  induction k generalizing i with
  | zero =>
    intro h hb
    have hl := blkH_lt hb
    have := (skipH_le f n i).1
    omega
  | succ k ih =>
    intro h
    by_cases hb : blkH (hereV f n i)
    · rw [skipH_s hb]
      exact ih (i + 1) (by omega)
    · rw [skipH_e hb]; exact hb
theorem skipHH (i : Nat) : skipH f n (skipH f n i) = skipH f n i := skipH_e (skipH_nb i _ rfl)
theorem skipH_ge (i : Nat) : i ≤ skipH f n i := (skipH_le f n i).1
/-- with the blanks behind it -/
abbrev skm (f : Nat → Int32) (n : Nat) {α : Type} (p : Nat × α) : Nat × α := (skipH f n p.1, p.2)
theorem map_map' {α β γ : Type} (o : Option α) (g : α → β) (h : β → γ) : (o.map g).map h = o.map (fun x => h (g x)) := by cases o <;> rfl
theorem whB_ib (hbf : byR f) (i : Nat) {mi : Bool} (h : mi = true ∨ ¬ hereV f n i = 48) : (whB f n i mi).map (fun p => (p.2, p.1)) = iBv f n mi i := by
  unfold whB iBv
  by_cases h1 : ¬ digH (hereV f n i) ∨ hereV f n i = 48
  · rw [if_pos h1, if_pos]
    · rfl
    · rcases h1 with h1 | h1
      · exact Or.inl h1
      · rcases h with h | h
        · exact Or.inr ⟨h, h1⟩
        · exact absurd h1 h
  · rw [if_neg h1, if_neg (fun q => h1 (q.imp id (fun q => q.2)))]
    have h2 : ¬ hereV f n i = 48 := fun q => h1 (Or.inr q)
    have e : dgJ f n i = digR f n i := by unfold dgJ; rw [if_neg h2]
    have hb := big_J (n := n) hbf i
    obtain ⟨B, b1, -, b3⟩ := dgN_J (n := n) hbf i
    rw [e] at hb b1 b3
    by_cases hg : 0 < lg_cmp (dgN f n i).1 9007199254740991
    · rw [if_pos hg, if_pos (hb.mp hg)]; rfl
    · have hle : (digR f n i).1 ≤ 9007199254740991 := Classical.byContradiction (fun q => hg (hb.mpr q))
      have e1 : (digR f n i).1 = Int64.ofNat B := by
        rcases b3 with ⟨z, -⟩ | ⟨-, z⟩
        · exact z
        · rw [z] at hle; exact absurd hle (by decide)
      rw [if_neg hg, if_neg (show ¬ ¬ (digR f n i).1 ≤ 9007199254740991 from fun q => q hle), b1, e1]
      cases mi <;> rfl
theorem ic_eq (hbf : byR f) (i : Nat) : (whM f n i).map (fun p => (p.2, p.1)) = iCv f n i := by
  unfold whM iCv
  by_cases h1 : hereV f n i = 45
  · rw [if_pos h1, if_pos h1]
    exact whB_ib hbf _ (Or.inl rfl)
  · rw [if_neg h1, if_neg h1]
    by_cases h2 : hereV f n i = 48
    · rw [if_pos h2]
      have e : dgN f n i = (0, i + 1) := by unfold dgN; rw [if_pos h2]
      unfold whB
      rw [if_neg (fun q => by rcases q with q | q; (· exact q (by rw [h2]; decide)); (· cases q.1)), e, if_neg (by show ¬ 0 < lg_cmp 0 9007199254740991; decide)]
      rfl
    · rw [if_neg h2]
      exact whB_ib hbf _ (Or.inr h2)
theorem ic_none {i : Nat} (h1 : ¬ hereV f n i = 45) (h2 : ¬ digH (hereV f n i)) : iCv f n i = none := by
  unfold iCv
  rw [if_neg h1, if_neg (fun q => h2 (by rw [q]; decide))]
  unfold iBv
  rw [if_pos (Or.inl h2)]
/-- the reference's slices, and the class's, but for blanks behind them -/
theorem slc_eq (hbf : byR f) (i : Nat) : (slP f n i).map (skm f n) = (slV f n i).map (skm f n) := by
  have h2 : ∀ (b : Option Int64) (j2 : Nat), (slT f n b j2).map (skm f n) = ((slV2 f n (skipH f n j2)).map (fun w => (w.1, b, w.2))).map (skm f n) := by
    intro b j2
    unfold slT slV2
    rw [skipBH hbf]
    by_cases h : hereV f n (skipH f n j2) = 58
    · rw [if_neg (show ¬ ¬ hereV f n (skipH f n j2) = 58 from fun q => q h), if_pos h]
      by_cases hn : numC (hereV f n (skipH f n (skipH f n j2 + 1)))
      · rw [if_pos hn, if_pos hn, ← ic_eq hbf]
        cases whM f n (skipH f n (skipH f n j2 + 1)) <;> rfl
      · rw [if_neg hn, if_neg hn]
        show some (skipH f n (skipH f n j2 + 1), b, (1 : Int64)) = some (skipH f n (skipH f n (skipH f n j2 + 1)), b, 1)
        rw [skipHH]
    · rw [if_pos h, if_neg h]
      show some (skipH f n j2, b, (1 : Int64)) = some (skipH f n (skipH f n j2), b, 1)
      rw [skipHH]
  unfold slP slV
  rw [skipBH hbf]
  by_cases hn : numC (hereV f n (skipH f n (i + 1)))
  · rw [if_pos hn, if_pos hn, ← ic_eq hbf]
    cases whM f n (skipH f n (i + 1)) with
    | none => rfl
    | some p =>
      show (slT f n (some p.1) p.2).map (skm f n) = ((slV2 f n (skipB f n p.2)).map (fun w => (w.1, some p.1, w.2))).map (skm f n)
      rw [skipBH hbf]
      exact h2 _ _
  · rw [if_neg hn, if_neg hn]
    have := h2 none (skipH f n (i + 1))
    rw [skipHH] at this
    exact this
theorem sel_eq (hbf : byR f) (hn4 : n ≤ 4096) {orL orR : Nat → Option (Nat × CT)} (hor : ∀ i, orL i = (orR (skipH f n i)).map (skm f n)) (sg : Bool) (i : Nat) : (selP f n orR sg i).map (skm f n) = (selD1 f n orL sg i).map (skm f n) := by
  unfold selP selD1
  by_cases h1 : hereV f n i = 39 ∨ hereV f n i = 34
  · rw [if_pos h1, if_pos h1]
    have e : (qtR f n i).map (fun z => (z.2, z.1 + 1)) = qtQ f n (hereV f n i) i := by
      unfold qtR qtQ
      rw [if_pos rfl]
      have hq : ¬ hereV f n i = -1 := by rcases h1 with h | h <;> rw [h] <;> decide
      exact (qt_eq hbf hq n 4096 (n + 13) (i + 1) [] (by omega) (by omega) (by omega))
    rw [← e, map_map', map_map', map_map']
  rw [if_neg h1, if_neg h1]
  by_cases h2 : hereV f n i = 42 ∧ sg = false
  · rw [if_pos h2, if_pos (show sg = false ∧ hereV f n i = 42 from ⟨h2.2, h2.1⟩)]
  rw [if_neg h2, if_neg (show ¬ (sg = false ∧ hereV f n i = 42) from fun q => h2 ⟨q.2, q.1⟩)]
  by_cases h3 : hereV f n i = 63 ∧ sg = false
  · rw [if_pos h3, if_pos (show sg = false ∧ hereV f n i = 63 from ⟨h3.2, h3.1⟩), hor]
    cases orR (skipH f n (i + 1)) with
    | none => rfl
    | some j => show some (skipH f n j.1, false, filS j.2) = some (skipH f n (skipH f n j.1), false, filS j.2); rw [skipHH]
  rw [if_neg h3, if_neg (show ¬ (sg = false ∧ hereV f n i = 63) from fun q => h3 ⟨q.2, q.1⟩)]
  by_cases h4 : ¬ hereV f n i = 45 ∧ ¬ digH (hereV f n i) ∧ (¬ hereV f n i = 58 ∨ sg = true)
  · rw [if_pos h4, if_neg (show ¬ (sg = false ∧ hereV f n i = 58) from fun q => by rcases h4.2.2 with h | h; (· exact h q.2); (· rw [q.1] at h; cases h)), ic_none h4.1 h4.2.1]
    rfl
  rw [if_neg h4]
  by_cases h5 : hereV f n i = 58
  · have hs : sg = false := by
      cases sg with
      | false => rfl
      | true => exact absurd ⟨by rw [h5]; decide, by rw [h5]; decide, Or.inr rfl⟩ h4
    rw [if_pos h5, if_pos (show sg = false ∧ hereV f n i = 58 from ⟨hs, h5⟩), map_map', map_map']
    have := congrArg (fun o => o.map (fun j => (j.1, false, slcS none j.2.1 j.2.2))) (slc_eq hbf (n := n) i)
    simp only [map_map'] at this
    exact this
  rw [if_neg h5, if_neg (show ¬ (sg = false ∧ hereV f n i = 58) from fun q => h5 q.2)]
  rw [← ic_eq hbf]
  cases whM f n i with
  | none => rfl
  | some p =>
    show (if ¬ hereV f n (skipH f n p.2) = 58 ∨ sg = true then some (p.2, true, idxS p.1) else (slP f n (skipH f n p.2)).map (fun j => (j.1, false, slcS (some p.1) j.2.1 j.2.2))).map (skm f n) = (if sg = false ∧ hereV f n (skipB f n p.2) = 58 then (slV f n (skipB f n p.2)).map (fun k => (k.1, false, slcS (some p.1) k.2.1 k.2.2)) else some (skipB f n p.2, true, idxS p.1)).map (skm f n)
    rw [skipBH hbf]
    by_cases h6 : sg = false ∧ hereV f n (skipH f n p.2) = 58
    · rw [if_neg (show ¬ (¬ hereV f n (skipH f n p.2) = 58 ∨ sg = true) from fun q => by rcases q with q | q; (· exact q h6.2); (· rw [h6.1] at q; cases q)), if_pos h6, map_map', map_map']
      have := congrArg (fun o => o.map (fun j => (j.1, false, slcS (some p.1) j.2.1 j.2.2))) (slc_eq hbf (n := n) (skipH f n p.2))
      simp only [map_map'] at this
      exact this
    · rw [if_pos (show ¬ hereV f n (skipH f n p.2) = 58 ∨ sg = true by by_cases q : hereV f n (skipH f n p.2) = 58; (· exact Or.inr (by cases sg with | false => exact absurd ⟨rfl, q⟩ h6 | true => rfl)); (· exact Or.inl q)), if_neg h6]
      show some (skipH f n p.2, true, idxS p.1) = some (skipH f n (skipH f n p.2), true, idxS p.1)
      rw [skipHH]
theorem selC_eq (hbf : byR f) (hn4 : n ≤ 4096) {orL orR : Nat → Option (Nat × CT)} (hor : ∀ i, orL i = (orR (skipH f n i)).map (skm f n)) (sg : Bool) (i : Nat) : selD f n orL sg i = (selP f n orR sg (skipH f n i)).map (skm f n) := by
  rw [sel_eq hbf hn4 hor]
  unfold selD
  rw [skipBH hbf]
  congr 1
  funext p
  rw [skipBH hbf]
/-- a reader of the text goes on -/
abbrev Mon {α : Type} (o : Nat → Option (Nat × α)) : Prop := ∀ i p, o i = some p → i ≤ p.1
theorem whM_ge {i j : Nat} {v : Int64} (h : whM f n i = some (v, j)) : i < j := by
  have hB : ∀ i mi p, whB f n i mi = some p → i < p.2 := fun i mi p h => by
    unfold whB at h
    split at h
    · cases h
    · next hd =>
      split at h
      · cases h
      · cases h
        have hdg : digH (hereV f n i) := Classical.byContradiction (fun q => hd (Or.inl q))
        have := dgN_lt hdg
        exact this
  unfold whM at h
  split at h
  · have := hB _ _ _ h
    have this : i + 1 < j := this
    omega
  · exact hB _ _ _ h
theorem slT_ge {b : Option Int64} {j2 : Nat} {p : Nat × Option Int64 × Int64} (h : slT f n b j2 = some p) : j2 ≤ p.1 := by
  unfold slT at h
  have q2 := skipH_ge (f := f) (n := n) j2
  split at h
  · cases h; exact Nat.le_refl _
  · have q3 := skipH_ge (f := f) (n := n) (skipH f n j2 + 1)
    split at h
    · cases hw : whM f n (skipH f n (skipH f n j2 + 1)) with
      | none => rw [hw] at h; cases h
      | some z =>
        rw [hw] at h
        have e : (z.2, b, z.1) = p := Option.some.inj h
        have := whM_ge (v := z.1) (j := z.2) hw
        rw [← e]
        show j2 ≤ z.2
        omega
    · cases h
      show j2 ≤ skipH f n j2 + 1
      omega
theorem slP_ge {i : Nat} {p : Nat × Option Int64 × Int64} (h : slP f n i = some p) : i ≤ p.1 := by
  unfold slP at h
  have q := skipH_ge (f := f) (n := n) (i + 1)
  split at h
  · cases hw : whM f n (skipH f n (i + 1)) with
    | none => rw [hw] at h; cases h
    | some z =>
      rw [hw] at h
      have h : slT f n (some z.1) z.2 = some p := h
      have := whM_ge (v := z.1) (j := z.2) hw
      have := slT_ge h
      omega
  · have := slT_ge h
    omega
theorem qtQ_ge {q : Int32} {i j : Nat} {us : List Int32} (h : qtQ f n q i = some (us, j)) : i < j := by
  have hM : ∀ k i acc us j, qtM f n q k i acc = some (us, j) → i < j := by
    intro k
    induction k with
    | zero => intro i acc us j h; cases h
    | succ k ih =>
      intro i acc us j h
      simp only [qtM] at h
      have q1 := (escM_at f n q i).1
      have q2 := (escM_at f n q (escM f n q i).2).1
      by_cases c0 : hereV f n i = q
      · rw [if_pos c0] at h; cases h; omega
      rw [if_neg c0] at h
      by_cases c1 : hereV f n i < 32 ∨ ¬ hereV f n i ≤ 126
      · rw [if_pos c1] at h; cases h
      rw [if_neg c1] at h
      by_cases c2 : ¬ hereV f n i = 92
      · rw [if_pos c2] at h; have := ih _ _ _ _ h; omega
      rw [if_neg c2] at h
      by_cases c3 : ¬ 0 ≤ (escM f n q i).1
      · rw [if_pos c3] at h; cases h
      rw [if_neg c3] at h
      by_cases c4 : ¬ (escM f n q i).1 < 56320 ∧ ¬ 57343 < (escM f n q i).1
      · rw [if_pos c4] at h; cases h
      rw [if_neg c4] at h
      by_cases c5 : (escM f n q i).1 < 55296 ∨ ¬ (escM f n q i).1 ≤ 56319
      · rw [if_pos c5] at h; have := ih _ _ _ _ h; omega
      rw [if_neg c5] at h
      by_cases c6 : ¬ (escM f n q i).2 < n
      · rw [if_pos c6] at h; cases h
      rw [if_neg c6] at h
      by_cases c7 : ¬ hereV f n (escM f n q i).2 = 92
      · rw [if_pos c7] at h; cases h
      rw [if_neg c7] at h
      by_cases c8 : ¬ (escM f n q i).2 + 1 < n
      · rw [if_pos c8] at h; cases h
      rw [if_neg c8] at h
      by_cases c9 : ¬ f ((escM f n q i).2 + 1) = 117
      · rw [if_pos c9] at h; cases h
      rw [if_neg c9] at h
      by_cases c10 : ¬ 0 ≤ (escM f n q (escM f n q i).2).1
      · rw [if_pos c10] at h; cases h
      rw [if_neg c10] at h
      by_cases c11 : (escM f n q (escM f n q i).2).1 < 56320 ∨ ¬ (escM f n q (escM f n q i).2).1 ≤ 57343
      · rw [if_pos c11] at h; cases h
      rw [if_neg c11] at h
      have := ih _ _ _ _ h
      omega
  unfold qtQ at h
  split at h
  · have := hM _ _ _ _ _ h; omega
  · cases h
theorem selP_ge {orR : Nat → Option (Nat × CT)} (hM : Mon orR) {sg : Bool} {i : Nat} {p : Nat × Bool × QT} (h : selP f n orR sg i = some p) : i ≤ p.1 := by
  unfold selP at h
  split at h
  · cases hq : qtQ f n (hereV f n i) i with
    | none => rw [hq] at h; cases h
    | some z =>
      rw [hq] at h
      have e : (z.2, true, namS z.1) = p := Option.some.inj h
      have := qtQ_ge (us := z.1) (j := z.2) hq
      rw [← e]
      show i ≤ z.2
      omega
  · split at h
    · cases h; exact Nat.le_succ _
    · split at h
      · cases ho : orR (skipH f n (i + 1)) with
        | none => rw [ho] at h; cases h
        | some z =>
          rw [ho] at h
          have e : (z.1, false, filS z.2) = p := Option.some.inj h
          have := hM _ _ ho
          have := skipH_ge (f := f) (n := n) (i + 1)
          rw [← e]
          show i ≤ z.1
          omega
      · split at h
        · cases h
        · split at h
          · cases hs : slP f n i with
            | none => rw [hs] at h; cases h
            | some z =>
              rw [hs] at h
              have e : (z.1, false, slcS none z.2.1 z.2.2) = p := Option.some.inj h
              have := slP_ge hs
              rw [← e]
              exact this
          · split at h
            · cases h
            · next z hz =>
              have q1 := whM_ge (v := z.1) (j := z.2) hz
              have q2 := skipH_ge (f := f) (n := n) z.2
              split at h
              · have e : (z.2, true, idxS z.1) = p := Option.some.inj h
                rw [← e]
                show i ≤ z.2
                omega
              · cases hs : slP f n (skipH f n z.2) with
                | none => rw [hs] at h; cases h
                | some y =>
                  rw [hs] at h
                  have e : (y.1, false, slcS (some z.1) y.2.1 y.2.2) = p := Option.some.inj h
                  have := slP_ge hs
                  rw [← e]
                  show i ≤ y.1
                  omega
/-- further selectors -/
theorem slsL_eq (hbf : byR f) (hn4 : n ≤ 4096) {orL orR : Nat → Option (Nat × CT)} (hor : ∀ i, orL i = (orR (skipH f n i)).map (skm f n)) (hM : Mon orR) (sg : Bool) : ∀ (s k m j : Nat) (fl : Bool) (ac : List QT), n - j ≤ s → s < k → s < m → slsL f n orR sg k j false fl ac = (selD f n orL sg j).bind (fun q => (slsLD f n orL sg m q.1).bind (fun e => if hereV f n e.1 = 93 then some (e.1 + 1, false, ac ++ q.2.2 :: e.2) else none)) := by
  intro s
  induction s with
  | zero =>
    intro k m j fl ac h1 h2 h3
    obtain ⟨k, rfl⟩ : ∃ z, k = z + 1 := ⟨k - 1, by omega⟩
    obtain ⟨m, rfl⟩ : ∃ z, m = z + 1 := ⟨m - 1, by omega⟩
    rw [selC_eq hbf hn4 hor]
    simp only [slsL]
    cases hs : selP f n orR sg (skipH f n j) with
    | none => rfl
    | some p =>
      have q1 := selP_ge hM hs
      have q2 := skipH_ge (f := f) (n := n) j
      have q3 := skipH_ge (f := f) (n := n) p.1
      have hh : hereV f n (skipH f n p.1) = -1 := by unfold hereV; rw [if_neg (by omega)]
      show (if hereV f n (skipH f n p.1) = 93 then _ else _) = ((slsLD f n orL sg (m + 1) (skipH f n p.1)).bind _)
      rw [hh, if_neg (by decide), if_pos (Or.inr (by decide))]
      simp only [slsLD]
      rw [hh, if_neg (fun q => absurd q.2 (by decide))]
      show none = (if hereV f n (skipH f n p.1) = 93 then _ else none)
      rw [hh, if_neg (by decide)]
  | succ s ih =>
    intro k m j fl ac h1 h2 h3
    obtain ⟨k, rfl⟩ : ∃ z, k = z + 1 := ⟨k - 1, by omega⟩
    obtain ⟨m, rfl⟩ : ∃ z, m = z + 1 := ⟨m - 1, by omega⟩
    rw [selC_eq hbf hn4 hor]
    simp only [slsL]
    cases hs : selP f n orR sg (skipH f n j) with
    | none => rfl
    | some p =>
      have q1 := selP_ge hM hs
      have q2 := skipH_ge (f := f) (n := n) j
      have q3 := skipH_ge (f := f) (n := n) p.1
      show (if hereV f n (skipH f n p.1) = 93 then _ else _) = ((slsLD f n orL sg (m + 1) (skipH f n p.1)).bind _)
      simp only [slsLD]
      by_cases c1 : hereV f n (skipH f n p.1) = 93
      · rw [if_pos c1, if_neg (show ¬ (sg = false ∧ hereV f n (skipH f n p.1) = 44) from fun q => by rw [c1] at q; exact absurd q.2 (by decide))]
        show _ = (if hereV f n (skipH f n p.1) = 93 then some (skipH f n p.1 + 1, false, ac ++ p.2.2 :: []) else none)
        rw [if_pos c1]
        simp
      · rw [if_neg c1]
        by_cases c2 : sg = false ∧ hereV f n (skipH f n p.1) = 44
        · have hl := here_lc c2.2 (by decide)
          rw [if_neg (show ¬ (sg = true ∨ ¬ hereV f n (skipH f n p.1) = 44) from fun q => by rcases q with q | q; (· rw [c2.1] at q; cases q); (· exact q c2.2)), if_pos c2]
          rw [ih k m (skipH f n p.1 + 1) _ (ac ++ [p.2.2]) (by omega) (by omega) (by omega)]
          cases selD f n orL sg (skipH f n p.1 + 1) with
          | none => rfl
          | some q =>
            show (slsLD f n orL sg m q.1).bind _ = (Option.map _ (slsLD f n orL sg m q.1)).bind _
            cases slsLD f n orL sg m q.1 with
            | none => rfl
            | some e =>
              show (if hereV f n e.1 = 93 then some (e.1 + 1, false, ac ++ [p.2.2] ++ q.2.2 :: e.2) else none) = (if hereV f n e.1 = 93 then some (e.1 + 1, false, ac ++ p.2.2 :: q.2.2 :: e.2) else none)
              rw [List.append_assoc]
              rfl
        · rw [if_pos (show sg = true ∨ ¬ hereV f n (skipH f n p.1) = 44 from by by_cases q : hereV f n (skipH f n p.1) = 44; (· exact Or.inl (by cases sg with | false => exact absurd ⟨rfl, q⟩ c2 | true => rfl)); (· exact Or.inr q)), if_neg c2]
          show none = (if hereV f n (skipH f n p.1) = 93 then _ else none)
          rw [if_neg c1]
theorem sls_eq (hbf : byR f) (hn4 : n ≤ 4096) {orL orR : Nat → Option (Nat × CT)} (hor : ∀ i, orL i = (orR (skipH f n i)).map (skm f n)) (hM : Mon orR) (ok sg : Bool) (i : Nat) : slsP f n ok orR sg i = slsD f n ok orL sg i := by
  unfold slsP slsD
  by_cases h : hereV f n i = 91 ∧ ok = true
  · rw [if_pos h, if_pos (show ok = true ∧ hereV f n i = 91 from ⟨h.2, h.1⟩), selC_eq hbf hn4 hor]
    simp only [slsL]
    cases hs : selP f n orR sg (skipH f n (i + 1)) with
    | none => rfl
    | some p =>
      have q1 := selP_ge hM hs
      have q2 := skipH_ge (f := f) (n := n) (i + 1)
      have q3 := skipH_ge (f := f) (n := n) p.1
      show (if hereV f n (skipH f n p.1) = 93 then some (skipH f n p.1 + 1, true && (true && p.2.1), [] ++ [p.2.2]) else _) = ((slsLD f n orL sg 4098 (skipH f n p.1)).bind (fun j => if hereV f n j.1 = 93 then some (j.1 + 1, p.2.1 && j.2.isEmpty, p.2.2 :: j.2) else none))
      have hu : slsLD f n orL sg 4098 (skipH f n p.1) = if sg = false ∧ hereV f n (skipH f n p.1) = 44 then (selD f n orL sg (skipH f n p.1 + 1)).bind (fun q => (slsLD f n orL sg 4097 q.1).map (fun r => (r.1, q.2.2 :: r.2))) else some (skipH f n p.1, []) := slLD_u (m := 0) (Nat.zero_le _)
      rw [hu]
      by_cases c1 : hereV f n (skipH f n p.1) = 93
      · rw [if_pos c1, if_neg (show ¬ (sg = false ∧ hereV f n (skipH f n p.1) = 44) from fun q => by rw [c1] at q; exact absurd q.2 (by decide))]
        show _ = (if hereV f n (skipH f n p.1) = 93 then some (skipH f n p.1 + 1, p.2.1 && true, p.2.2 :: []) else none)
        rw [if_pos c1]
        simp
      · rw [if_neg c1]
        by_cases c2 : sg = false ∧ hereV f n (skipH f n p.1) = 44
        · have hl := here_lc c2.2 (by decide)
          rw [if_neg (show ¬ (sg = true ∨ ¬ hereV f n (skipH f n p.1) = 44) from fun q => by rcases q with q | q; (· rw [c2.1] at q; cases q); (· exact q c2.2)), if_pos c2]
          rw [slsL_eq hbf hn4 hor hM sg (n - 1) n 4097 (skipH f n p.1 + 1) _ _ (by omega) (by omega) (by omega)]
          cases selD f n orL sg (skipH f n p.1 + 1) with
          | none => rfl
          | some q =>
            show (slsLD f n orL sg 4097 q.1).bind _ = (Option.map _ (slsLD f n orL sg 4097 q.1)).bind _
            cases slsLD f n orL sg 4097 q.1 with
            | none => rfl
            | some e =>
              show (if hereV f n e.1 = 93 then some (e.1 + 1, false, p.2.2 :: q.2.2 :: e.2) else none) = (if hereV f n e.1 = 93 then some (e.1 + 1, p.2.1 && false, p.2.2 :: q.2.2 :: e.2) else none)
              rw [Bool.and_false]
        · rw [if_pos (show sg = true ∨ ¬ hereV f n (skipH f n p.1) = 44 from by by_cases q : hereV f n (skipH f n p.1) = 44; (· exact Or.inl (by cases sg with | false => exact absurd ⟨rfl, q⟩ c2 | true => rfl)); (· exact Or.inr q)), if_neg c2]
          show none = (if hereV f n (skipH f n p.1) = 93 then _ else none)
          rw [if_neg c1]
  · rw [if_neg h, if_neg (show ¬ (ok = true ∧ hereV f n i = 91) from fun q => h ⟨q.2, q.1⟩)]
theorem slsL_ge {orR : Nat → Option (Nat × CT)} (hM : Mon orR) {sg : Bool} : ∀ (k j : Nat) (fst fl : Bool) (ac : List QT) (e : Nat × Bool × List QT), slsL f n orR sg k j fst fl ac = some e → j ≤ e.1 := by
  intro k
  induction k with
  | zero => intro j fst fl ac e h; cases h
  | succ k ih =>
    intro j fst fl ac e h
    cases hs : selP f n orR sg (skipH f n j) with
    | none => rw [slsL_n hs] at h; cases h
    | some p =>
      obtain ⟨j2, p2, m⟩ := p
      have q1 : skipH f n j ≤ j2 := selP_ge hM hs
      have q2 := skipH_ge (f := f) (n := n) j
      have q3 := skipH_ge (f := f) (n := n) j2
      by_cases c1 : hereV f n (skipH f n j2) = 93
      · rw [slsL_e hs c1] at h
        have h := Option.some.inj h
        rw [← h]
        show j ≤ skipH f n j2 + 1
        omega
      · by_cases c2 : sg = true ∨ ¬ hereV f n (skipH f n j2) = 44
        · rw [slsL_b hs c1 c2] at h; cases h
        · rw [slsL_s hs c1 c2] at h
          have := ih _ _ _ _ _ h
          omega
theorem slsP_ge {orR : Nat → Option (Nat × CT)} (hM : Mon orR) {ok sg : Bool} : Mon (slsP f n ok orR sg) := fun i p h => by
  unfold slsP at h
  split at h
  · have := slsL_ge hM _ _ _ _ _ _ h; omega
  · cases h
theorem nmE_ge : ∀ (k j : Nat), j ≤ nmE f n k j := by
  intro k
  induction k with
  | zero => intro j; exact Nat.le_refl _
  | succ k ih =>
    intro j
    by_cases h : letH (hereV f n j) ∨ digH (hereV f n j)
    · rw [nmE_s h]; have := ih (j + 1); omega
    · rw [nmE_e h]; exact Nat.le_refl _
theorem sgN_ge {sg fl ds : Bool} {j : Nat} {p : Nat × Bool × QT} (h : sgN f n sg j fl ds = some p) : j ≤ p.1 := by
  unfold sgN at h
  split at h
  · cases h; exact Nat.le_succ _
  · split at h
    · cases h
    · have e := Option.some.inj h
      rw [← e]
      exact nmE_ge (f := f) (n := n) (n + 1) j
theorem sgP_ge {orR : Nat → Option (Nat × CT)} (hM : Mon orR) {ok sg : Bool} : Mon (sgP f n ok orR sg) := fun i p h => by
  unfold sgP at h
  split at h
  · split at h
    · split at h
      · cases hs : slsP f n ok orR sg (i + 2) with
        | none => rw [hs] at h; cases h
        | some z =>
          rw [hs] at h
          have e := Option.some.inj h
          have := slsP_ge hM (i + 2) z hs
          rw [← e]
          show i ≤ z.1
          omega
      · have := sgN_ge h; omega
    · have := sgN_ge h; omega
  · cases hs : slsP f n ok orR sg i with
    | none => rw [hs] at h; cases h
    | some z =>
      rw [hs] at h
      have e := Option.some.inj h
      have := slsP_ge hM i z hs
      rw [← e]
      exact this
theorem qrL_ge {orR : Nat → Option (Nat × CT)} (hM : Mon orR) {ok sg : Bool} : ∀ (k i : Nat) (fl : Bool) (ac : List QT) (p : Nat × Bool × List QT), qrL f n ok orR sg k i fl ac = some p → i ≤ p.1 := by
  intro k
  induction k with
  | zero => intro i fl ac p h; cases h
  | succ k ih =>
    intro i fl ac p h
    simp only [qrL] at h
    split at h
    · cases h; exact Nat.le_refl _
    · split at h
      · cases h
      · next z hz =>
        have q1 := sgP_ge hM (skipH f n i) z hz
        have q2 := skipH_ge (f := f) (n := n) i
        have := ih _ _ _ _ h
        omega
theorem qrP_ge {orR : Nat → Option (Nat × CT)} (hM : Mon orR) {ok sg rt : Bool} : Mon (qrP f n ok orR sg rt) := fun i p h => by
  unfold qrP at h
  cases hq : qrL f n ok orR sg (n + 1) i true [] with
  | none => rw [hq] at h; cases h
  | some z =>
    rw [hq] at h
    have e := Option.some.inj h
    have := qrL_ge hM _ _ _ _ _ hq
    rw [← e]
    exact this
/-- names -/
theorem nm_eq2 : ∀ (s k m j : Nat), n - j ≤ s → s ≤ k → s ≤ m → n - j ≤ s → nmC f n k j = nmE f n m j := by
  intro s
  induction s with
  | zero =>
    intro k m j h1 h2 h3 _
    have hh : hereV f n j = -1 := by unfold hereV; rw [if_neg (by omega)]
    have hno : ¬ (letH (hereV f n j) ∨ digH (hereV f n j)) := by rw [hh]; decide
    have e1 : nmC f n k j = j := by
      cases k with
      | zero => rfl
      | succ k => simp only [nmC]; rw [if_neg hno]
    have e2 : nmE f n m j = j := by
      cases m with
      | zero => rfl
      | succ m => exact nmE_e hno
    rw [e1, e2]
  | succ s ih =>
    intro k m j h1 h2 h3 _
    obtain ⟨k, rfl⟩ : ∃ z, k = z + 1 := ⟨k - 1, by omega⟩
    obtain ⟨m, rfl⟩ : ∃ z, m = z + 1 := ⟨m - 1, by omega⟩
    by_cases h : letH (hereV f n j) ∨ digH (hereV f n j)
    · rw [nmE_s h]
      simp only [nmC]
      rw [if_pos h]
      exact ih k m (j + 1) (by omega) (by omega) (by omega) (by omega)
    · rw [nmE_e h]
      simp only [nmC]
      rw [if_neg h]
theorem sh_eq (sg : Bool) (j : Nat) (fl ds : Bool) : sgN f n sg j fl ds = (shD f n sg j).map (fun p => (p.1, fl && p.2.1, segS ds p.2.2)) := by
  unfold sgN shD
  by_cases h1 : hereV f n j = 42 ∧ sg = false
  · rw [if_pos h1, if_pos (show sg = false ∧ hereV f n j = 42 from ⟨h1.2, h1.1⟩)]
    show some (j + 1, false, segS ds [eachS]) = some (j + 1, fl && false, segS ds [eachS])
    rw [Bool.and_false]
  · rw [if_neg h1, if_neg (show ¬ (sg = false ∧ hereV f n j = 42) from fun q => h1 ⟨q.2, q.1⟩)]
    by_cases h2 : letH (hereV f n j)
    · rw [if_neg (show ¬ ¬ letH (hereV f n j) from fun q => q h2), if_neg (show ¬ ¬ letH (hereV f n j) from fun q => q h2), nm_eq2 (n - j) (n - j) (n + 1) j (Nat.le_refl _) (Nat.le_refl _) (by omega) (Nat.le_refl _)]
      show some (_, fl, _) = some (_, fl && true, _)
      rw [Bool.and_true]
    · rw [if_pos h2, if_pos h2]
      rfl
theorem seg_eq (hbf : byR f) (hn4 : n ≤ 4096) {orL orR : Nat → Option (Nat × CT)} (hor : ∀ i, orL i = (orR (skipH f n i)).map (skm f n)) (hM : Mon orR) (ok sg : Bool) (i : Nat) : sgP f n ok orR sg i = segD f n ok orL sg i := by
  unfold sgP segD
  by_cases h1 : hereV f n i = 46
  · rw [if_pos h1, if_pos h1]
    by_cases h2 : hereV f n (i + 1) = 46 ∧ sg = false
    · rw [if_pos h2, if_pos (show sg = false ∧ hereV f n (i + 1) = 46 from ⟨h2.2, h2.1⟩)]
      by_cases h3 : hereV f n (i + 2) = 91
      · rw [if_pos h3, if_pos h3, sls_eq hbf hn4 hor hM]
      · rw [if_neg h3, if_neg h3, sh_eq]
        cases shD f n sg (i + 2) <;> rfl
    · rw [if_neg h2, if_neg (show ¬ (sg = false ∧ hereV f n (i + 1) = 46) from fun q => h2 ⟨q.2, q.1⟩), sh_eq]
      cases shD f n sg (i + 1) <;> rfl
  · rw [if_neg h1, if_neg h1, sls_eq hbf hn4 hor hM]
theorem qrL_eq (hbf : byR f) (hn4 : n ≤ 4096) {orL orR : Nat → Option (Nat × CT)} (hor : ∀ i, orL i = (orR (skipH f n i)).map (skm f n)) (hM : Mon orR) (ok sg : Bool) : ∀ (s k m i : Nat) (fl : Bool) (ac : List QT), n - i ≤ s → s < k → s < m → qrL f n ok orR sg k i fl ac = (qrLD f n ok orL sg m i fl).map (fun q => (q.1, q.2.1, ac ++ q.2.2)) := by
  have sg_lt : ∀ i p, sgP f n ok orR sg i = some p → hereV f n i = 46 ∨ hereV f n i = 91 → i < p.1 := fun i p h hh => by
    unfold sgP at h
    split at h
    · split at h
      · split at h
        · cases hs : slsP f n ok orR sg (i + 2) with
          | none => rw [hs] at h; cases h
          | some q =>
            rw [hs] at h
            have e := Option.some.inj h
            have := slsP_ge hM (i + 2) q hs
            rw [← e]
            show i < q.1
            omega
        · have := sgN_ge h; omega
      · have := sgN_ge h; omega
    · cases hs : slsP f n ok orR sg i with
      | none => rw [hs] at h; cases h
      | some q =>
        rw [hs] at h
        have e := Option.some.inj h
        unfold slsP at hs
        split at hs
        · have := slsL_ge hM _ _ _ _ _ _ hs
          rw [← e]
          show i < q.1
          omega
        · cases hs
  intro s
  induction s with
  | zero =>
    intro k m i fl ac h1 h2 h3
    obtain ⟨k, rfl⟩ : ∃ z, k = z + 1 := ⟨k - 1, by omega⟩
    obtain ⟨m, rfl⟩ : ∃ z, m = z + 1 := ⟨m - 1, by omega⟩
    have q2 := skipH_ge (f := f) (n := n) i
    have hh : hereV f n (skipH f n i) = -1 := by unfold hereV; rw [if_neg (by omega)]
    rw [qrL_e (by rw [hh]; decide) (by rw [hh]; decide)]
    simp only [qrLD]
    rw [skipBH hbf, hh, if_pos (show ¬ (-1 : Int32) = 46 ∧ ¬ (-1 : Int32) = 91 from ⟨by decide, by decide⟩)]
    show some (i, fl, ac) = some (i, fl, ac ++ [])
    rw [List.append_nil]
  | succ s ih =>
    intro k m i fl ac h1 h2 h3
    obtain ⟨k, rfl⟩ : ∃ z, k = z + 1 := ⟨k - 1, by omega⟩
    obtain ⟨m, rfl⟩ : ∃ z, m = z + 1 := ⟨m - 1, by omega⟩
    have q2 := skipH_ge (f := f) (n := n) i
    simp only [qrLD]
    rw [skipBH hbf]
    by_cases hc : ¬ hereV f n (skipH f n i) = 46 ∧ ¬ hereV f n (skipH f n i) = 91
    · rw [qrL_e hc.1 hc.2, if_pos hc]
      show some (i, fl, ac) = some (i, fl, ac ++ [])
      rw [List.append_nil]
    · have hh : hereV f n (skipH f n i) = 46 ∨ hereV f n (skipH f n i) = 91 := Classical.byContradiction (fun q => hc ⟨fun e => q (Or.inl e), fun e => q (Or.inr e)⟩)
      rw [if_neg hc, ← seg_eq hbf hn4 hor hM]
      cases hs : sgP f n ok orR sg (skipH f n i) with
      | none => rw [qrL_n hh hs]; rfl
      | some p =>
        have := sg_lt _ _ hs hh
        rw [qrL_s hh hs, ih k m p.1 _ (ac ++ [p.2.2]) (by omega) (by omega) (by omega)]
        show _ = Option.map _ (Option.map _ (qrLD f n ok orL sg m p.1 (fl && p.2.1)))
        cases qrLD f n ok orL sg m p.1 (fl && p.2.1) with
        | none => rfl
        | some q =>
          show some (q.1, q.2.1, ac ++ [p.2.2] ++ q.2.2) = some (q.1, q.2.1, ac ++ p.2.2 :: q.2.2)
          rw [List.append_assoc]
          rfl
theorem qr_eq (hbf : byR f) (hn4 : n ≤ 4096) {orL orR : Nat → Option (Nat × CT)} (hor : ∀ i, orL i = (orR (skipH f n i)).map (skm f n)) (hM : Mon orR) (ok sg : Bool) (i : Nat) : qrD f n ok orL sg i = qrP f n ok orR sg (decide (hereV f n i = 36)) (i + 1) := by
  unfold qrD qrP
  rw [qrL_eq hbf hn4 hor hM ok sg n (n + 1) 4097 (i + 1) true [] (by omega) (by omega) (by omega)]
  cases qrLD f n ok orL sg 4097 (i + 1) true <;> rfl
theorem mt2 {b : Nat → Int32} {c d : Int32} (hc : b 0 &&& 255 = c) (hd : b 1 &&& 255 = d) (j : Nat) : mtB f n j b 2 = true ↔ hereV f n j = c ∧ hereV f n (j + 1) = d := by
  simp only [mtB, Bool.and_eq_true, decide_eq_true_eq, true_and, hc, hd, Nat.add_zero]
theorem br_eq (hbf : byR f) {α : Type} {ok : Bool} {inn : Nat → Option (Nat × α)} {g : α → OT} {cmR : Nat → Option (Nat × OT)} {qyR : Bool → Nat → Option (Nat × Bool × QT)} {i j : Nat} (h : (inn (skipH f n (j + 1))).map (fun p => (p.1, g p.2)) = fnA f n cmR qyR i (skipH f n (j + 1))) : (brD f n ok inn j).map (fun p => (p.1, g p.2)) = fnT f n ok cmR qyR i j := by
  unfold brD fnT
  by_cases h1 : hereV f n j = 40 ∧ ok = true
  · rw [if_pos (show ok = true ∧ hereV f n j = 40 from ⟨h1.2, h1.1⟩), if_neg (show ¬ ¬ (hereV f n j = 40 ∧ ok = true) from fun q => q h1), skipBH hbf, ← h]
    cases inn (skipH f n (j + 1)) with
    | none => rfl
    | some k =>
      show Option.map _ (if hereV f n (skipB f n k.1) = 41 then some (skipB f n k.1 + 1, k.2) else none) = (if hereV f n (skipH f n k.1) = 41 then some (skipH f n k.1 + 1, g k.2) else none)
      rw [skipBH hbf]
      by_cases q : hereV f n (skipH f n k.1) = 41
      · rw [if_pos q, if_pos q]; rfl
      · rw [if_neg q, if_neg q]; rfl
  · rw [if_neg (show ¬ (ok = true ∧ hereV f n j = 40) from fun q => h1 ⟨q.2, q.1⟩), if_pos h1]
    rfl
theorem op_eq (hbf : byR f) (hn4 : n ≤ 4096) {orL orR : Nat → Option (Nat × CT)} {cmC cmR : Nat → Option (Nat × OT)} {qyC : Nat → Option (Nat × Bool × QT)} {qyR : Bool → Nat → Option (Nat × Bool × QT)} (hor : ∀ i, orL i = (orR (skipH f n i)).map (skm f n)) (hM : Mon orR) (hcm : ∀ i, cmC i = cmR i) (hqy : ∀ i, qyC i = qyR (decide (hereV f n i = 36)) (i + 1)) (ok : Bool) (i : Nat) : opD f n ok orL cmC qyC i = cmP f n ok orR cmR qyR i := by
  unfold opD
  by_cases hb : begC (hereV f n i)
  · rw [if_pos hb, cmP_45 (by rcases hb with e | e <;> rw [e] <;> decide) (by rcases hb with e | e <;> rw [e] <;> decide) hb, qr_eq hbf hn4 hor hM]
  rw [if_neg hb]
  have fn : ∀ c : Int32, hereV f n i = c → ¬ numC c → ¬ (c = 39 ∨ c = 34) → ¬ c = 116 → ¬ c = 102 → ¬ c = 110 → cmP f n ok orR cmR qyR i = (match fnP f n i with | none => none | some j => fnT f n ok cmR qyR i j) := fun c e h0 h1 h3 h4 h5 => cmP_fn (by rw [e]; exact h0) (by rw [e]; exact h1) hb (by rw [e]; exact h3) (by rw [e]; exact h4) (by rw [e]; exact h5)
  by_cases h108 : hereV f n i = 108
  · rw [if_pos h108, fn 108 h108 (by decide) (by decide) (by decide) (by decide) (by decide)]
    unfold fnD fnP
    rw [mt_eq (b := ctx 10) (b' := mtx 11) (k := 6) (by decide), if_pos h108]
    by_cases hm : mtB f n i (mtx 11) 6 = true
    · rw [if_pos hm, if_pos hm]
      exact br_eq hbf (g := lenO) (by unfold fnA; rw [if_pos h108, hcm])
    · rw [if_neg hm, if_neg hm]
      rfl
  rw [if_neg h108]
  by_cases h99 : hereV f n i = 99
  · rw [if_pos h99, fn 99 h99 (by decide) (by decide) (by decide) (by decide) (by decide)]
    unfold fnD fnP
    rw [mt_eq (b := ctx 8) (b' := mtx 12) (k := 5) (by decide), if_neg h108, if_pos h99]
    by_cases hm : mtB f n i (mtx 12) 5 = true
    · rw [if_pos hm, if_pos hm]
      refine br_eq hbf (g := cntO) ?_
      unfold anyD fnA
      rw [if_neg h108]
      by_cases hb2 : begC (hereV f n (skipH f n (i + 5 + 1)))
      · rw [if_pos hb2, if_pos hb2, hqy]
        cases qyR (decide (hereV f n (skipH f n (i + 5 + 1)) = 36)) (skipH f n (i + 5 + 1) + 1) with
        | none => rfl
        | some z => show some (z.1, cntO z.2.2) = some (z.1, if hereV f n i = 99 then cntO z.2.2 else onlO z.2.2); rw [if_pos h99]
      · rw [if_neg hb2, if_neg hb2]
        rfl
    · rw [if_neg hm, if_neg hm]
      rfl
  rw [if_neg h99]
  by_cases h118 : hereV f n i = 118
  · rw [if_pos h118, fn 118 h118 (by decide) (by decide) (by decide) (by decide) (by decide)]
    unfold fnD fnP
    rw [mt_eq (b := ctx 9) (b' := mtx 13) (k := 5) (by decide), if_neg h108, if_neg h99, if_pos h118]
    by_cases hm : mtB f n i (mtx 13) 5 = true
    · rw [if_pos hm, if_pos hm]
      refine br_eq hbf (g := onlO) ?_
      unfold anyD fnA
      rw [if_neg h108]
      by_cases hb2 : begC (hereV f n (skipH f n (i + 5 + 1)))
      · rw [if_pos hb2, if_pos hb2, hqy]
        cases qyR (decide (hereV f n (skipH f n (i + 5 + 1)) = 36)) (skipH f n (i + 5 + 1) + 1) with
        | none => rfl
        | some z => show some (z.1, onlO z.2.2) = some (z.1, if hereV f n i = 99 then cntO z.2.2 else onlO z.2.2); rw [if_neg h99]
      · rw [if_neg hb2, if_neg hb2]
        rfl
    · rw [if_neg hm, if_neg hm]
      rfl
  rw [if_neg h118]
  unfold wrD
  by_cases h116 : hereV f n i = 116
  · rw [if_pos h116, cmP_t (by rw [h116]; decide) (by rw [h116]; decide) hb h116, mt_eq (b := ctx 11) (b' := mtx 2) (k := 4) (by decide)]
    by_cases hm : mtB f n i (mtx 2) 4 = true
    · rw [if_pos hm, if_pos hm]; rfl
    · rw [if_neg hm, if_neg hm]; rfl
  rw [if_neg h116]
  by_cases h102 : hereV f n i = 102
  · rw [if_pos h102, cmP_f (by rw [h102]; decide) (by rw [h102]; decide) hb h116 h102, mt_eq (b := ctx 12) (b' := mtx 3) (k := 5) (by decide)]
    by_cases hm : mtB f n i (mtx 3) 5 = true
    · rw [if_pos hm, if_pos hm]; rfl
    · rw [if_neg hm, if_neg hm]; rfl
  rw [if_neg h102]
  by_cases h110 : hereV f n i = 110
  · rw [if_pos h110, cmP_n (by rw [h110]; decide) (by rw [h110]; decide) hb h116 h102 h110, mt_eq (b := ctx 13) (b' := mtx 1) (k := 4) (by decide)]
    by_cases hm : mtB f n i (mtx 1) 4 = true
    · rw [if_pos hm, if_pos hm]; rfl
    · rw [if_neg hm, if_neg hm]; rfl
  rw [if_neg h110]
  by_cases hq : hereV f n i = 39 ∨ hereV f n i = 34
  · rw [if_pos hq, cmP_41 (by rcases hq with e | e <;> rw [e] <;> decide) hq]
    have e : (qtR f n i).map (fun z => (z.2, z.1 + 1)) = qtQ f n (hereV f n i) i := by
      unfold qtR qtQ
      rw [if_pos rfl]
      have hq : ¬ hereV f n i = -1 := by rcases hq with h | h <;> rw [h] <;> decide
      exact (qt_eq hbf hq n 4096 (n + 13) (i + 1) [] (by omega) (by omega) (by omega))
    rw [← e, map_map', map_map']
  rw [if_neg hq]
  by_cases hnum : numC (hereV f n i)
  · rw [cmP_40 hnum, ← ic_eq hbf, map_map', map_map']
  · rw [ic_none (fun q => hnum (Or.inl q)) (fun q => hnum (Or.inr q)), cmP_fn hnum hq hb h116 h102 h110]
    unfold fnP
    rw [if_neg h108, if_neg h99, if_neg h118]
    rfl
theorem opr_eq (j : Nat) : oprD f n j = opP f n j := by
  have e1 := mt2 (f := f) (n := n) (b := mtx 9) (c := 61) (d := 61) (by decide) (by decide) j
  have e2 := mt2 (f := f) (n := n) (b := mtx 10) (c := 33) (d := 61) (by decide) (by decide) j
  unfold oprD opP
  by_cases h61 : hereV f n j = 61
  · rw [if_neg (show ¬ hereV f n j = 60 by rw [h61]; decide), if_neg (show ¬ hereV f n j = 62 by rw [h61]; decide), if_neg (show ¬ hereV f n j = 33 by rw [h61]; decide), if_pos h61, if_pos h61]
    by_cases hh : hereV f n (j + 1) = 61
    · rw [if_pos hh, if_pos (e1.mpr ⟨h61, hh⟩)]
    · rw [if_neg hh, if_neg (fun q => hh (e1.mp q).2)]
  rw [if_neg (show ¬ hereV f n j = 61 from h61)]
  by_cases h33 : hereV f n j = 33
  · rw [if_neg (show ¬ hereV f n j = 60 by rw [h33]; decide), if_neg (show ¬ hereV f n j = 62 by rw [h33]; decide), if_pos h33, if_pos h33]
    by_cases hh : hereV f n (j + 1) = 61
    · rw [if_pos hh, if_pos (e2.mpr ⟨h33, hh⟩), if_neg h61]
    · rw [if_neg hh, if_neg (show ¬ mtB f n j (mtx 10) 2 = true from fun q => hh (e2.mp q).2), if_neg h61]
  rw [if_neg (show ¬ hereV f n j = 33 from h33)]
  by_cases h60 : hereV f n j = 60
  · rw [if_pos h60, if_pos (show hereV f n j = 60 ∨ hereV f n j = 62 from Or.inl h60)]
    by_cases hh : hereV f n (j + 1) = 61
    · rw [if_pos hh, if_pos hh, if_pos h60, if_neg h61, if_neg h33]
    · rw [if_neg hh, if_neg hh, if_pos h60, if_neg h61, if_neg h33]
  rw [if_neg h60]
  by_cases h62 : hereV f n j = 62
  · rw [if_pos h62, if_pos (show hereV f n j = 60 ∨ hereV f n j = 62 from Or.inr h62)]
    by_cases hh : hereV f n (j + 1) = 61
    · rw [if_pos hh, if_pos hh, if_neg h60, if_neg h61, if_neg h33]
    · rw [if_neg hh, if_neg hh, if_neg h60, if_neg h61, if_neg h33]
  rw [if_neg h62, if_neg (show ¬ (hereV f n j = 60 ∨ hereV f n j = 62) from fun q => q.elim h60 h62)]
  simp only [if_neg h61, if_neg h33]
theorem cp_eq (hbf : byR f) {op cm : Nat → Option (Nat × OT)} (h : ∀ i, op i = cm i) (x : OT) (j : Nat) : cpD f n op x j = cpP f n cm x j := by
  unfold cpD cpP
  rw [opr_eq]
  cases opP f n j with
  | none => rfl
  | some k =>
    show (op (skipB f n k.1)).map _ = (cm (skipH f n k.1)).map _
    rw [skipBH hbf, h]
theorem gr_eq (hbf : byR f) {orL orR : Nat → Option (Nat × CT)} (hor : ∀ i, orL i = (orR (skipH f n i)).map (skm f n)) (ok : Bool) {i : Nat} (h : hereV f n i = 40) : gpD f n ok orL i = (if ok = false then none else match orR (skipH f n (i + 1)) with
      | none => none
      | some j => if hereV f n (skipH f n j.1) = 41 then some (skipH f n j.1 + 1, j.2) else none) := by
  unfold gpD
  cases ok with
  | false => rw [if_neg (fun q => by cases q.1), if_pos rfl]
  | true =>
    rw [if_pos (show true = true ∧ hereV f n i = 40 from ⟨rfl, h⟩), if_neg (show ¬ true = false by decide), hor]
    cases orR (skipH f n (i + 1)) <;> rfl
theorem ba_eq (hbf : byR f) (hn4 : n ≤ 4096) {orL orR : Nat → Option (Nat × CT)} {cmC cmR : Nat → Option (Nat × OT)} {qyC : Nat → Option (Nat × Bool × QT)} {qyR : Bool → Nat → Option (Nat × Bool × QT)} (hor : ∀ i, orL i = (orR (skipH f n i)).map (skm f n)) (hM : Mon orR) (hcm : ∀ i, cmC i = cmR i) (hqy : ∀ i, qyC i = qyR (decide (hereV f n i = 36)) (i + 1)) (ok : Bool) (i : Nat) : baD f n ok orL cmC qyC i = (baP f n ok orR cmR qyR (skipH f n i)).map (skm f n) := by
  have hop := fun i => op_eq hbf hn4 hor hM hcm hqy ok i
  unfold baD
  rw [skipBH hbf]
  generalize skipH f n i = i0
  have e0 : skipB f n = skipH f n := by funext x; exact skipBH hbf x
  rw [e0]
  show Option.map (skm f n) (baD1 f n ok orL cmC qyC i0) = _
  unfold baD1
  by_cases h33 : hereV f n i0 = 33
  · rw [if_pos h33, baP_y h33]
    unfold ngD baB
    rw [skipBH hbf]
    by_cases h40 : hereV f n (skipH f n (i0 + 1)) = 40
    · rw [if_pos h40, if_pos h40, gr_eq hbf hor ok h40]
      by_cases hk : ok = false
      · rw [if_pos hk, if_pos hk]; rfl
      · rw [if_neg hk, if_neg hk]
        cases orR (skipH f n (skipH f n (i0 + 1) + 1)) with
        | none => rfl
        | some j =>
          show Option.map _ (Option.map _ (if hereV f n (skipH f n j.1) = 41 then some (skipH f n j.1 + 1, j.2) else none)) = Option.map _ (if hereV f n (skipH f n j.1) = 41 then some (skipH f n j.1 + 1, if true = true then notC j.2 else j.2) else none)
          by_cases q : hereV f n (skipH f n j.1) = 41
          · rw [if_pos q, if_pos q]; rfl
          · rw [if_neg q, if_neg q]; rfl
    · rw [if_neg h40, if_neg h40]
      unfold anyD
      by_cases hb : begC (hereV f n (skipH f n (i0 + 1)))
      · rw [if_pos hb, if_pos hb, qr_eq hbf hn4 hor hM]
        cases qrP f n ok orR false (decide (hereV f n (skipH f n (i0 + 1)) = 36)) (skipH f n (i0 + 1) + 1) with
        | none => rfl
        | some p =>
          show some (skipH f n p.1, notC (tstC p.2.2)) = Option.map (skm f n) (if true = false ∧ opH (hereV f n (skipH f n p.1)) then _ else some (p.1, if true = true then notC (tstC p.2.2) else tstC p.2.2))
          rw [if_neg (fun q => by cases q.1)]
          rfl
      · rw [if_neg hb, if_neg hb, if_pos rfl]
        rfl
  · rw [if_neg h33, baP_n h33]
    unfold baB
    by_cases h40 : hereV f n i0 = 40
    · rw [if_pos h40, if_pos h40, gr_eq hbf hor ok h40]
      by_cases hk : ok = false
      · rw [if_pos hk, if_pos hk]
      · rw [if_neg hk, if_neg hk]
        cases orR (skipH f n (i0 + 1)) with
        | none => rfl
        | some j =>
          show Option.map _ (if hereV f n (skipH f n j.1) = 41 then some (skipH f n j.1 + 1, j.2) else none) = Option.map _ (if hereV f n (skipH f n j.1) = 41 then some (skipH f n j.1 + 1, if false = true then notC j.2 else j.2) else none)
          by_cases q : hereV f n (skipH f n j.1) = 41
          · rw [if_pos q, if_pos q]; rfl
          · rw [if_neg q, if_neg q]
    · rw [if_neg h40, if_neg h40]
      by_cases hb : begC (hereV f n i0)
      · rw [if_pos hb, if_pos hb]
        unfold tcD
        rw [qr_eq hbf hn4 hor hM]
        cases qrP f n ok orR false (decide (hereV f n i0 = 36)) (i0 + 1) with
        | none => rfl
        | some p =>
          show Option.map (skm f n) (if opH (hereV f n (skipB f n p.1)) then (if p.2.1 = false then none else cpD f n (opD f n ok orL cmC qyC) (onlO p.2.2) (skipB f n p.1)) else some (skipB f n p.1, tstC p.2.2)) = Option.map (skm f n) (if false = false ∧ opH (hereV f n (skipH f n p.1)) then (if p.2.1 = false then none else cpP f n (cmP f n ok orR cmR qyR) (onlO p.2.2) (skipH f n p.1)) else some (p.1, if false = true then notC (tstC p.2.2) else tstC p.2.2))
          rw [skipBH hbf]
          by_cases ho : opH (hereV f n (skipH f n p.1))
          · rw [if_pos ho, if_pos (show false = false ∧ opH (hereV f n (skipH f n p.1)) from ⟨rfl, ho⟩), cp_eq hbf hop]
          · rw [if_neg ho, if_neg (show ¬ (false = false ∧ opH (hereV f n (skipH f n p.1))) from fun q => ho q.2)]
            show some (skipH f n (skipH f n p.1), tstC p.2.2) = some (skipH f n p.1, tstC p.2.2)
            rw [skipHH]
      · rw [if_neg hb, if_neg hb, if_neg (show ¬ false = true by decide), hop]
        cases cmP f n ok orR cmR qyR i0 with
        | none => rfl
        | some j =>
          show Option.map _ (cpD f n (opD f n ok orL cmC qyC) j.2 (skipB f n j.1)) = Option.map _ (cpP f n (cmP f n ok orR cmR qyR) j.2 (skipH f n j.1))
          rw [skipBH hbf, cp_eq hbf hop]
theorem li_eq (hbf : byR f) {oneC one : Nat → Option (Nat × CT)} (h1 : ∀ i, oneC i = (one (skipH f n i)).map (skm f n)) (hM : Mon one) {c : Int32} {tx : Nat} (hc : c ≠ -1) (ht0 : mtx tx 0 &&& 255 = c) (ht1 : mtx tx 1 &&& 255 = c) : ∀ (s m k i : Nat) (ac : List CT), n - i ≤ s → s < m → s < k → (oneC i).bind (fun p => (liD f n oneC c m p.1).map (fun r => (r.1, ac ++ p.2 :: r.2))) = (liP f n one c tx k (skipH f n i) ac).map (skm f n) := by
  intro s
  induction s with
  | zero =>
    intro m k i ac q1 q2 q3
    obtain ⟨k, rfl⟩ : ∃ z, k = z + 1 := ⟨k - 1, by omega⟩
    obtain ⟨m, rfl⟩ : ∃ z, m = z + 1 := ⟨m - 1, by omega⟩
    rw [h1]
    cases ho : one (skipH f n i) with
    | none => rw [liP_n ho]; rfl
    | some j =>
      obtain ⟨j, g⟩ := j
      have : skipH f n i ≤ j := hM _ _ ho
      have := skipH_ge (f := f) (n := n) i
      have := skipH_ge (f := f) (n := n) j
      have hh : ¬ hereV f n (skipH f n j) = c := fun q => by have := here_lc q hc; omega
      rw [liP_e ho hh]
      show (liD f n oneC c (m + 1) (skipH f n j)).map _ = some (skipH f n j, ac ++ [g])
      simp only [liD]
      rw [if_neg hh]
      rfl
  | succ s ih =>
    intro m k i ac q1 q2 q3
    obtain ⟨k, rfl⟩ : ∃ z, k = z + 1 := ⟨k - 1, by omega⟩
    obtain ⟨m, rfl⟩ : ∃ z, m = z + 1 := ⟨m - 1, by omega⟩
    rw [h1]
    cases ho : one (skipH f n i) with
    | none => rw [liP_n ho]; rfl
    | some j =>
      obtain ⟨j, g⟩ := j
      have : skipH f n i ≤ j := hM _ _ ho
      have := skipH_ge (f := f) (n := n) i
      have := skipH_ge (f := f) (n := n) j
      show (liD f n oneC c (m + 1) (skipH f n j)).map (fun r => (r.1, ac ++ g :: r.2)) = _
      simp only [liD]
      have e := mt2 (f := f) (n := n) ht0 ht1 (skipH f n j)
      by_cases hh : hereV f n (skipH f n j) = c
      · have hl := here_lc hh hc
        rw [if_pos hh]
        by_cases h2 : hereV f n (skipH f n j + 1) = c
        · rw [if_pos h2, liP_s ho hh (e.mpr ⟨hh, h2⟩), ← ih m k (skipH f n j + 2) (ac ++ [g]) (by omega) (by omega) (by omega)]
          cases oneC (skipH f n j + 2) with
          | none => rfl
          | some q =>
            show Option.map _ (Option.map _ (liD f n oneC c m q.1)) = Option.map _ (liD f n oneC c m q.1)
            cases liD f n oneC c m q.1 with
            | none => rfl
            | some r =>
              show some (r.1, ac ++ g :: q.2 :: r.2) = some (r.1, ac ++ [g] ++ q.2 :: r.2)
              rw [List.append_assoc]
              rfl
        · rw [if_neg h2, liP_b ho hh (fun q => h2 (e.mp q).2)]
          rfl
      · rw [if_neg hh, liP_e ho hh]
        rfl
theorem cmP_ge {ok : Bool} {orR : Nat → Option (Nat × CT)} {cmR : Nat → Option (Nat × OT)} {qyR : Bool → Nat → Option (Nat × Bool × QT)} (hM : Mon orR) (hMc : Mon cmR) (hMq : ∀ b, Mon (qyR b)) : Mon (cmP f n ok orR cmR qyR) := fun i p h => by
  by_cases hnum : numC (hereV f n i)
  · rw [cmP_40 hnum] at h
    cases hw : whM f n i with
    | none => rw [hw] at h; cases h
    | some z =>
      rw [hw] at h
      have e := Option.some.inj h
      have := whM_ge (v := z.1) (j := z.2) hw
      rw [← e]
      show i ≤ z.2
      omega
  by_cases hq : hereV f n i = 39 ∨ hereV f n i = 34
  · rw [cmP_41 hnum hq] at h
    cases hw : qtQ f n (hereV f n i) i with
    | none => rw [hw] at h; cases h
    | some z =>
      rw [hw] at h
      have e := Option.some.inj h
      have := qtQ_ge (us := z.1) (j := z.2) hw
      rw [← e]
      show i ≤ z.2
      omega
  by_cases hb : begC (hereV f n i)
  · rw [cmP_45 hnum hq hb] at h
    cases hw : qrP f n ok orR true (decide (hereV f n i = 36)) (i + 1) with
    | none => rw [hw] at h; cases h
    | some z =>
      rw [hw] at h
      have e := Option.some.inj h
      have := qrP_ge hM _ _ hw
      rw [← e]
      show i ≤ z.1
      omega
  by_cases h116 : hereV f n i = 116
  · rw [cmP_t hnum hq hb h116] at h
    split at h
    · cases h; show i ≤ i + 4; omega
    · cases h
  by_cases h102 : hereV f n i = 102
  · rw [cmP_f hnum hq hb h116 h102] at h
    split at h
    · cases h; show i ≤ i + 5; omega
    · cases h
  by_cases h110 : hereV f n i = 110
  · rw [cmP_n hnum hq hb h116 h102 h110] at h
    split at h
    · cases h; show i ≤ i + 4; omega
    · cases h
  rw [cmP_fn hnum hq hb h116 h102 h110] at h
  split at h
  · cases h
  · next j1 hj =>
    have q1 : i ≤ j1 := by
      unfold fnP at hj
      split at hj
      · split at hj
        · cases hj; omega
        · cases hj
      · split at hj
        · split at hj
          · cases hj; omega
          · cases hj
        · split at hj
          · split at hj
            · cases hj; omega
            · cases hj
          · cases hj
    unfold fnT at h
    split at h
    · cases h
    · split at h
      · cases h
      · next j2 hj2 =>
        have q2 := skipH_ge (f := f) (n := n) (j1 + 1)
        have q3 := skipH_ge (f := f) (n := n) j2.1
        have q4 : skipH f n (j1 + 1) ≤ j2.1 := by
          unfold fnA at hj2
          split at hj2
          · cases hw : cmR (skipH f n (j1 + 1)) with
            | none => rw [hw] at hj2; cases hj2
            | some z =>
              rw [hw] at hj2
              have e := Option.some.inj hj2
              have := hMc _ _ hw
              rw [← e]
              exact this
          · split at hj2
            · cases hw : qyR (decide (hereV f n (skipH f n (j1 + 1)) = 36)) (skipH f n (j1 + 1) + 1) with
              | none => rw [hw] at hj2; cases hj2
              | some z =>
                rw [hw] at hj2
                have e := Option.some.inj hj2
                have := hMq _ _ _ hw
                rw [← e]
                show skipH f n (j1 + 1) ≤ z.1
                omega
            · cases hj2
        split at h
        · cases h
          show i ≤ skipH f n j2.1 + 1
          omega
        · cases h
theorem cpP_ge {cm : Nat → Option (Nat × OT)} (hM : Mon cm) {x : OT} : Mon (cpP f n cm x) := fun i p h => by
  unfold cpP at h
  split at h
  · cases h
  · next j2 hj =>
    have q1 : i ≤ j2.1 := by
      unfold opP at hj
      split at hj
      · split at hj
        · cases hj; show i ≤ i + 2; omega
        · cases hj
      · split at hj
        · split at hj
          · cases hj; show i ≤ i + 2; omega
          · cases hj
        · split at hj
          · split at hj
            · cases hj; show i ≤ i + 2; omega
            · cases hj; show i ≤ i + 1; omega
          · cases hj
    have q2 := skipH_ge (f := f) (n := n) j2.1
    cases hw : cm (skipH f n j2.1) with
    | none => rw [hw] at h; cases h
    | some z =>
      rw [hw] at h
      have e := Option.some.inj h
      have := hM _ _ hw
      rw [← e]
      show i ≤ z.1
      omega
theorem baP_ge {ok : Bool} {orR : Nat → Option (Nat × CT)} {cmR : Nat → Option (Nat × OT)} {qyR : Bool → Nat → Option (Nat × Bool × QT)} (hM : Mon orR) (hMc : Mon cmR) (hMq : ∀ b, Mon (qyR b)) : Mon (baP f n ok orR cmR qyR) := fun i p h => by
  have hcm := cmP_ge (f := f) (n := n) (ok := ok) hM hMc hMq
  have hB : ∀ nt i, baB f n ok orR cmR qyR nt i = some p → i ≤ p.1 := fun nt i h => by
    unfold baB at h
    split at h
    · split at h
      · cases h
      · split at h
        · cases h
        · next j1 hj =>
          have := hM _ _ hj
          have := skipH_ge (f := f) (n := n) (i + 1)
          have := skipH_ge (f := f) (n := n) j1.1
          split at h
          · have e := Option.some.inj h
            rw [← e]
            show i ≤ skipH f n j1.1 + 1
            omega
          · cases h
    · split at h
      · split at h
        · cases h
        · next z hz =>
          have := qrP_ge hM _ _ hz
          have := skipH_ge (f := f) (n := n) z.1
          split at h
          · split at h
            · cases h
            · have := cpP_ge hcm _ _ h; omega
          · have e := Option.some.inj h
            rw [← e]
            show i ≤ z.1
            omega
      · split at h
        · cases h
        · split at h
          · cases h
          · next j1 hj =>
            have := hcm _ _ hj
            have := skipH_ge (f := f) (n := n) j1.1
            have := cpP_ge hcm _ _ h
            omega
  by_cases h33 : hereV f n i = 33
  · rw [baP_y h33] at h
    have := hB _ _ h
    have := skipH_ge (f := f) (n := n) (i + 1)
    omega
  · rw [baP_n h33] at h
    exact hB _ _ h
theorem liP_ge {one : Nat → Option (Nat × CT)} (hM : Mon one) {c : Int32} {tx : Nat} : ∀ (k i : Nat) (ac : List CT) (p : Nat × List CT), liP f n one c tx k i ac = some p → i ≤ p.1 := by
  intro k
  induction k with
  | zero => intro i ac p h; cases h
  | succ k ih =>
    intro i ac p h
    cases ho : one i with
    | none => rw [liP_n ho] at h; cases h
    | some j1 =>
      obtain ⟨j1, g⟩ := j1
      have : i ≤ j1 := hM _ _ ho
      have := skipH_ge (f := f) (n := n) j1
      have := skipH_ge (f := f) (n := n) (skipH f n j1 + 2)
      by_cases hh : hereV f n (skipH f n j1) = c
      · by_cases h2 : mtB f n (skipH f n j1) (mtx tx) 2 = true
        · rw [liP_s ho hh h2] at h
          have := ih _ _ _ h
          omega
        · rw [liP_b ho hh h2] at h; cases h
      · rw [liP_e ho hh] at h
        have e := Option.some.inj h
        rw [← e]
        show i ≤ j1
        omega
theorem anP_ge {ok : Bool} {orR : Nat → Option (Nat × CT)} {cmR : Nat → Option (Nat × OT)} {qyR : Bool → Nat → Option (Nat × Bool × QT)} (hb : Mon (baP f n ok orR cmR qyR)) : Mon (anP f n ok orR cmR qyR) := fun i p h => by
  unfold anP at h
  cases hq : liP f n (baP f n ok orR cmR qyR) 38 8 (n + 1) i [] with
  | none => rw [hq] at h; cases h
  | some z =>
    rw [hq] at h
    have e := Option.some.inj h
    have := liP_ge hb _ _ _ _ hq
    rw [← e]
    exact this
theorem orP_ge {ok : Bool} {orR : Nat → Option (Nat × CT)} {cmR : Nat → Option (Nat × OT)} {qyR : Bool → Nat → Option (Nat × Bool × QT)} (hb : Mon (anP f n ok orR cmR qyR)) : Mon (orP f n ok orR cmR qyR) := fun i p h => by
  unfold orP at h
  cases hq : liP f n (anP f n ok orR cmR qyR) 124 7 (n + 1) i [] with
  | none => rw [hq] at h; cases h
  | some z =>
    rw [hq] at h
    have e := Option.some.inj h
    have := liP_ge hb _ _ _ _ hq
    rw [← e]
    exact this
/-- a list of the class, and one of the reference -/
theorem lst_eq {oneC : Nat → Option (Nat × CT)} {c : Int32} {m i : Nat} {R : Option (Nat × List CT)} (fn : List CT → CT) (h : (oneC i).bind (fun p => (liD f n oneC c m p.1).map (fun r => (r.1, [] ++ p.2 :: r.2))) = R.map (skm f n)) : (oneC i).bind (fun p => (liD f n oneC c m p.1).map (fun r => (r.1, fn (p.2 :: r.2)))) = (R.map (fun p => (p.1, fn p.2))).map (skm f n) := by
  have h2 := congrArg (fun o => o.map (fun r => (r.1, fn r.2))) h
  have e1 : ((oneC i).bind (fun p => (liD f n oneC c m p.1).map (fun r => (r.1, [] ++ p.2 :: r.2)))).map (fun r => (r.1, fn r.2)) = (oneC i).bind (fun p => (liD f n oneC c m p.1).map (fun r => (r.1, fn (p.2 :: r.2)))) := by
    cases oneC i with
    | none => rfl
    | some p =>
      show Option.map _ (Option.map _ (liD f n oneC c m p.1)) = Option.map _ (liD f n oneC c m p.1)
      cases liD f n oneC c m p.1 <;> rfl
  have e2 : (R.map (skm f n)).map (fun r => (r.1, fn r.2)) = (R.map (fun p => (p.1, fn p.2))).map (skm f n) := by cases R <;> rfl
  rw [← e1, ← e2]
  exact h2
theorem lvl_eq (hbf : byR f) (hn4 : n ≤ 4096) {orL orR : Nat → Option (Nat × CT)} {cmC cmR : Nat → Option (Nat × OT)} {qyC : Nat → Option (Nat × Bool × QT)} {qyR : Bool → Nat → Option (Nat × Bool × QT)} (hor : ∀ i, orL i = (orR (skipH f n i)).map (skm f n)) (hM : Mon orR) (hcm : ∀ i, cmC i = cmR i) (hMc : Mon cmR) (hqy : ∀ i, qyC i = qyR (decide (hereV f n i = 36)) (i + 1)) (hMq : ∀ b, Mon (qyR b)) (ok : Bool) :
    (∀ i, orD f n ok orL cmC qyC i = (orP f n ok orR cmR qyR (skipH f n i)).map (skm f n)) ∧ Mon (orP f n ok orR cmR qyR) ∧ (∀ i, opD f n ok orL cmC qyC i = cmP f n ok orR cmR qyR i) ∧ Mon (cmP f n ok orR cmR qyR) ∧ (∀ i, qrD f n ok orL false i = qrP f n ok orR false (decide (hereV f n i = 36)) (i + 1)) ∧ (∀ b, Mon (qrP f n ok orR false b)) := by
  have hb := baP_ge (f := f) (n := n) (ok := ok) hM hMc hMq
  have han : ∀ i, anD f n ok orL cmC qyC i = (anP f n ok orR cmR qyR (skipH f n i)).map (skm f n) := fun i => lst_eq allC (li_eq hbf (fun i => ba_eq hbf hn4 hor hM hcm hqy ok i) hb (by decide) (by decide) (by decide) n 4098 (n + 1) i [] (by omega) (by omega) (by omega))
  have hMa : Mon (anP f n ok orR cmR qyR) := anP_ge hb
  exact ⟨fun i => lst_eq anyC_ (li_eq hbf han hMa (by decide) (by decide) (by decide) n 4098 (n + 1) i [] (by omega) (by omega) (by omega)), orP_ge hMa, fun i => op_eq hbf hn4 hor hM hcm hqy ok i, cmP_ge hM hMc hMq, fun i => qr_eq hbf hn4 hor hM ok false i, fun _ => qrP_ge hM⟩
theorem DDd_0 : DDd f n 0 = (orD f n false (fun _ => none) (fun _ => none) (fun _ => none), opD f n false (fun _ => none) (fun _ => none) (fun _ => none), qrD f n false (fun _ => none) false) := rfl
theorem DDd_s {d : Nat} : DDd f n (d + 1) = (orD f n true (DDd f n d).1 (DDd f n d).2.1 (DDd f n d).2.2, opD f n true (DDd f n d).1 (DDd f n d).2.1 (DDd f n d).2.2, qrD f n true (DDd f n d).1 false) := rfl
theorem DDf_0 : DDf f n 0 = (orP f n false (fun _ => none) (fun _ => none) (fun _ _ => none), cmP f n false (fun _ => none) (fun _ => none) (fun _ _ => none), qrP f n false (fun _ => none) false) := rfl
theorem DDf_s {d : Nat} : DDf f n (d + 1) = (orP f n true (DDf f n d).1 (DDf f n d).2.1 (DDf f n d).2.2, cmP f n true (DDf f n d).1 (DDf f n d).2.1 (DDf f n d).2.2, qrP f n true (DDf f n d).1 false) := rfl
theorem dd_eq (hbf : byR f) (hn4 : n ≤ 4096) : ∀ d, (∀ i, (DDd f n d).1 i = ((DDf f n d).1 (skipH f n i)).map (skm f n)) ∧ Mon (DDf f n d).1 ∧ (∀ i, (DDd f n d).2.1 i = (DDf f n d).2.1 i) ∧ Mon (DDf f n d).2.1 ∧ (∀ i, (DDd f n d).2.2 i = (DDf f n d).2.2 (decide (hereV f n i = 36)) (i + 1)) ∧ (∀ b, Mon ((DDf f n d).2.2 b)) := by
  intro d
  induction d with
  | zero =>
    have h := lvl_eq (f := f) (n := n) hbf hn4 (orL := fun _ => none) (orR := fun _ => none) (cmC := fun _ => none) (cmR := fun _ => none) (qyC := fun _ => none) (qyR := fun _ _ => none) (fun _ => rfl) (fun _ _ h => by cases h) (fun _ => rfl) (fun _ _ h => by cases h) (fun _ => rfl) (fun _ _ _ h => by cases h) false
    rw [DDd_0, DDf_0]
    exact h
  | succ d ih =>
    have h := lvl_eq (f := f) (n := n) hbf hn4 ih.1 ih.2.1 ih.2.2.1 ih.2.2.2.1 ih.2.2.2.2.1 ih.2.2.2.2.2 true
    rw [DDd_s, DDf_s]
    exact h
/-- class and reference read the same queries, and they mean the same -/
theorem jQD_pQ (hbf : byR f) (hn4 : n ≤ 4096) : jQD f n = pQ f n := by
  unfold jQD pQ
  by_cases h : hereV f n 0 = 36
  · rw [if_pos h, if_pos h, (dd_eq hbf hn4 16).2.2.2.2.1 0, decide_eq_true h]
    cases (DDf f n 16).2.2 true (0 + 1) <;> rfl
  · rw [if_neg h, if_neg h]
end QEqD
