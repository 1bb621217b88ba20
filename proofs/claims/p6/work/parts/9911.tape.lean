theorem here_lc {f : Nat → Int32} {n i : Nat} {c : Int32} (h : hereV f n i = c) (hc : c ≠ -1) : i < n := Classical.byContradiction fun hn => hc (by rw [← h]; unfold hereV; rw [if_neg hn])
theorem here_ge {f : Nat → Int32} {n i : Nat} (h : 0 ≤ hereV f n i) : i < n := Classical.byContradiction fun hn => by
  unfold hereV at h
  rw [if_neg hn] at h
  exact absurd h (by decide)
theorem chF_b {f : Nat → Int32} {n i j : Nat} {q : Int32} {L : List Int32} (h : chF f n i q = some (j, L)) : i + L.length ≤ j := by
  have hR : chR f n i q j L := by
    unfold chF at h
    split at h
    · cases h
    · rename_i h1
      refine ⟨fun h => h1 (Or.inl h), Classical.byContradiction fun h => h1 (Or.inr h), ?_⟩
      split at h
      · rename_i h2
        split at h
        · cases h
        · rename_i h3
          split at h
          · rename_i h4
            split at h
            · rename_i h5
              cases h
              exact Or.inr ⟨h2, _, _, _, rfl, fun h => h3 (Or.inl h), fun h => h3 (Or.inr h), Or.inr ⟨h4, h5.1, rfl, h5.2, rfl⟩⟩
            · cases h
          · rename_i h4
            cases h
            exact Or.inr ⟨h2, _, 0, _, rfl, fun h => h3 (Or.inl h), fun h => h3 (Or.inr h), Or.inl ⟨h4, rfl, rfl⟩⟩
      · rename_i h2
        cases h
        exact Or.inl ⟨h2, rfl, rfl⟩
  exact (chR_b hR).1
theorem qtF_b {f : Nat → Int32} {n : Nat} {q : Int32} : ∀ (t j : Nat) (L : List Int32) (j' : Nat) (L' : List Int32), qtF f n q t j L = some (j', L') → j + L'.length ≤ j' + L.length ∧ hereV f n j' = q ∧ j ≤ j' := by
  intro t
  induction t with
  | zero =>
    intro j L j' L' h
    by_cases hq : hereV f n j = q
    · rw [qtF_q hq] at h
      cases h
      exact ⟨Nat.le_refl _, hq, Nat.le_refl _⟩
    · rw [qtF_0 hq] at h
      cases h
  | succ t ih =>
    intro j L j' L' h
    by_cases hq : hereV f n j = q
    · rw [qtF_q hq] at h
      cases h
      exact ⟨Nat.le_refl _, hq, Nat.le_refl _⟩
    · cases hc : chF f n j q with
      | none =>
        rw [qtF_n hq hc] at h
        cases h
      | some z =>
        obtain ⟨j1, L1⟩ := z
        rw [qtF_s hq hc] at h
        obtain ⟨h1, h2, h3⟩ := ih _ _ _ _ h
        have hb : j + L1.length ≤ j1 := chF_b hc
        rw [List.length_append] at h1
        exact ⟨by omega, h2, by omega⟩
theorem qtR_b {f : Nat → Int32} {n i j : Nat} {L : List Int32} (hi : i < n) (h : qtR f n i = some (j, L)) : i + 1 + L.length ≤ j ∧ j < n := by
  unfold qtR at h
  obtain ⟨h1, h2, h3⟩ := qtF_b _ _ _ _ _ h
  have h4 : L.length + (i + 1) ≤ j + 0 := by have : ([] : List Int32).length = 0 := rfl; omega
  exact ⟨by omega, here_n hi h2⟩
theorem mtch_b {f : Nat → Int32} {n i len : Nat} {b : Nat → Int32} (h : mtch f n i b len) (hl : 0 < len) (hb : ∀ j, 0 ≤ b j &&& 255) : i + len ≤ n := by
  have h1 := h (len - 1) (by omega)
  have h2 : i + (len - 1) < n := here_ge (by rw [h1]; exact hb _)
  omega
theorem and255 (x : Int32) : 0 ≤ x &&& 255 := by
  obtain ⟨j, hj, e⟩ := pk_andE x (m := 255) 8 (by decide)
  rw [e]
  exact nI_pos' (by omega)
theorem digS_b {f : Nat → Int32} {n : Nat} : ∀ (k j : Nat) (a r : Int64) (u : Nat), (r, u) = digS f n k j a → j + k ≤ n → 0 ≤ a.toInt → a.toInt ≤ 9007199254740992 → j ≤ u ∧ u ≤ n ∧ 0 ≤ r.toInt := by
  intro k
  induction k with
  | zero =>
    intro j a r u h hj h0 h1
    have e : (r, u) = (a, j) := h
    cases e
    exact ⟨Nat.le_refl _, by omega, h0⟩
  | succ k ih =>
    intro j a r u h hj h0 h1
    by_cases hd : j < n ∧ 48 ≤ f j ∧ f j ≤ 57
    · have e : digS f n (k + 1) j a = digS f n k (j + 1) (minL (a * 10 + (f j - 48).toInt64)) := by simp only [digS]; rw [if_pos hd]
      rw [e] at h
      obtain ⟨d1, d2, d3⟩ := hd
      have d4 := Int32.le_iff_toInt_le.mp d2
      have d5 := Int32.le_iff_toInt_le.mp d3
      rw [show (48 : Int32).toInt = 48 from rfl] at d4
      rw [show (57 : Int32).toInt = 57 from rfl] at d5
      have e1 : (f j - 48).toInt = (f j).toInt - 48 := by
        rw [Int32.toInt_sub, show (48 : Int32).toInt = 48 from rfl]
        apply Int.bmod_eq_of_le <;> omega
      have e2 : (a * 10).toInt = a.toInt * 10 := by
        rw [Int64.toInt_mul, show (10 : Int64).toInt = 10 from rfl]
        apply Int.bmod_eq_of_le <;> omega
      have e3 : (a * 10 + (f j - 48).toInt64).toInt = a.toInt * 10 + ((f j).toInt - 48) := by
        rw [Int64.toInt_add, e2, Int32.toInt_toInt64, e1]
        apply Int.bmod_eq_of_le <;> omega
      have hm : 0 ≤ (minL (a * 10 + (f j - 48).toInt64)).toInt ∧ (minL (a * 10 + (f j - 48).toInt64)).toInt ≤ 9007199254740992 := by
        unfold minL
        split
        · exact ⟨by decide, by decide⟩
        · rename_i h9
          have h8 : ¬ (9007199254740992 : Int64).toInt < (a * 10 + (f j - 48).toInt64).toInt := fun h => h9 (Int64.lt_iff_toInt_lt.mpr h)
          rw [show (9007199254740992 : Int64).toInt = 9007199254740992 from rfl] at h8
          constructor <;> omega
      obtain ⟨g1, g2, g3⟩ := ih _ _ _ _ h (by omega) hm.1 hm.2
      exact ⟨by omega, g2, g3⟩
    · have e : digS f n (k + 1) j a = (a, j) := by simp only [digS]; rw [if_neg hd]
      rw [e] at h
      cases h
      exact ⟨Nat.le_refl _, by omega, h0⟩
theorem digR_b {f : Nat → Int32} {n i u : Nat} {r : Int64} (h : (r, u) = digR f n i) (hi : i ≤ n) : i ≤ u ∧ u ≤ n ∧ 0 ≤ r.toInt := digS_b _ _ _ _ _ h (by omega) (by decide) (by decide)
theorem skip_b {f : Nat → Int32} {n i : Nat} (h : i ≤ n) : i ≤ skipB f n i ∧ skipB f n i ≤ n := by
  have := skipB_le f n i
  omega
abbrev byR (bf : Nat → Int32) : Prop := ∀ j, vp_nar .byte (bf j) = bf j
theorem dig_here {bf : Nat → Int32} {n p : Nat} {x : Int32} (hbf : byR bf) (e : x = hereV bf n p) (h : 48 ≤ x ∧ x ≤ 57) : p < n ∧ 48 ≤ bf p ∧ bf p ≤ 57 := by
  subst e
  have h0 : p < n := here_ge (Int32.le_trans (by decide) h.1)
  refine ⟨h0, ?_⟩
  unfold hereV at h
  rw [if_pos h0] at h
  obtain ⟨m, hm, em⟩ := pk_andE (bf p) (m := 255) 8 (by decide)
  rw [em] at h
  have h1 := h.1
  have h2 := h.2
  rw [show (48 : Int32) = nI 48 from rfl, nI_leI (by decide) (by omega)] at h1
  rw [show (57 : Int32) = nI 57 from rfl, nI_leI (by omega) (by decide)] at h2
  have hb := hbf p
  rw [vp_nar_byte] at hb
  have e2 := (sc_eq hb (n := m) (by omega)).mpr em
  have e3 : (nI m).toInt8.toInt32 = nI m := by
    have key : ∀ k, k < 128 → (nI k).toInt8.toInt32 = nI k := by decide
    exact key m (by omega)
  rw [e2, e3]
  exact ⟨by rw [show (48 : Int32) = nI 48 from rfl, nI_leI (by decide) (by omega)]; exact h1, by rw [show (57 : Int32) = nI 57 from rfl, nI_leI (by omega) (by decide)]; exact h2⟩
theorem digR_p {f : Nat → Int32} {n i u : Nat} {r : Int64} (h : (r, u) = digR f n i) (hd : i < n ∧ 48 ≤ f i ∧ f i ≤ 57) : i < u := by
  unfold digR at h
  rw [digS_s hd.1 hd.2] at h
  have e1 : (f i - 48).toInt = (f i).toInt - 48 := by
    have d4 := Int32.le_iff_toInt_le.mp hd.2.1
    have d5 := Int32.le_iff_toInt_le.mp hd.2.2
    rw [show (48 : Int32).toInt = 48 from rfl] at d4
    rw [show (57 : Int32).toInt = 57 from rfl] at d5
    rw [Int32.toInt_sub, show (48 : Int32).toInt = 48 from rfl]
    apply Int.bmod_eq_of_le <;> omega
  have d4 := Int32.le_iff_toInt_le.mp hd.2.1
  have d5 := Int32.le_iff_toInt_le.mp hd.2.2
  rw [show (48 : Int32).toInt = 48 from rfl] at d4
  rw [show (57 : Int32).toInt = 57 from rfl] at d5
  have e3 : ((0 : Int64) * 10 + (f i - 48).toInt64).toInt = (f i).toInt - 48 := by
    rw [show (0 : Int64) * 10 = 0 from by decide, Int64.zero_add, Int32.toInt_toInt64, e1]
  have hm : 0 ≤ (minL ((0 : Int64) * 10 + (f i - 48).toInt64)).toInt ∧ (minL ((0 : Int64) * 10 + (f i - 48).toInt64)).toInt ≤ 9007199254740992 := by
    unfold minL
    split
    · exact ⟨by decide, by decide⟩
    · rw [e3]
      constructor <;> omega
  exact (digS_b _ _ _ _ _ h (by omega) hm.1 hm.2).1
