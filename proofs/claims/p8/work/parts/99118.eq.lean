section Bytes
variable {f : Nat → Int32} {n : Nat}
/-- a byte below 128 as it is read -/
theorem by_here {p m : Nat} (hbf : byR f) (hp : p < n) (hm : m < 128) : hereV f n p = nI m ↔ f p = nI m := by
  have hb := hbf p
  rw [vp_nar_byte] at hb
  have key : ∀ k, k < 128 → (nI k).toInt8.toInt32 = nI k := by decide
  have e := sc_eq hb (n := m) (by omega)
  rw [key m hm] at e
  unfold hereV
  rw [if_pos hp]
  exact e.symm
theorem here_dom (f : Nat → Int32) (n i : Nat) : hereV f n i = -1 ∨ ∃ m, m < 256 ∧ hereV f n i = nI m := by
  unfold hereV
  split
  · obtain ⟨m, hm, e⟩ := pk_andE (f i) (m := 255) 8 (by decide)
    exact Or.inr ⟨m, by omega, e⟩
  · exact Or.inl rfl
theorem blk_here {p : Nat} (hbf : byR f) (hp : p < n) : blk (f p) = true ↔ blkH (hereV f n p) := by
  have e32 : hereV f n p = 32 ↔ f p = 32 := by_here (m := 32) hbf hp (by decide)
  have e9 : hereV f n p = 9 ↔ f p = 9 := by_here (m := 9) hbf hp (by decide)
  have e10 : hereV f n p = 10 ↔ f p = 10 := by_here (m := 10) hbf hp (by decide)
  have e13 : hereV f n p = 13 ↔ f p = 13 := by_here (m := 13) hbf hp (by decide)
  unfold blk
  simp only [Bool.or_eq_true, decide_eq_true_eq]
  rw [← e32, ← e9, ← e10, ← e13]
  constructor
  · rintro (((h | h) | h) | h)
    · exact Or.inl h
    · exact Or.inr (Or.inl h)
    · exact Or.inr (Or.inr (Or.inl h))
    · exact Or.inr (Or.inr (Or.inr h))
  · rintro (h | h | h | h)
    · exact Or.inl (Or.inl (Or.inl h))
    · exact Or.inl (Or.inl (Or.inr h))
    · exact Or.inl (Or.inr h)
    · exact Or.inr h
theorem skip_eq (hbf : byR f) : ∀ (k i : Nat), n - i = k → skipB f n i = skipH f n i := by
  intro k
  induction k with
  | zero =>
    intro i hi
    rw [skipB_e (fun h => by omega), skipH_e (fun h => by have := blkH_lt h; omega)]
  | succ k ih =>
    intro i hi
    by_cases hb : blkH (hereV f n i)
    · rw [skipH_s hb, skipB_s (by omega) ((blk_here hbf (by omega)).mpr hb)]
      exact ih (i + 1) (by omega)
    · rw [skipH_e hb, skipB_e (fun h => hb ((blk_here hbf h.1).mp h.2))]
theorem skipBH (hbf : byR f) (i : Nat) : skipB f n i = skipH f n i := skip_eq hbf _ i rfl
theorem hex_all : ∀ m, m < 256 → hexV ((nI m).toInt8.toInt32) = hexV (nI m) := by decide +kernel
theorem hex_here (hbf : byR f) (p : Nat) : hexV (byteV f n p) = hexV (hereV f n p) := by
  unfold byteV hereV
  by_cases hp : p < n
  · rw [if_pos hp, if_pos hp]
    have hb := hbf p
    rw [vp_nar_byte] at hb
    obtain ⟨m, hm, e⟩ := pk_andE (f p) (m := 255) 8 (by decide)
    have e2 := (sc_eq hb (n := m) (by omega)).mpr e
    rw [e]
    have e3 := hex_all m (by omega)
    rw [← e2] at e3
    exact e3
  · rw [if_neg hp, if_neg hp]
theorem hex4_M (hbf : byR f) : ∀ (k j : Nat) (a : Int32), hex4 f n k j a = hexM f n k j a := by
  intro k
  induction k with
  | zero => intro j a; rfl
  | succ k ih =>
    intro j a
    simp only [hex4, hexM]
    rw [hex_here hbf]
    by_cases h : hexV (hereV f n j) < 0
    · rw [if_pos h, if_neg (Int32.not_le.mpr h)]
    · rw [if_neg h, if_pos (Int32.not_lt.mp h), ih, Int32.mul_comm a 16]
theorem bf_all : ∀ m, m < 256 → (¬ bfI (nI m) < 0 → ixV (bfI (nI m)) = escC (nI m) ∧ ¬ nI m = 117) ∧ (bfI (nI m) < 0 → ¬ nI m = 117 → escC (nI m) = -1) := by decide +kernel
theorem bf_here (i : Nat) : (¬ bfI (hereV f n i) < 0 → ixV (bfI (hereV f n i)) = escC (hereV f n i) ∧ ¬ hereV f n i = 117) ∧ (bfI (hereV f n i) < 0 → ¬ hereV f n i = 117 → escC (hereV f n i) = -1) := by
  rcases here_dom f n i with e | ⟨m, hm, e⟩
  · rw [e]; decide
  · rw [e]; exact bf_all m hm
theorem esc_eq (hbf : byR f) (q : Int32) (i : Nat) : escM f n q i = escV f n i q := by
  unfold escM escV
  obtain ⟨k1, k2⟩ := bf_here (f := f) (n := n) (i + 1)
  by_cases h1 : hereV f n (i + 1) = q ∨ hereV f n (i + 1) = 92 ∨ hereV f n (i + 1) = 47
  · exact (if_pos h1).trans (if_pos h1).symm
  · refine (if_neg h1).trans (Eq.trans ?_ (if_neg h1).symm)
    by_cases h2 : ¬ bfI (hereV f n (i + 1)) < 0
    · refine (if_pos h2).trans (Eq.trans ?_ (if_neg (k1 h2).2).symm)
      rw [(k1 h2).1]
    · refine (if_neg h2).trans ?_
      by_cases h3 : hereV f n (i + 1) = 117
      · exact (if_pos h3).trans ((hex4_M hbf 4 (i + 2) 0).symm.trans (if_pos h3).symm)
      · refine (if_neg h3).trans (Eq.trans ?_ (if_neg h3).symm)
        rw [k2 (Classical.not_not.mp h2) h3]
theorem chF_ne {i j : Nat} {q : Int32} {L : List Int32} (h : chF f n i q = some (j, L)) : 0 < L.length := by
  unfold chF at h
  split at h
  · cases h
  · split at h
    · split at h
      · cases h
      · split at h
        · split at h
          · cases h; exact Nat.succ_pos _
          · cases h
        · cases h; exact Nat.succ_pos _
    · cases h; exact Nat.succ_pos _
theorem escC_small (x : Int32) : escC x ≤ 13 := by
  unfold escC
  split
  · decide
  · split
    · decide
    · split
      · decide
      · split
        · decide
        · split <;> decide
/-- the second of a pair comes of \u alone -/
theorem esc_low {q : Int32} {i : Nat} (h : lowU (escV f n i q).1) : hereV f n (i + 1) = 117 := by
  refine Classical.byContradiction (fun h1 => ?_)
  unfold escV at h
  by_cases h2 : hereV f n (i + 1) = q ∨ hereV f n (i + 1) = 92 ∨ hereV f n (i + 1) = 47
  · rw [if_pos h2] at h
    have h3 : lowU (hereV f n (i + 1)) := h
    rcases here_dom f n (i + 1) with e | ⟨m, hm, e⟩
    · rw [e] at h3; revert h3; decide
    · rw [e] at h3
      have h4 := h3.1
      rw [show (56320 : Int32) = nI 56320 from rfl, nI_leI (by decide) (by omega)] at h4
      omega
  · rw [if_neg h2, if_neg h1] at h
    have h3 : lowU (escC (hereV f n (i + 1))) := h
    exact absurd (Int32.le_trans h3.1 (escC_small _)) (by decide)
theorem qtM_ch (hbf : byR f) {q : Int32} {k j : Nat} {L : List Int32} (hq : ¬ hereV f n j = q) : qtM f n q (k + 1) j L = match chF f n j q with
    | none => none
    | some z => qtM f n q k z.1 (L ++ z.2) := by
  simp only [qtM]
  rw [if_neg hq]
  unfold chF
  by_cases c2 : hereV f n j < 32 ∨ ¬ hereV f n j ≤ 126
  · rw [if_pos c2, if_pos c2]
  rw [if_neg c2, if_neg c2]
  by_cases c3 : hereV f n j = 92
  · rw [if_neg (fun h => h c3), if_pos c3]
    simp only [esc_eq hbf]
    generalize he : escV f n j q = ev
    obtain ⟨u, j1⟩ := ev
    simp only []
    by_cases c4 : u < 0
    · rw [if_pos (Int32.not_le.mpr c4), if_pos (Or.inl c4)]
    rw [if_neg (fun h => h (Int32.not_lt.mp c4))]
    by_cases c5 : lowU u
    · rw [if_pos ⟨Int32.not_lt.mpr c5.1, Int32.not_lt.mpr c5.2⟩, if_pos (Or.inr c5)]
    rw [if_neg (show ¬ (¬ u < 56320 ∧ ¬ 57343 < u) from fun h => c5 ⟨Int32.not_lt.mp h.1, Int32.not_lt.mp h.2⟩), if_neg (show ¬ (u < 0 ∨ lowU u) from fun h => h.elim c4 c5)]
    by_cases c6 : highU u
    · rw [if_neg (show ¬ (u < 55296 ∨ ¬ u ≤ 56319) from fun h => h.elim (fun h => absurd c6.1 (Int32.not_le.mpr h)) (fun h => h c6.2)), if_pos (show highU u from c6)]
      by_cases c7 : hereV f n j1 = 92 ∧ lowU (escV f n j1 q).1
      · have h117 := esc_low c7.2
        have hl1 := here_lc c7.1 (by decide)
        have hl2 := here_lc h117 (by decide)
        have hf : f (j1 + 1) = 117 := (by_here (m := 117) hbf hl2 (by decide)).mp h117
        rw [if_neg (show ¬ ¬ j1 < n from fun h => h hl1), if_neg (show ¬ ¬ hereV f n j1 = 92 from fun h => h c7.1), if_neg (show ¬ ¬ j1 + 1 < n from fun h => h hl2), if_neg (show ¬ ¬ f (j1 + 1) = 117 from fun h => h hf), if_neg (show ¬ ¬ 0 ≤ (escV f n j1 q).1 from fun h => h (Int32.le_trans (by decide) c7.2.1)), if_neg (show ¬ ((escV f n j1 q).1 < 56320 ∨ ¬ (escV f n j1 q).1 ≤ 57343) from fun h => h.elim (fun h => absurd c7.2.1 (Int32.not_le.mpr h)) (fun h => h c7.2.2)), if_pos c7]
        simp only [List.append_assoc, List.cons_append, List.nil_append]
      · rw [if_neg c7]
        show _ = none
        by_cases d1 : ¬ j1 < n
        · rw [if_pos d1]
        rw [if_neg d1]
        by_cases d2 : ¬ hereV f n j1 = 92
        · rw [if_pos d2]
        rw [if_neg d2]
        by_cases d3 : ¬ j1 + 1 < n
        · rw [if_pos d3]
        rw [if_neg d3]
        by_cases d4 : ¬ f (j1 + 1) = 117
        · rw [if_pos d4]
        rw [if_neg d4]
        by_cases d5 : ¬ 0 ≤ (escV f n j1 q).1
        · rw [if_pos d5]
        rw [if_neg d5, if_pos]
        refine Classical.byContradiction (fun h => c7 ⟨Classical.not_not.mp d2, ?_⟩)
        rw [not_or] at h
        exact ⟨Int32.not_lt.mp h.1, Classical.not_not.mp h.2⟩
    · rw [if_pos (show u < 55296 ∨ ¬ u ≤ 56319 from by rcases i32_or u 55296 with h | h; (· exact Or.inl h); (· exact Or.inr (fun h2 => c6 ⟨h, h2⟩))), if_neg c6]
  · rw [if_pos c3, if_neg c3]
theorem qt_eq (hbf : byR f) {q : Int32} (hq1 : ¬ q = -1) : ∀ (s t k j : Nat) (L : List Int32), n - j ≤ s → s ≤ t → s < k → (qtF f n q t j L).map (fun z => (z.2, z.1 + 1)) = qtM f n q k j L := by
  intro s
  induction s with
  | zero =>
    intro t k j L h1 h2 h3
    obtain ⟨k, rfl⟩ : ∃ z, k = z + 1 := ⟨k - 1, by omega⟩
    have e : hereV f n j = -1 := by unfold hereV; rw [if_neg (by omega)]
    have hq : ¬ hereV f n j = q := fun h => hq1 (h.symm.trans e)
    have hc : chF f n j q = none := by unfold chF; rw [e, if_pos (Or.inl (by decide))]
    rw [qtM_ch hbf hq, hc]
    cases t with
    | zero => rw [qtF_0 hq]; rfl
    | succ t => rw [qtF_n hq hc]; rfl
  | succ s ih =>
    intro t k j L h1 h2 h3
    obtain ⟨k, rfl⟩ : ∃ z, k = z + 1 := ⟨k - 1, by omega⟩
    obtain ⟨t, rfl⟩ : ∃ z, t = z + 1 := ⟨t - 1, by omega⟩
    by_cases hq : hereV f n j = q
    · rw [qtF_q hq]
      simp only [qtM]
      rw [if_pos hq]
      rfl
    · rw [qtM_ch hbf hq]
      cases hc : chF f n j q with
      | none => rw [qtF_n hq hc]; rfl
      | some z =>
        obtain ⟨j1, L1⟩ := z
        rw [qtF_s hq hc]
        have hb := chF_b hc
        have hp := chF_ne hc
        exact ih t k j1 (L ++ L1) (by omega) (by omega) (by omega)
theorem qtR_Q (hbf : byR f) (hn : n ≤ 4096) {i : Nat} (h : hereV f n i = 34) : (qtR f n i).map (fun z => (z.2, z.1 + 1)) = qtQ f n 34 i := by
  unfold qtR qtQ
  rw [h, if_pos rfl]
  exact qt_eq hbf (by decide) 4096 4096 (n + 13 + 4096) (i + 1) [] (by omega) (by omega) (by omega) |>.trans (by
    rw [← qt_eq hbf (q := 34) (by decide) n 4096 (n + 13 + 4096) (i + 1) [] (by omega) (by omega) (by omega)]
    exact qt_eq hbf (by decide) n 4096 (n + 13) (i + 1) [] (by omega) (by omega) (by omega))
end Bytes
section Nums
variable {f : Nat → Int32} {n : Nat}
theorem dg_all : ∀ d, d < 10 → (nI (48 + d) - 48 : Int32).toInt64 = Int64.ofNat d ∧ (nI (48 + d)).toInt64 = Int64.ofNat (48 + d) := by decide
theorem minL_nat {X : Nat} (h : X < 2 ^ 62) : minL (Int64.ofNat X) = Int64.ofNat (min X 9007199254740992) := by
  unfold minL
  by_cases h1 : 9007199254740992 < X
  · rw [if_pos (by rw [Int64.lt_iff_toInt_lt, toI_ofN h]; show (9007199254740992 : Int) < (X : Int); omega), Nat.min_eq_right (by omega)]
    rfl
  · rw [if_neg (fun q => by rw [Int64.lt_iff_toInt_lt, toI_ofN h] at q; have q : (9007199254740992 : Int) < (X : Int) := q; omega), Nat.min_eq_left (by omega)]
/-- a digit as it is read -/
theorem dig_dom (hbf : byR f) {j : Nat} (h : digH (hereV f n j)) : ∃ d, d < 10 ∧ hereV f n j = nI (48 + d) ∧ f j = nI (48 + d) ∧ j < n := by
  have hl := digH_lt h
  obtain ⟨w, hw, e⟩ := i32_lit (Int32.le_trans (by decide) h.1) (show hereV f n j ≤ nI 57 from h.2) (by decide)
  have h48 : 48 ≤ w := by
    have h1 := h.1
    rw [e, show (48 : Int32) = nI 48 from rfl, nI_leI (by decide) (by omega)] at h1
    exact h1
  refine ⟨w - 48, by omega, ?_, ?_, hl⟩
  · rw [e]; congr 1; omega
  · rw [show 48 + (w - 48) = w by omega]
    exact (by_here (m := w) hbf hl (by omega)).mp e
theorem dig_back (hbf : byR f) {j : Nat} (h : j < n ∧ 48 ≤ f j ∧ f j ≤ 57) : digH (hereV f n j) := by
  obtain ⟨w, hw, e⟩ := i32_lit (Int32.le_trans (by decide) h.2.1) (show f j ≤ nI 57 from h.2.2) (by decide)
  have e2 := (by_here (m := w) hbf h.1 (by omega)).mpr e
  rw [e2, ← e]
  exact h.2
theorem dg_eq (hbf : byR f) : ∀ (s k j A : Nat) (b : Int64), n - j = s → s < k → A < 10 ^ 17 → ((b = Int64.ofNat A ∧ A ≤ 9007199254740991) ∨ (9007199254740991 < A ∧ b = Int64.ofNat 9007199254740992)) →
    ∃ B, dgM f n k j (Int64.ofNat A) = (Int64.ofNat B, (digS f n (n - j) j b).2) ∧ B < 10 ^ 17 ∧ (((digS f n (n - j) j b).1 = Int64.ofNat B ∧ B ≤ 9007199254740991) ∨ (9007199254740991 < B ∧ (digS f n (n - j) j b).1 = Int64.ofNat 9007199254740992)) := by
  intro s
  induction s with
  | zero =>
    intro k j A b h1 h2 h3 h4
    obtain ⟨k, rfl⟩ : ∃ z, k = z + 1 := ⟨k - 1, by omega⟩
    have hnd : ¬ digH (hereV f n j) := fun h => by have := digH_lt h; omega
    rw [digS_e (fun h => by omega)]
    refine ⟨A, ?_, h3, h4⟩
    simp only [dgM]
    rw [if_neg hnd]
  | succ s ih =>
    intro k j A b h1 h2 h3 h4
    obtain ⟨k, rfl⟩ : ∃ z, k = z + 1 := ⟨k - 1, by omega⟩
    by_cases hd : digH (hereV f n j)
    · obtain ⟨d, d1, d2, d3, d4⟩ := dig_dom hbf hd
      have hdf : 48 ≤ f j ∧ f j ≤ 57 := by
        rw [d3]
        exact ⟨by rw [show (48 : Int32) = nI 48 from rfl, nI_leI (by decide) (by omega)]; omega, by rw [show (57 : Int32) = nI 57 from rfl, nI_leI (by omega) (by decide)]; omega⟩
      rw [digS_s d4 hdf]
      simp only [dgM]
      rw [if_pos hd, d2, d3, (dg_all d d1).1, (dg_all d d1).2]
      rcases h4 with ⟨e, hA⟩ | ⟨hA, e⟩
      · rw [if_neg (fun q => by have := (G_nat (by omega)).mp q; omega), acc_64, e]
        have em : Int64.ofNat A * 10 + Int64.ofNat d = Int64.ofNat (10 * A + d) := by
          rw [show (10 : Int64) = Int64.ofNat 10 from rfl, ← Int64.ofNat_mul, ← Int64.ofNat_add, Nat.mul_comm]
        rw [em, minL_nat (by omega)]
        refine ih k (j + 1) (10 * A + d) _ (by omega) (by omega) (by omega) ?_
        by_cases h9 : 10 * A + d ≤ 9007199254740991
        · exact Or.inl ⟨by rw [Nat.min_eq_left (by omega)], h9⟩
        · exact Or.inr ⟨by omega, by rw [Nat.min_eq_right (by omega)]⟩
      · rw [if_pos ((G_nat (by omega)).mpr hA), e]
        have em : Int64.ofNat 9007199254740992 * 10 + Int64.ofNat d = Int64.ofNat (90071992547409920 + d) := by
          rw [show (10 : Int64) = Int64.ofNat 10 from rfl, ← Int64.ofNat_mul, ← Int64.ofNat_add]
        rw [em, minL_nat (by omega), Nat.min_eq_right (by omega)]
        exact ih k (j + 1) A _ (by omega) (by omega) h3 (Or.inr ⟨hA, rfl⟩)
    · rw [digS_e (fun h => hd (dig_back hbf h))]
      refine ⟨A, ?_, h3, h4⟩
      simp only [dgM]
      rw [if_neg hd]
theorem dgN_J (hbf : byR f) (i : Nat) : ∃ B, dgN f n i = (Int64.ofNat B, (dgJ f n i).2) ∧ B < 10 ^ 17 ∧ (((dgJ f n i).1 = Int64.ofNat B ∧ B ≤ 9007199254740991) ∨ (9007199254740991 < B ∧ (dgJ f n i).1 = Int64.ofNat 9007199254740992)) := by
  unfold dgN dgJ
  by_cases h0 : hereV f n i = 48
  · rw [if_pos h0, if_pos h0]
    exact ⟨0, rfl, by decide, Or.inl ⟨rfl, by decide⟩⟩
  · rw [if_neg h0, if_neg h0]
    obtain ⟨B, b1, b2, b3⟩ := dg_eq hbf (n - i) (n + 1) i 0 (Int64.ofNat 0) rfl (by omega) (by decide) (Or.inl ⟨rfl, by decide⟩)
    exact ⟨B, b1, b2, b3⟩
theorem big_J (hbf : byR f) (i : Nat) : 0 < lg_cmp (dgN f n i).1 9007199254740991 ↔ ¬ (dgJ f n i).1 ≤ 9007199254740991 := by
  obtain ⟨B, b1, b2, b3⟩ := dgN_J (n := n) hbf i
  rw [b1]
  show 0 < lg_cmp (Int64.ofNat B) 9007199254740991 ↔ _
  rw [G_nat (by omega)]
  rcases b3 with ⟨e, hB⟩ | ⟨hB, e⟩
  · rw [e, Int64.le_iff_toInt_le, toI_ofN (by omega)]
    show _ ↔ ¬ (B : Int) ≤ 9007199254740991
    omega
  · rw [e]
    exact ⟨fun _ => by decide, fun _ => hB⟩
theorem nb_eq (hbf : byR f) (i : Nat) (mi : Bool) : jNb f n i mi = nuB f n i mi := by
  unfold jNb nuB
  by_cases hd : digH (hereV f n i)
  · rw [if_neg (show ¬ ¬ digH (hereV f n i) from fun q => q hd), if_neg (show ¬ ¬ digH (hereV f n i) from fun q => q hd)]
    obtain ⟨B, b1, b2, b3⟩ := dgN_J (n := n) hbf i
    rw [b1]
    simp only []
    rcases b3 with ⟨e, hB⟩ | ⟨hB, e⟩
    · rw [e]
      have g1 : ¬ 0 < lg_cmp (Int64.ofNat B) 9007199254740991 := fun q => by have := (G_nat (by omega)).mp q; omega
      have g2 : Int64.ofNat B ≤ 9007199254740991 := by
        rw [Int64.le_iff_toInt_le, toI_ofN (by omega)]
        show (B : Int) ≤ 9007199254740991
        omega
      by_cases hh : hereV f n (dgJ f n i).2 = 46 ∨ hereV f n (dgJ f n i).2 = 101 ∨ hereV f n (dgJ f n i).2 = 69
      · rw [if_pos (Or.inr hh), if_pos (Or.inr hh)]
      · rw [if_neg (show ¬ (¬ Int64.ofNat B ≤ 9007199254740991 ∨ hereV f n (dgJ f n i).2 = 46 ∨ hereV f n (dgJ f n i).2 = 101 ∨ hereV f n (dgJ f n i).2 = 69) from fun q => q.elim (fun q => q g2) hh), if_neg (show ¬ (0 < lg_cmp (Int64.ofNat B) 9007199254740991 ∨ hereV f n (dgJ f n i).2 = 46 ∨ hereV f n (dgJ f n i).2 = 101 ∨ hereV f n (dgJ f n i).2 = 69) from fun q => q.elim g1 hh)]
    · rw [e]
      have g1 : 0 < lg_cmp (Int64.ofNat B) 9007199254740991 := (G_nat (by omega)).mpr hB
      have g2 : ¬ Int64.ofNat 9007199254740992 ≤ 9007199254740991 := by decide
      rw [if_pos (Or.inl g2), if_pos (Or.inl g1)]
  · rw [if_pos hd, if_pos hd]
theorem num_eq (hbf : byR f) (i : Nat) : jN f n i = numM f n i := by
  unfold jN numM
  rw [nb_eq hbf, nb_eq hbf]
end Nums
section Docs
variable {f : Nat → Int32} {n : Nat}
theorem mt_eq {i k : Nat} {b b' : Nat → Int32} (h : ∀ j, j < k → b j = b' j) : mtB f n i b k = mtB f n i b' k := by
  induction k with
  | zero => rfl
  | succ k ih =>
    simp only [mtB]
    rw [ih (fun j hj => h j (by omega)), h k (by omega)]
theorem leaf_eq (hbf : byR f) (hn : n ≤ 4096) (i : Nat) (hnb : ¬ (hereV f n i = 91 ∨ hereV f n i = 123)) : jLeaf f n i = pLeaf f n i := by
  unfold jLeaf pLeaf
  rw [mt_eq (b := ctx 5) (b' := mtx 1) (k := 4) (by decide), mt_eq (b := ctx 7) (b' := mtx 2) (k := 4) (by decide), mt_eq (b := ctx 6) (b' := mtx 3) (k := 5) (by decide)]
  by_cases h1 : hereV f n i = 110
  · rw [if_pos h1, if_pos h1]
  rw [if_neg h1, if_neg h1]
  by_cases h2 : hereV f n i = 116
  · rw [if_pos h2, if_pos h2]
  rw [if_neg h2, if_neg h2]
  by_cases h3 : hereV f n i = 102
  · rw [if_pos h3, if_pos h3]
  rw [if_neg h3, if_neg h3]
  by_cases h4 : hereV f n i = 34
  · rw [if_pos h4, if_pos h4]
    have e := qtR_Q hbf hn h4
    cases hq : qtR f n i with
    | none =>
      rw [hq] at e
      have e : qtQ f n 34 i = none := e.symm
      rw [e]
    | some z =>
      rw [hq] at e
      have e : qtQ f n 34 i = some (z.2, z.1 + 1) := e.symm
      rw [e]
      simp only []
      rw [(qtQ_ok e).2.1]
  rw [if_neg h4, if_neg h4, num_eq hbf]
  by_cases h5 : hereV f n i = 45 ∨ digH (hereV f n i)
  · rw [if_pos h5]
    cases numM f n i <;> rfl
  · rw [if_neg h5]
    have e : numM f n i = none := by
      unfold numM
      rw [if_neg (fun q => h5 (Or.inl q))]
      unfold nuB
      rw [if_pos (fun q => h5 (Or.inr q))]
    rw [e]
theorem nam_eq (hbf : byR f) (hn : n ≤ 4096) (nms : List (List Int32)) (i : Nat) : jNam f n nms i = pNam f n 123 nms i := by
  unfold jNam pNam
  rw [if_neg (show ¬ (123 : Int32) = 91 by decide), skipBH hbf]
  by_cases h4 : hereV f n (skipH f n i) = 34
  · rw [if_neg (fun q => q h4), if_neg (fun q => q h4)]
    have e := qtR_Q hbf hn h4
    cases hq : qtR f n (skipH f n i) with
    | none =>
      rw [hq] at e
      have e : qtQ f n 34 (skipH f n i) = none := e.symm
      rw [e]
    | some z =>
      rw [hq] at e
      have e : qtQ f n 34 (skipH f n i) = some (z.2, z.1 + 1) := e.symm
      rw [e]
      simp only []
      rw [(qtQ_ok e).2.1, skipBH hbf]
  · rw [if_pos h4, if_pos h4]
theorem nm_eq (hbf : byR f) (hn : n ≤ 4096) {op : Int32} (hop : op = 91 ∨ op = 123) (nms : List (List Int32)) (i : Nat) : jNm f n (decide (op = 123)) nms i = pNam f n op nms i := by
  rcases hop with e | e
  · rw [e]; unfold jNm; rw [if_neg (by decide), pNam_91]
  · rw [e]; unfold jNm; rw [if_pos (by decide)]; exact nam_eq hbf hn nms i
theorem pNam_ge {op : Int32} {nms : List (List Int32)} {i j : Nat} {nm : List Int32} (h : pNam f n op nms i = some (nm, j)) : i ≤ j := by
  unfold pNam at h
  split at h
  · cases h; exact Nat.le_refl _
  · split at h
    · cases h
    · split at h
      · cases h
      · next p hp =>
        split at h
        · cases h
        · split at h
          · cases h
          · cases h
            have e1 := (qtQ_ok hp).2.2
            have e2 := (skipH_le f n i).1
            have e3 := (skipH_le f n p.2).1
            omega
theorem mem_eq (hbf : byR f) (hn : n ≤ 4096) {β : Type} {pv : Nat → Option (β × Nat)} (hpv : ∀ i x j, pv i = some (x, j) → i ≤ j) {op : Int32} (hop : op = 91 ∨ op = 123) : ∀ (s m m2 i : Nat) (acc : List (List Int32 × β)), n - i ≤ s → s < m → s < m2 →
    (match jMem f n pv (decide (op = 123)) m i acc with
      | none => none
      | some z => if hereV f n z.2 = clo op then some (z.1, z.2 + 1) else none) = pIn f n pv op m2 i acc := by
  have hc44 : ¬ clo op = 44 := by rcases hop with e | e <;> rw [e] <;> decide
  intro s
  induction s with
  | zero =>
    intro m m2 i acc h1 h2 h3
    obtain ⟨m, rfl⟩ : ∃ z, m = z + 1 := ⟨m - 1, by omega⟩
    obtain ⟨m2, rfl⟩ : ∃ z, m2 = z + 1 := ⟨m2 - 1, by omega⟩
    have hnm := nm_eq hbf hn hop (acc.map (·.1)) i
    cases hN : pNam f n op (acc.map (·.1)) i with
    | none => rw [hN] at hnm; rw [jMem_n hnm, pIn_n hN]
    | some z =>
      obtain ⟨nm, j⟩ := z
      rw [hN] at hnm
      cases hV : pv j with
      | none => rw [jMem_v hnm hV, pIn_v hN hV]
      | some w =>
        obtain ⟨x, j2⟩ := w
        have q1 := pNam_ge hN
        have q2 := hpv _ _ _ hV
        have e44 : ¬ hereV f n j2 = 44 := fun h => by have := here_lc h (by decide); omega
        rw [jMem_e hnm hV e44]
        simp only []
        by_cases hc : hereV f n j2 = clo op
        · rw [if_pos hc, pIn_end hN hV hc]
        · rw [if_neg hc, pIn_bad hN hV hc e44]
  | succ s ih =>
    intro m m2 i acc h1 h2 h3
    obtain ⟨m, rfl⟩ : ∃ z, m = z + 1 := ⟨m - 1, by omega⟩
    obtain ⟨m2, rfl⟩ : ∃ z, m2 = z + 1 := ⟨m2 - 1, by omega⟩
    have hnm := nm_eq hbf hn hop (acc.map (·.1)) i
    cases hN : pNam f n op (acc.map (·.1)) i with
    | none => rw [hN] at hnm; rw [jMem_n hnm, pIn_n hN]
    | some z =>
      obtain ⟨nm, j⟩ := z
      rw [hN] at hnm
      cases hV : pv j with
      | none => rw [jMem_v hnm hV, pIn_v hN hV]
      | some w =>
        obtain ⟨x, j2⟩ := w
        have q1 := pNam_ge hN
        have q2 := hpv _ _ _ hV
        by_cases e44 : hereV f n j2 = 44
        · have hl := here_lc e44 (by decide)
          rw [jMem_s hnm hV e44, pIn_step hN hV (fun h => hc44 (h.symm.trans e44)) e44]
          exact ih m m2 (j2 + 1) _ (by omega) (by omega) (by omega)
        · rw [jMem_e hnm hV e44]
          simp only []
          by_cases hc : hereV f n j2 = clo op
          · rw [if_pos hc, pIn_end hN hV hc]
          · rw [if_neg hc, pIn_bad hN hV hc e44]
theorem clo_eq {op : Int32} (hop : op = 91 ∨ op = 123) : jclo (decide (op = 123)) = clo op := by rcases hop with e | e <;> rw [e] <;> rfl
theorem ins_eq (hbf : byR f) (hn : n ≤ 4096) {β : Type} {pv : Nat → Option (β × Nat)} (hpv : ∀ i x j, pv i = some (x, j) → i ≤ j) {op : Int32} (hop : op = 91 ∨ op = 123) (i : Nat) : jIns f n pv (decide (op = 123)) i = pInside f n pv op i := by
  unfold jIns pInside
  rw [skipBH hbf, clo_eq hop]
  by_cases h : hereV f n (skipH f n (i + 1)) = clo op
  · rw [if_pos h, if_pos h]
  · rw [if_neg h, if_neg h]
    exact mem_eq hbf hn hpv hop n 4097 (n + 1) (skipH f n (i + 1)) [] (by omega) (by omega) (by omega)
theorem pIn_ge {β : Type} {pv : Nat → Option (β × Nat)} (hpv : ∀ i x j, pv i = some (x, j) → i ≤ j) {op : Int32} : ∀ (m i : Nat) (acc ks : List (List Int32 × β)) (j : Nat), pIn f n pv op m i acc = some (ks, j) → i ≤ j := by
  intro m
  induction m with
  | zero => intro i acc ks j h; cases h
  | succ m ih =>
    intro i acc ks j h
    cases hN : pNam f n op (acc.map (·.1)) i with
    | none => rw [pIn_n hN] at h; cases h
    | some z =>
      obtain ⟨nm, j1⟩ := z
      cases hV : pv j1 with
      | none => rw [pIn_v hN hV] at h; cases h
      | some w =>
        obtain ⟨x, j2⟩ := w
        have q1 := pNam_ge hN
        have q2 := hpv _ _ _ hV
        by_cases hc : hereV f n j2 = clo op
        · rw [pIn_end hN hV hc] at h; cases h; omega
        · by_cases e44 : hereV f n j2 = 44
          · rw [pIn_step hN hV hc e44] at h
            have := ih _ _ _ _ h
            omega
          · rw [pIn_bad hN hV hc e44] at h; cases h
theorem pLeaf_ge {i j : Nat} {x : LF} (h : pLeaf f n i = some (x, j)) : i ≤ j := by
  unfold pLeaf at h
  split at h
  · split at h
    · cases h; omega
    · cases h
  · split at h
    · split at h
      · cases h; omega
      · cases h
    · split at h
      · split at h
        · cases h; omega
        · cases h
      · split at h
        · split at h
          · next p hp => cases h; have := (qtQ_ok hp).2.2; omega
          · cases h
        · split at h
          · split at h
            · next p hp =>
              cases h
              have h9 : numM f n i = some (p.1, p.2) := hp
              have := (num_ok h9).2
              omega
            · cases h
          · cases h
theorem pV_ge : ∀ (r i : Nat) (x : JVt r) (j : Nat), pV f n r i = some (x, j) → i ≤ j := by
  intro r
  have leaf : ∀ (r i : Nat) (x : JVt r) (j : Nat), (pLeaf f n (skipH f n i)).map (fun p => (jleaf r p.1, skipH f n p.2)) = some (x, j) → i ≤ j := fun r i x j h => by
    cases hl : pLeaf f n (skipH f n i) with
    | none => rw [hl] at h; cases h
    | some z =>
      obtain ⟨y, j1⟩ := z
      rw [hl] at h
      have h : some (jleaf r y, skipH f n j1) = some (x, j) := h
      have e := (Prod.mk.inj (Option.some.inj h)).2
      have q1 := pLeaf_ge hl
      have q2 := (skipH_le f n i).1
      have q3 := (skipH_le f n j1).1
      omega
  induction r with
  | zero => intro i x j h; exact leaf 0 i x j h
  | succ r ih =>
    intro i x j h
    by_cases hb : hereV f n (skipH f n i) = 91 ∨ hereV f n (skipH f n i) = 123
    · have h : (if _ then _ else _) = some (x, j) := h
      rw [if_pos hb] at h
      cases hi : pInside f n (pV f n r) (hereV f n (skipH f n i)) (skipH f n i) with
      | none => rw [hi] at h; cases h
      | some z =>
        obtain ⟨ks, j1⟩ := z
        rw [hi] at h
        have e := (Prod.mk.inj (Option.some.inj h)).2
        have e : skipH f n j1 = j := e
        have q2 := (skipH_le f n i).1
        have q3 := (skipH_le f n j1).1
        have q4 := (skipH_le f n (skipH f n i + 1)).1
        have q1 : skipH f n i ≤ j1 := by
          unfold pInside at hi
          split at hi
          · cases hi; omega
          · have := pIn_ge ih _ _ _ _ _ hi; omega
        omega
    · rw [pV_leaf (r + 1) hb] at h
      exact leaf (r + 1) i x j h
theorem v_eq (hbf : byR f) (hn : n ≤ 4096) : ∀ r : Nat, jV f n r = pV f n r := by
  intro r
  induction r with
  | zero =>
    funext i
    by_cases hb : hereV f n (skipH f n i) = 91 ∨ hereV f n (skipH f n i) = 123
    · rw [jV_deep (by rw [skipBH hbf]; exact hb)]
      have e : pLeaf f n (skipH f n i) = none := by
        unfold pLeaf
        rcases hb with e | e <;> rw [e] <;> rfl
      show none = (pLeaf f n (skipH f n i)).map _
      rw [e]
      rfl
    · rw [jV_leaf (by rw [skipBH hbf]; exact hb), pV_leaf 0 hb, skipBH hbf, leaf_eq hbf hn _ hb]
      cases pLeaf f n (skipH f n i) with
      | none => rfl
      | some z => exact congrArg some (Prod.ext rfl (skipBH hbf _))
  | succ r ih =>
    funext i
    by_cases hb : hereV f n (skipH f n i) = 91 ∨ hereV f n (skipH f n i) = 123
    · show (if _ then _ else _) = (if _ then _ else _)
      rw [skipBH hbf, if_pos hb, if_pos hb, ih, ins_eq hbf hn (fun i x j h => pV_ge r i x j h) hb]
      cases pInside f n (pV f n r) (hereV f n (skipH f n i)) (skipH f n i) with
      | none => rfl
      | some z => exact congrArg some (Prod.ext rfl (skipBH hbf _))
    · rw [jV_leaf (by rw [skipBH hbf]; exact hb), pV_leaf (r + 1) hb, skipBH hbf, leaf_eq hbf hn _ hb]
      cases pLeaf f n (skipH f n i) with
      | none => rfl
      | some z => exact congrArg some (Prod.ext rfl (skipBH hbf _))
/-- class and reference read the same documents -/
theorem jR_pR (hbf : byR f) (hn : n ≤ 4096) : jR f n = pR f n := by
  unfold jR pR
  rw [v_eq hbf hn]
  cases pV f n 32 0 <;> rfl
end Docs
