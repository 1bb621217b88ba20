theorem i32_lit {x : Int32} {w : Nat} (h0 : 0 ≤ x) (h : x ≤ nI w) (hw : w < 2 ^ 31) : ∃ m, m ≤ w ∧ x = nI m := by
  have e : (nI w).toInt = (w : Int) := by
    unfold nI
    rw [Int32.toInt_ofNat', show Int32.size = 2 ^ 32 from rfl]
    apply Int.bmod_eq_of_le <;> omega
  rw [Int32.le_iff_toInt_le] at h0 h
  rw [e] at h
  have h0 : 0 ≤ x.toInt := h0
  refine ⟨x.toInt.toNat, by omega, ?_⟩
  apply Int32.toInt_inj.mp
  unfold nI
  rw [Int32.toInt_ofNat', show Int32.size = 2 ^ 32 from rfl]
  rw [Int.bmod_eq_of_le] <;> omega
theorem nI_bv {w : Nat} (hw : w < 2 ^ 32) : (nI w).toBitVec.toNat = w := by
  show (BitVec.ofNat 32 w).toNat = w
  rw [BitVec.toNat_ofNat]
  exact Nat.mod_eq_of_lt hw
theorem shr_nI {w : Nat} (s : Int32) (k : Nat) (hw : w < 65536) (hk : ((s &&& 31).toBitVec.smod 32).toNat = k) : nI w >>> (s &&& 31) &&& 15 = nI (w / 2 ^ k % 16) := by
  apply Int32.toBitVec_inj.mp
  apply BitVec.eq_of_toNat_eq
  show ((nI w >>> (s &&& 31)).toBitVec &&& 15#32).toNat = _
  rw [BitVec.toNat_and, show (15#32).toNat = 2 ^ 4 - 1 from rfl, Nat.and_two_pow_sub_one_eq_mod, Int32.toBitVec_shiftRight]
  rw [BitVec.sshiftRight_eq', hk]
  rw [BitVec.sshiftRight_eq_of_msb_false (by rw [BitVec.msb_eq_decide, nI_bv (by omega)]; simp; omega)]
  rw [BitVec.toNat_ushiftRight, nI_bv (by omega), Nat.shiftRight_eq_div_pow, nI_bv (Nat.lt_of_lt_of_le (Nat.mod_lt _ (by decide)) (by decide))]
theorem nI_add' (a b : Nat) : nI a + nI b = nI (a + b) := (Int32.ofNat_add a b).symm
theorem nI_mul' (a b : Nat) : nI a * nI b = nI (a * b) := (Int32.ofNat_mul a b).symm
theorem hexV_d {m : Nat} (hm : m < 16) : hexV (mtx 6 m &&& 255) = nI m := by
  match m, hm with
  | 0, _ => decide
  | 1, _ => decide
  | 2, _ => decide
  | 3, _ => decide
  | 4, _ => decide
  | 5, _ => decide
  | 6, _ => decide
  | 7, _ => decide
  | 8, _ => decide
  | 9, _ => decide
  | 10, _ => decide
  | 11, _ => decide
  | 12, _ => decide
  | 13, _ => decide
  | 14, _ => decide
  | 15, _ => decide
  | n + 16, h => exact absurd h (by omega)
theorem hexV_hxD {y : Int32} : hexV (hxD y) = y &&& 15 := by
  obtain ⟨m, hm, e⟩ := and15 y
  unfold hxD
  rw [e, nI_clamp (by omega)]
  exact hexV_d hm
theorem nI_nn {m : Nat} (hm : m < 2 ^ 31) : ¬ nI m < 0 := by
  rw [Int32.lt_iff_toInt_lt]
  have e : (nI m).toInt = (m : Int) := by
    unfold nI
    rw [Int32.toInt_ofNat', show Int32.size = 2 ^ 32 from rfl]
    apply Int.bmod_eq_of_le <;> omega
  rw [e]
  show ¬ (m : Int) < 0
  omega
/-- the text holds l from i on -/
def At (f : Nat → Int32) (n : Nat) : Nat → List Int32 → Prop
  | _, [] => True
  | i, x :: l => hereV f n i = x ∧ f i = x ∧ At f n (i + 1) l
theorem At_app {f : Nat → Int32} {n : Nat} : ∀ {l m : List Int32} {i : Nat}, At f n i (l ++ m) ↔ At f n i l ∧ At f n (i + l.length) m := by
  intro l
  induction l with
  | nil => intro m i; simp [At]
  | cons x l ih =>
    intro m i
    simp only [List.cons_append, At, ih, List.length_cons]
    rw [show i + (l.length + 1) = i + 1 + l.length by omega]
    constructor
    · rintro ⟨a, b, c, d⟩; exact ⟨⟨a, b, c⟩, d⟩
    · rintro ⟨⟨a, b, c⟩, d⟩; exact ⟨a, b, c, d⟩
theorem hexM_pr {f : Nat → Int32} {n j w : Nat} (hw : w < 65536) (h : At f n j [hxD (nI w >>> (12 &&& 31)), hxD (nI w >>> (8 &&& 31)), hxD (nI w >>> (4 &&& 31)), hxD (nI w >>> (0 &&& 31))]) : hexM f n 4 j 0 = (nI w, j + 4) := by
  obtain ⟨h1, -, h2, -, h3, -, h4, -, -⟩ := h
  have e1 : hexV (hereV f n j) = nI (w / 4096 % 16) := by rw [h1, hexV_hxD]; exact shr_nI 12 12 hw (by decide)
  have e2 : hexV (hereV f n (j + 1)) = nI (w / 256 % 16) := by rw [h2, hexV_hxD]; exact shr_nI 8 8 hw (by decide)
  have e3 : hexV (hereV f n (j + 1 + 1)) = nI (w / 16 % 16) := by rw [h3, hexV_hxD]; exact shr_nI 4 4 hw (by decide)
  have e4 : hexV (hereV f n (j + 1 + 1 + 1)) = nI (w % 16) := by rw [h4, hexV_hxD]; have := shr_nI (w := w) 0 0 hw (by decide); rw [this]; congr 1; omega
  simp only [hexM]
  rw [e1, if_neg (nI_nn (by omega)), e2, if_neg (nI_nn (by omega)), e3, if_neg (nI_nn (by omega)), e4, if_neg (nI_nn (by omega))]
  rw [show (16 : Int32) = nI 16 from rfl, show (0 : Int32) = nI 0 from rfl, nI_mul', nI_add', nI_mul', nI_add', nI_mul', nI_add', nI_mul', nI_add']
  refine Prod.ext ?_ (by show j + 1 + 1 + 1 + 1 = j + 4; omega)
  show nI _ = nI w
  congr 1
  omega
abbrev hiU (u : Int32) : Prop := 55296 ≤ u ∧ u ≤ 56319
abbrev loU (u : Int32) : Prop := 56320 ≤ u ∧ u ≤ 57343
/-- units that a text may hold: pairs are whole -/
def uOK : List Int32 → Prop
  | [] => True
  | [u] => 0 ≤ u ∧ u ≤ 65535 ∧ ¬ loU u ∧ ¬ hiU u
  | u :: v :: vs => 0 ≤ u ∧ u ≤ 65535 ∧ ¬ loU u ∧ ((hiU u ∧ loU v ∧ uOK vs) ∨ (¬ hiU u ∧ uOK (v :: vs)))
/-- how one unit that is written is read -/
theorem esc_pr {f : Nat → Int32} {n i : Nat} {u : Int32} (h0 : 0 ≤ u) (h1 : u ≤ 65535) (hs : ¬ (u = 34 ∨ u = 92)) (hk : escK u < 0) (hp : u < 32 ∨ ¬ u ≤ 126) (h : At f n i (unB 34 u)) : hereV f n i = 92 ∧ escM f n 34 i = (u, i + 6) ∧ (unB 34 u).length = 6 ∧ f (i + 1) = 117 ∧ i + 1 < n := by
  have e : unB 34 u = [92, 117, hxD (u >>> (12 &&& 31)), hxD (u >>> (8 &&& 31)), hxD (u >>> (4 &&& 31)), hxD (u >>> (0 &&& 31))] := by
    unfold unB
    rw [if_neg hs, if_neg (fun q => q hk), if_pos hp]
  rw [e] at h
  obtain ⟨a1, -, a2, a3, a4⟩ := h
  obtain ⟨w, hw, rfl⟩ := i32_lit h0 (show u ≤ nI 65535 from h1) (by decide)
  refine ⟨a1, ?_, by rw [e]; rfl, a3, here_in a2 (by decide)⟩
  unfold escM
  rw [a2, if_neg (by decide), if_neg (by decide), if_pos rfl]
  exact hexM_pr (by omega) a4
theorem i32_or (a b : Int32) : a < b ∨ b ≤ a := by
  rw [Int32.lt_iff_toInt_lt, Int32.le_iff_toInt_le]; omega
theorem qt_one {f : Nat → Int32} {n i k : Nat} {u : Int32} {acc : List Int32} (h0 : 0 ≤ u) (h1 : u ≤ 65535) (hl : ¬ loU u) (hh : ¬ hiU u) (h : At f n i (unB 34 u)) : qtM f n 34 (k + 1) i acc = qtM f n 34 k (i + (unB 34 u).length) (acc ++ [u]) := by
  have hhi : u < 55296 ∨ ¬ u ≤ 56319 := by
    rcases i32_or u 55296 with q | q
    · exact Or.inl q
    · exact Or.inr (fun q2 => hh ⟨q, q2⟩)
  have hlo : ¬ (¬ u < 56320 ∧ ¬ 57343 < u) := fun q => hl ⟨Int32.not_lt.mp q.1, Int32.not_lt.mp q.2⟩
  by_cases hs : u = 34 ∨ u = 92
  · have e : unB 34 u = [92, u] := by unfold unB; rw [if_pos hs]
    rw [e] at h ⊢
    obtain ⟨a1, -, a2, -, -⟩ := h
    have e2 : escM f n 34 i = (u, i + 2) := by
      unfold escM
      rw [a2, if_pos (by rcases hs with q | q; exact Or.inl q; exact Or.inr (Or.inl q))]
    simp only [qtM]
    rw [a1, if_neg (by decide), if_neg (by decide), if_neg (by decide), e2]
    simp only []
    rw [if_neg (fun q => q h0), if_neg hlo, if_pos hhi]
    rfl
  · by_cases hk : escK u < 0
    · by_cases hp : u < 32 ∨ ¬ u ≤ 126
      · obtain ⟨a1, a2, a3, -, -⟩ := esc_pr h0 h1 hs hk hp h
        simp only [qtM]
        rw [a1, if_neg (by decide), if_neg (by decide), if_neg (by decide), a2]
        simp only []
        rw [if_neg (fun q => q h0), if_neg hlo, if_pos hhi, a3]
      · have e : unB 34 u = [u] := by unfold unB; rw [if_neg hs, if_neg (fun q => q hk), if_neg hp]
        rw [e] at h ⊢
        obtain ⟨a1, -, -⟩ := h
        simp only [qtM]
        rw [a1, if_neg (fun q => hs (Or.inl q)), if_neg hp, if_pos (fun q => hs (Or.inr q))]
        rfl
    · have hc : u = 8 ∨ u = 9 ∨ u = 10 ∨ u = 12 ∨ u = 13 := by
        refine Classical.byContradiction (fun q => hk ?_)
        simp only [not_or] at q
        unfold escK
        rw [if_neg q.1, if_neg q.2.1, if_neg q.2.2.1, if_neg q.2.2.2.1, if_neg q.2.2.2.2]
        decide
      rcases hc with rfl | rfl | rfl | rfl | rfl
      · obtain ⟨a1, -, a2, -, -⟩ := (show At f n i [92, 98] from h)
        have e2 : escM f n 34 i = (8, i + 2) := by unfold escM; rw [a2, if_neg (by decide), if_pos (by decide)]; rfl
        simp only [qtM]
        rw [a1, if_neg (by decide), if_neg (by decide), if_neg (by decide), e2]
        simp only []
        rw [if_neg (by decide), if_neg (by decide), if_pos (by decide)]; rfl
      · obtain ⟨a1, -, a2, -, -⟩ := (show At f n i [92, 116] from h)
        have e2 : escM f n 34 i = (9, i + 2) := by unfold escM; rw [a2, if_neg (by decide), if_pos (by decide)]; rfl
        simp only [qtM]
        rw [a1, if_neg (by decide), if_neg (by decide), if_neg (by decide), e2]
        simp only []
        rw [if_neg (by decide), if_neg (by decide), if_pos (by decide)]; rfl
      · obtain ⟨a1, -, a2, -, -⟩ := (show At f n i [92, 110] from h)
        have e2 : escM f n 34 i = (10, i + 2) := by unfold escM; rw [a2, if_neg (by decide), if_pos (by decide)]; rfl
        simp only [qtM]
        rw [a1, if_neg (by decide), if_neg (by decide), if_neg (by decide), e2]
        simp only []
        rw [if_neg (by decide), if_neg (by decide), if_pos (by decide)]; rfl
      · obtain ⟨a1, -, a2, -, -⟩ := (show At f n i [92, 102] from h)
        have e2 : escM f n 34 i = (12, i + 2) := by unfold escM; rw [a2, if_neg (by decide), if_pos (by decide)]; rfl
        simp only [qtM]
        rw [a1, if_neg (by decide), if_neg (by decide), if_neg (by decide), e2]
        simp only []
        rw [if_neg (by decide), if_neg (by decide), if_pos (by decide)]; rfl
      · obtain ⟨a1, -, a2, -, -⟩ := (show At f n i [92, 114] from h)
        have e2 : escM f n 34 i = (13, i + 2) := by unfold escM; rw [a2, if_neg (by decide), if_pos (by decide)]; rfl
        simp only [qtM]
        rw [a1, if_neg (by decide), if_neg (by decide), if_neg (by decide), e2]
        simp only []
        rw [if_neg (by decide), if_neg (by decide), if_pos (by decide)]; rfl
theorem sur_hyp {u : Int32} (h : hiU u ∨ loU u) : 0 ≤ u ∧ u ≤ 65535 ∧ ¬ (u = 34 ∨ u = 92) ∧ escK u < 0 ∧ (u < 32 ∨ ¬ u ≤ 126) := by
  have hr : 55296 ≤ u ∧ u ≤ 57343 := by
    rcases h with h | h
    · exact ⟨h.1, Int32.le_trans h.2 (by decide)⟩
    · exact ⟨Int32.le_trans (by decide) h.1, h.2⟩
  have hne : ∀ c : Int32, c < 55296 → ¬ u = c := fun c hc e => absurd (e ▸ hr.1) (Int32.not_le.mpr hc)
  refine ⟨Int32.le_trans (by decide) hr.1, Int32.le_trans hr.2 (by decide), ?_, ?_, Or.inr (fun q => absurd (Int32.le_trans hr.1 q) (by decide))⟩
  · rintro (q | q)
    · exact hne 34 (by decide) q
    · exact hne 92 (by decide) q
  · unfold escK
    rw [if_neg (hne 8 (by decide)), if_neg (hne 9 (by decide)), if_neg (hne 10 (by decide)), if_neg (hne 12 (by decide)), if_neg (hne 13 (by decide))]
    decide
theorem qt_two {f : Nat → Int32} {n i k : Nat} {u v : Int32} {acc : List Int32} (hu : hiU u) (hv : loU v) (h : At f n i (unB 34 u ++ unB 34 v)) : qtM f n 34 (k + 1) i acc = qtM f n 34 k (i + (unB 34 u ++ unB 34 v).length) (acc ++ [u] ++ [v]) := by
  obtain ⟨hA, hB⟩ := At_app.mp h
  obtain ⟨u1, u2, u3, u4, u5⟩ := sur_hyp (Or.inl hu)
  obtain ⟨v1, v2, v3, v4, v5⟩ := sur_hyp (Or.inr hv)
  obtain ⟨a1, a2, a3, -, -⟩ := esc_pr u1 u2 u3 u4 u5 hA
  rw [a3] at hB
  obtain ⟨b1, b2, b3, b4, b5⟩ := esc_pr v1 v2 v3 v4 v5 hB
  have b0 := here_in b1 (by decide)
  simp only [qtM]
  rw [a1, if_neg (by decide), if_neg (by decide), if_neg (by decide), a2]
  simp only []
  rw [if_neg (fun q => q u1), if_neg (fun q => q.1 (by exact Int32.lt_of_le_of_lt hu.2 (by decide))), if_neg (fun q => q.elim (fun q => absurd hu.1 (Int32.not_le.mpr q)) (fun q => q hu.2)), if_neg (fun q => q b0), if_neg (fun q => q b1), if_neg (fun q => q b5), if_neg (fun q => q b4), b2]
  simp only []
  rw [if_neg (fun q => q v1), if_neg (fun q => q.elim (fun q => absurd hv.1 (Int32.not_le.mpr q)) (fun q => q hv.2)), List.length_append, a3, b3]
/-- a text that is written is read again -/
theorem qt_pr {f : Nat → Int32} {n : Nat} : ∀ (us : List Int32) (i k : Nat) (acc : List Int32), uOK us → us.length < k → At f n i (us.flatMap (unB 34) ++ [34]) → qtM f n 34 k i acc = some (acc ++ us, i + (us.flatMap (unB 34)).length + 1)
  | [], i, k, acc, _, hk, h => by
    obtain ⟨k0, rfl⟩ : ∃ k0, k = k0 + 1 := ⟨k - 1, by omega⟩
    simp only [List.flatMap_nil, List.nil_append] at h
    simp only [qtM]
    rw [if_pos h.1, List.append_nil]; rfl
  | [u], i, k, acc, ho, hk, h => by
    obtain ⟨k0, rfl⟩ : ∃ k0, k = k0 + 1 := ⟨k - 1, by omega⟩
    have hf : [u].flatMap (unB 34) = unB 34 u := by simp
    rw [hf] at h ⊢
    obtain ⟨hA, hB⟩ := At_app.mp h
    rw [qt_one ho.1 ho.2.1 ho.2.2.1 ho.2.2.2 hA]
    have := qt_pr [] (i + (unB 34 u).length) k0 (acc ++ [u]) trivial (by simp at hk ⊢; omega) (by simpa using hB)
    rw [this]; simp
  | u :: v :: vs, i, k, acc, ho, hk, h => by
    obtain ⟨k0, rfl⟩ : ∃ k0, k = k0 + 1 := ⟨k - 1, by simp at hk; omega⟩
    obtain ⟨h0, h1, h2, h3⟩ := ho
    rcases h3 with ⟨g1, g2, g3⟩ | ⟨g1, g2⟩
    · have hf : (u :: v :: vs).flatMap (unB 34) = (unB 34 u ++ unB 34 v) ++ vs.flatMap (unB 34) := by simp
      rw [hf, List.append_assoc] at h
      obtain ⟨hA, hB⟩ := At_app.mp h
      rw [qt_two g1 g2 hA, qt_pr vs _ k0 _ g3 (by simp at hk; omega) hB, hf]
      simp; omega
    · have hf : (u :: v :: vs).flatMap (unB 34) = unB 34 u ++ (v :: vs).flatMap (unB 34) := by simp
      rw [hf, List.append_assoc] at h
      obtain ⟨hA, hB⟩ := At_app.mp h
      rw [qt_one h0 h1 h2 g1 hA, qt_pr (v :: vs) _ k0 _ g2 (by simp at hk ⊢; omega) hB, hf]
      simp; omega
/-- four digits that are read: what they may say -/
theorem hexV_r (x : Int32) : hexV x < 0 ∨ ∃ m, m < 16 ∧ hexV x = nI m := by
  unfold hexV
  have key : ∀ (a b : Int32) (w : Nat), ¬ x < a → ¬ b < x → (b - a).toInt = (w : Int) → w < 16 → (b.toInt - a.toInt = (w : Int)) → ∃ m, m < 16 ∧ x - a = nI m := by
    intro a b w h1 h2 h3 h4 h5
    rw [Int32.lt_iff_toInt_lt] at h1 h2
    refine ⟨(x.toInt - a.toInt).toNat, by omega, ?_⟩
    apply Int32.toInt_inj.mp
    unfold nI
    rw [Int32.toInt_sub, Int32.toInt_ofNat', show Int32.size = 2 ^ 32 from rfl]
    congr 1
    omega
  split
  · next h => exact Or.inr (key 48 57 9 h.1 h.2 (by decide) (by decide) (by decide))
  · split
    · next h =>
      obtain ⟨m, hm, e⟩ := key 97 102 5 h.1 h.2 (by decide) (by decide) (by decide)
      have hm6 : m ≤ 5 := by
        have h2 := h.2
        rw [Int32.lt_iff_toInt_lt] at h2
        have h1 := h.1
        rw [Int32.lt_iff_toInt_lt] at h1
        have e2 := congrArg Int32.toInt e
        rw [Int32.toInt_sub] at e2
        unfold nI at e2
        rw [Int32.toInt_ofNat', show Int32.size = 2 ^ 32 from rfl] at e2
        rw [Int.bmod_eq_of_le, Int.bmod_eq_of_le] at e2
        · have a1 : (97 : Int32).toInt = 97 := rfl
          have a2 : (102 : Int32).toInt = 102 := rfl
          omega
        · omega
        · omega
        · have a1 : (97 : Int32).toInt = 97 := rfl
          have a2 : (102 : Int32).toInt = 102 := rfl
          omega
        · have a1 : (97 : Int32).toInt = 97 := rfl
          have a2 : (102 : Int32).toInt = 102 := rfl
          omega
      exact Or.inr ⟨m + 10, by omega, by rw [e, show (10 : Int32) = nI 10 from rfl, nI_add']⟩
    · split
      · next h =>
        obtain ⟨m, hm, e⟩ := key 65 70 5 h.1 h.2 (by decide) (by decide) (by decide)
        have hm6 : m ≤ 5 := by
          have h2 := h.2
          rw [Int32.lt_iff_toInt_lt] at h2
          have h1 := h.1
          rw [Int32.lt_iff_toInt_lt] at h1
          have e2 := congrArg Int32.toInt e
          rw [Int32.toInt_sub] at e2
          unfold nI at e2
          rw [Int32.toInt_ofNat', show Int32.size = 2 ^ 32 from rfl] at e2
          rw [Int.bmod_eq_of_le, Int.bmod_eq_of_le] at e2
          · have a1 : (65 : Int32).toInt = 65 := rfl
            have a2 : (70 : Int32).toInt = 70 := rfl
            omega
          · omega
          · omega
          · have a1 : (65 : Int32).toInt = 65 := rfl
            have a2 : (70 : Int32).toInt = 70 := rfl
            omega
          · have a1 : (65 : Int32).toInt = 65 := rfl
            have a2 : (70 : Int32).toInt = 70 := rfl
            omega
        exact Or.inr ⟨m + 10, by omega, by rw [e, show (10 : Int32) = nI 10 from rfl, nI_add']⟩
      · exact Or.inl (by decide)
theorem hexM_r {f : Nat → Int32} {n : Nat} : ∀ (k j w b : Nat), w < b → (hexM f n k j (nI w)).1 = -1 ∨ ∃ w', w' < b * 16 ^ k ∧ hexM f n k j (nI w) = (nI w', j + k) := by
  intro k
  induction k with
  | zero => intro j w b h; exact Or.inr ⟨w, by simpa using h, rfl⟩
  | succ k ih =>
    intro j w b h
    simp only [hexM]
    rcases hexV_r (hereV f n j) with hn | ⟨m, hm, e⟩
    · rw [if_pos hn]; exact Or.inl rfl
    · rw [e]
      by_cases hneg : nI m < 0
      · rw [if_pos hneg]; exact Or.inl rfl
      · rw [if_neg hneg, show (16 : Int32) = nI 16 from rfl, nI_mul', nI_add']
        rcases ih (j + 1) (16 * w + m) (16 * b) (by omega) with h2 | ⟨w', h2, h3⟩
        · exact Or.inl h2
        · refine Or.inr ⟨w', by rw [Nat.pow_succ]; rw [show b * (16 ^ k * 16) = 16 * b * 16 ^ k by rw [Nat.mul_comm (16 ^ k) 16, ← Nat.mul_assoc, Nat.mul_comm b 16]]; exact h2, by rw [h3, show j + 1 + k = j + (k + 1) by omega]⟩
theorem nI_le' {a b : Nat} (h : a ≤ b) (hb : b < 2 ^ 31) : nI a ≤ nI b := by
  rw [Int32.le_iff_toInt_le]
  unfold nI
  rw [Int32.toInt_ofNat', Int32.toInt_ofNat', show Int32.size = 2 ^ 32 from rfl, Int.bmod_eq_of_le, Int.bmod_eq_of_le] <;> omega
theorem unB_len (q u : Int32) : (unB q u).length ≤ 6 := by
  unfold unB
  split
  · show 2 ≤ 6; decide
  · split
    · show 2 ≤ 6; decide
    · split
      · show 6 ≤ 6; decide
      · show 1 ≤ 6; decide
/-- an escape that is read: its unit, and that it is written no longer -/
theorem escM_ok {f : Nat → Int32} {n i : Nat} (h : 0 ≤ (escM f n 34 i).1) : (escM f n 34 i).1 ≤ 65535 ∧ i + (unB 34 (escM f n 34 i).1).length ≤ (escM f n 34 i).2 := by
  unfold escM at h ⊢
  by_cases h1 : hereV f n (i + 1) = 34 ∨ hereV f n (i + 1) = 92 ∨ hereV f n (i + 1) = 47
  · rw [if_pos h1] at h ⊢
    rcases h1 with e | e | e <;> rw [e]
    · exact ⟨(by decide : (34 : Int32) ≤ 65535), Nat.le_refl (i + 2)⟩
    · exact ⟨(by decide : (92 : Int32) ≤ 65535), Nat.le_refl (i + 2)⟩
    · exact ⟨(by decide : (47 : Int32) ≤ 65535), Nat.le_succ (i + 1)⟩
  · rw [if_neg h1] at h ⊢
    by_cases h2 : ¬ bfI (hereV f n (i + 1)) < 0
    · rw [if_pos h2] at h ⊢
      have hix : ∀ z : Int32, ixV z = 8 ∨ ixV z = 12 ∨ ixV z = 10 ∨ ixV z = 13 ∨ ixV z = 9 := by
        intro z
        unfold ixV
        repeat' split
        all_goals simp
      rcases hix (bfI (hereV f n (i + 1))) with e | e | e | e | e <;> simp only [e] <;> exact ⟨by decide, Nat.le_refl _⟩
    · rw [if_neg h2] at h ⊢
      by_cases h3 : hereV f n (i + 1) = 117
      · rw [if_pos h3] at h ⊢
        rcases hexM_r (f := f) (n := n) 4 (i + 2) 0 1 (by decide) with e | ⟨w, hw, e⟩
        · rw [show nI 0 = 0 from rfl] at e
          rw [e] at h
          exact absurd h (by decide)
        · rw [show nI 0 = 0 from rfl] at e
          rw [e]
          have := unB_len 34 (nI w)
          exact ⟨nI_le' (b := 65535) (by omega) (by decide), by show i + (unB 34 (nI w)).length ≤ i + 2 + 4; omega⟩
      · rw [if_neg h3] at h
        exact absurd (show (0 : Int32) ≤ -1 from h) (by decide)
theorem unB_1 {u : Int32} (h1 : ¬ (u < 32 ∨ ¬ u ≤ 126)) (h2 : ¬ u = 34) (h3 : ¬ u = 92) : unB 34 u = [u] := by
  have hne : ∀ c : Int32, c < 32 → ¬ u = c := fun c hc e => h1 (Or.inl (e ▸ hc))
  have hk : escK u < 0 := by
    unfold escK
    rw [if_neg (hne 8 (by decide)), if_neg (hne 9 (by decide)), if_neg (hne 10 (by decide)), if_neg (hne 12 (by decide)), if_neg (hne 13 (by decide))]
    decide
  unfold unB
  rw [if_neg (fun q => q.elim h2 h3), if_neg (fun q => q hk), if_neg h1]
theorem uOK_cons {u : Int32} {us : List Int32} (h0 : 0 ≤ u) (h1 : u ≤ 65535) (h2 : ¬ loU u) (h3 : ¬ hiU u) (h : uOK us) : uOK (u :: us) := by
  cases us with
  | nil => exact ⟨h0, h1, h2, h3⟩
  | cons v vs => exact ⟨h0, h1, h2, Or.inr ⟨h3, h⟩⟩
/-- a text that is read: its units, and that it is written no longer -/
theorem qt_ok {f : Nat → Int32} {n : Nat} : ∀ (k i j : Nat) (acc us : List Int32), qtM f n 34 k i acc = some (us, j) → ∃ vs, us = acc ++ vs ∧ uOK vs ∧ i + (vs.flatMap (unB 34)).length + 1 ≤ j := by
  intro k
  induction k with
  | zero => intro i j acc us h; simp [qtM] at h
  | succ k ih =>
    intro i j acc us h
    simp only [qtM] at h
    by_cases c1 : hereV f n i = 34
    · rw [if_pos c1] at h
      cases h
      exact ⟨[], by simp, trivial, Nat.le_refl _⟩
    rw [if_neg c1] at h
    by_cases c2 : hereV f n i < 32 ∨ ¬ hereV f n i ≤ 126
    · rw [if_pos c2] at h; cases h
    rw [if_neg c2] at h
    by_cases c3 : ¬ hereV f n i = 92
    · rw [if_pos c3] at h
      obtain ⟨vs, e1, e2, e3⟩ := ih _ _ _ _ h
      have g0 : ¬ hereV f n i < 32 := fun q => c2 (Or.inl q)
      have g1 : hereV f n i ≤ 126 := Classical.byContradiction (fun q => c2 (Or.inr q))
      refine ⟨hereV f n i :: vs, by rw [e1]; simp, uOK_cons (Int32.le_trans (by decide) (Int32.not_lt.mp g0)) (Int32.le_trans g1 (by decide)) (fun q => absurd (Int32.le_trans q.1 g1) (by decide)) (fun q => absurd (Int32.le_trans q.1 g1) (by decide)) e2, ?_⟩
      rw [List.flatMap_cons, unB_1 c2 c1 c3]
      simp only [List.length_append, List.length_singleton]
      omega
    rw [if_neg c3] at h
    by_cases c4 : ¬ 0 ≤ (escM f n 34 i).1
    · rw [if_pos c4] at h; cases h
    rw [if_neg c4] at h
    have c4 := Classical.not_not.mp c4
    obtain ⟨g1, g2⟩ := escM_ok c4
    by_cases c5 : ¬ (escM f n 34 i).1 < 56320 ∧ ¬ 57343 < (escM f n 34 i).1
    · rw [if_pos c5] at h; cases h
    rw [if_neg c5] at h
    have hlo : ¬ loU (escM f n 34 i).1 := fun q => c5 ⟨Int32.not_lt.mpr q.1, Int32.not_lt.mpr q.2⟩
    by_cases c6 : (escM f n 34 i).1 < 55296 ∨ ¬ (escM f n 34 i).1 ≤ 56319
    · rw [if_pos c6] at h
      obtain ⟨vs, e1, e2, e3⟩ := ih _ _ _ _ h
      refine ⟨(escM f n 34 i).1 :: vs, by rw [e1]; simp, uOK_cons c4 g1 hlo (fun q => c6.elim (fun z => absurd q.1 (Int32.not_le.mpr z)) (fun z => z q.2)) e2, ?_⟩
      rw [List.flatMap_cons, List.length_append]
      omega
    rw [if_neg c6] at h
    have hhi : hiU (escM f n 34 i).1 := ⟨Int32.not_lt.mp (fun q => c6 (Or.inl q)), Classical.byContradiction (fun q => c6 (Or.inr q))⟩
    by_cases c7 : ¬ (escM f n 34 i).2 < n
    · rw [if_pos c7] at h; cases h
    rw [if_neg c7] at h
    by_cases c8 : ¬ hereV f n (escM f n 34 i).2 = 92
    · rw [if_pos c8] at h; cases h
    rw [if_neg c8] at h
    by_cases c9 : ¬ (escM f n 34 i).2 + 1 < n
    · rw [if_pos c9] at h; cases h
    rw [if_neg c9] at h
    by_cases c10 : ¬ f ((escM f n 34 i).2 + 1) = 117
    · rw [if_pos c10] at h; cases h
    rw [if_neg c10] at h
    by_cases c11 : ¬ 0 ≤ (escM f n 34 (escM f n 34 i).2).1
    · rw [if_pos c11] at h; cases h
    rw [if_neg c11] at h
    have c11 := Classical.not_not.mp c11
    obtain ⟨g3, g4⟩ := escM_ok c11
    by_cases c12 : (escM f n 34 (escM f n 34 i).2).1 < 56320 ∨ ¬ (escM f n 34 (escM f n 34 i).2).1 ≤ 57343
    · rw [if_pos c12] at h; cases h
    rw [if_neg c12] at h
    have hlo2 : loU (escM f n 34 (escM f n 34 i).2).1 := ⟨Int32.not_lt.mp (fun q => c12 (Or.inl q)), Classical.byContradiction (fun q => c12 (Or.inr q))⟩
    obtain ⟨vs, e1, e2, e3⟩ := ih _ _ _ _ h
    refine ⟨(escM f n 34 i).1 :: (escM f n 34 (escM f n 34 i).2).1 :: vs, by rw [e1]; simp, ⟨c4, g1, hlo, Or.inl ⟨hhi, hlo2, e2⟩⟩, ?_⟩
    rw [List.flatMap_cons, List.flatMap_cons, List.length_append, List.length_append]
    omega
theorem c16_id {u : Int32} (h0 : 0 ≤ u) (h1 : u ≤ 65535) : c16 u = u := by
  obtain ⟨w, hw, rfl⟩ := i32_lit h0 (show u ≤ nI 65535 from h1) (by decide)
  apply Int32.toBitVec_inj.mp
  apply BitVec.eq_of_toNat_eq
  show (((nI w).toUInt32 % 65536).toBitVec).toNat = (nI w).toBitVec.toNat
  have e : ((nI w).toUInt32).toNat = w := nI_bv (by omega)
  show ((nI w).toUInt32 % 65536).toNat = _
  rw [UInt32.toNat_mod, e, nI_bv (by omega)]
  show w % 65536 = w
  omega
theorem uOK_mem : ∀ {us : List Int32}, uOK us → ∀ u, u ∈ us → 0 ≤ u ∧ u ≤ 65535
  | [], _, u, hu => absurd hu (by simp)
  | [v], h, u, hu => by rw [List.mem_singleton.mp hu]; exact ⟨h.1, h.2.1⟩
  | v :: w :: vs, h, u, hu => by
    rcases List.mem_cons.mp hu with e | hu
    · rw [e]; exact ⟨h.1, h.2.1⟩
    · rcases h.2.2.2 with ⟨g1, g2, g3⟩ | ⟨g1, g2⟩
      · rcases List.mem_cons.mp hu with e | hu
        · rw [e]; exact ⟨Int32.le_trans (by decide) g2.1, Int32.le_trans g2.2 (by decide)⟩
        · exact uOK_mem g3 u hu
      · exact uOK_mem g2 u hu
theorem c16_map {us : List Int32} (h : uOK us) : us.map c16 = us := by
  have e : us.map c16 = us.map id := List.map_congr_left (fun u hu => c16_id (uOK_mem h u hu).1 (uOK_mem h u hu).2)
  rw [e, List.map_id]
theorem qtQ_ok {f : Nat → Int32} {n i j : Nat} {us : List Int32} (h : qtQ f n 34 i = some (us, j)) : uOK us ∧ us.map c16 = us ∧ i + (unL 34 us).length ≤ j := by
  unfold qtQ at h
  split at h
  · obtain ⟨vs, e1, e2, e3⟩ := qt_ok _ _ _ _ _ h
    rw [List.nil_append] at e1
    subst e1
    refine ⟨e2, c16_map e2, ?_⟩
    unfold unL
    simp only [List.length_append, List.length_singleton]
    omega
  · cases h
theorem qtQ_pr {f : Nat → Int32} {n i : Nat} {us : List Int32} (h : uOK us) (hl : us.length ≤ n + 12) (hA : At f n i (unL 34 us)) : qtQ f n 34 i = some (us, i + (unL 34 us).length) := by
  unfold unL at hA ⊢
  rw [List.append_assoc] at hA
  obtain ⟨h1, h2⟩ := At_app.mp hA
  unfold qtQ
  rw [if_pos h1.1, qt_pr us (i + 1) (n + 13) [] h (by omega) h2]
  simp only [List.nil_append, List.length_append, List.length_singleton]
  congr 2
  omega
theorem dgK_len (m : Nat) : ∀ c, (dgK m c).length = c := by
  intro c
  induction c with
  | zero => rfl
  | succ c ih => simp only [dgK, List.length_cons, ih]
theorem G_nat {a : Nat} (h : a < 2 ^ 62) : 0 < lg_cmp (Int64.ofNat a) 9007199254740991 ↔ 9007199254740991 < a := by
  rw [lg_cmp_gt, Int64.lt_iff_toInt_lt, toI_ofN h]
  show (9007199254740991 : Int) < (a : Int) ↔ _
  omega
theorem dig_64 {d : Nat} (hd : d < 10) : (48 + nI d : Int32).toInt64 = Int64.ofNat (48 + d) ∧ digH (48 + nI d) ∧ 0 ≤ (48 + nI d : Int32) ∧ (¬ d = 0 → ¬ (48 + nI d : Int32) = 48) := by
  match d, hd with
  | 0, _ => decide
  | 1, _ => decide
  | 2, _ => decide
  | 3, _ => decide
  | 4, _ => decide
  | 5, _ => decide
  | 6, _ => decide
  | 7, _ => decide
  | 8, _ => decide
  | 9, _ => decide
  | n + 10, h => exact absurd h (by omega)
theorem acc_64 (a d : Nat) : 10 * Int64.ofNat a + Int64.ofNat (48 + d) - 48 = Int64.ofNat (10 * a + d) := by
  rw [show (10 : Int64) = Int64.ofNat 10 from rfl, show (48 : Int64) = Int64.ofNat 48 from rfl, ← Int64.ofNat_mul, ← Int64.ofNat_add, show 10 * a + (48 + d) = 10 * a + d + 48 by omega, Int64.ofNat_add (10 * a + d) 48, Int64.add_sub_cancel]
theorem dgM_pr {f : Nat → Int32} {n m : Nat} (hm : m ≤ 9007199254740991) : ∀ (c i k : Nat), At f n i (dgK m c) → ¬ digH (hereV f n (i + c)) → c < k → dgM f n k i (Int64.ofNat (m / 10 ^ c)) = (Int64.ofNat m, i + c) := by
  intro c
  induction c with
  | zero =>
    intro i k _ h hk
    obtain ⟨k0, rfl⟩ : ∃ k0, k = k0 + 1 := ⟨k - 1, by omega⟩
    simp only [dgM]
    rw [if_neg (show ¬ digH (hereV f n i) from h), Nat.pow_zero, Nat.div_one]
    rfl
  | succ c ih =>
    intro i k hA h hk
    obtain ⟨k0, rfl⟩ : ∃ k0, k = k0 + 1 := ⟨k - 1, by omega⟩
    obtain ⟨h1, h2, h3⟩ := hA
    have hd : m / 10 ^ c % 10 < 10 := Nat.mod_lt _ (by decide)
    obtain ⟨d1, d2, d3, d4⟩ := dig_64 hd
    have hle : m / 10 ^ (c + 1) ≤ m := Nat.div_le_self _ _
    simp only [dgM]
    rw [h1, if_pos d2, if_neg (fun q => absurd ((G_nat (by omega)).mp q) (by omega)), d1, acc_64]
    have e : 10 * (m / 10 ^ (c + 1)) + m / 10 ^ c % 10 = m / 10 ^ c := by
      rw [Nat.pow_succ, ← Nat.div_div_eq_div_mul]
      omega
    rw [e, ih (i + 1) k0 h3 (by rw [show i + 1 + c = i + (c + 1) by omega]; exact h) (by omega), show i + 1 + c = i + (c + 1) by omega]
theorem tenK_sp {m : Nat} (hm : m < 10 ^ 16) : ∀ (f k : Nat), (k = 0 ∨ 1 ≤ m / 10 ^ k) → k ≤ 15 → 16 ≤ k + f → m / 10 ^ (tenK m f k) < 10 ∧ (tenK m f k = 0 ∨ 1 ≤ m / 10 ^ (tenK m f k)) ∧ tenK m f k ≤ 15 := by
  intro f
  induction f with
  | zero => intro k _ h1 h2; omega
  | succ f ih =>
    intro k h0 h1 h2
    simp only [tenK]
    by_cases h : 10 ≤ m / 10 ^ k
    · rw [if_pos h]
      have hk : k ≠ 15 := by
        intro e
        subst e
        have := Nat.div_lt_of_lt_mul (show m < 10 ^ 15 * 10 by omega)
        omega
      exact ih (k + 1) (Or.inr (by rw [Nat.pow_succ, ← Nat.div_div_eq_div_mul]; omega)) (by omega) (by omega)
    · rw [if_neg h]
      exact ⟨by omega, h0, h1⟩
theorem tenK_lt {m D : Nat} (hD : 1 ≤ D) (hm : m < 10 ^ D) : ∀ (f k : Nat), k ≤ D - 1 → tenK m f k ≤ D - 1 := by
  intro f
  induction f with
  | zero => intro k h; exact h
  | succ f ih =>
    intro k h
    simp only [tenK]
    split
    · next h10 =>
      have : k ≠ D - 1 := by
        intro e
        subst e
        have : m / 10 ^ (D - 1) < 10 := Nat.div_lt_of_lt_mul (by rw [← Nat.pow_succ, show (D - 1).succ = D by omega]; exact hm)
        omega
      exact ih (k + 1) (by omega)
    · exact h
theorem At_len {f : Nat → Int32} {n : Nat} : ∀ {l : List Int32} {i : Nat}, (∀ x, x ∈ l → 0 ≤ x) → At f n i l → l = [] ∨ i + l.length ≤ n := by
  intro l
  induction l with
  | nil => intro i _ _; exact Or.inl rfl
  | cons x l ih =>
    intro i h hA
    have h1 := here_in hA.1 (h x (by simp))
    rcases ih (fun y hy => h y (by simp [hy])) hA.2.2 with e | e
    · right; rw [e]; simp; omega
    · right; simp only [List.length_cons]; omega
theorem dgK_nn (m : Nat) : ∀ c x, x ∈ dgK m c → 0 ≤ x := by
  intro c
  induction c with
  | zero => intro x hx; simp [dgK] at hx
  | succ c ih =>
    intro x hx
    simp only [dgK] at hx
    rcases List.mem_cons.mp hx with e | e
    · rw [e]; exact (dig_64 (Nat.mod_lt _ (by decide))).2.2.1
    · exact ih x e
abbrev gL (v : Int64) : Prop := v.toInt.natAbs ≤ 9007199254740991
theorem nuB_pr {f : Nat → Int32} {n i m : Nat} {mi : Bool} (hm : m ≤ 9007199254740991) (hA : At f n i (dgK m (tenK m 16 0 + 1))) (h0 : ¬ digH (hereV f n (i + (tenK m 16 0 + 1)))) (h1 : ¬ hereV f n (i + (tenK m 16 0 + 1)) = 46) (h2 : ¬ hereV f n (i + (tenK m 16 0 + 1)) = 101) (h3 : ¬ hereV f n (i + (tenK m 16 0 + 1)) = 69) : nuB f n i mi = some (if mi = true then -Int64.ofNat m else Int64.ofNat m, i + (tenK m 16 0 + 1)) := by
  obtain ⟨s1, s2, s3⟩ := tenK_sp (show m < 10 ^ 16 by omega) 16 0 (Or.inl rfl) (by decide) (by decide)
  have hl : i + (tenK m 16 0 + 1) ≤ n := by
    rcases At_len (dgK_nn m _) hA with e | e
    · have := congrArg List.length e; rw [dgK_len] at this; simp at this
    · rw [dgK_len] at e; exact e
  generalize hk : tenK m 16 0 = k at *
  have hd : m / 10 ^ k % 10 < 10 := Nat.mod_lt _ (by decide)
  obtain ⟨d1, d2, d3, d4⟩ := dig_64 hd
  have hh : hereV f n i = 48 + nI (m / 10 ^ k % 10) := hA.1
  have hN : dgN f n i = (Int64.ofNat m, i + (k + 1)) := by
    unfold dgN
    by_cases hz : m = 0
    · subst hz
      have hk0 : k = 0 := by rcases s2 with e | e; exact e; rw [Nat.zero_div] at e; omega
      subst hk0
      rw [hh, if_pos (by decide)]; rfl
    · have hne : ¬ m / 10 ^ k % 10 = 0 := by
        rcases s2 with e | e
        · subst e; rw [Nat.pow_zero, Nat.div_one] at s1 ⊢; omega
        · omega
      rw [hh, if_neg (d4 hne)]
      have := dgM_pr hm (k + 1) i (n + 1) hA h0 (by omega)
      rw [show m / 10 ^ (k + 1) = 0 by rw [Nat.pow_succ, ← Nat.div_div_eq_div_mul]; exact Nat.div_eq_of_lt s1] at this
      exact this
  unfold nuB
  rw [hN, if_neg (fun q => q (by rw [hh]; exact d2)), if_neg (fun q => by
    rcases q with q | q | q | q
    · exact absurd ((G_nat (by omega)).mp q) (by omega)
    · exact h1 q
    · exact h2 q
    · exact h3 q)]
theorem neg_ofN {v : Int64} {m : Nat} (h : v.toInt = -(m : Int)) (hm : m < 2 ^ 62) : -Int64.ofNat m = v := by
  apply Int64.toInt_inj.mp
  rw [Int64.toInt_neg, toI_ofN hm, h]
  apply Int.bmod_eq_of_le <;> omega
/-- a number that is written is read again -/
theorem num_pr {f : Nat → Int32} {n i : Nat} {v : Int64} (hv : gL v) (hA : At f n i (nmB v)) (h0 : ¬ digH (hereV f n (i + (nmB v).length))) (h1 : ¬ hereV f n (i + (nmB v).length) = 46) (h2 : ¬ hereV f n (i + (nmB v).length) = 101) (h3 : ¬ hereV f n (i + (nmB v).length) = 69) : numM f n i = some (v, i + (nmB v).length) ∧ (hereV f n i = 45 ∨ digH (hereV f n i)) := by
  unfold nmB at hA h0 h1 h2 h3 ⊢
  unfold numM
  by_cases hs : v.toInt < 0
  · rw [if_pos hs] at hA h0 h1 h2 h3 ⊢
    simp only [List.length_append, List.length_singleton, dgK_len] at h0 h1 h2 h3 ⊢
    obtain ⟨g1, g2⟩ := At_app.mp hA
    rw [g1.1, if_pos rfl]
    rw [← Nat.add_assoc] at h0 h1 h2 h3
    have g2 : At f n (i + 1) _ := g2
    rw [nuB_pr hv g2 h0 h1 h2 h3, if_pos rfl, neg_ofN (v := v) (by omega) (by unfold gL at hv; omega)]
    exact ⟨by congr 2; omega, Or.inl rfl⟩
  · rw [if_neg hs] at hA h0 h1 h2 h3 ⊢
    simp only [List.nil_append, dgK_len] at hA h0 h1 h2 h3 ⊢
    have hd : v.toInt.natAbs / 10 ^ (tenK v.toInt.natAbs 16 0) % 10 < 10 := Nat.mod_lt _ (by decide)
    have hh : hereV f n i = 48 + nI _ := hA.1
    have d2 := (dig_64 hd).2.1
    rw [← hh] at d2
    rw [if_neg (fun q => by rw [q] at d2; revert d2; decide), nuB_pr hv hA h0 h1 h2 h3, if_neg (by decide)]
    refine ⟨?_, Or.inr d2⟩
    congr 2
    apply Int64.toInt_inj.mp
    rw [toI_ofN (by unfold gL at hv; omega)]
    omega
theorem dgM_ok {f : Nat → Int32} {n : Nat} : ∀ (k j A D : Nat), A < 10 ^ D → A < 10 ^ 17 → ∃ B, (dgM f n k j (Int64.ofNat A)).1 = Int64.ofNat B ∧ B < 10 ^ 17 ∧ B < 10 ^ (D + ((dgM f n k j (Int64.ofNat A)).2 - j)) ∧ j ≤ (dgM f n k j (Int64.ofNat A)).2 := by
  intro k
  induction k with
  | zero => intro j A D h1 h2; exact ⟨A, rfl, h2, by simpa [dgM] using h1, Nat.le_refl _⟩
  | succ k ih =>
    intro j A D h1 h2
    simp only [dgM]
    by_cases hd : digH (hereV f n j)
    · rw [if_pos hd]
      obtain ⟨d, hd9, hde⟩ : ∃ d, d < 10 ∧ hereV f n j = 48 + nI d := by
        obtain ⟨w, hw, e⟩ := i32_lit (Int32.le_trans (by decide) hd.1) (show hereV f n j ≤ nI 57 from hd.2) (by decide)
        have h48 : 48 ≤ w := by
          have := hd.1
          rw [e, Int32.le_iff_toInt_le] at this
          unfold nI at this
          rw [Int32.toInt_ofNat', show Int32.size = 2 ^ 32 from rfl, Int.bmod_eq_of_le] at this
          · have z : (48 : Int32).toInt = 48 := rfl
            omega
          · omega
          · omega
        exact ⟨w - 48, by omega, by rw [e, show (48 : Int32) = nI 48 from rfl, nI_add']; congr 1; omega⟩
      have step : ∀ A', A' < 10 ^ (D + 1) → A' < 10 ^ 17 → ∃ B, (dgM f n k (j + 1) (Int64.ofNat A')).1 = Int64.ofNat B ∧ B < 10 ^ 17 ∧ B < 10 ^ (D + ((dgM f n k (j + 1) (Int64.ofNat A')).2 - j)) ∧ j ≤ (dgM f n k (j + 1) (Int64.ofNat A')).2 := by
        intro A' g1 g2
        obtain ⟨B, b1, b2, b3, b4⟩ := ih (j + 1) A' (D + 1) g1 g2
        exact ⟨B, b1, b2, by rw [show D + ((dgM f n k (j + 1) (Int64.ofNat A')).2 - j) = D + 1 + ((dgM f n k (j + 1) (Int64.ofNat A')).2 - (j + 1)) by omega]; exact b3, by omega⟩
      by_cases hG : 0 < lg_cmp (Int64.ofNat A) 9007199254740991
      · rw [if_pos hG]
        exact step A (by rw [Nat.pow_succ]; omega) h2
      · rw [if_neg hG, hde, (dig_64 hd9).1, acc_64]
        have hA : A ≤ 9007199254740991 := Nat.not_lt.mp (fun q => hG ((G_nat (by omega)).mpr q))
        exact step (10 * A + d) (by rw [Nat.pow_succ]; omega) (by omega)
    · rw [if_neg hd]
      exact ⟨A, rfl, h2, by simpa using h1, Nat.le_refl _⟩
theorem nuB_ok {f : Nat → Int32} {n i : Nat} {mi : Bool} {p : Int64 × Nat} (h : nuB f n i mi = some p) : ∃ B, B ≤ 9007199254740991 ∧ p.1 = (if mi = true then -Int64.ofNat B else Int64.ofNat B) ∧ i < p.2 ∧ tenK B 16 0 + 1 ≤ p.2 - i := by
  have hlt := nuB_lt h
  unfold nuB at h
  split at h
  · cases h
  · split at h
    · cases h
    · next h1 h2 =>
      cases h
      have hB : ∃ B, (dgN f n i).1 = Int64.ofNat B ∧ B < 10 ^ 17 ∧ B < 10 ^ ((dgN f n i).2 - i) := by
        unfold dgN
        split
        · exact ⟨0, rfl, by decide, by rw [show i + 1 - i = 1 by omega]; decide⟩
        · obtain ⟨B, b1, b2, b3, b4⟩ := dgM_ok (f := f) (n := n) (n + 1) i 0 0 (by decide) (by decide)
          rw [show Int64.ofNat 0 = 0 from rfl] at b1 b3
          exact ⟨B, b1, b2, by rw [Nat.zero_add] at b3; exact b3⟩
      obtain ⟨B, b1, b2, b3⟩ := hB
      have hG : B ≤ 9007199254740991 := Nat.not_lt.mp (fun q => h2 (Or.inl (by rw [b1]; exact (G_nat (by omega)).mpr q)))
      refine ⟨B, hG, by rw [b1], hlt, ?_⟩
      have := tenK_lt (D := (dgN f n i).2 - i) (by have := hlt; simp only at this; omega) b3 16 0 (by omega)
      have hlt : i < (dgN f n i).2 := hlt
      show tenK B 16 0 + 1 ≤ (dgN f n i).2 - i
      omega
/-- a number that is read: its size, and that it is written no longer -/
theorem num_ok {f : Nat → Int32} {n i j : Nat} {v : Int64} (h : numM f n i = some (v, j)) : gL v ∧ i + (nmB v).length ≤ j := by
  unfold numM at h
  have e0 : ∀ B : Nat, B ≤ 9007199254740991 → (Int64.ofNat B).toInt = (B : Int) := fun B hB => toI_ofN (by omega)
  have e1 : ∀ B : Nat, B ≤ 9007199254740991 → (-Int64.ofNat B).toInt = -(B : Int) := fun B hB => by
    rw [Int64.toInt_neg, e0 B hB]
    apply Int.bmod_eq_of_le <;> omega
  split at h
  · obtain ⟨B, b1, b2, b3, b4⟩ := nuB_ok h
    rw [if_pos rfl] at b2
    have b2 : v = -Int64.ofNat B := b2
    have b3 : i + 1 < j := b3
    have b4 : tenK B 16 0 + 1 ≤ j - (i + 1) := b4
    have ev := e1 B b1
    rw [← b2] at ev
    have ea : v.toInt.natAbs = B := by omega
    refine ⟨by unfold gL; omega, ?_⟩
    unfold nmB
    rw [List.length_append, dgK_len, ea]
    have : (if v.toInt < 0 then [(45 : Int32)] else []).length ≤ 1 := by split <;> simp
    omega
  · obtain ⟨B, b1, b2, b3, b4⟩ := nuB_ok h
    rw [if_neg (by decide)] at b2
    have b2 : v = Int64.ofNat B := b2
    have b3 : i < j := b3
    have b4 : tenK B 16 0 + 1 ≤ j - i := b4
    have ev := e0 B b1
    rw [← b2] at ev
    have ea : v.toInt.natAbs = B := by omega
    refine ⟨by unfold gL; omega, ?_⟩
    unfold nmB
    rw [List.length_append, dgK_len, ea, if_neg (by omega)]
    show i + (0 + (tenK B 16 0 + 1)) ≤ j
    omega
def wfL (x : LF) : Prop := x = (0, 0, []) ∨ x = (1, 0, []) ∨ x = (2, 0, []) ∨ (∃ v, gL v ∧ x = (3, v, [])) ∨ (∃ us, uOK us ∧ x = (4, 0, us))
/-- a value that a document may hold -/
def wfV : (r : Nat) → JVt r → Prop
  | 0, x => wfL x
  | r + 1, x => (wfL x.1 ∧ x.2 = []) ∨ (x.1 = (5, 0, []) ∧ ∀ c, c ∈ x.2 → c.1 = [] ∧ wfV r c.2) ∨ (x.1 = (6, 0, []) ∧ (∀ c, c ∈ x.2 → uOK c.1 ∧ wfV r c.2) ∧ (x.2.map (·.1)).Nodup)
theorem wfL_5 {x : LF} (h : wfL x) : x.1 < 5 := by
  rcases h with h | h | h | ⟨v, _, h⟩ | ⟨u, _, h⟩ <;> rw [h]
  · decide
  · decide
  · decide
  · show 3 < 5; decide
  · show 4 < 5; decide
theorem wf_leaf {x : LF} (h : wfL x) (r : Nat) : wfV r (jleaf r x) := by
  cases r with
  | zero => exact h
  | succ r => exact Or.inl ⟨h, rfl⟩
theorem prV_leaf {x : LF} (h : x.1 < 5) (r : Nat) : prV r (jleaf r x) = prLf x := by
  cases r with
  | zero => rfl
  | succ r => exact if_pos h
theorem prV_5 {r : Nat} {ks : List (List Int32 × JVt r)} : prV (r + 1) (((5, 0, []), ks) : JVt (r + 1)) = [91] ++ prK (prV r) false true ks ++ [93] := rfl
theorem prV_6 {r : Nat} {ks : List (List Int32 × JVt r)} : prV (r + 1) (((6, 0, []), ks) : JVt (r + 1)) = [123] ++ prK (prV r) true true ks ++ [125] := rfl
theorem leaf_ok {f : Nat → Int32} {n i j : Nat} {x : LF} (h : pLeaf f n i = some (x, j)) : wfL x ∧ i + (prLf x).length ≤ j := by
  unfold pLeaf at h
  split at h
  · split at h
    · cases h; exact ⟨Or.inl rfl, Nat.le_refl _⟩
    · cases h
  · split at h
    · split at h
      · cases h; exact ⟨Or.inr (Or.inl rfl), Nat.le_refl _⟩
      · cases h
    · split at h
      · split at h
        · cases h; exact ⟨Or.inr (Or.inr (Or.inl rfl)), Nat.le_refl _⟩
        · cases h
      · split at h
        · split at h
          · next p hp =>
            cases h
            obtain ⟨a1, a2, a3⟩ := qtQ_ok (us := p.1) (j := p.2) hp
            rw [a2]
            exact ⟨Or.inr (Or.inr (Or.inr (Or.inr ⟨p.1, a1, rfl⟩))), a3⟩
          · cases h
        · split at h
          · split at h
            · next p hp =>
              cases h
              obtain ⟨a1, a2⟩ := num_ok (v := p.1) (j := p.2) hp
              exact ⟨Or.inr (Or.inr (Or.inr (Or.inl ⟨p.1, a1, rfl⟩))), a2⟩
            · cases h
          · cases h
/-- a name -/
theorem nam_ok {f : Nat → Int32} {n i : Nat} {op : Int32} {nms : List (List Int32)} {p : List Int32 × Nat} (h : pNam f n op nms i = some p) : (op = 91 ∧ p = ([], i)) ∨ (¬ op = 91 ∧ uOK p.1 ∧ ¬ p.1 ∈ nms ∧ i + (unL 34 p.1).length + 1 ≤ p.2) := by
  unfold pNam at h
  split at h
  · next ho => cases h; exact Or.inl ⟨ho, rfl⟩
  · next ho =>
    split at h
    · cases h
    · split at h
      · cases h
      · next q hq =>
        split at h
        · cases h
        · next hm =>
          split at h
          · cases h
          · cases h
            obtain ⟨a1, a2, a3⟩ := qtQ_ok (us := q.1) (j := q.2) hq
            rw [a2] at hm ⊢
            have s1 := (skipH_le f n i).1
            have s2 := (skipH_le f n q.2).1
            exact Or.inr ⟨ho, a1, hm, by show i + (unL 34 q.1).length + 1 ≤ skipH f n q.2 + 1; omega⟩
theorem prK_f {β : Type} {pr : β → List Int32} {ob : Bool} {cs : List (List Int32 × β)} (h : cs ≠ []) : (prK pr ob false cs).length = (prK pr ob true cs).length + 1 := by
  cases cs with
  | nil => exact absurd rfl h
  | cons c cs => simp only [prK]; simp
theorem in_ok {β : Type} {f : Nat → Int32} {n : Nat} {pv : Nat → Option (β × Nat)} {op : Int32} {pr : β → List Int32} {Q : β → Prop} (hpv : ∀ i x j, pv i = some (x, j) → Q x ∧ i + (pr x).length ≤ j) : ∀ (m i j : Nat) (acc ks : List (List Int32 × β)), pIn f n pv op m i acc = some (ks, j) → ∃ more, ks = acc ++ more ∧ more ≠ [] ∧ (∀ c, c ∈ more → (op = 91 → c.1 = []) ∧ (¬ op = 91 → uOK c.1) ∧ Q c.2) ∧ (¬ op = 91 → (acc.map (·.1)).Nodup → (ks.map (·.1)).Nodup) ∧ i + (prK pr (decide (¬ op = 91)) true more).length + 1 ≤ j := by
  intro m
  induction m with
  | zero => intro i j acc ks h; simp [pIn] at h
  | succ m ih =>
    intro i j acc ks h
    simp only [pIn] at h
    split at h
    · cases h
    · next nj hn =>
      split at h
      · cases h
      · next xj hx =>
        obtain ⟨q1, q2⟩ := hpv nj.2 xj.1 xj.2 hx
        have hc : ((op = 91 → nj.1 = []) ∧ (¬ op = 91 → uOK nj.1)) ∧ (¬ op = 91 → ¬ nj.1 ∈ acc.map (·.1)) ∧ i + (if decide (¬ op = 91) = true then unL 34 nj.1 ++ [58] else []).length ≤ nj.2 := by
          rcases nam_ok hn with ⟨o1, o2⟩ | ⟨o1, o2, o3, o4⟩
          · rw [o2, o1]
            exact ⟨⟨fun _ => rfl, fun h => absurd rfl h⟩, fun h => absurd rfl h, by simp⟩
          · refine ⟨⟨fun h => absurd h o1, fun _ => o2⟩, fun _ => o3, ?_⟩
            rw [if_pos (decide_eq_true o1)]
            simp only [List.length_append, List.length_singleton]
            omega
        obtain ⟨hc1, hc2, hc3⟩ := hc
        have hnd : ¬ op = 91 → (acc.map (·.1)).Nodup → ((acc ++ [(nj.1, xj.1)]).map (·.1)).Nodup := by
          intro o h1
          rw [List.map_append]
          refine List.nodup_append.mpr ⟨h1, by simp, ?_⟩
          intro a ha b hb
          have hb : b = nj.1 := by simpa using hb
          rw [hb]
          exact fun e => hc2 o (e ▸ ha)
        split at h
        · cases h
          refine ⟨[(nj.1, xj.1)], rfl, by simp, ?_, hnd, ?_⟩
          · intro c hcc
            rw [List.mem_singleton.mp hcc]
            exact ⟨hc1.1, hc1.2, q1⟩
          · simp only [prK, List.length_append, if_true, List.length_nil] at hc3 ⊢
            omega
        · split at h
          · obtain ⟨more, e1, e2, e3, e4, e5⟩ := ih _ _ _ _ h
            refine ⟨(nj.1, xj.1) :: more, by rw [e1]; simp, by simp, ?_, fun o h1 => e4 o (hnd o h1), ?_⟩
            · intro c hcc
              rcases List.mem_cons.mp hcc with e | e
              · rw [e]; exact ⟨hc1.1, hc1.2, q1⟩
              · exact e3 c e
            · have := prK_f (pr := pr) (ob := decide (¬ op = 91)) e2
              simp only [prK, List.length_append, if_true, List.length_nil] at hc3 ⊢
              omega
          · cases h
/-- a value that is read: it may stand in a document, and it is written no longer -/
theorem val_ok {f : Nat → Int32} {n : Nat} : ∀ (r i : Nat) (x : JVt r) (j : Nat), pV f n r i = some (x, j) → wfV r x ∧ i + (prV r x).length ≤ j := by
  have lf : ∀ (r i : Nat) (x : JVt r) (j : Nat), (pLeaf f n (skipH f n i)).map (fun p => (jleaf r p.1, skipH f n p.2)) = some (x, j) → wfV r x ∧ i + (prV r x).length ≤ j := by
    intro r i x j h
    obtain ⟨p, hp, e⟩ := Option.map_eq_some_iff.mp h
    cases e
    obtain ⟨a1, a2⟩ := leaf_ok (x := p.1) (j := p.2) hp
    have s1 := (skipH_le f n i).1
    have s2 := (skipH_le f n p.2).1
    exact ⟨wf_leaf a1 r, by rw [prV_leaf (wfL_5 a1)]; omega⟩
  intro r
  induction r with
  | zero => intro i x j h; exact lf 0 i x j h
  | succ r ih =>
    intro i x j h
    by_cases hc : hereV f n (skipH f n i) = 91 ∨ hereV f n (skipH f n i) = 123
    · simp only [pV] at h
      rw [if_pos hc] at h
      obtain ⟨p, hp, e⟩ := Option.map_eq_some_iff.mp h
      cases e
      have s1 := (skipH_le f n i).1
      have s2 := (skipH_le f n p.2).1
      have s3 := (skipH_le f n (skipH f n i + 1)).1
      have key : (∀ c, c ∈ p.1 → (hereV f n (skipH f n i) = 91 → c.1 = []) ∧ (¬ hereV f n (skipH f n i) = 91 → uOK c.1) ∧ wfV r c.2) ∧ (¬ hereV f n (skipH f n i) = 91 → (p.1.map (·.1)).Nodup) ∧ skipH f n i + 1 + (prK (prV r) (decide (¬ hereV f n (skipH f n i) = 91)) true p.1).length + 1 ≤ p.2 := by
        unfold pInside at hp
        split at hp
        · cases hp
          exact ⟨fun c hc => absurd hc (by simp), fun _ => by simp, by simp only [prK, List.length_nil]; omega⟩
        · obtain ⟨more, e1, e2, e3, e4, e5⟩ := in_ok (pr := prV r) (Q := wfV r) ih _ _ _ _ _ hp
          rw [List.nil_append] at e1
          rw [e1]
          exact ⟨e3, fun o => e1 ▸ e4 o (by simp), by omega⟩
      obtain ⟨k1, k2, k3⟩ := key
      rcases hc with e | e
      · rw [e] at k1 k2 k3
        have ex : (((if hereV f n (skipH f n i) = 91 then 5 else 6, 0, []), p.1) : JVt (r + 1)) = ((5, 0, []), p.1) := by rw [if_pos e]
        rw [ex]
        refine ⟨Or.inr (Or.inl ⟨rfl, fun c hc => ⟨(k1 c hc).1 rfl, (k1 c hc).2.2⟩⟩), ?_⟩
        rw [prV_5]
        simp only [List.length_append, List.length_singleton]
        have k3 : skipH f n i + 1 + (prK (prV r) false true p.1).length + 1 ≤ p.2 := k3
        omega
      · rw [e] at k1 k2 k3
        have hne : ¬ hereV f n (skipH f n i) = 91 := by rw [e]; decide
        have ex : (((if hereV f n (skipH f n i) = 91 then 5 else 6, 0, []), p.1) : JVt (r + 1)) = ((6, 0, []), p.1) := by rw [if_neg hne]
        rw [ex]
        refine ⟨Or.inr (Or.inr ⟨rfl, fun c hc => ⟨(k1 c hc).2.1 (by decide), (k1 c hc).2.2⟩, k2 (by decide)⟩), ?_⟩
        rw [prV_6]
        simp only [List.length_append, List.length_singleton]
        have k3 : skipH f n i + 1 + (prK (prV r) true true p.1).length + 1 ≤ p.2 := k3
        omega
    · rw [pV_leaf _ hc] at h
      exact lf (r + 1) i x j h
abbrev tmC (c : Int32) : Prop := c = -1 ∨ c = 44 ∨ c = 93 ∨ c = 125
theorem tm_nb {c : Int32} (h : tmC c) : ¬ blkH c ∧ ¬ digH c ∧ ¬ c = 46 ∧ ¬ c = 101 ∧ ¬ c = 69 := by
  rcases h with h | h | h | h <;> rw [h] <;> decide
/-- a value begins so -/
abbrev hdC (c : Int32) : Prop := c = 110 ∨ c = 116 ∨ c = 102 ∨ c = 34 ∨ c = 45 ∨ digH c ∨ c = 91 ∨ c = 123
theorem hd_nb {c : Int32} (h : hdC c) : ¬ blkH c ∧ ¬ c = 93 ∧ ¬ c = 125 := by
  rcases h with h | h | h | h | h | h | h | h
  · rw [h]; decide
  · rw [h]; decide
  · rw [h]; decide
  · rw [h]; decide
  · rw [h]; decide
  · refine ⟨?_, fun q => by rw [q] at h; revert h; decide, fun q => by rw [q] at h; revert h; decide⟩
    rintro (q | q | q | q) <;> rw [q] at h <;> revert h <;> decide
  · rw [h]; decide
  · rw [h]; decide
theorem nmB_hd (v : Int64) : ∃ c l, nmB v = c :: l ∧ hdC c := by
  unfold nmB
  split
  · exact ⟨45, _, rfl, by decide⟩
  · refine ⟨_, _, rfl, ?_⟩
    exact Or.inr (Or.inr (Or.inr (Or.inr (Or.inr (Or.inl (dig_64 (Nat.mod_lt _ (by decide))).2.1)))))
theorem prLf_hd {x : LF} (h : wfL x) : ∃ c l, prLf x = c :: l ∧ hdC c := by
  rcases h with h | h | h | ⟨v, _, h⟩ | ⟨u, _, h⟩ <;> rw [h]
  · exact ⟨110, _, rfl, by decide⟩
  · exact ⟨116, _, rfl, by decide⟩
  · exact ⟨102, _, rfl, by decide⟩
  · exact nmB_hd v
  · exact ⟨34, _, rfl, by decide⟩
theorem prV_hd : ∀ {r : Nat} {x : JVt r}, wfV r x → ∃ c l, prV r x = c :: l ∧ hdC c
  | 0, x, h => prLf_hd h
  | r + 1, x, h => by
    obtain ⟨y, ks⟩ := x
    rcases h with ⟨h1, h2⟩ | ⟨h1, h2⟩ | ⟨h1, h2⟩
    · obtain ⟨c, l, e, hc⟩ := prLf_hd h1
      exact ⟨c, l, by rw [← e]; exact if_pos (wfL_5 h1), hc⟩
    · have h1 : y = (5, 0, []) := h1
      rw [h1, prV_5]; exact ⟨91, _, rfl, by decide⟩
    · have h1 : y = (6, 0, []) := h1
      rw [h1, prV_6]; exact ⟨123, _, rfl, by decide⟩
theorem unL_ge (q : Int32) : ∀ us : List Int32, us.length + 2 ≤ (unL q us).length := by
  intro us
  unfold unL
  simp only [List.length_append, List.length_singleton]
  have : us.length ≤ (us.flatMap (unB q)).length := by
    induction us with
    | nil => simp
    | cons u us ih =>
      rw [List.flatMap_cons, List.length_append, List.length_cons]
      have : 1 ≤ (unB q u).length := by
        unfold unB
        repeat' split
        all_goals simp
      omega
  omega
theorem mt_pr {f : Nat → Int32} {n i k : Nat} {l : List Int32} (hA : At f n i l) (hk : ∀ j, j < l.length → mtx k j &&& 255 = l.getD j 0) : mtB f n i (mtx k) l.length = true := by
  rw [mtB_iff]
  intro j hj
  rw [hk j hj]
  have key : ∀ (l : List Int32) (i j : Nat), At f n i l → j < l.length → hereV f n (i + j) = l.getD j 0 := by
    intro l
    induction l with
    | nil => intro i j _ h; simp at h
    | cons x l ih =>
      intro i j h hj
      cases j with
      | zero => exact h.1
      | succ j =>
        rw [show i + (j + 1) = i + 1 + j by omega]
        simp only [List.getD_cons_succ]
        exact ih (i + 1) j h.2.2 (by simpa using hj)
  exact key l i j hA hj
theorem leaf_pr {f : Nat → Int32} {n i : Nat} {x : LF} (h : wfL x) (hn : (prLf x).length ≤ n) (hA : At f n i (prLf x)) (ht : tmC (hereV f n (i + (prLf x).length))) : pLeaf f n i = some (x, i + (prLf x).length) := by
  obtain ⟨t1, t2, t3, t4, t5⟩ := tm_nb ht
  rcases h with h | h | h | ⟨v, hv, h⟩ | ⟨u, hu, h⟩
  · subst h
    have hA : At f n i [110, 117, 108, 108] := hA
    unfold pLeaf
    rw [hA.1, if_pos rfl, if_pos (show mtB f n i (mtx 1) 4 = true from mt_pr (k := 1) hA (by decide))]; rfl
  · subst h
    have hA : At f n i [116, 114, 117, 101] := hA
    unfold pLeaf
    rw [hA.1, if_neg (by decide), if_pos rfl, if_pos (show mtB f n i (mtx 2) 4 = true from mt_pr (k := 2) hA (by decide))]; rfl
  · subst h
    have hA : At f n i [102, 97, 108, 115, 101] := hA
    unfold pLeaf
    rw [hA.1, if_neg (by decide), if_neg (by decide), if_pos rfl, if_pos (show mtB f n i (mtx 3) 5 = true from mt_pr (k := 3) hA (by decide))]; rfl
  · subst h
    have e : prLf (3, v, []) = nmB v := rfl
    rw [e] at hA t2 t3 t4 t5 hn ⊢
    obtain ⟨g1, g2⟩ := num_pr hv hA t2 t3 t4 t5
    have hne : ∀ c : Int32, (c = 110 ∨ c = 116 ∨ c = 102 ∨ c = 34) → ¬ hereV f n i = c := by
      rintro c hc e2
      rw [e2] at g2
      rcases hc with q | q | q | q <;> rw [q] at g2 <;> revert g2 <;> decide
    unfold pLeaf
    rw [if_neg (hne 110 (by decide)), if_neg (hne 116 (by decide)), if_neg (hne 102 (by decide)), if_neg (hne 34 (by decide)), if_pos g2, g1]
  · subst h
    have e : prLf (4, 0, u) = unL 34 u := rfl
    rw [e] at hA hn ⊢
    have hq : hereV f n i = 34 := by
      unfold unL at hA
      rw [List.append_assoc] at hA
      exact (At_app.mp hA).1.1
    have := unL_ge 34 u
    unfold pLeaf
    rw [hq, if_neg (by decide), if_neg (by decide), if_neg (by decide), if_pos rfl, qtQ_pr hu (by omega) hA]
    simp only []
    rw [c16_map hu]
theorem At_bd {f : Nat → Int32} {n : Nat} : ∀ {l : List Int32} {i : Nat} {z : Int32}, At f n i (l ++ [z]) → 0 ≤ z → i + l.length < n := by
  intro l i z h hz
  exact here_in (At_app.mp h).2.1 hz
theorem kids_len {β : Type} {f : Nat → Int32} {n i : Nat} {pr : β → List Int32} {ob b : Bool} {z : Int32} {cs : List (List Int32 × β)} (h : At f n i (prK pr ob b cs ++ [z])) (hh : ∀ c, c ∈ cs → ∃ w l, pr c.2 = w :: l ∧ hdC w) (hz : 0 ≤ z := by decide) : cs.length ≤ n + 1 := by
  have h1 := At_bd h hz
  have h2 : ∀ (cs : List (List Int32 × β)) (b : Bool), (∀ c, c ∈ cs → ∃ w l, pr c.2 = w :: l ∧ hdC w) → cs.length ≤ (prK pr ob b cs).length := by
    intro cs
    induction cs with
    | nil => intro b _; simp
    | cons c cs ih =>
      intro b hc
      obtain ⟨w, l, e, _⟩ := hc c (by simp)
      have := ih false (fun c' hc' => hc c' (by simp [hc']))
      simp only [prK, e, List.length_append, List.length_cons]
      omega
  have := h2 cs b hh
  omega
theorem name_len {β : Type} {f : Nat → Int32} {n i : Nat} {pr : β → List Int32} {b : Bool} {z : Int32} {cs : List (List Int32 × β)} (h : At f n i (prK pr true b cs ++ [z])) {c : List Int32 × β} (hc : c ∈ cs) (hz : 0 ≤ z := by decide) : c.1.length ≤ n := by
  have h1 := At_bd h hz
  have h2 : ∀ (cs : List (List Int32 × β)) (b : Bool), c ∈ cs → c.1.length ≤ (prK pr true b cs).length := by
    intro cs
    induction cs with
    | nil => intro b hb; simp at hb
    | cons d cs ih =>
      intro b hb
      have u := unL_ge 34 d.1
      rcases List.mem_cons.mp hb with e | e
      · subst e
        simp only [prK, List.length_append, if_true]
        omega
      · have := ih false e
        simp only [prK, List.length_append]
        omega
  have := h2 cs b hc
  omega
theorem unB_asc {q u : Int32} (hq : 0 ≤ q ∧ q ≤ 126) (h0 : 0 ≤ u) : ∀ y, y ∈ unB q u → 0 ≤ y ∧ y ≤ 126 := by
  have hx : ∀ z : Int32, 0 ≤ hxD z ∧ hxD z ≤ 126 := by
    intro z
    obtain ⟨m, hm, e⟩ := and15 z
    unfold hxD
    rw [e, nI_clamp (by omega)]
    match m, hm with
    | 0, _ => decide
    | 1, _ => decide
    | 2, _ => decide
    | 3, _ => decide
    | 4, _ => decide
    | 5, _ => decide
    | 6, _ => decide
    | 7, _ => decide
    | 8, _ => decide
    | 9, _ => decide
    | 10, _ => decide
    | 11, _ => decide
    | 12, _ => decide
    | 13, _ => decide
    | 14, _ => decide
    | 15, _ => decide
    | n + 16, h => exact absurd h (by omega)
  intro y hy
  unfold unB at hy
  split at hy
  · next h =>
    have hu : 0 ≤ u ∧ u ≤ 126 := by rcases h with h | h; rw [h]; exact hq; rw [h]; decide
    simp only [List.mem_cons, List.not_mem_nil, or_false] at hy
    rcases hy with e | e
    · rw [e]; decide
    · rw [e]; exact hu
  · split at hy
    · next h =>
      have hk : escK u = 0 ∨ escK u = 1 ∨ escK u = 2 ∨ escK u = 3 ∨ escK u = 4 ∨ escK u = -1 := by
        unfold escK
        repeat' split
        all_goals simp
      simp only [List.mem_cons, List.not_mem_nil, or_false] at hy
      rcases hy with e | e
      · rw [e]; decide
      · rw [e]
        rcases hk with k | k | k | k | k | k <;> rw [k] <;> first | decide | (rw [k] at h; exact absurd (by decide) h)
    · split at hy
      · simp only [List.mem_cons, List.not_mem_nil, or_false] at hy
        rcases hy with e | e | e | e | e | e <;> rw [e] <;> first | decide | exact hx _
      · next h =>
        rw [List.mem_singleton.mp hy]
        exact ⟨h0, Classical.byContradiction (fun q => h (Or.inr q))⟩
theorem unL_asc {us : List Int32} (h : uOK us) : ∀ y, y ∈ unL 34 us → 0 ≤ y ∧ y ≤ 126 := by
  intro y hy
  unfold unL at hy
  rcases List.mem_append.mp hy with hy | hy
  · rcases List.mem_append.mp hy with hy | hy
    · rw [List.mem_singleton.mp hy]; decide
    · obtain ⟨u, hu, hyu⟩ := List.mem_flatMap.mp hy
      exact unB_asc (by decide) (uOK_mem h u hu).1 y hyu
  · rw [List.mem_singleton.mp hy]; decide
theorem dig_asc {d : Nat} (hd : d < 10) : 0 ≤ (48 + nI d : Int32) ∧ (48 + nI d : Int32) ≤ 126 := ⟨(dig_64 hd).2.2.1, Int32.le_trans (dig_64 hd).2.1.2 (by decide)⟩
theorem nmB_asc (v : Int64) : ∀ y, y ∈ nmB v → 0 ≤ y ∧ y ≤ 126 := by
  have hd : ∀ (m c : Nat) (y : Int32), y ∈ dgK m c → 0 ≤ y ∧ y ≤ 126 := by
    intro m c
    induction c with
    | zero => intro y hy; simp [dgK] at hy
    | succ c ih =>
      intro y hy
      simp only [dgK] at hy
      rcases List.mem_cons.mp hy with e | e
      · rw [e]; exact dig_asc (Nat.mod_lt _ (by decide))
      · exact ih y e
  intro y hy
  unfold nmB at hy
  rcases List.mem_append.mp hy with hy | hy
  · split at hy
    · rw [List.mem_singleton.mp hy]; decide
    · simp at hy
  · exact hd _ _ y hy
theorem prLf_asc {x : LF} (h : wfL x) : ∀ y, y ∈ prLf x → 0 ≤ y ∧ y ≤ 126 := by
  rcases h with h | h | h | ⟨v, _, h⟩ | ⟨u, hu, h⟩ <;> subst h
  · intro y hy
    have hy : y ∈ [(110 : Int32), 117, 108, 108] := hy
    simp only [List.mem_cons, List.not_mem_nil, or_false] at hy
    rcases hy with e | e | e | e <;> rw [e] <;> decide
  · intro y hy
    have hy : y ∈ [(116 : Int32), 114, 117, 101] := hy
    simp only [List.mem_cons, List.not_mem_nil, or_false] at hy
    rcases hy with e | e | e | e <;> rw [e] <;> decide
  · intro y hy
    have hy : y ∈ [(102 : Int32), 97, 108, 115, 101] := hy
    simp only [List.mem_cons, List.not_mem_nil, or_false] at hy
    rcases hy with e | e | e | e | e <;> rw [e] <;> decide
  · exact nmB_asc v
  · exact unL_asc hu
theorem prLf_nn {x : LF} (h : wfL x) : ∀ y, y ∈ prLf x → 0 ≤ y := fun y hy => (prLf_asc h y hy).1
theorem prK_asc {β : Type} {pr : β → List Int32} {ob : Bool} : ∀ (cs : List (List Int32 × β)) (b : Bool), (∀ c, c ∈ cs → (ob = true → uOK c.1) ∧ ∀ y, y ∈ pr c.2 → 0 ≤ y ∧ y ≤ 126) → ∀ y, y ∈ prK pr ob b cs → 0 ≤ y ∧ y ≤ 126 := by
  intro cs
  induction cs with
  | nil => intro b _ y hy; simp [prK] at hy
  | cons c cs ih =>
    intro b hc y hy
    simp only [prK] at hy
    rcases List.mem_append.mp hy with hy | hy
    · rcases List.mem_append.mp hy with hy | hy
      · rcases List.mem_append.mp hy with hy | hy
        · split at hy
          · simp at hy
          · rw [List.mem_singleton.mp hy]; decide
        · split at hy
          · next h =>
            rcases List.mem_append.mp hy with hy | hy
            · exact unL_asc ((hc c (by simp)).1 h) y hy
            · rw [List.mem_singleton.mp hy]; decide
          · simp at hy
      · exact (hc c (by simp)).2 y hy
    · exact ih false (fun c' hc' => hc c' (by simp [hc'])) y hy
/-- what is written is plain -/
theorem prV_asc : ∀ (r : Nat) (x : JVt r), wfV r x → ∀ y, y ∈ prV r x → 0 ≤ y ∧ y ≤ 126 := by
  intro r
  induction r with
  | zero => intro x h; exact prLf_asc h
  | succ r ih =>
    intro x h y hy
    obtain ⟨z, ks⟩ := x
    rcases h with ⟨h1, h2⟩ | ⟨h1, h2⟩ | ⟨h1, h2, h3⟩
    · have e : prV (r + 1) ((z, ks) : JVt (r + 1)) = prLf z := if_pos (wfL_5 h1)
      rw [e] at hy
      exact prLf_asc h1 y hy
    · have h1 : z = (5, 0, []) := h1
      subst h1
      rw [prV_5] at hy
      rcases List.mem_append.mp hy with hy | hy
      · rcases List.mem_append.mp hy with hy | hy
        · rw [List.mem_singleton.mp hy]; decide
        · exact prK_asc ks true (fun c hc => ⟨fun q => absurd q (by decide), ih c.2 (h2 c hc).2⟩) y hy
      · rw [List.mem_singleton.mp hy]; decide
    · have h1 : z = (6, 0, []) := h1
      subst h1
      rw [prV_6] at hy
      rcases List.mem_append.mp hy with hy | hy
      · rcases List.mem_append.mp hy with hy | hy
        · rw [List.mem_singleton.mp hy]; decide
        · exact prK_asc ks true (fun c hc => ⟨fun _ => (h2 c hc).1, ih c.2 (h2 c hc).2⟩) y hy
      · rw [List.mem_singleton.mp hy]; decide
theorem wf_sm : ∀ (r : Nat) (x : JVt r), wfV r x → allL smF r x := by
  have lf : ∀ x : LF, wfL x → smF x := by
    intro x h hk
    rcases h with h | h | h | ⟨v, hv, h⟩ | ⟨u, hu, h⟩ <;> rw [h] at hk ⊢
    · exact absurd hk (by decide)
    · exact absurd hk (by decide)
    · exact absurd hk (by decide)
    · unfold gL at hv
      show smL v
      unfold smL
      omega
    · exact absurd (show (4 : Nat) = 3 from hk) (by decide)
  intro r
  induction r with
  | zero => intro x h; exact lf x h
  | succ r ih =>
    intro x h
    obtain ⟨z, ks⟩ := x
    rcases h with ⟨h1, h2⟩ | ⟨h1, h2⟩ | ⟨h1, h2, h3⟩
    · have h2 : ks = [] := h2
      exact ⟨lf z h1, fun c hc => by have hc : c ∈ ks := hc; rw [h2] at hc; exact absurd hc (by simp)⟩
    · have h1 : z = (5, 0, []) := h1
      exact ⟨fun hk => by have hk : z.1 = 3 := hk; rw [h1] at hk; exact absurd hk (by decide), fun c hc => ih c.2 (h2 c hc).2⟩
    · have h1 : z = (6, 0, []) := h1
      exact ⟨fun hk => by have hk : z.1 = 3 := hk; rw [h1] at hk; exact absurd hk (by decide), fun c hc => ih c.2 (h2 c hc).2⟩
theorem in_pr {β : Type} {f : Nat → Int32} {n : Nat} {pv : Nat → Option (β × Nat)} {pr : β → List Int32} {op : Int32} (ho : op = 91 ∨ op = 123) {Q : β → Prop} (hpv : ∀ x i, Q x → At f n i (pr x) → tmC (hereV f n (i + (pr x).length)) → pv i = some (x, i + (pr x).length)) :
    ∀ (cs : List (List Int32 × β)) (acc : List (List Int32 × β)) (m i : Nat), cs ≠ [] → (∀ c, c ∈ cs → (op = 91 → c.1 = []) ∧ (op = 123 → uOK c.1 ∧ c.1.length ≤ n) ∧ Q c.2) → (op = 123 → ((acc ++ cs).map (·.1)).Nodup) → cs.length ≤ m → At f n i (prK pr (decide (op = 123)) true cs ++ [clo op]) → pIn f n pv op m i acc = some (acc ++ cs, i + (prK pr (decide (op = 123)) true cs).length + 1) := by
  intro cs
  induction cs with
  | nil => intro acc m i h; exact absurd rfl h
  | cons c cs ih =>
    intro acc m i _ hc hnd hm hA
    obtain ⟨m0, rfl⟩ : ∃ m0, m = m0 + 1 := ⟨m - 1, by simp only [List.length_cons] at hm; omega⟩
    obtain ⟨c1, c2, c3⟩ := hc c (by simp)
    obtain ⟨P, hP, hPl⟩ : ∃ P : List Int32, P = (if decide (op = 123) = true then unL 34 c.1 ++ [58] else []) ∧ True := ⟨_, rfl, trivial⟩
    have hf : prK pr (decide (op = 123)) true (c :: cs) = P ++ (pr c.2 ++ prK pr (decide (op = 123)) false cs) := by simp only [prK]; rw [hP]; simp
    rw [hf] at hA ⊢
    rw [List.append_assoc, List.append_assoc] at hA
    obtain ⟨hA1, hA2⟩ := At_app.mp hA
    obtain ⟨hA3, hA4⟩ := At_app.mp hA2
    have hN : pNam f n op (acc.map (·.1)) i = some (c.1, i + P.length) := by
      rcases ho with o | o
      · rw [o] at hP ⊢
        have e : P = [] := hP
        unfold pNam
        rw [if_pos rfl, e, c1 o]; rfl
      · rw [o] at hP ⊢
        have e : P = unL 34 c.1 ++ [58] := hP
        rw [e] at hA1
        obtain ⟨u1, u2⟩ := c2 o
        obtain ⟨hB1, hB2⟩ := At_app.mp hA1
        have hq : hereV f n i = 34 := by
          have hB := hB1
          unfold unL at hB
          rw [List.append_assoc] at hB
          exact (At_app.mp hB).1.1
        have s1 : skipH f n i = i := skipH_e (by rw [hq]; decide)
        have s2 : skipH f n (i + (unL 34 c.1).length) = i + (unL 34 c.1).length := skipH_e (by rw [hB2.1]; decide)
        have hmem : ¬ c.1 ∈ acc.map (·.1) := by
          have h1 := hnd o
          rw [List.map_append] at h1
          intro hin
          exact (List.nodup_append.mp h1).2.2 c.1 hin c.1 (by simp) rfl
        unfold pNam
        rw [if_neg (by decide), s1, if_neg (fun q => q hq), qtQ_pr u1 (by omega) hB1]
        simp only []
        rw [c16_map u1, if_neg hmem, s2, if_neg (fun q => q hB2.1), e]
        simp [Nat.add_assoc]
    have clt : tmC (clo op) := by rcases ho with o | o <;> rw [o] <;> decide
    cases cs with
    | nil =>
      simp only [prK, List.nil_append, List.append_nil] at hA4 ⊢
      have hV := hpv c.2 (i + P.length) c3 hA3 (by rw [hA4.1]; exact clt)
      simp only [pIn, hN, hV]
      rw [if_pos hA4.1, List.length_append, ← Nat.add_assoc]
    | cons d ds =>
      have hff : prK pr (decide (op = 123)) false (d :: ds) = [44] ++ prK pr (decide (op = 123)) true (d :: ds) := by simp only [prK]; simp
      rw [hff, List.append_assoc] at hA4
      obtain ⟨hA5, hA6⟩ := At_app.mp hA4
      have hV := hpv c.2 (i + P.length) c3 hA3 (by rw [hA5.1]; decide)
      have hne : ¬ hereV f n (i + P.length + (pr c.2).length) = clo op := by
        rw [hA5.1]
        rcases ho with o | o <;> rw [o] <;> decide
      have hI := ih (acc ++ [(c.1, c.2)]) m0 (i + P.length + (pr c.2).length + 1) (by simp) (fun c' hc' => hc c' (by simp only [List.mem_cons] at hc' ⊢; exact Or.inr hc')) (fun o => by have := hnd o; simpa using this) (by simp only [List.length_cons] at hm ⊢; omega) hA6
      simp only [pIn, hN, hV]
      rw [if_neg hne, if_pos hA5.1, hI, hff]
      simp only [List.append_assoc, List.cons_append, List.nil_append, List.length_append, List.length_cons]
      congr 2
      omega
/-- a value that is written is read again -/
theorem val_pr {f : Nat → Int32} {n : Nat} : ∀ (r : Nat) (x : JVt r) (i : Nat), wfV r x → At f n i (prV r x) → tmC (hereV f n (i + (prV r x).length)) → pV f n r i = some (x, i + (prV r x).length) := by
  have hnn : ∀ {r : Nat} {x : JVt r} {i : Nat}, wfV r x → At f n i (prV r x) → skipH f n i = i := by
    intro r x i h hA
    obtain ⟨c, l, e, hc⟩ := prV_hd h
    rw [e] at hA
    exact skipH_e (by rw [hA.1]; exact (hd_nb hc).1)
  have lf : ∀ (r : Nat) (x : LF) (i : Nat), wfL x → At f n i (prLf x) → tmC (hereV f n (i + (prLf x).length)) → pV f n r i = some (jleaf r x, i + (prLf x).length) := by
    intro r x i h hA ht
    obtain ⟨c, l, e, hc⟩ := prLf_hd h
    have hA0 := hA
    rw [e] at hA
    have s1 : skipH f n i = i := skipH_e (by rw [hA.1]; exact (hd_nb hc).1)
    have s2 : skipH f n (i + (prLf x).length) = i + (prLf x).length := skipH_e (tm_nb ht).1
    have hne : ¬ (hereV f n i = 91 ∨ hereV f n i = 123) := by
      have hcc : c ≠ 91 ∧ c ≠ 123 := by
        rcases h with h | h | h | ⟨v, _, h⟩ | ⟨u, _, h⟩ <;> rw [h] at e
        · have := List.head_eq_of_cons_eq e; rw [← this]; decide
        · have := List.head_eq_of_cons_eq e; rw [← this]; decide
        · have := List.head_eq_of_cons_eq e; rw [← this]; decide
        · have e : nmB v = c :: l := e
          unfold nmB at e
          split at e
          · have := List.head_eq_of_cons_eq e; rw [← this]; decide
          · have := List.head_eq_of_cons_eq e
            have d := (dig_64 (d := v.toInt.natAbs / 10 ^ tenK v.toInt.natAbs 16 0 % 10) (Nat.mod_lt _ (by decide))).2.1
            rw [← this]
            exact ⟨fun q => by rw [q] at d; revert d; decide, fun q => by rw [q] at d; revert d; decide⟩
        · have := List.head_eq_of_cons_eq e; rw [← this]; decide
      rw [hA.1]
      exact fun q => q.elim hcc.1 hcc.2
    have hlen : (prLf x).length ≤ n := by
      have hpos : 0 < (prLf x).length := by rw [e]; simp
      have : i + ((prLf x).length - 1) < n := by
        have key : ∀ (l : List Int32) (i : Nat), At f n i l → ∀ k, k < l.length → hereV f n (i + k) = l.getD k 0 := by
          intro l
          induction l with
          | nil => intro i _ k h; simp at h
          | cons y l ih =>
            intro i h k hk
            cases k with
            | zero => exact h.1
            | succ k =>
              rw [show i + (k + 1) = i + 1 + k by omega]
              simp only [List.getD_cons_succ]
              exact ih (i + 1) h.2.2 k (by simpa using hk)
        have h1 := key _ _ hA0 ((prLf x).length - 1) (by omega)
        have nnl : ∀ y, y ∈ prLf x → 0 ≤ y := prLf_nn h
        refine here_in h1 ?_
        rw [List.getD_eq_getElem?_getD, List.getElem?_eq_getElem (by omega)]
        exact nnl _ (List.getElem_mem _)
      omega
    rw [pV_leaf r (by rw [s1]; exact hne), s1, leaf_pr h hlen hA0 ht]
    simp only [Option.map_some]
    rw [s2]
  intro r
  induction r with
  | zero => intro x i h hA ht; exact lf 0 x i h hA ht
  | succ r ih =>
    intro x i h hA ht
    have s1 := hnn h hA
    have s2 : skipH f n (i + (prV (r + 1) x).length) = i + (prV (r + 1) x).length := skipH_e (tm_nb ht).1
    obtain ⟨y, ks⟩ := x
    rcases h with ⟨h1, h2⟩ | ⟨h1, h2⟩ | ⟨h1, h2, h3⟩
    · have h2 : ks = [] := h2
      subst h2
      have e : prV (r + 1) ((y, []) : JVt (r + 1)) = prLf y := if_pos (wfL_5 h1)
      rw [e] at hA ht ⊢
      exact lf (r + 1) y i h1 hA ht
    · have h1 : y = (5, 0, []) := h1
      subst h1
      rw [prV_5] at hA ht s2 ⊢
      rw [List.append_assoc] at hA
      obtain ⟨hA1, hA2⟩ := At_app.mp hA
      simp only [pV]
      rw [s1, hA1.1, if_pos (Or.inl rfl)]
      have hin : pInside f n (pV f n r) 91 i = some (ks, i + 1 + (prK (prV r) false true ks).length + 1) := by
        unfold pInside
        cases ks with
        | nil =>
          have hA2 : At f n (i + 1) ([] ++ [93]) := hA2
          have s3 : skipH f n (i + 1) = i + 1 := skipH_e (by rw [hA2.1]; decide)
          rw [s3, if_pos (show hereV f n (i + 1) = clo 91 from hA2.1)]; rfl
        | cons c cs =>
          obtain ⟨w, l, e, hw⟩ := prV_hd (h2 c (by simp)).2
          have hh : hereV f n (i + 1) = w := by
            have hA2 : At f n (i + 1) _ := hA2
            simp only [prK] at hA2
            rw [e] at hA2
            exact hA2.1
          have s3 : skipH f n (i + 1) = i + 1 := skipH_e (by rw [hh]; exact (hd_nb hw).1)
          rw [s3, if_neg (by rw [hh]; exact (hd_nb hw).2.1)]
          exact in_pr (op := 91) (Or.inl rfl) (Q := wfV r) (fun x i hx => ih x i hx) (c :: cs) [] (n + 1) (i + 1) (by simp) (fun c' hc' => ⟨fun _ => (h2 c' hc').1, fun q => absurd q (by decide), (h2 c' hc').2⟩) (fun q => absurd q (by decide)) (kids_len hA2 (fun c' hc' => prV_hd (h2 c' hc').2)) hA2
      rw [hin]
      simp only [Option.map_some]
      simp only [List.length_append, List.length_singleton] at s2 ⊢
      rw [show i + 1 + (prK (prV r) false true ks).length + 1 = i + (1 + (prK (prV r) false true ks).length + 1) by omega, s2]
      rfl
    · have h1 : y = (6, 0, []) := h1
      subst h1
      rw [prV_6] at hA ht s2 ⊢
      rw [List.append_assoc] at hA
      obtain ⟨hA1, hA2⟩ := At_app.mp hA
      simp only [pV]
      rw [s1, hA1.1, if_pos (Or.inr rfl)]
      have hin : pInside f n (pV f n r) 123 i = some (ks, i + 1 + (prK (prV r) true true ks).length + 1) := by
        unfold pInside
        cases ks with
        | nil =>
          have hA2 : At f n (i + 1) ([] ++ [125]) := hA2
          have s3 : skipH f n (i + 1) = i + 1 := skipH_e (by rw [hA2.1]; decide)
          rw [s3, if_pos (show hereV f n (i + 1) = clo 123 from hA2.1)]; rfl
        | cons c cs =>
          have hh : hereV f n (i + 1) = 34 := by
            have hA2 : At f n (i + 1) _ := hA2
            exact hA2.1
          have s3 : skipH f n (i + 1) = i + 1 := skipH_e (by rw [hh]; decide)
          rw [s3, if_neg (by rw [hh]; decide)]
          exact in_pr (op := 123) (Or.inr rfl) (Q := wfV r) (fun x i hx => ih x i hx) (c :: cs) [] (n + 1) (i + 1) (by simp) (fun c' hc' => ⟨fun q => absurd q (by decide), fun _ => ⟨(h2 c' hc').1, name_len hA2 hc'⟩, (h2 c' hc').2⟩) (fun _ => h3) (kids_len hA2 (fun c' hc' => prV_hd (h2 c' hc').2)) hA2
      rw [hin]
      simp only [Option.map_some]
      simp only [List.length_append, List.length_singleton] at s2 ⊢
      rw [show i + 1 + (prK (prV r) true true ks).length + 1 = i + (1 + (prK (prV r) true true ks).length + 1) by omega, s2]
      rfl
theorem qt_le {f : Nat → Int32} {n : Nat} : ∀ (k i j : Nat) (acc us : List Int32), qtM f n 34 k i acc = some (us, j) → j ≤ n := by
  intro k
  induction k with
  | zero => intro i j acc us h; simp [qtM] at h
  | succ k ih =>
    intro i j acc us h
    simp only [qtM] at h
    by_cases c1 : hereV f n i = 34
    · rw [if_pos c1] at h; cases h; exact here_in c1 (by decide)
    rw [if_neg c1] at h
    by_cases d0 : hereV f n i < 32 ∨ ¬ hereV f n i ≤ 126
    · rw [if_pos d0] at h; cases h
    rw [if_neg d0] at h
    by_cases d1 : ¬ hereV f n i = 92
    · rw [if_pos d1] at h; exact ih _ _ _ _ h
    rw [if_neg d1] at h
    by_cases d2 : ¬ 0 ≤ (escM f n 34 i).1
    · rw [if_pos d2] at h; cases h
    rw [if_neg d2] at h
    by_cases d3 : ¬ (escM f n 34 i).1 < 56320 ∧ ¬ 57343 < (escM f n 34 i).1
    · rw [if_pos d3] at h; cases h
    rw [if_neg d3] at h
    by_cases d4 : (escM f n 34 i).1 < 55296 ∨ ¬ (escM f n 34 i).1 ≤ 56319
    · rw [if_pos d4] at h; exact ih _ _ _ _ h
    rw [if_neg d4] at h
    by_cases d5 : ¬ (escM f n 34 i).2 < n
    · rw [if_pos d5] at h; cases h
    rw [if_neg d5] at h
    by_cases d6 : ¬ hereV f n (escM f n 34 i).2 = 92
    · rw [if_pos d6] at h; cases h
    rw [if_neg d6] at h
    by_cases d7 : ¬ (escM f n 34 i).2 + 1 < n
    · rw [if_pos d7] at h; cases h
    rw [if_neg d7] at h
    by_cases d8 : ¬ f ((escM f n 34 i).2 + 1) = 117
    · rw [if_pos d8] at h; cases h
    rw [if_neg d8] at h
    by_cases d9 : ¬ 0 ≤ (escM f n 34 (escM f n 34 i).2).1
    · rw [if_pos d9] at h; cases h
    rw [if_neg d9] at h
    by_cases d10 : (escM f n 34 (escM f n 34 i).2).1 < 56320 ∨ ¬ (escM f n 34 (escM f n 34 i).2).1 ≤ 57343
    · rw [if_pos d10] at h; cases h
    rw [if_neg d10] at h
    exact ih _ _ _ _ h
theorem dgM_le {f : Nat → Int32} {n : Nat} : ∀ (k j : Nat) (a : Int64), j ≤ n → (dgM f n k j a).2 ≤ n := by
  intro k
  induction k with
  | zero => intro j a h; exact h
  | succ k ih =>
    intro j a h
    simp only [dgM]
    split
    · next hd => exact ih _ _ (digH_lt hd)
    · exact h
theorem nuB_le {f : Nat → Int32} {n i : Nat} {mi : Bool} {p : Int64 × Nat} (h : nuB f n i mi = some p) : p.2 ≤ n := by
  unfold nuB at h
  split at h
  · cases h
  · next hd =>
    have hd := digH_lt (Classical.not_not.mp hd)
    split at h
    · cases h
    · cases h
      show (dgN f n i).2 ≤ n
      unfold dgN
      split
      · exact hd
      · exact dgM_le _ _ _ (Nat.le_of_lt hd)
theorem leaf_le {f : Nat → Int32} {n i : Nat} {p : LF × Nat} (h : pLeaf f n i = some p) : p.2 ≤ n := by
  unfold pLeaf at h
  split at h
  · split at h
    · next h1 => cases h; exact mtch_le (k := 3) (mtB_iff.mp h1) (by decide)
    · cases h
  · split at h
    · split at h
      · next h1 => cases h; exact mtch_le (k := 3) (mtB_iff.mp h1) (by decide)
      · cases h
    · split at h
      · split at h
        · next h1 => cases h; exact mtch_le (k := 4) (mtB_iff.mp h1) (by decide)
        · cases h
      · split at h
        · split at h
          · next q hq =>
            cases h
            unfold qtQ at hq
            by_cases h0 : hereV f n i = 34
            · rw [if_pos h0] at hq; exact qt_le _ _ q.2 _ q.1 hq
            · rw [if_neg h0] at hq; cases hq
          · cases h
        · split at h
          · split at h
            · next q hq =>
              cases h
              unfold numM at hq
              split at hq
              · exact nuB_le hq
              · exact nuB_le hq
            · cases h
          · cases h
theorem in_le {β : Type} {f : Nat → Int32} {n : Nat} {pv : Nat → Option (β × Nat)} {op : Int32} (ho : 0 ≤ clo op) : ∀ (m i : Nat) (acc : List (List Int32 × β)) (p : List (List Int32 × β) × Nat), pIn f n pv op m i acc = some p → p.2 ≤ n := by
  intro m
  induction m with
  | zero => intro i acc p h; simp [pIn] at h
  | succ m ih =>
    intro i acc p h
    simp only [pIn] at h
    split at h
    · cases h
    · split at h
      · cases h
      · split at h
        · next h1 => cases h; exact here_in h1 ho
        · split at h
          · exact ih _ _ _ h
          · cases h
theorem pV_le {f : Nat → Int32} {n : Nat} : ∀ {r i : Nat} {p : JVt r × Nat}, pV f n r i = some p → p.2 ≤ n := by
  intro r i p h
  have sk : ∀ j, j ≤ n → skipH f n j ≤ n := fun j hj => by have := (skipH_le f n j).2; omega
  by_cases hc : hereV f n (skipH f n i) = 91 ∨ hereV f n (skipH f n i) = 123
  · cases r with
    | zero =>
      obtain ⟨q, hq, e⟩ := Option.map_eq_some_iff.mp (show (pLeaf f n (skipH f n i)).map (fun p => (jleaf 0 p.1, skipH f n p.2)) = some p from h)
      cases e
      exact sk _ (leaf_le hq)
    | succ r =>
      simp only [pV] at h
      rw [if_pos hc] at h
      obtain ⟨q, hq, e⟩ := Option.map_eq_some_iff.mp h
      cases e
      refine sk _ ?_
      have ho : 0 ≤ clo (hereV f n (skipH f n i)) := by rcases hc with e | e <;> rw [e] <;> decide
      unfold pInside at hq
      split at hq
      · next h1 => cases hq; exact here_in h1 ho
      · exact in_le ho _ _ _ _ hq
  · rw [pV_leaf _ hc] at h
    obtain ⟨q, hq, e⟩ := Option.map_eq_some_iff.mp h
    cases e
    exact sk _ (leaf_le hq)
theorem pR_ok {f : Nat → Int32} {n : Nat} {x : JVt 32} (h : pR f n = some x) : wfV 32 x ∧ (prV 32 x).length ≤ n ∧ allL smF 32 x := by
  unfold pR at h
  split at h
  · cases h
  · next p hp =>
    split at h
    · cases h
    · cases h
      obtain ⟨a1, a2⟩ := val_ok 32 0 p.1 p.2 hp
      have hj : p.2 ≤ n := pV_le hp
      exact ⟨a1, by omega, wf_sm 32 _ a1⟩
/-- what is written of a document is a document -/
theorem pR_pr {f : Nat → Int32} {n : Nat} {x : JVt 32} (h : wfV 32 x) (hn : (prV 32 x).length = n) (hA : At f n 0 (prV 32 x)) : pR f n = some x := by
  have e : hereV f n (0 + (prV 32 x).length) = -1 := by unfold hereV; rw [if_neg (by omega)]
  unfold pR
  rw [val_pr 32 x 0 h hA (Or.inl e)]
  simp only []
  rw [if_neg (by omega)]
