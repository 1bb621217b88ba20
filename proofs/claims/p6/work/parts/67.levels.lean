set_option maxHeartbeats 4000000 in
set_option maxRecDepth 100000 in
/-- the reference's reader of queries, d brackets may still be opened -/
theorem c_lvl0 : ORC (fun f n => (DDf f n 0).1) (DDp 0).1 16 (15 + (15 + 0)) (600 + (600 + 0)) ∧ CMC (fun f n => (DDf f n 0).2.1) (DDp 0).2.1 16 (11 + (15 + 0)) (400 + (600 + 0)) ∧ QYC (fun f n => (DDf f n 0).2.2) (DDp 0).2.2 16 (10 + (15 + 0)) (320 + (600 + 0)) := by
  refine ⟨?_, ?_, ?_⟩
  · intro l dC dI mo sz v cB cI cL cC qx NN f n K tv Q V i br hnN hNN hi0 h6 h8 h22 hQ hV hcu hcr
    exact c_or (fun _ _ _ => none) (fun _ _ _ => none) (fun _ _ _ _ => none) noQ noQ noQ 0 0 noQ_fr noQ_fr noQ_fr l dC dI mo sz v cB cI cL cC qx NN f n K tv Q V 16 i br false ⟨fun h => absurd h (by decide), fun h => absurd rfl h⟩ (Nat.le_refl _) (fun h => absurd rfl h) (fun h => absurd rfl h) (fun h => absurd rfl h) hnN hNN hi0 h6 h8 h22 hQ hV hcu hcr
  · intro l dC dI mo sz v cB cI cL cC qx NN f n K tv Q V i br hnN hNN hi0 h6 h8 h22 hQ hV hcu hcr
    exact c_cmp (fun _ _ _ => none) (fun _ _ _ => none) (fun _ _ _ _ => none) noQ noQ noQ 0 0 noQ_fr noQ_fr noQ_fr l dC dI mo sz v cB cI cL cC qx NN f n K tv Q V 16 i br false ⟨fun h => absurd h (by decide), fun h => absurd rfl h⟩ (Nat.le_refl _) (fun h => absurd rfl h) (fun h => absurd rfl h) (fun h => absurd rfl h) hnN hNN hi0 h6 h8 h22 hQ hV hcu hcr
  · intro l dC dI mo sz v cB cI cL cC qx NN f n K tv Q V i br rt rti hrt hnN hNN hi0 h6 h8 h22 hQ hV hcu hcr
    have h := c_qr0 (fun _ _ _ => none) noQ (15 + 0) (600 + 0) noQ_fr l dC dI mo sz v cB cI cL cC qx NN f n K tv Q V 16 i br rt rti hrt false ⟨fun h => absurd h (by decide), fun h => absurd rfl h⟩ (Nat.le_refl _) (fun h => absurd rfl h) hnN hNN hi0 h6 h8 h22 hQ hV hcu hcr
    refine met_post h ?_
    rintro a9 st9 o9 t9 ⟨⟨r9, u9, ho9, hw9, hB9⟩, hF9⟩
    refine ⟨⟨r9, u9, ho9, ⟨hw9.1, ?_⟩, hB9⟩, hF9⟩
    rcases hw9.2 with ⟨fl, m9, g1, g2, g3, g4, g5, g6, g7, g8, g9, g10⟩ | ⟨g1, g2⟩
    · exact Or.inl ⟨fl, m9, g1, g2, g3, g4, g6, g7, g8, g9, g10⟩
    · exact Or.inr ⟨g1, g2⟩
set_option maxHeartbeats 4000000 in
set_option maxRecDepth 100000 in
theorem c_lvlS (d G M : Nat) (hd : d + 1 ≤ 16) (h1 : ORC (fun f n => (DDf f n d).1) (DDp d).1 (16 - (d + 1) + 1) (15 + G) (600 + M)) (h2 : CMC (fun f n => (DDf f n d).2.1) (DDp d).2.1 (16 - (d + 1) + 1) (11 + G) (400 + M)) (h3 : QYC (fun f n => (DDf f n d).2.2) (DDp d).2.2 (16 - (d + 1) + 1) (10 + G) (320 + M)) : ORC (fun f n => (DDf f n (d + 1)).1) (DDp (d + 1)).1 (16 - (d + 1)) (15 + (15 + G)) (600 + (600 + M)) ∧ CMC (fun f n => (DDf f n (d + 1)).2.1) (DDp (d + 1)).2.1 (16 - (d + 1)) (11 + (15 + G)) (400 + (600 + M)) ∧ QYC (fun f n => (DDf f n (d + 1)).2.2) (DDp (d + 1)).2.2 (16 - (d + 1)) (10 + (15 + G)) (320 + (600 + M)) := by
  have hf := DDp_fr d
  have hno : ¬ 16 - (d + 1) = 16 := by omega
  refine ⟨?_, ?_, ?_⟩
  · intro l dC dI mo sz v cB cI cL cC qx NN f n K tv Q V i br hnN hNN hi0 h6 h8 h22 hQ hV hcu hcr
    exact c_or (fun f n => (DDf f n d).1) (fun f n => (DDf f n d).2.1) (fun f n => (DDf f n d).2.2) (DDp d).1 (DDp d).2.1 (DDp d).2.2 G M hf.1 hf.2.1 hf.2.2 l dC dI mo sz v cB cI cL cC qx NN f n K tv Q V (16 - (d + 1)) i br true ⟨fun _ => hno, fun _ => rfl⟩ (Nat.sub_le _ _) (fun _ => h1) (fun _ => h2) (fun _ => h3) hnN hNN hi0 h6 h8 h22 hQ hV hcu hcr
  · intro l dC dI mo sz v cB cI cL cC qx NN f n K tv Q V i br hnN hNN hi0 h6 h8 h22 hQ hV hcu hcr
    exact c_cmp (fun f n => (DDf f n d).1) (fun f n => (DDf f n d).2.1) (fun f n => (DDf f n d).2.2) (DDp d).1 (DDp d).2.1 (DDp d).2.2 G M hf.1 hf.2.1 hf.2.2 l dC dI mo sz v cB cI cL cC qx NN f n K tv Q V (16 - (d + 1)) i br true ⟨fun _ => hno, fun _ => rfl⟩ (Nat.sub_le _ _) (fun _ => h1) (fun _ => h2) (fun _ => h3) hnN hNN hi0 h6 h8 h22 hQ hV hcu hcr
  · intro l dC dI mo sz v cB cI cL cC qx NN f n K tv Q V i br rt rti hrt hnN hNN hi0 h6 h8 h22 hQ hV hcu hcr
    have h := c_qr0 (fun f n => (DDf f n d).1) (DDp d).1 (15 + G) (600 + M) hf.1 l dC dI mo sz v cB cI cL cC qx NN f n K tv Q V (16 - (d + 1)) i br rt rti hrt true ⟨fun _ => hno, fun _ => rfl⟩ (Nat.sub_le _ _) (fun _ => h1) hnN hNN hi0 h6 h8 h22 hQ hV hcu hcr
    refine met_post h ?_
    rintro a9 st9 o9 t9 ⟨⟨r9, u9, ho9, hw9, hB9⟩, hF9⟩
    refine ⟨⟨r9, u9, ho9, ⟨hw9.1, ?_⟩, hB9⟩, hF9⟩
    rcases hw9.2 with ⟨fl, m9, g1, g2, g3, g4, g5, g6, g7, g8, g9, g10⟩ | ⟨g1, g2⟩
    · exact Or.inl ⟨fl, m9, g1, g2, g3, g4, g6, g7, g8, g9, g10⟩
    · exact Or.inr ⟨g1, g2⟩
theorem c_lvl : ∀ d, d ≤ 16 → ORC (fun f n => (DDf f n d).1) (DDp d).1 (16 - d) (15 + (15 + 15 * d)) (600 + (600 + 600 * d)) ∧ CMC (fun f n => (DDf f n d).2.1) (DDp d).2.1 (16 - d) (11 + (15 + 15 * d)) (400 + (600 + 600 * d)) ∧ QYC (fun f n => (DDf f n d).2.2) (DDp d).2.2 (16 - d) (10 + (15 + 15 * d)) (320 + (600 + 600 * d)) := by
  intro d
  induction d with
  | zero => intro _; exact c_lvl0
  | succ d ih =>
    intro hd
    obtain ⟨h1, h2, h3⟩ := ih (by omega)
    rw [show 16 - d = 16 - (d + 1) + 1 by omega] at h1 h2 h3
    rw [show 15 * (d + 1) = 15 + 15 * d by omega, show 600 * (d + 1) = 600 + 600 * d by omega]
    exact c_lvlS d (15 + 15 * d) (600 + 600 * d) hd h1 h2 h3
