/-- what a reader of queries leaves: new objects beside those that were there -/
def QG (cI cV : ClassId) (E lv : Nat → Nat) (L : List Nat) (f : Nat → va_E) (i n p z : Nat) (N : List Nat) (E' lv' : Nat → Nat) (f' : Nat → va_E) : Prop := i ≤ p ∧ p ≤ n ∧ PO cI cV E' lv' (L ++ N) f' ∧ EX E E' ∧ (∀ a, E a ≠ 0 → lv' a = lv a) ∧ (∀ a, a ∈ L → f' a = f a) ∧ (∀ a, E a = 0 → E' a ≠ 1) ∧ (∀ a, E a = 0 → E' a ≠ 0 → z ≤ a)
section QGs
variable {cI cV : ClassId} {E lv E1 lv1 E2 lv2 : Nat → Nat} {L N N2 : List Nat} {f f1 f2 : Nat → va_E} {i n p p2 z z2 q s b : Nat} {e : va_E}
theorem QG.rf (h : PO cI cV E lv L f) (hin : i ≤ n) : QG cI cV E lv L f i n i z [] E lv f := ⟨Nat.le_refl _, hin, by rw [List.append_nil]; exact h, EX.rf, fun _ _ => rfl, fun _ _ => rfl, fun a ha => by rw [ha]; decide, fun a ha hb => absurd ha hb⟩
theorem QG.num (h : QG cI cV E lv L f i n p z N E1 lv1 f1) : i ≤ p ∧ p ≤ n := ⟨h.1, h.2.1⟩
theorem QG.po (h : QG cI cV E lv L f i n p z N E1 lv1 f1) : PO cI cV E1 lv1 (L ++ N) f1 := h.2.2.1
theorem QG.ex (h : QG cI cV E lv L f i n p z N E1 lv1 f1) : EX E E1 := h.2.2.2.1
theorem QG.on (h : QG cI cV E lv L f i n p z N E1 lv1 f1) : ∀ a, a ∈ L → f1 a = f a := h.2.2.2.2.2.1
theorem QG.mv (h : QG cI cV E lv L f i n p z N E1 lv1 f1) (h1 : p ≤ p2) (h2 : p2 ≤ n) : QG cI cV E lv L f i n p2 z N E1 lv1 f1 := ⟨Nat.le_trans h.1 h1, h2, h.2.2⟩
theorem QG.tr (h : QG cI cV E lv L f i n p z N E1 lv1 f1) (g : QG cI cV E1 lv1 (L ++ N) f1 p n p2 z2 N2 E2 lv2 f2) (hz : z ≤ z2) : QG cI cV E lv L f i n p2 z (N ++ N2) E2 lv2 f2 := by
  obtain ⟨a1, a2, a3, a4, a5, a6, a7, a8⟩ := h
  obtain ⟨b1, b2, b3, b4, b5, b6, b7, b8⟩ := g
  have x1 : ∀ a, E a ≠ 0 → E1 a ≠ 0 := fun a ha => by rw [a4 a ha]; exact ha
  refine ⟨Nat.le_trans a1 b1, b2, by rw [← List.append_assoc]; exact b3, a4.tr b4, fun a ha => (b5 a (x1 a ha)).trans (a5 a ha), fun a ha => (b6 a (List.mem_append_left _ ha)).trans (a6 a ha), fun a ha => ?_, fun a ha hb => ?_⟩
  · by_cases h1 : E1 a = 0
    · exact b7 a h1
    · rw [b4 a h1]; exact a7 a ha
  · by_cases h1 : E1 a = 0
    · exact Nat.le_trans hz (b8 a h1 hb)
    · exact a8 a ha h1
theorem QG.add (h : QG cI cV E lv L f i n p z N E1 lv1 f1) (hq : E1 q = 0) (hqL : q ∉ L ++ N) (hz : z ≤ q) (hs0 : s ≠ 0) (hs1 : s ≠ 1) (hc : CO cI cV (va_up E1 q s) (va_up lv1 q b) q e) : QG cI cV E lv L f i n p z (N ++ [q]) (va_up E1 q s) (va_up lv1 q b) (va_up f1 q e) := by
  obtain ⟨a1, a2, a3, a4, a5, a6, a7, a8⟩ := h
  have hx := EX.new (s := s) hq
  have hq0 : E q = 0 := Classical.byContradiction fun h => h (by rw [← a4 q h]; exact hq)
  refine ⟨a1, a2, ?_, a4.tr hx, fun a ha => ?_, fun a ha => ?_, fun a ha => ?_, fun a ha hb => ?_⟩
  · rw [← List.append_assoc]
    refine a3.go hx.el (fun c hc => va_up_ne _ _ (fun e => by rw [e, hq] at hc; omega)) (fun a ha => ?_) (fun a ha => ?_)
    · by_cases e : a = q
      · rw [e]; exact List.mem_append_right _ (List.mem_singleton.mpr rfl)
      · rw [va_up_ne _ _ e] at ha; exact List.mem_append_left _ (a3.inL ha)
    · by_cases e : a = q
      · subst e
        right
        rw [va_up_self]
        exact hc
      · left
        rw [va_up_ne _ _ e, va_up_ne _ _ e]
        exact ⟨rfl, rfl⟩
  · rw [va_up_ne _ _ (show a ≠ q from fun e => ha (e ▸ hq0))]
    exact a5 a ha
  · rw [va_up_ne _ _ (show a ≠ q from fun e => hqL (e ▸ List.mem_append_left _ ha))]
    exact a6 a ha
  · by_cases e : a = q
    · rw [e, va_up_self]; exact hs1
    · rw [va_up_ne _ _ e]; exact a7 a ha
  · by_cases e : a = q
    · rw [e]; exact hz
    · rw [va_up_ne _ _ e] at hb; exact a8 a ha hb
theorem QG.upd (h : QG cI cV E lv L f i n p z N E1 lv1 f1) (hqL : q ∉ L) (hc : CO cI cV E1 lv1 q e) : QG cI cV E lv L f i n p z N E1 lv1 (va_up f1 q e) := by
  obtain ⟨a1, a2, a3, a4, a5, a6, a7, a8⟩ := h
  refine ⟨a1, a2, ?_, a4, a5, fun a ha => ?_, a7, a8⟩
  · refine a3.go EX.rf.el (fun _ _ => rfl) (fun a ha => a3.inL ha) (fun a ha => ?_)
    by_cases e : a = q
    · subst e
      right
      rw [va_up_self]
      exact hc
    · left
      rw [va_up_ne _ _ e]
      exact ⟨rfl, rfl⟩
  · rw [va_up_ne _ _ (show a ≠ q from fun e => hqL (e ▸ ha))]
    exact a6 a ha
end QGs
section Cells2
variable {cI cV : ClassId} {E lv : Nat → Nat} {a : Nat} {e : va_E}
theorem CO.Q (ha : E a = 7) (h : ∃ fr sg fi la, e = qE fr sg fi la ∧ oR (fun b => E b = 8 ∧ lv b ≤ lv a) fi ∧ oR (fun b => E b = 8) la) : CO cI cV E lv a e := ⟨fun g => by rcases g with g | g | g <;> omega, fun g => by omega, fun g => by rcases g with g | g <;> omega, fun _ => h, fun g => by omega, fun g => by omega, fun g => by omega, fun g => by omega⟩
theorem CO.G (ha : E a = 8) (h : ∃ ds fi nx, e = gE ds fi nx ∧ GO E lv a fi nx) : CO cI cV E lv a e := ⟨fun g => by rcases g with g | g | g <;> omega, fun g => by omega, fun g => by rcases g with g | g <;> omega, fun g => by omega, fun _ => h, fun g => by omega, fun g => by omega, fun g => by omega⟩
theorem CO.L (ha : E a = 9) (h : ∃ kd nm hs ht st sp se fl nx, e = lE kd nm hs ht st sp se fl nx ∧ LO E lv a kd nm se fl nx) : CO cI cV E lv a e := ⟨fun g => by rcases g with g | g | g <;> omega, fun g => by omega, fun g => by rcases g with g | g <;> omega, fun g => by omega, fun g => by omega, fun _ => h, fun g => by omega, fun g => by omega⟩
theorem CO.K (ha : E a = 10) (h : ∃ kd fi nx qu le ri, e = kE kd fi nx qu le ri ∧ KO E lv a kd fi nx qu le ri) : CO cI cV E lv a e := ⟨fun g => by rcases g with g | g | g <;> omega, fun g => by omega, fun g => by rcases g with g | g <;> omega, fun g => by omega, fun g => by omega, fun g => by omega, fun _ => h, fun g => by omega⟩
theorem CO.O (ha : E a = 11) (h : ∃ kd va qu inn, e = oE kd va qu inn ∧ OO E lv a kd va qu inn) : CO cI cV E lv a e := ⟨fun g => by rcases g with g | g | g <;> omega, fun g => by omega, fun g => by rcases g with g | g <;> omega, fun g => by omega, fun g => by omega, fun g => by omega, fun g => by omega, fun _ => h⟩
end Cells2
/-- a new cell lies behind all that was there at the start -/
theorem newA {A : Nat → Prop} {ws0 ws : va_W} {z q : Nat} {e : va_E} (hA : va_A ws0 z = A) (hD : va_D A (ws ++ [(q, e)])) (hs : ∀ (k : Nat) (x : Nat × va_E), ws0[k]? = some x → ∃ (j : Nat) (y : va_E), ws[j]? = some (x.1, y)) : z ≤ q := by
  have h1 : A q := hD.2 ws.length (q, e) (by rw [List.getElem?_append_right (Nat.le_refl _), Nat.sub_self]; rfl)
  rw [← hA] at h1
  rcases h1 with ⟨k, y, hk⟩ | h1
  · obtain ⟨j, w, hj⟩ := hs k _ hk
    have hl := (List.getElem?_eq_some_iff.mp hj).1
    have e1 := hD.1 j ws.length (q, w) (q, e) (by rw [List.getElem?_append_left hl]; exact hj) (by rw [List.getElem?_append_right (Nat.le_refl _), Nat.sub_self]; rfl) rfl
    omega
  · exact h1
