/-- what a value that has been read leaves -/
def JP (cI cV : ClassId) (E lv : Nat → Nat) (L : List Nat) (f : Nat → va_E) (la : Option Nat) (i n v p : Nat) (N : List Nat) (E' : Nat → Nat) (f' : Nat → va_E) (lb : Nat) : Prop := i < p ∧ p ≤ n ∧ PO cI cV E' lv (L ++ N) f' ∧ EX E E' ∧ (∀ a, E a = 0 → E' a ≠ 1) ∧ KX E la f f' ∧ isV E' lb ∧ E lb = 0 ∧ E' v = 2 ∧ E v = 0 ∧ nmF f' v = none
/-- what a container's members leave -/
def MP (cI cV : ClassId) (E lv : Nat → Nat) (L : List Nat) (f : Nat → va_E) (it i n p : Nat) (kd : Int32) (N : List Nat) (E' : Nat → Nat) (f' : Nat → va_E) (lb : Nat) : Prop := i ≤ p ∧ p ≤ n ∧ PO cI cV E' lv (L ++ N) f' ∧ EX E E' ∧ (∀ a, E a = 0 → E' a ≠ 1) ∧ (∀ a, E a ≠ 0 → a ≠ it → f' a = f a) ∧ isV E' lb ∧ (lb = it ∨ E lb = 0) ∧ ∃ me no, f' it = vE kd 0 none me none none 0 none no 0 ∧ (kd = 6 → oR (fun b => E' b = 6) me)
/-- the loop over members -/
def LJ (cI cV : ClassId) (E lv : Nat → Nat) (L : List Nat) (f : Nat → va_E) (it i n : Nat) (kd : Int32) (ms : List Nat) (p : Nat) (N : List Nat) (E1 : Nat → Nat) (f1 : Nat → va_E) (lb : Nat) : Prop := i ≤ p ∧ p ≤ n ∧ ms.length ≤ p - i ∧ ms.length ≤ 4096 ∧ PO cI cV E1 lv (L ++ N) f1 ∧ EX E E1 ∧ (∀ a, E a = 0 → E1 a ≠ 1) ∧ (∀ a, E a ≠ 0 → a ≠ it → f1 a = f a) ∧ (∃ no, f1 it = vE kd 0 none none none none 0 none no 0) ∧ (isV E1 lb ∧ (lb = it ∨ E lb = 0)) ∧ CHM E1 f1 (fun a => E a = 0 ∧ isF E1 a ∧ (kd = 6 → E1 a = 3) ∧ (¬ kd = 6 → E1 a = 2)) ms ∧ INJ ms
theorem LJ.next {cI cV : ClassId} {E lv : Nat → Nat} {L : List Nat} {f : Nat → va_E} {it i n : Nat} {kd : Int32} {ms : List Nat} {p : Nat} {N : List Nat} {E1 : Nat → Nat} {f1 : Nat → va_E} {lb : Nat} (h : LJ cI cV E lv L f it i n kd ms p N E1 f1 lb) (hit : E it = 1)
    {E2 : Nat → Nat} {f2 : Nat → va_E} {N2 : List Nat} {p2 : Nat} (hp2 : p ≤ p2) (hx2 : EX E1 E2) (hn2 : ∀ a, E1 a = 0 → E2 a ≠ 1) (hf2 : ∀ a, E1 a ≠ 0 → f2 a = f1 a) (hO2 : PO cI cV E2 lv (L ++ N2) f2)
    {v p3 : Nat} {N3 : List Nat} {E3 : Nat → Nat} {f3 : Nat → va_E} {lb3 : Nat} (hJ : JP cI cV E2 lv (L ++ N2) f2 (some lb) p2 n v p3 N3 E3 f3 lb3)
    {s : Nat} {f4 : Nat → va_E} (hs : (s = 2 ∧ ¬ kd = 6) ∨ (s = 3 ∧ kd = 6)) (hE4 : EL E3 (va_up E3 v s)) (hO4 : PO cI cV (va_up E3 v s) lv (L ++ (N2 ++ N3)) f4) (hoff : ∀ a, a ≠ v → ms[ms.length - 1]? ≠ some a → f4 a = f3 a) (hnv : nmF f4 v = none) (hnz : ∀ z, ms[ms.length - 1]? = some z → nmF f4 z = some v)
    {p4 : Nat} (hp4 : p3 ≤ p4) (hp5 : p4 ≤ n) (hlen : ms.length < 4096) : LJ cI cV E lv L f it i n kd (ms ++ [v]) p4 (N2 ++ N3) (va_up E3 v s) f4 lb3 := by
  obtain ⟨a1, a2, a3, a4, a5, a6, a7, a8, ⟨no, a9⟩, ⟨b1, b2⟩, b3, b4⟩ := h
  obtain ⟨c1, c2, c3, c4, c5, ⟨c6, c7⟩, c8, c9, d1, d2, d3⟩ := hJ
  have x13 : EX E1 E3 := hx2.tr c4
  have xE3 : EX E E3 := a6.tr x13
  have hv1 : E1 v = 0 := Classical.byContradiction fun h => h (by rw [← hx2 v h]; exact d2)
  have hv0 : E v = 0 := Classical.byContradiction fun h => h (by rw [← a6 v h]; exact hv1)
  have hs0 : s ≠ 0 ∧ s ≠ 1 := by rcases hs with ⟨h, -⟩ | ⟨h, -⟩ <;> omega
  have ne_v : ∀ a, E a ≠ 0 → a ≠ v := fun a ha e => ha (e ▸ hv0)
  have ne1_v : ∀ a, E1 a ≠ 0 → a ≠ v := fun a ha e => ha (e ▸ hv1)
  have ms0 : ∀ a, a ∈ ms → E1 a ≠ 0 ∧ E a = 0 ∧ isF E1 a ∧ (kd = 6 → E1 a = 3) ∧ (¬ kd = 6 → E1 a = 2) := fun a ha => by
    obtain ⟨j, hj⟩ := List.getElem?_of_mem ha
    obtain ⟨q1, q2, q3, q4⟩ := b3 j a hj
    exact ⟨q1, q3⟩
  have last_old : ∀ a, E a ≠ 0 → ms[ms.length - 1]? ≠ some a := fun a ha e => ha (ms0 a (List.mem_of_getElem? e)).2.1
  have f3old : ∀ a, E a ≠ 0 → a ≠ it → f3 a = f a := fun a ha hai => by
    have q1 : E1 a ≠ 0 := by rw [a6 a ha]; exact ha
    have q2 : E2 a ≠ 0 := by rw [hx2 a q1]; exact q1
    rw [c7 a q2 (fun e => by
      have e := Option.some.inj e
      rcases b2 with b2 | b2
      · exact hai (e.symm.trans b2)
      · exact ha (e ▸ b2)), hf2 a q1]
    exact a8 a ha hai
  have hE3v : E3 v ≠ 0 := by rw [d1]; decide
  have val3 : ∀ a, isV E3 a → ∃ kd nu tx me pa na ix nm no sp, f3 a = vE kd nu tx me pa na ix nm no sp := fun a ha => by
    obtain ⟨z1, z2, z3, z4, z5, z6, z7, z8, z9, z10, e, -⟩ := c3.val ha
    exact ⟨z1, z2, z3, z4, z5, z6, z7, z8, z9, z10, e⟩
  have nm3 : ∀ a, a ∈ ms → nmF f3 a = nmF f1 a := fun a ha => by
    obtain ⟨q1, -, q3, -⟩ := ms0 a ha
    have q2 : E2 a ≠ 0 := by rw [hx2 a q1]; exact q1
    have e1 : nmF f2 a = nmF f1 a := by unfold nmF; rw [hf2 a q1]
    rw [← e1]
    obtain ⟨z1, z2, z3, z4, z5, z6, z7, z8, z9, z10, e, -⟩ := a5.val (isF.v q3)
    exact nmF_8 ⟨_, _, _, _, _, _, _, _, _, _, (hf2 a q1).trans e⟩ (val3 a (x13.el.v (isF.v q3))) (c6 a q2)
  refine ⟨by omega, hp5, by rw [List.length_append]; show ms.length + 1 ≤ p4 - i; omega, by rw [List.length_append]; show ms.length + 1 ≤ 4096; omega, hO4, ?_, ?_, ?_, ?_, ?_, ?_, ?_⟩
  · exact fun a ha => (va_up_ne _ _ (ne_v a ha)).trans (xE3 a ha)
  · intro a ha
    by_cases e : a = v
    · rw [e, va_up_self]; exact hs0.2
    · rw [va_up_ne _ _ e]
      by_cases h2 : E2 a = 0
      · exact c5 a h2
      · rw [c4 a h2]
        by_cases h1 : E1 a = 0
        · exact hn2 a h1
        · rw [hx2 a h1]; exact a7 a ha
  · exact fun a ha hai => (hoff a (ne_v a ha) (last_old a ha)).trans (f3old a ha hai)
  · have hi0 : E it ≠ 0 := by omega
    have q1 : E1 it ≠ 0 := by rw [a6 it hi0]; exact hi0
    have q2 : E2 it ≠ 0 := by rw [hx2 it q1]; exact q1
    have e1 := c6 it q2
    rw [hf2 it q1, a9] at e1
    obtain ⟨no', e2⟩ := nx8_v (val3 it (Or.inl (by rw [xE3 it hi0]; exact hit))) e1
    exact ⟨no', (hoff it (ne_v it hi0) (last_old it hi0)).trans e2⟩
  · refine ⟨hE4.v c8, Or.inr (Classical.byContradiction fun h => ?_)⟩
    have q1 : E1 lb3 ≠ 0 := by rw [a6 lb3 h]; exact h
    exact q1 (by rw [← hx2 lb3 q1]; exact c9)
  · refine b3.app b4 (fun a ha => ?_) ⟨?_, ?_, hv0, ?_, ?_, ?_⟩ hnv hnz (fun a ha hl => ?_)
    · obtain ⟨q1, q2, q3, q4⟩ := ms0 a ha
      have e : va_up E3 v s a = E1 a := (va_up_ne _ _ (ne1_v a q1)).trans (x13 a q1)
      refine ⟨by rw [e]; exact q1, hE4.v (x13.el.v (isF.v q3)), q2, hE4.f (x13.el.f q3), fun hk => by rw [e]; exact q4.1 hk, fun hk => by rw [e]; exact q4.2 hk⟩
    · rw [va_up_self]; exact hs0.1
    · exact hE4.v (Or.inr (Or.inl d1))
    · exact hE4.f (Or.inl d1)
    · intro hk
      rw [va_up_self]
      rcases hs with ⟨-, h⟩ | h
      · exact absurd hk h
      · exact h.1
    · intro hk
      rw [va_up_self]
      rcases hs with h | h
      · exact h.1
      · exact absurd h.2 hk
    · have e : nmF f4 a = nmF f3 a := by unfold nmF; rw [hoff a (ne1_v a (ms0 a ha).1) hl]
      rw [e]
      exact nm3 a ha
  · exact b4.app (fun h => (ms0 v h).1 hv1)
theorem LJ.start {cI cV : ClassId} {E lv : Nat → Nat} {L : List Nat} {f : Nat → va_E} {it i n : Nat} {kd : Int32} (h : PO cI cV E lv L f) (hin : i ≤ n) (hit : E it = 1) (ef : f it = vE kd 0 none none none none 0 none none 0) : LJ cI cV E lv L f it i n kd [] i [] E f it := ⟨Nat.le_refl _, hin, Nat.zero_le _, Nat.zero_le _, by rw [List.append_nil]; exact h, EX.rf, fun a ha => by omega, fun _ _ _ => rfl, ⟨_, ef⟩, ⟨Or.inl hit, Or.inl rfl⟩, fun j a h => by simp at h, fun j k a h => by simp at h⟩
theorem LJ.fin {cI cV : ClassId} {E lv : Nat → Nat} {L : List Nat} {f : Nat → va_E} {it i n : Nat} {kd : Int32} {ms : List Nat} {p : Nat} {N : List Nat} {E1 : Nat → Nat} {f1 : Nat → va_E} {lb : Nat} (h : LJ cI cV E lv L f it i n kd ms p N E1 f1 lb) (hit : E it = 1) {ra s : Nat} {g : Nat → Option Nat} {no : Option Nat} (hra : E1 ra = 0) (hg : ∀ k, k < ms.length → g k = ms[k]?) (ef : f1 it = vE kd 0 none none none none 0 none no 0) (hs : (s = 5 ∧ ¬ kd = 6) ∨ (s = 6 ∧ kd = 6)) :
    MP cI cV E lv L f it i n p kd (N ++ [ra]) (va_up E1 ra s) (va_up (va_up f1 it (vE kd 0 none (some ra) none none 0 none no 0)) ra (aE cV ms.length g)) lb := by
  obtain ⟨a1, a2, a3, a4, a5, a6, a7, a8, -, ⟨b1, b2⟩, b3, b4⟩ := h
  have hi0 : E it ≠ 0 := by omega
  have hi1 : E1 it = 1 := (a6 it hi0).trans hit
  have hr0 : E ra = 0 := Classical.byContradiction fun h => h (by rw [← a6 ra h]; exact hra)
  have hx := EX.new (s := s) hra
  have hir : it ≠ ra := fun e => by rw [e] at hi1; omega
  refine ⟨a1, a2, ?_, a6.tr hx, fun a ha => ?_, fun a ha hai => ?_, hx.el.v b1, b2, some ra, no, ?_, fun hk b hb => ?_⟩
  · rw [← List.append_assoc]
    refine a5.memR hi1 hra a4 ef (fun j hj => ?_) (by rcases hs with hs | hs; (· exact Or.inl hs.1); (· exact Or.inr hs.1))
    obtain ⟨b, hb⟩ : ∃ b, ms[j]? = some b := ⟨_, List.getElem?_eq_getElem hj⟩
    obtain ⟨q1, q2, q3, q4⟩ := b3 j b hb
    exact ⟨b, (hg j hj).trans hb, q3.2.1, fun h6 => q3.2.2.1 (by rcases hs with hs | hs; (· omega); (· exact hs.2))⟩
  · by_cases e : a = ra
    · rw [e, va_up_self]; rcases hs with hs | hs <;> omega
    · rw [va_up_ne _ _ e]; exact a7 a ha
  · rw [va_up_ne _ _ (show a ≠ ra from fun e => ha (e ▸ hr0)), va_up_ne _ _ hai]
    exact a8 a ha hai
  · rw [va_up_ne _ _ hir, va_up_self]
  · cases hb
    rw [va_up_self]
    rcases hs with hs | hs
    · exact absurd hk hs.2
    · exact hs.1
section Acc
variable {cI cV : ClassId} {E lv : Nat → Nat} {L : List Nat} {f : Nat → va_E} {it i n : Nat} {kd : Int32} {ms : List Nat} {p : Nat} {N : List Nat} {E1 : Nat → Nat} {f1 : Nat → va_E} {lb v : Nat} {la : Option Nat}
theorem LJ.num (h : LJ cI cV E lv L f it i n kd ms p N E1 f1 lb) : i ≤ p ∧ p ≤ n ∧ ms.length ≤ p - i ∧ ms.length ≤ 4096 := ⟨h.1, h.2.1, h.2.2.1, h.2.2.2.1⟩
theorem LJ.po (h : LJ cI cV E lv L f it i n kd ms p N E1 f1 lb) : PO cI cV E1 lv (L ++ N) f1 := h.2.2.2.2.1
theorem LJ.ex (h : LJ cI cV E lv L f it i n kd ms p N E1 f1 lb) : EX E E1 := h.2.2.2.2.2.1
theorem LJ.old (h : LJ cI cV E lv L f it i n kd ms p N E1 f1 lb) : ∀ a, E a ≠ 0 → a ≠ it → f1 a = f a := h.2.2.2.2.2.2.2.1
theorem LJ.itf (h : LJ cI cV E lv L f it i n kd ms p N E1 f1 lb) : ∃ no, f1 it = vE kd 0 none none none none 0 none no 0 := h.2.2.2.2.2.2.2.2.1
theorem LJ.lbv (h : LJ cI cV E lv L f it i n kd ms p N E1 f1 lb) : isV E1 lb := h.2.2.2.2.2.2.2.2.2.1.1
theorem LJ.lbo (h : LJ cI cV E lv L f it i n kd ms p N E1 f1 lb) : lb = it ∨ E lb = 0 := h.2.2.2.2.2.2.2.2.2.1.2
theorem LJ.chn (h : LJ cI cV E lv L f it i n kd ms p N E1 f1 lb) : CHM E1 f1 (fun a => E a = 0 ∧ isF E1 a ∧ (kd = 6 → E1 a = 3) ∧ (¬ kd = 6 → E1 a = 2)) ms := h.2.2.2.2.2.2.2.2.2.2.1
theorem JP.num {N : List Nat} {E' : Nat → Nat} {f' : Nat → va_E} (h : JP cI cV E lv L f la i n v p N E' f' lb) : i < p ∧ p ≤ n := ⟨h.1, h.2.1⟩
theorem JP.po {N : List Nat} {E' : Nat → Nat} {f' : Nat → va_E} (h : JP cI cV E lv L f la i n v p N E' f' lb) : PO cI cV E' lv (L ++ N) f' := h.2.2.1
theorem JP.ex {N : List Nat} {E' : Nat → Nat} {f' : Nat → va_E} (h : JP cI cV E lv L f la i n v p N E' f' lb) : EX E E' := h.2.2.2.1
theorem JP.v2 {N : List Nat} {E' : Nat → Nat} {f' : Nat → va_E} (h : JP cI cV E lv L f la i n v p N E' f' lb) : E' v = 2 ∧ E v = 0 ∧ nmF f' v = none := h.2.2.2.2.2.2.2.2
/-- a throw in a member changes nothing that was there -/
theorem LJ.thr {E2 : Nat → Nat} {f2 fx : Nat → va_E} (h : LJ cI cV E lv L f it i n kd ms p N E1 f1 lb) (hx2 : EX E1 E2) (hf2 : ∀ a, E1 a ≠ 0 → f2 a = f1 a) (hw : ∀ a, E2 a ≠ 0 → some lb ≠ some a → fx a = f2 a) : ∀ a, E a ≠ 0 → a ≠ it → fx a = f a := fun a ha hai => by
  have q1 : E1 a ≠ 0 := by rw [h.ex a ha]; exact ha
  have q2 : E2 a ≠ 0 := by rw [hx2 a q1]; exact q1
  rw [hw a q2 (fun e => by
    have e := Option.some.inj e
    rcases h.lbo with b2 | b2
    · exact hai (e.symm.trans b2)
    · exact ha (e ▸ b2)), hf2 a q1]
  exact h.old a ha hai
end Acc
theorem NMs.next {cI cV : ClassId} {E lv : Nat → Nat} {L : List Nat} {f : Nat → va_E} {it i n : Nat} {kd : Int32} {ms : List Nat} {p : Nat} {N : List Nat} {E1 : Nat → Nat} {f1 : Nat → va_E} {lb : Nat} (h : LJ cI cV E lv L f it i n kd ms p N E1 f1 lb) {nms : List (List Int32)} (hN : NMs f1 ms nms)
    {E2 : Nat → Nat} {f2 : Nat → va_E} {N2 : List Nat} {p2 : Nat} (hx2 : EX E1 E2) (hf2 : ∀ a, E1 a ≠ 0 → f2 a = f1 a)
    {v p3 : Nat} {N3 : List Nat} {E3 : Nat → Nat} {f3 : Nat → va_E} {lb3 : Nat} (hJ : JP cI cV E2 lv (L ++ N2) f2 (some lb) p2 n v p3 N3 E3 f3 lb3)
    {f4 : Nat → va_E} (hoff : ∀ a, a ≠ v → ms[ms.length - 1]? ≠ some a → f4 a = f3 a) (hz : ∀ z, ms[ms.length - 1]? = some z → ∃ kd nu tx me pa na ix nm nm' no sp, f3 z = vE kd nu tx me pa na ix nm no sp ∧ f4 z = vE kd nu tx me pa na ix nm' no sp) {X : List Int32} (hv : nmL f4 v = some X) : NMs f4 (ms ++ [v]) (nms ++ [X]) := by
  obtain ⟨a1, a2, a3, a4, a5, a6, a7, a8, a9, ⟨b1, b2⟩, b3, b4⟩ := h
  obtain ⟨c1, c2, c3, c4, c5, ⟨c6, c7⟩, c8, c9, d1, d2, d3⟩ := hJ
  have hv1 : E1 v = 0 := Classical.byContradiction fun h => h (by rw [← hx2 v h]; exact d2)
  have txt : ∀ b, E1 b = 4 → f4 b = f1 b := fun b hb => by
    have q1 : E1 b ≠ 0 := by omega
    have q2 : E2 b = 4 := (hx2 b q1).trans hb
    have hbv : b ≠ v := fun e => by rw [e, hv1] at hb; cases hb
    have hbl : ms[ms.length - 1]? ≠ some b := fun e => by
      have h9 := (b3 _ _ e).2.1
      rcases h9 with h9 | h9 | h9 <;> omega
    rw [hoff b hbv hbl, c7 b (by omega) (fun e => by
      have e := Option.some.inj e
      rw [e] at b1
      rcases b1 with h9 | h9 | h9 <;> omega)]
    exact hf2 b q1
  refine ⟨by rw [List.length_append, List.length_append, hN.1]; rfl, fun j a hj => ?_⟩
  rcases at_app hj with ⟨h1, h2⟩ | ⟨h1, h2⟩
  · obtain ⟨q1, q2, q3, q4⟩ := b3 j a h2
    rw [List.getElem?_append_left (by rw [hN.1]; exact h1), ← hN.2 j a h2]
    obtain ⟨kd', nu, tx, me, pa, na, ix, nm, no, sp, e, -⟩ := a5.val q2
    have qe2 : E2 a ≠ 0 := by rw [hx2 a q1]; exact q1
    have hv3 : isV E3 a := c4.el.v (hx2.el.v q2)
    obtain ⟨z1, z2, z3, z4, z5, z6, z7, z8, z9, z10, e3, -⟩ := c3.val hv3
    obtain ⟨no', e4⟩ := nx8_5 ((hf2 a q1).trans e) ⟨z1, z2, z3, z4, z5, z6, z7, z8, z9, z10, e3⟩ (c6 a qe2)
    have hav : a ≠ v := fun e9 => q1 (by rw [e9]; exact hv1)
    by_cases hl : ms[ms.length - 1]? = some a
    · obtain ⟨y1, y2, y3, y4, y5, y6, y7, y8, y9, y10, y11, g1, g2⟩ := hz a hl
      obtain ⟨x1, x2, x3, x4, x5, x6, x7, x8, x9, x10⟩ := vE_inj (e4.symm.trans g1)
      rw [← x6] at g2
      exact nmL_same a5 q2 e g2 txt
    · exact nmL_same a5 q2 e ((hoff a hav hl).trans e4) txt
  · rw [h2, List.getElem?_append_right (by rw [hN.1]; omega), hN.1, h1, Nat.sub_self]
    exact hv
