theorem PO.upd1 {cI cV : ClassId} {E lv : Nat → Nat} {L : List Nat} {f : Nat → va_E} {q : Nat} (h : PO cI cV E lv L f) (hq : E q = 1) {kd : Int32} {nu : Int64} {tx me pa na : Option Nat} {ix : Int32} {nm no : Option Nat} {sp : Int32} (h1 : oR (fun b => E b = 4) tx) (h2 : oR (isA E) me) (h3 : oR (isV E) pa) (h4 : oR (fun b => E b = 4) na) (h5 : oR (isV E) nm) (h6 : oR (isV E) no) : PO cI cV E lv L (va_up f q (vE kd nu tx me pa na ix nm no sp)) := by
  refine h.go EX.rf.el (fun _ _ => rfl) (fun a ha => h.inL ha) (fun a ha => ?_)
  by_cases e : a = q
  · subst e
    right
    rw [va_up_self]
    exact CO.V (Or.inl hq) ⟨_, _, _, _, _, _, _, _, _, _, rfl, ⟨h1, h2, h3, h4, h5, h6, fun h9 => absurd hq h9, fun h9 => by omega⟩⟩
  · left
    rw [va_up_ne _ _ e]
    exact ⟨rfl, rfl⟩
theorem PO.done {cI cV : ClassId} {E lv : Nat → Nat} {L : List Nat} {f : Nat → va_E} {q : Nat} (h : PO cI cV E lv L f) (hq : E q = 1) {kd : Int32} {nu : Int64} {tx me pa na : Option Nat} {ix : Int32} {nm no : Option Nat} {sp : Int32} (ef : f q = vE kd nu tx me pa na ix nm no sp) (h4 : kd = 4 → tx ≠ none) (h6 : kd = 6 → oR (fun b => E b = 6) me) : EL E (va_up E q 2) ∧ PO cI cV (va_up E q 2) lv L f := by
  have hE : EL E (va_up E q 2) := fun b => by
    by_cases e : b = q
    · subst e
      exact Or.inr (Or.inr (Or.inl ⟨hq, Or.inl (va_up_self _ _ _)⟩))
    · exact Or.inr (Or.inl (va_up_ne _ _ e))
  refine ⟨hE, h.go hE (fun _ _ => rfl) (fun a ha => ?_) (fun a ha => ?_)⟩
  · by_cases e : a = q
    · subst e; exact h.inL (by omega)
    · rw [va_up_ne _ _ e] at ha; exact h.inL ha
  · by_cases e : a = q
    · subst e
      right
      obtain ⟨kd', nu', tx', me', pa', na2, ix2, nm', no', sp', e1, e2⟩ := h.val (a := a) (Or.inl hq)
      have e3 := ef.symm.trans e1
      obtain ⟨x1, x2, x3, x4, x5, x6, x7, x8, x9, x10⟩ := vE_inj e3
      subst x1; subst x3; subst x4; subst x5; subst x6; subst x8; subst x9
      obtain ⟨a1, a2, a3, a4, a5, a6, a7, a8⟩ := e2
      exact CO.V (Or.inr (Or.inl (va_up_self _ _ _))) ⟨_, _, _, _, _, _, _, _, _, _, e1, ⟨a1.mono fun b hb => hE.k hb (by decide), a2.mono fun b hb => hE.a hb, a3.mono fun b hb => hE.v hb, a4.mono fun b hb => hE.k hb (by decide), a5.mono fun b hb => hE.v hb, a6.mono fun b hb => hE.v hb, fun _ => ⟨h4, fun hk => (h6 hk).mono fun b hb => hE.k hb (by decide)⟩, fun h9 => by rw [va_up_self] at h9; omega⟩⟩
    · left
      rw [va_up_ne _ _ e]
      exact ⟨rfl, rfl⟩
theorem JP.mk {cI cV : ClassId} {E lv : Nat → Nat} {L : List Nat} {f : Nat → va_E} {la : Option Nat} {i n q p : Nat} {N : List Nat} {f1 f2 : Nat → va_E} {E1 E2 : Nat → Nat} {lb : Nat} (hq0 : E q = 0) (hE1 : E1 = va_up E q 1) (hK : KX E la f f1) (hO2 : PO cI cV E2 lv (L ++ N) f2) (hx2 : EX E1 E2) (hn2 : ∀ a, E1 a = 0 → E2 a ≠ 1) (hf2 : ∀ a, E1 a ≠ 0 → a ≠ q → f2 a = f1 a) (hlb : isV E2 lb) (hlb2 : lb = q ∨ E1 lb = 0)
    {kd : Int32} {nu : Int64} {tx me : Option Nat} {no : Option Nat} {sp : Int32} (ef : f2 q = vE kd nu tx me none none 0 none no sp) (h4 : kd = 4 → tx ≠ none) (h6 : kd = 6 → oR (fun b => E2 b = 6) me) (hp1 : i < p) (hp2 : p ≤ n) : JP cI cV E lv L f la i n q p N (va_up E2 q 2) f2 lb := by
  have hx1 : EX E E1 := by rw [hE1]; exact EX.new hq0
  have hq1 : E1 q = 1 := by rw [hE1]; exact va_up_self _ _ _
  have hq2 : E2 q = 1 := (hx2 q (by omega)).trans hq1
  obtain ⟨hE, hO⟩ := hO2.done hq2 ef h4 h6
  have hne : ∀ a, E a ≠ 0 → a ≠ q := fun a ha e => ha (e ▸ hq0)
  have f2e : ∀ a, E a ≠ 0 → f2 a = f1 a := fun a ha => hf2 a (by rw [hx1 a ha]; exact ha) (hne a ha)
  refine ⟨hp1, hp2, hO, fun a ha => ?_, fun a ha => ?_, ⟨fun a ha => ?_, fun a ha hl => ?_⟩, hE.v hlb, ?_, va_up_self _ _ _, hq0, nmF_v ef⟩
  · rw [va_up_ne _ _ (hne a ha)]
    exact (hx1.tr hx2) a ha
  · by_cases e : a = q
    · rw [e, va_up_self]; decide
    · rw [va_up_ne _ _ e]
      exact hn2 a (by rw [hE1, va_up_ne _ _ e]; exact ha)
  · rw [f2e a ha]; exact hK.1 a ha
  · rw [f2e a ha]; exact hK.2 a ha hl
  · rcases hlb2 with h | h
    · rw [h]; exact hq0
    · exact Classical.byContradiction fun h9 => h9 (by rw [← hx1 lb h9]; exact h)
theorem va_up_comm {α : Type} (f : Nat → α) {a b : Nat} (x y : α) (h : a ≠ b) : va_up (va_up f a x) b y = va_up (va_up f b y) a x := by
  funext c
  unfold va_up
  by_cases h1 : c = b
  · subst h1
    simp [Ne.symm h]
  · by_cases h2 : c = a
    · subst h2; simp [h1]
    · simp [h1, h2]
