/-- a loop, with what has come to the heap -/
theorem w_loopG {p : Program} {l : Launch} {e : Env} {R : Room} {s : State} {m : MethodId} {args : Array Value} {below : List Frame} {meth : Method} {c : Code} {Q : State → Prop} {cells slots nL : Nat} {A : Nat → Prop} {H0 : Heap} {D : va_G} {cl : List vw_C} (pc : Nat) {σ : Type} (Inv : σ → Heap → Prop) (ms : σ → Nat) (ws : σ → va_W) (lv : σ → List (Nat × Value))
    (step : ∀ (x : σ) (H : Heap) (locs : List Loc) (ls : Array Slot), Inv x H → (∀ (y : σ) (H : Heap) (locs : List Loc) (ls : Array Slot), Inv y H → ms y < ms x → va_P D cl (ws y) H → va_D A (ws y) → va_S A H0 H locs → lv_has ls nL (lv y) → W p l e R s m args below meth c H locs cells slots Q (F0 m pc ls [])) → va_P D cl (ws x) H → va_D A (ws x) → va_S A H0 H locs → lv_has ls nL (lv x) → W p l e R s m args below meth c H locs cells slots Q (F0 m pc ls []))
    (x : σ) {H : Heap} {locs : List Loc} {ls : Array Slot} (h : Inv x H) (hP : va_P D cl (ws x) H) (hD : va_D A (ws x)) (hS : va_S A H0 H locs) (hl : lv_has ls nL (lv x)) : W p l e R s m args below meth c H locs cells slots Q (F0 m pc ls []) := by
  have key : ∀ (k : Nat) (x : σ), ms x < k → ∀ (H : Heap) (locs : List Loc) (ls : Array Slot), Inv x H → va_P D cl (ws x) H → va_D A (ws x) → va_S A H0 H locs → lv_has ls nL (lv x) → W p l e R s m args below meth c H locs cells slots Q (F0 m pc ls []) := by
    intro k
    induction k with
    | zero => intro x hx; exact absurd hx (Nat.not_lt_zero _)
    | succ k ih =>
      intro x hx H locs ls hI hP hD hS hl
      exact step x H locs ls hI (fun y H locs ls hy hm => ih y (by omega) H locs ls hy) hP hD hS hl
  exact key (ms x + 1) x (Nat.lt_succ_self _) H locs ls h hP hD hS hl
/-- each stands once -/
def INJ (ms : List Nat) : Prop := ∀ (j k a : Nat), ms[j]? = some a → ms[k]? = some a → j = k
theorem at_app {ms : List Nat} {v j a : Nat} (h : (ms ++ [v])[j]? = some a) : (j < ms.length ∧ ms[j]? = some a) ∨ (j = ms.length ∧ a = v) := by
  by_cases hj : j < ms.length
  · rw [List.getElem?_append_left hj] at h
    exact Or.inl ⟨hj, h⟩
  · rw [List.getElem?_append_right (by omega)] at h
    have h2 := (List.getElem?_eq_some_iff.mp h).1
    have h3 : j - ms.length = 0 := by simp at h2; omega
    rw [h3] at h
    exact Or.inr ⟨by omega, (Option.some.inj h).symm⟩
theorem INJ.app {ms : List Nat} {v : Nat} (h : INJ ms) (hv : v ∉ ms) : INJ (ms ++ [v]) := fun j k a hj hk => by
  rcases at_app hj with ⟨h1, h2⟩ | ⟨h1, h2⟩
  · rcases at_app hk with ⟨g1, g2⟩ | ⟨g1, g2⟩
    · exact h j k a h2 g2
    · exact absurd (g2 ▸ List.mem_of_getElem? h2) hv
  · rcases at_app hk with ⟨g1, g2⟩ | ⟨g1, g2⟩
    · exact absurd (h2 ▸ List.mem_of_getElem? g2) hv
    · omega
theorem CHM.app {E1 E2 : Nat → Nat} {f1 f2 : Nat → va_E} {P P2 : Nat → Prop} {ms : List Nat} {v : Nat} (h : CHM E1 f1 P ms) (hi : INJ ms) (hE : ∀ a, a ∈ ms → E2 a ≠ 0 ∧ isV E2 a ∧ P2 a) (hv : E2 v ≠ 0 ∧ isV E2 v ∧ P2 v) (hnv : nmF f2 v = none) (hl : ∀ z, ms[ms.length - 1]? = some z → nmF f2 z = some v) (ho : ∀ a, a ∈ ms → ms[ms.length - 1]? ≠ some a → nmF f2 a = nmF f1 a) : CHM E2 f2 P2 (ms ++ [v]) := fun j a hj => by
  rcases at_app hj with ⟨h1, h2⟩ | ⟨h1, h2⟩
  · obtain ⟨a1, a2, a3⟩ := hE a (List.mem_of_getElem? h2)
    refine ⟨a1, a2, a3, ?_⟩
    by_cases hj2 : j + 1 < ms.length
    · rw [List.getElem?_append_left hj2, ← (h j a h2).2.2.2]
      refine ho a (List.mem_of_getElem? h2) (fun e => ?_)
      have := hi _ _ _ h2 e
      omega
    · have e : j + 1 = ms.length := by omega
      rw [e, List.getElem?_append_right (Nat.le_refl _), Nat.sub_self]
      exact hl a (by rw [← e]; exact h2)
  · subst h2
    refine ⟨hv.1, hv.2.1, hv.2.2, ?_⟩
    rw [hnv, h1]
    exact (List.getElem?_eq_none_iff.mpr (by rw [List.length_append]; exact Nat.le_refl _)).symm
/-- a member has come, the first -/
theorem PO.mem1st {cI cV : ClassId} {E lv : Nat → Nat} {L : List Nat} {f : Nat → va_E} {v it s : Nat} {na' : Option Nat} {ix' : Int32} (h : PO cI cV E lv L f) (hv : E v = 2) {kd : Int32} {nu : Int64} {tx me pa na : Option Nat} {ix : Int32} {no : Option Nat} {sp : Int32} (ef : f v = vE kd nu tx me pa na ix none no sp) (hit : isV E it) (hna : oR (fun b => E b = 4) na') (hs : s = 2 ∨ (s = 3 ∧ na' ≠ none)) :
    EL E (va_up E v s) ∧ PO cI cV (va_up E v s) lv L (va_up f v (vE kd nu tx me (some it) na' ix' none no sp)) := by
  have hE : EL E (va_up E v s) := fun b => by
    by_cases e : b = v
    · subst e
      rw [va_up_self]
      rcases hs with hs | hs
      · exact Or.inr (Or.inl (hs.trans hv.symm))
      · exact Or.inr (Or.inr (Or.inr ⟨hv, hs.1⟩))
    · exact Or.inr (Or.inl (va_up_ne _ _ e))
  refine ⟨hE, h.go hE (fun _ _ => rfl) (fun a ha => ?_) (fun a ha => ?_)⟩
  · by_cases e : a = v
    · subst e; exact h.inL (by omega)
    · rw [va_up_ne _ _ e] at ha; exact h.inL ha
  · by_cases e : a = v
    · subst e
      right
      rw [va_up_self]
      obtain ⟨kd', nu', tx', me', pa', na2, ix2, nm', no', sp', e1, e2⟩ := h.val (a := a) (Or.inr (Or.inl hv))
      have e3 := ef.symm.trans e1
      obtain ⟨x1, x2, x3, x4, x5, x6, x7, x8, x9, x10⟩ := vE_inj e3
      subst x1; subst x3; subst x4; subst x9
      obtain ⟨h1, h2, h3, h4, h5, h6, h7, h8⟩ := e2
      refine CO.V (by rcases hs with hs | hs; (· exact Or.inr (Or.inl ((va_up_self _ _ _).trans hs))); (· exact Or.inr (Or.inr ((va_up_self _ _ _).trans hs.1)))) ⟨_, _, _, _, _, _, _, _, _, _, rfl, ⟨h1.mono fun b hb => hE.k hb (by decide), h2.mono fun b hb => hE.a hb, fun b hb => by cases hb; exact hE.v hit, hna.mono fun b hb => hE.k hb (by decide), fun b hb => (nomatch hb), h6.mono fun b hb => hE.v hb, fun _ => ?_, fun h3' => ⟨?_, fun b hb => (nomatch hb)⟩⟩⟩
      · have h9 := h7 (by omega)
        exact ⟨h9.1, fun hk => (h9.2 hk).mono fun b hb => hE.k hb (by decide)⟩
      · rw [va_up_self] at h3'
        rcases hs with hs | hs
        · omega
        · exact hs.2
    · left
      rw [va_up_ne _ _ e, va_up_ne _ _ e]
      exact ⟨rfl, rfl⟩
/-- the member before it leads to it -/
theorem PO.linkz {cI cV : ClassId} {E lv : Nat → Nat} {L : List Nat} {f : Nat → va_E} {v z : Nat} (h : PO cI cV E lv L f) (hz : isV E z) (hv : isV E v) {kd : Int32} {nu : Int64} {tx me pa na : Option Nat} {ix : Int32} {nm no : Option Nat} {sp : Int32} (ef : f z = vE kd nu tx me pa na ix nm no sp) (h3 : E z = 3 → E v = 3) : PO cI cV E lv L (va_up f z (vE kd nu tx me pa na ix (some v) no sp)) := by
  refine h.go EX.rf.el (fun _ _ => rfl) (fun a ha => h.inL ha) (fun a ha => ?_)
  by_cases e : a = z
  · subst e
    right
    rw [va_up_self]
    obtain ⟨kd', nu', tx', me', pa', na2, ix2, nm', no', sp', e1, e2⟩ := h.val hz
    have e3 := ef.symm.trans e1
    obtain ⟨x1, x2, x3, x4, x5, x6, x7, x8, x9, x10⟩ := vE_inj e3
    subst x1; subst x3; subst x4; subst x5; subst x6; subst x9
    obtain ⟨h1, h2, h3a, h4, h5, h6, h7, h8⟩ := e2
    exact CO.V hz ⟨_, _, _, _, _, _, _, _, _, _, rfl, ⟨h1, h2, h3a, h4, fun b hb => by cases hb; exact hv, h6, h7, fun h9 => ⟨(h8 h9).1, fun b hb => by cases hb; exact h3 h9⟩⟩⟩
  · left
    rw [va_up_ne _ _ e]
    exact ⟨rfl, rfl⟩
/-- the row of members -/
theorem PO.memR {cI cV : ClassId} {E lv : Nat → Nat} {L : List Nat} {f : Nat → va_E} {it ra s k : Nat} {g : Nat → Option Nat} (h : PO cI cV E lv L f) (hit : E it = 1) (hra : E ra = 0) (hk : k ≤ 4096) {kd : Int32} {nu : Int64} {no : Option Nat} {ix sp : Int32} (ef : f it = vE kd nu none none none none ix none no sp) (hg : ∀ j, j < k → ∃ b, g j = some b ∧ isF E b ∧ (s = 6 → E b = 3)) (hs : s = 5 ∨ s = 6) :
    PO cI cV (va_up E ra s) lv (L ++ [ra]) (va_up (va_up f it (vE kd nu none (some ra) none none ix none no sp)) ra (aE cV k g)) := by
  have hx := EX.new (s := s) hra
  have hne : it ≠ ra := fun e => by rw [e] at hit; omega
  have hA : isA (va_up E ra s) ra := by rcases hs with hs | hs; (· exact Or.inl ((va_up_self _ _ _).trans hs)); (· exact Or.inr ((va_up_self _ _ _).trans hs))
  refine h.go hx.el (fun _ _ => rfl) (fun a ha => ?_) (fun a ha => ?_)
  · by_cases e : a = ra
    · rw [e]; exact List.mem_append_right _ (List.mem_singleton.mpr rfl)
    · rw [va_up_ne _ _ e] at ha; exact List.mem_append_left _ (h.inL ha)
  · by_cases e : a = ra
    · subst e
      right
      rw [va_up_self]
      exact CO.A hA ⟨_, _, rfl, hk, fun j hj => by
        obtain ⟨b, b1, b2, b3⟩ := hg j hj
        refine ⟨b, b1, hx.el.f b2, fun h6 => ?_⟩
        rw [va_up_self] at h6
        exact hx.el.k (b3 h6) (by decide)⟩
    · by_cases e2 : a = it
      · subst e2
        right
        rw [va_up_ne _ _ e, va_up_self]
        obtain ⟨kd', nu', tx', me', pa', na2, ix2, nm', no', sp', e1, e2⟩ := h.val (a := a) (Or.inl hit)
        have e3 := ef.symm.trans e1
        obtain ⟨x1, x2, x3, x4, x5, x6, x7, x8, x9, x10⟩ := vE_inj e3
        subst x9
        obtain ⟨h1, h2, h3a, h4, h5, h6, h7, h8⟩ := e2
        have hE1 : va_up E ra s a = 1 := (va_up_ne _ _ e).trans hit
        exact CO.V (Or.inl hE1) ⟨_, _, _, _, _, _, _, _, _, _, rfl, ⟨fun b hb => (nomatch hb), fun b hb => by cases hb; exact hA, fun b hb => (nomatch hb), fun b hb => (nomatch hb), fun b hb => (nomatch hb), h6.mono fun b hb => hx.el.v hb, fun h9 => absurd hE1 h9, fun h9 => by omega⟩⟩
      · left
        rw [va_up_ne _ _ e, va_up_ne _ _ e, va_up_ne _ _ e2]
        exact ⟨rfl, rfl⟩
