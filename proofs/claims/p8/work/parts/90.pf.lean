/-- the pool with the numbers of its values as ν says -/
def pf (f : Nat → va_E) (ν : Nat → Int64) (a : Nat) : va_E := match f a with
  | .inr (9, .int kd :: .long _ :: r) => .inr (9, .int kd :: .long (ν a) :: r)
  | e => e
section PF
variable {f : Nat → va_E} {ν : Nat → Int64} {a : Nat}
theorem pf_V {kd : Int32} {nu : Int64} {tx me pa na : Option Nat} {ix : Int32} {nm no : Option Nat} {sp : Int32} (h : f a = vE kd nu tx me pa na ix nm no sp) : pf f ν a = vE kd (ν a) tx me pa na ix nm no sp := by unfold pf; rw [h]; rfl
theorem pf_T {c : ClassId} {n : Nat} {g : Nat → Int32} (h : f a = tE c n g) : pf f ν a = tE c n g := by unfold pf; rw [h]
theorem pf_A {c : ClassId} {n : Nat} {g : Nat → Option Nat} (h : f a = aE c n g) : pf f ν a = aE c n g := by unfold pf; rw [h]
theorem pf_Q {x y : Int32} {o1 o2 : Option Nat} (h : f a = qE x y o1 o2) : pf f ν a = qE x y o1 o2 := by unfold pf; rw [h]; rfl
theorem pf_G {x : Int32} {o1 o2 : Option Nat} (h : f a = gE x o1 o2) : pf f ν a = gE x o1 o2 := by unfold pf; rw [h]; rfl
theorem pf_L {x y z : Int32} {i j k : Int64} {o1 o2 o3 : Option Nat} (h : f a = lE x o1 y z i j k o2 o3) : pf f ν a = lE x o1 y z i j k o2 o3 := by unfold pf; rw [h]; rfl
theorem pf_K {x : Int32} {o1 o2 o3 o4 o5 : Option Nat} (h : f a = kE x o1 o2 o3 o4 o5) : pf f ν a = kE x o1 o2 o3 o4 o5 := by unfold pf; rw [h]; rfl
theorem pf_O {x : Int32} {o1 o2 o3 : Option Nat} (h : f a = oE x o1 o2 o3) : pf f ν a = oE x o1 o2 o3 := by unfold pf; rw [h]; rfl
theorem pf_put {x : Int64} {kd : Int32} {nu : Int64} {tx me pa na : Option Nat} {ix : Int32} {nm no : Option Nat} {sp : Int32} (h : f a = vE kd nu tx me pa na ix nm no sp) : va_up (pf f ν) a (vE kd x tx me pa na ix nm no sp) = pf f (va_up ν a x) := by
  funext b
  by_cases hb : b = a
  · subst hb
    rw [va_up_self, pf_V h, va_up_self]
  · rw [va_up_ne _ _ hb]
    unfold pf
    rw [va_up_ne _ _ hb]
end PF
theorem PO.num {cI cV : ClassId} {E lv : Nat → Nat} {L : List Nat} {f : Nat → va_E} (h : PO cI cV E lv L f) (ν : Nat → Int64) : PO cI cV E lv L (pf f ν) := by
  refine ⟨h.1, fun a ha => ?_, fun a ha => ?_, fun a ha => ?_, fun a ha => ?_, fun a ha => ?_, fun a ha => ?_, fun a ha => ?_, fun a ha => ?_⟩
  · obtain ⟨kd, nu, tx, me, pa, na, ix, nm, no, sp, e1, e2⟩ := h.val ha
    exact ⟨kd, _, tx, me, pa, na, ix, nm, no, sp, pf_V e1, e2⟩
  · obtain ⟨n, g, e1, e2⟩ := h.txt ha
    exact ⟨n, g, pf_T e1, e2⟩
  · obtain ⟨n, g, e1, e2⟩ := h.arr ha
    exact ⟨n, g, pf_A e1, e2⟩
  · obtain ⟨a1, a2, a3, a4, e1, e2⟩ := h.qry ha
    exact ⟨a1, a2, a3, a4, pf_Q e1, e2⟩
  · obtain ⟨a1, a2, a3, e1, e2⟩ := h.seg ha
    exact ⟨a1, a2, a3, pf_G e1, e2⟩
  · obtain ⟨a1, a2, a3, a4, a5, a6, a7, a8, a9, e1, e2⟩ := h.sel ha
    exact ⟨a1, a2, a3, a4, a5, a6, a7, a8, a9, pf_L e1, e2⟩
  · obtain ⟨a1, a2, a3, a4, a5, a6, e1, e2⟩ := h.con ha
    exact ⟨a1, a2, a3, a4, a5, a6, pf_K e1, e2⟩
  · obtain ⟨a1, a2, a3, a4, e1, e2⟩ := h.opd ha
    exact ⟨a1, a2, a3, a4, pf_O e1, e2⟩
theorem PO.szpf {cI cV : ClassId} {E lv : Nat → Nat} {L : List Nat} {f : Nat → va_E} {a : Nat} {ν : Nat → Int64} (h : PO cI cV E lv L f) (ha : isF E a) : szF (pf f ν) a = szF f a := by
  obtain ⟨kd, nu, tx, me, pa, na, ix, nm, no, sp, e1, e2⟩ := h.val (isF.v ha)
  cases me with
  | none => rw [PO.mem0 e1, PO.mem0 (pf_V e1)]
  | some b =>
    obtain ⟨g, -, g2, -⟩ := h.mem1 e1 e2 ha.n1
    obtain ⟨g', -, g2', -⟩ := (h.num ν).mem1 (pf_V e1) e2 ha.n1
    have e3 := (pf_A (ν := ν) g2).symm.trans g2'
    have e4 := congrArg (fun z : va_E => match z with | .inl (_, n, _) => n | _ => 0) e3
    exact e4.symm
/-- the walk's list -/
def WI (E : Nat → Nat) (tp sp : Nat) (g : Nat → Option Nat) : Prop := tp ≤ sp ∧ sp ≤ 10000 ∧ ∀ j, j < tp → ∃ b, g j = some b ∧ isF E b
theorem WI.up {E : Nat → Nat} {tp sp : Nat} {g : Nat → Option Nat} {b : Nat} (h : WI E tp sp g) (hs : sp < 10000) (hb : isF E b) : WI E (tp + 1) (sp + 1) (va_up g tp (some b)) := by
  refine ⟨by have := h.1; omega, by omega, fun j hj => ?_⟩
  by_cases e : j = tp
  · subst e; exact ⟨b, va_up_self _ _ _, hb⟩
  · rw [va_up_ne _ _ e]; exact h.2.2 j (by omega)
theorem WI.cut {E : Nat → Nat} {tp sp tp' : Nat} {g : Nat → Option Nat} (h : WI E tp sp g) (hs : tp' ≤ tp) : WI E tp' sp g := ⟨Nat.le_trans hs h.1, h.2.1, fun j hj => h.2.2 j (by omega)⟩
theorem WI.more {E : Nat → Nat} {tp sp : Nat} {g : Nat → Option Nat} (h : WI E tp sp g) (hs : sp < 10000) : WI E tp (sp + 1) g := ⟨by have := h.1; omega, by omega, h.2.2⟩
/-- no address of the list is above it -/
def lmax : List Nat → Nat
  | [] => 0
  | a :: r => max a (lmax r)
theorem lmax_le {L : List Nat} {a : Nat} (h : a ∈ L) : a ≤ lmax L := by
  induction L with
  | nil => cases h
  | cons b r ih =>
    rcases List.mem_cons.mp h with rfl | h
    · exact Nat.le_max_left _ _
    · exact Nat.le_trans (ih h) (Nat.le_max_right _ _)
/-- how far a chain may still go -/
def chL (L : List Nat) : Option Nat → Nat
  | none => 0
  | some a => lmax L + 1 - a
theorem chL_lt {L : List Nat} {a : Nat} {o : Option Nat} (ha : a ∈ L) (h : oR (fun b => a < b) o) : chL L o < chL L (some a) := by
  have := lmax_le ha
  cases o with
  | none => show 0 < lmax L + 1 - a; omega
  | some b => have := h b rfl; show lmax L + 1 - b < lmax L + 1 - a; omega
theorem isV.f {E : Nat → Nat} (hN : ∀ a, E a ≠ 1) {b : Nat} (h : isV E b) : isF E b := by
  rcases h with h | h
  · exact absurd h (hN b)
  · exact h
