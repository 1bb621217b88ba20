/-- words that stay, though not by the kit's own list of kinds -/
def isNw : Cond → Bool
  | .castable _ _ => true
  | .declares _ => true
  | .methodLinkNest _ _ _ _ => true
  | .fieldLinkNest _ _ _ _ _ _ => true
  | _ => false
def nwl : List Cond := lw_tbl.filter isNw
def NW (U : State) : Prop := ∀ w ∈ nwl, va_Nw w U
theorem isNw_on {w : Cond} (h : isNw w = true) : w.onTables = true := by
  cases w <;> first | rfl | cases h
theorem NW.warm {s U : State} (hW : s.WarmedH U.vm) (h : NW s) : NW U := fun w hw => by
  have h1 := h w hw
  have h2 := (List.mem_filter.mp hw).2
  cases w <;> first | exact va_Nw.warmC hW h1 | exact va_Nw.warmD hW h1 | exact va_Nw.warmM hW h1 | exact va_Nw.warmF hW h1 | cases h2
theorem NW.same {s U : State} (hv : s.vm = U.vm) (h : NW s) : NW U := fun w hw => va_Nw.same (isNw_on (List.mem_filter.mp hw).2) hv (h w hw)
theorem hat {args : Array Value} {s : State} {L : List Cond} (hts : ∀ w ∈ gtbl, w.before args s = true) (hn : NW s) (h : ∀ w ∈ L, (goodWord w = true ∧ w ∈ lw_tbl) ∨ w ∈ nwl) : ∀ w ∈ L, w.before args s = true := fun w hw => by
  rcases h w hw with ⟨h1, h2⟩ | h1
  · exact hts w (gt_of h2 h1)
  · exact va_Nw.use (isNw_on (List.mem_filter.mp h1).2) (hn w h1)
/-- the two statics that a throw reads -/
abbrev ZX (A : Nat → Prop) (U : State) (H : Heap) : Prop := vx_Zq Bundle.tN "UNASSIGNED_STACK" Bundle.steD A U H ∧ vx_Zq Bundle.tN "SUPPRESSED_SENTINEL" Bundle.listD A U H
theorem ZX.moved' {A : Nat → Prop} {u U : State} {H : Heap} (hvm : u.vm.Alike U.vm) (h : ZX A u H) : ZX A U H := ⟨vx_Zq.moved hvm h.1, vx_Zq.moved hvm h.2⟩
theorem ZX.kept' {A : Nat → Prop} {U : State} {H H1 : Heap} (h : ZX A U H) (hq : ∀ a : Nat, a < H.size → ¬ A a → H1[a]? = H[a]?) : ZX A U H1 := ⟨vx_Zq.kept h.1 hq, vx_Zq.kept h.2 hq⟩
theorem ZX.narrow' {A B : Nat → Prop} {U : State} {H : Heap} (h : ZX A U H) (hAB : ∀ q, B q → A q) : ZX B U H := ⟨vx_Zq.narrow h.1 hAB, vx_Zq.narrow h.2 hAB⟩
theorem mp_blind {dC : Nat → ClassId} {dI : Nat → Nat → Nat} {ws : va_W} {tys : List (ClassId × FieldType)} {sz : Heap} {av : List Value} : FrameBlind (va_Pc av (mp dC dI ws tys sz)) := fun a U g mk q => by
  obtain ⟨q0, q1, qP, qK, qD⟩ := q
  exact ⟨q0, q1, qP, va_K.moved (u := U) (U := U.calling g mk a) (Vm.Alike.refl U.vm) qK, qD⟩
/-- the world of a method that may throw -/
abbrev mx (dC : Nat → ClassId) (dI : Nat → Nat → Nat) (ws : va_W) (tys : List (ClassId × FieldType)) (sz : Heap) (U : State) : Prop := mp dC dI ws tys sz U ∧ NW U ∧ ZX (va_A ws sz.size) U U.heap
theorem mx_blind {dC : Nat → ClassId} {dI : Nat → Nat → Nat} {ws : va_W} {tys : List (ClassId × FieldType)} {sz : Heap} {av : List Value} : FrameBlind (va_Pc av (mx dC dI ws tys sz)) := fun a U g mk q => by
  obtain ⟨q0, ⟨q1, qP, qK, qD⟩, qN, qZ⟩ := q
  exact ⟨q0, ⟨q1, qP, va_K.moved (u := U) (U := U.calling g mk a) (Vm.Alike.refl U.vm) qK, qD⟩, NW.same (s := U) (U := U.calling g mk a) rfl qN, ZX.moved' (u := U) (U := U.calling g mk a) (Vm.Alike.refl U.vm) qZ⟩
abbrev mn (dC : Nat → ClassId) (dI : Nat → Nat → Nat) (ws : va_W) (tys : List (ClassId × FieldType)) (sz : Heap) (U : State) : Prop := mp dC dI ws tys sz U ∧ NW U
theorem mn_blind {dC : Nat → ClassId} {dI : Nat → Nat → Nat} {ws : va_W} {tys : List (ClassId × FieldType)} {sz : Heap} {av : List Value} : FrameBlind (va_Pc av (mn dC dI ws tys sz)) := fun a U g mk q => by
  obtain ⟨q0, ⟨q1, qP, qK, qD⟩, qN⟩ := q
  exact ⟨q0, ⟨q1, qP, va_K.moved (u := U) (U := U.calling g mk a) (Vm.Alike.refl U.vm) qK, qD⟩, NW.same (s := U) (U := U.calling g mk a) rfl qN⟩
theorem gt_S {own : String} {i : Nat} {y : MethodName} {w : Cond} (h : w ∈ gtbl) (h1 : Cond.methodLink own i y ∈ gtbl) (h2 : Cond.static y ∈ gtbl) (h3 : Cond.initialized y.cls ∈ gtbl) : GoodIn gtbl (va_wsS own i y (w :: gtbl)) := fun v hv => by
  rcases List.mem_append.mp hv with hv | hv
  · have : v ∈ gtbl := by
      simp only [List.mem_cons, List.not_mem_nil, or_false] at hv
      rcases hv with rfl | rfl | rfl <;> assumption
    exact gt_self _ this
  · exact gt_code h _ hv
/-- the slots of the cells that have come since -/
def nsl (H0 H : Heap) : Nat := ((H.toList.drop H0.size).map (·.slots.size)).sum
/-- from H0 to H: at most c cells of n slots are new, and no old one has changed its size -/
def szk (H0 H : Heap) (c n : Nat) : Prop := H0.size ≤ H.size ∧ H.size ≤ H0.size + c ∧ nsl H0 H ≤ n ∧ ∀ (q : Nat) (c0 : Cell), H0[q]? = some c0 → ∃ c1, H[q]? = some c1 ∧ c1.slots.size = c0.slots.size
theorem szk.map {H0 H : Heap} {c n : Nat} (h : szk H0 H c n) : (H.toList.take H0.size).map (·.slots.size) = H0.toList.map (·.slots.size) := by
  apply List.ext_getElem?
  intro i
  rw [List.getElem?_map, List.getElem?_map, List.getElem?_take]
  by_cases hi : i < H0.size
  · rw [if_pos hi, Array.getElem?_toList, Array.getElem?_toList, Array.getElem?_eq_getElem hi]
    obtain ⟨c1, h1, h2⟩ := h.2.2.2 i H0[i] (Array.getElem?_eq_getElem hi)
    rw [h1]
    simp [h2]
  · rw [if_neg hi, Array.getElem?_toList, Array.getElem?_eq_none (Nat.not_lt.mp hi)]
theorem szk.trans {H0 H1 H2 : Heap} {c n c2 n2 : Nat} (h : szk H0 H1 c n) (g : szk H1 H2 c2 n2) : szk H0 H2 (c + c2) (n + n2) := by
  refine ⟨Nat.le_trans h.1 g.1, by have := h.2.1; have := g.2.1; omega, ?_, fun q c0 hq => ?_⟩
  · have e1 : (H2.toList.drop H0.size).map (·.slots.size) = (H1.toList.drop H0.size).map (·.slots.size) ++ (H2.toList.drop H1.size).map (·.slots.size) := by
      have e2 := g.map
      have e3 : H2.toList = H2.toList.take H1.size ++ H2.toList.drop H1.size := (List.take_append_drop _ _).symm
      have l1 : (H2.toList.take H1.size).length = H1.size := by rw [List.length_take, Array.length_toList]; exact Nat.min_eq_left g.1
      have e4 : H2.toList.drop H0.size = (H2.toList.take H1.size).drop H0.size ++ H2.toList.drop H1.size := by
        conv => lhs; rw [e3]
        rw [List.drop_append_of_le_length (by rw [l1]; exact h.1)]
      rw [e4, List.map_append, List.map_drop, e2, ← List.map_drop]
    have e5 : nsl H0 H2 = nsl H0 H1 + nsl H1 H2 := by
      unfold nsl
      rw [e1, List.sum_append]
    rw [e5]
    exact Nat.add_le_add h.2.2.1 g.2.2.1
  · obtain ⟨c1, h1, h2⟩ := h.2.2.2 q c0 hq
    obtain ⟨c3, h3, h4⟩ := g.2.2.2 q c1 h1
    exact ⟨c3, h3, h4.trans h2⟩
theorem szk.mono {H0 H : Heap} {c n c2 n2 : Nat} (h : szk H0 H c n) (hc : c ≤ c2) (hn : n ≤ n2) : szk H0 H c2 n2 := ⟨h.1, by have := h.2.1; omega, Nat.le_trans h.2.2.1 hn, h.2.2.2⟩
theorem w_same {p : Program} {l : Launch} {e : Env} {R : Room} {s : State} {m : MethodId} {args : Array Value} {below : List Frame} {meth : Method} {c : Code} {H : Heap} {locs : List Loc} {cells slots : Nat} {Q : State → Prop} {g : JFrame}
    (kk : szk s.heap H cells slots → W p l e R s m args below meth c H locs cells slots Q g) : W p l e R s m args below meth c H locs cells slots Q g := by
  intro T hT X
  refine kk ?_ T hT X
  subst hT
  obtain ⟨-, h2, h3, -, h5, h6⟩ := X.same
  exact ⟨h2, h3, h5, fun q c0 hq => by obtain ⟨c1, a1, -, a3, -⟩ := h6 q c0 hq; exact ⟨c1, a1, a3⟩⟩
theorem w_tight {p : Program} {l : Launch} {e : Env} {R : Room} {s : State} {m : MethodId} {args : Array Value} {below : List Frame} {meth : Method} {c : Code} {H : Heap} {locs : List Loc} {cells slots k n : Nat} {Q : State → Prop} {g : JFrame}
    (h : szk s.heap H k n) (kk : W p l e R s m args below meth c H locs k n Q g) : W p l e R s m args below meth c H locs cells slots Q g := by
  intro T hT X
  refine kk T hT ⟨X.admits, X.cas, X.clock, X.frames, X.room, X.hears, X.method, X.code, X.here, X.tail, X.warmed, X.limits, X.bytes, ?_⟩
  subst hT
  obtain ⟨h1, h2, h3, h4, h5, h6⟩ := X.same
  exact ⟨h1, h2, h.2.1, h4, h.2.2.1, h6⟩
