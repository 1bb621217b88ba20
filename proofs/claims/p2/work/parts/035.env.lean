/-- words that stay, though not by the kit's own list of kinds -/
def isNw : Cond → Bool
  | .castable _ _ => true
  | .declares _ => true
  | .methodLinkNest _ _ _ _ => true
  | .fieldLinkNest _ _ _ _ _ _ => true
  | _ => false
def nwl : List Cond := lw_tbl.filter isNw
def NW (U : State) : Prop := ∀ w ∈ nwl, va_Nw w U
theorem isNw_on {w : Cond} (h : isNw w = true) : w.onTables = true := by
  cases w <;> first | rfl | cases h
theorem NW.warm {s U : State} (hW : s.WarmedH U.vm) (h : NW s) : NW U := fun w hw => by
  have h1 := h w hw
  have h2 := (List.mem_filter.mp hw).2
  cases w <;> first | exact va_Nw.warmC hW h1 | exact va_Nw.warmD hW h1 | exact va_Nw.warmM hW h1 | exact va_Nw.warmF hW h1 | cases h2
theorem NW.same {s U : State} (hv : s.vm = U.vm) (h : NW s) : NW U := fun w hw => va_Nw.same (isNw_on (List.mem_filter.mp hw).2) hv (h w hw)
theorem hat {args : Array Value} {s : State} {L : List Cond} (hts : ∀ w ∈ gtbl, w.before args s = true) (hn : NW s) (h : ∀ w ∈ L, (goodWord w = true ∧ w ∈ lw_tbl) ∨ w ∈ nwl) : ∀ w ∈ L, w.before args s = true := fun w hw => by
  rcases h w hw with ⟨h1, h2⟩ | h1
  · exact hts w (gt_of h2 h1)
  · exact va_Nw.use (isNw_on (List.mem_filter.mp h1).2) (hn w h1)
/-- the two statics that a throw reads -/
abbrev ZX (A : Nat → Prop) (U : State) (H : Heap) : Prop := vx_Zq Bundle.tN "UNASSIGNED_STACK" Bundle.steD A U H ∧ vx_Zq Bundle.tN "SUPPRESSED_SENTINEL" Bundle.listD A U H
theorem ZX.moved' {A : Nat → Prop} {u U : State} {H : Heap} (hvm : u.vm.Alike U.vm) (h : ZX A u H) : ZX A U H := ⟨vx_Zq.moved hvm h.1, vx_Zq.moved hvm h.2⟩
theorem ZX.kept' {A : Nat → Prop} {U : State} {H H1 : Heap} (h : ZX A U H) (hq : ∀ a : Nat, a < H.size → ¬ A a → H1[a]? = H[a]?) : ZX A U H1 := ⟨vx_Zq.kept h.1 hq, vx_Zq.kept h.2 hq⟩
theorem ZX.narrow' {A B : Nat → Prop} {U : State} {H : Heap} (h : ZX A U H) (hAB : ∀ q, B q → A q) : ZX B U H := ⟨vx_Zq.narrow h.1 hAB, vx_Zq.narrow h.2 hAB⟩
theorem mp_blind {dC : Nat → ClassId} {dI : Nat → Nat → Nat} {ws : va_W} {tys : List (ClassId × FieldType)} {sz : Nat} {av : List Value} : FrameBlind (va_Pc av (mp dC dI ws tys sz)) := fun a U g mk q => by
  obtain ⟨q0, q1, qP, qK, qD⟩ := q
  exact ⟨q0, q1, qP, va_K.moved (u := U) (U := U.calling g mk a) (Vm.Alike.refl U.vm) qK, qD⟩
/-- the world of a method that may throw -/
abbrev mx (dC : Nat → ClassId) (dI : Nat → Nat → Nat) (ws : va_W) (tys : List (ClassId × FieldType)) (sz : Nat) (U : State) : Prop := mp dC dI ws tys sz U ∧ NW U ∧ ZX (va_A ws sz) U U.heap
theorem mx_blind {dC : Nat → ClassId} {dI : Nat → Nat → Nat} {ws : va_W} {tys : List (ClassId × FieldType)} {sz : Nat} {av : List Value} : FrameBlind (va_Pc av (mx dC dI ws tys sz)) := fun a U g mk q => by
  obtain ⟨q0, ⟨q1, qP, qK, qD⟩, qN, qZ⟩ := q
  exact ⟨q0, ⟨q1, qP, va_K.moved (u := U) (U := U.calling g mk a) (Vm.Alike.refl U.vm) qK, qD⟩, NW.same (s := U) (U := U.calling g mk a) rfl qN, ZX.moved' (u := U) (U := U.calling g mk a) (Vm.Alike.refl U.vm) qZ⟩
abbrev mn (dC : Nat → ClassId) (dI : Nat → Nat → Nat) (ws : va_W) (tys : List (ClassId × FieldType)) (sz : Nat) (U : State) : Prop := mp dC dI ws tys sz U ∧ NW U
theorem mn_blind {dC : Nat → ClassId} {dI : Nat → Nat → Nat} {ws : va_W} {tys : List (ClassId × FieldType)} {sz : Nat} {av : List Value} : FrameBlind (va_Pc av (mn dC dI ws tys sz)) := fun a U g mk q => by
  obtain ⟨q0, ⟨q1, qP, qK, qD⟩, qN⟩ := q
  exact ⟨q0, ⟨q1, qP, va_K.moved (u := U) (U := U.calling g mk a) (Vm.Alike.refl U.vm) qK, qD⟩, NW.same (s := U) (U := U.calling g mk a) rfl qN⟩
theorem gt_S {own : String} {i : Nat} {y : MethodName} {w : Cond} (h : w ∈ gtbl) (h1 : Cond.methodLink own i y ∈ gtbl) (h2 : Cond.static y ∈ gtbl) (h3 : Cond.initialized y.cls ∈ gtbl) : GoodIn gtbl (va_wsS own i y (w :: gtbl)) := fun v hv => by
  rcases List.mem_append.mp hv with hv | hv
  · have : v ∈ gtbl := by
      simp only [List.mem_cons, List.not_mem_nil, or_false] at hv
      rcases hv with rfl | rfl | rfl <;> assumption
    exact gt_self _ this
  · exact gt_code h _ hv
