/-- the reference's texts: the place of each in its class, its letters -/
def mstrs : List (Nat × String × List Int32) := [(169, "bfnrt", [98, 102, 110, 114, 116]), (187, "null", [110, 117, 108, 108]), (189, "true", [116, 114, 117, 101]), (191, "false", [102, 97, 108, 115, 101]), (244, "btnfr", [98, 116, 110, 102, 114]), (246, "\\u", [92, 117]), (251, "0123456789abcdef", [48, 49, 50, 51, 52, 53, 54, 55, 56, 57, 97, 98, 99, 100, 101, 102]), (310, "||", [124, 124]), (315, "&&", [38, 38]), (334, "==", [61, 61]), (336, "!=", [33, 61]), (338, "length", [108, 101, 110, 103, 116, 104]), (339, "count", [99, 111, 117, 110, 116]), (341, "value", [118, 97, 108, 117, 101])]
def mtx (k : Nat) (j : Nat) : Int32 := ((mstrs.getD k (0, "", [])).2.2).getD j 0
def ME (K : Nat → Nat × Nat) (A : Nat → Prop) (U : State) (H : Heap) : Prop := ∀ (k : Nat) (x : Nat × String × List Int32), mstrs[k]? = some x → SX (K k).1 (K k).2 x.2.2.length (mtx k) A U H ∧ vk_R "QueryBenchModel" x.1 x.2.1 (K k).1 U
theorem ME.call {K : Nat → Nat × Nat} {A B : Nat → Prop} {s U : State} {H : Heap} (h : ME K A s s.heap) (hq : ∀ a : Nat, a < s.heap.size → ¬ A a → H[a]? = s.heap[a]?) (hF : ∀ q, B q → A q) (hW : s.WarmedH U.vm) : ME K B U H := fun k x hk =>
  ⟨SX.moved' hW.alike (SX.narrow' (SX.kept' (h k x hk).1 hq) hF), vk_R.warm hW (h k x hk).2⟩
abbrev me (K : Nat → Nat × Nat) (dC : Nat → ClassId) (dI : Nat → Nat → Nat) (ws : va_W) (tys : List (ClassId × FieldType)) (sz : Heap) (U : State) : Prop := mp dC dI ws tys sz U ∧ ME K (va_A ws sz.size) U U.heap
theorem me_blind {K : Nat → Nat × Nat} {dC : Nat → ClassId} {dI : Nat → Nat → Nat} {ws : va_W} {tys : List (ClassId × FieldType)} {sz : Heap} {vs : List Value} : FrameBlind (va_Pc vs (me K dC dI ws tys sz)) := fun a U g mk q => by
  obtain ⟨q0, ⟨q1, qP, qK, qD⟩, qE⟩ := q
  exact ⟨q0, ⟨q1, qP, va_K.moved (u := U) (U := U.calling g mk a) (Vm.Alike.refl U.vm) qK, qD⟩, fun k x hk => ⟨SX.moved' (u := U) (U := U.calling g mk a) (Vm.Alike.refl U.vm) (qE k x hk).1, vk_R.same (u := U) (U := U.calling g mk a) rfl (qE k x hk).2⟩⟩
/-- where the reference reads, and where it broke -/
def rf (v : Nat → Value) (i : Nat) (br : Int32) : Nat → Value := va_up (va_up v 7 (.int (nI i))) 9 (.int br)
theorem rf_u7 {v : Nat → Value} {i j : Nat} {br : Int32} : va_up (rf v i br) 7 (.int (nI j)) = rf v j br := by
  funext k
  unfold rf va_up
  by_cases h1 : k = 7
  · subst h1; simp
  · simp [h1]
theorem rf_u9 {v : Nat → Value} {i : Nat} {br b2 : Int32} : va_up (rf v i br) 9 (.int b2) = rf v i b2 := by
  unfold rf
  rw [bx_uu]
theorem rf_ne {v : Nat → Value} {i j : Nat} {br : Int32} (h1 : j ≠ 7) (h2 : j ≠ 9) : rf v i br j = v j := by
  unfold rf
  rw [va_up_ne _ _ h2, va_up_ne _ _ h1]
theorem rf_7 {v : Nat → Value} {i : Nat} {br : Int32} : rf v i br 7 = .int (nI i) := by
  unfold rf
  rw [va_up_ne _ _ (by decide), va_up_self]
theorem rf_9 {v : Nat → Value} {i : Nat} {br : Int32} : rf v i br 9 = .int br := by
  unfold rf
  rw [va_up_self]
theorem rf_fail {v : Nat → Value} {i : Nat} {br b2 wh : Int32} : ∃ b3, mfail (rf v i br) b2 wh = rf v i b3 := by
  unfold mfail
  split
  · exact ⟨wh, rf_u9⟩
  · exact ⟨br, rfl⟩
/-- a loop, with what has come to the heap -/
theorem w_loopH {p : Program} {l : Launch} {e : Env} {R : Room} {s : State} {m : MethodId} {args : Array Value} {below : List Frame} {meth : Method} {c : Code} {Q : State → Prop} {cells slots nL : Nat} {A : Nat → Prop} {H0 : Heap} {D : va_G} {cl : List vw_C} (pc : Nat) {σ : Type} (Inv : σ → Heap → Prop) (ms : σ → Nat) (ws : σ → va_W) (lv : σ → List (Nat × Value))
    (step : ∀ (x : σ) (H : Heap) (locs : List Loc) (ls : Array Slot), Inv x H → (∀ (y : σ) (H : Heap) (locs : List Loc) (ls : Array Slot), Inv y H → ms y < ms x → va_P D cl (ws y) H → va_D A (ws y) → va_S A H0 H locs → lv_has ls nL (lv y) → W p l e R s m args below meth c H locs cells slots Q (F0 m pc ls [])) → va_P D cl (ws x) H → va_D A (ws x) → va_S A H0 H locs → lv_has ls nL (lv x) → W p l e R s m args below meth c H locs cells slots Q (F0 m pc ls []))
    (x : σ) {H : Heap} {locs : List Loc} {ls : Array Slot} (h : Inv x H) (hP : va_P D cl (ws x) H) (hD : va_D A (ws x)) (hS : va_S A H0 H locs) (hl : lv_has ls nL (lv x)) : W p l e R s m args below meth c H locs cells slots Q (F0 m pc ls []) := by
  have key : ∀ (k : Nat) (x : σ), ms x < k → ∀ (H : Heap) (locs : List Loc) (ls : Array Slot), Inv x H → va_P D cl (ws x) H → va_D A (ws x) → va_S A H0 H locs → lv_has ls nL (lv x) → W p l e R s m args below meth c H locs cells slots Q (F0 m pc ls []) := by
    intro k
    induction k with
    | zero => intro x hx; exact absurd hx (Nat.not_lt_zero _)
    | succ k ih =>
      intro x hx H locs ls hI hP hD hS hl
      exact step x H locs ls hI (fun y H locs ls hy hm => ih y (by omega) H locs ls hy) hP hD hS hl
  exact key (ms x + 1) x (Nat.lt_succ_self _) H locs ls h hP hD hS hl
abbrev c16 (x : Int32) : Int32 := (x.toUInt32 % 65536).toInt32
/-- T2 is T with these units more -/
def TX (T T2 : TS) (us : List Int32) : Prop := ∃ (U a : Nat) (g : Nat → Int32), T2 = TS.wU T U a g (T.us + us.length) ∧ (∀ j, j < T.us → g j = T.un j) ∧ (∀ j, j < us.length → g (T.us + j) = c16 (us.getD j 0)) ∧ chOK g ∧ T.us + us.length ≤ U ∧ T.U ≤ U ∧ (U = T.U ∨ U ≤ 2 * (T.us + us.length))
theorem TX.rf {T : TS} (h : TOK T) : TX T T [] := ⟨T.U, T.au, T.un, rfl, fun _ _ => rfl, fun j hj => absurd hj (Nat.not_lt_zero _), h.2.2.2.2.2.2, h.2.2.2.2.2.1, Nat.le_refl _, Or.inl rfl⟩
theorem TX.trans {T T2 T3 : TS} {us vs : List Int32} (h1 : TX T T2 us) (h2 : TX T2 T3 vs) : TX T T3 (us ++ vs) := by
  obtain ⟨U, a, g, rfl, b1, b2, b3, b4, b5, b6⟩ := h1
  obtain ⟨U2, a2, g2, rfl, d1, d2, d3, d4, d5, d6⟩ := h2
  have d1 : ∀ j, j < T.us + us.length → g2 j = g j := d1
  have d2 : ∀ j, j < vs.length → g2 (T.us + us.length + j) = c16 (vs.getD j 0) := d2
  have d4 : T.us + us.length + vs.length ≤ U2 := d4
  have d5 : U ≤ U2 := d5
  have d6 : U2 = U ∨ U2 ≤ 2 * (T.us + us.length + vs.length) := d6
  refine ⟨U2, a2, g2, by rw [List.length_append, ← Nat.add_assoc]; rfl, fun j hj => (d1 j (by omega)).trans (b1 j hj), fun j hj => ?_, d3, by rw [List.length_append]; omega, by omega, by rw [List.length_append]; omega⟩
  by_cases h : j < us.length
  · rw [d1 (T.us + j) (by omega), b2 j h, List.getD_eq_getElem?_getD, List.getD_eq_getElem?_getD, List.getElem?_append_left h]
  · have h9 := d2 (j - us.length) (by rw [List.length_append] at hj; omega)
    rw [show T.us + us.length + (j - us.length) = T.us + j by omega] at h9
    rw [h9, List.getD_eq_getElem?_getD, List.getD_eq_getElem?_getD, List.getElem?_append_right (by omega)]
theorem TX.ok {T T2 : TS} {us : List Int32} (h : TOK T) (h1 : TX T T2 us) (hb : T.us + us.length ≤ 500000) : TOK T2 := by
  obtain ⟨U, a, g, rfl, b1, b2, b3, b4, b5, b6⟩ := h1
  obtain ⟨a1, a2, a3, a4, a5, a6, a7⟩ := h
  exact ⟨a1, a2, a3, by show 0 < U; omega, by show U ≤ 1000000; omega, b4, b3⟩
theorem TX.us {T T2 : TS} {us : List Int32} (h1 : TX T T2 us) : T2.us = T.us + us.length := by
  obtain ⟨U, a, g, rfl, _⟩ := h1; rfl
theorem TX.U {T T2 : TS} {us : List Int32} (h1 : TX T T2 us) : T.U ≤ T2.U ∧ (T2.U = T.U ∨ T2.U ≤ 2 * (T.us + us.length)) := by
  obtain ⟨U, a, g, rfl, b1, b2, b3, b4, b5, b6⟩ := h1; exact ⟨b5, b6⟩
theorem tw_unit {T : TS} {u : Nat × (Nat → Value)} {k : Nat} {U : Nat} {g : Nat → Int32} (h1 : u.2 11 = .ref u.1) (h2 : u.2 12 = .int (nI k)) (h3 : ∀ j, j ≠ 11 → j ≠ 12 → u.2 j = tw T j) : u.2 = tw (TS.wU T U u.1 g k) := by
  funext j
  by_cases e1 : j = 11
  · subst e1; exact h1
  · by_cases e2 : j = 12
    · subst e2; exact h2
    · rw [h3 j e1 e2]
      match j, e1, e2 with
      | 0, _, _ => rfl
      | 1, _, _ => rfl
      | 2, _, _ => rfl
      | 3, _, _ => rfl
      | 4, _, _ => rfl
      | 5, _, _ => rfl
      | 6, _, _ => rfl
      | 7, _, _ => rfl
      | 8, _, _ => rfl
      | 9, _, _ => rfl
      | 10, _, _ => rfl
      | 11, h, _ => exact absurd rfl h
      | 12, _, h => exact absurd rfl h
      | n + 13, _, _ => rfl
set_option maxHeartbeats 4000000 in
set_option maxRecDepth 100000 in
/-- Tree.unit, in the tree's words -/
theorem c_Tree_unitT (l : Launch) (dC : Nat → ClassId) (dI : Nat → Nat → Nat) (t : Nat) (sz : Heap) (cC : ClassId) (T : TS) (x : Int32) (hT : TOK T) : Met l y_Tree_unit (k_Tree_unit :: gtbl) ({ frames := 0, cells := grC T.U T.us, slots := grS T.U T.us, locals := 0 }) (va_Pc [.ref t, .int x] (mp dC dI [(t, .inr (12, MF 13 (tw T))), (T.au, .inl (cC, T.U, .inl T.un))] [(cC, .char)] sz)) (va_Qv (fun (T2 : TS) => TX T T2 [x]) (fun T2 t9 => mz dC dI [(t, .inr (12, MF 13 (tw T2))), (T2.au, .inl (cC, T2.U, .inl T2.un))] [(cC, .char)] (va_A [(t, .inr (12, MF 13 (tw T))), (T.au, .inl (cC, T.U, .inl T.un))] sz.size) t9 ∧ szk sz t9.heap (T2.U - T.U) (2 * (T2.U - T.U))) (va_A [(t, .inr (12, MF 13 (tw T))), (T.au, .inl (cC, T.U, .inl T.un))] sz.size)) (grC T.U T.us) (grS T.U T.us) (va_A [(t, .inr (12, MF 13 (tw T))), (T.au, .inl (cC, T.U, .inl T.un))] sz.size) := by
  obtain ⟨ho1, ho2, ho3, ho4, ho5, ho6, ho7⟩ := hT
  have h := c_Tree_unit l dC dI t sz (tw T) cC T.au T.U T.us T.un x ho6 ho4 (by omega) ho7 rfl rfl
  refine met_post h ?_
  rintro a st o t9 ⟨⟨u, ho, ⟨hu1, hu2, hu3⟩, hB, hz⟩, hF⟩
  refine ⟨⟨TS.wU T (grN T.U T.us) u.1 (grU T.un T.U T.us x) (T.us + 1), ho, ?_, ?_, ?_⟩, hF⟩
  · refine ⟨grN T.U T.us, u.1, grU T.un T.U T.us x, rfl, fun j hj => ?_, fun j hj => ?_, ?_, ?_, ?_, ?_⟩
    · unfold grU
      rw [pk_un (by omega)]
      by_cases h1 : T.us = T.U
      · rw [if_pos h1]; exact cpL_lt hj
      · rw [if_neg h1]
    · have h0 : j = 0 := by simp at hj; omega
      subst h0
      unfold grU
      exact pk_us
    · unfold grU
      refine chOK_upd ?_ (pk_vc x)
      by_cases h1 : T.us = T.U
      · rw [if_pos h1]; exact chOK_cp _ ho7
      · rw [if_neg h1]; exact ho7
    · unfold grN; simp only [List.length_singleton]; split <;> omega
    · unfold grN; split <;> omega
    · unfold grN; simp only [List.length_singleton]; split <;> omega
  · rw [← tw_unit hu1 hu2 hu3]
    exact hB
  · refine hz.mono ?_ ?_
    · show grC T.U T.us ≤ grN T.U T.us - T.U; unfold grC grN; split <;> omega
    · show grS T.U T.us ≤ 2 * (grN T.U T.us - T.U); unfold grS grN; split <;> omega
/-- what an escape says (or -1), and where it ends -/
def escM (f : Nat → Int32) (n : Nat) (q : Int32) (i : Nat) : Int32 × Nat :=
  if hereV f n (i + 1) = q ∨ hereV f n (i + 1) = 92 ∨ hereV f n (i + 1) = 47 then (hereV f n (i + 1), i + 2) else if ¬ bfI (hereV f n (i + 1)) < 0 then (ixV (bfI (hereV f n (i + 1))), i + 2) else if hereV f n (i + 1) = 117 then hexM f n 4 (i + 2) 0 else (-1, i + 2)
theorem hexM_at (f : Nat → Int32) (n : Nat) : ∀ (k j : Nat) (a : Int32), j ≤ (hexM f n k j a).2 ∧ (hexM f n k j a).2 ≤ j + k := by
  intro k
  induction k with
  | zero => intro j a; exact ⟨Nat.le_refl _, Nat.le_refl _⟩
  | succ k ih =>
    intro j a
    simp only [hexM]
    split
    · exact ⟨Nat.le_refl _, by show j ≤ _; omega⟩
    · have := ih (j + 1) (16 * a + hexV (hereV f n j)); omega
theorem escM_at (f : Nat → Int32) (n : Nat) (q : Int32) (i : Nat) : i + 2 ≤ (escM f n q i).2 ∧ (escM f n q i).2 ≤ i + 6 := by
  unfold escM
  split
  · exact ⟨Nat.le_refl _, by show i + 2 ≤ _; omega⟩
  · split
    · exact ⟨Nat.le_refl _, by show i + 2 ≤ _; omega⟩
    · split
      · exact hexM_at f n 4 (i + 2) 0
      · exact ⟨Nat.le_refl _, by show i + 2 ≤ _; omega⟩
set_option maxHeartbeats 4000000 in
set_option maxRecDepth 100000 in
/-- the reference: escaped, in the reader's words -/
theorem c_Mo_escR (l : Launch) (dC : Nat → ClassId) (dI : Nat → Nat → Nat) (mo : Nat) (sz : Heap) (v : Nat → Value) (cB : ClassId) (qx NN : Nat) (f : Nat → Int32) (n : Nat) (sa av : Nat) (i : Nat) (hnN : n ≤ NN) (hNN : NN ≤ 1000000) (hi0 : i ≤ 800000) (h6 : v 6 = .ref qx) (h8 : v 8 = .int (nI n)) (br : Int32) (q : Int32) : Met l y_Mo_escaped (k_Mo_escaped :: gtbl) ({ frames := 4, cells := 0, slots := 0, locals := 110 }) (va_Pc [.ref mo, .int q] (mbf sa av dC dI [(mo, .inr (13, MF 30 (rf v i br))), (qx, .inl (cB, NN, .inl f))] [(cB, .byte)] sz)) (va_Qi (fun (r : Int32) (u : Int32) => r = (escM f n q i).1) (fun u => mz dC dI [(mo, .inr (13, MF 30 (rf v (escM f n q i).2 u))), (qx, .inl (cB, NN, .inl f))] [(cB, .byte)] (va_A [(mo, .inr (13, MF 30 (rf v i br))), (qx, .inl (cB, NN, .inl f))] sz.size)) (va_A [(mo, .inr (13, MF 30 (rf v i br))), (qx, .inl (cB, NN, .inl f))] sz.size)) 0 0 (va_A [(mo, .inr (13, MF 30 (rf v i br))), (qx, .inl (cB, NN, .inl f))] sz.size) := by
  have h := c_Mo_escaped l dC dI mo sz (rf v i br) cB qx NN f sa av n i hnN hNN hi0 ((rf_ne (by decide) (by decide)).trans h6) rf_7 ((rf_ne (by decide) (by decide)).trans h8) br rf_9 q
  refine met_post h ?_
  rintro a st o t ⟨⟨r, u, ho, hu, hB⟩, hF⟩
  have fin : ∀ (j : Nat) (b : Int32), u = rf v j b → (r, j) = escM f n q i → va_Qi (fun (r : Int32) (u : Int32) => r = (escM f n q i).1) (fun u => mz dC dI [(mo, .inr (13, MF 30 (rf v (escM f n q i).2 u))), (qx, .inl (cB, NN, .inl f))] [(cB, .byte)] (va_A [(mo, .inr (13, MF 30 (rf v i br))), (qx, .inl (cB, NN, .inl f))] sz.size)) (va_A [(mo, .inr (13, MF 30 (rf v i br))), (qx, .inl (cB, NN, .inl f))] sz.size) a st o t := by
    intro j b h1 h2
    subst h1
    have e1 := congrArg Prod.fst h2
    have e2 := congrArg Prod.snd h2
    simp only at e1 e2
    refine ⟨⟨r, b, ho, e1, ?_⟩, hF⟩
    rw [← e2]
    exact hB
  rcases hu with ⟨h1, h2, h3⟩ | ⟨h1, h2, h3, h4⟩ | ⟨h1, h2, h3, h4, h5⟩ | ⟨h1, h2, h3, h4, j, h5, h6, h7⟩ | ⟨h1, h2, h3, h4, h5⟩
  · refine fin (i + 1 + 1) br (h3.trans rf_u7) ?_
    unfold escM; rw [if_pos h2]; exact congrArg (fun z => (z, i + 2)) h1
  · refine fin (i + 1 + 1) br (h4.trans rf_u7) ?_
    unfold escM; rw [if_neg h1, if_pos h2]; exact congrArg (fun z => (z, i + 2)) h3
  · refine fin (i + 6) br (h5.trans rf_u7) ?_
    unfold escM; rw [if_neg h1, if_neg (fun h => h h2), if_pos h3]; exact h4.symm
  · rw [rf_u7] at h7
    obtain ⟨b3, hb3⟩ := rf_fail (v := v) (i := j) (br := br) (b2 := br) (wh := if j < n then nI i else nI n)
    refine fin j b3 (h7.trans hb3) ?_
    unfold escM; rw [if_neg h1, if_neg (fun h => h h2), if_pos h3, h4]; exact h6.symm
  · rw [rf_u7] at h5
    obtain ⟨b3, hb3⟩ := rf_fail (v := v) (i := i + 1 + 1) (br := br) (b2 := br) (wh := if hereV f n (i + 1) < 0 then nI n else nI i)
    refine fin (i + 1 + 1) b3 (h5.trans hb3) ?_
    unfold escM; rw [if_neg h1, if_neg (fun h => h h2), if_neg h3]; exact congrArg (fun z => (z, i + 2)) h4
