/-! what the class writes, as a list of bytes -/
abbrev WOK (k : Nat) (g : Nat → Int32) (T : List Int32) (k' : Nat) (g' : Nat → Int32) : Prop := penL (k, 0, g) T = (k', 0, g')
abbrev WNO (k : Nat) (g : Nat → Int32) (T : List Int32) : Prop := (penL (k, 0, g) T).2.1 = 1
theorem pen_over1 : ∀ (T : List Int32) (s : PS), s.2.1 = 1 → (penL s T).2.1 = 1 := by
  intro T
  induction T with
  | nil => exact fun s h => h
  | cons x T ih =>
    intro s h
    show (penL (pen1 s x) T).2.1 = 1
    refine ih _ ?_
    unfold pen1
    split
    · exact h
    · rfl
theorem WOK.le {k k' : Nat} {g g' : Nat → Int32} {T : List Int32} (h : WOK k g T k' g') (hk : k ≤ 16384) : k' ≤ 16384 := by
  have h1 := penL_le (s := (k, 0, g)) hk T
  rw [h] at h1
  exact h1
section WG
variable {s : PS} {F T R : List Int32} {k1 k2 : Nat} {g1 g2 : Nat → Int32}
/-- a piece is written: what is left -/
theorem WOK.go (hR : penL s F = penL (k1, 0, g1) (T ++ R)) (hw : WOK k1 g1 T k2 g2) : penL s F = penL (k2, 0, g2) R := by rw [hR, ← penL_app, hw]
/-- a piece finds no room -/
theorem WNO.go (hR : penL s F = penL (k1, 0, g1) (T ++ R)) (hw : WNO k1 g1 T) : (penL s F).2.1 = 1 := by
  rw [hR, ← penL_app]
  exact pen_over1 _ _ hw
end WG
theorem WOK.one {k : Nat} {g : Nat → Int32} {x : Int32} (h : k < 16384) : WOK k g [x] (k + 1) (upd g k (vp_nar .byte (x.toInt8.toInt32))) := by
  show pen1 (k, 0, g) x = _
  unfold pen1
  rw [if_pos (show ((k, 0, g) : PS).1 < 16384 from h)]
theorem WNO.one {k : Nat} {g : Nat → Int32} {x : Int32} (h : ¬ k < 16384) : WNO k g [x] := by
  show (pen1 (k, 0, g) x).2.1 = 1
  unfold pen1
  rw [if_neg (show ¬ ((k, 0, g) : PS).1 < 16384 from h)]
/-- the letters of a text -/
def ltB (b : Nat → Int32) (n : Nat) : List Int32 := (List.range n).map (fun i => b i &&& 255)
theorem ltB_s (b : Nat → Int32) (n : Nat) : ltB b (n + 1) = ltB b n ++ [b n &&& 255] := by
  unfold ltB
  rw [List.range_succ, List.map_append]
  rfl
theorem WOK.lets {k : Nat} {g : Nat → Int32} {b : Nat → Int32} : ∀ {n : Nat}, k + n ≤ 16384 → WOK k g (ltB b n) (k + n) (wrS g k b n) := by
  intro n
  induction n with
  | zero => exact fun _ => rfl
  | succ n ih =>
    intro h
    have h1 := ih (by omega)
    have h2 := WOK.one (k := k + n) (g := wrS g k b n) (x := b n &&& 255) (by omega)
    show penL (k, 0, g) (ltB b (n + 1)) = _
    rw [ltB_s, ← penL_app, h1, h2]
    rfl
theorem WNO.lets {k : Nat} {g : Nat → Int32} {b : Nat → Int32} : ∀ {n : Nat}, k ≤ 16384 → ¬ k + n ≤ 16384 → WNO k g (ltB b n) := by
  intro n
  induction n with
  | zero => exact fun h1 h2 => absurd h1 h2
  | succ n ih =>
    intro h1 h2
    show (penL (k, 0, g) (ltB b (n + 1))).2.1 = 1
    rw [ltB_s, ← penL_app]
    by_cases h3 : k + n ≤ 16384
    · rw [WOK.lets h3]
      exact WNO.one (by omega)
    · exact pen_over1 _ _ (ih h1 h3)
/-- what is written, when it finds room, and when not -/
theorem penL_all : ∀ (T : List Int32) (k : Nat) (g : Nat → Int32), k ≤ 16384 → (k + T.length ≤ 16384 ∧ ∃ g', penL (k, 0, g) T = (k + T.length, 0, g') ∧ (∀ i, i < k → g' i = g i) ∧ ∀ i x, T[i]? = some x → g' (k + i) = vp_nar .byte (x.toInt8.toInt32)) ∨ (16384 < k + T.length ∧ WNO k g T) := by
  intro T
  induction T with
  | nil => exact fun k g hk => Or.inl ⟨hk, g, rfl, fun _ _ => rfl, fun i x h => (by cases h)⟩
  | cons y T ih =>
    intro k g hk
    by_cases h : k < 16384
    · have e : penL (k, 0, g) (y :: T) = penL (k + 1, 0, upd g k (vp_nar .byte (y.toInt8.toInt32))) T := by
        show penL (pen1 (k, 0, g) y) T = _
        rw [show pen1 (k, 0, g) y = _ from WOK.one h]
      rcases ih (k + 1) (upd g k (vp_nar .byte (y.toInt8.toInt32))) h with ⟨h1, g', h2, h3, h4⟩ | ⟨h1, h2⟩
      · refine Or.inl ⟨by rw [List.length_cons]; omega, g', by rw [e, h2, List.length_cons, show k + 1 + T.length = k + (T.length + 1) by omega], fun i hi => ?_, fun i x hx => ?_⟩
        · rw [h3 i (by omega)]
          show (if i = k then _ else g i) = g i
          rw [if_neg (by omega)]
        · cases i with
          | zero =>
            obtain rfl : y = x := Option.some.inj hx
            rw [Nat.add_zero, h3 k (Nat.lt_succ_self k)]
            show (if k = k then _ else g k) = _
            rw [if_pos rfl]
          | succ i =>
            rw [show k + (i + 1) = k + 1 + i by omega]
            exact h4 i x hx
      · refine Or.inr ⟨by rw [List.length_cons]; omega, ?_⟩
        show (penL (k, 0, g) (y :: T)).2.1 = 1
        rw [e]
        exact h2
    · refine Or.inr ⟨by rw [List.length_cons]; omega, ?_⟩
      show (penL (pen1 (k, 0, g) y) T).2.1 = 1
      exact pen_over1 _ _ (WNO.one h)
theorem ov_len {T : List Int32} {g : Nat → Int32} (h : (penL (0, 0, g) T).2.1 = 1) : 16384 < T.length := by
  rcases penL_all T 0 g (Nat.zero_le _) with ⟨-, g', h2, -⟩ | ⟨h1, -⟩
  · rw [h2] at h
    exact absurd h (by show ¬ (0 : Int32) = 1; decide)
  · omega
theorem nI_subA (a b : Nat) : nI (a + b) - nI a = nI b := by
  have h : nI (a + b) = nI b + nI a := by rw [Nat.add_comm]; exact Int32.ofNat_add b a
  rw [h, Int32.add_sub_cancel]
theorem run_sub (t : Nat) : nI t - nI 0 = nI t := by
  have h := nI_subA 0 t
  rw [Nat.zero_add] at h
  exact h
/-- the root of a document -/
def rtN (x : JVt 32) : NT := ([], ⟨32, x⟩)
theorem ksJ_gt {r : Nat} {x : JVt (r + 1)} {i : Nat} {c : List Int32 × VU} (h : (ksJ (r + 1) x)[i]? = some c) : ∃ d, x.2[i]? = some d ∧ c = (d.1, ⟨r, d.2⟩) := by
  have h1 : (x.2.map (fun p => (p.1, (⟨r, p.2⟩ : VU))))[i]? = some c := h
  rw [List.getElem?_map] at h1
  cases hd : x.2[i]? with
  | none => rw [hd] at h1; cases h1
  | some d => rw [hd] at h1; exact ⟨d, rfl, (Option.some.inj h1).symm⟩
/-! the way to a node, as it is written -/
def atV : VU → List Nat → Option VU
  | u, [] => some u
  | u, i :: p => match (ksU u)[i]? with
    | some c => atV c.2 p
    | none => none
def stp (kd i : Nat) (nm : List Int32) : List Int32 := [91] ++ ((if kd = 6 then unL 39 nm else nmB (nI i).toInt64) ++ [93])
def pthJ : VU → List Nat → List Int32
  | _, [] => []
  | u, i :: p => match (ksU u)[i]? with
    | some c => stp (lfU u).1 i c.1 ++ pthJ c.2 p
    | none => []
theorem pth_snoc : ∀ (p : List Nat) (u v : VU) (i : Nat) (c : List Int32 × VU), atV u p = some v → (ksU v)[i]? = some c → pthJ u (p ++ [i]) = pthJ u p ++ stp (lfU v).1 i c.1 := by
  intro p
  induction p with
  | nil =>
    intro u v i c h hc
    obtain rfl : u = v := Option.some.inj h
    show (match (ksU u)[i]? with
      | some c => stp (lfU u).1 i c.1 ++ pthJ c.2 []
      | none => []) = [] ++ stp (lfU u).1 i c.1
    rw [hc]
    show stp (lfU u).1 i c.1 ++ [] = _
    rw [List.append_nil]
    rfl
  | cons j p ih =>
    intro u v i c h hc
    have h : (match (ksU u)[j]? with
      | some c => atV c.2 p
      | none => none) = some v := h
    show (match (ksU u)[j]? with
      | some c => stp (lfU u).1 j c.1 ++ pthJ c.2 (p ++ [i])
      | none => []) = (match (ksU u)[j]? with
      | some c => stp (lfU u).1 j c.1 ++ pthJ c.2 p
      | none => []) ++ stp (lfU v).1 i c.1
    cases hd : (ksU u)[j]? with
    | none => rw [hd] at h; cases h
    | some d =>
      rw [hd] at h
      have h : atV d.2 p = some v := h
      show stp (lfU u).1 j d.1 ++ pthJ d.2 (p ++ [i]) = (stp (lfU u).1 j d.1 ++ pthJ d.2 p) ++ stp (lfU v).1 i c.1
      rw [ih d.2 v i c h hc, List.append_assoc]
theorem pth_at : ∀ (r : Nat) (x : JVt r) (p : List Nat) (nd : NT), nd ∈ preN (p, (⟨r, x⟩ : VU)) → ∃ q, nd.1 = p ++ q ∧ atV ⟨r, x⟩ q = some nd.2 ∧ nd.2.1 + q.length = r := by
  intro r
  induction r with
  | zero =>
    intro x p nd h
    have h : nd ∈ [((p, ⟨0, x⟩) : NT)] := h
    rw [List.mem_singleton.mp h]
    exact ⟨[], (List.append_nil _).symm, rfl, rfl⟩
  | succ r ih =>
    intro x p nd h
    rw [pre_kids] at h
    rcases List.mem_cons.mp h with h | h
    · rw [h]
      exact ⟨[], (List.append_nil _).symm, rfl, rfl⟩
    · obtain ⟨M, hM, hn⟩ := List.mem_flatten.mp h
      obtain ⟨c, hc, rfl⟩ := List.mem_map.mp hM
      obtain ⟨i, hi⟩ := List.getElem?_of_mem hc
      obtain ⟨e, h8, h9⟩ := kds_ks hi
      obtain ⟨d, d1, rfl⟩ := ksJ_gt h8
      rw [h9] at hn
      obtain ⟨q, q1, q2, q3⟩ := ih d.2 (p ++ [i]) nd hn
      refine ⟨i :: q, by rw [q1, List.append_assoc]; rfl, ?_, by rw [List.length_cons]; omega⟩
      show (match (ksU (⟨r + 1, x⟩ : VU))[i]? with
        | some c => atV c.2 q
        | none => none) = some nd.2
      rw [h8]
      exact q2
/-- from a node to one of its members -/
theorem pth_kid {x : JVt 32} {nd : NT} (h : nd ∈ preN (rtN x)) {i : Nat} {c : List Int32 × NT} (hc : (kdsN nd)[i]? = some c) : c.2.1 = nd.1 ++ [i] ∧ pthJ ⟨32, x⟩ c.2.1 = pthJ ⟨32, x⟩ nd.1 ++ stp (kdN nd) i c.1 ∧ nd.1.length < 32 := by
  obtain ⟨q, q1, q2, q3⟩ := pth_at 32 x [] nd h
  have q1 : nd.1 = q := q1
  obtain ⟨e, h8, h9⟩ := kds_ks hc
  have e1 : c.2.1 = nd.1 ++ [i] := by rw [h9]
  refine ⟨e1, ?_, ?_⟩
  · rw [e1, q1, pth_snoc q _ _ i e q2 h8, h9]
  · rw [q1]
    obtain ⟨p, r, y⟩ := nd
    cases r with
    | zero => cases h8
    | succ r =>
      have q3 : r + 1 + q.length = 32 := q3
      omega
theorem pth_len {x : JVt 32} {nd : NT} (h : nd ∈ preN (rtN x)) : nd.1.length ≤ 32 := by
  obtain ⟨q, q1, q2, q3⟩ := pth_at 32 x [] nd h
  have q1 : nd.1 = q := q1
  rw [q1]
  omega
/-- a row of the answer -/
def rowB (x : JVt 32) (nd : NT) : List Int32 := [36] ++ (pthJ ⟨32, x⟩ nd.1 ++ ([32] ++ (prV nd.2.1 nd.2.2 ++ [10])))
/-- the answer -/
def outB (x : JVt 32) (l : List NT) : List Int32 := l.flatMap (rowB x)
theorem outB_d {x : JVt 32} {l : List NT} {i : Nat} {nd : NT} (h : l[i]? = some nd) : outB x (l.drop i) = rowB x nd ++ outB x (l.drop (i + 1)) := by
  obtain ⟨hi, e⟩ := List.getElem?_eq_some_iff.mp h
  unfold outB
  rw [List.drop_eq_getElem_cons hi, e, List.flatMap_cons]
theorem outB_e {x : JVt 32} {l : List NT} {i : Nat} (h : l.length ≤ i) : outB x (l.drop i) = [] := by
  unfold outB
  rw [List.drop_eq_nil_of_le h]
  rfl
theorem at_snoc : ∀ (p : List Nat) (u v : VU) (i : Nat) (c : List Int32 × VU), atV u p = some v → (ksU v)[i]? = some c → atV u (p ++ [i]) = some c.2 := by
  intro p
  induction p with
  | nil =>
    intro u v i c h hc
    obtain rfl : u = v := Option.some.inj h
    show (match (ksU u)[i]? with
      | some c => atV c.2 []
      | none => none) = some c.2
    rw [hc]
    rfl
  | cons j p ih =>
    intro u v i c h hc
    have h : (match (ksU u)[j]? with
      | some c => atV c.2 p
      | none => none) = some v := h
    show (match (ksU u)[j]? with
      | some c => atV c.2 (p ++ [i])
      | none => none) = some c.2
    cases hd : (ksU u)[j]? with
    | none => rw [hd] at h; cases h
    | some d =>
      rw [hd] at h
      exact ih d.2 v i c h hc
theorem chn_uni {nx : Nat → Int32} {N : Nat} (hN : N ≤ 1000000) : ∀ (ks ls : List Nat) (k : Int32), chn nx N ks k → chn nx N ls k → ks = ls := by
  intro ks
  induction ks with
  | nil =>
    intro ls k h1 h2
    cases ls with
    | nil => rfl
    | cons b ls =>
      have h1 : k < 0 := h1
      obtain ⟨e, hb, -⟩ := h2
      rw [e] at h1
      exact absurd h1 (nI_pos (by omega))
  | cons a ks ih =>
    intro ls k h1 h2
    obtain ⟨e1, ha, h1⟩ := h1
    cases ls with
    | nil =>
      have h2 : k < 0 := h2
      rw [e1] at h2
      exact absurd h2 (nI_pos (by omega))
    | cons b ls =>
      obtain ⟨e2, hb, h2⟩ := h2
      obtain rfl : a = b := (nI_eq (by omega) (by omega)).mp (e1.symm.trans e2)
      rw [ih ls _ h1 h2]
theorem chn_drop {nx : Nat → Int32} {N : Nat} : ∀ (ks : List Nat) (k : Int32) (i a : Nat), chn nx N ks k → ks[i]? = some a → chn nx N (ks.drop (i + 1)) (nx a) := by
  intro ks
  induction ks with
  | nil => intro k i a h1 h2; cases h2
  | cons b ks ih =>
    intro k i a h1 h2
    obtain ⟨e1, hb, h1⟩ := h1
    cases i with
    | zero =>
      obtain rfl : b = a := Option.some.inj h2
      exact h1
    | succ i => exact ih _ i a h1 h2
/-- no node stands twice in a chain -/
theorem chn_ix {nx : Nat → Int32} {N : Nat} (hN : N ≤ 1000000) {ks : List Nat} {k : Int32} {i j a : Nat} (h : chn nx N ks k) (h1 : ks[i]? = some a) (h2 : ks[j]? = some a) : i = j := by
  have e := chn_uni hN _ _ _ (chn_drop ks k i a h h1) (chn_drop ks k j a h h2)
  have e2 := congrArg List.length e
  rw [List.length_drop, List.length_drop] at e2
  have l1 := (List.getElem?_eq_some_iff.mp h1).1
  have l2 := (List.getElem?_eq_some_iff.mp h2).1
  omega
/-- what stands at the end of a way -/
theorem AP.at_ {T : TS} {x : JVt 32} (hc : T.ct ≤ 1000000) (hR : RepV T 32 0 T.ct x) : ∀ (rp : List Nat) (a : Nat), AP T rp a → ∃ (u : VU) (e : Nat), atV ⟨32, x⟩ rp.reverse = some u ∧ RepV T u.1 a e u.2 := by
  intro rp
  induction rp with
  | nil =>
    intro a h
    obtain ⟨-, rfl⟩ := h
    exact ⟨⟨32, x⟩, T.ct, rfl, hR⟩
  | cons i rp ih =>
    intro a h
    obtain ⟨p, ks, h1, h2, h3, h4, h5, h6⟩ := h
    obtain ⟨u, e, q1, q2⟩ := ih p h6
    obtain ⟨ks2, k1, k2, k3, k4⟩ := RepV_kids q2
    obtain rfl := chn_uni hc _ _ _ h3 k1
    have hi := (List.getElem?_eq_some_iff.mp h4).1
    obtain ⟨c, hc9⟩ : ∃ c, (ksU u)[i]? = some c := ⟨_, List.getElem?_eq_getElem (by omega)⟩
    obtain ⟨-, -, -, -, -, eb, k5⟩ := k4 i a c h4 hc9
    refine ⟨c.2, eb, ?_, k5⟩
    rw [List.reverse_cons]
    exact at_snoc _ _ _ _ _ q1 hc9
/-- one step of the way -/
theorem AP.step {T : TS} {x : JVt 32} (hc : T.ct ≤ 1000000) (hR : RepV T 32 0 T.ct x) {i : Nat} {rp : List Nat} {a p : Nat} {ks : List Nat} (h3 : chn T.nx T.ct ks (T.ki p)) (h4 : ks[i]? = some a) (h6 : AP T rp p) : (T.kd p = 6 ∧ pthJ ⟨32, x⟩ (i :: rp).reverse = pthJ ⟨32, x⟩ rp.reverse ++ ([91] ++ (unL 39 (nmT T a) ++ [93]))) ∨ (¬ T.kd p = 6 ∧ pthJ ⟨32, x⟩ (i :: rp).reverse = pthJ ⟨32, x⟩ rp.reverse ++ ([91] ++ (nmB (nI i).toInt64 ++ [93]))) := by
  obtain ⟨u, e, q1, q2⟩ := AP.at_ hc hR rp p h6
  obtain ⟨ks2, k1, k2, k3, k4⟩ := RepV_kids q2
  obtain rfl := chn_uni hc _ _ _ h3 k1
  have hi := (List.getElem?_eq_some_iff.mp h4).1
  obtain ⟨c, hc9⟩ : ∃ c, (ksU u)[i]? = some c := ⟨_, List.getElem?_eq_getElem (by omega)⟩
  obtain ⟨-, k5, -⟩ := k4 i a c h4 hc9
  have hp := pth_snoc rp.reverse ⟨32, x⟩ u i c q1 hc9
  have hk := kd_is q2 (k := 6) (by decide)
  by_cases h7 : T.kd p = 6
  · have h8 : (lfU u).1 = 6 := hk.mp h7
    refine Or.inl ⟨h7, ?_⟩
    rw [List.reverse_cons, hp, (k5 h8).2]
    unfold stp
    rw [if_pos h8]
  · have h8 : ¬ (lfU u).1 = 6 := fun h => h7 (hk.mpr h)
    refine Or.inr ⟨h7, ?_⟩
    rw [List.reverse_cons, hp]
    unfold stp
    rw [if_neg h8]
