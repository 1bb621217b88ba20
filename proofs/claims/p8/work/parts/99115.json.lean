/-- the digits of a number, as the class reads them -/
def dgJ (f : Nat → Int32) (n i : Nat) : Int64 × Nat := if hereV f n i = 48 then (0, i + 1) else digR f n i
def jNb (f : Nat → Int32) (n i : Nat) (mi : Bool) : Option (Int64 × Nat) :=
  if ¬ digH (hereV f n i) then none
  else if ¬ (dgJ f n i).1 ≤ 9007199254740991 ∨ hereV f n (dgJ f n i).2 = 46 ∨ hereV f n (dgJ f n i).2 = 101 ∨ hereV f n (dgJ f n i).2 = 69 then none
  else some (if mi = true then -(dgJ f n i).1 else (dgJ f n i).1, (dgJ f n i).2)
/-- a number of a document, as the class reads it -/
def jN (f : Nat → Int32) (n i : Nat) : Option (Int64 × Nat) := if hereV f n i = 45 then jNb f n (i + 1) true else jNb f n i false
section JNum
variable {f : Nat → Int32} {n i u : Nat} {mi : Bool} {r : Int64}
theorem jN_m (h : hereV f n i = 45) : jN f n i = jNb f n (i + 1) true := by unfold jN; rw [if_pos h]
theorem jN_p (h : ¬ hereV f n i = 45) : jN f n i = jNb f n i false := by unfold jN; rw [if_neg h]
theorem dgJ_0 (h : hereV f n i = 48) : (0, i + 1) = dgJ f n i := by unfold dgJ; rw [if_pos h]
theorem dgJ_d (h : ¬ hereV f n i = 48) (hd : (r, u) = digR f n i) : (r, u) = dgJ f n i := by unfold dgJ; rw [if_neg h]; exact hd
theorem jNb_no (h : ¬ digH (hereV f n i)) : jNb f n i mi = none := by unfold jNb; rw [if_pos h]
theorem jNb_big (hg : (r, u) = dgJ f n i) (h : ¬ r ≤ 9007199254740991) : jNb f n i mi = none := by
  unfold jNb
  split
  · rfl
  · rw [← hg, if_pos (Or.inl h)]
theorem jNb_beh (hg : (r, u) = dgJ f n i) (h : hereV f n u = 46 ∨ hereV f n u = 101 ∨ hereV f n u = 69) : jNb f n i mi = none := by
  unfold jNb
  split
  · rfl
  · rw [← hg, if_pos (Or.inr h)]
theorem jNb_ok (hd : digH (hereV f n i)) (hg : (r, u) = dgJ f n i) (hm : r ≤ 9007199254740991) (h1 : ¬ hereV f n u = 46) (h2 : ¬ hereV f n u = 101) (h3 : ¬ hereV f n u = 69) : jNb f n i mi = some (if mi = true then -r else r, u) := by
  unfold jNb
  rw [if_neg (fun q => q hd), ← hg, if_neg (fun q => by rcases q with q | q | q | q; (· exact q hm); (· exact h1 q); (· exact h2 q); (· exact h3 q))]
end JNum
/-- a value that is no container, as the class reads it -/
def jLeaf (f : Nat → Int32) (n i : Nat) : Option (LF × Nat) :=
  if hereV f n i = 110 then (if mtB f n i (ctx 5) 4 = true then some ((0, 0, []), i + 4) else none)
  else if hereV f n i = 116 then (if mtB f n i (ctx 7) 4 = true then some ((1, 0, []), i + 4) else none)
  else if hereV f n i = 102 then (if mtB f n i (ctx 6) 5 = true then some ((2, 0, []), i + 5) else none)
  else if hereV f n i = 34 then (match qtR f n i with | some p => some ((4, 0, p.2), p.1 + 1) | none => none)
  else (match jN f n i with | some p => some ((3, p.1, []), p.2) | none => none)
def jclo (ob : Bool) : Int32 := if ob = true then 125 else 93
/-- a member's name, and what stands behind its colon -/
def jNam (f : Nat → Int32) (n : Nat) (nms : List (List Int32)) (i : Nat) : Option (List Int32 × Nat) :=
  if ¬ hereV f n (skipB f n i) = 34 then none
  else match qtR f n (skipB f n i) with
    | none => none
    | some p => if p.2 ∈ nms then none else if ¬ hereV f n (skipB f n (p.1 + 1)) = 58 then none else some (p.2, skipB f n (p.1 + 1) + 1)
/-- the members from i on: where no comma stands behind one it ends -/
def jMem {β : Type} (f : Nat → Int32) (n : Nat) (pv : Nat → Option (β × Nat)) (ob : Bool) : Nat → Nat → List (List Int32 × β) → Option (List (List Int32 × β) × Nat)
  | 0, _, _ => none
  | m + 1, i, acc => match (if ob = true then jNam f n (acc.map (·.1)) i else some ([], i)) with
    | none => none
    | some nj => match pv nj.2 with
      | none => none
      | some xj => if hereV f n xj.2 = 44 then jMem f n pv ob m (xj.2 + 1) (acc ++ [(nj.1, xj.1)]) else some (acc ++ [(nj.1, xj.1)], xj.2)
/-- what stands in brackets, of which the first is at i -/
def jIns {β : Type} (f : Nat → Int32) (n : Nat) (pv : Nat → Option (β × Nat)) (ob : Bool) (i : Nat) : Option (List (List Int32 × β) × Nat) :=
  if hereV f n (skipB f n (i + 1)) = jclo ob then some ([], skipB f n (i + 1) + 1)
  else match jMem f n pv ob 4097 (skipB f n (i + 1)) [] with
    | none => none
    | some z => if hereV f n z.2 = jclo ob then some (z.1, z.2 + 1) else none
/-- a value, at most r deep, as the class reads it -/
def jV (f : Nat → Int32) (n : Nat) : (r : Nat) → Nat → Option (JVt r × Nat)
  | 0, i => if hereV f n (skipB f n i) = 91 ∨ hereV f n (skipB f n i) = 123 then none else (jLeaf f n (skipB f n i)).map (fun p => (jleaf 0 p.1, skipB f n p.2))
  | r + 1, i => if hereV f n (skipB f n i) = 91 ∨ hereV f n (skipB f n i) = 123 then (jIns f n (jV f n r) (decide (hereV f n (skipB f n i) = 123)) (skipB f n i)).map (fun p => (((if hereV f n (skipB f n i) = 91 then 5 else 6, 0, []), p.1), skipB f n p.2))
    else (jLeaf f n (skipB f n i)).map (fun p => (jleaf (r + 1) p.1, skipB f n p.2))
theorem dpJ_leaf (r : Nat) {x : LF} (h : x.1 < 5) : dpJ r (jleaf r x) = 0 := by
  cases r with
  | zero => rfl
  | succ r => show (if 5 ≤ x.1 then _ else 0) = 0; rw [if_neg (by omega)]
/-- what a value that has been read says -/
def JF (f : Nat → Int32) (n k d i p D : Nat) (dp : Int32) : Prop := ∃ x, jV f n k i = some (x, p) ∧ dp = nI (max D (d + dpJ k x))
section JVal
variable {f : Nat → Int32} {n i p k : Nat}
theorem jV_leaf (h : ¬ (hereV f n (skipB f n i) = 91 ∨ hereV f n (skipB f n i) = 123)) : jV f n k i = (jLeaf f n (skipB f n i)).map (fun p => (jleaf k p.1, skipB f n p.2)) := by
  cases k with
  | zero => show (if _ then _ else _) = _; rw [if_neg h]
  | succ k => show (if _ then _ else _) = _; rw [if_neg h]
theorem jV_lf0 (h : ¬ (hereV f n (skipB f n i) = 91 ∨ hereV f n (skipB f n i) = 123)) (hl : jLeaf f n (skipB f n i) = none) : jV f n k i = none := by rw [jV_leaf h, hl]; rfl
theorem JF.leaf {d D : Nat} {x : LF} {p1 : Nat} {dp : Int32} (h : ¬ (hereV f n (skipB f n i) = 91 ∨ hereV f n (skipB f n i) = 123)) (hl : jLeaf f n (skipB f n i) = some (x, p1)) (hx : x.1 < 5) (hp : p = skipB f n p1) (hD : d ≤ D) (hdp : dp = nI D) : JF f n k d i p D dp := ⟨jleaf k x, by rw [jV_leaf h, hl, hp]; rfl, by rw [dpJ_leaf k hx, hdp]; congr 1; omega⟩
theorem jV_deep (h : hereV f n (skipB f n i) = 91 ∨ hereV f n (skipB f n i) = 123) : jV f n 0 i = none := by show (if _ then _ else _) = _; rw [if_pos h]
theorem jV_con0 {ob : Bool} (hk : 0 < k) (h : hereV f n (skipB f n i) = if ob = true then 123 else 91) (hl : jIns f n (jV f n (k - 1)) ob (skipB f n i) = none) : jV f n k i = none := by
  cases k with
  | zero => exact absurd hk (Nat.lt_irrefl 0)
  | succ k =>
    have hl : jIns f n (jV f n k) ob (skipB f n i) = none := hl
    show (if _ then _ else _) = _
    cases ob with
    | false =>
      have h : hereV f n (skipB f n i) = 91 := h
      rw [if_pos (Or.inl h), h, show decide ((91 : Int32) = 123) = false from rfl, hl]
      rfl
    | true =>
      have h : hereV f n (skipB f n i) = 123 := h
      rw [if_pos (Or.inr h), h, show decide ((123 : Int32) = 123) = true from rfl, hl]
      rfl
theorem JF.con {d D D2 : Nat} {ob : Bool} {ks : List (List Int32 × JVt (k - 1))} {p1 : Nat} {dp : Int32} (hk : 0 < k) (h : hereV f n (skipB f n i) = if ob = true then 123 else 91) (hl : jIns f n (jV f n (k - 1)) ob (skipB f n i) = some (ks, p1)) (hp : p = skipB f n p1) (hD2 : D2 = max D (d + 1 + dpK (dpJ (k - 1)) ks)) (hdp : dp = nI D2) : JF f n k d i p D dp := by
  cases k with
  | zero => exact absurd hk (Nat.lt_irrefl 0)
  | succ k =>
    have hl : jIns f n (jV f n k) ob (skipB f n i) = some (ks, p1) := hl
    have hD2 : D2 = max D (d + 1 + dpK (dpJ k) ks) := hD2
    refine ⟨((if hereV f n (skipB f n i) = 91 then 5 else 6, 0, []), ks), ?_, ?_⟩
    · show (if _ then _ else _) = _
      cases ob with
      | false =>
        have h : hereV f n (skipB f n i) = 91 := h
        rw [if_pos (Or.inl h), h, show decide ((91 : Int32) = 123) = false from rfl, hl, hp]
        rfl
      | true =>
        have h : hereV f n (skipB f n i) = 123 := h
        rw [if_pos (Or.inr h), h, show decide ((123 : Int32) = 123) = true from rfl, hl, hp]
        rfl
    · have e : dpJ (k + 1) ((if hereV f n (skipB f n i) = 91 then 5 else 6, 0, []), ks) = dpK (dpJ k) ks + 1 := by
        show (if 5 ≤ (if hereV f n (skipB f n i) = 91 then 5 else 6) then _ else 0) = _
        rw [if_pos (by split <;> decide)]
      rw [e, hdp, hD2]
      congr 2
      omega
theorem mt_1 {b : Nat → Int32} {k : Nat} (h : mtch f n i b k) : mtB f n i b k = true := mtB_iff.mpr h
theorem mt_0 {b : Nat → Int32} {k : Nat} (h : ¬ mtch f n i b k) : ¬ mtB f n i b k = true := fun q => h (mtB_iff.mp q)
theorem jL_null (h : hereV f n i = 110) (hm : mtch f n i (ctx 5) 4) : jLeaf f n i = some ((0, 0, []), i + 4) := by unfold jLeaf; rw [if_pos h, if_pos (mt_1 hm)]
theorem jL_null0 (h : hereV f n i = 110) (hm : ¬ mtch f n i (ctx 5) 4) : jLeaf f n i = none := by unfold jLeaf; rw [if_pos h, if_neg (mt_0 hm)]
theorem jL_true (h : hereV f n i = 116) (hm : mtch f n i (ctx 7) 4) : jLeaf f n i = some ((1, 0, []), i + 4) := by unfold jLeaf; rw [if_neg (by rw [h]; decide), if_pos h, if_pos (mt_1 hm)]
theorem jL_true0 (h : hereV f n i = 116) (hm : ¬ mtch f n i (ctx 7) 4) : jLeaf f n i = none := by unfold jLeaf; rw [if_neg (by rw [h]; decide), if_pos h, if_neg (mt_0 hm)]
theorem jL_false (h : hereV f n i = 102) (hm : mtch f n i (ctx 6) 5) : jLeaf f n i = some ((2, 0, []), i + 5) := by unfold jLeaf; rw [if_neg (by rw [h]; decide), if_neg (by rw [h]; decide), if_pos h, if_pos (mt_1 hm)]
theorem jL_false0 (h : hereV f n i = 102) (hm : ¬ mtch f n i (ctx 6) 5) : jLeaf f n i = none := by unfold jLeaf; rw [if_neg (by rw [h]; decide), if_neg (by rw [h]; decide), if_pos h, if_neg (mt_0 hm)]
theorem jL_text {j : Nat} {L : List Int32} (h : hereV f n i = 34) (hm : qtR f n i = some (j, L)) : jLeaf f n i = some ((4, 0, L), j + 1) := by unfold jLeaf; rw [if_neg (by rw [h]; decide), if_neg (by rw [h]; decide), if_neg (by rw [h]; decide), if_pos h, hm]
theorem jL_text0 (h : hereV f n i = 34) (hm : qtR f n i = none) : jLeaf f n i = none := by unfold jLeaf; rw [if_neg (by rw [h]; decide), if_neg (by rw [h]; decide), if_neg (by rw [h]; decide), if_pos h, hm]
theorem jL_num {r : Int64} {u : Nat} (h1 : ¬ hereV f n i = 110) (h2 : ¬ hereV f n i = 116) (h3 : ¬ hereV f n i = 102) (h4 : ¬ hereV f n i = 34) (hm : jN f n i = some (r, u)) : jLeaf f n i = some ((3, r, []), u) := by unfold jLeaf; rw [if_neg h1, if_neg h2, if_neg h3, if_neg h4, hm]
theorem jL_num0 (h1 : ¬ hereV f n i = 110) (h2 : ¬ hereV f n i = 116) (h3 : ¬ hereV f n i = 102) (h4 : ¬ hereV f n i = 34) (hm : jN f n i = none) : jLeaf f n i = none := by unfold jLeaf; rw [if_neg h1, if_neg h2, if_neg h3, if_neg h4, hm]
/-- which sign stands there, and no other -/
theorem nb_of {c : Int32} (h : hereV f n i = c) (h1 : ¬ c = 91) (h2 : ¬ c = 123) : ¬ (hereV f n i = 91 ∨ hereV f n i = 123) := fun q => by rw [h] at q; exact q.elim h1 h2
theorem jNam_1 {nms : List (List Int32)} (h : ¬ hereV f n (skipB f n i) = 34) : jNam f n nms i = none := by unfold jNam; rw [if_pos h]
theorem jNam_2 {nms : List (List Int32)} (h : hereV f n (skipB f n i) = 34) (hq : qtR f n (skipB f n i) = none) : jNam f n nms i = none := by unfold jNam; rw [if_neg (fun q => q h), hq]
theorem jNam_3 {nms : List (List Int32)} {j : Nat} {L : List Int32} (h : hereV f n (skipB f n i) = 34) (hq : qtR f n (skipB f n i) = some (j, L)) (hm : L ∈ nms) : jNam f n nms i = none := by unfold jNam; rw [if_neg (fun q => q h), hq]; show (if L ∈ nms then _ else _) = _; rw [if_pos hm]
theorem jNam_4 {nms : List (List Int32)} {j : Nat} {L : List Int32} (h : hereV f n (skipB f n i) = 34) (hq : qtR f n (skipB f n i) = some (j, L)) (hc : ¬ hereV f n (skipB f n (j + 1)) = 58) : jNam f n nms i = none := by
  unfold jNam
  rw [if_neg (fun q => q h), hq]
  show (if L ∈ nms then _ else if ¬ hereV f n (skipB f n (j + 1)) = 58 then _ else _) = _
  split
  · rfl
  · first | rfl | rw [if_pos hc]
theorem jNam_ok {nms : List (List Int32)} {j : Nat} {L : List Int32} (h : hereV f n (skipB f n i) = 34) (hq : qtR f n (skipB f n i) = some (j, L)) (hm : ¬ L ∈ nms) (hc : hereV f n (skipB f n (j + 1)) = 58) : jNam f n nms i = some (L, skipB f n (j + 1) + 1) := by
  unfold jNam
  rw [if_neg (fun q => q h), hq]
  show (if L ∈ nms then _ else if ¬ hereV f n (skipB f n (j + 1)) = 58 then _ else _) = _
  rw [if_neg hm, if_neg (fun q => q hc)]
end JVal
section JMem
variable {β : Type} {f : Nat → Int32} {n i m : Nat} {pv : Nat → Option (β × Nat)} {ob : Bool} {acc : List (List Int32 × β)} {nm : List Int32} {j j2 : Nat} {x : β}
/-- a member's name, where there are names -/
def jNm (f : Nat → Int32) (n : Nat) (ob : Bool) (nms : List (List Int32)) (i : Nat) : Option (List Int32 × Nat) := if ob = true then jNam f n nms i else some ([], i)
theorem jMem_n (h1 : jNm f n ob (acc.map (·.1)) i = none) : jMem f n pv ob (m + 1) i acc = none := by
  have h1 : (if ob = true then jNam f n (acc.map (·.1)) i else some ([], i)) = none := h1
  simp only [jMem]
  rw [h1]
theorem jMem_v (h1 : jNm f n ob (acc.map (·.1)) i = some (nm, j)) (h2 : pv j = none) : jMem f n pv ob (m + 1) i acc = none := by
  have h1 : (if ob = true then jNam f n (acc.map (·.1)) i else some ([], i)) = some (nm, j) := h1
  simp only [jMem]
  rw [h1]
  simp only []
  rw [h2]
theorem jMem_s (h1 : jNm f n ob (acc.map (·.1)) i = some (nm, j)) (h2 : pv j = some (x, j2)) (h3 : hereV f n j2 = 44) : jMem f n pv ob (m + 1) i acc = jMem f n pv ob m (j2 + 1) (acc ++ [(nm, x)]) := by
  have h1 : (if ob = true then jNam f n (acc.map (·.1)) i else some ([], i)) = some (nm, j) := h1
  rw [jMem]
  rw [h1]
  simp only []
  rw [h2]
  simp only []
  rw [if_pos h3]
theorem jMem_e (h1 : jNm f n ob (acc.map (·.1)) i = some (nm, j)) (h2 : pv j = some (x, j2)) (h3 : ¬ hereV f n j2 = 44) : jMem f n pv ob (m + 1) i acc = some (acc ++ [(nm, x)], j2) := by
  have h1 : (if ob = true then jNam f n (acc.map (·.1)) i else some ([], i)) = some (nm, j) := h1
  rw [jMem]
  rw [h1]
  simp only []
  rw [h2]
  simp only []
  rw [if_neg h3]
theorem jIns_e (h : hereV f n (skipB f n (i + 1)) = jclo ob) : jIns f n pv ob i = some ([], skipB f n (i + 1) + 1) := by unfold jIns; rw [if_pos h]
theorem jIns_0 (h : ¬ hereV f n (skipB f n (i + 1)) = jclo ob) (hm : jMem f n pv ob 4097 (skipB f n (i + 1)) [] = none) : jIns f n pv ob i = none := by unfold jIns; rw [if_neg h, hm]
theorem jIns_1 (h : ¬ hereV f n (skipB f n (i + 1)) = jclo ob) (hm : jMem f n pv ob 4097 (skipB f n (i + 1)) [] = some (acc, j)) (hc : ¬ hereV f n j = jclo ob) : jIns f n pv ob i = none := by unfold jIns; rw [if_neg h, hm]; simp only []; rw [if_neg hc]
theorem jIns_ok (h : ¬ hereV f n (skipB f n (i + 1)) = jclo ob) (hm : jMem f n pv ob 4097 (skipB f n (i + 1)) [] = some (acc, j)) (hc : hereV f n j = jclo ob) : jIns f n pv ob i = some (acc, j + 1) := by unfold jIns; rw [if_neg h, hm]; simp only []; rw [if_pos hc]
end JMem
