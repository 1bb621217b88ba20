section CQuery
variable (f : Nat → Int32) (n : Nat)
/-- digits that do not begin with 0, as the class reads them: where they end -/
def iB (i : Nat) : Option Nat := if ¬ digH (hereV f n i) ∨ hereV f n i = 48 then none else if ¬ (digR f n i).1 ≤ 9007199254740991 then none else some (digR f n i).2
def iC (i : Nat) : Option Nat := if hereV f n i = 45 then iB f n (i + 1) else if hereV f n i = 48 then some (i + 1) else iB f n i
/-- a slice from its first colon on -/
def slC2 (j : Nat) : Option Nat := if hereV f n j = 58 then (if numC (hereV f n (skipB f n (j + 1))) then iC f n (skipB f n (j + 1)) else some (skipB f n (j + 1))) else some j
def slC (i : Nat) : Option Nat := if numC (hereV f n (skipB f n (i + 1))) then (iC f n (skipB f n (i + 1))).bind (fun j => slC2 f n (skipB f n j)) else slC2 f n (skipB f n (i + 1))
/-- a selector at i: where it ends (before blanks), and whether it is a name or an index -/
def selC1 (orL : Nat → Option Nat) (nw : Bool) (i : Nat) : Option (Nat × Bool) :=
  if hereV f n i = 39 ∨ hereV f n i = 34 then (qtR f n i).map (fun p => (p.1 + 1, true))
  else if nw = false ∧ hereV f n i = 42 then some (i + 1, false)
  else if nw = false ∧ hereV f n i = 63 then (orL (i + 1)).map (fun j => (j, false))
  else if nw = false ∧ hereV f n i = 58 then (slC f n i).map (fun j => (j, false))
  else (iC f n i).bind (fun j => if nw = false ∧ hereV f n (skipB f n j) = 58 then (slC f n (skipB f n j)).map (fun k => (k, false)) else some (skipB f n j, true))
def selC (orL : Nat → Option Nat) (nw : Bool) (i : Nat) : Option (Nat × Bool) := (selC1 f n orL nw (skipB f n i)).map (fun p => (skipB f n p.1, p.2))
/-- further selectors: p is behind one -/
def slsLC (orL : Nat → Option Nat) (nw : Bool) : Nat → Nat → Option Nat
  | 0, _ => none
  | k + 1, p => if nw = false ∧ hereV f n p = 44 then (selC f n orL nw (p + 1)).bind (fun q => slsLC orL nw k q.1) else some p
def slsC (ok : Bool) (orL : Nat → Option Nat) (nw : Bool) (i : Nat) : Option (Nat × Bool) :=
  if ok = true ∧ hereV f n i = 91 then (selC f n orL nw (i + 1)).bind (fun p => (slsLC f n orL nw 4098 p.1).bind (fun j => if hereV f n j = 93 then some (j + 1, p.2 && !(decide (nw = false ∧ hereV f n p.1 = 44))) else none)) else none
def nmC : Nat → Nat → Nat
  | 0, j => j
  | k + 1, j => if letH (hereV f n j) ∨ digH (hereV f n j) then nmC k (j + 1) else j
def shC (nw : Bool) (j : Nat) : Option (Nat × Bool) := if nw = false ∧ hereV f n j = 42 then some (j + 1, false) else if ¬ letH (hereV f n j) then none else some (nmC f n (n - j) j, true)
def segC (ok : Bool) (orL : Nat → Option Nat) (nw : Bool) (i : Nat) : Option (Nat × Bool) :=
  if hereV f n i = 46 then (if nw = false ∧ hereV f n (i + 1) = 46 then (if hereV f n (i + 2) = 91 then (slsC f n ok orL nw (i + 2)).map (fun p => (p.1, false)) else (shC f n nw (i + 2)).map (fun p => (p.1, false))) else shC f n nw (i + 1))
  else slsC f n ok orL nw i
def qrLC (ok : Bool) (orL : Nat → Option Nat) (nw : Bool) : Nat → Nat → Bool → Option (Nat × Bool)
  | 0, _, _ => none
  | k + 1, i, fl => if ¬ hereV f n (skipB f n i) = 46 ∧ ¬ hereV f n (skipB f n i) = 91 then some (i, fl) else (segC f n ok orL nw (skipB f n i)).bind (fun p => qrLC ok orL nw k p.1 (fl && p.2))
/-- a query from its $ or @ on -/
def qrC (ok : Bool) (orL : Nat → Option Nat) (nw : Bool) (i : Nat) : Option (Nat × Bool) := qrLC f n ok orL nw 4097 (i + 1) true
/-- what is in brackets: in: what stands there -/
def brC (ok : Bool) (inn : Nat → Option Nat) (j : Nat) : Option Nat := if ok = true ∧ hereV f n j = 40 then (inn (skipB f n (j + 1))).bind (fun k => if hereV f n (skipB f n k) = 41 then some (skipB f n k + 1) else none) else none
def wrC (i : Nat) : Option Nat :=
  if hereV f n i = 116 then (if mtB f n i (ctx 11) 4 = true then some (i + 4) else none)
  else if hereV f n i = 102 then (if mtB f n i (ctx 12) 5 = true then some (i + 5) else none)
  else if hereV f n i = 110 then (if mtB f n i (ctx 13) 4 = true then some (i + 4) else none)
  else if hereV f n i = 39 ∨ hereV f n i = 34 then (qtR f n i).map (fun p => p.1 + 1)
  else iC f n i
/-- a word and what is in brackets behind it -/
def fnC (t ln : Nat) (ok : Bool) (inn : Nat → Option Nat) (i : Nat) : Option Nat := if mtB f n i (ctx t) ln = true then brC f n ok inn (i + ln) else none
def anyC (qyL : Nat → Option (Nat × Bool)) (i : Nat) : Option Nat := if begC (hereV f n i) then (qyL i).map (·.1) else none
/-- what may be compared -/
def opC (ok : Bool) (orL cmL : Nat → Option Nat) (qyL : Nat → Option (Nat × Bool)) (i : Nat) : Option Nat :=
  if begC (hereV f n i) then (qrC f n ok orL true i).map (·.1)
  else if hereV f n i = 108 then (if mtB f n i (ctx 10) 6 = true then brC f n ok cmL (i + 6) else none)
  else if hereV f n i = 99 then (if mtB f n i (ctx 8) 5 = true then brC f n ok (anyC f n qyL) (i + 5) else none)
  else if hereV f n i = 118 then (if mtB f n i (ctx 9) 5 = true then brC f n ok (anyC f n qyL) (i + 5) else none)
  else wrC f n i
def oprC (j : Nat) : Option Nat :=
  if hereV f n j = 60 then (if hereV f n (j + 1) = 61 then some (j + 2) else some (j + 1))
  else if hereV f n j = 62 then (if hereV f n (j + 1) = 61 then some (j + 2) else some (j + 1))
  else if hereV f n j = 33 then (if hereV f n (j + 1) = 61 then some (j + 2) else none)
  else if hereV f n j = 61 then (if hereV f n (j + 1) = 61 then some (j + 2) else none) else none
def cpC (op : Nat → Option Nat) (j : Nat) : Option Nat := (oprC f n j).bind (fun k => op (skipB f n k))
def gpC (ok : Bool) (orL : Nat → Option Nat) (i : Nat) : Option Nat := if ok = true ∧ hereV f n i = 40 then (orL (i + 1)).bind (fun j => if hereV f n j = 41 then some (j + 1) else none) else none
/-- a test, or a comparison of a query -/
def tcC (ok : Bool) (orL : Nat → Option Nat) (op : Nat → Option Nat) (i : Nat) : Option Nat := (qrC f n ok orL false i).bind (fun p => if opH (hereV f n (skipB f n p.1)) then (if p.2 = false then none else cpC f n op (skipB f n p.1)) else some (skipB f n p.1))
def ngC (ok : Bool) (orL : Nat → Option Nat) (i : Nat) : Option Nat := if hereV f n (skipB f n (i + 1)) = 40 then gpC f n ok orL (skipB f n (i + 1)) else anyC f n (qrC f n ok orL false) (skipB f n (i + 1))
def baC1 (ok : Bool) (orL cmL : Nat → Option Nat) (qyL : Nat → Option (Nat × Bool)) (i : Nat) : Option Nat :=
  if hereV f n i = 33 then ngC f n ok orL i
  else if hereV f n i = 40 then gpC f n ok orL i
  else if begC (hereV f n i) then tcC f n ok orL (opC f n ok orL cmL qyL) i
  else (opC f n ok orL cmL qyL i).bind (fun j => cpC f n (opC f n ok orL cmL qyL) (skipB f n j))
def baC (ok : Bool) (orL cmL : Nat → Option Nat) (qyL : Nat → Option (Nat × Bool)) (i : Nat) : Option Nat := (baC1 f n ok orL cmL qyL (skipB f n i)).map (skipB f n)
def liC (one : Nat → Option Nat) (c : Int32) : Nat → Nat → Option Nat
  | 0, _ => none
  | k + 1, p => if hereV f n p = c then (if hereV f n (p + 1) = c then (one (p + 2)).bind (fun q => liC one c k q) else none) else some p
def anC (ok : Bool) (orL cmL : Nat → Option Nat) (qyL : Nat → Option (Nat × Bool)) (i : Nat) : Option Nat := (baC f n ok orL cmL qyL i).bind (liC f n (baC f n ok orL cmL qyL) 38 4098)
def orC (ok : Bool) (orL cmL : Nat → Option Nat) (qyL : Nat → Option (Nat × Bool)) (i : Nat) : Option Nat := (anC f n ok orL cmL qyL i).bind (liC f n (anC f n ok orL cmL qyL) 124 4098)
/-- where d brackets may still be opened -/
def DDc : Nat → (Nat → Option Nat) × (Nat → Option Nat) × (Nat → Option (Nat × Bool))
  | 0 => (orC f n false (fun _ => none) (fun _ => none) (fun _ => none), opC f n false (fun _ => none) (fun _ => none) (fun _ => none), qrC f n false (fun _ => none) false)
  | d + 1 => (orC f n true (DDc d).1 (DDc d).2.1 (DDc d).2.2, opC f n true (DDc d).1 (DDc d).2.1 (DDc d).2.2, qrC f n true (DDc d).1 false)
/-- a whole query, as the class reads it -/
def jQ : Option Bool := if hereV f n 0 = 36 then ((DDc f n 16).2.2 0).bind (fun p => if p.1 < n then none else some p.2) else none
end CQuery
/-- what stands in an object's field -/
def fldE (k : Nat) : va_E → Value
  | .inr p => (p.2[k]?).getD .null
  | .inl _ => .null
def intE (k : Nat) (e : va_E) : Int32 := match fldE k e with
  | .int x => x
  | _ => 0
def refE (k : Nat) (e : va_E) : Option Nat := match fldE k e with
  | .ref a => some a
  | _ => none
def bI (b : Bool) : Int32 := if b = true then 1 else 0
theorem bI_f {b : Bool} (h : bI b = 0) : b = false := by cases b; (· rfl); (· exact absurd h (by decide))
theorem bI_t {b : Bool} (h : ¬ bI b = 0) : b = true := by cases b; (· exact absurd rfl h); (· rfl)
def nwB (nw : Int32) : Bool := decide (¬ nw = 0)
theorem nwB_0 {nw : Int32} (h : nw = 0) : nwB nw = false := decide_eq_false (fun q => q h)
theorem nwB_1 {nw : Int32} (h : ¬ nw = 0) : nwB nw = true := decide_eq_true h
theorem nwB0 : nwB 0 = false := nwB_0 rfl
theorem nwB1 : nwB 1 = true := nwB_1 (by decide)
/-- a selector alone: a name or an index, and no other behind it -/
def sgL (e : va_E) : Bool := (refE 8 e).isNone && (decide (intE 0 e = 0) || decide (intE 0 e = 2))
/-- a segment leads to one node at most -/
def sgG (f : Nat → va_E) (r : Nat) : Bool := decide (intE 0 (f r) = 0) && (match refE 1 (f r) with
  | some a => sgL (f a)
  | none => false)
/-- what a query's field says -/
def sgQ (e : va_E) : Bool := decide (¬ intE 1 e = 0)
abbrev sgLs (f : Nat → va_E) (r : Nat) : Bool := sgL (f r)
abbrev sgQs (f : Nat → va_E) (r : Nat) : Bool := sgQ (f r)
theorem refE_rf {k : Nat} {e : va_E} {o : Option Nat} (h : fldE k e = va_rf o) : refE k e = o := by
  unfold refE
  rw [h]
  cases o <;> rfl
theorem sgL_e {kd : Int32} {nm : Option Nat} {hs ht : Int32} {st sp se : Int64} {fl nx : Option Nat} : sgL (lE kd nm hs ht st sp se fl nx) = (nx.isNone && (decide (kd = 0) || decide (kd = 2))) := by
  have e1 : refE 8 (lE kd nm hs ht st sp se fl nx) = nx := refE_rf rfl
  have e2 : intE 0 (lE kd nm hs ht st sp se fl nx) = kd := rfl
  unfold sgL
  rw [e1, e2]
theorem sgL_n {kd : Int32} {nm : Option Nat} {hs ht : Int32} {st sp se : Int64} {fl : Option Nat} {v : Nat} : sgL (lE kd nm hs ht st sp se fl (some v)) = false := by rw [sgL_e]; rfl
theorem sgL_0 {nm : Option Nat} {hs ht : Int32} {st sp se : Int64} {fl : Option Nat} : sgL (lE 0 nm hs ht st sp se fl none) = true := by
  rw [sgL_e]
  decide
theorem sgL_1 {nm : Option Nat} {hs ht : Int32} {st sp se : Int64} {fl : Option Nat} : sgL (lE 1 nm hs ht st sp se fl none) = false := by
  rw [sgL_e]
  decide
theorem sgL_2 {nm : Option Nat} {hs ht : Int32} {st sp se : Int64} {fl : Option Nat} : sgL (lE 2 nm hs ht st sp se fl none) = true := by
  rw [sgL_e]
  decide
theorem sgL_3 {nm : Option Nat} {hs ht : Int32} {st sp se : Int64} {fl : Option Nat} : sgL (lE 3 nm hs ht st sp se fl none) = false := by
  rw [sgL_e]
  decide
theorem sgL_4 {nm : Option Nat} {hs ht : Int32} {st sp se : Int64} {fl : Option Nat} : sgL (lE 4 nm hs ht st sp se fl none) = false := by
  rw [sgL_e]
  decide
theorem qr_nw0 {f : Nat → Int32} {n i : Nat} {ok : Bool} {orL : Nat → Option Nat} {r : Option (Nat × Bool)} (h : qrC f n ok orL (nwB 0) i = r) : qrC f n ok orL false i = r := by rw [nwB0] at h; exact h
theorem qr_nw1 {f : Nat → Int32} {n i : Nat} {ok : Bool} {orL : Nat → Option Nat} {r : Option (Nat × Bool)} (h : qrC f n ok orL (nwB 1) i = r) : qrC f n ok orL true i = r := by rw [nwB1] at h; exact h
theorem sgG_e {f : Nat → va_E} {r v : Nat} {ds : Int32} {nx : Option Nat} (h : f r = gE ds (some v) nx) : sgG f r = (decide (ds = 0) && sgL (f v)) := by
  have e1 : refE 1 (f r) = some v := refE_rf (by rw [h]; rfl)
  have e2 : intE 0 (f r) = ds := by rw [h]; rfl
  unfold sgG
  rw [e1, e2]
theorem sgG_0 {f : Nat → va_E} {r v : Nat} {nx : Option Nat} (hv : v ≠ r) : sgG (va_up f r (gE 0 (some v) nx)) r = sgL (f v) := by
  rw [sgG_e (va_up_self _ _ _), va_up_ne _ _ hv, decide_eq_true (rfl : (0 : Int32) = 0)]
  rfl
theorem sgG_1 {f : Nat → va_E} {r v : Nat} {nx : Option Nat} : sgG (va_up f r (gE 1 (some v) nx)) r = false := by
  rw [sgG_e (va_up_self _ _ _), decide_eq_false (by decide : ¬ (1 : Int32) = 0)]
  rfl
theorem sgQ_e {fr sg : Int32} {fi la : Option Nat} : sgQ (qE fr sg fi la) = decide (¬ sg = 0) := rfl
theorem sgQ_b {fr : Int32} {b : Bool} {fi la : Option Nat} : sgQ (qE fr (bI b) fi la) = b := by
  rw [sgQ_e]
  cases b
  · exact decide_eq_false (fun q => q rfl)
  · exact decide_eq_true (by decide)
theorem bI_q {e : va_E} {sg : Int32} (h : sgQ e = decide (¬ sg = 0)) : (¬ sg = 0 → sgQ e = true) ∧ (sg = 0 → sgQ e = false) := ⟨fun q => h.trans (decide_eq_true q), fun q => h.trans (decide_eq_false (fun z => z q))⟩
/-- a segment stays what it is where another one of its sort is changed -/
theorem sgG_fr {cI cV : ClassId} {E lv : Nat → Nat} {L : List Nat} {f : Nat → va_E} {sn z : Nat} {e : va_E} (hO : PO cI cV E lv L f) (hsn : E sn = 8) (hz : E z = 8) (hne : sn ≠ z) : sgG (va_up f z e) sn = sgG f sn := by
  obtain ⟨ds, fi, nx, ef, ⟨v, hv, hE, -⟩, -⟩ := hO.seg hsn
  rw [hv] at ef
  rw [sgG_e ef, sgG_e (show va_up f z e sn = gE ds (some v) nx by rw [va_up_ne _ _ hne]; exact ef), va_up_ne _ _ (show v ≠ z from fun q => by rw [q, hz] at hE; cases hE)]
/-- what a method of the reader of queries says of its answer -/
def OKn (F : Nat → Option Nat) (i p : Nat) (_ : Nat → va_E) (_ : Nat) : Prop := F i = some p
def OKb (F : Nat → Option (Nat × Bool)) (S : (Nat → va_E) → Nat → Bool) (i p : Nat) (f : Nat → va_E) (r : Nat) : Prop := F i = some (p, S f r)
def NOn (F : Nat → Option Nat) (i : Nat) : Prop := F i = none
def NOb (F : Nat → Option (Nat × Bool)) (i : Nat) : Prop := F i = none
theorem mp_none {α β : Type} {o : Option α} {g : α → β} (h : o = none) : o.map g = none := by rw [h]; rfl
theorem mp_some {α β : Type} {o : Option α} {g : α → β} {a : α} (h : o = some a) : o.map g = some (g a) := by rw [h]; rfl
theorem bd_none {α β : Type} {o : Option α} {g : α → Option β} (h : o = none) : o.bind g = none := by rw [h]; rfl
theorem bd_some {α β : Type} {o : Option α} {g : α → Option β} {a : α} (h : o = some a) : o.bind g = g a := by rw [h]; rfl
theorem dig_nl {x : Int32} (h : digH x) : ¬ letH x := by
  have h2 := Int32.le_iff_toInt_le.mp h.2
  rw [show (57 : Int32).toInt = 57 from rfl] at h2
  rintro (⟨a, -⟩ | ⟨a, -⟩ | a)
  · exact a (Int32.lt_iff_toInt_lt.mpr (by rw [show (97 : Int32).toInt = 97 from rfl]; omega))
  · exact a (Int32.lt_iff_toInt_lt.mpr (by rw [show (65 : Int32).toInt = 65 from rfl]; omega))
  · rw [a] at h2; revert h2; decide
section QIntro
variable {f : Nat → Int32} {n i j p p1 p2 p3 u k m : Nat} {r : Int64} {ok nw b b0 fl : Bool} {orL cmL op one inn : Nat → Option Nat} {qyL : Nat → Option (Nat × Bool)} {L : List Int32} {c : Int32}
-- integer
theorem iB_no (h : ¬ digH (hereV f n i) ∨ hereV f n i = 48) : iB f n i = none := by unfold iB; rw [if_pos h]
theorem iB_big (hd : (r, u) = digR f n i) (h : ¬ r ≤ 9007199254740991) : iB f n i = none := by
  unfold iB
  split
  · rfl
  · rw [← hd, if_pos h]
theorem iB_ok (hg : digH (hereV f n i)) (h0 : ¬ hereV f n i = 48) (hd : (r, u) = digR f n i) (hm : r ≤ 9007199254740991) : iB f n i = some u := by
  unfold iB
  rw [if_neg (fun q => q.elim (fun a => a hg) h0), ← hd, if_neg (fun q => q hm)]
theorem iC_m (h : hereV f n i = 45) : iC f n i = iB f n (i + 1) := by unfold iC; rw [if_pos h]
theorem iC_0 (h0 : ¬ hereV f n i = 45) (h : hereV f n i = 48) : iC f n i = some (i + 1) := by unfold iC; rw [if_neg h0, if_pos h]
theorem iC_p (h0 : ¬ hereV f n i = 45) (h : ¬ hereV f n i = 48) : iC f n i = iB f n i := by unfold iC; rw [if_neg h0, if_neg h]
-- operator
theorem opr_1 (h : hereV f n i = 60) (h1 : hereV f n (i + 1) = 61) : oprC f n i = some (i + 1 + 1) := by unfold oprC; rw [if_pos h, if_pos h1]
theorem opr_2 (h : hereV f n i = 60) (h1 : ¬ hereV f n (i + 1) = 61) : oprC f n i = some (i + 1) := by unfold oprC; rw [if_pos h, if_neg h1]
theorem opr_3 (h : hereV f n i = 62) (h1 : hereV f n (i + 1) = 61) : oprC f n i = some (i + 1 + 1) := by unfold oprC; rw [if_neg (by rw [h]; decide), if_pos h, if_pos h1]
theorem opr_4 (h : hereV f n i = 62) (h1 : ¬ hereV f n (i + 1) = 61) : oprC f n i = some (i + 1) := by unfold oprC; rw [if_neg (by rw [h]; decide), if_pos h, if_neg h1]
theorem opr_5 (h : hereV f n i = 33) (h1 : hereV f n (i + 1) = 61) : oprC f n i = some (i + 1 + 1) := by unfold oprC; rw [if_neg (by rw [h]; decide), if_neg (by rw [h]; decide), if_pos h, if_pos h1]
theorem opr_6 (h : hereV f n i = 33) (h1 : ¬ hereV f n (i + 1) = 61) : oprC f n i = none := by unfold oprC; rw [if_neg (by rw [h]; decide), if_neg (by rw [h]; decide), if_pos h, if_neg h1]
theorem opr_7 (h1 : ¬ hereV f n i = 60) (h2 : ¬ hereV f n i = 62) (h3 : ¬ hereV f n i = 33) (h4 : ¬ hereV f n i = 61) : oprC f n i = none := by unfold oprC; rw [if_neg h1, if_neg h2, if_neg h3, if_neg h4]
theorem opr_8 (h : hereV f n i = 61) (h1 : hereV f n (i + 1) = 61) : oprC f n i = some (i + 1 + 1) := by unfold oprC; rw [if_neg (by rw [h]; decide), if_neg (by rw [h]; decide), if_neg (by rw [h]; decide), if_pos h, if_pos h1]
theorem opr_9 (h : hereV f n i = 61) (h1 : ¬ hereV f n (i + 1) = 61) : oprC f n i = none := by unfold oprC; rw [if_neg (by rw [h]; decide), if_neg (by rw [h]; decide), if_neg (by rw [h]; decide), if_pos h, if_neg h1]
-- slice
theorem sl_0 (hp : p1 = skipB f n (i + 1)) (h : numC (hereV f n p1)) (hi : iC f n p1 = none) : slC f n i = none := by subst hp; unfold slC; rw [if_pos h, hi]; rfl
theorem sl_1 (hp : p1 = skipB f n (i + 1)) (h : numC (hereV f n p1)) (hi : iC f n p1 = some u) (hp2 : p2 = skipB f n u) : slC f n i = slC2 f n p2 := by subst hp; subst hp2; unfold slC; rw [if_pos h, hi]; rfl
theorem sl_2 (hp : p1 = skipB f n (i + 1)) (h : ¬ numC (hereV f n p1)) : slC f n i = slC2 f n p1 := by subst hp; unfold slC; rw [if_neg h]
theorem sl2_e (h : ¬ hereV f n j = 58) : slC2 f n j = some j := by unfold slC2; rw [if_neg h]
theorem sl2_0 (h : hereV f n j = 58) (hp : p = skipB f n (j + 1)) (hn : numC (hereV f n p)) (hi : iC f n p = none) : slC2 f n j = none := by subst hp; unfold slC2; rw [if_pos h, if_pos hn, hi]
theorem sl2_1 (h : hereV f n j = 58) (hp : p = skipB f n (j + 1)) (hn : numC (hereV f n p)) (hi : iC f n p = some u) : slC2 f n j = some u := by subst hp; unfold slC2; rw [if_pos h, if_pos hn, hi]
theorem sl2_2 (h : hereV f n j = 58) (hp : p = skipB f n (j + 1)) (hn : ¬ numC (hereV f n p)) : slC2 f n j = some p := by subst hp; unfold slC2; rw [if_pos h, if_neg hn]
-- selector
theorem sel_0 (hp : p = skipB f n i) (h : selC1 f n orL nw p = none) : selC f n orL nw i = none := by subst hp; unfold selC; exact mp_none h
theorem sel_1 (hp : p = skipB f n i) (h : selC1 f n orL nw p = some (p1, b)) (hp2 : p2 = skipB f n p1) : selC f n orL nw i = some (p2, b) := by subst hp; subst hp2; unfold selC; exact mp_some h
theorem sel1_q0 (h : hereV f n i = 39 ∨ hereV f n i = 34) (hq : qtR f n i = none) : selC1 f n orL nw i = none := by unfold selC1; rw [if_pos h]; exact mp_none hq
theorem sel1_q (h : hereV f n i = 39 ∨ hereV f n i = 34) (hq : qtR f n i = some (j, L)) : selC1 f n orL nw i = some (j + 1, true) := by unfold selC1; rw [if_pos h]; exact mp_some hq
theorem nq_of (h : hereV f n i = c) (h1 : ¬ c = 39) (h2 : ¬ c = 34) : ¬ (hereV f n i = 39 ∨ hereV f n i = 34) := fun q => by rw [h] at q; exact q.elim h1 h2
theorem sel1_a (hn : nw = false) (h : hereV f n i = 42) : selC1 f n orL nw i = some (i + 1, false) := by unfold selC1; rw [if_neg (nq_of h (by decide) (by decide)), if_pos ⟨hn, h⟩]
theorem sel1_f0 (hn : nw = false) (h : hereV f n i = 63) (ho : orL (i + 1) = none) : selC1 f n orL nw i = none := by unfold selC1; rw [if_neg (nq_of h (by decide) (by decide)), if_neg (fun q => by rw [h] at q; exact absurd q.2 (by decide)), if_pos ⟨hn, h⟩]; exact mp_none ho
theorem sel1_f (hn : nw = false) (h : hereV f n i = 63) (ho : orL (i + 1) = some j) : selC1 f n orL nw i = some (j, false) := by unfold selC1; rw [if_neg (nq_of h (by decide) (by decide)), if_neg (fun q => by rw [h] at q; exact absurd q.2 (by decide)), if_pos ⟨hn, h⟩]; exact mp_some ho
theorem sel1_s0 (hn : nw = false) (h : hereV f n i = 58) (ho : slC f n i = none) : selC1 f n orL nw i = none := by unfold selC1; rw [if_neg (nq_of h (by decide) (by decide)), if_neg (fun q => by rw [h] at q; exact absurd q.2 (by decide)), if_neg (fun q => by rw [h] at q; exact absurd q.2 (by decide)), if_pos ⟨hn, h⟩]; exact mp_none ho
theorem sel1_s (hn : nw = false) (h : hereV f n i = 58) (ho : slC f n i = some j) : selC1 f n orL nw i = some (j, false) := by unfold selC1; rw [if_neg (nq_of h (by decide) (by decide)), if_neg (fun q => by rw [h] at q; exact absurd q.2 (by decide)), if_neg (fun q => by rw [h] at q; exact absurd q.2 (by decide)), if_pos ⟨hn, h⟩]; exact mp_some ho
/-- it must be a number -/
abbrev mbI (f : Nat → Int32) (n i : Nat) (nw : Bool) : Prop := ¬ (nw = false ∧ hereV f n i = 42) ∧ ¬ (nw = false ∧ hereV f n i = 63) ∧ ¬ (nw = false ∧ hereV f n i = 58)
theorem mbI_1 (hn : nw = true) : mbI f n i nw := by rw [hn]; exact ⟨fun q => absurd q.1 (by decide), fun q => absurd q.1 (by decide), fun q => absurd q.1 (by decide)⟩
theorem mbI_0 (h1 : ¬ hereV f n i = 42) (h2 : ¬ hereV f n i = 63) (h3 : ¬ hereV f n i = 58) : mbI f n i nw := ⟨fun q => h1 q.2, fun q => h2 q.2, fun q => h3 q.2⟩
theorem sel1_b (hq : ¬ (hereV f n i = 39 ∨ hereV f n i = 34)) (hm : mbI f n i nw) : selC1 f n orL nw i = (iC f n i).bind (fun j => if nw = false ∧ hereV f n (skipB f n j) = 58 then (slC f n (skipB f n j)).map (fun k => (k, false)) else some (skipB f n j, true)) := by unfold selC1; rw [if_neg hq, if_neg hm.1, if_neg hm.2.1, if_neg hm.2.2]
theorem sel1_i0 (hq : ¬ (hereV f n i = 39 ∨ hereV f n i = 34)) (hm : mbI f n i nw) (hi : iC f n i = none) : selC1 f n orL nw i = none := (sel1_b hq hm).trans (bd_none hi)
theorem sel1_i (hq : ¬ (hereV f n i = 39 ∨ hereV f n i = 34)) (hm : mbI f n i nw) (hi : iC f n i = some u) (hp : p2 = skipB f n u) (hc : ¬ (nw = false ∧ hereV f n p2 = 58)) : selC1 f n orL nw i = some (p2, true) := by subst hp; exact (sel1_b hq hm).trans ((bd_some hi).trans (if_neg hc))
theorem sel1_n0 (hq : ¬ (hereV f n i = 39 ∨ hereV f n i = 34)) (hm : mbI f n i nw) (hi : iC f n i = some u) (hp : p2 = skipB f n u) (hn : nw = false) (hc : hereV f n p2 = 58) (hs : slC f n p2 = none) : selC1 f n orL nw i = none := by subst hp; exact (sel1_b hq hm).trans ((bd_some hi).trans ((if_pos ⟨hn, hc⟩).trans (mp_none hs)))
theorem sel1_n (hq : ¬ (hereV f n i = 39 ∨ hereV f n i = 34)) (hm : mbI f n i nw) (hi : iC f n i = some u) (hp : p2 = skipB f n u) (hn : nw = false) (hc : hereV f n p2 = 58) (hs : slC f n p2 = some k) : selC1 f n orL nw i = some (k, false) := by subst hp; exact (sel1_b hq hm).trans ((bd_some hi).trans ((if_pos ⟨hn, hc⟩).trans (mp_some hs)))
-- selectors
theorem sls_0 (h : ¬ (ok = true ∧ hereV f n i = 91)) : slsC f n ok orL nw i = none := by unfold slsC; rw [if_neg h]
theorem sls_b (h1 : ok = true) (h2 : hereV f n i = 91) (h3 : selC f n orL nw (i + 1) = some (p, b0)) : slsC f n ok orL nw i = (slsLC f n orL nw 4098 p).bind (fun j => if hereV f n j = 93 then some (j + 1, b0 && !(decide (nw = false ∧ hereV f n p = 44))) else none) := by unfold slsC; rw [if_pos ⟨h1, h2⟩]; exact bd_some h3
theorem sls_1 (h1 : ok = true) (h2 : hereV f n i = 91) (h3 : selC f n orL nw (i + 1) = none) : slsC f n ok orL nw i = none := by unfold slsC; rw [if_pos ⟨h1, h2⟩]; exact bd_none h3
theorem sls_2 (h1 : ok = true) (h2 : hereV f n i = 91) (h3 : selC f n orL nw (i + 1) = some (p, b0)) (h4 : slsLC f n orL nw 4098 p = none) : slsC f n ok orL nw i = none := (sls_b h1 h2 h3).trans (bd_none h4)
theorem sls_3 (h1 : ok = true) (h2 : hereV f n i = 91) (h3 : selC f n orL nw (i + 1) = some (p, b0)) (h4 : slsLC f n orL nw 4098 p = some j) (h5 : ¬ hereV f n j = 93) : slsC f n ok orL nw i = none := (sls_b h1 h2 h3).trans ((bd_some h4).trans (if_neg h5))
theorem sls_ok (h1 : ok = true) (h2 : hereV f n i = 91) (h3 : selC f n orL nw (i + 1) = some (p, b0)) (h4 : slsLC f n orL nw 4098 p = some j) (h5 : hereV f n j = 93) (hb : (b0 && !(decide (nw = false ∧ hereV f n p = 44))) = b) : slsC f n ok orL nw i = some (j + 1, b) := by subst hb; exact (sls_b h1 h2 h3).trans ((bd_some h4).trans (if_pos h5))
theorem slLC_u (hm : m ≤ 4095) : slsLC f n orL nw (4098 - m) p = if nw = false ∧ hereV f n p = 44 then (selC f n orL nw (p + 1)).bind (fun q => slsLC f n orL nw (4098 - (m + 1)) q.1) else some p := by
  rw [show 4098 - m = (4098 - (m + 1)) + 1 by omega]
  rfl
theorem slLC_n (hm : m ≤ 4095) (hn : nw = false) (hc : hereV f n p = 44) (hs : selC f n orL nw (p + 1) = none) : slsLC f n orL nw (4098 - m) p = none := (slLC_u hm).trans ((if_pos ⟨hn, hc⟩).trans (bd_none hs))
theorem slLC_s (hm : m ≤ 4095) (hn : nw = false) (hc : hereV f n p = 44) (hs : selC f n orL nw (p + 1) = some (j, b)) : slsLC f n orL nw (4098 - m) p = slsLC f n orL nw (4098 - (m + 1)) j := (slLC_u hm).trans ((if_pos ⟨hn, hc⟩).trans (bd_some hs))
theorem slLC_e (hm : m ≤ 4095) (h : ¬ (nw = false ∧ hereV f n p = 44)) : slsLC f n orL nw (4098 - m) p = some p := (slLC_u hm).trans (if_neg h)
-- a name without quotes
theorem nmC_e (h : ¬ (letH (hereV f n j) ∨ digH (hereV f n j))) : nmC f n k j = j := by
  cases k with
  | zero => rfl
  | succ k => simp only [nmC]; rw [if_neg h]
theorem nmC_n (h : n ≤ j) : nmC f n (n - j) j = j := by rw [show n - j = 0 by omega]; rfl
theorem nmC_s (hp : j < n) (h : letH (hereV f n j) ∨ digH (hereV f n j)) : nmC f n (n - j) j = nmC f n (n - (j + 1)) (j + 1) := by
  rw [show n - j = (n - (j + 1)) + 1 by omega]
  simp only [nmC]
  rw [if_pos h]
theorem sh_a (hn : nw = false) (h : hereV f n i = 42) : shC f n nw i = some (i + 1, false) := by unfold shC; rw [if_pos ⟨hn, h⟩]
theorem sh_0 (h : ¬ (nw = false ∧ hereV f n i = 42)) (hl : ¬ letH (hereV f n i)) : shC f n nw i = none := by unfold shC; rw [if_neg h, if_pos hl]
theorem sh_n (h : ¬ (nw = false ∧ hereV f n i = 42)) (hl : letH (hereV f n i)) (hp : nmC f n (n - i) i = p) : shC f n nw i = some (p, true) := by unfold shC; rw [if_neg h, if_neg (fun q => q hl), hp]
-- segment
theorem seg_b (h : ¬ hereV f n i = 46) : segC f n ok orL nw i = slsC f n ok orL nw i := by unfold segC; rw [if_neg h]
theorem seg_d (h : hereV f n i = 46) (h2 : ¬ (nw = false ∧ hereV f n (i + 1) = 46)) : segC f n ok orL nw i = shC f n nw (i + 1) := by unfold segC; rw [if_pos h, if_neg h2]
theorem seg_s (h : hereV f n i = 46) (hn : nw = false) (h2 : hereV f n (i + 1) = 46) (h3 : hereV f n (i + 1 + 1) = 91) : segC f n ok orL nw i = (slsC f n ok orL nw (i + 1 + 1)).map (fun p => (p.1, false)) := by unfold segC; rw [if_pos h, if_pos ⟨hn, h2⟩, if_pos h3]
theorem seg_h (h : hereV f n i = 46) (hn : nw = false) (h2 : hereV f n (i + 1) = 46) (h3 : ¬ hereV f n (i + 1 + 1) = 91) : segC f n ok orL nw i = (shC f n nw (i + 1 + 1)).map (fun p => (p.1, false)) := by unfold segC; rw [if_pos h, if_pos ⟨hn, h2⟩, if_neg h3]
-- query
theorem qrLC_u (hm : m ≤ 4095) (hp : p1 = skipB f n p) : qrLC f n ok orL nw (4097 - m) p fl = if ¬ hereV f n p1 = 46 ∧ ¬ hereV f n p1 = 91 then some (p, fl) else (segC f n ok orL nw p1).bind (fun q => qrLC f n ok orL nw (4097 - (m + 1)) q.1 (fl && q.2)) := by
  subst hp
  rw [show 4097 - m = (4097 - (m + 1)) + 1 by omega]
  rfl
theorem qrLC_e (hm : m ≤ 4095) (hp : p1 = skipB f n p) (h1 : ¬ hereV f n p1 = 46) (h2 : ¬ hereV f n p1 = 91) : qrLC f n ok orL nw (4097 - m) p fl = some (p, fl) := (qrLC_u hm hp).trans (if_pos ⟨h1, h2⟩)
theorem qrLC_0 (hm : m ≤ 4095) (hp : p1 = skipB f n p) (h : hereV f n p1 = 46 ∨ hereV f n p1 = 91) (hs : segC f n ok orL nw p1 = none) : qrLC f n ok orL nw (4097 - m) p fl = none := (qrLC_u hm hp).trans ((if_neg (fun q => h.elim q.1 q.2)).trans (bd_none hs))
theorem qrLC_s (hm : m ≤ 4095) (hp : p1 = skipB f n p) (h : hereV f n p1 = 46 ∨ hereV f n p1 = 91) (hs : segC f n ok orL nw p1 = some (j, b)) : qrLC f n ok orL nw (4097 - m) p fl = qrLC f n ok orL nw (4097 - (m + 1)) j (fl && b) := (qrLC_u hm hp).trans ((if_neg (fun q => h.elim q.1 q.2)).trans (bd_some hs))
theorem any_0 (h : ¬ begC (hereV f n i)) : anyC f n qyL i = none := by unfold anyC; rw [if_neg h]
theorem any_1 (h : begC (hereV f n i)) (hq : qyL i = none) : anyC f n qyL i = none := by unfold anyC; rw [if_pos h]; exact mp_none hq
theorem any_2 (h : begC (hereV f n i)) (hq : qyL i = some (j, b)) : anyC f n qyL i = some j := by unfold anyC; rw [if_pos h]; exact mp_some hq
-- what is written
theorem wr_t (h : hereV f n i = 116) (hm : mtch f n i (ctx 11) 4) : wrC f n i = some (i + 4) := by unfold wrC; rw [if_pos h, if_pos (mt_1 hm)]
theorem wr_t0 (h : hereV f n i = 116) (hm : ¬ mtch f n i (ctx 11) 4) : wrC f n i = none := by unfold wrC; rw [if_pos h, if_neg (mt_0 hm)]
theorem wr_f (h : hereV f n i = 102) (hm : mtch f n i (ctx 12) 5) : wrC f n i = some (i + 5) := by unfold wrC; rw [if_neg (by rw [h]; decide), if_pos h, if_pos (mt_1 hm)]
theorem wr_f0 (h : hereV f n i = 102) (hm : ¬ mtch f n i (ctx 12) 5) : wrC f n i = none := by unfold wrC; rw [if_neg (by rw [h]; decide), if_pos h, if_neg (mt_0 hm)]
theorem wr_n (h : hereV f n i = 110) (hm : mtch f n i (ctx 13) 4) : wrC f n i = some (i + 4) := by unfold wrC; rw [if_neg (by rw [h]; decide), if_neg (by rw [h]; decide), if_pos h, if_pos (mt_1 hm)]
theorem wr_n0 (h : hereV f n i = 110) (hm : ¬ mtch f n i (ctx 13) 4) : wrC f n i = none := by unfold wrC; rw [if_neg (by rw [h]; decide), if_neg (by rw [h]; decide), if_pos h, if_neg (mt_0 hm)]
theorem wr_q (h1 : ¬ hereV f n i = 116) (h2 : ¬ hereV f n i = 102) (h3 : ¬ hereV f n i = 110) (h : hereV f n i = 39 ∨ hereV f n i = 34) (hq : qtR f n i = some (j, L)) : wrC f n i = some (j + 1) := by unfold wrC; rw [if_neg h1, if_neg h2, if_neg h3, if_pos h]; exact mp_some hq
theorem wr_q0 (h1 : ¬ hereV f n i = 116) (h2 : ¬ hereV f n i = 102) (h3 : ¬ hereV f n i = 110) (h : hereV f n i = 39 ∨ hereV f n i = 34) (hq : qtR f n i = none) : wrC f n i = none := by unfold wrC; rw [if_neg h1, if_neg h2, if_neg h3, if_pos h]; exact mp_none hq
theorem wr_i (h1 : ¬ hereV f n i = 116) (h2 : ¬ hereV f n i = 102) (h3 : ¬ hereV f n i = 110) (h : ¬ (hereV f n i = 39 ∨ hereV f n i = 34)) : wrC f n i = iC f n i := by unfold wrC; rw [if_neg h1, if_neg h2, if_neg h3, if_neg h]
-- in brackets
theorem br_0 (h : ¬ (ok = true ∧ hereV f n j = 40)) : brC f n ok inn j = none := by unfold brC; rw [if_neg h]
theorem br_b (h1 : ok = true) (h2 : hereV f n j = 40) (hp : p = skipB f n (j + 1)) : brC f n ok inn j = (inn p).bind (fun k => if hereV f n (skipB f n k) = 41 then some (skipB f n k + 1) else none) := by subst hp; unfold brC; rw [if_pos ⟨h1, h2⟩]
theorem br_1 (h1 : ok = true) (h2 : hereV f n j = 40) (hp : p = skipB f n (j + 1)) (h3 : inn p = none) : brC f n ok inn j = none := (br_b h1 h2 hp).trans (bd_none h3)
theorem br_2 (h1 : ok = true) (h2 : hereV f n j = 40) (hp : p = skipB f n (j + 1)) (h3 : inn p = some k) (hp2 : p2 = skipB f n k) (h4 : ¬ hereV f n p2 = 41) : brC f n ok inn j = none := by subst hp2; exact (br_b h1 h2 hp).trans ((bd_some h3).trans (if_neg h4))
theorem br_ok (h1 : ok = true) (h2 : hereV f n j = 40) (hp : p = skipB f n (j + 1)) (h3 : inn p = some k) (hp2 : p2 = skipB f n k) (h4 : hereV f n p2 = 41) : brC f n ok inn j = some (p2 + 1) := by subst hp2; exact (br_b h1 h2 hp).trans ((bd_some h3).trans (if_pos h4))
theorem fn_0 {t ln : Nat} (hm : ¬ mtch f n i (ctx t) ln) : fnC f n t ln ok inn i = none := by unfold fnC; rw [if_neg (mt_0 hm)]
theorem fn_b {t ln : Nat} (hm : mtch f n i (ctx t) ln) : fnC f n t ln ok inn i = brC f n ok inn (i + ln) := by unfold fnC; rw [if_pos (mt_1 hm)]
-- what may be compared
theorem op_q (h : begC (hereV f n i)) : opC f n ok orL cmL qyL i = (qrC f n ok orL true i).map (·.1) := by unfold opC; rw [if_pos h]
theorem nb_c (h : hereV f n i = c) (h1 : ¬ c = 64) (h2 : ¬ c = 36) : ¬ begC (hereV f n i) := fun q => by rw [h] at q; exact q.elim h1 h2
theorem op_l (h : hereV f n i = 108) : opC f n ok orL cmL qyL i = fnC f n 10 6 ok cmL i := by unfold opC; rw [if_neg (nb_c h (by decide) (by decide)), if_pos h]; rfl
theorem op_c (h : hereV f n i = 99) : opC f n ok orL cmL qyL i = fnC f n 8 5 ok (anyC f n qyL) i := by unfold opC; rw [if_neg (nb_c h (by decide) (by decide)), if_neg (by rw [h]; decide), if_pos h]; rfl
theorem op_v (h : hereV f n i = 118) : opC f n ok orL cmL qyL i = fnC f n 9 5 ok (anyC f n qyL) i := by unfold opC; rw [if_neg (nb_c h (by decide) (by decide)), if_neg (by rw [h]; decide), if_neg (by rw [h]; decide), if_pos h]; rfl
theorem op_w (hb : ¬ begC (hereV f n i)) (h1 : ¬ hereV f n i = 108) (h2 : ¬ hereV f n i = 99) (h3 : ¬ hereV f n i = 118) : opC f n ok orL cmL qyL i = wrC f n i := by unfold opC; rw [if_neg hb, if_neg h1, if_neg h2, if_neg h3]
-- comparison
theorem cp_0 (h : oprC f n i = none) : cpC f n op i = none := by unfold cpC; exact bd_none h
theorem cp_b (h : oprC f n i = some u) (hp : p = skipB f n u) : cpC f n op i = op p := by subst hp; unfold cpC; exact bd_some h
-- group
theorem gp_0 (h : ¬ (ok = true ∧ hereV f n i = 40)) : gpC f n ok orL i = none := by unfold gpC; rw [if_neg h]
theorem gp_b (h1 : ok = true) (h2 : hereV f n i = 40) : gpC f n ok orL i = (orL (i + 1)).bind (fun j => if hereV f n j = 41 then some (j + 1) else none) := by unfold gpC; rw [if_pos ⟨h1, h2⟩]
theorem gp_1 (h1 : ok = true) (h2 : hereV f n i = 40) (h3 : orL (i + 1) = none) : gpC f n ok orL i = none := (gp_b h1 h2).trans (bd_none h3)
theorem gp_2 (h1 : ok = true) (h2 : hereV f n i = 40) (h3 : orL (i + 1) = some j) (h4 : ¬ hereV f n j = 41) : gpC f n ok orL i = none := (gp_b h1 h2).trans ((bd_some h3).trans (if_neg h4))
theorem gp_ok (h1 : ok = true) (h2 : hereV f n i = 40) (h3 : orL (i + 1) = some j) (h4 : hereV f n j = 41) : gpC f n ok orL i = some (j + 1) := (gp_b h1 h2).trans ((bd_some h3).trans (if_pos h4))
-- a test, or a comparison
theorem tc_0 (h : qrC f n ok orL false i = none) : tcC f n ok orL op i = none := by unfold tcC; exact bd_none h
theorem tc_b (h : qrC f n ok orL false i = some (p, b)) (hp : p1 = skipB f n p) : tcC f n ok orL op i = if opH (hereV f n p1) then (if b = false then none else cpC f n op p1) else some p1 := by subst hp; unfold tcC; exact bd_some h
theorem tc_t (h : qrC f n ok orL false i = some (p, b)) (hp : p1 = skipB f n p) (ho : ¬ opH (hereV f n p1)) : tcC f n ok orL op i = some p1 := (tc_b h hp).trans (if_neg ho)
theorem tc_1 (h : qrC f n ok orL false i = some (p, b)) (hp : p1 = skipB f n p) (ho : opH (hereV f n p1)) (hb : b = false) : tcC f n ok orL op i = none := (tc_b h hp).trans ((if_pos ho).trans (if_pos hb))
theorem tc_2 (h : qrC f n ok orL false i = some (p, b)) (hp : p1 = skipB f n p) (ho : opH (hereV f n p1)) (hb : b = true) : tcC f n ok orL op i = cpC f n op p1 := (tc_b h hp).trans ((if_pos ho).trans (if_neg (by rw [hb]; decide)))
-- negation
theorem ng_g (hp : p1 = skipB f n (i + 1)) (h : hereV f n p1 = 40) : ngC f n ok orL i = gpC f n ok orL p1 := by subst hp; unfold ngC; rw [if_pos h]
theorem ng_a (hp : p1 = skipB f n (i + 1)) (h : ¬ hereV f n p1 = 40) : ngC f n ok orL i = anyC f n (qrC f n ok orL false) p1 := by subst hp; unfold ngC; rw [if_neg h]
-- a simple condition
theorem ba_0 (hp : p = skipB f n i) (h : baC1 f n ok orL cmL qyL p = none) : baC f n ok orL cmL qyL i = none := by subst hp; unfold baC; exact mp_none h
theorem ba_1 (hp : p = skipB f n i) (h : baC1 f n ok orL cmL qyL p = some p1) (hp2 : p2 = skipB f n p1) : baC f n ok orL cmL qyL i = some p2 := by subst hp; subst hp2; unfold baC; exact mp_some h
theorem ba1_n (h : hereV f n i = 33) : baC1 f n ok orL cmL qyL i = ngC f n ok orL i := by unfold baC1; rw [if_pos h]
theorem ba1_g (h : hereV f n i = 40) : baC1 f n ok orL cmL qyL i = gpC f n ok orL i := by unfold baC1; rw [if_neg (by rw [h]; decide), if_pos h]
theorem ba1_t (h1 : ¬ hereV f n i = 33) (h2 : ¬ hereV f n i = 40) (h : begC (hereV f n i)) : baC1 f n ok orL cmL qyL i = tcC f n ok orL (opC f n ok orL cmL qyL) i := by unfold baC1; rw [if_neg h1, if_neg h2, if_pos h]
theorem ba1_b (h1 : ¬ hereV f n i = 33) (h2 : ¬ hereV f n i = 40) (h : ¬ begC (hereV f n i)) : baC1 f n ok orL cmL qyL i = (opC f n ok orL cmL qyL i).bind (fun j => cpC f n (opC f n ok orL cmL qyL) (skipB f n j)) := by unfold baC1; rw [if_neg h1, if_neg h2, if_neg h]
theorem ba1_0 (h1 : ¬ hereV f n i = 33) (h2 : ¬ hereV f n i = 40) (h : ¬ begC (hereV f n i)) (h3 : opC f n ok orL cmL qyL i = none) : baC1 f n ok orL cmL qyL i = none := (ba1_b h1 h2 h).trans (bd_none h3)
theorem ba1_c (h1 : ¬ hereV f n i = 33) (h2 : ¬ hereV f n i = 40) (h : ¬ begC (hereV f n i)) (h3 : opC f n ok orL cmL qyL i = some u) (hp : p = skipB f n u) : baC1 f n ok orL cmL qyL i = cpC f n (opC f n ok orL cmL qyL) p := by subst hp; exact (ba1_b h1 h2 h).trans (bd_some h3)
-- and, or
theorem li_u (hm : m ≤ 4095) : liC f n one c (4098 - m) p = if hereV f n p = c then (if hereV f n (p + 1) = c then (one (p + 1 + 1)).bind (fun q => liC f n one c (4098 - (m + 1)) q) else none) else some p := by
  rw [show 4098 - m = (4098 - (m + 1)) + 1 by omega]
  rfl
theorem li_e (hm : m ≤ 4095) (h : ¬ hereV f n p = c) : liC f n one c (4098 - m) p = some p := (li_u hm).trans (if_neg h)
theorem li_0 (hm : m ≤ 4095) (h : hereV f n p = c) (h1 : ¬ hereV f n (p + 1) = c) : liC f n one c (4098 - m) p = none := (li_u hm).trans ((if_pos h).trans (if_neg h1))
theorem li_1 (hm : m ≤ 4095) (h : hereV f n p = c) (h1 : hereV f n (p + 1) = c) (h2 : one (p + 1 + 1) = none) : liC f n one c (4098 - m) p = none := (li_u hm).trans ((if_pos h).trans ((if_pos h1).trans (bd_none h2)))
theorem li_s (hm : m ≤ 4095) (h : hereV f n p = c) (h1 : hereV f n (p + 1) = c) (h2 : one (p + 1 + 1) = some j) : liC f n one c (4098 - m) p = liC f n one c (4098 - (m + 1)) j := (li_u hm).trans ((if_pos h).trans ((if_pos h1).trans (bd_some h2)))
theorem an_0 (h : baC f n ok orL cmL qyL i = none) : anC f n ok orL cmL qyL i = none := by unfold anC; exact bd_none h
theorem an_b (h : baC f n ok orL cmL qyL i = some p) : anC f n ok orL cmL qyL i = liC f n (baC f n ok orL cmL qyL) 38 (4098 - 0) p := by unfold anC; exact bd_some h
theorem or_0 (h : anC f n ok orL cmL qyL i = none) : orC f n ok orL cmL qyL i = none := by unfold orC; exact bd_none h
theorem or_b (h : anC f n ok orL cmL qyL i = some p) : orC f n ok orL cmL qyL i = liC f n (anC f n ok orL cmL qyL) 124 (4098 - 0) p := by unfold orC; exact bd_some h
-- the whole
theorem jQ_0 (h : ¬ hereV f n 0 = 36) : jQ f n = none := by unfold jQ; rw [if_neg h]
theorem jQ_1 (h : hereV f n 0 = 36) (hq : (DDc f n 16).2.2 0 = none) : jQ f n = none := by unfold jQ; rw [if_pos h]; exact bd_none hq
theorem jQ_2 (h : hereV f n 0 = 36) (hq : (DDc f n 16).2.2 0 = some (p, b)) (hp : p < n) : jQ f n = none := by unfold jQ; rw [if_pos h]; exact (bd_some hq).trans (if_pos hp)
theorem jQ_ok (h : hereV f n 0 = 36) (hq : (DDc f n 16).2.2 0 = some (p, b)) (hp : ¬ p < n) : jQ f n = some b := by unfold jQ; rw [if_pos h]; exact (bd_some hq).trans (if_neg hp)
end QIntro
/-- the first selector of a row, while others are put behind it -/
def SLI (g : Nat → Int32) (n : Nat) (nw : Bool) (p0 x y p : Nat) (b0 : Bool) (m : Nat) (f : Nat → va_E) : Prop := (m = 0 ∧ y = x ∧ p = p0 ∧ sgL (f x) = b0) ∨ (¬ m = 0 ∧ (nw = false ∧ hereV g n p0 = 44) ∧ sgL (f x) = false)
theorem SLI.next {g : Nat → Int32} {n : Nat} {nw : Bool} {p0 x y p : Nat} {b0 : Bool} {m : Nat} {f f' : Nat → va_E} (h : SLI g n nw p0 x y p b0 m f) (hn : nw = false) (hc : hereV g n p = 44) (hx : f' x = f x) {kd : Int32} {nm : Option Nat} {hs ht : Int32} {st sp se : Int64} {fl : Option Nat} {v p2 : Nat} : SLI g n nw p0 x v p2 b0 (m + 1) (va_up f' y (lE kd nm hs ht st sp se fl (some v))) := by
  refine Or.inr ⟨Nat.succ_ne_zero m, ?_, ?_⟩
  · rcases h with ⟨-, -, h, -⟩ | ⟨-, h, -⟩
    · exact ⟨hn, by rw [← h]; exact hc⟩
    · exact h
  · by_cases e : x = y
    · rw [e, va_up_self]; exact sgL_n
    · rw [va_up_ne _ _ e, hx]
      rcases h with ⟨-, h, -, -⟩ | ⟨-, -, h⟩
      · exact absurd h.symm e
      · exact h
theorem SLI.fin {g : Nat → Int32} {n : Nat} {nw : Bool} {p0 x y p : Nat} {b0 : Bool} {m : Nat} {f : Nat → va_E} (h : SLI g n nw p0 x y p b0 m f) (he : ¬ (nw = false ∧ hereV g n p = 44)) : (b0 && !(decide (nw = false ∧ hereV g n p0 = 44))) = sgL (f x) := by
  rcases h with ⟨-, -, h1, h2⟩ | ⟨-, h1, h2⟩
  · rw [← h1, decide_eq_false he, h2]
    cases b0 <;> rfl
  · rw [decide_eq_true h1, h2]
    cases b0 <;> rfl
