section CQuery
variable (f : Nat → Int32) (n : Nat)
def nmC : Nat → Nat → Nat
  | 0, j => j
  | k + 1, j => if letH (hereV f n j) ∨ digH (hereV f n j) then nmC k (j + 1) else j
end CQuery
def nwB (nw : Int32) : Bool := decide (¬ nw = 0)
theorem nwB_0 {nw : Int32} (h : nw = 0) : nwB nw = false := decide_eq_false (fun q => q h)
theorem nwB_1 {nw : Int32} (h : ¬ nw = 0) : nwB nw = true := decide_eq_true h
theorem nwB0 : nwB 0 = false := nwB_0 rfl
theorem nwB1 : nwB 1 = true := nwB_1 (by decide)
/-- a selector alone: a name or an index, and no other behind it -/
def sgL (e : va_E) : Bool := (refE 8 e).isNone && (decide (intE 0 e = 0) || decide (intE 0 e = 2))
/-- a segment leads to one node at most -/
def sgG (f : Nat → va_E) (r : Nat) : Bool := decide (intE 0 (f r) = 0) && (match refE 1 (f r) with
  | some a => sgL (f a)
  | none => false)
/-- what a query's field says -/
def sgQ (e : va_E) : Bool := decide (¬ intE 1 e = 0)
abbrev sgLs (f : Nat → va_E) (r : Nat) : Bool := sgL (f r)
abbrev sgQs (f : Nat → va_E) (r : Nat) : Bool := sgQ (f r)
theorem sgL_e {kd : Int32} {nm : Option Nat} {hs ht : Int32} {st sp se : Int64} {fl nx : Option Nat} : sgL (lE kd nm hs ht st sp se fl nx) = (nx.isNone && (decide (kd = 0) || decide (kd = 2))) := by
  have e1 : refE 8 (lE kd nm hs ht st sp se fl nx) = nx := refE_rf rfl
  have e2 : intE 0 (lE kd nm hs ht st sp se fl nx) = kd := rfl
  unfold sgL
  rw [e1, e2]
theorem sgL_n {kd : Int32} {nm : Option Nat} {hs ht : Int32} {st sp se : Int64} {fl : Option Nat} {v : Nat} : sgL (lE kd nm hs ht st sp se fl (some v)) = false := by rw [sgL_e]; rfl
theorem sgL_0 {nm : Option Nat} {hs ht : Int32} {st sp se : Int64} {fl : Option Nat} : sgL (lE 0 nm hs ht st sp se fl none) = true := by
  rw [sgL_e]
  decide
theorem sgL_1 {nm : Option Nat} {hs ht : Int32} {st sp se : Int64} {fl : Option Nat} : sgL (lE 1 nm hs ht st sp se fl none) = false := by
  rw [sgL_e]
  decide
theorem sgL_2 {nm : Option Nat} {hs ht : Int32} {st sp se : Int64} {fl : Option Nat} : sgL (lE 2 nm hs ht st sp se fl none) = true := by
  rw [sgL_e]
  decide
theorem sgL_3 {nm : Option Nat} {hs ht : Int32} {st sp se : Int64} {fl : Option Nat} : sgL (lE 3 nm hs ht st sp se fl none) = false := by
  rw [sgL_e]
  decide
theorem sgL_4 {nm : Option Nat} {hs ht : Int32} {st sp se : Int64} {fl : Option Nat} : sgL (lE 4 nm hs ht st sp se fl none) = false := by
  rw [sgL_e]
  decide
theorem sgG_e {f : Nat → va_E} {r v : Nat} {ds : Int32} {nx : Option Nat} (h : f r = gE ds (some v) nx) : sgG f r = (decide (ds = 0) && sgL (f v)) := by
  have e1 : refE 1 (f r) = some v := refE_rf (by rw [h]; rfl)
  have e2 : intE 0 (f r) = ds := by rw [h]; rfl
  unfold sgG
  rw [e1, e2]
theorem sgG_0 {f : Nat → va_E} {r v : Nat} {nx : Option Nat} (hv : v ≠ r) : sgG (va_up f r (gE 0 (some v) nx)) r = sgL (f v) := by
  rw [sgG_e (va_up_self _ _ _), va_up_ne _ _ hv, decide_eq_true (rfl : (0 : Int32) = 0)]
  rfl
theorem sgG_1 {f : Nat → va_E} {r v : Nat} {nx : Option Nat} : sgG (va_up f r (gE 1 (some v) nx)) r = false := by
  rw [sgG_e (va_up_self _ _ _), decide_eq_false (by decide : ¬ (1 : Int32) = 0)]
  rfl
theorem sgQ_e {fr sg : Int32} {fi la : Option Nat} : sgQ (qE fr sg fi la) = decide (¬ sg = 0) := rfl
theorem sgQ_b {fr : Int32} {b : Bool} {fi la : Option Nat} : sgQ (qE fr (bI b) fi la) = b := by
  rw [sgQ_e]
  cases b
  · exact decide_eq_false (fun q => q rfl)
  · exact decide_eq_true (by decide)
theorem bI_q {e : va_E} {sg : Int32} (h : sgQ e = decide (¬ sg = 0)) : (¬ sg = 0 → sgQ e = true) ∧ (sg = 0 → sgQ e = false) := ⟨fun q => h.trans (decide_eq_true q), fun q => h.trans (decide_eq_false (fun z => z q))⟩
/-- a segment stays what it is where another one of its sort is changed -/
theorem sgG_fr {cI cV : ClassId} {E lv : Nat → Nat} {L : List Nat} {f : Nat → va_E} {sn z : Nat} {e : va_E} (hO : PO cI cV E lv L f) (hsn : E sn = 8) (hz : E z = 8) (hne : sn ≠ z) : sgG (va_up f z e) sn = sgG f sn := by
  obtain ⟨ds, fi, nx, ef, ⟨v, hv, hE, -⟩, -⟩ := hO.seg hsn
  rw [hv] at ef
  rw [sgG_e ef, sgG_e (show va_up f z e sn = gE ds (some v) nx by rw [va_up_ne _ _ hne]; exact ef), va_up_ne _ _ (show v ≠ z from fun q => by rw [q, hz] at hE; cases hE)]
theorem mp_none {α β : Type} {o : Option α} {g : α → β} (h : o = none) : o.map g = none := by rw [h]; rfl
theorem mp_some {α β : Type} {o : Option α} {g : α → β} {a : α} (h : o = some a) : o.map g = some (g a) := by rw [h]; rfl
theorem bd_none {α β : Type} {o : Option α} {g : α → Option β} (h : o = none) : o.bind g = none := by rw [h]; rfl
theorem bd_some {α β : Type} {o : Option α} {g : α → Option β} {a : α} (h : o = some a) : o.bind g = g a := by rw [h]; rfl
theorem dig_nl {x : Int32} (h : digH x) : ¬ letH x := by
  have h2 := Int32.le_iff_toInt_le.mp h.2
  rw [show (57 : Int32).toInt = 57 from rfl] at h2
  rintro (⟨a, -⟩ | ⟨a, -⟩ | a)
  · exact a (Int32.lt_iff_toInt_lt.mpr (by rw [show (97 : Int32).toInt = 97 from rfl]; omega))
  · exact a (Int32.lt_iff_toInt_lt.mpr (by rw [show (65 : Int32).toInt = 65 from rfl]; omega))
  · rw [a] at h2; revert h2; decide
section QIntro
variable {f : Nat → Int32} {n i j p p1 p2 p3 u k m : Nat} {r : Int64} {ok nw b b0 fl : Bool} {orL cmL op one inn : Nat → Option Nat} {qyL : Nat → Option (Nat × Bool)} {L : List Int32} {c : Int32}
-- integer
-- operator
-- slice
-- selector
theorem nq_of (h : hereV f n i = c) (h1 : ¬ c = 39) (h2 : ¬ c = 34) : ¬ (hereV f n i = 39 ∨ hereV f n i = 34) := fun q => by rw [h] at q; exact q.elim h1 h2
/-- it must be a number -/
abbrev mbI (f : Nat → Int32) (n i : Nat) (nw : Bool) : Prop := ¬ (nw = false ∧ hereV f n i = 42) ∧ ¬ (nw = false ∧ hereV f n i = 63) ∧ ¬ (nw = false ∧ hereV f n i = 58)
theorem mbI_1 (hn : nw = true) : mbI f n i nw := by rw [hn]; exact ⟨fun q => absurd q.1 (by decide), fun q => absurd q.1 (by decide), fun q => absurd q.1 (by decide)⟩
theorem mbI_0 (h1 : ¬ hereV f n i = 42) (h2 : ¬ hereV f n i = 63) (h3 : ¬ hereV f n i = 58) : mbI f n i nw := ⟨fun q => h1 q.2, fun q => h2 q.2, fun q => h3 q.2⟩
-- selectors
-- a name without quotes
theorem nmC_e (h : ¬ (letH (hereV f n j) ∨ digH (hereV f n j))) : nmC f n k j = j := by
  cases k with
  | zero => rfl
  | succ k => simp only [nmC]; rw [if_neg h]
theorem nmC_n (h : n ≤ j) : nmC f n (n - j) j = j := by rw [show n - j = 0 by omega]; rfl
theorem nmC_s (hp : j < n) (h : letH (hereV f n j) ∨ digH (hereV f n j)) : nmC f n (n - j) j = nmC f n (n - (j + 1)) (j + 1) := by
  rw [show n - j = (n - (j + 1)) + 1 by omega]
  simp only [nmC]
  rw [if_pos h]
-- segment
-- query
-- what is written
-- in brackets
-- what may be compared
theorem nb_c (h : hereV f n i = c) (h1 : ¬ c = 64) (h2 : ¬ c = 36) : ¬ begC (hereV f n i) := fun q => by rw [h] at q; exact q.elim h1 h2
-- comparison
-- group
-- a test, or a comparison
-- negation
-- a simple condition
-- and, or
-- the whole
end QIntro
/-- the first selector of a row, while others are put behind it -/
def SLI (g : Nat → Int32) (n : Nat) (nw : Bool) (p0 x y p : Nat) (b0 : Bool) (m : Nat) (f : Nat → va_E) : Prop := (m = 0 ∧ y = x ∧ p = p0 ∧ sgL (f x) = b0) ∨ (¬ m = 0 ∧ (nw = false ∧ hereV g n p0 = 44) ∧ sgL (f x) = false)
theorem SLI.next {g : Nat → Int32} {n : Nat} {nw : Bool} {p0 x y p : Nat} {b0 : Bool} {m : Nat} {f f' : Nat → va_E} (h : SLI g n nw p0 x y p b0 m f) (hn : nw = false) (hc : hereV g n p = 44) (hx : f' x = f x) {kd : Int32} {nm : Option Nat} {hs ht : Int32} {st sp se : Int64} {fl : Option Nat} {v p2 : Nat} : SLI g n nw p0 x v p2 b0 (m + 1) (va_up f' y (lE kd nm hs ht st sp se fl (some v))) := by
  refine Or.inr ⟨Nat.succ_ne_zero m, ?_, ?_⟩
  · rcases h with ⟨-, -, h, -⟩ | ⟨-, h, -⟩
    · exact ⟨hn, by rw [← h]; exact hc⟩
    · exact h
  · by_cases e : x = y
    · rw [e, va_up_self]; exact sgL_n
    · rw [va_up_ne _ _ e, hx]
      rcases h with ⟨-, h, -, -⟩ | ⟨-, -, h⟩
      · exact absurd h.symm e
      · exact h
theorem SLI.fin {g : Nat → Int32} {n : Nat} {nw : Bool} {p0 x y p : Nat} {b0 : Bool} {m : Nat} {f : Nat → va_E} (h : SLI g n nw p0 x y p b0 m f) (he : ¬ (nw = false ∧ hereV g n p = 44)) : (b0 && !(decide (nw = false ∧ hereV g n p0 = 44))) = sgL (f x) := by
  rcases h with ⟨-, -, h1, h2⟩ | ⟨-, h1, h2⟩
  · rw [← h1, decide_eq_false he, h2]
    cases b0 <;> rfl
  · rw [decide_eq_true h1, h2]
    cases b0 <;> rfl
section CQueryD
variable (f : Nat → Int32) (n : Nat)
/-- an integer, as the class reads it: where it ends, and what it says -/
def iBv (mi : Bool) (i : Nat) : Option (Nat × Int64) := if ¬ digH (hereV f n i) ∨ hereV f n i = 48 then none else if ¬ (digR f n i).1 ≤ 9007199254740991 then none else some ((digR f n i).2, if mi = true then -(digR f n i).1 else (digR f n i).1)
def iCv (i : Nat) : Option (Nat × Int64) := if hereV f n i = 45 then iBv f n true (i + 1) else if hereV f n i = 48 then some (i + 1, 0) else iBv f n false i
/-- a slice: its end, its step -/
def slV2 (j : Nat) : Option (Nat × Int64) := if hereV f n j = 58 then (if numC (hereV f n (skipB f n (j + 1))) then iCv f n (skipB f n (j + 1)) else some (skipB f n (j + 1), 1)) else some (j, 1)
def slV (i : Nat) : Option (Nat × Option Int64 × Int64) := if numC (hereV f n (skipB f n (i + 1))) then (iCv f n (skipB f n (i + 1))).bind (fun v => (slV2 f n (skipB f n v.1)).map (fun w => (w.1, some v.2, w.2))) else (slV2 f n (skipB f n (i + 1))).map (fun w => (w.1, none, w.2))
/-- a selector: where it ends, whether it is a name or an index, what it says -/
def selD1 (orL : Nat → Option (Nat × CT)) (nw : Bool) (i : Nat) : Option (Nat × Bool × QT) :=
  if hereV f n i = 39 ∨ hereV f n i = 34 then (qtR f n i).map (fun p => (p.1 + 1, true, namS p.2))
  else if nw = false ∧ hereV f n i = 42 then some (i + 1, false, eachS)
  else if nw = false ∧ hereV f n i = 63 then (orL (i + 1)).map (fun j => (j.1, false, filS j.2))
  else if nw = false ∧ hereV f n i = 58 then (slV f n i).map (fun j => (j.1, false, slcS none j.2.1 j.2.2))
  else (iCv f n i).bind (fun v => if nw = false ∧ hereV f n (skipB f n v.1) = 58 then (slV f n (skipB f n v.1)).map (fun j => (j.1, false, slcS (some v.2) j.2.1 j.2.2)) else some (skipB f n v.1, true, idxS v.2))
def selD (orL : Nat → Option (Nat × CT)) (nw : Bool) (i : Nat) : Option (Nat × Bool × QT) := (selD1 f n orL nw (skipB f n i)).map (fun p => (skipB f n p.1, p.2))
/-- further selectors -/
def slsLD (orL : Nat → Option (Nat × CT)) (nw : Bool) : Nat → Nat → Option (Nat × List QT)
  | 0, _ => none
  | k + 1, p => if nw = false ∧ hereV f n p = 44 then (selD f n orL nw (p + 1)).bind (fun q => (slsLD orL nw k q.1).map (fun r => (r.1, q.2.2 :: r.2))) else some (p, [])
def slsD (ok : Bool) (orL : Nat → Option (Nat × CT)) (nw : Bool) (i : Nat) : Option (Nat × Bool × List QT) :=
  if ok = true ∧ hereV f n i = 91 then (selD f n orL nw (i + 1)).bind (fun p => (slsLD f n orL nw 4098 p.1).bind (fun j => if hereV f n j.1 = 93 then some (j.1 + 1, p.2.1 && j.2.isEmpty, p.2.2 :: j.2) else none)) else none
def shD (nw : Bool) (j : Nat) : Option (Nat × Bool × List QT) := if nw = false ∧ hereV f n j = 42 then some (j + 1, false, [eachS]) else if ¬ letH (hereV f n j) then none else some (nmC f n (n - j) j, true, [namS (nmT_ f n j (nmC f n (n - j) j))])
def segD (ok : Bool) (orL : Nat → Option (Nat × CT)) (nw : Bool) (i : Nat) : Option (Nat × Bool × QT) :=
  if hereV f n i = 46 then (if nw = false ∧ hereV f n (i + 1) = 46 then (if hereV f n (i + 2) = 91 then (slsD f n ok orL nw (i + 2)).map (fun p => (p.1, false, segS true p.2.2)) else (shD f n nw (i + 2)).map (fun p => (p.1, false, segS true p.2.2))) else (shD f n nw (i + 1)).map (fun p => (p.1, p.2.1, segS false p.2.2)))
  else (slsD f n ok orL nw i).map (fun p => (p.1, p.2.1, segS false p.2.2))
def qrLD (ok : Bool) (orL : Nat → Option (Nat × CT)) (nw : Bool) : Nat → Nat → Bool → Option (Nat × Bool × List QT)
  | 0, _, _ => none
  | k + 1, i, fl => if ¬ hereV f n (skipB f n i) = 46 ∧ ¬ hereV f n (skipB f n i) = 91 then some (i, fl, []) else (segD f n ok orL nw (skipB f n i)).bind (fun p => (qrLD ok orL nw k p.1 (fl && p.2.1)).map (fun q => (q.1, q.2.1, p.2.2 :: q.2.2)))
/-- a query from its $ or @ on -/
def qrD (ok : Bool) (orL : Nat → Option (Nat × CT)) (nw : Bool) (i : Nat) : Option (Nat × Bool × QT) := (qrLD f n ok orL nw 4097 (i + 1) true).map (fun q => (q.1, q.2.1, qryS (decide (hereV f n i = 36)) q.2.2))
def brD {α : Type} (ok : Bool) (inn : Nat → Option (Nat × α)) (j : Nat) : Option (Nat × α) := if ok = true ∧ hereV f n j = 40 then (inn (skipB f n (j + 1))).bind (fun k => if hereV f n (skipB f n k.1) = 41 then some (skipB f n k.1 + 1, k.2) else none) else none
def wrD (i : Nat) : Option (Nat × LF) :=
  if hereV f n i = 116 then (if mtB f n i (ctx 11) 4 = true then some (i + 4, (1, 0, [])) else none)
  else if hereV f n i = 102 then (if mtB f n i (ctx 12) 5 = true then some (i + 5, (2, 0, [])) else none)
  else if hereV f n i = 110 then (if mtB f n i (ctx 13) 4 = true then some (i + 4, (0, 0, [])) else none)
  else if hereV f n i = 39 ∨ hereV f n i = 34 then (qtR f n i).map (fun p => (p.1 + 1, (4, 0, p.2)))
  else (iCv f n i).map (fun v => (v.1, (3, v.2, [])))
def anyD (qyL : Nat → Option (Nat × Bool × QT)) (i : Nat) : Option (Nat × QT) := if begC (hereV f n i) then (qyL i).map (fun p => (p.1, p.2.2)) else none
def fnD {α : Type} (t ln : Nat) (ok : Bool) (inn : Nat → Option (Nat × α)) (i : Nat) : Option (Nat × α) := if mtB f n i (ctx t) ln = true then brD f n ok inn (i + ln) else none
/-- what may be compared -/
def opD (ok : Bool) (orL : Nat → Option (Nat × CT)) (cmL : Nat → Option (Nat × OT)) (qyL : Nat → Option (Nat × Bool × QT)) (i : Nat) : Option (Nat × OT) :=
  if begC (hereV f n i) then (qrD f n ok orL true i).map (fun p => (p.1, onlO p.2.2))
  else if hereV f n i = 108 then (fnD f n 10 6 ok cmL i).map (fun p => (p.1, lenO p.2))
  else if hereV f n i = 99 then (fnD f n 8 5 ok (anyD f n qyL) i).map (fun p => (p.1, cntO p.2))
  else if hereV f n i = 118 then (fnD f n 9 5 ok (anyD f n qyL) i).map (fun p => (p.1, onlO p.2))
  else (wrD f n i).map (fun p => (p.1, litO p.2))
def oprD (j : Nat) : Option (Nat × Nat) :=
  if hereV f n j = 60 then (if hereV f n (j + 1) = 61 then some (j + 2, 3) else some (j + 1, 2))
  else if hereV f n j = 62 then (if hereV f n (j + 1) = 61 then some (j + 2, 5) else some (j + 1, 4))
  else if hereV f n j = 33 then (if hereV f n (j + 1) = 61 then some (j + 2, 1) else none)
  else if hereV f n j = 61 then (if hereV f n (j + 1) = 61 then some (j + 2, 0) else none) else none
def cpD (op : Nat → Option (Nat × OT)) (x : OT) (j : Nat) : Option (Nat × CT) := (oprD f n j).bind (fun k => (op (skipB f n k.1)).map (fun y => (y.1, cmpC k.2 x y.2)))
def gpD (ok : Bool) (orL : Nat → Option (Nat × CT)) (i : Nat) : Option (Nat × CT) := if ok = true ∧ hereV f n i = 40 then (orL (i + 1)).bind (fun j => if hereV f n j.1 = 41 then some (j.1 + 1, j.2) else none) else none
def tcD (ok : Bool) (orL : Nat → Option (Nat × CT)) (op : Nat → Option (Nat × OT)) (i : Nat) : Option (Nat × CT) := (qrD f n ok orL false i).bind (fun p => if opH (hereV f n (skipB f n p.1)) then (if p.2.1 = false then none else cpD f n op (onlO p.2.2) (skipB f n p.1)) else some (skipB f n p.1, tstC p.2.2))
def ngD (ok : Bool) (orL : Nat → Option (Nat × CT)) (i : Nat) : Option (Nat × CT) := (if hereV f n (skipB f n (i + 1)) = 40 then gpD f n ok orL (skipB f n (i + 1)) else (anyD f n (qrD f n ok orL false) (skipB f n (i + 1))).map (fun p => (p.1, tstC p.2))).map (fun p => (p.1, notC p.2))
def baD1 (ok : Bool) (orL : Nat → Option (Nat × CT)) (cmL : Nat → Option (Nat × OT)) (qyL : Nat → Option (Nat × Bool × QT)) (i : Nat) : Option (Nat × CT) :=
  if hereV f n i = 33 then ngD f n ok orL i
  else if hereV f n i = 40 then gpD f n ok orL i
  else if begC (hereV f n i) then tcD f n ok orL (opD f n ok orL cmL qyL) i
  else (opD f n ok orL cmL qyL i).bind (fun x => cpD f n (opD f n ok orL cmL qyL) x.2 (skipB f n x.1))
def baD (ok : Bool) (orL : Nat → Option (Nat × CT)) (cmL : Nat → Option (Nat × OT)) (qyL : Nat → Option (Nat × Bool × QT)) (i : Nat) : Option (Nat × CT) := (baD1 f n ok orL cmL qyL (skipB f n i)).map (fun p => (skipB f n p.1, p.2))
def liD (one : Nat → Option (Nat × CT)) (c : Int32) : Nat → Nat → Option (Nat × List CT)
  | 0, _ => none
  | k + 1, p => if hereV f n p = c then (if hereV f n (p + 1) = c then (one (p + 2)).bind (fun q => (liD one c k q.1).map (fun r => (r.1, q.2 :: r.2))) else none) else some (p, [])
def anD (ok : Bool) (orL : Nat → Option (Nat × CT)) (cmL : Nat → Option (Nat × OT)) (qyL : Nat → Option (Nat × Bool × QT)) (i : Nat) : Option (Nat × CT) := (baD f n ok orL cmL qyL i).bind (fun p => (liD f n (baD f n ok orL cmL qyL) 38 4098 p.1).map (fun r => (r.1, allC (p.2 :: r.2))))
def orD (ok : Bool) (orL : Nat → Option (Nat × CT)) (cmL : Nat → Option (Nat × OT)) (qyL : Nat → Option (Nat × Bool × QT)) (i : Nat) : Option (Nat × CT) := (anD f n ok orL cmL qyL i).bind (fun p => (liD f n (anD f n ok orL cmL qyL) 124 4098 p.1).map (fun r => (r.1, anyC_ (p.2 :: r.2))))
def DDd : Nat → (Nat → Option (Nat × CT)) × (Nat → Option (Nat × OT)) × (Nat → Option (Nat × Bool × QT))
  | 0 => (orD f n false (fun _ => none) (fun _ => none) (fun _ => none), opD f n false (fun _ => none) (fun _ => none) (fun _ => none), qrD f n false (fun _ => none) false)
  | d + 1 => (orD f n true (DDd d).1 (DDd d).2.1 (DDd d).2.2, opD f n true (DDd d).1 (DDd d).2.1 (DDd d).2.2, qrD f n true (DDd d).1 false)
/-- a whole query: is it singular, and what it says -/
def jQD : Option (Bool × QT) := if hereV f n 0 = 36 then ((DDd f n 16).2.2 0).bind (fun p => if p.1 < n then none else some p.2) else none
end CQueryD
section DIntro
variable {f : Nat → Int32} {n i j p p1 p2 p3 u k m : Nat} {r v w : Int64} {ok nw b b0 fl : Bool} {orL : Nat → Option (Nat × CT)} {cmL op : Nat → Option (Nat × OT)} {one : Nat → Option (Nat × CT)} {qyL : Nat → Option (Nat × Bool × QT)} {L : List Int32} {c : Int32} {s : QT} {g h9 : CT} {x y : OT} {lf : LF}
-- integer
theorem iBv_no (h : ¬ digH (hereV f n i) ∨ hereV f n i = 48) {mi : Bool} : iBv f n mi i = none := by unfold iBv; rw [if_pos h]
theorem iBv_big (hd : (r, u) = digR f n i) (h : ¬ r ≤ 9007199254740991) {mi : Bool} : iBv f n mi i = none := by
  unfold iBv
  split
  · rfl
  · rw [← hd, if_pos h]
theorem iBv_ok (hg : digH (hereV f n i)) (h0 : ¬ hereV f n i = 48) (hd : (r, u) = digR f n i) (hm : r ≤ 9007199254740991) {mi : Bool} : iBv f n mi i = some (u, if mi = true then -r else r) := by
  unfold iBv
  rw [if_neg (fun q => q.elim (fun a => a hg) h0), ← hd, if_neg (fun q => q hm)]
theorem iCv_m (h : hereV f n i = 45) : iCv f n i = iBv f n true (i + 1) := by unfold iCv; rw [if_pos h]
theorem iCv_0 (h0 : ¬ hereV f n i = 45) (h : hereV f n i = 48) : iCv f n i = some (i + 1, 0) := by unfold iCv; rw [if_neg h0, if_pos h]
theorem iCv_p (h0 : ¬ hereV f n i = 45) (h : ¬ hereV f n i = 48) : iCv f n i = iBv f n false i := by unfold iCv; rw [if_neg h0, if_neg h]
-- slice
theorem slV_0 (hp : p1 = skipB f n (i + 1)) (h : numC (hereV f n p1)) (hi : iCv f n p1 = none) : slV f n i = none := by subst hp; unfold slV; rw [if_pos h]; exact bd_none hi
theorem slV_1 (hp : p1 = skipB f n (i + 1)) (h : numC (hereV f n p1)) (hi : iCv f n p1 = some (u, v)) (hp2 : p2 = skipB f n u) : slV f n i = (slV2 f n p2).map (fun w => (w.1, some v, w.2)) := by subst hp; subst hp2; unfold slV; rw [if_pos h]; exact bd_some hi
theorem slV_2 (hp : p1 = skipB f n (i + 1)) (h : ¬ numC (hereV f n p1)) : slV f n i = (slV2 f n p1).map (fun w => (w.1, none, w.2)) := by subst hp; unfold slV; rw [if_neg h]
theorem slV2_e (h : ¬ hereV f n j = 58) : slV2 f n j = some (j, 1) := by unfold slV2; rw [if_neg h]
theorem slV2_0 (h : hereV f n j = 58) (hp : p = skipB f n (j + 1)) (hn : numC (hereV f n p)) (hi : iCv f n p = none) : slV2 f n j = none := by subst hp; unfold slV2; rw [if_pos h, if_pos hn, hi]
theorem slV2_1 (h : hereV f n j = 58) (hp : p = skipB f n (j + 1)) (hn : numC (hereV f n p)) (hi : iCv f n p = some (u, v)) : slV2 f n j = some (u, v) := by subst hp; unfold slV2; rw [if_pos h, if_pos hn, hi]
theorem slV2_2 (h : hereV f n j = 58) (hp : p = skipB f n (j + 1)) (hn : ¬ numC (hereV f n p)) : slV2 f n j = some (p, 1) := by subst hp; unfold slV2; rw [if_pos h, if_neg hn]
-- selector
theorem selD_0 (hp : p = skipB f n i) (h : selD1 f n orL nw p = none) : selD f n orL nw i = none := by subst hp; unfold selD; exact mp_none h
theorem selD_1 (hp : p = skipB f n i) (h : selD1 f n orL nw p = some (p1, b, s)) (hp2 : p2 = skipB f n p1) : selD f n orL nw i = some (p2, b, s) := by subst hp; subst hp2; unfold selD; exact mp_some h
theorem selD1_q0 (h : hereV f n i = 39 ∨ hereV f n i = 34) (hq : qtR f n i = none) : selD1 f n orL nw i = none := by unfold selD1; rw [if_pos h]; exact mp_none hq
theorem selD1_q (h : hereV f n i = 39 ∨ hereV f n i = 34) (hq : qtR f n i = some (j, L)) : selD1 f n orL nw i = some (j + 1, true, namS L) := by unfold selD1; rw [if_pos h]; exact mp_some hq
theorem selD1_a (hn : nw = false) (h : hereV f n i = 42) : selD1 f n orL nw i = some (i + 1, false, eachS) := by unfold selD1; rw [if_neg (nq_of h (by decide) (by decide)), if_pos ⟨hn, h⟩]
theorem selD1_f0 (hn : nw = false) (h : hereV f n i = 63) (ho : orL (i + 1) = none) : selD1 f n orL nw i = none := by unfold selD1; rw [if_neg (nq_of h (by decide) (by decide)), if_neg (fun q => by rw [h] at q; exact absurd q.2 (by decide)), if_pos ⟨hn, h⟩]; exact mp_none ho
theorem selD1_f (hn : nw = false) (h : hereV f n i = 63) (ho : orL (i + 1) = some (j, g)) : selD1 f n orL nw i = some (j, false, filS g) := by unfold selD1; rw [if_neg (nq_of h (by decide) (by decide)), if_neg (fun q => by rw [h] at q; exact absurd q.2 (by decide)), if_pos ⟨hn, h⟩]; exact mp_some ho
theorem selD1_s0 (hn : nw = false) (h : hereV f n i = 58) (ho : slV f n i = none) : selD1 f n orL nw i = none := by unfold selD1; rw [if_neg (nq_of h (by decide) (by decide)), if_neg (fun q => by rw [h] at q; exact absurd q.2 (by decide)), if_neg (fun q => by rw [h] at q; exact absurd q.2 (by decide)), if_pos ⟨hn, h⟩]; exact mp_none ho
theorem selD1_s {e : Option Int64} (hn : nw = false) (h : hereV f n i = 58) (ho : slV f n i = some (j, e, w)) : selD1 f n orL nw i = some (j, false, slcS none e w) := by unfold selD1; rw [if_neg (nq_of h (by decide) (by decide)), if_neg (fun q => by rw [h] at q; exact absurd q.2 (by decide)), if_neg (fun q => by rw [h] at q; exact absurd q.2 (by decide)), if_pos ⟨hn, h⟩]; exact mp_some ho
theorem selD1_b (hq : ¬ (hereV f n i = 39 ∨ hereV f n i = 34)) (hm : mbI f n i nw) : selD1 f n orL nw i = (iCv f n i).bind (fun v => if nw = false ∧ hereV f n (skipB f n v.1) = 58 then (slV f n (skipB f n v.1)).map (fun j => (j.1, false, slcS (some v.2) j.2.1 j.2.2)) else some (skipB f n v.1, true, idxS v.2)) := by unfold selD1; rw [if_neg hq, if_neg hm.1, if_neg hm.2.1, if_neg hm.2.2]
theorem selD1_i0 (hq : ¬ (hereV f n i = 39 ∨ hereV f n i = 34)) (hm : mbI f n i nw) (hi : iCv f n i = none) : selD1 f n orL nw i = none := (selD1_b hq hm).trans (bd_none hi)
theorem selD1_i (hq : ¬ (hereV f n i = 39 ∨ hereV f n i = 34)) (hm : mbI f n i nw) (hi : iCv f n i = some (u, v)) (hp : p2 = skipB f n u) (hc : ¬ (nw = false ∧ hereV f n p2 = 58)) : selD1 f n orL nw i = some (p2, true, idxS v) := by subst hp; exact (selD1_b hq hm).trans ((bd_some hi).trans (if_neg hc))
theorem selD1_n0 (hq : ¬ (hereV f n i = 39 ∨ hereV f n i = 34)) (hm : mbI f n i nw) (hi : iCv f n i = some (u, v)) (hp : p2 = skipB f n u) (hn : nw = false) (hc : hereV f n p2 = 58) (hs : slV f n p2 = none) : selD1 f n orL nw i = none := by subst hp; exact (selD1_b hq hm).trans ((bd_some hi).trans ((if_pos ⟨hn, hc⟩).trans (mp_none hs)))
theorem selD1_n {e : Option Int64} (hq : ¬ (hereV f n i = 39 ∨ hereV f n i = 34)) (hm : mbI f n i nw) (hi : iCv f n i = some (u, v)) (hp : p2 = skipB f n u) (hn : nw = false) (hc : hereV f n p2 = 58) (hs : slV f n p2 = some (k, e, w)) : selD1 f n orL nw i = some (k, false, slcS (some v) e w) := by subst hp; exact (selD1_b hq hm).trans ((bd_some hi).trans ((if_pos ⟨hn, hc⟩).trans (mp_some hs)))
-- selectors: t are those that stand behind the first
variable {l t : List QT} {lc : List CT}
theorem slsD_0 (h : ¬ (ok = true ∧ hereV f n i = 91)) : slsD f n ok orL nw i = none := by unfold slsD; rw [if_neg h]
theorem slsD_b (h1 : ok = true) (h2 : hereV f n i = 91) (h3 : selD f n orL nw (i + 1) = some (p, b0, s)) : slsD f n ok orL nw i = (slsLD f n orL nw 4098 p).bind (fun j => if hereV f n j.1 = 93 then some (j.1 + 1, b0 && j.2.isEmpty, s :: j.2) else none) := by unfold slsD; rw [if_pos ⟨h1, h2⟩]; exact bd_some h3
theorem slsD_1 (h1 : ok = true) (h2 : hereV f n i = 91) (h3 : selD f n orL nw (i + 1) = none) : slsD f n ok orL nw i = none := by unfold slsD; rw [if_pos ⟨h1, h2⟩]; exact bd_none h3
theorem slsD_2 (h1 : ok = true) (h2 : hereV f n i = 91) (h3 : selD f n orL nw (i + 1) = some (p, b0, s)) (h4 : slsLD f n orL nw 4098 p = none) : slsD f n ok orL nw i = none := (slsD_b h1 h2 h3).trans (bd_none h4)
theorem slsD_3 (h1 : ok = true) (h2 : hereV f n i = 91) (h3 : selD f n orL nw (i + 1) = some (p, b0, s)) (h4 : slsLD f n orL nw 4098 p = some (j, t)) (h5 : ¬ hereV f n j = 93) : slsD f n ok orL nw i = none := (slsD_b h1 h2 h3).trans ((bd_some h4).trans (if_neg h5))
theorem slsD_ok (h1 : ok = true) (h2 : hereV f n i = 91) (h3 : selD f n orL nw (i + 1) = some (p, b0, s)) (h4 : slsLD f n orL nw 4098 p = some (j, t)) (h5 : hereV f n j = 93) (hb : (b0 && t.isEmpty) = b) : slsD f n ok orL nw i = some (j + 1, b, s :: t) := by subst hb; exact (slsD_b h1 h2 h3).trans ((bd_some h4).trans (if_pos h5))
theorem slLD_u (hm : m ≤ 4095) : slsLD f n orL nw (4098 - m) p = if nw = false ∧ hereV f n p = 44 then (selD f n orL nw (p + 1)).bind (fun q => (slsLD f n orL nw (4098 - (m + 1)) q.1).map (fun r => (r.1, q.2.2 :: r.2))) else some (p, []) := by
  rw [show 4098 - m = (4098 - (m + 1)) + 1 by omega]
  rfl
theorem slLD_n (hm : m ≤ 4095) (hn : nw = false) (hc : hereV f n p = 44) (hs : selD f n orL nw (p + 1) = none) : slsLD f n orL nw (4098 - m) p = none := (slLD_u hm).trans ((if_pos ⟨hn, hc⟩).trans (bd_none hs))
theorem slLD_s (hm : m ≤ 4095) (hn : nw = false) (hc : hereV f n p = 44) (hs : selD f n orL nw (p + 1) = some (j, b, s)) : slsLD f n orL nw (4098 - m) p = (slsLD f n orL nw (4098 - (m + 1)) j).map (fun r => (r.1, s :: r.2)) := (slLD_u hm).trans ((if_pos ⟨hn, hc⟩).trans (bd_some hs))
theorem slLD_e (hm : m ≤ 4095) (h : ¬ (nw = false ∧ hereV f n p = 44)) : slsLD f n orL nw (4098 - m) p = some (p, []) := (slLD_u hm).trans (if_neg h)
-- a name without quotes
theorem shD_a (hn : nw = false) (h : hereV f n i = 42) : shD f n nw i = some (i + 1, false, [eachS]) := by unfold shD; rw [if_pos ⟨hn, h⟩]
theorem shD_0 (h : ¬ (nw = false ∧ hereV f n i = 42)) (hl : ¬ letH (hereV f n i)) : shD f n nw i = none := by unfold shD; rw [if_neg h, if_pos hl]
theorem shD_n (h : ¬ (nw = false ∧ hereV f n i = 42)) (hl : letH (hereV f n i)) (hp : nmC f n (n - i) i = p) (hL : nmT_ f n i p = L) : shD f n nw i = some (p, true, [namS L]) := by unfold shD; rw [if_neg h, if_neg (fun q => q hl), hp, hL]
-- segment
theorem segD_b (h : ¬ hereV f n i = 46) : segD f n ok orL nw i = (slsD f n ok orL nw i).map (fun p => (p.1, p.2.1, segS false p.2.2)) := by unfold segD; rw [if_neg h]
theorem segD_d (h : hereV f n i = 46) (h2 : ¬ (nw = false ∧ hereV f n (i + 1) = 46)) : segD f n ok orL nw i = (shD f n nw (i + 1)).map (fun p => (p.1, p.2.1, segS false p.2.2)) := by unfold segD; rw [if_pos h, if_neg h2]
theorem segD_s (h : hereV f n i = 46) (hn : nw = false) (h2 : hereV f n (i + 1) = 46) (h3 : hereV f n (i + 1 + 1) = 91) : segD f n ok orL nw i = (slsD f n ok orL nw (i + 1 + 1)).map (fun p => (p.1, false, segS true p.2.2)) := by unfold segD; rw [if_pos h, if_pos ⟨hn, h2⟩, if_pos h3]
theorem segD_h (h : hereV f n i = 46) (hn : nw = false) (h2 : hereV f n (i + 1) = 46) (h3 : ¬ hereV f n (i + 1 + 1) = 91) : segD f n ok orL nw i = (shD f n nw (i + 1 + 1)).map (fun p => (p.1, false, segS true p.2.2)) := by unfold segD; rw [if_pos h, if_pos ⟨hn, h2⟩, if_neg h3]
-- query
theorem qrLD_u (hm : m ≤ 4095) (hp : p1 = skipB f n p) : qrLD f n ok orL nw (4097 - m) p fl = if ¬ hereV f n p1 = 46 ∧ ¬ hereV f n p1 = 91 then some (p, fl, []) else (segD f n ok orL nw p1).bind (fun q => (qrLD f n ok orL nw (4097 - (m + 1)) q.1 (fl && q.2.1)).map (fun r => (r.1, r.2.1, q.2.2 :: r.2.2))) := by
  subst hp
  rw [show 4097 - m = (4097 - (m + 1)) + 1 by omega]
  rfl
theorem qrLD_e (hm : m ≤ 4095) (hp : p1 = skipB f n p) (h1 : ¬ hereV f n p1 = 46) (h2 : ¬ hereV f n p1 = 91) : qrLD f n ok orL nw (4097 - m) p fl = some (p, fl, []) := (qrLD_u hm hp).trans (if_pos ⟨h1, h2⟩)
theorem qrLD_0 (hm : m ≤ 4095) (hp : p1 = skipB f n p) (h : hereV f n p1 = 46 ∨ hereV f n p1 = 91) (hs : segD f n ok orL nw p1 = none) : qrLD f n ok orL nw (4097 - m) p fl = none := (qrLD_u hm hp).trans ((if_neg (fun q => h.elim q.1 q.2)).trans (bd_none hs))
theorem qrLD_s (hm : m ≤ 4095) (hp : p1 = skipB f n p) (h : hereV f n p1 = 46 ∨ hereV f n p1 = 91) (hs : segD f n ok orL nw p1 = some (j, b, s)) : qrLD f n ok orL nw (4097 - m) p fl = (qrLD f n ok orL nw (4097 - (m + 1)) j (fl && b)).map (fun r => (r.1, r.2.1, s :: r.2.2)) := (qrLD_u hm hp).trans ((if_neg (fun q => h.elim q.1 q.2)).trans (bd_some hs))
theorem anyD_0 (h : ¬ begC (hereV f n i)) : anyD f n qyL i = none := by unfold anyD; rw [if_neg h]
theorem anyD_1 (h : begC (hereV f n i)) (hq : qyL i = none) : anyD f n qyL i = none := by unfold anyD; rw [if_pos h]; exact mp_none hq
theorem anyD_2 (h : begC (hereV f n i)) (hq : qyL i = some (j, b, s)) : anyD f n qyL i = some (j, s) := by unfold anyD; rw [if_pos h]; exact mp_some hq
-- what is written
theorem wrD_t (h : hereV f n i = 116) (hm : mtch f n i (ctx 11) 4) : wrD f n i = some (i + 4, (1, 0, [])) := by unfold wrD; rw [if_pos h, if_pos (mt_1 hm)]
theorem wrD_t0 (h : hereV f n i = 116) (hm : ¬ mtch f n i (ctx 11) 4) : wrD f n i = none := by unfold wrD; rw [if_pos h, if_neg (mt_0 hm)]
theorem wrD_f (h : hereV f n i = 102) (hm : mtch f n i (ctx 12) 5) : wrD f n i = some (i + 5, (2, 0, [])) := by unfold wrD; rw [if_neg (by rw [h]; decide), if_pos h, if_pos (mt_1 hm)]
theorem wrD_f0 (h : hereV f n i = 102) (hm : ¬ mtch f n i (ctx 12) 5) : wrD f n i = none := by unfold wrD; rw [if_neg (by rw [h]; decide), if_pos h, if_neg (mt_0 hm)]
theorem wrD_n (h : hereV f n i = 110) (hm : mtch f n i (ctx 13) 4) : wrD f n i = some (i + 4, (0, 0, [])) := by unfold wrD; rw [if_neg (by rw [h]; decide), if_neg (by rw [h]; decide), if_pos h, if_pos (mt_1 hm)]
theorem wrD_n0 (h : hereV f n i = 110) (hm : ¬ mtch f n i (ctx 13) 4) : wrD f n i = none := by unfold wrD; rw [if_neg (by rw [h]; decide), if_neg (by rw [h]; decide), if_pos h, if_neg (mt_0 hm)]
theorem wrD_q (h1 : ¬ hereV f n i = 116) (h2 : ¬ hereV f n i = 102) (h3 : ¬ hereV f n i = 110) (h : hereV f n i = 39 ∨ hereV f n i = 34) (hq : qtR f n i = some (j, L)) : wrD f n i = some (j + 1, (4, 0, L)) := by unfold wrD; rw [if_neg h1, if_neg h2, if_neg h3, if_pos h]; exact mp_some hq
theorem wrD_q0 (h1 : ¬ hereV f n i = 116) (h2 : ¬ hereV f n i = 102) (h3 : ¬ hereV f n i = 110) (h : hereV f n i = 39 ∨ hereV f n i = 34) (hq : qtR f n i = none) : wrD f n i = none := by unfold wrD; rw [if_neg h1, if_neg h2, if_neg h3, if_pos h]; exact mp_none hq
theorem wrD_i0 (h1 : ¬ hereV f n i = 116) (h2 : ¬ hereV f n i = 102) (h3 : ¬ hereV f n i = 110) (h : ¬ (hereV f n i = 39 ∨ hereV f n i = 34)) (hi : iCv f n i = none) : wrD f n i = none := by unfold wrD; rw [if_neg h1, if_neg h2, if_neg h3, if_neg h]; exact mp_none hi
theorem wrD_i (h1 : ¬ hereV f n i = 116) (h2 : ¬ hereV f n i = 102) (h3 : ¬ hereV f n i = 110) (h : ¬ (hereV f n i = 39 ∨ hereV f n i = 34)) (hi : iCv f n i = some (u, v)) : wrD f n i = some (u, (3, v, [])) := by unfold wrD; rw [if_neg h1, if_neg h2, if_neg h3, if_neg h]; exact mp_some hi
-- in brackets
section DBr
variable {α : Type} {inn : Nat → Option (Nat × α)} {a : α}
theorem brD_0 (h : ¬ (ok = true ∧ hereV f n j = 40)) : brD f n ok inn j = none := by unfold brD; rw [if_neg h]
theorem brD_b (h1 : ok = true) (h2 : hereV f n j = 40) (hp : p = skipB f n (j + 1)) : brD f n ok inn j = (inn p).bind (fun k => if hereV f n (skipB f n k.1) = 41 then some (skipB f n k.1 + 1, k.2) else none) := by subst hp; unfold brD; rw [if_pos ⟨h1, h2⟩]
theorem brD_1 (h1 : ok = true) (h2 : hereV f n j = 40) (hp : p = skipB f n (j + 1)) (h3 : inn p = none) : brD f n ok inn j = none := (brD_b h1 h2 hp).trans (bd_none h3)
theorem brD_2 (h1 : ok = true) (h2 : hereV f n j = 40) (hp : p = skipB f n (j + 1)) (h3 : inn p = some (k, a)) (hp2 : p2 = skipB f n k) (h4 : ¬ hereV f n p2 = 41) : brD f n ok inn j = none := by subst hp2; exact (brD_b h1 h2 hp).trans ((bd_some h3).trans (if_neg h4))
theorem brD_ok (h1 : ok = true) (h2 : hereV f n j = 40) (hp : p = skipB f n (j + 1)) (h3 : inn p = some (k, a)) (hp2 : p2 = skipB f n k) (h4 : hereV f n p2 = 41) : brD f n ok inn j = some (p2 + 1, a) := by subst hp2; exact (brD_b h1 h2 hp).trans ((bd_some h3).trans (if_pos h4))
theorem fnD_0 {t ln : Nat} (hm : ¬ mtch f n i (ctx t) ln) : fnD f n t ln ok inn i = none := by unfold fnD; rw [if_neg (mt_0 hm)]
theorem fnD_b {t ln : Nat} (hm : mtch f n i (ctx t) ln) : fnD f n t ln ok inn i = brD f n ok inn (i + ln) := by unfold fnD; rw [if_pos (mt_1 hm)]
end DBr
-- what may be compared
theorem opD_q (h : begC (hereV f n i)) : opD f n ok orL cmL qyL i = (qrD f n ok orL true i).map (fun p => (p.1, onlO p.2.2)) := by unfold opD; rw [if_pos h]
theorem opD_l (h : hereV f n i = 108) : opD f n ok orL cmL qyL i = (fnD f n 10 6 ok cmL i).map (fun p => (p.1, lenO p.2)) := by unfold opD; rw [if_neg (nb_c h (by decide) (by decide)), if_pos h]
theorem opD_c (h : hereV f n i = 99) : opD f n ok orL cmL qyL i = (fnD f n 8 5 ok (anyD f n qyL) i).map (fun p => (p.1, cntO p.2)) := by unfold opD; rw [if_neg (nb_c h (by decide) (by decide)), if_neg (by rw [h]; decide), if_pos h]
theorem opD_v (h : hereV f n i = 118) : opD f n ok orL cmL qyL i = (fnD f n 9 5 ok (anyD f n qyL) i).map (fun p => (p.1, onlO p.2)) := by unfold opD; rw [if_neg (nb_c h (by decide) (by decide)), if_neg (by rw [h]; decide), if_neg (by rw [h]; decide), if_pos h]
theorem opD_w (hb : ¬ begC (hereV f n i)) (h1 : ¬ hereV f n i = 108) (h2 : ¬ hereV f n i = 99) (h3 : ¬ hereV f n i = 118) : opD f n ok orL cmL qyL i = (wrD f n i).map (fun p => (p.1, litO p.2)) := by unfold opD; rw [if_neg hb, if_neg h1, if_neg h2, if_neg h3]
-- operator
theorem oprD_1 (h : hereV f n i = 60) (h1 : hereV f n (i + 1) = 61) : oprD f n i = some (i + 1 + 1, 3) := by unfold oprD; rw [if_pos h, if_pos h1]
theorem oprD_2 (h : hereV f n i = 60) (h1 : ¬ hereV f n (i + 1) = 61) : oprD f n i = some (i + 1, 2) := by unfold oprD; rw [if_pos h, if_neg h1]
theorem oprD_3 (h : hereV f n i = 62) (h1 : hereV f n (i + 1) = 61) : oprD f n i = some (i + 1 + 1, 5) := by unfold oprD; rw [if_neg (by rw [h]; decide), if_pos h, if_pos h1]
theorem oprD_4 (h : hereV f n i = 62) (h1 : ¬ hereV f n (i + 1) = 61) : oprD f n i = some (i + 1, 4) := by unfold oprD; rw [if_neg (by rw [h]; decide), if_pos h, if_neg h1]
theorem oprD_5 (h : hereV f n i = 33) (h1 : hereV f n (i + 1) = 61) : oprD f n i = some (i + 1 + 1, 1) := by unfold oprD; rw [if_neg (by rw [h]; decide), if_neg (by rw [h]; decide), if_pos h, if_pos h1]
theorem oprD_6 (h : hereV f n i = 33) (h1 : ¬ hereV f n (i + 1) = 61) : oprD f n i = none := by unfold oprD; rw [if_neg (by rw [h]; decide), if_neg (by rw [h]; decide), if_pos h, if_neg h1]
theorem oprD_7 (h1 : ¬ hereV f n i = 60) (h2 : ¬ hereV f n i = 62) (h3 : ¬ hereV f n i = 33) (h4 : ¬ hereV f n i = 61) : oprD f n i = none := by unfold oprD; rw [if_neg h1, if_neg h2, if_neg h3, if_neg h4]
theorem oprD_8 (h : hereV f n i = 61) (h1 : hereV f n (i + 1) = 61) : oprD f n i = some (i + 1 + 1, 0) := by unfold oprD; rw [if_neg (by rw [h]; decide), if_neg (by rw [h]; decide), if_neg (by rw [h]; decide), if_pos h, if_pos h1]
theorem oprD_9 (h : hereV f n i = 61) (h1 : ¬ hereV f n (i + 1) = 61) : oprD f n i = none := by unfold oprD; rw [if_neg (by rw [h]; decide), if_neg (by rw [h]; decide), if_neg (by rw [h]; decide), if_pos h, if_neg h1]
-- comparison
theorem cpD_0 (h : oprD f n i = none) : cpD f n op x i = none := by unfold cpD; exact bd_none h
theorem cpD_1 (h : oprD f n i = some (u, k)) (hp : p = skipB f n u) (ho : op p = none) : cpD f n op x i = none := by subst hp; unfold cpD; exact (bd_some h).trans (mp_none ho)
theorem cpD_ok (h : oprD f n i = some (u, k)) (hp : p = skipB f n u) (ho : op p = some (j, y)) : cpD f n op x i = some (j, cmpC k x y) := by subst hp; unfold cpD; exact (bd_some h).trans (mp_some ho)
-- group
theorem gpD_0 (h : ¬ (ok = true ∧ hereV f n i = 40)) : gpD f n ok orL i = none := by unfold gpD; rw [if_neg h]
theorem gpD_b (h1 : ok = true) (h2 : hereV f n i = 40) : gpD f n ok orL i = (orL (i + 1)).bind (fun j => if hereV f n j.1 = 41 then some (j.1 + 1, j.2) else none) := by unfold gpD; rw [if_pos ⟨h1, h2⟩]
theorem gpD_1 (h1 : ok = true) (h2 : hereV f n i = 40) (h3 : orL (i + 1) = none) : gpD f n ok orL i = none := (gpD_b h1 h2).trans (bd_none h3)
theorem gpD_2 (h1 : ok = true) (h2 : hereV f n i = 40) (h3 : orL (i + 1) = some (j, g)) (h4 : ¬ hereV f n j = 41) : gpD f n ok orL i = none := (gpD_b h1 h2).trans ((bd_some h3).trans (if_neg h4))
theorem gpD_ok (h1 : ok = true) (h2 : hereV f n i = 40) (h3 : orL (i + 1) = some (j, g)) (h4 : hereV f n j = 41) : gpD f n ok orL i = some (j + 1, g) := (gpD_b h1 h2).trans ((bd_some h3).trans (if_pos h4))
-- a test, or a comparison
theorem tcD_0 (h : qrD f n ok orL false i = none) : tcD f n ok orL op i = none := by unfold tcD; exact bd_none h
theorem tcD_b (h : qrD f n ok orL false i = some (p, b, s)) (hp : p1 = skipB f n p) : tcD f n ok orL op i = if opH (hereV f n p1) then (if b = false then none else cpD f n op (onlO s) p1) else some (p1, tstC s) := by subst hp; unfold tcD; exact bd_some h
theorem tcD_t (h : qrD f n ok orL false i = some (p, b, s)) (hp : p1 = skipB f n p) (ho : ¬ opH (hereV f n p1)) : tcD f n ok orL op i = some (p1, tstC s) := (tcD_b h hp).trans (if_neg ho)
theorem tcD_1 (h : qrD f n ok orL false i = some (p, b, s)) (hp : p1 = skipB f n p) (ho : opH (hereV f n p1)) (hb : b = false) : tcD f n ok orL op i = none := (tcD_b h hp).trans ((if_pos ho).trans (if_pos hb))
theorem tcD_2 (h : qrD f n ok orL false i = some (p, b, s)) (hp : p1 = skipB f n p) (ho : opH (hereV f n p1)) (hb : b = true) : tcD f n ok orL op i = cpD f n op (onlO s) p1 := (tcD_b h hp).trans ((if_pos ho).trans (if_neg (by rw [hb]; decide)))
-- negation
theorem ngD_g (hp : p1 = skipB f n (i + 1)) (h : hereV f n p1 = 40) : ngD f n ok orL i = (gpD f n ok orL p1).map (fun p => (p.1, notC p.2)) := by subst hp; unfold ngD; rw [if_pos h]
theorem ngD_0 (hp : p1 = skipB f n (i + 1)) (h : ¬ hereV f n p1 = 40) (ha : anyD f n (qrD f n ok orL false) p1 = none) : ngD f n ok orL i = none := by subst hp; unfold ngD; rw [if_neg h]; exact mp_none (mp_none ha)
theorem ngD_a (hp : p1 = skipB f n (i + 1)) (h : ¬ hereV f n p1 = 40) (ha : anyD f n (qrD f n ok orL false) p1 = some (j, s)) : ngD f n ok orL i = some (j, notC (tstC s)) := by subst hp; unfold ngD; rw [if_neg h]; exact mp_some (mp_some ha)
-- a simple condition
theorem baD_0 (hp : p = skipB f n i) (h : baD1 f n ok orL cmL qyL p = none) : baD f n ok orL cmL qyL i = none := by subst hp; unfold baD; exact mp_none h
theorem baD_1 (hp : p = skipB f n i) (h : baD1 f n ok orL cmL qyL p = some (p1, g)) (hp2 : p2 = skipB f n p1) : baD f n ok orL cmL qyL i = some (p2, g) := by subst hp; subst hp2; unfold baD; exact mp_some h
theorem baD1_n (h : hereV f n i = 33) : baD1 f n ok orL cmL qyL i = ngD f n ok orL i := by unfold baD1; rw [if_pos h]
theorem baD1_g (h : hereV f n i = 40) : baD1 f n ok orL cmL qyL i = gpD f n ok orL i := by unfold baD1; rw [if_neg (by rw [h]; decide), if_pos h]
theorem baD1_t (h1 : ¬ hereV f n i = 33) (h2 : ¬ hereV f n i = 40) (h : begC (hereV f n i)) : baD1 f n ok orL cmL qyL i = tcD f n ok orL (opD f n ok orL cmL qyL) i := by unfold baD1; rw [if_neg h1, if_neg h2, if_pos h]
theorem baD1_b (h1 : ¬ hereV f n i = 33) (h2 : ¬ hereV f n i = 40) (h : ¬ begC (hereV f n i)) : baD1 f n ok orL cmL qyL i = (opD f n ok orL cmL qyL i).bind (fun x => cpD f n (opD f n ok orL cmL qyL) x.2 (skipB f n x.1)) := by unfold baD1; rw [if_neg h1, if_neg h2, if_neg h]
theorem baD1_0 (h1 : ¬ hereV f n i = 33) (h2 : ¬ hereV f n i = 40) (h : ¬ begC (hereV f n i)) (h3 : opD f n ok orL cmL qyL i = none) : baD1 f n ok orL cmL qyL i = none := (baD1_b h1 h2 h).trans (bd_none h3)
theorem baD1_c (h1 : ¬ hereV f n i = 33) (h2 : ¬ hereV f n i = 40) (h : ¬ begC (hereV f n i)) (h3 : opD f n ok orL cmL qyL i = some (u, x)) (hp : p = skipB f n u) : baD1 f n ok orL cmL qyL i = cpD f n (opD f n ok orL cmL qyL) x p := by subst hp; exact (baD1_b h1 h2 h).trans (bd_some h3)
-- and, or
theorem liD_u (hm : m ≤ 4095) : liD f n one c (4098 - m) p = if hereV f n p = c then (if hereV f n (p + 1) = c then (one (p + 1 + 1)).bind (fun q => (liD f n one c (4098 - (m + 1)) q.1).map (fun r => (r.1, q.2 :: r.2))) else none) else some (p, []) := by
  rw [show 4098 - m = (4098 - (m + 1)) + 1 by omega]
  rfl
theorem liD_e (hm : m ≤ 4095) (h : ¬ hereV f n p = c) : liD f n one c (4098 - m) p = some (p, []) := (liD_u hm).trans (if_neg h)
theorem liD_0 (hm : m ≤ 4095) (h : hereV f n p = c) (h1 : ¬ hereV f n (p + 1) = c) : liD f n one c (4098 - m) p = none := (liD_u hm).trans ((if_pos h).trans (if_neg h1))
theorem liD_1 (hm : m ≤ 4095) (h : hereV f n p = c) (h1 : hereV f n (p + 1) = c) (h2 : one (p + 1 + 1) = none) : liD f n one c (4098 - m) p = none := (liD_u hm).trans ((if_pos h).trans ((if_pos h1).trans (bd_none h2)))
theorem liD_s (hm : m ≤ 4095) (h : hereV f n p = c) (h1 : hereV f n (p + 1) = c) (h2 : one (p + 1 + 1) = some (j, g)) : liD f n one c (4098 - m) p = (liD f n one c (4098 - (m + 1)) j).map (fun r => (r.1, g :: r.2)) := (liD_u hm).trans ((if_pos h).trans ((if_pos h1).trans (bd_some h2)))
theorem anD_0 (h : baD f n ok orL cmL qyL i = none) : anD f n ok orL cmL qyL i = none := by unfold anD; exact bd_none h
theorem anD_b (h : baD f n ok orL cmL qyL i = some (p, g)) : anD f n ok orL cmL qyL i = (liD f n (baD f n ok orL cmL qyL) 38 (4098 - 0) p).map (fun r => (r.1, allC (g :: r.2))) := by unfold anD; exact bd_some h
theorem orD_0 (h : anD f n ok orL cmL qyL i = none) : orD f n ok orL cmL qyL i = none := by unfold orD; exact bd_none h
theorem orD_b (h : anD f n ok orL cmL qyL i = some (p, g)) : orD f n ok orL cmL qyL i = (liD f n (anD f n ok orL cmL qyL) 124 (4098 - 0) p).map (fun r => (r.1, anyC_ (g :: r.2))) := by unfold orD; exact bd_some h
-- the whole
theorem jQD_0 (h : ¬ hereV f n 0 = 36) : jQD f n = none := by unfold jQD; rw [if_neg h]
theorem jQD_1 (h : hereV f n 0 = 36) (hq : (DDd f n 16).2.2 0 = none) : jQD f n = none := by unfold jQD; rw [if_pos h]; exact bd_none hq
theorem jQD_2 (h : hereV f n 0 = 36) (hq : (DDd f n 16).2.2 0 = some (p, b, s)) (hp : p < n) : jQD f n = none := by unfold jQD; rw [if_pos h]; exact (bd_some hq).trans (if_pos hp)
theorem jQD_ok (h : hereV f n 0 = 36) (hq : (DDd f n 16).2.2 0 = some (p, b, s)) (hp : ¬ p < n) : jQD f n = some (b, s) := by unfold jQD; rw [if_pos h]; exact (bd_some hq).trans (if_neg hp)
end DIntro
