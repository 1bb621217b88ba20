/-- a value of any depth -/
abbrev VU : Type := (r : Nat) × JVt r
def lfJ : (r : Nat) → JVt r → LF
  | 0, x => x
  | _ + 1, x => x.1
def ksJ : (r : Nat) → JVt r → List (List Int32 × VU)
  | 0, _ => []
  | r + 1, x => x.2.map (fun p => (p.1, (⟨r, p.2⟩ : VU)))
abbrev lfU (u : VU) : LF := lfJ u.1 u.2
abbrev ksU (u : VU) : List (List Int32 × VU) := ksJ u.1 u.2
/-- a node: the way to it, and what stands there -/
abbrev NT : Type := List Nat × VU
def kdsI (p : List Nat) : Nat → List (List Int32 × VU) → List (List Int32 × NT)
  | _, [] => []
  | i, c :: cs => (c.1, (p ++ [i], c.2)) :: kdsI p (i + 1) cs
/-- its members, with their names -/
def kdsN (nd : NT) : List (List Int32 × NT) := kdsI nd.1 0 (ksU nd.2)
abbrev kdN (nd : NT) : Nat := (lfU nd.2).1
/-- itself and all below it, each before its members -/
def preJ : (r : Nat) → List Nat → JVt r → List NT
  | 0, p, x => [(p, ⟨0, x⟩)]
  | r + 1, p, x => (p, ⟨r + 1, x⟩) :: (x.2.mapIdx (fun i c => preJ r (p ++ [i]) c.2)).flatten
def preN (nd : NT) : List NT := preJ nd.2.1 nd.1 nd.2.2
/-- one after the other: what comes out, and the work -/
def seqW {α β : Type} (g : α → List β × Nat) : List α → List β × Nat
  | [] => ([], 0)
  | a :: l => ((g a).1 ++ (seqW g l).1, (g a).2 + (seqW g l).2)
/-- the places of a slice, upwards and downwards -/
def upLs : Nat → Int → Int → Int → List Int
  | 0, _, _, _ => []
  | k + 1, i, to, st => if i < to then i :: upLs k (i + st) to st else []
def dnL : Nat → Int → Int → Int → List Int
  | 0, _, _, _ => []
  | k + 1, i, to, st => if to < i then i :: dnL k (i + st) to st else []
def frontI (n : Nat) (v : Int64) : Int := if v.toInt < 0 then (n : Int) + v.toInt else v.toInt
def slcI (n : Nat) (a b : Option Int64) (c : Int64) : List Int :=
  if c.toInt = 0 then []
  else if 0 < c.toInt then upLs (n + 1) (match a with
    | some v => if frontI n v < 0 then 0 else frontI n v
    | none => 0) (match b with
    | some v => if (n : Int) < frontI n v then n else frontI n v
    | none => n) c.toInt
  else dnL (n + 1) (match a with
    | some v => if (n : Int) - 1 < frontI n v then n - 1 else frontI n v
    | none => n - 1) (match b with
    | some v => if frontI n v < -1 then -1 else frontI n v
    | none => -1) c.toInt
/-- the value of what is compared, if there is one -/
abbrev VOp : Type := Option VU
def leafU (x : LF) : VU := ⟨0, x⟩
def numU (n : Nat) : VU := leafU (3, Int64.ofNat n, [])
/-- are two values the same -/
def sameJ : (r : Nat) → JVt r → VU → Bool
  | 0, x, v => decide (x.1 = (lfU v).1) && (if x.1 = 3 then decide (x.2.1 = (lfU v).2.1) else if x.1 = 4 then decide (x.2.2 = (lfU v).2.2) else if x.1 = 5 ∨ x.1 = 6 then (ksU v).isEmpty else true)
  | r + 1, x, v => decide (x.1.1 = (lfU v).1) && (if x.1.1 = 3 then decide (x.1.2.1 = (lfU v).2.1) else if x.1.1 = 4 then decide (x.1.2.2 = (lfU v).2.2)
    else if x.1.1 = 5 then decide (x.2.length = (ksU v).length) && (x.2.zip (ksU v)).all (fun p => sameJ r p.1.2 p.2.2)
    else if x.1.1 = 6 then decide (x.2.length = (ksU v).length) && x.2.all (fun c => match (ksU v).find? (fun d => decide (d.1 = c.1)) with
      | some d => sameJ r c.2 d.2
      | none => false) else true)
def sameU (u v : VU) : Bool := sameJ u.1 u.2 v
/-- the rank of a unit: pairs are above all single ones -/
def rkI (x : Int32) : Int32 := if hiU x ∨ loU x then x + 65536 else x
def ltT : List Int32 → List Int32 → Bool
  | _, [] => false
  | [], _ :: _ => true
  | a :: s, b :: t => if a = b then ltT s t else decide (rkI a < rkI b)
def lessU (u v : VU) : Bool := decide ((lfU u).1 = (lfU v).1) && (if (lfU u).1 = 3 then decide ((lfU u).2.1 < (lfU v).2.1) else if (lfU u).1 = 4 then ltT (lfU u).2.2 (lfU v).2.2 else false)
def sameO : VOp → VOp → Bool
  | some u, some v => sameU u v
  | none, none => true
  | _, _ => false
def lessO : VOp → VOp → Bool
  | some u, some v => lessU u v
  | _, _ => false
/-- a comparison: 0 the same, 1 not, 2 less, 3 less or the same, 4 more, 5 more or the same -/
def cmpO (op : Nat) (a b : VOp) : Bool :=
  if op = 0 then sameO a b else if op = 1 then !(sameO a b) else if op = 2 then lessO a b else if op = 3 then lessO a b || sameO a b else if op = 4 then lessO b a else lessO b a || sameO a b
def lenU (u : VU) : VOp := if (lfU u).1 = 4 then some (numU (((lfU u).2.2.filter (fun c => decide (¬ loU c))).length)) else if 5 ≤ (lfU u).1 then some (numU (ksU u).length) else none
/-- what a query, a segment, a selector says: of the root and a node, the nodes and the work -/
abbrev QT : Type := NT → NT → List NT × Nat
abbrev CT : Type := NT → NT → Bool × Nat
abbrev OT : Type := NT → NT → VOp × Nat
-- selectors
def namS (t : List Int32) : QT := fun _ nd => if kdN nd = 6 then (match (kdsN nd).find? (fun p => decide (p.1 = t)) with
  | some p => ([p.2], 1)
  | none => ([], 0)) else ([], 0)
def eachS : QT := fun _ nd => ((kdsN nd).map (·.2), (kdsN nd).length)
def idxS (v : Int64) : QT := fun _ nd => if kdN nd = 5 ∧ 0 ≤ frontI (kdsN nd).length v then (match (kdsN nd)[(frontI (kdsN nd).length v).toNat]? with
  | some p => ([p.2], 1)
  | none => ([], 0)) else ([], 0)
def slcS (a b : Option Int64) (c : Int64) : QT := fun _ nd => if kdN nd = 5 then (((slcI (kdsN nd).length a b c).filterMap (fun i => ((kdsN nd)[i.toNat]?).map (·.2))), (slcI (kdsN nd).length a b c).length) else ([], 0)
def filL (g : NT → Bool × Nat) : List (List Int32 × NT) → List NT × Nat
  | [] => ([], 0)
  | k :: ks => if (g k.2).1 = true then (k.2 :: (filL g ks).1, 1 + (g k.2).2 + 1 + (filL g ks).2) else ((filL g ks).1, 1 + (g k.2).2 + (filL g ks).2)
def filS (g : CT) : QT := fun rt nd => filL (g rt) (kdsN nd)
-- segments, queries
def chsS (l : List QT) : QT := fun rt nd => seqW (fun s : QT => s rt nd) l
def segS (ds : Bool) (l : List QT) : QT := fun rt nd => if ds = true then seqW (fun e => ((chsS l rt e).1, 1 + (chsS l rt e).2)) (preN nd) else chsS l rt nd
def qryL (rt : NT) : List QT → List NT → List NT × Nat
  | [], l => (l, 0)
  | g :: gs, l => ((qryL rt gs (seqW (g rt) l).1).1, (seqW (g rt) l).2 + (qryL rt gs (seqW (g rt) l).1).2)
def qryS (rooted : Bool) (gs : List QT) : QT := fun rt nd => ((qryL rt gs [if rooted = true then rt else nd]).1, 1 + (qryL rt gs [if rooted = true then rt else nd]).2)
-- what may be compared
def oneV (l : List NT) : VOp := match l with
  | [n] => some n.2
  | _ => none
def litO (x : LF) : OT := fun _ _ => (some (leafU x), 0)
def onlO (q : QT) : OT := fun rt nd => (oneV (q rt nd).1, (q rt nd).2)
def lenO (o : OT) : OT := fun rt nd => ((o rt nd).1.bind lenU, (o rt nd).2)
def cntO (q : QT) : OT := fun rt nd => (some (numU (q rt nd).1.length), (q rt nd).2)
-- conditions
def cmpC (op : Nat) (a b : OT) : CT := fun rt nd => (cmpO op (a rt nd).1 (b rt nd).1, (a rt nd).2 + (b rt nd).2)
def tstC (q : QT) : CT := fun rt nd => (!(q rt nd).1.isEmpty, (q rt nd).2)
def notC (g : CT) : CT := fun rt nd => (!(g rt nd).1, (g rt nd).2)
def allC : List CT → CT
  | [], _, _ => (true, 0)
  | g :: l, rt, nd => if (g rt nd).1 = true then ((allC l rt nd).1, (g rt nd).2 + (allC l rt nd).2) else (false, (g rt nd).2)
def anyC_ : List CT → CT
  | [], _, _ => (false, 0)
  | g :: l, rt, nd => if (g rt nd).1 = true then (true, (g rt nd).2) else ((anyC_ l rt nd).1, (g rt nd).2 + (anyC_ l rt nd).2)
theorem allC_1 (g : CT) : allC [g] = g := by
  funext rt nd
  show (if (g rt nd).1 = true then (true, (g rt nd).2 + 0) else (false, (g rt nd).2)) = g rt nd
  obtain ⟨b, w⟩ := g rt nd
  cases b <;> rfl
theorem anyC_1 (g : CT) : anyC_ [g] = g := by
  funext rt nd
  show (if (g rt nd).1 = true then (true, (g rt nd).2) else (false, (g rt nd).2 + 0)) = g rt nd
  obtain ⟨b, w⟩ := g rt nd
  cases b <;> rfl
/-- units that are read between quotes of either kind are such as may stand in a text -/
theorem escM_b {f : Nat → Int32} {n i : Nat} {q : Int32} (hq : q = 39 ∨ q = 34) (h : 0 ≤ (escM f n q i).1) : (escM f n q i).1 ≤ 65535 := by
  unfold escM at h ⊢
  by_cases h1 : hereV f n (i + 1) = q ∨ hereV f n (i + 1) = 92 ∨ hereV f n (i + 1) = 47
  · rw [if_pos h1] at h ⊢
    rcases h1 with e | e | e
    · rcases hq with z | z <;> rw [e, z] <;> dsimp only <;> decide
    · rw [e]; dsimp only; decide
    · rw [e]; dsimp only; decide
  · rw [if_neg h1] at h ⊢
    by_cases h2 : ¬ bfI (hereV f n (i + 1)) < 0
    · rw [if_pos h2] at h ⊢
      have hix : ∀ z : Int32, ixV z = 8 ∨ ixV z = 12 ∨ ixV z = 10 ∨ ixV z = 13 ∨ ixV z = 9 := by
        intro z
        unfold ixV
        repeat' split
        all_goals simp
      rcases hix (bfI (hereV f n (i + 1))) with e | e | e | e | e <;> simp only [e] <;> decide
    · rw [if_neg h2] at h ⊢
      by_cases h3 : hereV f n (i + 1) = 117
      · rw [if_pos h3] at h ⊢
        rcases hexM_r (f := f) (n := n) 4 (i + 2) 0 1 (by decide) with e | ⟨w, hw, e⟩
        · rw [show nI 0 = 0 from rfl] at e
          rw [e] at h
          exact absurd h (by decide)
        · rw [show nI 0 = 0 from rfl] at e
          rw [e]
          exact nI_le' (b := 65535) (by omega) (by decide)
      · rw [if_neg h3] at h
        exact absurd (show (0 : Int32) ≤ -1 from h) (by decide)
theorem qt_uok {f : Nat → Int32} {n : Nat} {q : Int32} (hq : q = 39 ∨ q = 34) : ∀ (k i j : Nat) (acc us : List Int32), qtM f n q k i acc = some (us, j) → ∃ vs, us = acc ++ vs ∧ uOK vs := by
  intro k
  induction k with
  | zero => intro i j acc us h; simp [qtM] at h
  | succ k ih =>
    intro i j acc us h
    simp only [qtM] at h
    by_cases c1 : hereV f n i = q
    · rw [if_pos c1] at h
      cases h
      exact ⟨[], by simp, trivial⟩
    rw [if_neg c1] at h
    by_cases c2 : hereV f n i < 32 ∨ ¬ hereV f n i ≤ 126
    · rw [if_pos c2] at h; cases h
    rw [if_neg c2] at h
    by_cases c3 : ¬ hereV f n i = 92
    · rw [if_pos c3] at h
      obtain ⟨vs, e1, e2⟩ := ih _ _ _ _ h
      have g0 : ¬ hereV f n i < 32 := fun q => c2 (Or.inl q)
      have g1 : hereV f n i ≤ 126 := Classical.byContradiction (fun q => c2 (Or.inr q))
      exact ⟨hereV f n i :: vs, by rw [e1]; simp, uOK_cons (Int32.le_trans (by decide) (Int32.not_lt.mp g0)) (Int32.le_trans g1 (by decide)) (fun q => absurd (Int32.le_trans q.1 g1) (by decide)) (fun q => absurd (Int32.le_trans q.1 g1) (by decide)) e2⟩
    rw [if_neg c3] at h
    by_cases c4 : ¬ 0 ≤ (escM f n q i).1
    · rw [if_pos c4] at h; cases h
    rw [if_neg c4] at h
    have c4 := Classical.not_not.mp c4
    have g1 := escM_b hq c4
    by_cases c5 : ¬ (escM f n q i).1 < 56320 ∧ ¬ 57343 < (escM f n q i).1
    · rw [if_pos c5] at h; cases h
    rw [if_neg c5] at h
    have hlo : ¬ loU (escM f n q i).1 := fun q => c5 ⟨Int32.not_lt.mpr q.1, Int32.not_lt.mpr q.2⟩
    by_cases c6 : (escM f n q i).1 < 55296 ∨ ¬ (escM f n q i).1 ≤ 56319
    · rw [if_pos c6] at h
      obtain ⟨vs, e1, e2⟩ := ih _ _ _ _ h
      exact ⟨(escM f n q i).1 :: vs, by rw [e1]; simp, uOK_cons c4 g1 hlo (fun q => c6.elim (fun z => absurd q.1 (Int32.not_le.mpr z)) (fun z => z q.2)) e2⟩
    rw [if_neg c6] at h
    have hhi : hiU (escM f n q i).1 := ⟨Int32.not_lt.mp (fun q => c6 (Or.inl q)), Classical.byContradiction (fun q => c6 (Or.inr q))⟩
    by_cases c7 : ¬ (escM f n q i).2 < n
    · rw [if_pos c7] at h; cases h
    rw [if_neg c7] at h
    by_cases c8 : ¬ hereV f n (escM f n q i).2 = 92
    · rw [if_pos c8] at h; cases h
    rw [if_neg c8] at h
    by_cases c9 : ¬ (escM f n q i).2 + 1 < n
    · rw [if_pos c9] at h; cases h
    rw [if_neg c9] at h
    by_cases c10 : ¬ f ((escM f n q i).2 + 1) = 117
    · rw [if_pos c10] at h; cases h
    rw [if_neg c10] at h
    by_cases c11 : ¬ 0 ≤ (escM f n q (escM f n q i).2).1
    · rw [if_pos c11] at h; cases h
    rw [if_neg c11] at h
    by_cases c12 : (escM f n q (escM f n q i).2).1 < 56320 ∨ ¬ (escM f n q (escM f n q i).2).1 ≤ 57343
    · rw [if_pos c12] at h; cases h
    rw [if_neg c12] at h
    have hlo2 : loU (escM f n q (escM f n q i).2).1 := ⟨Int32.not_lt.mp (fun q => c12 (Or.inl q)), Classical.byContradiction (fun q => c12 (Or.inr q))⟩
    obtain ⟨vs, e1, e2⟩ := ih _ _ _ _ h
    exact ⟨(escM f n q i).1 :: (escM f n q (escM f n q i).2).1 :: vs, by rw [e1]; simp, ⟨c4, g1, hlo, Or.inl ⟨hhi, hlo2, e2⟩⟩⟩
theorem qtQ_uok {f : Nat → Int32} {n i j : Nat} {q : Int32} {us : List Int32} (hq : q = 39 ∨ q = 34) (h : qtQ f n q i = some (us, j)) : uOK us ∧ us.map c16 = us := by
  unfold qtQ at h
  split at h
  · obtain ⟨vs, e1, e2⟩ := qt_uok hq _ _ _ _ _ h
    rw [List.nil_append] at e1
    subst e1
    exact ⟨e2, c16_map e2⟩
  · cases h
def bI (b : Bool) : Int32 := if b = true then 1 else 0
theorem bI_f {b : Bool} (h : bI b = 0) : b = false := by cases b; (· rfl); (· exact absurd h (by decide))
theorem bI_t {b : Bool} (h : ¬ bI b = 0) : b = true := by cases b; (· exact absurd rfl h); (· rfl)
theorem bI_01 {b : Bool} {r : Int32} (h : r = bI b) : (¬ r = 0 → b = true) ∧ (r = 0 → b = false) := ⟨fun q => bI_t (fun z => q (h.trans z)), fun q => bI_f (h.symm.trans q)⟩
theorem bI_or {b : Bool} : bI b = 0 ∨ bI b = 1 := by cases b; (· exact Or.inl rfl); (· exact Or.inr rfl)
