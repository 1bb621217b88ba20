/-- the list from i on holds these nodes -/
def LCn (PL : List NT) (AL : List Nat) (g : Nat → Option Nat) (i : Nat) (l : List NT) : Prop := ∀ (j : Nat) (nd : NT), l[j]? = some nd → ∃ b, g (i + j) = some b ∧ NCr PL AL b nd
/-- these nodes have been pushed, with this work -/
def PU (E : Nat → Nat) (PL : List NT) (AL : List Nat) (S : Nat → Nat) (R : List NT × Nat) (tp sp : Nat) (g : Nat → Option Nat) (ν : Nat → Int64) (tp' sp' : Nat) (g' : Nat → Option Nat) (ν' : Nat → Int64) : Prop := tp' = tp + R.1.length ∧ sp' = sp + R.2 ∧ WI E tp' sp' g' ∧ (∀ j, j < tp → g' j = g j) ∧ LCn PL AL g' tp R.1 ∧ NUg S ν ν'
section PUs
variable {E : Nat → Nat} {PL : List NT} {AL : List Nat} {S T : Nat → Nat} {R R1 R2 : List NT × Nat} {tp sp tp1 sp1 tp2 sp2 : Nat} {g g1 g2 : Nat → Option Nat} {ν ν1 ν2 : Nat → Int64}
theorem PU.rf (hW : WI E tp sp g) : PU E PL AL S ([], 0) tp sp g ν tp sp g ν := ⟨rfl, rfl, hW, fun _ _ => rfl, fun j nd h => by simp at h, NUg.rf⟩
theorem PU.tr (h1 : PU E PL AL S R1 tp sp g ν tp1 sp1 g1 ν1) (h2 : PU E PL AL S R2 tp1 sp1 g1 ν1 tp2 sp2 g2 ν2) : PU E PL AL S (catR R1 R2) tp sp g ν tp2 sp2 g2 ν2 := by
  obtain ⟨a1, a2, a3, a4, a5, a6⟩ := h1
  obtain ⟨b1, b2, b3, b4, b5, b6⟩ := h2
  refine ⟨?_, ?_, b3, fun j hj => ?_, fun j nd h => ?_, a6.tr b6⟩
  · show tp2 = tp + (R1.1 ++ R2.1).length
    rw [List.length_append]
    omega
  · show sp2 = sp + (R1.2 + R2.2)
    omega
  · rw [b4 j (by omega), a4 j hj]
  · have h : (R1.1 ++ R2.1)[j]? = some nd := h
    by_cases hj : j < R1.1.length
    · rw [List.getElem?_append_left hj] at h
      obtain ⟨b, q1, q2⟩ := a5 j nd h
      exact ⟨b, (b4 (tp + j) (by omega)).trans q1, q2⟩
    · rw [List.getElem?_append_right (by omega)] at h
      obtain ⟨b, q1, q2⟩ := b5 (j - R1.1.length) nd h
      refine ⟨b, ?_, q2⟩
      rw [show tp + j = tp1 + (j - R1.1.length) by omega]
      exact q1
theorem PU.le (h : PU E PL AL S R tp sp g ν tp1 sp1 g1 ν1) : tp ≤ tp1 ∧ sp ≤ sp1 := ⟨by have := h.1; omega, by have := h.2.1; omega⟩
theorem PU.wi (h : PU E PL AL S R tp sp g ν tp1 sp1 g1 ν1) : WI E tp1 sp1 g1 := h.2.2.1
theorem PU.spt (h : PU E PL AL S R tp sp g ν tp1 sp1 g1 ν1) : sp1 = sp + R.2 := h.2.1
theorem PU.nu (h : PU E PL AL S R tp sp g ν tp1 sp1 g1 ν1) : NUg S ν ν1 := h.2.2.2.2.2
/-- work without a node -/
theorem PU.work (h : PU E PL AL S R tp sp g ν tp1 sp1 g1 ν1) (hs : sp1 < 10000) : PU E PL AL S (catR R ([], 1)) tp sp g ν tp1 (sp1 + 1) g1 ν1 := by
  obtain ⟨a1, a2, a3, a4, a5, a6⟩ := h
  refine ⟨?_, ?_, a3.more hs, a4, fun j nd h => a5 j nd (by have h : (R.1 ++ [])[j]? = some nd := h; rw [List.append_nil] at h; exact h), a6⟩
  · show tp1 = tp + (R.1 ++ []).length
    rw [List.append_nil]
    exact a1
  · show sp1 + 1 = sp + (R.2 + 1)
    omega
/-- a condition's or a value's own work leaves the list's length -/
theorem PU.ask {w sp2 : Nat} (h : PU E PL AL S R tp sp g ν tp1 sp1 g1 ν1) (hs : sp2 = sp1 + w) (hW : WI E tp1 sp2 g2) (hg : ∀ j, j < tp1 → g2 j = g1 j) (hN : NUg S ν1 ν2) : PU E PL AL S (catR R ([], w)) tp sp g ν tp1 sp2 g2 ν2 := by
  obtain ⟨a1, a2, a3, a4, a5, a6⟩ := h
  refine ⟨?_, ?_, hW, fun j hj => (hg j (by omega)).trans (a4 j hj), fun j nd h => ?_, a6.tr hN⟩
  · show tp1 = tp + (R.1 ++ []).length
    rw [List.append_nil]
    exact a1
  · show sp2 = sp + (R.2 + w)
    omega
  · have h : (R.1 ++ [])[j]? = some nd := h
    rw [List.append_nil] at h
    have hl := (List.getElem?_eq_some_iff.mp h).1
    obtain ⟨b, q1, q2⟩ := a5 j nd h
    exact ⟨b, (hg (tp + j) (by omega)).trans q1, q2⟩
theorem PU.push {b : Nat} {nd : NT} (hW : WI E tp sp g) (hs : sp < 10000) (hb : isF E b) (hn : NCr PL AL b nd) : PU E PL AL S ([nd], 1) tp sp g ν (tp + 1) (sp + 1) (va_up g tp (some b)) ν := by
  refine ⟨rfl, rfl, hW.up hs hb, fun j hj => va_up_ne _ _ (by omega), fun j nd' h => ?_, NUg.rf⟩
  have hj := (List.getElem?_eq_some_iff.mp h).1
  obtain rfl : j = 0 := by simpa using hj
  obtain rfl : nd = nd' := Option.some.inj h
  exact ⟨b, va_up_self _ _ _, hn⟩
/-- what changes less changes no more -/
theorem PU.up (h : PU E PL AL S R tp sp g ν tp1 sp1 g1 ν1) (hs : SUB S T) : PU E PL AL T R tp sp g ν tp1 sp1 g1 ν1 := ⟨h.1, h.2.1, h.2.2.1, h.2.2.2.1, h.2.2.2.2.1, h.2.2.2.2.2.up hs⟩
end PUs
/-- what is still to come -/
theorem seqV_drop {α β : Type} {s : α → List β × Nat} {l : List α} {i : Nat} {a : α} (h : l[i]? = some a) : seqW s (l.drop i) = ((s a).1 ++ (seqW s (l.drop (i + 1))).1, (s a).2 + (seqW s (l.drop (i + 1))).2) := by
  have hi := (List.getElem?_eq_some_iff.mp h).1
  have he := (List.getElem?_eq_some_iff.mp h).2
  rw [List.drop_eq_getElem_cons hi, he]
  rfl
theorem seqV_end {α β : Type} {s : α → List β × Nat} {l : List α} {i : Nat} (h : l.length ≤ i) : seqW s (l.drop i) = ([], 0) := by
  rw [List.drop_eq_nil_of_le h]
  rfl
theorem filL_drop {s : NT → Bool × Nat} {l : List (List Int32 × NT)} {i : Nat} {a : List Int32 × NT} (h : l[i]? = some a) : filL s (l.drop i) = catR ([], 1) (catR ([], (s a.2).2) (catR (if (s a.2).1 = true then ([a.2], 1) else ([], 0)) (filL s (l.drop (i + 1))))) := by
  have hi := (List.getElem?_eq_some_iff.mp h).1
  have he := (List.getElem?_eq_some_iff.mp h).2
  rw [List.drop_eq_getElem_cons hi, he]
  simp only [filL, catR]
  split
  · refine Prod.ext rfl ?_
    show 1 + (s a.2).2 + 1 + _ = 1 + ((s a.2).2 + (1 + _))
    omega
  · refine Prod.ext rfl ?_
    show 1 + (s a.2).2 + _ = 1 + ((s a.2).2 + (0 + _))
    omega
theorem filL_end {s : NT → Bool × Nat} {l : List (List Int32 × NT)} {i : Nat} (h : l.length ≤ i) : filL s (l.drop i) = ([], 0) := by
  rw [List.drop_eq_nil_of_le h]
  rfl
theorem NCr.ax {E : Nat → Nat} {f : Nat → va_E} {PL : List NT} {AL : List Nat} (h : DOC E f PL AL) {a : Nat} {nd : NT} (hn : NCr PL AL a nd) : isF E a ∧ CU f a nd.2 := by
  obtain ⟨k, h1, h2⟩ := hn
  obtain ⟨a1, a2, -⟩ := h.2 k nd a h1 h2
  exact ⟨a1, a2⟩
/-- a member's object is its node's -/
theorem NCr.kid {E : Nat → Nat} {f : Nat → va_E} {PL : List NT} {AL : List Nat} (h : DOC E f PL AL) {a b i : Nat} {nd : NT} {c : List Int32 × NT} (hn : NCr PL AL a nd) (hc : (kdsN nd)[i]? = some c) (hb : memF f a i = some b) : NCr PL AL b c.2 := by
  obtain ⟨k, h1, h2⟩ := hn
  obtain ⟨-, -, a3, -⟩ := h.2 k nd a h1 h2
  obtain ⟨b', q1, q2⟩ := a3 i c hc
  obtain rfl : b' = b := Option.some.inj (q1.symm.trans hb)
  exact q2
theorem namS_1 {t : List Int32} {rt nd : NT} {i : Nat} {c : List Int32 × VU} (hk : (lfU nd.2).1 = 6) (h : (ksU nd.2)[i]? = some c) (hc : c.1 = t) (hb : ∀ j d, j < i → (ksU nd.2)[j]? = some d → ¬ d.1 = t) : namS t rt nd = ([(nd.1 ++ [i], c.2)], 1) := by
  have h1 := find_at (t := t) (kdsN nd) i _ (kdsN_get h) hc (fun j d hj hd => by
    obtain ⟨e, e1, e2⟩ := kds_ks hd
    rw [e2]
    exact hb j e hj e1)
  unfold namS
  rw [if_pos hk, h1]
theorem namS_0 {t : List Int32} {rt nd : NT} (h : (lfU nd.2).1 = 6 → ∀ (j : Nat) (d : List Int32 × VU), (ksU nd.2)[j]? = some d → ¬ d.1 = t) : namS t rt nd = ([], 0) := by
  unfold namS
  by_cases hk : kdN nd = 6
  · rw [if_pos hk, find_no (t := t) (kdsN nd) (fun j d hd => by
      obtain ⟨e, e1, e2⟩ := kds_ks hd
      rw [e2]
      exact h hk j e e1)]
  · rw [if_neg hk]
theorem eachS_drop {nd : NT} {i : Nat} {c : List Int32 × NT} (h : (kdsN nd)[i]? = some c) : (((kdsN nd).drop i).map (·.2), (kdsN nd).length - i) = catR ([c.2], 1) (((kdsN nd).drop (i + 1)).map (·.2), (kdsN nd).length - (i + 1)) := by
  have hi := (List.getElem?_eq_some_iff.mp h).1
  have he := (List.getElem?_eq_some_iff.mp h).2
  rw [List.drop_eq_getElem_cons hi, he]
  refine Prod.ext rfl ?_
  show (kdsN nd).length - i = 1 + ((kdsN nd).length - (i + 1))
  omega
theorem fr_p {v : Int64} {n : Nat} (h : 0 ≤ lg_cmp v 0) : frontI n v = v.toInt := by
  have h1 := Int64.le_iff_toInt_le.mp ((lg_cmp_ge _ _).mp h)
  rw [show (0 : Int64).toInt = 0 from rfl] at h1
  unfold frontI
  rw [if_neg (by omega)]
theorem fr_m {v : Int64} {n : Nat} (hn : n ≤ 4096) (h : ¬ 0 ≤ lg_cmp v 0) : frontI n v = (v + (nI n).toInt64).toInt := by
  have h1 := Int64.lt_iff_toInt_lt.mp (Int64.not_le.mp (fun q => h ((lg_cmp_ge _ _).mpr q)))
  rw [show (0 : Int64).toInt = 0 from rfl] at h1
  have h2 : (-9223372036854775808 : Int) ≤ v.toInt := v.le_toInt
  have h3 := Int64.toInt_lt v
  unfold frontI
  rw [if_pos h1, Int64.toInt_add, i64_nI hn]
  symm
  rw [Int.add_comm]
  apply Int.bmod_eq_of_le <;> omega
/-- within bounds -/
def clI (lo hi x : Int) : Int := if (if x < hi then x else hi) < lo then lo else (if x < hi then x else hi)
theorem cut_eq {a b x m r : Int64} (em : m = if x < b then x else b) (er : r = if m < a then a else m) : r.toInt = clI a.toInt b.toInt x.toInt := by
  have hm : m.toInt = if x.toInt < b.toInt then x.toInt else b.toInt := by
    rw [em]
    by_cases h : x < b
    · rw [if_pos h, if_pos (Int64.lt_iff_toInt_lt.mp h)]
    · rw [if_neg h, if_neg (fun q => h (Int64.lt_iff_toInt_lt.mpr q))]
  unfold clI
  rw [← hm, er]
  by_cases h : m < a
  · rw [if_pos h, if_pos (Int64.lt_iff_toInt_lt.mp h)]
  · rw [if_neg h, if_neg (fun q => h (Int64.lt_iff_toInt_lt.mpr q))]
theorem upL_g {k n : Nat} {F T A B st : Int} (hB : B ≤ n) (hA : 0 ≤ A) (hF : F = A ∨ ((n : Int) < A ∧ F = n)) (hT : T = B ∨ (B < 0 ∧ T = 0)) : upLs k F T st = upLs k A B st := by
  rcases hF with rfl | ⟨h1, rfl⟩
  · rcases hT with rfl | ⟨h2, rfl⟩
    · rfl
    · rw [upL_nil (by omega), upL_nil (by omega)]
  · rcases hT with rfl | ⟨h2, rfl⟩
    · rw [upL_nil (by omega), upL_nil (by omega)]
    · rw [upL_nil (by omega), upL_nil (by omega)]
theorem dnL_g {k n : Nat} {F T A B st : Int} (hB : -1 ≤ B) (hA : A ≤ (n : Int) - 1) (hF : F = A ∨ (A < -1 ∧ F = -1)) (hT : T = B ∨ ((n : Int) - 1 < B ∧ T = (n : Int) - 1)) : dnL k F T st = dnL k A B st := by
  rcases hF with rfl | ⟨h1, rfl⟩
  · rcases hT with rfl | ⟨h2, rfl⟩
    · rfl
    · rw [dnL_nil (by omega), dnL_nil (by omega)]
  · rcases hT with rfl | ⟨h2, rfl⟩
    · rw [dnL_nil (by omega), dnL_nil (by omega)]
    · rw [dnL_nil (by omega), dnL_nil (by omega)]
theorem slcS_up {hs ht : Int32} {st sp c : Int64} {rt nd : NT} {F T : Int} (hk : kdN nd = 5) (hc : 0 < c.toInt) (hF : (hs = 0 ∧ F = 0) ∨ (¬ hs = 0 ∧ F = clI 0 (kdsN nd).length (frontI (kdsN nd).length st))) (hT : (ht = 0 ∧ T = (kdsN nd).length) ∨ (¬ ht = 0 ∧ T = clI 0 (kdsN nd).length (frontI (kdsN nd).length sp))) : slcS (if hs = 0 then none else some st) (if ht = 0 then none else some sp) c rt nd = atsR nd (upLs ((kdsN nd).length + 1) F T c.toInt) := by
  unfold slcS
  rw [if_pos hk]
  have e : slcI (kdsN nd).length (if hs = 0 then none else some st) (if ht = 0 then none else some sp) c = upLs ((kdsN nd).length + 1) F T c.toInt := by
    unfold slcI
    rw [if_neg (by omega), if_pos hc]
    symm
    rcases hF with ⟨h1, rfl⟩ | ⟨h1, rfl⟩ <;> rcases hT with ⟨h2, rfl⟩ | ⟨h2, rfl⟩
    · rw [if_pos h1, if_pos h2]
    · rw [if_pos h1, if_neg h2]
      refine upL_g (n := (kdsN nd).length) ?_ ?_ (Or.inl rfl) ?_ <;> (try unfold clI) <;> (try dsimp only) <;> (repeat' split) <;> omega
    · rw [if_neg h1, if_pos h2]
      refine upL_g (n := (kdsN nd).length) ?_ ?_ ?_ (Or.inl rfl) <;> (try unfold clI) <;> (try dsimp only) <;> (repeat' split) <;> omega
    · rw [if_neg h1, if_neg h2]
      refine upL_g (n := (kdsN nd).length) ?_ ?_ ?_ ?_ <;> (try unfold clI) <;> (try dsimp only) <;> (repeat' split) <;> omega
  rw [e]
  rfl
theorem slcS_dn {hs ht : Int32} {st sp c : Int64} {rt nd : NT} {F T : Int} (hk : kdN nd = 5) (hc : c.toInt < 0) (hF : (hs = 0 ∧ F = (kdsN nd).length - 1) ∨ (¬ hs = 0 ∧ F = clI (-1) ((kdsN nd).length - 1) (frontI (kdsN nd).length st))) (hT : (ht = 0 ∧ T = -1) ∨ (¬ ht = 0 ∧ T = clI (-1) ((kdsN nd).length - 1) (frontI (kdsN nd).length sp))) : slcS (if hs = 0 then none else some st) (if ht = 0 then none else some sp) c rt nd = atsR nd (dnL ((kdsN nd).length + 1) F T c.toInt) := by
  unfold slcS
  rw [if_pos hk]
  have e : slcI (kdsN nd).length (if hs = 0 then none else some st) (if ht = 0 then none else some sp) c = dnL ((kdsN nd).length + 1) F T c.toInt := by
    unfold slcI
    rw [if_neg (by omega), if_neg (by omega)]
    symm
    rcases hF with ⟨h1, rfl⟩ | ⟨h1, rfl⟩ <;> rcases hT with ⟨h2, rfl⟩ | ⟨h2, rfl⟩
    · rw [if_pos h1, if_pos h2]
    · rw [if_pos h1, if_neg h2]
      refine dnL_g (n := (kdsN nd).length) ?_ ?_ (Or.inl rfl) ?_ <;> (try unfold clI) <;> (try dsimp only) <;> (repeat' split) <;> omega
    · rw [if_neg h1, if_pos h2]
      refine dnL_g (n := (kdsN nd).length) ?_ ?_ ?_ (Or.inl rfl) <;> (try unfold clI) <;> (try dsimp only) <;> (repeat' split) <;> omega
    · rw [if_neg h1, if_neg h2]
      refine dnL_g (n := (kdsN nd).length) ?_ ?_ ?_ ?_ <;> (try unfold clI) <;> (try dsimp only) <;> (repeat' split) <;> omega
  rw [e]
  rfl
theorem clI_lo {lo hi x : Int} : lo ≤ clI lo hi x := by unfold clI; (repeat' split) <;> omega
theorem clI_hi {lo hi x : Int} (h : lo ≤ hi) : clI lo hi x ≤ hi := by unfold clI; (repeat' split) <;> omega
theorem lg_cmp_0 {x : Int64} (h : x.toInt = 0) : lg_cmp x 0 = 0 := by
  have e : x = 0 := Int64.toInt_inj.mp h
  rw [e]
  decide
theorem lg_cmp_z {x : Int64} (h : ¬ ¬ lg_cmp x 0 = 0) : x.toInt = 0 := by
  have h := Classical.not_not.mp h
  have h1 : x ≤ 0 := (lg_cmp_le _ _).mp (by rw [h]; decide)
  have h2 : 0 ≤ x := (lg_cmp_ge _ _).mp (by rw [h]; decide)
  have h1 := Int64.le_iff_toInt_le.mp h1
  have h2 := Int64.le_iff_toInt_le.mp h2
  rw [show (0 : Int64).toInt = 0 from rfl] at h1 h2
  omega
theorem lE_ij {kd kd' : Int32} {nm nm' : Option Nat} {hs hs' ht ht' : Int32} {st st' sp sp' se se' : Int64} {fl fl' nx nx' : Option Nat} (h : lE kd nm hs ht st sp se fl nx = lE kd' nm' hs' ht' st' sp' se' fl' nx') : kd = kd' ∧ nm = nm' ∧ hs = hs' ∧ ht = ht' ∧ st = st' ∧ sp = sp' ∧ se = se' ∧ fl = fl' ∧ nx = nx' := by
  have h1 := congrArg Prod.snd (Sum.inr.inj h)
  have h1 : ([.int kd, va_rf nm, .int hs, .int ht, .long st, .long sp, .long se, va_rf fl, va_rf nx] : List Value) = [.int kd', va_rf nm', .int hs', .int ht', .long st', .long sp', .long se', va_rf fl', va_rf nx'] := h1
  simp only [List.cons.injEq, Value.int.injEq, Value.long.injEq, and_true] at h1
  obtain ⟨e1, e2, e3, e4, e5, e6, e7, e8, e9⟩ := h1
  exact ⟨e1, rf_inj e2, e3, e4, e5, e6, e7, rf_inj e8, rf_inj e9⟩
theorem oE_inj {kd kd' : Int32} {va va' qu qu' inn inn' : Option Nat} (h : oE kd va qu inn = oE kd' va' qu' inn') : kd = kd' ∧ va = va' ∧ qu = qu' ∧ inn = inn' := by
  have h1 := congrArg Prod.snd (Sum.inr.inj h)
  have h1 : ([.int kd, va_rf va, va_rf qu, va_rf inn] : List Value) = [.int kd', va_rf va', va_rf qu', va_rf inn'] := h1
  simp only [List.cons.injEq, Value.int.injEq, and_true] at h1
  obtain ⟨e1, e2, e3, e4⟩ := h1
  exact ⟨e1, rf_inj e2, rf_inj e3, rf_inj e4⟩
theorem qE_inj {fr fr' sg sg' : Int32} {fi fi' la la' : Option Nat} (h : qE fr sg fi la = qE fr' sg' fi' la') : fr = fr' ∧ sg = sg' ∧ fi = fi' ∧ la = la' := by
  have h1 := congrArg Prod.snd (Sum.inr.inj h)
  have h1 : ([.int fr, .int sg, va_rf fi, va_rf la] : List Value) = [.int fr', .int sg', va_rf fi', va_rf la'] := h1
  simp only [List.cons.injEq, Value.int.injEq, and_true] at h1
  obtain ⟨e1, e2, e3, e4⟩ := h1
  exact ⟨e1, e2, rf_inj e3, rf_inj e4⟩
section Tell
variable {F : Nat → va_E} {S : Nat → Nat} {a : Nat}
/-- what a selector says, by its kind -/
theorem LD.ax {m : QT} {kd : Int32} {nm : Option Nat} {hs ht : Int32} {st sp se : Int64} {fl nx : Option Nat} (h : LD F S a m) (e : F a = lE kd nm hs ht st sp se fl nx) : (kd = 0 → ∃ b, nm = some b ∧ S b = 3 ∧ m = namS (txL F b)) ∧ (kd = 1 → m = eachS) ∧ (kd = 2 → m = idxS st) ∧ (kd = 3 → m = slcS (if hs = 0 then none else some st) (if ht = 0 then none else some sp) se) ∧ (¬ kd = 0 → ¬ kd = 1 → ¬ kd = 2 → ¬ kd = 3 → ∃ b g, fl = some b ∧ S b = 3 ∧ KD F S b g ∧ m = filS g) := by
  obtain ⟨kd', nm', hs', ht', st', sp', se', fl', nx', e', hx⟩ := LD_out h
  obtain ⟨rfl, rfl, rfl, rfl, rfl, rfl, rfl, rfl, rfl⟩ := lE_ij (e.symm.trans e')
  rcases hx with ⟨h1, hx⟩ | ⟨h1, hx⟩ | ⟨h1, hx⟩ | ⟨h1, hx⟩ | ⟨h1, hx⟩ <;> subst h1
  · exact ⟨fun _ => hx, fun q => absurd q (by decide), fun q => absurd q (by decide), fun q => absurd q (by decide), fun q => absurd rfl q⟩
  · exact ⟨fun q => absurd q (by decide), fun _ => hx, fun q => absurd q (by decide), fun q => absurd q (by decide), fun _ q => absurd rfl q⟩
  · exact ⟨fun q => absurd q (by decide), fun q => absurd q (by decide), fun _ => hx, fun q => absurd q (by decide), fun _ _ q => absurd rfl q⟩
  · exact ⟨fun q => absurd q (by decide), fun q => absurd q (by decide), fun q => absurd q (by decide), fun _ => hx, fun _ _ _ q => absurd rfl q⟩
  · exact ⟨fun q => absurd q (by decide), fun q => absurd q (by decide), fun q => absurd q (by decide), fun q => absurd q (by decide), fun _ _ _ _ => hx⟩
theorem KD.ax {m : CT} {kd : Int32} {fi nx qu le ri : Option Nat} (h : KD F S a m) (e : F a = kE kd fi nx qu le ri) : (kd = 0 → ∃ l, CHD KD 2 F S fi l ∧ m = anyC_ l) ∧ (kd = 1 → ∃ l, CHD KD 2 F S fi l ∧ m = allC l) ∧ (kd = 2 → ∃ b g, fi = some b ∧ S b = 3 ∧ KD F S b g ∧ m = notC g) ∧ (kd = 3 → ∃ q s, qu = some q ∧ S q = 3 ∧ QD F S q s ∧ m = tstC s) ∧ (¬ kd = 0 → ¬ kd = 1 → ¬ kd = 2 → ¬ kd = 3 → ∃ op x y b c Sl Sr, op ≤ 5 ∧ kd = nI (4 + op) ∧ le = some b ∧ ri = some c ∧ S b = 3 ∧ S c = 3 ∧ SUB Sl S ∧ SUB Sr S ∧ DIS Sl Sr ∧ OD F Sl b x ∧ OD F Sr c y ∧ m = cmpC op x y) := by
  obtain ⟨kd', fi', nx', qu', le', ri', e', hx⟩ := KD_out h
  obtain ⟨rfl, rfl, rfl, rfl, rfl, rfl⟩ := kE_inj (e.symm.trans e')
  rcases hx with ⟨h1, hx⟩ | ⟨h1, hx⟩ | ⟨h1, hx⟩ | ⟨h1, hx⟩ | hx
  · subst h1; exact ⟨fun _ => hx, fun q => absurd q (by decide), fun q => absurd q (by decide), fun q => absurd q (by decide), fun q => absurd rfl q⟩
  · subst h1; exact ⟨fun q => absurd q (by decide), fun _ => hx, fun q => absurd q (by decide), fun q => absurd q (by decide), fun _ q => absurd rfl q⟩
  · subst h1; exact ⟨fun q => absurd q (by decide), fun q => absurd q (by decide), fun _ => hx, fun q => absurd q (by decide), fun _ _ q => absurd rfl q⟩
  · subst h1; exact ⟨fun q => absurd q (by decide), fun q => absurd q (by decide), fun q => absurd q (by decide), fun _ => hx, fun _ _ _ q => absurd rfl q⟩
  · obtain ⟨op, x, y, b, c, Sl, Sr, h1, h2, hr⟩ := hx
    have hn : ∀ k : Nat, k < 4 → ¬ kd = nI k := fun k hk q => by
      have e9 := congrArg Int32.toNatClampNeg (h2.symm.trans q)
      rw [nI_clamp (by omega), nI_clamp (by omega)] at e9
      omega
    exact ⟨fun q => absurd q (hn 0 (by decide)), fun q => absurd q (hn 1 (by decide)), fun q => absurd q (hn 2 (by decide)), fun q => absurd q (hn 3 (by decide)), fun _ _ _ _ => ⟨op, x, y, b, c, Sl, Sr, h1, h2, hr⟩⟩
theorem OD.ax {m : OT} {kd : Int32} {va qu inn : Option Nat} (h : OD F S a m) (e : F a = oE kd va qu inn) : (kd = 1 → ∃ q s, qu = some q ∧ S q = 3 ∧ QD F S q s ∧ m = onlO s) ∧ (kd = 2 → ∃ b q s, va = some b ∧ S b = 1 ∧ NV F b ∧ qu = some q ∧ S q = 3 ∧ QD F S q s ∧ m = cntO s) ∧ (kd = 3 → ∃ b o x, va = some b ∧ S b = 1 ∧ NV F b ∧ inn = some o ∧ S o = 3 ∧ OD F S o x ∧ m = lenO x) ∧ (¬ kd = 1 → ¬ kd = 2 → ¬ kd = 3 → ∃ b x, va = some b ∧ S b = 2 ∧ CL F b x ∧ x.1 < 5 ∧ refE 3 (F b) = none ∧ (∀ q, x.1 = 4 → refE 2 (F b) = some q → S q = 3) ∧ m = litO x) := by
  obtain ⟨kd', va', qu', inn', e', hx⟩ := OD_out h
  obtain ⟨rfl, rfl, rfl, rfl⟩ := oE_inj (e.symm.trans e')
  rcases hx with ⟨h1, hx⟩ | ⟨h1, hx⟩ | ⟨h1, hx⟩ | ⟨h1, hx⟩ <;> subst h1
  · exact ⟨fun q => absurd q (by decide), fun q => absurd q (by decide), fun q => absurd q (by decide), fun _ _ _ => hx⟩
  · exact ⟨fun _ => hx, fun q => absurd q (by decide), fun q => absurd q (by decide), fun q => absurd rfl q⟩
  · exact ⟨fun q => absurd q (by decide), fun _ => hx, fun q => absurd q (by decide), fun _ q => absurd rfl q⟩
  · exact ⟨fun q => absurd q (by decide), fun q => absurd q (by decide), fun _ => hx, fun _ _ q => absurd rfl q⟩
theorem GD.ax {m : QT} {ds : Int32} {fi nx : Option Nat} (h : GD F S a m) (e : F a = gE ds fi nx) : ∃ l, CHD LD 8 F S fi l ∧ m = segS (decide (¬ ds = 0)) l := by
  obtain ⟨ds', fi', nx', l, e', h1, h2⟩ := GD_out h
  obtain ⟨rfl, rfl, rfl⟩ := gE_inj (e.symm.trans e')
  exact ⟨l, h1, h2⟩
theorem QD.ax {m : QT} {fr sg : Int32} {fi la : Option Nat} (h : QD F S a m) (e : F a = qE fr sg fi la) : ∃ l, CHD GD 2 F S fi l ∧ m = qryS (decide (¬ fr = 0)) l := by
  obtain ⟨fr', sg', fi', la', l, e', h1, h2⟩ := QD_out h
  obtain ⟨rfl, rfl, rfl, rfl⟩ := qE_inj (e.symm.trans e')
  exact ⟨l, h1, h2⟩
theorem CHE.no {M : Type} {R : RT M} {k : Nat} {l : List M} (h : CHE R k F S none none l) : l = [] := by
  cases l with
  | nil => rfl
  | cons m l => obtain ⟨b, h1, -⟩ := h; cases h1
theorem CHE.so {M : Type} {R : RT M} {k : Nat} {l : List M} (h : CHE R k F S none (some a) l) : ∃ m l', l = m :: l' ∧ S a = 3 ∧ R F S a m ∧ CHE R k F S none (refE k (F a)) l' := by
  cases l with
  | nil => cases h
  | cons m l =>
    obtain ⟨b, h1, h2, h3, h4⟩ := h
    obtain rfl := Option.some.inj h1
    exact ⟨m, l, rfl, h2, h3, h4⟩
end Tell
/-- an object of a query is not changed by new numbers -/
theorem PO.pfq {cI cV : ClassId} {E lv : Nat → Nat} {L : List Nat} {f : Nat → va_E} (hO : PO cI cV E lv L f) {ν ν' : Nat → Int64} {a : Nat} (h : E a = 7 ∨ E a = 8 ∨ E a = 9 ∨ E a = 10 ∨ E a = 11) : pf f ν' a = pf f ν a := by
  rcases h with h | h | h | h | h
  · obtain ⟨a1, a2, a3, a4, e, -⟩ := hO.qry h; rw [pf_Q e, pf_Q e]
  · obtain ⟨a1, a2, a3, e, -⟩ := hO.seg h; rw [pf_G e, pf_G e]
  · obtain ⟨a1, a2, a3, a4, a5, a6, a7, a8, a9, e, -⟩ := hO.sel h; rw [pf_L e, pf_L e]
  · obtain ⟨a1, a2, a3, a4, a5, a6, e, -⟩ := hO.con h; rw [pf_K e, pf_K e]
  · obtain ⟨a1, a2, a3, a4, e, -⟩ := hO.opd h; rw [pf_O e, pf_O e]
section NewNumbers
variable {cI cV : ClassId} {E lv : Nat → Nat} {L : List Nat} {f : Nat → va_E} {S T : Nat → Nat} {ν ν' : Nat → Int64} {a : Nat}
theorem KD.nu (hO : PO cI cV E lv L f) (ha : E a = 10) {m : CT} (h : KD (pf f ν) S a m) (hn : NUg T ν ν') (hs : SUB S T) : KD (pf f ν') S a m := KD_fr _ _ _ _ _ h (Or.inl (hO.pfq (by omega))) ((AGR.nu hn).sub hs)
theorem OD.nu (hO : PO cI cV E lv L f) (ha : E a = 11) {m : OT} (h : OD (pf f ν) S a m) (hn : NUg T ν ν') (hs : SUB S T) : OD (pf f ν') S a m := OD_fr _ _ _ _ _ h (hO.pfq (by omega)) ((AGR.nu hn).sub hs)
theorem QD.nu (hO : PO cI cV E lv L f) (ha : E a = 7) {m : QT} (h : QD (pf f ν) S a m) (hn : NUg T ν ν') (hs : SUB S T) : QD (pf f ν') S a m := QD_fr _ _ _ _ _ h (hO.pfq (by omega)) ((AGR.nu hn).sub hs)
theorem GD.nu (hO : PO cI cV E lv L f) (ha : E a = 8) {m : QT} (h : GD (pf f ν) S a m) (hn : NUg T ν ν') (hs : SUB S T) : GD (pf f ν') S a m := GD_fr _ _ _ _ _ h (Or.inl (hO.pfq (by omega))) ((AGR.nu hn).sub hs)
theorem CHL.nu {o : Option Nat} {l : List QT} (h : CHD LD 8 (pf f ν) S o l) (hn : NUg S ν ν') : CHD LD 8 (pf f ν') S o l := CHD_fr LD_fr (AGR.nu hn) _ _ h
theorem CHG.nu {o : Option Nat} {l : List QT} (h : CHD GD 2 (pf f ν) S o l) (hn : NUg S ν ν') : CHD GD 2 (pf f ν') S o l := CHD_fr GD_fr (AGR.nu hn) _ _ h
theorem CHK.nu {o : Option Nat} {l : List CT} (h : CHD KD 2 (pf f ν) S o l) (hn : NUg S ν ν') : CHD KD 2 (pf f ν') S o l := CHD_fr KD_fr (AGR.nu hn) _ _ h
end NewNumbers
/-- what asking leaves: the list as it was, and its work -/
def ASK (E : Nat → Nat) (S : Nat → Nat) (w tp sp : Nat) (g : Nat → Option Nat) (ν : Nat → Int64) (sp' : Nat) (g' : Nat → Option Nat) (ν' : Nat → Int64) : Prop := sp' = sp + w ∧ WI E tp sp' g' ∧ (∀ j, j < tp → g' j = g j) ∧ NUg S ν ν'
theorem ASK.rf {E S : Nat → Nat} {tp sp : Nat} {g : Nat → Option Nat} {ν : Nat → Int64} (h : WI E tp sp g) : ASK E S 0 tp sp g ν sp g ν := ⟨rfl, h, fun _ _ => rfl, NUg.rf⟩
theorem ASK.tr {E S : Nat → Nat} {w w1 tp sp sp1 sp2 : Nat} {g g1 g2 : Nat → Option Nat} {ν ν1 ν2 : Nat → Int64} (h1 : ASK E S w tp sp g ν sp1 g1 ν1) (h2 : ASK E S w1 tp sp1 g1 ν1 sp2 g2 ν2) : ASK E S (w + w1) tp sp g ν sp2 g2 ν2 := ⟨by have := h1.1; have := h2.1; omega, h2.2.1, fun j hj => (h2.2.2.1 j hj).trans (h1.2.2.1 j hj), h1.2.2.2.tr h2.2.2.2⟩
theorem ASK.up {E S T : Nat → Nat} {w tp sp sp1 : Nat} {g g1 : Nat → Option Nat} {ν ν1 : Nat → Int64} (h : ASK E S w tp sp g ν sp1 g1 ν1) (hs : SUB S T) : ASK E T w tp sp g ν sp1 g1 ν1 := ⟨h.1, h.2.1, h.2.2.1, h.2.2.2.up hs⟩
/-- what nodes leaves -/
def NDK (E : Nat → Nat) (PL : List NT) (AL : List Nat) (S : Nat → Nat) (R : List NT × Nat) (tp sp : Nat) (g : Nat → Option Nat) (ν : Nat → Int64) (fr tp' sp' : Nat) (g' : Nat → Option Nat) (ν' : Nat → Int64) : Prop := tp ≤ fr ∧ tp' = fr + R.1.length ∧ sp' = sp + R.2 ∧ WI E tp' sp' g' ∧ (∀ j, j < tp → g' j = g j) ∧ LCn PL AL g' fr R.1 ∧ NUg S ν ν'
/-- the value that is answered: a leaf of the query's own, or a node -/
def VRp (E : Nat → Nat) (f : Nat → va_E) (PL : List NT) (AL : List Nat) (S : Nat → Nat) (ν : Nat → Int64) (r : Option Nat) : VOp → Prop
  | none => r = none
  | some u => ∃ b, r = some b ∧ isF E b ∧ ((∃ x, u = leafU x ∧ CL (pf f ν) b x ∧ x.1 < 5 ∧ szF (pf f ν) b = 0 ∧ ¬ S b = 0 ∧ ∀ q, x.1 = 4 → refE 2 (pf f ν b) = some q → ¬ S q = 0) ∨ ∃ nd, NCr PL AL b nd ∧ u = nd.2)
theorem VRp.cu {E : Nat → Nat} {f : Nat → va_E} {PL : List NT} {AL : List Nat} {S : Nat → Nat} {ν : Nat → Int64} {r : Option Nat} {u : VU} (h : VRp E f PL AL S ν r (some u)) (hD : DOC E (pf f ν) PL AL) : ∃ b, r = some b ∧ isF E b ∧ CU (pf f ν) b u := by
  obtain ⟨b, h1, h2, h3⟩ := h
  refine ⟨b, h1, h2, ?_⟩
  rcases h3 with ⟨x, rfl, q1, q2, q3, -⟩ | ⟨nd, q1, rfl⟩
  · exact ⟨q1, q2, q3⟩
  · exact (q1.ax hD).2
theorem VRp.keep {E : Nat → Nat} {f : Nat → va_E} {PL : List NT} {AL : List Nat} {S T : Nat → Nat} {ν ν' : Nat → Int64} {r : Option Nat} {v : VOp} (h : VRp E f PL AL S ν r v) (hd : DIS S T) (hn : NUg T ν ν') (hsz : ∀ b, isF E b → szF (pf f ν') b = szF (pf f ν) b) : VRp E f PL AL S ν' r v := by
  cases v with
  | none => exact h
  | some u =>
    obtain ⟨b, h1, h2, h3⟩ := h
    refine ⟨b, h1, h2, ?_⟩
    rcases h3 with ⟨x, e, q1, q2, q3, q4, q5⟩ | h3
    · have k : ∀ a, ¬ S a = 0 → pf f ν' a = pf f ν a := fun a ha => pf_ν (hn a (by rw [(hd a).resolve_left ha]; decide))
      refine Or.inl ⟨x, e, q1.fr (k b q4) (fun q z1 z2 => k q (q5 q z1 z2)), q2, (hsz b h2).trans q3, q4, fun q z1 z2 => q5 q z1 (by rw [← k b q4]; exact z2)⟩
    · exact Or.inr h3
theorem preN_len {E : Nat → Nat} {f : Nat → va_E} {PL : List NT} {AL : List Nat} (h : DOC E f PL AL) {k a : Nat} {nd : NT} (h1 : PL[k]? = some nd) (h2 : AL[k]? = some a) : (preN nd).length ≤ 4096 := by
  obtain ⟨-, -, -, -, hp, -⟩ := h.2 k nd a h1 h2
  cases hl : (preN nd).length with
  | zero => omega
  | succ m =>
    obtain ⟨e, he⟩ : ∃ e, (preN nd)[m]? = some e := ⟨_, List.getElem?_eq_getElem (by omega)⟩
    have := (List.getElem?_eq_some_iff.mp (hp m e he)).1
    have := h.1.2
    omega
/-- node j below nd, and its object -/
theorem pre_at {E : Nat → Nat} {f : Nat → va_E} {PL : List NT} {AL : List Nat} (h : DOC E f PL AL) {k a i : Nat} {nd : NT} (h1 : PL[k]? = some nd) (h2 : AL[k]? = some a) (hi : i < (preN nd).length) : ∃ e b, (preN nd)[i]? = some e ∧ PL[k + i]? = some e ∧ AL[k + i]? = some b ∧ isF E b := by
  obtain ⟨-, -, -, -, hp, -⟩ := h.2 k nd a h1 h2
  obtain ⟨e, he⟩ : ∃ e, (preN nd)[i]? = some e := ⟨_, List.getElem?_eq_getElem hi⟩
  have hP := hp i e he
  have hl := (List.getElem?_eq_some_iff.mp hP).1
  obtain ⟨b, hb⟩ : ∃ b, AL[k + i]? = some b := ⟨_, List.getElem?_eq_getElem (by have := h.1.1; omega)⟩
  exact ⟨e, b, he, hP, hb, (h.2 _ _ _ hP hb).1⟩
theorem pre_nx {E : Nat → Nat} {f : Nat → va_E} {PL : List NT} {AL : List Nat} (h : DOC E f PL AL) {k b : Nat} {e : NT} (h1 : PL[k]? = some e) (h2 : AL[k]? = some b) : refE 8 (f b) = AL[k + 1]? := (h.2 k e b h1 h2).2.2.2.2.2.1
theorem pre_sp {E : Nat → Nat} {f : Nat → va_E} {PL : List NT} {AL : List Nat} (h : DOC E f PL AL) {k b : Nat} {e : NT} (h1 : PL[k]? = some e) (h2 : AL[k]? = some b) : fldE 9 (f b) = .int (nI (preN e).length) := (h.2 k e b h1 h2).2.2.2.1
/-- a query's segments so far: l the nodes that are reached, q what is still to be walked -/
def NLp (E : Nat → Nat) (PL : List NT) (AL : List Nat) (S : Nat → Nat) (R : List NT × Nat) (rtn : NT) (tp sp : Nat) (g : Nat → Option Nat) (ν : Nat → Int64) (q : List QT) (l : List NT) (fr t s : Nat) (g' : Nat → Option Nat) (ν' : Nat → Int64) : Prop := tp ≤ fr ∧ t = fr + l.length ∧ WI E t s g' ∧ (∀ j, j < tp → g' j = g j) ∧ LCn PL AL g' fr l ∧ NUg S ν ν' ∧ (qryL rtn q l).1 = R.1 ∧ s + (qryL rtn q l).2 = sp + R.2
section NLs
variable {E : Nat → Nat} {PL : List NT} {AL : List Nat} {S : Nat → Nat} {R : List NT × Nat} {rtn x : NT} {tp sp fr t s t2 s2 : Nat} {g g1 g2 : Nat → Option Nat} {ν ν1 ν2 : Nat → Int64} {q : List QT} {m : QT} {l : List NT}
theorem NLp.one (h : PU E PL AL S ([x], 1) tp sp g ν t s g1 ν1) (hR : R = ((qryL rtn q [x]).1, 1 + (qryL rtn q [x]).2)) : NLp E PL AL S R rtn tp sp g ν q [x] tp t s g1 ν1 := by
  obtain ⟨a1, a2, a3, a4, a5, a6⟩ := h
  refine ⟨Nat.le_refl _, a1, a3, a4, a5, a6, by rw [hR], ?_⟩
  rw [hR]
  have a2 : s = sp + 1 := a2
  show s + _ = sp + (1 + _)
  omega
theorem NLp.next (h : NLp E PL AL S R rtn tp sp g ν (m :: q) l fr t s g1 ν1) (h2 : PU E PL AL S (seqW (m rtn) l) t s g1 ν1 t2 s2 g2 ν2) : NLp E PL AL S R rtn tp sp g ν q (seqW (m rtn) l).1 t t2 s2 g2 ν2 := by
  obtain ⟨b1, b2, b3, b4, b5, b6, b7, b8⟩ := h
  obtain ⟨a1, a2, a3, a4, a5, a6⟩ := h2
  refine ⟨by omega, a1, a3, fun j hj => (a4 j (by omega)).trans (b4 j hj), a5, b6.tr a6, b7, ?_⟩
  have b8 : s + ((seqW (m rtn) l).2 + (qryL rtn q (seqW (m rtn) l).1).2) = sp + R.2 := b8
  omega
theorem NLp.fin (h : NLp E PL AL S R rtn tp sp g ν [] l fr t s g1 ν1) : NDK E PL AL S R tp sp g ν fr t s g1 ν1 := by
  obtain ⟨b1, b2, b3, b4, b5, b6, b7, b8⟩ := h
  have b7 : l = R.1 := b7
  have b8 : s + 0 = sp + R.2 := b8
  subst b7
  exact ⟨b1, b2, by omega, b3, b4, b5, b6⟩
theorem NLp.more (h : NLp E PL AL S R rtn tp sp g ν (m :: q) l fr t s g1 ν1) : s + (seqW (m rtn) l).2 ≤ sp + R.2 := by
  have b8 : s + ((seqW (m rtn) l).2 + (qryL rtn q (seqW (m rtn) l).1).2) = sp + R.2 := h.2.2.2.2.2.2.2
  omega
end NLs
theorem oneV_0 {l : List NT} (h : ¬ l.length = 1) : oneV l = none := by
  unfold oneV
  split
  · exact absurd rfl h
  · rfl
theorem oneV_1 {l : List NT} {nd : NT} (h : l.length = 1) (h0 : l[0]? = some nd) : oneV l = some nd.2 := by
  match l, h with
  | [x], _ =>
    obtain rfl : x = nd := Option.some.inj h0
    rfl
/-- the mutable value of an operand, with its number -/
theorem NV.leaf {f : Nat → va_E} {ν : Nat → Int64} {b : Nat} {x : Int64} (h : NV (pf f ν) b) (hx : ν b = x) : CL (pf f ν) b (3, x, []) ∧ szF (pf f ν) b = 0 := by
  obtain ⟨nu, tx, pa, na, ix, nm, no, sp, e⟩ := h
  have hn : nu = ν b := by
    unfold pf at e
    split at e
    · rename_i kd nu' r h9
      have h1 := congrArg Prod.snd (Sum.inr.inj e)
      have h1 : (.int kd :: .long (ν b) :: r : List Value) = [.int 3, .long nu, va_rf tx, va_rf none, va_rf pa, va_rf na, .int ix, va_rf nm, va_rf no, .int sp] := h1
      injection h1 with _ h2
      injection h2 with h3 _
      exact (Value.long.inj h3).symm
    · rename_i h9
      exact absurd e (h9 _ _ _)
  exact ⟨⟨3, nu, tx, none, pa, na, ix, nm, no, sp, e, rfl, (by show 3 ≤ 6; decide), fun _ => hn.trans hx, fun q => absurd (show (3 : Nat) = 4 from q) (by decide)⟩, PO.mem0 e⟩
theorem lnI_n {u : VU} (h : lenU u = none) : lnI u = -1 := by
  unfold lenU at h
  unfold lnI
  by_cases h4 : (lfU u).1 = 4
  · rw [if_pos h4] at h; cases h
  · rw [if_neg h4] at h ⊢
    by_cases h5 : 5 ≤ (lfU u).1
    · rw [if_pos h5] at h; cases h
    · rw [if_neg h5]
theorem lnI_s {u w : VU} (h : lenU u = some w) : ∃ k, lnI u = nI k ∧ w = numU k ∧ (((lfU u).1 = 4 ∧ k = chrN (lfU u).2.2) ∨ k = (ksU u).length) := by
  unfold lenU at h
  unfold lnI
  by_cases h4 : (lfU u).1 = 4
  · rw [if_pos h4] at h ⊢
    exact ⟨_, rfl, (Option.some.inj h).symm, Or.inl ⟨h4, rfl⟩⟩
  · rw [if_neg h4] at h ⊢
    by_cases h5 : 5 ≤ (lfU u).1
    · rw [if_pos h5] at h ⊢
      exact ⟨_, rfl, (Option.some.inj h).symm, Or.inr rfl⟩
    · rw [if_neg h5] at h; cases h
theorem anyC_ge {g : CT} {l : List CT} {rt nd : NT} : (g rt nd).2 ≤ (anyC_ (g :: l) rt nd).2 := by
  cases h : (g rt nd).1 with
  | true => rw [anyC_t h]; exact Nat.le_refl _
  | false => rw [anyC_f h]; exact Nat.le_add_right _ _
theorem allC_ge {g : CT} {l : List CT} {rt nd : NT} : (g rt nd).2 ≤ (allC (g :: l) rt nd).2 := by
  cases h : (g rt nd).1 with
  | true => rw [allC_t h]; exact Nat.le_add_right _ _
  | false => rw [allC_f h]; exact Nat.le_refl _
theorem nI_subN {a b : Nat} (h : b ≤ a) (ha : a < 2 ^ 28) : nI a - nI b = nI (a - b) := by
  apply Int32.toInt_inj.mp
  rw [pk_sub_toInt (by omega) (by omega), nI_toInt (by omega)]
  omega
/-- an answer holds this value -/
def VAL (E : Nat → Nat) (F : Nat → va_E) (r : Option Nat) : VOp → Prop
  | none => r = none
  | some u => ∃ b, r = some b ∧ isF E b ∧ CU F b u
theorem VRp.val {E : Nat → Nat} {f : Nat → va_E} {PL : List NT} {AL : List Nat} {S : Nat → Nat} {ν : Nat → Int64} {r : Option Nat} {v : VOp} (h : VRp E f PL AL S ν r v) (hD : DOC E (pf f ν) PL AL) : VAL E (pf f ν) r v := by
  cases v with
  | none => exact h
  | some u => exact h.cu hD
theorem VRp.dep {E : Nat → Nat} {f : Nat → va_E} {PL : List NT} {AL : List Nat} {S : Nat → Nat} {ν : Nat → Int64} {r : Option Nat} {v : VOp} (h : VRp E f PL AL S ν r v) (hD : DOC E (pf f ν) PL AL) : ∀ u, v = some u → u.1 ≤ 32 := by
  intro u hu
  subst hu
  obtain ⟨b, -, -, h3⟩ := h
  rcases h3 with ⟨x, rfl, -⟩ | ⟨nd, ⟨k, q1, q2⟩, rfl⟩
  · exact Nat.zero_le _
  · exact (hD.2 k nd b q1 q2).2.2.2.2.2.2
theorem VRp.oR {E : Nat → Nat} {f : Nat → va_E} {PL : List NT} {AL : List Nat} {S : Nat → Nat} {ν : Nat → Int64} {r : Option Nat} {v : VOp} (h : VRp E f PL AL S ν r v) : oR (isF E) r := by
  cases v with
  | none => rw [show r = none from h]; exact fun b q => nomatch q
  | some u =>
    obtain ⟨b, h1, h2, -⟩ := h
    rw [h1]
    exact fun c q => by cases q; exact h2
theorem kd_op {op j : Nat} (ho : op ≤ 5) (hj : j ≤ 5) (h : nI (4 + op) = nI (4 + j)) : op = j := by
  have e9 := congrArg Int32.toNatClampNeg h
  rw [nI_clamp (by omega), nI_clamp (by omega)] at e9
  omega
theorem cmp_0 {a b : VOp} : cmpO 0 a b = sameO a b := rfl
theorem cmp_1 {a b : VOp} : cmpO 1 a b = !(sameO a b) := rfl
theorem cmp_2 {a b : VOp} : cmpO 2 a b = lessO a b := rfl
theorem cmp_3 {a b : VOp} : cmpO 3 a b = (lessO a b || sameO a b) := rfl
theorem cmp_4 {a b : VOp} : cmpO 4 a b = lessO b a := rfl
theorem cmp_5 {a b : VOp} : cmpO 5 a b = (lessO b a || sameO a b) := rfl
theorem bI_Bo {r : Int32} {b : Bool} (h : r = bI b) : Bo r := by
  rw [h]
  cases b
  · exact Or.inl rfl
  · exact Or.inr rfl
theorem NUg.put {S : Nat → Nat} {ν ν1 : Nat → Int64} {b : Nat} {x : Int64} (h : NUg S ν ν1) (hb : S b = 1) : NUg S ν (va_up ν1 b x) := fun a ha => by
  rw [va_up_ne _ _ (fun e => ha (by rw [e]; exact hb))]
  exact h a ha
theorem ASK.put {E S : Nat → Nat} {w tp sp sp1 : Nat} {g g1 : Nat → Option Nat} {ν ν1 : Nat → Int64} {b : Nat} {x : Int64} (h : ASK E S w tp sp g ν sp1 g1 ν1) (hb : S b = 1) : ASK E S w tp sp g ν sp1 g1 (va_up ν1 b x) := ⟨h.1, h.2.1, h.2.2.1, h.2.2.2.put hb⟩
/-- an operand's own value, once its number is put -/
theorem VRp.num {E : Nat → Nat} {f : Nat → va_E} {PL : List NT} {AL : List Nat} {S : Nat → Nat} {ν ν1 : Nat → Int64} {b k : Nat} {x : Int64} (hf : isF E b) (hb : S b = 1) (hv : NV (pf f ν) b) (hn : NUg S ν ν1) (hx : x = Int64.ofNat k) : VRp E f PL AL S (va_up ν1 b x) (some b) (some (numU k)) := by
  have h1 := ((AGR.nu (f := f) (hn.put (x := x) hb)) b).2 hb hv
  have h2 := h1.leaf (va_up_self _ _ _)
  rw [hx] at h2
  rw [hx]
  exact ⟨b, rfl, hf, Or.inl ⟨_, rfl, h2.1, by show 3 < 5; omega, h2.2, by rw [hb]; decide, fun q e => absurd e (by show ¬ 3 = 4; decide)⟩⟩
/-- what is written stays -/
theorem VRp.lit {cI cV : ClassId} {E lv : Nat → Nat} {L : List Nat} {f : Nat → va_E} {PL : List NT} {AL : List Nat} {S : Nat → Nat} {ν : Nat → Int64} {b : Nat} {x : LF} (hf : isF E b) (hb : S b = 2) (hc : CL (pf f ν) b x) (h5 : x.1 < 5) (h3 : refE 3 (pf f ν b) = none) (ht : ∀ q, x.1 = 4 → refE 2 (pf f ν b) = some q → S q = 3) : VRp E f PL AL S ν (some b) (some (leafU x)) := by
  refine ⟨b, rfl, hf, Or.inl ⟨x, rfl, hc, h5, ?_, by rw [hb]; decide, fun q q1 q2 => by rw [ht q q1 q2]; decide⟩⟩
  obtain ⟨kd, nu, tx, me, pa, na, ix, nm, no, sp, e, -⟩ := hc
  rw [e] at h3
  have h3 : me = none := (refE_rf (k := 3) (o := me) rfl).symm.trans h3
  rw [h3] at e
  exact PO.mem0 e
theorem lnB {cI cV : ClassId} {E lv : Nat → Nat} {L : List Nat} {F : Nat → va_E} {b k : Nat} {u : VU} (hO : PO cI cV E lv L F) (h : CU F b u) (hb : isF E b) (hk : ((lfU u).1 = 4 ∧ k = chrN (lfU u).2.2) ∨ k = (ksU u).length) : k ≤ 4096 := by
  obtain ⟨h1, h2, -, -⟩ := h.get
  obtain ⟨kd, nu, tx, me, pa, na, ix, nm, no, sp, e, hv⟩ := hO.val (isF.v hb)
  rcases hk with ⟨h4, rfl⟩ | rfl
  · obtain ⟨q, q1, q2⟩ := (h1.of e).2.2.2 h4
    obtain ⟨n, g, e2, hn⟩ := hO.txt (hv.1 q q1)
    have h5 : (lfU u).2.2.length = n := by rw [← q2, txL_t e2, List.length_map, List.length_range]
    have h6 : chrN (lfU u).2.2 ≤ (lfU u).2.2.length := List.length_filter_le _ _
    omega
  · have := hO.szle e hv
    omega
theorem lg_nI {k : Nat} (h : k ≤ 4096) : 0 ≤ lg_cmp (nI k).toInt64 0 := by
  apply (lg_cmp_ge _ _).mpr
  apply Int64.le_iff_toInt_le.mpr
  rw [i64_nI h]
  show (0 : Int) ≤ _
  omega
theorem emp_0 {α : Type} {l : List α} {r : Int32} (h : r = nI l.length) (hl : l.length ≤ 10000) (c : r ≤ 0) : l.isEmpty = true := by
  rw [h, show (0 : Int32) = nI 0 from rfl, nI_leI (by omega) (by omega)] at c
  exact List.isEmpty_iff.mpr (List.length_eq_zero_iff.mp (by omega))
theorem emp_1 {α : Type} {l : List α} {r : Int32} (h : r = nI l.length) (hl : l.length ≤ 10000) (c : ¬ r ≤ 0) : l.isEmpty = false := by
  cases l with
  | nil => rw [h] at c; exact absurd (show nI 0 ≤ 0 by decide) c
  | cons a l => rfl
