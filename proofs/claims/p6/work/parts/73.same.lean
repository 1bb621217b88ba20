theorem w_1118 : (.fieldLink "QueryBenchModel" 62 "QueryBenchModel" "values" "LQueryBenchModel$Tree;" : Cond) ∈ gtbl := gt_in 1118 (by decide +kernel) (by decide +kernel)
theorem w_1555 : (.methodLink "QueryBenchModel" 78 ⟨"QueryBenchModel", "same", "(LQueryBenchModel$Tree;ILQueryBenchModel$Tree;I)Z"⟩ : Cond) ∈ gtbl := gt_in 1555 (by decide +kernel) (by decide +kernel)
theorem w_1556 : (.static ⟨"QueryBenchModel", "same", "(LQueryBenchModel$Tree;ILQueryBenchModel$Tree;I)Z"⟩ : Cond) ∈ gtbl := gt_in 1556 (by decide +kernel) (by decide +kernel)
theorem w_1558 : (.methodLink "QueryBenchModel" 71 ⟨"QueryBenchModel", "order", "(LQueryBenchModel$Tree;ILQueryBenchModel$Tree;I)I"⟩ : Cond) ∈ gtbl := gt_in 1558 (by decide +kernel) (by decide +kernel)
theorem w_1559 : (.static ⟨"QueryBenchModel", "order", "(LQueryBenchModel$Tree;ILQueryBenchModel$Tree;I)I"⟩ : Cond) ∈ gtbl := gt_in 1559 (by decide +kernel) (by decide +kernel)
/-- a value stands at a -/
def VR (T : TS) (r a : Nat) : Prop := ∃ e x, RepV T r a e x
theorem VR.lt {T : TS} {r a : Nat} (h : VR T r a) : a < T.ct := by
  obtain ⟨e, x, hx⟩ := h
  have := RepV_lt hx
  omega
theorem VR.leaf {T : TS} {r a : Nat} (h : VR T r a) : ∃ y : LF, RepL T a y := by
  obtain ⟨e, x, hx⟩ := h
  cases r with
  | zero => exact ⟨x, hx.2.2.1⟩
  | succ r => exact ⟨x.1, hx.2.2.1⟩
theorem VR.str {T : TS} {r a : Nat} (h : VR T r a) (h4 : T.kd a = 4) : ∃ s L, T.st a = nI s ∧ T.ln a = nI L ∧ s + L ≤ T.us := by
  obtain ⟨y, hy⟩ := h.leaf
  have e : y.1 = 4 := by
    have h9 := congrArg Int32.toNatClampNeg (hy.1.symm.trans (h4.trans (show (4 : Int32) = nI 4 from rfl)))
    rw [nI_clamp (by have := hy.2.1; omega), nI_clamp (by omega)] at h9
    exact h9
  obtain ⟨s, L, e1, e2, e3, _⟩ := hy.2.2.2.1 e
  exact ⟨s, L, e1, e2, e3⟩
theorem VR.kids {T : TS} {r a : Nat} (h : VR T r a) : ∃ ks, chn T.nx T.ct ks (T.ki a) ∧ (∀ k, k ∈ ks → ∃ r2, r2 < r ∧ VR T r2 k) ∧ (T.kd a = 6 → ∀ k, k ∈ ks → nmOK T k) ∧ (∀ k, k ∈ ks → k < T.ct) ∧ ks.length ≤ T.ct := by
  obtain ⟨e, x, hx⟩ := h
  cases r with
  | zero => exact ⟨[], by show T.ki a < 0; rw [hx.2.2.2.1]; decide, fun k hk => absurd hk (by simp), fun _ k hk => absurd hk (by simp), fun k hk => absurd hk (by simp), Nat.zero_le _⟩
  | succ r =>
    obtain ⟨g1, g2, g3, g4, g5⟩ := hx
    obtain ⟨ks, f1, f0, f2⟩ := RepK_mem g2 (fun b eb c hc => (RepV_lt hc).1) _ _ _ g5
    have h6 := kd_6 g3.1 g3.2.1
    refine ⟨ks, f1, fun k hk => ?_, fun hd k hk => (f2 k hk).2.1 (h6 hd), fun k hk => ?_, by omega⟩
    · obtain ⟨q1, q2, q3, eb, c, q5, q4⟩ := f2 k hk
      exact ⟨r, Nat.lt_succ_self _, eb, c.2, q4⟩
    · obtain ⟨q1, q2, q3, eb, c, q5, q4⟩ := f2 k hk
      have hl := RepV_lt q4
      omega
theorem VR.te {T T2 : TS} {r a : Nat} (h : VR T r a) (hte : TE T T2) (hb : T.us < 2 ^ 31) : VR T2 r a := by
  obtain ⟨e, x, hx⟩ := h
  have hl := RepV_lt hx
  have ha := hte.2.1 a (by omega)
  exact ⟨e, x, RepV_fr hte.2.2 hb hte.1 r a e x hx ha.1 ha.2.1 ha.2.2.1 ha.2.2.2.1 ha.2.2.2.2.1 (fun j hj => hte.2.1 j (by omega))⟩
/-- no value, or one that stands in the tree -/
def VV (T : TS) (vv : Int32) : Prop := vv = -1 ∨ ∃ a r, vv = nI a ∧ r ≤ 32 ∧ VR T r a
theorem VV.te {T T2 : TS} {vv : Int32} (h : VV T vv) (hte : TE T T2) (hb : T.us < 2 ^ 31) : VV T2 vv := by
  rcases h with h | ⟨a, r, h1, h2, h3⟩
  · exact Or.inl h
  · exact Or.inr ⟨a, r, h1, h2, h3.te hte hb⟩
/-- a holds the value u, and it is such as may be compared -/
def VX (T : TS) (a : Nat) (u : VU) : Prop := (∃ e, RepV T u.1 a e u.2) ∧ wfV u.1 u.2
theorem VX.vr {T : TS} {a : Nat} {u : VU} (h : VX T a u) : VR T u.1 a := by
  obtain ⟨⟨e, h⟩, -⟩ := h
  exact ⟨e, u.2, h⟩
theorem VX.te {T T2 : TS} {a : Nat} {u : VU} (h : VX T a u) (hte : TE T T2) (hb : T.us < 2 ^ 31) : VX T2 a u := by
  obtain ⟨⟨e, hx⟩, hw⟩ := h
  have hl := RepV_lt hx
  have ha := hte.2.1 a (by omega)
  exact ⟨⟨e, RepV_fr hte.2.2 hb hte.1 u.1 a e u.2 hx ha.1 ha.2.1 ha.2.2.1 ha.2.2.2.1 ha.2.2.2.2.1 (fun j hj => hte.2.1 j (by omega))⟩, hw⟩
theorem VX.kids {T : TS} {a : Nat} {u : VU} (h : VX T a u) : ∃ ks : List Nat, chn T.nx T.ct ks (T.ki a) ∧ ks.length = (ksU u).length ∧ (∀ (i x : Nat) (c : List Int32 × VU), ks[i]? = some x → (ksU u)[i]? = some c → VX T x c.2 ∧ c.2.1 < u.1 ∧ (T.kd a = 6 → nmT T x = c.1)) ∧ (T.kd a = 6 → ∀ k, k ∈ ks → nmOK T k) ∧ (∀ k, k ∈ ks → k < T.ct) ∧ ks.length ≤ T.ct := by
  obtain ⟨⟨e, hx⟩, hw⟩ := h
  obtain ⟨ks, f1, f2, f3, f4⟩ := RepV_kids hx
  have hkd := kd_is (k := 6) hx (Nat.le_refl _)
  have get : ∀ k, k ∈ ks → ∃ i c, ks[i]? = some k ∧ (ksU u)[i]? = some c := fun k hk => by
    obtain ⟨i, hi⟩ := List.getElem?_of_mem hk
    have hl := (List.getElem?_eq_some_iff.mp hi).1
    exact ⟨i, _, hi, List.getElem?_eq_getElem (by omega)⟩
  refine ⟨ks, f1, f2, fun i k c hk hc => ?_, fun hd k hk => ?_, fun k hk => ?_, f3⟩
  · obtain ⟨q1, q2, q3, q4, q5, eb, q6⟩ := f4 i k c hk hc
    exact ⟨⟨⟨eb, q6⟩, (wf_kid hw hc).1⟩, by omega, fun hd => (q2 (hkd.mp hd)).2⟩
  · obtain ⟨i, c, g1, g2⟩ := get k hk
    exact ((f4 i k c g1 g2).2.1 (hkd.mp hd)).1
  · obtain ⟨i, c, g1, g2⟩ := get k hk
    exact (f4 i k c g1 g2).2.2.2.1
theorem VX.kd {T : TS} {a k : Nat} {u : VU} (h : VX T a u) (hk : k ≤ 6) : T.kd a = nI k ↔ (lfU u).1 = k := by
  obtain ⟨⟨e, hx⟩, -⟩ := h
  exact kd_is hx hk
theorem VX.num {T : TS} {a : Nat} {u : VU} (h : VX T a u) (h3 : (lfU u).1 = 3) : T.nu a = (lfU u).2.1 := by
  obtain ⟨⟨e, hx⟩, -⟩ := h
  exact (RepV_leaf hx).2.2.1 h3
theorem VX.str {T : TS} {a : Nat} {u : VU} (h : VX T a u) (h4 : (lfU u).1 = 4) : ∃ s L, T.st a = nI s ∧ T.ln a = nI L ∧ s + L ≤ T.us ∧ sl T.un s L = (lfU u).2.2 ∧ uOK (sl T.un s L) := by
  obtain ⟨⟨e, hx⟩, hw⟩ := h
  obtain ⟨s, L, e1, e2, e3, e4⟩ := (RepV_leaf hx).2.2.2.1 h4
  exact ⟨s, L, e1, e2, e3, e4, by rw [e4]; exact wf_str hw h4⟩
/-- a leaf has no members -/
theorem wf_lf0 {u : VU} (h : wfV u.1 u.2) : u.1 = 0 → (lfU u).1 < 5 := by
  obtain ⟨r, x⟩ := u
  intro h0
  cases r with
  | zero => exact wfL_5 h
  | succ r => cases h0
theorem ord_ge {s t : List Int32} (h : ¬ ordV s t < 0) : ltT s t = false := by
  cases hq : ltT s t with
  | false => rfl
  | true => exact absurd (ord_lt.mpr hq) h
/-- whether two values are the same, a member at a time -/
theorem sameU_def {u v : VU} (h0 : u.1 = 0 → (lfU u).1 < 5) : sameU u v = (decide ((lfU u).1 = (lfU v).1) && (if (lfU u).1 = 3 then decide ((lfU u).2.1 = (lfU v).2.1) else if (lfU u).1 = 4 then decide ((lfU u).2.2 = (lfU v).2.2) else if (lfU u).1 = 5 then decide ((ksU u).length = (ksU v).length) && ((ksU u).zip (ksU v)).all (fun p => sameU p.1.2 p.2.2) else if (lfU u).1 = 6 then decide ((ksU u).length = (ksU v).length) && (ksU u).all (fun c => match (ksU v).find? (fun d => decide (d.1 = c.1)) with
    | some d => sameU c.2 d.2
    | none => false) else true)) := by
  obtain ⟨r, x⟩ := u
  cases r with
  | zero =>
    have h5 : (x : LF).1 < 5 := h0 rfl
    show sameJ 0 x v = _
    simp only [sameJ]
    show (decide ((x : LF).1 = (lfU v).1) && _) = (decide ((x : LF).1 = (lfU v).1) && _)
    congr 1
    show (if (x : LF).1 = 3 then _ else if (x : LF).1 = 4 then _ else if (x : LF).1 = 5 ∨ (x : LF).1 = 6 then _ else true) = (if (x : LF).1 = 3 then _ else if (x : LF).1 = 4 then _ else if (x : LF).1 = 5 then _ else if (x : LF).1 = 6 then _ else true)
    rw [if_neg (show ¬ ((x : LF).1 = 5 ∨ (x : LF).1 = 6) by omega), if_neg (show ¬ (x : LF).1 = 5 by omega), if_neg (show ¬ (x : LF).1 = 6 by omega)]
    rfl
  | succ r =>
    show sameJ (r + 1) x v = _
    simp only [sameJ]
    show (decide (x.1.1 = (lfU v).1) && _) = (decide (x.1.1 = (lfU v).1) && _)
    congr 1
    have e1 : (ksU (⟨r + 1, x⟩ : VU)) = x.2.map (fun p => (p.1, (⟨r, p.2⟩ : VU))) := rfl
    rw [e1, List.length_map, List.zip_map_left, List.all_map, List.all_map]
    rfl
theorem sameU_k {u v : VU} (h0 : u.1 = 0 → (lfU u).1 < 5) (hk : ¬ (lfU u).1 = (lfU v).1) : sameU u v = false := by
  rw [sameU_def h0, decide_eq_false hk]
  rfl
theorem sameU_3 {u v : VU} (h0 : u.1 = 0 → (lfU u).1 < 5) (hk : (lfU u).1 = (lfU v).1) (h3 : (lfU u).1 = 3) : sameU u v = decide ((lfU u).2.1 = (lfU v).2.1) := by rw [sameU_def h0, decide_eq_true hk, if_pos h3]; rfl
theorem sameU_4 {u v : VU} (h0 : u.1 = 0 → (lfU u).1 < 5) (hk : (lfU u).1 = (lfU v).1) (h4 : (lfU u).1 = 4) : sameU u v = decide ((lfU u).2.2 = (lfU v).2.2) := by rw [sameU_def h0, decide_eq_true hk, if_neg (by omega), if_pos h4]; rfl
theorem sameU_0 {u v : VU} (h0 : u.1 = 0 → (lfU u).1 < 5) (hk : (lfU u).1 = (lfU v).1) (h3 : (lfU u).1 < 3) : sameU u v = true := by rw [sameU_def h0, decide_eq_true hk, if_neg (by omega), if_neg (by omega), if_neg (by omega), if_neg (by omega)]; rfl
/-- arrays, from the i-th member on -/
def sm5 (a b : List (List Int32 × VU)) : Bool := decide (a.length = b.length) && (a.zip b).all (fun p => sameU p.1.2 p.2.2)
theorem sameU_5 {u v : VU} (h0 : u.1 = 0 → (lfU u).1 < 5) (hk : (lfU u).1 = (lfU v).1) (h5 : (lfU u).1 = 5) : sameU u v = sm5 (ksU u) (ksU v) := by
  rw [sameU_def h0, decide_eq_true hk, if_neg (by omega), if_neg (by omega), if_pos h5]
  rfl
theorem sm5_c {a b : List (List Int32 × VU)} {i : Nat} {c d : List Int32 × VU} (hc : a[i]? = some c) (hd : b[i]? = some d) : sm5 (a.drop i) (b.drop i) = (sameU c.2 d.2 && sm5 (a.drop (i + 1)) (b.drop (i + 1))) := by
  have h1 := (List.getElem?_eq_some_iff.mp hc).1
  have h2 := (List.getElem?_eq_some_iff.mp hd).1
  rw [List.drop_eq_getElem_cons h1, List.drop_eq_getElem_cons h2, (List.getElem?_eq_some_iff.mp hc).2, (List.getElem?_eq_some_iff.mp hd).2]
  unfold sm5
  simp only [List.length_cons, List.zip_cons_cons, List.all_cons, Nat.add_right_cancel_iff]
  cases sameU c.2 d.2 <;> simp
theorem sm5_n1 {a b : List (List Int32 × VU)} {i : Nat} (h1 : i < a.length) (h2 : b.length ≤ i) : sm5 (a.drop i) (b.drop i) = false := by
  unfold sm5
  rw [List.length_drop, List.length_drop, decide_eq_false (by omega)]
  rfl
theorem sm5_n2 {a b : List (List Int32 × VU)} {i : Nat} (h1 : a.length ≤ i) : sm5 (a.drop i) (b.drop i) = decide (b.length ≤ i) := by
  rw [List.drop_eq_nil_of_le h1]
  unfold sm5
  rw [List.length_nil, List.length_drop, List.zip_nil_left]
  by_cases q : b.length ≤ i
  · rw [decide_eq_true (show 0 = b.length - i by omega), decide_eq_true q]; rfl
  · rw [decide_eq_false (show ¬ 0 = b.length - i by omega), decide_eq_false q]; rfl
/-- objects of the same size, from the i-th member on -/
def sm6 (b : List (List Int32 × VU)) (a : List (List Int32 × VU)) : Bool := a.all (fun c => match b.find? (fun d => decide (d.1 = c.1)) with
    | some d => sameU c.2 d.2
    | none => false)
theorem sameU_6 {u v : VU} (h0 : u.1 = 0 → (lfU u).1 < 5) (hk : (lfU u).1 = (lfU v).1) (h6 : (lfU u).1 = 6) (hl : (ksU u).length = (ksU v).length) : sameU u v = sm6 (ksU v) (ksU u) := by
  rw [sameU_def h0, decide_eq_true hk, if_neg (by omega), if_neg (by omega), if_neg (by omega), if_pos h6, decide_eq_true hl]
  rfl
theorem sameU_6n {u v : VU} (h0 : u.1 = 0 → (lfU u).1 < 5) (hk : (lfU u).1 = (lfU v).1) (h6 : (lfU u).1 = 6) (hl : ¬ (ksU u).length = (ksU v).length) : sameU u v = false := by
  rw [sameU_def h0, decide_eq_true hk, if_neg (by omega), if_neg (by omega), if_neg (by omega), if_pos h6, decide_eq_false hl]
  rfl
theorem sm6_c {a b : List (List Int32 × VU)} {i : Nat} {c : List Int32 × VU} (hc : a[i]? = some c) : sm6 b (a.drop i) = ((match b.find? (fun d => decide (d.1 = c.1)) with
    | some d => sameU c.2 d.2
    | none => false) && sm6 b (a.drop (i + 1))) := by
  have h1 := (List.getElem?_eq_some_iff.mp hc).1
  rw [List.drop_eq_getElem_cons h1, (List.getElem?_eq_some_iff.mp hc).2]
  unfold sm6
  rw [List.all_cons]
theorem sm6_e {a b : List (List Int32 × VU)} {i : Nat} (h : a.length ≤ i) : sm6 b (a.drop i) = true := by
  rw [List.drop_eq_nil_of_le h]
  rfl
theorem fndU_at {t : List Int32} : ∀ (l : List (List Int32 × VU)) (i : Nat) (c : List Int32 × VU), l[i]? = some c → c.1 = t → (∀ (j : Nat) (d : List Int32 × VU), j < i → l[j]? = some d → ¬ d.1 = t) → l.find? (fun p => decide (p.1 = t)) = some c := by
  intro l
  induction l with
  | nil => intro i c h; cases h
  | cons x l ih =>
    intro i c h hc hb
    cases i with
    | zero =>
      obtain rfl : x = c := Option.some.inj h
      rw [List.find?_cons_of_pos (by exact decide_eq_true hc)]
    | succ i =>
      rw [List.find?_cons_of_neg (by rw [decide_eq_true_eq]; exact hb 0 x (Nat.zero_lt_succ _) rfl)]
      exact ih i c h hc (fun j d hj hd => hb (j + 1) d (Nat.succ_lt_succ hj) hd)
theorem fndU_1 {u : VU} {t : List Int32} {i : Nat} {c : List Int32 × VU} (hw : wfV u.1 u.2) (hk : (lfU u).1 = 6) (h : (ksU u)[i]? = some c) (hc : c.1 = t) : (ksU u).find? (fun d => decide (d.1 = t)) = some c := by
  have hnd := wf_nodup hw hk
  exact fndU_at (t := t) (ksU u) i c h hc (fun j d hj hd e => by
    have e1 : ((ksU u).map (·.1))[i]? = some t := by rw [List.getElem?_map, h]; show some c.1 = some t; rw [hc]
    have e2 : ((ksU u).map (·.1))[j]? = some t := by rw [List.getElem?_map, hd]; show some d.1 = some t; rw [e]
    have := nodup_ix hnd e1 e2
    omega)
theorem fndU_0 {t : List Int32} : ∀ (l : List (List Int32 × VU)), (∀ (j : Nat) (d : List Int32 × VU), l[j]? = some d → ¬ d.1 = t) → l.find? (fun p => decide (p.1 = t)) = none := by
  intro l
  induction l with
  | nil => intro _; rfl
  | cons x l ih =>
    intro h
    rw [List.find?_cons_of_neg (by rw [decide_eq_true_eq]; exact h 0 x rfl)]
    exact ih (fun j d hd => h (j + 1) d hd)
/-- no value, or one that stands in the tree and is this -/
def VY (T : TS) (vv : Int32) : VOp → Prop
  | none => vv = -1
  | some u => ∃ a, vv = nI a ∧ u.1 ≤ 32 ∧ VX T a u
theorem VY.vv {T : TS} {vv : Int32} {o : VOp} (h : VY T vv o) : VV T vv := by
  cases o with
  | none => exact Or.inl h
  | some u =>
    obtain ⟨a, h1, h2, h3⟩ := h
    exact Or.inr ⟨a, u.1, h1, h2, h3.vr⟩
theorem VY.te {T T2 : TS} {vv : Int32} {o : VOp} (h : VY T vv o) (hte : TE T T2) (hb : T.us < 2 ^ 31) : VY T2 vv o := by
  cases o with
  | none => exact h
  | some u =>
    obtain ⟨a, h1, h2, h3⟩ := h
    exact ⟨a, h1, h2, h3.te hte hb⟩
theorem VY.two {T : TS} {vv : Int32} {o : VOp} (h : VY T vv o) : (vv = -1 ∧ o = none) ∨ ∃ a u, vv = nI a ∧ o = some u ∧ u.1 ≤ 32 ∧ VX T a u := by
  cases o with
  | none => exact Or.inl ⟨h, rfl⟩
  | some u =>
    obtain ⟨a, h1, h2, h3⟩ := h
    exact Or.inr ⟨a, u, h1, rfl, h2, h3⟩
theorem VX.kdq {T : TS} {a : Nat} {u : VU} (h : VX T a u) : T.kd a = nI (lfU u).1 ∧ (lfU u).1 ≤ 6 := by
  obtain ⟨⟨e, hx⟩, -⟩ := h
  exact RepV_kd hx
theorem VX.kkn {T : TS} {a b : Nat} {u w : VU} (h : VX T a u) (g : VX T b w) : T.kd a = T.kd b ↔ (lfU u).1 = (lfU w).1 := by
  obtain ⟨h1, h2⟩ := h.kdq
  obtain ⟨g1, g2⟩ := g.kdq
  rw [h1, g1]
  constructor
  · intro e
    have h9 := congrArg Int32.toNatClampNeg e
    rw [nI_clamp (by omega), nI_clamp (by omega)] at h9
    exact h9
  · intro e; rw [e]
theorem nmT_is {T : TS} {k s L : Nat} (h1 : T.ns k = nI s) (h2 : T.nl k = nI L) (hs : s < 2 ^ 31) (hL : L < 2 ^ 31) : nmT T k = sl T.un s L := by
  unfold nmT
  rw [h1, h2, nI_clamp hs, nI_clamp hL]
theorem drop_n {α : Type} {l : List α} {i : Nat} (h : l.drop i = []) : l.length ≤ i := by
  have := congrArg List.length h
  rw [List.length_drop, List.length_nil] at this
  omega
theorem lc_eq {a b : Int64} (h : lg_cmp a b = 0) : a = b := (lg_cmp_eq _ _).mp h
theorem lc_ne {a b : Int64} (h : ¬ lg_cmp a b = 0) : ¬ a = b := fun e => h ((lg_cmp_eq _ _).mpr e)
abbrev b_Mo_same : ByteArray := prog_14_method_2_code
def y_Mo_same : MethodName := ⟨"QueryBenchModel", "same", "(LQueryBenchModel$Tree;ILQueryBenchModel$Tree;I)Z"⟩
abbrev k_Mo_same : Cond := .code y_Mo_same b_Mo_same 7 (some .boolean)
theorem i_Mo_same : k_Mo_same ∈ gtbl := gt_in 1557 (by decide +kernel) (by decide +kernel)
theorem d_Mo_same_0 : decode b_Mo_same 0 = .ok (.aload_n 0, 1) := by decide +kernel
theorem d_Mo_same_1 : decode b_Mo_same 1 = .ok (.getfield 65, 3) := by decide +kernel
theorem d_Mo_same_4 : decode b_Mo_same 4 = .ok (.iload_n 1, 1) := by decide +kernel
theorem d_Mo_same_5 : decode b_Mo_same 5 = .ok (.iaload, 1) := by decide +kernel
theorem d_Mo_same_6 : decode b_Mo_same 6 = .ok (.aload_n 2, 1) := by decide +kernel
theorem d_Mo_same_7 : decode b_Mo_same 7 = .ok (.getfield 65, 3) := by decide +kernel
theorem d_Mo_same_10 : decode b_Mo_same 10 = .ok (.iload_n 3, 1) := by decide +kernel
theorem d_Mo_same_11 : decode b_Mo_same 11 = .ok (.iaload, 1) := by decide +kernel
theorem d_Mo_same_12 : decode b_Mo_same 12 = .ok (.if_icmp .eq 5, 3) := by decide +kernel
theorem d_Mo_same_15 : decode b_Mo_same 15 = .ok (.iconst 0, 1) := by decide +kernel
theorem d_Mo_same_16 : decode b_Mo_same 16 = .ok (.ireturn, 1) := by decide +kernel
theorem d_Mo_same_17 : decode b_Mo_same 17 = .ok (.aload_n 0, 1) := by decide +kernel
theorem d_Mo_same_18 : decode b_Mo_same 18 = .ok (.getfield 65, 3) := by decide +kernel
theorem d_Mo_same_21 : decode b_Mo_same 21 = .ok (.iload_n 1, 1) := by decide +kernel
theorem d_Mo_same_22 : decode b_Mo_same 22 = .ok (.iaload, 1) := by decide +kernel
theorem d_Mo_same_23 : decode b_Mo_same 23 = .ok (.tableswitch 222 3 6 #[29, 51, 67, 139], 29) := by decide +kernel
theorem d_Mo_same_52 : decode b_Mo_same 52 = .ok (.aload_n 0, 1) := by decide +kernel
theorem d_Mo_same_53 : decode b_Mo_same 53 = .ok (.getfield 68, 3) := by decide +kernel
theorem d_Mo_same_56 : decode b_Mo_same 56 = .ok (.iload_n 1, 1) := by decide +kernel
theorem d_Mo_same_57 : decode b_Mo_same 57 = .ok (.laload, 1) := by decide +kernel
theorem d_Mo_same_58 : decode b_Mo_same 58 = .ok (.aload_n 2, 1) := by decide +kernel
theorem d_Mo_same_59 : decode b_Mo_same 59 = .ok (.getfield 68, 3) := by decide +kernel
theorem d_Mo_same_62 : decode b_Mo_same 62 = .ok (.iload_n 3, 1) := by decide +kernel
theorem d_Mo_same_63 : decode b_Mo_same 63 = .ok (.laload, 1) := by decide +kernel
theorem d_Mo_same_64 : decode b_Mo_same 64 = .ok (.lcmp, 1) := by decide +kernel
theorem d_Mo_same_65 : decode b_Mo_same 65 = .ok (.ifCond .ne 7, 3) := by decide +kernel
theorem d_Mo_same_68 : decode b_Mo_same 68 = .ok (.iconst 1, 1) := by decide +kernel
theorem d_Mo_same_69 : decode b_Mo_same 69 = .ok (.goto 4, 3) := by decide +kernel
theorem d_Mo_same_72 : decode b_Mo_same 72 = .ok (.iconst 0, 1) := by decide +kernel
theorem d_Mo_same_73 : decode b_Mo_same 73 = .ok (.ireturn, 1) := by decide +kernel
theorem d_Mo_same_74 : decode b_Mo_same 74 = .ok (.aload_n 0, 1) := by decide +kernel
theorem d_Mo_same_75 : decode b_Mo_same 75 = .ok (.iload_n 1, 1) := by decide +kernel
theorem d_Mo_same_76 : decode b_Mo_same 76 = .ok (.aload_n 2, 1) := by decide +kernel
theorem d_Mo_same_77 : decode b_Mo_same 77 = .ok (.iload_n 3, 1) := by decide +kernel
theorem d_Mo_same_78 : decode b_Mo_same 78 = .ok (.invokestatic 71, 3) := by decide +kernel
theorem d_Mo_same_81 : decode b_Mo_same 81 = .ok (.ifCond .ne 7, 3) := by decide +kernel
theorem d_Mo_same_84 : decode b_Mo_same 84 = .ok (.iconst 1, 1) := by decide +kernel
theorem d_Mo_same_85 : decode b_Mo_same 85 = .ok (.goto 4, 3) := by decide +kernel
theorem d_Mo_same_88 : decode b_Mo_same 88 = .ok (.iconst 0, 1) := by decide +kernel
theorem d_Mo_same_89 : decode b_Mo_same 89 = .ok (.ireturn, 1) := by decide +kernel
theorem d_Mo_same_90 : decode b_Mo_same 90 = .ok (.aload_n 2, 1) := by decide +kernel
theorem d_Mo_same_91 : decode b_Mo_same 91 = .ok (.getfield 75, 3) := by decide +kernel
theorem d_Mo_same_94 : decode b_Mo_same 94 = .ok (.iload_n 3, 1) := by decide +kernel
theorem d_Mo_same_95 : decode b_Mo_same 95 = .ok (.iaload, 1) := by decide +kernel
theorem d_Mo_same_96 : decode b_Mo_same 96 = .ok (.istore 4, 2) := by decide +kernel
theorem d_Mo_same_98 : decode b_Mo_same 98 = .ok (.aload_n 0, 1) := by decide +kernel
theorem d_Mo_same_99 : decode b_Mo_same 99 = .ok (.getfield 75, 3) := by decide +kernel
theorem d_Mo_same_102 : decode b_Mo_same 102 = .ok (.iload_n 1, 1) := by decide +kernel
theorem d_Mo_same_103 : decode b_Mo_same 103 = .ok (.iaload, 1) := by decide +kernel
theorem d_Mo_same_104 : decode b_Mo_same 104 = .ok (.istore 5, 2) := by decide +kernel
theorem d_Mo_same_106 : decode b_Mo_same 106 = .ok (.iload 5, 2) := by decide +kernel
theorem d_Mo_same_108 : decode b_Mo_same 108 = .ok (.ifCond .lt 43, 3) := by decide +kernel
theorem d_Mo_same_111 : decode b_Mo_same 111 = .ok (.iload 4, 2) := by decide +kernel
theorem d_Mo_same_113 : decode b_Mo_same 113 = .ok (.ifCond .lt 15, 3) := by decide +kernel
theorem d_Mo_same_116 : decode b_Mo_same 116 = .ok (.aload_n 0, 1) := by decide +kernel
theorem d_Mo_same_117 : decode b_Mo_same 117 = .ok (.iload 5, 2) := by decide +kernel
theorem d_Mo_same_119 : decode b_Mo_same 119 = .ok (.aload_n 2, 1) := by decide +kernel
theorem d_Mo_same_120 : decode b_Mo_same 120 = .ok (.iload 4, 2) := by decide +kernel
theorem d_Mo_same_122 : decode b_Mo_same 122 = .ok (.invokestatic 78, 3) := by decide +kernel
theorem d_Mo_same_125 : decode b_Mo_same 125 = .ok (.ifCond .ne 5, 3) := by decide +kernel
theorem d_Mo_same_128 : decode b_Mo_same 128 = .ok (.iconst 0, 1) := by decide +kernel
theorem d_Mo_same_129 : decode b_Mo_same 129 = .ok (.ireturn, 1) := by decide +kernel
theorem d_Mo_same_130 : decode b_Mo_same 130 = .ok (.aload_n 2, 1) := by decide +kernel
theorem d_Mo_same_131 : decode b_Mo_same 131 = .ok (.getfield 82, 3) := by decide +kernel
theorem d_Mo_same_134 : decode b_Mo_same 134 = .ok (.iload 4, 2) := by decide +kernel
theorem d_Mo_same_136 : decode b_Mo_same 136 = .ok (.iaload, 1) := by decide +kernel
theorem d_Mo_same_137 : decode b_Mo_same 137 = .ok (.istore 4, 2) := by decide +kernel
theorem d_Mo_same_139 : decode b_Mo_same 139 = .ok (.aload_n 0, 1) := by decide +kernel
theorem d_Mo_same_140 : decode b_Mo_same 140 = .ok (.getfield 82, 3) := by decide +kernel
theorem d_Mo_same_143 : decode b_Mo_same 143 = .ok (.iload 5, 2) := by decide +kernel
theorem d_Mo_same_145 : decode b_Mo_same 145 = .ok (.iaload, 1) := by decide +kernel
theorem d_Mo_same_146 : decode b_Mo_same 146 = .ok (.istore 5, 2) := by decide +kernel
theorem d_Mo_same_148 : decode b_Mo_same 148 = .ok (.goto (-42), 3) := by decide +kernel
theorem d_Mo_same_151 : decode b_Mo_same 151 = .ok (.iload 4, 2) := by decide +kernel
theorem d_Mo_same_153 : decode b_Mo_same 153 = .ok (.ifCond .ge 7, 3) := by decide +kernel
theorem d_Mo_same_156 : decode b_Mo_same 156 = .ok (.iconst 1, 1) := by decide +kernel
theorem d_Mo_same_157 : decode b_Mo_same 157 = .ok (.goto 4, 3) := by decide +kernel
theorem d_Mo_same_160 : decode b_Mo_same 160 = .ok (.iconst 0, 1) := by decide +kernel
theorem d_Mo_same_161 : decode b_Mo_same 161 = .ok (.ireturn, 1) := by decide +kernel
theorem d_Mo_same_162 : decode b_Mo_same 162 = .ok (.aload_n 0, 1) := by decide +kernel
theorem d_Mo_same_163 : decode b_Mo_same 163 = .ok (.iload_n 1, 1) := by decide +kernel
theorem d_Mo_same_164 : decode b_Mo_same 164 = .ok (.invokevirtual 85, 3) := by decide +kernel
theorem d_Mo_same_167 : decode b_Mo_same 167 = .ok (.aload_n 2, 1) := by decide +kernel
theorem d_Mo_same_168 : decode b_Mo_same 168 = .ok (.iload_n 3, 1) := by decide +kernel
theorem d_Mo_same_169 : decode b_Mo_same 169 = .ok (.invokevirtual 85, 3) := by decide +kernel
theorem d_Mo_same_172 : decode b_Mo_same 172 = .ok (.if_icmp .eq 5, 3) := by decide +kernel
theorem d_Mo_same_175 : decode b_Mo_same 175 = .ok (.iconst 0, 1) := by decide +kernel
theorem d_Mo_same_176 : decode b_Mo_same 176 = .ok (.ireturn, 1) := by decide +kernel
theorem d_Mo_same_177 : decode b_Mo_same 177 = .ok (.aload_n 0, 1) := by decide +kernel
theorem d_Mo_same_178 : decode b_Mo_same 178 = .ok (.getfield 75, 3) := by decide +kernel
theorem d_Mo_same_181 : decode b_Mo_same 181 = .ok (.iload_n 1, 1) := by decide +kernel
theorem d_Mo_same_182 : decode b_Mo_same 182 = .ok (.iaload, 1) := by decide +kernel
theorem d_Mo_same_183 : decode b_Mo_same 183 = .ok (.istore 5, 2) := by decide +kernel
theorem d_Mo_same_185 : decode b_Mo_same 185 = .ok (.iload 5, 2) := by decide +kernel
theorem d_Mo_same_187 : decode b_Mo_same 187 = .ok (.ifCond .lt 56, 3) := by decide +kernel
theorem d_Mo_same_190 : decode b_Mo_same 190 = .ok (.aload_n 2, 1) := by decide +kernel
theorem d_Mo_same_191 : decode b_Mo_same 191 = .ok (.iload_n 3, 1) := by decide +kernel
theorem d_Mo_same_192 : decode b_Mo_same 192 = .ok (.aload_n 0, 1) := by decide +kernel
theorem d_Mo_same_193 : decode b_Mo_same 193 = .ok (.aload_n 0, 1) := by decide +kernel
theorem d_Mo_same_194 : decode b_Mo_same 194 = .ok (.getfield 89, 3) := by decide +kernel
theorem d_Mo_same_197 : decode b_Mo_same 197 = .ok (.iload 5, 2) := by decide +kernel
theorem d_Mo_same_199 : decode b_Mo_same 199 = .ok (.iaload, 1) := by decide +kernel
theorem d_Mo_same_200 : decode b_Mo_same 200 = .ok (.aload_n 0, 1) := by decide +kernel
theorem d_Mo_same_201 : decode b_Mo_same 201 = .ok (.getfield 92, 3) := by decide +kernel
theorem d_Mo_same_204 : decode b_Mo_same 204 = .ok (.iload 5, 2) := by decide +kernel
theorem d_Mo_same_206 : decode b_Mo_same 206 = .ok (.iaload, 1) := by decide +kernel
theorem d_Mo_same_207 : decode b_Mo_same 207 = .ok (.invokevirtual 95, 3) := by decide +kernel
theorem d_Mo_same_210 : decode b_Mo_same 210 = .ok (.istore 6, 2) := by decide +kernel
theorem d_Mo_same_212 : decode b_Mo_same 212 = .ok (.iload 6, 2) := by decide +kernel
theorem d_Mo_same_214 : decode b_Mo_same 214 = .ok (.ifCond .lt 15, 3) := by decide +kernel
theorem d_Mo_same_217 : decode b_Mo_same 217 = .ok (.aload_n 0, 1) := by decide +kernel
theorem d_Mo_same_218 : decode b_Mo_same 218 = .ok (.iload 5, 2) := by decide +kernel
theorem d_Mo_same_220 : decode b_Mo_same 220 = .ok (.aload_n 2, 1) := by decide +kernel
theorem d_Mo_same_221 : decode b_Mo_same 221 = .ok (.iload 6, 2) := by decide +kernel
theorem d_Mo_same_223 : decode b_Mo_same 223 = .ok (.invokestatic 78, 3) := by decide +kernel
theorem d_Mo_same_226 : decode b_Mo_same 226 = .ok (.ifCond .ne 5, 3) := by decide +kernel
theorem d_Mo_same_229 : decode b_Mo_same 229 = .ok (.iconst 0, 1) := by decide +kernel
theorem d_Mo_same_230 : decode b_Mo_same 230 = .ok (.ireturn, 1) := by decide +kernel
theorem d_Mo_same_231 : decode b_Mo_same 231 = .ok (.aload_n 0, 1) := by decide +kernel
theorem d_Mo_same_232 : decode b_Mo_same 232 = .ok (.getfield 82, 3) := by decide +kernel
theorem d_Mo_same_235 : decode b_Mo_same 235 = .ok (.iload 5, 2) := by decide +kernel
theorem d_Mo_same_237 : decode b_Mo_same 237 = .ok (.iaload, 1) := by decide +kernel
theorem d_Mo_same_238 : decode b_Mo_same 238 = .ok (.istore 5, 2) := by decide +kernel
theorem d_Mo_same_240 : decode b_Mo_same 240 = .ok (.goto (-55), 3) := by decide +kernel
theorem d_Mo_same_243 : decode b_Mo_same 243 = .ok (.iconst 1, 1) := by decide +kernel
theorem d_Mo_same_244 : decode b_Mo_same 244 = .ok (.ireturn, 1) := by decide +kernel
theorem d_Mo_same_245 : decode b_Mo_same 245 = .ok (.iconst 1, 1) := by decide +kernel
theorem d_Mo_same_246 : decode b_Mo_same 246 = .ok (.ireturn, 1) := by decide +kernel
/-- what same does, of a tree with itself -/
def SMC (r : Nat) : Prop := ∀ (l : Launch) (dC : Nat → ClassId) (dI : Nat → Nat → Nat) (t : Nat) (sz : Heap) (cI cL cC : ClassId) (T : TS) (x9 y9 : Nat) (u w : VU), TOK T → VX T x9 u → u.1 = r → VX T y9 w → Met l y_Mo_same (k_Mo_same :: gtbl) ({ frames := 3 + r, cells := 0, slots := 0, locals := 60 + 40 * r }) (va_Pc [.ref t, .int (nI x9), .ref t, .int (nI y9)] (mp dC dI [(t, .inr (12, MF 13 (tw T))), (T.a0, .inl (cI, T.N, .inl T.kd)), (T.a1, .inl (cL, T.N, .inr (.inl T.nu))), (T.a2, .inl (cI, T.N, .inl T.st)), (T.a3, .inl (cI, T.N, .inl T.ln)), (T.a4, .inl (cI, T.N, .inl T.ki)), (T.a5, .inl (cI, T.N, .inl T.nx)), (T.a6, .inl (cI, T.N, .inl T.ns)), (T.a7, .inl (cI, T.N, .inl T.nl)), (T.a8, .inl (cI, T.N, .inl T.pa)), (T.a9, .inl (cI, T.N, .inl T.pl)), (T.au, .inl (cC, T.U, .inl T.un))] [(cI, .int), (cL, .long), (cC, .char)] sz)) (va_Qi (fun (res : Int32) (_ : Unit) => res = bI (sameU u w)) (fun _ t9 => mz dC dI [(t, .inr (12, MF 13 (tw T))), (T.a0, .inl (cI, T.N, .inl T.kd)), (T.a1, .inl (cL, T.N, .inr (.inl T.nu))), (T.a2, .inl (cI, T.N, .inl T.st)), (T.a3, .inl (cI, T.N, .inl T.ln)), (T.a4, .inl (cI, T.N, .inl T.ki)), (T.a5, .inl (cI, T.N, .inl T.nx)), (T.a6, .inl (cI, T.N, .inl T.ns)), (T.a7, .inl (cI, T.N, .inl T.nl)), (T.a8, .inl (cI, T.N, .inl T.pa)), (T.a9, .inl (cI, T.N, .inl T.pl)), (T.au, .inl (cC, T.U, .inl T.un))] [(cI, .int), (cL, .long), (cC, .char)] (va_A [(t, .inr (12, MF 13 (tw T))), (T.a0, .inl (cI, T.N, .inl T.kd)), (T.a1, .inl (cL, T.N, .inr (.inl T.nu))), (T.a2, .inl (cI, T.N, .inl T.st)), (T.a3, .inl (cI, T.N, .inl T.ln)), (T.a4, .inl (cI, T.N, .inl T.ki)), (T.a5, .inl (cI, T.N, .inl T.nx)), (T.a6, .inl (cI, T.N, .inl T.ns)), (T.a7, .inl (cI, T.N, .inl T.nl)), (T.a8, .inl (cI, T.N, .inl T.pa)), (T.a9, .inl (cI, T.N, .inl T.pl)), (T.au, .inl (cC, T.U, .inl T.un))] sz.size) t9) (va_A [(t, .inr (12, MF 13 (tw T))), (T.a0, .inl (cI, T.N, .inl T.kd)), (T.a1, .inl (cL, T.N, .inr (.inl T.nu))), (T.a2, .inl (cI, T.N, .inl T.st)), (T.a3, .inl (cI, T.N, .inl T.ln)), (T.a4, .inl (cI, T.N, .inl T.ki)), (T.a5, .inl (cI, T.N, .inl T.nx)), (T.a6, .inl (cI, T.N, .inl T.ns)), (T.a7, .inl (cI, T.N, .inl T.nl)), (T.a8, .inl (cI, T.N, .inl T.pa)), (T.a9, .inl (cI, T.N, .inl T.pl)), (T.au, .inl (cC, T.U, .inl T.un))] sz.size)) 0 0 (va_A [(t, .inr (12, MF 13 (tw T))), (T.a0, .inl (cI, T.N, .inl T.kd)), (T.a1, .inl (cL, T.N, .inr (.inl T.nu))), (T.a2, .inl (cI, T.N, .inl T.st)), (T.a3, .inl (cI, T.N, .inl T.ln)), (T.a4, .inl (cI, T.N, .inl T.ki)), (T.a5, .inl (cI, T.N, .inl T.nx)), (T.a6, .inl (cI, T.N, .inl T.ns)), (T.a7, .inl (cI, T.N, .inl T.nl)), (T.a8, .inl (cI, T.N, .inl T.pa)), (T.a9, .inl (cI, T.N, .inl T.pl)), (T.au, .inl (cC, T.U, .inl T.un))] sz.size)
set_option maxHeartbeats 4000000 in
set_option maxRecDepth 100000 in
/-- the reference: same -/
theorem c_same1 (r : Nat) (hIH : ∀ r2, r2 < r → SMC r2) : SMC r := by
  intro l dC dI t sz cI cL cC T x9 y9 u w hT hX hrr hY
  refine Met.ofW (cc := b_Mo_same) (maxL := 7) (ret := (some .boolean)) (by decide) rfl ?_
  intro p e s m args below meth c s₁ B hml hv
  obtain ⟨rfl, hsz, hP, hK, hD0⟩ := hv
  have hx := B.exec
  have hb := B.bytes
  have hr := B.returns
  have hts0 := atoms_spec (ws := k_Mo_same :: gtbl) B.pre
  have hts := fun w h => hts0 w (List.mem_cons_of_mem _ h)
  have hown : s.vm.findClass R_Mo = some m.cls := findClass_of_methodNamed B.named
  have hlocks := B.notSynchronized
  subst hsz
  have hD := hD0.self (sz := s.heap.size)
  generalize hAe : va_A [(t, .inr (12, MF 13 (tw T))), (T.a0, .inl (cI, T.N, .inl T.kd)), (T.a1, .inl (cL, T.N, .inr (.inl T.nu))), (T.a2, .inl (cI, T.N, .inl T.st)), (T.a3, .inl (cI, T.N, .inl T.ln)), (T.a4, .inl (cI, T.N, .inl T.ki)), (T.a5, .inl (cI, T.N, .inl T.nx)), (T.a6, .inl (cI, T.N, .inl T.ns)), (T.a7, .inl (cI, T.N, .inl T.nl)), (T.a8, .inl (cI, T.N, .inl T.pa)), (T.a9, .inl (cI, T.N, .inl T.pl)), (T.au, .inl (cC, T.U, .inl T.un))] s.heap.size = A at hD ⊢
  have hA : ∀ q : Nat, s.heap.size ≤ q → A q := fun q h => by rw [← hAe]; exact Or.inr h
  have hS : va_S A s.heap s.heap [] := va_S.rf
  have hP : va_P (dC, dI) classes [(t, .inr (12, MF 13 (tw T))), (T.a0, .inl (cI, T.N, .inl T.kd)), (T.a1, .inl (cL, T.N, .inr (.inl T.nu))), (T.a2, .inl (cI, T.N, .inl T.st)), (T.a3, .inl (cI, T.N, .inl T.ln)), (T.a4, .inl (cI, T.N, .inl T.ki)), (T.a5, .inl (cI, T.N, .inl T.nx)), (T.a6, .inl (cI, T.N, .inl T.ns)), (T.a7, .inl (cI, T.N, .inl T.nl)), (T.a8, .inl (cI, T.N, .inl T.pa)), (T.a9, .inl (cI, T.N, .inl T.pl)), (T.au, .inl (cC, T.U, .inl T.un))] s.heap := hP
  have hl := lv_entry ([.ref t, .int (nI x9), .ref t, .int (nI y9)]) (n := 7) (Nat.le_of_ble_eq_true rfl)
  rw [lg_entry_eq]
  generalize (lg_sl ([.ref t, .int (nI x9), .ref t, .int (nI y9)]) ++ List.replicate (7 - (lg_sl ([.ref t, .int (nI x9), .ref t, .int (nI y9)])).length) Slot.unset).toArray = ls at hl ⊢
  have hl : lv_has ls 7 [(0, .ref t), (1, .int (nI x9)), (2, .ref t), (3, .int (nI y9))] := hl
  obtain ⟨ho1, ho2, ho3, ho4, ho5, ho6, ho7⟩ := hT
  have hT : TOK T := ⟨ho1, ho2, ho3, ho4, ho5, ho6, ho7⟩
  have hxc := hX.vr.lt
  have hyc := hY.vr.lt
  obtain ⟨ks, hch, hkq, hkn, hkm, hkl, hkc⟩ := hX.kids
  obtain ⟨kt, hct, htq, htn, htm, htl, htc⟩ := hY.kids
  have hy6 := hX.kdq.2
  have hyk : (lfU u).1 = 0 ∨ (lfU u).1 = 1 ∨ (lfU u).1 = 2 ∨ (lfU u).1 = 3 ∨ (lfU u).1 = 4 ∨ (lfU u).1 = 5 ∨ (lfU u).1 = 6 := by omega
  have hu0 := wf_lf0 hX.2
  refine lv_aload_n hx hb d_Mo_same_0 rfl (lv_at hl 0 rfl) ?_
  refine va_get (D := (dC, dI)) (ci := 12) (v := .ref T.a0) (C := R_Tree) (T := F_Tree) (N := 13) hx hb hts in_Tree hown hK hP 0 rfl rfl 0 (by decide) (hts _ w_1035) (fun _ h9 => h9) (MFg (by decide) rfl) d_Mo_same_1 ?_
  refine lv_iload_n hx hb d_Mo_same_4 rfl (lv_at hl 1 rfl) ?_
  refine va_iald hx hb hK hP 1 0 rfl rfl (vp_in_nI (show x9 < T.N by omega) (by omega)) d_Mo_same_5 ?_
  rw [show (nI x9).toNatClampNeg = x9 from nI_clamp (by omega)]
  refine lv_aload_n hx hb d_Mo_same_6 rfl (lv_at hl 2 rfl) ?_
  refine va_get (D := (dC, dI)) (ci := 12) (v := .ref T.a0) (C := R_Tree) (T := F_Tree) (N := 13) hx hb hts in_Tree hown hK hP 0 rfl rfl 0 (by decide) (hts _ w_1035) (fun _ h9 => h9) (MFg (by decide) rfl) d_Mo_same_7 ?_
  refine lv_iload_n hx hb d_Mo_same_10 rfl (lv_at hl 3 rfl) ?_
  refine va_iald hx hb hK hP 1 0 rfl rfl (vp_in_nI (show y9 < T.N by omega) (by omega)) d_Mo_same_11 ?_
  rw [show (nI y9).toNatClampNeg = y9 from nI_clamp (by omega)]
  refine lv_icmp_eq (tgt := 17) hx hb d_Mo_same_12 (by decide) (fun c12 => ?_) (fun c12 => ?_)
  · refine lv_aload_n hx hb d_Mo_same_17 rfl (lv_at hl 0 rfl) ?_
    refine va_get (D := (dC, dI)) (ci := 12) (v := .ref T.a0) (C := R_Tree) (T := F_Tree) (N := 13) hx hb hts in_Tree hown hK hP 0 rfl rfl 0 (by decide) (hts _ w_1035) (fun _ h9 => h9) (MFg (by decide) rfl) d_Mo_same_18 ?_
    refine lv_iload_n hx hb d_Mo_same_21 rfl (lv_at hl 1 rfl) ?_
    refine va_iald hx hb hK hP 1 0 rfl rfl (vp_in_nI (show x9 < T.N by omega) (by omega)) d_Mo_same_22 ?_
    rw [show (nI x9).toNatClampNeg = x9 from nI_clamp (by omega)]
    rcases hyk with hyk | hyk | hyk | hyk | hyk | hyk | hyk
    · have hkx : T.kd x9 = 0 := (hX.kd (k := 0) (by decide)).mpr hyk
      have hkk : (lfU u).1 = (lfU w).1 := (hX.kkn hY).mp c12
      refine W.eq (g2 := F0 m 23 ls [.int 0]) (by rw [show (T.kd x9) = 0 from hkx]) ?_
      refine lv_tableOut (x := 0) (tgt := 245) hx hb d_Mo_same_23 (by decide) (by decide) ?_
      refine lv_iconst (v := 1) hx hb d_Mo_same_245 (by decide) ?_
      exact W.zret (v := 1) hx hb hr rfl (fun t9 ht hW => ⟨⟨1, (), rfl, (by rw [sameU_0 hu0 hkk (by omega)]; rfl), by rw [ht]; exact hP, va_K.moved hW.alike hK, hD⟩, hS.F ht⟩) hS.2.2 d_Mo_same_246
    · have hkx : T.kd x9 = 1 := (hX.kd (k := 1) (by decide)).mpr hyk
      have hkk : (lfU u).1 = (lfU w).1 := (hX.kkn hY).mp c12
      refine W.eq (g2 := F0 m 23 ls [.int 1]) (by rw [show (T.kd x9) = 1 from hkx]) ?_
      refine lv_tableOut (x := 1) (tgt := 245) hx hb d_Mo_same_23 (by decide) (by decide) ?_
      refine lv_iconst (v := 1) hx hb d_Mo_same_245 (by decide) ?_
      exact W.zret (v := 1) hx hb hr rfl (fun t9 ht hW => ⟨⟨1, (), rfl, (by rw [sameU_0 hu0 hkk (by omega)]; rfl), by rw [ht]; exact hP, va_K.moved hW.alike hK, hD⟩, hS.F ht⟩) hS.2.2 d_Mo_same_246
    · have hkx : T.kd x9 = 2 := (hX.kd (k := 2) (by decide)).mpr hyk
      have hkk : (lfU u).1 = (lfU w).1 := (hX.kkn hY).mp c12
      refine W.eq (g2 := F0 m 23 ls [.int 2]) (by rw [show (T.kd x9) = 2 from hkx]) ?_
      refine lv_tableOut (x := 2) (tgt := 245) hx hb d_Mo_same_23 (by decide) (by decide) ?_
      refine lv_iconst (v := 1) hx hb d_Mo_same_245 (by decide) ?_
      exact W.zret (v := 1) hx hb hr rfl (fun t9 ht hW => ⟨⟨1, (), rfl, (by rw [sameU_0 hu0 hkk (by omega)]; rfl), by rw [ht]; exact hP, va_K.moved hW.alike hK, hD⟩, hS.F ht⟩) hS.2.2 d_Mo_same_246
    · have hkx : T.kd x9 = 3 := (hX.kd (k := 3) (by decide)).mpr hyk
      have hkk : (lfU u).1 = (lfU w).1 := (hX.kkn hY).mp c12
      refine W.eq (g2 := F0 m 23 ls [.int 3]) (by rw [show (T.kd x9) = 3 from hkx]) ?_
      refine lv_tableIn (x := 3) (off := 29) (tgt := 52) hx hb d_Mo_same_23 (by decide) (by decide) rfl (by decide) ?_
      refine lv_aload_n hx hb d_Mo_same_52 rfl (lv_at hl 0 rfl) ?_
      refine va_get (D := (dC, dI)) (ci := 12) (v := .ref T.a1) (C := R_Tree) (T := F_Tree) (N := 13) hx hb hts in_Tree hown hK hP 0 rfl rfl 1 (by decide) (hts _ w_1037) (fun _ h9 => h9) (MFg (by decide) rfl) d_Mo_same_53 ?_
      refine lv_iload_n hx hb d_Mo_same_56 rfl (lv_at hl 1 rfl) ?_
      refine va_lald hx hb hK hP 2 1 rfl rfl (vp_in_nI (show x9 < T.N by omega) (by omega)) d_Mo_same_57 ?_
      rw [show (nI x9).toNatClampNeg = x9 from nI_clamp (by omega)]
      refine lv_aload_n hx hb d_Mo_same_58 rfl (lv_at hl 2 rfl) ?_
      refine va_get (D := (dC, dI)) (ci := 12) (v := .ref T.a1) (C := R_Tree) (T := F_Tree) (N := 13) hx hb hts in_Tree hown hK hP 0 rfl rfl 1 (by decide) (hts _ w_1037) (fun _ h9 => h9) (MFg (by decide) rfl) d_Mo_same_59 ?_
      refine lv_iload_n hx hb d_Mo_same_62 rfl (lv_at hl 3 rfl) ?_
      refine va_lald hx hb hK hP 2 1 rfl rfl (vp_in_nI (show y9 < T.N by omega) (by omega)) d_Mo_same_63 ?_
      rw [show (nI y9).toNatClampNeg = y9 from nI_clamp (by omega)]
      refine W.lcmp hx hb d_Mo_same_64 ?_
      refine lv_if_ne (tgt := 72) hx hb d_Mo_same_65 (by decide) (fun c65 => ?_) (fun c65 => ?_)
      · refine lv_iconst (v := 0) hx hb d_Mo_same_72 (by decide) ?_
        exact W.zret (v := 0) hx hb hr rfl (fun t9 ht hW => ⟨⟨0, (), rfl, (by rw [sameU_3 hu0 hkk hyk, ← hX.num hyk, ← hY.num (hkk.symm.trans hyk), decide_eq_false (lc_ne c65)]; rfl), by rw [ht]; exact hP, va_K.moved hW.alike hK, hD⟩, hS.F ht⟩) hS.2.2 d_Mo_same_73
      · refine lv_iconst (v := 1) hx hb d_Mo_same_68 (by decide) ?_
        refine lv_goto (tgt := 73) hx hb d_Mo_same_69 (by decide) ?_
        exact W.zret (v := 1) hx hb hr rfl (fun t9 ht hW => ⟨⟨1, (), rfl, (by rw [sameU_3 hu0 hkk hyk, ← hX.num hyk, ← hY.num (hkk.symm.trans hyk), decide_eq_true (lc_eq (by first | exact c65 | exact Classical.not_not.mp c65))]; rfl), by rw [ht]; exact hP, va_K.moved hW.alike hK, hD⟩, hS.F ht⟩) hS.2.2 d_Mo_same_73
    · have hkx : T.kd x9 = 4 := (hX.kd (k := 4) (by decide)).mpr hyk
      have hkk : (lfU u).1 = (lfU w).1 := (hX.kkn hY).mp c12
      refine W.eq (g2 := F0 m 23 ls [.int 4]) (by rw [show (T.kd x9) = 4 from hkx]) ?_
      refine lv_tableIn (x := 4) (off := 51) (tgt := 74) hx hb d_Mo_same_23 (by decide) (by decide) rfl (by decide) ?_
      refine lv_aload_n hx hb d_Mo_same_74 rfl (lv_at hl 0 rfl) ?_
      refine lv_iload_n hx hb d_Mo_same_75 rfl (lv_at hl 1 rfl) ?_
      refine lv_aload_n hx hb d_Mo_same_76 rfl (lv_at hl 2 rfl) ?_
      refine lv_iload_n hx hb d_Mo_same_77 rfl (lv_at hl 3 rfl) ?_
      obtain ⟨sx, lx, g1, g2, g3, gx, gu⟩ := hX.str hyk
      obtain ⟨sy, ly, g4, g5, g6, gy, gv⟩ := hY.str (hkk.symm.trans hyk)
      have hPc := hP.sub (ws' := [(t, .inr (12, MF 13 (tw T))), (T.a2, .inl (cI, T.N, .inl T.st)), (T.a3, .inl (cI, T.N, .inl T.ln)), (T.au, .inl (cC, T.U, .inl T.un))]) [0, 3, 4, 11] rfl
      have hDc := hD.sub (ws' := [(t, .inr (12, MF 13 (tw T))), (T.a2, .inl (cI, T.N, .inl T.st)), (T.a3, .inl (cI, T.N, .inl T.ln)), (T.au, .inl (cC, T.U, .inl T.un))]) [0, 3, 4, 11] (by decide) rfl
      have hKc := hK.sub (tys' := [(cI, .int), (cC, .char)]) [0, 2] rfl
      have hFc := va_free (wc := [(t, .inr (12, MF 13 (tw T))), (T.a2, .inl (cI, T.N, .inl T.st)), (T.a3, .inl (cI, T.N, .inl T.ln)), (T.au, .inl (cC, T.U, .inl T.un))]) hD hS hA [0, 3, 4, 11] rfl
      refine va_calli (va_runS (As := [.ref t, .int (nI x9), .ref t, .int (nI y9)]) (rest := []) ⟨hx, hb, hml, hown, hts⟩ (c_Mo_order l dC dI t s.heap cI cC T x9 y9 sx lx sy ly hT (by omega) (by omega) g1 g2 g3 g4 g5 g6 gu gv) (va_cwS 4 hts (gt_S (own := R_Mo) (i := 71) (y := y_Mo_order) i_Mo_order w_1558 w_1559 w_7) rfl rfl rfl (by decide +kernel) ⟨Nat.le_trans (m := 3) (Nat.le_of_ble_eq_true rfl) (by show 3 ≤ 3 + r; omega), Nat.le_trans (m := 60) (Nat.le_of_ble_eq_true rfl) (by show 60 ≤ 60 + 40 * r; omega)⟩) ⟨mp_blind, fun U hU hW => ⟨rfl, hU, by rw [hU]; exact hPc, va_K.moved hW.alike hKc, hDc.weaken (fun _ _ _ _ => trivial)⟩⟩ rfl rfl hl.1 rfl (lv_room (Nat.le_of_ble_eq_true rfl)) d_Mo_same_78 ⟨Nat.zero_le _, Nat.zero_le _⟩) hS (fun q _ h => hFc q h) hFc (fun r0 _u t9 H1 locs ht hvm hw hB hz1 hk1 hS => ?_)
      obtain ⟨hP1, hK1, hD1⟩ := hB
      rw [ht] at hP1
      obtain ⟨hP, hD⟩ := va_join (wr := [(T.a0, .inl (cI, T.N, .inl T.kd)), (T.a1, .inl (cL, T.N, .inr (.inl T.nu))), (T.a4, .inl (cI, T.N, .inl T.ki)), (T.a5, .inl (cI, T.N, .inl T.nx)), (T.a6, .inl (cI, T.N, .inl T.ns)), (T.a7, .inl (cI, T.N, .inl T.nl)), (T.a8, .inl (cI, T.N, .inl T.pa)), (T.a9, .inl (cI, T.N, .inl T.pl))]) (w1 := [(t, .inr (12, MF 13 (tw T))), (T.a2, .inl (cI, T.N, .inl T.st)), (T.a3, .inl (cI, T.N, .inl T.ln)), (T.au, .inl (cC, T.U, .inl T.un))]) hP hD [0, 3, 4, 11] [1, 2, 5, 6, 7, 8, 9, 10] rfl rfl (by decide) (by decide) hk1 hFc hP1 hD1
      generalize H1 = H at hP hS ⊢
      have hP : va_P (dC, dI) classes [(T.a0, .inl (cI, T.N, .inl T.kd)), (T.a1, .inl (cL, T.N, .inr (.inl T.nu))), (T.a4, .inl (cI, T.N, .inl T.ki)), (T.a5, .inl (cI, T.N, .inl T.nx)), (T.a6, .inl (cI, T.N, .inl T.ns)), (T.a7, .inl (cI, T.N, .inl T.nl)), (T.a8, .inl (cI, T.N, .inl T.pa)), (T.a9, .inl (cI, T.N, .inl T.pl)), (t, .inr (12, MF 13 (tw T))), (T.a2, .inl (cI, T.N, .inl T.st)), (T.a3, .inl (cI, T.N, .inl T.ln)), (T.au, .inl (cC, T.U, .inl T.un))] H := hP
      have hD : va_D A [(T.a0, .inl (cI, T.N, .inl T.kd)), (T.a1, .inl (cL, T.N, .inr (.inl T.nu))), (T.a4, .inl (cI, T.N, .inl T.ki)), (T.a5, .inl (cI, T.N, .inl T.nx)), (T.a6, .inl (cI, T.N, .inl T.ns)), (T.a7, .inl (cI, T.N, .inl T.nl)), (T.a8, .inl (cI, T.N, .inl T.pa)), (T.a9, .inl (cI, T.N, .inl T.pl)), (t, .inr (12, MF 13 (tw T))), (T.a2, .inl (cI, T.N, .inl T.st)), (T.a3, .inl (cI, T.N, .inl T.ln)), (T.au, .inl (cC, T.U, .inl T.un))] := hD
      have hP := hP.sub (ws' := [(t, .inr (12, MF 13 (tw T))), (T.a0, .inl (cI, T.N, .inl T.kd)), (T.a1, .inl (cL, T.N, .inr (.inl T.nu))), (T.a2, .inl (cI, T.N, .inl T.st)), (T.a3, .inl (cI, T.N, .inl T.ln)), (T.a4, .inl (cI, T.N, .inl T.ki)), (T.a5, .inl (cI, T.N, .inl T.nx)), (T.a6, .inl (cI, T.N, .inl T.ns)), (T.a7, .inl (cI, T.N, .inl T.nl)), (T.a8, .inl (cI, T.N, .inl T.pa)), (T.a9, .inl (cI, T.N, .inl T.pl)), (T.au, .inl (cC, T.U, .inl T.un))]) [8, 0, 1, 9, 10, 2, 3, 4, 5, 6, 7, 11] rfl
      have hD := hD.sub (ws' := [(t, .inr (12, MF 13 (tw T))), (T.a0, .inl (cI, T.N, .inl T.kd)), (T.a1, .inl (cL, T.N, .inr (.inl T.nu))), (T.a2, .inl (cI, T.N, .inl T.st)), (T.a3, .inl (cI, T.N, .inl T.ln)), (T.a4, .inl (cI, T.N, .inl T.ki)), (T.a5, .inl (cI, T.N, .inl T.nx)), (T.a6, .inl (cI, T.N, .inl T.ns)), (T.a7, .inl (cI, T.N, .inl T.nl)), (T.a8, .inl (cI, T.N, .inl T.pa)), (T.a9, .inl (cI, T.N, .inl T.pl)), (T.au, .inl (cC, T.U, .inl T.un))]) [8, 0, 1, 9, 10, 2, 3, 4, 5, 6, 7, 11] (by decide) rfl
      have h_r0 : r0 = ordV (sl T.un sx lx) (sl T.un sy ly) := hw
      refine lv_if_ne (tgt := 88) hx hb d_Mo_same_81 (by decide) (fun c81 => ?_) (fun c81 => ?_)
      · refine lv_iconst (v := 0) hx hb d_Mo_same_88 (by decide) ?_
        exact W.zret (v := 0) hx hb hr rfl (fun t9 ht hW => ⟨⟨0, (), rfl, (by rw [sameU_4 hu0 hkk hyk, ← gx, ← gy, decide_eq_false (fun e => c81 (h_r0.trans (ord_z.mpr e)))]; rfl), by rw [ht]; exact hP, va_K.moved hW.alike hK, hD⟩, hS.F ht⟩) hS.2.2 d_Mo_same_89
      · refine lv_iconst (v := 1) hx hb d_Mo_same_84 (by decide) ?_
        refine lv_goto (tgt := 89) hx hb d_Mo_same_85 (by decide) ?_
        exact W.zret (v := 1) hx hb hr rfl (fun t9 ht hW => ⟨⟨1, (), rfl, (by rw [sameU_4 hu0 hkk hyk, ← gx, ← gy, decide_eq_true (ord_z.mp (h_r0.symm.trans (by first | exact c81 | exact Classical.not_not.mp c81)))]; rfl), by rw [ht]; exact hP, va_K.moved hW.alike hK, hD⟩, hS.F ht⟩) hS.2.2 d_Mo_same_89
    · have hkx : T.kd x9 = 5 := (hX.kd (k := 5) (by decide)).mpr hyk
      have hkk : (lfU u).1 = (lfU w).1 := (hX.kkn hY).mp c12
      refine W.eq (g2 := F0 m 23 ls [.int 5]) (by rw [show (T.kd x9) = 5 from hkx]) ?_
      refine lv_tableIn (x := 5) (off := 67) (tgt := 90) hx hb d_Mo_same_23 (by decide) (by decide) rfl (by decide) ?_
      refine lv_aload_n hx hb d_Mo_same_90 rfl (lv_at hl 2 rfl) ?_
      refine va_get (D := (dC, dI)) (ci := 12) (v := .ref T.a4) (C := R_Tree) (T := F_Tree) (N := 13) hx hb hts in_Tree hown hK hP 0 rfl rfl 4 (by decide) (hts _ w_1043) (fun _ h9 => h9) (MFg (by decide) rfl) d_Mo_same_91 ?_
      refine lv_iload_n hx hb d_Mo_same_94 rfl (lv_at hl 3 rfl) ?_
      refine va_iald hx hb hK hP 5 0 rfl rfl (vp_in_nI (show y9 < T.N by omega) (by omega)) d_Mo_same_95 ?_
      rw [show (nI y9).toNatClampNeg = y9 from nI_clamp (by omega)]
      refine lv_istore (lv' := [(4, .int (T.ki y9)), (0, .ref t), (1, .int (nI x9)), (2, .ref t), (3, .int (nI y9))]) hx hb d_Mo_same_96 hl (by decide) rfl (fun ls hl => ?_)
      refine lv_aload_n hx hb d_Mo_same_98 rfl (lv_at hl 1 rfl) ?_
      refine va_get (D := (dC, dI)) (ci := 12) (v := .ref T.a4) (C := R_Tree) (T := F_Tree) (N := 13) hx hb hts in_Tree hown hK hP 0 rfl rfl 4 (by decide) (hts _ w_1043) (fun _ h9 => h9) (MFg (by decide) rfl) d_Mo_same_99 ?_
      refine lv_iload_n hx hb d_Mo_same_102 rfl (lv_at hl 2 rfl) ?_
      refine va_iald hx hb hK hP 5 0 rfl rfl (vp_in_nI (show x9 < T.N by omega) (by omega)) d_Mo_same_103 ?_
      rw [show (nI x9).toNatClampNeg = x9 from nI_clamp (by omega)]
      refine lv_istore (lv' := [(5, .int (T.ki x9)), (4, .int (T.ki y9)), (0, .ref t), (1, .int (nI x9)), (2, .ref t), (3, .int (nI y9))]) hx hb d_Mo_same_104 hl (by decide) rfl (fun ls hl => ?_)
      refine w_loop (D := (dC, dI)) (cl := classes) (A := A) (H0 := s.heap) (nL := 7) 106 (σ := List Nat × List Nat × Int32 × Int32 × Nat) (fun ⟨cs, ct, i, j, n9⟩ => chn T.nx T.ct cs i ∧ ks.drop n9 = cs ∧ chn T.nx T.ct ct j ∧ kt.drop n9 = ct ∧ sameU u w = sm5 ((ksU u).drop n9) ((ksU w).drop n9)) (fun ⟨cs, ct, i, j, n9⟩ => cs.length) (fun ⟨cs, ct, i, j, n9⟩ => [(t, .inr (12, MF 13 (tw T))), (T.a0, .inl (cI, T.N, .inl T.kd)), (T.a1, .inl (cL, T.N, .inr (.inl T.nu))), (T.a2, .inl (cI, T.N, .inl T.st)), (T.a3, .inl (cI, T.N, .inl T.ln)), (T.a4, .inl (cI, T.N, .inl T.ki)), (T.a5, .inl (cI, T.N, .inl T.nx)), (T.a6, .inl (cI, T.N, .inl T.ns)), (T.a7, .inl (cI, T.N, .inl T.nl)), (T.a8, .inl (cI, T.N, .inl T.pa)), (T.a9, .inl (cI, T.N, .inl T.pl)), (T.au, .inl (cC, T.U, .inl T.un))]) (fun ⟨cs, ct, i, j, n9⟩ => [(0, .ref t), (1, .int (nI x9)), (2, .ref t), (3, .int (nI y9)), (4, .int j), (5, .int i)]) ?_ (ks, kt, T.ki x9, T.ki y9, 0) ⟨hch, rfl, hct, rfl, sameU_5 hu0 hkk hyk⟩ hP hD hS (lv_sub hl [2, 3, 4, 5, 1, 0] rfl)
      rintro ⟨cs, ct, i, j, n9⟩ H locs ls hI ih hP hD hS hl
      have hP : va_P (dC, dI) classes [(t, .inr (12, MF 13 (tw T))), (T.a0, .inl (cI, T.N, .inl T.kd)), (T.a1, .inl (cL, T.N, .inr (.inl T.nu))), (T.a2, .inl (cI, T.N, .inl T.st)), (T.a3, .inl (cI, T.N, .inl T.ln)), (T.a4, .inl (cI, T.N, .inl T.ki)), (T.a5, .inl (cI, T.N, .inl T.nx)), (T.a6, .inl (cI, T.N, .inl T.ns)), (T.a7, .inl (cI, T.N, .inl T.nl)), (T.a8, .inl (cI, T.N, .inl T.pa)), (T.a9, .inl (cI, T.N, .inl T.pl)), (T.au, .inl (cC, T.U, .inl T.un))] H := hP
      have hD : va_D A [(t, .inr (12, MF 13 (tw T))), (T.a0, .inl (cI, T.N, .inl T.kd)), (T.a1, .inl (cL, T.N, .inr (.inl T.nu))), (T.a2, .inl (cI, T.N, .inl T.st)), (T.a3, .inl (cI, T.N, .inl T.ln)), (T.a4, .inl (cI, T.N, .inl T.ki)), (T.a5, .inl (cI, T.N, .inl T.nx)), (T.a6, .inl (cI, T.N, .inl T.ns)), (T.a7, .inl (cI, T.N, .inl T.nl)), (T.a8, .inl (cI, T.N, .inl T.pa)), (T.a9, .inl (cI, T.N, .inl T.pl)), (T.au, .inl (cC, T.U, .inl T.un))] := hD
      have hl : lv_has ls 7 [(0, .ref t), (1, .int (nI x9)), (2, .ref t), (3, .int (nI y9)), (4, .int j), (5, .int i)] := hl
      obtain ⟨hA1, hA2, hB1, hB2, hsm⟩ := hI
      have hcs_cs : cs = [] ∨ ∃ k_cs r_cs, cs = k_cs :: r_cs := by cases cs with | nil => exact Or.inl rfl | cons a r => exact Or.inr ⟨a, r, rfl⟩
      rcases hcs_cs with hc_cs | ⟨k_cs, r_cs, hc_cs⟩
      · rw [hc_cs] at hA1
        have hA1 : i < 0 := hA1
        have hnl_cs := drop_n (hA2.trans hc_cs)
        have hcs_ct : ct = [] ∨ ∃ k_ct r_ct, ct = k_ct :: r_ct := by cases ct with | nil => exact Or.inl rfl | cons a r => exact Or.inr ⟨a, r, rfl⟩
        rcases hcs_ct with hc_ct | ⟨k_ct, r_ct, hc_ct⟩
        · rw [hc_ct] at hB1
          have hB1 : j < 0 := hB1
          have hnl_ct := drop_n (hB2.trans hc_ct)
          refine lv_iload hx hb d_Mo_same_106 (lv_at hl 5 rfl) ?_
          refine lv_if_lt (tgt := 151) hx hb d_Mo_same_108 (by decide) (fun _ => ?_) (fun h => absurd hA1 h)
          refine lv_iload hx hb d_Mo_same_151 (lv_at hl 4 rfl) ?_
          refine lv_if_ge (tgt := 160) hx hb d_Mo_same_153 (by decide) (fun h => absurd h (Int32.not_le.mpr hB1)) (fun _ => ?_)
          refine lv_iconst (v := 1) hx hb d_Mo_same_156 (by decide) ?_
          refine lv_goto (tgt := 161) hx hb d_Mo_same_157 (by decide) ?_
          exact W.zret (v := 1) hx hb hr rfl (fun t9 ht hW => ⟨⟨1, (), rfl, (by rw [hsm, sm5_n2 (by omega), decide_eq_true (by omega)]; rfl), by rw [ht]; exact hP, va_K.moved hW.alike hK, hD⟩, hS.F ht⟩) hS.2.2 d_Mo_same_161
        · rw [hc_ct] at hB1
          obtain ⟨hk_ct, hkc_ct, hC_ct⟩ := hB1
          obtain ⟨hix_ct, hdr_ct⟩ := drop_c (hB2.trans hc_ct)
          obtain ⟨d8, hd8⟩ : ∃ c, (ksU w)[n9]? = some c := ⟨_, List.getElem?_eq_getElem (by have := (List.getElem?_eq_some_iff.mp hix_ct).1; omega)⟩
          rw [hk_ct] at hl
          have hl : lv_has ls 7 [(0, .ref t), (1, .int (nI x9)), (2, .ref t), (3, .int (nI y9)), (4, .int (nI k_ct)), (5, .int i)] := hl
          refine lv_iload hx hb d_Mo_same_106 (lv_at hl 5 rfl) ?_
          refine lv_if_lt (tgt := 151) hx hb d_Mo_same_108 (by decide) (fun _ => ?_) (fun h => absurd hA1 h)
          refine lv_iload hx hb d_Mo_same_151 (lv_at hl 4 rfl) ?_
          refine lv_if_ge (tgt := 160) hx hb d_Mo_same_153 (by decide) (fun _ => ?_) (fun h => absurd (nI_pos' (by omega)) h)
          refine lv_iconst (v := 0) hx hb d_Mo_same_160 (by decide) ?_
          exact W.zret (v := 0) hx hb hr rfl (fun t9 ht hW => ⟨⟨0, (), rfl, (by rw [hsm, sm5_n2 (by omega), decide_eq_false (by have := (List.getElem?_eq_some_iff.mp hd8).1; omega)]; rfl), by rw [ht]; exact hP, va_K.moved hW.alike hK, hD⟩, hS.F ht⟩) hS.2.2 d_Mo_same_161
      · rw [hc_cs] at hA1
        obtain ⟨hk_cs, hkc_cs, hC_cs⟩ := hA1
        obtain ⟨hix_cs, hdr_cs⟩ := drop_c (hA2.trans hc_cs)
        obtain ⟨c8, hc8⟩ : ∃ c, (ksU u)[n9]? = some c := ⟨_, List.getElem?_eq_getElem (by have := (List.getElem?_eq_some_iff.mp hix_cs).1; omega)⟩
        rw [hk_cs] at hl
        have hl : lv_has ls 7 [(0, .ref t), (1, .int (nI x9)), (2, .ref t), (3, .int (nI y9)), (4, .int j), (5, .int (nI k_cs))] := hl
        have hcs_ct : ct = [] ∨ ∃ k_ct r_ct, ct = k_ct :: r_ct := by cases ct with | nil => exact Or.inl rfl | cons a r => exact Or.inr ⟨a, r, rfl⟩
        rcases hcs_ct with hc_ct | ⟨k_ct, r_ct, hc_ct⟩
        · rw [hc_ct] at hB1
          have hB1 : j < 0 := hB1
          have hnl_ct := drop_n (hB2.trans hc_ct)
          refine lv_iload hx hb d_Mo_same_106 (lv_at hl 5 rfl) ?_
          refine lv_if_lt (tgt := 151) hx hb d_Mo_same_108 (by decide) (fun h => absurd h (nI_pos (by omega))) (fun _ => ?_)
          refine lv_iload hx hb d_Mo_same_111 (lv_at hl 4 rfl) ?_
          refine lv_if_lt (tgt := 128) hx hb d_Mo_same_113 (by decide) (fun _ => ?_) (fun h => absurd hB1 h)
          refine lv_iconst (v := 0) hx hb d_Mo_same_128 (by decide) ?_
          exact W.zret (v := 0) hx hb hr rfl (fun t9 ht hW => ⟨⟨0, (), rfl, (by rw [hsm, sm5_n1 (by have := (List.getElem?_eq_some_iff.mp hc8).1; omega) (by omega)]; rfl), by rw [ht]; exact hP, va_K.moved hW.alike hK, hD⟩, hS.F ht⟩) hS.2.2 d_Mo_same_129
        · rw [hc_ct] at hB1
          obtain ⟨hk_ct, hkc_ct, hC_ct⟩ := hB1
          obtain ⟨hix_ct, hdr_ct⟩ := drop_c (hB2.trans hc_ct)
          obtain ⟨d8, hd8⟩ : ∃ c, (ksU w)[n9]? = some c := ⟨_, List.getElem?_eq_getElem (by have := (List.getElem?_eq_some_iff.mp hix_ct).1; omega)⟩
          rw [hk_ct] at hl
          have hl : lv_has ls 7 [(0, .ref t), (1, .int (nI x9)), (2, .ref t), (3, .int (nI y9)), (4, .int (nI k_ct)), (5, .int (nI k_cs))] := hl
          refine lv_iload hx hb d_Mo_same_106 (lv_at hl 5 rfl) ?_
          refine lv_if_lt (tgt := 151) hx hb d_Mo_same_108 (by decide) (fun h => absurd h (nI_pos (by omega))) (fun _ => ?_)
          refine lv_iload hx hb d_Mo_same_111 (lv_at hl 4 rfl) ?_
          refine lv_if_lt (tgt := 128) hx hb d_Mo_same_113 (by decide) (fun h => absurd h (nI_pos (by omega))) (fun _ => ?_)
          refine lv_aload_n hx hb d_Mo_same_116 rfl (lv_at hl 0 rfl) ?_
          refine lv_iload hx hb d_Mo_same_117 (lv_at hl 5 rfl) ?_
          refine lv_aload_n hx hb d_Mo_same_119 rfl (lv_at hl 2 rfl) ?_
          refine lv_iload hx hb d_Mo_same_120 (lv_at hl 4 rfl) ?_
          obtain ⟨hv1, hq1, _⟩ := hkn n9 k_cs c8 hix_cs hc8
          obtain ⟨hv2, _, _⟩ := htn n9 k_ct d8 hix_ct hd8
          have hPc := hP.sub (ws' := [(t, .inr (12, MF 13 (tw T))), (T.a0, .inl (cI, T.N, .inl T.kd)), (T.a1, .inl (cL, T.N, .inr (.inl T.nu))), (T.a2, .inl (cI, T.N, .inl T.st)), (T.a3, .inl (cI, T.N, .inl T.ln)), (T.a4, .inl (cI, T.N, .inl T.ki)), (T.a5, .inl (cI, T.N, .inl T.nx)), (T.a6, .inl (cI, T.N, .inl T.ns)), (T.a7, .inl (cI, T.N, .inl T.nl)), (T.a8, .inl (cI, T.N, .inl T.pa)), (T.a9, .inl (cI, T.N, .inl T.pl)), (T.au, .inl (cC, T.U, .inl T.un))]) [0, 1, 2, 3, 4, 5, 6, 7, 8, 9, 10, 11] rfl
          have hDc := hD.sub (ws' := [(t, .inr (12, MF 13 (tw T))), (T.a0, .inl (cI, T.N, .inl T.kd)), (T.a1, .inl (cL, T.N, .inr (.inl T.nu))), (T.a2, .inl (cI, T.N, .inl T.st)), (T.a3, .inl (cI, T.N, .inl T.ln)), (T.a4, .inl (cI, T.N, .inl T.ki)), (T.a5, .inl (cI, T.N, .inl T.nx)), (T.a6, .inl (cI, T.N, .inl T.ns)), (T.a7, .inl (cI, T.N, .inl T.nl)), (T.a8, .inl (cI, T.N, .inl T.pa)), (T.a9, .inl (cI, T.N, .inl T.pl)), (T.au, .inl (cC, T.U, .inl T.un))]) [0, 1, 2, 3, 4, 5, 6, 7, 8, 9, 10, 11] (by decide) rfl
          have hKc := hK.sub (tys' := [(cI, .int), (cL, .long), (cC, .char)]) [0, 1, 2] rfl
          have hFc := va_free (wc := [(t, .inr (12, MF 13 (tw T))), (T.a0, .inl (cI, T.N, .inl T.kd)), (T.a1, .inl (cL, T.N, .inr (.inl T.nu))), (T.a2, .inl (cI, T.N, .inl T.st)), (T.a3, .inl (cI, T.N, .inl T.ln)), (T.a4, .inl (cI, T.N, .inl T.ki)), (T.a5, .inl (cI, T.N, .inl T.nx)), (T.a6, .inl (cI, T.N, .inl T.ns)), (T.a7, .inl (cI, T.N, .inl T.nl)), (T.a8, .inl (cI, T.N, .inl T.pa)), (T.a9, .inl (cI, T.N, .inl T.pl)), (T.au, .inl (cC, T.U, .inl T.un))]) hD hS hA [0, 1, 2, 3, 4, 5, 6, 7, 8, 9, 10, 11] rfl
          refine va_calli (va_runS (As := [.ref t, .int (nI k_cs), .ref t, .int (nI k_ct)]) (rest := []) ⟨hx, hb, hml, hown, hts⟩ (hIH c8.2.1 (by omega) l dC dI t H cI cL cC T k_cs k_ct c8.2 d8.2 hT hv1 rfl hv2) (va_cwS 4 hts (gt_S (own := R_Mo) (i := 78) (y := y_Mo_same) i_Mo_same w_1555 w_1556 w_7) rfl rfl rfl (by decide +kernel) ⟨by show 3 + c8.2.1 + 1 ≤ 3 + r; omega, by show 8 + (7 + 11) + (60 + 40 * c8.2.1) ≤ 60 + 40 * r; omega⟩) ⟨mp_blind, fun U hU hW => ⟨rfl, hU, by rw [hU]; exact hPc, va_K.moved hW.alike hKc, hDc.weaken (fun _ _ _ _ => trivial)⟩⟩ rfl rfl hl.1 rfl (lv_room (Nat.le_of_ble_eq_true rfl)) d_Mo_same_122 ⟨Nat.zero_le _, Nat.zero_le _⟩) hS (fun q _ h => hFc q h) hFc (fun r0 _u t9 H1 locs ht hvm hw hB hz1 hk1 hS => ?_)
          obtain ⟨hP1, hK1, hD1⟩ := hB
          rw [ht] at hP1
          obtain ⟨hP, hD⟩ := va_join (wr := []) (w1 := [(t, .inr (12, MF 13 (tw T))), (T.a0, .inl (cI, T.N, .inl T.kd)), (T.a1, .inl (cL, T.N, .inr (.inl T.nu))), (T.a2, .inl (cI, T.N, .inl T.st)), (T.a3, .inl (cI, T.N, .inl T.ln)), (T.a4, .inl (cI, T.N, .inl T.ki)), (T.a5, .inl (cI, T.N, .inl T.nx)), (T.a6, .inl (cI, T.N, .inl T.ns)), (T.a7, .inl (cI, T.N, .inl T.nl)), (T.a8, .inl (cI, T.N, .inl T.pa)), (T.a9, .inl (cI, T.N, .inl T.pl)), (T.au, .inl (cC, T.U, .inl T.un))]) hP hD [0, 1, 2, 3, 4, 5, 6, 7, 8, 9, 10, 11] [] rfl rfl (by decide) (by decide) hk1 hFc hP1 hD1
          generalize H1 = H at hP hS ⊢
          have hP : va_P (dC, dI) classes [(t, .inr (12, MF 13 (tw T))), (T.a0, .inl (cI, T.N, .inl T.kd)), (T.a1, .inl (cL, T.N, .inr (.inl T.nu))), (T.a2, .inl (cI, T.N, .inl T.st)), (T.a3, .inl (cI, T.N, .inl T.ln)), (T.a4, .inl (cI, T.N, .inl T.ki)), (T.a5, .inl (cI, T.N, .inl T.nx)), (T.a6, .inl (cI, T.N, .inl T.ns)), (T.a7, .inl (cI, T.N, .inl T.nl)), (T.a8, .inl (cI, T.N, .inl T.pa)), (T.a9, .inl (cI, T.N, .inl T.pl)), (T.au, .inl (cC, T.U, .inl T.un))] H := hP
          have hD : va_D A [(t, .inr (12, MF 13 (tw T))), (T.a0, .inl (cI, T.N, .inl T.kd)), (T.a1, .inl (cL, T.N, .inr (.inl T.nu))), (T.a2, .inl (cI, T.N, .inl T.st)), (T.a3, .inl (cI, T.N, .inl T.ln)), (T.a4, .inl (cI, T.N, .inl T.ki)), (T.a5, .inl (cI, T.N, .inl T.nx)), (T.a6, .inl (cI, T.N, .inl T.ns)), (T.a7, .inl (cI, T.N, .inl T.nl)), (T.a8, .inl (cI, T.N, .inl T.pa)), (T.a9, .inl (cI, T.N, .inl T.pl)), (T.au, .inl (cC, T.U, .inl T.un))] := hD
          have h_r0 : r0 = bI (sameU c8.2 d8.2) := hw
          refine lv_if_ne (tgt := 130) hx hb d_Mo_same_125 (by decide) (fun c125 => ?_) (fun c125 => ?_)
          · refine lv_aload_n hx hb d_Mo_same_130 rfl (lv_at hl 2 rfl) ?_
            refine va_get (D := (dC, dI)) (ci := 12) (v := .ref T.a5) (C := R_Tree) (T := F_Tree) (N := 13) hx hb hts in_Tree hown hK hP 0 rfl rfl 5 (by decide) (hts _ w_1045) (fun _ h9 => h9) (MFg (by decide) rfl) d_Mo_same_131 ?_
            refine lv_iload hx hb d_Mo_same_134 (lv_at hl 4 rfl) ?_
            refine va_iald hx hb hK hP 6 0 rfl rfl (vp_in_nI (show k_ct < T.N by omega) (by omega)) d_Mo_same_136 ?_
            rw [show (nI k_ct).toNatClampNeg = k_ct from nI_clamp (by omega)]
            refine lv_istore (lv' := [(4, .int (T.nx k_ct)), (0, .ref t), (1, .int (nI x9)), (2, .ref t), (3, .int (nI y9)), (5, .int (nI k_cs))]) hx hb d_Mo_same_137 hl (by decide) rfl (fun ls hl => ?_)
            refine lv_aload_n hx hb d_Mo_same_139 rfl (lv_at hl 1 rfl) ?_
            refine va_get (D := (dC, dI)) (ci := 12) (v := .ref T.a5) (C := R_Tree) (T := F_Tree) (N := 13) hx hb hts in_Tree hown hK hP 0 rfl rfl 5 (by decide) (hts _ w_1045) (fun _ h9 => h9) (MFg (by decide) rfl) d_Mo_same_140 ?_
            refine lv_iload hx hb d_Mo_same_143 (lv_at hl 5 rfl) ?_
            refine va_iald hx hb hK hP 6 0 rfl rfl (vp_in_nI (show k_cs < T.N by omega) (by omega)) d_Mo_same_145 ?_
            rw [show (nI k_cs).toNatClampNeg = k_cs from nI_clamp (by omega)]
            refine lv_istore (lv' := [(5, .int (T.nx k_cs)), (4, .int (T.nx k_ct)), (0, .ref t), (1, .int (nI x9)), (2, .ref t), (3, .int (nI y9))]) hx hb d_Mo_same_146 hl (by decide) rfl (fun ls hl => ?_)
            refine lv_goto (tgt := 106) hx hb d_Mo_same_148 (by decide) ?_
            have hs1 : sameU c8.2 d8.2 = true := (bI_01 h_r0).1 c125
            exact ih (r_cs, r_ct, T.nx k_cs, T.nx k_ct, n9 + 1) _ _ _ ⟨hC_cs, hdr_cs, hC_ct, hdr_ct, by rw [hsm, sm5_c hc8 hd8, hs1]; rfl⟩ (by show r_cs.length < cs.length; rw [hc_cs]; simp) hP hD hS (lv_sub hl [2, 3, 4, 5, 1, 0] rfl)
          · refine lv_iconst (v := 0) hx hb d_Mo_same_128 (by decide) ?_
            exact W.zret (v := 0) hx hb hr rfl (fun t9 ht hW => ⟨⟨0, (), rfl, (by rw [hsm, sm5_c hc8 hd8, (bI_01 h_r0).2 (by first | exact c125 | exact Classical.not_not.mp c125)]; rfl), by rw [ht]; exact hP, va_K.moved hW.alike hK, hD⟩, hS.F ht⟩) hS.2.2 d_Mo_same_129
    · have hkx : T.kd x9 = 6 := (hX.kd (k := 6) (by decide)).mpr hyk
      have hkk : (lfU u).1 = (lfU w).1 := (hX.kkn hY).mp c12
      refine W.eq (g2 := F0 m 23 ls [.int 6]) (by rw [show (T.kd x9) = 6 from hkx]) ?_
      refine lv_tableIn (x := 6) (off := 139) (tgt := 162) hx hb d_Mo_same_23 (by decide) (by decide) rfl (by decide) ?_
      refine lv_aload_n hx hb d_Mo_same_162 rfl (lv_at hl 0 rfl) ?_
      refine lv_iload_n hx hb d_Mo_same_163 rfl (lv_at hl 1 rfl) ?_
      have hPc := hP.sub (ws' := [(t, .inr (12, MF 13 (tw T))), (T.a4, .inl (cI, T.N, .inl T.ki)), (T.a5, .inl (cI, T.N, .inl T.nx))]) [0, 5, 6] rfl
      have hDc := hD.sub (ws' := [(t, .inr (12, MF 13 (tw T))), (T.a4, .inl (cI, T.N, .inl T.ki)), (T.a5, .inl (cI, T.N, .inl T.nx))]) [0, 5, 6] (by decide) rfl
      have hKc := hK.sub (tys' := [(cI, .int)]) [0] rfl
      have hFc := va_free (wc := [(t, .inr (12, MF 13 (tw T))), (T.a4, .inl (cI, T.N, .inl T.ki)), (T.a5, .inl (cI, T.N, .inl T.nx))]) hD hS hA [0, 5, 6] rfl
      refine va_calli (va_runV (As := [.int (nI x9)]) (rest := []) ⟨hx, hb, hml, hown, hts⟩ (c_Tree_size l dC dI t s.heap (tw T) cI T.a4 T.a5 T.N x9 T.ki T.nx ks (by omega) (by omega) (chn_mono ho3 hch) rfl rfl) (cwV 1 hts (gt_V (own := R_Mo) (C := R_Tree) (i := 85) (y := y_Tree_size) i_Tree_size w_1513 w_1514 w_1515 w_8) rfl rfl rfl (by decide +kernel) ⟨Nat.le_trans (m := 3) (Nat.le_of_ble_eq_true rfl) (by show 3 ≤ 3 + r; omega), Nat.le_trans (m := 60) (Nat.le_of_ble_eq_true rfl) (by show 60 ≤ 60 + 40 * r; omega)⟩) ⟨mp_blind, va_recv hKc hPc (ci := 12) (q0 := 0) rfl rfl, fun U hU hW => ⟨rfl, hU, by rw [hU]; exact hPc, va_K.moved hW.alike hKc, hDc.weaken (fun _ _ _ _ => trivial)⟩⟩ rfl rfl hl.1 rfl (lv_room (Nat.le_of_ble_eq_true rfl)) d_Mo_same_164 ⟨Nat.zero_le _, Nat.zero_le _⟩) hS (fun q _ h => hFc q h) hFc (fun r1 _u t9 H1 locs ht hvm hw hB hz1 hk1 hS => ?_)
      obtain ⟨hP1, hK1, hD1⟩ := hB
      rw [ht] at hP1
      obtain ⟨hP, hD⟩ := va_join (wr := [(T.a0, .inl (cI, T.N, .inl T.kd)), (T.a1, .inl (cL, T.N, .inr (.inl T.nu))), (T.a2, .inl (cI, T.N, .inl T.st)), (T.a3, .inl (cI, T.N, .inl T.ln)), (T.a6, .inl (cI, T.N, .inl T.ns)), (T.a7, .inl (cI, T.N, .inl T.nl)), (T.a8, .inl (cI, T.N, .inl T.pa)), (T.a9, .inl (cI, T.N, .inl T.pl)), (T.au, .inl (cC, T.U, .inl T.un))]) (w1 := [(t, .inr (12, MF 13 (tw T))), (T.a4, .inl (cI, T.N, .inl T.ki)), (T.a5, .inl (cI, T.N, .inl T.nx))]) hP hD [0, 5, 6] [1, 2, 3, 4, 7, 8, 9, 10, 11] rfl rfl (by decide) (by decide) hk1 hFc hP1 hD1
      generalize H1 = H at hP hS ⊢
      have hP : va_P (dC, dI) classes [(T.a0, .inl (cI, T.N, .inl T.kd)), (T.a1, .inl (cL, T.N, .inr (.inl T.nu))), (T.a2, .inl (cI, T.N, .inl T.st)), (T.a3, .inl (cI, T.N, .inl T.ln)), (T.a6, .inl (cI, T.N, .inl T.ns)), (T.a7, .inl (cI, T.N, .inl T.nl)), (T.a8, .inl (cI, T.N, .inl T.pa)), (T.a9, .inl (cI, T.N, .inl T.pl)), (T.au, .inl (cC, T.U, .inl T.un)), (t, .inr (12, MF 13 (tw T))), (T.a4, .inl (cI, T.N, .inl T.ki)), (T.a5, .inl (cI, T.N, .inl T.nx))] H := hP
      have hD : va_D A [(T.a0, .inl (cI, T.N, .inl T.kd)), (T.a1, .inl (cL, T.N, .inr (.inl T.nu))), (T.a2, .inl (cI, T.N, .inl T.st)), (T.a3, .inl (cI, T.N, .inl T.ln)), (T.a6, .inl (cI, T.N, .inl T.ns)), (T.a7, .inl (cI, T.N, .inl T.nl)), (T.a8, .inl (cI, T.N, .inl T.pa)), (T.a9, .inl (cI, T.N, .inl T.pl)), (T.au, .inl (cC, T.U, .inl T.un)), (t, .inr (12, MF 13 (tw T))), (T.a4, .inl (cI, T.N, .inl T.ki)), (T.a5, .inl (cI, T.N, .inl T.nx))] := hD
      have hP := hP.sub (ws' := [(t, .inr (12, MF 13 (tw T))), (T.a0, .inl (cI, T.N, .inl T.kd)), (T.a1, .inl (cL, T.N, .inr (.inl T.nu))), (T.a2, .inl (cI, T.N, .inl T.st)), (T.a3, .inl (cI, T.N, .inl T.ln)), (T.a4, .inl (cI, T.N, .inl T.ki)), (T.a5, .inl (cI, T.N, .inl T.nx)), (T.a6, .inl (cI, T.N, .inl T.ns)), (T.a7, .inl (cI, T.N, .inl T.nl)), (T.a8, .inl (cI, T.N, .inl T.pa)), (T.a9, .inl (cI, T.N, .inl T.pl)), (T.au, .inl (cC, T.U, .inl T.un))]) [9, 0, 1, 2, 3, 10, 11, 4, 5, 6, 7, 8] rfl
      have hD := hD.sub (ws' := [(t, .inr (12, MF 13 (tw T))), (T.a0, .inl (cI, T.N, .inl T.kd)), (T.a1, .inl (cL, T.N, .inr (.inl T.nu))), (T.a2, .inl (cI, T.N, .inl T.st)), (T.a3, .inl (cI, T.N, .inl T.ln)), (T.a4, .inl (cI, T.N, .inl T.ki)), (T.a5, .inl (cI, T.N, .inl T.nx)), (T.a6, .inl (cI, T.N, .inl T.ns)), (T.a7, .inl (cI, T.N, .inl T.nl)), (T.a8, .inl (cI, T.N, .inl T.pa)), (T.a9, .inl (cI, T.N, .inl T.pl)), (T.au, .inl (cC, T.U, .inl T.un))]) [9, 0, 1, 2, 3, 10, 11, 4, 5, 6, 7, 8] (by decide) rfl
      have hw : r1 = nI ks.length := hw
      subst hw
      refine lv_aload_n hx hb d_Mo_same_167 rfl (lv_at hl 2 rfl) ?_
      refine lv_iload_n hx hb d_Mo_same_168 rfl (lv_at hl 3 rfl) ?_
      have hPc := hP.sub (ws' := [(t, .inr (12, MF 13 (tw T))), (T.a4, .inl (cI, T.N, .inl T.ki)), (T.a5, .inl (cI, T.N, .inl T.nx))]) [0, 5, 6] rfl
      have hDc := hD.sub (ws' := [(t, .inr (12, MF 13 (tw T))), (T.a4, .inl (cI, T.N, .inl T.ki)), (T.a5, .inl (cI, T.N, .inl T.nx))]) [0, 5, 6] (by decide) rfl
      have hKc := hK.sub (tys' := [(cI, .int)]) [0] rfl
      have hFc := va_free (wc := [(t, .inr (12, MF 13 (tw T))), (T.a4, .inl (cI, T.N, .inl T.ki)), (T.a5, .inl (cI, T.N, .inl T.nx))]) hD hS hA [0, 5, 6] rfl
      refine va_calli (va_runV (As := [.int (nI y9)]) (rest := [.int (nI ks.length)]) ⟨hx, hb, hml, hown, hts⟩ (c_Tree_size l dC dI t H (tw T) cI T.a4 T.a5 T.N y9 T.ki T.nx kt (by omega) (by omega) (chn_mono ho3 hct) rfl rfl) (cwV 1 hts (gt_V (own := R_Mo) (C := R_Tree) (i := 85) (y := y_Tree_size) i_Tree_size w_1513 w_1514 w_1515 w_8) rfl rfl rfl (by decide +kernel) ⟨Nat.le_trans (m := 3) (Nat.le_of_ble_eq_true rfl) (by show 3 ≤ 3 + r; omega), Nat.le_trans (m := 60) (Nat.le_of_ble_eq_true rfl) (by show 60 ≤ 60 + 40 * r; omega)⟩) ⟨mp_blind, va_recv hKc hPc (ci := 12) (q0 := 0) rfl rfl, fun U hU hW => ⟨rfl, hU, by rw [hU]; exact hPc, va_K.moved hW.alike hKc, hDc.weaken (fun _ _ _ _ => trivial)⟩⟩ rfl rfl hl.1 rfl (lv_room (Nat.le_of_ble_eq_true rfl)) d_Mo_same_169 ⟨Nat.zero_le _, Nat.zero_le _⟩) hS (fun q _ h => hFc q h) hFc (fun r2 _u t9 H1 locs ht hvm hw hB hz1 hk1 hS => ?_)
      obtain ⟨hP1, hK1, hD1⟩ := hB
      rw [ht] at hP1
      obtain ⟨hP, hD⟩ := va_join (wr := [(T.a0, .inl (cI, T.N, .inl T.kd)), (T.a1, .inl (cL, T.N, .inr (.inl T.nu))), (T.a2, .inl (cI, T.N, .inl T.st)), (T.a3, .inl (cI, T.N, .inl T.ln)), (T.a6, .inl (cI, T.N, .inl T.ns)), (T.a7, .inl (cI, T.N, .inl T.nl)), (T.a8, .inl (cI, T.N, .inl T.pa)), (T.a9, .inl (cI, T.N, .inl T.pl)), (T.au, .inl (cC, T.U, .inl T.un))]) (w1 := [(t, .inr (12, MF 13 (tw T))), (T.a4, .inl (cI, T.N, .inl T.ki)), (T.a5, .inl (cI, T.N, .inl T.nx))]) hP hD [0, 5, 6] [1, 2, 3, 4, 7, 8, 9, 10, 11] rfl rfl (by decide) (by decide) hk1 hFc hP1 hD1
      generalize H1 = H at hP hS ⊢
      have hP : va_P (dC, dI) classes [(T.a0, .inl (cI, T.N, .inl T.kd)), (T.a1, .inl (cL, T.N, .inr (.inl T.nu))), (T.a2, .inl (cI, T.N, .inl T.st)), (T.a3, .inl (cI, T.N, .inl T.ln)), (T.a6, .inl (cI, T.N, .inl T.ns)), (T.a7, .inl (cI, T.N, .inl T.nl)), (T.a8, .inl (cI, T.N, .inl T.pa)), (T.a9, .inl (cI, T.N, .inl T.pl)), (T.au, .inl (cC, T.U, .inl T.un)), (t, .inr (12, MF 13 (tw T))), (T.a4, .inl (cI, T.N, .inl T.ki)), (T.a5, .inl (cI, T.N, .inl T.nx))] H := hP
      have hD : va_D A [(T.a0, .inl (cI, T.N, .inl T.kd)), (T.a1, .inl (cL, T.N, .inr (.inl T.nu))), (T.a2, .inl (cI, T.N, .inl T.st)), (T.a3, .inl (cI, T.N, .inl T.ln)), (T.a6, .inl (cI, T.N, .inl T.ns)), (T.a7, .inl (cI, T.N, .inl T.nl)), (T.a8, .inl (cI, T.N, .inl T.pa)), (T.a9, .inl (cI, T.N, .inl T.pl)), (T.au, .inl (cC, T.U, .inl T.un)), (t, .inr (12, MF 13 (tw T))), (T.a4, .inl (cI, T.N, .inl T.ki)), (T.a5, .inl (cI, T.N, .inl T.nx))] := hD
      have hP := hP.sub (ws' := [(t, .inr (12, MF 13 (tw T))), (T.a0, .inl (cI, T.N, .inl T.kd)), (T.a1, .inl (cL, T.N, .inr (.inl T.nu))), (T.a2, .inl (cI, T.N, .inl T.st)), (T.a3, .inl (cI, T.N, .inl T.ln)), (T.a4, .inl (cI, T.N, .inl T.ki)), (T.a5, .inl (cI, T.N, .inl T.nx)), (T.a6, .inl (cI, T.N, .inl T.ns)), (T.a7, .inl (cI, T.N, .inl T.nl)), (T.a8, .inl (cI, T.N, .inl T.pa)), (T.a9, .inl (cI, T.N, .inl T.pl)), (T.au, .inl (cC, T.U, .inl T.un))]) [9, 0, 1, 2, 3, 10, 11, 4, 5, 6, 7, 8] rfl
      have hD := hD.sub (ws' := [(t, .inr (12, MF 13 (tw T))), (T.a0, .inl (cI, T.N, .inl T.kd)), (T.a1, .inl (cL, T.N, .inr (.inl T.nu))), (T.a2, .inl (cI, T.N, .inl T.st)), (T.a3, .inl (cI, T.N, .inl T.ln)), (T.a4, .inl (cI, T.N, .inl T.ki)), (T.a5, .inl (cI, T.N, .inl T.nx)), (T.a6, .inl (cI, T.N, .inl T.ns)), (T.a7, .inl (cI, T.N, .inl T.nl)), (T.a8, .inl (cI, T.N, .inl T.pa)), (T.a9, .inl (cI, T.N, .inl T.pl)), (T.au, .inl (cC, T.U, .inl T.un))]) [9, 0, 1, 2, 3, 10, 11, 4, 5, 6, 7, 8] (by decide) rfl
      have hw : r2 = nI kt.length := hw
      subst hw
      refine lv_icmp_eq (tgt := 177) hx hb d_Mo_same_172 (by decide) (fun c172 => ?_) (fun c172 => ?_)
      · refine lv_aload_n hx hb d_Mo_same_177 rfl (lv_at hl 0 rfl) ?_
        refine va_get (D := (dC, dI)) (ci := 12) (v := .ref T.a4) (C := R_Tree) (T := F_Tree) (N := 13) hx hb hts in_Tree hown hK hP 0 rfl rfl 4 (by decide) (hts _ w_1043) (fun _ h9 => h9) (MFg (by decide) rfl) d_Mo_same_178 ?_
        refine lv_iload_n hx hb d_Mo_same_181 rfl (lv_at hl 1 rfl) ?_
        refine va_iald hx hb hK hP 5 0 rfl rfl (vp_in_nI (show x9 < T.N by omega) (by omega)) d_Mo_same_182 ?_
        rw [show (nI x9).toNatClampNeg = x9 from nI_clamp (by omega)]
        refine lv_istore (lv' := [(5, .int (T.ki x9)), (0, .ref t), (1, .int (nI x9)), (2, .ref t), (3, .int (nI y9))]) hx hb d_Mo_same_183 hl (by decide) rfl (fun ls hl => ?_)
        have hle6 : (ksU u).length = (ksU w).length := by have := (nI_eq (by omega) (by omega)).mp c172; omega
        refine w_loop (D := (dC, dI)) (cl := classes) (A := A) (H0 := s.heap) (nL := 7) 185 (σ := List Nat × Int32 × Nat) (fun ⟨c6, i, n9⟩ => chn T.nx T.ct c6 i ∧ ks.drop n9 = c6 ∧ sameU u w = sm6 (ksU w) ((ksU u).drop n9)) (fun ⟨c6, i, n9⟩ => c6.length) (fun ⟨c6, i, n9⟩ => [(t, .inr (12, MF 13 (tw T))), (T.a0, .inl (cI, T.N, .inl T.kd)), (T.a1, .inl (cL, T.N, .inr (.inl T.nu))), (T.a2, .inl (cI, T.N, .inl T.st)), (T.a3, .inl (cI, T.N, .inl T.ln)), (T.a4, .inl (cI, T.N, .inl T.ki)), (T.a5, .inl (cI, T.N, .inl T.nx)), (T.a6, .inl (cI, T.N, .inl T.ns)), (T.a7, .inl (cI, T.N, .inl T.nl)), (T.a8, .inl (cI, T.N, .inl T.pa)), (T.a9, .inl (cI, T.N, .inl T.pl)), (T.au, .inl (cC, T.U, .inl T.un))]) (fun ⟨c6, i, n9⟩ => [(0, .ref t), (1, .int (nI x9)), (2, .ref t), (3, .int (nI y9)), (5, .int i)]) ?_ (ks, T.ki x9, 0) ⟨hch, rfl, sameU_6 hu0 hkk hyk hle6⟩ hP hD hS (lv_sub hl [1, 2, 3, 4, 0] rfl)
        rintro ⟨c6, i, n9⟩ H locs ls hI ih hP hD hS hl
        have hP : va_P (dC, dI) classes [(t, .inr (12, MF 13 (tw T))), (T.a0, .inl (cI, T.N, .inl T.kd)), (T.a1, .inl (cL, T.N, .inr (.inl T.nu))), (T.a2, .inl (cI, T.N, .inl T.st)), (T.a3, .inl (cI, T.N, .inl T.ln)), (T.a4, .inl (cI, T.N, .inl T.ki)), (T.a5, .inl (cI, T.N, .inl T.nx)), (T.a6, .inl (cI, T.N, .inl T.ns)), (T.a7, .inl (cI, T.N, .inl T.nl)), (T.a8, .inl (cI, T.N, .inl T.pa)), (T.a9, .inl (cI, T.N, .inl T.pl)), (T.au, .inl (cC, T.U, .inl T.un))] H := hP
        have hD : va_D A [(t, .inr (12, MF 13 (tw T))), (T.a0, .inl (cI, T.N, .inl T.kd)), (T.a1, .inl (cL, T.N, .inr (.inl T.nu))), (T.a2, .inl (cI, T.N, .inl T.st)), (T.a3, .inl (cI, T.N, .inl T.ln)), (T.a4, .inl (cI, T.N, .inl T.ki)), (T.a5, .inl (cI, T.N, .inl T.nx)), (T.a6, .inl (cI, T.N, .inl T.ns)), (T.a7, .inl (cI, T.N, .inl T.nl)), (T.a8, .inl (cI, T.N, .inl T.pa)), (T.a9, .inl (cI, T.N, .inl T.pl)), (T.au, .inl (cC, T.U, .inl T.un))] := hD
        have hl : lv_has ls 7 [(0, .ref t), (1, .int (nI x9)), (2, .ref t), (3, .int (nI y9)), (5, .int i)] := hl
        obtain ⟨hA1, hA2, hsm⟩ := hI
        have hcs_c6 : c6 = [] ∨ ∃ k_c6 r_c6, c6 = k_c6 :: r_c6 := by cases c6 with | nil => exact Or.inl rfl | cons a r => exact Or.inr ⟨a, r, rfl⟩
        rcases hcs_c6 with hc_c6 | ⟨k_c6, r_c6, hc_c6⟩
        · rw [hc_c6] at hA1
          have hA1 : i < 0 := hA1
          have hnl_c6 := drop_n (hA2.trans hc_c6)
          refine lv_iload hx hb d_Mo_same_185 (lv_at hl 4 rfl) ?_
          refine lv_if_lt (tgt := 243) hx hb d_Mo_same_187 (by decide) (fun _ => ?_) (fun h => absurd hA1 h)
          refine lv_iconst (v := 1) hx hb d_Mo_same_243 (by decide) ?_
          exact W.zret (v := 1) hx hb hr rfl (fun t9 ht hW => ⟨⟨1, (), rfl, (by rw [hsm, sm6_e (by omega)]; rfl), by rw [ht]; exact hP, va_K.moved hW.alike hK, hD⟩, hS.F ht⟩) hS.2.2 d_Mo_same_244
        · rw [hc_c6] at hA1
          obtain ⟨hk_c6, hkc_c6, hC_c6⟩ := hA1
          obtain ⟨hix_c6, hdr_c6⟩ := drop_c (hA2.trans hc_c6)
          obtain ⟨c8, hc8⟩ : ∃ c, (ksU u)[n9]? = some c := ⟨_, List.getElem?_eq_getElem (by have := (List.getElem?_eq_some_iff.mp hix_c6).1; omega)⟩
          rw [hk_c6] at hl
          have hl : lv_has ls 7 [(0, .ref t), (1, .int (nI x9)), (2, .ref t), (3, .int (nI y9)), (5, .int (nI k_c6))] := hl
          refine lv_iload hx hb d_Mo_same_185 (lv_at hl 4 rfl) ?_
          refine lv_if_lt (tgt := 243) hx hb d_Mo_same_187 (by decide) (fun h => absurd h (nI_pos (by omega))) (fun _ => ?_)
          refine lv_aload_n hx hb d_Mo_same_190 rfl (lv_at hl 2 rfl) ?_
          refine lv_iload_n hx hb d_Mo_same_191 rfl (lv_at hl 3 rfl) ?_
          refine lv_aload_n hx hb d_Mo_same_192 rfl (lv_at hl 0 rfl) ?_
          refine lv_aload_n hx hb d_Mo_same_193 rfl (lv_at hl 0 rfl) ?_
          refine va_get (D := (dC, dI)) (ci := 12) (v := .ref T.a6) (C := R_Tree) (T := F_Tree) (N := 13) hx hb hts in_Tree hown hK hP 0 rfl rfl 6 (by decide) (hts _ w_1047) (fun _ h9 => h9) (MFg (by decide) rfl) d_Mo_same_194 ?_
          refine lv_iload hx hb d_Mo_same_197 (lv_at hl 4 rfl) ?_
          obtain ⟨s2, L2, hs2, hL2, hsl⟩ := hkm hkx k_c6 (List.mem_of_getElem? hix_c6)
          have hnm8 : sl T.un s2 L2 = c8.1 := (nmT_is hs2 hL2 (by omega) (by omega)).symm.trans ((hkn n9 k_c6 c8 hix_c6 hc8).2.2 hkx)
          have hky : T.kd y9 = 6 := c12.symm.trans hkx
          refine va_iald hx hb hK hP 7 0 rfl rfl (vp_in_nI (show k_c6 < T.N by omega) (by omega)) d_Mo_same_199 ?_
          rw [show (nI k_c6).toNatClampNeg = k_c6 from nI_clamp (by omega)]
          refine W.eq (g2 := F0 m 200 ls [.int (nI s2), .ref t, .int (nI y9), .ref t]) (by rw [show (T.ns k_c6) = (nI s2) from hs2]) ?_
          refine lv_aload_n hx hb d_Mo_same_200 rfl (lv_at hl 0 rfl) ?_
          refine va_get (D := (dC, dI)) (ci := 12) (v := .ref T.a7) (C := R_Tree) (T := F_Tree) (N := 13) hx hb hts in_Tree hown hK hP 0 rfl rfl 7 (by decide) (hts _ w_1049) (fun _ h9 => h9) (MFg (by decide) rfl) d_Mo_same_201 ?_
          refine lv_iload hx hb d_Mo_same_204 (lv_at hl 4 rfl) ?_
          refine va_iald hx hb hK hP 8 0 rfl rfl (vp_in_nI (show k_c6 < T.N by omega) (by omega)) d_Mo_same_206 ?_
          rw [show (nI k_c6).toNatClampNeg = k_c6 from nI_clamp (by omega)]
          refine W.eq (g2 := F0 m 207 ls [.int (nI L2), .int (nI s2), .ref t, .int (nI y9), .ref t]) (by rw [show (T.nl k_c6) = (nI L2) from hL2]) ?_
          have hPc := hP.sub (ws' := [(t, .inr (12, MF 13 (tw T))), (T.a4, .inl (cI, T.N, .inl T.ki)), (T.a5, .inl (cI, T.N, .inl T.nx)), (T.a6, .inl (cI, T.N, .inl T.ns)), (T.a7, .inl (cI, T.N, .inl T.nl)), (T.au, .inl (cC, T.U, .inl T.un))]) [0, 5, 6, 7, 8, 11] rfl
          have hDc := hD.sub (ws' := [(t, .inr (12, MF 13 (tw T))), (T.a4, .inl (cI, T.N, .inl T.ki)), (T.a5, .inl (cI, T.N, .inl T.nx)), (T.a6, .inl (cI, T.N, .inl T.ns)), (T.a7, .inl (cI, T.N, .inl T.nl)), (T.au, .inl (cC, T.U, .inl T.un))]) [0, 5, 6, 7, 8, 11] (by decide) rfl
          have hKc := hK.sub (tys' := [(cI, .int), (cC, .char)]) [0, 2] rfl
          have hFc := va_free (wc := [(t, .inr (12, MF 13 (tw T))), (T.a4, .inl (cI, T.N, .inl T.ki)), (T.a5, .inl (cI, T.N, .inl T.nx)), (T.a6, .inl (cI, T.N, .inl T.ns)), (T.a7, .inl (cI, T.N, .inl T.nl)), (T.au, .inl (cC, T.U, .inl T.un))]) hD hS hA [0, 5, 6, 7, 8, 11] rfl
          refine va_calli (va_runV (As := [.int (nI y9), .ref t, .int (nI s2), .int (nI L2)]) (rest := []) ⟨hx, hb, hml, hown, hts⟩ (c_Tree_findS l dC dI t H cI cC T y9 s2 L2 kt hT (by omega) hct (htm (c12.symm.trans hkx)) hsl) (cwV 4 hts (gt_V (own := R_Mo) (C := R_Tree) (i := 95) (y := y_Tree_find) i_Tree_find w_1350 w_1351 w_1352 w_8) rfl rfl rfl (by decide +kernel) ⟨Nat.le_trans (m := 3) (Nat.le_of_ble_eq_true rfl) (by show 3 ≤ 3 + r; omega), Nat.le_trans (m := 60) (Nat.le_of_ble_eq_true rfl) (by show 60 ≤ 60 + 40 * r; omega)⟩) ⟨mp_blind, va_recv hKc hPc (ci := 12) (q0 := 0) rfl rfl, fun U hU hW => ⟨rfl, hU, by rw [hU]; exact hPc, va_K.moved hW.alike hKc, hDc.weaken (fun _ _ _ _ => trivial)⟩⟩ rfl rfl hl.1 rfl (lv_room (Nat.le_of_ble_eq_true rfl)) d_Mo_same_207 ⟨Nat.zero_le _, Nat.zero_le _⟩) hS (fun q _ h => hFc q h) hFc (fun r5 _u t9 H1 locs ht hvm hw hB hz1 hk1 hS => ?_)
          obtain ⟨hP1, hK1, hD1⟩ := hB
          rw [ht] at hP1
          obtain ⟨hP, hD⟩ := va_join (wr := [(T.a0, .inl (cI, T.N, .inl T.kd)), (T.a1, .inl (cL, T.N, .inr (.inl T.nu))), (T.a2, .inl (cI, T.N, .inl T.st)), (T.a3, .inl (cI, T.N, .inl T.ln)), (T.a8, .inl (cI, T.N, .inl T.pa)), (T.a9, .inl (cI, T.N, .inl T.pl))]) (w1 := [(t, .inr (12, MF 13 (tw T))), (T.a4, .inl (cI, T.N, .inl T.ki)), (T.a5, .inl (cI, T.N, .inl T.nx)), (T.a6, .inl (cI, T.N, .inl T.ns)), (T.a7, .inl (cI, T.N, .inl T.nl)), (T.au, .inl (cC, T.U, .inl T.un))]) hP hD [0, 5, 6, 7, 8, 11] [1, 2, 3, 4, 9, 10] rfl rfl (by decide) (by decide) hk1 hFc hP1 hD1
          generalize H1 = H at hP hS ⊢
          have hP : va_P (dC, dI) classes [(T.a0, .inl (cI, T.N, .inl T.kd)), (T.a1, .inl (cL, T.N, .inr (.inl T.nu))), (T.a2, .inl (cI, T.N, .inl T.st)), (T.a3, .inl (cI, T.N, .inl T.ln)), (T.a8, .inl (cI, T.N, .inl T.pa)), (T.a9, .inl (cI, T.N, .inl T.pl)), (t, .inr (12, MF 13 (tw T))), (T.a4, .inl (cI, T.N, .inl T.ki)), (T.a5, .inl (cI, T.N, .inl T.nx)), (T.a6, .inl (cI, T.N, .inl T.ns)), (T.a7, .inl (cI, T.N, .inl T.nl)), (T.au, .inl (cC, T.U, .inl T.un))] H := hP
          have hD : va_D A [(T.a0, .inl (cI, T.N, .inl T.kd)), (T.a1, .inl (cL, T.N, .inr (.inl T.nu))), (T.a2, .inl (cI, T.N, .inl T.st)), (T.a3, .inl (cI, T.N, .inl T.ln)), (T.a8, .inl (cI, T.N, .inl T.pa)), (T.a9, .inl (cI, T.N, .inl T.pl)), (t, .inr (12, MF 13 (tw T))), (T.a4, .inl (cI, T.N, .inl T.ki)), (T.a5, .inl (cI, T.N, .inl T.nx)), (T.a6, .inl (cI, T.N, .inl T.ns)), (T.a7, .inl (cI, T.N, .inl T.nl)), (T.au, .inl (cC, T.U, .inl T.un))] := hD
          have hP := hP.sub (ws' := [(t, .inr (12, MF 13 (tw T))), (T.a0, .inl (cI, T.N, .inl T.kd)), (T.a1, .inl (cL, T.N, .inr (.inl T.nu))), (T.a2, .inl (cI, T.N, .inl T.st)), (T.a3, .inl (cI, T.N, .inl T.ln)), (T.a4, .inl (cI, T.N, .inl T.ki)), (T.a5, .inl (cI, T.N, .inl T.nx)), (T.a6, .inl (cI, T.N, .inl T.ns)), (T.a7, .inl (cI, T.N, .inl T.nl)), (T.a8, .inl (cI, T.N, .inl T.pa)), (T.a9, .inl (cI, T.N, .inl T.pl)), (T.au, .inl (cC, T.U, .inl T.un))]) [6, 0, 1, 2, 3, 7, 8, 9, 10, 4, 5, 11] rfl
          have hD := hD.sub (ws' := [(t, .inr (12, MF 13 (tw T))), (T.a0, .inl (cI, T.N, .inl T.kd)), (T.a1, .inl (cL, T.N, .inr (.inl T.nu))), (T.a2, .inl (cI, T.N, .inl T.st)), (T.a3, .inl (cI, T.N, .inl T.ln)), (T.a4, .inl (cI, T.N, .inl T.ki)), (T.a5, .inl (cI, T.N, .inl T.nx)), (T.a6, .inl (cI, T.N, .inl T.ns)), (T.a7, .inl (cI, T.N, .inl T.nl)), (T.a8, .inl (cI, T.N, .inl T.pa)), (T.a9, .inl (cI, T.N, .inl T.pl)), (T.au, .inl (cC, T.U, .inl T.un))]) [6, 0, 1, 2, 3, 7, 8, 9, 10, 4, 5, 11] (by decide) rfl
          rcases hw with ⟨k9, hk9, hr5, hnmk⟩ | ⟨hr5, hno⟩
          · subst hr5
            have hkk9 := htl k9 hk9
            obtain ⟨j9, hj9⟩ := List.getElem?_of_mem hk9
            obtain ⟨d8, hd8⟩ : ∃ c, (ksU w)[j9]? = some c := ⟨_, List.getElem?_eq_getElem (by have := (List.getElem?_eq_some_iff.mp hj9).1; omega)⟩
            have hfd : (ksU w).find? (fun d => decide (d.1 = c8.1)) = some d8 := fndU_1 hY.2 ((hY.kd (k := 6) (by decide)).mp hky) hd8 (((htn j9 k9 d8 hj9 hd8).2.2 hky).symm.trans (hnmk.trans hnm8))
            refine lv_istore (lv' := [(6, .int (nI k9)), (0, .ref t), (1, .int (nI x9)), (2, .ref t), (3, .int (nI y9)), (5, .int (nI k_c6))]) hx hb d_Mo_same_210 hl (by decide) rfl (fun ls hl => ?_)
            refine lv_iload hx hb d_Mo_same_212 (lv_at hl 0 rfl) ?_
            refine lv_if_lt (tgt := 229) hx hb d_Mo_same_214 (by decide) (fun h => absurd h (nI_pos (by omega))) (fun _ => ?_)
            refine lv_aload_n hx hb d_Mo_same_217 rfl (lv_at hl 1 rfl) ?_
            refine lv_iload hx hb d_Mo_same_218 (lv_at hl 5 rfl) ?_
            refine lv_aload_n hx hb d_Mo_same_220 rfl (lv_at hl 3 rfl) ?_
            refine lv_iload hx hb d_Mo_same_221 (lv_at hl 0 rfl) ?_
            obtain ⟨hv1, hq1, _⟩ := hkn n9 k_c6 c8 hix_c6 hc8
            obtain ⟨hv2, _, _⟩ := htn j9 k9 d8 hj9 hd8
            have hPc := hP.sub (ws' := [(t, .inr (12, MF 13 (tw T))), (T.a0, .inl (cI, T.N, .inl T.kd)), (T.a1, .inl (cL, T.N, .inr (.inl T.nu))), (T.a2, .inl (cI, T.N, .inl T.st)), (T.a3, .inl (cI, T.N, .inl T.ln)), (T.a4, .inl (cI, T.N, .inl T.ki)), (T.a5, .inl (cI, T.N, .inl T.nx)), (T.a6, .inl (cI, T.N, .inl T.ns)), (T.a7, .inl (cI, T.N, .inl T.nl)), (T.a8, .inl (cI, T.N, .inl T.pa)), (T.a9, .inl (cI, T.N, .inl T.pl)), (T.au, .inl (cC, T.U, .inl T.un))]) [0, 1, 2, 3, 4, 5, 6, 7, 8, 9, 10, 11] rfl
            have hDc := hD.sub (ws' := [(t, .inr (12, MF 13 (tw T))), (T.a0, .inl (cI, T.N, .inl T.kd)), (T.a1, .inl (cL, T.N, .inr (.inl T.nu))), (T.a2, .inl (cI, T.N, .inl T.st)), (T.a3, .inl (cI, T.N, .inl T.ln)), (T.a4, .inl (cI, T.N, .inl T.ki)), (T.a5, .inl (cI, T.N, .inl T.nx)), (T.a6, .inl (cI, T.N, .inl T.ns)), (T.a7, .inl (cI, T.N, .inl T.nl)), (T.a8, .inl (cI, T.N, .inl T.pa)), (T.a9, .inl (cI, T.N, .inl T.pl)), (T.au, .inl (cC, T.U, .inl T.un))]) [0, 1, 2, 3, 4, 5, 6, 7, 8, 9, 10, 11] (by decide) rfl
            have hKc := hK.sub (tys' := [(cI, .int), (cL, .long), (cC, .char)]) [0, 1, 2] rfl
            have hFc := va_free (wc := [(t, .inr (12, MF 13 (tw T))), (T.a0, .inl (cI, T.N, .inl T.kd)), (T.a1, .inl (cL, T.N, .inr (.inl T.nu))), (T.a2, .inl (cI, T.N, .inl T.st)), (T.a3, .inl (cI, T.N, .inl T.ln)), (T.a4, .inl (cI, T.N, .inl T.ki)), (T.a5, .inl (cI, T.N, .inl T.nx)), (T.a6, .inl (cI, T.N, .inl T.ns)), (T.a7, .inl (cI, T.N, .inl T.nl)), (T.a8, .inl (cI, T.N, .inl T.pa)), (T.a9, .inl (cI, T.N, .inl T.pl)), (T.au, .inl (cC, T.U, .inl T.un))]) hD hS hA [0, 1, 2, 3, 4, 5, 6, 7, 8, 9, 10, 11] rfl
            refine va_calli (va_runS (As := [.ref t, .int (nI k_c6), .ref t, .int (nI k9)]) (rest := []) ⟨hx, hb, hml, hown, hts⟩ (hIH c8.2.1 (by omega) l dC dI t H cI cL cC T k_c6 k9 c8.2 d8.2 hT hv1 rfl hv2) (va_cwS 4 hts (gt_S (own := R_Mo) (i := 78) (y := y_Mo_same) i_Mo_same w_1555 w_1556 w_7) rfl rfl rfl (by decide +kernel) ⟨by show 3 + c8.2.1 + 1 ≤ 3 + r; omega, by show 8 + (7 + 11) + (60 + 40 * c8.2.1) ≤ 60 + 40 * r; omega⟩) ⟨mp_blind, fun U hU hW => ⟨rfl, hU, by rw [hU]; exact hPc, va_K.moved hW.alike hKc, hDc.weaken (fun _ _ _ _ => trivial)⟩⟩ rfl rfl hl.1 rfl (lv_room (Nat.le_of_ble_eq_true rfl)) d_Mo_same_223 ⟨Nat.zero_le _, Nat.zero_le _⟩) hS (fun q _ h => hFc q h) hFc (fun r0 _u t9 H1 locs ht hvm hw hB hz1 hk1 hS => ?_)
            obtain ⟨hP1, hK1, hD1⟩ := hB
            rw [ht] at hP1
            obtain ⟨hP, hD⟩ := va_join (wr := []) (w1 := [(t, .inr (12, MF 13 (tw T))), (T.a0, .inl (cI, T.N, .inl T.kd)), (T.a1, .inl (cL, T.N, .inr (.inl T.nu))), (T.a2, .inl (cI, T.N, .inl T.st)), (T.a3, .inl (cI, T.N, .inl T.ln)), (T.a4, .inl (cI, T.N, .inl T.ki)), (T.a5, .inl (cI, T.N, .inl T.nx)), (T.a6, .inl (cI, T.N, .inl T.ns)), (T.a7, .inl (cI, T.N, .inl T.nl)), (T.a8, .inl (cI, T.N, .inl T.pa)), (T.a9, .inl (cI, T.N, .inl T.pl)), (T.au, .inl (cC, T.U, .inl T.un))]) hP hD [0, 1, 2, 3, 4, 5, 6, 7, 8, 9, 10, 11] [] rfl rfl (by decide) (by decide) hk1 hFc hP1 hD1
            generalize H1 = H at hP hS ⊢
            have hP : va_P (dC, dI) classes [(t, .inr (12, MF 13 (tw T))), (T.a0, .inl (cI, T.N, .inl T.kd)), (T.a1, .inl (cL, T.N, .inr (.inl T.nu))), (T.a2, .inl (cI, T.N, .inl T.st)), (T.a3, .inl (cI, T.N, .inl T.ln)), (T.a4, .inl (cI, T.N, .inl T.ki)), (T.a5, .inl (cI, T.N, .inl T.nx)), (T.a6, .inl (cI, T.N, .inl T.ns)), (T.a7, .inl (cI, T.N, .inl T.nl)), (T.a8, .inl (cI, T.N, .inl T.pa)), (T.a9, .inl (cI, T.N, .inl T.pl)), (T.au, .inl (cC, T.U, .inl T.un))] H := hP
            have hD : va_D A [(t, .inr (12, MF 13 (tw T))), (T.a0, .inl (cI, T.N, .inl T.kd)), (T.a1, .inl (cL, T.N, .inr (.inl T.nu))), (T.a2, .inl (cI, T.N, .inl T.st)), (T.a3, .inl (cI, T.N, .inl T.ln)), (T.a4, .inl (cI, T.N, .inl T.ki)), (T.a5, .inl (cI, T.N, .inl T.nx)), (T.a6, .inl (cI, T.N, .inl T.ns)), (T.a7, .inl (cI, T.N, .inl T.nl)), (T.a8, .inl (cI, T.N, .inl T.pa)), (T.a9, .inl (cI, T.N, .inl T.pl)), (T.au, .inl (cC, T.U, .inl T.un))] := hD
            have h_r0 : r0 = bI (sameU c8.2 d8.2) := hw
            refine lv_if_ne (tgt := 231) hx hb d_Mo_same_226 (by decide) (fun c226 => ?_) (fun c226 => ?_)
            · refine lv_aload_n hx hb d_Mo_same_231 rfl (lv_at hl 1 rfl) ?_
              refine va_get (D := (dC, dI)) (ci := 12) (v := .ref T.a5) (C := R_Tree) (T := F_Tree) (N := 13) hx hb hts in_Tree hown hK hP 0 rfl rfl 5 (by decide) (hts _ w_1045) (fun _ h9 => h9) (MFg (by decide) rfl) d_Mo_same_232 ?_
              refine lv_iload hx hb d_Mo_same_235 (lv_at hl 5 rfl) ?_
              refine va_iald hx hb hK hP 6 0 rfl rfl (vp_in_nI (show k_c6 < T.N by omega) (by omega)) d_Mo_same_237 ?_
              rw [show (nI k_c6).toNatClampNeg = k_c6 from nI_clamp (by omega)]
              refine lv_istore (lv' := [(5, .int (T.nx k_c6)), (6, .int (nI k9)), (0, .ref t), (1, .int (nI x9)), (2, .ref t), (3, .int (nI y9))]) hx hb d_Mo_same_238 hl (by decide) rfl (fun ls hl => ?_)
              refine lv_goto (tgt := 185) hx hb d_Mo_same_240 (by decide) ?_
              have hs1 : sameU c8.2 d8.2 = true := (bI_01 h_r0).1 c226
              exact ih (r_c6, T.nx k_c6, n9 + 1) _ _ _ ⟨hC_c6, hdr_c6, by rw [hsm, sm6_c hc8, hfd]; show (sameU c8.2 d8.2 && _) = _; rw [hs1]; rfl⟩ (by show r_c6.length < c6.length; rw [hc_c6]; simp) hP hD hS (lv_sub hl [2, 3, 4, 5, 0] rfl)
            · refine lv_iconst (v := 0) hx hb d_Mo_same_229 (by decide) ?_
              exact W.zret (v := 0) hx hb hr rfl (fun t9 ht hW => ⟨⟨0, (), rfl, (by rw [hsm, sm6_c hc8, hfd]; show _ = bI (sameU c8.2 d8.2 && _); rw [(bI_01 h_r0).2 (by first | exact c226 | exact Classical.not_not.mp c226)]; rfl), by rw [ht]; exact hP, va_K.moved hW.alike hK, hD⟩, hS.F ht⟩) hS.2.2 d_Mo_same_230
          · subst hr5
            have hfd : (ksU w).find? (fun d => decide (d.1 = c8.1)) = none := fndU_0 _ (fun j d hd e => by obtain ⟨k9, hk9⟩ : ∃ k, kt[j]? = some k := ⟨_, List.getElem?_eq_getElem (by have := (List.getElem?_eq_some_iff.mp hd).1; omega)⟩; exact hno k9 (List.mem_of_getElem? hk9) (((htn j k9 d hk9 hd).2.2 hky).trans (e.trans hnm8.symm)))
            refine lv_istore (lv' := [(6, .int (-1)), (0, .ref t), (1, .int (nI x9)), (2, .ref t), (3, .int (nI y9)), (5, .int (nI k_c6))]) hx hb d_Mo_same_210 hl (by decide) rfl (fun ls hl => ?_)
            refine lv_iload hx hb d_Mo_same_212 (lv_at hl 0 rfl) ?_
            refine lv_if_lt (tgt := 229) hx hb d_Mo_same_214 (by decide) (fun _ => ?_) (fun h => absurd (by decide) h)
            refine lv_iconst (v := 0) hx hb d_Mo_same_229 (by decide) ?_
            exact W.zret (v := 0) hx hb hr rfl (fun t9 ht hW => ⟨⟨0, (), rfl, (by rw [hsm, sm6_c hc8, hfd]; rfl), by rw [ht]; exact hP, va_K.moved hW.alike hK, hD⟩, hS.F ht⟩) hS.2.2 d_Mo_same_230
      · refine lv_iconst (v := 0) hx hb d_Mo_same_175 (by decide) ?_
        exact W.zret (v := 0) hx hb hr rfl (fun t9 ht hW => ⟨⟨0, (), rfl, (by rw [sameU_6n hu0 hkk hyk (fun e => c172 (by rw [hkq, htq, e]))]; rfl), by rw [ht]; exact hP, va_K.moved hW.alike hK, hD⟩, hS.F ht⟩) hS.2.2 d_Mo_same_176
  · refine lv_iconst (v := 0) hx hb d_Mo_same_15 (by decide) ?_
    exact W.zret (v := 0) hx hb hr rfl (fun t9 ht hW => ⟨⟨0, (), rfl, (by rw [sameU_k hu0 (fun e => c12 ((hX.kkn hY).mpr e))]; rfl), by rw [ht]; exact hP, va_K.moved hW.alike hK, hD⟩, hS.F ht⟩) hS.2.2 d_Mo_same_16
theorem c_same : ∀ r, SMC r := by
  intro r
  induction r using Nat.strongRecOn with
  | ind r ih => exact c_same1 r ih
abbrev b_Mo_below : ByteArray := prog_14_method_62_code
def y_Mo_below : MethodName := ⟨"QueryBenchModel", "below", "(II)Z"⟩
abbrev k_Mo_below : Cond := .code y_Mo_below b_Mo_below 3 (some .boolean)
theorem i_Mo_below : k_Mo_below ∈ gtbl := gt_in 1564 (by decide +kernel) (by decide +kernel)
theorem d_Mo_below_0 : decode b_Mo_below 0 = .ok (.iload_n 1, 1) := by decide +kernel
theorem d_Mo_below_1 : decode b_Mo_below 1 = .ok (.ifCond .lt 28, 3) := by decide +kernel
theorem d_Mo_below_4 : decode b_Mo_below 4 = .ok (.iload_n 2, 1) := by decide +kernel
theorem d_Mo_below_5 : decode b_Mo_below 5 = .ok (.ifCond .lt 24, 3) := by decide +kernel
theorem d_Mo_below_8 : decode b_Mo_below 8 = .ok (.aload_n 0, 1) := by decide +kernel
theorem d_Mo_below_9 : decode b_Mo_below 9 = .ok (.getfield 62, 3) := by decide +kernel
theorem d_Mo_below_12 : decode b_Mo_below 12 = .ok (.getfield 65, 3) := by decide +kernel
theorem d_Mo_below_15 : decode b_Mo_below 15 = .ok (.iload_n 1, 1) := by decide +kernel
theorem d_Mo_below_16 : decode b_Mo_below 16 = .ok (.iaload, 1) := by decide +kernel
theorem d_Mo_below_17 : decode b_Mo_below 17 = .ok (.aload_n 0, 1) := by decide +kernel
theorem d_Mo_below_18 : decode b_Mo_below 18 = .ok (.getfield 62, 3) := by decide +kernel
theorem d_Mo_below_21 : decode b_Mo_below 21 = .ok (.getfield 65, 3) := by decide +kernel
theorem d_Mo_below_24 : decode b_Mo_below 24 = .ok (.iload_n 2, 1) := by decide +kernel
theorem d_Mo_below_25 : decode b_Mo_below 25 = .ok (.iaload, 1) := by decide +kernel
theorem d_Mo_below_26 : decode b_Mo_below 26 = .ok (.if_icmp .eq 5, 3) := by decide +kernel
theorem d_Mo_below_29 : decode b_Mo_below 29 = .ok (.iconst 0, 1) := by decide +kernel
theorem d_Mo_below_30 : decode b_Mo_below 30 = .ok (.ireturn, 1) := by decide +kernel
theorem d_Mo_below_31 : decode b_Mo_below 31 = .ok (.aload_n 0, 1) := by decide +kernel
theorem d_Mo_below_32 : decode b_Mo_below 32 = .ok (.getfield 62, 3) := by decide +kernel
theorem d_Mo_below_35 : decode b_Mo_below 35 = .ok (.getfield 65, 3) := by decide +kernel
theorem d_Mo_below_38 : decode b_Mo_below 38 = .ok (.iload_n 1, 1) := by decide +kernel
theorem d_Mo_below_39 : decode b_Mo_below 39 = .ok (.iaload, 1) := by decide +kernel
theorem d_Mo_below_40 : decode b_Mo_below 40 = .ok (.iconst 3, 1) := by decide +kernel
theorem d_Mo_below_41 : decode b_Mo_below 41 = .ok (.if_icmp .ne 31, 3) := by decide +kernel
theorem d_Mo_below_44 : decode b_Mo_below 44 = .ok (.aload_n 0, 1) := by decide +kernel
theorem d_Mo_below_45 : decode b_Mo_below 45 = .ok (.getfield 62, 3) := by decide +kernel
theorem d_Mo_below_48 : decode b_Mo_below 48 = .ok (.getfield 68, 3) := by decide +kernel
theorem d_Mo_below_51 : decode b_Mo_below 51 = .ok (.iload_n 1, 1) := by decide +kernel
theorem d_Mo_below_52 : decode b_Mo_below 52 = .ok (.laload, 1) := by decide +kernel
theorem d_Mo_below_53 : decode b_Mo_below 53 = .ok (.aload_n 0, 1) := by decide +kernel
theorem d_Mo_below_54 : decode b_Mo_below 54 = .ok (.getfield 62, 3) := by decide +kernel
theorem d_Mo_below_57 : decode b_Mo_below 57 = .ok (.getfield 68, 3) := by decide +kernel
theorem d_Mo_below_60 : decode b_Mo_below 60 = .ok (.iload_n 2, 1) := by decide +kernel
theorem d_Mo_below_61 : decode b_Mo_below 61 = .ok (.laload, 1) := by decide +kernel
theorem d_Mo_below_62 : decode b_Mo_below 62 = .ok (.lcmp, 1) := by decide +kernel
theorem d_Mo_below_63 : decode b_Mo_below 63 = .ok (.ifCond .ge 7, 3) := by decide +kernel
theorem d_Mo_below_66 : decode b_Mo_below 66 = .ok (.iconst 1, 1) := by decide +kernel
theorem d_Mo_below_67 : decode b_Mo_below 67 = .ok (.goto 4, 3) := by decide +kernel
theorem d_Mo_below_70 : decode b_Mo_below 70 = .ok (.iconst 0, 1) := by decide +kernel
theorem d_Mo_below_71 : decode b_Mo_below 71 = .ok (.ireturn, 1) := by decide +kernel
theorem d_Mo_below_72 : decode b_Mo_below 72 = .ok (.aload_n 0, 1) := by decide +kernel
theorem d_Mo_below_73 : decode b_Mo_below 73 = .ok (.getfield 62, 3) := by decide +kernel
theorem d_Mo_below_76 : decode b_Mo_below 76 = .ok (.getfield 65, 3) := by decide +kernel
theorem d_Mo_below_79 : decode b_Mo_below 79 = .ok (.iload_n 1, 1) := by decide +kernel
theorem d_Mo_below_80 : decode b_Mo_below 80 = .ok (.iaload, 1) := by decide +kernel
theorem d_Mo_below_81 : decode b_Mo_below 81 = .ok (.iconst 4, 1) := by decide +kernel
theorem d_Mo_below_82 : decode b_Mo_below 82 = .ok (.if_icmp .ne 23, 3) := by decide +kernel
theorem d_Mo_below_85 : decode b_Mo_below 85 = .ok (.aload_n 0, 1) := by decide +kernel
theorem d_Mo_below_86 : decode b_Mo_below 86 = .ok (.getfield 62, 3) := by decide +kernel
theorem d_Mo_below_89 : decode b_Mo_below 89 = .ok (.iload_n 1, 1) := by decide +kernel
theorem d_Mo_below_90 : decode b_Mo_below 90 = .ok (.aload_n 0, 1) := by decide +kernel
theorem d_Mo_below_91 : decode b_Mo_below 91 = .ok (.getfield 62, 3) := by decide +kernel
theorem d_Mo_below_94 : decode b_Mo_below 94 = .ok (.iload_n 2, 1) := by decide +kernel
theorem d_Mo_below_95 : decode b_Mo_below 95 = .ok (.invokestatic 71, 3) := by decide +kernel
theorem d_Mo_below_98 : decode b_Mo_below 98 = .ok (.ifCond .ge 7, 3) := by decide +kernel
theorem d_Mo_below_101 : decode b_Mo_below 101 = .ok (.iconst 1, 1) := by decide +kernel
theorem d_Mo_below_102 : decode b_Mo_below 102 = .ok (.goto 4, 3) := by decide +kernel
theorem d_Mo_below_105 : decode b_Mo_below 105 = .ok (.iconst 0, 1) := by decide +kernel
theorem d_Mo_below_106 : decode b_Mo_below 106 = .ok (.ireturn, 1) := by decide +kernel
set_option maxHeartbeats 4000000 in
set_option maxRecDepth 100000 in
/-- the reference: below -/
theorem c_Mo_below (l : Launch) (dC : Nat → ClassId) (dI : Nat → Nat → Nat) (mo t : Nat) (sz : Heap) (cI cL cC : ClassId) (T : TS) (v : Nat → Value) (aa bb : Int32) (oa ob : VOp) (hT : TOK T) (hA9 : VY T aa oa) (hB9 : VY T bb ob) (h29 : v 29 = .ref t) : Met l y_Mo_below (k_Mo_below :: gtbl) ({ frames := 3, cells := 0, slots := 0, locals := 60 }) (va_Pc [.ref mo, .int aa, .int bb] (mp dC dI [(mo, .inr (13, MF 30 v)), (t, .inr (12, MF 13 (tw T))), (T.a0, .inl (cI, T.N, .inl T.kd)), (T.a1, .inl (cL, T.N, .inr (.inl T.nu))), (T.a2, .inl (cI, T.N, .inl T.st)), (T.a3, .inl (cI, T.N, .inl T.ln)), (T.a4, .inl (cI, T.N, .inl T.ki)), (T.a5, .inl (cI, T.N, .inl T.nx)), (T.a6, .inl (cI, T.N, .inl T.ns)), (T.a7, .inl (cI, T.N, .inl T.nl)), (T.a8, .inl (cI, T.N, .inl T.pa)), (T.a9, .inl (cI, T.N, .inl T.pl)), (T.au, .inl (cC, T.U, .inl T.un))] [(cI, .int), (cL, .long), (cC, .char)] sz)) (va_Qi (fun (res : Int32) (_ : Unit) => res = bI (lessO oa ob)) (fun _ t9 => mz dC dI [(mo, .inr (13, MF 30 v)), (t, .inr (12, MF 13 (tw T))), (T.a0, .inl (cI, T.N, .inl T.kd)), (T.a1, .inl (cL, T.N, .inr (.inl T.nu))), (T.a2, .inl (cI, T.N, .inl T.st)), (T.a3, .inl (cI, T.N, .inl T.ln)), (T.a4, .inl (cI, T.N, .inl T.ki)), (T.a5, .inl (cI, T.N, .inl T.nx)), (T.a6, .inl (cI, T.N, .inl T.ns)), (T.a7, .inl (cI, T.N, .inl T.nl)), (T.a8, .inl (cI, T.N, .inl T.pa)), (T.a9, .inl (cI, T.N, .inl T.pl)), (T.au, .inl (cC, T.U, .inl T.un))] [(cI, .int), (cL, .long), (cC, .char)] (va_A [(mo, .inr (13, MF 30 v)), (t, .inr (12, MF 13 (tw T))), (T.a0, .inl (cI, T.N, .inl T.kd)), (T.a1, .inl (cL, T.N, .inr (.inl T.nu))), (T.a2, .inl (cI, T.N, .inl T.st)), (T.a3, .inl (cI, T.N, .inl T.ln)), (T.a4, .inl (cI, T.N, .inl T.ki)), (T.a5, .inl (cI, T.N, .inl T.nx)), (T.a6, .inl (cI, T.N, .inl T.ns)), (T.a7, .inl (cI, T.N, .inl T.nl)), (T.a8, .inl (cI, T.N, .inl T.pa)), (T.a9, .inl (cI, T.N, .inl T.pl)), (T.au, .inl (cC, T.U, .inl T.un))] sz.size) t9) (va_A [(mo, .inr (13, MF 30 v)), (t, .inr (12, MF 13 (tw T))), (T.a0, .inl (cI, T.N, .inl T.kd)), (T.a1, .inl (cL, T.N, .inr (.inl T.nu))), (T.a2, .inl (cI, T.N, .inl T.st)), (T.a3, .inl (cI, T.N, .inl T.ln)), (T.a4, .inl (cI, T.N, .inl T.ki)), (T.a5, .inl (cI, T.N, .inl T.nx)), (T.a6, .inl (cI, T.N, .inl T.ns)), (T.a7, .inl (cI, T.N, .inl T.nl)), (T.a8, .inl (cI, T.N, .inl T.pa)), (T.a9, .inl (cI, T.N, .inl T.pl)), (T.au, .inl (cC, T.U, .inl T.un))] sz.size)) 0 0 (va_A [(mo, .inr (13, MF 30 v)), (t, .inr (12, MF 13 (tw T))), (T.a0, .inl (cI, T.N, .inl T.kd)), (T.a1, .inl (cL, T.N, .inr (.inl T.nu))), (T.a2, .inl (cI, T.N, .inl T.st)), (T.a3, .inl (cI, T.N, .inl T.ln)), (T.a4, .inl (cI, T.N, .inl T.ki)), (T.a5, .inl (cI, T.N, .inl T.nx)), (T.a6, .inl (cI, T.N, .inl T.ns)), (T.a7, .inl (cI, T.N, .inl T.nl)), (T.a8, .inl (cI, T.N, .inl T.pa)), (T.a9, .inl (cI, T.N, .inl T.pl)), (T.au, .inl (cC, T.U, .inl T.un))] sz.size) := by
  refine Met.ofW (cc := b_Mo_below) (maxL := 3) (ret := (some .boolean)) (by decide) rfl ?_
  intro p e s m args below meth c s₁ B hml hv
  obtain ⟨rfl, hsz, hP, hK, hD0⟩ := hv
  have hx := B.exec
  have hb := B.bytes
  have hr := B.returns
  have hts0 := atoms_spec (ws := k_Mo_below :: gtbl) B.pre
  have hts := fun w h => hts0 w (List.mem_cons_of_mem _ h)
  have hown : s.vm.findClass R_Mo = some m.cls := findClass_of_methodNamed B.named
  have hlocks := B.notSynchronized
  subst hsz
  have hD := hD0.self (sz := s.heap.size)
  generalize hAe : va_A [(mo, .inr (13, MF 30 v)), (t, .inr (12, MF 13 (tw T))), (T.a0, .inl (cI, T.N, .inl T.kd)), (T.a1, .inl (cL, T.N, .inr (.inl T.nu))), (T.a2, .inl (cI, T.N, .inl T.st)), (T.a3, .inl (cI, T.N, .inl T.ln)), (T.a4, .inl (cI, T.N, .inl T.ki)), (T.a5, .inl (cI, T.N, .inl T.nx)), (T.a6, .inl (cI, T.N, .inl T.ns)), (T.a7, .inl (cI, T.N, .inl T.nl)), (T.a8, .inl (cI, T.N, .inl T.pa)), (T.a9, .inl (cI, T.N, .inl T.pl)), (T.au, .inl (cC, T.U, .inl T.un))] s.heap.size = A at hD ⊢
  have hA : ∀ q : Nat, s.heap.size ≤ q → A q := fun q h => by rw [← hAe]; exact Or.inr h
  have hS : va_S A s.heap s.heap [] := va_S.rf
  have hP : va_P (dC, dI) classes [(mo, .inr (13, MF 30 v)), (t, .inr (12, MF 13 (tw T))), (T.a0, .inl (cI, T.N, .inl T.kd)), (T.a1, .inl (cL, T.N, .inr (.inl T.nu))), (T.a2, .inl (cI, T.N, .inl T.st)), (T.a3, .inl (cI, T.N, .inl T.ln)), (T.a4, .inl (cI, T.N, .inl T.ki)), (T.a5, .inl (cI, T.N, .inl T.nx)), (T.a6, .inl (cI, T.N, .inl T.ns)), (T.a7, .inl (cI, T.N, .inl T.nl)), (T.a8, .inl (cI, T.N, .inl T.pa)), (T.a9, .inl (cI, T.N, .inl T.pl)), (T.au, .inl (cC, T.U, .inl T.un))] s.heap := hP
  have hl := lv_entry ([.ref mo, .int aa, .int bb]) (n := 3) (Nat.le_of_ble_eq_true rfl)
  rw [lg_entry_eq]
  generalize (lg_sl ([.ref mo, .int aa, .int bb]) ++ List.replicate (3 - (lg_sl ([.ref mo, .int aa, .int bb])).length) Slot.unset).toArray = ls at hl ⊢
  have hl : lv_has ls 3 [(0, .ref mo), (1, .int aa), (2, .int bb)] := hl
  obtain ⟨ho1, ho2, ho3, ho4, ho5, ho6, ho7⟩ := hT
  have hT : TOK T := ⟨ho1, ho2, ho3, ho4, ho5, ho6, ho7⟩
  rcases hA9.two with ⟨ha, hoa⟩ | ⟨a9, ua, ha, hoa, hra, hva⟩
  · rw [ha] at hl
    have hl : lv_has ls 3 [(0, .ref mo), (1, .int (-1)), (2, .int bb)] := hl
    refine lv_iload_n hx hb d_Mo_below_0 rfl (lv_at hl 1 rfl) ?_
    refine lv_if_lt (tgt := 29) hx hb d_Mo_below_1 (by decide) (fun _ => ?_) (fun h => absurd (by decide) h)
    refine lv_iconst (v := 0) hx hb d_Mo_below_29 (by decide) ?_
    exact W.zret (v := 0) hx hb hr rfl (fun t9 ht hW => ⟨⟨0, (), rfl, (by rw [hoa]; rfl), by rw [ht]; exact hP, va_K.moved hW.alike hK, hD⟩, hS.F ht⟩) hS.2.2 d_Mo_below_30
  · have hac := hva.vr.lt
    rw [ha] at hl
    have hl : lv_has ls 3 [(0, .ref mo), (1, .int (nI a9)), (2, .int bb)] := hl
    refine lv_iload_n hx hb d_Mo_below_0 rfl (lv_at hl 1 rfl) ?_
    refine lv_if_lt (tgt := 29) hx hb d_Mo_below_1 (by decide) (fun h => absurd h (nI_pos (by omega))) (fun _ => ?_)
    rcases hB9.two with ⟨hb9, hob⟩ | ⟨b9, ub, hb9, hob, hrb, hvb⟩
    · rw [hb9] at hl
      have hl : lv_has ls 3 [(0, .ref mo), (1, .int (nI a9)), (2, .int (-1))] := hl
      refine lv_iload_n hx hb d_Mo_below_4 rfl (lv_at hl 2 rfl) ?_
      refine lv_if_lt (tgt := 29) hx hb d_Mo_below_5 (by decide) (fun _ => ?_) (fun h => absurd (by decide) h)
      refine lv_iconst (v := 0) hx hb d_Mo_below_29 (by decide) ?_
      exact W.zret (v := 0) hx hb hr rfl (fun t9 ht hW => ⟨⟨0, (), rfl, (by rw [hoa, hob]; rfl), by rw [ht]; exact hP, va_K.moved hW.alike hK, hD⟩, hS.F ht⟩) hS.2.2 d_Mo_below_30
    · have hbc := hvb.vr.lt
      rw [hb9] at hl
      have hl : lv_has ls 3 [(0, .ref mo), (1, .int (nI a9)), (2, .int (nI b9))] := hl
      refine lv_iload_n hx hb d_Mo_below_4 rfl (lv_at hl 2 rfl) ?_
      refine lv_if_lt (tgt := 29) hx hb d_Mo_below_5 (by decide) (fun h => absurd h (nI_pos (by omega))) (fun _ => ?_)
      refine lv_aload_n hx hb d_Mo_below_8 rfl (lv_at hl 0 rfl) ?_
      refine va_get (D := (dC, dI)) (ci := 13) (v := .ref t) (C := R_Mo) (T := F_Mo) (N := 30) hx hb hts in_Mo hown hK hP 0 rfl rfl 29 (by decide) (hts _ w_1118) (fun _ h9 => h9) (MFg (by decide) h29) d_Mo_below_9 ?_
      refine va_get (D := (dC, dI)) (ci := 12) (v := .ref T.a0) (C := R_Tree) (T := F_Tree) (N := 13) hx hb hts in_Tree hown hK hP 1 rfl rfl 0 (by decide) (hts _ w_1035) (fun _ h9 => h9) (MFg (by decide) rfl) d_Mo_below_12 ?_
      refine lv_iload_n hx hb d_Mo_below_15 rfl (lv_at hl 1 rfl) ?_
      refine va_iald hx hb hK hP 2 0 rfl rfl (vp_in_nI (show a9 < T.N by omega) (by omega)) d_Mo_below_16 ?_
      rw [show (nI a9).toNatClampNeg = a9 from nI_clamp (by omega)]
      refine lv_aload_n hx hb d_Mo_below_17 rfl (lv_at hl 0 rfl) ?_
      refine va_get (D := (dC, dI)) (ci := 13) (v := .ref t) (C := R_Mo) (T := F_Mo) (N := 30) hx hb hts in_Mo hown hK hP 0 rfl rfl 29 (by decide) (hts _ w_1118) (fun _ h9 => h9) (MFg (by decide) h29) d_Mo_below_18 ?_
      refine va_get (D := (dC, dI)) (ci := 12) (v := .ref T.a0) (C := R_Tree) (T := F_Tree) (N := 13) hx hb hts in_Tree hown hK hP 1 rfl rfl 0 (by decide) (hts _ w_1035) (fun _ h9 => h9) (MFg (by decide) rfl) d_Mo_below_21 ?_
      refine lv_iload_n hx hb d_Mo_below_24 rfl (lv_at hl 2 rfl) ?_
      refine va_iald hx hb hK hP 2 0 rfl rfl (vp_in_nI (show b9 < T.N by omega) (by omega)) d_Mo_below_25 ?_
      rw [show (nI b9).toNatClampNeg = b9 from nI_clamp (by omega)]
      refine lv_icmp_eq (tgt := 31) hx hb d_Mo_below_26 (by decide) (fun c26 => ?_) (fun c26 => ?_)
      · refine lv_aload_n hx hb d_Mo_below_31 rfl (lv_at hl 0 rfl) ?_
        refine va_get (D := (dC, dI)) (ci := 13) (v := .ref t) (C := R_Mo) (T := F_Mo) (N := 30) hx hb hts in_Mo hown hK hP 0 rfl rfl 29 (by decide) (hts _ w_1118) (fun _ h9 => h9) (MFg (by decide) h29) d_Mo_below_32 ?_
        refine va_get (D := (dC, dI)) (ci := 12) (v := .ref T.a0) (C := R_Tree) (T := F_Tree) (N := 13) hx hb hts in_Tree hown hK hP 1 rfl rfl 0 (by decide) (hts _ w_1035) (fun _ h9 => h9) (MFg (by decide) rfl) d_Mo_below_35 ?_
        refine lv_iload_n hx hb d_Mo_below_38 rfl (lv_at hl 1 rfl) ?_
        refine va_iald hx hb hK hP 2 0 rfl rfl (vp_in_nI (show a9 < T.N by omega) (by omega)) d_Mo_below_39 ?_
        rw [show (nI a9).toNatClampNeg = a9 from nI_clamp (by omega)]
        refine lv_iconst (v := 3) hx hb d_Mo_below_40 (by decide) ?_
        refine lv_icmp_ne (tgt := 72) hx hb d_Mo_below_41 (by decide) (fun c41 => ?_) (fun c41 => ?_)
        · refine lv_aload_n hx hb d_Mo_below_72 rfl (lv_at hl 0 rfl) ?_
          refine va_get (D := (dC, dI)) (ci := 13) (v := .ref t) (C := R_Mo) (T := F_Mo) (N := 30) hx hb hts in_Mo hown hK hP 0 rfl rfl 29 (by decide) (hts _ w_1118) (fun _ h9 => h9) (MFg (by decide) h29) d_Mo_below_73 ?_
          refine va_get (D := (dC, dI)) (ci := 12) (v := .ref T.a0) (C := R_Tree) (T := F_Tree) (N := 13) hx hb hts in_Tree hown hK hP 1 rfl rfl 0 (by decide) (hts _ w_1035) (fun _ h9 => h9) (MFg (by decide) rfl) d_Mo_below_76 ?_
          refine lv_iload_n hx hb d_Mo_below_79 rfl (lv_at hl 1 rfl) ?_
          refine va_iald hx hb hK hP 2 0 rfl rfl (vp_in_nI (show a9 < T.N by omega) (by omega)) d_Mo_below_80 ?_
          rw [show (nI a9).toNatClampNeg = a9 from nI_clamp (by omega)]
          refine lv_iconst (v := 4) hx hb d_Mo_below_81 (by decide) ?_
          refine lv_icmp_ne (tgt := 105) hx hb d_Mo_below_82 (by decide) (fun c82 => ?_) (fun c82 => ?_)
          · refine lv_iconst (v := 0) hx hb d_Mo_below_105 (by decide) ?_
            exact W.zret (v := 0) hx hb hr rfl (fun t9 ht hW => ⟨⟨0, (), rfl, (by rw [hoa, hob]; show _ = bI (lessU ua ub); unfold lessU; rw [decide_eq_true ((hva.kkn hvb).mp c26)]; rw [if_neg (fun e => c41 ((hva.kd (k := 3) (by decide)).mpr e)), if_neg (fun e => c82 ((hva.kd (k := 4) (by decide)).mpr e))]; rfl), by rw [ht]; exact hP, va_K.moved hW.alike hK, hD⟩, hS.F ht⟩) hS.2.2 d_Mo_below_106
          · refine lv_aload_n hx hb d_Mo_below_85 rfl (lv_at hl 0 rfl) ?_
            refine va_get (D := (dC, dI)) (ci := 13) (v := .ref t) (C := R_Mo) (T := F_Mo) (N := 30) hx hb hts in_Mo hown hK hP 0 rfl rfl 29 (by decide) (hts _ w_1118) (fun _ h9 => h9) (MFg (by decide) h29) d_Mo_below_86 ?_
            refine lv_iload_n hx hb d_Mo_below_89 rfl (lv_at hl 1 rfl) ?_
            refine lv_aload_n hx hb d_Mo_below_90 rfl (lv_at hl 0 rfl) ?_
            refine va_get (D := (dC, dI)) (ci := 13) (v := .ref t) (C := R_Mo) (T := F_Mo) (N := 30) hx hb hts in_Mo hown hK hP 0 rfl rfl 29 (by decide) (hts _ w_1118) (fun _ h9 => h9) (MFg (by decide) h29) d_Mo_below_91 ?_
            refine lv_iload_n hx hb d_Mo_below_94 rfl (lv_at hl 2 rfl) ?_
            have hka : (lfU ua).1 = 4 := (hva.kd (k := 4) (by decide)).mp c82
            have hkb : (lfU ub).1 = 4 := ((hva.kkn hvb).mp c26).symm.trans hka
            obtain ⟨sx, lx, g1, g2, g3, gx, gu⟩ := hva.str hka
            obtain ⟨sy, ly, g4, g5, g6, gy, gv⟩ := hvb.str hkb
            have hPc := hP.sub (ws' := [(t, .inr (12, MF 13 (tw T))), (T.a2, .inl (cI, T.N, .inl T.st)), (T.a3, .inl (cI, T.N, .inl T.ln)), (T.au, .inl (cC, T.U, .inl T.un))]) [1, 4, 5, 12] rfl
            have hDc := hD.sub (ws' := [(t, .inr (12, MF 13 (tw T))), (T.a2, .inl (cI, T.N, .inl T.st)), (T.a3, .inl (cI, T.N, .inl T.ln)), (T.au, .inl (cC, T.U, .inl T.un))]) [1, 4, 5, 12] (by decide) rfl
            have hKc := hK.sub (tys' := [(cI, .int), (cC, .char)]) [0, 2] rfl
            have hFc := va_free (wc := [(t, .inr (12, MF 13 (tw T))), (T.a2, .inl (cI, T.N, .inl T.st)), (T.a3, .inl (cI, T.N, .inl T.ln)), (T.au, .inl (cC, T.U, .inl T.un))]) hD hS hA [1, 4, 5, 12] rfl
            refine va_calli (va_runS (As := [.ref t, .int (nI a9), .ref t, .int (nI b9)]) (rest := []) ⟨hx, hb, hml, hown, hts⟩ (c_Mo_order l dC dI t s.heap cI cC T a9 b9 sx lx sy ly hT (by omega) (by omega) g1 g2 g3 g4 g5 g6 gu gv) (va_cwS 4 hts (gt_S (own := R_Mo) (i := 71) (y := y_Mo_order) i_Mo_order w_1558 w_1559 w_7) rfl rfl rfl (by decide +kernel) ⟨Nat.le_of_ble_eq_true rfl, Nat.le_of_ble_eq_true rfl⟩) ⟨mp_blind, fun U hU hW => ⟨rfl, hU, by rw [hU]; exact hPc, va_K.moved hW.alike hKc, hDc.weaken (fun _ _ _ _ => trivial)⟩⟩ rfl rfl hl.1 rfl (lv_room (Nat.le_of_ble_eq_true rfl)) d_Mo_below_95 ⟨Nat.le_of_ble_eq_true rfl, Nat.le_of_ble_eq_true rfl⟩) hS (fun q _ h => hFc q h) hFc (fun r0 _u t9 H1 locs ht hvm hw hB hz1 hk1 hS => ?_)
            obtain ⟨hP1, hK1, hD1⟩ := hB
            rw [ht] at hP1
            obtain ⟨hP, hD⟩ := va_join (wr := [(mo, .inr (13, MF 30 v)), (T.a0, .inl (cI, T.N, .inl T.kd)), (T.a1, .inl (cL, T.N, .inr (.inl T.nu))), (T.a4, .inl (cI, T.N, .inl T.ki)), (T.a5, .inl (cI, T.N, .inl T.nx)), (T.a6, .inl (cI, T.N, .inl T.ns)), (T.a7, .inl (cI, T.N, .inl T.nl)), (T.a8, .inl (cI, T.N, .inl T.pa)), (T.a9, .inl (cI, T.N, .inl T.pl))]) (w1 := [(t, .inr (12, MF 13 (tw T))), (T.a2, .inl (cI, T.N, .inl T.st)), (T.a3, .inl (cI, T.N, .inl T.ln)), (T.au, .inl (cC, T.U, .inl T.un))]) hP hD [1, 4, 5, 12] [0, 2, 3, 6, 7, 8, 9, 10, 11] rfl rfl (by decide) (by decide) hk1 hFc hP1 hD1
            generalize H1 = H at hP hS ⊢
            have hP : va_P (dC, dI) classes [(mo, .inr (13, MF 30 v)), (T.a0, .inl (cI, T.N, .inl T.kd)), (T.a1, .inl (cL, T.N, .inr (.inl T.nu))), (T.a4, .inl (cI, T.N, .inl T.ki)), (T.a5, .inl (cI, T.N, .inl T.nx)), (T.a6, .inl (cI, T.N, .inl T.ns)), (T.a7, .inl (cI, T.N, .inl T.nl)), (T.a8, .inl (cI, T.N, .inl T.pa)), (T.a9, .inl (cI, T.N, .inl T.pl)), (t, .inr (12, MF 13 (tw T))), (T.a2, .inl (cI, T.N, .inl T.st)), (T.a3, .inl (cI, T.N, .inl T.ln)), (T.au, .inl (cC, T.U, .inl T.un))] H := hP
            have hD : va_D A [(mo, .inr (13, MF 30 v)), (T.a0, .inl (cI, T.N, .inl T.kd)), (T.a1, .inl (cL, T.N, .inr (.inl T.nu))), (T.a4, .inl (cI, T.N, .inl T.ki)), (T.a5, .inl (cI, T.N, .inl T.nx)), (T.a6, .inl (cI, T.N, .inl T.ns)), (T.a7, .inl (cI, T.N, .inl T.nl)), (T.a8, .inl (cI, T.N, .inl T.pa)), (T.a9, .inl (cI, T.N, .inl T.pl)), (t, .inr (12, MF 13 (tw T))), (T.a2, .inl (cI, T.N, .inl T.st)), (T.a3, .inl (cI, T.N, .inl T.ln)), (T.au, .inl (cC, T.U, .inl T.un))] := hD
            have hP := hP.sub (ws' := [(mo, .inr (13, MF 30 v)), (t, .inr (12, MF 13 (tw T))), (T.a0, .inl (cI, T.N, .inl T.kd)), (T.a1, .inl (cL, T.N, .inr (.inl T.nu))), (T.a2, .inl (cI, T.N, .inl T.st)), (T.a3, .inl (cI, T.N, .inl T.ln)), (T.a4, .inl (cI, T.N, .inl T.ki)), (T.a5, .inl (cI, T.N, .inl T.nx)), (T.a6, .inl (cI, T.N, .inl T.ns)), (T.a7, .inl (cI, T.N, .inl T.nl)), (T.a8, .inl (cI, T.N, .inl T.pa)), (T.a9, .inl (cI, T.N, .inl T.pl)), (T.au, .inl (cC, T.U, .inl T.un))]) [0, 9, 1, 2, 10, 11, 3, 4, 5, 6, 7, 8, 12] rfl
            have hD := hD.sub (ws' := [(mo, .inr (13, MF 30 v)), (t, .inr (12, MF 13 (tw T))), (T.a0, .inl (cI, T.N, .inl T.kd)), (T.a1, .inl (cL, T.N, .inr (.inl T.nu))), (T.a2, .inl (cI, T.N, .inl T.st)), (T.a3, .inl (cI, T.N, .inl T.ln)), (T.a4, .inl (cI, T.N, .inl T.ki)), (T.a5, .inl (cI, T.N, .inl T.nx)), (T.a6, .inl (cI, T.N, .inl T.ns)), (T.a7, .inl (cI, T.N, .inl T.nl)), (T.a8, .inl (cI, T.N, .inl T.pa)), (T.a9, .inl (cI, T.N, .inl T.pl)), (T.au, .inl (cC, T.U, .inl T.un))]) [0, 9, 1, 2, 10, 11, 3, 4, 5, 6, 7, 8, 12] (by decide) rfl
            have h_r0 : r0 = ordV (sl T.un sx lx) (sl T.un sy ly) := hw
            refine lv_if_ge (tgt := 105) hx hb d_Mo_below_98 (by decide) (fun c98 => ?_) (fun c98 => ?_)
            · refine lv_iconst (v := 0) hx hb d_Mo_below_105 (by decide) ?_
              exact W.zret (v := 0) hx hb hr rfl (fun t9 ht hW => ⟨⟨0, (), rfl, (by rw [hoa, hob]; show _ = bI (lessU ua ub); unfold lessU; rw [decide_eq_true ((hva.kkn hvb).mp c26)]; rw [if_neg (fun e => c41 ((hva.kd (k := 3) (by decide)).mpr e)), if_pos hka, ← gx, ← gy, ord_ge (by rw [← h_r0]; exact Int32.not_lt.mpr c98)]; rfl), by rw [ht]; exact hP, va_K.moved hW.alike hK, hD⟩, hS.F ht⟩) hS.2.2 d_Mo_below_106
            · refine lv_iconst (v := 1) hx hb d_Mo_below_101 (by decide) ?_
              refine lv_goto (tgt := 106) hx hb d_Mo_below_102 (by decide) ?_
              exact W.zret (v := 1) hx hb hr rfl (fun t9 ht hW => ⟨⟨1, (), rfl, (by rw [hoa, hob]; show _ = bI (lessU ua ub); unfold lessU; rw [decide_eq_true ((hva.kkn hvb).mp c26)]; rw [if_neg (fun e => c41 ((hva.kd (k := 3) (by decide)).mpr e)), if_pos hka, ← gx, ← gy, ord_lt.mp (by rw [← h_r0]; exact Int32.not_le.mp c98)]; rfl), by rw [ht]; exact hP, va_K.moved hW.alike hK, hD⟩, hS.F ht⟩) hS.2.2 d_Mo_below_106
        · refine lv_aload_n hx hb d_Mo_below_44 rfl (lv_at hl 0 rfl) ?_
          refine va_get (D := (dC, dI)) (ci := 13) (v := .ref t) (C := R_Mo) (T := F_Mo) (N := 30) hx hb hts in_Mo hown hK hP 0 rfl rfl 29 (by decide) (hts _ w_1118) (fun _ h9 => h9) (MFg (by decide) h29) d_Mo_below_45 ?_
          refine va_get (D := (dC, dI)) (ci := 12) (v := .ref T.a1) (C := R_Tree) (T := F_Tree) (N := 13) hx hb hts in_Tree hown hK hP 1 rfl rfl 1 (by decide) (hts _ w_1037) (fun _ h9 => h9) (MFg (by decide) rfl) d_Mo_below_48 ?_
          refine lv_iload_n hx hb d_Mo_below_51 rfl (lv_at hl 1 rfl) ?_
          refine va_lald hx hb hK hP 3 1 rfl rfl (vp_in_nI (show a9 < T.N by omega) (by omega)) d_Mo_below_52 ?_
          rw [show (nI a9).toNatClampNeg = a9 from nI_clamp (by omega)]
          refine lv_aload_n hx hb d_Mo_below_53 rfl (lv_at hl 0 rfl) ?_
          refine va_get (D := (dC, dI)) (ci := 13) (v := .ref t) (C := R_Mo) (T := F_Mo) (N := 30) hx hb hts in_Mo hown hK hP 0 rfl rfl 29 (by decide) (hts _ w_1118) (fun _ h9 => h9) (MFg (by decide) h29) d_Mo_below_54 ?_
          refine va_get (D := (dC, dI)) (ci := 12) (v := .ref T.a1) (C := R_Tree) (T := F_Tree) (N := 13) hx hb hts in_Tree hown hK hP 1 rfl rfl 1 (by decide) (hts _ w_1037) (fun _ h9 => h9) (MFg (by decide) rfl) d_Mo_below_57 ?_
          refine lv_iload_n hx hb d_Mo_below_60 rfl (lv_at hl 2 rfl) ?_
          refine va_lald hx hb hK hP 3 1 rfl rfl (vp_in_nI (show b9 < T.N by omega) (by omega)) d_Mo_below_61 ?_
          rw [show (nI b9).toNatClampNeg = b9 from nI_clamp (by omega)]
          refine W.lcmp hx hb d_Mo_below_62 ?_
          refine lv_if_ge (tgt := 70) hx hb d_Mo_below_63 (by decide) (fun c63 => ?_) (fun c63 => ?_)
          · refine lv_iconst (v := 0) hx hb d_Mo_below_70 (by decide) ?_
            exact W.zret (v := 0) hx hb hr rfl (fun t9 ht hW => ⟨⟨0, (), rfl, (by rw [hoa, hob]; show _ = bI (lessU ua ub); unfold lessU; rw [decide_eq_true ((hva.kkn hvb).mp c26)]; rw [if_pos ((hva.kd (k := 3) (by decide)).mp c41), ← hva.num ((hva.kd (k := 3) (by decide)).mp c41), ← hvb.num (((hva.kkn hvb).mp c26).symm.trans ((hva.kd (k := 3) (by decide)).mp c41)), decide_eq_false (fun e => absurd ((lg_cmp_lt _ _).mpr e) (Int32.not_lt.mpr c63))]; rfl), by rw [ht]; exact hP, va_K.moved hW.alike hK, hD⟩, hS.F ht⟩) hS.2.2 d_Mo_below_71
          · refine lv_iconst (v := 1) hx hb d_Mo_below_66 (by decide) ?_
            refine lv_goto (tgt := 71) hx hb d_Mo_below_67 (by decide) ?_
            exact W.zret (v := 1) hx hb hr rfl (fun t9 ht hW => ⟨⟨1, (), rfl, (by rw [hoa, hob]; show _ = bI (lessU ua ub); unfold lessU; rw [decide_eq_true ((hva.kkn hvb).mp c26)]; rw [if_pos ((hva.kd (k := 3) (by decide)).mp c41), ← hva.num ((hva.kd (k := 3) (by decide)).mp c41), ← hvb.num (((hva.kkn hvb).mp c26).symm.trans ((hva.kd (k := 3) (by decide)).mp c41)), decide_eq_true ((lg_cmp_lt _ _).mp (Int32.not_le.mp c63))]; rfl), by rw [ht]; exact hP, va_K.moved hW.alike hK, hD⟩, hS.F ht⟩) hS.2.2 d_Mo_below_71
      · refine lv_iconst (v := 0) hx hb d_Mo_below_29 (by decide) ?_
        exact W.zret (v := 0) hx hb hr rfl (fun t9 ht hW => ⟨⟨0, (), rfl, (by rw [hoa, hob]; show _ = bI (lessU ua ub); unfold lessU; rw [decide_eq_false (fun e => c26 ((hva.kkn hvb).mpr e))]; rfl), by rw [ht]; exact hP, va_K.moved hW.alike hK, hD⟩, hS.F ht⟩) hS.2.2 d_Mo_below_30
