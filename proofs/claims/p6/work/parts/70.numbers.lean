theorem w_1493 : (.methodLink "QueryBenchModel" 357 ⟨"QueryBenchModel", "choose", "(I)V"⟩ : Cond) ∈ gtbl := gt_in 1493 (by decide +kernel) (by decide +kernel)
theorem w_1495 : (.instanceMethod ⟨"QueryBenchModel", "choose", "(I)V"⟩ : Cond) ∈ gtbl := gt_in 1495 (by decide +kernel) (by decide +kernel)
theorem w_1513 : (.methodLink "QueryBenchModel" 85 ⟨"QueryBenchModel$Tree", "size", "(I)I"⟩ : Cond) ∈ gtbl := gt_in 1513 (by decide +kernel) (by decide +kernel)
theorem w_1514 : (.instanceMethod ⟨"QueryBenchModel$Tree", "size", "(I)I"⟩ : Cond) ∈ gtbl := gt_in 1514 (by decide +kernel) (by decide +kernel)
theorem w_1515 : (.selects "QueryBenchModel$Tree" ⟨"QueryBenchModel$Tree", "size", "(I)I"⟩ ⟨"QueryBenchModel$Tree", "size", "(I)I"⟩ : Cond) ∈ gtbl := gt_in 1515 (by decide +kernel) (by decide +kernel)
theorem w_1517 : (.methodLink "QueryBenchModel" 372 ⟨"QueryBenchModel", "kidAt", "(IJ)I"⟩ : Cond) ∈ gtbl := gt_in 1517 (by decide +kernel) (by decide +kernel)
theorem w_1519 : (.instanceMethod ⟨"QueryBenchModel", "kidAt", "(IJ)I"⟩ : Cond) ∈ gtbl := gt_in 1519 (by decide +kernel) (by decide +kernel)
theorem w_1521 : (.constantLong "QueryBenchModel" 376 (-1) : Cond) ∈ gtbl := gt_in 1521 (by decide +kernel) (by decide +kernel)
def uszK {β : Type} (us : β → Nat) : List (List Int32 × β) → Nat
  | [] => 0
  | c :: cs => c.1.length + us c.2 + uszK us cs
/-- how many units a value holds -/
def usz : (r : Nat) → JVt r → Nat
  | 0, x => x.2.2.length
  | r + 1, x => x.1.2.2.length + uszK (usz r) x.2
def cntK {β : Type} (cn : β → Nat) : List (List Int32 × β) → Nat
  | [] => 0
  | c :: cs => cn c.2 + cntK cn cs
/-- how many nodes a value has -/
def ncnt : (r : Nat) → JVt r → Nat
  | 0, _ => 1
  | r + 1, x => 1 + cntK (ncnt r) x.2
theorem uszK_mem {β : Type} {us : β → Nat} : ∀ {cs : List (List Int32 × β)} {c : List Int32 × β}, c ∈ cs → us c.2 ≤ uszK us cs
  | d :: ds, c, h => by
    rcases List.mem_cons.mp h with e | e
    · subst e; simp only [uszK]; omega
    · have := uszK_mem (us := us) e; simp only [uszK]; omega
theorem unL_len (q : Int32) (l : List Int32) : l.length + 2 ≤ (unL q l).length := by
  have h1 : ∀ u, 1 ≤ (unB q u).length := fun u => by unfold unB; split <;> (try split) <;> (try split) <;> simp
  have h2 : ∀ l : List Int32, l.length ≤ (l.flatMap (unB q)).length := by
    intro l
    induction l with
    | nil => simp
    | cons u l ih => have := h1 u; simp only [List.flatMap_cons, List.length_append, List.length_cons]; omega
  have := h2 l
  unfold unL
  simp only [List.length_append, List.length_cons, List.length_nil]
  omega
theorem wfL_usz {x : LF} (h : wfL x) : x.2.2.length ≤ (prLf x).length := by
  rcases h with h | h | h | ⟨v, _, h⟩ | ⟨us, _, h⟩
  · rw [h]; simp
  · rw [h]; simp
  · rw [h]; simp
  · rw [h]; simp
  · rw [h]
    have := unL_len 34 us
    have e : prLf (4, 0, us) = unL 34 us := rfl
    rw [e]
    show us.length ≤ _
    omega
/-- a value is written no shorter than its units -/
theorem usz_pr : ∀ (r : Nat) (x : JVt r), wfV r x → usz r x ≤ (prV r x).length := by
  intro r
  induction r with
  | zero => intro x h; exact wfL_usz h
  | succ r ih =>
    intro x h
    have hk : ∀ (ob fst : Bool) (cs : List (List Int32 × JVt r)), (∀ c, c ∈ cs → (ob = false → c.1 = []) ∧ wfV r c.2) → uszK (usz r) cs ≤ (prK (prV r) ob fst cs).length := by
      intro ob fst cs
      induction cs generalizing fst with
      | nil => intro _; exact Nat.zero_le _
      | cons c cs ihc =>
        intro hc
        have h1 := hc c List.mem_cons_self
        have h2 := ih c.2 h1.2
        have h3 := ihc false (fun d hd => hc d (List.mem_cons_of_mem _ hd))
        have h4 := unL_len 34 c.1
        simp only [uszK, prK, List.length_append]
        cases ob with
        | false => rw [h1.1 rfl]; simp only [List.length_nil]; omega
        | true => simp only [if_true, List.length_append]; omega
    simp only [usz, prV]
    rcases h with ⟨h1, h2⟩ | ⟨h1, h2⟩ | ⟨h1, h2, _⟩
    · have h5 : x.1.1 < 5 := by rcases h1 with q | q | q | ⟨v, _, q⟩ | ⟨u, _, q⟩ <;> rw [q] <;> (first | decide | (show (3 : Nat) < 5; decide) | (show (4 : Nat) < 5; decide))
      rw [if_pos h5, h2]
      have := wfL_usz h1
      simp only [uszK]
      omega
    · have h9 := hk (decide (x.1.1 = 6)) true x.2 (fun c hc => ⟨fun _ => (h2 c hc).1, (h2 c hc).2⟩)
      have e1 : x.1.1 = 5 := by rw [h1]
      have e2 : x.1.2.2.length = 0 := by rw [h1]; rfl
      rw [if_neg (by omega)]
      simp only [List.length_append, List.length_cons, List.length_nil]
      omega
    · have h9 := hk (decide (x.1.1 = 6)) true x.2 (fun c hc => ⟨fun q => by rw [h1] at q; exact absurd q (by decide), (h2 c hc).2⟩)
      have e1 : x.1.1 = 6 := by rw [h1]
      have e2 : x.1.2.2.length = 0 := by rw [h1]; rfl
      rw [if_neg (by omega)]
      simp only [List.length_append, List.length_cons, List.length_nil]
      omega
theorem RepV_cnt {T : TS} : ∀ (r a e : Nat) (x : JVt r), RepV T r a e x → a + ncnt r x ≤ e := by
  intro r
  induction r with
  | zero => intro a e x h; exact h.1
  | succ r ih =>
    intro a e x h
    have hk : ∀ (cs : List (List Int32 × JVt r)) (lo : Nat) (k : Int32), lo ≤ e → RepK (RepV T r) T (x.1.1 = 6) a e (-1) lo k cs → lo + cntK (ncnt r) cs ≤ e := by
      intro cs
      induction cs with
      | nil => intro lo k hlo _; exact hlo
      | cons c cs ihc =>
        intro lo k hlo hc
        obtain ⟨b, eb, e1, e2, e3, e4, e5, e6, e7⟩ := hc
        have h1 := ih b eb c.2 e6
        have h2 := ihc eb _ e3 e7
        simp only [cntK]
        omega
    have := hk _ _ _ h.1 h.2.2.2.2
    simp only [ncnt]
    omega
/-- node a has k nodes above it -/
def AN (T : TS) : Nat → Nat → Prop
  | 0, a => T.pa a = -1
  | k + 1, a => ∃ p ks, T.pa a = nI p ∧ p < T.ct ∧ chn T.nx T.ct ks (T.ki p) ∧ a ∈ ks ∧ (T.kd p = 6 → nmOK T a) ∧ AN T k p
/-- a node of the document, at most r deep below it -/
def NDr (T : TS) (r a : Nat) : Prop := a < T.ct ∧ (∃ e x, RepV T r a e x ∧ usz r x ≤ 4096 ∧ allL smF r x ∧ wfV r x) ∧ ∃ k, r + k ≤ 32 ∧ AN T k a
def ND (T : TS) (a : Nat) : Prop := ∃ r, NDr T r a
theorem kd_6 {T : TS} {a k : Nat} (h : T.kd a = nI k) (hk : k ≤ 6) : T.kd a = 6 → k = 6 := by
  intro e
  have h9 := congrArg Int32.toNatClampNeg (h.symm.trans (e.trans (show (6 : Int32) = nI 6 from rfl)))
  rw [nI_clamp (by omega), nI_clamp (by omega)] at h9
  exact h9
theorem RepK_mem {β : Type} {rep : Nat → Nat → β → Prop} {T : TS} {ob : Prop} {a hi : Nat} (hhi : hi ≤ T.ct) (hrep : ∀ b eb c, rep b eb c → b < eb) :
    ∀ (cs : List (List Int32 × β)) (lo : Nat) (k : Int32), RepK rep T ob a hi (-1) lo k cs → ∃ ks : List Nat, chn T.nx T.ct ks k ∧ ks.length ≤ hi - lo ∧ ∀ x, x ∈ ks → T.pa x = nI a ∧ (ob → nmOK T x) ∧ lo ≤ x ∧ ∃ eb c, c ∈ cs ∧ rep x eb c.2 := by
  intro cs
  induction cs with
  | nil => intro lo k h; exact ⟨[], by show k < 0; rw [show k = -1 from h]; decide, Nat.zero_le _, fun x hx => absurd hx (by simp)⟩
  | cons c cs ih =>
    intro lo k h
    obtain ⟨b, eb, e1, e2, e3, e4, e5, e6, e7⟩ := h
    obtain ⟨ks, f1, f0, f2⟩ := ih eb _ e7
    have := hrep _ _ _ e6
    refine ⟨b :: ks, ⟨e1, by omega, f1⟩, by rw [List.length_cons]; omega, fun x hx => ?_⟩
    rcases List.mem_cons.mp hx with h | h
    · rw [h]; exact ⟨e4, fun ho => (e5 ho).1, e2, eb, c, List.mem_cons_self, e6⟩
    · obtain ⟨g1, g2, g3, g4, g5, g6, g7⟩ := f2 x h
      exact ⟨g1, g2, by omega, g4, g5, List.mem_cons_of_mem _ g6, g7⟩
theorem NDr.lt {T : TS} {r a : Nat} (h : NDr T r a) : a < T.ct ∧ r ≤ 32 := by
  obtain ⟨h1, _, k, hk, _⟩ := h
  exact ⟨h1, by omega⟩
theorem NDr.kind {T : TS} {r a : Nat} (h : NDr T r a) : ∃ k, k ≤ 6 ∧ T.kd a = nI k := by
  obtain ⟨h1, ⟨e, x, hx, _⟩, _⟩ := h
  cases r with
  | zero => exact ⟨_, hx.2.2.1.2.1, hx.2.2.1.1⟩
  | succ r => exact ⟨_, hx.2.2.1.2.1, hx.2.2.1.1⟩
/-- the list's first tp places hold nodes -/
def LI (T : TS) (li : Nat → Int32) (tp : Nat) : Prop := ∀ j, j < tp → ∃ a, li j = nI a ∧ ND T a
theorem LI.add {T : TS} {li : Nat → Int32} {tp a : Nat} (h : LI T li tp) (ha : ND T a) : LI T (upd li tp (nI a)) (tp + 1) := by
  intro j hj
  by_cases e : j = tp
  · subst e; exact ⟨a, pk_us, ha⟩
  · rw [pk_un e]; exact h j (by omega)
theorem LI.mono {T : TS} {li : Nat → Int32} {tp t2 : Nat} (h : LI T li tp) (ht : t2 ≤ tp) : LI T li t2 := fun j hj => h j (by omega)
/-- how the work may go on: c more at most when it has become too much -/
def DB (c dn : Nat) (tm : Int32) (d2 : Nat) (t2 : Int32) : Prop := dn ≤ d2 ∧ (tm = 0 → d2 ≤ 10001 + c ∧ (t2 = 0 → d2 ≤ 10000)) ∧ (¬ tm = 0 → ¬ t2 = 0 ∧ d2 ≤ dn + 1)
/-- the work's state: the list's top, the work done, too much, the list -/
def EI (T : TS) (tp dn : Nat) (tm : Int32) (li : Nat → Int32) : Prop := tp ≤ dn ∧ tp ≤ 10000 ∧ (tm = 0 ∨ tm = 1) ∧ (tm = 0 → dn ≤ 10000) ∧ LI T li tp
theorem DB.rf {c dn : Nat} {tm : Int32} (h : tm = 0 → dn ≤ 10000) : DB c dn tm dn tm := ⟨Nat.le_refl _, fun e => ⟨by have := h e; omega, h⟩, fun e => ⟨e, by omega⟩⟩
/-- one after another: the second only when it is not yet too much -/
theorem DB.tr {c dn d2 d3 : Nat} {tm t2 t3 : Int32} (h : DB c dn tm d2 t2) (h0 : t2 = 0) (g : DB c d2 t2 d3 t3) : DB c dn tm d3 t3 := by
  obtain ⟨h1, h2, h3⟩ := h
  obtain ⟨g1, g2, g3⟩ := g
  refine ⟨by omega, fun e => g2 h0, fun e => absurd h0 (h3 e).1⟩
theorem DB.mono {c c2 dn d2 : Nat} {tm t2 : Int32} (h : DB c dn tm d2 t2) (hc : c ≤ c2) : DB c2 dn tm d2 t2 := ⟨h.1, fun e => ⟨by have := (h.2.1 e).1; omega, (h.2.1 e).2⟩, h.2.2⟩
/-- one more on the list, or too much -/
theorem ch_step {T : TS} {tp d : Nat} {tm : Int32} {li : Nat → Int32} {a : Nat} {u : Nat × Int32 × (Nat → Int32)} (hE : EI T tp d tm li) (ha : ND T a) (hw : (d + 1 ≤ 10000 ∧ tm = 0 ∧ u = (tp + 1, tm, upd li tp (nI a))) ∨ (u.1 = tp ∧ u.2.2 = li ∧ ((¬ tm = 0 ∧ u.2.1 = tm) ∨ (¬ d + 1 ≤ 10000 ∧ u.2.1 = 1)))) : EI T u.1 (d + 1) u.2.1 u.2.2 ∧ tp ≤ u.1 ∧ u.1 ≤ tp + 1 ∧ (∀ j, j < tp → u.2.2 j = li j) ∧ DB 0 d tm (d + 1) u.2.1 := by
  obtain ⟨h1, h2, h3, h4, h5⟩ := hE
  rcases hw with ⟨g1, g2, g3⟩ | ⟨g1, g2, g3⟩
  · subst g3
    refine ⟨⟨by show tp + 1 ≤ d + 1; omega, by show tp + 1 ≤ 10000; omega, h3, fun _ => g1, h5.add ha⟩, by show tp ≤ tp + 1; omega, Nat.le_refl _, fun j hj => pk_un (by omega), by omega, fun e => ⟨by omega, fun _ => g1⟩, fun e => absurd g2 e⟩
  · rw [g1, g2]
    rcases g3 with ⟨k1, k2⟩ | ⟨k1, k2⟩
    · rw [k2]
      exact ⟨⟨by omega, h2, h3, fun e => absurd e k1, h5⟩, Nat.le_refl _, by omega, fun _ _ => rfl, by omega, fun e => absurd e k1, fun _ => ⟨k1, Nat.le_refl _⟩⟩
    · rw [k2]
      exact ⟨⟨by omega, h2, Or.inr rfl, fun e => absurd e (by decide), h5⟩, Nat.le_refl _, by omega, fun _ _ => rfl, by omega, fun e => ⟨by have := h4 e; omega, fun e => absurd e (by decide)⟩, fun _ => ⟨by decide, Nat.le_refl _⟩⟩
theorem chn_mono {nx : Nat → Int32} {N N2 : Nat} (h : N ≤ N2) : ∀ {ks : List Nat} {k : Int32}, chn nx N ks k → chn nx N2 ks k
  | [], _, hc => hc
  | _ :: _, _, hc => ⟨hc.1, Nat.lt_of_lt_of_le hc.2.1 h, chn_mono h hc.2.2⟩
theorem add64 {a b : Int64} (h1 : -(2 ^ 62 : Int) ≤ a.toInt + b.toInt) (h2 : a.toInt + b.toInt ≤ 2 ^ 62) : (a + b).toInt = a.toInt + b.toInt := by
  rw [Int64.toInt_add]
  apply Int.bmod_eq_of_le <;> omega
theorem n64 {k : Nat} (h : k < 2 ^ 31) : ((nI k).toInt64).toInt = (k : Int) := by
  rw [Int32.toInt_toInt64]
  unfold nI
  rw [Int32.toInt_ofNat', show Int32.size = 2 ^ 32 from rfl, Int.bmod_eq_of_le] <;> omega
theorem i64_nat {i : Int64} (h : 0 ≤ i.toInt) (h2 : i.toInt < 2 ^ 62) : i = Int64.ofNat i.toInt.toNat := by
  apply Int64.toInt_inj.mp
  rw [toI_ofN (by omega)]
  omega
/-- one step up, from i to i + st, below k -/
theorem up64 {i st to : Int64} {k : Nat} (hi : 0 ≤ i.toInt) (hto : to.toInt ≤ k) (hk : k ≤ 5000) (hs : 0 < st.toInt) (hs2 : st.toInt ≤ 9007199254740991) (hlt : i < to) : (i + st).toInt = i.toInt + st.toInt ∧ 0 ≤ (i + st).toInt ∧ k - (i + st).toInt.toNat < k - i.toInt.toNat ∧ i.toInt.toNat < k ∧ i = Int64.ofNat i.toInt.toNat := by
  rw [Int64.lt_iff_toInt_lt] at hlt
  have e := add64 (a := i) (b := st) (by omega) (by omega)
  refine ⟨e, by omega, ?_, by omega, i64_nat hi (by omega)⟩
  rw [e]
  omega
/-- one step down -/
theorem dn64 {i st to : Int64} {k : Nat} (hi : i.toInt < k) (hto : -1 ≤ to.toInt) (hk : k ≤ 5000) (hs : st.toInt < 0) (hs2 : -9007199254740991 ≤ st.toInt) (hlt : to < i) : (i + st).toInt = i.toInt + st.toInt ∧ (i + st).toInt < k ∧ (i + st + 1).toInt.toNat < (i + 1).toInt.toNat ∧ i.toInt.toNat < k ∧ i = Int64.ofNat i.toInt.toNat := by
  rw [Int64.lt_iff_toInt_lt] at hlt
  have e := add64 (a := i) (b := st) (by omega) (by omega)
  have o1 : (1 : Int64).toInt = 1 := rfl
  have e1 := add64 (a := i) (b := 1) (by omega) (by omega)
  have e2 := add64 (a := i + st) (b := 1) (by omega) (by omega)
  refine ⟨e, by omega, ?_, by omega, i64_nat (by omega) (by omega)⟩
  rw [e1, e2, e, o1]
  omega
/-- the way to node a, from it upwards: which member it is of the one above, and so on -/
def AP (T : TS) : List Nat → Nat → Prop
  | [], a => T.pa a = -1 ∧ a = 0
  | i :: rp, a => ∃ (p : Nat) (ks : List Nat), T.pa a = nI p ∧ p < T.ct ∧ chn T.nx T.ct ks (T.ki p) ∧ ks[i]? = some a ∧ (T.kd p = 6 → nmOK T a) ∧ AP T rp p
theorem AP.an {T : TS} : ∀ {rp : List Nat} {a : Nat}, AP T rp a → AN T rp.length a
  | [], _, h => h.1
  | _ :: _, _, h => by
    obtain ⟨p, ks, h1, h2, h3, h4, h5, h6⟩ := h
    exact ⟨p, ks, h1, h2, h3, List.mem_of_getElem? h4, h5, h6.an⟩
/-- a holds the value u, as a document may hold it -/
def DVl (T : TS) (a : Nat) (u : VU) : Prop := ∃ e, RepV T u.1 a e u.2 ∧ usz u.1 u.2 ≤ 4096 ∧ allL smF u.1 u.2 ∧ wfV u.1 u.2
/-- a is the node nd of the document -/
def NDn (T : TS) (a : Nat) (nd : NT) : Prop := a < T.ct ∧ DVl T a nd.2 ∧ nd.2.1 + nd.1.length ≤ 32 ∧ AP T nd.1.reverse a
theorem NDn.r {T : TS} {a : Nat} {nd : NT} (h : NDn T a nd) : NDr T nd.2.1 a := by
  obtain ⟨h1, ⟨e, h2, h3, h4, h5⟩, h6, h7⟩ := h
  exact ⟨h1, ⟨e, nd.2.2, h2, h3, h4, h5⟩, nd.1.length, h6, by have := h7.an; rw [List.length_reverse] at this; exact this⟩
theorem NDn.root {T : TS} {x : JVt 32} (h : RepV T 32 0 T.ct x) (hu : usz 32 x ≤ 4096) (hal : allL smF 32 x) (hw : wfV 32 x) (hp : T.pa 0 = -1) : NDn T 0 ([], ⟨32, x⟩) := ⟨(RepV_lt h).1, ⟨T.ct, h, hu, hal, hw⟩, Nat.le_refl _, hp, rfl⟩
theorem RepV_leaf {T : TS} {u : VU} {a e : Nat} (h : RepV T u.1 a e u.2) : RepL T a (lfU u) := by
  obtain ⟨r, x⟩ := u
  cases r with
  | zero => exact h.2.2.1
  | succ r => exact h.2.2.1
theorem RepV_kd {T : TS} {u : VU} {a e : Nat} (h : RepV T u.1 a e u.2) : T.kd a = nI (lfU u).1 ∧ (lfU u).1 ≤ 6 := ⟨(RepV_leaf h).1, (RepV_leaf h).2.1⟩
theorem kd_is {T : TS} {u : VU} {a e k : Nat} (h : RepV T u.1 a e u.2) (hk : k ≤ 6) : T.kd a = nI k ↔ (lfU u).1 = k := by
  obtain ⟨h1, h2⟩ := RepV_kd h
  rw [h1]
  constructor
  · intro e
    have h9 := congrArg Int32.toNatClampNeg e
    rw [nI_clamp (by omega), nI_clamp (by omega)] at h9
    exact h9
  · intro e; rw [e]
theorem RepK_ix {β : Type} {rep : Nat → Nat → β → Prop} {T : TS} {ob : Prop} {a hi : Nat} (hhi : hi ≤ T.ct) (hrep : ∀ b eb c, rep b eb c → b < eb) :
    ∀ (cs : List (List Int32 × β)) (lo : Nat) (k : Int32), RepK rep T ob a hi (-1) lo k cs → ∃ ks : List Nat, chn T.nx T.ct ks k ∧ ks.length = cs.length ∧ (lo ≤ hi → ks.length ≤ hi - lo) ∧ ∀ (i x : Nat) (c : List Int32 × β), ks[i]? = some x → cs[i]? = some c → T.pa x = nI a ∧ (ob → nmOK T x ∧ nmT T x = c.1) ∧ lo ≤ x ∧ ∃ eb, eb ≤ hi ∧ rep x eb c.2 := by
  intro cs
  induction cs with
  | nil => intro lo k h; exact ⟨[], by show k < 0; rw [show k = -1 from h]; decide, rfl, fun _ => Nat.zero_le _, fun i x c hx => by cases hx⟩
  | cons c cs ih =>
    intro lo k h
    obtain ⟨b, eb, e1, e2, e3, e4, e5, e6, e7⟩ := h
    obtain ⟨ks, f1, f0, fl, f2⟩ := ih eb _ e7
    have := hrep _ _ _ e6
    have := fl e3
    refine ⟨b :: ks, ⟨e1, by omega, f1⟩, by rw [List.length_cons, List.length_cons, f0], fun _ => by rw [List.length_cons]; omega, fun i x d hx hd => ?_⟩
    cases i with
    | zero =>
      obtain rfl : b = x := Option.some.inj hx
      obtain rfl : c = d := Option.some.inj hd
      exact ⟨e4, e5, e2, eb, e3, e6⟩
    | succ i =>
      obtain ⟨g1, g2, g3, g4, g5, g6⟩ := f2 i x d hx hd
      exact ⟨g1, g2, by omega, g4, g5, g6⟩
/-- the members of a value -/
theorem RepV_kids {T : TS} {u : VU} {a e : Nat} (h : RepV T u.1 a e u.2) : ∃ ks : List Nat, chn T.nx T.ct ks (T.ki a) ∧ ks.length = (ksU u).length ∧ ks.length ≤ T.ct ∧ ∀ (i x : Nat) (c : List Int32 × VU), ks[i]? = some x → (ksU u)[i]? = some c → T.pa x = nI a ∧ ((lfU u).1 = 6 → nmOK T x ∧ nmT T x = c.1) ∧ a < x ∧ x < T.ct ∧ c.2.1 + 1 = u.1 ∧ ∃ eb, RepV T c.2.1 x eb c.2.2 := by
  obtain ⟨r, x⟩ := u
  cases r with
  | zero => exact ⟨[], by show T.ki a < 0; rw [show T.ki a = -1 from h.2.2.2.1]; decide, rfl, Nat.zero_le _, fun i x c hx => by cases hx⟩
  | succ r =>
    obtain ⟨g1, g2, g3, g4, g5⟩ := h
    obtain ⟨ks, f1, f0, fl, f2⟩ := RepK_ix g2 (fun b eb c hc => (RepV_lt hc).1) _ _ _ g5
    refine ⟨ks, f1, f0.trans (List.length_map _).symm, by have := fl (by omega); omega, fun i y c hy hc => ?_⟩
    obtain ⟨d, d1, rfl⟩ : ∃ d, x.2[i]? = some d ∧ c = (d.1, (⟨r, d.2⟩ : VU)) := by
      have h1 : (x.2.map (fun p => (p.1, (⟨r, p.2⟩ : VU))))[i]? = some c := hc
      rw [List.getElem?_map] at h1
      cases hd : x.2[i]? with
      | none => rw [hd] at h1; cases h1
      | some d => rw [hd] at h1; exact ⟨d, rfl, (Option.some.inj h1).symm⟩
    obtain ⟨q1, q2, q3, eb, q4, q5⟩ := f2 i y d hy d1
    have := RepV_lt q5
    exact ⟨q1, q2, by omega, by omega, rfl, eb, q5⟩
theorem allL_kid {u : VU} (h : allL smF u.1 u.2) {i : Nat} {c : List Int32 × VU} (hc : (ksU u)[i]? = some c) : allL smF c.2.1 c.2.2 := by
  obtain ⟨r, x⟩ := u
  cases r with
  | zero => cases hc
  | succ r =>
    have h1 : (x.2.map (fun p => (p.1, (⟨r, p.2⟩ : VU))))[i]? = some c := hc
    rw [List.getElem?_map] at h1
    cases hd : x.2[i]? with
    | none => rw [hd] at h1; cases h1
    | some d =>
      rw [hd] at h1
      obtain rfl := Option.some.inj h1
      exact h.2 d (List.mem_of_getElem? hd)
theorem usz_kid {u : VU} (h : usz u.1 u.2 ≤ 4096) {i : Nat} {c : List Int32 × VU} (hc : (ksU u)[i]? = some c) : usz c.2.1 c.2.2 ≤ 4096 := by
  obtain ⟨r, x⟩ := u
  cases r with
  | zero => cases hc
  | succ r =>
    have h1 : (x.2.map (fun p => (p.1, (⟨r, p.2⟩ : VU))))[i]? = some c := hc
    rw [List.getElem?_map] at h1
    cases hd : x.2[i]? with
    | none => rw [hd] at h1; cases h1
    | some d =>
      rw [hd] at h1
      obtain rfl := Option.some.inj h1
      have hu := uszK_mem (us := usz r) (List.mem_of_getElem? hd)
      have h : x.1.2.2.length + uszK (usz r) x.2 ≤ 4096 := h
      show usz r d.2 ≤ 4096
      omega
theorem wf_kid {u : VU} (h : wfV u.1 u.2) {i : Nat} {c : List Int32 × VU} (hc : (ksU u)[i]? = some c) : wfV c.2.1 c.2.2 ∧ uOK c.1 := by
  obtain ⟨r, x⟩ := u
  cases r with
  | zero => cases hc
  | succ r =>
    have h1 : (x.2.map (fun p => (p.1, (⟨r, p.2⟩ : VU))))[i]? = some c := hc
    rw [List.getElem?_map] at h1
    cases hd : x.2[i]? with
    | none => rw [hd] at h1; cases h1
    | some d =>
      rw [hd] at h1
      obtain rfl := Option.some.inj h1
      have hm := List.mem_of_getElem? hd
      rcases h with ⟨-, h2⟩ | ⟨-, h2⟩ | ⟨-, h2, -⟩
      · have h2 : x.2 = [] := h2
        rw [h2] at hm; cases hm
      · exact ⟨(h2 d hm).2, by show uOK d.1; rw [(h2 d hm).1]; exact trivial⟩
      · exact ⟨(h2 d hm).2, (h2 d hm).1⟩
theorem wf_nodup {u : VU} (h : wfV u.1 u.2) (h6 : (lfU u).1 = 6) : ((ksU u).map (·.1)).Nodup := by
  obtain ⟨r, x⟩ := u
  cases r with
  | zero => exact List.nodup_nil
  | succ r =>
    show ((x.2.map (fun p => (p.1, (⟨r, p.2⟩ : VU)))).map (·.1)).Nodup
    rw [List.map_map]
    rcases h with ⟨h1, h2⟩ | ⟨h1, h2⟩ | ⟨h1, h2, h3⟩
    · have h2 : x.2 = [] := h2
      rw [h2]; exact List.nodup_nil
    · have h6 : x.1.1 = 6 := h6
      have h1 : x.1 = (5, 0, []) := h1
      rw [h1] at h6
      exact absurd h6 (by decide)
    · exact h3
theorem wf_str {u : VU} (h : wfV u.1 u.2) (h4 : (lfU u).1 = 4) : uOK (lfU u).2.2 := by
  have hl : ∀ x : LF, wfL x → x.1 = 4 → uOK x.2.2 := fun x hx e => by
    rcases hx with q | q | q | ⟨v, -, q⟩ | ⟨us, hu, q⟩
    · rw [q] at e; exact absurd e (by decide)
    · rw [q] at e; exact absurd e (by decide)
    · rw [q] at e; exact absurd e (by decide)
    · rw [q] at e; exact absurd e (by show ¬ 3 = 4; decide)
    · rw [q]; exact hu
  obtain ⟨r, x⟩ := u
  cases r with
  | zero => exact hl x h h4
  | succ r =>
    rcases h with ⟨h1, -⟩ | ⟨h1, -⟩ | ⟨h1, -, -⟩
    · exact hl x.1 h1 h4
    · have h4 : x.1.1 = 4 := h4
      have h1 : x.1 = (5, 0, []) := h1
      rw [h1] at h4
      exact absurd h4 (by decide)
    · have h4 : x.1.1 = 4 := h4
      have h1 : x.1 = (6, 0, []) := h1
      rw [h1] at h4
      exact absurd h4 (by decide)
theorem DVl.kid {T : TS} {a : Nat} {u : VU} (h : DVl T a u) {i : Nat} {c : List Int32 × VU} (hc : (ksU u)[i]? = some c) {x eb : Nat} (hr : RepV T c.2.1 x eb c.2.2) : DVl T x c.2 := by
  obtain ⟨e, h1, h2, h3, h4⟩ := h
  exact ⟨eb, hr, usz_kid h2 hc, allL_kid h3 hc, (wf_kid h4 hc).1⟩
theorem kdsI_get {p : List Nat} : ∀ (l : List (List Int32 × VU)) (s i : Nat), (kdsI p s l)[i]? = (l[i]?).map (fun c => (c.1, (p ++ [s + i], c.2))) := by
  intro l
  induction l with
  | nil => intro s i; rfl
  | cons c cs ih =>
    intro s i
    cases i with
    | zero => rfl
    | succ i =>
      show (kdsI p (s + 1) cs)[i]? = (cs[i]?).map _
      rw [ih (s + 1) i, show s + 1 + i = s + (i + 1) by omega]
theorem kdsN_get {nd : NT} {i : Nat} {c : List Int32 × VU} (h : (ksU nd.2)[i]? = some c) : (kdsN nd)[i]? = some (c.1, (nd.1 ++ [i], c.2)) := by
  unfold kdsN
  rw [kdsI_get, h, Nat.zero_add]
  rfl
theorem kdsI_len {p : List Nat} : ∀ (l : List (List Int32 × VU)) (s : Nat), (kdsI p s l).length = l.length := by
  intro l
  induction l with
  | nil => intro s; rfl
  | cons c cs ih => intro s; show (kdsI p (s + 1) cs).length + 1 = cs.length + 1; rw [ih]
theorem kdsN_len {nd : NT} : (kdsN nd).length = (ksU nd.2).length := kdsI_len _ _
theorem kds_ks {nd : NT} {j : Nat} {d : List Int32 × NT} (h : (kdsN nd)[j]? = some d) : ∃ c, (ksU nd.2)[j]? = some c ∧ d = (c.1, (nd.1 ++ [j], c.2)) := by
  unfold kdsN at h
  rw [kdsI_get, Nat.zero_add] at h
  cases hc : (ksU nd.2)[j]? with
  | none => rw [hc] at h; cases h
  | some c => rw [hc] at h; exact ⟨c, rfl, (Option.some.inj h).symm⟩
/-- a node's members -/
theorem NDn.kids {T : TS} {a : Nat} {nd : NT} (h : NDn T a nd) : ∃ ks : List Nat, chn T.nx T.ct ks (T.ki a) ∧ ks.length = (kdsN nd).length ∧ (∀ (i k : Nat) (c : List Int32 × NT), ks[i]? = some k → (kdsN nd)[i]? = some c → NDn T k c.2 ∧ c.2.2.1 < nd.2.1 ∧ (T.kd a = 6 → nmT T k = c.1)) ∧ (T.kd a = 6 → ∀ k, k ∈ ks → nmOK T k) ∧ (∀ k, k ∈ ks → k < T.ct) ∧ ks.length ≤ T.ct := by
  obtain ⟨h1, h2, h6, h7⟩ := h
  obtain ⟨e, h3, -⟩ := id h2
  obtain ⟨ks, f1, f2, f3, f4⟩ := RepV_kids h3
  have hkd := kd_is (k := 6) h3 (Nat.le_refl _)
  have get : ∀ k, k ∈ ks → ∃ i c, ks[i]? = some k ∧ (ksU nd.2)[i]? = some c := fun k hk => by
    obtain ⟨i, hi⟩ := List.getElem?_of_mem hk
    have hl := (List.getElem?_eq_some_iff.mp hi).1
    exact ⟨i, _, hi, List.getElem?_eq_getElem (by omega)⟩
  refine ⟨ks, f1, f2.trans kdsN_len.symm, fun i k c hk hc => ?_, fun hd k hk => ?_, fun k hk => ?_, f3⟩
  · obtain ⟨d, d1, rfl⟩ := kds_ks hc
    obtain ⟨q1, q2, q3, q4, q5, eb, q6⟩ := f4 i k d hk d1
    refine ⟨⟨q4, h2.kid d1 q6, ?_, ?_⟩, ?_, fun hd => (q2 (hkd.mp hd)).2⟩
    · show d.2.1 + (nd.1 ++ [i]).length ≤ 32
      rw [List.length_append, List.length_singleton]
      omega
    · show AP T (nd.1 ++ [i]).reverse k
      rw [List.reverse_append]
      exact ⟨a, ks, q1, h1, f1, hk, fun hd => (q2 (hkd.mp hd)).1, h7⟩
    · show d.2.1 < nd.2.1
      omega
  · obtain ⟨i, c, g1, g2⟩ := get k hk
    exact ((f4 i k c g1 g2).2.1 (hkd.mp hd)).1
  · obtain ⟨i, c, g1, g2⟩ := get k hk
    exact (f4 i k c g1 g2).2.2.2.1
/-- the list from i on holds these nodes -/
def LIn (T : TS) (li : Nat → Int32) (i : Nat) (l : List NT) : Prop := ∀ (j : Nat) (nd : NT), l[j]? = some nd → ∃ a, li (i + j) = nI a ∧ NDn T a nd
def catR (a b : List NT × Nat) : List NT × Nat := (a.1 ++ b.1, a.2 + b.2)
theorem catR_0 (R : List NT × Nat) : catR R ([], 0) = R := by obtain ⟨a, b⟩ := R; show (a ++ [], b + 0) = (a, b); rw [List.append_nil, Nat.add_zero]
theorem catR_l (X : List NT × Nat) : catR ([], 0) X = X := by
  obtain ⟨a, b⟩ := X
  show ([] ++ a, 0 + b) = (a, b)
  rw [List.nil_append, Nat.zero_add]
theorem catR_a (A B C : List NT × Nat) : catR (catR A B) C = catR A (catR B C) := by show (A.1 ++ B.1 ++ C.1, A.2 + B.2 + C.2) = (A.1 ++ (B.1 ++ C.1), A.2 + (B.2 + C.2)); rw [List.append_assoc, Nat.add_assoc]
/-- these nodes have been chosen, with this work; or it has become too much -/
def PUr (T : TS) (R : List NT × Nat) (tp dn t2 d2 : Nat) (m2 : Int32) (l2 : Nat → Int32) : Prop := (m2 = 0 → t2 = tp + R.1.length ∧ d2 = dn + R.2 ∧ LIn T l2 tp R.1) ∧ (¬ m2 = 0 → 10000 < dn + R.2)
theorem PUr.rf {T : TS} {tp dn : Nat} {li : Nat → Int32} : PUr T ([], 0) tp dn tp dn 0 li := ⟨fun _ => ⟨rfl, rfl, fun j nd h => by simp at h⟩, fun h => absurd rfl h⟩
theorem PUr.tr {T : TS} {R1 R2 : List NT × Nat} {tp dn t1 d1 t2 d2 : Nat} {m1 m2 : Int32} {l1 l2 : Nat → Int32} (h1 : PUr T R1 tp dn t1 d1 m1 l1) (h2 : m1 = 0 → PUr T R2 t1 d1 t2 d2 m2 l2 ∧ ∀ j, j < t1 → l2 j = l1 j) (h3 : ¬ m1 = 0 → ¬ m2 = 0) : PUr T (catR R1 R2) tp dn t2 d2 m2 l2 := by
  by_cases e : m1 = 0
  · obtain ⟨a1, a2, a3⟩ := h1.1 e
    obtain ⟨⟨b1, b2⟩, b3⟩ := h2 e
    refine ⟨fun hm => ?_, fun hm => ?_⟩
    · obtain ⟨c1, c2, c3⟩ := b1 hm
      refine ⟨by show t2 = tp + (R1.1 ++ R2.1).length; rw [List.length_append]; omega, by show d2 = dn + (R1.2 + R2.2); omega, fun j nd h => ?_⟩
      have h : (R1.1 ++ R2.1)[j]? = some nd := h
      by_cases hj : j < R1.1.length
      · rw [List.getElem?_append_left hj] at h
        obtain ⟨a, q1, q2⟩ := a3 j nd h
        exact ⟨a, (b3 (tp + j) (by omega)).trans q1, q2⟩
      · rw [List.getElem?_append_right (by omega)] at h
        obtain ⟨a, q1, q2⟩ := c3 (j - R1.1.length) nd h
        refine ⟨a, ?_, q2⟩
        rw [show tp + j = t1 + (j - R1.1.length) by omega]
        exact q1
    · have := b2 hm
      show 10000 < dn + (R1.2 + R2.2)
      omega
  · have := h1.2 e
    exact ⟨fun hm => absurd hm (h3 e), fun _ => by show 10000 < dn + (R1.2 + R2.2); omega⟩
/-- one more chosen, or too much -/
theorem PUr.ch {T : TS} {tp d a : Nat} {tm : Int32} {li : Nat → Int32} {nd : NT} {u : Nat × Int32 × (Nat → Int32)} (h0 : tm = 0) (ha : NDn T a nd) (hw : (d + 1 ≤ 10000 ∧ tm = 0 ∧ u = (tp + 1, tm, upd li tp (nI a))) ∨ (u.1 = tp ∧ u.2.2 = li ∧ ((¬ tm = 0 ∧ u.2.1 = tm) ∨ (¬ d + 1 ≤ 10000 ∧ u.2.1 = 1)))) : PUr T ([nd], 1) tp d u.1 (d + 1) u.2.1 u.2.2 := by
  subst h0
  rcases hw with ⟨g1, g2, g3⟩ | ⟨g1, g2, g3⟩
  · subst g3
    refine ⟨fun _ => ⟨rfl, rfl, fun j n2 h => ?_⟩, fun h => absurd rfl h⟩
    have hj := (List.getElem?_eq_some_iff.mp h).1
    obtain rfl : j = 0 := by simpa using hj
    obtain rfl : nd = n2 := Option.some.inj h
    exact ⟨a, pk_us, ha⟩
  · rcases g3 with ⟨k1, -⟩ | ⟨k1, k2⟩
    · exact absurd rfl k1
    · rw [k2]
      exact ⟨fun h => absurd h (by decide), fun _ => by show 10000 < d + 1; omega⟩
/-- work without a node -/
theorem PUr.wk {T : TS} {tp d : Nat} {m : Int32} {li : Nat → Int32} (h1 : m = 0 → d + 1 ≤ 10000) (h2 : ¬ m = 0 → ¬ d + 1 ≤ 10000) : PUr T ([], 1) tp d tp (d + 1) m li := ⟨fun _ => ⟨rfl, rfl, fun j nd h => by simp at h⟩, fun h => by have := h2 h; show 10000 < d + 1; omega⟩
theorem PUr.of {T : TS} {R R2 : List NT × Nat} {tp dn t2 d2 : Nat} {m2 : Int32} {l2 : Nat → Int32} (h : PUr T R tp dn t2 d2 m2 l2) (e : R = R2) : PUr T R2 tp dn t2 d2 m2 l2 := e ▸ h
/-- the nodes at these places, one piece of work each -/
def atsR (nd : NT) (l : List Int) : List NT × Nat := (l.filterMap (fun i => ((kdsN nd)[i.toNat]?).map (·.2)), l.length)
theorem atsR_0 {nd : NT} : atsR nd [] = ([], 0) := rfl
theorem atsR_c {nd : NT} {i : Int} {l : List Int} {c : List Int32 × NT} (h : (kdsN nd)[i.toNat]? = some c) : atsR nd (i :: l) = catR ([c.2], 1) (atsR nd l) := by
  unfold atsR catR
  rw [List.filterMap_cons, h]
  refine Prod.ext rfl ?_
  show l.length + 1 = 1 + l.length
  omega
theorem upL_nil {k : Nat} {i to st : Int} (h : ¬ i < to) : upLs k i to st = [] := by
  cases k with
  | zero => rfl
  | succ k => simp only [upLs]; rw [if_neg h]
theorem dnL_nil {k : Nat} {i to st : Int} (h : ¬ to < i) : dnL k i to st = [] := by
  cases k with
  | zero => rfl
  | succ k => simp only [dnL]; rw [if_neg h]
theorem upL_c {k : Nat} {i to st : Int} (h : i < to) : upLs (k + 1) i to st = i :: upLs k (i + st) to st := by simp only [upLs]; rw [if_pos h]
theorem dnL_c {k : Nat} {i to st : Int} (h : to < i) : dnL (k + 1) i to st = i :: dnL k (i + st) to st := by simp only [dnL]; rw [if_pos h]
theorem up_step {nd : NT} {k : Nat} {i to st : Int} {c : List Int32 × NT} (h : i < to) (hk : to < (k : Int) + i) (hc : (kdsN nd)[i.toNat]? = some c) : ∃ k', k = k' + 1 ∧ atsR nd (upLs k i to st) = catR ([c.2], 1) (atsR nd (upLs k' (i + st) to st)) := by
  obtain ⟨k', rfl⟩ : ∃ k', k = k' + 1 := ⟨k - 1, by omega⟩
  exact ⟨k', rfl, by rw [upL_c h, atsR_c hc]⟩
theorem dn_step {nd : NT} {k : Nat} {i to st : Int} {c : List Int32 × NT} (h : to < i) (hk : i < (k : Int) + to) (hc : (kdsN nd)[i.toNat]? = some c) : ∃ k', k = k' + 1 ∧ atsR nd (dnL k i to st) = catR ([c.2], 1) (atsR nd (dnL k' (i + st) to st)) := by
  obtain ⟨k', rfl⟩ : ∃ k', k = k' + 1 := ⟨k - 1, by omega⟩
  exact ⟨k', rfl, by rw [dnL_c h, atsR_c hc]⟩
theorem idxS_1 {v : Int64} {rt nd : NT} {j : Nat} {c : List Int32 × NT} (hk : kdN nd = 5) (hj : frontI (kdsN nd).length v = (j : Int)) (h : (kdsN nd)[j]? = some c) : idxS v rt nd = ([c.2], 1) := by
  unfold idxS
  rw [if_pos ⟨hk, by rw [hj]; omega⟩, hj, Int.toNat_natCast, h]
theorem idxS_0 {v : Int64} {rt nd : NT} (h : ¬ kdN nd = 5 ∨ frontI (kdsN nd).length v < 0 ∨ ((kdsN nd).length : Int) ≤ frontI (kdsN nd).length v) : idxS v rt nd = ([], 0) := by
  unfold idxS
  split
  · rename_i h1
    rcases h with h | h | h
    · exact absurd h1.1 h
    · omega
    · rw [List.getElem?_eq_none_iff.mpr (by omega)]
  · rfl
theorem slcS_no {a b : Option Int64} {c : Int64} {rt nd : NT} (h : ¬ kdN nd = 5 ∨ c.toInt = 0) : slcS a b c rt nd = ([], 0) := by
  unfold slcS
  by_cases hk : kdN nd = 5
  · rw [if_pos hk]
    have hs : slcI (kdsN nd).length a b c = [] := by
      unfold slcI
      rw [if_pos (h.resolve_left (fun q => q hk))]
    rw [hs]
    rfl
  · rw [if_neg hk]
/-- where a slice begins and ends, before it is cut -/
def frF (n : Nat) (a : Option Int64) (st : Int64) : Int := match a with
  | some v => frontI n v
  | none => if 0 < st.toInt then 0 else (n : Int) - 1
def toF (n : Nat) (b : Option Int64) (st : Int64) : Int := match b with
  | some v => frontI n v
  | none => if 0 < st.toInt then (n : Int) else -1
theorem slcS_u {a b : Option Int64} {c : Int64} {rt nd : NT} {n : Nat} {F T : Int} (hk : kdN nd = 5) (hc : 0 < c.toInt) (hn : n = (kdsN nd).length) (hF : F = if frF n a c < 0 then 0 else frF n a c) (hT : T = if (n : Int) < toF n b c then (n : Int) else toF n b c) : slcS a b c rt nd = atsR nd (upLs (n + 1) F T c.toInt) := by
  subst hn
  unfold slcS
  rw [if_pos hk]
  have e : slcI (kdsN nd).length a b c = upLs ((kdsN nd).length + 1) F T c.toInt := by
    unfold slcI
    rw [if_neg (by omega), if_pos hc, hF, hT]
    have h1 : frF (kdsN nd).length none c = 0 := if_pos hc
    have h2 : toF (kdsN nd).length none c = ((kdsN nd).length : Int) := if_pos hc
    cases a with
    | none =>
      cases b with
      | none => rw [h1, h2, if_neg (Int.lt_irrefl _), if_neg (Int.lt_irrefl _)]
      | some w => rw [h1, if_neg (Int.lt_irrefl _)]; rfl
    | some v =>
      cases b with
      | none => rw [h2, if_neg (Int.lt_irrefl _)]; rfl
      | some w => rfl
  rw [e]
  rfl
theorem slcS_d {a b : Option Int64} {c : Int64} {rt nd : NT} {n : Nat} {F T : Int} (hk : kdN nd = 5) (hc : c.toInt < 0) (hn : n = (kdsN nd).length) (hF : F = if (n : Int) - 1 < frF n a c then (n : Int) - 1 else frF n a c) (hT : T = if toF n b c < -1 then -1 else toF n b c) : slcS a b c rt nd = atsR nd (dnL (n + 1) F T c.toInt) := by
  subst hn
  unfold slcS
  rw [if_pos hk]
  have e : slcI (kdsN nd).length a b c = dnL ((kdsN nd).length + 1) F T c.toInt := by
    unfold slcI
    rw [if_neg (by omega), if_neg (by omega), hF, hT]
    have h1 : frF (kdsN nd).length none c = ((kdsN nd).length : Int) - 1 := if_neg (by omega)
    have h2 : toF (kdsN nd).length none c = -1 := if_neg (by omega)
    cases a with
    | none =>
      cases b with
      | none => rw [h1, h2, if_neg (Int.lt_irrefl _), if_neg (Int.lt_irrefl _)]
      | some w => rw [h1, if_neg (Int.lt_irrefl _)]; rfl
    | some v =>
      cases b with
      | none => rw [h2, if_neg (Int.lt_irrefl _)]; rfl
      | some w => rfl
  rw [e]
  rfl
theorem fr_ge {n : Nat} {v : Int64} (h : 0 ≤ lg_cmp v 0) : v.toInt = frontI n v := by
  have h1 := Int64.le_iff_toInt_le.mp ((lg_cmp_ge _ _).mp h)
  rw [show (0 : Int64).toInt = 0 from rfl] at h1
  unfold frontI
  rw [if_neg (by omega)]
theorem fr_lt {n : Nat} {nL v : Int64} (hn : nL.toInt = (n : Int)) (hn5 : n ≤ 5000) (hv : gL v) (h : ¬ 0 ≤ lg_cmp v 0) : (nL + v).toInt = frontI n v := by
  have h1 := Int64.lt_iff_toInt_lt.mp (Int64.not_le.mp (fun q => h ((lg_cmp_ge _ _).mpr q)))
  rw [show (0 : Int64).toInt = 0 from rfl] at h1
  unfold gL at hv
  unfold frontI
  rw [if_pos h1, add64 (by omega) (by omega), hn]
theorem st_pos {st : Int64} (h : ¬ lg_cmp st 0 ≤ 0) : 0 < st.toInt := by
  have h1 := Int64.lt_iff_toInt_lt.mp ((lg_cmp_gt _ _).mp (Int32.not_le.mp h))
  exact h1
theorem st_neg {st : Int64} (h : lg_cmp st 0 ≤ 0) : ¬ 0 < st.toInt := by
  have h1 := Int64.le_iff_toInt_le.mp ((lg_cmp_le _ _).mp h)
  rw [show (0 : Int64).toInt = 0 from rfl] at h1
  omega
/-- R is to be chosen in all, X of it is still to come; or it has become too much -/
def PG (T : TS) (R X : List NT × Nat) (tp dn t2 d2 : Nat) (m2 : Int32) (l2 : Nat → Int32) : Prop := (m2 = 0 → ∃ Rg, catR Rg X = R ∧ t2 = tp + Rg.1.length ∧ d2 = dn + Rg.2 ∧ LIn T l2 tp Rg.1) ∧ (¬ m2 = 0 → 10000 < dn + R.2)
theorem PG.st {T : TS} {R : List NT × Nat} {tp dn : Nat} {li : Nat → Int32} : PG T R R tp dn tp dn 0 li := ⟨fun _ => ⟨([], 0), catR_l R, rfl, rfl, fun j nd h => by simp at h⟩, fun h => absurd rfl h⟩
theorem PG.fin {T : TS} {R : List NT × Nat} {tp dn t2 d2 : Nat} {m2 : Int32} {l2 : Nat → Int32} (h : PG T R ([], 0) tp dn t2 d2 m2 l2) : PUr T R tp dn t2 d2 m2 l2 := ⟨fun hm => by
  obtain ⟨Rg, h1, h2, h3, h4⟩ := h.1 hm
  rw [catR_0] at h1
  subst h1
  exact ⟨h2, h3, h4⟩, h.2⟩
theorem PG.out {T : TS} {R X : List NT × Nat} {tp dn t2 d2 : Nat} {m2 : Int32} {l2 : Nat → Int32} (h : PG T R X tp dn t2 d2 m2 l2) (hm : ¬ m2 = 0) : PUr T R tp dn t2 d2 m2 l2 := ⟨fun q => absurd q hm, h.2⟩
theorem PG.of {T : TS} {R X Y : List NT × Nat} {tp dn t2 d2 : Nat} {m2 : Int32} {l2 : Nat → Int32} (h : PG T R X tp dn t2 d2 m2 l2) (e : X = Y) : PG T R Y tp dn t2 d2 m2 l2 := e ▸ h
/-- some of what is to come has come -/
theorem PG.tr {T : TS} {R X Y X2 : List NT × Nat} {tp dn t1 d1 t2 d2 : Nat} {m1 m2 : Int32} {l1 l2 : Nat → Int32} (h : PG T R X tp dn t1 d1 m1 l1) (hX : X = catR Y X2) (h2 : m1 = 0 → PUr T Y t1 d1 t2 d2 m2 l2) (hp : m1 = 0 → ∀ j, j < t1 → l2 j = l1 j) (h3 : ¬ m1 = 0 → ¬ m2 = 0) : PG T R X2 tp dn t2 d2 m2 l2 := by
  subst hX
  by_cases e : m1 = 0
  · obtain ⟨Rg, a1, a2, a3, a4⟩ := h.1 e
    have b := PUr.tr (R1 := Rg) (R2 := Y) (tp := tp) (dn := dn) (t1 := t1) (d1 := d1) (m1 := m1) (l1 := l1) ⟨fun _ => ⟨a2, a3, a4⟩, fun q => absurd e q⟩ (fun _ => ⟨h2 e, hp e⟩) h3
    refine ⟨fun hm => ?_, fun hm => ?_⟩
    · obtain ⟨c1, c2, c3⟩ := b.1 hm
      exact ⟨catR Rg Y, by rw [catR_a]; exact a1, c1, c2, c3⟩
    · have h5 := b.2 hm
      have h6 : R.2 = Rg.2 + (Y.2 + X2.2) := by rw [← a1]; rfl
      have h7 : (catR Rg Y).2 = Rg.2 + Y.2 := rfl
      omega
  · exact ⟨fun hm => absurd hm (h3 e), fun _ => h.2 e⟩
/-- members that are still to be looked at -/
def rstS (b : Bool) (g : CT) (rt nn : NT) (i : Nat) : List NT × Nat := if b = true then (((kdsN nn).drop i).map (·.2), (kdsN nn).length - i) else filL (g rt) ((kdsN nn).drop i)
theorem rstS_e {g : CT} {rt nn : NT} {i : Nat} {c : List Int32 × NT} (h : (kdsN nn)[i]? = some c) : rstS true g rt nn i = catR ([c.2], 1) (rstS true g rt nn (i + 1)) := by
  have hi := (List.getElem?_eq_some_iff.mp h).1
  have he := (List.getElem?_eq_some_iff.mp h).2
  show (((kdsN nn).drop i).map (·.2), (kdsN nn).length - i) = catR ([c.2], 1) (((kdsN nn).drop (i + 1)).map (·.2), (kdsN nn).length - (i + 1))
  rw [List.drop_eq_getElem_cons hi, he]
  refine Prod.ext rfl ?_
  show (kdsN nn).length - i = 1 + ((kdsN nn).length - (i + 1))
  omega
theorem rstS_f {g : CT} {rt nn : NT} {i : Nat} {c : List Int32 × NT} (h : (kdsN nn)[i]? = some c) : rstS false g rt nn i = catR ([], 1) (catR ([], (g rt c.2).2) (catR (if (g rt c.2).1 = true then ([c.2], 1) else ([], 0)) (rstS false g rt nn (i + 1)))) := by
  have hi := (List.getElem?_eq_some_iff.mp h).1
  have he := (List.getElem?_eq_some_iff.mp h).2
  show filL (g rt) ((kdsN nn).drop i) = _
  rw [List.drop_eq_getElem_cons hi, he]
  simp only [filL]
  by_cases q : (g rt c.2).1 = true
  · rw [if_pos q, if_pos q]
    refine Prod.ext rfl ?_
    show 1 + (g rt c.2).2 + 1 + _ = 1 + ((g rt c.2).2 + (1 + _))
    show 1 + (g rt c.2).2 + 1 + (filL (g rt) ((kdsN nn).drop (i + 1))).2 = 1 + ((g rt c.2).2 + (1 + (filL (g rt) ((kdsN nn).drop (i + 1))).2))
    omega
  · rw [if_neg q, if_neg q]
    refine Prod.ext rfl ?_
    show 1 + (g rt c.2).2 + (filL (g rt) ((kdsN nn).drop (i + 1))).2 = 1 + ((g rt c.2).2 + (0 + (filL (g rt) ((kdsN nn).drop (i + 1))).2))
    omega
theorem rstS_n {b : Bool} {g : CT} {rt nn : NT} {i : Nat} (h : (kdsN nn).length ≤ i) : rstS b g rt nn i = ([], 0) := by
  unfold rstS
  rw [List.drop_eq_nil_of_le h]
  cases b with
  | true => rw [if_pos rfl]; show ([], (kdsN nn).length - i) = _; rw [show (kdsN nn).length - i = 0 by omega]
  | false => rfl
theorem find_at {t : List Int32} : ∀ (l : List (List Int32 × NT)) (i : Nat) (c : List Int32 × NT), l[i]? = some c → c.1 = t → (∀ (j : Nat) (d : List Int32 × NT), j < i → l[j]? = some d → ¬ d.1 = t) → l.find? (fun p => decide (p.1 = t)) = some c := by
  intro l
  induction l with
  | nil => intro i c h; cases h
  | cons x l ih =>
    intro i c h hc hb
    cases i with
    | zero =>
      obtain rfl : x = c := Option.some.inj h
      rw [List.find?_cons_of_pos (by exact decide_eq_true hc)]
    | succ i =>
      rw [List.find?_cons_of_neg (by rw [decide_eq_true_eq]; exact hb 0 x (Nat.zero_lt_succ _) rfl)]
      exact ih i c h hc (fun j d hj hd => hb (j + 1) d (Nat.succ_lt_succ hj) hd)
theorem find_no {t : List Int32} : ∀ (l : List (List Int32 × NT)), (∀ (j : Nat) (d : List Int32 × NT), l[j]? = some d → ¬ d.1 = t) → l.find? (fun p => decide (p.1 = t)) = none := by
  intro l
  induction l with
  | nil => intro _; rfl
  | cons x l ih =>
    intro h
    rw [List.find?_cons_of_neg (by rw [decide_eq_true_eq]; exact h 0 x rfl)]
    exact ih (fun j d hd => h (j + 1) d hd)
/-- names are not said twice -/
theorem nodup_ix {α : Type} {l : List α} (h : l.Nodup) {i j : Nat} {a : α} (hi : l[i]? = some a) (hj : l[j]? = some a) : i = j := by
  induction l generalizing i j with
  | nil => cases hi
  | cons x l ih =>
    obtain ⟨h1, h2⟩ := List.nodup_cons.mp h
    cases i with
    | zero =>
      obtain rfl : x = a := Option.some.inj hi
      cases j with
      | zero => rfl
      | succ j => exact absurd (List.mem_of_getElem? (show l[j]? = some x from hj)) h1
    | succ i =>
      cases j with
      | zero =>
        obtain rfl : x = a := Option.some.inj hj
        exact absurd (List.mem_of_getElem? (show l[i]? = some x from hi)) h1
      | succ j => rw [ih h2 (show l[i]? = some a from hi) (show l[j]? = some a from hj)]
theorem namS_f {t : List Int32} {rt nd : NT} {i : Nat} {c : List Int32 × NT} (hw : wfV nd.2.1 nd.2.2) (hk : kdN nd = 6) (h : (kdsN nd)[i]? = some c) (hc : c.1 = t) : namS t rt nd = ([c.2], 1) := by
  have hnd := wf_nodup hw hk
  have h1 := find_at (t := t) (kdsN nd) i c h hc (fun j d hj hd e => by
    obtain ⟨x, x1, x2⟩ := kds_ks h
    obtain ⟨y, y1, y2⟩ := kds_ks hd
    have e1 : ((ksU nd.2).map (·.1))[i]? = some t := by rw [List.getElem?_map, x1]; show some x.1 = some t; rw [← hc, x2]
    have e2 : ((ksU nd.2).map (·.1))[j]? = some t := by rw [List.getElem?_map, y1]; show some y.1 = some t; rw [← e, y2]
    have := nodup_ix hnd e1 e2
    omega)
  unfold namS
  rw [if_pos hk, h1]
theorem namS_n {t : List Int32} {rt nd : NT} (h : kdN nd = 6 → ∀ (j : Nat) (d : List Int32 × NT), (kdsN nd)[j]? = some d → ¬ d.1 = t) : namS t rt nd = ([], 0) := by
  unfold namS
  by_cases hk : kdN nd = 6
  · rw [if_pos hk, find_no (t := t) (kdsN nd) (h hk)]
  · rw [if_neg hk]
abbrev b_Mo_numbers : ByteArray := prog_14_method_57_code
def y_Mo_numbers : MethodName := ⟨"QueryBenchModel", "numbers", "(II)V"⟩
abbrev k_Mo_numbers : Cond := .code y_Mo_numbers b_Mo_numbers 16 none
theorem i_Mo_numbers : k_Mo_numbers ∈ gtbl := gt_in 1512 (by decide +kernel) (by decide +kernel)
theorem d_Mo_numbers_0 : decode b_Mo_numbers 0 = .ok (.aload_n 0, 1) := by decide +kernel
theorem d_Mo_numbers_1 : decode b_Mo_numbers 1 = .ok (.getfield 45, 3) := by decide +kernel
theorem d_Mo_numbers_4 : decode b_Mo_numbers 4 = .ok (.iload_n 2, 1) := by decide +kernel
theorem d_Mo_numbers_5 : decode b_Mo_numbers 5 = .ok (.invokevirtual 85, 3) := by decide +kernel
theorem d_Mo_numbers_8 : decode b_Mo_numbers 8 = .ok (.i2l, 1) := by decide +kernel
theorem d_Mo_numbers_9 : decode b_Mo_numbers 9 = .ok (.lstore_n 3, 1) := by decide +kernel
theorem d_Mo_numbers_10 : decode b_Mo_numbers 10 = .ok (.aload_n 0, 1) := by decide +kernel
theorem d_Mo_numbers_11 : decode b_Mo_numbers 11 = .ok (.iload_n 1, 1) := by decide +kernel
theorem d_Mo_numbers_12 : decode b_Mo_numbers 12 = .ok (.iconst 2, 1) := by decide +kernel
theorem d_Mo_numbers_13 : decode b_Mo_numbers 13 = .ok (.invokevirtual 286, 3) := by decide +kernel
theorem d_Mo_numbers_16 : decode b_Mo_numbers 16 = .ok (.istore 5, 2) := by decide +kernel
theorem d_Mo_numbers_18 : decode b_Mo_numbers 18 = .ok (.aload_n 0, 1) := by decide +kernel
theorem d_Mo_numbers_19 : decode b_Mo_numbers 19 = .ok (.getfield 52, 3) := by decide +kernel
theorem d_Mo_numbers_22 : decode b_Mo_numbers 22 = .ok (.iconst 3, 1) := by decide +kernel
theorem d_Mo_numbers_23 : decode b_Mo_numbers 23 = .ok (.iload_n 1, 1) := by decide +kernel
theorem d_Mo_numbers_24 : decode b_Mo_numbers 24 = .ok (.imul, 1) := by decide +kernel
theorem d_Mo_numbers_25 : decode b_Mo_numbers 25 = .ok (.laload, 1) := by decide +kernel
theorem d_Mo_numbers_26 : decode b_Mo_numbers 26 = .ok (.lstore 6, 2) := by decide +kernel
theorem d_Mo_numbers_28 : decode b_Mo_numbers 28 = .ok (.aload_n 0, 1) := by decide +kernel
theorem d_Mo_numbers_29 : decode b_Mo_numbers 29 = .ok (.iload_n 1, 1) := by decide +kernel
theorem d_Mo_numbers_30 : decode b_Mo_numbers 30 = .ok (.iconst 0, 1) := by decide +kernel
theorem d_Mo_numbers_31 : decode b_Mo_numbers 31 = .ok (.invokevirtual 286, 3) := by decide +kernel
theorem d_Mo_numbers_34 : decode b_Mo_numbers 34 = .ok (.iconst 3, 1) := by decide +kernel
theorem d_Mo_numbers_35 : decode b_Mo_numbers 35 = .ok (.if_icmp .ne 47, 3) := by decide +kernel
theorem d_Mo_numbers_38 : decode b_Mo_numbers 38 = .ok (.lload 6, 2) := by decide +kernel
theorem d_Mo_numbers_40 : decode b_Mo_numbers 40 = .ok (.lconst 0, 1) := by decide +kernel
theorem d_Mo_numbers_41 : decode b_Mo_numbers 41 = .ok (.lcmp, 1) := by decide +kernel
theorem d_Mo_numbers_42 : decode b_Mo_numbers 42 = .ok (.ifCond .ge 10, 3) := by decide +kernel
theorem d_Mo_numbers_45 : decode b_Mo_numbers 45 = .ok (.lload_n 3, 1) := by decide +kernel
theorem d_Mo_numbers_46 : decode b_Mo_numbers 46 = .ok (.lload 6, 2) := by decide +kernel
theorem d_Mo_numbers_48 : decode b_Mo_numbers 48 = .ok (.ladd, 1) := by decide +kernel
theorem d_Mo_numbers_49 : decode b_Mo_numbers 49 = .ok (.goto 5, 3) := by decide +kernel
theorem d_Mo_numbers_52 : decode b_Mo_numbers 52 = .ok (.lload 6, 2) := by decide +kernel
theorem d_Mo_numbers_54 : decode b_Mo_numbers 54 = .ok (.lstore 8, 2) := by decide +kernel
theorem d_Mo_numbers_56 : decode b_Mo_numbers 56 = .ok (.lload 8, 2) := by decide +kernel
theorem d_Mo_numbers_58 : decode b_Mo_numbers 58 = .ok (.lconst 0, 1) := by decide +kernel
theorem d_Mo_numbers_59 : decode b_Mo_numbers 59 = .ok (.lcmp, 1) := by decide +kernel
theorem d_Mo_numbers_60 : decode b_Mo_numbers 60 = .ok (.ifCond .lt 21, 3) := by decide +kernel
theorem d_Mo_numbers_63 : decode b_Mo_numbers 63 = .ok (.lload 8, 2) := by decide +kernel
theorem d_Mo_numbers_65 : decode b_Mo_numbers 65 = .ok (.lload_n 3, 1) := by decide +kernel
theorem d_Mo_numbers_66 : decode b_Mo_numbers 66 = .ok (.lcmp, 1) := by decide +kernel
theorem d_Mo_numbers_67 : decode b_Mo_numbers 67 = .ok (.ifCond .ge 14, 3) := by decide +kernel
theorem d_Mo_numbers_70 : decode b_Mo_numbers 70 = .ok (.aload_n 0, 1) := by decide +kernel
theorem d_Mo_numbers_71 : decode b_Mo_numbers 71 = .ok (.aload_n 0, 1) := by decide +kernel
theorem d_Mo_numbers_72 : decode b_Mo_numbers 72 = .ok (.iload_n 2, 1) := by decide +kernel
theorem d_Mo_numbers_73 : decode b_Mo_numbers 73 = .ok (.lload 8, 2) := by decide +kernel
theorem d_Mo_numbers_75 : decode b_Mo_numbers 75 = .ok (.invokevirtual 372, 3) := by decide +kernel
theorem d_Mo_numbers_78 : decode b_Mo_numbers 78 = .ok (.invokevirtual 357, 3) := by decide +kernel
theorem d_Mo_numbers_81 : decode b_Mo_numbers 81 = .ok (.return_, 1) := by decide +kernel
theorem d_Mo_numbers_82 : decode b_Mo_numbers 82 = .ok (.iload 5, 2) := by decide +kernel
theorem d_Mo_numbers_84 : decode b_Mo_numbers 84 = .ok (.iconst 4, 1) := by decide +kernel
theorem d_Mo_numbers_85 : decode b_Mo_numbers 85 = .ok (.iand, 1) := by decide +kernel
theorem d_Mo_numbers_86 : decode b_Mo_numbers 86 = .ok (.ifCond .eq 16, 3) := by decide +kernel
theorem d_Mo_numbers_89 : decode b_Mo_numbers 89 = .ok (.aload_n 0, 1) := by decide +kernel
theorem d_Mo_numbers_90 : decode b_Mo_numbers 90 = .ok (.getfield 52, 3) := by decide +kernel
theorem d_Mo_numbers_93 : decode b_Mo_numbers 93 = .ok (.iconst 3, 1) := by decide +kernel
theorem d_Mo_numbers_94 : decode b_Mo_numbers 94 = .ok (.iload_n 1, 1) := by decide +kernel
theorem d_Mo_numbers_95 : decode b_Mo_numbers 95 = .ok (.imul, 1) := by decide +kernel
theorem d_Mo_numbers_96 : decode b_Mo_numbers 96 = .ok (.iconst 2, 1) := by decide +kernel
theorem d_Mo_numbers_97 : decode b_Mo_numbers 97 = .ok (.iadd, 1) := by decide +kernel
theorem d_Mo_numbers_98 : decode b_Mo_numbers 98 = .ok (.laload, 1) := by decide +kernel
theorem d_Mo_numbers_99 : decode b_Mo_numbers 99 = .ok (.goto 4, 3) := by decide +kernel
theorem d_Mo_numbers_102 : decode b_Mo_numbers 102 = .ok (.lconst 1, 1) := by decide +kernel
theorem d_Mo_numbers_103 : decode b_Mo_numbers 103 = .ok (.lstore 8, 2) := by decide +kernel
theorem d_Mo_numbers_105 : decode b_Mo_numbers 105 = .ok (.lload 8, 2) := by decide +kernel
theorem d_Mo_numbers_107 : decode b_Mo_numbers 107 = .ok (.lconst 0, 1) := by decide +kernel
theorem d_Mo_numbers_108 : decode b_Mo_numbers 108 = .ok (.lcmp, 1) := by decide +kernel
theorem d_Mo_numbers_109 : decode b_Mo_numbers 109 = .ok (.ifCond .ne 4, 3) := by decide +kernel
theorem d_Mo_numbers_112 : decode b_Mo_numbers 112 = .ok (.return_, 1) := by decide +kernel
theorem d_Mo_numbers_113 : decode b_Mo_numbers 113 = .ok (.iload 5, 2) := by decide +kernel
theorem d_Mo_numbers_115 : decode b_Mo_numbers 115 = .ok (.iconst 1, 1) := by decide +kernel
theorem d_Mo_numbers_116 : decode b_Mo_numbers 116 = .ok (.iand, 1) := by decide +kernel
theorem d_Mo_numbers_117 : decode b_Mo_numbers 117 = .ok (.ifCond .eq 22, 3) := by decide +kernel
theorem d_Mo_numbers_120 : decode b_Mo_numbers 120 = .ok (.lload 6, 2) := by decide +kernel
theorem d_Mo_numbers_122 : decode b_Mo_numbers 122 = .ok (.lconst 0, 1) := by decide +kernel
theorem d_Mo_numbers_123 : decode b_Mo_numbers 123 = .ok (.lcmp, 1) := by decide +kernel
theorem d_Mo_numbers_124 : decode b_Mo_numbers 124 = .ok (.ifCond .ge 10, 3) := by decide +kernel
theorem d_Mo_numbers_127 : decode b_Mo_numbers 127 = .ok (.lload_n 3, 1) := by decide +kernel
theorem d_Mo_numbers_128 : decode b_Mo_numbers 128 = .ok (.lload 6, 2) := by decide +kernel
theorem d_Mo_numbers_130 : decode b_Mo_numbers 130 = .ok (.ladd, 1) := by decide +kernel
theorem d_Mo_numbers_131 : decode b_Mo_numbers 131 = .ok (.goto 22, 3) := by decide +kernel
theorem d_Mo_numbers_134 : decode b_Mo_numbers 134 = .ok (.lload 6, 2) := by decide +kernel
theorem d_Mo_numbers_136 : decode b_Mo_numbers 136 = .ok (.goto 17, 3) := by decide +kernel
theorem d_Mo_numbers_139 : decode b_Mo_numbers 139 = .ok (.lload 8, 2) := by decide +kernel
theorem d_Mo_numbers_141 : decode b_Mo_numbers 141 = .ok (.lconst 0, 1) := by decide +kernel
theorem d_Mo_numbers_142 : decode b_Mo_numbers 142 = .ok (.lcmp, 1) := by decide +kernel
theorem d_Mo_numbers_143 : decode b_Mo_numbers 143 = .ok (.ifCond .le 7, 3) := by decide +kernel
theorem d_Mo_numbers_146 : decode b_Mo_numbers 146 = .ok (.lconst 0, 1) := by decide +kernel
theorem d_Mo_numbers_147 : decode b_Mo_numbers 147 = .ok (.goto 6, 3) := by decide +kernel
theorem d_Mo_numbers_150 : decode b_Mo_numbers 150 = .ok (.lload_n 3, 1) := by decide +kernel
theorem d_Mo_numbers_151 : decode b_Mo_numbers 151 = .ok (.lconst 1, 1) := by decide +kernel
theorem d_Mo_numbers_152 : decode b_Mo_numbers 152 = .ok (.lsub, 1) := by decide +kernel
theorem d_Mo_numbers_153 : decode b_Mo_numbers 153 = .ok (.lstore 10, 2) := by decide +kernel
theorem d_Mo_numbers_155 : decode b_Mo_numbers 155 = .ok (.iload 5, 2) := by decide +kernel
theorem d_Mo_numbers_157 : decode b_Mo_numbers 157 = .ok (.iconst 2, 1) := by decide +kernel
theorem d_Mo_numbers_158 : decode b_Mo_numbers 158 = .ok (.iand, 1) := by decide +kernel
theorem d_Mo_numbers_159 : decode b_Mo_numbers 159 = .ok (.ifCond .eq 46, 3) := by decide +kernel
theorem d_Mo_numbers_162 : decode b_Mo_numbers 162 = .ok (.aload_n 0, 1) := by decide +kernel
theorem d_Mo_numbers_163 : decode b_Mo_numbers 163 = .ok (.getfield 52, 3) := by decide +kernel
theorem d_Mo_numbers_166 : decode b_Mo_numbers 166 = .ok (.iconst 3, 1) := by decide +kernel
theorem d_Mo_numbers_167 : decode b_Mo_numbers 167 = .ok (.iload_n 1, 1) := by decide +kernel
theorem d_Mo_numbers_168 : decode b_Mo_numbers 168 = .ok (.imul, 1) := by decide +kernel
theorem d_Mo_numbers_169 : decode b_Mo_numbers 169 = .ok (.iconst 1, 1) := by decide +kernel
theorem d_Mo_numbers_170 : decode b_Mo_numbers 170 = .ok (.iadd, 1) := by decide +kernel
theorem d_Mo_numbers_171 : decode b_Mo_numbers 171 = .ok (.laload, 1) := by decide +kernel
theorem d_Mo_numbers_172 : decode b_Mo_numbers 172 = .ok (.lconst 0, 1) := by decide +kernel
theorem d_Mo_numbers_173 : decode b_Mo_numbers 173 = .ok (.lcmp, 1) := by decide +kernel
theorem d_Mo_numbers_174 : decode b_Mo_numbers 174 = .ok (.ifCond .ge 18, 3) := by decide +kernel
theorem d_Mo_numbers_177 : decode b_Mo_numbers 177 = .ok (.lload_n 3, 1) := by decide +kernel
theorem d_Mo_numbers_178 : decode b_Mo_numbers 178 = .ok (.aload_n 0, 1) := by decide +kernel
theorem d_Mo_numbers_179 : decode b_Mo_numbers 179 = .ok (.getfield 52, 3) := by decide +kernel
theorem d_Mo_numbers_182 : decode b_Mo_numbers 182 = .ok (.iconst 3, 1) := by decide +kernel
theorem d_Mo_numbers_183 : decode b_Mo_numbers 183 = .ok (.iload_n 1, 1) := by decide +kernel
theorem d_Mo_numbers_184 : decode b_Mo_numbers 184 = .ok (.imul, 1) := by decide +kernel
theorem d_Mo_numbers_185 : decode b_Mo_numbers 185 = .ok (.iconst 1, 1) := by decide +kernel
theorem d_Mo_numbers_186 : decode b_Mo_numbers 186 = .ok (.iadd, 1) := by decide +kernel
theorem d_Mo_numbers_187 : decode b_Mo_numbers 187 = .ok (.laload, 1) := by decide +kernel
theorem d_Mo_numbers_188 : decode b_Mo_numbers 188 = .ok (.ladd, 1) := by decide +kernel
theorem d_Mo_numbers_189 : decode b_Mo_numbers 189 = .ok (.goto 30, 3) := by decide +kernel
theorem d_Mo_numbers_192 : decode b_Mo_numbers 192 = .ok (.aload_n 0, 1) := by decide +kernel
theorem d_Mo_numbers_193 : decode b_Mo_numbers 193 = .ok (.getfield 52, 3) := by decide +kernel
theorem d_Mo_numbers_196 : decode b_Mo_numbers 196 = .ok (.iconst 3, 1) := by decide +kernel
theorem d_Mo_numbers_197 : decode b_Mo_numbers 197 = .ok (.iload_n 1, 1) := by decide +kernel
theorem d_Mo_numbers_198 : decode b_Mo_numbers 198 = .ok (.imul, 1) := by decide +kernel
theorem d_Mo_numbers_199 : decode b_Mo_numbers 199 = .ok (.iconst 1, 1) := by decide +kernel
theorem d_Mo_numbers_200 : decode b_Mo_numbers 200 = .ok (.iadd, 1) := by decide +kernel
theorem d_Mo_numbers_201 : decode b_Mo_numbers 201 = .ok (.laload, 1) := by decide +kernel
theorem d_Mo_numbers_202 : decode b_Mo_numbers 202 = .ok (.goto 17, 3) := by decide +kernel
theorem d_Mo_numbers_205 : decode b_Mo_numbers 205 = .ok (.lload 8, 2) := by decide +kernel
theorem d_Mo_numbers_207 : decode b_Mo_numbers 207 = .ok (.lconst 0, 1) := by decide +kernel
theorem d_Mo_numbers_208 : decode b_Mo_numbers 208 = .ok (.lcmp, 1) := by decide +kernel
theorem d_Mo_numbers_209 : decode b_Mo_numbers 209 = .ok (.ifCond .le 7, 3) := by decide +kernel
theorem d_Mo_numbers_212 : decode b_Mo_numbers 212 = .ok (.lload_n 3, 1) := by decide +kernel
theorem d_Mo_numbers_213 : decode b_Mo_numbers 213 = .ok (.goto 6, 3) := by decide +kernel
theorem d_Mo_numbers_216 : decode b_Mo_numbers 216 = .ok (.ldc2_w 376, 3) := by decide +kernel
theorem d_Mo_numbers_219 : decode b_Mo_numbers 219 = .ok (.lstore 12, 2) := by decide +kernel
theorem d_Mo_numbers_221 : decode b_Mo_numbers 221 = .ok (.lload 8, 2) := by decide +kernel
theorem d_Mo_numbers_223 : decode b_Mo_numbers 223 = .ok (.lconst 0, 1) := by decide +kernel
theorem d_Mo_numbers_224 : decode b_Mo_numbers 224 = .ok (.lcmp, 1) := by decide +kernel
theorem d_Mo_numbers_225 : decode b_Mo_numbers 225 = .ok (.ifCond .le 69, 3) := by decide +kernel
theorem d_Mo_numbers_228 : decode b_Mo_numbers 228 = .ok (.lload 10, 2) := by decide +kernel
theorem d_Mo_numbers_230 : decode b_Mo_numbers 230 = .ok (.lconst 0, 1) := by decide +kernel
theorem d_Mo_numbers_231 : decode b_Mo_numbers 231 = .ok (.lcmp, 1) := by decide +kernel
theorem d_Mo_numbers_232 : decode b_Mo_numbers 232 = .ok (.ifCond .ge 7, 3) := by decide +kernel
theorem d_Mo_numbers_235 : decode b_Mo_numbers 235 = .ok (.lconst 0, 1) := by decide +kernel
theorem d_Mo_numbers_236 : decode b_Mo_numbers 236 = .ok (.goto 5, 3) := by decide +kernel
theorem d_Mo_numbers_239 : decode b_Mo_numbers 239 = .ok (.lload 10, 2) := by decide +kernel
theorem d_Mo_numbers_241 : decode b_Mo_numbers 241 = .ok (.lstore 10, 2) := by decide +kernel
theorem d_Mo_numbers_243 : decode b_Mo_numbers 243 = .ok (.lload 12, 2) := by decide +kernel
theorem d_Mo_numbers_245 : decode b_Mo_numbers 245 = .ok (.lload_n 3, 1) := by decide +kernel
theorem d_Mo_numbers_246 : decode b_Mo_numbers 246 = .ok (.lcmp, 1) := by decide +kernel
theorem d_Mo_numbers_247 : decode b_Mo_numbers 247 = .ok (.ifCond .le 7, 3) := by decide +kernel
theorem d_Mo_numbers_250 : decode b_Mo_numbers 250 = .ok (.lload_n 3, 1) := by decide +kernel
theorem d_Mo_numbers_251 : decode b_Mo_numbers 251 = .ok (.goto 5, 3) := by decide +kernel
theorem d_Mo_numbers_254 : decode b_Mo_numbers 254 = .ok (.lload 12, 2) := by decide +kernel
theorem d_Mo_numbers_256 : decode b_Mo_numbers 256 = .ok (.lstore 12, 2) := by decide +kernel
theorem d_Mo_numbers_258 : decode b_Mo_numbers 258 = .ok (.lload 10, 2) := by decide +kernel
theorem d_Mo_numbers_260 : decode b_Mo_numbers 260 = .ok (.lstore 14, 2) := by decide +kernel
theorem d_Mo_numbers_262 : decode b_Mo_numbers 262 = .ok (.lload 14, 2) := by decide +kernel
theorem d_Mo_numbers_264 : decode b_Mo_numbers 264 = .ok (.lload 12, 2) := by decide +kernel
theorem d_Mo_numbers_266 : decode b_Mo_numbers 266 = .ok (.lcmp, 1) := by decide +kernel
theorem d_Mo_numbers_267 : decode b_Mo_numbers 267 = .ok (.ifCond .ge 24, 3) := by decide +kernel
theorem d_Mo_numbers_270 : decode b_Mo_numbers 270 = .ok (.aload_n 0, 1) := by decide +kernel
theorem d_Mo_numbers_271 : decode b_Mo_numbers 271 = .ok (.aload_n 0, 1) := by decide +kernel
theorem d_Mo_numbers_272 : decode b_Mo_numbers 272 = .ok (.iload_n 2, 1) := by decide +kernel
theorem d_Mo_numbers_273 : decode b_Mo_numbers 273 = .ok (.lload 14, 2) := by decide +kernel
theorem d_Mo_numbers_275 : decode b_Mo_numbers 275 = .ok (.invokevirtual 372, 3) := by decide +kernel
theorem d_Mo_numbers_278 : decode b_Mo_numbers 278 = .ok (.invokevirtual 357, 3) := by decide +kernel
theorem d_Mo_numbers_281 : decode b_Mo_numbers 281 = .ok (.lload 14, 2) := by decide +kernel
theorem d_Mo_numbers_283 : decode b_Mo_numbers 283 = .ok (.lload 8, 2) := by decide +kernel
theorem d_Mo_numbers_285 : decode b_Mo_numbers 285 = .ok (.ladd, 1) := by decide +kernel
theorem d_Mo_numbers_286 : decode b_Mo_numbers 286 = .ok (.lstore 14, 2) := by decide +kernel
theorem d_Mo_numbers_288 : decode b_Mo_numbers 288 = .ok (.goto (-26), 3) := by decide +kernel
theorem d_Mo_numbers_291 : decode b_Mo_numbers 291 = .ok (.goto 74, 3) := by decide +kernel
theorem d_Mo_numbers_294 : decode b_Mo_numbers 294 = .ok (.lload 10, 2) := by decide +kernel
theorem d_Mo_numbers_296 : decode b_Mo_numbers 296 = .ok (.lload_n 3, 1) := by decide +kernel
theorem d_Mo_numbers_297 : decode b_Mo_numbers 297 = .ok (.lconst 1, 1) := by decide +kernel
theorem d_Mo_numbers_298 : decode b_Mo_numbers 298 = .ok (.lsub, 1) := by decide +kernel
theorem d_Mo_numbers_299 : decode b_Mo_numbers 299 = .ok (.lcmp, 1) := by decide +kernel
theorem d_Mo_numbers_300 : decode b_Mo_numbers 300 = .ok (.ifCond .le 9, 3) := by decide +kernel
theorem d_Mo_numbers_303 : decode b_Mo_numbers 303 = .ok (.lload_n 3, 1) := by decide +kernel
theorem d_Mo_numbers_304 : decode b_Mo_numbers 304 = .ok (.lconst 1, 1) := by decide +kernel
theorem d_Mo_numbers_305 : decode b_Mo_numbers 305 = .ok (.lsub, 1) := by decide +kernel
theorem d_Mo_numbers_306 : decode b_Mo_numbers 306 = .ok (.goto 5, 3) := by decide +kernel
theorem d_Mo_numbers_309 : decode b_Mo_numbers 309 = .ok (.lload 10, 2) := by decide +kernel
theorem d_Mo_numbers_311 : decode b_Mo_numbers 311 = .ok (.lstore 10, 2) := by decide +kernel
theorem d_Mo_numbers_313 : decode b_Mo_numbers 313 = .ok (.lload 12, 2) := by decide +kernel
theorem d_Mo_numbers_315 : decode b_Mo_numbers 315 = .ok (.ldc2_w 376, 3) := by decide +kernel
theorem d_Mo_numbers_318 : decode b_Mo_numbers 318 = .ok (.lcmp, 1) := by decide +kernel
theorem d_Mo_numbers_319 : decode b_Mo_numbers 319 = .ok (.ifCond .ge 9, 3) := by decide +kernel
theorem d_Mo_numbers_322 : decode b_Mo_numbers 322 = .ok (.ldc2_w 376, 3) := by decide +kernel
theorem d_Mo_numbers_325 : decode b_Mo_numbers 325 = .ok (.goto 5, 3) := by decide +kernel
theorem d_Mo_numbers_328 : decode b_Mo_numbers 328 = .ok (.lload 12, 2) := by decide +kernel
theorem d_Mo_numbers_330 : decode b_Mo_numbers 330 = .ok (.lstore 12, 2) := by decide +kernel
theorem d_Mo_numbers_332 : decode b_Mo_numbers 332 = .ok (.lload 10, 2) := by decide +kernel
theorem d_Mo_numbers_334 : decode b_Mo_numbers 334 = .ok (.lstore 14, 2) := by decide +kernel
theorem d_Mo_numbers_336 : decode b_Mo_numbers 336 = .ok (.lload 14, 2) := by decide +kernel
theorem d_Mo_numbers_338 : decode b_Mo_numbers 338 = .ok (.lload 12, 2) := by decide +kernel
theorem d_Mo_numbers_340 : decode b_Mo_numbers 340 = .ok (.lcmp, 1) := by decide +kernel
theorem d_Mo_numbers_341 : decode b_Mo_numbers 341 = .ok (.ifCond .le 24, 3) := by decide +kernel
theorem d_Mo_numbers_344 : decode b_Mo_numbers 344 = .ok (.aload_n 0, 1) := by decide +kernel
theorem d_Mo_numbers_345 : decode b_Mo_numbers 345 = .ok (.aload_n 0, 1) := by decide +kernel
theorem d_Mo_numbers_346 : decode b_Mo_numbers 346 = .ok (.iload_n 2, 1) := by decide +kernel
theorem d_Mo_numbers_347 : decode b_Mo_numbers 347 = .ok (.lload 14, 2) := by decide +kernel
theorem d_Mo_numbers_349 : decode b_Mo_numbers 349 = .ok (.invokevirtual 372, 3) := by decide +kernel
theorem d_Mo_numbers_352 : decode b_Mo_numbers 352 = .ok (.invokevirtual 357, 3) := by decide +kernel
theorem d_Mo_numbers_355 : decode b_Mo_numbers 355 = .ok (.lload 14, 2) := by decide +kernel
theorem d_Mo_numbers_357 : decode b_Mo_numbers 357 = .ok (.lload 8, 2) := by decide +kernel
theorem d_Mo_numbers_359 : decode b_Mo_numbers 359 = .ok (.ladd, 1) := by decide +kernel
theorem d_Mo_numbers_360 : decode b_Mo_numbers 360 = .ok (.lstore 14, 2) := by decide +kernel
theorem d_Mo_numbers_362 : decode b_Mo_numbers 362 = .ok (.goto (-26), 3) := by decide +kernel
theorem d_Mo_numbers_365 : decode b_Mo_numbers 365 = .ok (.return_, 1) := by decide +kernel
theorem toI_neg1 {i : Int64} (h : i.toInt < -1) : (i + 1).toInt.toNat = 0 := by
  have o1 : (1 : Int64).toInt = 1 := rfl
  have h2 := Int64.le_toInt i
  rw [Int64.toInt_add, o1, Int.bmod_eq_of_le] <;> omega
set_option maxHeartbeats 4000000 in
set_option maxRecDepth 100000 in
/-- the reference: numbers -/
theorem c_Mo_numbers (l : Launch) (dC : Nat → ClassId) (dI : Nat → Nat → Nat) (mo : Nat) (sz : Heap) (v : Nat → Value) (cI cL : ClassId) (ql t : Nat) (Q : QS) (T : TS) (tp dn : Nat) (li : Nat → Int32) (x9 nd : Nat) (nn rt : NT) (mq : QT) (hm : (Q.qf (8 * x9 + 0) = 3 ∧ mq = idxS (Q.ef (3 * x9 + 0))) ∨ (Q.qf (8 * x9 + 0) = 4 ∧ mq = slq (Q.qf (8 * x9 + 2)) (Q.ef (3 * x9 + 0)) (Q.ef (3 * x9 + 1)) (Q.ef (3 * x9 + 2)))) (hk5 : kdN nn = 5) (hQ : QOK Q) (hx9 : x9 < Q.R) (hT : TOK T) (hct : T.ct ≤ 4096) (hE0 : EI T tp dn 0 li) (hN : NDn T nd nn) (h18 : v 18 = .ref t) (h19 : v 19 = .ref Q.qq) (h20 : v 20 = .ref Q.qe) (h24 : v 24 = .ref ql) : Met l y_Mo_numbers (k_Mo_numbers :: gtbl) ({ frames := 3, cells := 0, slots := 0, locals := 80 }) (va_Pc [.ref mo, .int (nI x9), .int (nI nd)] (mp dC dI [(mo, .inr (13, MF 30 (es v tp dn 0))), (Q.qq, .inl (cI, (8 * Q.C), .inl Q.qf)), (Q.qe, .inl (cL, (3 * Q.C), .inr (.inl Q.ef))), (t, .inr (12, MF 13 (tw T))), (T.a4, .inl (cI, T.N, .inl T.ki)), (T.a5, .inl (cI, T.N, .inl T.nx)), (ql, .inl (cI, 20100, .inl li))] [(cI, .int), (cL, .long)] sz)) (va_Qv (fun (u : Nat × Nat × Int32 × (Nat → Int32)) => EI T u.1 u.2.1 u.2.2.1 u.2.2.2 ∧ tp ≤ u.1 ∧ (∀ j, j < tp → u.2.2.2 j = li j) ∧ DB 4096 dn 0 u.2.1 u.2.2.1 ∧ PUr T (mq rt nn) tp dn u.1 u.2.1 u.2.2.1 u.2.2.2) (fun u t9 => mz dC dI [(mo, .inr (13, MF 30 (es v u.1 u.2.1 u.2.2.1))), (Q.qq, .inl (cI, (8 * Q.C), .inl Q.qf)), (Q.qe, .inl (cL, (3 * Q.C), .inr (.inl Q.ef))), (t, .inr (12, MF 13 (tw T))), (T.a4, .inl (cI, T.N, .inl T.ki)), (T.a5, .inl (cI, T.N, .inl T.nx)), (ql, .inl (cI, 20100, .inl u.2.2.2))] [(cI, .int), (cL, .long)] (va_A [(mo, .inr (13, MF 30 (es v tp dn 0))), (Q.qq, .inl (cI, (8 * Q.C), .inl Q.qf)), (Q.qe, .inl (cL, (3 * Q.C), .inr (.inl Q.ef))), (t, .inr (12, MF 13 (tw T))), (T.a4, .inl (cI, T.N, .inl T.ki)), (T.a5, .inl (cI, T.N, .inl T.nx)), (ql, .inl (cI, 20100, .inl li))] sz.size) t9) (va_A [(mo, .inr (13, MF 30 (es v tp dn 0))), (Q.qq, .inl (cI, (8 * Q.C), .inl Q.qf)), (Q.qe, .inl (cL, (3 * Q.C), .inr (.inl Q.ef))), (t, .inr (12, MF 13 (tw T))), (T.a4, .inl (cI, T.N, .inl T.ki)), (T.a5, .inl (cI, T.N, .inl T.nx)), (ql, .inl (cI, 20100, .inl li))] sz.size)) 0 0 (va_A [(mo, .inr (13, MF 30 (es v tp dn 0))), (Q.qq, .inl (cI, (8 * Q.C), .inl Q.qf)), (Q.qe, .inl (cL, (3 * Q.C), .inr (.inl Q.ef))), (t, .inr (12, MF 13 (tw T))), (T.a4, .inl (cI, T.N, .inl T.ki)), (T.a5, .inl (cI, T.N, .inl T.nx)), (ql, .inl (cI, 20100, .inl li))] sz.size) := by
  refine Met.ofW (cc := b_Mo_numbers) (maxL := 16) (ret := none) (by decide) rfl ?_
  intro p e s m args below meth c s₁ B hml hv
  obtain ⟨rfl, hsz, hP, hK, hD0⟩ := hv
  have hx := B.exec
  have hb := B.bytes
  have hr := B.returns
  have hts0 := atoms_spec (ws := k_Mo_numbers :: gtbl) B.pre
  have hts := fun w h => hts0 w (List.mem_cons_of_mem _ h)
  have hown : s.vm.findClass R_Mo = some m.cls := findClass_of_methodNamed B.named
  have hlocks := B.notSynchronized
  subst hsz
  have hD := hD0.self (sz := s.heap.size)
  generalize hAe : va_A [(mo, .inr (13, MF 30 (es v tp dn 0))), (Q.qq, .inl (cI, (8 * Q.C), .inl Q.qf)), (Q.qe, .inl (cL, (3 * Q.C), .inr (.inl Q.ef))), (t, .inr (12, MF 13 (tw T))), (T.a4, .inl (cI, T.N, .inl T.ki)), (T.a5, .inl (cI, T.N, .inl T.nx)), (ql, .inl (cI, 20100, .inl li))] s.heap.size = A at hD ⊢
  have hA : ∀ q : Nat, s.heap.size ≤ q → A q := fun q h => by rw [← hAe]; exact Or.inr h
  have hS : va_S A s.heap s.heap [] := va_S.rf
  have hP : va_P (dC, dI) classes [(mo, .inr (13, MF 30 (es v tp dn 0))), (Q.qq, .inl (cI, (8 * Q.C), .inl Q.qf)), (Q.qe, .inl (cL, (3 * Q.C), .inr (.inl Q.ef))), (t, .inr (12, MF 13 (tw T))), (T.a4, .inl (cI, T.N, .inl T.ki)), (T.a5, .inl (cI, T.N, .inl T.nx)), (ql, .inl (cI, 20100, .inl li))] s.heap := hP
  have hl := lv_entry ([.ref mo, .int (nI x9), .int (nI nd)]) (n := 16) (Nat.le_of_ble_eq_true rfl)
  rw [lg_entry_eq]
  generalize (lg_sl ([.ref mo, .int (nI x9), .int (nI nd)]) ++ List.replicate (16 - (lg_sl ([.ref mo, .int (nI x9), .int (nI nd)])).length) Slot.unset).toArray = ls at hl ⊢
  have hl : lv_has ls 16 [(0, .ref mo), (1, .int (nI x9)), (2, .int (nI nd))] := hl
  obtain ⟨ho1, ho2, ho3, ho4, ho5, ho6, ho7⟩ := hT
  have hT : TOK T := ⟨ho1, ho2, ho3, ho4, ho5, ho6, ho7⟩
  obtain ⟨hq1, hq2, hq3, hq4⟩ := hQ
  obtain ⟨he1, he2, he3, he4, he5⟩ := hE0
  have hE : EI T tp dn 0 li := ⟨he1, he2, he3, he4, he5⟩
  have he6 := he4 rfl
  obtain ⟨ks, hch, hkq, hkn, hkm, hkl, hkc⟩ := hN.kids
  have hnd := hN.1
  have hPU0 : PUr T ([], 0) tp dn tp dn 0 li := PUr.rf
  refine lv_aload_n hx hb d_Mo_numbers_0 rfl (lv_at hl 0 rfl) ?_
  refine va_get (D := (dC, dI)) (ci := 13) (v := .ref t) (C := R_Mo) (T := F_Mo) (N := 30) hx hb hts in_Mo hown hK hP 0 rfl rfl 18 (by decide) (hts _ w_1107) (fun _ h9 => h9) (MFg (by decide) ((es_ne (by decide) (by decide) (by decide)).trans h18)) d_Mo_numbers_1 ?_
  refine lv_iload_n hx hb d_Mo_numbers_4 rfl (lv_at hl 2 rfl) ?_
  have hPc := hP.sub (ws' := [(t, .inr (12, MF 13 (tw T))), (T.a4, .inl (cI, T.N, .inl T.ki)), (T.a5, .inl (cI, T.N, .inl T.nx))]) [3, 4, 5] rfl
  have hDc := hD.sub (ws' := [(t, .inr (12, MF 13 (tw T))), (T.a4, .inl (cI, T.N, .inl T.ki)), (T.a5, .inl (cI, T.N, .inl T.nx))]) [3, 4, 5] (by decide) rfl
  have hKc := hK.sub (tys' := [(cI, .int)]) [0] rfl
  have hFc := va_free (wc := [(t, .inr (12, MF 13 (tw T))), (T.a4, .inl (cI, T.N, .inl T.ki)), (T.a5, .inl (cI, T.N, .inl T.nx))]) hD hS hA [3, 4, 5] rfl
  refine va_calli (va_runV (As := [.int (nI nd)]) (rest := []) ⟨hx, hb, hml, hown, hts⟩ (c_Tree_size l dC dI t s.heap (tw T) cI T.a4 T.a5 T.N nd T.ki T.nx ks (by omega) (by omega) (chn_mono ho3 hch) rfl rfl) (cwV 1 hts (gt_V (own := R_Mo) (C := R_Tree) (i := 85) (y := y_Tree_size) i_Tree_size w_1513 w_1514 w_1515 w_8) rfl rfl rfl (by decide +kernel) ⟨Nat.le_of_ble_eq_true rfl, Nat.le_of_ble_eq_true rfl⟩) ⟨mp_blind, va_recv hKc hPc (ci := 12) (q0 := 0) rfl rfl, fun U hU hW => ⟨rfl, hU, by rw [hU]; exact hPc, va_K.moved hW.alike hKc, hDc.weaken (fun _ _ _ _ => trivial)⟩⟩ rfl rfl hl.1 rfl (lv_room (Nat.le_of_ble_eq_true rfl)) d_Mo_numbers_5 ⟨Nat.le_of_ble_eq_true rfl, Nat.le_of_ble_eq_true rfl⟩) hS (fun q _ h => hFc q h) hFc (fun r0 _u t9 H1 locs ht hvm hw hB hz1 hk1 hS => ?_)
  obtain ⟨hP1, hK1, hD1⟩ := hB
  rw [ht] at hP1
  obtain ⟨hP, hD⟩ := va_join (wr := [(mo, .inr (13, MF 30 (es v tp dn 0))), (Q.qq, .inl (cI, (8 * Q.C), .inl Q.qf)), (Q.qe, .inl (cL, (3 * Q.C), .inr (.inl Q.ef))), (ql, .inl (cI, 20100, .inl li))]) (w1 := [(t, .inr (12, MF 13 (tw T))), (T.a4, .inl (cI, T.N, .inl T.ki)), (T.a5, .inl (cI, T.N, .inl T.nx))]) hP hD [3, 4, 5] [0, 1, 2, 6] rfl rfl (by decide) (by decide) hk1 hFc hP1 hD1
  generalize H1 = H at hP hS ⊢
  have hP : va_P (dC, dI) classes [(mo, .inr (13, MF 30 (es v tp dn 0))), (Q.qq, .inl (cI, (8 * Q.C), .inl Q.qf)), (Q.qe, .inl (cL, (3 * Q.C), .inr (.inl Q.ef))), (ql, .inl (cI, 20100, .inl li)), (t, .inr (12, MF 13 (tw T))), (T.a4, .inl (cI, T.N, .inl T.ki)), (T.a5, .inl (cI, T.N, .inl T.nx))] H := hP
  have hD : va_D A [(mo, .inr (13, MF 30 (es v tp dn 0))), (Q.qq, .inl (cI, (8 * Q.C), .inl Q.qf)), (Q.qe, .inl (cL, (3 * Q.C), .inr (.inl Q.ef))), (ql, .inl (cI, 20100, .inl li)), (t, .inr (12, MF 13 (tw T))), (T.a4, .inl (cI, T.N, .inl T.ki)), (T.a5, .inl (cI, T.N, .inl T.nx))] := hD
  have hP := hP.sub (ws' := [(mo, .inr (13, MF 30 (es v tp dn 0))), (Q.qq, .inl (cI, (8 * Q.C), .inl Q.qf)), (Q.qe, .inl (cL, (3 * Q.C), .inr (.inl Q.ef))), (t, .inr (12, MF 13 (tw T))), (T.a4, .inl (cI, T.N, .inl T.ki)), (T.a5, .inl (cI, T.N, .inl T.nx)), (ql, .inl (cI, 20100, .inl li))]) [0, 1, 2, 4, 5, 6, 3] rfl
  have hD := hD.sub (ws' := [(mo, .inr (13, MF 30 (es v tp dn 0))), (Q.qq, .inl (cI, (8 * Q.C), .inl Q.qf)), (Q.qe, .inl (cL, (3 * Q.C), .inr (.inl Q.ef))), (t, .inr (12, MF 13 (tw T))), (T.a4, .inl (cI, T.N, .inl T.ki)), (T.a5, .inl (cI, T.N, .inl T.nx)), (ql, .inl (cI, 20100, .inl li))]) [0, 1, 2, 4, 5, 6, 3] (by decide) rfl
  have hw : r0 = nI ks.length := hw
  subst hw
  refine lv_i2l (v := ((nI ks.length)).toInt64) hx hb d_Mo_numbers_8 rfl ?_
  obtain ⟨nL, hnL⟩ : ∃ z, z = (nI ks.length).toInt64 := ⟨_, rfl⟩
  have hnl : nL.toInt = (ks.length : Int) := by rw [hnL]; exact n64 (by omega)
  refine W.eq (g2 := F0 m 9 ls [.long nL]) (by rw [show (((nI ks.length)).toInt64) = nL from hnL.symm]) ?_
  refine lv_lstore_n (lv' := [(3, .long nL), (0, .ref mo), (1, .int (nI x9)), (2, .int (nI nd))]) hx hb d_Mo_numbers_9 rfl hl (by decide) rfl (fun ls hl => ?_)
  refine lv_aload_n hx hb d_Mo_numbers_10 rfl (lv_at hl 1 rfl) ?_
  refine lv_iload_n hx hb d_Mo_numbers_11 rfl (lv_at hl 2 rfl) ?_
  refine lv_iconst (v := 2) hx hb d_Mo_numbers_12 (by decide) ?_
  refine W.eq (g2 := F0 m 13 ls [.int (nI 2), .int (nI x9), .ref mo]) rfl ?_
  have hPc := hP.sub (ws' := [(mo, .inr (13, MF 30 (es v tp dn 0))), (Q.qq, .inl (cI, (8 * Q.C), .inl Q.qf))]) [0, 1] rfl
  have hDc := hD.sub (ws' := [(mo, .inr (13, MF 30 (es v tp dn 0))), (Q.qq, .inl (cI, (8 * Q.C), .inl Q.qf))]) [0, 1] (by decide) rfl
  have hKc := hK.sub (tys' := [(cI, .int)]) [0] rfl
  have hFc := va_free (wc := [(mo, .inr (13, MF 30 (es v tp dn 0))), (Q.qq, .inl (cI, (8 * Q.C), .inl Q.qf))]) hD hS hA [0, 1] rfl
  refine va_calli (va_runV (As := [.int (nI x9), .int (nI 2)]) (rest := []) ⟨hx, hb, hml, hown, hts⟩ (c_Mo_field l dC dI mo H (es v tp dn 0) cI Q.qq (8 * Q.C) Q.qf x9 2 (by omega) (by omega) ((es_ne (by decide) (by decide) (by decide)).trans h19)) (cwV 2 hts (gt_V (own := R_Mo) (C := R_Mo) (i := 286) (y := y_Mo_field) i_Mo_field w_1431 w_1433 (gt_sel (y := y_Mo_field) (n := 30) (by decide +kernel)) w_7) rfl rfl rfl (by decide +kernel) ⟨Nat.le_of_ble_eq_true rfl, Nat.le_of_ble_eq_true rfl⟩) ⟨mp_blind, va_recv hKc hPc (ci := 13) (q0 := 0) rfl rfl, fun U hU hW => ⟨rfl, hU, by rw [hU]; exact hPc, va_K.moved hW.alike hKc, hDc.weaken (fun _ _ _ _ => trivial)⟩⟩ rfl rfl hl.1 rfl (lv_room (Nat.le_of_ble_eq_true rfl)) d_Mo_numbers_13 ⟨Nat.le_of_ble_eq_true rfl, Nat.le_of_ble_eq_true rfl⟩) hS (fun q _ h => hFc q h) hFc (fun r1 _u t9 H1 locs ht hvm hw hB hz1 hk1 hS => ?_)
  obtain ⟨hP1, hK1, hD1⟩ := hB
  rw [ht] at hP1
  obtain ⟨hP, hD⟩ := va_join (wr := [(Q.qe, .inl (cL, (3 * Q.C), .inr (.inl Q.ef))), (t, .inr (12, MF 13 (tw T))), (T.a4, .inl (cI, T.N, .inl T.ki)), (T.a5, .inl (cI, T.N, .inl T.nx)), (ql, .inl (cI, 20100, .inl li))]) (w1 := [(mo, .inr (13, MF 30 (es v tp dn 0))), (Q.qq, .inl (cI, (8 * Q.C), .inl Q.qf))]) hP hD [0, 1] [2, 3, 4, 5, 6] rfl rfl (by decide) (by decide) hk1 hFc hP1 hD1
  generalize H1 = H at hP hS ⊢
  have hP : va_P (dC, dI) classes [(Q.qe, .inl (cL, (3 * Q.C), .inr (.inl Q.ef))), (t, .inr (12, MF 13 (tw T))), (T.a4, .inl (cI, T.N, .inl T.ki)), (T.a5, .inl (cI, T.N, .inl T.nx)), (ql, .inl (cI, 20100, .inl li)), (mo, .inr (13, MF 30 (es v tp dn 0))), (Q.qq, .inl (cI, (8 * Q.C), .inl Q.qf))] H := hP
  have hD : va_D A [(Q.qe, .inl (cL, (3 * Q.C), .inr (.inl Q.ef))), (t, .inr (12, MF 13 (tw T))), (T.a4, .inl (cI, T.N, .inl T.ki)), (T.a5, .inl (cI, T.N, .inl T.nx)), (ql, .inl (cI, 20100, .inl li)), (mo, .inr (13, MF 30 (es v tp dn 0))), (Q.qq, .inl (cI, (8 * Q.C), .inl Q.qf))] := hD
  have hP := hP.sub (ws' := [(mo, .inr (13, MF 30 (es v tp dn 0))), (Q.qq, .inl (cI, (8 * Q.C), .inl Q.qf)), (Q.qe, .inl (cL, (3 * Q.C), .inr (.inl Q.ef))), (t, .inr (12, MF 13 (tw T))), (T.a4, .inl (cI, T.N, .inl T.ki)), (T.a5, .inl (cI, T.N, .inl T.nx)), (ql, .inl (cI, 20100, .inl li))]) [5, 6, 0, 1, 2, 3, 4] rfl
  have hD := hD.sub (ws' := [(mo, .inr (13, MF 30 (es v tp dn 0))), (Q.qq, .inl (cI, (8 * Q.C), .inl Q.qf)), (Q.qe, .inl (cL, (3 * Q.C), .inr (.inl Q.ef))), (t, .inr (12, MF 13 (tw T))), (T.a4, .inl (cI, T.N, .inl T.ki)), (T.a5, .inl (cI, T.N, .inl T.nx)), (ql, .inl (cI, 20100, .inl li))]) [5, 6, 0, 1, 2, 3, 4] (by decide) rfl
  have h_r1 : r1 = Q.qf (8 * x9 + 2) := hw
  refine lv_istore (lv' := [(5, .int r1), (3, .long nL), (0, .ref mo), (1, .int (nI x9)), (2, .int (nI nd))]) hx hb d_Mo_numbers_16 hl (by decide) rfl (fun ls hl => ?_)
  refine lv_aload_n hx hb d_Mo_numbers_18 rfl (lv_at hl 2 rfl) ?_
  refine va_get (D := (dC, dI)) (ci := 13) (v := .ref Q.qe) (C := R_Mo) (T := F_Mo) (N := 30) hx hb hts in_Mo hown hK hP 0 rfl rfl 20 (by decide) (hts _ w_1109) (fun _ h9 => h9) (MFg (by decide) ((es_ne (by decide) (by decide) (by decide)).trans h20)) d_Mo_numbers_19 ?_
  refine lv_iconst (v := 3) hx hb d_Mo_numbers_22 (by decide) ?_
  refine lv_iload_n hx hb d_Mo_numbers_23 rfl (lv_at hl 3 rfl) ?_
  refine lv_imul hx hb d_Mo_numbers_24 ?_
  refine W.eq (g2 := F0 m 25 ls [.int (nI (3 * x9)), .ref Q.qe]) (by rw [show (3 * (nI x9)) = (nI (3 * x9)) from (by rw [show (3 : Int32) = nI 3 from rfl, pk_mul])]) ?_
  refine va_lald hx hb hK hP 2 1 rfl rfl (vp_in_nI (show 3 * x9 < 3 * Q.C by omega) (by omega)) d_Mo_numbers_25 ?_
  rw [show (nI (3 * x9)).toNatClampNeg = 3 * x9 from nI_clamp (by omega)]
  refine lv_lstore (lv' := [(6, .long (Q.ef (3 * x9))), (5, .int r1), (3, .long nL), (0, .ref mo), (1, .int (nI x9)), (2, .int (nI nd))]) hx hb d_Mo_numbers_26 hl (by decide) rfl (fun ls hl => ?_)
  refine lv_aload_n hx hb d_Mo_numbers_28 rfl (lv_at hl 3 rfl) ?_
  refine lv_iload_n hx hb d_Mo_numbers_29 rfl (lv_at hl 4 rfl) ?_
  refine lv_iconst (v := 0) hx hb d_Mo_numbers_30 (by decide) ?_
  refine W.eq (g2 := F0 m 31 ls [.int (nI 0), .int (nI x9), .ref mo]) rfl ?_
  have hPc := hP.sub (ws' := [(mo, .inr (13, MF 30 (es v tp dn 0))), (Q.qq, .inl (cI, (8 * Q.C), .inl Q.qf))]) [0, 1] rfl
  have hDc := hD.sub (ws' := [(mo, .inr (13, MF 30 (es v tp dn 0))), (Q.qq, .inl (cI, (8 * Q.C), .inl Q.qf))]) [0, 1] (by decide) rfl
  have hKc := hK.sub (tys' := [(cI, .int)]) [0] rfl
  have hFc := va_free (wc := [(mo, .inr (13, MF 30 (es v tp dn 0))), (Q.qq, .inl (cI, (8 * Q.C), .inl Q.qf))]) hD hS hA [0, 1] rfl
  refine va_calli (va_runV (As := [.int (nI x9), .int (nI 0)]) (rest := []) ⟨hx, hb, hml, hown, hts⟩ (c_Mo_field l dC dI mo H (es v tp dn 0) cI Q.qq (8 * Q.C) Q.qf x9 0 (by omega) (by omega) ((es_ne (by decide) (by decide) (by decide)).trans h19)) (cwV 2 hts (gt_V (own := R_Mo) (C := R_Mo) (i := 286) (y := y_Mo_field) i_Mo_field w_1431 w_1433 (gt_sel (y := y_Mo_field) (n := 30) (by decide +kernel)) w_7) rfl rfl rfl (by decide +kernel) ⟨Nat.le_of_ble_eq_true rfl, Nat.le_of_ble_eq_true rfl⟩) ⟨mp_blind, va_recv hKc hPc (ci := 13) (q0 := 0) rfl rfl, fun U hU hW => ⟨rfl, hU, by rw [hU]; exact hPc, va_K.moved hW.alike hKc, hDc.weaken (fun _ _ _ _ => trivial)⟩⟩ rfl rfl hl.1 rfl (lv_room (Nat.le_of_ble_eq_true rfl)) d_Mo_numbers_31 ⟨Nat.le_of_ble_eq_true rfl, Nat.le_of_ble_eq_true rfl⟩) hS (fun q _ h => hFc q h) hFc (fun r2 _u t9 H1 locs ht hvm hw hB hz1 hk1 hS => ?_)
  obtain ⟨hP1, hK1, hD1⟩ := hB
  rw [ht] at hP1
  obtain ⟨hP, hD⟩ := va_join (wr := [(Q.qe, .inl (cL, (3 * Q.C), .inr (.inl Q.ef))), (t, .inr (12, MF 13 (tw T))), (T.a4, .inl (cI, T.N, .inl T.ki)), (T.a5, .inl (cI, T.N, .inl T.nx)), (ql, .inl (cI, 20100, .inl li))]) (w1 := [(mo, .inr (13, MF 30 (es v tp dn 0))), (Q.qq, .inl (cI, (8 * Q.C), .inl Q.qf))]) hP hD [0, 1] [2, 3, 4, 5, 6] rfl rfl (by decide) (by decide) hk1 hFc hP1 hD1
  generalize H1 = H at hP hS ⊢
  have hP : va_P (dC, dI) classes [(Q.qe, .inl (cL, (3 * Q.C), .inr (.inl Q.ef))), (t, .inr (12, MF 13 (tw T))), (T.a4, .inl (cI, T.N, .inl T.ki)), (T.a5, .inl (cI, T.N, .inl T.nx)), (ql, .inl (cI, 20100, .inl li)), (mo, .inr (13, MF 30 (es v tp dn 0))), (Q.qq, .inl (cI, (8 * Q.C), .inl Q.qf))] H := hP
  have hD : va_D A [(Q.qe, .inl (cL, (3 * Q.C), .inr (.inl Q.ef))), (t, .inr (12, MF 13 (tw T))), (T.a4, .inl (cI, T.N, .inl T.ki)), (T.a5, .inl (cI, T.N, .inl T.nx)), (ql, .inl (cI, 20100, .inl li)), (mo, .inr (13, MF 30 (es v tp dn 0))), (Q.qq, .inl (cI, (8 * Q.C), .inl Q.qf))] := hD
  have hP := hP.sub (ws' := [(mo, .inr (13, MF 30 (es v tp dn 0))), (Q.qq, .inl (cI, (8 * Q.C), .inl Q.qf)), (Q.qe, .inl (cL, (3 * Q.C), .inr (.inl Q.ef))), (t, .inr (12, MF 13 (tw T))), (T.a4, .inl (cI, T.N, .inl T.ki)), (T.a5, .inl (cI, T.N, .inl T.nx)), (ql, .inl (cI, 20100, .inl li))]) [5, 6, 0, 1, 2, 3, 4] rfl
  have hD := hD.sub (ws' := [(mo, .inr (13, MF 30 (es v tp dn 0))), (Q.qq, .inl (cI, (8 * Q.C), .inl Q.qf)), (Q.qe, .inl (cL, (3 * Q.C), .inr (.inl Q.ef))), (t, .inr (12, MF 13 (tw T))), (T.a4, .inl (cI, T.N, .inl T.ki)), (T.a5, .inl (cI, T.N, .inl T.nx)), (ql, .inl (cI, 20100, .inl li))]) [5, 6, 0, 1, 2, 3, 4] (by decide) rfl
  have h_r2 : r2 = Q.qf (8 * x9 + 0) := hw
  refine lv_iconst (v := 3) hx hb d_Mo_numbers_34 (by decide) ?_
  refine lv_icmp_ne (tgt := 82) hx hb d_Mo_numbers_35 (by decide) (fun c35 => ?_) (fun c35 => ?_)
  · refine w_join (D := (dC, dI)) (cl := classes) (A := A) (H0 := s.heap) (nL := 16) 105 (σ := Int64) (fun st => gL st ∧ st = (if r1 &&& 4 = 0 then 1 else Q.ef (3 * x9 + 2))) (fun st => 0) (fun st => 0) (fun st => [(mo, .inr (13, MF 30 (es v tp dn 0))), (Q.qq, .inl (cI, (8 * Q.C), .inl Q.qf)), (Q.qe, .inl (cL, (3 * Q.C), .inr (.inl Q.ef))), (t, .inr (12, MF 13 (tw T))), (T.a4, .inl (cI, T.N, .inl T.ki)), (T.a5, .inl (cI, T.N, .inl T.nx)), (ql, .inl (cI, 20100, .inl li))]) (fun st => [(0, .ref mo), (1, .int (nI x9)), (2, .int (nI nd)), (3, .long nL), (5, .int r1), (6, .long (Q.ef (3 * x9))), (8, .long st)]) (fun jn105 => ?_) ?_
    · refine lv_iload hx hb d_Mo_numbers_82 (lv_at hl 1 rfl) ?_
      refine lv_iconst (v := 4) hx hb d_Mo_numbers_84 (by decide) ?_
      refine lv_iand hx hb d_Mo_numbers_85 ?_
      refine lv_if_eq (tgt := 102) hx hb d_Mo_numbers_86 (by decide) (fun c86 => ?_) (fun c86 => ?_)
      · refine lv_lconst (v := 1) hx hb d_Mo_numbers_102 (by decide) ?_
        refine lv_lstore (lv' := [(8, .long 1), (6, .long (Q.ef (3 * x9))), (5, .int r1), (3, .long nL), (0, .ref mo), (1, .int (nI x9)), (2, .int (nI nd))]) hx hb d_Mo_numbers_103 hl (by decide) rfl (fun ls hl => ?_)
        exact jn105 1 _ _ _ ⟨by decide, by rw [if_pos c86]⟩ hP hD hS (lv_sub hl [4, 5, 6, 3, 2, 1, 0] rfl)
      · refine lv_aload_n hx hb d_Mo_numbers_89 rfl (lv_at hl 3 rfl) ?_
        refine va_get (D := (dC, dI)) (ci := 13) (v := .ref Q.qe) (C := R_Mo) (T := F_Mo) (N := 30) hx hb hts in_Mo hown hK hP 0 rfl rfl 20 (by decide) (hts _ w_1109) (fun _ h9 => h9) (MFg (by decide) ((es_ne (by decide) (by decide) (by decide)).trans h20)) d_Mo_numbers_90 ?_
        refine lv_iconst (v := 3) hx hb d_Mo_numbers_93 (by decide) ?_
        refine lv_iload_n hx hb d_Mo_numbers_94 rfl (lv_at hl 4 rfl) ?_
        refine lv_imul hx hb d_Mo_numbers_95 ?_
        refine W.eq (g2 := F0 m 96 ls [.int (nI (3 * x9)), .ref Q.qe]) (by rw [show (3 * (nI x9)) = (nI (3 * x9)) from (by rw [show (3 : Int32) = nI 3 from rfl, pk_mul])]) ?_
        refine lv_iconst (v := 2) hx hb d_Mo_numbers_96 (by decide) ?_
        refine lv_iadd hx hb d_Mo_numbers_97 ?_
        refine W.eq (g2 := F0 m 98 ls [.int (nI (3 * x9 + 2)), .ref Q.qe]) (by rw [show ((nI (3 * x9)) + 2) = (nI (3 * x9 + 2)) from (by rw [show (2 : Int32) = nI 2 from rfl, nI_add])]) ?_
        refine va_lald hx hb hK hP 2 1 rfl rfl (vp_in_nI (show 3 * x9 + 2 < 3 * Q.C by omega) (by omega)) d_Mo_numbers_98 ?_
        rw [show (nI (3 * x9 + 2)).toNatClampNeg = 3 * x9 + 2 from nI_clamp (by omega)]
        refine lv_goto (tgt := 103) hx hb d_Mo_numbers_99 (by decide) ?_
        refine lv_lstore (lv' := [(8, .long (Q.ef (3 * x9 + 2))), (6, .long (Q.ef (3 * x9))), (5, .int r1), (3, .long nL), (0, .ref mo), (1, .int (nI x9)), (2, .int (nI nd))]) hx hb d_Mo_numbers_103 hl (by decide) rfl (fun ls hl => ?_)
        exact jn105 ((Q.ef (3 * x9 + 2))) _ _ _ ⟨hq4 _, by rw [if_neg c86]⟩ hP hD hS (lv_sub hl [4, 5, 6, 3, 2, 1, 0] rfl)
    · rintro st H locs ls hI105 hP hD hS hl
      have hP : va_P (dC, dI) classes [(mo, .inr (13, MF 30 (es v tp dn 0))), (Q.qq, .inl (cI, (8 * Q.C), .inl Q.qf)), (Q.qe, .inl (cL, (3 * Q.C), .inr (.inl Q.ef))), (t, .inr (12, MF 13 (tw T))), (T.a4, .inl (cI, T.N, .inl T.ki)), (T.a5, .inl (cI, T.N, .inl T.nx)), (ql, .inl (cI, 20100, .inl li))] H := hP
      have hD : va_D A [(mo, .inr (13, MF 30 (es v tp dn 0))), (Q.qq, .inl (cI, (8 * Q.C), .inl Q.qf)), (Q.qe, .inl (cL, (3 * Q.C), .inr (.inl Q.ef))), (t, .inr (12, MF 13 (tw T))), (T.a4, .inl (cI, T.N, .inl T.ki)), (T.a5, .inl (cI, T.N, .inl T.nx)), (ql, .inl (cI, 20100, .inl li))] := hD
      have hl : lv_has ls 16 [(0, .ref mo), (1, .int (nI x9)), (2, .int (nI nd)), (3, .long nL), (5, .int r1), (6, .long (Q.ef (3 * x9))), (8, .long st)] := hl
      have hj105 := hI105
      have hm4 : mq = slcS (if r1 &&& 1 = 0 then none else some (Q.ef (3 * x9))) (if r1 &&& 2 = 0 then none else some (Q.ef (3 * x9 + 1))) st := by rw [hj105.2, h_r1]; exact hm.elim (fun h => absurd (h_r2.trans h.1) c35) (fun h => h.2)
      have n1L9 : (nL - 1).toInt = nL.toInt - 1 := by rw [Int64.toInt_sub]; have o1 : (1 : Int64).toInt = 1 := rfl; rw [o1]; apply Int.bmod_eq_of_le <;> omega
      refine lv_lload hx hb d_Mo_numbers_105 (lv_at hl 6 rfl) ?_
      refine lv_lconst (v := 0) hx hb d_Mo_numbers_107 (by decide) ?_
      refine W.lcmp hx hb d_Mo_numbers_108 ?_
      refine lv_if_ne (tgt := 113) hx hb d_Mo_numbers_109 (by decide) (fun c109 => ?_) (fun c109 => ?_)
      · refine w_join (D := (dC, dI)) (cl := classes) (A := A) (H0 := s.heap) (nL := 16) 155 (σ := Int64) (fun fr => fr.toInt = frF ks.length (if r1 &&& 1 = 0 then none else some (Q.ef (3 * x9))) st) (fun fr => 0) (fun fr => 0) (fun fr => [(mo, .inr (13, MF 30 (es v tp dn 0))), (Q.qq, .inl (cI, (8 * Q.C), .inl Q.qf)), (Q.qe, .inl (cL, (3 * Q.C), .inr (.inl Q.ef))), (t, .inr (12, MF 13 (tw T))), (T.a4, .inl (cI, T.N, .inl T.ki)), (T.a5, .inl (cI, T.N, .inl T.nx)), (ql, .inl (cI, 20100, .inl li))]) (fun fr => [(0, .ref mo), (1, .int (nI x9)), (2, .int (nI nd)), (3, .long nL), (5, .int r1), (8, .long st), (10, .long fr)]) (fun jn155 => ?_) ?_
        · refine lv_iload hx hb d_Mo_numbers_113 (lv_at hl 4 rfl) ?_
          refine lv_iconst (v := 1) hx hb d_Mo_numbers_115 (by decide) ?_
          refine lv_iand hx hb d_Mo_numbers_116 ?_
          refine lv_if_eq (tgt := 139) hx hb d_Mo_numbers_117 (by decide) (fun c117 => ?_) (fun c117 => ?_)
          · refine lv_lload hx hb d_Mo_numbers_139 (lv_at hl 6 rfl) ?_
            refine lv_lconst (v := 0) hx hb d_Mo_numbers_141 (by decide) ?_
            refine W.lcmp hx hb d_Mo_numbers_142 ?_
            refine lv_if_le (tgt := 150) hx hb d_Mo_numbers_143 (by decide) (fun c143 => ?_) (fun c143 => ?_)
            · refine lv_lload_n hx hb d_Mo_numbers_150 rfl (lv_at hl 3 rfl) ?_
              refine lv_lconst (v := 1) hx hb d_Mo_numbers_151 (by decide) ?_
              refine lv_lsub hx hb d_Mo_numbers_152 ?_
              refine lv_lstore (lv' := [(10, .long (nL - 1)), (0, .ref mo), (1, .int (nI x9)), (2, .int (nI nd)), (3, .long nL), (5, .int r1), (6, .long (Q.ef (3 * x9))), (8, .long st)]) hx hb d_Mo_numbers_153 hl (by decide) rfl (fun ls hl => ?_)
              exact jn155 ((nL - 1)) _ _ _ (by rw [if_pos c117]; show _ = (if 0 < st.toInt then 0 else (ks.length : Int) - 1); rw [if_neg (st_neg c143), n1L9, hnl]) hP hD hS (lv_sub hl [1, 2, 3, 4, 5, 7, 0] rfl)
            · refine lv_lconst (v := 0) hx hb d_Mo_numbers_146 (by decide) ?_
              refine lv_goto (tgt := 153) hx hb d_Mo_numbers_147 (by decide) ?_
              refine lv_lstore (lv' := [(10, .long 0), (0, .ref mo), (1, .int (nI x9)), (2, .int (nI nd)), (3, .long nL), (5, .int r1), (6, .long (Q.ef (3 * x9))), (8, .long st)]) hx hb d_Mo_numbers_153 hl (by decide) rfl (fun ls hl => ?_)
              exact jn155 0 _ _ _ (by rw [if_pos c117]; show _ = (if 0 < st.toInt then 0 else (ks.length : Int) - 1); rw [if_pos (st_pos c143)]; rfl) hP hD hS (lv_sub hl [1, 2, 3, 4, 5, 7, 0] rfl)
          · refine lv_lload hx hb d_Mo_numbers_120 (lv_at hl 5 rfl) ?_
            refine lv_lconst (v := 0) hx hb d_Mo_numbers_122 (by decide) ?_
            refine W.lcmp hx hb d_Mo_numbers_123 ?_
            refine lv_if_ge (tgt := 134) hx hb d_Mo_numbers_124 (by decide) (fun c124 => ?_) (fun c124 => ?_)
            · refine lv_lload hx hb d_Mo_numbers_134 (lv_at hl 5 rfl) ?_
              refine lv_goto (tgt := 153) hx hb d_Mo_numbers_136 (by decide) ?_
              refine lv_lstore (lv' := [(10, .long (Q.ef (3 * x9))), (0, .ref mo), (1, .int (nI x9)), (2, .int (nI nd)), (3, .long nL), (5, .int r1), (6, .long (Q.ef (3 * x9))), (8, .long st)]) hx hb d_Mo_numbers_153 hl (by decide) rfl (fun ls hl => ?_)
              exact jn155 ((Q.ef (3 * x9))) _ _ _ (by rw [if_neg c117]; exact (fr_ge c124)) hP hD hS (lv_sub hl [1, 2, 3, 4, 5, 7, 0] rfl)
            · refine lv_lload_n hx hb d_Mo_numbers_127 rfl (lv_at hl 3 rfl) ?_
              refine lv_lload hx hb d_Mo_numbers_128 (lv_at hl 5 rfl) ?_
              refine lv_ladd hx hb d_Mo_numbers_130 ?_
              refine lv_goto (tgt := 153) hx hb d_Mo_numbers_131 (by decide) ?_
              refine lv_lstore (lv' := [(10, .long (nL + (Q.ef (3 * x9)))), (0, .ref mo), (1, .int (nI x9)), (2, .int (nI nd)), (3, .long nL), (5, .int r1), (6, .long (Q.ef (3 * x9))), (8, .long st)]) hx hb d_Mo_numbers_153 hl (by decide) rfl (fun ls hl => ?_)
              exact jn155 ((nL + (Q.ef (3 * x9)))) _ _ _ (by rw [if_neg c117]; exact (fr_lt hnl (by omega) (hq4 _) c124)) hP hD hS (lv_sub hl [1, 2, 3, 4, 5, 7, 0] rfl)
        · rintro fr H locs ls hI155 hP hD hS hl
          have hP : va_P (dC, dI) classes [(mo, .inr (13, MF 30 (es v tp dn 0))), (Q.qq, .inl (cI, (8 * Q.C), .inl Q.qf)), (Q.qe, .inl (cL, (3 * Q.C), .inr (.inl Q.ef))), (t, .inr (12, MF 13 (tw T))), (T.a4, .inl (cI, T.N, .inl T.ki)), (T.a5, .inl (cI, T.N, .inl T.nx)), (ql, .inl (cI, 20100, .inl li))] H := hP
          have hD : va_D A [(mo, .inr (13, MF 30 (es v tp dn 0))), (Q.qq, .inl (cI, (8 * Q.C), .inl Q.qf)), (Q.qe, .inl (cL, (3 * Q.C), .inr (.inl Q.ef))), (t, .inr (12, MF 13 (tw T))), (T.a4, .inl (cI, T.N, .inl T.ki)), (T.a5, .inl (cI, T.N, .inl T.nx)), (ql, .inl (cI, 20100, .inl li))] := hD
          have hl : lv_has ls 16 [(0, .ref mo), (1, .int (nI x9)), (2, .int (nI nd)), (3, .long nL), (5, .int r1), (8, .long st), (10, .long fr)] := hl
          have hj155 := hI155
          refine w_join (D := (dC, dI)) (cl := classes) (A := A) (H0 := s.heap) (nL := 16) 221 (σ := Int64) (fun to => to.toInt = toF ks.length (if r1 &&& 2 = 0 then none else some (Q.ef (3 * x9 + 1))) st) (fun to => 0) (fun to => 0) (fun to => [(mo, .inr (13, MF 30 (es v tp dn 0))), (Q.qq, .inl (cI, (8 * Q.C), .inl Q.qf)), (Q.qe, .inl (cL, (3 * Q.C), .inr (.inl Q.ef))), (t, .inr (12, MF 13 (tw T))), (T.a4, .inl (cI, T.N, .inl T.ki)), (T.a5, .inl (cI, T.N, .inl T.nx)), (ql, .inl (cI, 20100, .inl li))]) (fun to => [(0, .ref mo), (1, .int (nI x9)), (2, .int (nI nd)), (3, .long nL), (8, .long st), (10, .long fr), (12, .long to)]) (fun jn221 => ?_) ?_
          · refine lv_iload hx hb d_Mo_numbers_155 (lv_at hl 4 rfl) ?_
            refine lv_iconst (v := 2) hx hb d_Mo_numbers_157 (by decide) ?_
            refine lv_iand hx hb d_Mo_numbers_158 ?_
            refine lv_if_eq (tgt := 205) hx hb d_Mo_numbers_159 (by decide) (fun c159 => ?_) (fun c159 => ?_)
            · refine lv_lload hx hb d_Mo_numbers_205 (lv_at hl 5 rfl) ?_
              refine lv_lconst (v := 0) hx hb d_Mo_numbers_207 (by decide) ?_
              refine W.lcmp hx hb d_Mo_numbers_208 ?_
              refine lv_if_le (tgt := 216) hx hb d_Mo_numbers_209 (by decide) (fun c209 => ?_) (fun c209 => ?_)
              · refine lv_ldc2 (v := (-1)) hx hb hown (hts _ w_1521) d_Mo_numbers_216 ?_
                refine lv_lstore (lv' := [(12, .long (-1)), (0, .ref mo), (1, .int (nI x9)), (2, .int (nI nd)), (3, .long nL), (5, .int r1), (8, .long st), (10, .long fr)]) hx hb d_Mo_numbers_219 hl (by decide) rfl (fun ls hl => ?_)
                exact jn221 (-1) _ _ _ (by rw [if_pos c159]; show _ = (if 0 < st.toInt then (ks.length : Int) else -1); rw [if_neg (st_neg c209)]; rfl) hP hD hS (lv_sub hl [1, 2, 3, 4, 6, 7, 0] rfl)
              · refine lv_lload_n hx hb d_Mo_numbers_212 rfl (lv_at hl 3 rfl) ?_
                refine lv_goto (tgt := 219) hx hb d_Mo_numbers_213 (by decide) ?_
                refine lv_lstore (lv' := [(12, .long nL), (0, .ref mo), (1, .int (nI x9)), (2, .int (nI nd)), (3, .long nL), (5, .int r1), (8, .long st), (10, .long fr)]) hx hb d_Mo_numbers_219 hl (by decide) rfl (fun ls hl => ?_)
                exact jn221 nL _ _ _ (by rw [if_pos c159]; show _ = (if 0 < st.toInt then (ks.length : Int) else -1); rw [if_pos (st_pos c209)]; exact hnl) hP hD hS (lv_sub hl [1, 2, 3, 4, 6, 7, 0] rfl)
            · refine lv_aload_n hx hb d_Mo_numbers_162 rfl (lv_at hl 0 rfl) ?_
              refine va_get (D := (dC, dI)) (ci := 13) (v := .ref Q.qe) (C := R_Mo) (T := F_Mo) (N := 30) hx hb hts in_Mo hown hK hP 0 rfl rfl 20 (by decide) (hts _ w_1109) (fun _ h9 => h9) (MFg (by decide) ((es_ne (by decide) (by decide) (by decide)).trans h20)) d_Mo_numbers_163 ?_
              refine lv_iconst (v := 3) hx hb d_Mo_numbers_166 (by decide) ?_
              refine lv_iload_n hx hb d_Mo_numbers_167 rfl (lv_at hl 1 rfl) ?_
              refine lv_imul hx hb d_Mo_numbers_168 ?_
              refine W.eq (g2 := F0 m 169 ls [.int (nI (3 * x9)), .ref Q.qe]) (by rw [show (3 * (nI x9)) = (nI (3 * x9)) from (by rw [show (3 : Int32) = nI 3 from rfl, pk_mul])]) ?_
              refine lv_iconst (v := 1) hx hb d_Mo_numbers_169 (by decide) ?_
              refine lv_iadd hx hb d_Mo_numbers_170 ?_
              refine W.eq (g2 := F0 m 171 ls [.int (nI (3 * x9 + 1)), .ref Q.qe]) (by rw [show ((nI (3 * x9)) + 1) = (nI (3 * x9 + 1)) from (by rw [show (1 : Int32) = nI 1 from rfl, nI_add])]) ?_
              refine va_lald hx hb hK hP 2 1 rfl rfl (vp_in_nI (show 3 * x9 + 1 < 3 * Q.C by omega) (by omega)) d_Mo_numbers_171 ?_
              rw [show (nI (3 * x9 + 1)).toNatClampNeg = 3 * x9 + 1 from nI_clamp (by omega)]
              refine lv_lconst (v := 0) hx hb d_Mo_numbers_172 (by decide) ?_
              refine W.lcmp hx hb d_Mo_numbers_173 ?_
              refine lv_if_ge (tgt := 192) hx hb d_Mo_numbers_174 (by decide) (fun c174 => ?_) (fun c174 => ?_)
              · refine lv_aload_n hx hb d_Mo_numbers_192 rfl (lv_at hl 0 rfl) ?_
                refine va_get (D := (dC, dI)) (ci := 13) (v := .ref Q.qe) (C := R_Mo) (T := F_Mo) (N := 30) hx hb hts in_Mo hown hK hP 0 rfl rfl 20 (by decide) (hts _ w_1109) (fun _ h9 => h9) (MFg (by decide) ((es_ne (by decide) (by decide) (by decide)).trans h20)) d_Mo_numbers_193 ?_
                refine lv_iconst (v := 3) hx hb d_Mo_numbers_196 (by decide) ?_
                refine lv_iload_n hx hb d_Mo_numbers_197 rfl (lv_at hl 1 rfl) ?_
                refine lv_imul hx hb d_Mo_numbers_198 ?_
                refine W.eq (g2 := F0 m 199 ls [.int (nI (3 * x9)), .ref Q.qe]) (by rw [show (3 * (nI x9)) = (nI (3 * x9)) from (by rw [show (3 : Int32) = nI 3 from rfl, pk_mul])]) ?_
                refine lv_iconst (v := 1) hx hb d_Mo_numbers_199 (by decide) ?_
                refine lv_iadd hx hb d_Mo_numbers_200 ?_
                refine W.eq (g2 := F0 m 201 ls [.int (nI (3 * x9 + 1)), .ref Q.qe]) (by rw [show ((nI (3 * x9)) + 1) = (nI (3 * x9 + 1)) from (by rw [show (1 : Int32) = nI 1 from rfl, nI_add])]) ?_
                refine va_lald hx hb hK hP 2 1 rfl rfl (vp_in_nI (show 3 * x9 + 1 < 3 * Q.C by omega) (by omega)) d_Mo_numbers_201 ?_
                rw [show (nI (3 * x9 + 1)).toNatClampNeg = 3 * x9 + 1 from nI_clamp (by omega)]
                refine lv_goto (tgt := 219) hx hb d_Mo_numbers_202 (by decide) ?_
                refine lv_lstore (lv' := [(12, .long (Q.ef (3 * x9 + 1))), (0, .ref mo), (1, .int (nI x9)), (2, .int (nI nd)), (3, .long nL), (5, .int r1), (8, .long st), (10, .long fr)]) hx hb d_Mo_numbers_219 hl (by decide) rfl (fun ls hl => ?_)
                exact jn221 ((Q.ef (3 * x9 + 1))) _ _ _ (by rw [if_neg c159]; exact (fr_ge c174)) hP hD hS (lv_sub hl [1, 2, 3, 4, 6, 7, 0] rfl)
              · refine lv_lload_n hx hb d_Mo_numbers_177 rfl (lv_at hl 3 rfl) ?_
                refine lv_aload_n hx hb d_Mo_numbers_178 rfl (lv_at hl 0 rfl) ?_
                refine va_get (D := (dC, dI)) (ci := 13) (v := .ref Q.qe) (C := R_Mo) (T := F_Mo) (N := 30) hx hb hts in_Mo hown hK hP 0 rfl rfl 20 (by decide) (hts _ w_1109) (fun _ h9 => h9) (MFg (by decide) ((es_ne (by decide) (by decide) (by decide)).trans h20)) d_Mo_numbers_179 ?_
                refine lv_iconst (v := 3) hx hb d_Mo_numbers_182 (by decide) ?_
                refine lv_iload_n hx hb d_Mo_numbers_183 rfl (lv_at hl 1 rfl) ?_
                refine lv_imul hx hb d_Mo_numbers_184 ?_
                refine W.eq (g2 := F0 m 185 ls [.int (nI (3 * x9)), .ref Q.qe, .long nL]) (by rw [show (3 * (nI x9)) = (nI (3 * x9)) from (by rw [show (3 : Int32) = nI 3 from rfl, pk_mul])]) ?_
                refine lv_iconst (v := 1) hx hb d_Mo_numbers_185 (by decide) ?_
                refine lv_iadd hx hb d_Mo_numbers_186 ?_
                refine W.eq (g2 := F0 m 187 ls [.int (nI (3 * x9 + 1)), .ref Q.qe, .long nL]) (by rw [show ((nI (3 * x9)) + 1) = (nI (3 * x9 + 1)) from (by rw [show (1 : Int32) = nI 1 from rfl, nI_add])]) ?_
                refine va_lald hx hb hK hP 2 1 rfl rfl (vp_in_nI (show 3 * x9 + 1 < 3 * Q.C by omega) (by omega)) d_Mo_numbers_187 ?_
                rw [show (nI (3 * x9 + 1)).toNatClampNeg = 3 * x9 + 1 from nI_clamp (by omega)]
                refine lv_ladd hx hb d_Mo_numbers_188 ?_
                refine lv_goto (tgt := 219) hx hb d_Mo_numbers_189 (by decide) ?_
                refine lv_lstore (lv' := [(12, .long (nL + (Q.ef (3 * x9 + 1)))), (0, .ref mo), (1, .int (nI x9)), (2, .int (nI nd)), (3, .long nL), (5, .int r1), (8, .long st), (10, .long fr)]) hx hb d_Mo_numbers_219 hl (by decide) rfl (fun ls hl => ?_)
                exact jn221 ((nL + (Q.ef (3 * x9 + 1)))) _ _ _ (by rw [if_neg c159]; exact (fr_lt hnl (by omega) (hq4 _) c174)) hP hD hS (lv_sub hl [1, 2, 3, 4, 6, 7, 0] rfl)
          · rintro to H locs ls hI221 hP hD hS hl
            have hP : va_P (dC, dI) classes [(mo, .inr (13, MF 30 (es v tp dn 0))), (Q.qq, .inl (cI, (8 * Q.C), .inl Q.qf)), (Q.qe, .inl (cL, (3 * Q.C), .inr (.inl Q.ef))), (t, .inr (12, MF 13 (tw T))), (T.a4, .inl (cI, T.N, .inl T.ki)), (T.a5, .inl (cI, T.N, .inl T.nx)), (ql, .inl (cI, 20100, .inl li))] H := hP
            have hD : va_D A [(mo, .inr (13, MF 30 (es v tp dn 0))), (Q.qq, .inl (cI, (8 * Q.C), .inl Q.qf)), (Q.qe, .inl (cL, (3 * Q.C), .inr (.inl Q.ef))), (t, .inr (12, MF 13 (tw T))), (T.a4, .inl (cI, T.N, .inl T.ki)), (T.a5, .inl (cI, T.N, .inl T.nx)), (ql, .inl (cI, 20100, .inl li))] := hD
            have hl : lv_has ls 16 [(0, .ref mo), (1, .int (nI x9)), (2, .int (nI nd)), (3, .long nL), (8, .long st), (10, .long fr), (12, .long to)] := hl
            have hj221 := hI221
            refine lv_lload hx hb d_Mo_numbers_221 (lv_at hl 4 rfl) ?_
            refine lv_lconst (v := 0) hx hb d_Mo_numbers_223 (by decide) ?_
            refine W.lcmp hx hb d_Mo_numbers_224 ?_
            refine lv_if_le (tgt := 294) hx hb d_Mo_numbers_225 (by decide) (fun c225 => ?_) (fun c225 => ?_)
            · have n1L : (nL - 1).toInt = nL.toInt - 1 := by rw [Int64.toInt_sub]; have o1 : (1 : Int64).toInt = 1 := rfl; rw [o1]; apply Int.bmod_eq_of_le <;> omega
              refine w_join (D := (dC, dI)) (cl := classes) (A := A) (H0 := s.heap) (nL := 16) 313 (σ := Int64) (fun f2 => f2.toInt < (ks.length : Int) ∧ f2.toInt = if (ks.length : Int) - 1 < (frF ks.length (if r1 &&& 1 = 0 then none else some (Q.ef (3 * x9))) st) then (ks.length : Int) - 1 else (frF ks.length (if r1 &&& 1 = 0 then none else some (Q.ef (3 * x9))) st)) (fun f2 => 0) (fun f2 => 0) (fun f2 => [(mo, .inr (13, MF 30 (es v tp dn 0))), (Q.qq, .inl (cI, (8 * Q.C), .inl Q.qf)), (Q.qe, .inl (cL, (3 * Q.C), .inr (.inl Q.ef))), (t, .inr (12, MF 13 (tw T))), (T.a4, .inl (cI, T.N, .inl T.ki)), (T.a5, .inl (cI, T.N, .inl T.nx)), (ql, .inl (cI, 20100, .inl li))]) (fun f2 => [(0, .ref mo), (1, .int (nI x9)), (2, .int (nI nd)), (3, .long nL), (8, .long st), (10, .long f2), (12, .long to)]) (fun jn313 => ?_) ?_
              · refine lv_lload hx hb d_Mo_numbers_294 (lv_at hl 5 rfl) ?_
                refine lv_lload_n hx hb d_Mo_numbers_296 rfl (lv_at hl 3 rfl) ?_
                refine lv_lconst (v := 1) hx hb d_Mo_numbers_297 (by decide) ?_
                refine lv_lsub hx hb d_Mo_numbers_298 ?_
                refine W.lcmp hx hb d_Mo_numbers_299 ?_
                refine lv_if_le (tgt := 309) hx hb d_Mo_numbers_300 (by decide) (fun c300 => ?_) (fun c300 => ?_)
                · refine lv_lload hx hb d_Mo_numbers_309 (lv_at hl 5 rfl) ?_
                  refine lv_lstore (lv' := [(10, .long fr), (0, .ref mo), (1, .int (nI x9)), (2, .int (nI nd)), (3, .long nL), (8, .long st), (12, .long to)]) hx hb d_Mo_numbers_311 hl (by decide) rfl (fun ls hl => ?_)
                  exact jn313 fr _ _ _ ⟨by have := Int64.le_iff_toInt_le.mp ((lg_cmp_le _ _).mp c300); have := n1L; omega, by rw [← hj155, if_neg (by have := Int64.le_iff_toInt_le.mp ((lg_cmp_le _ _).mp c300); have := n1L; omega)]⟩ hP hD hS (lv_sub hl [1, 2, 3, 4, 5, 0, 6] rfl)
                · refine lv_lload_n hx hb d_Mo_numbers_303 rfl (lv_at hl 3 rfl) ?_
                  refine lv_lconst (v := 1) hx hb d_Mo_numbers_304 (by decide) ?_
                  refine lv_lsub hx hb d_Mo_numbers_305 ?_
                  refine lv_goto (tgt := 311) hx hb d_Mo_numbers_306 (by decide) ?_
                  refine lv_lstore (lv' := [(10, .long (nL - 1)), (0, .ref mo), (1, .int (nI x9)), (2, .int (nI nd)), (3, .long nL), (8, .long st), (12, .long to)]) hx hb d_Mo_numbers_311 hl (by decide) rfl (fun ls hl => ?_)
                  exact jn313 ((nL - 1)) _ _ _ ⟨by have := n1L; omega, by rw [← hj155, if_pos (by have := Int64.lt_iff_toInt_lt.mp ((lg_cmp_gt _ _).mp (Int32.not_le.mp c300)); have := n1L; omega)]; have := n1L; omega⟩ hP hD hS (lv_sub hl [1, 2, 3, 4, 5, 0, 6] rfl)
              · rintro f2 H locs ls hI313 hP hD hS hl
                have hP : va_P (dC, dI) classes [(mo, .inr (13, MF 30 (es v tp dn 0))), (Q.qq, .inl (cI, (8 * Q.C), .inl Q.qf)), (Q.qe, .inl (cL, (3 * Q.C), .inr (.inl Q.ef))), (t, .inr (12, MF 13 (tw T))), (T.a4, .inl (cI, T.N, .inl T.ki)), (T.a5, .inl (cI, T.N, .inl T.nx)), (ql, .inl (cI, 20100, .inl li))] H := hP
                have hD : va_D A [(mo, .inr (13, MF 30 (es v tp dn 0))), (Q.qq, .inl (cI, (8 * Q.C), .inl Q.qf)), (Q.qe, .inl (cL, (3 * Q.C), .inr (.inl Q.ef))), (t, .inr (12, MF 13 (tw T))), (T.a4, .inl (cI, T.N, .inl T.ki)), (T.a5, .inl (cI, T.N, .inl T.nx)), (ql, .inl (cI, 20100, .inl li))] := hD
                have hl : lv_has ls 16 [(0, .ref mo), (1, .int (nI x9)), (2, .int (nI nd)), (3, .long nL), (8, .long st), (10, .long f2), (12, .long to)] := hl
                have hj313 := hI313
                refine w_join (D := (dC, dI)) (cl := classes) (A := A) (H0 := s.heap) (nL := 16) 332 (σ := Int64) (fun t2 => -1 ≤ t2.toInt ∧ t2.toInt = if (toF ks.length (if r1 &&& 2 = 0 then none else some (Q.ef (3 * x9 + 1))) st) < -1 then -1 else (toF ks.length (if r1 &&& 2 = 0 then none else some (Q.ef (3 * x9 + 1))) st)) (fun t2 => 0) (fun t2 => 0) (fun t2 => [(mo, .inr (13, MF 30 (es v tp dn 0))), (Q.qq, .inl (cI, (8 * Q.C), .inl Q.qf)), (Q.qe, .inl (cL, (3 * Q.C), .inr (.inl Q.ef))), (t, .inr (12, MF 13 (tw T))), (T.a4, .inl (cI, T.N, .inl T.ki)), (T.a5, .inl (cI, T.N, .inl T.nx)), (ql, .inl (cI, 20100, .inl li))]) (fun t2 => [(0, .ref mo), (1, .int (nI x9)), (2, .int (nI nd)), (3, .long nL), (8, .long st), (10, .long f2), (12, .long t2)]) (fun jn332 => ?_) ?_
                · refine lv_lload hx hb d_Mo_numbers_313 (lv_at hl 6 rfl) ?_
                  refine lv_ldc2 (v := (-1)) hx hb hown (hts _ w_1521) d_Mo_numbers_315 ?_
                  refine W.lcmp hx hb d_Mo_numbers_318 ?_
                  refine lv_if_ge (tgt := 328) hx hb d_Mo_numbers_319 (by decide) (fun c319 => ?_) (fun c319 => ?_)
                  · refine lv_lload hx hb d_Mo_numbers_328 (lv_at hl 6 rfl) ?_
                    refine lv_lstore (lv' := [(12, .long to), (0, .ref mo), (1, .int (nI x9)), (2, .int (nI nd)), (3, .long nL), (8, .long st), (10, .long f2)]) hx hb d_Mo_numbers_330 hl (by decide) rfl (fun ls hl => ?_)
                    exact jn332 to _ _ _ ⟨by have := Int64.le_iff_toInt_le.mp ((lg_cmp_ge _ _).mp c319); have q1 : (-1 : Int64).toInt = -1 := rfl; omega, by rw [← hj221, if_neg (by have := Int64.le_iff_toInt_le.mp ((lg_cmp_ge _ _).mp c319); have q1 : (-1 : Int64).toInt = -1 := rfl; omega)]⟩ hP hD hS (lv_sub hl [1, 2, 3, 4, 5, 6, 0] rfl)
                  · refine lv_ldc2 (v := (-1)) hx hb hown (hts _ w_1521) d_Mo_numbers_322 ?_
                    refine lv_goto (tgt := 330) hx hb d_Mo_numbers_325 (by decide) ?_
                    refine lv_lstore (lv' := [(12, .long (-1)), (0, .ref mo), (1, .int (nI x9)), (2, .int (nI nd)), (3, .long nL), (8, .long st), (10, .long f2)]) hx hb d_Mo_numbers_330 hl (by decide) rfl (fun ls hl => ?_)
                    exact jn332 (-1) _ _ _ ⟨by decide, by rw [← hj221, if_pos (by have := Int64.lt_iff_toInt_lt.mp (Int64.not_le.mp (fun q => c319 ((lg_cmp_ge _ _).mpr q))); have q1 : (-1 : Int64).toInt = -1 := rfl; omega)]; rfl⟩ hP hD hS (lv_sub hl [1, 2, 3, 4, 5, 6, 0] rfl)
                · rintro t2 H locs ls hI332 hP hD hS hl
                  have hP : va_P (dC, dI) classes [(mo, .inr (13, MF 30 (es v tp dn 0))), (Q.qq, .inl (cI, (8 * Q.C), .inl Q.qf)), (Q.qe, .inl (cL, (3 * Q.C), .inr (.inl Q.ef))), (t, .inr (12, MF 13 (tw T))), (T.a4, .inl (cI, T.N, .inl T.ki)), (T.a5, .inl (cI, T.N, .inl T.nx)), (ql, .inl (cI, 20100, .inl li))] H := hP
                  have hD : va_D A [(mo, .inr (13, MF 30 (es v tp dn 0))), (Q.qq, .inl (cI, (8 * Q.C), .inl Q.qf)), (Q.qe, .inl (cL, (3 * Q.C), .inr (.inl Q.ef))), (t, .inr (12, MF 13 (tw T))), (T.a4, .inl (cI, T.N, .inl T.ki)), (T.a5, .inl (cI, T.N, .inl T.nx)), (ql, .inl (cI, 20100, .inl li))] := hD
                  have hl : lv_has ls 16 [(0, .ref mo), (1, .int (nI x9)), (2, .int (nI nd)), (3, .long nL), (8, .long st), (10, .long f2), (12, .long t2)] := hl
                  have hj332 := hI332
                  refine lv_lload hx hb d_Mo_numbers_332 (lv_at hl 5 rfl) ?_
                  refine lv_lstore (lv' := [(14, .long f2), (0, .ref mo), (1, .int (nI x9)), (2, .int (nI nd)), (3, .long nL), (8, .long st), (10, .long f2), (12, .long t2)]) hx hb d_Mo_numbers_334 hl (by decide) rfl (fun ls hl => ?_)
                  have hs1 : st.toInt < 0 := by have h1 := Int64.le_iff_toInt_le.mp ((lg_cmp_le _ _).mp c225); have h2 : ¬ st.toInt = (0 : Int64).toInt := fun q => c109 ((lg_cmp_eq _ _).mpr (Int64.toInt_inj.mp q)); have h3 : (0 : Int64).toInt = 0 := rfl; omega
                  have hs2 : -9007199254740991 ≤ st.toInt := by have hg := hj105.1; unfold gL at hg; omega
                  have hR9 : mq rt nn = atsR nn (dnL (ks.length + 1) f2.toInt t2.toInt st.toInt) := by rw [hm4]; exact slcS_d hk5 hs1 hkq hj313.2 hj332.2
                  have hf1 : dn + (f2 + 1).toInt.toNat ≤ dn + ks.length := by by_cases q : f2.toInt < -1; have := toI_neg1 q; omega; rw [add64 (by have o1 : (1 : Int64).toInt = 1 := rfl; omega) (by have o1 : (1 : Int64).toInt = 1 := rfl; omega)]; have o1 : (1 : Int64).toInt = 1 := rfl; omega
                  refine w_loop (D := (dC, dI)) (cl := classes) (A := A) (H0 := s.heap) (nL := 16) 336 (σ := Int64 × Nat × Nat × Int32 × (Nat → Int32) × (List NT × Nat) × Nat) (fun ⟨i, tp2, dn2, tm2, li2, Rd, kk⟩ => EI T tp2 dn2 tm2 li2 ∧ dn ≤ dn2 ∧ tp ≤ tp2 ∧ (∀ j, j < tp → li2 j = li j) ∧ (PUr T Rd tp dn tp2 dn2 tm2 li2 ∧ catR Rd (atsR nn (dnL kk i.toInt t2.toInt st.toInt)) = mq rt nn ∧ i.toInt < (kk : Int) + t2.toInt) ∧ i.toInt < (ks.length : Int) ∧ dn2 + (i + 1).toInt.toNat ≤ dn + ks.length) (fun ⟨i, tp2, dn2, tm2, li2, Rd, kk⟩ => (i + 1).toInt.toNat) (fun ⟨i, tp2, dn2, tm2, li2, Rd, kk⟩ => [(mo, .inr (13, MF 30 (es v tp2 dn2 tm2))), (Q.qq, .inl (cI, (8 * Q.C), .inl Q.qf)), (Q.qe, .inl (cL, (3 * Q.C), .inr (.inl Q.ef))), (t, .inr (12, MF 13 (tw T))), (T.a4, .inl (cI, T.N, .inl T.ki)), (T.a5, .inl (cI, T.N, .inl T.nx)), (ql, .inl (cI, 20100, .inl li2))]) (fun ⟨i, tp2, dn2, tm2, li2, Rd, kk⟩ => [(0, .ref mo), (1, .int (nI x9)), (2, .int (nI nd)), (3, .long nL), (8, .long st), (10, .long f2), (12, .long t2), (14, .long i)]) ?_ (f2, tp, dn, 0, li, ([], 0), ks.length + 1) ⟨hE, Nat.le_refl _, Nat.le_refl _, fun _ _ => rfl, ⟨hPU0, by rw [catR_l, hR9], by have h1 := hj313.1; have h2 := hj332.1; show f2.toInt < ((ks.length + 1 : Nat) : Int) + t2.toInt; omega⟩, hj313.1, hf1⟩ hP hD hS (lv_sub hl [1, 2, 3, 4, 5, 6, 7, 0] rfl)
                  rintro ⟨i, tp2, dn2, tm2, li2, Rd, kk⟩ H locs ls hI ih hP hD hS hl
                  have hP : va_P (dC, dI) classes [(mo, .inr (13, MF 30 (es v tp2 dn2 tm2))), (Q.qq, .inl (cI, (8 * Q.C), .inl Q.qf)), (Q.qe, .inl (cL, (3 * Q.C), .inr (.inl Q.ef))), (t, .inr (12, MF 13 (tw T))), (T.a4, .inl (cI, T.N, .inl T.ki)), (T.a5, .inl (cI, T.N, .inl T.nx)), (ql, .inl (cI, 20100, .inl li2))] H := hP
                  have hD : va_D A [(mo, .inr (13, MF 30 (es v tp2 dn2 tm2))), (Q.qq, .inl (cI, (8 * Q.C), .inl Q.qf)), (Q.qe, .inl (cL, (3 * Q.C), .inr (.inl Q.ef))), (t, .inr (12, MF 13 (tw T))), (T.a4, .inl (cI, T.N, .inl T.ki)), (T.a5, .inl (cI, T.N, .inl T.nx)), (ql, .inl (cI, 20100, .inl li2))] := hD
                  have hl : lv_has ls 16 [(0, .ref mo), (1, .int (nI x9)), (2, .int (nI nd)), (3, .long nL), (8, .long st), (10, .long f2), (12, .long t2), (14, .long i)] := hl
                  obtain ⟨hE2, hI1, hI2, hI3, ⟨hPUd, hRest, hkk⟩, hI4, hI5⟩ := hI
                  obtain ⟨he12, he22, he32, he42, he52⟩ := hE2
                  have hE2 : EI T tp2 dn2 tm2 li2 := ⟨he12, he22, he32, he42, he52⟩
                  refine lv_lload hx hb d_Mo_numbers_336 (lv_at hl 7 rfl) ?_
                  refine lv_lload hx hb d_Mo_numbers_338 (lv_at hl 6 rfl) ?_
                  refine W.lcmp hx hb d_Mo_numbers_340 ?_
                  refine lv_if_le (tgt := 365) hx hb d_Mo_numbers_341 (by decide) (fun c341 => ?_) (fun c341 => ?_)
                  · have hmF : mq rt nn = Rd := by rw [← hRest, dnL_nil (by have := Int64.le_iff_toInt_le.mp ((lg_cmp_le _ _).mp c341); omega), atsR_0, catR_0]
                    exact W.vret hx hb hr (fun t9 ht hW => ⟨⟨(tp2, dn2, tm2, li2), rfl, ⟨hE2, hI2, hI3, ⟨hI1, fun _ => ⟨by show dn2 ≤ 10001 + 4096; omega, he42⟩, fun e => absurd rfl e⟩, by rw [hmF]; exact hPUd⟩, by rw [ht]; exact hP, va_K.moved hW.alike hK, hD⟩, hS.F ht⟩) hS.2.2 d_Mo_numbers_365
                  · refine lv_aload_n hx hb d_Mo_numbers_344 rfl (lv_at hl 0 rfl) ?_
                    refine lv_aload_n hx hb d_Mo_numbers_345 rfl (lv_at hl 0 rfl) ?_
                    refine lv_iload_n hx hb d_Mo_numbers_346 rfl (lv_at hl 2 rfl) ?_
                    refine lv_lload hx hb d_Mo_numbers_347 (lv_at hl 7 rfl) ?_
                    have hilt : t2.toInt < i.toInt := Int64.lt_iff_toInt_lt.mp ((lg_cmp_gt _ _).mp (Int32.not_le.mp c341))
                    obtain ⟨hu1, hu2, hu3, hu4, hu5⟩ := dn64 hI4 hj332.1 (by omega) hs1 hs2 ((lg_cmp_gt _ _).mp (Int32.not_le.mp c341))
                    refine W.eq (g2 := F0 m 349 ls [.long (Int64.ofNat i.toInt.toNat), .int (nI nd), .ref mo, .ref mo]) (by rw [← hu5]) ?_
                    have hPc := hP.sub (ws' := [(mo, .inr (13, MF 30 (es v tp2 dn2 tm2))), (t, .inr (12, MF 13 (tw T))), (T.a4, .inl (cI, T.N, .inl T.ki)), (T.a5, .inl (cI, T.N, .inl T.nx))]) [0, 3, 4, 5] rfl
                    have hDc := hD.sub (ws' := [(mo, .inr (13, MF 30 (es v tp2 dn2 tm2))), (t, .inr (12, MF 13 (tw T))), (T.a4, .inl (cI, T.N, .inl T.ki)), (T.a5, .inl (cI, T.N, .inl T.nx))]) [0, 3, 4, 5] (by decide) rfl
                    have hKc := hK.sub (tys' := [(cI, .int)]) [0] rfl
                    have hFc := va_free (wc := [(mo, .inr (13, MF 30 (es v tp2 dn2 tm2))), (t, .inr (12, MF 13 (tw T))), (T.a4, .inl (cI, T.N, .inl T.ki)), (T.a5, .inl (cI, T.N, .inl T.nx))]) hD hS hA [0, 3, 4, 5] rfl
                    refine va_calli (va_runV (As := [.int (nI nd), .long (Int64.ofNat i.toInt.toNat)]) (rest := [.ref mo]) ⟨hx, hb, hml, hown, hts⟩ (c_Mo_kidAt l dC dI mo H (es v tp2 dn2 tm2) cI t T nd i.toInt.toNat ks hT (by omega) (by omega) hch ((es_ne (by decide) (by decide) (by decide)).trans h18)) (cwV 2 hts (gt_V (own := R_Mo) (C := R_Mo) (i := 372) (y := y_Mo_kidAt) i_Mo_kidAt w_1517 w_1519 (gt_sel (y := y_Mo_kidAt) (n := 30) (by decide +kernel)) w_7) rfl rfl rfl (by decide +kernel) ⟨Nat.le_of_ble_eq_true rfl, Nat.le_of_ble_eq_true rfl⟩) ⟨mp_blind, va_recv hKc hPc (ci := 13) (q0 := 0) rfl rfl, fun U hU hW => ⟨rfl, hU, by rw [hU]; exact hPc, va_K.moved hW.alike hKc, hDc.weaken (fun _ _ _ _ => trivial)⟩⟩ rfl rfl hl.1 rfl (lv_room (Nat.le_of_ble_eq_true rfl)) d_Mo_numbers_349 ⟨Nat.le_of_ble_eq_true rfl, Nat.le_of_ble_eq_true rfl⟩) hS (fun q _ h => hFc q h) hFc (fun r8 _u t9 H1 locs ht hvm hw hB hz1 hk1 hS => ?_)
                    obtain ⟨hP1, hK1, hD1⟩ := hB
                    rw [ht] at hP1
                    obtain ⟨hP, hD⟩ := va_join (wr := [(Q.qq, .inl (cI, (8 * Q.C), .inl Q.qf)), (Q.qe, .inl (cL, (3 * Q.C), .inr (.inl Q.ef))), (ql, .inl (cI, 20100, .inl li2))]) (w1 := [(mo, .inr (13, MF 30 (es v tp2 dn2 tm2))), (t, .inr (12, MF 13 (tw T))), (T.a4, .inl (cI, T.N, .inl T.ki)), (T.a5, .inl (cI, T.N, .inl T.nx))]) hP hD [0, 3, 4, 5] [1, 2, 6] rfl rfl (by decide) (by decide) hk1 hFc hP1 hD1
                    generalize H1 = H at hP hS ⊢
                    have hP : va_P (dC, dI) classes [(Q.qq, .inl (cI, (8 * Q.C), .inl Q.qf)), (Q.qe, .inl (cL, (3 * Q.C), .inr (.inl Q.ef))), (ql, .inl (cI, 20100, .inl li2)), (mo, .inr (13, MF 30 (es v tp2 dn2 tm2))), (t, .inr (12, MF 13 (tw T))), (T.a4, .inl (cI, T.N, .inl T.ki)), (T.a5, .inl (cI, T.N, .inl T.nx))] H := hP
                    have hD : va_D A [(Q.qq, .inl (cI, (8 * Q.C), .inl Q.qf)), (Q.qe, .inl (cL, (3 * Q.C), .inr (.inl Q.ef))), (ql, .inl (cI, 20100, .inl li2)), (mo, .inr (13, MF 30 (es v tp2 dn2 tm2))), (t, .inr (12, MF 13 (tw T))), (T.a4, .inl (cI, T.N, .inl T.ki)), (T.a5, .inl (cI, T.N, .inl T.nx))] := hD
                    have hP := hP.sub (ws' := [(mo, .inr (13, MF 30 (es v tp2 dn2 tm2))), (Q.qq, .inl (cI, (8 * Q.C), .inl Q.qf)), (Q.qe, .inl (cL, (3 * Q.C), .inr (.inl Q.ef))), (t, .inr (12, MF 13 (tw T))), (T.a4, .inl (cI, T.N, .inl T.ki)), (T.a5, .inl (cI, T.N, .inl T.nx)), (ql, .inl (cI, 20100, .inl li2))]) [3, 0, 1, 4, 5, 6, 2] rfl
                    have hD := hD.sub (ws' := [(mo, .inr (13, MF 30 (es v tp2 dn2 tm2))), (Q.qq, .inl (cI, (8 * Q.C), .inl Q.qf)), (Q.qe, .inl (cL, (3 * Q.C), .inr (.inl Q.ef))), (t, .inr (12, MF 13 (tw T))), (T.a4, .inl (cI, T.N, .inl T.ki)), (T.a5, .inl (cI, T.N, .inl T.nx)), (ql, .inl (cI, 20100, .inl li2))]) [3, 0, 1, 4, 5, 6, 2] (by decide) rfl
                    obtain ⟨k9, hk9, hr8⟩ : ∃ k9, ks[i.toInt.toNat]? = some k9 ∧ r8 = nI k9 := ⟨ks[i.toInt.toNat]'hu4, List.getElem?_eq_getElem hu4, by have hw : r8 = kidV ks i.toInt.toNat := hw; rw [hw]; unfold kidV; rw [List.getElem?_eq_getElem hu4]⟩
                    subst hr8
                    obtain ⟨c9, hc9⟩ : ∃ c, (kdsN nn)[i.toInt.toNat]? = some c := ⟨_, List.getElem?_eq_getElem (by omega)⟩
                    obtain ⟨hnk, _, _⟩ := hkn _ k9 c9 hk9 hc9
                    have hPc := hP.sub (ws' := [(mo, .inr (13, MF 30 (es v tp2 dn2 tm2))), (ql, .inl (cI, 20100, .inl li2))]) [0, 6] rfl
                    have hDc := hD.sub (ws' := [(mo, .inr (13, MF 30 (es v tp2 dn2 tm2))), (ql, .inl (cI, 20100, .inl li2))]) [0, 6] (by decide) rfl
                    have hKc := hK.sub (tys' := [(cI, .int)]) [0] rfl
                    have hFc := va_free (wc := [(mo, .inr (13, MF 30 (es v tp2 dn2 tm2))), (ql, .inl (cI, 20100, .inl li2))]) hD hS hA [0, 6] rfl
                    refine va_callv (va_runV (As := [.int (nI k9)]) (rest := []) ⟨hx, hb, hml, hown, hts⟩ (c_Mo_choose l dC dI mo H v cI ql tp2 dn2 tm2 (nI k9) li2 (by omega) (by omega) (by omega) h24) (cwV 1 hts (gt_V (own := R_Mo) (C := R_Mo) (i := 357) (y := y_Mo_choose) i_Mo_choose w_1493 w_1495 (gt_sel (y := y_Mo_choose) (n := 30) (by decide +kernel)) w_7) rfl rfl rfl (by decide +kernel) ⟨Nat.le_of_ble_eq_true rfl, Nat.le_of_ble_eq_true rfl⟩) ⟨mp_blind, va_recv hKc hPc (ci := 13) (q0 := 0) rfl rfl, fun U hU hW => ⟨rfl, hU, by rw [hU]; exact hPc, va_K.moved hW.alike hKc, hDc.weaken (fun _ _ _ _ => trivial)⟩⟩ rfl rfl hl.1 rfl (lv_room (Nat.le_of_ble_eq_true rfl)) d_Mo_numbers_352 ⟨Nat.le_of_ble_eq_true rfl, Nat.le_of_ble_eq_true rfl⟩) hS (fun q _ h => hFc q h) hFc (fun ⟨tp1, tm1, li1⟩ t9 H1 locs ht hvm hw hB hz1 hk1 hS => ?_)
                    obtain ⟨hP1, hK1, hD1⟩ := hB
                    rw [ht] at hP1
                    obtain ⟨hP, hD⟩ := va_join (wr := [(Q.qq, .inl (cI, (8 * Q.C), .inl Q.qf)), (Q.qe, .inl (cL, (3 * Q.C), .inr (.inl Q.ef))), (t, .inr (12, MF 13 (tw T))), (T.a4, .inl (cI, T.N, .inl T.ki)), (T.a5, .inl (cI, T.N, .inl T.nx))]) (w1 := [(mo, .inr (13, MF 30 (es v tp1 (dn2 + 1) tm1))), (ql, .inl (cI, 20100, .inl li1))]) hP hD [0, 6] [1, 2, 3, 4, 5] rfl rfl (by decide) (by decide) hk1 hFc hP1 hD1
                    generalize H1 = H at hP hS ⊢
                    have hP : va_P (dC, dI) classes [(Q.qq, .inl (cI, (8 * Q.C), .inl Q.qf)), (Q.qe, .inl (cL, (3 * Q.C), .inr (.inl Q.ef))), (t, .inr (12, MF 13 (tw T))), (T.a4, .inl (cI, T.N, .inl T.ki)), (T.a5, .inl (cI, T.N, .inl T.nx)), (mo, .inr (13, MF 30 (es v tp1 (dn2 + 1) tm1))), (ql, .inl (cI, 20100, .inl li1))] H := hP
                    have hD : va_D A [(Q.qq, .inl (cI, (8 * Q.C), .inl Q.qf)), (Q.qe, .inl (cL, (3 * Q.C), .inr (.inl Q.ef))), (t, .inr (12, MF 13 (tw T))), (T.a4, .inl (cI, T.N, .inl T.ki)), (T.a5, .inl (cI, T.N, .inl T.nx)), (mo, .inr (13, MF 30 (es v tp1 (dn2 + 1) tm1))), (ql, .inl (cI, 20100, .inl li1))] := hD
                    have hP := hP.sub (ws' := [(mo, .inr (13, MF 30 (es v tp1 (dn2 + 1) tm1))), (Q.qq, .inl (cI, (8 * Q.C), .inl Q.qf)), (Q.qe, .inl (cL, (3 * Q.C), .inr (.inl Q.ef))), (t, .inr (12, MF 13 (tw T))), (T.a4, .inl (cI, T.N, .inl T.ki)), (T.a5, .inl (cI, T.N, .inl T.nx)), (ql, .inl (cI, 20100, .inl li1))]) [5, 0, 1, 2, 3, 4, 6] rfl
                    have hD := hD.sub (ws' := [(mo, .inr (13, MF 30 (es v tp1 (dn2 + 1) tm1))), (Q.qq, .inl (cI, (8 * Q.C), .inl Q.qf)), (Q.qe, .inl (cL, (3 * Q.C), .inr (.inl Q.ef))), (t, .inr (12, MF 13 (tw T))), (T.a4, .inl (cI, T.N, .inl T.ki)), (T.a5, .inl (cI, T.N, .inl T.nx)), (ql, .inl (cI, 20100, .inl li1))]) [5, 0, 1, 2, 3, 4, 6] (by decide) rfl
                    have hcw1 := hw
                    obtain ⟨hE1, hc11, hc21, hc31, hc41⟩ := ch_step hE2 ⟨_, hnk.r⟩ hw
                    have hE1 : EI T tp1 (dn2 + 1) tm1 li1 := hE1
                    have hc11 : tp2 ≤ tp1 := hc11
                    have hc31 : ∀ j, j < tp2 → li1 j = li2 j := hc31
                    have hc41 : DB 0 dn2 tm2 (dn2 + 1) tm1 := hc41
                    obtain ⟨he11, he21, he31, he41, he51⟩ := hE1
                    have hE1 : EI T tp1 (dn2 + 1) tm1 li1 := ⟨he11, he21, he31, he41, he51⟩
                    refine lv_lload hx hb d_Mo_numbers_355 (lv_at hl 7 rfl) ?_
                    refine lv_lload hx hb d_Mo_numbers_357 (lv_at hl 4 rfl) ?_
                    refine lv_ladd hx hb d_Mo_numbers_359 ?_
                    refine lv_lstore (lv' := [(14, .long (i + st)), (0, .ref mo), (1, .int (nI x9)), (2, .int (nI nd)), (3, .long nL), (8, .long st), (10, .long f2), (12, .long t2)]) hx hb d_Mo_numbers_360 hl (by decide) rfl (fun ls hl => ?_)
                    refine lv_goto (tgt := 336) hx hb d_Mo_numbers_362 (by decide) ?_
                    have hs9 : dn2 + 1 + (i + st + 1).toInt.toNat ≤ dn + ks.length := by omega
                    obtain ⟨k1, hk1, hstp⟩ := dn_step (st := st.toInt) hilt hkk hc9
                    have hPU2 : PUr T (catR Rd ([c9.2], 1)) tp dn tp1 (dn2 + 1) tm1 li1 := hPUd.tr (fun h0 => ⟨PUr.ch h0 hnk hcw1, hc31⟩) (fun h0 => (hc41.2.2 h0).1)
                    have hRs2 : catR (catR Rd ([c9.2], 1)) (atsR nn (dnL k1 (i + st).toInt t2.toInt st.toInt)) = mq rt nn := by rw [catR_a, hu1, ← hstp]; exact hRest
                    exact ih (i + st, tp1, dn2 + 1, tm1, li1, catR Rd ([c9.2], 1), k1) _ _ _ ⟨hE1, by omega, by omega, fun j hj => (hc31 j (by omega)).trans (hI3 j hj), ⟨hPU2, hRs2, by show (i + st).toInt < (k1 : Int) + t2.toInt; omega⟩, hu2, hs9⟩ (by show (i + st + 1).toInt.toNat < (i + 1).toInt.toNat; omega) hP hD hS (lv_sub hl [1, 2, 3, 4, 5, 6, 7, 0] rfl)
            · refine w_join (D := (dC, dI)) (cl := classes) (A := A) (H0 := s.heap) (nL := 16) 243 (σ := Int64) (fun f2 => 0 ≤ f2.toInt ∧ f2.toInt = if (frF ks.length (if r1 &&& 1 = 0 then none else some (Q.ef (3 * x9))) st) < 0 then 0 else (frF ks.length (if r1 &&& 1 = 0 then none else some (Q.ef (3 * x9))) st)) (fun f2 => 0) (fun f2 => 0) (fun f2 => [(mo, .inr (13, MF 30 (es v tp dn 0))), (Q.qq, .inl (cI, (8 * Q.C), .inl Q.qf)), (Q.qe, .inl (cL, (3 * Q.C), .inr (.inl Q.ef))), (t, .inr (12, MF 13 (tw T))), (T.a4, .inl (cI, T.N, .inl T.ki)), (T.a5, .inl (cI, T.N, .inl T.nx)), (ql, .inl (cI, 20100, .inl li))]) (fun f2 => [(0, .ref mo), (1, .int (nI x9)), (2, .int (nI nd)), (3, .long nL), (8, .long st), (10, .long f2), (12, .long to)]) (fun jn243 => ?_) ?_
              · refine lv_lload hx hb d_Mo_numbers_228 (lv_at hl 5 rfl) ?_
                refine lv_lconst (v := 0) hx hb d_Mo_numbers_230 (by decide) ?_
                refine W.lcmp hx hb d_Mo_numbers_231 ?_
                refine lv_if_ge (tgt := 239) hx hb d_Mo_numbers_232 (by decide) (fun c232 => ?_) (fun c232 => ?_)
                · refine lv_lload hx hb d_Mo_numbers_239 (lv_at hl 5 rfl) ?_
                  refine lv_lstore (lv' := [(10, .long fr), (0, .ref mo), (1, .int (nI x9)), (2, .int (nI nd)), (3, .long nL), (8, .long st), (12, .long to)]) hx hb d_Mo_numbers_241 hl (by decide) rfl (fun ls hl => ?_)
                  exact jn243 fr _ _ _ ⟨Int64.le_iff_toInt_le.mp ((lg_cmp_ge _ _).mp c232), by rw [← hj155, if_neg (by have := Int64.le_iff_toInt_le.mp ((lg_cmp_ge _ _).mp c232); rw [show (0 : Int64).toInt = 0 from rfl] at this; omega)]⟩ hP hD hS (lv_sub hl [1, 2, 3, 4, 5, 0, 6] rfl)
                · refine lv_lconst (v := 0) hx hb d_Mo_numbers_235 (by decide) ?_
                  refine lv_goto (tgt := 241) hx hb d_Mo_numbers_236 (by decide) ?_
                  refine lv_lstore (lv' := [(10, .long 0), (0, .ref mo), (1, .int (nI x9)), (2, .int (nI nd)), (3, .long nL), (8, .long st), (12, .long to)]) hx hb d_Mo_numbers_241 hl (by decide) rfl (fun ls hl => ?_)
                  exact jn243 0 _ _ _ ⟨by decide, by rw [← hj155, if_pos (by have := Int64.lt_iff_toInt_lt.mp (Int64.not_le.mp (fun q => c232 ((lg_cmp_ge _ _).mpr q))); exact this)]; rfl⟩ hP hD hS (lv_sub hl [1, 2, 3, 4, 5, 0, 6] rfl)
              · rintro f2 H locs ls hI243 hP hD hS hl
                have hP : va_P (dC, dI) classes [(mo, .inr (13, MF 30 (es v tp dn 0))), (Q.qq, .inl (cI, (8 * Q.C), .inl Q.qf)), (Q.qe, .inl (cL, (3 * Q.C), .inr (.inl Q.ef))), (t, .inr (12, MF 13 (tw T))), (T.a4, .inl (cI, T.N, .inl T.ki)), (T.a5, .inl (cI, T.N, .inl T.nx)), (ql, .inl (cI, 20100, .inl li))] H := hP
                have hD : va_D A [(mo, .inr (13, MF 30 (es v tp dn 0))), (Q.qq, .inl (cI, (8 * Q.C), .inl Q.qf)), (Q.qe, .inl (cL, (3 * Q.C), .inr (.inl Q.ef))), (t, .inr (12, MF 13 (tw T))), (T.a4, .inl (cI, T.N, .inl T.ki)), (T.a5, .inl (cI, T.N, .inl T.nx)), (ql, .inl (cI, 20100, .inl li))] := hD
                have hl : lv_has ls 16 [(0, .ref mo), (1, .int (nI x9)), (2, .int (nI nd)), (3, .long nL), (8, .long st), (10, .long f2), (12, .long to)] := hl
                have hj243 := hI243
                refine w_join (D := (dC, dI)) (cl := classes) (A := A) (H0 := s.heap) (nL := 16) 258 (σ := Int64) (fun t2 => t2.toInt ≤ (ks.length : Int) ∧ t2.toInt = if (ks.length : Int) < (toF ks.length (if r1 &&& 2 = 0 then none else some (Q.ef (3 * x9 + 1))) st) then (ks.length : Int) else (toF ks.length (if r1 &&& 2 = 0 then none else some (Q.ef (3 * x9 + 1))) st)) (fun t2 => 0) (fun t2 => 0) (fun t2 => [(mo, .inr (13, MF 30 (es v tp dn 0))), (Q.qq, .inl (cI, (8 * Q.C), .inl Q.qf)), (Q.qe, .inl (cL, (3 * Q.C), .inr (.inl Q.ef))), (t, .inr (12, MF 13 (tw T))), (T.a4, .inl (cI, T.N, .inl T.ki)), (T.a5, .inl (cI, T.N, .inl T.nx)), (ql, .inl (cI, 20100, .inl li))]) (fun t2 => [(0, .ref mo), (1, .int (nI x9)), (2, .int (nI nd)), (3, .long nL), (8, .long st), (10, .long f2), (12, .long t2)]) (fun jn258 => ?_) ?_
                · refine lv_lload hx hb d_Mo_numbers_243 (lv_at hl 6 rfl) ?_
                  refine lv_lload_n hx hb d_Mo_numbers_245 rfl (lv_at hl 3 rfl) ?_
                  refine W.lcmp hx hb d_Mo_numbers_246 ?_
                  refine lv_if_le (tgt := 254) hx hb d_Mo_numbers_247 (by decide) (fun c247 => ?_) (fun c247 => ?_)
                  · refine lv_lload hx hb d_Mo_numbers_254 (lv_at hl 6 rfl) ?_
                    refine lv_lstore (lv' := [(12, .long to), (0, .ref mo), (1, .int (nI x9)), (2, .int (nI nd)), (3, .long nL), (8, .long st), (10, .long f2)]) hx hb d_Mo_numbers_256 hl (by decide) rfl (fun ls hl => ?_)
                    exact jn258 to _ _ _ ⟨by have := Int64.le_iff_toInt_le.mp ((lg_cmp_le _ _).mp c247); omega, by rw [← hj221, if_neg (by have := Int64.le_iff_toInt_le.mp ((lg_cmp_le _ _).mp c247); omega)]⟩ hP hD hS (lv_sub hl [1, 2, 3, 4, 5, 6, 0] rfl)
                  · refine lv_lload_n hx hb d_Mo_numbers_250 rfl (lv_at hl 3 rfl) ?_
                    refine lv_goto (tgt := 256) hx hb d_Mo_numbers_251 (by decide) ?_
                    refine lv_lstore (lv' := [(12, .long nL), (0, .ref mo), (1, .int (nI x9)), (2, .int (nI nd)), (3, .long nL), (8, .long st), (10, .long f2)]) hx hb d_Mo_numbers_256 hl (by decide) rfl (fun ls hl => ?_)
                    exact jn258 nL _ _ _ ⟨by omega, by rw [← hj221, if_pos (by have := Int64.lt_iff_toInt_lt.mp ((lg_cmp_gt _ _).mp (Int32.not_le.mp c247)); omega)]; exact hnl⟩ hP hD hS (lv_sub hl [1, 2, 3, 4, 5, 6, 0] rfl)
                · rintro t2 H locs ls hI258 hP hD hS hl
                  have hP : va_P (dC, dI) classes [(mo, .inr (13, MF 30 (es v tp dn 0))), (Q.qq, .inl (cI, (8 * Q.C), .inl Q.qf)), (Q.qe, .inl (cL, (3 * Q.C), .inr (.inl Q.ef))), (t, .inr (12, MF 13 (tw T))), (T.a4, .inl (cI, T.N, .inl T.ki)), (T.a5, .inl (cI, T.N, .inl T.nx)), (ql, .inl (cI, 20100, .inl li))] H := hP
                  have hD : va_D A [(mo, .inr (13, MF 30 (es v tp dn 0))), (Q.qq, .inl (cI, (8 * Q.C), .inl Q.qf)), (Q.qe, .inl (cL, (3 * Q.C), .inr (.inl Q.ef))), (t, .inr (12, MF 13 (tw T))), (T.a4, .inl (cI, T.N, .inl T.ki)), (T.a5, .inl (cI, T.N, .inl T.nx)), (ql, .inl (cI, 20100, .inl li))] := hD
                  have hl : lv_has ls 16 [(0, .ref mo), (1, .int (nI x9)), (2, .int (nI nd)), (3, .long nL), (8, .long st), (10, .long f2), (12, .long t2)] := hl
                  have hj258 := hI258
                  refine lv_lload hx hb d_Mo_numbers_258 (lv_at hl 5 rfl) ?_
                  refine lv_lstore (lv' := [(14, .long f2), (0, .ref mo), (1, .int (nI x9)), (2, .int (nI nd)), (3, .long nL), (8, .long st), (10, .long f2), (12, .long t2)]) hx hb d_Mo_numbers_260 hl (by decide) rfl (fun ls hl => ?_)
                  have hs1 : 0 < st.toInt := by have := Int64.lt_iff_toInt_lt.mp ((lg_cmp_gt _ _).mp (Int32.not_le.mp c225)); exact this
                  have hs2 : st.toInt ≤ 9007199254740991 := by have hg := hj105.1; unfold gL at hg; omega
                  have hR9 : mq rt nn = atsR nn (upLs (ks.length + 1) f2.toInt t2.toInt st.toInt) := by rw [hm4]; exact slcS_u hk5 hs1 hkq hj243.2 hj258.2
                  refine w_loop (D := (dC, dI)) (cl := classes) (A := A) (H0 := s.heap) (nL := 16) 262 (σ := Int64 × Nat × Nat × Int32 × (Nat → Int32) × (List NT × Nat) × Nat) (fun ⟨i, tp2, dn2, tm2, li2, Rd, kk⟩ => EI T tp2 dn2 tm2 li2 ∧ dn ≤ dn2 ∧ tp ≤ tp2 ∧ (∀ j, j < tp → li2 j = li j) ∧ (PUr T Rd tp dn tp2 dn2 tm2 li2 ∧ catR Rd (atsR nn (upLs kk i.toInt t2.toInt st.toInt)) = mq rt nn ∧ t2.toInt < (kk : Int) + i.toInt) ∧ 0 ≤ i.toInt ∧ dn2 + (ks.length - i.toInt.toNat) ≤ dn + ks.length) (fun ⟨i, tp2, dn2, tm2, li2, Rd, kk⟩ => ks.length - i.toInt.toNat) (fun ⟨i, tp2, dn2, tm2, li2, Rd, kk⟩ => [(mo, .inr (13, MF 30 (es v tp2 dn2 tm2))), (Q.qq, .inl (cI, (8 * Q.C), .inl Q.qf)), (Q.qe, .inl (cL, (3 * Q.C), .inr (.inl Q.ef))), (t, .inr (12, MF 13 (tw T))), (T.a4, .inl (cI, T.N, .inl T.ki)), (T.a5, .inl (cI, T.N, .inl T.nx)), (ql, .inl (cI, 20100, .inl li2))]) (fun ⟨i, tp2, dn2, tm2, li2, Rd, kk⟩ => [(0, .ref mo), (1, .int (nI x9)), (2, .int (nI nd)), (3, .long nL), (8, .long st), (10, .long f2), (12, .long t2), (14, .long i)]) ?_ (f2, tp, dn, 0, li, ([], 0), ks.length + 1) ⟨hE, Nat.le_refl _, Nat.le_refl _, fun _ _ => rfl, ⟨hPU0, by rw [catR_l, hR9], by have h1 := hj243.1; have h2 := hj258.1; show t2.toInt < ((ks.length + 1 : Nat) : Int) + f2.toInt; omega⟩, hj243.1, by show dn + (ks.length - f2.toInt.toNat) ≤ dn + ks.length; omega⟩ hP hD hS (lv_sub hl [1, 2, 3, 4, 5, 6, 7, 0] rfl)
                  rintro ⟨i, tp2, dn2, tm2, li2, Rd, kk⟩ H locs ls hI ih hP hD hS hl
                  have hP : va_P (dC, dI) classes [(mo, .inr (13, MF 30 (es v tp2 dn2 tm2))), (Q.qq, .inl (cI, (8 * Q.C), .inl Q.qf)), (Q.qe, .inl (cL, (3 * Q.C), .inr (.inl Q.ef))), (t, .inr (12, MF 13 (tw T))), (T.a4, .inl (cI, T.N, .inl T.ki)), (T.a5, .inl (cI, T.N, .inl T.nx)), (ql, .inl (cI, 20100, .inl li2))] H := hP
                  have hD : va_D A [(mo, .inr (13, MF 30 (es v tp2 dn2 tm2))), (Q.qq, .inl (cI, (8 * Q.C), .inl Q.qf)), (Q.qe, .inl (cL, (3 * Q.C), .inr (.inl Q.ef))), (t, .inr (12, MF 13 (tw T))), (T.a4, .inl (cI, T.N, .inl T.ki)), (T.a5, .inl (cI, T.N, .inl T.nx)), (ql, .inl (cI, 20100, .inl li2))] := hD
                  have hl : lv_has ls 16 [(0, .ref mo), (1, .int (nI x9)), (2, .int (nI nd)), (3, .long nL), (8, .long st), (10, .long f2), (12, .long t2), (14, .long i)] := hl
                  obtain ⟨hE2, hI1, hI2, hI3, ⟨hPUd, hRest, hkk⟩, hI4, hI5⟩ := hI
                  obtain ⟨he12, he22, he32, he42, he52⟩ := hE2
                  have hE2 : EI T tp2 dn2 tm2 li2 := ⟨he12, he22, he32, he42, he52⟩
                  refine lv_lload hx hb d_Mo_numbers_262 (lv_at hl 7 rfl) ?_
                  refine lv_lload hx hb d_Mo_numbers_264 (lv_at hl 6 rfl) ?_
                  refine W.lcmp hx hb d_Mo_numbers_266 ?_
                  refine lv_if_ge (tgt := 291) hx hb d_Mo_numbers_267 (by decide) (fun c267 => ?_) (fun c267 => ?_)
                  · refine lv_goto (tgt := 365) hx hb d_Mo_numbers_291 (by decide) ?_
                    have hmF : mq rt nn = Rd := by rw [← hRest, upL_nil (by have := Int64.le_iff_toInt_le.mp ((lg_cmp_ge _ _).mp c267); omega), atsR_0, catR_0]
                    exact W.vret hx hb hr (fun t9 ht hW => ⟨⟨(tp2, dn2, tm2, li2), rfl, ⟨hE2, hI2, hI3, ⟨hI1, fun _ => ⟨by show dn2 ≤ 10001 + 4096; omega, he42⟩, fun e => absurd rfl e⟩, by rw [hmF]; exact hPUd⟩, by rw [ht]; exact hP, va_K.moved hW.alike hK, hD⟩, hS.F ht⟩) hS.2.2 d_Mo_numbers_365
                  · refine lv_aload_n hx hb d_Mo_numbers_270 rfl (lv_at hl 0 rfl) ?_
                    refine lv_aload_n hx hb d_Mo_numbers_271 rfl (lv_at hl 0 rfl) ?_
                    refine lv_iload_n hx hb d_Mo_numbers_272 rfl (lv_at hl 2 rfl) ?_
                    refine lv_lload hx hb d_Mo_numbers_273 (lv_at hl 7 rfl) ?_
                    have hilt : i.toInt < t2.toInt := Int64.lt_iff_toInt_lt.mp ((lg_cmp_lt _ _).mp (Int32.not_le.mp c267))
                    obtain ⟨hu1, hu2, hu3, hu4, hu5⟩ := up64 hI4 hj258.1 (by omega) hs1 hs2 ((lg_cmp_lt _ _).mp (Int32.not_le.mp c267))
                    refine W.eq (g2 := F0 m 275 ls [.long (Int64.ofNat i.toInt.toNat), .int (nI nd), .ref mo, .ref mo]) (by rw [← hu5]) ?_
                    have hPc := hP.sub (ws' := [(mo, .inr (13, MF 30 (es v tp2 dn2 tm2))), (t, .inr (12, MF 13 (tw T))), (T.a4, .inl (cI, T.N, .inl T.ki)), (T.a5, .inl (cI, T.N, .inl T.nx))]) [0, 3, 4, 5] rfl
                    have hDc := hD.sub (ws' := [(mo, .inr (13, MF 30 (es v tp2 dn2 tm2))), (t, .inr (12, MF 13 (tw T))), (T.a4, .inl (cI, T.N, .inl T.ki)), (T.a5, .inl (cI, T.N, .inl T.nx))]) [0, 3, 4, 5] (by decide) rfl
                    have hKc := hK.sub (tys' := [(cI, .int)]) [0] rfl
                    have hFc := va_free (wc := [(mo, .inr (13, MF 30 (es v tp2 dn2 tm2))), (t, .inr (12, MF 13 (tw T))), (T.a4, .inl (cI, T.N, .inl T.ki)), (T.a5, .inl (cI, T.N, .inl T.nx))]) hD hS hA [0, 3, 4, 5] rfl
                    refine va_calli (va_runV (As := [.int (nI nd), .long (Int64.ofNat i.toInt.toNat)]) (rest := [.ref mo]) ⟨hx, hb, hml, hown, hts⟩ (c_Mo_kidAt l dC dI mo H (es v tp2 dn2 tm2) cI t T nd i.toInt.toNat ks hT (by omega) (by omega) hch ((es_ne (by decide) (by decide) (by decide)).trans h18)) (cwV 2 hts (gt_V (own := R_Mo) (C := R_Mo) (i := 372) (y := y_Mo_kidAt) i_Mo_kidAt w_1517 w_1519 (gt_sel (y := y_Mo_kidAt) (n := 30) (by decide +kernel)) w_7) rfl rfl rfl (by decide +kernel) ⟨Nat.le_of_ble_eq_true rfl, Nat.le_of_ble_eq_true rfl⟩) ⟨mp_blind, va_recv hKc hPc (ci := 13) (q0 := 0) rfl rfl, fun U hU hW => ⟨rfl, hU, by rw [hU]; exact hPc, va_K.moved hW.alike hKc, hDc.weaken (fun _ _ _ _ => trivial)⟩⟩ rfl rfl hl.1 rfl (lv_room (Nat.le_of_ble_eq_true rfl)) d_Mo_numbers_275 ⟨Nat.le_of_ble_eq_true rfl, Nat.le_of_ble_eq_true rfl⟩) hS (fun q _ h => hFc q h) hFc (fun r8 _u t9 H1 locs ht hvm hw hB hz1 hk1 hS => ?_)
                    obtain ⟨hP1, hK1, hD1⟩ := hB
                    rw [ht] at hP1
                    obtain ⟨hP, hD⟩ := va_join (wr := [(Q.qq, .inl (cI, (8 * Q.C), .inl Q.qf)), (Q.qe, .inl (cL, (3 * Q.C), .inr (.inl Q.ef))), (ql, .inl (cI, 20100, .inl li2))]) (w1 := [(mo, .inr (13, MF 30 (es v tp2 dn2 tm2))), (t, .inr (12, MF 13 (tw T))), (T.a4, .inl (cI, T.N, .inl T.ki)), (T.a5, .inl (cI, T.N, .inl T.nx))]) hP hD [0, 3, 4, 5] [1, 2, 6] rfl rfl (by decide) (by decide) hk1 hFc hP1 hD1
                    generalize H1 = H at hP hS ⊢
                    have hP : va_P (dC, dI) classes [(Q.qq, .inl (cI, (8 * Q.C), .inl Q.qf)), (Q.qe, .inl (cL, (3 * Q.C), .inr (.inl Q.ef))), (ql, .inl (cI, 20100, .inl li2)), (mo, .inr (13, MF 30 (es v tp2 dn2 tm2))), (t, .inr (12, MF 13 (tw T))), (T.a4, .inl (cI, T.N, .inl T.ki)), (T.a5, .inl (cI, T.N, .inl T.nx))] H := hP
                    have hD : va_D A [(Q.qq, .inl (cI, (8 * Q.C), .inl Q.qf)), (Q.qe, .inl (cL, (3 * Q.C), .inr (.inl Q.ef))), (ql, .inl (cI, 20100, .inl li2)), (mo, .inr (13, MF 30 (es v tp2 dn2 tm2))), (t, .inr (12, MF 13 (tw T))), (T.a4, .inl (cI, T.N, .inl T.ki)), (T.a5, .inl (cI, T.N, .inl T.nx))] := hD
                    have hP := hP.sub (ws' := [(mo, .inr (13, MF 30 (es v tp2 dn2 tm2))), (Q.qq, .inl (cI, (8 * Q.C), .inl Q.qf)), (Q.qe, .inl (cL, (3 * Q.C), .inr (.inl Q.ef))), (t, .inr (12, MF 13 (tw T))), (T.a4, .inl (cI, T.N, .inl T.ki)), (T.a5, .inl (cI, T.N, .inl T.nx)), (ql, .inl (cI, 20100, .inl li2))]) [3, 0, 1, 4, 5, 6, 2] rfl
                    have hD := hD.sub (ws' := [(mo, .inr (13, MF 30 (es v tp2 dn2 tm2))), (Q.qq, .inl (cI, (8 * Q.C), .inl Q.qf)), (Q.qe, .inl (cL, (3 * Q.C), .inr (.inl Q.ef))), (t, .inr (12, MF 13 (tw T))), (T.a4, .inl (cI, T.N, .inl T.ki)), (T.a5, .inl (cI, T.N, .inl T.nx)), (ql, .inl (cI, 20100, .inl li2))]) [3, 0, 1, 4, 5, 6, 2] (by decide) rfl
                    obtain ⟨k9, hk9, hr8⟩ : ∃ k9, ks[i.toInt.toNat]? = some k9 ∧ r8 = nI k9 := ⟨ks[i.toInt.toNat]'hu4, List.getElem?_eq_getElem hu4, by have hw : r8 = kidV ks i.toInt.toNat := hw; rw [hw]; unfold kidV; rw [List.getElem?_eq_getElem hu4]⟩
                    subst hr8
                    obtain ⟨c9, hc9⟩ : ∃ c, (kdsN nn)[i.toInt.toNat]? = some c := ⟨_, List.getElem?_eq_getElem (by omega)⟩
                    obtain ⟨hnk, _, _⟩ := hkn _ k9 c9 hk9 hc9
                    have hPc := hP.sub (ws' := [(mo, .inr (13, MF 30 (es v tp2 dn2 tm2))), (ql, .inl (cI, 20100, .inl li2))]) [0, 6] rfl
                    have hDc := hD.sub (ws' := [(mo, .inr (13, MF 30 (es v tp2 dn2 tm2))), (ql, .inl (cI, 20100, .inl li2))]) [0, 6] (by decide) rfl
                    have hKc := hK.sub (tys' := [(cI, .int)]) [0] rfl
                    have hFc := va_free (wc := [(mo, .inr (13, MF 30 (es v tp2 dn2 tm2))), (ql, .inl (cI, 20100, .inl li2))]) hD hS hA [0, 6] rfl
                    refine va_callv (va_runV (As := [.int (nI k9)]) (rest := []) ⟨hx, hb, hml, hown, hts⟩ (c_Mo_choose l dC dI mo H v cI ql tp2 dn2 tm2 (nI k9) li2 (by omega) (by omega) (by omega) h24) (cwV 1 hts (gt_V (own := R_Mo) (C := R_Mo) (i := 357) (y := y_Mo_choose) i_Mo_choose w_1493 w_1495 (gt_sel (y := y_Mo_choose) (n := 30) (by decide +kernel)) w_7) rfl rfl rfl (by decide +kernel) ⟨Nat.le_of_ble_eq_true rfl, Nat.le_of_ble_eq_true rfl⟩) ⟨mp_blind, va_recv hKc hPc (ci := 13) (q0 := 0) rfl rfl, fun U hU hW => ⟨rfl, hU, by rw [hU]; exact hPc, va_K.moved hW.alike hKc, hDc.weaken (fun _ _ _ _ => trivial)⟩⟩ rfl rfl hl.1 rfl (lv_room (Nat.le_of_ble_eq_true rfl)) d_Mo_numbers_278 ⟨Nat.le_of_ble_eq_true rfl, Nat.le_of_ble_eq_true rfl⟩) hS (fun q _ h => hFc q h) hFc (fun ⟨tp1, tm1, li1⟩ t9 H1 locs ht hvm hw hB hz1 hk1 hS => ?_)
                    obtain ⟨hP1, hK1, hD1⟩ := hB
                    rw [ht] at hP1
                    obtain ⟨hP, hD⟩ := va_join (wr := [(Q.qq, .inl (cI, (8 * Q.C), .inl Q.qf)), (Q.qe, .inl (cL, (3 * Q.C), .inr (.inl Q.ef))), (t, .inr (12, MF 13 (tw T))), (T.a4, .inl (cI, T.N, .inl T.ki)), (T.a5, .inl (cI, T.N, .inl T.nx))]) (w1 := [(mo, .inr (13, MF 30 (es v tp1 (dn2 + 1) tm1))), (ql, .inl (cI, 20100, .inl li1))]) hP hD [0, 6] [1, 2, 3, 4, 5] rfl rfl (by decide) (by decide) hk1 hFc hP1 hD1
                    generalize H1 = H at hP hS ⊢
                    have hP : va_P (dC, dI) classes [(Q.qq, .inl (cI, (8 * Q.C), .inl Q.qf)), (Q.qe, .inl (cL, (3 * Q.C), .inr (.inl Q.ef))), (t, .inr (12, MF 13 (tw T))), (T.a4, .inl (cI, T.N, .inl T.ki)), (T.a5, .inl (cI, T.N, .inl T.nx)), (mo, .inr (13, MF 30 (es v tp1 (dn2 + 1) tm1))), (ql, .inl (cI, 20100, .inl li1))] H := hP
                    have hD : va_D A [(Q.qq, .inl (cI, (8 * Q.C), .inl Q.qf)), (Q.qe, .inl (cL, (3 * Q.C), .inr (.inl Q.ef))), (t, .inr (12, MF 13 (tw T))), (T.a4, .inl (cI, T.N, .inl T.ki)), (T.a5, .inl (cI, T.N, .inl T.nx)), (mo, .inr (13, MF 30 (es v tp1 (dn2 + 1) tm1))), (ql, .inl (cI, 20100, .inl li1))] := hD
                    have hP := hP.sub (ws' := [(mo, .inr (13, MF 30 (es v tp1 (dn2 + 1) tm1))), (Q.qq, .inl (cI, (8 * Q.C), .inl Q.qf)), (Q.qe, .inl (cL, (3 * Q.C), .inr (.inl Q.ef))), (t, .inr (12, MF 13 (tw T))), (T.a4, .inl (cI, T.N, .inl T.ki)), (T.a5, .inl (cI, T.N, .inl T.nx)), (ql, .inl (cI, 20100, .inl li1))]) [5, 0, 1, 2, 3, 4, 6] rfl
                    have hD := hD.sub (ws' := [(mo, .inr (13, MF 30 (es v tp1 (dn2 + 1) tm1))), (Q.qq, .inl (cI, (8 * Q.C), .inl Q.qf)), (Q.qe, .inl (cL, (3 * Q.C), .inr (.inl Q.ef))), (t, .inr (12, MF 13 (tw T))), (T.a4, .inl (cI, T.N, .inl T.ki)), (T.a5, .inl (cI, T.N, .inl T.nx)), (ql, .inl (cI, 20100, .inl li1))]) [5, 0, 1, 2, 3, 4, 6] (by decide) rfl
                    have hcw1 := hw
                    obtain ⟨hE1, hc11, hc21, hc31, hc41⟩ := ch_step hE2 ⟨_, hnk.r⟩ hw
                    have hE1 : EI T tp1 (dn2 + 1) tm1 li1 := hE1
                    have hc11 : tp2 ≤ tp1 := hc11
                    have hc31 : ∀ j, j < tp2 → li1 j = li2 j := hc31
                    have hc41 : DB 0 dn2 tm2 (dn2 + 1) tm1 := hc41
                    obtain ⟨he11, he21, he31, he41, he51⟩ := hE1
                    have hE1 : EI T tp1 (dn2 + 1) tm1 li1 := ⟨he11, he21, he31, he41, he51⟩
                    refine lv_lload hx hb d_Mo_numbers_281 (lv_at hl 7 rfl) ?_
                    refine lv_lload hx hb d_Mo_numbers_283 (lv_at hl 4 rfl) ?_
                    refine lv_ladd hx hb d_Mo_numbers_285 ?_
                    refine lv_lstore (lv' := [(14, .long (i + st)), (0, .ref mo), (1, .int (nI x9)), (2, .int (nI nd)), (3, .long nL), (8, .long st), (10, .long f2), (12, .long t2)]) hx hb d_Mo_numbers_286 hl (by decide) rfl (fun ls hl => ?_)
                    refine lv_goto (tgt := 262) hx hb d_Mo_numbers_288 (by decide) ?_
                    have hs9 : dn2 + 1 + (ks.length - (i + st).toInt.toNat) ≤ dn + ks.length := by omega
                    obtain ⟨k1, hk1, hstp⟩ := up_step (st := st.toInt) hilt hkk hc9
                    have hPU2 : PUr T (catR Rd ([c9.2], 1)) tp dn tp1 (dn2 + 1) tm1 li1 := hPUd.tr (fun h0 => ⟨PUr.ch h0 hnk hcw1, hc31⟩) (fun h0 => (hc41.2.2 h0).1)
                    have hRs2 : catR (catR Rd ([c9.2], 1)) (atsR nn (upLs k1 (i + st).toInt t2.toInt st.toInt)) = mq rt nn := by rw [catR_a, hu1, ← hstp]; exact hRest
                    exact ih (i + st, tp1, dn2 + 1, tm1, li1, catR Rd ([c9.2], 1), k1) _ _ _ ⟨hE1, by omega, by omega, fun j hj => (hc31 j (by omega)).trans (hI3 j hj), ⟨hPU2, hRs2, by show t2.toInt < (k1 : Int) + (i + st).toInt; omega⟩, hu2, hs9⟩ (by show ks.length - (i + st).toInt.toNat < ks.length - i.toInt.toNat; omega) hP hD hS (lv_sub hl [1, 2, 3, 4, 5, 6, 7, 0] rfl)
      · have hz0 : lg_cmp st 0 = 0 := by first | exact c109 | exact Classical.not_not.mp c109
        have hm0 : mq rt nn = ([], 0) := by rw [hm4]; exact slcS_no (Or.inr (by have h1 := (lg_cmp_eq _ _).mp hz0; rw [h1]; rfl))
        exact W.vret hx hb hr (fun t9 ht hW => ⟨⟨(tp, dn, 0, li), rfl, ⟨hE, Nat.le_refl _, fun _ _ => rfl, DB.rf (fun _ => he6), by rw [hm0]; exact hPU0⟩, by rw [ht]; exact hP, va_K.moved hW.alike hK, hD⟩, hS.F ht⟩) hS.2.2 d_Mo_numbers_112
  · have hm3 : mq = idxS (Q.ef (3 * x9)) := hm.elim (fun h => h.2) (fun h => absurd ((c35.symm.trans h_r2).trans h.1) (by decide))
    refine w_join (D := (dC, dI)) (cl := classes) (A := A) (H0 := s.heap) (nL := 16) 56 (σ := Int64) (fun i9 => i9.toInt = frontI ks.length (Q.ef (3 * x9))) (fun i9 => 0) (fun i9 => 0) (fun i9 => [(mo, .inr (13, MF 30 (es v tp dn 0))), (Q.qq, .inl (cI, (8 * Q.C), .inl Q.qf)), (Q.qe, .inl (cL, (3 * Q.C), .inr (.inl Q.ef))), (t, .inr (12, MF 13 (tw T))), (T.a4, .inl (cI, T.N, .inl T.ki)), (T.a5, .inl (cI, T.N, .inl T.nx)), (ql, .inl (cI, 20100, .inl li))]) (fun i9 => [(0, .ref mo), (1, .int (nI x9)), (2, .int (nI nd)), (3, .long nL), (8, .long i9)]) (fun jn56 => ?_) ?_
    · refine lv_lload hx hb d_Mo_numbers_38 (lv_at hl 0 rfl) ?_
      refine lv_lconst (v := 0) hx hb d_Mo_numbers_40 (by decide) ?_
      refine W.lcmp hx hb d_Mo_numbers_41 ?_
      refine lv_if_ge (tgt := 52) hx hb d_Mo_numbers_42 (by decide) (fun c42 => ?_) (fun c42 => ?_)
      · refine lv_lload hx hb d_Mo_numbers_52 (lv_at hl 0 rfl) ?_
        refine lv_lstore (lv' := [(8, .long (Q.ef (3 * x9))), (6, .long (Q.ef (3 * x9))), (5, .int r1), (3, .long nL), (0, .ref mo), (1, .int (nI x9)), (2, .int (nI nd))]) hx hb d_Mo_numbers_54 hl (by decide) rfl (fun ls hl => ?_)
        exact jn56 ((Q.ef (3 * x9))) _ _ _ (fr_ge c42) hP hD hS (lv_sub hl [4, 5, 6, 3, 0] rfl)
      · refine lv_lload_n hx hb d_Mo_numbers_45 rfl (lv_at hl 2 rfl) ?_
        refine lv_lload hx hb d_Mo_numbers_46 (lv_at hl 0 rfl) ?_
        refine lv_ladd hx hb d_Mo_numbers_48 ?_
        refine lv_goto (tgt := 54) hx hb d_Mo_numbers_49 (by decide) ?_
        refine lv_lstore (lv' := [(8, .long (nL + (Q.ef (3 * x9)))), (6, .long (Q.ef (3 * x9))), (5, .int r1), (3, .long nL), (0, .ref mo), (1, .int (nI x9)), (2, .int (nI nd))]) hx hb d_Mo_numbers_54 hl (by decide) rfl (fun ls hl => ?_)
        exact jn56 ((nL + (Q.ef (3 * x9)))) _ _ _ (fr_lt hnl (by omega) (hq4 _) c42) hP hD hS (lv_sub hl [4, 5, 6, 3, 0] rfl)
    · rintro i9 H locs ls hI56 hP hD hS hl
      have hP : va_P (dC, dI) classes [(mo, .inr (13, MF 30 (es v tp dn 0))), (Q.qq, .inl (cI, (8 * Q.C), .inl Q.qf)), (Q.qe, .inl (cL, (3 * Q.C), .inr (.inl Q.ef))), (t, .inr (12, MF 13 (tw T))), (T.a4, .inl (cI, T.N, .inl T.ki)), (T.a5, .inl (cI, T.N, .inl T.nx)), (ql, .inl (cI, 20100, .inl li))] H := hP
      have hD : va_D A [(mo, .inr (13, MF 30 (es v tp dn 0))), (Q.qq, .inl (cI, (8 * Q.C), .inl Q.qf)), (Q.qe, .inl (cL, (3 * Q.C), .inr (.inl Q.ef))), (t, .inr (12, MF 13 (tw T))), (T.a4, .inl (cI, T.N, .inl T.ki)), (T.a5, .inl (cI, T.N, .inl T.nx)), (ql, .inl (cI, 20100, .inl li))] := hD
      have hl : lv_has ls 16 [(0, .ref mo), (1, .int (nI x9)), (2, .int (nI nd)), (3, .long nL), (8, .long i9)] := hl
      have hj56 := hI56
      refine lv_lload hx hb d_Mo_numbers_56 (lv_at hl 4 rfl) ?_
      refine lv_lconst (v := 0) hx hb d_Mo_numbers_58 (by decide) ?_
      refine W.lcmp hx hb d_Mo_numbers_59 ?_
      refine lv_if_lt (tgt := 81) hx hb d_Mo_numbers_60 (by decide) (fun c60 => ?_) (fun c60 => ?_)
      · have hm0 : mq rt nn = ([], 0) := by rw [hm3]; exact idxS_0 (Or.inr (Or.inl (by rw [← hkq, ← hj56]; exact Int64.lt_iff_toInt_lt.mp ((lg_cmp_lt _ _).mp c60))))
        exact W.vret hx hb hr (fun t9 ht hW => ⟨⟨(tp, dn, 0, li), rfl, ⟨hE, Nat.le_refl _, fun _ _ => rfl, DB.rf (fun _ => he6), by rw [hm0]; exact hPU0⟩, by rw [ht]; exact hP, va_K.moved hW.alike hK, hD⟩, hS.F ht⟩) hS.2.2 d_Mo_numbers_81
      · refine lv_lload hx hb d_Mo_numbers_63 (lv_at hl 4 rfl) ?_
        refine lv_lload_n hx hb d_Mo_numbers_65 rfl (lv_at hl 3 rfl) ?_
        refine W.lcmp hx hb d_Mo_numbers_66 ?_
        refine lv_if_ge (tgt := 81) hx hb d_Mo_numbers_67 (by decide) (fun c67 => ?_) (fun c67 => ?_)
        · have hm0 : mq rt nn = ([], 0) := by rw [hm3]; exact idxS_0 (Or.inr (Or.inr (by rw [← hkq, ← hj56]; have := Int64.le_iff_toInt_le.mp ((lg_cmp_ge _ _).mp c67); omega)))
          exact W.vret hx hb hr (fun t9 ht hW => ⟨⟨(tp, dn, 0, li), rfl, ⟨hE, Nat.le_refl _, fun _ _ => rfl, DB.rf (fun _ => he6), by rw [hm0]; exact hPU0⟩, by rw [ht]; exact hP, va_K.moved hW.alike hK, hD⟩, hS.F ht⟩) hS.2.2 d_Mo_numbers_81
        · refine lv_aload_n hx hb d_Mo_numbers_70 rfl (lv_at hl 0 rfl) ?_
          refine lv_aload_n hx hb d_Mo_numbers_71 rfl (lv_at hl 0 rfl) ?_
          refine lv_iload_n hx hb d_Mo_numbers_72 rfl (lv_at hl 2 rfl) ?_
          refine lv_lload hx hb d_Mo_numbers_73 (lv_at hl 4 rfl) ?_
          have hi1 : 0 ≤ i9.toInt := Int64.le_iff_toInt_le.mp ((lg_cmp_ge _ _).mp (Int32.not_lt.mp c60))
          have hi2 : i9.toInt < nL.toInt := Int64.lt_iff_toInt_lt.mp ((lg_cmp_lt _ _).mp (Int32.not_le.mp c67))
          have hi3 : i9.toInt.toNat < ks.length := by omega
          have hi4 := i64_nat hi1 (by omega)
          refine W.eq (g2 := F0 m 75 ls [.long (Int64.ofNat i9.toInt.toNat), .int (nI nd), .ref mo, .ref mo]) (by rw [← hi4]) ?_
          have hPc := hP.sub (ws' := [(mo, .inr (13, MF 30 (es v tp dn 0))), (t, .inr (12, MF 13 (tw T))), (T.a4, .inl (cI, T.N, .inl T.ki)), (T.a5, .inl (cI, T.N, .inl T.nx))]) [0, 3, 4, 5] rfl
          have hDc := hD.sub (ws' := [(mo, .inr (13, MF 30 (es v tp dn 0))), (t, .inr (12, MF 13 (tw T))), (T.a4, .inl (cI, T.N, .inl T.ki)), (T.a5, .inl (cI, T.N, .inl T.nx))]) [0, 3, 4, 5] (by decide) rfl
          have hKc := hK.sub (tys' := [(cI, .int)]) [0] rfl
          have hFc := va_free (wc := [(mo, .inr (13, MF 30 (es v tp dn 0))), (t, .inr (12, MF 13 (tw T))), (T.a4, .inl (cI, T.N, .inl T.ki)), (T.a5, .inl (cI, T.N, .inl T.nx))]) hD hS hA [0, 3, 4, 5] rfl
          refine va_calli (va_runV (As := [.int (nI nd), .long (Int64.ofNat i9.toInt.toNat)]) (rest := [.ref mo]) ⟨hx, hb, hml, hown, hts⟩ (c_Mo_kidAt l dC dI mo H (es v tp dn 0) cI t T nd i9.toInt.toNat ks hT (by omega) (by omega) hch ((es_ne (by decide) (by decide) (by decide)).trans h18)) (cwV 2 hts (gt_V (own := R_Mo) (C := R_Mo) (i := 372) (y := y_Mo_kidAt) i_Mo_kidAt w_1517 w_1519 (gt_sel (y := y_Mo_kidAt) (n := 30) (by decide +kernel)) w_7) rfl rfl rfl (by decide +kernel) ⟨Nat.le_of_ble_eq_true rfl, Nat.le_of_ble_eq_true rfl⟩) ⟨mp_blind, va_recv hKc hPc (ci := 13) (q0 := 0) rfl rfl, fun U hU hW => ⟨rfl, hU, by rw [hU]; exact hPc, va_K.moved hW.alike hKc, hDc.weaken (fun _ _ _ _ => trivial)⟩⟩ rfl rfl hl.1 rfl (lv_room (Nat.le_of_ble_eq_true rfl)) d_Mo_numbers_75 ⟨Nat.le_of_ble_eq_true rfl, Nat.le_of_ble_eq_true rfl⟩) hS (fun q _ h => hFc q h) hFc (fun r8 _u t9 H1 locs ht hvm hw hB hz1 hk1 hS => ?_)
          obtain ⟨hP1, hK1, hD1⟩ := hB
          rw [ht] at hP1
          obtain ⟨hP, hD⟩ := va_join (wr := [(Q.qq, .inl (cI, (8 * Q.C), .inl Q.qf)), (Q.qe, .inl (cL, (3 * Q.C), .inr (.inl Q.ef))), (ql, .inl (cI, 20100, .inl li))]) (w1 := [(mo, .inr (13, MF 30 (es v tp dn 0))), (t, .inr (12, MF 13 (tw T))), (T.a4, .inl (cI, T.N, .inl T.ki)), (T.a5, .inl (cI, T.N, .inl T.nx))]) hP hD [0, 3, 4, 5] [1, 2, 6] rfl rfl (by decide) (by decide) hk1 hFc hP1 hD1
          generalize H1 = H at hP hS ⊢
          have hP : va_P (dC, dI) classes [(Q.qq, .inl (cI, (8 * Q.C), .inl Q.qf)), (Q.qe, .inl (cL, (3 * Q.C), .inr (.inl Q.ef))), (ql, .inl (cI, 20100, .inl li)), (mo, .inr (13, MF 30 (es v tp dn 0))), (t, .inr (12, MF 13 (tw T))), (T.a4, .inl (cI, T.N, .inl T.ki)), (T.a5, .inl (cI, T.N, .inl T.nx))] H := hP
          have hD : va_D A [(Q.qq, .inl (cI, (8 * Q.C), .inl Q.qf)), (Q.qe, .inl (cL, (3 * Q.C), .inr (.inl Q.ef))), (ql, .inl (cI, 20100, .inl li)), (mo, .inr (13, MF 30 (es v tp dn 0))), (t, .inr (12, MF 13 (tw T))), (T.a4, .inl (cI, T.N, .inl T.ki)), (T.a5, .inl (cI, T.N, .inl T.nx))] := hD
          have hP := hP.sub (ws' := [(mo, .inr (13, MF 30 (es v tp dn 0))), (Q.qq, .inl (cI, (8 * Q.C), .inl Q.qf)), (Q.qe, .inl (cL, (3 * Q.C), .inr (.inl Q.ef))), (t, .inr (12, MF 13 (tw T))), (T.a4, .inl (cI, T.N, .inl T.ki)), (T.a5, .inl (cI, T.N, .inl T.nx)), (ql, .inl (cI, 20100, .inl li))]) [3, 0, 1, 4, 5, 6, 2] rfl
          have hD := hD.sub (ws' := [(mo, .inr (13, MF 30 (es v tp dn 0))), (Q.qq, .inl (cI, (8 * Q.C), .inl Q.qf)), (Q.qe, .inl (cL, (3 * Q.C), .inr (.inl Q.ef))), (t, .inr (12, MF 13 (tw T))), (T.a4, .inl (cI, T.N, .inl T.ki)), (T.a5, .inl (cI, T.N, .inl T.nx)), (ql, .inl (cI, 20100, .inl li))]) [3, 0, 1, 4, 5, 6, 2] (by decide) rfl
          obtain ⟨k9, hk9, hr8⟩ : ∃ k9, ks[i9.toInt.toNat]? = some k9 ∧ r8 = nI k9 := ⟨ks[i9.toInt.toNat]'hi3, List.getElem?_eq_getElem hi3, by have hw : r8 = kidV ks i9.toInt.toNat := hw; rw [hw]; unfold kidV; rw [List.getElem?_eq_getElem hi3]⟩
          subst hr8
          obtain ⟨c9, hc9⟩ : ∃ c, (kdsN nn)[i9.toInt.toNat]? = some c := ⟨_, List.getElem?_eq_getElem (by omega)⟩
          obtain ⟨hnk, _, _⟩ := hkn _ k9 c9 hk9 hc9
          have hPc := hP.sub (ws' := [(mo, .inr (13, MF 30 (es v tp dn 0))), (ql, .inl (cI, 20100, .inl li))]) [0, 6] rfl
          have hDc := hD.sub (ws' := [(mo, .inr (13, MF 30 (es v tp dn 0))), (ql, .inl (cI, 20100, .inl li))]) [0, 6] (by decide) rfl
          have hKc := hK.sub (tys' := [(cI, .int)]) [0] rfl
          have hFc := va_free (wc := [(mo, .inr (13, MF 30 (es v tp dn 0))), (ql, .inl (cI, 20100, .inl li))]) hD hS hA [0, 6] rfl
          refine va_callv (va_runV (As := [.int (nI k9)]) (rest := []) ⟨hx, hb, hml, hown, hts⟩ (c_Mo_choose l dC dI mo H v cI ql tp dn 0 (nI k9) li (by omega) (by omega) (by omega) h24) (cwV 1 hts (gt_V (own := R_Mo) (C := R_Mo) (i := 357) (y := y_Mo_choose) i_Mo_choose w_1493 w_1495 (gt_sel (y := y_Mo_choose) (n := 30) (by decide +kernel)) w_7) rfl rfl rfl (by decide +kernel) ⟨Nat.le_of_ble_eq_true rfl, Nat.le_of_ble_eq_true rfl⟩) ⟨mp_blind, va_recv hKc hPc (ci := 13) (q0 := 0) rfl rfl, fun U hU hW => ⟨rfl, hU, by rw [hU]; exact hPc, va_K.moved hW.alike hKc, hDc.weaken (fun _ _ _ _ => trivial)⟩⟩ rfl rfl hl.1 rfl (lv_room (Nat.le_of_ble_eq_true rfl)) d_Mo_numbers_78 ⟨Nat.le_of_ble_eq_true rfl, Nat.le_of_ble_eq_true rfl⟩) hS (fun q _ h => hFc q h) hFc (fun ⟨tp1, tm1, li1⟩ t9 H1 locs ht hvm hw hB hz1 hk1 hS => ?_)
          obtain ⟨hP1, hK1, hD1⟩ := hB
          rw [ht] at hP1
          obtain ⟨hP, hD⟩ := va_join (wr := [(Q.qq, .inl (cI, (8 * Q.C), .inl Q.qf)), (Q.qe, .inl (cL, (3 * Q.C), .inr (.inl Q.ef))), (t, .inr (12, MF 13 (tw T))), (T.a4, .inl (cI, T.N, .inl T.ki)), (T.a5, .inl (cI, T.N, .inl T.nx))]) (w1 := [(mo, .inr (13, MF 30 (es v tp1 (dn + 1) tm1))), (ql, .inl (cI, 20100, .inl li1))]) hP hD [0, 6] [1, 2, 3, 4, 5] rfl rfl (by decide) (by decide) hk1 hFc hP1 hD1
          generalize H1 = H at hP hS ⊢
          have hP : va_P (dC, dI) classes [(Q.qq, .inl (cI, (8 * Q.C), .inl Q.qf)), (Q.qe, .inl (cL, (3 * Q.C), .inr (.inl Q.ef))), (t, .inr (12, MF 13 (tw T))), (T.a4, .inl (cI, T.N, .inl T.ki)), (T.a5, .inl (cI, T.N, .inl T.nx)), (mo, .inr (13, MF 30 (es v tp1 (dn + 1) tm1))), (ql, .inl (cI, 20100, .inl li1))] H := hP
          have hD : va_D A [(Q.qq, .inl (cI, (8 * Q.C), .inl Q.qf)), (Q.qe, .inl (cL, (3 * Q.C), .inr (.inl Q.ef))), (t, .inr (12, MF 13 (tw T))), (T.a4, .inl (cI, T.N, .inl T.ki)), (T.a5, .inl (cI, T.N, .inl T.nx)), (mo, .inr (13, MF 30 (es v tp1 (dn + 1) tm1))), (ql, .inl (cI, 20100, .inl li1))] := hD
          have hP := hP.sub (ws' := [(mo, .inr (13, MF 30 (es v tp1 (dn + 1) tm1))), (Q.qq, .inl (cI, (8 * Q.C), .inl Q.qf)), (Q.qe, .inl (cL, (3 * Q.C), .inr (.inl Q.ef))), (t, .inr (12, MF 13 (tw T))), (T.a4, .inl (cI, T.N, .inl T.ki)), (T.a5, .inl (cI, T.N, .inl T.nx)), (ql, .inl (cI, 20100, .inl li1))]) [5, 0, 1, 2, 3, 4, 6] rfl
          have hD := hD.sub (ws' := [(mo, .inr (13, MF 30 (es v tp1 (dn + 1) tm1))), (Q.qq, .inl (cI, (8 * Q.C), .inl Q.qf)), (Q.qe, .inl (cL, (3 * Q.C), .inr (.inl Q.ef))), (t, .inr (12, MF 13 (tw T))), (T.a4, .inl (cI, T.N, .inl T.ki)), (T.a5, .inl (cI, T.N, .inl T.nx)), (ql, .inl (cI, 20100, .inl li1))]) [5, 0, 1, 2, 3, 4, 6] (by decide) rfl
          have hcw1 := hw
          obtain ⟨hE1, hc11, hc21, hc31, hc41⟩ := ch_step hE ⟨_, hnk.r⟩ hw
          have hE1 : EI T tp1 (dn + 1) tm1 li1 := hE1
          have hc11 : tp ≤ tp1 := hc11
          have hc31 : ∀ j, j < tp → li1 j = li j := hc31
          have hc41 : DB 0 dn 0 (dn + 1) tm1 := hc41
          obtain ⟨he11, he21, he31, he41, he51⟩ := hE1
          have hE1 : EI T tp1 (dn + 1) tm1 li1 := ⟨he11, he21, he31, he41, he51⟩
          have hm1 : mq rt nn = ([c9.2], 1) := by rw [hm3]; exact idxS_1 hk5 (by rw [← hkq, ← hj56]; omega) hc9
          exact W.vret hx hb hr (fun t9 ht hW => ⟨⟨(tp1, (dn + 1), tm1, li1), rfl, ⟨hE1, hc11, hc31, hc41.mono (Nat.zero_le _), by rw [hm1]; exact PUr.ch rfl hnk hcw1⟩, by rw [ht]; exact hP, va_K.moved hW.alike hK, hD⟩, hS.F ht⟩) hS.2.2 d_Mo_numbers_81
