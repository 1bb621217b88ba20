/-- a leaf: its kind, its number, its units -/
abbrev LF : Type := Nat × Int64 × List Int32
/-- a value of a document, at most r deep -/
def JVt : Nat → Type
  | 0 => LF
  | r + 1 => LF × List (List Int32 × JVt r)
def jleaf : (r : Nat) → LF → JVt r
  | 0, x => x
  | _ + 1, x => (x, [])
def RepL (T : TS) (a : Nat) (x : LF) : Prop := T.kd a = nI x.1 ∧ x.1 ≤ 6 ∧ (x.1 = 3 → T.nu a = x.2.1) ∧ (x.1 = 4 → ∃ s L, T.st a = nI s ∧ T.ln a = nI L ∧ s + L ≤ T.us ∧ sl T.un s L = x.2.2) ∧ (¬ x.1 = 4 → T.ln a = 0)
/-- a chain of members from k on, to the end z; its nodes lie from lo on and before hi -/
def RepK {β : Type} (rep : Nat → Nat → β → Prop) (T : TS) (ob : Prop) (a hi : Nat) (z : Int32) : Nat → Int32 → List (List Int32 × β) → Prop
  | _, k, [] => k = z
  | lo, k, c :: cs => ∃ b eb, k = nI b ∧ lo ≤ b ∧ eb ≤ hi ∧ T.pa b = nI a ∧ (ob → nmOK T b ∧ nmT T b = c.1) ∧ rep b eb c.2 ∧ RepK rep T ob a hi z eb (T.nx b) cs
/-- node a of T holds the value; what belongs to it lies from a on and before e -/
def RepV (T : TS) : (r : Nat) → Nat → Nat → JVt r → Prop
  | 0, a, e, x => a < e ∧ e ≤ T.ct ∧ RepL T a x ∧ T.ki a = -1 ∧ x.1 < 5
  | r + 1, a, e, x => a < e ∧ e ≤ T.ct ∧ RepL T a x.1 ∧ (x.1.1 < 5 → x.2 = []) ∧ RepK (RepV T r) T (x.1.1 = 6) a e (-1) (a + 1) (T.ki a) x.2
theorem RepV_lt {T : TS} : ∀ {r : Nat} {a e : Nat} {x : JVt r}, RepV T r a e x → a < e ∧ e ≤ T.ct
  | 0, _, _, _, h => ⟨h.1, h.2.1⟩
  | _ + 1, _, _, _, h => ⟨h.1, h.2.1⟩
/-- T and T2 are alike at the nodes of P -/
def alk (T T2 : TS) (P : Nat → Prop) : Prop := ∀ j, P j → T2.kd j = T.kd j ∧ T2.nu j = T.nu j ∧ T2.st j = T.st j ∧ T2.ln j = T.ln j ∧ T2.ki j = T.ki j ∧ T2.nx j = T.nx j ∧ T2.ns j = T.ns j ∧ T2.nl j = T.nl j ∧ T2.pa j = T.pa j
def alkU (T T2 : TS) : Prop := T.us ≤ T2.us ∧ ∀ j, j < T.us → T2.un j = T.un j
theorem sl_fr {T T2 : TS} (h : alkU T T2) {s L : Nat} (hs : s + L ≤ T.us) : sl T2.un s L = sl T.un s L := sl_eq.mpr ⟨rfl, fun j hj => h.2 _ (by omega)⟩
theorem RepL_fr {T T2 : TS} {a : Nat} {x : LF} (h : RepL T a x) (hu : alkU T T2) (h1 : T2.kd a = T.kd a) (h2 : T2.nu a = T.nu a) (h3 : T2.st a = T.st a) (h4 : T2.ln a = T.ln a) : RepL T2 a x := by
  refine ⟨h1.trans h.1, h.2.1, fun hk => h2.trans (h.2.2.1 hk), fun hk => ?_, fun hk => h4.trans (h.2.2.2.2 hk)⟩
  obtain ⟨s, L, e1, e2, e3, e4⟩ := h.2.2.2.1 hk
  exact ⟨s, L, h3.trans e1, h4.trans e2, Nat.le_trans e3 hu.1, (sl_fr hu e3).trans e4⟩
theorem nm_fr {T T2 : TS} (h : alkU T T2) {b : Nat} (h1 : T2.ns b = T.ns b) (h2 : T2.nl b = T.nl b) (hb : T.us < 2 ^ 31) (hn : nmOK T b) : nmOK T2 b ∧ nmT T2 b = nmT T b := by
  obtain ⟨s1, L1, e1, e2, e3⟩ := hn
  refine ⟨⟨s1, L1, h1.trans e1, h2.trans e2, Nat.le_trans e3 h.1⟩, ?_⟩
  unfold nmT
  rw [h1, h2, e1, e2, nI_clamp (by omega), nI_clamp (by omega)]
  exact sl_fr h e3
theorem RepK_fr {β : Type} {rep rep2 : Nat → Nat → β → Prop} {T T2 : TS} {ob : Prop} {a hi : Nat} {z z2 : Int32} (hu : alkU T T2) (hb : T.us < 2 ^ 31) (hrep : ∀ b eb c, rep b eb c → b < eb) (hz : z = z2) :
    ∀ (cs : List (List Int32 × β)) (lo : Nat) (k : Int32), RepK rep T ob a hi z lo k cs → (∀ j, lo ≤ j → j < hi → T2.nx j = T.nx j ∧ T2.ns j = T.ns j ∧ T2.nl j = T.nl j ∧ T2.pa j = T.pa j) → (∀ b eb c, lo ≤ b → eb ≤ hi → rep b eb c → rep2 b eb c) → RepK rep2 T2 ob a hi z2 lo k cs := by
  intro cs
  induction cs with
  | nil => intro lo k h _ _; exact h.trans hz
  | cons c cs ih =>
    intro lo k h ha hr
    obtain ⟨b, eb, e1, e2, e3, e4, e5, e6, e7⟩ := h
    have hbe := hrep _ _ _ e6
    obtain ⟨n1, n2, n3, n4⟩ := ha b e2 (by omega)
    refine ⟨b, eb, e1, e2, e3, n4.trans e4, fun hob => ?_, hr _ _ _ e2 e3 e6, ?_⟩
    · obtain ⟨m1, m2⟩ := e5 hob
      obtain ⟨m3, m4⟩ := nm_fr hu n2 n3 hb m1
      exact ⟨m3, m4.trans m2⟩
    · rw [n1]
      exact ih eb _ e7 (fun j h1 h2 => ha j (by omega) h2) (fun b2 eb2 c2 h1 h2 => hr b2 eb2 c2 (by omega) h2)
theorem RepV_fr {T T2 : TS} (hu : alkU T T2) (hb : T.us < 2 ^ 31) (hct : T.ct ≤ T2.ct) : ∀ (r : Nat) (a e : Nat) (x : JVt r), RepV T r a e x → T2.kd a = T.kd a → T2.nu a = T.nu a → T2.st a = T.st a → T2.ln a = T.ln a → T2.ki a = T.ki a → alk T T2 (fun j => a < j ∧ j < e) → RepV T2 r a e x := by
  intro r
  induction r with
  | zero =>
    intro a e x h h1 h2 h3 h4 h5 _
    exact ⟨h.1, Nat.le_trans h.2.1 hct, RepL_fr h.2.2.1 hu h1 h2 h3 h4, h5.trans h.2.2.2.1, h.2.2.2.2⟩
  | succ r ih =>
    intro a e x h h1 h2 h3 h4 h5 hal
    refine ⟨h.1, Nat.le_trans h.2.1 hct, RepL_fr h.2.2.1 hu h1 h2 h3 h4, h.2.2.2.1, ?_⟩
    rw [h5]
    refine RepK_fr hu hb (fun b eb c hc => (RepV_lt hc).1) rfl _ _ _ h.2.2.2.2 (fun j hj1 hj2 => ?_) (fun b eb c hb1 hb2 hc => ?_)
    · have := hal j ⟨hj1, hj2⟩
      exact ⟨this.2.2.2.2.2.1, this.2.2.2.2.2.2.1, this.2.2.2.2.2.2.2.1, this.2.2.2.2.2.2.2.2⟩
    · have hlt := RepV_lt hc
      have := hal b ⟨hb1, by omega⟩
      exact ih b eb c hc this.1 this.2.1 this.2.2.1 this.2.2.2.1 this.2.2.2.2.1 (fun j hj => hal j ⟨by omega, by omega⟩)
/-- one more at the end -/
theorem RepK_snoc {β : Type} {rep : Nat → Nat → β → Prop} {T : TS} {ob : Prop} {a hi mid b eb : Nat} {z : Int32} {c : List Int32 × β} (h1 : mid ≤ b) (h2 : eb ≤ hi) (h3 : T.pa b = nI a) (h4 : ob → nmOK T b ∧ nmT T b = c.1) (h5 : rep b eb c.2) (h6 : T.nx b = z) (hrep : ∀ b eb c, rep b eb c → b < eb) :
    ∀ (cs : List (List Int32 × β)) (lo : Nat) (k : Int32), lo ≤ mid → RepK rep T ob a mid (nI b) lo k cs → RepK rep T ob a hi z lo k (cs ++ [c]) := by
  intro cs
  induction cs with
  | nil =>
    intro lo k hlo h
    exact ⟨b, eb, h, by omega, h2, h3, h4, h5, h6⟩
  | cons c2 cs ih =>
    intro lo k hlo h
    obtain ⟨b2, eb2, e1, e2, e3, e4, e5, e6, e7⟩ := h
    have := hrep _ _ _ h5
    exact ⟨b2, eb2, e1, e2, by omega, e4, e5, e6, ih eb2 _ e3 e7⟩
/-- the nodes of a chain, as the rows on chains want them -/
theorem RepK_chn {β : Type} {rep : Nat → Nat → β → Prop} {T : TS} {ob : Prop} {a hi : Nat} (hhi : hi ≤ T.ct) (hrep : ∀ b eb c, rep b eb c → b < eb) :
    ∀ (cs : List (List Int32 × β)) (lo : Nat) (k : Int32), RepK rep T ob a hi (-1) lo k cs → ∃ ks : List Nat, chn T.nx T.ct ks k ∧ ks.length = cs.length ∧ (ob → (∀ x, x ∈ ks → nmOK T x) ∧ ks.map (nmT T) = cs.map (·.1)) := by
  intro cs
  induction cs with
  | nil => intro lo k h; exact ⟨[], by show k < 0; rw [show k = -1 from h]; decide, rfl, fun _ => ⟨fun x hx => absurd hx (by simp), rfl⟩⟩
  | cons c cs ih =>
    intro lo k h
    obtain ⟨b, eb, e1, e2, e3, e4, e5, e6, e7⟩ := h
    obtain ⟨ks, f1, f2, f3⟩ := ih eb _ e7
    have := hrep _ _ _ e6
    refine ⟨b :: ks, ⟨e1, by omega, f1⟩, by simp [f2], fun hob => ?_⟩
    obtain ⟨g1, g2⟩ := f3 hob
    obtain ⟨g3, g4⟩ := e5 hob
    refine ⟨fun x hx => ?_, by simp [g2, g4]⟩
    rcases List.mem_cons.mp hx with h | h
    · rw [h]; exact g3
    · exact g1 x h
