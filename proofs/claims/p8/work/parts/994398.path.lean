/-! whence a node comes: the steps to it -/
def NAt (PL : List NT) (AL : List Nat) (a : Nat) (p : List Nat) : Prop := ∃ (k : Nat) (nd : NT), PL[k]? = some nd ∧ AL[k]? = some a ∧ nd.1 = p
theorem NCr.nat {PL : List NT} {AL : List Nat} {a : Nat} {nd : NT} (h : NCr PL AL a nd) : NAt PL AL a nd.1 := by
  obtain ⟨k, h1, h2⟩ := h
  exact ⟨k, nd, h1, h2, rfl⟩
theorem NAt.f {E : Nat → Nat} {f : Nat → va_E} {PL : List NT} {AL : List Nat} {a : Nat} {p : List Nat} (hD : DOC E f PL AL) (h : NAt PL AL a p) : isF E a := by
  obtain ⟨k, nd, h1, h2, -⟩ := h
  exact (hD.2 k nd a h1 h2).1
/-- one step up -/
theorem NAt.up {f : Nat → va_E} {x : JVt 32} {AL : List Nat} {a : Nat} {p : List Nat} {kd : Int32} {nu : Int64} {tx me pa na : Option Nat} {ix : Int32} {nm no : Option Nat} {sp : Int32} (hU : DUP f (preN (rtN x)) AL) (h : NAt (preN (rtN x)) AL a p) (e : f a = vE kd nu tx me pa na ix nm no sp) : (p = [] ∧ pa = none) ∨ ∃ (a' i : Nat) (p' : List Nat), p = p' ++ [i] ∧ NAt (preN (rtN x)) AL a' p' ∧ pa = some a' ∧ ix = nI i ∧ ((∃ b, na = some b ∧ pthJ ⟨32, x⟩ p = pthJ ⟨32, x⟩ p' ++ ([91] ++ (unL 39 (txL f b) ++ [93]))) ∨ (na = none ∧ pthJ ⟨32, x⟩ p = pthJ ⟨32, x⟩ p' ++ ([91] ++ (nmB (nI i).toInt64 ++ [93])))) := by
  obtain ⟨k, nd, h1, h2, rfl⟩ := h
  cases k with
  | zero =>
    refine Or.inl ⟨?_, ?_⟩
    · rw [preN_0] at h1
      rw [← Option.some.inj h1]
      rfl
    · have h4 := hU.1 a (by rw [← h2]; cases AL <;> rfl)
      have h9 : refE 4 (vE kd nu tx me pa na ix nm no sp) = pa := refE_rf (o := pa) rfl
      rw [e, h9] at h4
      exact h4
  | succ k =>
    obtain ⟨k', nd', a', i, c, u1, u2, u3, u4, rfl, u6, u7⟩ := hU.2 k nd a h1 h2
    obtain ⟨p1, p2, p3⟩ := pth_kid (List.mem_of_getElem? u2) u4
    obtain ⟨w1, w2, w3⟩ := u6
    rw [e] at w1 w2
    have w1 : va_rf pa = .ref a' := w1
    have w2 : (Value.int ix) = .int (nI i) := w2
    have hpa : pa = some a' := rf_inj (y := some a') w1
    have hix : ix = nI i := Value.int.inj w2
    refine Or.inr ⟨a', i, nd'.1, p1, ⟨k', nd', u2, u3, rfl⟩, hpa, hix, ?_⟩
    by_cases h6 : kdN nd' = 6
    · have h7 := u7 h6
      rw [nmL_v e] at h7
      cases na with
      | none => cases h7
      | some b =>
        have h7 : txL f b = c.1 := Option.some.inj h7
        refine Or.inl ⟨b, rfl, ?_⟩
        rw [p2, h7]
        unfold stp
        rw [if_pos h6]
    · have h5 := w3 h6
      have h9 : refE 5 (vE kd nu tx me pa na ix nm no sp) = na := refE_rf (o := na) rfl
      rw [e, h9] at h5
      refine Or.inr ⟨h5, ?_⟩
      rw [p2]
      unfold stp
      rw [if_neg h6]
theorem pth_pre : ∀ (p q : List Nat) (u : VU), ∃ R, pthJ u (p ++ q) = pthJ u p ++ R := by
  intro p
  induction p with
  | nil => exact fun q u => ⟨pthJ u q, rfl⟩
  | cons i p ih =>
    intro q u
    show ∃ R, (match (ksU u)[i]? with
      | some c => stp (lfU u).1 i c.1 ++ pthJ c.2 (p ++ q)
      | none => []) = (match (ksU u)[i]? with
      | some c => stp (lfU u).1 i c.1 ++ pthJ c.2 p
      | none => []) ++ R
    cases (ksU u)[i]? with
    | none => exact ⟨[], rfl⟩
    | some c =>
      obtain ⟨R, hR⟩ := ih q c.2
      refine ⟨R, ?_⟩
      show stp (lfU u).1 i c.1 ++ pthJ c.2 (p ++ q) = (stp (lfU u).1 i c.1 ++ pthJ c.2 p) ++ R
      rw [hR, List.append_assoc]
/-- what is left of the way: behind its first n - j steps -/
def PTl (x : JVt 32) (p : List Nat) (j : Nat) (R : List Int32) : Prop := pthJ ⟨32, x⟩ p = pthJ ⟨32, x⟩ (p.take (p.length - j)) ++ R
theorem PTl.st (x : JVt 32) (p : List Nat) : PTl x p p.length (pthJ ⟨32, x⟩ p) := by
  unfold PTl
  rw [Nat.sub_self, List.take_zero]
  rfl
theorem PTl.en {x : JVt 32} {p : List Nat} {R : List Int32} (h : PTl x p 0 R) : R = [] := by
  unfold PTl at h
  rw [Nat.sub_zero, List.take_length] at h
  have h2 := congrArg List.length h
  rw [List.length_append] at h2
  exact List.length_eq_zero_iff.mp (by omega)
theorem PTl.go {x : JVt 32} {p p' : List Nat} {j i : Nat} {R s : List Int32} (h : PTl x p (j + 1) R) (hj : j < p.length) (hp : p.take (p.length - j) = p' ++ [i]) (hs : pthJ ⟨32, x⟩ (p.take (p.length - j)) = pthJ ⟨32, x⟩ p' ++ s) : ∃ R', R = s ++ R' ∧ PTl x p j R' := by
  have hl : p' = p.take (p.length - (j + 1)) := by
    have h1 : (p.take (p.length - j)).take (p.length - (j + 1)) = p' := by
      rw [hp]
      have h2 := congrArg List.length hp
      rw [List.length_take, List.length_append, List.length_singleton] at h2
      rw [List.take_append_of_le_length (by omega)]
      exact List.take_of_length_le (by omega)
    rw [← h1, List.take_take, Nat.min_eq_left (by omega)]
  obtain ⟨R', hR'⟩ := pth_pre (p.take (p.length - j)) (p.drop (p.length - j)) ⟨32, x⟩
  rw [List.take_append_drop] at hR'
  refine ⟨R', ?_, hR'⟩
  have h : pthJ ⟨32, x⟩ p = pthJ ⟨32, x⟩ (p.take (p.length - (j + 1))) ++ R := h
  rw [hR', hs, hl, List.append_assoc] at h
  exact (List.append_cancel_left h).symm
theorem smL_i (z : Int32) : smL z.toInt64 := by
  have h1 := z.le_toInt
  have h2 := z.toInt_lt
  have e : z.toInt64.toInt = z.toInt := Int32.toInt_toInt64 z
  refine ⟨?_, ?_⟩
  · rw [e]; omega
  · rw [e]; omega
/-! a value as it is written -/
def prU (u : VU) : List Int32 := prV u.1 u.2
theorem prU_lf {u : VU} (h : (lfU u).1 < 5) : prU u = prLf (lfU u) := by
  obtain ⟨r, x⟩ := u
  cases r with
  | zero => rfl
  | succ r =>
    show (if x.1.1 < 5 then prLf x.1 else _) = _
    rw [if_pos (show x.1.1 < 5 from h)]
    rfl
theorem prK_U {r : Nat} {ob : Bool} : ∀ (l : List (List Int32 × JVt r)) (b : Bool), prK (prV r) ob b l = prK prU ob b (l.map (fun p => (p.1, (⟨r, p.2⟩ : VU)))) := by
  intro l
  induction l with
  | nil => exact fun _ => rfl
  | cons c l ih =>
    intro b
    show (if b = true then [] else [44]) ++ (if ob = true then unL 34 c.1 ++ [58] else []) ++ prV r c.2 ++ prK (prV r) ob false l = (if b = true then [] else [44]) ++ (if ob = true then unL 34 c.1 ++ [58] else []) ++ prV r c.2 ++ prK prU ob false (l.map (fun p => (p.1, (⟨r, p.2⟩ : VU))))
    rw [ih false]
def kR (ob : Bool) (l : List (List Int32 × VU)) (i : Nat) : List Int32 := prK prU ob (decide (i = 0)) (l.drop i)
theorem prU_me {r : Nat} {x : JVt (r + 1)} (h : ¬ x.1.1 < 5) : prU ⟨r + 1, x⟩ = [if x.1.1 = 5 then 91 else 123] ++ (kR (decide (x.1.1 = 6)) (ksU ⟨r + 1, x⟩) 0 ++ [if x.1.1 = 5 then 93 else 125]) := by
  show (if x.1.1 < 5 then prLf x.1 else [if x.1.1 = 5 then 91 else 123] ++ prK (prV r) (decide (x.1.1 = 6)) true x.2 ++ [if x.1.1 = 5 then 93 else 125]) = _
  rw [if_neg h, List.append_assoc, prK_U]
  rfl
theorem kR_s {ob : Bool} {l : List (List Int32 × VU)} {i : Nat} {c : List Int32 × VU} (h : l[i]? = some c) : kR ob l i = (if i = 0 then [] else [44]) ++ ((if ob = true then unL 34 c.1 ++ [58] else []) ++ (prU c.2 ++ kR ob l (i + 1))) := by
  obtain ⟨hi, e⟩ := List.getElem?_eq_some_iff.mp h
  unfold kR
  rw [List.drop_eq_getElem_cons hi, e]
  show (if decide (i = 0) = true then [] else [44]) ++ (if ob = true then unL 34 c.1 ++ [58] else []) ++ prU c.2 ++ prK prU ob false (l.drop (i + 1)) = _
  rw [show decide (i + 1 = 0) = false from decide_eq_false (Nat.succ_ne_zero i), List.append_assoc, List.append_assoc]
  by_cases h0 : i = 0
  · rw [if_pos h0, if_pos (decide_eq_true h0)]
  · rw [if_neg h0, if_neg (by rw [decide_eq_false h0]; decide)]
theorem kR_e {ob : Bool} {l : List (List Int32 × VU)} {i : Nat} (h : l.length ≤ i) : kR ob l i = [] := by
  unfold kR
  rw [List.drop_eq_nil_of_le h]
  rfl
/-- every number of a document is small enough to be written -/
theorem all_at {P : LF → Prop} : ∀ (q : List Nat) (r : Nat) (x : JVt r) (u : VU), allL P r x → atV ⟨r, x⟩ q = some u → P (lfU u) := by
  intro q
  induction q with
  | nil =>
    intro r x u h hu
    obtain rfl : (⟨r, x⟩ : VU) = u := Option.some.inj hu
    cases r with
    | zero => exact h
    | succ r => exact h.1
  | cons i q ih =>
    intro r x u h hu
    have hu : (match (ksU (⟨r, x⟩ : VU))[i]? with
      | some c => atV c.2 q
      | none => none) = some u := hu
    cases hc : (ksU (⟨r, x⟩ : VU))[i]? with
    | none => rw [hc] at hu; cases hu
    | some c =>
      rw [hc] at hu
      have hu : atV c.2 q = some u := hu
      cases r with
      | zero => cases hc
      | succ r =>
        obtain ⟨d, d1, rfl⟩ := ksJ_get hc
        exact ih r d.2 u (h.2 d (List.mem_of_getElem? d1)) hu
theorem all_nd {P : LF → Prop} {x : JVt 32} (h : allL P 32 x) {nd : NT} (hn : nd ∈ preN (rtN x)) : P (lfU nd.2) := by
  obtain ⟨q, -, q2, -⟩ := pth_at 32 x [] nd hn
  exact all_at q 32 x nd.2 h q2
/-- a node and its members, in the class -/
theorem DOC.kid {E : Nat → Nat} {f : Nat → va_E} {PL : List NT} {AL : List Nat} (hD : DOC E f PL AL) {a : Nat} {nd : NT} (h : NCr PL AL a nd) {i : Nat} {c : List Int32 × VU} (hc : (ksU nd.2)[i]? = some c) : ∃ b, memF f a i = some b ∧ NCr PL AL b (nd.1 ++ [i], c.2) := by
  obtain ⟨k, h1, h2⟩ := h
  obtain ⟨-, -, h3, -⟩ := hD.2 k nd a h1 h2
  exact h3 i _ (kdsN_get hc)
theorem DOC.cu {E : Nat → Nat} {f : Nat → va_E} {PL : List NT} {AL : List Nat} (hD : DOC E f PL AL) {a : Nat} {nd : NT} (h : NCr PL AL a nd) : isF E a ∧ CU f a nd.2 := by
  obtain ⟨k, h1, h2⟩ := h
  obtain ⟨h3, h4, -⟩ := hD.2 k nd a h1 h2
  exact ⟨h3, h4⟩
theorem take_up {p p' : List Nat} {d i : Nat} (hp : p.take (p.length - d) = p' ++ [i]) : d < p.length ∧ p' = p.take (p.length - (d + 1)) := by
  have h2 := congrArg List.length hp
  rw [List.length_take, List.length_append, List.length_singleton] at h2
  refine ⟨by omega, ?_⟩
  have h1 : (p.take (p.length - d)).take (p.length - (d + 1)) = p' := by
    rw [hp, List.take_append_of_le_length (by omega)]
    exact List.take_of_length_le (by omega)
  rw [← h1, List.take_take, Nat.min_eq_left (by omega)]
theorem prU_mu {u : VU} (h : ¬ (lfU u).1 < 5) (h0 : u.1 = 0 → (lfU u).1 < 5) : prU u = [if (lfU u).1 = 5 then 91 else 123] ++ (kR (decide ((lfU u).1 = 6)) (ksU u) 0 ++ [if (lfU u).1 = 5 then 93 else 125]) := by
  obtain ⟨r, x⟩ := u
  cases r with
  | zero => exact absurd (h0 rfl) h
  | succ r => exact prU_me h
theorem ks_lv {u : VU} {i : Nat} {c : List Int32 × VU} (h : (ksU u)[i]? = some c) : c.2.1 + 1 = u.1 := by
  obtain ⟨r, x⟩ := u
  cases r with
  | zero => cases h
  | succ r =>
    obtain ⟨d, -, rfl⟩ := ksJ_get h
    rfl
theorem ck_in {k : Nat} (hk : k ≤ 6) : k = 0 ∨ k = 1 ∨ k = 2 ∨ k = 3 ∨ k = 4 ∨ k = 5 ∨ k = 6 := by omega
theorem ck_0 {k : Nat} (hk : k ≤ 6) (h : ckd k = 0) : k = 0 := by rcases ck_in hk with rfl | rfl | rfl | rfl | rfl | rfl | rfl <;> first | rfl | exact absurd h (by decide)
theorem ck_1 {k : Nat} (hk : k ≤ 6) (h : ckd k = 1) : k = 2 := by rcases ck_in hk with rfl | rfl | rfl | rfl | rfl | rfl | rfl <;> first | rfl | exact absurd h (by decide)
theorem ck_2 {k : Nat} (hk : k ≤ 6) (h : ckd k = 2) : k = 1 := by rcases ck_in hk with rfl | rfl | rfl | rfl | rfl | rfl | rfl <;> first | rfl | exact absurd h (by decide)
theorem ck_3 {k : Nat} (hk : k ≤ 6) (h : ckd k = 3) : k = 3 := by rcases ck_in hk with rfl | rfl | rfl | rfl | rfl | rfl | rfl <;> first | rfl | exact absurd h (by decide)
theorem ck_4 {k : Nat} (hk : k ≤ 6) (h : ckd k = 4) : k = 4 := by rcases ck_in hk with rfl | rfl | rfl | rfl | rfl | rfl | rfl <;> first | rfl | exact absurd h (by decide)
theorem ck_6 {k : Nat} (hk : k ≤ 6) (h : ckd k = 6) : k = 6 := by rcases ck_in hk with rfl | rfl | rfl | rfl | rfl | rfl | rfl <;> first | rfl | exact absurd h (by decide)
theorem ck_ge {k : Nat} (hk : k ≤ 6) (h0 : ¬ ckd k = 0) (h1 : ¬ ckd k = 1) (h2 : ¬ ckd k = 2) (h3 : ¬ ckd k = 3) (h4 : ¬ ckd k = 4) : ¬ k < 5 := by
  rcases ck_in hk with rfl | rfl | rfl | rfl | rfl | rfl | rfl
  · exact absurd (by decide) h0
  · exact absurd (by decide) h2
  · exact absurd (by decide) h1
  · exact absurd (by decide) h3
  · exact absurd (by decide) h4
  · decide
  · decide
section PrC
variable {u : VU}
theorem prU_0 (h : (lfU u).1 = 0) : prU u = ltB (ctx 0) 4 := by
  rw [prU_lf (by omega)]
  unfold prLf
  rw [if_pos h]
  decide +kernel
theorem prU_1 (h : (lfU u).1 = 1) : prU u = ltB (ctx 2) 4 := by
  rw [prU_lf (by omega)]
  unfold prLf
  rw [if_neg (by omega), if_pos h]
  decide +kernel
theorem prU_2 (h : (lfU u).1 = 2) : prU u = ltB (ctx 1) 5 := by
  rw [prU_lf (by omega)]
  unfold prLf
  rw [if_neg (by omega), if_neg (by omega), if_pos h]
  decide +kernel
theorem prU_3 (h : (lfU u).1 = 3) : prU u = nmB (lfU u).2.1 := by
  rw [prU_lf (by omega)]
  unfold prLf
  rw [if_neg (by omega), if_neg (by omega), if_neg (by omega), if_pos h]
theorem prU_4 (h : (lfU u).1 = 4) : prU u = unL 34 (lfU u).2.2 := by
  rw [prU_lf (by omega)]
  unfold prLf
  rw [if_neg (by omega), if_neg (by omega), if_neg (by omega), if_neg (by omega), if_pos h]
end PrC
/-- what run answers and writes, and when it throws -/
def RNc (X : Nat → Option (JVt 32)) (Y : Option QT) (d r : Int32) (T : List Int32) : Prop := ∃ (j : Nat) (x : JVt 32) (m : QT), j < 4 ∧ d = nI j ∧ X j = some x ∧ Y = some m ∧ (m (rtN x) (rtN x)).2 ≤ 10000 ∧ r = nI (m (rtN x) (rtN x)).1.length ∧ T = outB x (m (rtN x) (rtN x)).1
def RNt (X : Nat → Option (JVt 32)) (Y : Option QT) (d : Int32) (En : String) : Prop := WKt X Y d En ∨ (En = IOB ∧ ∃ (j : Nat) (x : JVt 32) (m : QT), j < 4 ∧ d = nI j ∧ X j = some x ∧ Y = some m ∧ (m (rtN x) (rtN x)).2 ≤ 10000 ∧ 16384 < (outB x (m (rtN x) (rtN x)).1).length)
set_option maxHeartbeats 4000000 in
set_option maxRecDepth 100000 in
/-- Printer.path: what it writes -/
theorem p_Printer_path (l : Launch) (hl9 : l.stackTraces = false) (K : Nat → Nat × Nat) (dC : Nat → ClassId) (dI : Nat → Nat → Nat) (sz : Heap) (cI cV : ClassId) (E lv : Nat → Nat) (L : List Nat) (f : Nat → va_E) (hO : PO cI cV E lv L f) (cB : ClassId) (p1 pb ps : Nat) (g : Nat → Int32) (k : Nat) (hk : k ≤ 16384) (h : Nat → Option Nat) (nd : Nat) (xv : JVt 32) (AL : List Nat) (hDq9 : DOC E f (preN (rtN xv)) AL) (hDu : DUP f (preN (rtN xv)) AL) (nn : NT) (hnn : NCr (preN (rtN xv)) AL nd nn) : vx_Met l y_Printer_path (k_Printer_path :: gtbl) ({ frames := 12, cells := 1, slots := 6, locals := 270 }) (va_Pc [.ref p1, .ref nd] (ml K dC dI ([(p1, .inr (3, [.ref pb, .int (nI k), .ref ps])), (pb, .inl (cB, 16384, .inl g)), (ps, .inl (cV, 32, .inr (.inr (.inr (.inr h)))))] ++ va_pl L f) [(cB, .byte), (cI, .int), (cV, .object "QueryBench$Value")] sz)) (va_Qv (fun (u : Nat × (Nat → Int32) × (Nat → Option Nat)) => WOK k g (([36] ++ pthJ ⟨32, xv⟩ nn.1)) u.1 u.2.1) (fun u t9 => mz dC dI ([(p1, .inr (3, [.ref pb, .int (nI u.1), .ref ps])), (pb, .inl (cB, 16384, .inl u.2.1)), (ps, .inl (cV, 32, .inr (.inr (.inr (.inr u.2.2)))))] ++ va_pl L f) [(cB, .byte), (cI, .int), (cV, .object "QueryBench$Value")] (va_A ([(p1, .inr (3, [.ref pb, .int (nI k), .ref ps])), (pb, .inl (cB, 16384, .inl g)), (ps, .inl (cV, 32, .inr (.inr (.inr (.inr h)))))] ++ va_pl L f) sz.size) t9 ∧ szk sz t9.heap (0) (0)) (va_A ([(p1, .inr (3, [.ref pb, .int (nI k), .ref ps])), (pb, .inl (cB, 16384, .inl g)), (ps, .inl (cV, 32, .inr (.inr (.inr (.inr h)))))] ++ va_pl L f) sz.size)) (vx_X (fun (u : Int32 × (Nat → Int32) × (Nat → Option Nat)) => WNO k g (([36] ++ pthJ ⟨32, xv⟩ nn.1))) (fun En u t9 => En = IOB ∧ mz dC dI ([(p1, .inr (3, [.ref pb, .int u.1, .ref ps])), (pb, .inl (cB, 16384, .inl u.2.1)), (ps, .inl (cV, 32, .inr (.inr (.inr (.inr u.2.2)))))] ++ va_pl L f) [(cB, .byte), (cI, .int), (cV, .object "QueryBench$Value")] (va_A ([(p1, .inr (3, [.ref pb, .int (nI k), .ref ps])), (pb, .inl (cB, 16384, .inl g)), (ps, .inl (cV, 32, .inr (.inr (.inr (.inr h)))))] ++ va_pl L f) sz.size) t9) (va_A ([(p1, .inr (3, [.ref pb, .int (nI k), .ref ps])), (pb, .inl (cB, 16384, .inl g)), (ps, .inl (cV, 32, .inr (.inr (.inr (.inr h)))))] ++ va_pl L f) sz.size)) (1) (6) (va_A ([(p1, .inr (3, [.ref pb, .int (nI k), .ref ps])), (pb, .inl (cB, 16384, .inl g)), (ps, .inl (cV, 32, .inr (.inr (.inr (.inr h)))))] ++ va_pl L f) sz.size) := by
  refine vx_ofW (cc := b_Printer_path) (maxL := 4) (ret := none) (by decide) rfl ?_
  intro p e s m args below meth c s₁ B hml hex hv
  obtain ⟨rfl, ⟨hsz, hP, hK, hD0⟩, hN, hZ, hC, hV⟩ := hv
  have hx := B.exec
  have hb := B.bytes
  have hr := B.returns
  have hts0 := atoms_spec (ws := k_Printer_path :: gtbl) B.pre
  have hts := fun w h => hts0 w (List.mem_cons_of_mem _ h)
  have hown : s.vm.findClass R_Printer = some m.cls := findClass_of_methodNamed B.named
  have hlocks := B.notSynchronized
  subst hsz
  have hD := hD0.self (sz := s.heap.size)
  generalize hAe : va_A ([(p1, .inr (3, [.ref pb, .int (nI k), .ref ps])), (pb, .inl (cB, 16384, .inl g)), (ps, .inl (cV, 32, .inr (.inr (.inr (.inr h)))))] ++ va_pl L f) s.heap.size = A at hD hZ hC ⊢
  have hA : ∀ q : Nat, s.heap.size ≤ q → A q := fun q h => by rw [← hAe]; exact Or.inr h
  have hS : va_S A s.heap s.heap [] := va_S.rf
  have hP : va_P (dC, dI) classes ([(p1, .inr (3, [.ref pb, .int (nI k), .ref ps])), (pb, .inl (cB, 16384, .inl g)), (ps, .inl (cV, 32, .inr (.inr (.inr (.inr h)))))] ++ va_pl L f) s.heap := hP
  have hl := lv_entry ([.ref p1, .ref nd]) (n := 4) (Nat.le_of_ble_eq_true rfl)
  rw [lg_entry_eq]
  generalize (lg_sl ([.ref p1, .ref nd]) ++ List.replicate (4 - (lg_sl ([.ref p1, .ref nd])).length) Slot.unset).toArray = ls at hl ⊢
  have hl : lv_has ls 4 [(0, .ref p1), (1, .ref nd)] := hl
  refine lv_iconst (v := 0) hx hb d_Printer_path_0 (by decide) ?_
  refine lv_istore_n (lv' := [(2, .int 0), (0, .ref p1), (1, .ref nd)]) hx hb d_Printer_path_1 rfl hl (by decide) rfl (fun ls hl => ?_)
  refine lv_aload_n hx hb d_Printer_path_2 rfl (lv_at hl 2 rfl) ?_
  refine lv_astore_n (lv' := [(3, .ref nd), (2, .int 0), (0, .ref p1), (1, .ref nd)]) hx hb d_Printer_path_3 rfl hl (by decide) rfl (fun ls hl => ?_)
  have hn32 : nn.1.length ≤ 32 := by obtain ⟨k9, h8, -⟩ := hnn; exact pth_len (List.mem_of_getElem? h8)
  refine w_loop (D := (dC, dI)) (cl := classes) (A := A) (H0 := s.heap) (nL := 4) 4 (σ := Nat × Nat × (Nat → Option Nat)) (fun ⟨d, v, h⟩ => d ≤ nn.1.length ∧ NAt (preN (rtN xv)) AL v (nn.1.take (nn.1.length - d)) ∧ ∀ j, j < d → ∃ b, h j = some b ∧ NAt (preN (rtN xv)) AL b (nn.1.take (nn.1.length - j))) (fun ⟨d, v, h⟩ => nn.1.length - d) (fun ⟨d, v, h⟩ => [(p1, .inr (3, [.ref pb, .int (nI k), .ref ps])), (pb, .inl (cB, 16384, .inl g)), (ps, .inl (cV, 32, .inr (.inr (.inr (.inr h)))))] ++ va_pl L f) (fun ⟨d, v, h⟩ => [(0, .ref p1), (1, .ref nd), (2, .int (nI d)), (3, .ref v)]) ?_ (0, nd, h) ⟨Nat.zero_le _, show NAt (preN (rtN xv)) AL nd (nn.1.take (nn.1.length - 0)) from by rw [Nat.sub_zero, List.take_length]; exact hnn.nat, fun j hj => absurd hj (Nat.not_lt_zero _)⟩ hP hD hS (lv_sub hl [2, 3, 1, 0] rfl)
  rintro ⟨d, v, h⟩ H locs ls hI ih hP hD hS hl
  have hP : va_P (dC, dI) classes ([(p1, .inr (3, [.ref pb, .int (nI k), .ref ps])), (pb, .inl (cB, 16384, .inl g)), (ps, .inl (cV, 32, .inr (.inr (.inr (.inr h)))))] ++ va_pl L f) H := hP
  have hD : va_D A ([(p1, .inr (3, [.ref pb, .int (nI k), .ref ps])), (pb, .inl (cB, 16384, .inl g)), (ps, .inl (cV, 32, .inr (.inr (.inr (.inr h)))))] ++ va_pl L f) := hD
  have hl : lv_has ls 4 [(0, .ref p1), (1, .ref nd), (2, .int (nI d)), (3, .ref v)] := hl
  obtain ⟨hd, hvA, hst⟩ := hI
  have hd : d ≤ nn.1.length := hd
  have hvA : NAt (preN (rtN xv)) AL v (nn.1.take (nn.1.length - d)) := hvA
  have hst : ∀ j, j < d → ∃ b, h j = some b ∧ NAt (preN (rtN xv)) AL b (nn.1.take (nn.1.length - j)) := hst
  have hvF : isF E v := hvA.f hDq9
  refine lv_aload_n hx hb d_Printer_path_4 rfl (lv_at hl 3 rfl) ?_
  obtain ⟨kd21, nu21, tx21, me21, pa21, na21, ix21, nm21, no21, sp21, ef21, hv21⟩ := hO.val ((isF.v hvF))
  have hup := hvA.up hDu ef21
  rcases pa21 with _ | b22
  · have hdn : d = nn.1.length := by
      rcases hup with ⟨h8, -⟩ | ⟨a8, i8, p8, -, -, h8, -⟩
      · have h9 := congrArg List.length h8
        rw [List.length_take, List.length_nil] at h9
        omega
      · cases h8
    refine vq_get (D := (dC, dI)) (ci := 9) (v := .null) (C := R_Value) (T := F_Value) (N := 10) hx hb hts in_Value hown hK hP (hO.inV (isF.v hvF)) ef21 rfl 4 (by decide) (hts _ z_329) (fun _ h9 => h9) rfl d_Printer_path_5 ?_
    refine lv_ifnullN (tgt := 35) hx hb d_Printer_path_8 (by decide) ?_
    refine lv_aload_n hx hb d_Printer_path_35 rfl (lv_at hl 0 rfl) ?_
    refine lv_bipush (v := 36) hx hb d_Printer_path_36 (by decide) ?_
    have hPc := hP.sub (ws' := [(p1, .inr (3, [.ref pb, .int (nI k), .ref ps])), (pb, .inl (cB, 16384, .inl g))]) [0, 1] rfl
    have hDc := hD.sub (ws' := [(p1, .inr (3, [.ref pb, .int (nI k), .ref ps])), (pb, .inl (cB, 16384, .inl g))]) [0, 1] (by decide) rfl
    have hFc := va_free (wc := [(p1, .inr (3, [.ref pb, .int (nI k), .ref ps])), (pb, .inl (cB, 16384, .inl g))]) hD hS hA [0, 1] rfl
    have hKc := hK.sub (tys' := [(cB, .byte)]) [0] rfl
    refine w_same (fun hq0 => ?_)
    refine vx_callv (vx_runV (As := [.int 36]) (rest := []) ⟨hx, hb, hml, hown, hts⟩ (t_put l hl9 dC dI cB p1 pb H (.ref ps) g k 36 hk) (cwV 1 hts (gt_V (own := R_Printer) (C := R_Printer) (i := 25) (y := y_Printer_put) i_Printer_put w_957 w_959 (gt_sel (y := y_Printer_put) (n := 3) (by decide +kernel)) w_6) rfl rfl rfl (by decide +kernel) ⟨Nat.le_of_ble_eq_true rfl, Nat.le_of_ble_eq_true rfl⟩) ⟨mx_blind, va_recv hK hP (ci := 3) (q0 := 0) rfl rfl, fun U hU hW => ⟨rfl, ⟨hU, by rw [hU]; exact hPc, va_K.moved hW.alike hKc, hDc.weaken (fun _ _ _ _ => trivial)⟩, hN.warm hW, by rw [hU]; exact ZX.moved' hW.alike (ZX.narrow' (ZX.kept' hZ hS.2.1) hFc)⟩⟩ rfl rfl hl.1 rfl (lv_room (Nat.le_of_ble_eq_true rfl)) d_Printer_path_38 ⟨Nat.le_of_ble_eq_true rfl, Nat.le_of_ble_eq_true rfl⟩) hS (fun q _ h => hFc q h) hFc (fun q _ h => hFc q h) (fun En ce q9 ⟨kx, gx⟩ t9 H1 locs ht hvm hw hB hz1 hk1 hS hce hcv hcl => ?_) (fun ⟨k23, g23⟩ t9 H1 locs ht hvm hw hB hz1 hk1 hS => ?_)
    · obtain ⟨hEn, hP1, hK1, hD1⟩ := hB
      rw [ht] at hP1
      obtain ⟨hP, hD⟩ := va_joinQ (wr := [(ps, .inl (cV, 32, .inr (.inr (.inr (.inr h)))))]) (w1 := [(p1, .inr (3, [.ref pb, .int (nI kx), .ref ps])), (pb, .inl (cB, 16384, .inl gx))]) hP hD [0, 1] [2] rfl rfl (by decide) (by decide) hk1 hFc hP1 hD1
      generalize H1 = H at hP hS hce ⊢
      have hP : va_P (dC, dI) classes ([(ps, .inl (cV, 32, .inr (.inr (.inr (.inr h))))), (p1, .inr (3, [.ref pb, .int (nI kx), .ref ps])), (pb, .inl (cB, 16384, .inl gx))] ++ va_pl L f) H := hP
      have hD : va_D A ([(ps, .inl (cV, 32, .inr (.inr (.inr (.inr h))))), (p1, .inr (3, [.ref pb, .int (nI kx), .ref ps])), (pb, .inl (cB, 16384, .inl gx))] ++ va_pl L f) := hD
      have hP := hP.part (cx := [(p1, .inr (3, [.ref pb, .int (nI kx), .ref ps])), (pb, .inl (cB, 16384, .inl gx)), (ps, .inl (cV, 32, .inr (.inr (.inr (.inr h)))))]) [1, 2, 0] rfl
      have hD := hD.part (cx := [(p1, .inr (3, [.ref pb, .int (nI kx), .ref ps])), (pb, .inl (cB, 16384, .inl gx)), (ps, .inl (cV, 32, .inr (.inr (.inr (.inr h)))))]) [1, 2, 0] (by decide) rfl
      exact vx_out (fun x hx => (hex x hx).elim) hlocks hce hcv hcl (fun t9 ht2 ha => ⟨(nI kx, gx, h), (WNO.go (T := [36]) (R := pthJ ⟨32, xv⟩ nn.1) rfl hw), ⟨hEn, by rw [ht2]; exact hP, va_K.moved ha hK, hD⟩, hS.F ht2⟩) hS.2.2 (Nat.le_of_ble_eq_true rfl) (Nat.le_of_ble_eq_true rfl)
    · obtain ⟨⟨hP1, hK1, hD1⟩, hz9⟩ := hB
      rw [ht] at hP1
      rw [ht] at hz9
      refine w_tight (hq0.trans hz9) ?_
      have hq0 := hq0.trans hz9
      obtain ⟨hP, hD⟩ := va_joinQ (wr := [(ps, .inl (cV, 32, .inr (.inr (.inr (.inr h)))))]) (w1 := [(p1, .inr (3, [.ref pb, .int (nI k23), .ref ps])), (pb, .inl (cB, 16384, .inl g23))]) hP hD [0, 1] [2] rfl rfl (by decide) (by decide) hk1 hFc hP1 hD1
      generalize H1 = H at hP hS hq0 ⊢
      have hP : va_P (dC, dI) classes ([(ps, .inl (cV, 32, .inr (.inr (.inr (.inr h))))), (p1, .inr (3, [.ref pb, .int (nI k23), .ref ps])), (pb, .inl (cB, 16384, .inl g23))] ++ va_pl L f) H := hP
      have hD : va_D A ([(ps, .inl (cV, 32, .inr (.inr (.inr (.inr h))))), (p1, .inr (3, [.ref pb, .int (nI k23), .ref ps])), (pb, .inl (cB, 16384, .inl g23))] ++ va_pl L f) := hD
      have hP := hP.part (cx := [(p1, .inr (3, [.ref pb, .int (nI k23), .ref ps])), (pb, .inl (cB, 16384, .inl g23)), (ps, .inl (cV, 32, .inr (.inr (.inr (.inr h)))))]) [1, 2, 0] rfl
      have hD := hD.part (cx := [(p1, .inr (3, [.ref pb, .int (nI k23), .ref ps])), (pb, .inl (cB, 16384, .inl g23)), (ps, .inl (cV, 32, .inr (.inr (.inr (.inr h)))))]) [1, 2, 0] (by decide) rfl
      have hw : WOK k g [36] k23 g23 := hw
      have hk23 := WOK.le hw hk
      have hR23 := WOK.go (T := [36]) (R := pthJ ⟨32, xv⟩ nn.1) rfl hw
      refine lv_iload_n hx hb d_Printer_path_41 rfl (lv_at hl 2 rfl) ?_
      refine lv_iconst (v := 1) hx hb d_Printer_path_42 (by decide) ?_
      refine lv_isub hx hb d_Printer_path_43 ?_
      refine lv_istore_n (lv' := [(3, .int ((nI d) - 1)), (0, .ref p1), (1, .ref nd), (2, .int (nI d))]) hx hb d_Printer_path_44 rfl hl (by decide) rfl (fun ls hl => ?_)
      have hl : lv_has ls 4 [(3, .int ((nI d) - 1)), (0, .ref p1), (1, .ref nd), (2, .int (nI d))] := hl
      refine w_loop (D := (dC, dI)) (cl := classes) (A := A) (H0 := s.heap) (nL := 4) 45 (σ := Nat × Nat × (Nat → Int32) × List Int32) (fun ⟨j, k1, g1, R9⟩ => j ≤ d ∧ k1 ≤ 16384 ∧ PTl xv nn.1 j R9 ∧ penL (k, 0, g) ([36] ++ pthJ ⟨32, xv⟩ nn.1) = penL (k1, 0, g1) R9) (fun ⟨j, k1, g1, R9⟩ => j) (fun ⟨j, k1, g1, R9⟩ => [(p1, .inr (3, [.ref pb, .int (nI k1), .ref ps])), (pb, .inl (cB, 16384, .inl g1)), (ps, .inl (cV, 32, .inr (.inr (.inr (.inr h)))))] ++ va_pl L f) (fun ⟨j, k1, g1, R9⟩ => [(0, .ref p1), (1, .ref nd), (2, .int (nI d)), (3, .int (nI j - 1))]) ?_ (d, k23, g23, pthJ ⟨32, xv⟩ nn.1) ⟨Nat.le_refl _, hk23, show PTl xv nn.1 d (pthJ ⟨32, xv⟩ nn.1) from by rw [hdn]; exact PTl.st xv nn.1, hR23⟩ hP hD hS (lv_sub hl [1, 2, 3, 0] rfl)
      rintro ⟨j, k1, g1, R9⟩ H locs ls hI ih hP hD hS hl
      have hP : va_P (dC, dI) classes ([(p1, .inr (3, [.ref pb, .int (nI k1), .ref ps])), (pb, .inl (cB, 16384, .inl g1)), (ps, .inl (cV, 32, .inr (.inr (.inr (.inr h)))))] ++ va_pl L f) H := hP
      have hD : va_D A ([(p1, .inr (3, [.ref pb, .int (nI k1), .ref ps])), (pb, .inl (cB, 16384, .inl g1)), (ps, .inl (cV, 32, .inr (.inr (.inr (.inr h)))))] ++ va_pl L f) := hD
      have hl : lv_has ls 4 [(0, .ref p1), (1, .ref nd), (2, .int (nI d)), (3, .int (nI j - 1))] := hl
      obtain ⟨hj, hkA, hPT, hR1⟩ := hI
      have hj : j ≤ d := hj
      have hkA : k1 ≤ 16384 := hkA
      have hPT : PTl xv nn.1 j R9 := hPT
      have hR1 : penL (k, 0, g) ([36] ++ pthJ ⟨32, xv⟩ nn.1) = penL (k1, 0, g1) R9 := hR1
      rcases j with _ | j
      · have hl : lv_has ls 4 [(0, .ref p1), (1, .ref nd), (2, .int (nI d)), (3, .int (-1))] := hl
        have hR9 : penL (k, 0, g) ([36] ++ pthJ ⟨32, xv⟩ nn.1) = penL (k1, 0, g1) [] := by rw [hR1, hPT.en]
        refine lv_iload_n hx hb d_Printer_path_45 rfl (lv_at hl 3 rfl) ?_
        refine lv_if_lt (tgt := 111) hx hb d_Printer_path_46 (by decide) (fun _ => ?_) (fun h => absurd (by decide) h)
        refine w_same (fun hq => ?_)
        refine W.widen (k := 1) (n := 6) (Nat.le_of_ble_eq_true rfl) (Nat.le_of_ble_eq_true rfl) ?_
        refine vx_ret ?_
        exact W.vret hx hb hr (fun t9 ht hW => ⟨⟨(k1, g1, h), rfl, hR9, ⟨by rw [ht]; exact hP, va_K.moved hW.alike hK, hD⟩, by rw [ht]; exact hq⟩, hS.F ht⟩) hS.2.2 d_Printer_path_111
      · rw [nI_pred] at hl
        have hl : lv_has ls 4 [(0, .ref p1), (1, .ref nd), (2, .int (nI d)), (3, .int (nI j))] := hl
        obtain ⟨st9, hst1, hst2⟩ := hst j (by omega)
        have hst3 : isF E st9 := hst2.f hDq9
        refine lv_iload_n hx hb d_Printer_path_45 rfl (lv_at hl 3 rfl) ?_
        refine lv_if_lt (tgt := 111) hx hb d_Printer_path_46 (by decide) (fun h => absurd h (nI_pos (by omega))) (fun _ => ?_)
        obtain ⟨kd24, nu24, tx24, me24, pa24, na24, ix24, nm24, no24, sp24, ef24, hv24⟩ := hO.val ((isF.v hst3))
        rcases hst2.up hDu ef24 with ⟨h8, -⟩ | ⟨a8, i8, p8, hp8, -, -, hix, hnm⟩
        · exfalso
          have h9 := congrArg List.length h8
          rw [List.length_take, List.length_nil] at h9
          omega
        rcases na24 with _ | b25
        · rcases hnm with ⟨b8, hb8, -⟩ | ⟨-, hs8⟩
          · cases hb8
          rw [← hix] at hs8
          obtain ⟨R8, hR8, hPT8⟩ := hPT.go (show j < nn.1.length by omega) hp8 hs8
          have hRa : penL (k, 0, g) ([36] ++ pthJ ⟨32, xv⟩ nn.1) = penL (k1, 0, g1) ([91] ++ (nmB ix24.toInt64 ++ ([93] ++ R8))) := by rw [hR1, hR8, List.append_assoc, List.append_assoc]
          refine lv_aload_n hx hb d_Printer_path_49 rfl (lv_at hl 0 rfl) ?_
          refine lv_bipush (v := 91) hx hb d_Printer_path_50 (by decide) ?_
          have hPc := hP.sub (ws' := [(p1, .inr (3, [.ref pb, .int (nI k1), .ref ps])), (pb, .inl (cB, 16384, .inl g1))]) [0, 1] rfl
          have hDc := hD.sub (ws' := [(p1, .inr (3, [.ref pb, .int (nI k1), .ref ps])), (pb, .inl (cB, 16384, .inl g1))]) [0, 1] (by decide) rfl
          have hFc := va_free (wc := [(p1, .inr (3, [.ref pb, .int (nI k1), .ref ps])), (pb, .inl (cB, 16384, .inl g1))]) hD hS hA [0, 1] rfl
          have hKc := hK.sub (tys' := [(cB, .byte)]) [0] rfl
          refine w_same (fun hq0 => ?_)
          refine vx_callv (vx_runV (As := [.int 91]) (rest := []) ⟨hx, hb, hml, hown, hts⟩ (t_put l hl9 dC dI cB p1 pb H (.ref ps) g1 k1 91 hkA) (cwV 1 hts (gt_V (own := R_Printer) (C := R_Printer) (i := 25) (y := y_Printer_put) i_Printer_put w_957 w_959 (gt_sel (y := y_Printer_put) (n := 3) (by decide +kernel)) w_6) rfl rfl rfl (by decide +kernel) ⟨Nat.le_of_ble_eq_true rfl, Nat.le_of_ble_eq_true rfl⟩) ⟨mx_blind, va_recv hK hP (ci := 3) (q0 := 0) rfl rfl, fun U hU hW => ⟨rfl, ⟨hU, by rw [hU]; exact hPc, va_K.moved hW.alike hKc, hDc.weaken (fun _ _ _ _ => trivial)⟩, hN.warm hW, by rw [hU]; exact ZX.moved' hW.alike (ZX.narrow' (ZX.kept' hZ hS.2.1) hFc)⟩⟩ rfl rfl hl.1 rfl (lv_room (Nat.le_of_ble_eq_true rfl)) d_Printer_path_52 ⟨Nat.le_of_ble_eq_true rfl, Nat.le_of_ble_eq_true rfl⟩) hS (fun q _ h => hFc q h) hFc (fun q _ h => hFc q h) (fun En ce q9 ⟨kx, gx⟩ t9 H1 locs ht hvm hw hB hz1 hk1 hS hce hcv hcl => ?_) (fun ⟨k26, g26⟩ t9 H1 locs ht hvm hw hB hz1 hk1 hS => ?_)
          · obtain ⟨hEn, hP1, hK1, hD1⟩ := hB
            rw [ht] at hP1
            obtain ⟨hP, hD⟩ := va_joinQ (wr := [(ps, .inl (cV, 32, .inr (.inr (.inr (.inr h)))))]) (w1 := [(p1, .inr (3, [.ref pb, .int (nI kx), .ref ps])), (pb, .inl (cB, 16384, .inl gx))]) hP hD [0, 1] [2] rfl rfl (by decide) (by decide) hk1 hFc hP1 hD1
            generalize H1 = H at hP hS hce ⊢
            have hP : va_P (dC, dI) classes ([(ps, .inl (cV, 32, .inr (.inr (.inr (.inr h))))), (p1, .inr (3, [.ref pb, .int (nI kx), .ref ps])), (pb, .inl (cB, 16384, .inl gx))] ++ va_pl L f) H := hP
            have hD : va_D A ([(ps, .inl (cV, 32, .inr (.inr (.inr (.inr h))))), (p1, .inr (3, [.ref pb, .int (nI kx), .ref ps])), (pb, .inl (cB, 16384, .inl gx))] ++ va_pl L f) := hD
            have hP := hP.part (cx := [(p1, .inr (3, [.ref pb, .int (nI kx), .ref ps])), (pb, .inl (cB, 16384, .inl gx)), (ps, .inl (cV, 32, .inr (.inr (.inr (.inr h)))))]) [1, 2, 0] rfl
            have hD := hD.part (cx := [(p1, .inr (3, [.ref pb, .int (nI kx), .ref ps])), (pb, .inl (cB, 16384, .inl gx)), (ps, .inl (cV, 32, .inr (.inr (.inr (.inr h)))))]) [1, 2, 0] (by decide) rfl
            exact vx_out (fun x hx => (hex x hx).elim) hlocks hce hcv hcl (fun t9 ht2 ha => ⟨(nI kx, gx, h), (WNO.go (T := [91]) (R := nmB ix24.toInt64 ++ ([93] ++ R8)) hRa hw), ⟨hEn, by rw [ht2]; exact hP, va_K.moved ha hK, hD⟩, hS.F ht2⟩) hS.2.2 (Nat.le_of_ble_eq_true rfl) (Nat.le_of_ble_eq_true rfl)
          · obtain ⟨⟨hP1, hK1, hD1⟩, hz9⟩ := hB
            rw [ht] at hP1
            rw [ht] at hz9
            refine w_tight (hq0.trans hz9) ?_
            have hq0 := hq0.trans hz9
            obtain ⟨hP, hD⟩ := va_joinQ (wr := [(ps, .inl (cV, 32, .inr (.inr (.inr (.inr h)))))]) (w1 := [(p1, .inr (3, [.ref pb, .int (nI k26), .ref ps])), (pb, .inl (cB, 16384, .inl g26))]) hP hD [0, 1] [2] rfl rfl (by decide) (by decide) hk1 hFc hP1 hD1
            generalize H1 = H at hP hS hq0 ⊢
            have hP : va_P (dC, dI) classes ([(ps, .inl (cV, 32, .inr (.inr (.inr (.inr h))))), (p1, .inr (3, [.ref pb, .int (nI k26), .ref ps])), (pb, .inl (cB, 16384, .inl g26))] ++ va_pl L f) H := hP
            have hD : va_D A ([(ps, .inl (cV, 32, .inr (.inr (.inr (.inr h))))), (p1, .inr (3, [.ref pb, .int (nI k26), .ref ps])), (pb, .inl (cB, 16384, .inl g26))] ++ va_pl L f) := hD
            have hP := hP.part (cx := [(p1, .inr (3, [.ref pb, .int (nI k26), .ref ps])), (pb, .inl (cB, 16384, .inl g26)), (ps, .inl (cV, 32, .inr (.inr (.inr (.inr h)))))]) [1, 2, 0] rfl
            have hD := hD.part (cx := [(p1, .inr (3, [.ref pb, .int (nI k26), .ref ps])), (pb, .inl (cB, 16384, .inl g26)), (ps, .inl (cV, 32, .inr (.inr (.inr (.inr h)))))]) [1, 2, 0] (by decide) rfl
            have hw : WOK k1 g1 [91] k26 g26 := hw
            have hk26 := WOK.le hw hkA
            have hR26 := WOK.go (T := [91]) (R := nmB ix24.toInt64 ++ ([93] ++ R8)) hRa hw
            refine lv_aload_n hx hb d_Printer_path_55 rfl (lv_at hl 0 rfl) ?_
            refine va_get (D := (dC, dI)) (ci := 3) (v := .ref ps) (C := R_Printer) (T := F_Printer) (N := 3) hx hb hts in_Printer hown hK hP 0 rfl rfl 2 (by decide) (hts _ w_143) (fun _ h9 => h9) rfl d_Printer_path_56 ?_
            refine lv_iload_n hx hb d_Printer_path_59 rfl (lv_at hl 3 rfl) ?_
            refine vq_ald0 hx hb hK hP 2 2 rfl rfl (show j < 32 by omega) (by decide) hst1 d_Printer_path_60 ?_
            refine vq_get (D := (dC, dI)) (ci := 9) (v := .null) (C := R_Value) (T := F_Value) (N := 10) hx hb hts in_Value hown hK hP (hO.inV (isF.v hst3)) ef24 rfl 5 (by decide) (hts _ z_332) (fun _ h9 => h9) rfl d_Printer_path_61 ?_
            refine lv_ifnonnullN hx hb d_Printer_path_64 ?_
            refine lv_aload_n hx hb d_Printer_path_67 rfl (lv_at hl 0 rfl) ?_
            refine lv_aload_n hx hb d_Printer_path_68 rfl (lv_at hl 0 rfl) ?_
            refine va_get (D := (dC, dI)) (ci := 3) (v := .ref ps) (C := R_Printer) (T := F_Printer) (N := 3) hx hb hts in_Printer hown hK hP 0 rfl rfl 2 (by decide) (hts _ w_143) (fun _ h9 => h9) rfl d_Printer_path_69 ?_
            refine lv_iload_n hx hb d_Printer_path_72 rfl (lv_at hl 3 rfl) ?_
            refine vq_ald0 hx hb hK hP 2 2 rfl rfl (show j < 32 by omega) (by decide) hst1 d_Printer_path_73 ?_
            refine vq_get (D := (dC, dI)) (ci := 9) (v := .int ix24) (C := R_Value) (T := F_Value) (N := 10) hx hb hts in_Value hown hK hP (hO.inV (isF.v hst3)) ef24 rfl 6 (by decide) (hts _ z_334) (fun _ h9 => h9) rfl d_Printer_path_74 ?_
            refine lv_i2l (v := ix24.toInt64) hx hb d_Printer_path_77 rfl ?_
            have hPc := hP.sub (ws' := [(p1, .inr (3, [.ref pb, .int (nI k26), .ref ps])), (pb, .inl (cB, 16384, .inl g26))]) [0, 1] rfl
            have hDc := hD.sub (ws' := [(p1, .inr (3, [.ref pb, .int (nI k26), .ref ps])), (pb, .inl (cB, 16384, .inl g26))]) [0, 1] (by decide) rfl
            have hFc := va_free (wc := [(p1, .inr (3, [.ref pb, .int (nI k26), .ref ps])), (pb, .inl (cB, 16384, .inl g26))]) hD hS hA [0, 1] rfl
            have hKc := hK.sub (tys' := [(cB, .byte)]) [0] rfl
            refine w_same (fun hq0 => ?_)
            refine vx_callv (vx_runV (As := [.long (ix24.toInt64)]) (rest := []) ⟨hx, hb, hml, hown, hts⟩ (p_Printer_number l hl9 dC dI H cB p1 pb ps g26 k26 hk26 (ix24.toInt64) (smL_i _)) (cwV 1 hts (gt_V (own := R_Printer) (C := R_Printer) (i := 60) (y := y_Printer_number) i_Printer_number z_963 z_965 (gt_sel (y := y_Printer_number) (n := 3) (by decide +kernel)) w_6) rfl rfl rfl (by decide +kernel) ⟨Nat.le_of_ble_eq_true rfl, Nat.le_of_ble_eq_true rfl⟩) ⟨mx_blind, va_recv hK hP (ci := 3) (q0 := 0) rfl rfl, fun U hU hW => ⟨rfl, ⟨hU, by rw [hU]; exact hPc, va_K.moved hW.alike hKc, hDc.weaken (fun _ _ _ _ => trivial)⟩, hN.warm hW, by rw [hU]; exact ZX.moved' hW.alike (ZX.narrow' (ZX.kept' hZ hS.2.1) hFc)⟩⟩ rfl rfl hl.1 rfl (lv_room (Nat.le_of_ble_eq_true rfl)) d_Printer_path_78 ⟨Nat.le_of_ble_eq_true rfl, Nat.le_of_ble_eq_true rfl⟩) hS (fun q _ h => hFc q h) hFc (fun q _ h => hFc q h) (fun En ce q9 ⟨kx, gx⟩ t9 H1 locs ht hvm hw hB hz1 hk1 hS hce hcv hcl => ?_) (fun ⟨k27, g27⟩ t9 H1 locs ht hvm hw hB hz1 hk1 hS => ?_)
            · obtain ⟨hEn, hP1, hK1, hD1⟩ := hB
              rw [ht] at hP1
              obtain ⟨hP, hD⟩ := va_joinQ (wr := [(ps, .inl (cV, 32, .inr (.inr (.inr (.inr h)))))]) (w1 := [(p1, .inr (3, [.ref pb, .int kx, .ref ps])), (pb, .inl (cB, 16384, .inl gx))]) hP hD [0, 1] [2] rfl rfl (by decide) (by decide) hk1 hFc hP1 hD1
              generalize H1 = H at hP hS hce ⊢
              have hP : va_P (dC, dI) classes ([(ps, .inl (cV, 32, .inr (.inr (.inr (.inr h))))), (p1, .inr (3, [.ref pb, .int kx, .ref ps])), (pb, .inl (cB, 16384, .inl gx))] ++ va_pl L f) H := hP
              have hD : va_D A ([(ps, .inl (cV, 32, .inr (.inr (.inr (.inr h))))), (p1, .inr (3, [.ref pb, .int kx, .ref ps])), (pb, .inl (cB, 16384, .inl gx))] ++ va_pl L f) := hD
              have hP := hP.part (cx := [(p1, .inr (3, [.ref pb, .int kx, .ref ps])), (pb, .inl (cB, 16384, .inl gx)), (ps, .inl (cV, 32, .inr (.inr (.inr (.inr h)))))]) [1, 2, 0] rfl
              have hD := hD.part (cx := [(p1, .inr (3, [.ref pb, .int kx, .ref ps])), (pb, .inl (cB, 16384, .inl gx)), (ps, .inl (cV, 32, .inr (.inr (.inr (.inr h)))))]) [1, 2, 0] (by decide) rfl
              exact vx_out (fun x hx => (hex x hx).elim) hlocks hce hcv hcl (fun t9 ht2 ha => ⟨(kx, gx, h), (WNO.go (T := (nmB ix24.toInt64)) (R := [93] ++ R8) hR26 hw), ⟨hEn, by rw [ht2]; exact hP, va_K.moved ha hK, hD⟩, hS.F ht2⟩) hS.2.2 (Nat.le_of_ble_eq_true rfl) (Nat.le_of_ble_eq_true rfl)
            · obtain ⟨⟨hP1, hK1, hD1⟩, hz9⟩ := hB
              rw [ht] at hP1
              rw [ht] at hz9
              refine w_tight (hq0.trans hz9) ?_
              have hq0 := hq0.trans hz9
              obtain ⟨hP, hD⟩ := va_joinQ (wr := [(ps, .inl (cV, 32, .inr (.inr (.inr (.inr h)))))]) (w1 := [(p1, .inr (3, [.ref pb, .int (nI k27), .ref ps])), (pb, .inl (cB, 16384, .inl g27))]) hP hD [0, 1] [2] rfl rfl (by decide) (by decide) hk1 hFc hP1 hD1
              generalize H1 = H at hP hS hq0 ⊢
              have hP : va_P (dC, dI) classes ([(ps, .inl (cV, 32, .inr (.inr (.inr (.inr h))))), (p1, .inr (3, [.ref pb, .int (nI k27), .ref ps])), (pb, .inl (cB, 16384, .inl g27))] ++ va_pl L f) H := hP
              have hD : va_D A ([(ps, .inl (cV, 32, .inr (.inr (.inr (.inr h))))), (p1, .inr (3, [.ref pb, .int (nI k27), .ref ps])), (pb, .inl (cB, 16384, .inl g27))] ++ va_pl L f) := hD
              have hP := hP.part (cx := [(p1, .inr (3, [.ref pb, .int (nI k27), .ref ps])), (pb, .inl (cB, 16384, .inl g27)), (ps, .inl (cV, 32, .inr (.inr (.inr (.inr h)))))]) [1, 2, 0] rfl
              have hD := hD.part (cx := [(p1, .inr (3, [.ref pb, .int (nI k27), .ref ps])), (pb, .inl (cB, 16384, .inl g27)), (ps, .inl (cV, 32, .inr (.inr (.inr (.inr h)))))]) [1, 2, 0] (by decide) rfl
              have hw : WOK k26 g26 ((nmB ix24.toInt64)) k27 g27 := hw
              have hk27 := WOK.le hw hk26
              have hR27 := WOK.go (T := (nmB ix24.toInt64)) (R := [93] ++ R8) hR26 hw
              refine lv_goto (tgt := 99) hx hb d_Printer_path_81 (by decide) ?_
              refine lv_aload_n hx hb d_Printer_path_99 rfl (lv_at hl 0 rfl) ?_
              refine lv_bipush (v := 93) hx hb d_Printer_path_100 (by decide) ?_
              have hPc := hP.sub (ws' := [(p1, .inr (3, [.ref pb, .int (nI k27), .ref ps])), (pb, .inl (cB, 16384, .inl g27))]) [0, 1] rfl
              have hDc := hD.sub (ws' := [(p1, .inr (3, [.ref pb, .int (nI k27), .ref ps])), (pb, .inl (cB, 16384, .inl g27))]) [0, 1] (by decide) rfl
              have hFc := va_free (wc := [(p1, .inr (3, [.ref pb, .int (nI k27), .ref ps])), (pb, .inl (cB, 16384, .inl g27))]) hD hS hA [0, 1] rfl
              have hKc := hK.sub (tys' := [(cB, .byte)]) [0] rfl
              refine w_same (fun hq0 => ?_)
              refine vx_callv (vx_runV (As := [.int 93]) (rest := []) ⟨hx, hb, hml, hown, hts⟩ (t_put l hl9 dC dI cB p1 pb H (.ref ps) g27 k27 93 hk27) (cwV 1 hts (gt_V (own := R_Printer) (C := R_Printer) (i := 25) (y := y_Printer_put) i_Printer_put w_957 w_959 (gt_sel (y := y_Printer_put) (n := 3) (by decide +kernel)) w_6) rfl rfl rfl (by decide +kernel) ⟨Nat.le_of_ble_eq_true rfl, Nat.le_of_ble_eq_true rfl⟩) ⟨mx_blind, va_recv hK hP (ci := 3) (q0 := 0) rfl rfl, fun U hU hW => ⟨rfl, ⟨hU, by rw [hU]; exact hPc, va_K.moved hW.alike hKc, hDc.weaken (fun _ _ _ _ => trivial)⟩, hN.warm hW, by rw [hU]; exact ZX.moved' hW.alike (ZX.narrow' (ZX.kept' hZ hS.2.1) hFc)⟩⟩ rfl rfl hl.1 rfl (lv_room (Nat.le_of_ble_eq_true rfl)) d_Printer_path_102 ⟨Nat.le_of_ble_eq_true rfl, Nat.le_of_ble_eq_true rfl⟩) hS (fun q _ h => hFc q h) hFc (fun q _ h => hFc q h) (fun En ce q9 ⟨kx, gx⟩ t9 H1 locs ht hvm hw hB hz1 hk1 hS hce hcv hcl => ?_) (fun ⟨k28, g28⟩ t9 H1 locs ht hvm hw hB hz1 hk1 hS => ?_)
              · obtain ⟨hEn, hP1, hK1, hD1⟩ := hB
                rw [ht] at hP1
                obtain ⟨hP, hD⟩ := va_joinQ (wr := [(ps, .inl (cV, 32, .inr (.inr (.inr (.inr h)))))]) (w1 := [(p1, .inr (3, [.ref pb, .int (nI kx), .ref ps])), (pb, .inl (cB, 16384, .inl gx))]) hP hD [0, 1] [2] rfl rfl (by decide) (by decide) hk1 hFc hP1 hD1
                generalize H1 = H at hP hS hce ⊢
                have hP : va_P (dC, dI) classes ([(ps, .inl (cV, 32, .inr (.inr (.inr (.inr h))))), (p1, .inr (3, [.ref pb, .int (nI kx), .ref ps])), (pb, .inl (cB, 16384, .inl gx))] ++ va_pl L f) H := hP
                have hD : va_D A ([(ps, .inl (cV, 32, .inr (.inr (.inr (.inr h))))), (p1, .inr (3, [.ref pb, .int (nI kx), .ref ps])), (pb, .inl (cB, 16384, .inl gx))] ++ va_pl L f) := hD
                have hP := hP.part (cx := [(p1, .inr (3, [.ref pb, .int (nI kx), .ref ps])), (pb, .inl (cB, 16384, .inl gx)), (ps, .inl (cV, 32, .inr (.inr (.inr (.inr h)))))]) [1, 2, 0] rfl
                have hD := hD.part (cx := [(p1, .inr (3, [.ref pb, .int (nI kx), .ref ps])), (pb, .inl (cB, 16384, .inl gx)), (ps, .inl (cV, 32, .inr (.inr (.inr (.inr h)))))]) [1, 2, 0] (by decide) rfl
                exact vx_out (fun x hx => (hex x hx).elim) hlocks hce hcv hcl (fun t9 ht2 ha => ⟨(nI kx, gx, h), (WNO.go (T := [93]) (R := R8) hR27 hw), ⟨hEn, by rw [ht2]; exact hP, va_K.moved ha hK, hD⟩, hS.F ht2⟩) hS.2.2 (Nat.le_of_ble_eq_true rfl) (Nat.le_of_ble_eq_true rfl)
              · obtain ⟨⟨hP1, hK1, hD1⟩, hz9⟩ := hB
                rw [ht] at hP1
                rw [ht] at hz9
                refine w_tight (hq0.trans hz9) ?_
                have hq0 := hq0.trans hz9
                obtain ⟨hP, hD⟩ := va_joinQ (wr := [(ps, .inl (cV, 32, .inr (.inr (.inr (.inr h)))))]) (w1 := [(p1, .inr (3, [.ref pb, .int (nI k28), .ref ps])), (pb, .inl (cB, 16384, .inl g28))]) hP hD [0, 1] [2] rfl rfl (by decide) (by decide) hk1 hFc hP1 hD1
                generalize H1 = H at hP hS hq0 ⊢
                have hP : va_P (dC, dI) classes ([(ps, .inl (cV, 32, .inr (.inr (.inr (.inr h))))), (p1, .inr (3, [.ref pb, .int (nI k28), .ref ps])), (pb, .inl (cB, 16384, .inl g28))] ++ va_pl L f) H := hP
                have hD : va_D A ([(ps, .inl (cV, 32, .inr (.inr (.inr (.inr h))))), (p1, .inr (3, [.ref pb, .int (nI k28), .ref ps])), (pb, .inl (cB, 16384, .inl g28))] ++ va_pl L f) := hD
                have hP := hP.part (cx := [(p1, .inr (3, [.ref pb, .int (nI k28), .ref ps])), (pb, .inl (cB, 16384, .inl g28)), (ps, .inl (cV, 32, .inr (.inr (.inr (.inr h)))))]) [1, 2, 0] rfl
                have hD := hD.part (cx := [(p1, .inr (3, [.ref pb, .int (nI k28), .ref ps])), (pb, .inl (cB, 16384, .inl g28)), (ps, .inl (cV, 32, .inr (.inr (.inr (.inr h)))))]) [1, 2, 0] (by decide) rfl
                have hw : WOK k27 g27 [93] k28 g28 := hw
                have hk28 := WOK.le hw hk27
                have hR28 := WOK.go (T := [93]) (R := R8) hR27 hw
                refine lv_iinc (v := nI j - 1) (lv' := [(3, .int (nI j - 1)), (0, .ref p1), (1, .ref nd), (2, .int (nI d))]) hx hb d_Printer_path_105 hl (k := 3) rfl (nI_neg1 j).symm (by decide) rfl (fun ls hl => ?_)
                refine lv_goto (tgt := 45) hx hb d_Printer_path_108 (by decide) ?_
                exact ih (j, k28, g28, R8) _ _ _ ⟨show j ≤ d by omega, hk28, hPT8, hR28⟩ (Nat.lt_succ_self j) hP hD hS (lv_sub hl [1, 2, 3, 0] rfl)
        · obtain ⟨b8, hb8, hs8⟩ := hnm.resolve_right (fun q => by cases q.1)
          have hb8 := Option.some.inj hb8
          rw [← hb8] at hs8
          obtain ⟨R8, hR8, hPT8⟩ := hPT.go (show j < nn.1.length by omega) hp8 hs8
          have hRa : penL (k, 0, g) ([36] ++ pthJ ⟨32, xv⟩ nn.1) = penL (k1, 0, g1) ([91] ++ (unL 39 (txL f b25) ++ ([93] ++ R8))) := by rw [hR1, hR8, List.append_assoc, List.append_assoc]
          refine lv_aload_n hx hb d_Printer_path_49 rfl (lv_at hl 0 rfl) ?_
          refine lv_bipush (v := 91) hx hb d_Printer_path_50 (by decide) ?_
          have hPc := hP.sub (ws' := [(p1, .inr (3, [.ref pb, .int (nI k1), .ref ps])), (pb, .inl (cB, 16384, .inl g1))]) [0, 1] rfl
          have hDc := hD.sub (ws' := [(p1, .inr (3, [.ref pb, .int (nI k1), .ref ps])), (pb, .inl (cB, 16384, .inl g1))]) [0, 1] (by decide) rfl
          have hFc := va_free (wc := [(p1, .inr (3, [.ref pb, .int (nI k1), .ref ps])), (pb, .inl (cB, 16384, .inl g1))]) hD hS hA [0, 1] rfl
          have hKc := hK.sub (tys' := [(cB, .byte)]) [0] rfl
          refine w_same (fun hq0 => ?_)
          refine vx_callv (vx_runV (As := [.int 91]) (rest := []) ⟨hx, hb, hml, hown, hts⟩ (t_put l hl9 dC dI cB p1 pb H (.ref ps) g1 k1 91 hkA) (cwV 1 hts (gt_V (own := R_Printer) (C := R_Printer) (i := 25) (y := y_Printer_put) i_Printer_put w_957 w_959 (gt_sel (y := y_Printer_put) (n := 3) (by decide +kernel)) w_6) rfl rfl rfl (by decide +kernel) ⟨Nat.le_of_ble_eq_true rfl, Nat.le_of_ble_eq_true rfl⟩) ⟨mx_blind, va_recv hK hP (ci := 3) (q0 := 0) rfl rfl, fun U hU hW => ⟨rfl, ⟨hU, by rw [hU]; exact hPc, va_K.moved hW.alike hKc, hDc.weaken (fun _ _ _ _ => trivial)⟩, hN.warm hW, by rw [hU]; exact ZX.moved' hW.alike (ZX.narrow' (ZX.kept' hZ hS.2.1) hFc)⟩⟩ rfl rfl hl.1 rfl (lv_room (Nat.le_of_ble_eq_true rfl)) d_Printer_path_52 ⟨Nat.le_of_ble_eq_true rfl, Nat.le_of_ble_eq_true rfl⟩) hS (fun q _ h => hFc q h) hFc (fun q _ h => hFc q h) (fun En ce q9 ⟨kx, gx⟩ t9 H1 locs ht hvm hw hB hz1 hk1 hS hce hcv hcl => ?_) (fun ⟨k29, g29⟩ t9 H1 locs ht hvm hw hB hz1 hk1 hS => ?_)
          · obtain ⟨hEn, hP1, hK1, hD1⟩ := hB
            rw [ht] at hP1
            obtain ⟨hP, hD⟩ := va_joinQ (wr := [(ps, .inl (cV, 32, .inr (.inr (.inr (.inr h)))))]) (w1 := [(p1, .inr (3, [.ref pb, .int (nI kx), .ref ps])), (pb, .inl (cB, 16384, .inl gx))]) hP hD [0, 1] [2] rfl rfl (by decide) (by decide) hk1 hFc hP1 hD1
            generalize H1 = H at hP hS hce ⊢
            have hP : va_P (dC, dI) classes ([(ps, .inl (cV, 32, .inr (.inr (.inr (.inr h))))), (p1, .inr (3, [.ref pb, .int (nI kx), .ref ps])), (pb, .inl (cB, 16384, .inl gx))] ++ va_pl L f) H := hP
            have hD : va_D A ([(ps, .inl (cV, 32, .inr (.inr (.inr (.inr h))))), (p1, .inr (3, [.ref pb, .int (nI kx), .ref ps])), (pb, .inl (cB, 16384, .inl gx))] ++ va_pl L f) := hD
            have hP := hP.part (cx := [(p1, .inr (3, [.ref pb, .int (nI kx), .ref ps])), (pb, .inl (cB, 16384, .inl gx)), (ps, .inl (cV, 32, .inr (.inr (.inr (.inr h)))))]) [1, 2, 0] rfl
            have hD := hD.part (cx := [(p1, .inr (3, [.ref pb, .int (nI kx), .ref ps])), (pb, .inl (cB, 16384, .inl gx)), (ps, .inl (cV, 32, .inr (.inr (.inr (.inr h)))))]) [1, 2, 0] (by decide) rfl
            exact vx_out (fun x hx => (hex x hx).elim) hlocks hce hcv hcl (fun t9 ht2 ha => ⟨(nI kx, gx, h), (WNO.go (T := [91]) (R := unL 39 (txL f b25) ++ ([93] ++ R8)) hRa hw), ⟨hEn, by rw [ht2]; exact hP, va_K.moved ha hK, hD⟩, hS.F ht2⟩) hS.2.2 (Nat.le_of_ble_eq_true rfl) (Nat.le_of_ble_eq_true rfl)
          · obtain ⟨⟨hP1, hK1, hD1⟩, hz9⟩ := hB
            rw [ht] at hP1
            rw [ht] at hz9
            refine w_tight (hq0.trans hz9) ?_
            have hq0 := hq0.trans hz9
            obtain ⟨hP, hD⟩ := va_joinQ (wr := [(ps, .inl (cV, 32, .inr (.inr (.inr (.inr h)))))]) (w1 := [(p1, .inr (3, [.ref pb, .int (nI k29), .ref ps])), (pb, .inl (cB, 16384, .inl g29))]) hP hD [0, 1] [2] rfl rfl (by decide) (by decide) hk1 hFc hP1 hD1
            generalize H1 = H at hP hS hq0 ⊢
            have hP : va_P (dC, dI) classes ([(ps, .inl (cV, 32, .inr (.inr (.inr (.inr h))))), (p1, .inr (3, [.ref pb, .int (nI k29), .ref ps])), (pb, .inl (cB, 16384, .inl g29))] ++ va_pl L f) H := hP
            have hD : va_D A ([(ps, .inl (cV, 32, .inr (.inr (.inr (.inr h))))), (p1, .inr (3, [.ref pb, .int (nI k29), .ref ps])), (pb, .inl (cB, 16384, .inl g29))] ++ va_pl L f) := hD
            have hP := hP.part (cx := [(p1, .inr (3, [.ref pb, .int (nI k29), .ref ps])), (pb, .inl (cB, 16384, .inl g29)), (ps, .inl (cV, 32, .inr (.inr (.inr (.inr h)))))]) [1, 2, 0] rfl
            have hD := hD.part (cx := [(p1, .inr (3, [.ref pb, .int (nI k29), .ref ps])), (pb, .inl (cB, 16384, .inl g29)), (ps, .inl (cV, 32, .inr (.inr (.inr (.inr h)))))]) [1, 2, 0] (by decide) rfl
            have hw : WOK k1 g1 [91] k29 g29 := hw
            have hk29 := WOK.le hw hkA
            have hR29 := WOK.go (T := [91]) (R := unL 39 (txL f b25) ++ ([93] ++ R8)) hRa hw
            refine lv_aload_n hx hb d_Printer_path_55 rfl (lv_at hl 0 rfl) ?_
            refine va_get (D := (dC, dI)) (ci := 3) (v := .ref ps) (C := R_Printer) (T := F_Printer) (N := 3) hx hb hts in_Printer hown hK hP 0 rfl rfl 2 (by decide) (hts _ w_143) (fun _ h9 => h9) rfl d_Printer_path_56 ?_
            refine lv_iload_n hx hb d_Printer_path_59 rfl (lv_at hl 3 rfl) ?_
            refine vq_ald0 hx hb hK hP 2 2 rfl rfl (show j < 32 by omega) (by decide) hst1 d_Printer_path_60 ?_
            refine vq_get (D := (dC, dI)) (ci := 9) (v := .ref b25) (C := R_Value) (T := F_Value) (N := 10) hx hb hts in_Value hown hK hP (hO.inV (isF.v hst3)) ef24 rfl 5 (by decide) (hts _ z_332) (fun _ h9 => h9) rfl d_Printer_path_61 ?_
            refine lv_ifnonnull (tgt := 84) hx hb d_Printer_path_64 (by decide) ?_
            refine lv_aload_n hx hb d_Printer_path_84 rfl (lv_at hl 0 rfl) ?_
            refine lv_aload_n hx hb d_Printer_path_85 rfl (lv_at hl 0 rfl) ?_
            refine va_get (D := (dC, dI)) (ci := 3) (v := .ref ps) (C := R_Printer) (T := F_Printer) (N := 3) hx hb hts in_Printer hown hK hP 0 rfl rfl 2 (by decide) (hts _ w_143) (fun _ h9 => h9) rfl d_Printer_path_86 ?_
            refine lv_iload_n hx hb d_Printer_path_89 rfl (lv_at hl 3 rfl) ?_
            refine vq_ald0 hx hb hK hP 2 2 rfl rfl (show j < 32 by omega) (by decide) hst1 d_Printer_path_90 ?_
            refine vq_get (D := (dC, dI)) (ci := 9) (v := .ref b25) (C := R_Value) (T := F_Value) (N := 10) hx hb hts in_Value hown hK hP (hO.inV (isF.v hst3)) ef24 rfl 5 (by decide) (hts _ z_332) (fun _ h9 => h9) rfl d_Printer_path_91 ?_
            refine lv_bipush (v := 39) hx hb d_Printer_path_94 (by decide) ?_
            have hPc := hP.part (cx := [(p1, .inr (3, [.ref pb, .int (nI k29), .ref ps])), (pb, .inl (cB, 16384, .inl g29))]) [0, 1] rfl
            have hDc := hD.part (cx := [(p1, .inr (3, [.ref pb, .int (nI k29), .ref ps])), (pb, .inl (cB, 16384, .inl g29))]) [0, 1] (by decide) rfl
            have hFc := va_freeP (cx := [(p1, .inr (3, [.ref pb, .int (nI k29), .ref ps])), (pb, .inl (cB, 16384, .inl g29))]) hD hS hA [0, 1] rfl
            have hKc := hK.sub (tys' := [(cB, .byte), (cI, .int), (cV, .object "QueryBench$Value")]) [0, 1, 2] rfl
            refine w_same (fun hq0 => ?_)
            refine vx_callv (vx_runV (As := [.ref b25, .int 39]) (rest := []) ⟨hx, hb, hml, hown, hts⟩ (p_Printer_text l hl9 K dC dI H cI cV E lv L f hO cB p1 pb ps g29 k29 hk29 b25 (hv24.2.2.2.1 b25 rfl) 39 (Or.inr rfl)) (cwV 2 hts (gt_V (own := R_Printer) (C := R_Printer) (i := 64) (y := y_Printer_text) i_Printer_text z_968 z_970 (gt_sel (y := y_Printer_text) (n := 3) (by decide +kernel)) w_6) rfl rfl rfl (by decide +kernel) ⟨Nat.le_of_ble_eq_true rfl, Nat.le_of_ble_eq_true rfl⟩) ⟨ml_blind, va_recv hK hP (ci := 3) (q0 := 0) rfl rfl, fun U hU hW => ⟨rfl, ⟨hU, by rw [hU]; exact hPc, va_K.moved hW.alike hKc, hDc.weaken (fun _ _ _ _ => trivial)⟩, hN.warm hW, by rw [hU]; exact ZX.moved' hW.alike (ZX.narrow' (ZX.kept' hZ hS.2.1) hFc), by rw [hU]; exact CE.call hC hS.2.1 hFc hW, va_AO.moved hW.alike hV⟩⟩ rfl rfl hl.1 rfl (lv_room (Nat.le_of_ble_eq_true rfl)) d_Printer_path_96 ⟨Nat.le_of_ble_eq_true rfl, Nat.le_of_ble_eq_true rfl⟩) hS (fun q _ h => hFc q h) hFc (fun q _ h => hFc q h) (fun En ce q9 ⟨kx, gx⟩ t9 H1 locs ht hvm hw hB hz1 hk1 hS hce hcv hcl => ?_) (fun ⟨k30, g30⟩ t9 H1 locs ht hvm hw hB hz1 hk1 hS => ?_)
            · obtain ⟨hEn, hP1, hK1, hD1⟩ := hB
              rw [ht] at hP1
              obtain ⟨hP, hD⟩ := va_joinP (wr := [(ps, .inl (cV, 32, .inr (.inr (.inr (.inr h)))))]) (rx := [(p1, .inr (3, [.ref pb, .int kx, .ref ps])), (pb, .inl (cB, 16384, .inl gx))]) (pl1 := va_pl L f) hP hD [0, 1] [2] rfl rfl (by decide) (by decide) hk1 hFc hP1 hD1
              generalize H1 = H at hP hS hce ⊢
              have hP : va_P (dC, dI) classes ([(ps, .inl (cV, 32, .inr (.inr (.inr (.inr h))))), (p1, .inr (3, [.ref pb, .int kx, .ref ps])), (pb, .inl (cB, 16384, .inl gx))] ++ va_pl L f) H := hP
              have hD : va_D A ([(ps, .inl (cV, 32, .inr (.inr (.inr (.inr h))))), (p1, .inr (3, [.ref pb, .int kx, .ref ps])), (pb, .inl (cB, 16384, .inl gx))] ++ va_pl L f) := hD
              have hP := hP.part (cx := [(p1, .inr (3, [.ref pb, .int kx, .ref ps])), (pb, .inl (cB, 16384, .inl gx)), (ps, .inl (cV, 32, .inr (.inr (.inr (.inr h)))))]) [1, 2, 0] rfl
              have hD := hD.part (cx := [(p1, .inr (3, [.ref pb, .int kx, .ref ps])), (pb, .inl (cB, 16384, .inl gx)), (ps, .inl (cV, 32, .inr (.inr (.inr (.inr h)))))]) [1, 2, 0] (by decide) rfl
              exact vx_out (fun x hx => (hex x hx).elim) hlocks hce hcv hcl (fun t9 ht2 ha => ⟨(kx, gx, h), (WNO.go (T := (unL 39 (txL f b25))) (R := [93] ++ R8) hR29 hw), ⟨hEn, by rw [ht2]; exact hP, va_K.moved ha hK, hD⟩, hS.F ht2⟩) hS.2.2 (Nat.le_of_ble_eq_true rfl) (Nat.le_of_ble_eq_true rfl)
            · obtain ⟨⟨hP1, hK1, hD1⟩, hz9⟩ := hB
              rw [ht] at hP1
              rw [ht] at hz9
              refine w_tight (hq0.trans hz9) ?_
              have hq0 := hq0.trans hz9
              obtain ⟨hP, hD⟩ := va_joinP (wr := [(ps, .inl (cV, 32, .inr (.inr (.inr (.inr h)))))]) (rx := [(p1, .inr (3, [.ref pb, .int (nI k30), .ref ps])), (pb, .inl (cB, 16384, .inl g30))]) (pl1 := va_pl L f) hP hD [0, 1] [2] rfl rfl (by decide) (by decide) hk1 hFc hP1 hD1
              generalize H1 = H at hP hS hq0 ⊢
              have hP : va_P (dC, dI) classes ([(ps, .inl (cV, 32, .inr (.inr (.inr (.inr h))))), (p1, .inr (3, [.ref pb, .int (nI k30), .ref ps])), (pb, .inl (cB, 16384, .inl g30))] ++ va_pl L f) H := hP
              have hD : va_D A ([(ps, .inl (cV, 32, .inr (.inr (.inr (.inr h))))), (p1, .inr (3, [.ref pb, .int (nI k30), .ref ps])), (pb, .inl (cB, 16384, .inl g30))] ++ va_pl L f) := hD
              have hP := hP.part (cx := [(p1, .inr (3, [.ref pb, .int (nI k30), .ref ps])), (pb, .inl (cB, 16384, .inl g30)), (ps, .inl (cV, 32, .inr (.inr (.inr (.inr h)))))]) [1, 2, 0] rfl
              have hD := hD.part (cx := [(p1, .inr (3, [.ref pb, .int (nI k30), .ref ps])), (pb, .inl (cB, 16384, .inl g30)), (ps, .inl (cV, 32, .inr (.inr (.inr (.inr h)))))]) [1, 2, 0] (by decide) rfl
              have hw : WOK k29 g29 ((unL 39 (txL f b25))) k30 g30 := hw
              have hk30 := WOK.le hw hk29
              have hR30 := WOK.go (T := (unL 39 (txL f b25))) (R := [93] ++ R8) hR29 hw
              refine lv_aload_n hx hb d_Printer_path_99 rfl (lv_at hl 0 rfl) ?_
              refine lv_bipush (v := 93) hx hb d_Printer_path_100 (by decide) ?_
              have hPc := hP.sub (ws' := [(p1, .inr (3, [.ref pb, .int (nI k30), .ref ps])), (pb, .inl (cB, 16384, .inl g30))]) [0, 1] rfl
              have hDc := hD.sub (ws' := [(p1, .inr (3, [.ref pb, .int (nI k30), .ref ps])), (pb, .inl (cB, 16384, .inl g30))]) [0, 1] (by decide) rfl
              have hFc := va_free (wc := [(p1, .inr (3, [.ref pb, .int (nI k30), .ref ps])), (pb, .inl (cB, 16384, .inl g30))]) hD hS hA [0, 1] rfl
              have hKc := hK.sub (tys' := [(cB, .byte)]) [0] rfl
              refine w_same (fun hq0 => ?_)
              refine vx_callv (vx_runV (As := [.int 93]) (rest := []) ⟨hx, hb, hml, hown, hts⟩ (t_put l hl9 dC dI cB p1 pb H (.ref ps) g30 k30 93 hk30) (cwV 1 hts (gt_V (own := R_Printer) (C := R_Printer) (i := 25) (y := y_Printer_put) i_Printer_put w_957 w_959 (gt_sel (y := y_Printer_put) (n := 3) (by decide +kernel)) w_6) rfl rfl rfl (by decide +kernel) ⟨Nat.le_of_ble_eq_true rfl, Nat.le_of_ble_eq_true rfl⟩) ⟨mx_blind, va_recv hK hP (ci := 3) (q0 := 0) rfl rfl, fun U hU hW => ⟨rfl, ⟨hU, by rw [hU]; exact hPc, va_K.moved hW.alike hKc, hDc.weaken (fun _ _ _ _ => trivial)⟩, hN.warm hW, by rw [hU]; exact ZX.moved' hW.alike (ZX.narrow' (ZX.kept' hZ hS.2.1) hFc)⟩⟩ rfl rfl hl.1 rfl (lv_room (Nat.le_of_ble_eq_true rfl)) d_Printer_path_102 ⟨Nat.le_of_ble_eq_true rfl, Nat.le_of_ble_eq_true rfl⟩) hS (fun q _ h => hFc q h) hFc (fun q _ h => hFc q h) (fun En ce q9 ⟨kx, gx⟩ t9 H1 locs ht hvm hw hB hz1 hk1 hS hce hcv hcl => ?_) (fun ⟨k31, g31⟩ t9 H1 locs ht hvm hw hB hz1 hk1 hS => ?_)
              · obtain ⟨hEn, hP1, hK1, hD1⟩ := hB
                rw [ht] at hP1
                obtain ⟨hP, hD⟩ := va_joinQ (wr := [(ps, .inl (cV, 32, .inr (.inr (.inr (.inr h)))))]) (w1 := [(p1, .inr (3, [.ref pb, .int (nI kx), .ref ps])), (pb, .inl (cB, 16384, .inl gx))]) hP hD [0, 1] [2] rfl rfl (by decide) (by decide) hk1 hFc hP1 hD1
                generalize H1 = H at hP hS hce ⊢
                have hP : va_P (dC, dI) classes ([(ps, .inl (cV, 32, .inr (.inr (.inr (.inr h))))), (p1, .inr (3, [.ref pb, .int (nI kx), .ref ps])), (pb, .inl (cB, 16384, .inl gx))] ++ va_pl L f) H := hP
                have hD : va_D A ([(ps, .inl (cV, 32, .inr (.inr (.inr (.inr h))))), (p1, .inr (3, [.ref pb, .int (nI kx), .ref ps])), (pb, .inl (cB, 16384, .inl gx))] ++ va_pl L f) := hD
                have hP := hP.part (cx := [(p1, .inr (3, [.ref pb, .int (nI kx), .ref ps])), (pb, .inl (cB, 16384, .inl gx)), (ps, .inl (cV, 32, .inr (.inr (.inr (.inr h)))))]) [1, 2, 0] rfl
                have hD := hD.part (cx := [(p1, .inr (3, [.ref pb, .int (nI kx), .ref ps])), (pb, .inl (cB, 16384, .inl gx)), (ps, .inl (cV, 32, .inr (.inr (.inr (.inr h)))))]) [1, 2, 0] (by decide) rfl
                exact vx_out (fun x hx => (hex x hx).elim) hlocks hce hcv hcl (fun t9 ht2 ha => ⟨(nI kx, gx, h), (WNO.go (T := [93]) (R := R8) hR30 hw), ⟨hEn, by rw [ht2]; exact hP, va_K.moved ha hK, hD⟩, hS.F ht2⟩) hS.2.2 (Nat.le_of_ble_eq_true rfl) (Nat.le_of_ble_eq_true rfl)
              · obtain ⟨⟨hP1, hK1, hD1⟩, hz9⟩ := hB
                rw [ht] at hP1
                rw [ht] at hz9
                refine w_tight (hq0.trans hz9) ?_
                have hq0 := hq0.trans hz9
                obtain ⟨hP, hD⟩ := va_joinQ (wr := [(ps, .inl (cV, 32, .inr (.inr (.inr (.inr h)))))]) (w1 := [(p1, .inr (3, [.ref pb, .int (nI k31), .ref ps])), (pb, .inl (cB, 16384, .inl g31))]) hP hD [0, 1] [2] rfl rfl (by decide) (by decide) hk1 hFc hP1 hD1
                generalize H1 = H at hP hS hq0 ⊢
                have hP : va_P (dC, dI) classes ([(ps, .inl (cV, 32, .inr (.inr (.inr (.inr h))))), (p1, .inr (3, [.ref pb, .int (nI k31), .ref ps])), (pb, .inl (cB, 16384, .inl g31))] ++ va_pl L f) H := hP
                have hD : va_D A ([(ps, .inl (cV, 32, .inr (.inr (.inr (.inr h))))), (p1, .inr (3, [.ref pb, .int (nI k31), .ref ps])), (pb, .inl (cB, 16384, .inl g31))] ++ va_pl L f) := hD
                have hP := hP.part (cx := [(p1, .inr (3, [.ref pb, .int (nI k31), .ref ps])), (pb, .inl (cB, 16384, .inl g31)), (ps, .inl (cV, 32, .inr (.inr (.inr (.inr h)))))]) [1, 2, 0] rfl
                have hD := hD.part (cx := [(p1, .inr (3, [.ref pb, .int (nI k31), .ref ps])), (pb, .inl (cB, 16384, .inl g31)), (ps, .inl (cV, 32, .inr (.inr (.inr (.inr h)))))]) [1, 2, 0] (by decide) rfl
                have hw : WOK k30 g30 [93] k31 g31 := hw
                have hk31 := WOK.le hw hk30
                have hR31 := WOK.go (T := [93]) (R := R8) hR30 hw
                refine lv_iinc (v := nI j - 1) (lv' := [(3, .int (nI j - 1)), (0, .ref p1), (1, .ref nd), (2, .int (nI d))]) hx hb d_Printer_path_105 hl (k := 3) rfl (nI_neg1 j).symm (by decide) rfl (fun ls hl => ?_)
                refine lv_goto (tgt := 45) hx hb d_Printer_path_108 (by decide) ?_
                exact ih (j, k31, g31, R8) _ _ _ ⟨show j ≤ d by omega, hk31, hPT8, hR31⟩ (Nat.lt_succ_self j) hP hD hS (lv_sub hl [1, 2, 3, 0] rfl)
  · rcases hup with ⟨-, h8⟩ | ⟨a8, i8, p8, hp8, hA8, ha8, -, -⟩
    · cases h8
    have ha8 := Option.some.inj ha8
    rw [← ha8] at hA8
    have hl8 := take_up hp8
    have hd1 : d < 32 := by have := hl8.1; omega
    have hdl := hl8.1
    refine vq_get (D := (dC, dI)) (ci := 9) (v := .ref b22) (C := R_Value) (T := F_Value) (N := 10) hx hb hts in_Value hown hK hP (hO.inV (isF.v hvF)) ef21 rfl 4 (by decide) (hts _ z_329) (fun _ h9 => h9) rfl d_Printer_path_5 ?_
    refine lv_ifnull hx hb d_Printer_path_8 ?_
    refine lv_iload_n hx hb d_Printer_path_11 rfl (lv_at hl 2 rfl) ?_
    refine lv_bipush (v := 32) hx hb d_Printer_path_12 (by decide) ?_
    refine lv_icmp_ge (tgt := 35) hx hb d_Printer_path_14 (by decide) (fun h => absurd h (fun h => by rw [show (32 : Int32) = nI 32 from rfl, nI_leI (by omega) (by omega)] at h; omega)) (fun _ => ?_)
    refine lv_aload_n hx hb d_Printer_path_17 rfl (lv_at hl 0 rfl) ?_
    refine va_get (D := (dC, dI)) (ci := 3) (v := .ref ps) (C := R_Printer) (T := F_Printer) (N := 3) hx hb hts in_Printer hown hK hP 0 rfl rfl 2 (by decide) (hts _ w_143) (fun _ h9 => h9) rfl d_Printer_path_18 ?_
    refine lv_iload_n hx hb d_Printer_path_21 rfl (lv_at hl 2 rfl) ?_
    refine lv_aload_n hx hb d_Printer_path_22 rfl (lv_at hl 3 rfl) ?_
    refine vq_ast hx hb hK hP hD hS 2 2 9 rfl rfl (hO.inV (isF.v hvF)) ef21 rfl hd1 (by decide) d_Printer_path_23 (fun H locs hP hD hS => ?_)
    have hP : va_P (dC, dI) classes ([(p1, .inr (3, [.ref pb, .int (nI k), .ref ps])), (pb, .inl (cB, 16384, .inl g)), (ps, .inl (cV, 32, .inr (.inr (.inr (.inr (va_up h d (some v)))))))] ++ va_pl L f) H := hP
    have hD : va_D A ([(p1, .inr (3, [.ref pb, .int (nI k), .ref ps])), (pb, .inl (cB, 16384, .inl g)), (ps, .inl (cV, 32, .inr (.inr (.inr (.inr (va_up h d (some v)))))))] ++ va_pl L f) := hD
    refine lv_iinc (v := nI (d + 1)) (lv' := [(2, .int (nI (d + 1))), (0, .ref p1), (1, .ref nd), (3, .ref v)]) hx hb d_Printer_path_24 hl (k := 2) rfl (nI_1 _) (by decide) rfl (fun ls hl => ?_)
    refine lv_aload_n hx hb d_Printer_path_27 rfl (lv_at hl 3 rfl) ?_
    refine vq_get (D := (dC, dI)) (ci := 9) (v := .ref b22) (C := R_Value) (T := F_Value) (N := 10) hx hb hts in_Value hown hK hP (hO.inV (isF.v hvF)) ef21 rfl 4 (by decide) (hts _ z_329) (fun _ h9 => h9) rfl d_Printer_path_28 ?_
    refine lv_astore_n (lv' := [(3, .ref b22), (2, .int (nI (d + 1))), (0, .ref p1), (1, .ref nd)]) hx hb d_Printer_path_31 rfl hl (by decide) rfl (fun ls hl => ?_)
    refine lv_goto (tgt := 4) hx hb d_Printer_path_32 (by decide) ?_
    exact ih (d + 1, b22, va_up h d (some v)) _ _ _ ⟨show d + 1 ≤ nn.1.length by omega, show NAt (preN (rtN xv)) AL b22 (nn.1.take (nn.1.length - (d + 1))) from by rw [← hl8.2]; exact hA8, fun j hj => by
      by_cases hjd : j = d
      · subst hjd; exact ⟨v, va_up_self _ _ _, hvA⟩
      · rw [va_up_ne _ _ hjd]; exact hst j (by omega)⟩ (by show nn.1.length - (d + 1) < nn.1.length - d; omega) hP hD hS (lv_sub hl [2, 3, 1, 0] rfl)
