theorem vE_inj {kd kd' : Int32} {nu nu' : Int64} {tx me pa na tx' me' pa' na' : Option Nat} {ix ix' : Int32} {nm no nm' no' : Option Nat} {sp sp' : Int32} (h : vE kd nu tx me pa na ix nm no sp = vE kd' nu' tx' me' pa' na' ix' nm' no' sp') : kd = kd' ∧ nu = nu' ∧ tx = tx' ∧ me = me' ∧ pa = pa' ∧ na = na' ∧ ix = ix' ∧ nm = nm' ∧ no = no' ∧ sp = sp' := by
  have h1 := congrArg Prod.snd (Sum.inr.inj h)
  have h1 : ([.int kd, .long nu, va_rf tx, va_rf me, va_rf pa, va_rf na, .int ix, va_rf nm, va_rf no, .int sp] : List Value) = [.int kd', .long nu', va_rf tx', va_rf me', va_rf pa', va_rf na', .int ix', va_rf nm', va_rf no', .int sp'] := h1
  simp only [List.cons.injEq, Value.int.injEq, Value.long.injEq, and_true] at h1
  obtain ⟨a1, a2, a3, a4, a5, a6, a7, a8, a9, a10⟩ := h1
  exact ⟨a1, a2, rf_inj a3, rf_inj a4, rf_inj a5, rf_inj a6, a7, rf_inj a8, rf_inj a9, a10⟩
/-- the units that a row in the pool holds -/
def txL (f : Nat → va_E) (a : Nat) : List Int32 := match f a with
  | .inl (_, n, .inl g) => (List.range n).map g
  | _ => []
theorem txL_t {f : Nat → va_E} {a n : Nat} {cI : ClassId} {g : Nat → Int32} (h : f a = tE cI n g) : txL f a = (List.range n).map g := by unfold txL; rw [h]
theorem wrL_lt : ∀ (L : List Int32) (g : Nat → Int32) (k j : Nat), j < k → wrL g k L j = g j := by
  intro L
  induction L with
  | nil => intro g k j _; rfl
  | cons x xs ih =>
    intro g k j h
    show wrL (upd g k x) (k + 1) xs j = g j
    have h1 : j ≠ k := by omega
    rw [ih (upd g k x) (k + 1) j (by omega), pk_un h1]
theorem wrL_get : ∀ (L : List Int32) (g : Nat → Int32) (k j : Nat) (h : j < L.length), wrL g k L (k + j) = L[j] := by
  intro L
  induction L with
  | nil => intro g k j h; exact absurd h (Nat.not_lt_zero _)
  | cons x xs ih =>
    intro g k j h
    show wrL (upd g k x) (k + 1) xs (k + j) = _
    cases j with
    | zero =>
      show wrL (upd g k x) (k + 1) xs k = x
      rw [wrL_lt xs (upd g k x) (k + 1) k (by omega), pk_us]
    | succ j =>
      have h2 : j < xs.length := by simpa using h
      rw [show k + (j + 1) = k + 1 + j by omega, ih (upd g k x) (k + 1) j h2]
      rfl
theorem tx_list {g : Nat → Int32} {L : List Int32} : (List.range L.length).map (va_cpy (wrL g 0 L) (fun _ => 0) 0 0 L.length) = L := by
  apply List.ext_getElem
  · simp
  · intro j h1 h2
    rw [List.getElem_map, List.getElem_range]
    show (if 0 ≤ j ∧ j < 0 + L.length then wrL g 0 L (0 + (j - 0)) else 0) = L[j]
    rw [if_pos ⟨Nat.zero_le _, by omega⟩, show 0 + (j - 0) = 0 + j by omega, wrL_get L g 0 j h2]
/-- a member's name -/
def nmL (f : Nat → va_E) (a : Nat) : Option (List Int32) := match f a with
  | .inr (_, [_, _, _, _, _, .ref b, _, _, _, _]) => some (txL f b)
  | _ => none
theorem nmL_v {f : Nat → va_E} {a : Nat} {kd : Int32} {nu : Int64} {tx me pa na : Option Nat} {ix : Int32} {nm no : Option Nat} {sp : Int32} (h : f a = vE kd nu tx me pa na ix nm no sp) : nmL f a = na.map (txL f) := by
  unfold nmL
  rw [h]
  cases na <;> rfl
theorem txL_eq {f f' : Nat → va_E} {b : Nat} (h : f' b = f b) : txL f' b = txL f b := by unfold txL; rw [h]
theorem nmL_same {cI cV : ClassId} {E lv : Nat → Nat} {L : List Nat} {f f' : Nat → va_E} {a : Nat} (hO : PO cI cV E lv L f) (ha : isV E a) {kd kd' : Int32} {nu nu' : Int64} {tx me pa na tx' me' pa' : Option Nat} {ix ix' : Int32} {nm no nm' no' : Option Nat} {sp sp' : Int32} (e1 : f a = vE kd nu tx me pa na ix nm no sp) (e2 : f' a = vE kd' nu' tx' me' pa' na ix' nm' no' sp') (ht : ∀ b, E b = 4 → f' b = f b) : nmL f' a = nmL f a := by
  rw [nmL_v e1, nmL_v e2]
  obtain ⟨y1, y2, y3, y4, y5, y6, y7, y8, y9, y10, e3, hv⟩ := hO.val ha
  obtain ⟨x1, x2, x3, x4, x5, x6, x7, x8, x9, x10⟩ := vE_inj (e1.symm.trans e3)
  cases na with
  | none => rfl
  | some b =>
    have hb : E b = 4 := hv.2.2.2.1 b x6.symm
    show some (txL f' b) = some (txL f b)
    rw [txL_eq (ht b hb)]
/-- the members' names -/
def NMs (f : Nat → va_E) (ms : List Nat) (nms : List (List Int32)) : Prop := nms.length = ms.length ∧ ∀ (j a : Nat), ms[j]? = some a → nmL f a = nms[j]?
theorem NMs.keep {cI cV : ClassId} {E lv : Nat → Nat} {L : List Nat} {f f' : Nat → va_E} {ms : List Nat} {nms : List (List Int32)} (h : NMs f ms nms) (hO : PO cI cV E lv L f) (hm : ∀ (j a : Nat), ms[j]? = some a → isV E a) (hf : ∀ a, E a ≠ 0 → f' a = f a) : NMs f' ms nms := ⟨h.1, fun j a hj => by
  have hv := hm j a hj
  obtain ⟨kd, nu, tx, me, pa, na, ix, nm, no, sp, e, -⟩ := hO.val hv
  have h0 : E a ≠ 0 := by rcases hv with h | h | h <;> omega
  rw [nmL_same hO hv e ((hf a h0).trans e) (fun b hb => hf b (by omega))]
  exact h.2 j a hj⟩
theorem NMs.nn {f : Nat → va_E} {ms : List Nat} {nms : List (List Int32)} {X : List Int32} (h : NMs f ms nms) (hx : ∀ (j a : Nat), ms[j]? = some a → nmL f a ≠ some X) : ¬ X ∈ nms := fun hm => by
  obtain ⟨j, hj⟩ := List.getElem?_of_mem hm
  have hl := (List.getElem?_eq_some_iff.mp hj).1
  rw [h.1] at hl
  have ha := List.getElem?_eq_getElem hl
  exact hx j _ ha ((h.2 j _ ha).trans hj)
theorem NMs.sm {f : Nat → va_E} {ms : List Nat} {nms : List (List Int32)} {X : List Int32} {j a : Nat} (h : NMs f ms nms) (hj : ms[j]? = some a) (hx : nmL f a = some X) : X ∈ nms := List.mem_of_getElem? ((h.2 j a hj).symm.trans hx)
theorem nx8_5 {e e' : va_E} {kd : Int32} {nu : Int64} {tx me pa na : Option Nat} {ix : Int32} {nm no : Option Nat} {sp : Int32} (he : e = vE kd nu tx me pa na ix nm no sp) (he' : ∃ kd nu tx me pa na ix nm no sp, e' = vE kd nu tx me pa na ix nm no sp) (h : nx8 e' = nx8 e) : ∃ no', e' = vE kd nu tx me pa na ix nm no' sp := by
  rw [he] at h
  exact nx8_v he' h
/-- the loop over members, as it reads -/
def MI (bf : Nat → Int32) (n k d i D : Nat) (kd : Int32) (ms : List Nat) (f1 : Nat → va_E) (acc : List (List Int32 × JVt (k - 1))) (p : Nat) (mo dp : Int32) : Prop :=
  acc.length = ms.length ∧ ((mo = 1 ∧ jMem bf n (jV bf n (k - 1)) (decide (kd = 6)) (4097 - ms.length) p acc = jMem bf n (jV bf n (k - 1)) (decide (kd = 6)) 4097 i []) ∨ (mo = 0 ∧ jMem bf n (jV bf n (k - 1)) (decide (kd = 6)) 4097 i [] = some (acc, p))) ∧ dp = nI (max D (d + dpK (dpJ (k - 1)) acc)) ∧ (kd = 6 → NMs f1 ms (acc.map (·.1)))
/-- what the members say -/
def MFn (bf : Nat → Int32) (n k d i p D : Nat) (kd dp : Int32) : Prop := ∃ acc, jMem bf n (jV bf n (k - 1)) (decide (kd = 6)) 4097 i [] = some (acc, p) ∧ dp = nI (max D (d + dpK (dpJ (k - 1)) acc))
/-- what a container says -/
def CFn (bf : Nat → Int32) (n k d i p D : Nat) (kd dp : Int32) : Prop := 0 < k ∧ ∃ acc, jIns bf n (jV bf n (k - 1)) (decide (kd = 6)) i = some (acc, p) ∧ dp = nI (max D (d + 1 + dpK (dpJ (k - 1)) acc))
def CNn (bf : Nat → Int32) (n k i : Nat) (kd : Int32) : Prop := k = 0 ∨ jIns bf n (jV bf n (k - 1)) (decide (kd = 6)) i = none
section Mi
variable {bf : Nat → Int32} {n k d i D : Nat} {kd : Int32} {ms : List Nat} {f1 : Nat → va_E} {acc : List (List Int32 × JVt (k - 1))} {p : Nat} {mo dp : Int32} {nm : List Int32} {p2 p3 : Nat}
theorem MI.start (hD : d ≤ D) (hdp : dp = nI D) : MI bf n k d i D kd [] f1 [] i 1 dp := ⟨rfl, Or.inl ⟨rfl, rfl⟩, by rw [hdp]; congr 1; show D = max D (d + 0); omega, fun _ => ⟨rfl, fun j a h => by simp at h⟩⟩
theorem MI.go (h : MI bf n k d i D kd ms f1 acc p mo dp) (hm : ¬ mo = 0) : jMem bf n (jV bf n (k - 1)) (decide (kd = 6)) (4097 - ms.length) p acc = jMem bf n (jV bf n (k - 1)) (decide (kd = 6)) 4097 i [] := by
  rcases h.2.1 with h | h
  · exact h.2
  · exact absurd h.1 hm
theorem MI.bad1 (h : MI bf n k d i D kd ms f1 acc p mo dp) (hm : ¬ mo = 0) (hl : ms.length < 4096) (hn : jNm bf n (decide (kd = 6)) (acc.map (·.1)) p = none) : jMem bf n (jV bf n (k - 1)) (decide (kd = 6)) 4097 i [] = none := by
  rw [← h.go hm, show 4097 - ms.length = (4096 - ms.length) + 1 by omega]
  exact jMem_n hn
theorem MI.bad2 (h : MI bf n k d i D kd ms f1 acc p mo dp) (hm : ¬ mo = 0) (hl : ms.length < 4096) (hn : jNm bf n (decide (kd = 6)) (acc.map (·.1)) p = some (nm, p2)) (hv : jV bf n (k - 1) p2 = none) : jMem bf n (jV bf n (k - 1)) (decide (kd = 6)) 4097 i [] = none := by
  rw [← h.go hm, show 4097 - ms.length = (4096 - ms.length) + 1 by omega]
  exact jMem_v hn hv
theorem MI.fin (h : MI bf n k d i D kd ms f1 acc p mo dp) (hm : mo = 0) : MFn bf n k d i p D kd dp := by
  rcases h.2.1 with g | g
  · exact absurd (g.1.symm.trans hm) (by decide)
  · exact ⟨acc, g.2, h.2.2.1⟩
theorem MI.next (h : MI bf n k d i D kd ms f1 acc p mo dp) (hm : ¬ mo = 0) (hl : ms.length < 4096) (hn : jNm bf n (decide (kd = 6)) (acc.map (·.1)) p = some (nm, p2)) {x : JVt (k - 1)} (hv : jV bf n (k - 1) p2 = some (x, p3)) {dp3 : Int32} (hdp : dp3 = nI (max (max D (d + dpK (dpJ (k - 1)) acc)) (d + dpJ (k - 1) x))) {v : Nat} {f4 : Nat → va_E} (hN : kd = 6 → NMs f4 (ms ++ [v]) (acc.map (·.1) ++ [nm])) {p4 : Nat} {mo4 : Int32} (hc : (mo4 = 1 ∧ hereV bf n p3 = 44 ∧ p4 = p3 + 1) ∨ (mo4 = 0 ∧ ¬ hereV bf n p3 = 44 ∧ p4 = p3)) : MI bf n k d i D kd (ms ++ [v]) f4 (acc ++ [(nm, x)]) p4 mo4 dp3 := by
  have hg := h.go hm
  rw [show 4097 - ms.length = (4096 - ms.length) + 1 by omega] at hg
  refine ⟨by rw [List.length_append, List.length_append, h.1]; rfl, ?_, ?_, fun hk => ?_⟩
  · rcases hc with ⟨c1, c2, c3⟩ | ⟨c1, c2, c3⟩
    · refine Or.inl ⟨c1, ?_⟩
      rw [← hg, jMem_s hn hv c2, c3]
      congr 1
      rw [List.length_append]
      show 4097 - (ms.length + 1) = 4096 - ms.length
      omega
    · refine Or.inr ⟨c1, ?_⟩
      rw [← hg, jMem_e hn hv c2, c3]
  · rw [hdp, dpK_app]
    congr 1
    show max (max D (d + dpK (dpJ (k - 1)) acc)) (d + dpJ (k - 1) x) = max D (d + max (dpK (dpJ (k - 1)) acc) (dpJ (k - 1) x))
    omega
  · rw [List.map_append]
    exact hN hk
theorem jNm_1 (h : kd = 6) {nms : List (List Int32)} {o : Option (List Int32 × Nat)} (hn : jNam bf n nms p = o) : jNm bf n (decide (kd = 6)) nms p = o := by unfold jNm; rw [if_pos (decide_eq_true h)]; exact hn
theorem jNm_0 (h : ¬ kd = 6) {nms : List (List Int32)} : jNm bf n (decide (kd = 6)) nms p = some ([], p) := by unfold jNm; rw [if_neg (by rw [decide_eq_false h]; decide)]
theorem jclo5 (h : kd = 5) : jclo (decide (kd = 6)) = 93 := by rw [h]; rfl
theorem jclo6 (h : kd = 5 ∨ kd = 6) (h5 : ¬ kd = 5) : jclo (decide (kd = 6)) = 125 := by
  rcases h with h | h
  · exact absurd h h5
  · rw [h]; rfl
theorem CFn.empty {b : Int32} {D1 : Nat} (hk : 0 < k) (hb : jclo (decide (kd = 6)) = b) (h : hereV bf n (skipB bf n (i + 1)) = b) (hD : D1 = max D (d + 1)) (hdp : dp = nI D1) : CFn bf n k d i (skipB bf n (i + 1) + 1) D kd dp := ⟨hk, [], jIns_e (h.trans hb.symm), by rw [hdp, hD]; congr 1⟩
theorem CFn.full {b : Int32} {D1 : Nat} (hk : 0 < k) (hb : jclo (decide (kd = 6)) = b) (h : ¬ hereV bf n (skipB bf n (i + 1)) = b) (hM : MFn bf n k (d + 1) (skipB bf n (i + 1)) p D1 kd dp) (hc : hereV bf n p = b) (hD : D1 = max D (d + 1)) : CFn bf n k d i (p + 1) D kd dp := by
  obtain ⟨acc, h1, h2⟩ := hM
  refine ⟨hk, acc, jIns_ok (by rw [hb]; exact h) h1 (by rw [hb]; exact hc), ?_⟩
  rw [h2, hD]
  congr 1
  omega
theorem CNn.mem {b : Int32} (hb : jclo (decide (kd = 6)) = b) (h : ¬ hereV bf n (skipB bf n (i + 1)) = b) (hM : jMem bf n (jV bf n (k - 1)) (decide (kd = 6)) 4097 (skipB bf n (i + 1)) [] = none) : CNn bf n k i kd := Or.inr (jIns_0 (by rw [hb]; exact h) hM)
theorem CNn.clo {b : Int32} {D1 d1 : Nat} (hb : jclo (decide (kd = 6)) = b) (h : ¬ hereV bf n (skipB bf n (i + 1)) = b) (hM : MFn bf n k d1 (skipB bf n (i + 1)) p D1 kd dp) (hc : ¬ hereV bf n p = b) : CNn bf n k i kd := by
  obtain ⟨acc, h1, h2⟩ := hM
  exact Or.inr (jIns_1 (by rw [hb]; exact h) h1 (by rw [hb]; exact hc))
/-- a container at the depth of k, as a value -/
theorem CFn.jf {s : Nat} (h : CFn bf n k d (skipB bf n i) p D kd dp) (hkd : (kd = 5 ∧ hereV bf n (skipB bf n i) = 91) ∨ (kd = 6 ∧ hereV bf n (skipB bf n i) = 123)) (hs : s = skipB bf n p) : JF bf n k d i s D dp := by
  obtain ⟨hk, acc, h1, h2⟩ := h
  refine JF.con (ob := decide (kd = 6)) (D2 := max D (d + 1 + dpK (dpJ (k - 1)) acc)) hk ?_ h1 hs rfl h2
  rcases hkd with ⟨e, e2⟩ | ⟨e, e2⟩
  · rw [e2, e]; rfl
  · rw [e2, e]; rfl
theorem CNn.jv (h : CNn bf n k (skipB bf n i) kd) (hkd : (kd = 5 ∧ hereV bf n (skipB bf n i) = 91) ∨ (kd = 6 ∧ hereV bf n (skipB bf n i) = 123)) : jV bf n k i = none := by
  rcases Nat.eq_zero_or_pos k with hk | hk
  · subst hk
    exact jV_deep (hkd.elim (fun h => Or.inl h.2) (fun h => Or.inr h.2))
  · rcases h with h | h
    · omega
    · refine jV_con0 (ob := decide (kd = 6)) hk ?_ h
      rcases hkd with ⟨e, e2⟩ | ⟨e, e2⟩
      · rw [e2, e]; rfl
      · rw [e2, e]; rfl
end Mi
/-- a whole document, as the class reads it -/
def jR (f : Nat → Int32) (n : Nat) : Option (JVt 32) := match jV f n 32 0 with
  | none => none
  | some p => if p.2 < n then none else some p.1
theorem jR_0 {f : Nat → Int32} {n : Nat} (h : jV f n 32 0 = none) : jR f n = none := by unfold jR; rw [h]
theorem jR_1 {f : Nat → Int32} {n p : Nat} {x : JVt 32} (h : jV f n 32 0 = some (x, p)) (hp : p < n) : jR f n = none := by unfold jR; rw [h]; simp only []; rw [if_pos hp]
theorem jR_ok {f : Nat → Int32} {n p : Nat} {x : JVt 32} (h : jV f n 32 0 = some (x, p)) (hp : ¬ p < n) : jR f n = some x := by unfold jR; rw [h]; simp only []; rw [if_neg hp]
