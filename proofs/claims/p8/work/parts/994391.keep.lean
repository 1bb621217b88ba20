/-! documents and query of the class stay what they are -/
theorem PO.pfr {cI cV : ClassId} {E lv : Nat → Nat} {L : List Nat} {f : Nat → va_E} (hO : PO cI cV E lv L f) {ν ν' : Nat → Int64} {b : Nat} (h : E b = 4 ∨ E b = 5 ∨ E b = 6) : pf f ν' b = pf f ν b := by
  rcases h with h | h
  · obtain ⟨n, g, e, -⟩ := hO.txt h
    rw [pf_T e, pf_T e]
  · obtain ⟨n, g, e, -⟩ := hO.arr h
    rw [pf_A e, pf_A e]
theorem DOC.nz {E : Nat → Nat} {f : Nat → va_E} {PL : List NT} {AL : List Nat} (h : DOC E f PL AL) {a : Nat} (ha : a ∈ AL) : ¬ E a = 0 := by
  obtain ⟨k, hk⟩ := List.getElem?_of_mem ha
  have hlt := (List.getElem?_eq_some_iff.mp hk).1
  have hlt2 : k < PL.length := by rw [h.1.1]; exact hlt
  have hF := (h.2 k PL[k] a (List.getElem?_eq_getElem hlt2) hk).1
  rcases hF with q | q <;> (rw [q]; decide)
theorem DOC.keep {cI cV : ClassId} {E lv E2 : Nat → Nat} {L : List Nat} {f f2 : Nat → va_E} {PL : List NT} {AL : List Nat} (hO : PO cI cV E lv L f) (h : DOC E f PL AL) (hE : EX E E2) (hA : ∀ a, a ∈ AL → f2 a = f a) (hrow : ∀ b, E b = 4 ∨ E b = 5 ∨ E b = 6 → f2 b = f b) : DOC E2 f2 PL AL := by
  have own : ∀ a, a ∈ AL → isF E a → (∀ x, CL f a x → CL f2 a x) ∧ szF f2 a = szF f a ∧ (∀ i, memF f2 a i = memF f a i) ∧ fldE 9 (f2 a) = fldE 9 (f a) := fun a ha hF => by
    obtain ⟨kd, nu, tx, me, pa, na, ix, nm, no, sp, e, -⟩ := hO.val (isF.v hF)
    exact vSm.own hO hrow (isF.v hF) ⟨kd, nu, tx, me, pa, na, ix, nm, no, sp, pa, na, ix, nm, no, e, (hA a ha).trans e⟩
  have nam : ∀ a, a ∈ AL → isF E a → nmL f2 a = nmL f a := fun a ha hF => by
    obtain ⟨kd, nu, tx, me, pa, na, ix, nm, no, sp, e, -⟩ := hO.val (isF.v hF)
    exact nmL_same hO (isF.v hF) e ((hA a ha).trans e) (fun b hb => hrow b (Or.inl hb))
  have key : ∀ (r : Nat) (nd : NT) (a : Nat), nd.2.1 = r → NCr PL AL a nd → CU f2 a nd.2 := by
    intro r
    induction r with
    | zero =>
      intro nd a hr hn
      obtain ⟨k, hk, ha⟩ := hn
      obtain ⟨hF, hcu, -⟩ := h.2 k nd a hk ha
      obtain ⟨o1, o2, o3, o4⟩ := own a (List.mem_of_getElem? ha) hF
      obtain ⟨p, r, x⟩ := nd
      obtain rfl : r = 0 := hr
      have hcu : CL f a x ∧ (x : LF).1 < 5 ∧ szF f a = 0 := hcu
      exact ⟨o1 _ hcu.1, hcu.2.1, o2.trans hcu.2.2⟩
    | succ r ih =>
      intro nd a hr hn
      obtain ⟨k, hk, ha⟩ := hn
      obtain ⟨hF, hcu, hkd, -⟩ := h.2 k nd a hk ha
      obtain ⟨o1, o2, o3, o4⟩ := own a (List.mem_of_getElem? ha) hF
      obtain ⟨p, r2, x⟩ := nd
      obtain rfl : r2 = r + 1 := hr
      have hcu : CL f a x.1 ∧ (x.1.1 < 5 → x.2 = []) ∧ szF f a = x.2.length ∧ ∀ i c, x.2[i]? = some c → ∃ b, memF f a i = some b ∧ CVl f r b c.2 ∧ (x.1.1 = 6 → nmL f b = some c.1) := hcu
      refine ⟨o1 _ hcu.1, hcu.2.1, o2.trans hcu.2.2.1, fun i c hc => ?_⟩
      obtain ⟨b, b1, b2, b3⟩ := hcu.2.2.2 i c hc
      have hks : (ksU (⟨r + 1, x⟩ : VU))[i]? = some (c.1, ⟨r, c.2⟩) := by
        show (x.2.map (fun p => (p.1, (⟨r, p.2⟩ : VU))))[i]? = _
        rw [List.getElem?_map, hc]
        rfl
      obtain ⟨b', c1, c2⟩ := hkd i _ (kdsN_get (nd := (p, ⟨r + 1, x⟩)) hks)
      obtain rfl : b = b' := Option.some.inj (b1.symm.trans c1)
      have hbA : b ∈ AL := by obtain ⟨q, -, h9⟩ := c2; exact List.mem_of_getElem? h9
      have hbF : isF E b := by obtain ⟨q, h8, h9⟩ := c2; exact (h.2 q _ b h8 h9).1
      exact ⟨b, (o3 i).trans b1, ih (p ++ [i], ⟨r, c.2⟩) b rfl c2, fun z => (nam b hbA hbF).trans (b3 z)⟩
  refine ⟨h.1, fun k nd a hk ha => ?_⟩
  obtain ⟨hF, hcu, hkd, hsp, hpre, hnx, hdp⟩ := h.2 k nd a hk ha
  have haA := List.mem_of_getElem? ha
  obtain ⟨o1, o2, o3, o4⟩ := own a haA hF
  refine ⟨?_, key _ nd a rfl ⟨k, hk, ha⟩, fun i c hc => ?_, o4.trans hsp, hpre, by rw [hA a haA]; exact hnx, hdp⟩
  · rcases hF with q | q
    · exact Or.inl ((hE a (by rw [q]; decide)).trans q)
    · exact Or.inr ((hE a (by rw [q]; decide)).trans q)
  · obtain ⟨b, c1, c2⟩ := hkd i c hc
    exact ⟨b, (o3 i).trans c1, c2⟩
theorem DOC.kp {cI cV : ClassId} {E lv E2 : Nat → Nat} {L : List Nat} {f f2 : Nat → va_E} {PL : List NT} {AL : List Nat} (hO : PO cI cV E lv L f) (h : DOC E f PL AL) (kp : KPx E E2 f f2) : DOC E2 f2 PL AL := DOC.keep hO h kp.ex (fun a ha => (kp a (h.nz ha)).1) (fun b hb => (kp b (by omega)).1)
theorem DUP.keep {cI cV : ClassId} {E lv : Nat → Nat} {L : List Nat} {f f2 : Nat → va_E} {PL : List NT} {AL : List Nat} (hO : PO cI cV E lv L f) (hD : DOC E f PL AL) (h : DUP f PL AL) (hA : ∀ a, a ∈ AL → upS (f a) (f2 a)) (hv : ∀ a, a ∈ AL → ∃ kd nu tx me pa na ix nm no sp, f2 a = vE kd nu tx me pa na ix nm no sp) (hrow : ∀ b, E b = 4 → f2 b = f b) : DUP f2 PL AL := by
  have nam : ∀ (k : Nat) (nd : NT) (a : Nat), PL[k]? = some nd → AL[k]? = some a → nmL f2 a = nmL f a := fun k nd a hk ha => by
    have haA := List.mem_of_getElem? ha
    have hF := (hD.2 k nd a hk ha).1
    obtain ⟨kd, nu, tx, me, pa, na, ix, nm, no, sp, e, -⟩ := hO.val (isF.v hF)
    obtain ⟨kd', nu', tx', me', pa', na', ix', nm', no', sp', e'⟩ := hv a haA
    have hu := (hA a haA).2.1
    rw [e, e'] at hu
    have hu : va_rf na' = va_rf na := hu
    have hna : na' = na := rf_inj hu
    subst hna
    exact nmL_same hO (isF.v hF) e e' hrow
  refine ⟨fun a ha => ?_, fun k nd a hk ha => ?_⟩
  · have haA : a ∈ AL := by cases AL with
      | nil => cases ha
      | cons y AL => obtain rfl : y = a := Option.some.inj ha; exact List.mem_cons_self
    have h4 := h.1 a ha
    unfold refE at h4 ⊢
    rw [(hA a haA).1]
    exact h4
  · obtain ⟨k', nd', a', i, c, u1, u2, u3, u4, u5, u6, u7⟩ := h.2 k nd a hk ha
    exact ⟨k', nd', a', i, c, u1, u2, u3, u4, u5, u6.of (hA a (List.mem_of_getElem? ha)), fun z => (nam (k + 1) nd a hk ha).trans (u7 z)⟩
theorem DUP.kp {cI cV : ClassId} {E lv E2 : Nat → Nat} {L : List Nat} {f f2 : Nat → va_E} {PL : List NT} {AL : List Nat} (hO : PO cI cV E lv L f) (hD : DOC E f PL AL) (h : DUP f PL AL) (kp : KPx E E2 f f2) : DUP f2 PL AL := DUP.keep hO hD h (fun a ha => upS.e (kp a (hD.nz ha)).1) (fun a ha => by
  obtain ⟨k, hk⟩ := List.getElem?_of_mem ha
  have hlt : k < PL.length := by rw [hD.1.1]; exact (List.getElem?_eq_some_iff.mp hk).1
  obtain ⟨kd, nu, tx, me, pa, na, ix, nm, no, sp, e, -⟩ := hO.val (isF.v (hD.2 k PL[k] a (List.getElem?_eq_getElem hlt) hk).1)
  exact ⟨kd, nu, tx, me, pa, na, ix, nm, no, sp, (kp a (hD.nz ha)).1.trans e⟩) (fun b hb => (kp b (by omega)).1)
theorem DUP.num {cI cV : ClassId} {E lv : Nat → Nat} {L : List Nat} {f : Nat → va_E} {PL : List NT} {AL : List Nat} (hO : PO cI cV E lv L f) (hD : DOC E f PL AL) (h : DUP f PL AL) {ν : Nat → Int64} : DUP (pf f ν) PL AL := by
  have hva : ∀ a, a ∈ AL → ∃ kd nu tx me pa na ix nm no sp, f a = vE kd nu tx me pa na ix nm no sp := fun a ha => by
    obtain ⟨k, hk⟩ := List.getElem?_of_mem ha
    have hlt : k < PL.length := by rw [hD.1.1]; exact (List.getElem?_eq_some_iff.mp hk).1
    obtain ⟨kd, nu, tx, me, pa, na, ix, nm, no, sp, e, -⟩ := hO.val (isF.v (hD.2 k PL[k] a (List.getElem?_eq_getElem hlt) hk).1)
    exact ⟨kd, nu, tx, me, pa, na, ix, nm, no, sp, e⟩
  refine DUP.keep hO hD h (fun a ha => ?_) (fun a ha => ?_) (fun b hb => (hO.pfr (ν := nuF f) (Or.inl hb)).trans (congrFun (pf_self f) b))
  · obtain ⟨kd, nu, tx, me, pa, na, ix, nm, no, sp, e⟩ := hva a ha
    exact upS.v e (pf_V e)
  · obtain ⟨kd, nu, tx, me, pa, na, ix, nm, no, sp, e⟩ := hva a ha
    exact ⟨kd, ν a, tx, me, pa, na, ix, nm, no, sp, pf_V e⟩
/-- the class's documents and its query, and what they say; S marks the values of the query whose numbers change -/
def DQv (E : Nat → Nat) (f : Nat → va_E) (S : Nat → Nat) (dg : Nat → Option Nat) (X : Nat → Option (JVt 32)) (qy : Option Nat) (Y : Option QT) : Prop := (∀ j, j < 4 → (dg j = none ∧ X j = none) ∨ ∃ (dv : Nat) (x : JVt 32) (AL : List Nat), dg j = some dv ∧ X j = some x ∧ AL.head? = some dv ∧ DOC E f (preN (rtN x)) AL ∧ (∀ a, a ∈ AL → ¬ S a = 1) ∧ DUX f x AL) ∧ ((qy = none ∧ Y = none) ∨ ∃ (qu : Nat) (m : QT), qy = some qu ∧ Y = some m ∧ QD f S qu m) ∧ ∀ a, ¬ S a = 0 → ¬ E a = 0
section DQvs
variable {cI cV : ClassId} {E lv : Nat → Nat} {L : List Nat} {f : Nat → va_E} {S : Nat → Nat} {dg : Nat → Option Nat} {X : Nat → Option (JVt 32)} {qy : Option Nat} {Y : Option QT}
theorem DQv.x (hO : PO cI cV E lv L f) (h : DQv E f S dg X qy Y) : DQx E f (nuF f) S dg X qy Y := by
  refine ⟨fun j hj => ?_, ?_⟩
  · rcases h.1 j hj with q | ⟨dv, x, AL, q1, q2, q3, q4, q5, q6⟩
    · exact Or.inl q
    · exact Or.inr ⟨dv, x, AL, q1, q2, q3, fun ν2 hν => DOC.keep hO q4 EX.rf (fun a ha => (pf_ν (hν a (q5 a ha))).trans (congrFun (pf_self f) a)) (fun b hb => (hO.pfr (ν := nuF f) hb).trans (congrFun (pf_self f) b)), fun ν2 => ⟨DUP.num hO q4 q6.1, q6.2⟩⟩
  · rcases h.2.1 with q | ⟨qu, m, q1, q2, q3⟩
    · exact Or.inl q
    · exact Or.inr ⟨qu, m, q1, q2, by rw [pf_self]; exact q3⟩
theorem DQv.num (hI : CIn cI cV E lv L f dg qy) (h : DQv E f S dg X qy Y) {ν : Nat → Int64} (hν : NUg S (nuF f) ν) : DQv E (pf f ν) S dg X qy Y := by
  refine ⟨fun j hj => ?_, ?_, h.2.2⟩
  · rcases h.1 j hj with q | ⟨dv, x, AL, q1, q2, q3, q4, q5, q6⟩
    · exact Or.inl q
    · exact Or.inr ⟨dv, x, AL, q1, q2, q3, DOC.keep hI.po q4 EX.rf (fun a ha => (pf_ν (hν a (q5 a ha))).trans (congrFun (pf_self f) a)) (fun b hb => (hI.po.pfr (ν := nuF f) hb).trans (congrFun (pf_self f) b)), q5, ⟨DUP.num hI.po q4 q6.1, q6.2⟩⟩
  · rcases h.2.1 with q | ⟨qu, m, q1, q2, q3⟩
    · exact Or.inl q
    · exact Or.inr ⟨qu, m, q1, q2, QD_fr _ _ _ _ _ (show QD (pf f (nuF f)) S qu m by rw [pf_self]; exact q3) (hI.po.pfq (Or.inl (hI.2.2.2 qu q1).1)) (AGR.nu hν)⟩
theorem DQv.kp (hI : CIn cI cV E lv L f dg qy) (h : DQv E f S dg X qy Y) {E2 : Nat → Nat} {f2 : Nat → va_E} (kp : KPx E E2 f f2) : DQv E2 f2 S dg X qy Y := by
  refine ⟨fun j hj => ?_, ?_, fun a ha => by rw [(kp a (h.2.2 a ha)).2]; exact h.2.2 a ha⟩
  · rcases h.1 j hj with q | ⟨dv, x, AL, q1, q2, q3, q4, q5, q6⟩
    · exact Or.inl q
    · exact Or.inr ⟨dv, x, AL, q1, q2, q3, DOC.kp hI.po q4 kp, q5, ⟨DUP.kp hI.po q4 q6.1 kp, q6.2⟩⟩
  · rcases h.2.1 with q | ⟨qu, m, q1, q2, q3⟩
    · exact Or.inl q
    · have h7 := hI.2.2.2 qu q1
      exact Or.inr ⟨qu, m, q1, q2, QD_fr _ _ _ _ _ q3 (kp qu (by rw [h7.1]; decide)).1 (AGR.same (fun b hb => (kp b (h.2.2 b hb)).1))⟩
theorem DQv.same (hI : CIn cI cV E lv L f dg qy) (h : DQv E f S dg X qy Y) {f2 : Nat → va_E} (hf : ∀ a, E a ≠ 0 → f2 a = f a) : DQv E f2 S dg X qy Y := h.kp hI (fun a ha => ⟨hf a ha, rfl⟩)
theorem DQv.load (hI : CIn cI cV E lv L f dg qy) (h : DQv E f S dg X qy Y) {n v p : Nat} {N : List Nat} {E' : Nat → Nat} {f' : Nat → va_E} {lb : Nat} (hJ : JP cI cV E lv L f none 0 n v p N E' f' lb) {x : JVt 32} (hD : DCx E E' f' v x) (j : Nat) : DQv E' f' S (va_up dg j (some v)) (va_up X j (some x)) qy Y := by
  have kp : KPx E E' f f' := fun a ha => ⟨hJ.2.2.2.2.2.1.2 a ha (fun q => by cases q), hJ.ex a ha⟩
  have h2 := h.kp hI kp
  refine ⟨fun k hk => ?_, h2.2⟩
  by_cases e : k = j
  · subst e
    obtain ⟨AL, a1, a2, a3, a4⟩ := hD
    refine Or.inr ⟨v, x, AL, va_up_self _ _ _, va_up_self _ _ _, a2, a1, fun a ha q => ?_, a4⟩
    have h0 : S a = 0 := Classical.byContradiction (fun z => h.2.2 a z (a3 a ha).1)
    omega
  · rw [va_up_ne _ _ e, va_up_ne _ _ e]
    exact h2.1 k hk
theorem DQv.read (hI : CIn cI cV E lv L f dg qy) (h : DQv E f S dg X qy Y) {n v p z dm : Nat} {N : List Nat} {E' : Nat → Nat} {f' : Nat → va_E} (hQ : QPn cI cV E L f 0 n z 7 80 dm v p N E' f') {m : QT} (hD : DNx QD 0 E E' f' v m) : ∃ S', DQv E' f' S' dg X (some v) (some m) := by
  obtain ⟨lv', g, e⟩ := hQ.x lv hI.po 80 (Nat.le_refl _)
  have kp : KPx E E' f f' := KPx.of g hI.po
  obtain ⟨S', d1, d2, d3, d4⟩ := hD
  refine ⟨S', fun k hk => ?_, Or.inr ⟨v, m, rfl, rfl, d1⟩, fun a ha => (d2 a ha).2⟩
  rcases h.1 k hk with q | ⟨dv, x, AL, q1, q2, q3, q4, q5, q6⟩
  · exact Or.inl q
  · exact Or.inr ⟨dv, x, AL, q1, q2, q3, DOC.kp hI.po q4 kp, fun a ha z9 => q4.nz ha (d2 a (by rw [z9]; decide)).1, ⟨DUP.kp hI.po q4 q6.1 kp, q6.2⟩⟩
theorem DQv.ext {X2 : Nat → Option (JVt 32)} (h : DQv E f S dg X qy Y) (hX : ∀ k, k < 4 → X2 k = X k) : DQv E f S dg X2 qy Y := by
  refine ⟨fun j hj => ?_, h.2⟩
  rw [hX j hj]
  exact h.1 j hj
theorem DQv.none0 {X2 : Nat → Option (JVt 32)} (hd : ∀ k, k < 4 → dg k = none) (hX : ∀ k, k < 4 → X2 k = none) : DQv E f (fun _ => 0) dg X2 none none := ⟨fun j hj => Or.inl ⟨hd j hj, hX j hj⟩, Or.inl ⟨rfl, rfl⟩, fun _ h => absurd rfl h⟩
end DQvs
/-- the query that is held, by its meaning -/
def Yr (qg : Nat → Int32) (q9 : Int32) : Option QT := if q9 < 0 then none else (pQ qg q9.toNatClampNeg).map (·.2)
theorem Yr_n {qg : Nat → Int32} {n : Nat} {z : Bool × QT} (hn : n ≤ 4096) (h : pQ qg n = some z) : Yr qg (nI n) = some z.2 := by
  unfold Yr
  rw [if_neg (show ¬ nI n < 0 from fun q => by
    have h1 := Int32.lt_iff_toInt_lt.mp q
    rw [nI_toInt (by omega)] at h1
    have h2 : (0 : Int32).toInt = 0 := by decide
    omega), nI_clamp (by omega), h]
  rfl
theorem Yr_0 {qg : Nat → Int32} {q9 : Int32} (h : q9 < 0) : Yr qg q9 = none := if_pos h
theorem DQv0 {f : Nat → va_E} {qg : Nat → Int32} : ∃ S, DQv (fun _ => 0) f S (fun _ => none) (Xr (fun _ _ => 0) (fun _ => 0) (fun _ => 0)) none (Yr qg (-1)) := ⟨fun _ => 0, by rw [Yr_0 (show (-1 : Int32) < 0 by decide)]; exact DQv.none0 (fun _ _ => rfl) (fun _ _ => Xr_0 rfl)⟩
/-- work, as the law's own method answers -/
def LWK (X : Nat → Option (JVt 32)) (Y : Option QT) (d kf : Int32) (g0 : Int64) : Prop := (kf = 0 ∧ ∃ (j : Nat) (x : JVt 32) (m : QT), j < 4 ∧ d = nI j ∧ X j = some x ∧ Y = some m ∧ (m (rtN x) (rtN x)).2 ≤ 10000 ∧ g0 = (nI (m (rtN x) (rtN x)).2).toInt64) ∨ (kf = 1 ∧ ¬ (¬ d < 0 ∧ d < 4)) ∨ (kf = 2 ∧ ∃ j : Nat, j < 4 ∧ d = nI j ∧ (X j = none ∨ Y = none)) ∨ (kf = 3 ∧ ∃ (j : Nat) (x : JVt 32) (m : QT), j < 4 ∧ d = nI j ∧ X j = some x ∧ Y = some m ∧ 10000 < (m (rtN x) (rtN x)).2)
theorem nI_i4 {j : Nat} (hj : j < 4) : ¬ nI j < 0 ∧ nI j < 4 := by
  have h : j = 0 ∨ j = 1 ∨ j = 2 ∨ j = 3 := by omega
  rcases h with rfl | rfl | rfl | rfl <;> decide
theorem nI_in0 {j : Nat} (hj : j < 4) : 0 ≤ nI j ∧ nI j < 4 := by
  have h : j = 0 ∨ j = 1 ∨ j = 2 ∨ j = 3 := by omega
  rcases h with rfl | rfl | rfl | rfl <;> decide
theorem nI_jk {j k : Nat} (hj : j < 4) (hk : k < 4) (h : nI j = nI k) : j = k := by
  have h1 : j = 0 ∨ j = 1 ∨ j = 2 ∨ j = 3 := by omega
  have h2 : k = 0 ∨ k = 1 ∨ k = 2 ∨ k = 3 := by omega
  rcases h1 with rfl | rfl | rfl | rfl <;> rcases h2 with rfl | rfl | rfl | rfl <;> first | rfl | (revert h; decide)

