/-- sorts may grow: what was not there comes, a value under way becomes a value, a value one with a name -/
def EL (E E' : Nat → Nat) : Prop := ∀ b, E b = 0 ∨ E' b = E b ∨ (E b = 1 ∧ isF E' b) ∨ (E b = 2 ∧ E' b = 3)
def EX (E E' : Nat → Nat) : Prop := ∀ b, E b ≠ 0 → E' b = E b
theorem EX.el {E E' : Nat → Nat} (h : EX E E') : EL E E' := fun b => by
  by_cases hb : E b = 0
  · exact Or.inl hb
  · exact Or.inr (Or.inl (h b hb))
theorem EX.rf {E : Nat → Nat} : EX E E := fun _ _ => rfl
theorem EX.tr {E E' E2 : Nat → Nat} (h : EX E E') (g : EX E' E2) : EX E E2 := fun b hb => by rw [g b (by rw [h b hb]; exact hb), h b hb]
theorem EX.new {E : Nat → Nat} {q s : Nat} (hq : E q = 0) : EX E (va_up E q s) := fun b hb => va_up_ne _ _ (fun e => hb (by rw [e]; exact hq))
section Grow
variable {E E' lv lv' : Nat → Nat} {b kk : Nat}
theorem EL.k (h : EL E E') (hk : E b = kk) (h3 : 3 ≤ kk) : E' b = kk := by rcases h b with h | h | ⟨h, -⟩ | ⟨h, -⟩ <;> omega
theorem EL.v (h : EL E E') (hv : isV E b) : isV E' b := by
  rcases h b with h | h | ⟨-, h⟩ | ⟨-, h⟩
  · rcases hv with g | g | g <;> omega
  · rcases hv with g | g | g
    · exact Or.inl (h.trans g)
    · exact Or.inr (Or.inl (h.trans g))
    · exact Or.inr (Or.inr (h.trans g))
  · exact Or.inr h
  · exact Or.inr (Or.inr h)
theorem EL.f (h : EL E E') (hv : isF E b) : isF E' b := by
  rcases h b with h | h | ⟨h, -⟩ | ⟨-, h⟩
  · rcases hv with g | g <;> omega
  · rcases hv with g | g
    · exact Or.inl (h.trans g)
    · exact Or.inr (h.trans g)
  · rcases hv with g | g <;> omega
  · exact Or.inr h
theorem EL.a (h : EL E E') (hv : isA E b) : isA E' b := by
  rcases hv with g | g
  · exact Or.inl (h.k g (by decide))
  · exact Or.inr (h.k g (by decide))
end Grow
theorem oR.mono {P Q : Nat → Prop} {o : Option Nat} (h : oR P o) (g : ∀ b, P b → Q b) : oR Q o := fun b hb => g b (h b hb)
theorem VO.mono {E E' : Nat → Nat} {a : Nat} {kd : Int32} {tx me pa na nm no : Option Nat} (hE : EL E E') (ha : E' a = E a) (h : VO E a kd tx me pa na nm no) : VO E' a kd tx me pa na nm no := by
  obtain ⟨h1, h2, h3, h4, h5, h6, h7, h8⟩ := h
  refine ⟨h1.mono fun b hb => hE.k hb (by decide), h2.mono fun b hb => hE.a hb, h3.mono fun b hb => hE.v hb, h4.mono fun b hb => hE.k hb (by decide), h5.mono fun b hb => hE.v hb, h6.mono fun b hb => hE.v hb, fun h => ?_, fun h => ?_⟩
  · rw [ha] at h
    exact ⟨(h7 h).1, fun hk => ((h7 h).2 hk).mono fun b hb => hE.k hb (by decide)⟩
  · rw [ha] at h
    exact ⟨(h8 h).1, (h8 h).2.mono fun b hb => hE.k hb (by decide)⟩
/-- what a sort says of a cell -/
def CO (cI cV : ClassId) (E lv : Nat → Nat) (a : Nat) (e : va_E) : Prop :=
  (isV E a → ∃ kd nu tx me pa na ix nm no sp, e = vE kd nu tx me pa na ix nm no sp ∧ VO E a kd tx me pa na nm no) ∧
  (E a = 4 → ∃ n g, e = tE cI n g ∧ n ≤ 4096) ∧
  (isA E a → ∃ n g, e = aE cV n g ∧ n ≤ 4096 ∧ ∀ j, j < n → ∃ b, g j = some b ∧ isF E b ∧ (E a = 6 → E b = 3)) ∧
  (E a = 7 → ∃ fr sg fi la, e = qE fr sg fi la ∧ oR (fun b => E b = 8 ∧ lv b ≤ lv a) fi ∧ oR (fun b => E b = 8) la) ∧
  (E a = 8 → ∃ ds fi nx, e = gE ds fi nx ∧ GO E lv a fi nx) ∧
  (E a = 9 → ∃ kd nm hs ht st sp se fl nx, e = lE kd nm hs ht st sp se fl nx ∧ LO E lv a kd nm se fl nx) ∧
  (E a = 10 → ∃ kd fi nx qu le ri, e = kE kd fi nx qu le ri ∧ KO E lv a kd fi nx qu le ri) ∧
  (E a = 11 → ∃ kd va qu inn, e = oE kd va qu inn ∧ OO E lv a kd va qu inn)
theorem PO.co {cI cV : ClassId} {E lv : Nat → Nat} {L : List Nat} {f : Nat → va_E} (h : PO cI cV E lv L f) (a : Nat) : CO cI cV E lv a (f a) := ⟨h.val, h.txt, h.arr, h.qry, h.seg, h.sel, h.con, h.opd⟩
theorem PO.of {cI cV : ClassId} {E lv : Nat → Nat} {L : List Nat} {f : Nat → va_E} (h1 : ∀ a, E a ≠ 0 → a ∈ L) (h : ∀ a, CO cI cV E lv a (f a)) : PO cI cV E lv L f := ⟨h1, fun a => (h a).1, fun a => (h a).2.1, fun a => (h a).2.2.1, fun a => (h a).2.2.2.1, fun a => (h a).2.2.2.2.1, fun a => (h a).2.2.2.2.2.1, fun a => (h a).2.2.2.2.2.2.1, fun a => (h a).2.2.2.2.2.2.2⟩
theorem CO.mono {cI cV : ClassId} {E E' lv lv' : Nat → Nat} {a : Nat} {e : va_E} (hE : EL E E') (ha : E' a = E a) (hl : ∀ b, 7 ≤ E b → lv' b = lv b) (h : CO cI cV E lv a e) : CO cI cV E' lv' a e := by
  obtain ⟨h1, h2, h3, h4, h5, h6, h7, h8⟩ := h
  have L : ∀ k, 7 ≤ k → ∀ b, E b = k → E' b = k ∧ lv' b = lv b := fun k hk b hb => ⟨hE.k hb (by omega), hl b (by omega)⟩
  refine ⟨fun hv => ?_, fun hv => ?_, fun hv => ?_, fun hv => ?_, fun hv => ?_, fun hv => ?_, fun hv => ?_, fun hv => ?_⟩
  · obtain ⟨kd, nu, tx, me, pa, na, ix, nm, no, sp, e1, e2⟩ := h1 (by unfold isV at hv ⊢; rwa [ha] at hv)
    exact ⟨kd, nu, tx, me, pa, na, ix, nm, no, sp, e1, e2.mono hE ha⟩
  · exact h2 (ha ▸ hv)
  · obtain ⟨n, g, e1, e2, e3⟩ := h3 (by unfold isA at hv ⊢; rwa [ha] at hv)
    refine ⟨n, g, e1, e2, fun j hj => ?_⟩
    obtain ⟨b, b1, b2, b3⟩ := e3 j hj
    exact ⟨b, b1, hE.f b2, fun h6 => hE.k (b3 (ha ▸ h6)) (by decide)⟩
  · rw [ha] at hv
    obtain ⟨fr, sg, fi, la, e1, e2, e3⟩ := h4 hv
    have la' := (L 7 (by decide) a hv).2
    exact ⟨fr, sg, fi, la, e1, e2.mono fun b hb => ⟨(L 8 (by decide) b hb.1).1, by rw [(L 8 (by decide) b hb.1).2, la']; exact hb.2⟩, e3.mono fun b hb => (L 8 (by decide) b hb).1⟩
  · rw [ha] at hv
    obtain ⟨ds, fi, nx, e1, ⟨b, b1, b2, b3⟩, e3⟩ := h5 hv
    have la' := (L 8 (by decide) a hv).2
    exact ⟨ds, fi, nx, e1, ⟨b, b1, (L 9 (by decide) b b2).1, by rw [(L 9 (by decide) b b2).2, la']; exact b3⟩, e3.mono fun b hb => ⟨(L 8 (by decide) b hb.1).1, by rw [(L 8 (by decide) b hb.1).2, la']; exact hb.2.1, hb.2.2⟩⟩
  · rw [ha] at hv
    obtain ⟨kd, nm, hs, ht, st, sp, se, fl, nx, e1, c1, c2, c3, c4, c5, c6⟩ := h6 hv
    have la' := (L 9 (by decide) a hv).2
    exact ⟨kd, nm, hs, ht, st, sp, se, fl, nx, e1, c1.mono fun b hb => hE.k hb (by decide), c2.mono fun b hb => ⟨(L 10 (by decide) b hb.1).1, by rw [(L 10 (by decide) b hb.1).2, la']; exact hb.2⟩, c3.mono fun b hb => ⟨(L 9 (by decide) b hb.1).1, by rw [(L 9 (by decide) b hb.1).2, la']; exact hb.2.1, hb.2.2⟩, c4, c5, c6⟩
  · rw [ha] at hv
    obtain ⟨kd, fi, nx, qu, le, ri, e1, c1, c2, c3, c4, c5, c6⟩ := h7 hv
    have la' := (L 10 (by decide) a hv).2
    exact ⟨kd, fi, nx, qu, le, ri, e1, c1.mono fun b hb => ⟨(L 10 (by decide) b hb.1).1, by rw [(L 10 (by decide) b hb.1).2, la']; exact hb.2⟩, c2.mono fun b hb => ⟨(L 10 (by decide) b hb.1).1, by rw [(L 10 (by decide) b hb.1).2, la']; exact hb.2.1, hb.2.2⟩, c3.mono fun b hb => ⟨(L 7 (by decide) b hb.1).1, by rw [(L 7 (by decide) b hb.1).2, la']; exact hb.2⟩, c4.mono fun b hb => ⟨(L 11 (by decide) b hb.1).1, by rw [(L 11 (by decide) b hb.1).2, la']; exact hb.2⟩, c5.mono fun b hb => ⟨(L 11 (by decide) b hb.1).1, by rw [(L 11 (by decide) b hb.1).2, la']; exact hb.2⟩, c6⟩
  · rw [ha] at hv
    obtain ⟨kd, va, qu, inn, e1, c1, c2, c3, c4⟩ := h8 hv
    have la' := (L 11 (by decide) a hv).2
    exact ⟨kd, va, qu, inn, e1, c1.mono fun b hb => hE.f hb, c2.mono fun b hb => ⟨(L 7 (by decide) b hb.1).1, by rw [(L 7 (by decide) b hb.1).2, la']; exact hb.2⟩, c3.mono fun b hb => ⟨(L 11 (by decide) b hb.1).1, by rw [(L 11 (by decide) b hb.1).2, la']; exact hb.2⟩, c4⟩
/-- the pool goes on: what has stayed as it was, and the rest anew -/
theorem PO.go {cI cV : ClassId} {E E' lv lv' : Nat → Nat} {L L' : List Nat} {f f' : Nat → va_E} (h : PO cI cV E lv L f) (hE : EL E E') (hl : ∀ b, 7 ≤ E b → lv' b = lv b) (hL : ∀ a, E' a ≠ 0 → a ∈ L') (hc : ∀ a, E' a ≠ 0 → (E' a = E a ∧ f' a = f a) ∨ CO cI cV E' lv' a (f' a)) : PO cI cV E' lv' L' f' :=
  PO.of hL (fun a => by
    by_cases ha : E' a = 0
    · refine ⟨fun h => ?_, fun h => absurd (ha.symm.trans h) (by decide), fun h => ?_, fun h => absurd (ha.symm.trans h) (by decide), fun h => absurd (ha.symm.trans h) (by decide), fun h => absurd (ha.symm.trans h) (by decide), fun h => absurd (ha.symm.trans h) (by decide), fun h => absurd (ha.symm.trans h) (by decide)⟩
      · rcases h with h | h | h <;> omega
      · rcases h with h | h <;> omega
    · rcases hc a ha with ⟨h1, h2⟩ | h1
      · rw [h2]
        exact (h.co a).mono hE h1 hl
      · exact h1)
section Cells
variable {cI cV : ClassId} {E lv : Nat → Nat} {a : Nat} {e : va_E}
theorem CO.V (ha : isV E a) (h : ∃ kd nu tx me pa na ix nm no sp, e = vE kd nu tx me pa na ix nm no sp ∧ VO E a kd tx me pa na nm no) : CO cI cV E lv a e := ⟨fun _ => h, fun h => by rcases ha with g | g | g <;> omega, fun h => by rcases ha with g | g | g <;> rcases h with h | h <;> omega, fun h => by rcases ha with g | g | g <;> omega, fun h => by rcases ha with g | g | g <;> omega, fun h => by rcases ha with g | g | g <;> omega, fun h => by rcases ha with g | g | g <;> omega, fun h => by rcases ha with g | g | g <;> omega⟩
theorem CO.T (ha : E a = 4) (h : ∃ n g, e = tE cI n g ∧ n ≤ 4096) : CO cI cV E lv a e := ⟨fun g => by rcases g with g | g | g <;> omega, fun _ => h, fun h => by rcases h with h | h <;> omega, fun h => by omega, fun h => by omega, fun h => by omega, fun h => by omega, fun h => by omega⟩
theorem CO.A (ha : isA E a) (h : ∃ n g, e = aE cV n g ∧ n ≤ 4096 ∧ ∀ j, j < n → ∃ b, g j = some b ∧ isF E b ∧ (E a = 6 → E b = 3)) : CO cI cV E lv a e := ⟨fun g => by rcases ha with h | h <;> rcases g with g | g | g <;> omega, fun g => by rcases ha with h | h <;> omega, fun _ => h, fun g => by rcases ha with h | h <;> omega, fun g => by rcases ha with h | h <;> omega, fun g => by rcases ha with h | h <;> omega, fun g => by rcases ha with h | h <;> omega, fun g => by rcases ha with h | h <;> omega⟩
end Cells
/-- a value but for its nextOfAll; its nextMember -/
def nx8 (e : va_E) : va_E := match e with
  | .inr (c, [a0, a1, a2, a3, a4, a5, a6, a7, _, a9]) => .inr (c, [a0, a1, a2, a3, a4, a5, a6, a7, .null, a9])
  | e => e
def nmF (f : Nat → va_E) (a : Nat) : Option Nat := match f a with
  | .inr (_, [_, _, _, _, _, _, _, .ref b, _, _]) => some b
  | _ => none
theorem rf_inj {x y : Option Nat} (h : va_rf x = va_rf y) : x = y := by
  cases x <;> cases y <;> first | rfl | (cases h; rfl) | cases h
theorem nmF_v {f : Nat → va_E} {a : Nat} {kd : Int32} {nu : Int64} {tx me pa na : Option Nat} {ix : Int32} {nm no : Option Nat} {sp : Int32} (h : f a = vE kd nu tx me pa na ix nm no sp) : nmF f a = nm := by
  unfold nmF
  rw [h]
  cases nm <;> rfl
theorem nx8_v {e : va_E} {kd : Int32} {nu : Int64} {tx me pa na : Option Nat} {ix : Int32} {nm no : Option Nat} {sp : Int32} (he : ∃ kd nu tx me pa na ix nm no sp, e = vE kd nu tx me pa na ix nm no sp) (h : nx8 e = nx8 (vE kd nu tx me pa na ix nm no sp)) : ∃ no', e = vE kd nu tx me pa na ix nm no' sp := by
  obtain ⟨kd', nu', tx', me', pa', na', ix', nm', no', sp', rfl⟩ := he
  refine ⟨no', ?_⟩
  have h1 : ([.int kd', .long nu', va_rf tx', va_rf me', va_rf pa', va_rf na', .int ix', va_rf nm', .null, .int sp'] : List Value) = [.int kd, .long nu, va_rf tx, va_rf me, va_rf pa, va_rf na, .int ix, va_rf nm, .null, .int sp] := by
    have h2 := Sum.inr.inj h
    exact congrArg Prod.snd h2
  simp only [List.cons.injEq, Value.int.injEq, Value.long.injEq, and_true, true_and] at h1
  obtain ⟨a1, a2, a3, a4, a5, a6, a7, a8, a9⟩ := h1
  rw [a1, a2, rf_inj a3, rf_inj a4, rf_inj a5, rf_inj a6, a7, rf_inj a8, a9]
theorem nmF_8 {f f' : Nat → va_E} {a : Nat} (he : ∃ kd nu tx me pa na ix nm no sp, f a = vE kd nu tx me pa na ix nm no sp) (he' : ∃ kd nu tx me pa na ix nm no sp, f' a = vE kd nu tx me pa na ix nm no sp) (h : nx8 (f' a) = nx8 (f a)) : nmF f' a = nmF f a := by
  obtain ⟨kd, nu, tx, me, pa, na, ix, nm, no, sp, e1⟩ := he
  rw [e1] at h
  obtain ⟨no', e2⟩ := nx8_v he' h
  rw [nmF_v e1, nmF_v e2]
section Pools
variable {D : va_G} {cl : List vw_C} {A : Nat → Prop} {X : va_W} {L N : List Nat} {f : Nat → va_E} {H : Heap} {q : Nat} {e : va_E}
theorem plP_push (hP : va_P D cl ((X ++ [(q, e)]) ++ va_pl L f) H) (hq : q ∉ L) : va_P D cl (X ++ va_pl (L ++ [q]) (va_up f q e)) H := by
  have h := hP.swap
  rw [List.append_assoc, va_pl_push hq] at h
  exact h
theorem plD_push (hD : va_D A ((X ++ [(q, e)]) ++ va_pl L f)) (hq : q ∉ L) : va_D A (X ++ va_pl (L ++ [q]) (va_up f q e)) := by
  have h := hD.swap
  rw [List.append_assoc, va_pl_push hq] at h
  exact h
theorem plD_new (hD : va_D A ((X ++ [(q, e)]) ++ va_pl L f)) : q ∉ L := va_pl_fresh2 hD.swap
theorem plP_pre (hP : va_P D cl (X ++ va_pl (L ++ N) f) H) : va_P D cl (X ++ va_pl L f) H := fun k z hk => hP k z (by
  have e1 : X ++ va_pl (L ++ N) f = (X ++ va_pl L f) ++ va_pl N f := by unfold va_pl; rw [List.map_append, List.append_assoc]
  rw [e1, List.getElem?_append_left (List.getElem?_eq_some_iff.mp hk).1]
  exact hk)
theorem plD_pre (hD : va_D A (X ++ va_pl (L ++ N) f)) : va_D A (X ++ va_pl L f) := by
  have e1 : X ++ va_pl (L ++ N) f = (X ++ va_pl L f) ++ va_pl N f := by unfold va_pl; rw [List.map_append, List.append_assoc]
  rw [e1] at hD
  exact hD.by id (fun k z hk => by
    show ((X ++ va_pl L f) ++ va_pl N f)[k]? = some z
    rw [List.getElem?_append_left (List.getElem?_eq_some_iff.mp hk).1]
    exact hk) (fun i j _ _ h => h)
end Pools
