/-! a unit as it is written -/
def shE (u q : Int32) : Int32 := if u = 8 then 98 else if u = 9 then 116 else if u = 10 then 110 else if u = 12 then 102 else if u = 13 then 114 else if u = q ∨ u = 92 then u else 0
/-- the digit for a letter's four bits, in the class's own text -/
def hxC (x : Int32) : Int32 := ctx 4 (x &&& 15).toNatClampNeg &&& 255
theorem hxC_eq (x : Int32) : hxC x = hxD x := by
  obtain ⟨m, hm, e⟩ := and15 x
  unfold hxC hxD
  rw [e, nI_clamp (by omega)]
  have key : ∀ j, j < 16 → ctx 4 j &&& 255 = mtx 6 j &&& 255 := by decide +kernel
  exact key m hm
theorem unB_sh {u q : Int32} (hq : q = 34 ∨ q = 39) (h : ¬ shE u q = 0) : unB q u = [92, shE u q] := by
  unfold unB
  by_cases h1 : u = q ∨ u = 92
  · rw [if_pos h1]
    have e : shE u q = u := by
      unfold shE
      rcases h1 with rfl | rfl
      · rcases hq with rfl | rfl <;> first | rfl | decide
      · rw [if_neg (by decide), if_neg (by decide), if_neg (by decide), if_neg (by decide), if_neg (by decide), if_pos (Or.inr rfl)]
    rw [e]
  · rw [if_neg h1]
    unfold shE at h ⊢
    by_cases a1 : u = 8
    · subst a1
      rw [if_pos (show ¬ escK 8 < 0 by decide), if_pos (show (8 : Int32) = 8 from rfl)]
      exact congrArg (fun z => [92, z]) (show mtx 4 (escK 8).toNatClampNeg &&& 255 = 98 by decide +kernel)
    · by_cases a2 : u = 9
      · subst a2
        rw [if_pos (show ¬ escK 9 < 0 by decide), if_neg (show ¬ (9 : Int32) = 8 by decide), if_pos (show (9 : Int32) = 9 from rfl)]
        exact congrArg (fun z => [92, z]) (show mtx 4 (escK 9).toNatClampNeg &&& 255 = 116 by decide +kernel)
      · by_cases a3 : u = 10
        · subst a3
          rw [if_pos (show ¬ escK 10 < 0 by decide), if_neg (show ¬ (10 : Int32) = 8 by decide), if_neg (show ¬ (10 : Int32) = 9 by decide), if_pos (show (10 : Int32) = 10 from rfl)]
          exact congrArg (fun z => [92, z]) (show mtx 4 (escK 10).toNatClampNeg &&& 255 = 110 by decide +kernel)
        · by_cases a4 : u = 12
          · subst a4
            rw [if_pos (show ¬ escK 12 < 0 by decide), if_neg (show ¬ (12 : Int32) = 8 by decide), if_neg (show ¬ (12 : Int32) = 9 by decide), if_neg (show ¬ (12 : Int32) = 10 by decide), if_pos (show (12 : Int32) = 12 from rfl)]
            exact congrArg (fun z => [92, z]) (show mtx 4 (escK 12).toNatClampNeg &&& 255 = 102 by decide +kernel)
          · by_cases a5 : u = 13
            · subst a5
              rw [if_pos (show ¬ escK 13 < 0 by decide), if_neg (show ¬ (13 : Int32) = 8 by decide), if_neg (show ¬ (13 : Int32) = 9 by decide), if_neg (show ¬ (13 : Int32) = 10 by decide), if_neg (show ¬ (13 : Int32) = 12 by decide), if_pos (show (13 : Int32) = 13 from rfl)]
              exact congrArg (fun z => [92, z]) (show mtx 4 (escK 13).toNatClampNeg &&& 255 = 114 by decide +kernel)
            · rw [if_neg a1, if_neg a2, if_neg a3, if_neg a4, if_neg a5, if_neg h1] at h
              exact absurd rfl h
theorem sh_no {u q : Int32} (h : shE u q = 0) : (¬ (u = q ∨ u = 92) ∨ u = 0) ∧ escK u < 0 := by
  unfold shE at h
  by_cases a1 : u = 8
  · rw [if_pos a1] at h; exact absurd h (by decide)
  · by_cases a2 : u = 9
    · rw [if_neg a1, if_pos a2] at h; exact absurd h (by decide)
    · by_cases a3 : u = 10
      · rw [if_neg a1, if_neg a2, if_pos a3] at h; exact absurd h (by decide)
      · by_cases a4 : u = 12
        · rw [if_neg a1, if_neg a2, if_neg a3, if_pos a4] at h; exact absurd h (by decide)
        · by_cases a5 : u = 13
          · rw [if_neg a1, if_neg a2, if_neg a3, if_neg a4, if_pos a5] at h; exact absurd h (by decide)
          · rw [if_neg a1, if_neg a2, if_neg a3, if_neg a4, if_neg a5] at h
            refine ⟨?_, by unfold escK; rw [if_neg a1, if_neg a2, if_neg a3, if_neg a4, if_neg a5]; decide⟩
            by_cases a6 : u = q ∨ u = 92
            · rw [if_pos a6] at h; exact Or.inr h
            · exact Or.inl a6
theorem sh_nq {u q : Int32} (hq : q = 34 ∨ q = 39) (h : shE u q = 0) : ¬ (u = q ∨ u = 92) := by
  rcases (sh_no h).1 with h1 | h1
  · exact h1
  · rw [h1]
    rcases hq with rfl | rfl <;> decide
theorem unB_pl {u q : Int32} (hq : q = 34 ∨ q = 39) (h : shE u q = 0) (h1 : ¬ u < 32) (h2 : u ≤ 126) : unB q u = [u] := by
  unfold unB
  rw [if_neg (sh_nq hq h), if_neg (show ¬ ¬ escK u < 0 from fun z => z (sh_no h).2), if_neg (show ¬ (u < 32 ∨ ¬ u ≤ 126) from fun z => z.elim h1 (fun y => y h2))]
theorem unB_hx {u q : Int32} (hq : q = 34 ∨ q = 39) (h : shE u q = 0) (h1 : u < 32 ∨ ¬ u ≤ 126) : unB q u = ([92, 117] : List Int32) ++ [hxC (u >>> (12 &&& 31)), hxC (u >>> (8 &&& 31)), hxC (u >>> (4 &&& 31)), hxC (u >>> (0 &&& 31))] := by
  unfold unB
  rw [if_neg (sh_nq hq h), if_neg (show ¬ ¬ escK u < 0 from fun z => z (sh_no h).2), if_pos h1, hxC_eq, hxC_eq, hxC_eq, hxC_eq]
  rfl
/-- the letters that are still to come -/
def hxR (u sh : Int32) : List Int32 := if sh = 12 then [hxC (u >>> (12 &&& 31)), hxC (u >>> (8 &&& 31)), hxC (u >>> (4 &&& 31)), hxC (u >>> (0 &&& 31))] else if sh = 8 then [hxC (u >>> (8 &&& 31)), hxC (u >>> (4 &&& 31)), hxC (u >>> (0 &&& 31))] else if sh = 4 then [hxC (u >>> (4 &&& 31)), hxC (u >>> (0 &&& 31))] else if sh = 0 then [hxC (u >>> (0 &&& 31))] else []
theorem hxR_s {u sh : Int32} (h : sh5 sh) (h0 : ¬ sh < 0) : hxR u sh = hxC (u >>> (sh &&& 31)) :: hxR u (sh + Int32.ofInt (-4)) := by
  rcases h with rfl | rfl | rfl | rfl | rfl
  · rfl
  · rfl
  · rfl
  · rfl
  · exact absurd (by decide) h0
theorem hxR_0 {u sh : Int32} (h : sh5 sh) (h0 : sh < 0) : hxR u sh = [] := by
  rcases h with rfl | rfl | rfl | rfl | rfl
  · exact absurd h0 (by decide)
  · exact absurd h0 (by decide)
  · exact absurd h0 (by decide)
  · exact absurd h0 (by decide)
  · rfl
/-! a number as it is written -/
theorem lN_tI {v : Int64} (h : ¬ v < 0) (h2 : smL v) : v = lN v.toInt.natAbs ∧ ¬ v.toInt < 0 := by
  have h1 : ¬ v.toInt < 0 := fun q => h (Int64.lt_iff_toInt_lt.mpr q)
  refine ⟨?_, h1⟩
  apply Int64.toInt_inj.mp
  have h3 := h2.2
  rw [pk_lT (by omega)]
  omega
theorem lN_tN {v : Int64} (h : v < 0) (h2 : smL v) : -v = lN v.toInt.natAbs ∧ v.toInt < 0 := by
  have h1 : v.toInt < 0 := Int64.lt_iff_toInt_lt.mp h
  refine ⟨?_, h1⟩
  apply Int64.toInt_inj.mp
  have h3 := h2.1
  rw [pk_lT (by omega), Int64.toInt_neg]
  have : (-v.toInt).bmod (2 ^ 64) = -v.toInt := by apply Int.bmod_eq_of_le <;> omega
  rw [this]
  omega
theorem nmB_pos {v : Int64} (h : ¬ v.toInt < 0) : nmB v = dgK v.toInt.natAbs (tenK v.toInt.natAbs 16 0 + 1) := by
  unfold nmB
  rw [if_neg h]
  rfl
theorem nmB_neg {v : Int64} (h : v.toInt < 0) : nmB v = 45 :: dgK v.toInt.natAbs (tenK v.toInt.natAbs 16 0 + 1) := by
  unfold nmB
  rw [if_pos h]
  rfl
/-- the power of ten is as great as it becomes -/
theorem tenU {m j : Nat} (hm : m < 10 ^ 16) (hj : j ≤ 15) : lN (10 ^ j) ≤ lN m / 10 ↔ 10 ≤ m / 10 ^ j := by
  have hp : 10 ^ j ≤ 10 ^ 15 := Nat.pow_le_pow_right (by decide) hj
  have h0 : 0 < 10 ^ j := Nat.pow_pos (by decide)
  rw [show (10 : Int64) = lN 10 from rfl, pk_lDiv (show m < 2 ^ 63 by omega) (by decide) (by decide), pk_lLE (show 10 ^ j < 2 ^ 63 by omega) (show m / 10 < 2 ^ 63 by omega)]
  rw [Nat.le_div_iff_mul_le (by decide), Nat.le_div_iff_mul_le h0, Nat.mul_comm]
theorem tenG {m j : Nat} (hm : m < 10 ^ 16) (hj : j ≤ 15) (h : 10 ≤ m / 10 ^ j) : j + 1 ≤ 15 ∧ tenK m (16 - j) j = tenK m (16 - (j + 1)) (j + 1) := by
  have h0 : 0 < 10 ^ j := Nat.pow_pos (by decide)
  have h1 : j + 1 ≤ 15 := by
    apply Classical.byContradiction
    intro hn
    obtain rfl : j = 15 := by omega
    have := (Nat.le_div_iff_mul_le h0).mp h
    omega
  refine ⟨h1, ?_⟩
  rw [show 16 - j = (16 - (j + 1)) + 1 by omega]
  show (if 10 ≤ m / 10 ^ j then tenK m (16 - (j + 1)) (j + 1) else j) = _
  rw [if_pos h]
theorem tenE {m j : Nat} (hj : j ≤ 15) (h : ¬ 10 ≤ m / 10 ^ j) : tenK m (16 - j) j = j := by
  rw [show 16 - j = (16 - (j + 1)) + 1 by omega]
  show (if 10 ≤ m / 10 ^ j then tenK m (16 - (j + 1)) (j + 1) else j) = _
  rw [if_neg h]
theorem lN_p10 {j : Nat} : lN (10 ^ j) * 10 = lN (10 ^ (j + 1)) := by
  rw [show (10 : Int64) = lN 10 from rfl, lN_mul, Nat.pow_succ]
theorem dgt10 : ∀ r, r < 10 → (lN r).toInt32 = nI r := by decide +kernel
/-- a digit -/
theorem dgt_eq {m t : Nat} (hm : m < 10 ^ 16) (ht : 0 < t) (ht2 : t ≤ 10 ^ 16) : (48 + ((lN m / lN t) - (lN m / lN t) / 10 * 10).toInt32 : Int32) = 48 + nI (m / t % 10) := by
  have h1 : m / t < 10 ^ 16 := Nat.lt_of_le_of_lt (Nat.div_le_self _ _) hm
  have e : lN m / lN t - lN m / lN t / 10 * 10 = lN (m / t % 10) := by
    rw [pk_lDiv (by omega) ht (by omega), show (10 : Int64) = lN 10 from rfl, pk_lDiv (by omega) (by decide) (by decide), lN_mul]
    apply Int64.toInt_inj.mp
    have h2 : m / t / 10 * 10 ≤ m / t := Nat.div_mul_le_self _ _
    rw [Int64.toInt_sub, pk_lT (by omega), pk_lT (by omega), pk_lT (by omega)]
    have : ((m / t : Nat) - (m / t / 10 * 10 : Nat) : Int).bmod (2 ^ 64) = ((m / t : Nat) - (m / t / 10 * 10 : Nat) : Int) := by apply Int.bmod_eq_of_le <;> omega
    rw [this]
    omega
  rw [e, dgt10 _ (Nat.mod_lt _ (by decide))]
/-- the units that are still to be written -/
def unR (q : Int32) (l : List Int32) (i : Nat) : List Int32 := (l.drop i).flatMap (unB q) ++ [q]
theorem unR_0 (q : Int32) (l : List Int32) : unL q l = [q] ++ unR q l 0 := by
  unfold unL unR
  rw [List.drop_zero, List.append_assoc]
theorem unR_s {q : Int32} {l : List Int32} {i : Nat} {u : Int32} (h : l[i]? = some u) : unR q l i = unB q u ++ unR q l (i + 1) := by
  obtain ⟨hi, e⟩ := List.getElem?_eq_some_iff.mp h
  unfold unR
  rw [List.drop_eq_getElem_cons hi, e, List.flatMap_cons, List.append_assoc]
theorem unR_e {q : Int32} {l : List Int32} {i : Nat} (h : l.length ≤ i) : unR q l i = [q] := by
  unfold unR
  rw [List.drop_eq_nil_of_le h]
  rfl
/-- Printer.put: what it writes -/
theorem t_put (l : Launch) (hl9 : l.stackTraces = false) (dC : Nat → ClassId) (dI : Nat → Nat → Nat) (cB : ClassId) (p1 pb : Nat) (sz : Heap) (rps : Value) (g : Nat → Int32) (k : Nat) (x : Int32) (hk0 : k ≤ 16384) : vx_Met l y_Printer_put (k_Printer_put :: gtbl) ({ frames := 8, cells := 1, slots := 6, locals := 110 }) (va_Pc [.ref p1, .int x] (mx dC dI [(p1, .inr (3, [.ref pb, .int (nI k), rps])), (pb, .inl (cB, 16384, .inl g))] [(cB, .byte)] sz))
    (va_Qv (fun (u : Nat × (Nat → Int32)) => WOK k g [x] u.1 u.2) (fun u t => mz dC dI [(p1, .inr (3, [.ref pb, .int (nI u.1), rps])), (pb, .inl (cB, 16384, .inl u.2))] [(cB, .byte)] (va_A [(p1, .inr (3, [.ref pb, .int (nI k), rps])), (pb, .inl (cB, 16384, .inl g))] sz.size) t ∧ szk sz t.heap 0 0) (va_A [(p1, .inr (3, [.ref pb, .int (nI k), rps])), (pb, .inl (cB, 16384, .inl g))] sz.size))
    (vx_X (fun (_ : Nat × (Nat → Int32)) => WNO k g [x]) (fun En u t => En = IOB ∧ mz dC dI [(p1, .inr (3, [.ref pb, .int (nI u.1), rps])), (pb, .inl (cB, 16384, .inl u.2))] [(cB, .byte)] (va_A [(p1, .inr (3, [.ref pb, .int (nI k), rps])), (pb, .inl (cB, 16384, .inl g))] sz.size) t) (va_A [(p1, .inr (3, [.ref pb, .int (nI k), rps])), (pb, .inl (cB, 16384, .inl g))] sz.size)) 1 6 (va_A [(p1, .inr (3, [.ref pb, .int (nI k), rps])), (pb, .inl (cB, 16384, .inl g))] sz.size) :=
  vmet_post (c_Printer_put l hl9 dC dI cB p1 pb sz rps g k x hk0) (fun a st o t h => by
    obtain ⟨⟨u, h1, h2, h3⟩, h4⟩ := h
    exact ⟨⟨(k + 1, _), h1, WOK.one h2, h3⟩, h4⟩) (fun En st t h => by
    obtain ⟨u, h1, h2, h3⟩ := h
    exact ⟨(k, g), WNO.one h1, h2, h3⟩)
/-- Printer.putLetters: what it writes -/
theorem t_putLetters (l : Launch) (hl9 : l.stackTraces = false) (dC : Nat → ClassId) (dI : Nat → Nat → Nat) (cB : ClassId) (p1 pb : Nat) (sz : Heap) (rps : Value) (g : Nat → Int32) (k : Nat) (sa av len : Nat) (b : Nat → Int32) (hk0 : k ≤ 16384) (hlen : len ≤ 1000) : vx_Met l y_Printer_putLetters (k_Printer_putLetters :: gtbl) ({ frames := 9, cells := 1, slots := 6, locals := 131 }) (va_Pc [.ref p1, .ref sa] (mt sa av len b dC dI [(p1, .inr (3, [.ref pb, .int (nI k), rps])), (pb, .inl (cB, 16384, .inl g))] [(cB, .byte)] sz))
    (va_Qv (fun (u : Nat × (Nat → Int32)) => WOK k g (ltB b len) u.1 u.2) (fun u t => mz dC dI [(p1, .inr (3, [.ref pb, .int (nI u.1), rps])), (pb, .inl (cB, 16384, .inl u.2))] [(cB, .byte)] (va_A [(p1, .inr (3, [.ref pb, .int (nI k), rps])), (pb, .inl (cB, 16384, .inl g))] sz.size) t ∧ szk sz t.heap 0 0) (va_A [(p1, .inr (3, [.ref pb, .int (nI k), rps])), (pb, .inl (cB, 16384, .inl g))] sz.size))
    (vx_X (fun (_ : Nat × (Nat → Int32)) => WNO k g (ltB b len)) (fun En u t => En = IOB ∧ mz dC dI [(p1, .inr (3, [.ref pb, .int (nI u.1), rps])), (pb, .inl (cB, 16384, .inl u.2))] [(cB, .byte)] (va_A [(p1, .inr (3, [.ref pb, .int (nI k), rps])), (pb, .inl (cB, 16384, .inl g))] sz.size) t) (va_A [(p1, .inr (3, [.ref pb, .int (nI k), rps])), (pb, .inl (cB, 16384, .inl g))] sz.size)) 1 6 (va_A [(p1, .inr (3, [.ref pb, .int (nI k), rps])), (pb, .inl (cB, 16384, .inl g))] sz.size) :=
  vmet_post (c_Printer_putLetters l hl9 dC dI cB p1 pb sz rps g k sa av len b hk0 hlen) (fun a st o t h => by
    obtain ⟨⟨u, h1, h2, h3⟩, h4⟩ := h
    exact ⟨⟨(k + len, _), h1, WOK.lets h2, h3⟩, h4⟩) (fun En st t h => by
    obtain ⟨u, h1, h2, h3⟩ := h
    have h1 : u ≤ len ∧ ¬ k + len ≤ 16384 := h1
    exact ⟨(k + u, _), WNO.lets hk0 h1.2, h2, h3⟩)
