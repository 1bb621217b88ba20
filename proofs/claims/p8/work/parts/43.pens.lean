theorem w_1382 : (.constantLong "QueryBenchModel" 242 (-10) : Cond) ∈ gtbl := gt_in 1382 (by decide +kernel) (by decide +kernel)
/-- the power of ten that a number begins with -/
def tenK (m : Nat) : Nat → Nat → Nat
  | 0, k => k
  | f + 1, k => if 10 ≤ m / 10 ^ k then tenK m f (k + 1) else k
def dgK (m : Nat) : Nat → List Int32
  | 0 => []
  | c + 1 => (48 + nI (m / 10 ^ c % 10)) :: dgK m c
def nmB (v : Int64) : List Int32 := (if v.toInt < 0 then [45] else []) ++ dgK v.toInt.natAbs (tenK v.toInt.natAbs 16 0 + 1)
def tK (c : Nat) : Int64 := if c = 0 then 0 else Int64.ofNat (10 ^ (c - 1))
abbrev smL (v : Int64) : Prop := -(10 ^ 16 : Int) < v.toInt ∧ v.toInt < 10 ^ 16
theorem p10_lt {k : Nat} (h : k ≤ 16) : 10 ^ k < 2 ^ 62 := Nat.lt_of_le_of_lt (Nat.pow_le_pow_right (by decide) h) (by decide)
theorem toI_ofN {t : Nat} (ht : t < 2 ^ 62) : (Int64.ofNat t).toInt = (t : Int) := by
  rw [Int64.toInt_ofNat', show Int64.size = 2 ^ 64 from rfl]
  apply Int.bmod_eq_of_le <;> omega
theorem tdiv_small {v : Int64} {t : Nat} (ht2 : t < 2 ^ 62) (h : smL v) : (v / Int64.ofNat t).toInt = v.toInt.tdiv (t : Int) := by
  rw [Int64.toInt_div, toI_ofN ht2]
  have := Int.natAbs_tdiv_le_natAbs v.toInt (t : Int)
  obtain ⟨h1, h2⟩ := h
  apply Int.bmod_eq_of_le <;> omega
theorem tdiv_abs (a : Int) (t : Nat) : (a.tdiv (t : Int)).natAbs = a.natAbs / t := by
  rw [Int.natAbs_tdiv, Int.natAbs_natCast]; rfl
theorem ten_ge {v : Int64} {k : Nat} (hk : k ≤ 16) (h : smL v) : (10 ≤ v / Int64.ofNat (10 ^ k) ∨ v / Int64.ofNat (10 ^ k) ≤ -10) ↔ 10 ≤ v.toInt.natAbs / 10 ^ k := by
  have e := tdiv_small (p10_lt hk) h
  have e2 := tdiv_abs v.toInt (10 ^ k)
  rw [Int64.le_iff_toInt_le, Int64.le_iff_toInt_le, e, show (10 : Int64).toInt = 10 from rfl, show (-10 : Int64).toInt = -10 from rfl]
  omega
theorem ten_mul (k : Nat) : Int64.ofNat (10 ^ k) * 10 = Int64.ofNat (10 ^ (k + 1)) := by
  rw [show (10 : Int64) = Int64.ofNat 10 from rfl, ← Int64.ofNat_mul, Nat.pow_succ]
theorem tK_s {k : Nat} : tK (k + 1) = Int64.ofNat (10 ^ k) := by unfold tK; rw [if_neg (by omega)]; rfl
theorem tK_pos {c : Nat} (h : c ≤ 17) : tK c ≤ 0 ↔ c = 0 := by
  cases c with
  | zero => exact ⟨fun _ => rfl, fun _ => by decide⟩
  | succ k =>
    rw [tK_s, Int64.le_iff_toInt_le, toI_ofN (p10_lt (by omega)), show (0 : Int64).toInt = 0 from rfl]
    have : 0 < 10 ^ k := Nat.pow_pos (by decide)
    omega
theorem tK_div {c : Nat} (h : c ≤ 16) : tK (c + 1) / 10 = tK c := by
  rw [tK_s]
  apply Int64.toInt_inj.mp
  have hs : smL (Int64.ofNat (10 ^ c)) ∨ c = 16 := by
    rcases Nat.lt_or_ge c 16 with h1 | h1
    · left
      have h2 : 10 ^ c ≤ 10 ^ 15 := Nat.pow_le_pow_right (by decide) (by omega)
      have h3 : 0 < 10 ^ c := Nat.pow_pos (by decide)
      have h4 := toI_ofN (p10_lt (k := c) (by omega))
      have h5 : (10 ^ 15 : Nat) < 10 ^ 16 := by decide
      constructor <;> rw [h4] <;> omega
    · right; omega
  rcases hs with hs | rfl
  · rw [show (10 : Int64) = Int64.ofNat 10 from rfl, tdiv_small (by decide) hs, toI_ofN (p10_lt (by omega))]
    cases c with
    | zero => rfl
    | succ k =>
      rw [tK_s, toI_ofN (p10_lt (by omega)), Nat.pow_succ]
      rw [Int.tdiv_eq_ediv_of_nonneg (by omega)]
      omega
  · decide
theorem dig_eq {v : Int64} {k : Nat} (hk : k ≤ 16) (h : smL v) : (48 + (if 0 ≤ v / Int64.ofNat (10 ^ k) % 10 then v / Int64.ofNat (10 ^ k) % 10 else -(v / Int64.ofNat (10 ^ k) % 10)).toInt32 : Int32) = 48 + nI (v.toInt.natAbs / 10 ^ k % 10) := by
  have e := tdiv_small (p10_lt hk) h
  have e2 := tdiv_abs v.toInt (10 ^ k)
  generalize hd : v / Int64.ofNat (10 ^ k) % 10 = d
  have e3 : d.toInt = (v.toInt.tdiv ((10 ^ k : Nat) : Int)).tmod 10 := by rw [← hd, Int64.toInt_mod, e]; rfl
  have e4 : d.toInt.natAbs = v.toInt.natAbs / 10 ^ k % 10 := by rw [e3, Int.natAbs_tmod, e2]; rfl
  have hlt : d.toInt.natAbs < 10 := by rw [e4]; omega
  rw [← e4]
  have key : ∀ (x : Int64), 0 ≤ x.toInt → x.toInt < 10 → x.toInt32 = nI x.toInt.natAbs := by
    intro x h1 h2
    have hx : x = Int64.ofNat x.toInt.natAbs := by
      apply Int64.toInt_inj.mp
      rw [toI_ofN (by omega)]
      omega
    generalize hm : x.toInt.natAbs = m at hx
    have hm2 : m < 10 := by omega
    subst hx
    match m, hm2 with
    | 0, _ => rfl
    | 1, _ => rfl
    | 2, _ => rfl
    | 3, _ => rfl
    | 4, _ => rfl
    | 5, _ => rfl
    | 6, _ => rfl
    | 7, _ => rfl
    | 8, _ => rfl
    | 9, _ => rfl
  congr 1
  by_cases h0 : 0 ≤ d
  · rw [if_pos h0]
    rw [Int64.le_iff_toInt_le] at h0
    exact key d h0 (by have : (0 : Int64).toInt = 0 := rfl; omega)
  · rw [if_neg h0]
    rw [Int64.le_iff_toInt_le] at h0
    have z0 : (0 : Int64).toInt = 0 := rfl
    have hn : (-d).toInt = -d.toInt := by
      rw [Int64.toInt_neg]
      apply Int.bmod_eq_of_le <;> omega
    rw [key (-d) (by omega) (by omega), hn, Int.natAbs_neg]
theorem rem_eq {q : Int64} (h : smL q) : q - q / 10 * 10 = q % 10 := by
  apply Int64.toInt_inj.mp
  obtain ⟨h1, h2⟩ := h
  have hd := Int.natAbs_tdiv_le_natAbs q.toInt 10
  have hm := Int.tmod_add_tdiv_mul q.toInt 10
  have e1 : (q / 10).toInt = q.toInt.tdiv 10 := by
    rw [Int64.toInt_div, show (10 : Int64).toInt = 10 from rfl]
    apply Int.bmod_eq_of_le <;> omega
  have e2 : (q / 10 * 10).toInt = q.toInt.tdiv 10 * 10 := by
    rw [Int64.toInt_mul, e1, show (10 : Int64).toInt = 10 from rfl]
    apply Int.bmod_eq_of_le <;> omega
  rw [Int64.toInt_sub, e2, Int64.toInt_mod, show (10 : Int64).toInt = 10 from rfl]
  have hb : (q.toInt.tmod 10).natAbs < 10 := by rw [Int.natAbs_tmod]; exact Nat.mod_lt _ (by decide)
  rw [show q.toInt - q.toInt.tdiv 10 * 10 = q.toInt.tmod 10 by omega]
  apply Int.bmod_eq_of_le <;> omega
theorem smL_div {v : Int64} {t : Int64} (e : (v / t).toInt = v.toInt.tdiv t.toInt) (h : smL v) : smL (v / t) := by
  have := Int.natAbs_tdiv_le_natAbs v.toInt t.toInt
  obtain ⟨h1, h2⟩ := h
  unfold smL
  rw [e]
  omega
theorem and15 (x : Int32) : ∃ m, m < 16 ∧ x &&& 15 = nI m := by
  refine ⟨(x.toBitVec &&& 15#32).toNat, ?_, ?_⟩
  · rw [BitVec.toNat_and]; exact Nat.lt_of_le_of_lt Nat.and_le_right (by decide)
  · apply Int32.toBitVec_inj.mp
    show (x &&& 15).toBitVec = (Int32.ofNat _).toBitVec
    simp
abbrev PS : Type := Nat × Int32 × (Nat → Int32)
/-- the pen writes these -/
def penL (s : PS) (l : List Int32) : PS := l.foldl pen1 s
theorem penL_snoc {s : PS} {l : List Int32} {x : Int32} : pen1 (penL s l) x = penL s (l ++ [x]) := by unfold penL; rw [List.foldl_append]; rfl
theorem penL_le {s : PS} (h : s.1 ≤ 16384) : ∀ (l : List Int32), (penL s l).1 ≤ 16384 := by
  intro l
  induction l generalizing s with
  | nil => exact h
  | cons x l ih => exact ih (s := pen1 s x) (pen1_le h)
theorem penL_app {s : PS} {l k : List Int32} : penL (penL s l) k = penL s (l ++ k) := by unfold penL; rw [List.foldl_append]
theorem penN_L {b : Nat → Int32} {s : PS} : ∀ (j : Nat), penN b s j = penL s ((List.range j).map (fun i => b i &&& 255)) := by
  intro j
  induction j with
  | zero => rfl
  | succ j ih => simp only [penN]; rw [ih, List.range_succ, List.map_append, ← penL_app]; rfl
def hxD (x : Int32) : Int32 := mtx 6 (x &&& 15).toNatClampNeg &&& 255
def escK (u : Int32) : Int32 := if u = 8 then 0 else if u = 9 then 1 else if u = 10 then 2 else if u = 12 then 3 else if u = 13 then 4 else -1
/-- how a unit is written -/
def unB (q u : Int32) : List Int32 := if u = q ∨ u = 92 then [92, u] else if ¬ escK u < 0 then [92, mtx 4 (escK u).toNatClampNeg &&& 255] else if u < 32 ∨ ¬ u ≤ 126 then [92, 117, hxD (u >>> (12 &&& 31)), hxD (u >>> (8 &&& 31)), hxD (u >>> (4 &&& 31)), hxD (u >>> (0 &&& 31))] else [u]
def unL (q : Int32) (l : List Int32) : List Int32 := [q] ++ l.flatMap (unB q) ++ [q]
abbrev b_Mo_numberJ : ByteArray := prog_14_method_27_code
def y_Mo_numberJ : MethodName := ⟨"QueryBenchModel", "number", "(J)V"⟩
abbrev k_Mo_numberJ : Cond := .code y_Mo_numberJ b_Mo_numberJ 9 none
theorem i_Mo_numberJ : k_Mo_numberJ ∈ gtbl := gt_in 1381 (by decide +kernel) (by decide +kernel)
theorem d_Mo_numberJ_0 : decode b_Mo_numberJ 0 = .ok (.lload_n 1, 1) := by decide +kernel
theorem d_Mo_numberJ_1 : decode b_Mo_numberJ 1 = .ok (.lconst 0, 1) := by decide +kernel
theorem d_Mo_numberJ_2 : decode b_Mo_numberJ 2 = .ok (.lcmp, 1) := by decide +kernel
theorem d_Mo_numberJ_3 : decode b_Mo_numberJ 3 = .ok (.ifCond .ge 9, 3) := by decide +kernel
theorem d_Mo_numberJ_6 : decode b_Mo_numberJ 6 = .ok (.aload_n 0, 1) := by decide +kernel
theorem d_Mo_numberJ_7 : decode b_Mo_numberJ 7 = .ok (.bipush 45, 2) := by decide +kernel
theorem d_Mo_numberJ_9 : decode b_Mo_numberJ 9 = .ok (.invokevirtual 239, 3) := by decide +kernel
theorem d_Mo_numberJ_12 : decode b_Mo_numberJ 12 = .ok (.lconst 1, 1) := by decide +kernel
theorem d_Mo_numberJ_13 : decode b_Mo_numberJ 13 = .ok (.lstore_n 3, 1) := by decide +kernel
theorem d_Mo_numberJ_14 : decode b_Mo_numberJ 14 = .ok (.lload_n 1, 1) := by decide +kernel
theorem d_Mo_numberJ_15 : decode b_Mo_numberJ 15 = .ok (.lload_n 3, 1) := by decide +kernel
theorem d_Mo_numberJ_16 : decode b_Mo_numberJ 16 = .ok (.ldiv, 1) := by decide +kernel
theorem d_Mo_numberJ_17 : decode b_Mo_numberJ 17 = .ok (.ldc2_w 217, 3) := by decide +kernel
theorem d_Mo_numberJ_20 : decode b_Mo_numberJ 20 = .ok (.lcmp, 1) := by decide +kernel
theorem d_Mo_numberJ_21 : decode b_Mo_numberJ 21 = .ok (.ifCond .ge 13, 3) := by decide +kernel
theorem d_Mo_numberJ_24 : decode b_Mo_numberJ 24 = .ok (.lload_n 1, 1) := by decide +kernel
theorem d_Mo_numberJ_25 : decode b_Mo_numberJ 25 = .ok (.lload_n 3, 1) := by decide +kernel
theorem d_Mo_numberJ_26 : decode b_Mo_numberJ 26 = .ok (.ldiv, 1) := by decide +kernel
theorem d_Mo_numberJ_27 : decode b_Mo_numberJ 27 = .ok (.ldc2_w 242, 3) := by decide +kernel
theorem d_Mo_numberJ_30 : decode b_Mo_numberJ 30 = .ok (.lcmp, 1) := by decide +kernel
theorem d_Mo_numberJ_31 : decode b_Mo_numberJ 31 = .ok (.ifCond .gt 12, 3) := by decide +kernel
theorem d_Mo_numberJ_34 : decode b_Mo_numberJ 34 = .ok (.lload_n 3, 1) := by decide +kernel
theorem d_Mo_numberJ_35 : decode b_Mo_numberJ 35 = .ok (.ldc2_w 217, 3) := by decide +kernel
theorem d_Mo_numberJ_38 : decode b_Mo_numberJ 38 = .ok (.lmul, 1) := by decide +kernel
theorem d_Mo_numberJ_39 : decode b_Mo_numberJ 39 = .ok (.lstore_n 3, 1) := by decide +kernel
theorem d_Mo_numberJ_40 : decode b_Mo_numberJ 40 = .ok (.goto (-26), 3) := by decide +kernel
theorem d_Mo_numberJ_43 : decode b_Mo_numberJ 43 = .ok (.lload_n 3, 1) := by decide +kernel
theorem d_Mo_numberJ_44 : decode b_Mo_numberJ 44 = .ok (.lstore 5, 2) := by decide +kernel
theorem d_Mo_numberJ_46 : decode b_Mo_numberJ 46 = .ok (.lload 5, 2) := by decide +kernel
theorem d_Mo_numberJ_48 : decode b_Mo_numberJ 48 = .ok (.lconst 0, 1) := by decide +kernel
theorem d_Mo_numberJ_49 : decode b_Mo_numberJ 49 = .ok (.lcmp, 1) := by decide +kernel
theorem d_Mo_numberJ_50 : decode b_Mo_numberJ 50 = .ok (.ifCond .le 47, 3) := by decide +kernel
theorem d_Mo_numberJ_53 : decode b_Mo_numberJ 53 = .ok (.lload_n 1, 1) := by decide +kernel
theorem d_Mo_numberJ_54 : decode b_Mo_numberJ 54 = .ok (.lload 5, 2) := by decide +kernel
theorem d_Mo_numberJ_56 : decode b_Mo_numberJ 56 = .ok (.ldiv, 1) := by decide +kernel
theorem d_Mo_numberJ_57 : decode b_Mo_numberJ 57 = .ok (.ldc2_w 217, 3) := by decide +kernel
theorem d_Mo_numberJ_60 : decode b_Mo_numberJ 60 = .ok (.lrem, 1) := by decide +kernel
theorem d_Mo_numberJ_61 : decode b_Mo_numberJ 61 = .ok (.lstore 7, 2) := by decide +kernel
theorem d_Mo_numberJ_63 : decode b_Mo_numberJ 63 = .ok (.aload_n 0, 1) := by decide +kernel
theorem d_Mo_numberJ_64 : decode b_Mo_numberJ 64 = .ok (.bipush 48, 2) := by decide +kernel
theorem d_Mo_numberJ_66 : decode b_Mo_numberJ 66 = .ok (.lload 7, 2) := by decide +kernel
theorem d_Mo_numberJ_68 : decode b_Mo_numberJ 68 = .ok (.lconst 0, 1) := by decide +kernel
theorem d_Mo_numberJ_69 : decode b_Mo_numberJ 69 = .ok (.lcmp, 1) := by decide +kernel
theorem d_Mo_numberJ_70 : decode b_Mo_numberJ 70 = .ok (.ifCond .ge 9, 3) := by decide +kernel
theorem d_Mo_numberJ_73 : decode b_Mo_numberJ 73 = .ok (.lload 7, 2) := by decide +kernel
theorem d_Mo_numberJ_75 : decode b_Mo_numberJ 75 = .ok (.lneg, 1) := by decide +kernel
theorem d_Mo_numberJ_76 : decode b_Mo_numberJ 76 = .ok (.goto 5, 3) := by decide +kernel
theorem d_Mo_numberJ_79 : decode b_Mo_numberJ 79 = .ok (.lload 7, 2) := by decide +kernel
theorem d_Mo_numberJ_81 : decode b_Mo_numberJ 81 = .ok (.l2i, 1) := by decide +kernel
theorem d_Mo_numberJ_82 : decode b_Mo_numberJ 82 = .ok (.iadd, 1) := by decide +kernel
theorem d_Mo_numberJ_83 : decode b_Mo_numberJ 83 = .ok (.invokevirtual 239, 3) := by decide +kernel
theorem d_Mo_numberJ_86 : decode b_Mo_numberJ 86 = .ok (.lload 5, 2) := by decide +kernel
theorem d_Mo_numberJ_88 : decode b_Mo_numberJ 88 = .ok (.ldc2_w 217, 3) := by decide +kernel
theorem d_Mo_numberJ_91 : decode b_Mo_numberJ 91 = .ok (.ldiv, 1) := by decide +kernel
theorem d_Mo_numberJ_92 : decode b_Mo_numberJ 92 = .ok (.lstore 5, 2) := by decide +kernel
theorem d_Mo_numberJ_94 : decode b_Mo_numberJ 94 = .ok (.goto (-48), 3) := by decide +kernel
theorem d_Mo_numberJ_97 : decode b_Mo_numberJ 97 = .ok (.return_, 1) := by decide +kernel
set_option maxHeartbeats 4000000 in
set_option maxRecDepth 100000 in
/-- the reference: number(long) -/
theorem c_Mo_numberJ (l : Launch) (dC : Nat → ClassId) (dI : Nat → Nat → Nat) (mo : Nat) (sz : Heap) (v : Nat → Value) (cB : ClassId) (qo : Nat) (s0 : PS) (x9 : Int64) (hk0 : s0.1 ≤ 16384) (h10 : v 10 = .ref qo) (hsm : smL x9) : Met l y_Mo_numberJ (k_Mo_numberJ :: gtbl) ({ frames := 1, cells := 0, slots := 0, locals := 30 }) (va_Pc [.ref mo, .long x9] (mp dC dI [(mo, .inr (13, MF 30 (nf v s0.1 s0.2.1))), (qo, .inl (cB, 16392, .inl s0.2.2))] [(cB, .byte)] sz)) (va_Qv (fun (_ : Unit) => True) (fun _ => mz dC dI [(mo, .inr (13, MF 30 (nf v (penL s0 (nmB x9)).1 (penL s0 (nmB x9)).2.1))), (qo, .inl (cB, 16392, .inl (penL s0 (nmB x9)).2.2))] [(cB, .byte)] (va_A [(mo, .inr (13, MF 30 (nf v s0.1 s0.2.1))), (qo, .inl (cB, 16392, .inl s0.2.2))] sz.size)) (va_A [(mo, .inr (13, MF 30 (nf v s0.1 s0.2.1))), (qo, .inl (cB, 16392, .inl s0.2.2))] sz.size)) 0 0 (va_A [(mo, .inr (13, MF 30 (nf v s0.1 s0.2.1))), (qo, .inl (cB, 16392, .inl s0.2.2))] sz.size) := by
  refine Met.ofW (cc := b_Mo_numberJ) (maxL := 9) (ret := none) (by decide) rfl ?_
  intro p e s m args below meth c s₁ B hml hv
  obtain ⟨rfl, hsz, hP, hK, hD0⟩ := hv
  have hx := B.exec
  have hb := B.bytes
  have hr := B.returns
  have hts0 := atoms_spec (ws := k_Mo_numberJ :: gtbl) B.pre
  have hts := fun w h => hts0 w (List.mem_cons_of_mem _ h)
  have hown : s.vm.findClass R_Mo = some m.cls := findClass_of_methodNamed B.named
  have hlocks := B.notSynchronized
  subst hsz
  have hD := hD0.self (sz := s.heap.size)
  generalize hAe : va_A [(mo, .inr (13, MF 30 (nf v s0.1 s0.2.1))), (qo, .inl (cB, 16392, .inl s0.2.2))] s.heap.size = A at hD ⊢
  have hA : ∀ q : Nat, s.heap.size ≤ q → A q := fun q h => by rw [← hAe]; exact Or.inr h
  have hS : va_S A s.heap s.heap [] := va_S.rf
  have hP : va_P (dC, dI) classes [(mo, .inr (13, MF 30 (nf v s0.1 s0.2.1))), (qo, .inl (cB, 16392, .inl s0.2.2))] s.heap := hP
  have hl := lv_entry ([.ref mo, .long x9]) (n := 9) (Nat.le_of_ble_eq_true rfl)
  rw [lg_entry_eq]
  generalize (lg_sl ([.ref mo, .long x9]) ++ List.replicate (9 - (lg_sl ([.ref mo, .long x9])).length) Slot.unset).toArray = ls at hl ⊢
  have hl : lv_has ls 9 [(0, .ref mo), (1, .long x9)] := hl
  have hP : va_P (dC, dI) classes [(mo, .inr (13, MF 30 (nf v (penL s0 ([])).1 (penL s0 ([])).2.1))), (qo, .inl (cB, 16392, .inl (penL s0 ([])).2.2))] s.heap := hP
  have hD : va_D A [(mo, .inr (13, MF 30 (nf v (penL s0 ([])).1 (penL s0 ([])).2.1))), (qo, .inl (cB, 16392, .inl (penL s0 ([])).2.2))] := hD
  obtain ⟨mm, hmm⟩ : ∃ z, z = x9.toInt.natAbs := ⟨_, rfl⟩
  have hm16 : mm < 10 ^ 16 := by obtain ⟨h1, h2⟩ := hsm; omega
  refine lv_lload_n hx hb d_Mo_numberJ_0 rfl (lv_at hl 1 rfl) ?_
  refine lv_lconst (v := 0) hx hb d_Mo_numberJ_1 (by decide) ?_
  refine W.lcmp hx hb d_Mo_numberJ_2 ?_
  refine lv_if_ge (tgt := 12) hx hb d_Mo_numberJ_3 (by decide) (fun c3 => ?_) (fun c3 => ?_)
  · refine lv_lconst (v := 1) hx hb d_Mo_numberJ_12 (by decide) ?_
    refine lv_lstore_n (lv' := [(3, .long 1), (0, .ref mo), (1, .long x9)]) hx hb d_Mo_numberJ_13 rfl hl (by decide) rfl (fun ls hl => ?_)
    have hsg : (if x9.toInt < 0 then [45] else []) = ([] : List Int32) := by rw [if_neg (show ¬ x9.toInt < 0 from fun h => absurd (Int64.le_iff_toInt_le.mp ((lg_cmp_ge _ _).mp c3)) (Int.not_le.mpr h))]
    refine w_loop (D := (dC, dI)) (cl := classes) (A := A) (H0 := s.heap) (nL := 9) 14 (σ := Nat × Nat) (fun ⟨f9, k⟩ => k ≤ 15 ∧ f9 + k = 16 ∧ tenK mm f9 k = tenK mm 16 0) (fun ⟨f9, k⟩ => f9) (fun ⟨f9, k⟩ => [(mo, .inr (13, MF 30 (nf v (penL s0 ([])).1 (penL s0 ([])).2.1))), (qo, .inl (cB, 16392, .inl (penL s0 ([])).2.2))]) (fun ⟨f9, k⟩ => [(0, .ref mo), (1, .long x9), (3, .long (Int64.ofNat (10 ^ k)))]) ?_ (16, 0) ⟨by decide, rfl, rfl⟩ hP hD hS (lv_sub hl [1, 2, 0] rfl)
    rintro ⟨f9, k⟩ H locs ls hI ih hP hD hS hl
    have hP : va_P (dC, dI) classes [(mo, .inr (13, MF 30 (nf v (penL s0 ([])).1 (penL s0 ([])).2.1))), (qo, .inl (cB, 16392, .inl (penL s0 ([])).2.2))] H := hP
    have hD : va_D A [(mo, .inr (13, MF 30 (nf v (penL s0 ([])).1 (penL s0 ([])).2.1))), (qo, .inl (cB, 16392, .inl (penL s0 ([])).2.2))] := hD
    have hl : lv_has ls 9 [(0, .ref mo), (1, .long x9), (3, .long (Int64.ofNat (10 ^ k)))] := hl
    obtain ⟨hI1, hI2, hI3⟩ := hI
    have htz : ¬ Int64.ofNat (10 ^ k) = 0 := fun h => by have h2 := (tK_pos (c := k + 1) (by omega)).mp (by rw [tK_s, h]; decide); omega
    have hge := ten_ge (k := k) (by omega) hsm
    rw [← hmm] at hge
    refine lv_lload_n hx hb d_Mo_numberJ_14 rfl (lv_at hl 1 rfl) ?_
    refine lv_lload_n hx hb d_Mo_numberJ_15 rfl (lv_at hl 2 rfl) ?_
    refine lv_ldiv hx hb d_Mo_numberJ_16 htz ?_
    refine lv_ldc2 (v := 10) hx hb hown (hts _ w_1344) d_Mo_numberJ_17 ?_
    refine W.lcmp hx hb d_Mo_numberJ_20 ?_
    refine lv_if_ge (tgt := 34) hx hb d_Mo_numberJ_21 (by decide) (fun c21 => ?_) (fun c21 => ?_)
    · refine lv_lload_n hx hb d_Mo_numberJ_34 rfl (lv_at hl 2 rfl) ?_
      refine lv_ldc2 (v := 10) hx hb hown (hts _ w_1344) d_Mo_numberJ_35 ?_
      refine lv_lmul hx hb d_Mo_numberJ_38 ?_
      refine lv_lstore_n (lv' := [(3, .long ((Int64.ofNat (10 ^ k)) * 10)), (0, .ref mo), (1, .long x9)]) hx hb d_Mo_numberJ_39 rfl hl (by decide) rfl (fun ls hl => ?_)
      refine lv_goto (tgt := 14) hx hb d_Mo_numberJ_40 (by decide) ?_
      have h10k : 10 ≤ mm / 10 ^ k := hge.mp (Or.inl ((lg_cmp_ge _ _).mp c21))
      have hk15 : k ≠ 15 := fun e => by rw [e] at h10k; have := Nat.div_lt_of_lt_mul (show mm < 10 ^ 15 * 10 by omega); omega
      obtain ⟨f0, hf0⟩ : ∃ f0, f9 = f0 + 1 := ⟨f9 - 1, by omega⟩
      rw [ten_mul] at hl
      exact ih (f0, k + 1) _ _ _ ⟨by omega, by omega, by rw [← hI3, hf0]; simp only [tenK]; rw [if_pos h10k]⟩ (by show f0 < f9; omega) hP hD hS (lv_sub hl [1, 2, 0] rfl)
    · refine lv_lload_n hx hb d_Mo_numberJ_24 rfl (lv_at hl 1 rfl) ?_
      refine lv_lload_n hx hb d_Mo_numberJ_25 rfl (lv_at hl 2 rfl) ?_
      refine lv_ldiv hx hb d_Mo_numberJ_26 htz ?_
      refine lv_ldc2 (v := (-10)) hx hb hown (hts _ w_1382) d_Mo_numberJ_27 ?_
      refine W.lcmp hx hb d_Mo_numberJ_30 ?_
      refine lv_if_gt (tgt := 43) hx hb d_Mo_numberJ_31 (by decide) (fun c31 => ?_) (fun c31 => ?_)
      · refine lv_lload_n hx hb d_Mo_numberJ_43 rfl (lv_at hl 2 rfl) ?_
        refine lv_lstore (lv' := [(5, .long (Int64.ofNat (10 ^ k))), (0, .ref mo), (1, .long x9), (3, .long (Int64.ofNat (10 ^ k)))]) hx hb d_Mo_numberJ_44 hl (by decide) rfl (fun ls hl => ?_)
        have hno : ¬ 10 ≤ mm / 10 ^ k := fun h => (hge.mpr h).elim (fun h => c21 ((lg_cmp_ge _ _).mpr h)) (fun h => absurd ((lg_cmp_gt _ _).mp c31) (Int64.not_lt.mpr h))
        have hkt : tenK mm 16 0 = k := by rw [← hI3]; cases f9 with | zero => rfl | succ f0 => simp only [tenK]; rw [if_neg hno]
        have hnm : nmB x9 = [] ++ dgK mm (k + 1) := by unfold nmB; rw [← hmm, hsg, hkt]
        rw [show Int64.ofNat (10 ^ k) = tK (k + 1) from tK_s.symm] at hl
        refine w_loop (D := (dC, dI)) (cl := classes) (A := A) (H0 := s.heap) (nL := 9) 46 (σ := Nat × List Int32) (fun ⟨c9, Lx⟩ => c9 ≤ 16 ∧ Lx ++ dgK mm c9 = nmB x9) (fun ⟨c9, Lx⟩ => c9) (fun ⟨c9, Lx⟩ => [(mo, .inr (13, MF 30 (nf v (penL s0 (Lx)).1 (penL s0 (Lx)).2.1))), (qo, .inl (cB, 16392, .inl (penL s0 (Lx)).2.2))]) (fun ⟨c9, Lx⟩ => [(0, .ref mo), (1, .long x9), (5, .long (tK c9))]) ?_ (k + 1, []) ⟨by omega, hnm.symm⟩ hP hD hS (lv_sub hl [1, 2, 0] rfl)
        rintro ⟨c9, Lx⟩ H locs ls hI ih hP hD hS hl
        have hP : va_P (dC, dI) classes [(mo, .inr (13, MF 30 (nf v (penL s0 (Lx)).1 (penL s0 (Lx)).2.1))), (qo, .inl (cB, 16392, .inl (penL s0 (Lx)).2.2))] H := hP
        have hD : va_D A [(mo, .inr (13, MF 30 (nf v (penL s0 (Lx)).1 (penL s0 (Lx)).2.1))), (qo, .inl (cB, 16392, .inl (penL s0 (Lx)).2.2))] := hD
        have hl : lv_has ls 9 [(0, .ref mo), (1, .long x9), (5, .long (tK c9))] := hl
        obtain ⟨hJ1, hJ2⟩ := hI
        refine lv_lload hx hb d_Mo_numberJ_46 (lv_at hl 2 rfl) ?_
        refine lv_lconst (v := 0) hx hb d_Mo_numberJ_48 (by decide) ?_
        refine W.lcmp hx hb d_Mo_numberJ_49 ?_
        refine lv_if_le (tgt := 97) hx hb d_Mo_numberJ_50 (by decide) (fun c50 => ?_) (fun c50 => ?_)
        · have hc0 : c9 = 0 := (tK_pos (by omega)).mp ((lg_cmp_le _ _).mp c50)
          have hLL : Lx = nmB x9 := by rw [← hJ2, hc0]; simp [dgK]
          rw [hLL] at hP hD
          exact W.vret hx hb hr (fun t9 ht hW => ⟨⟨(), rfl, trivial, by rw [ht]; exact hP, va_K.moved hW.alike hK, hD⟩, hS.F ht⟩) hS.2.2 d_Mo_numberJ_97
        · have hcn : c9 ≠ 0 := fun h => c50 ((lg_cmp_le _ _).mpr ((tK_pos (by omega)).mpr h))
          obtain ⟨c0, hc0⟩ : ∃ c0, c9 = c0 + 1 := ⟨c9 - 1, by omega⟩
          rw [hc0, tK_s] at hl
          have htz2 : ¬ Int64.ofNat (10 ^ c0) = 0 := fun h => by have h2 := (tK_pos (c := c0 + 1) (by omega)).mp (by rw [tK_s, h]; decide); omega
          have hde := dig_eq (k := c0) (by omega) hsm
          rw [← hmm] at hde
          refine lv_lload_n hx hb d_Mo_numberJ_53 rfl (lv_at hl 1 rfl) ?_
          refine lv_lload hx hb d_Mo_numberJ_54 (lv_at hl 2 rfl) ?_
          refine lv_ldiv hx hb d_Mo_numberJ_56 htz2 ?_
          refine lv_ldc2 (v := 10) hx hb hown (hts _ w_1344) d_Mo_numberJ_57 ?_
          refine lv_lrem hx hb d_Mo_numberJ_60 (by decide) ?_
          refine W.eq (g2 := F0 m 61 ls [.long ((x9 / (Int64.ofNat (10 ^ c0))) % 10)]) (by rw [show ((x9 / (Int64.ofNat (10 ^ c0))) - (x9 / (Int64.ofNat (10 ^ c0))) / 10 * 10) = ((x9 / (Int64.ofNat (10 ^ c0))) % 10) from (rem_eq (smL_div (by rw [tdiv_small (p10_lt (by omega)) hsm, toI_ofN (p10_lt (by omega))]) hsm))]) ?_
          refine lv_lstore (lv' := [(7, .long ((x9 / (Int64.ofNat (10 ^ c0))) % 10)), (0, .ref mo), (1, .long x9), (5, .long (Int64.ofNat (10 ^ c0)))]) hx hb d_Mo_numberJ_61 hl (by decide) rfl (fun ls hl => ?_)
          refine lv_aload_n hx hb d_Mo_numberJ_63 rfl (lv_at hl 1 rfl) ?_
          refine lv_bipush (v := 48) hx hb d_Mo_numberJ_64 (by decide) ?_
          refine lv_lload hx hb d_Mo_numberJ_66 (lv_at hl 0 rfl) ?_
          refine lv_lconst (v := 0) hx hb d_Mo_numberJ_68 (by decide) ?_
          refine W.lcmp hx hb d_Mo_numberJ_69 ?_
          refine lv_if_ge (tgt := 79) hx hb d_Mo_numberJ_70 (by decide) (fun c70 => ?_) (fun c70 => ?_)
          · refine lv_lload hx hb d_Mo_numberJ_79 (lv_at hl 0 rfl) ?_
            refine lv_l2i (v := (((x9 / (Int64.ofNat (10 ^ c0))) % 10)).toInt32) hx hb d_Mo_numberJ_81 rfl ?_
            refine lv_iadd hx hb d_Mo_numberJ_82 ?_
            refine W.eq (g2 := F0 m 83 ls [.int (48 + nI (mm / 10 ^ c0 % 10)), .ref mo]) (by rw [show (48 + ((((x9 / (Int64.ofNat (10 ^ c0))) % 10)).toInt32)) = (48 + nI (mm / 10 ^ c0 % 10)) from (by rw [← hde, if_pos ((lg_cmp_ge _ _).mp c70)])]) ?_
            have hPc := hP.sub (ws' := [(mo, .inr (13, MF 30 (nf v (penL s0 (Lx)).1 (penL s0 (Lx)).2.1))), (qo, .inl (cB, 16392, .inl (penL s0 (Lx)).2.2))]) [0, 1] rfl
            have hDc := hD.sub (ws' := [(mo, .inr (13, MF 30 (nf v (penL s0 (Lx)).1 (penL s0 (Lx)).2.1))), (qo, .inl (cB, 16392, .inl (penL s0 (Lx)).2.2))]) [0, 1] (by decide) rfl
            have hKc := hK.sub (tys' := [(cB, .byte)]) [0] rfl
            have hFc := va_free (wc := [(mo, .inr (13, MF 30 (nf v (penL s0 (Lx)).1 (penL s0 (Lx)).2.1))), (qo, .inl (cB, 16392, .inl (penL s0 (Lx)).2.2))]) hD hS hA [0, 1] rfl
            refine va_callv (va_runV (As := [.int (48 + nI (mm / 10 ^ c0 % 10))]) (rest := []) ⟨hx, hb, hml, hown, hts⟩ (c_Mo_pen l dC dI mo H v cB qo (penL s0 (Lx)) ((48 + nI (mm / 10 ^ c0 % 10))) (penL_le hk0 _) h10) (cwV 1 hts (gt_V (own := R_Mo) (C := R_Mo) (i := 239) (y := y_Mo_write) i_Mo_write w_1374 w_1376 (gt_sel (y := y_Mo_write) (n := 30) (by decide +kernel)) w_7) rfl rfl rfl (by decide +kernel) ⟨Nat.le_of_ble_eq_true rfl, Nat.le_of_ble_eq_true rfl⟩) ⟨mp_blind, va_recv hKc hPc (ci := 13) (q0 := 0) rfl rfl, fun U hU hW => ⟨rfl, hU, by rw [hU]; exact hPc, va_K.moved hW.alike hKc, hDc.weaken (fun _ _ _ _ => trivial)⟩⟩ rfl rfl hl.1 rfl (lv_room (Nat.le_of_ble_eq_true rfl)) d_Mo_numberJ_83 ⟨Nat.le_of_ble_eq_true rfl, Nat.le_of_ble_eq_true rfl⟩) hS (fun q _ h => hFc q h) hFc (fun u2 t9 H1 locs ht hvm hw hB hz1 hk1 hS => ?_)
            obtain ⟨hP1, hK1, hD1⟩ := hB
            rw [ht] at hP1
            obtain ⟨hP, hD⟩ := va_join (wr := []) (w1 := [(mo, .inr (13, MF 30 (nf v u2.1 u2.2.1))), (qo, .inl (cB, 16392, .inl u2.2.2))]) hP hD [0, 1] [] rfl rfl (by decide) (by decide) hk1 hFc hP1 hD1
            generalize H1 = H at hP hS ⊢
            have hP : va_P (dC, dI) classes [(mo, .inr (13, MF 30 (nf v u2.1 u2.2.1))), (qo, .inl (cB, 16392, .inl u2.2.2))] H := hP
            have hD : va_D A [(mo, .inr (13, MF 30 (nf v u2.1 u2.2.1))), (qo, .inl (cB, 16392, .inl u2.2.2))] := hD
            have hw : u2 = pen1 (penL s0 (Lx)) ((48 + nI (mm / 10 ^ c0 % 10))) := hw
            rw [penL_snoc] at hw
            subst hw
            have hP : va_P (dC, dI) classes [(mo, .inr (13, MF 30 (nf v (penL s0 (Lx ++ [(48 + nI (mm / 10 ^ c0 % 10))])).1 (penL s0 (Lx ++ [(48 + nI (mm / 10 ^ c0 % 10))])).2.1))), (qo, .inl (cB, 16392, .inl (penL s0 (Lx ++ [(48 + nI (mm / 10 ^ c0 % 10))])).2.2))] H := hP
            have hD : va_D A [(mo, .inr (13, MF 30 (nf v (penL s0 (Lx ++ [(48 + nI (mm / 10 ^ c0 % 10))])).1 (penL s0 (Lx ++ [(48 + nI (mm / 10 ^ c0 % 10))])).2.1))), (qo, .inl (cB, 16392, .inl (penL s0 (Lx ++ [(48 + nI (mm / 10 ^ c0 % 10))])).2.2))] := hD
            refine lv_lload hx hb d_Mo_numberJ_86 (lv_at hl 3 rfl) ?_
            refine lv_ldc2 (v := 10) hx hb hown (hts _ w_1344) d_Mo_numberJ_88 ?_
            refine lv_ldiv hx hb d_Mo_numberJ_91 (by decide) ?_
            refine W.eq (g2 := F0 m 92 ls [.long (tK c0)]) (by rw [show ((Int64.ofNat (10 ^ c0)) / 10) = (tK c0) from (by rw [← tK_s]; exact tK_div (by omega))]) ?_
            refine lv_lstore (lv' := [(5, .long (tK c0)), (7, .long ((x9 / (Int64.ofNat (10 ^ c0))) % 10)), (0, .ref mo), (1, .long x9)]) hx hb d_Mo_numberJ_92 hl (by decide) rfl (fun ls hl => ?_)
            refine lv_goto (tgt := 46) hx hb d_Mo_numberJ_94 (by decide) ?_
            have hst : (Lx ++ [(48 + nI (mm / 10 ^ c0 % 10))]) ++ dgK mm c0 = nmB x9 := by rw [← hJ2, hc0]; simp [dgK, List.append_assoc]
            exact ih (c0, Lx ++ [(48 + nI (mm / 10 ^ c0 % 10))]) _ _ _ ⟨by omega, hst⟩ (by show c0 < c9; omega) hP hD hS (lv_sub hl [2, 3, 0] rfl)
          · refine lv_lload hx hb d_Mo_numberJ_73 (lv_at hl 0 rfl) ?_
            refine lv_lneg hx hb d_Mo_numberJ_75 ?_
            refine lv_goto (tgt := 81) hx hb d_Mo_numberJ_76 (by decide) ?_
            refine lv_l2i (v := ((-(((x9 / (Int64.ofNat (10 ^ c0))) % 10)))).toInt32) hx hb d_Mo_numberJ_81 rfl ?_
            refine lv_iadd hx hb d_Mo_numberJ_82 ?_
            refine W.eq (g2 := F0 m 83 ls [.int (48 + nI (mm / 10 ^ c0 % 10)), .ref mo]) (by rw [show (48 + (((-(((x9 / (Int64.ofNat (10 ^ c0))) % 10)))).toInt32)) = (48 + nI (mm / 10 ^ c0 % 10)) from (by rw [← hde, if_neg (fun h => c70 ((lg_cmp_ge _ _).mpr h))])]) ?_
            have hPc := hP.sub (ws' := [(mo, .inr (13, MF 30 (nf v (penL s0 (Lx)).1 (penL s0 (Lx)).2.1))), (qo, .inl (cB, 16392, .inl (penL s0 (Lx)).2.2))]) [0, 1] rfl
            have hDc := hD.sub (ws' := [(mo, .inr (13, MF 30 (nf v (penL s0 (Lx)).1 (penL s0 (Lx)).2.1))), (qo, .inl (cB, 16392, .inl (penL s0 (Lx)).2.2))]) [0, 1] (by decide) rfl
            have hKc := hK.sub (tys' := [(cB, .byte)]) [0] rfl
            have hFc := va_free (wc := [(mo, .inr (13, MF 30 (nf v (penL s0 (Lx)).1 (penL s0 (Lx)).2.1))), (qo, .inl (cB, 16392, .inl (penL s0 (Lx)).2.2))]) hD hS hA [0, 1] rfl
            refine va_callv (va_runV (As := [.int (48 + nI (mm / 10 ^ c0 % 10))]) (rest := []) ⟨hx, hb, hml, hown, hts⟩ (c_Mo_pen l dC dI mo H v cB qo (penL s0 (Lx)) ((48 + nI (mm / 10 ^ c0 % 10))) (penL_le hk0 _) h10) (cwV 1 hts (gt_V (own := R_Mo) (C := R_Mo) (i := 239) (y := y_Mo_write) i_Mo_write w_1374 w_1376 (gt_sel (y := y_Mo_write) (n := 30) (by decide +kernel)) w_7) rfl rfl rfl (by decide +kernel) ⟨Nat.le_of_ble_eq_true rfl, Nat.le_of_ble_eq_true rfl⟩) ⟨mp_blind, va_recv hKc hPc (ci := 13) (q0 := 0) rfl rfl, fun U hU hW => ⟨rfl, hU, by rw [hU]; exact hPc, va_K.moved hW.alike hKc, hDc.weaken (fun _ _ _ _ => trivial)⟩⟩ rfl rfl hl.1 rfl (lv_room (Nat.le_of_ble_eq_true rfl)) d_Mo_numberJ_83 ⟨Nat.le_of_ble_eq_true rfl, Nat.le_of_ble_eq_true rfl⟩) hS (fun q _ h => hFc q h) hFc (fun u2 t9 H1 locs ht hvm hw hB hz1 hk1 hS => ?_)
            obtain ⟨hP1, hK1, hD1⟩ := hB
            rw [ht] at hP1
            obtain ⟨hP, hD⟩ := va_join (wr := []) (w1 := [(mo, .inr (13, MF 30 (nf v u2.1 u2.2.1))), (qo, .inl (cB, 16392, .inl u2.2.2))]) hP hD [0, 1] [] rfl rfl (by decide) (by decide) hk1 hFc hP1 hD1
            generalize H1 = H at hP hS ⊢
            have hP : va_P (dC, dI) classes [(mo, .inr (13, MF 30 (nf v u2.1 u2.2.1))), (qo, .inl (cB, 16392, .inl u2.2.2))] H := hP
            have hD : va_D A [(mo, .inr (13, MF 30 (nf v u2.1 u2.2.1))), (qo, .inl (cB, 16392, .inl u2.2.2))] := hD
            have hw : u2 = pen1 (penL s0 (Lx)) ((48 + nI (mm / 10 ^ c0 % 10))) := hw
            rw [penL_snoc] at hw
            subst hw
            have hP : va_P (dC, dI) classes [(mo, .inr (13, MF 30 (nf v (penL s0 (Lx ++ [(48 + nI (mm / 10 ^ c0 % 10))])).1 (penL s0 (Lx ++ [(48 + nI (mm / 10 ^ c0 % 10))])).2.1))), (qo, .inl (cB, 16392, .inl (penL s0 (Lx ++ [(48 + nI (mm / 10 ^ c0 % 10))])).2.2))] H := hP
            have hD : va_D A [(mo, .inr (13, MF 30 (nf v (penL s0 (Lx ++ [(48 + nI (mm / 10 ^ c0 % 10))])).1 (penL s0 (Lx ++ [(48 + nI (mm / 10 ^ c0 % 10))])).2.1))), (qo, .inl (cB, 16392, .inl (penL s0 (Lx ++ [(48 + nI (mm / 10 ^ c0 % 10))])).2.2))] := hD
            refine lv_lload hx hb d_Mo_numberJ_86 (lv_at hl 3 rfl) ?_
            refine lv_ldc2 (v := 10) hx hb hown (hts _ w_1344) d_Mo_numberJ_88 ?_
            refine lv_ldiv hx hb d_Mo_numberJ_91 (by decide) ?_
            refine W.eq (g2 := F0 m 92 ls [.long (tK c0)]) (by rw [show ((Int64.ofNat (10 ^ c0)) / 10) = (tK c0) from (by rw [← tK_s]; exact tK_div (by omega))]) ?_
            refine lv_lstore (lv' := [(5, .long (tK c0)), (7, .long ((x9 / (Int64.ofNat (10 ^ c0))) % 10)), (0, .ref mo), (1, .long x9)]) hx hb d_Mo_numberJ_92 hl (by decide) rfl (fun ls hl => ?_)
            refine lv_goto (tgt := 46) hx hb d_Mo_numberJ_94 (by decide) ?_
            have hst : (Lx ++ [(48 + nI (mm / 10 ^ c0 % 10))]) ++ dgK mm c0 = nmB x9 := by rw [← hJ2, hc0]; simp [dgK, List.append_assoc]
            exact ih (c0, Lx ++ [(48 + nI (mm / 10 ^ c0 % 10))]) _ _ _ ⟨by omega, hst⟩ (by show c0 < c9; omega) hP hD hS (lv_sub hl [2, 3, 0] rfl)
      · refine lv_lload_n hx hb d_Mo_numberJ_34 rfl (lv_at hl 2 rfl) ?_
        refine lv_ldc2 (v := 10) hx hb hown (hts _ w_1344) d_Mo_numberJ_35 ?_
        refine lv_lmul hx hb d_Mo_numberJ_38 ?_
        refine lv_lstore_n (lv' := [(3, .long ((Int64.ofNat (10 ^ k)) * 10)), (0, .ref mo), (1, .long x9)]) hx hb d_Mo_numberJ_39 rfl hl (by decide) rfl (fun ls hl => ?_)
        refine lv_goto (tgt := 14) hx hb d_Mo_numberJ_40 (by decide) ?_
        have h10k : 10 ≤ mm / 10 ^ k := hge.mp (Or.inr (Int64.not_lt.mp (fun h => c31 ((lg_cmp_gt _ _).mpr h))))
        have hk15 : k ≠ 15 := fun e => by rw [e] at h10k; have := Nat.div_lt_of_lt_mul (show mm < 10 ^ 15 * 10 by omega); omega
        obtain ⟨f0, hf0⟩ : ∃ f0, f9 = f0 + 1 := ⟨f9 - 1, by omega⟩
        rw [ten_mul] at hl
        exact ih (f0, k + 1) _ _ _ ⟨by omega, by omega, by rw [← hI3, hf0]; simp only [tenK]; rw [if_pos h10k]⟩ (by show f0 < f9; omega) hP hD hS (lv_sub hl [1, 2, 0] rfl)
  · refine lv_aload_n hx hb d_Mo_numberJ_6 rfl (lv_at hl 0 rfl) ?_
    refine lv_bipush (v := 45) hx hb d_Mo_numberJ_7 (by decide) ?_
    have hPc := hP.sub (ws' := [(mo, .inr (13, MF 30 (nf v (penL s0 ([])).1 (penL s0 ([])).2.1))), (qo, .inl (cB, 16392, .inl (penL s0 ([])).2.2))]) [0, 1] rfl
    have hDc := hD.sub (ws' := [(mo, .inr (13, MF 30 (nf v (penL s0 ([])).1 (penL s0 ([])).2.1))), (qo, .inl (cB, 16392, .inl (penL s0 ([])).2.2))]) [0, 1] (by decide) rfl
    have hKc := hK.sub (tys' := [(cB, .byte)]) [0] rfl
    have hFc := va_free (wc := [(mo, .inr (13, MF 30 (nf v (penL s0 ([])).1 (penL s0 ([])).2.1))), (qo, .inl (cB, 16392, .inl (penL s0 ([])).2.2))]) hD hS hA [0, 1] rfl
    refine va_callv (va_runV (As := [.int 45]) (rest := []) ⟨hx, hb, hml, hown, hts⟩ (c_Mo_pen l dC dI mo s.heap v cB qo (penL s0 ([])) 45 (penL_le hk0 _) h10) (cwV 1 hts (gt_V (own := R_Mo) (C := R_Mo) (i := 239) (y := y_Mo_write) i_Mo_write w_1374 w_1376 (gt_sel (y := y_Mo_write) (n := 30) (by decide +kernel)) w_7) rfl rfl rfl (by decide +kernel) ⟨Nat.le_of_ble_eq_true rfl, Nat.le_of_ble_eq_true rfl⟩) ⟨mp_blind, va_recv hKc hPc (ci := 13) (q0 := 0) rfl rfl, fun U hU hW => ⟨rfl, hU, by rw [hU]; exact hPc, va_K.moved hW.alike hKc, hDc.weaken (fun _ _ _ _ => trivial)⟩⟩ rfl rfl hl.1 rfl (lv_room (Nat.le_of_ble_eq_true rfl)) d_Mo_numberJ_9 ⟨Nat.le_of_ble_eq_true rfl, Nat.le_of_ble_eq_true rfl⟩) hS (fun q _ h => hFc q h) hFc (fun u2 t9 H1 locs ht hvm hw hB hz1 hk1 hS => ?_)
    obtain ⟨hP1, hK1, hD1⟩ := hB
    rw [ht] at hP1
    obtain ⟨hP, hD⟩ := va_join (wr := []) (w1 := [(mo, .inr (13, MF 30 (nf v u2.1 u2.2.1))), (qo, .inl (cB, 16392, .inl u2.2.2))]) hP hD [0, 1] [] rfl rfl (by decide) (by decide) hk1 hFc hP1 hD1
    generalize H1 = H at hP hS ⊢
    have hP : va_P (dC, dI) classes [(mo, .inr (13, MF 30 (nf v u2.1 u2.2.1))), (qo, .inl (cB, 16392, .inl u2.2.2))] H := hP
    have hD : va_D A [(mo, .inr (13, MF 30 (nf v u2.1 u2.2.1))), (qo, .inl (cB, 16392, .inl u2.2.2))] := hD
    have hw : u2 = pen1 (penL s0 ([])) 45 := hw
    rw [penL_snoc] at hw
    subst hw
    have hP : va_P (dC, dI) classes [(mo, .inr (13, MF 30 (nf v (penL s0 ([] ++ [45])).1 (penL s0 ([] ++ [45])).2.1))), (qo, .inl (cB, 16392, .inl (penL s0 ([] ++ [45])).2.2))] H := hP
    have hD : va_D A [(mo, .inr (13, MF 30 (nf v (penL s0 ([] ++ [45])).1 (penL s0 ([] ++ [45])).2.1))), (qo, .inl (cB, 16392, .inl (penL s0 ([] ++ [45])).2.2))] := hD
    refine lv_lconst (v := 1) hx hb d_Mo_numberJ_12 (by decide) ?_
    refine lv_lstore_n (lv' := [(3, .long 1), (0, .ref mo), (1, .long x9)]) hx hb d_Mo_numberJ_13 rfl hl (by decide) rfl (fun ls hl => ?_)
    have hsg : (if x9.toInt < 0 then [45] else []) = ([] ++ [45] : List Int32) := by rw [if_pos (show x9.toInt < 0 from Int64.lt_iff_toInt_lt.mp (Int64.not_le.mp (fun h => c3 ((lg_cmp_ge _ _).mpr h))))]; rfl
    refine w_loop (D := (dC, dI)) (cl := classes) (A := A) (H0 := s.heap) (nL := 9) 14 (σ := Nat × Nat) (fun ⟨f9, k⟩ => k ≤ 15 ∧ f9 + k = 16 ∧ tenK mm f9 k = tenK mm 16 0) (fun ⟨f9, k⟩ => f9) (fun ⟨f9, k⟩ => [(mo, .inr (13, MF 30 (nf v (penL s0 ([] ++ [45])).1 (penL s0 ([] ++ [45])).2.1))), (qo, .inl (cB, 16392, .inl (penL s0 ([] ++ [45])).2.2))]) (fun ⟨f9, k⟩ => [(0, .ref mo), (1, .long x9), (3, .long (Int64.ofNat (10 ^ k)))]) ?_ (16, 0) ⟨by decide, rfl, rfl⟩ hP hD hS (lv_sub hl [1, 2, 0] rfl)
    rintro ⟨f9, k⟩ H locs ls hI ih hP hD hS hl
    have hP : va_P (dC, dI) classes [(mo, .inr (13, MF 30 (nf v (penL s0 ([] ++ [45])).1 (penL s0 ([] ++ [45])).2.1))), (qo, .inl (cB, 16392, .inl (penL s0 ([] ++ [45])).2.2))] H := hP
    have hD : va_D A [(mo, .inr (13, MF 30 (nf v (penL s0 ([] ++ [45])).1 (penL s0 ([] ++ [45])).2.1))), (qo, .inl (cB, 16392, .inl (penL s0 ([] ++ [45])).2.2))] := hD
    have hl : lv_has ls 9 [(0, .ref mo), (1, .long x9), (3, .long (Int64.ofNat (10 ^ k)))] := hl
    obtain ⟨hI1, hI2, hI3⟩ := hI
    have htz : ¬ Int64.ofNat (10 ^ k) = 0 := fun h => by have h2 := (tK_pos (c := k + 1) (by omega)).mp (by rw [tK_s, h]; decide); omega
    have hge := ten_ge (k := k) (by omega) hsm
    rw [← hmm] at hge
    refine lv_lload_n hx hb d_Mo_numberJ_14 rfl (lv_at hl 1 rfl) ?_
    refine lv_lload_n hx hb d_Mo_numberJ_15 rfl (lv_at hl 2 rfl) ?_
    refine lv_ldiv hx hb d_Mo_numberJ_16 htz ?_
    refine lv_ldc2 (v := 10) hx hb hown (hts _ w_1344) d_Mo_numberJ_17 ?_
    refine W.lcmp hx hb d_Mo_numberJ_20 ?_
    refine lv_if_ge (tgt := 34) hx hb d_Mo_numberJ_21 (by decide) (fun c21 => ?_) (fun c21 => ?_)
    · refine lv_lload_n hx hb d_Mo_numberJ_34 rfl (lv_at hl 2 rfl) ?_
      refine lv_ldc2 (v := 10) hx hb hown (hts _ w_1344) d_Mo_numberJ_35 ?_
      refine lv_lmul hx hb d_Mo_numberJ_38 ?_
      refine lv_lstore_n (lv' := [(3, .long ((Int64.ofNat (10 ^ k)) * 10)), (0, .ref mo), (1, .long x9)]) hx hb d_Mo_numberJ_39 rfl hl (by decide) rfl (fun ls hl => ?_)
      refine lv_goto (tgt := 14) hx hb d_Mo_numberJ_40 (by decide) ?_
      have h10k : 10 ≤ mm / 10 ^ k := hge.mp (Or.inl ((lg_cmp_ge _ _).mp c21))
      have hk15 : k ≠ 15 := fun e => by rw [e] at h10k; have := Nat.div_lt_of_lt_mul (show mm < 10 ^ 15 * 10 by omega); omega
      obtain ⟨f0, hf0⟩ : ∃ f0, f9 = f0 + 1 := ⟨f9 - 1, by omega⟩
      rw [ten_mul] at hl
      exact ih (f0, k + 1) _ _ _ ⟨by omega, by omega, by rw [← hI3, hf0]; simp only [tenK]; rw [if_pos h10k]⟩ (by show f0 < f9; omega) hP hD hS (lv_sub hl [1, 2, 0] rfl)
    · refine lv_lload_n hx hb d_Mo_numberJ_24 rfl (lv_at hl 1 rfl) ?_
      refine lv_lload_n hx hb d_Mo_numberJ_25 rfl (lv_at hl 2 rfl) ?_
      refine lv_ldiv hx hb d_Mo_numberJ_26 htz ?_
      refine lv_ldc2 (v := (-10)) hx hb hown (hts _ w_1382) d_Mo_numberJ_27 ?_
      refine W.lcmp hx hb d_Mo_numberJ_30 ?_
      refine lv_if_gt (tgt := 43) hx hb d_Mo_numberJ_31 (by decide) (fun c31 => ?_) (fun c31 => ?_)
      · refine lv_lload_n hx hb d_Mo_numberJ_43 rfl (lv_at hl 2 rfl) ?_
        refine lv_lstore (lv' := [(5, .long (Int64.ofNat (10 ^ k))), (0, .ref mo), (1, .long x9), (3, .long (Int64.ofNat (10 ^ k)))]) hx hb d_Mo_numberJ_44 hl (by decide) rfl (fun ls hl => ?_)
        have hno : ¬ 10 ≤ mm / 10 ^ k := fun h => (hge.mpr h).elim (fun h => c21 ((lg_cmp_ge _ _).mpr h)) (fun h => absurd ((lg_cmp_gt _ _).mp c31) (Int64.not_lt.mpr h))
        have hkt : tenK mm 16 0 = k := by rw [← hI3]; cases f9 with | zero => rfl | succ f0 => simp only [tenK]; rw [if_neg hno]
        have hnm : nmB x9 = ([] ++ [45]) ++ dgK mm (k + 1) := by unfold nmB; rw [← hmm, hsg, hkt]
        rw [show Int64.ofNat (10 ^ k) = tK (k + 1) from tK_s.symm] at hl
        refine w_loop (D := (dC, dI)) (cl := classes) (A := A) (H0 := s.heap) (nL := 9) 46 (σ := Nat × List Int32) (fun ⟨c9, Lx⟩ => c9 ≤ 16 ∧ Lx ++ dgK mm c9 = nmB x9) (fun ⟨c9, Lx⟩ => c9) (fun ⟨c9, Lx⟩ => [(mo, .inr (13, MF 30 (nf v (penL s0 (Lx)).1 (penL s0 (Lx)).2.1))), (qo, .inl (cB, 16392, .inl (penL s0 (Lx)).2.2))]) (fun ⟨c9, Lx⟩ => [(0, .ref mo), (1, .long x9), (5, .long (tK c9))]) ?_ (k + 1, [] ++ [45]) ⟨by omega, hnm.symm⟩ hP hD hS (lv_sub hl [1, 2, 0] rfl)
        rintro ⟨c9, Lx⟩ H locs ls hI ih hP hD hS hl
        have hP : va_P (dC, dI) classes [(mo, .inr (13, MF 30 (nf v (penL s0 (Lx)).1 (penL s0 (Lx)).2.1))), (qo, .inl (cB, 16392, .inl (penL s0 (Lx)).2.2))] H := hP
        have hD : va_D A [(mo, .inr (13, MF 30 (nf v (penL s0 (Lx)).1 (penL s0 (Lx)).2.1))), (qo, .inl (cB, 16392, .inl (penL s0 (Lx)).2.2))] := hD
        have hl : lv_has ls 9 [(0, .ref mo), (1, .long x9), (5, .long (tK c9))] := hl
        obtain ⟨hJ1, hJ2⟩ := hI
        refine lv_lload hx hb d_Mo_numberJ_46 (lv_at hl 2 rfl) ?_
        refine lv_lconst (v := 0) hx hb d_Mo_numberJ_48 (by decide) ?_
        refine W.lcmp hx hb d_Mo_numberJ_49 ?_
        refine lv_if_le (tgt := 97) hx hb d_Mo_numberJ_50 (by decide) (fun c50 => ?_) (fun c50 => ?_)
        · have hc0 : c9 = 0 := (tK_pos (by omega)).mp ((lg_cmp_le _ _).mp c50)
          have hLL : Lx = nmB x9 := by rw [← hJ2, hc0]; simp [dgK]
          rw [hLL] at hP hD
          exact W.vret hx hb hr (fun t9 ht hW => ⟨⟨(), rfl, trivial, by rw [ht]; exact hP, va_K.moved hW.alike hK, hD⟩, hS.F ht⟩) hS.2.2 d_Mo_numberJ_97
        · have hcn : c9 ≠ 0 := fun h => c50 ((lg_cmp_le _ _).mpr ((tK_pos (by omega)).mpr h))
          obtain ⟨c0, hc0⟩ : ∃ c0, c9 = c0 + 1 := ⟨c9 - 1, by omega⟩
          rw [hc0, tK_s] at hl
          have htz2 : ¬ Int64.ofNat (10 ^ c0) = 0 := fun h => by have h2 := (tK_pos (c := c0 + 1) (by omega)).mp (by rw [tK_s, h]; decide); omega
          have hde := dig_eq (k := c0) (by omega) hsm
          rw [← hmm] at hde
          refine lv_lload_n hx hb d_Mo_numberJ_53 rfl (lv_at hl 1 rfl) ?_
          refine lv_lload hx hb d_Mo_numberJ_54 (lv_at hl 2 rfl) ?_
          refine lv_ldiv hx hb d_Mo_numberJ_56 htz2 ?_
          refine lv_ldc2 (v := 10) hx hb hown (hts _ w_1344) d_Mo_numberJ_57 ?_
          refine lv_lrem hx hb d_Mo_numberJ_60 (by decide) ?_
          refine W.eq (g2 := F0 m 61 ls [.long ((x9 / (Int64.ofNat (10 ^ c0))) % 10)]) (by rw [show ((x9 / (Int64.ofNat (10 ^ c0))) - (x9 / (Int64.ofNat (10 ^ c0))) / 10 * 10) = ((x9 / (Int64.ofNat (10 ^ c0))) % 10) from (rem_eq (smL_div (by rw [tdiv_small (p10_lt (by omega)) hsm, toI_ofN (p10_lt (by omega))]) hsm))]) ?_
          refine lv_lstore (lv' := [(7, .long ((x9 / (Int64.ofNat (10 ^ c0))) % 10)), (0, .ref mo), (1, .long x9), (5, .long (Int64.ofNat (10 ^ c0)))]) hx hb d_Mo_numberJ_61 hl (by decide) rfl (fun ls hl => ?_)
          refine lv_aload_n hx hb d_Mo_numberJ_63 rfl (lv_at hl 1 rfl) ?_
          refine lv_bipush (v := 48) hx hb d_Mo_numberJ_64 (by decide) ?_
          refine lv_lload hx hb d_Mo_numberJ_66 (lv_at hl 0 rfl) ?_
          refine lv_lconst (v := 0) hx hb d_Mo_numberJ_68 (by decide) ?_
          refine W.lcmp hx hb d_Mo_numberJ_69 ?_
          refine lv_if_ge (tgt := 79) hx hb d_Mo_numberJ_70 (by decide) (fun c70 => ?_) (fun c70 => ?_)
          · refine lv_lload hx hb d_Mo_numberJ_79 (lv_at hl 0 rfl) ?_
            refine lv_l2i (v := (((x9 / (Int64.ofNat (10 ^ c0))) % 10)).toInt32) hx hb d_Mo_numberJ_81 rfl ?_
            refine lv_iadd hx hb d_Mo_numberJ_82 ?_
            refine W.eq (g2 := F0 m 83 ls [.int (48 + nI (mm / 10 ^ c0 % 10)), .ref mo]) (by rw [show (48 + ((((x9 / (Int64.ofNat (10 ^ c0))) % 10)).toInt32)) = (48 + nI (mm / 10 ^ c0 % 10)) from (by rw [← hde, if_pos ((lg_cmp_ge _ _).mp c70)])]) ?_
            have hPc := hP.sub (ws' := [(mo, .inr (13, MF 30 (nf v (penL s0 (Lx)).1 (penL s0 (Lx)).2.1))), (qo, .inl (cB, 16392, .inl (penL s0 (Lx)).2.2))]) [0, 1] rfl
            have hDc := hD.sub (ws' := [(mo, .inr (13, MF 30 (nf v (penL s0 (Lx)).1 (penL s0 (Lx)).2.1))), (qo, .inl (cB, 16392, .inl (penL s0 (Lx)).2.2))]) [0, 1] (by decide) rfl
            have hKc := hK.sub (tys' := [(cB, .byte)]) [0] rfl
            have hFc := va_free (wc := [(mo, .inr (13, MF 30 (nf v (penL s0 (Lx)).1 (penL s0 (Lx)).2.1))), (qo, .inl (cB, 16392, .inl (penL s0 (Lx)).2.2))]) hD hS hA [0, 1] rfl
            refine va_callv (va_runV (As := [.int (48 + nI (mm / 10 ^ c0 % 10))]) (rest := []) ⟨hx, hb, hml, hown, hts⟩ (c_Mo_pen l dC dI mo H v cB qo (penL s0 (Lx)) ((48 + nI (mm / 10 ^ c0 % 10))) (penL_le hk0 _) h10) (cwV 1 hts (gt_V (own := R_Mo) (C := R_Mo) (i := 239) (y := y_Mo_write) i_Mo_write w_1374 w_1376 (gt_sel (y := y_Mo_write) (n := 30) (by decide +kernel)) w_7) rfl rfl rfl (by decide +kernel) ⟨Nat.le_of_ble_eq_true rfl, Nat.le_of_ble_eq_true rfl⟩) ⟨mp_blind, va_recv hKc hPc (ci := 13) (q0 := 0) rfl rfl, fun U hU hW => ⟨rfl, hU, by rw [hU]; exact hPc, va_K.moved hW.alike hKc, hDc.weaken (fun _ _ _ _ => trivial)⟩⟩ rfl rfl hl.1 rfl (lv_room (Nat.le_of_ble_eq_true rfl)) d_Mo_numberJ_83 ⟨Nat.le_of_ble_eq_true rfl, Nat.le_of_ble_eq_true rfl⟩) hS (fun q _ h => hFc q h) hFc (fun u2 t9 H1 locs ht hvm hw hB hz1 hk1 hS => ?_)
            obtain ⟨hP1, hK1, hD1⟩ := hB
            rw [ht] at hP1
            obtain ⟨hP, hD⟩ := va_join (wr := []) (w1 := [(mo, .inr (13, MF 30 (nf v u2.1 u2.2.1))), (qo, .inl (cB, 16392, .inl u2.2.2))]) hP hD [0, 1] [] rfl rfl (by decide) (by decide) hk1 hFc hP1 hD1
            generalize H1 = H at hP hS ⊢
            have hP : va_P (dC, dI) classes [(mo, .inr (13, MF 30 (nf v u2.1 u2.2.1))), (qo, .inl (cB, 16392, .inl u2.2.2))] H := hP
            have hD : va_D A [(mo, .inr (13, MF 30 (nf v u2.1 u2.2.1))), (qo, .inl (cB, 16392, .inl u2.2.2))] := hD
            have hw : u2 = pen1 (penL s0 (Lx)) ((48 + nI (mm / 10 ^ c0 % 10))) := hw
            rw [penL_snoc] at hw
            subst hw
            have hP : va_P (dC, dI) classes [(mo, .inr (13, MF 30 (nf v (penL s0 (Lx ++ [(48 + nI (mm / 10 ^ c0 % 10))])).1 (penL s0 (Lx ++ [(48 + nI (mm / 10 ^ c0 % 10))])).2.1))), (qo, .inl (cB, 16392, .inl (penL s0 (Lx ++ [(48 + nI (mm / 10 ^ c0 % 10))])).2.2))] H := hP
            have hD : va_D A [(mo, .inr (13, MF 30 (nf v (penL s0 (Lx ++ [(48 + nI (mm / 10 ^ c0 % 10))])).1 (penL s0 (Lx ++ [(48 + nI (mm / 10 ^ c0 % 10))])).2.1))), (qo, .inl (cB, 16392, .inl (penL s0 (Lx ++ [(48 + nI (mm / 10 ^ c0 % 10))])).2.2))] := hD
            refine lv_lload hx hb d_Mo_numberJ_86 (lv_at hl 3 rfl) ?_
            refine lv_ldc2 (v := 10) hx hb hown (hts _ w_1344) d_Mo_numberJ_88 ?_
            refine lv_ldiv hx hb d_Mo_numberJ_91 (by decide) ?_
            refine W.eq (g2 := F0 m 92 ls [.long (tK c0)]) (by rw [show ((Int64.ofNat (10 ^ c0)) / 10) = (tK c0) from (by rw [← tK_s]; exact tK_div (by omega))]) ?_
            refine lv_lstore (lv' := [(5, .long (tK c0)), (7, .long ((x9 / (Int64.ofNat (10 ^ c0))) % 10)), (0, .ref mo), (1, .long x9)]) hx hb d_Mo_numberJ_92 hl (by decide) rfl (fun ls hl => ?_)
            refine lv_goto (tgt := 46) hx hb d_Mo_numberJ_94 (by decide) ?_
            have hst : (Lx ++ [(48 + nI (mm / 10 ^ c0 % 10))]) ++ dgK mm c0 = nmB x9 := by rw [← hJ2, hc0]; simp [dgK, List.append_assoc]
            exact ih (c0, Lx ++ [(48 + nI (mm / 10 ^ c0 % 10))]) _ _ _ ⟨by omega, hst⟩ (by show c0 < c9; omega) hP hD hS (lv_sub hl [2, 3, 0] rfl)
          · refine lv_lload hx hb d_Mo_numberJ_73 (lv_at hl 0 rfl) ?_
            refine lv_lneg hx hb d_Mo_numberJ_75 ?_
            refine lv_goto (tgt := 81) hx hb d_Mo_numberJ_76 (by decide) ?_
            refine lv_l2i (v := ((-(((x9 / (Int64.ofNat (10 ^ c0))) % 10)))).toInt32) hx hb d_Mo_numberJ_81 rfl ?_
            refine lv_iadd hx hb d_Mo_numberJ_82 ?_
            refine W.eq (g2 := F0 m 83 ls [.int (48 + nI (mm / 10 ^ c0 % 10)), .ref mo]) (by rw [show (48 + (((-(((x9 / (Int64.ofNat (10 ^ c0))) % 10)))).toInt32)) = (48 + nI (mm / 10 ^ c0 % 10)) from (by rw [← hde, if_neg (fun h => c70 ((lg_cmp_ge _ _).mpr h))])]) ?_
            have hPc := hP.sub (ws' := [(mo, .inr (13, MF 30 (nf v (penL s0 (Lx)).1 (penL s0 (Lx)).2.1))), (qo, .inl (cB, 16392, .inl (penL s0 (Lx)).2.2))]) [0, 1] rfl
            have hDc := hD.sub (ws' := [(mo, .inr (13, MF 30 (nf v (penL s0 (Lx)).1 (penL s0 (Lx)).2.1))), (qo, .inl (cB, 16392, .inl (penL s0 (Lx)).2.2))]) [0, 1] (by decide) rfl
            have hKc := hK.sub (tys' := [(cB, .byte)]) [0] rfl
            have hFc := va_free (wc := [(mo, .inr (13, MF 30 (nf v (penL s0 (Lx)).1 (penL s0 (Lx)).2.1))), (qo, .inl (cB, 16392, .inl (penL s0 (Lx)).2.2))]) hD hS hA [0, 1] rfl
            refine va_callv (va_runV (As := [.int (48 + nI (mm / 10 ^ c0 % 10))]) (rest := []) ⟨hx, hb, hml, hown, hts⟩ (c_Mo_pen l dC dI mo H v cB qo (penL s0 (Lx)) ((48 + nI (mm / 10 ^ c0 % 10))) (penL_le hk0 _) h10) (cwV 1 hts (gt_V (own := R_Mo) (C := R_Mo) (i := 239) (y := y_Mo_write) i_Mo_write w_1374 w_1376 (gt_sel (y := y_Mo_write) (n := 30) (by decide +kernel)) w_7) rfl rfl rfl (by decide +kernel) ⟨Nat.le_of_ble_eq_true rfl, Nat.le_of_ble_eq_true rfl⟩) ⟨mp_blind, va_recv hKc hPc (ci := 13) (q0 := 0) rfl rfl, fun U hU hW => ⟨rfl, hU, by rw [hU]; exact hPc, va_K.moved hW.alike hKc, hDc.weaken (fun _ _ _ _ => trivial)⟩⟩ rfl rfl hl.1 rfl (lv_room (Nat.le_of_ble_eq_true rfl)) d_Mo_numberJ_83 ⟨Nat.le_of_ble_eq_true rfl, Nat.le_of_ble_eq_true rfl⟩) hS (fun q _ h => hFc q h) hFc (fun u2 t9 H1 locs ht hvm hw hB hz1 hk1 hS => ?_)
            obtain ⟨hP1, hK1, hD1⟩ := hB
            rw [ht] at hP1
            obtain ⟨hP, hD⟩ := va_join (wr := []) (w1 := [(mo, .inr (13, MF 30 (nf v u2.1 u2.2.1))), (qo, .inl (cB, 16392, .inl u2.2.2))]) hP hD [0, 1] [] rfl rfl (by decide) (by decide) hk1 hFc hP1 hD1
            generalize H1 = H at hP hS ⊢
            have hP : va_P (dC, dI) classes [(mo, .inr (13, MF 30 (nf v u2.1 u2.2.1))), (qo, .inl (cB, 16392, .inl u2.2.2))] H := hP
            have hD : va_D A [(mo, .inr (13, MF 30 (nf v u2.1 u2.2.1))), (qo, .inl (cB, 16392, .inl u2.2.2))] := hD
            have hw : u2 = pen1 (penL s0 (Lx)) ((48 + nI (mm / 10 ^ c0 % 10))) := hw
            rw [penL_snoc] at hw
            subst hw
            have hP : va_P (dC, dI) classes [(mo, .inr (13, MF 30 (nf v (penL s0 (Lx ++ [(48 + nI (mm / 10 ^ c0 % 10))])).1 (penL s0 (Lx ++ [(48 + nI (mm / 10 ^ c0 % 10))])).2.1))), (qo, .inl (cB, 16392, .inl (penL s0 (Lx ++ [(48 + nI (mm / 10 ^ c0 % 10))])).2.2))] H := hP
            have hD : va_D A [(mo, .inr (13, MF 30 (nf v (penL s0 (Lx ++ [(48 + nI (mm / 10 ^ c0 % 10))])).1 (penL s0 (Lx ++ [(48 + nI (mm / 10 ^ c0 % 10))])).2.1))), (qo, .inl (cB, 16392, .inl (penL s0 (Lx ++ [(48 + nI (mm / 10 ^ c0 % 10))])).2.2))] := hD
            refine lv_lload hx hb d_Mo_numberJ_86 (lv_at hl 3 rfl) ?_
            refine lv_ldc2 (v := 10) hx hb hown (hts _ w_1344) d_Mo_numberJ_88 ?_
            refine lv_ldiv hx hb d_Mo_numberJ_91 (by decide) ?_
            refine W.eq (g2 := F0 m 92 ls [.long (tK c0)]) (by rw [show ((Int64.ofNat (10 ^ c0)) / 10) = (tK c0) from (by rw [← tK_s]; exact tK_div (by omega))]) ?_
            refine lv_lstore (lv' := [(5, .long (tK c0)), (7, .long ((x9 / (Int64.ofNat (10 ^ c0))) % 10)), (0, .ref mo), (1, .long x9)]) hx hb d_Mo_numberJ_92 hl (by decide) rfl (fun ls hl => ?_)
            refine lv_goto (tgt := 46) hx hb d_Mo_numberJ_94 (by decide) ?_
            have hst : (Lx ++ [(48 + nI (mm / 10 ^ c0 % 10))]) ++ dgK mm c0 = nmB x9 := by rw [← hJ2, hc0]; simp [dgK, List.append_assoc]
            exact ih (c0, Lx ++ [(48 + nI (mm / 10 ^ c0 % 10))]) _ _ _ ⟨by omega, hst⟩ (by show c0 < c9; omega) hP hD hS (lv_sub hl [2, 3, 0] rfl)
      · refine lv_lload_n hx hb d_Mo_numberJ_34 rfl (lv_at hl 2 rfl) ?_
        refine lv_ldc2 (v := 10) hx hb hown (hts _ w_1344) d_Mo_numberJ_35 ?_
        refine lv_lmul hx hb d_Mo_numberJ_38 ?_
        refine lv_lstore_n (lv' := [(3, .long ((Int64.ofNat (10 ^ k)) * 10)), (0, .ref mo), (1, .long x9)]) hx hb d_Mo_numberJ_39 rfl hl (by decide) rfl (fun ls hl => ?_)
        refine lv_goto (tgt := 14) hx hb d_Mo_numberJ_40 (by decide) ?_
        have h10k : 10 ≤ mm / 10 ^ k := hge.mp (Or.inr (Int64.not_lt.mp (fun h => c31 ((lg_cmp_gt _ _).mpr h))))
        have hk15 : k ≠ 15 := fun e => by rw [e] at h10k; have := Nat.div_lt_of_lt_mul (show mm < 10 ^ 15 * 10 by omega); omega
        obtain ⟨f0, hf0⟩ : ∃ f0, f9 = f0 + 1 := ⟨f9 - 1, by omega⟩
        rw [ten_mul] at hl
        exact ih (f0, k + 1) _ _ _ ⟨by omega, by omega, by rw [← hI3, hf0]; simp only [tenK]; rw [if_pos h10k]⟩ (by show f0 < f9; omega) hP hD hS (lv_sub hl [1, 2, 0] rfl)
