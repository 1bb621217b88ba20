theorem w_1113 : (.fieldLink "QueryBenchModel" 59 "QueryBenchModel" "list" "[I" : Cond) ∈ gtbl := gt_in 1113 (by decide +kernel) (by decide +kernel)
theorem w_1114 : (.fieldLink "QueryBenchModel" 351 "QueryBenchModel" "top" "I" : Cond) ∈ gtbl := gt_in 1114 (by decide +kernel) (by decide +kernel)
theorem w_1497 : (.methodLink "QueryBenchModel" 348 ⟨"QueryBenchModel", "worked", "()Z"⟩ : Cond) ∈ gtbl := gt_in 1497 (by decide +kernel) (by decide +kernel)
theorem w_1499 : (.instanceMethod ⟨"QueryBenchModel", "worked", "()Z"⟩ : Cond) ∈ gtbl := gt_in 1499 (by decide +kernel) (by decide +kernel)
theorem w_1541 : (.constant "QueryBenchModel" 101 65536 : Cond) ∈ gtbl := gt_in 1541 (by decide +kernel) (by decide +kernel)
/-- the reference's list and its work: how long, how much, whether too much -/
def es (v : Nat → Value) (tp d : Nat) (tm : Int32) : Nat → Value := va_up (va_up (va_up v 25 (.int (nI tp))) 26 (.int (nI d))) 27 (.int tm)
theorem es_25 {v : Nat → Value} {tp d : Nat} {tm : Int32} : es v tp d tm 25 = .int (nI tp) := by unfold es; rw [va_up_ne _ _ (by decide), va_up_ne _ _ (by decide), va_up_self]
theorem es_26 {v : Nat → Value} {tp d : Nat} {tm : Int32} : es v tp d tm 26 = .int (nI d) := by unfold es; rw [va_up_ne _ _ (by decide), va_up_self]
theorem es_27 {v : Nat → Value} {tp d : Nat} {tm : Int32} : es v tp d tm 27 = .int tm := by unfold es; rw [va_up_self]
theorem es_ne {v : Nat → Value} {tp d j : Nat} {tm : Int32} (h1 : j ≠ 25) (h2 : j ≠ 26) (h3 : j ≠ 27) : es v tp d tm j = v j := by unfold es; rw [va_up_ne _ _ h3, va_up_ne _ _ h2, va_up_ne _ _ h1]
theorem es_u25 {v : Nat → Value} {tp d t2 : Nat} {tm : Int32} : va_up (es v tp d tm) 25 (.int (nI t2)) = es v t2 d tm := by
  funext k
  unfold es va_up
  by_cases e1 : k = 25
  · subst e1; simp
  · simp [e1]
theorem es_u26 {v : Nat → Value} {tp d d2 : Nat} {tm : Int32} : va_up (es v tp d tm) 26 (.int (nI d2)) = es v tp d2 tm := by
  funext k
  unfold es va_up
  by_cases e1 : k = 26
  · subst e1; simp
  · simp [e1]
theorem es_u27 {v : Nat → Value} {tp d : Nat} {tm t2 : Int32} : va_up (es v tp d tm) 27 (.int t2) = es v tp d t2 := by
  unfold es
  rw [bx_uu]
abbrev b_Mo_choose : ByteArray := prog_14_method_53_code
def y_Mo_choose : MethodName := ⟨"QueryBenchModel", "choose", "(I)V"⟩
abbrev k_Mo_choose : Cond := .code y_Mo_choose b_Mo_choose 2 none
theorem i_Mo_choose : k_Mo_choose ∈ gtbl := gt_in 1496 (by decide +kernel) (by decide +kernel)
theorem d_Mo_choose_0 : decode b_Mo_choose 0 = .ok (.aload_n 0, 1) := by decide +kernel
theorem d_Mo_choose_1 : decode b_Mo_choose 1 = .ok (.invokevirtual 348, 3) := by decide +kernel
theorem d_Mo_choose_4 : decode b_Mo_choose 4 = .ok (.ifCond .ne 4, 3) := by decide +kernel
theorem d_Mo_choose_7 : decode b_Mo_choose 7 = .ok (.return_, 1) := by decide +kernel
theorem d_Mo_choose_8 : decode b_Mo_choose 8 = .ok (.aload_n 0, 1) := by decide +kernel
theorem d_Mo_choose_9 : decode b_Mo_choose 9 = .ok (.getfield 59, 3) := by decide +kernel
theorem d_Mo_choose_12 : decode b_Mo_choose 12 = .ok (.aload_n 0, 1) := by decide +kernel
theorem d_Mo_choose_13 : decode b_Mo_choose 13 = .ok (.getfield 351, 3) := by decide +kernel
theorem d_Mo_choose_16 : decode b_Mo_choose 16 = .ok (.iload_n 1, 1) := by decide +kernel
theorem d_Mo_choose_17 : decode b_Mo_choose 17 = .ok (.iastore, 1) := by decide +kernel
theorem d_Mo_choose_18 : decode b_Mo_choose 18 = .ok (.aload_n 0, 1) := by decide +kernel
theorem d_Mo_choose_19 : decode b_Mo_choose 19 = .ok (.dup, 1) := by decide +kernel
theorem d_Mo_choose_20 : decode b_Mo_choose 20 = .ok (.getfield 351, 3) := by decide +kernel
theorem d_Mo_choose_23 : decode b_Mo_choose 23 = .ok (.iconst 1, 1) := by decide +kernel
theorem d_Mo_choose_24 : decode b_Mo_choose 24 = .ok (.iadd, 1) := by decide +kernel
theorem d_Mo_choose_25 : decode b_Mo_choose 25 = .ok (.putfield 351, 3) := by decide +kernel
theorem d_Mo_choose_28 : decode b_Mo_choose 28 = .ok (.return_, 1) := by decide +kernel
set_option maxHeartbeats 4000000 in
set_option maxRecDepth 100000 in
/-- the reference: choose -/
theorem c_Mo_choose (l : Launch) (dC : Nat → ClassId) (dI : Nat → Nat → Nat) (mo : Nat) (sz : Heap) (v : Nat → Value) (cI : ClassId) (ql tp d : Nat) (tm x : Int32) (li : Nat → Int32) (htd : tp ≤ d) (hd0 : d ≤ 100000) (htp : tp ≤ 10000) (h24 : v 24 = .ref ql) : Met l y_Mo_choose (k_Mo_choose :: gtbl) ({ frames := 1, cells := 0, slots := 0, locals := 24 }) (va_Pc [.ref mo, .int x] (mp dC dI [(mo, .inr (13, MF 30 (es v tp d tm))), (ql, .inl (cI, 20100, .inl li))] [(cI, .int)] sz)) (va_Qv (fun (u : Nat × Int32 × (Nat → Int32)) => (d + 1 ≤ 10000 ∧ tm = 0 ∧ u = (tp + 1, tm, upd li tp x)) ∨ (u.1 = tp ∧ u.2.2 = li ∧ ((¬ tm = 0 ∧ u.2.1 = tm) ∨ (¬ d + 1 ≤ 10000 ∧ u.2.1 = 1)))) (fun u t9 => mz dC dI [(mo, .inr (13, MF 30 (es v u.1 (d + 1) u.2.1))), (ql, .inl (cI, 20100, .inl u.2.2))] [(cI, .int)] (va_A [(mo, .inr (13, MF 30 (es v tp d tm))), (ql, .inl (cI, 20100, .inl li))] sz.size) t9) (va_A [(mo, .inr (13, MF 30 (es v tp d tm))), (ql, .inl (cI, 20100, .inl li))] sz.size)) 0 0 (va_A [(mo, .inr (13, MF 30 (es v tp d tm))), (ql, .inl (cI, 20100, .inl li))] sz.size) := by
  refine Met.ofW (cc := b_Mo_choose) (maxL := 2) (ret := none) (by decide) rfl ?_
  intro p e s m args below meth c s₁ B hml hv
  obtain ⟨rfl, hsz, hP, hK, hD0⟩ := hv
  have hx := B.exec
  have hb := B.bytes
  have hr := B.returns
  have hts0 := atoms_spec (ws := k_Mo_choose :: gtbl) B.pre
  have hts := fun w h => hts0 w (List.mem_cons_of_mem _ h)
  have hown : s.vm.findClass R_Mo = some m.cls := findClass_of_methodNamed B.named
  have hlocks := B.notSynchronized
  subst hsz
  have hD := hD0.self (sz := s.heap.size)
  generalize hAe : va_A [(mo, .inr (13, MF 30 (es v tp d tm))), (ql, .inl (cI, 20100, .inl li))] s.heap.size = A at hD ⊢
  have hA : ∀ q : Nat, s.heap.size ≤ q → A q := fun q h => by rw [← hAe]; exact Or.inr h
  have hS : va_S A s.heap s.heap [] := va_S.rf
  have hP : va_P (dC, dI) classes [(mo, .inr (13, MF 30 (es v tp d tm))), (ql, .inl (cI, 20100, .inl li))] s.heap := hP
  have hl := lv_entry ([.ref mo, .int x]) (n := 2) (Nat.le_of_ble_eq_true rfl)
  rw [lg_entry_eq]
  generalize (lg_sl ([.ref mo, .int x]) ++ List.replicate (2 - (lg_sl ([.ref mo, .int x])).length) Slot.unset).toArray = ls at hl ⊢
  have hl : lv_has ls 2 [(0, .ref mo), (1, .int x)] := hl
  refine lv_aload_n hx hb d_Mo_choose_0 rfl (lv_at hl 0 rfl) ?_
  have hPc := hP.sub (ws' := [(mo, .inr (13, MF 30 (es v tp d tm)))]) [0] rfl
  have hDc := hD.sub (ws' := [(mo, .inr (13, MF 30 (es v tp d tm)))]) [0] (by decide) rfl
  have hKc := hK.sub (tys' := []) [] rfl
  have hFc := va_free (wc := [(mo, .inr (13, MF 30 (es v tp d tm)))]) hD hS hA [0] rfl
  refine va_calli (va_runV (As := []) (rest := []) ⟨hx, hb, hml, hown, hts⟩ (c_Mo_worked l dC dI mo s.heap (es v tp d tm) d tm (by omega) es_26 es_27) (cwV 0 hts (gt_V (own := R_Mo) (C := R_Mo) (i := 348) (y := y_Mo_worked) i_Mo_worked w_1497 w_1499 (gt_sel (y := y_Mo_worked) (n := 30) (by decide +kernel)) w_7) rfl rfl rfl (by decide +kernel) ⟨Nat.le_of_ble_eq_true rfl, Nat.le_of_ble_eq_true rfl⟩) ⟨mp_blind, va_recv hKc hPc (ci := 13) (q0 := 0) rfl rfl, fun U hU hW => ⟨rfl, hU, by rw [hU]; exact hPc, va_K.moved hW.alike hKc, hDc.weaken (fun _ _ _ _ => trivial)⟩⟩ rfl rfl hl.1 rfl (lv_room (Nat.le_of_ble_eq_true rfl)) d_Mo_choose_1 ⟨Nat.le_of_ble_eq_true rfl, Nat.le_of_ble_eq_true rfl⟩) hS (fun q _ h => hFc q h) hFc (fun r0 u2 t9 H1 locs ht hvm hw hB hz1 hk1 hS => ?_)
  obtain ⟨hP1, hK1, hD1⟩ := hB
  rw [ht] at hP1
  obtain ⟨hP, hD⟩ := va_join (wr := [(ql, .inl (cI, 20100, .inl li))]) (w1 := [(mo, .inr (13, MF 30 u2))]) hP hD [0] [1] rfl rfl (by decide) (by decide) hk1 hFc hP1 hD1
  generalize H1 = H at hP hS ⊢
  have hP : va_P (dC, dI) classes [(ql, .inl (cI, 20100, .inl li)), (mo, .inr (13, MF 30 u2))] H := hP
  have hD : va_D A [(ql, .inl (cI, 20100, .inl li)), (mo, .inr (13, MF 30 u2))] := hD
  have hP := hP.sub (ws' := [(mo, .inr (13, MF 30 u2)), (ql, .inl (cI, 20100, .inl li))]) [1, 0] rfl
  have hD := hD.sub (ws' := [(mo, .inr (13, MF 30 u2)), (ql, .inl (cI, 20100, .inl li))]) [1, 0] (by decide) rfl
  rcases hw with ⟨hw1, hw2, hw3⟩ | ⟨hw1, hw0, hw2, hw3⟩ | ⟨hw1, hw0, hw2, hw3⟩
  · have hw3 : u2 = _ := hw3
    rw [es_u26, es_u27] at hw3
    subst hw3
    subst hw2
    have hP : va_P (dC, dI) classes [(mo, .inr (13, MF 30 (es v tp (d + 1) 1))), (ql, .inl (cI, 20100, .inl li))] H := hP
    have hD : va_D A [(mo, .inr (13, MF 30 (es v tp (d + 1) 1))), (ql, .inl (cI, 20100, .inl li))] := hD
    refine lv_if_ne (tgt := 8) hx hb d_Mo_choose_4 (by decide) (fun h => absurd h (by decide)) (fun _ => ?_)
    exact W.vret hx hb hr (fun t9 ht hW => ⟨⟨(tp, 1, li), rfl, Or.inr ⟨rfl, rfl, Or.inr ⟨hw1, rfl⟩⟩, by rw [ht]; exact hP, va_K.moved hW.alike hK, hD⟩, hS.F ht⟩) hS.2.2 d_Mo_choose_7
  · have hw3 : u2 = _ := hw3
    rw [es_u26] at hw3
    subst hw3
    subst hw2
    have hP : va_P (dC, dI) classes [(mo, .inr (13, MF 30 (es v tp (d + 1) tm))), (ql, .inl (cI, 20100, .inl li))] H := hP
    have hD : va_D A [(mo, .inr (13, MF 30 (es v tp (d + 1) tm))), (ql, .inl (cI, 20100, .inl li))] := hD
    refine lv_if_ne (tgt := 8) hx hb d_Mo_choose_4 (by decide) (fun h => absurd h (by decide)) (fun _ => ?_)
    exact W.vret hx hb hr (fun t9 ht hW => ⟨⟨(tp, tm, li), rfl, Or.inr ⟨rfl, rfl, Or.inl ⟨hw0, rfl⟩⟩, by rw [ht]; exact hP, va_K.moved hW.alike hK, hD⟩, hS.F ht⟩) hS.2.2 d_Mo_choose_7
  · have hw3 : u2 = _ := hw3
    rw [es_u26] at hw3
    subst hw3
    subst hw2
    have hP : va_P (dC, dI) classes [(mo, .inr (13, MF 30 (es v tp (d + 1) tm))), (ql, .inl (cI, 20100, .inl li))] H := hP
    have hD : va_D A [(mo, .inr (13, MF 30 (es v tp (d + 1) tm))), (ql, .inl (cI, 20100, .inl li))] := hD
    refine lv_if_ne (tgt := 8) hx hb d_Mo_choose_4 (by decide) (fun _ => ?_) (fun h => absurd h (by decide))
    refine lv_aload_n hx hb d_Mo_choose_8 rfl (lv_at hl 0 rfl) ?_
    refine va_get (D := (dC, dI)) (ci := 13) (v := .ref ql) (C := R_Mo) (T := F_Mo) (N := 30) hx hb hts in_Mo hown hK hP 0 rfl rfl 24 (by decide) (hts _ w_1113) (fun _ h9 => h9) (MFg (by decide) ((es_ne (by decide) (by decide) (by decide)).trans h24)) d_Mo_choose_9 ?_
    refine lv_aload_n hx hb d_Mo_choose_12 rfl (lv_at hl 0 rfl) ?_
    refine va_get (D := (dC, dI)) (ci := 13) (v := .int (nI tp)) (C := R_Mo) (T := F_Mo) (N := 30) hx hb hts in_Mo hown hK hP 0 rfl rfl 25 (by decide) (hts _ w_1114) (fun _ h9 => h9) (MFg (by decide) es_25) d_Mo_choose_13 ?_
    refine lv_iload_n hx hb d_Mo_choose_16 rfl (lv_at hl 1 rfl) ?_
    refine va_iast hx hb hK hP hD hS 1 0 rfl rfl (vp_in_nI (show tp < 20100 by omega) (by decide)) d_Mo_choose_17 (fun H locs hP hD hS => ?_)
    rw [show (nI tp).toNatClampNeg = tp from nI_clamp (by omega)] at hP hD
    have hP : va_P (dC, dI) classes [(mo, .inr (13, MF 30 (es v tp (d + 1) tm))), (ql, .inl (cI, 20100, .inl (upd li tp x)))] H := hP
    have hD : va_D A [(mo, .inr (13, MF 30 (es v tp (d + 1) tm))), (ql, .inl (cI, 20100, .inl (upd li tp x)))] := hD
    refine lv_aload_n hx hb d_Mo_choose_18 rfl (lv_at hl 0 rfl) ?_
    refine lv_dup hx hb d_Mo_choose_19 rfl ?_
    refine va_get (D := (dC, dI)) (ci := 13) (v := .int (nI tp)) (C := R_Mo) (T := F_Mo) (N := 30) hx hb hts in_Mo hown hK hP 0 rfl rfl 25 (by decide) (hts _ w_1114) (fun _ h9 => h9) (MFg (by decide) es_25) d_Mo_choose_20 ?_
    refine lv_iconst (v := 1) hx hb d_Mo_choose_23 (by decide) ?_
    refine lv_iadd hx hb d_Mo_choose_24 ?_
    refine W.eq (g2 := F0 m 25 ls [.int (nI (tp + 1)), .ref mo]) (by rw [show ((nI tp) + 1) = (nI (tp + 1)) from nI_1 _]) ?_
    refine va_put (D := (dC, dI)) (ci := 13) (v := .int (nI (tp + 1))) (ty := .int) (C := R_Mo) (T := F_Mo) (N := 30) hx hb hts in_Mo t_Mo t_Mo_ok n_Mo hown hK hP hD hS 0 rfl rfl 25 (by decide) (hts _ w_1114) (fun _ h9 => h9) rfl (by decide +kernel) rfl rfl (by rw [MFl]; decide) d_Mo_choose_25 (fun H locs hP hD hS => ?_)
    rw [MFs (n := 30) (k := 25) (by decide)] at hP hD
    have hP : va_P (dC, dI) classes [(mo, .inr (13, MF 30 (va_up (es v tp (d + 1) tm) 25 (.int (nI (tp + 1)))))), (ql, .inl (cI, 20100, .inl (upd li tp x)))] H := hP
    have hD : va_D A [(mo, .inr (13, MF 30 (va_up (es v tp (d + 1) tm) 25 (.int (nI (tp + 1)))))), (ql, .inl (cI, 20100, .inl (upd li tp x)))] := hD
    rw [es_u25] at hP hD
    have hP : va_P (dC, dI) classes [(mo, .inr (13, MF 30 (es v (tp + 1) (d + 1) tm))), (ql, .inl (cI, 20100, .inl (upd li tp x)))] H := hP
    have hD : va_D A [(mo, .inr (13, MF 30 (es v (tp + 1) (d + 1) tm))), (ql, .inl (cI, 20100, .inl (upd li tp x)))] := hD
    exact W.vret hx hb hr (fun t9 ht hW => ⟨⟨(tp + 1, tm, upd li tp x), rfl, Or.inl ⟨hw1, hw0, rfl⟩, by rw [ht]; exact hP, va_K.moved hW.alike hK, hD⟩, hS.F ht⟩) hS.2.2 d_Mo_choose_28
theorem n32 {k : Nat} (h : k < 2 ^ 31) : (nI k).toInt = (k : Int) := by
  unfold nI
  rw [Int32.toInt_ofNat', show Int32.size = 2 ^ 32 from rfl, Int.bmod_eq_of_le] <;> omega
/-- the character at i -/
def chV (g : Nat → Int32) (i en : Nat) : Int32 := if g i < 55296 ∨ ¬ g i ≤ 56319 ∨ ¬ i + 1 < en then g i else (65536 : Int32) + (((g i - 55296) <<< ((10 : Int32) &&& 31) : Int32)) + g (i + 1) - 56320
theorem shl10 : ∀ d, d < 1024 → ((nI d) <<< ((10 : Int32) &&& 31) : Int32) = nI (d * 1024) := by decide +kernel
theorem nI_subM {a b : Nat} (h : b ≤ a) : nI a - nI b = nI (a - b) := by
  rw [show a = b + (a - b) by omega, nI_asub, show b + (a - b) - b = a - b by omega]
theorem chr_pair {g : Nat → Int32} {i en A B : Nat} (h : i + 1 < en) (hA : g i = nI A) (hA1 : 55296 ≤ A) (hA2 : A ≤ 56319) (hB : g (i + 1) = nI B) (hB1 : 56320 ≤ B) (hB2 : B ≤ 57343) : chV g i en = nI (65536 + (A - 55296) * 1024 + (B - 56320)) := by
  unfold chV
  have n1 : ¬ nI A < 55296 := Int32.not_lt.mpr (nI_le' (a := 55296) hA1 (by omega))
  have n2 : nI A ≤ 56319 := nI_le' (b := 56319) hA2 (by decide)
  rw [hA, hB, if_neg (fun q => q.elim n1 (fun q => q.elim (fun z => z n2) (fun z => z h)))]
  rw [show (55296 : Int32) = nI 55296 from rfl, nI_subM hA1, shl10 _ (by omega), show (65536 : Int32) = nI 65536 from rfl, nI_add', nI_add', show (56320 : Int32) = nI 56320 from rfl, nI_subM (by omega)]
  exact congrArg nI (by omega)
theorem chr_one {g : Nat → Int32} {i en : Nat} (h : ¬ hiU (g i)) : chV g i en = g i := by
  unfold chV
  by_cases q : g i < 55296
  · rw [if_pos (Or.inl q)]
  · rw [if_pos (Or.inr (Or.inl (fun z => h ⟨Int32.not_lt.mp q, z⟩)))]
theorem slu_0 {g : Nat → Int32} {i : Nat} : sl g i 0 = [] := rfl
theorem slu_s {g : Nat → Int32} {i L : Nat} : sl g i (L + 1) = g i :: sl g (i + 1) L := by
  unfold sl
  rw [List.range_succ_eq_map, List.map_cons, List.map_map]
  show g (i + 0) :: _ = _
  rw [Nat.add_zero]
  congr 1
  apply List.map_congr_left
  intro k _
  show g (i + (k + 1)) = g (i + 1 + k)
  rw [show i + (k + 1) = i + 1 + k by omega]
theorem slu_sn {g : Nat → Int32} {i L : Nat} : sl g i (L + 1) = sl g i L ++ [g (i + L)] := by
  unfold sl
  rw [List.range_succ, List.map_append]
  rfl
theorem slu_ap {g : Nat → Int32} {i : Nat} {us : List Int32} (h : us = sl g i us.length) : us ++ [g (i + us.length)] = sl g i (us ++ [g (i + us.length)]).length := by
  rw [List.length_append, List.length_singleton, slu_sn, ← h]
theorem chOK_16 {g : Nat → Int32} (h : chOK g) {i L : Nat} : (sl g i L).map c16 = sl g i L := by
  unfold sl
  rw [List.map_map]
  exact List.map_congr_left (fun k _ => h (i + k))
theorem uOK_1 {a : Int32} {s : List Int32} (h : uOK (a :: s)) (hh : ¬ hiU a) : 0 ≤ a ∧ a ≤ 65535 ∧ ¬ loU a ∧ uOK s := by
  cases s with
  | nil => exact ⟨h.1, h.2.1, h.2.2.1, trivial⟩
  | cons b s =>
    refine ⟨h.1, h.2.1, h.2.2.1, ?_⟩
    rcases h.2.2.2 with g | g
    · exact absurd g.1 hh
    · exact g.2
theorem uOK_2 {a : Int32} {s : List Int32} (h : uOK (a :: s)) (hh : hiU a) : ∃ b s1, s = b :: s1 ∧ loU b ∧ uOK s1 := by
  cases s with
  | nil => exact absurd hh h.2.2.2
  | cons b s =>
    rcases h.2.2.2 with g | g
    · exact ⟨b, s, rfl, g.2.1, g.2.2⟩
    · exact absurd hh g.1
/-- the order of two texts -/
def ordV (s t : List Int32) : Int32 := if s = t then 0 else if ltT s t = true then -1 else 1
theorem rk_1 {a : Int32} (h1 : ¬ hiU a) (h2 : ¬ loU a) : rkI a = a := by unfold rkI; rw [if_neg (fun q => q.elim h1 h2)]
theorem ord_ne {s t : List Int32} {a b : Int32} (h : ¬ a = b) : ordV (a :: s) (b :: t) = if rkI a < rkI b then -1 else 1 := by
  unfold ordV
  have e : ltT (a :: s) (b :: t) = decide (rkI a < rkI b) := by simp only [ltT]; rw [if_neg h]
  rw [if_neg (fun q => h (List.cons.inj q).1), e]
  by_cases q : rkI a < rkI b
  · rw [if_pos (decide_eq_true q), if_pos q]
  · rw [if_neg (by rw [decide_eq_false q]; decide), if_neg q]
theorem ord_eq {s t : List Int32} {a : Int32} : ordV (a :: s) (a :: t) = ordV s t := by
  unfold ordV
  have e : ltT (a :: s) (a :: t) = ltT s t := by simp only [ltT]; rw [if_pos trivial]
  rw [e]
  by_cases q : s = t
  · rw [if_pos q, if_pos (by rw [q])]
  · rw [if_neg q, if_neg (fun z => q (List.cons.inj z).2)]
theorem hi_nat {a : Int32} (h : hiU a) : ∃ A, a = nI A ∧ 55296 ≤ A ∧ A ≤ 56319 := by
  obtain ⟨A, h1, rfl⟩ := i32_lit (w := 56319) (Int32.le_trans (by decide) h.1) h.2 (by decide)
  refine ⟨A, rfl, ?_, h1⟩
  have h2 : nI 55296 ≤ nI A := h.1
  rw [Int32.le_iff_toInt_le, n32 (by omega), n32 (by omega)] at h2
  omega
theorem lo_nat {a : Int32} (h : loU a) : ∃ A, a = nI A ∧ 56320 ≤ A ∧ A ≤ 57343 := by
  obtain ⟨A, h1, rfl⟩ := i32_lit (w := 57343) (Int32.le_trans (by decide) h.1) h.2 (by decide)
  refine ⟨A, rfl, ?_, h1⟩
  have h2 : nI 56320 ≤ nI A := h.1
  rw [Int32.le_iff_toInt_le, n32 (by omega), n32 (by omega)] at h2
  omega
theorem nI_lt9 {a b : Nat} (ha : a < 2 ^ 31) (hb : b < 2 ^ 31) : nI a < nI b ↔ a < b := by
  rw [Int32.lt_iff_toInt_lt, n32 ha, n32 hb]
  omega
theorem nI_eq9 {a b : Nat} (ha : a < 2 ^ 31) (hb : b < 2 ^ 31) : nI a = nI b ↔ a = b := by
  constructor
  · intro h
    have := congrArg Int32.toInt h
    rw [n32 ha, n32 hb] at this
    omega
  · intro h; rw [h]
/-- a character and what is behind it -/
theorem chr_get {g : Nat → Int32} {i n : Nat} (hi : i < n) (h : uOK (sl g i (n - i))) : (¬ hiU (g i) ∧ chV g i n = g i ∧ 0 ≤ g i ∧ g i ≤ 65535 ∧ ¬ loU (g i) ∧ sl g i (n - i) = g i :: sl g (i + 1) (n - (i + 1)) ∧ uOK (sl g (i + 1) (n - (i + 1)))) ∨ (∃ A B, g i = nI A ∧ 55296 ≤ A ∧ A ≤ 56319 ∧ g (i + 1) = nI B ∧ 56320 ≤ B ∧ B ≤ 57343 ∧ chV g i n = nI (65536 + (A - 55296) * 1024 + (B - 56320)) ∧ i + 2 ≤ n ∧ sl g i (n - i) = nI A :: nI B :: sl g (i + 2) (n - (i + 2)) ∧ uOK (sl g (i + 2) (n - (i + 2)))) := by
  have e : sl g i (n - i) = g i :: sl g (i + 1) (n - (i + 1)) := by rw [show n - i = (n - (i + 1)) + 1 by omega, slu_s]
  rw [e] at h
  by_cases hh : hiU (g i)
  · obtain ⟨b, s1, e1, hb, hs⟩ := uOK_2 h hh
    have hl : i + 1 < n := by
      apply Classical.byContradiction
      intro q
      rw [show n - (i + 1) = 0 by omega, slu_0] at e1
      cases e1
    have e2 : sl g (i + 1) (n - (i + 1)) = g (i + 1) :: sl g (i + 2) (n - (i + 2)) := by rw [show n - (i + 1) = (n - (i + 2)) + 1 by omega, slu_s]
    rw [e2] at e1
    obtain ⟨q1, q2⟩ := List.cons.inj e1
    obtain ⟨A, a1, a2, a3⟩ := hi_nat hh
    obtain ⟨B, b1, b2, b3⟩ := lo_nat (by rw [q1]; exact hb : loU (g (i + 1)))
    exact Or.inr ⟨A, B, a1, a2, a3, b1, b2, b3, chr_pair hl a1 a2 a3 b1 b2 b3, hl, by rw [e, e2, a1, b1], by rw [q2]; exact hs⟩
  · obtain ⟨h1, h2, h3, h4⟩ := uOK_1 h hh
    exact Or.inl ⟨hh, chr_one hh, h1, h2, h3, e, h4⟩
/-- one step of the comparison -/
theorem ord_step {g : Nat → Int32} {i n j m : Nat} (hi : i < n) (hj : j < m) (hs : uOK (sl g i (n - i))) (ht : uOK (sl g j (m - j))) : (¬ chV g i n = chV g j m → ordV (sl g i (n - i)) (sl g j (m - j)) = if chV g i n < chV g j m then -1 else 1) ∧ (chV g i n = chV g j m → 65535 < chV g i n → i + 2 ≤ n ∧ j + 2 ≤ m ∧ ordV (sl g i (n - i)) (sl g j (m - j)) = ordV (sl g (i + 2) (n - (i + 2))) (sl g (j + 2) (m - (j + 2))) ∧ uOK (sl g (i + 2) (n - (i + 2))) ∧ uOK (sl g (j + 2) (m - (j + 2)))) ∧ (chV g i n = chV g j m → ¬ 65535 < chV g i n → ordV (sl g i (n - i)) (sl g j (m - j)) = ordV (sl g (i + 1) (n - (i + 1))) (sl g (j + 1) (m - (j + 1))) ∧ uOK (sl g (i + 1) (n - (i + 1))) ∧ uOK (sl g (j + 1) (m - (j + 1)))) := by
  rcases chr_get hi hs with ⟨a1, a2, a3, a4, a5, a6, a7⟩ | ⟨A, B, a1, a2, a3, a4, a5, a6, a7, a8, a9, a10⟩
  · rcases chr_get hj ht with ⟨b1, b2, b3, b4, b5, b6, b7⟩ | ⟨C, D, b1, b2, b3, b4, b5, b6, b7, b8, b9, b10⟩
    · rw [a2, b2, a6, b6]
      refine ⟨fun h => ?_, fun _ h => absurd a4 (Int32.not_le.mpr h), fun h _ => ?_⟩
      · rw [ord_ne h, rk_1 a1 a5, rk_1 b1 b5]
      · rw [h, ord_eq]; exact ⟨rfl, a7, b7⟩
    · have hlt : g i < nI (65536 + (C - 55296) * 1024 + (D - 56320)) := Int32.lt_of_le_of_lt a4 ((nI_lt9 (a := 65535) (by decide) (by omega)).mpr (by omega))
      have hne : ¬ g i = nI (65536 + (C - 55296) * 1024 + (D - 56320)) := fun h => absurd hlt (by rw [h]; exact Int32.lt_irrefl)
      rw [a2, b7, a6, b9]
      refine ⟨fun _ => ?_, fun h => absurd h hne, fun h => absurd h hne⟩
      have hgc : ¬ g i = nI C := fun h => a1 (by rw [h]; exact ⟨nI_le' (a := 55296) b2 (by omega), nI_le' (b := 56319) b3 (by decide)⟩)
      have hrc : rkI (nI C) = nI (C + 65536) := by
        unfold rkI
        rw [if_pos (Or.inl ⟨nI_le' (a := 55296) b2 (by omega), nI_le' (b := 56319) b3 (by decide)⟩)]
        exact nI_add' C 65536
      rw [ord_ne hgc, rk_1 a1 a5, hrc, if_pos hlt, if_pos (Int32.lt_of_le_of_lt a4 ((nI_lt9 (a := 65535) (by decide) (by omega)).mpr (by omega)))]
  · rcases chr_get hj ht with ⟨b1, b2, b3, b4, b5, b6, b7⟩ | ⟨C, D, b1, b2, b3, b4, b5, b6, b7, b8, b9, b10⟩
    · have hlt : g j < nI (65536 + (A - 55296) * 1024 + (B - 56320)) := Int32.lt_of_le_of_lt b4 ((nI_lt9 (a := 65535) (by decide) (by omega)).mpr (by omega))
      have hne : ¬ nI (65536 + (A - 55296) * 1024 + (B - 56320)) = g j := fun h => absurd hlt (by rw [h]; exact Int32.lt_irrefl)
      rw [a7, b2, a9, b6]
      refine ⟨fun _ => ?_, fun h => absurd h hne, fun h => absurd h hne⟩
      have hgc : ¬ nI A = g j := fun h => b1 (by rw [← h]; exact ⟨nI_le' (a := 55296) a2 (by omega), nI_le' (b := 56319) a3 (by decide)⟩)
      have hrc : rkI (nI A) = nI (A + 65536) := by
        unfold rkI
        rw [if_pos (Or.inl ⟨nI_le' (a := 55296) a2 (by omega), nI_le' (b := 56319) a3 (by decide)⟩)]
        exact nI_add' A 65536
      have h2 : g j < nI (A + 65536) := Int32.lt_of_le_of_lt b4 ((nI_lt9 (a := 65535) (by decide) (by omega)).mpr (by omega))
      rw [ord_ne hgc, rk_1 b1 b5, hrc, if_neg (fun q => absurd (Int32.lt_trans q hlt) (Int32.lt_irrefl)), if_neg (fun q => absurd (Int32.lt_trans q h2) (Int32.lt_irrefl))]
    · rw [a7, b7, a9, b9]
      have hr : ∀ {X : Nat}, 55296 ≤ X → X ≤ 57343 → rkI (nI X) = nI (X + 65536) := fun {X} h1 h2 => by
        unfold rkI
        rw [if_pos]
        · exact nI_add' X 65536
        · by_cases q : X ≤ 56319
          · exact Or.inl ⟨nI_le' (a := 55296) h1 (by omega), nI_le' (b := 56319) q (by decide)⟩
          · exact Or.inr ⟨nI_le' (a := 56320) (by omega) (by omega), nI_le' (b := 57343) h2 (by decide)⟩
      refine ⟨fun h => ?_, fun h _ => ?_, fun _ h => absurd ((nI_lt9 (a := 65535) (by decide) (by omega)).mpr (by omega)) h⟩
      · rw [nI_eq9 (by omega) (by omega)] at h
        by_cases e : A = C
        · subst e
          have hBD : ¬ nI B = nI D := fun q => by rw [nI_eq9 (by omega) (by omega)] at q; omega
          rw [ord_eq, ord_ne hBD, hr (by omega) (by omega), hr (by omega) (by omega)]
          by_cases q : B < D
          · rw [if_pos ((nI_lt9 (by omega) (by omega)).mpr (by omega)), if_pos ((nI_lt9 (by omega) (by omega)).mpr (by omega))]
          · rw [if_neg (fun z => by rw [nI_lt9 (by omega) (by omega)] at z; omega), if_neg (fun z => by rw [nI_lt9 (by omega) (by omega)] at z; omega)]
        · have hAC : ¬ nI A = nI C := fun q => by rw [nI_eq9 (by omega) (by omega)] at q; omega
          rw [ord_ne hAC, hr (by omega) (by omega), hr (by omega) (by omega)]
          by_cases q : A < C
          · rw [if_pos ((nI_lt9 (by omega) (by omega)).mpr (by omega)), if_pos ((nI_lt9 (by omega) (by omega)).mpr (by omega))]
          · rw [if_neg (fun z => by rw [nI_lt9 (by omega) (by omega)] at z; omega), if_neg (fun z => by rw [nI_lt9 (by omega) (by omega)] at z; omega)]
      · rw [nI_eq9 (by omega) (by omega)] at h
        obtain ⟨rfl, rfl⟩ : A = C ∧ B = D := by omega
        exact ⟨a8, b8, by rw [ord_eq, ord_eq], a10, b10⟩
theorem ord_nil1 {g : Nat → Int32} {i n : Nat} {t : List Int32} (hi : i < n) (ht : t = []) : ordV (sl g i (n - i)) t = 1 := by
  rw [ht, show n - i = (n - (i + 1)) + 1 by omega, slu_s]
  unfold ordV
  rw [if_neg (by intro q; cases q)]
  exact if_neg (by simp [ltT])
theorem ord_nil2 {g : Nat → Int32} {j m : Nat} {s : List Int32} (hj : j < m) (hs : s = []) : ordV s (sl g j (m - j)) = -1 := by
  rw [hs, show m - j = (m - (j + 1)) + 1 by omega, slu_s]
  unfold ordV
  rw [if_neg (by intro q; cases q)]
  exact if_pos (by simp [ltT])
theorem ord_lt {s t : List Int32} : ordV s t < 0 ↔ ltT s t = true := by
  unfold ordV
  by_cases e : s = t
  · rw [if_pos e, e]
    have : ∀ t : List Int32, ltT t t = false := by
      intro t
      induction t with
      | nil => rfl
      | cons a t ih => simp only [ltT]; rw [if_pos trivial]; exact ih
    rw [this]
    decide
  · rw [if_neg e]
    cases ltT s t <;> decide
theorem ord_z {s t : List Int32} : ordV s t = 0 ↔ s = t := by
  unfold ordV
  by_cases e : s = t
  · rw [if_pos e]; exact ⟨fun _ => e, fun _ => rfl⟩
  · rw [if_neg e]
    refine ⟨fun h => ?_, fun h => absurd h e⟩
    cases hq : ltT s t with
    | true => rw [hq, if_pos rfl] at h; exact absurd h (by decide)
    | false => rw [hq, if_neg (by decide)] at h; exact absurd h (by decide)
abbrev b_Mo_character : ByteArray := prog_14_method_3_code
def y_Mo_character : MethodName := ⟨"QueryBenchModel", "character", "([CII)I"⟩
abbrev k_Mo_character : Cond := .code y_Mo_character b_Mo_character 4 (some .int)
theorem i_Mo_character : k_Mo_character ∈ gtbl := gt_in 1540 (by decide +kernel) (by decide +kernel)
theorem d_Mo_character_0 : decode b_Mo_character 0 = .ok (.aload_n 0, 1) := by decide +kernel
theorem d_Mo_character_1 : decode b_Mo_character 1 = .ok (.iload_n 1, 1) := by decide +kernel
theorem d_Mo_character_2 : decode b_Mo_character 2 = .ok (.caload, 1) := by decide +kernel
theorem d_Mo_character_3 : decode b_Mo_character 3 = .ok (.istore_n 3, 1) := by decide +kernel
theorem d_Mo_character_4 : decode b_Mo_character 4 = .ok (.iload_n 3, 1) := by decide +kernel
theorem d_Mo_character_5 : decode b_Mo_character 5 = .ok (.ldc 99, 2) := by decide +kernel
theorem d_Mo_character_7 : decode b_Mo_character 7 = .ok (.if_icmp .lt 16, 3) := by decide +kernel
theorem d_Mo_character_10 : decode b_Mo_character 10 = .ok (.iload_n 3, 1) := by decide +kernel
theorem d_Mo_character_11 : decode b_Mo_character 11 = .ok (.ldc 100, 2) := by decide +kernel
theorem d_Mo_character_13 : decode b_Mo_character 13 = .ok (.if_icmp .gt 10, 3) := by decide +kernel
theorem d_Mo_character_16 : decode b_Mo_character 16 = .ok (.iload_n 1, 1) := by decide +kernel
theorem d_Mo_character_17 : decode b_Mo_character 17 = .ok (.iconst 1, 1) := by decide +kernel
theorem d_Mo_character_18 : decode b_Mo_character 18 = .ok (.iadd, 1) := by decide +kernel
theorem d_Mo_character_19 : decode b_Mo_character 19 = .ok (.iload_n 2, 1) := by decide +kernel
theorem d_Mo_character_20 : decode b_Mo_character 20 = .ok (.if_icmp .lt 5, 3) := by decide +kernel
theorem d_Mo_character_23 : decode b_Mo_character 23 = .ok (.iload_n 3, 1) := by decide +kernel
theorem d_Mo_character_24 : decode b_Mo_character 24 = .ok (.ireturn, 1) := by decide +kernel
theorem d_Mo_character_25 : decode b_Mo_character 25 = .ok (.ldc 101, 2) := by decide +kernel
theorem d_Mo_character_27 : decode b_Mo_character 27 = .ok (.iload_n 3, 1) := by decide +kernel
theorem d_Mo_character_28 : decode b_Mo_character 28 = .ok (.ldc 99, 2) := by decide +kernel
theorem d_Mo_character_30 : decode b_Mo_character 30 = .ok (.isub, 1) := by decide +kernel
theorem d_Mo_character_31 : decode b_Mo_character 31 = .ok (.bipush 10, 2) := by decide +kernel
theorem d_Mo_character_33 : decode b_Mo_character 33 = .ok (.ishl, 1) := by decide +kernel
theorem d_Mo_character_34 : decode b_Mo_character 34 = .ok (.iadd, 1) := by decide +kernel
theorem d_Mo_character_35 : decode b_Mo_character 35 = .ok (.aload_n 0, 1) := by decide +kernel
theorem d_Mo_character_36 : decode b_Mo_character 36 = .ok (.iload_n 1, 1) := by decide +kernel
theorem d_Mo_character_37 : decode b_Mo_character 37 = .ok (.iconst 1, 1) := by decide +kernel
theorem d_Mo_character_38 : decode b_Mo_character 38 = .ok (.iadd, 1) := by decide +kernel
theorem d_Mo_character_39 : decode b_Mo_character 39 = .ok (.caload, 1) := by decide +kernel
theorem d_Mo_character_40 : decode b_Mo_character 40 = .ok (.iadd, 1) := by decide +kernel
theorem d_Mo_character_41 : decode b_Mo_character 41 = .ok (.ldc 102, 2) := by decide +kernel
theorem d_Mo_character_43 : decode b_Mo_character 43 = .ok (.isub, 1) := by decide +kernel
theorem d_Mo_character_44 : decode b_Mo_character 44 = .ok (.ireturn, 1) := by decide +kernel
set_option maxHeartbeats 4000000 in
set_option maxRecDepth 100000 in
/-- the reference: character -/
theorem c_Mo_character (l : Launch) (dC : Nat → ClassId) (dI : Nat → Nat → Nat) (sz : Heap) (cC : ClassId) (au U i en : Nat) (g : Nat → Int32) (hi : i < en) (he : en ≤ U) (hU : U ≤ 1000000) : Met l y_Mo_character (k_Mo_character :: gtbl) ({ frames := 0, cells := 0, slots := 0, locals := 0 }) (va_Pc [.ref au, .int (nI i), .int (nI en)] (mp dC dI [(au, .inl (cC, U, .inl g))] [(cC, .char)] sz)) (va_Qi (fun (r : Int32) (_ : Unit) => r = chV g i en) (fun _ => mz dC dI [(au, .inl (cC, U, .inl g))] [(cC, .char)] (va_A [(au, .inl (cC, U, .inl g))] sz.size)) (va_A [(au, .inl (cC, U, .inl g))] sz.size)) 0 0 (va_A [(au, .inl (cC, U, .inl g))] sz.size) := by
  refine Met.ofW (cc := b_Mo_character) (maxL := 4) (ret := (some .int)) (by decide) rfl ?_
  intro p e s m args below meth c s₁ B hml hv
  obtain ⟨rfl, hsz, hP, hK, hD0⟩ := hv
  have hx := B.exec
  have hb := B.bytes
  have hr := B.returns
  have hts0 := atoms_spec (ws := k_Mo_character :: gtbl) B.pre
  have hts := fun w h => hts0 w (List.mem_cons_of_mem _ h)
  have hown : s.vm.findClass R_Mo = some m.cls := findClass_of_methodNamed B.named
  have hlocks := B.notSynchronized
  subst hsz
  have hD := hD0.self (sz := s.heap.size)
  generalize hAe : va_A [(au, .inl (cC, U, .inl g))] s.heap.size = A at hD ⊢
  have hA : ∀ q : Nat, s.heap.size ≤ q → A q := fun q h => by rw [← hAe]; exact Or.inr h
  have hS : va_S A s.heap s.heap [] := va_S.rf
  have hP : va_P (dC, dI) classes [(au, .inl (cC, U, .inl g))] s.heap := hP
  have hl := lv_entry ([.ref au, .int (nI i), .int (nI en)]) (n := 4) (Nat.le_of_ble_eq_true rfl)
  rw [lg_entry_eq]
  generalize (lg_sl ([.ref au, .int (nI i), .int (nI en)]) ++ List.replicate (4 - (lg_sl ([.ref au, .int (nI i), .int (nI en)])).length) Slot.unset).toArray = ls at hl ⊢
  have hl : lv_has ls 4 [(0, .ref au), (1, .int (nI i)), (2, .int (nI en))] := hl
  refine lv_aload_n hx hb d_Mo_character_0 rfl (lv_at hl 0 rfl) ?_
  refine lv_iload_n hx hb d_Mo_character_1 rfl (lv_at hl 1 rfl) ?_
  refine va_cald hx hb hK hP 0 0 rfl rfl (vp_in_nI (show i < U by omega) (by omega)) d_Mo_character_2 ?_
  rw [show (nI i).toNatClampNeg = i from nI_clamp (by omega)]
  refine lv_istore_n (lv' := [(3, .int (g i)), (0, .ref au), (1, .int (nI i)), (2, .int (nI en))]) hx hb d_Mo_character_3 rfl hl (by decide) rfl (fun ls hl => ?_)
  refine lv_iload_n hx hb d_Mo_character_4 rfl (lv_at hl 0 rfl) ?_
  refine lv_ldc (v := 55296) hx hb hown (hts _ w_1337) d_Mo_character_5 ?_
  refine lv_icmp_lt (tgt := 23) hx hb d_Mo_character_7 (by decide) (fun c7 => ?_) (fun c7 => ?_)
  · refine lv_iload_n hx hb d_Mo_character_23 rfl (lv_at hl 0 rfl) ?_
    exact W.iret (v := (g i)) hx hb hr (fun t ht hW => ⟨⟨(g i), (), rfl, (by show g i = chV g i en; unfold chV; rw [if_pos (Or.inl c7)]), by rw [ht]; exact hP, va_K.moved hW.alike hK, hD⟩, hS.F ht⟩) hS.2.2 d_Mo_character_24
  · refine lv_iload_n hx hb d_Mo_character_10 rfl (lv_at hl 0 rfl) ?_
    refine lv_ldc (v := 56319) hx hb hown (hts _ w_1338) d_Mo_character_11 ?_
    refine lv_icmp_gt (tgt := 23) hx hb d_Mo_character_13 (by decide) (fun c13 => ?_) (fun c13 => ?_)
    · refine lv_iload_n hx hb d_Mo_character_23 rfl (lv_at hl 0 rfl) ?_
      exact W.iret (v := (g i)) hx hb hr (fun t ht hW => ⟨⟨(g i), (), rfl, (by show g i = chV g i en; unfold chV; rw [if_pos (Or.inr (Or.inl (by first | exact c13 | exact Int32.not_le.mpr c13)))]), by rw [ht]; exact hP, va_K.moved hW.alike hK, hD⟩, hS.F ht⟩) hS.2.2 d_Mo_character_24
    · refine lv_iload_n hx hb d_Mo_character_16 rfl (lv_at hl 2 rfl) ?_
      refine lv_iconst (v := 1) hx hb d_Mo_character_17 (by decide) ?_
      refine lv_iadd hx hb d_Mo_character_18 ?_
      refine lv_iload_n hx hb d_Mo_character_19 rfl (lv_at hl 3 rfl) ?_
      refine lv_icmp_lt (tgt := 25) hx hb d_Mo_character_20 (by decide) (fun c20 => ?_) (fun c20 => ?_)
      · refine lv_ldc (v := 65536) hx hb hown (hts _ w_1541) d_Mo_character_25 ?_
        refine lv_iload_n hx hb d_Mo_character_27 rfl (lv_at hl 0 rfl) ?_
        refine lv_ldc (v := 55296) hx hb hown (hts _ w_1337) d_Mo_character_28 ?_
        refine lv_isub hx hb d_Mo_character_30 ?_
        refine lv_bipush (v := 10) hx hb d_Mo_character_31 (by decide) ?_
        refine lv_ishl hx hb d_Mo_character_33 ?_
        refine lv_topi (fun x1 e1 => ?_)
        refine lv_iadd hx hb d_Mo_character_34 ?_
        refine lv_aload_n hx hb d_Mo_character_35 rfl (lv_at hl 1 rfl) ?_
        refine lv_iload_n hx hb d_Mo_character_36 rfl (lv_at hl 2 rfl) ?_
        refine lv_iconst (v := 1) hx hb d_Mo_character_37 (by decide) ?_
        refine lv_iadd hx hb d_Mo_character_38 ?_
        refine W.eq (g2 := F0 m 39 ls [.int (nI (i + 1)), .ref au, .int (65536 + x1)]) (by rw [show ((nI i) + 1) = (nI (i + 1)) from nI_1 _]) ?_
        have hi1 : i + 1 < en := by rw [show (nI i + 1 : Int32) = nI (i + 1) from nI_1 _, nI_ltI (by omega) (by omega)] at c20; exact c20
        refine va_cald hx hb hK hP 0 0 rfl rfl (vp_in_nI (show (i + 1) < U by omega) (by omega)) d_Mo_character_39 ?_
        rw [show (nI (i + 1)).toNatClampNeg = (i + 1) from nI_clamp (by omega)]
        refine lv_iadd hx hb d_Mo_character_40 ?_
        refine lv_ldc (v := 56320) hx hb hown (hts _ w_1335) d_Mo_character_41 ?_
        refine lv_isub hx hb d_Mo_character_43 ?_
        exact W.iret (v := (((65536 + x1) + (g (i + 1))) - 56320)) hx hb hr (fun t ht hW => ⟨⟨(((65536 + x1) + (g (i + 1))) - 56320), (), rfl, (by show _ = chV g i en; unfold chV; rw [if_neg (fun h => h.elim (fun q => absurd q c7) (fun h => h.elim (fun q => q (by first | exact c13 | exact Int32.not_lt.mp c13)) (fun q => q hi1))), e1]), by rw [ht]; exact hP, va_K.moved hW.alike hK, hD⟩, hS.F ht⟩) hS.2.2 d_Mo_character_44
      · refine lv_iload_n hx hb d_Mo_character_23 rfl (lv_at hl 0 rfl) ?_
        exact W.iret (v := (g i)) hx hb hr (fun t ht hW => ⟨⟨(g i), (), rfl, (by show g i = chV g i en; unfold chV; rw [if_pos (Or.inr (Or.inr (fun h => c20 (by rw [show (nI i + 1 : Int32) = nI (i + 1) from nI_1 _, nI_ltI (by omega) (by omega)]; exact h))))]), by rw [ht]; exact hP, va_K.moved hW.alike hK, hD⟩, hS.F ht⟩) hS.2.2 d_Mo_character_24
