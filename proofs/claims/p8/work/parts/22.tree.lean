theorem w_1042 : (.fieldLink "QueryBenchModel$Tree" 25 "QueryBenchModel$Tree" "kids" "[I" : Cond) ∈ gtbl := gt_in 1042 (by decide +kernel) (by decide +kernel)
theorem w_1044 : (.fieldLink "QueryBenchModel$Tree" 28 "QueryBenchModel$Tree" "nexts" "[I" : Cond) ∈ gtbl := gt_in 1044 (by decide +kernel) (by decide +kernel)
theorem w_1053 : (.fieldLink "QueryBenchModel$Tree" 47 "QueryBenchModel$Tree" "count" "I" : Cond) ∈ gtbl := gt_in 1053 (by decide +kernel) (by decide +kernel)
theorem w_1057 : (.fieldLink "QueryBenchModel$Tree" 51 "QueryBenchModel$Tree" "used" "I" : Cond) ∈ gtbl := gt_in 1057 (by decide +kernel) (by decide +kernel)
/-- the first j of f, then zeros -/
def cpL (f : Nat → Int32) (j : Nat) : Nat → Int32 := fun i => if i < j then f i else 0
theorem cpL_0 (f : Nat → Int32) : cpL f 0 = fun _ => 0 := by funext i; simp [cpL]
theorem cpL_s (f : Nat → Int32) (j : Nat) : upd (cpL f j) j (f j) = cpL f (j + 1) := by
  funext i
  by_cases h : i = j
  · subst h; rw [pk_us]; simp [cpL]
  · rw [pk_un h]
    unfold cpL
    by_cases h2 : i < j
    · rw [if_pos h2, if_pos (by omega)]
    · rw [if_neg h2, if_neg (by omega)]
/-- a chain of nodes: k is its first, nx the next of each -/
def chn (nx : Nat → Int32) (N : Nat) : List Nat → Int32 → Prop
  | [], k => k < 0
  | a :: r, k => k = nI a ∧ a < N ∧ chn nx N r (nx a)
abbrev b_Tree_clear : ByteArray := prog_15_method_2_code
def y_Tree_clear : MethodName := ⟨"QueryBenchModel$Tree", "clear", "()V"⟩
abbrev k_Tree_clear : Cond := .code y_Tree_clear b_Tree_clear 1 none
theorem i_Tree_clear : k_Tree_clear ∈ gtbl := gt_in 1224 (by decide +kernel) (by decide +kernel)
theorem d_Tree_clear_0 : decode b_Tree_clear 0 = .ok (.aload_n 0, 1) := by decide +kernel
theorem d_Tree_clear_1 : decode b_Tree_clear 1 = .ok (.iconst 0, 1) := by decide +kernel
theorem d_Tree_clear_2 : decode b_Tree_clear 2 = .ok (.putfield 47, 3) := by decide +kernel
theorem d_Tree_clear_5 : decode b_Tree_clear 5 = .ok (.aload_n 0, 1) := by decide +kernel
theorem d_Tree_clear_6 : decode b_Tree_clear 6 = .ok (.iconst 0, 1) := by decide +kernel
theorem d_Tree_clear_7 : decode b_Tree_clear 7 = .ok (.putfield 51, 3) := by decide +kernel
theorem d_Tree_clear_10 : decode b_Tree_clear 10 = .ok (.return_, 1) := by decide +kernel
set_option maxHeartbeats 4000000 in
set_option maxRecDepth 100000 in
/-- Tree.clear -/
theorem c_Tree_clear (l : Launch) (dC : Nat → ClassId) (dI : Nat → Nat → Nat) (t : Nat) (sz : Heap) (w : Nat → Value)  : Met l y_Tree_clear (k_Tree_clear :: gtbl) ({ frames := 0, cells := 0, slots := 0, locals := 0 }) (va_Pc [.ref t] (mp dC dI [(t, .inr (12, MF 13 w))] [] sz)) (va_Qv (fun (_ : Unit) => True) (fun _ => mz dC dI [(t, .inr (12, MF 13 (va_up (va_up w 10 (.int 0)) 12 (.int 0))))] [] (va_A [(t, .inr (12, MF 13 w))] sz.size)) (va_A [(t, .inr (12, MF 13 w))] sz.size)) 0 0 (va_A [(t, .inr (12, MF 13 w))] sz.size) := by
  refine Met.ofW (cc := b_Tree_clear) (maxL := 1) (ret := none) (by decide) rfl ?_
  intro p e s m args below meth c s₁ B hml hv
  obtain ⟨rfl, hsz, hP, hK, hD0⟩ := hv
  have hx := B.exec
  have hb := B.bytes
  have hr := B.returns
  have hts0 := atoms_spec (ws := k_Tree_clear :: gtbl) B.pre
  have hts := fun w h => hts0 w (List.mem_cons_of_mem _ h)
  have hown : s.vm.findClass R_Tree = some m.cls := findClass_of_methodNamed B.named
  have hlocks := B.notSynchronized
  subst hsz
  have hD := hD0.self (sz := s.heap.size)
  generalize hAe : va_A [(t, .inr (12, MF 13 w))] s.heap.size = A at hD ⊢
  have hA : ∀ q : Nat, s.heap.size ≤ q → A q := fun q h => by rw [← hAe]; exact Or.inr h
  have hS : va_S A s.heap s.heap [] := va_S.rf
  have hP : va_P (dC, dI) classes [(t, .inr (12, MF 13 w))] s.heap := hP
  have hl := lv_entry ([.ref t]) (n := 1) (Nat.le_of_ble_eq_true rfl)
  rw [lg_entry_eq]
  generalize (lg_sl ([.ref t]) ++ List.replicate (1 - (lg_sl ([.ref t])).length) Slot.unset).toArray = ls at hl ⊢
  have hl : lv_has ls 1 [(0, .ref t)] := hl
  refine lv_aload_n hx hb d_Tree_clear_0 rfl (lv_at hl 0 rfl) ?_
  refine lv_iconst (v := 0) hx hb d_Tree_clear_1 (by decide) ?_
  refine va_put (D := (dC, dI)) (ci := 12) (v := .int 0) (ty := .int) (C := R_Tree) (T := F_Tree) (N := 13) hx hb hts in_Tree t_Tree t_Tree_ok n_Tree hown hK hP hD hS 0 rfl rfl 10 (by decide) (hts _ w_1053) (fun _ h9 => h9) rfl (by decide +kernel) rfl rfl (by rw [MFl]; decide) d_Tree_clear_2 (fun H locs hP hD hS => ?_)
  rw [MFs (n := 13) (k := 10) (by decide)] at hP hD
  have hP : va_P (dC, dI) classes [(t, .inr (12, MF 13 (va_up w 10 (.int 0))))] H := hP
  have hD : va_D A [(t, .inr (12, MF 13 (va_up w 10 (.int 0))))] := hD
  refine lv_aload_n hx hb d_Tree_clear_5 rfl (lv_at hl 0 rfl) ?_
  refine lv_iconst (v := 0) hx hb d_Tree_clear_6 (by decide) ?_
  refine va_put (D := (dC, dI)) (ci := 12) (v := .int 0) (ty := .int) (C := R_Tree) (T := F_Tree) (N := 13) hx hb hts in_Tree t_Tree t_Tree_ok n_Tree hown hK hP hD hS 0 rfl rfl 12 (by decide) (hts _ w_1057) (fun _ h9 => h9) rfl (by decide +kernel) rfl rfl (by rw [MFl]; decide) d_Tree_clear_7 (fun H locs hP hD hS => ?_)
  rw [MFs (n := 13) (k := 12) (by decide)] at hP hD
  have hP : va_P (dC, dI) classes [(t, .inr (12, MF 13 (va_up (va_up w 10 (.int 0)) 12 (.int 0))))] H := hP
  have hD : va_D A [(t, .inr (12, MF 13 (va_up (va_up w 10 (.int 0)) 12 (.int 0))))] := hD
  exact W.vret hx hb hr (fun t9 ht hW => ⟨⟨(), rfl, trivial, by rw [ht]; exact hP, va_K.moved hW.alike hK, hD⟩, hS.F ht⟩) hS.2.2 d_Tree_clear_10
abbrev b_Tree_longer : ByteArray := prog_15_method_3_code
def y_Tree_longer : MethodName := ⟨"QueryBenchModel$Tree", "longer", "([I)[I"⟩
abbrev k_Tree_longer : Cond := .code y_Tree_longer b_Tree_longer 3 (some (.array .int))
theorem i_Tree_longer : k_Tree_longer ∈ gtbl := gt_in 1260 (by decide +kernel) (by decide +kernel)
theorem d_Tree_longer_0 : decode b_Tree_longer 0 = .ok (.iconst 2, 1) := by decide +kernel
theorem d_Tree_longer_1 : decode b_Tree_longer 1 = .ok (.aload_n 0, 1) := by decide +kernel
theorem d_Tree_longer_2 : decode b_Tree_longer 2 = .ok (.arraylength, 1) := by decide +kernel
theorem d_Tree_longer_3 : decode b_Tree_longer 3 = .ok (.imul, 1) := by decide +kernel
theorem d_Tree_longer_4 : decode b_Tree_longer 4 = .ok (.newarray .int, 2) := by decide +kernel
theorem d_Tree_longer_6 : decode b_Tree_longer 6 = .ok (.astore_n 1, 1) := by decide +kernel
theorem d_Tree_longer_7 : decode b_Tree_longer 7 = .ok (.iconst 0, 1) := by decide +kernel
theorem d_Tree_longer_8 : decode b_Tree_longer 8 = .ok (.istore_n 2, 1) := by decide +kernel
theorem d_Tree_longer_9 : decode b_Tree_longer 9 = .ok (.iload_n 2, 1) := by decide +kernel
theorem d_Tree_longer_10 : decode b_Tree_longer 10 = .ok (.aload_n 0, 1) := by decide +kernel
theorem d_Tree_longer_11 : decode b_Tree_longer 11 = .ok (.arraylength, 1) := by decide +kernel
theorem d_Tree_longer_12 : decode b_Tree_longer 12 = .ok (.if_icmp .ge 15, 3) := by decide +kernel
theorem d_Tree_longer_15 : decode b_Tree_longer 15 = .ok (.aload_n 1, 1) := by decide +kernel
theorem d_Tree_longer_16 : decode b_Tree_longer 16 = .ok (.iload_n 2, 1) := by decide +kernel
theorem d_Tree_longer_17 : decode b_Tree_longer 17 = .ok (.aload_n 0, 1) := by decide +kernel
theorem d_Tree_longer_18 : decode b_Tree_longer 18 = .ok (.iload_n 2, 1) := by decide +kernel
theorem d_Tree_longer_19 : decode b_Tree_longer 19 = .ok (.iaload, 1) := by decide +kernel
theorem d_Tree_longer_20 : decode b_Tree_longer 20 = .ok (.iastore, 1) := by decide +kernel
theorem d_Tree_longer_21 : decode b_Tree_longer 21 = .ok (.iinc 2 1, 3) := by decide +kernel
theorem d_Tree_longer_24 : decode b_Tree_longer 24 = .ok (.goto (-15), 3) := by decide +kernel
theorem d_Tree_longer_27 : decode b_Tree_longer 27 = .ok (.aload_n 1, 1) := by decide +kernel
theorem d_Tree_longer_28 : decode b_Tree_longer 28 = .ok (.areturn, 1) := by decide +kernel
set_option maxHeartbeats 4000000 in
set_option maxRecDepth 100000 in
/-- Tree.longer -/
theorem c_Tree_longer (l : Launch) (dC : Nat → ClassId) (dI : Nat → Nat → Nat) (cI : ClassId) (a0 N : Nat) (sz : Heap) (f : Nat → Int32) (hN : N ≤ 10000000) : Met l y_Tree_longer (k_Tree_longer :: gtbl) ({ frames := 0, cells := 1, slots := 2 * N, locals := 0 }) (va_Pc [.ref a0] (mp dC dI [(a0, .inl (cI, N, .inl f))] [(cI, .int)] sz)) (va_Qr (fun (_ : Unit) => True) (fun _ a t => mz dC dI [(a0, .inl (cI, N, .inl f)), (a, .inl (cI, (2 * N), .inl (cpL f N)))] [(cI, .int)] (va_A [(a0, .inl (cI, N, .inl f))] sz.size) t ∧ szk sz t.heap 1 (2 * N)) (va_A [(a0, .inl (cI, N, .inl f))] sz.size)) 1 (2 * N) (va_A [(a0, .inl (cI, N, .inl f))] sz.size) := by
  refine Met.ofW (cc := b_Tree_longer) (maxL := 3) (ret := (some (.array .int))) (by decide) rfl ?_
  intro p e s m args below meth c s₁ B hml hv
  obtain ⟨rfl, hsz, hP, hK, hD0⟩ := hv
  have hx := B.exec
  have hb := B.bytes
  have hr := B.returns
  have hts0 := atoms_spec (ws := k_Tree_longer :: gtbl) B.pre
  have hts := fun w h => hts0 w (List.mem_cons_of_mem _ h)
  have hown : s.vm.findClass R_Tree = some m.cls := findClass_of_methodNamed B.named
  have hlocks := B.notSynchronized
  subst hsz
  have hD := hD0.self (sz := s.heap.size)
  generalize hAe : va_A [(a0, .inl (cI, N, .inl f))] s.heap.size = A at hD ⊢
  have hA : ∀ q : Nat, s.heap.size ≤ q → A q := fun q h => by rw [← hAe]; exact Or.inr h
  have hS : va_S A s.heap s.heap [] := va_S.rf
  have hP : va_P (dC, dI) classes [(a0, .inl (cI, N, .inl f))] s.heap := hP
  have hl := lv_entry ([.ref a0]) (n := 3) (Nat.le_of_ble_eq_true rfl)
  rw [lg_entry_eq]
  generalize (lg_sl ([.ref a0]) ++ List.replicate (3 - (lg_sl ([.ref a0])).length) Slot.unset).toArray = ls at hl ⊢
  have hl : lv_has ls 3 [(0, .ref a0)] := hl
  refine lv_iconst (v := 2) hx hb d_Tree_longer_0 (by decide) ?_
  refine lv_aload_n hx hb d_Tree_longer_1 rfl (lv_at hl 0 rfl) ?_
  refine va_alen (v := nI N) hx hb hK hP 0 0 rfl rfl rfl d_Tree_longer_2 ?_
  refine lv_imul hx hb d_Tree_longer_3 ?_
  refine W.eq (g2 := F0 m 4 ls [.int (nI (2 * N))]) (by rw [show (2 * (nI N)) = (nI (2 * N)) from (by rw [show (2 : Int32) = nI 2 from rfl, pk_mul])]) ?_
  refine va_newa (atype := .int) (ty := .int) (N' := 2 * N) (a0 := (2 * N, .inl (fun _ => 0))) hx hb (hts _ w_73) rfl hK hP hD hS hA (fun _ => rfl) (nI_pos (by omega)) (nI_clamp (by omega)) (by show 2 * N * 4 ≤ 536870912; omega) (Nat.le_of_ble_eq_true rfl) (by show 0 + 2 * N ≤ 2 * N; omega) d_Tree_longer_4 (fun q cA H hK hP hD hS => ?_)
  obtain rfl : cI = cA := Option.some.inj ((hK.2 0 _ rfl).2.symm.trans (hK.2 1 _ rfl).2)
  have hK := hK.sub (tys' := [(cI, .int)]) [0] rfl
  rw [← cpL_0 f] at hP hD
  have hP : va_P (dC, dI) classes [(a0, .inl (cI, N, .inl f)), (q, .inl (cI, (2 * N), .inl (cpL f 0)))] H := hP
  have hD : va_D A [(a0, .inl (cI, N, .inl f)), (q, .inl (cI, (2 * N), .inl (cpL f 0)))] := hD
  refine lv_astore_n (lv' := [(1, .ref q), (0, .ref a0)]) hx hb d_Tree_longer_6 rfl hl (by decide) rfl (fun ls hl => ?_)
  refine lv_iconst (v := 0) hx hb d_Tree_longer_7 (by decide) ?_
  refine lv_istore_n (lv' := [(2, .int 0), (1, .ref q), (0, .ref a0)]) hx hb d_Tree_longer_8 rfl hl (by decide) rfl (fun ls hl => ?_)
  refine w_loop (D := (dC, dI)) (cl := classes) (A := A) (H0 := s.heap) (nL := 3) 9 (σ := Nat) (fun j => j ≤ N) (fun j => N - j) (fun j => [(a0, .inl (cI, N, .inl f)), (q, .inl (cI, (2 * N), .inl (cpL f j)))]) (fun j => [(0, .ref a0), (1, .ref q), (2, .int (nI j))]) ?_ 0 (Nat.zero_le _) hP hD hS (lv_sub hl [2, 1, 0] rfl)
  rintro j H locs ls hI ih hP hD hS hl
  have hP : va_P (dC, dI) classes [(a0, .inl (cI, N, .inl f)), (q, .inl (cI, (2 * N), .inl (cpL f j)))] H := hP
  have hD : va_D A [(a0, .inl (cI, N, .inl f)), (q, .inl (cI, (2 * N), .inl (cpL f j)))] := hD
  have hl : lv_has ls 3 [(0, .ref a0), (1, .ref q), (2, .int (nI j))] := hl
  refine lv_iload_n hx hb d_Tree_longer_9 rfl (lv_at hl 2 rfl) ?_
  refine lv_aload_n hx hb d_Tree_longer_10 rfl (lv_at hl 0 rfl) ?_
  refine va_alen (v := nI N) hx hb hK hP 0 0 rfl rfl rfl d_Tree_longer_11 ?_
  refine lv_icmp_ge (tgt := 27) hx hb d_Tree_longer_12 (by decide) (fun c12 => ?_) (fun c12 => ?_)
  · refine lv_aload_n hx hb d_Tree_longer_27 rfl (lv_at hl 1 rfl) ?_
    have hj : j = N := by rw [nI_leI (by omega) (by omega)] at c12; omega
    rw [hj] at hP hD
    refine w_same (fun hq => ?_)
    refine W.widen (k := 1) (n := 2 * N) (Nat.le_of_ble_eq_true rfl) (by omega) ?_
    exact W.aret (v := .ref q) hx hb hr (Or.inr ⟨_, rfl⟩) (Or.inr ⟨_, rfl⟩) (fun t ht hW => ⟨⟨(), q, rfl, trivial, ⟨by rw [ht]; exact hP, va_K.moved hW.alike hK, hD⟩, by rw [ht]; exact hq.mono (Nat.le_of_ble_eq_true rfl) (by omega)⟩, hS.F ht⟩) hS.2.2 d_Tree_longer_28
  · refine lv_aload_n hx hb d_Tree_longer_15 rfl (lv_at hl 1 rfl) ?_
    refine lv_iload_n hx hb d_Tree_longer_16 rfl (lv_at hl 2 rfl) ?_
    refine lv_aload_n hx hb d_Tree_longer_17 rfl (lv_at hl 0 rfl) ?_
    refine lv_iload_n hx hb d_Tree_longer_18 rfl (lv_at hl 2 rfl) ?_
    have hj : j < N := by rw [nI_leI (by omega) (by omega)] at c12; omega
    refine va_iald hx hb hK hP 0 0 rfl rfl (vp_in_nI hj (by omega)) d_Tree_longer_19 ?_
    rw [show (nI j).toNatClampNeg = j from nI_clamp (by omega)]
    refine va_iast hx hb hK hP hD hS 1 0 rfl rfl (vp_in_nI (show j < 2 * N by omega) (by omega)) d_Tree_longer_20 (fun H locs hP hD hS => ?_)
    rw [show (nI j).toNatClampNeg = j from nI_clamp (by omega), cpL_s] at hP hD
    have hP : va_P (dC, dI) classes [(a0, .inl (cI, N, .inl f)), (q, .inl (cI, (2 * N), .inl (cpL f (j + 1))))] H := hP
    have hD : va_D A [(a0, .inl (cI, N, .inl f)), (q, .inl (cI, (2 * N), .inl (cpL f (j + 1))))] := hD
    refine lv_iinc (v := nI (j + 1)) (lv' := [(2, .int (nI (j + 1))), (0, .ref a0), (1, .ref q)]) hx hb d_Tree_longer_21 hl (k := 2) rfl (nI_1 j) (by decide) rfl (fun ls hl => ?_)
    refine lv_goto (tgt := 9) hx hb d_Tree_longer_24 (by decide) ?_
    exact ih (j + 1) _ _ _ (by omega) (by show N - (j + 1) < N - j; omega) hP hD hS (lv_sub hl [1, 2, 0] rfl)
abbrev b_Tree_size : ByteArray := prog_15_method_6_code
def y_Tree_size : MethodName := ⟨"QueryBenchModel$Tree", "size", "(I)I"⟩
abbrev k_Tree_size : Cond := .code y_Tree_size b_Tree_size 4 (some .int)
theorem i_Tree_size : k_Tree_size ∈ gtbl := gt_in 1516 (by decide +kernel) (by decide +kernel)
theorem d_Tree_size_0 : decode b_Tree_size 0 = .ok (.iconst 0, 1) := by decide +kernel
theorem d_Tree_size_1 : decode b_Tree_size 1 = .ok (.istore_n 2, 1) := by decide +kernel
theorem d_Tree_size_2 : decode b_Tree_size 2 = .ok (.aload_n 0, 1) := by decide +kernel
theorem d_Tree_size_3 : decode b_Tree_size 3 = .ok (.getfield 25, 3) := by decide +kernel
theorem d_Tree_size_6 : decode b_Tree_size 6 = .ok (.iload_n 1, 1) := by decide +kernel
theorem d_Tree_size_7 : decode b_Tree_size 7 = .ok (.iaload, 1) := by decide +kernel
theorem d_Tree_size_8 : decode b_Tree_size 8 = .ok (.istore_n 3, 1) := by decide +kernel
theorem d_Tree_size_9 : decode b_Tree_size 9 = .ok (.iload_n 3, 1) := by decide +kernel
theorem d_Tree_size_10 : decode b_Tree_size 10 = .ok (.ifCond .lt 16, 3) := by decide +kernel
theorem d_Tree_size_13 : decode b_Tree_size 13 = .ok (.iinc 2 1, 3) := by decide +kernel
theorem d_Tree_size_16 : decode b_Tree_size 16 = .ok (.aload_n 0, 1) := by decide +kernel
theorem d_Tree_size_17 : decode b_Tree_size 17 = .ok (.getfield 28, 3) := by decide +kernel
theorem d_Tree_size_20 : decode b_Tree_size 20 = .ok (.iload_n 3, 1) := by decide +kernel
theorem d_Tree_size_21 : decode b_Tree_size 21 = .ok (.iaload, 1) := by decide +kernel
theorem d_Tree_size_22 : decode b_Tree_size 22 = .ok (.istore_n 3, 1) := by decide +kernel
theorem d_Tree_size_23 : decode b_Tree_size 23 = .ok (.goto (-14), 3) := by decide +kernel
theorem d_Tree_size_26 : decode b_Tree_size 26 = .ok (.iload_n 2, 1) := by decide +kernel
theorem d_Tree_size_27 : decode b_Tree_size 27 = .ok (.ireturn, 1) := by decide +kernel
set_option maxHeartbeats 4000000 in
set_option maxRecDepth 100000 in
/-- Tree.size -/
theorem c_Tree_size (l : Launch) (dC : Nat → ClassId) (dI : Nat → Nat → Nat) (t : Nat) (sz : Heap) (w : Nat → Value) (cI : ClassId) (a4 a5 N nd : Nat) (kd nx : Nat → Int32) (kl : List Nat) (hnd : nd < N) (hN : N ≤ 10000000) (hch : chn nx N kl (kd nd)) (h4 : w 4 = .ref a4) (h5 : w 5 = .ref a5) : Met l y_Tree_size (k_Tree_size :: gtbl) ({ frames := 0, cells := 0, slots := 0, locals := 0 }) (va_Pc [.ref t, .int (nI nd)] (mp dC dI [(t, .inr (12, MF 13 w)), (a4, .inl (cI, N, .inl kd)), (a5, .inl (cI, N, .inl nx))] [(cI, .int)] sz)) (va_Qi (fun (r : Int32) (_ : Unit) => r = nI kl.length) (fun _ => mz dC dI [(t, .inr (12, MF 13 w)), (a4, .inl (cI, N, .inl kd)), (a5, .inl (cI, N, .inl nx))] [(cI, .int)] (va_A [(t, .inr (12, MF 13 w)), (a4, .inl (cI, N, .inl kd)), (a5, .inl (cI, N, .inl nx))] sz.size)) (va_A [(t, .inr (12, MF 13 w)), (a4, .inl (cI, N, .inl kd)), (a5, .inl (cI, N, .inl nx))] sz.size)) 0 0 (va_A [(t, .inr (12, MF 13 w)), (a4, .inl (cI, N, .inl kd)), (a5, .inl (cI, N, .inl nx))] sz.size) := by
  refine Met.ofW (cc := b_Tree_size) (maxL := 4) (ret := (some .int)) (by decide) rfl ?_
  intro p e s m args below meth c s₁ B hml hv
  obtain ⟨rfl, hsz, hP, hK, hD0⟩ := hv
  have hx := B.exec
  have hb := B.bytes
  have hr := B.returns
  have hts0 := atoms_spec (ws := k_Tree_size :: gtbl) B.pre
  have hts := fun w h => hts0 w (List.mem_cons_of_mem _ h)
  have hown : s.vm.findClass R_Tree = some m.cls := findClass_of_methodNamed B.named
  have hlocks := B.notSynchronized
  subst hsz
  have hD := hD0.self (sz := s.heap.size)
  generalize hAe : va_A [(t, .inr (12, MF 13 w)), (a4, .inl (cI, N, .inl kd)), (a5, .inl (cI, N, .inl nx))] s.heap.size = A at hD ⊢
  have hA : ∀ q : Nat, s.heap.size ≤ q → A q := fun q h => by rw [← hAe]; exact Or.inr h
  have hS : va_S A s.heap s.heap [] := va_S.rf
  have hP : va_P (dC, dI) classes [(t, .inr (12, MF 13 w)), (a4, .inl (cI, N, .inl kd)), (a5, .inl (cI, N, .inl nx))] s.heap := hP
  have hl := lv_entry ([.ref t, .int (nI nd)]) (n := 4) (Nat.le_of_ble_eq_true rfl)
  rw [lg_entry_eq]
  generalize (lg_sl ([.ref t, .int (nI nd)]) ++ List.replicate (4 - (lg_sl ([.ref t, .int (nI nd)])).length) Slot.unset).toArray = ls at hl ⊢
  have hl : lv_has ls 4 [(0, .ref t), (1, .int (nI nd))] := hl
  refine lv_iconst (v := 0) hx hb d_Tree_size_0 (by decide) ?_
  refine lv_istore_n (lv' := [(2, .int 0), (0, .ref t), (1, .int (nI nd))]) hx hb d_Tree_size_1 rfl hl (by decide) rfl (fun ls hl => ?_)
  refine lv_aload_n hx hb d_Tree_size_2 rfl (lv_at hl 1 rfl) ?_
  refine va_get (D := (dC, dI)) (ci := 12) (v := .ref a4) (C := R_Tree) (T := F_Tree) (N := 13) hx hb hts in_Tree hown hK hP 0 rfl rfl 4 (by decide) (hts _ w_1042) (fun _ h9 => h9) (MFg (by decide) h4) d_Tree_size_3 ?_
  refine lv_iload_n hx hb d_Tree_size_6 rfl (lv_at hl 2 rfl) ?_
  refine va_iald hx hb hK hP 1 0 rfl rfl (vp_in_nI hnd (by omega)) d_Tree_size_7 ?_
  rw [show (nI nd).toNatClampNeg = nd from nI_clamp (by omega)]
  refine lv_istore_n (lv' := [(3, .int (kd nd)), (2, .int 0), (0, .ref t), (1, .int (nI nd))]) hx hb d_Tree_size_8 rfl hl (by decide) rfl (fun ls hl => ?_)
  refine w_loop (D := (dC, dI)) (cl := classes) (A := A) (H0 := s.heap) (nL := 4) 9 (σ := List Nat × Nat × Int32) (fun ⟨ks, j, k⟩ => chn nx N ks k ∧ j + ks.length = kl.length) (fun ⟨ks, j, k⟩ => ks.length) (fun ⟨ks, j, k⟩ => [(t, .inr (12, MF 13 w)), (a4, .inl (cI, N, .inl kd)), (a5, .inl (cI, N, .inl nx))]) (fun ⟨ks, j, k⟩ => [(0, .ref t), (2, .int (nI j)), (3, .int k)]) ?_ (kl, 0, kd nd) ⟨hch, by simp⟩ hP hD hS (lv_sub hl [2, 1, 0] rfl)
  rintro ⟨ks, j, k⟩ H locs ls hI ih hP hD hS hl
  have hP : va_P (dC, dI) classes [(t, .inr (12, MF 13 w)), (a4, .inl (cI, N, .inl kd)), (a5, .inl (cI, N, .inl nx))] H := hP
  have hD : va_D A [(t, .inr (12, MF 13 w)), (a4, .inl (cI, N, .inl kd)), (a5, .inl (cI, N, .inl nx))] := hD
  have hl : lv_has ls 4 [(0, .ref t), (2, .int (nI j)), (3, .int k)] := hl
  refine lv_iload_n hx hb d_Tree_size_9 rfl (lv_at hl 2 rfl) ?_
  obtain ⟨hc, hlen⟩ := hI
  refine lv_if_lt (tgt := 26) hx hb d_Tree_size_10 (by decide) (fun c10 => ?_) (fun c10 => ?_)
  · have hn0 : ks = [] := by cases ks with | nil => rfl | cons a r => exact absurd c10 (by rw [hc.1]; exact nI_pos (by have := hc.2.1; omega))
    subst hn0
    refine lv_iload_n hx hb d_Tree_size_26 rfl (lv_at hl 1 rfl) ?_
    exact W.iret (v := nI j) hx hb hr (fun t9 ht hW => ⟨⟨nI j, (), rfl, by simp only [List.length_nil] at hlen; rw [← hlen]; rfl, by rw [ht]; exact hP, va_K.moved hW.alike hK, hD⟩, hS.F ht⟩) hS.2.2 d_Tree_size_27
  · obtain ⟨a, r, rfl⟩ : ∃ a r, ks = a :: r := by cases ks with | nil => exact absurd hc c10 | cons a r => exact ⟨a, r, rfl⟩
    obtain ⟨hc1, hc2, hc3⟩ := hc
    subst hc1
    refine lv_iinc (v := nI (j + 1)) (lv' := [(2, .int (nI (j + 1))), (0, .ref t), (3, .int (nI a))]) hx hb d_Tree_size_13 hl (k := 1) rfl (nI_1 j) (by decide) rfl (fun ls hl => ?_)
    refine lv_aload_n hx hb d_Tree_size_16 rfl (lv_at hl 1 rfl) ?_
    refine va_get (D := (dC, dI)) (ci := 12) (v := .ref a5) (C := R_Tree) (T := F_Tree) (N := 13) hx hb hts in_Tree hown hK hP 0 rfl rfl 5 (by decide) (hts _ w_1044) (fun _ h9 => h9) (MFg (by decide) h5) d_Tree_size_17 ?_
    refine lv_iload_n hx hb d_Tree_size_20 rfl (lv_at hl 2 rfl) ?_
    refine va_iald hx hb hK hP 2 0 rfl rfl (vp_in_nI hc2 (by omega)) d_Tree_size_21 ?_
    rw [show (nI a).toNatClampNeg = a from nI_clamp (by omega)]
    refine lv_istore_n (lv' := [(3, .int (nx a)), (2, .int (nI (j + 1))), (0, .ref t)]) hx hb d_Tree_size_22 rfl hl (by decide) rfl (fun ls hl => ?_)
    refine lv_goto (tgt := 9) hx hb d_Tree_size_23 (by decide) ?_
    exact ih (r, j + 1, nx a) _ _ _ ⟨hc3, by simp only [List.length_cons] at hlen; omega⟩ (by simp) hP hD hS (lv_sub hl [2, 1, 0] rfl)
