theorem w_1354 : (.methodLink "QueryBenchModel$Tree" 58 ⟨"QueryBenchModel$Tree", "named", "(ILQueryBenchModel$Tree;II)Z"⟩ : Cond) ∈ gtbl := gt_in 1354 (by decide +kernel) (by decide +kernel)
theorem w_1355 : (.instanceMethod ⟨"QueryBenchModel$Tree", "named", "(ILQueryBenchModel$Tree;II)Z"⟩ : Cond) ∈ gtbl := gt_in 1355 (by decide +kernel) (by decide +kernel)
theorem w_1356 : (.selects "QueryBenchModel$Tree" ⟨"QueryBenchModel$Tree", "named", "(ILQueryBenchModel$Tree;II)Z"⟩ ⟨"QueryBenchModel$Tree", "named", "(ILQueryBenchModel$Tree;II)Z"⟩ : Cond) ∈ gtbl := gt_in 1356 (by decide +kernel) (by decide +kernel)
/-- a stretch of units -/
def sl (u : Nat → Int32) (s n : Nat) : List Int32 := (List.range n).map (fun j => u (s + j))
theorem sl_len {u : Nat → Int32} {s n : Nat} : (sl u s n).length = n := by simp [sl]
theorem sl_eq {u v : Nat → Int32} {s r n m : Nat} : sl u s n = sl v r m ↔ n = m ∧ ∀ j, j < n → u (s + j) = v (r + j) := by
  constructor
  · intro h
    have h1 : n = m := by have := congrArg List.length h; simpa [sl] using this
    subst h1
    refine ⟨rfl, fun j hj => ?_⟩
    have h2 := congrArg (fun l => l[j]?) h
    simpa [sl, hj] using h2
  · rintro ⟨rfl, h⟩
    unfold sl
    apply List.map_congr_left
    intro j hj
    exact h j (List.mem_range.mp hj)
/-- the name of a node -/
def nmT (T : TS) (k : Nat) : List Int32 := sl T.un (T.ns k).toNatClampNeg (T.nl k).toNatClampNeg
def nmOK (T : TS) (k : Nat) : Prop := ∃ s1 L1, T.ns k = nI s1 ∧ T.nl k = nI L1 ∧ s1 + L1 ≤ T.us
theorem nmT_eq {T : TS} {k s1 L1 : Nat} (h1 : T.ns k = nI s1) (h2 : T.nl k = nI L1) (hs : s1 < 2 ^ 31) (hl : L1 < 2 ^ 31) : nmT T k = sl T.un s1 L1 := by
  unfold nmT
  rw [h1, h2, nI_clamp hs, nI_clamp hl]
abbrev b_Tree_named : ByteArray := prog_15_method_9_code
def y_Tree_named : MethodName := ⟨"QueryBenchModel$Tree", "named", "(ILQueryBenchModel$Tree;II)Z"⟩
abbrev k_Tree_named : Cond := .code y_Tree_named b_Tree_named 6 (some .boolean)
theorem i_Tree_named : k_Tree_named ∈ gtbl := gt_in 1357 (by decide +kernel) (by decide +kernel)
theorem d_Tree_named_0 : decode b_Tree_named 0 = .ok (.aload_n 0, 1) := by decide +kernel
theorem d_Tree_named_1 : decode b_Tree_named 1 = .ok (.getfield 34, 3) := by decide +kernel
theorem d_Tree_named_4 : decode b_Tree_named 4 = .ok (.iload_n 1, 1) := by decide +kernel
theorem d_Tree_named_5 : decode b_Tree_named 5 = .ok (.iaload, 1) := by decide +kernel
theorem d_Tree_named_6 : decode b_Tree_named 6 = .ok (.iload 4, 2) := by decide +kernel
theorem d_Tree_named_8 : decode b_Tree_named 8 = .ok (.if_icmp .eq 5, 3) := by decide +kernel
theorem d_Tree_named_11 : decode b_Tree_named 11 = .ok (.iconst 0, 1) := by decide +kernel
theorem d_Tree_named_12 : decode b_Tree_named 12 = .ok (.ireturn, 1) := by decide +kernel
theorem d_Tree_named_13 : decode b_Tree_named 13 = .ok (.iconst 0, 1) := by decide +kernel
theorem d_Tree_named_14 : decode b_Tree_named 14 = .ok (.istore 5, 2) := by decide +kernel
theorem d_Tree_named_16 : decode b_Tree_named 16 = .ok (.iload 5, 2) := by decide +kernel
theorem d_Tree_named_18 : decode b_Tree_named 18 = .ok (.iload 4, 2) := by decide +kernel
theorem d_Tree_named_20 : decode b_Tree_named 20 = .ok (.if_icmp .ge 37, 3) := by decide +kernel
theorem d_Tree_named_23 : decode b_Tree_named 23 = .ok (.aload_n 0, 1) := by decide +kernel
theorem d_Tree_named_24 : decode b_Tree_named 24 = .ok (.getfield 43, 3) := by decide +kernel
theorem d_Tree_named_27 : decode b_Tree_named 27 = .ok (.aload_n 0, 1) := by decide +kernel
theorem d_Tree_named_28 : decode b_Tree_named 28 = .ok (.getfield 31, 3) := by decide +kernel
theorem d_Tree_named_31 : decode b_Tree_named 31 = .ok (.iload_n 1, 1) := by decide +kernel
theorem d_Tree_named_32 : decode b_Tree_named 32 = .ok (.iaload, 1) := by decide +kernel
theorem d_Tree_named_33 : decode b_Tree_named 33 = .ok (.iload 5, 2) := by decide +kernel
theorem d_Tree_named_35 : decode b_Tree_named 35 = .ok (.iadd, 1) := by decide +kernel
theorem d_Tree_named_36 : decode b_Tree_named 36 = .ok (.caload, 1) := by decide +kernel
theorem d_Tree_named_37 : decode b_Tree_named 37 = .ok (.aload_n 2, 1) := by decide +kernel
theorem d_Tree_named_38 : decode b_Tree_named 38 = .ok (.getfield 43, 3) := by decide +kernel
theorem d_Tree_named_41 : decode b_Tree_named 41 = .ok (.iload_n 3, 1) := by decide +kernel
theorem d_Tree_named_42 : decode b_Tree_named 42 = .ok (.iload 5, 2) := by decide +kernel
theorem d_Tree_named_44 : decode b_Tree_named 44 = .ok (.iadd, 1) := by decide +kernel
theorem d_Tree_named_45 : decode b_Tree_named 45 = .ok (.caload, 1) := by decide +kernel
theorem d_Tree_named_46 : decode b_Tree_named 46 = .ok (.if_icmp .eq 5, 3) := by decide +kernel
theorem d_Tree_named_49 : decode b_Tree_named 49 = .ok (.iconst 0, 1) := by decide +kernel
theorem d_Tree_named_50 : decode b_Tree_named 50 = .ok (.ireturn, 1) := by decide +kernel
theorem d_Tree_named_51 : decode b_Tree_named 51 = .ok (.iinc 5 1, 3) := by decide +kernel
theorem d_Tree_named_54 : decode b_Tree_named 54 = .ok (.goto (-38), 3) := by decide +kernel
theorem d_Tree_named_57 : decode b_Tree_named 57 = .ok (.iconst 1, 1) := by decide +kernel
theorem d_Tree_named_58 : decode b_Tree_named 58 = .ok (.ireturn, 1) := by decide +kernel
abbrev b_Tree_find : ByteArray := prog_15_method_10_code
def y_Tree_find : MethodName := ⟨"QueryBenchModel$Tree", "find", "(ILQueryBenchModel$Tree;II)I"⟩
abbrev k_Tree_find : Cond := .code y_Tree_find b_Tree_find 6 (some .int)
theorem i_Tree_find : k_Tree_find ∈ gtbl := gt_in 1353 (by decide +kernel) (by decide +kernel)
theorem d_Tree_find_0 : decode b_Tree_find 0 = .ok (.aload_n 0, 1) := by decide +kernel
theorem d_Tree_find_1 : decode b_Tree_find 1 = .ok (.getfield 25, 3) := by decide +kernel
theorem d_Tree_find_4 : decode b_Tree_find 4 = .ok (.iload_n 1, 1) := by decide +kernel
theorem d_Tree_find_5 : decode b_Tree_find 5 = .ok (.iaload, 1) := by decide +kernel
theorem d_Tree_find_6 : decode b_Tree_find 6 = .ok (.istore 5, 2) := by decide +kernel
theorem d_Tree_find_8 : decode b_Tree_find 8 = .ok (.iload 5, 2) := by decide +kernel
theorem d_Tree_find_10 : decode b_Tree_find 10 = .ok (.ifCond .lt 31, 3) := by decide +kernel
theorem d_Tree_find_13 : decode b_Tree_find 13 = .ok (.aload_n 0, 1) := by decide +kernel
theorem d_Tree_find_14 : decode b_Tree_find 14 = .ok (.iload 5, 2) := by decide +kernel
theorem d_Tree_find_16 : decode b_Tree_find 16 = .ok (.aload_n 2, 1) := by decide +kernel
theorem d_Tree_find_17 : decode b_Tree_find 17 = .ok (.iload_n 3, 1) := by decide +kernel
theorem d_Tree_find_18 : decode b_Tree_find 18 = .ok (.iload 4, 2) := by decide +kernel
theorem d_Tree_find_20 : decode b_Tree_find 20 = .ok (.invokevirtual 58, 3) := by decide +kernel
theorem d_Tree_find_23 : decode b_Tree_find 23 = .ok (.ifCond .eq 6, 3) := by decide +kernel
theorem d_Tree_find_26 : decode b_Tree_find 26 = .ok (.iload 5, 2) := by decide +kernel
theorem d_Tree_find_28 : decode b_Tree_find 28 = .ok (.ireturn, 1) := by decide +kernel
theorem d_Tree_find_29 : decode b_Tree_find 29 = .ok (.aload_n 0, 1) := by decide +kernel
theorem d_Tree_find_30 : decode b_Tree_find 30 = .ok (.getfield 28, 3) := by decide +kernel
theorem d_Tree_find_33 : decode b_Tree_find 33 = .ok (.iload 5, 2) := by decide +kernel
theorem d_Tree_find_35 : decode b_Tree_find 35 = .ok (.iaload, 1) := by decide +kernel
theorem d_Tree_find_36 : decode b_Tree_find 36 = .ok (.istore 5, 2) := by decide +kernel
theorem d_Tree_find_38 : decode b_Tree_find 38 = .ok (.goto (-30), 3) := by decide +kernel
theorem d_Tree_find_41 : decode b_Tree_find 41 = .ok (.iconst (-1), 1) := by decide +kernel
theorem d_Tree_find_42 : decode b_Tree_find 42 = .ok (.ireturn, 1) := by decide +kernel
set_option maxHeartbeats 4000000 in
set_option maxRecDepth 100000 in
/-- Tree.named -/
theorem c_Tree_namedS (l : Launch) (dC : Nat → ClassId) (dI : Nat → Nat → Nat) (t : Nat) (sz : Heap) (cI cC : ClassId) (T : TS) (kid s1 L1 s2 L2 : Nat) (hT : TOK T) (hk : kid < T.ct) (hn1 : T.ns kid = nI s1) (hn2 : T.nl kid = nI L1) (hn3 : s1 + L1 ≤ T.us) (hn4 : s2 + L2 ≤ T.us) : Met l y_Tree_named (k_Tree_named :: gtbl) ({ frames := 0, cells := 0, slots := 0, locals := 0 }) (va_Pc [.ref t, .int (nI kid), .ref t, .int (nI s2), .int (nI L2)] (mp dC dI [(t, .inr (12, MF 13 (tw T))), (T.a6, .inl (cI, T.N, .inl T.ns)), (T.a7, .inl (cI, T.N, .inl T.nl)), (T.au, .inl (cC, T.U, .inl T.un))] [(cI, .int), (cC, .char)] sz)) (va_Qi (fun (r : Int32) (_ : Unit) => (r = 1 ∧ sl T.un s1 L1 = sl T.un s2 L2) ∨ (r = 0 ∧ ¬ sl T.un s1 L1 = sl T.un s2 L2)) (fun _ => mz dC dI [(t, .inr (12, MF 13 (tw T))), (T.a6, .inl (cI, T.N, .inl T.ns)), (T.a7, .inl (cI, T.N, .inl T.nl)), (T.au, .inl (cC, T.U, .inl T.un))] [(cI, .int), (cC, .char)] (va_A [(t, .inr (12, MF 13 (tw T))), (T.a6, .inl (cI, T.N, .inl T.ns)), (T.a7, .inl (cI, T.N, .inl T.nl)), (T.au, .inl (cC, T.U, .inl T.un))] sz.size)) (va_A [(t, .inr (12, MF 13 (tw T))), (T.a6, .inl (cI, T.N, .inl T.ns)), (T.a7, .inl (cI, T.N, .inl T.nl)), (T.au, .inl (cC, T.U, .inl T.un))] sz.size)) 0 0 (va_A [(t, .inr (12, MF 13 (tw T))), (T.a6, .inl (cI, T.N, .inl T.ns)), (T.a7, .inl (cI, T.N, .inl T.nl)), (T.au, .inl (cC, T.U, .inl T.un))] sz.size) := by
  refine Met.ofW (cc := b_Tree_named) (maxL := 6) (ret := (some .boolean)) (by decide) rfl ?_
  intro p e s m args below meth c s₁ B hml hv
  obtain ⟨rfl, hsz, hP, hK, hD0⟩ := hv
  have hx := B.exec
  have hb := B.bytes
  have hr := B.returns
  have hts0 := atoms_spec (ws := k_Tree_named :: gtbl) B.pre
  have hts := fun w h => hts0 w (List.mem_cons_of_mem _ h)
  have hown : s.vm.findClass R_Tree = some m.cls := findClass_of_methodNamed B.named
  have hlocks := B.notSynchronized
  subst hsz
  have hD := hD0.self (sz := s.heap.size)
  generalize hAe : va_A [(t, .inr (12, MF 13 (tw T))), (T.a6, .inl (cI, T.N, .inl T.ns)), (T.a7, .inl (cI, T.N, .inl T.nl)), (T.au, .inl (cC, T.U, .inl T.un))] s.heap.size = A at hD ⊢
  have hA : ∀ q : Nat, s.heap.size ≤ q → A q := fun q h => by rw [← hAe]; exact Or.inr h
  have hS : va_S A s.heap s.heap [] := va_S.rf
  have hP : va_P (dC, dI) classes [(t, .inr (12, MF 13 (tw T))), (T.a6, .inl (cI, T.N, .inl T.ns)), (T.a7, .inl (cI, T.N, .inl T.nl)), (T.au, .inl (cC, T.U, .inl T.un))] s.heap := hP
  have hl := lv_entry ([.ref t, .int (nI kid), .ref t, .int (nI s2), .int (nI L2)]) (n := 6) (Nat.le_of_ble_eq_true rfl)
  rw [lg_entry_eq]
  generalize (lg_sl ([.ref t, .int (nI kid), .ref t, .int (nI s2), .int (nI L2)]) ++ List.replicate (6 - (lg_sl ([.ref t, .int (nI kid), .ref t, .int (nI s2), .int (nI L2)])).length) Slot.unset).toArray = ls at hl ⊢
  have hl : lv_has ls 6 [(0, .ref t), (1, .int (nI kid)), (2, .ref t), (3, .int (nI s2)), (4, .int (nI L2))] := hl
  obtain ⟨ho1, ho2, ho3, ho4, ho5, ho6, ho7⟩ := hT
  refine lv_aload_n hx hb d_Tree_named_0 rfl (lv_at hl 0 rfl) ?_
  refine va_get (D := (dC, dI)) (ci := 12) (v := .ref T.a7) (C := R_Tree) (T := F_Tree) (N := 13) hx hb hts in_Tree hown hK hP 0 rfl rfl 7 (by decide) (hts _ w_1048) (fun _ h9 => h9) (MFg (by decide) rfl) d_Tree_named_1 ?_
  refine lv_iload_n hx hb d_Tree_named_4 rfl (lv_at hl 1 rfl) ?_
  refine va_iald hx hb hK hP 2 0 rfl rfl (vp_in_nI (show kid < T.N by omega) (by omega)) d_Tree_named_5 ?_
  rw [show (nI kid).toNatClampNeg = kid from nI_clamp (by omega), hn2]
  refine lv_iload hx hb d_Tree_named_6 (lv_at hl 4 rfl) ?_
  refine lv_icmp_eq (tgt := 13) hx hb d_Tree_named_8 (by decide) (fun c8 => ?_) (fun c8 => ?_)
  · refine lv_iconst (v := 0) hx hb d_Tree_named_13 (by decide) ?_
    refine lv_istore (lv' := [(5, .int 0), (0, .ref t), (1, .int (nI kid)), (2, .ref t), (3, .int (nI s2)), (4, .int (nI L2))]) hx hb d_Tree_named_14 hl (by decide) rfl (fun ls hl => ?_)
    have hLL : L1 = L2 := (nI_eq (by omega) (by omega)).mp c8
    refine w_loop (D := (dC, dI)) (cl := classes) (A := A) (H0 := s.heap) (nL := 6) 16 (σ := Nat) (fun j => j ≤ L2 ∧ ∀ i, i < j → T.un (s1 + i) = T.un (s2 + i)) (fun j => L2 - j) (fun j => [(t, .inr (12, MF 13 (tw T))), (T.a6, .inl (cI, T.N, .inl T.ns)), (T.a7, .inl (cI, T.N, .inl T.nl)), (T.au, .inl (cC, T.U, .inl T.un))]) (fun j => [(0, .ref t), (1, .int (nI kid)), (2, .ref t), (3, .int (nI s2)), (4, .int (nI L2)), (5, .int (nI j))]) ?_ 0 ⟨Nat.zero_le _, fun i h => absurd h (Nat.not_lt_zero _)⟩ hP hD hS (lv_sub hl [1, 2, 3, 4, 5, 0] rfl)
    rintro j H locs ls hI ih hP hD hS hl
    have hP : va_P (dC, dI) classes [(t, .inr (12, MF 13 (tw T))), (T.a6, .inl (cI, T.N, .inl T.ns)), (T.a7, .inl (cI, T.N, .inl T.nl)), (T.au, .inl (cC, T.U, .inl T.un))] H := hP
    have hD : va_D A [(t, .inr (12, MF 13 (tw T))), (T.a6, .inl (cI, T.N, .inl T.ns)), (T.a7, .inl (cI, T.N, .inl T.nl)), (T.au, .inl (cC, T.U, .inl T.un))] := hD
    have hl : lv_has ls 6 [(0, .ref t), (1, .int (nI kid)), (2, .ref t), (3, .int (nI s2)), (4, .int (nI L2)), (5, .int (nI j))] := hl
    refine lv_iload hx hb d_Tree_named_16 (lv_at hl 5 rfl) ?_
    refine lv_iload hx hb d_Tree_named_18 (lv_at hl 4 rfl) ?_
    refine lv_icmp_ge (tgt := 57) hx hb d_Tree_named_20 (by decide) (fun c20 => ?_) (fun c20 => ?_)
    · refine lv_iconst (v := 1) hx hb d_Tree_named_57 (by decide) ?_
      have hjL : j = L2 := by rw [nI_leI (by omega) (by omega)] at c20; omega
      exact W.zret (v := 1) hx hb hr rfl (fun t9 ht hW => ⟨⟨1, (), rfl, Or.inl ⟨rfl, sl_eq.mpr ⟨hLL, fun i hi => hI.2 i (by omega)⟩⟩, by rw [ht]; exact hP, va_K.moved hW.alike hK, hD⟩, hS.F ht⟩) hS.2.2 d_Tree_named_58
    · refine lv_aload_n hx hb d_Tree_named_23 rfl (lv_at hl 0 rfl) ?_
      refine va_get (D := (dC, dI)) (ci := 12) (v := .ref T.au) (C := R_Tree) (T := F_Tree) (N := 13) hx hb hts in_Tree hown hK hP 0 rfl rfl 11 (by decide) (hts _ w_1055) (fun _ h9 => h9) (MFg (by decide) rfl) d_Tree_named_24 ?_
      refine lv_aload_n hx hb d_Tree_named_27 rfl (lv_at hl 0 rfl) ?_
      refine va_get (D := (dC, dI)) (ci := 12) (v := .ref T.a6) (C := R_Tree) (T := F_Tree) (N := 13) hx hb hts in_Tree hown hK hP 0 rfl rfl 6 (by decide) (hts _ w_1046) (fun _ h9 => h9) (MFg (by decide) rfl) d_Tree_named_28 ?_
      refine lv_iload_n hx hb d_Tree_named_31 rfl (lv_at hl 1 rfl) ?_
      have hj : j < L2 := by rw [nI_leI (by omega) (by omega)] at c20; omega
      refine va_iald hx hb hK hP 1 0 rfl rfl (vp_in_nI (show kid < T.N by omega) (by omega)) d_Tree_named_32 ?_
      rw [show (nI kid).toNatClampNeg = kid from nI_clamp (by omega), hn1]
      refine lv_iload hx hb d_Tree_named_33 (lv_at hl 5 rfl) ?_
      refine lv_iadd hx hb d_Tree_named_35 ?_
      refine W.eq (g2 := F0 m 36 ls [.int (nI (s1 + j)), .ref T.au]) (by rw [show ((nI s1) + (nI j)) = (nI (s1 + j)) from (nI_add _ _)]) ?_
      refine va_cald hx hb hK hP 3 1 rfl rfl (vp_in_nI (show s1 + j < T.U by omega) (by omega)) d_Tree_named_36 ?_
      rw [show (nI (s1 + j)).toNatClampNeg = s1 + j from nI_clamp (by omega)]
      refine lv_aload_n hx hb d_Tree_named_37 rfl (lv_at hl 2 rfl) ?_
      refine va_get (D := (dC, dI)) (ci := 12) (v := .ref T.au) (C := R_Tree) (T := F_Tree) (N := 13) hx hb hts in_Tree hown hK hP 0 rfl rfl 11 (by decide) (hts _ w_1055) (fun _ h9 => h9) (MFg (by decide) rfl) d_Tree_named_38 ?_
      refine lv_iload_n hx hb d_Tree_named_41 rfl (lv_at hl 3 rfl) ?_
      refine lv_iload hx hb d_Tree_named_42 (lv_at hl 5 rfl) ?_
      refine lv_iadd hx hb d_Tree_named_44 ?_
      refine W.eq (g2 := F0 m 45 ls [.int (nI (s2 + j)), .ref T.au, .int (T.un (s1 + j))]) (by rw [show ((nI s2) + (nI j)) = (nI (s2 + j)) from (nI_add _ _)]) ?_
      refine va_cald hx hb hK hP 3 1 rfl rfl (vp_in_nI (show s2 + j < T.U by omega) (by omega)) d_Tree_named_45 ?_
      rw [show (nI (s2 + j)).toNatClampNeg = s2 + j from nI_clamp (by omega)]
      refine lv_icmp_eq (tgt := 51) hx hb d_Tree_named_46 (by decide) (fun c46 => ?_) (fun c46 => ?_)
      · refine lv_iinc (v := nI (j + 1)) (lv' := [(5, .int (nI (j + 1))), (0, .ref t), (1, .int (nI kid)), (2, .ref t), (3, .int (nI s2)), (4, .int (nI L2))]) hx hb d_Tree_named_51 hl (k := 5) rfl (nI_1 j) (by decide) rfl (fun ls hl => ?_)
        refine lv_goto (tgt := 16) hx hb d_Tree_named_54 (by decide) ?_
        have hI2 : ∀ i, i < j + 1 → T.un (s1 + i) = T.un (s2 + i) := fun i hi => by
          rcases Nat.lt_or_ge i j with h | h
          · exact hI.2 i h
          · obtain rfl : i = j := by omega
            exact c46
        exact ih (j + 1) _ _ _ ⟨by omega, hI2⟩ (by show L2 - (j + 1) < L2 - j; omega) hP hD hS (lv_sub hl [1, 2, 3, 4, 5, 0] rfl)
      · refine lv_iconst (v := 0) hx hb d_Tree_named_49 (by decide) ?_
        exact W.zret (v := 0) hx hb hr rfl (fun t9 ht hW => ⟨⟨0, (), rfl, Or.inr ⟨rfl, fun h => c46 ((sl_eq.mp h).2 j (by omega))⟩, by rw [ht]; exact hP, va_K.moved hW.alike hK, hD⟩, hS.F ht⟩) hS.2.2 d_Tree_named_50
  · refine lv_iconst (v := 0) hx hb d_Tree_named_11 (by decide) ?_
    exact W.zret (v := 0) hx hb hr rfl (fun t9 ht hW => ⟨⟨0, (), rfl, Or.inr ⟨rfl, fun h => c8 (by rw [(sl_eq.mp h).1])⟩, by rw [ht]; exact hP, va_K.moved hW.alike hK, hD⟩, hS.F ht⟩) hS.2.2 d_Tree_named_12
set_option maxHeartbeats 4000000 in
set_option maxRecDepth 100000 in
/-- Tree.find -/
theorem c_Tree_findS (l : Launch) (dC : Nat → ClassId) (dI : Nat → Nat → Nat) (t : Nat) (sz : Heap) (cI cC : ClassId) (T : TS) (nd s2 L2 : Nat) (ks : List Nat) (hT : TOK T) (hk : nd < T.ct) (hch : chn T.nx T.ct ks (T.ki nd)) (hnm : ∀ a, a ∈ ks → nmOK T a) (hn4 : s2 + L2 ≤ T.us) : Met l y_Tree_find (k_Tree_find :: gtbl) ({ frames := 1, cells := 0, slots := 0, locals := 32 }) (va_Pc [.ref t, .int (nI nd), .ref t, .int (nI s2), .int (nI L2)] (mp dC dI [(t, .inr (12, MF 13 (tw T))), (T.a4, .inl (cI, T.N, .inl T.ki)), (T.a5, .inl (cI, T.N, .inl T.nx)), (T.a6, .inl (cI, T.N, .inl T.ns)), (T.a7, .inl (cI, T.N, .inl T.nl)), (T.au, .inl (cC, T.U, .inl T.un))] [(cI, .int), (cC, .char)] sz)) (va_Qi (fun (r : Int32) (_ : Unit) => (∃ a, a ∈ ks ∧ r = nI a ∧ nmT T a = sl T.un s2 L2) ∨ (r = -1 ∧ ∀ a, a ∈ ks → ¬ nmT T a = sl T.un s2 L2)) (fun _ => mz dC dI [(t, .inr (12, MF 13 (tw T))), (T.a4, .inl (cI, T.N, .inl T.ki)), (T.a5, .inl (cI, T.N, .inl T.nx)), (T.a6, .inl (cI, T.N, .inl T.ns)), (T.a7, .inl (cI, T.N, .inl T.nl)), (T.au, .inl (cC, T.U, .inl T.un))] [(cI, .int), (cC, .char)] (va_A [(t, .inr (12, MF 13 (tw T))), (T.a4, .inl (cI, T.N, .inl T.ki)), (T.a5, .inl (cI, T.N, .inl T.nx)), (T.a6, .inl (cI, T.N, .inl T.ns)), (T.a7, .inl (cI, T.N, .inl T.nl)), (T.au, .inl (cC, T.U, .inl T.un))] sz.size)) (va_A [(t, .inr (12, MF 13 (tw T))), (T.a4, .inl (cI, T.N, .inl T.ki)), (T.a5, .inl (cI, T.N, .inl T.nx)), (T.a6, .inl (cI, T.N, .inl T.ns)), (T.a7, .inl (cI, T.N, .inl T.nl)), (T.au, .inl (cC, T.U, .inl T.un))] sz.size)) 0 0 (va_A [(t, .inr (12, MF 13 (tw T))), (T.a4, .inl (cI, T.N, .inl T.ki)), (T.a5, .inl (cI, T.N, .inl T.nx)), (T.a6, .inl (cI, T.N, .inl T.ns)), (T.a7, .inl (cI, T.N, .inl T.nl)), (T.au, .inl (cC, T.U, .inl T.un))] sz.size) := by
  refine Met.ofW (cc := b_Tree_find) (maxL := 6) (ret := (some .int)) (by decide) rfl ?_
  intro p e s m args below meth c s₁ B hml hv
  obtain ⟨rfl, hsz, hP, hK, hD0⟩ := hv
  have hx := B.exec
  have hb := B.bytes
  have hr := B.returns
  have hts0 := atoms_spec (ws := k_Tree_find :: gtbl) B.pre
  have hts := fun w h => hts0 w (List.mem_cons_of_mem _ h)
  have hown : s.vm.findClass R_Tree = some m.cls := findClass_of_methodNamed B.named
  have hlocks := B.notSynchronized
  subst hsz
  have hD := hD0.self (sz := s.heap.size)
  generalize hAe : va_A [(t, .inr (12, MF 13 (tw T))), (T.a4, .inl (cI, T.N, .inl T.ki)), (T.a5, .inl (cI, T.N, .inl T.nx)), (T.a6, .inl (cI, T.N, .inl T.ns)), (T.a7, .inl (cI, T.N, .inl T.nl)), (T.au, .inl (cC, T.U, .inl T.un))] s.heap.size = A at hD ⊢
  have hA : ∀ q : Nat, s.heap.size ≤ q → A q := fun q h => by rw [← hAe]; exact Or.inr h
  have hS : va_S A s.heap s.heap [] := va_S.rf
  have hP : va_P (dC, dI) classes [(t, .inr (12, MF 13 (tw T))), (T.a4, .inl (cI, T.N, .inl T.ki)), (T.a5, .inl (cI, T.N, .inl T.nx)), (T.a6, .inl (cI, T.N, .inl T.ns)), (T.a7, .inl (cI, T.N, .inl T.nl)), (T.au, .inl (cC, T.U, .inl T.un))] s.heap := hP
  have hl := lv_entry ([.ref t, .int (nI nd), .ref t, .int (nI s2), .int (nI L2)]) (n := 6) (Nat.le_of_ble_eq_true rfl)
  rw [lg_entry_eq]
  generalize (lg_sl ([.ref t, .int (nI nd), .ref t, .int (nI s2), .int (nI L2)]) ++ List.replicate (6 - (lg_sl ([.ref t, .int (nI nd), .ref t, .int (nI s2), .int (nI L2)])).length) Slot.unset).toArray = ls at hl ⊢
  have hl : lv_has ls 6 [(0, .ref t), (1, .int (nI nd)), (2, .ref t), (3, .int (nI s2)), (4, .int (nI L2))] := hl
  have hT0 := hT
  obtain ⟨ho1, ho2, ho3, ho4, ho5, ho6, ho7⟩ := hT
  refine lv_aload_n hx hb d_Tree_find_0 rfl (lv_at hl 0 rfl) ?_
  refine va_get (D := (dC, dI)) (ci := 12) (v := .ref T.a4) (C := R_Tree) (T := F_Tree) (N := 13) hx hb hts in_Tree hown hK hP 0 rfl rfl 4 (by decide) (hts _ w_1042) (fun _ h9 => h9) (MFg (by decide) rfl) d_Tree_find_1 ?_
  refine lv_iload_n hx hb d_Tree_find_4 rfl (lv_at hl 1 rfl) ?_
  refine va_iald hx hb hK hP 1 0 rfl rfl (vp_in_nI (show nd < T.N by omega) (by omega)) d_Tree_find_5 ?_
  rw [show (nI nd).toNatClampNeg = nd from nI_clamp (by omega)]
  refine lv_istore (lv' := [(5, .int (T.ki nd)), (0, .ref t), (1, .int (nI nd)), (2, .ref t), (3, .int (nI s2)), (4, .int (nI L2))]) hx hb d_Tree_find_6 hl (by decide) rfl (fun ls hl => ?_)
  refine w_loop (D := (dC, dI)) (cl := classes) (A := A) (H0 := s.heap) (nL := 6) 8 (σ := List Nat × Int32) (fun ⟨cs, k⟩ => chn T.nx T.ct cs k ∧ ∃ dn, ks = dn ++ cs ∧ ∀ a, a ∈ dn → ¬ nmT T a = sl T.un s2 L2) (fun ⟨cs, k⟩ => cs.length) (fun ⟨cs, k⟩ => [(t, .inr (12, MF 13 (tw T))), (T.a4, .inl (cI, T.N, .inl T.ki)), (T.a5, .inl (cI, T.N, .inl T.nx)), (T.a6, .inl (cI, T.N, .inl T.ns)), (T.a7, .inl (cI, T.N, .inl T.nl)), (T.au, .inl (cC, T.U, .inl T.un))]) (fun ⟨cs, k⟩ => [(0, .ref t), (1, .int (nI nd)), (2, .ref t), (3, .int (nI s2)), (4, .int (nI L2)), (5, .int k)]) ?_ (ks, T.ki nd) ⟨hch, [], rfl, fun a h => absurd h (by simp)⟩ hP hD hS (lv_sub hl [1, 2, 3, 4, 5, 0] rfl)
  rintro ⟨cs, k⟩ H locs ls hI ih hP hD hS hl
  have hP : va_P (dC, dI) classes [(t, .inr (12, MF 13 (tw T))), (T.a4, .inl (cI, T.N, .inl T.ki)), (T.a5, .inl (cI, T.N, .inl T.nx)), (T.a6, .inl (cI, T.N, .inl T.ns)), (T.a7, .inl (cI, T.N, .inl T.nl)), (T.au, .inl (cC, T.U, .inl T.un))] H := hP
  have hD : va_D A [(t, .inr (12, MF 13 (tw T))), (T.a4, .inl (cI, T.N, .inl T.ki)), (T.a5, .inl (cI, T.N, .inl T.nx)), (T.a6, .inl (cI, T.N, .inl T.ns)), (T.a7, .inl (cI, T.N, .inl T.nl)), (T.au, .inl (cC, T.U, .inl T.un))] := hD
  have hl : lv_has ls 6 [(0, .ref t), (1, .int (nI nd)), (2, .ref t), (3, .int (nI s2)), (4, .int (nI L2)), (5, .int k)] := hl
  obtain ⟨hc, dn, hdn, hno⟩ := hI
  refine lv_iload hx hb d_Tree_find_8 (lv_at hl 5 rfl) ?_
  refine lv_if_lt (tgt := 41) hx hb d_Tree_find_10 (by decide) (fun c10 => ?_) (fun c10 => ?_)
  · have hn0 : cs = [] := by cases cs with | nil => rfl | cons a r => exact absurd c10 (by rw [hc.1]; exact nI_pos (by have := hc.2.1; omega))
    refine lv_iconst (v := (-1)) hx hb d_Tree_find_41 (by decide) ?_
    exact W.iret (v := -1) hx hb hr (fun t9 ht hW => ⟨⟨-1, (), rfl, Or.inr ⟨rfl, fun b hb2 => hno b (by rw [hdn, hn0] at hb2; simpa using hb2)⟩, by rw [ht]; exact hP, va_K.moved hW.alike hK, hD⟩, hS.F ht⟩) hS.2.2 d_Tree_find_42
  · obtain ⟨a, r9, hcs⟩ : ∃ a r9, cs = a :: r9 := by cases cs with | nil => exact absurd hc c10 | cons a r => exact ⟨a, r, rfl⟩
    rw [hcs] at hc hdn
    obtain ⟨hc1, hc2, hc3⟩ := hc
    rw [hc1] at hl
    have hl : lv_has ls 6 [(0, .ref t), (1, .int (nI nd)), (2, .ref t), (3, .int (nI s2)), (4, .int (nI L2)), (5, .int (nI a))] := hl
    obtain ⟨s1, L1, hn1, hn2, hn3⟩ := hnm a (by rw [hdn]; simp)
    have hnT : nmT T a = sl T.un s1 L1 := nmT_eq hn1 hn2 (by omega) (by omega)
    refine lv_aload_n hx hb d_Tree_find_13 rfl (lv_at hl 0 rfl) ?_
    refine lv_iload hx hb d_Tree_find_14 (lv_at hl 5 rfl) ?_
    refine lv_aload_n hx hb d_Tree_find_16 rfl (lv_at hl 2 rfl) ?_
    refine lv_iload_n hx hb d_Tree_find_17 rfl (lv_at hl 3 rfl) ?_
    refine lv_iload hx hb d_Tree_find_18 (lv_at hl 4 rfl) ?_
    have hPc := hP.sub (ws' := [(t, .inr (12, MF 13 (tw T))), (T.a6, .inl (cI, T.N, .inl T.ns)), (T.a7, .inl (cI, T.N, .inl T.nl)), (T.au, .inl (cC, T.U, .inl T.un))]) [0, 3, 4, 5] rfl
    have hDc := hD.sub (ws' := [(t, .inr (12, MF 13 (tw T))), (T.a6, .inl (cI, T.N, .inl T.ns)), (T.a7, .inl (cI, T.N, .inl T.nl)), (T.au, .inl (cC, T.U, .inl T.un))]) [0, 3, 4, 5] (by decide) rfl
    have hKc := hK.sub (tys' := [(cI, .int), (cC, .char)]) [0, 1] rfl
    have hFc := va_free (wc := [(t, .inr (12, MF 13 (tw T))), (T.a6, .inl (cI, T.N, .inl T.ns)), (T.a7, .inl (cI, T.N, .inl T.nl)), (T.au, .inl (cC, T.U, .inl T.un))]) hD hS hA [0, 3, 4, 5] rfl
    refine va_calli (va_runV (As := [.int (nI a), .ref t, .int (nI s2), .int (nI L2)]) (rest := []) ⟨hx, hb, hml, hown, hts⟩ (c_Tree_namedS l dC dI t H cI cC T a s1 L1 s2 L2 hT0 hc2 hn1 hn2 hn3 hn4) (cwV 4 hts (gt_V (own := R_Tree) (C := R_Tree) (i := 58) (y := y_Tree_named) i_Tree_named w_1354 w_1355 w_1356 w_8) rfl rfl rfl (by decide +kernel) ⟨Nat.le_of_ble_eq_true rfl, Nat.le_of_ble_eq_true rfl⟩) ⟨mp_blind, va_recv hKc hPc (ci := 12) (q0 := 0) rfl rfl, fun U hU hW => ⟨rfl, hU, by rw [hU]; exact hPc, va_K.moved hW.alike hKc, hDc.weaken (fun _ _ _ _ => trivial)⟩⟩ rfl rfl hl.1 rfl (lv_room (Nat.le_of_ble_eq_true rfl)) d_Tree_find_20 ⟨Nat.le_of_ble_eq_true rfl, Nat.le_of_ble_eq_true rfl⟩) hS (fun q _ h => hFc q h) hFc (fun r _u t9 H1 locs ht hvm hw hB hz1 hk1 hS => ?_)
    obtain ⟨hP1, hK1, hD1⟩ := hB
    rw [ht] at hP1
    obtain ⟨hP, hD⟩ := va_join (wr := [(T.a4, .inl (cI, T.N, .inl T.ki)), (T.a5, .inl (cI, T.N, .inl T.nx))]) (w1 := [(t, .inr (12, MF 13 (tw T))), (T.a6, .inl (cI, T.N, .inl T.ns)), (T.a7, .inl (cI, T.N, .inl T.nl)), (T.au, .inl (cC, T.U, .inl T.un))]) hP hD [0, 3, 4, 5] [1, 2] rfl rfl (by decide) (by decide) hk1 hFc hP1 hD1
    generalize H1 = H at hP hS ⊢
    have hP : va_P (dC, dI) classes [(T.a4, .inl (cI, T.N, .inl T.ki)), (T.a5, .inl (cI, T.N, .inl T.nx)), (t, .inr (12, MF 13 (tw T))), (T.a6, .inl (cI, T.N, .inl T.ns)), (T.a7, .inl (cI, T.N, .inl T.nl)), (T.au, .inl (cC, T.U, .inl T.un))] H := hP
    have hD : va_D A [(T.a4, .inl (cI, T.N, .inl T.ki)), (T.a5, .inl (cI, T.N, .inl T.nx)), (t, .inr (12, MF 13 (tw T))), (T.a6, .inl (cI, T.N, .inl T.ns)), (T.a7, .inl (cI, T.N, .inl T.nl)), (T.au, .inl (cC, T.U, .inl T.un))] := hD
    have hP := hP.sub (ws' := [(t, .inr (12, MF 13 (tw T))), (T.a4, .inl (cI, T.N, .inl T.ki)), (T.a5, .inl (cI, T.N, .inl T.nx)), (T.a6, .inl (cI, T.N, .inl T.ns)), (T.a7, .inl (cI, T.N, .inl T.nl)), (T.au, .inl (cC, T.U, .inl T.un))]) [2, 0, 1, 3, 4, 5] rfl
    have hD := hD.sub (ws' := [(t, .inr (12, MF 13 (tw T))), (T.a4, .inl (cI, T.N, .inl T.ki)), (T.a5, .inl (cI, T.N, .inl T.nx)), (T.a6, .inl (cI, T.N, .inl T.ns)), (T.a7, .inl (cI, T.N, .inl T.nl)), (T.au, .inl (cC, T.U, .inl T.un))]) [2, 0, 1, 3, 4, 5] (by decide) rfl
    rw [← hnT] at hw
    refine lv_if_eq (tgt := 29) hx hb d_Tree_find_23 (by decide) (fun c23 => ?_) (fun c23 => ?_)
    · have hnn : ¬ nmT T a = sl T.un s2 L2 := by rcases hw with ⟨h, _⟩ | ⟨_, h⟩; exact absurd c23 (by rw [h]; decide); exact h
      refine lv_aload_n hx hb d_Tree_find_29 rfl (lv_at hl 0 rfl) ?_
      refine va_get (D := (dC, dI)) (ci := 12) (v := .ref T.a5) (C := R_Tree) (T := F_Tree) (N := 13) hx hb hts in_Tree hown hK hP 0 rfl rfl 5 (by decide) (hts _ w_1044) (fun _ h9 => h9) (MFg (by decide) rfl) d_Tree_find_30 ?_
      refine lv_iload hx hb d_Tree_find_33 (lv_at hl 5 rfl) ?_
      refine va_iald hx hb hK hP 2 0 rfl rfl (vp_in_nI (show a < T.N by omega) (by omega)) d_Tree_find_35 ?_
      rw [show (nI a).toNatClampNeg = a from nI_clamp (by omega)]
      refine lv_istore (lv' := [(5, .int (T.nx a)), (0, .ref t), (1, .int (nI nd)), (2, .ref t), (3, .int (nI s2)), (4, .int (nI L2))]) hx hb d_Tree_find_36 hl (by decide) rfl (fun ls hl => ?_)
      refine lv_goto (tgt := 8) hx hb d_Tree_find_38 (by decide) ?_
      exact ih (r9, T.nx a) _ _ _ ⟨hc3, dn ++ [a], by rw [hdn]; simp, fun b hb2 => by rcases List.mem_append.mp hb2 with h | h; exact hno b h; rw [List.mem_singleton.mp h]; exact hnn⟩ (by show r9.length < cs.length; rw [hcs]; simp) hP hD hS (lv_sub hl [1, 2, 3, 4, 5, 0] rfl)
    · have hyy : nmT T a = sl T.un s2 L2 := by rcases hw with ⟨_, h⟩ | ⟨h, _⟩; exact h; exact absurd h c23
      refine lv_iload hx hb d_Tree_find_26 (lv_at hl 5 rfl) ?_
      exact W.iret (v := nI a) hx hb hr (fun t9 ht hW => ⟨⟨nI a, (), rfl, Or.inl ⟨a, by rw [hdn]; simp, rfl, hyy⟩, by rw [ht]; exact hP, va_K.moved hW.alike hK, hD⟩, hS.F ht⟩) hS.2.2 d_Tree_find_28
set_option maxHeartbeats 4000000 in
set_option maxRecDepth 100000 in
/-- Tree.named -/
theorem c_Tree_namedO (l : Launch) (dC : Nat → ClassId) (dI : Nat → Nat → Nat) (t tv : Nat) (sz : Heap) (cI cC : ClassId) (T V : TS) (kid s1 L1 s2 L2 : Nat) (hT : TOK T) (hV : TOK V) (hk : kid < T.ct) (hn1 : T.ns kid = nI s1) (hn2 : T.nl kid = nI L1) (hn3 : s1 + L1 ≤ T.us) (hn4 : s2 + L2 ≤ V.us) : Met l y_Tree_named (k_Tree_named :: gtbl) ({ frames := 0, cells := 0, slots := 0, locals := 0 }) (va_Pc [.ref t, .int (nI kid), .ref tv, .int (nI s2), .int (nI L2)] (mp dC dI [(t, .inr (12, MF 13 (tw T))), (T.a6, .inl (cI, T.N, .inl T.ns)), (T.a7, .inl (cI, T.N, .inl T.nl)), (T.au, .inl (cC, T.U, .inl T.un)), (tv, .inr (12, MF 13 (tw V))), (V.au, .inl (cC, V.U, .inl V.un))] [(cI, .int), (cC, .char)] sz)) (va_Qi (fun (r : Int32) (_ : Unit) => (r = 1 ∧ sl T.un s1 L1 = sl V.un s2 L2) ∨ (r = 0 ∧ ¬ sl T.un s1 L1 = sl V.un s2 L2)) (fun _ => mz dC dI [(t, .inr (12, MF 13 (tw T))), (T.a6, .inl (cI, T.N, .inl T.ns)), (T.a7, .inl (cI, T.N, .inl T.nl)), (T.au, .inl (cC, T.U, .inl T.un)), (tv, .inr (12, MF 13 (tw V))), (V.au, .inl (cC, V.U, .inl V.un))] [(cI, .int), (cC, .char)] (va_A [(t, .inr (12, MF 13 (tw T))), (T.a6, .inl (cI, T.N, .inl T.ns)), (T.a7, .inl (cI, T.N, .inl T.nl)), (T.au, .inl (cC, T.U, .inl T.un)), (tv, .inr (12, MF 13 (tw V))), (V.au, .inl (cC, V.U, .inl V.un))] sz.size)) (va_A [(t, .inr (12, MF 13 (tw T))), (T.a6, .inl (cI, T.N, .inl T.ns)), (T.a7, .inl (cI, T.N, .inl T.nl)), (T.au, .inl (cC, T.U, .inl T.un)), (tv, .inr (12, MF 13 (tw V))), (V.au, .inl (cC, V.U, .inl V.un))] sz.size)) 0 0 (va_A [(t, .inr (12, MF 13 (tw T))), (T.a6, .inl (cI, T.N, .inl T.ns)), (T.a7, .inl (cI, T.N, .inl T.nl)), (T.au, .inl (cC, T.U, .inl T.un)), (tv, .inr (12, MF 13 (tw V))), (V.au, .inl (cC, V.U, .inl V.un))] sz.size) := by
  refine Met.ofW (cc := b_Tree_named) (maxL := 6) (ret := (some .boolean)) (by decide) rfl ?_
  intro p e s m args below meth c s₁ B hml hv
  obtain ⟨rfl, hsz, hP, hK, hD0⟩ := hv
  have hx := B.exec
  have hb := B.bytes
  have hr := B.returns
  have hts0 := atoms_spec (ws := k_Tree_named :: gtbl) B.pre
  have hts := fun w h => hts0 w (List.mem_cons_of_mem _ h)
  have hown : s.vm.findClass R_Tree = some m.cls := findClass_of_methodNamed B.named
  have hlocks := B.notSynchronized
  subst hsz
  have hD := hD0.self (sz := s.heap.size)
  generalize hAe : va_A [(t, .inr (12, MF 13 (tw T))), (T.a6, .inl (cI, T.N, .inl T.ns)), (T.a7, .inl (cI, T.N, .inl T.nl)), (T.au, .inl (cC, T.U, .inl T.un)), (tv, .inr (12, MF 13 (tw V))), (V.au, .inl (cC, V.U, .inl V.un))] s.heap.size = A at hD ⊢
  have hA : ∀ q : Nat, s.heap.size ≤ q → A q := fun q h => by rw [← hAe]; exact Or.inr h
  have hS : va_S A s.heap s.heap [] := va_S.rf
  have hP : va_P (dC, dI) classes [(t, .inr (12, MF 13 (tw T))), (T.a6, .inl (cI, T.N, .inl T.ns)), (T.a7, .inl (cI, T.N, .inl T.nl)), (T.au, .inl (cC, T.U, .inl T.un)), (tv, .inr (12, MF 13 (tw V))), (V.au, .inl (cC, V.U, .inl V.un))] s.heap := hP
  have hl := lv_entry ([.ref t, .int (nI kid), .ref tv, .int (nI s2), .int (nI L2)]) (n := 6) (Nat.le_of_ble_eq_true rfl)
  rw [lg_entry_eq]
  generalize (lg_sl ([.ref t, .int (nI kid), .ref tv, .int (nI s2), .int (nI L2)]) ++ List.replicate (6 - (lg_sl ([.ref t, .int (nI kid), .ref tv, .int (nI s2), .int (nI L2)])).length) Slot.unset).toArray = ls at hl ⊢
  have hl : lv_has ls 6 [(0, .ref t), (1, .int (nI kid)), (2, .ref tv), (3, .int (nI s2)), (4, .int (nI L2))] := hl
  obtain ⟨ho1, ho2, ho3, ho4, ho5, ho6, ho7⟩ := hT
  obtain ⟨hv1, hv2, hv3, hv4, hv5, hv6, hv7⟩ := hV
  refine lv_aload_n hx hb d_Tree_named_0 rfl (lv_at hl 0 rfl) ?_
  refine va_get (D := (dC, dI)) (ci := 12) (v := .ref T.a7) (C := R_Tree) (T := F_Tree) (N := 13) hx hb hts in_Tree hown hK hP 0 rfl rfl 7 (by decide) (hts _ w_1048) (fun _ h9 => h9) (MFg (by decide) rfl) d_Tree_named_1 ?_
  refine lv_iload_n hx hb d_Tree_named_4 rfl (lv_at hl 1 rfl) ?_
  refine va_iald hx hb hK hP 2 0 rfl rfl (vp_in_nI (show kid < T.N by omega) (by omega)) d_Tree_named_5 ?_
  rw [show (nI kid).toNatClampNeg = kid from nI_clamp (by omega), hn2]
  refine lv_iload hx hb d_Tree_named_6 (lv_at hl 4 rfl) ?_
  refine lv_icmp_eq (tgt := 13) hx hb d_Tree_named_8 (by decide) (fun c8 => ?_) (fun c8 => ?_)
  · refine lv_iconst (v := 0) hx hb d_Tree_named_13 (by decide) ?_
    refine lv_istore (lv' := [(5, .int 0), (0, .ref t), (1, .int (nI kid)), (2, .ref tv), (3, .int (nI s2)), (4, .int (nI L2))]) hx hb d_Tree_named_14 hl (by decide) rfl (fun ls hl => ?_)
    have hLL : L1 = L2 := (nI_eq (by omega) (by omega)).mp c8
    refine w_loop (D := (dC, dI)) (cl := classes) (A := A) (H0 := s.heap) (nL := 6) 16 (σ := Nat) (fun j => j ≤ L2 ∧ ∀ i, i < j → T.un (s1 + i) = V.un (s2 + i)) (fun j => L2 - j) (fun j => [(t, .inr (12, MF 13 (tw T))), (T.a6, .inl (cI, T.N, .inl T.ns)), (T.a7, .inl (cI, T.N, .inl T.nl)), (T.au, .inl (cC, T.U, .inl T.un)), (tv, .inr (12, MF 13 (tw V))), (V.au, .inl (cC, V.U, .inl V.un))]) (fun j => [(0, .ref t), (1, .int (nI kid)), (2, .ref tv), (3, .int (nI s2)), (4, .int (nI L2)), (5, .int (nI j))]) ?_ 0 ⟨Nat.zero_le _, fun i h => absurd h (Nat.not_lt_zero _)⟩ hP hD hS (lv_sub hl [1, 2, 3, 4, 5, 0] rfl)
    rintro j H locs ls hI ih hP hD hS hl
    have hP : va_P (dC, dI) classes [(t, .inr (12, MF 13 (tw T))), (T.a6, .inl (cI, T.N, .inl T.ns)), (T.a7, .inl (cI, T.N, .inl T.nl)), (T.au, .inl (cC, T.U, .inl T.un)), (tv, .inr (12, MF 13 (tw V))), (V.au, .inl (cC, V.U, .inl V.un))] H := hP
    have hD : va_D A [(t, .inr (12, MF 13 (tw T))), (T.a6, .inl (cI, T.N, .inl T.ns)), (T.a7, .inl (cI, T.N, .inl T.nl)), (T.au, .inl (cC, T.U, .inl T.un)), (tv, .inr (12, MF 13 (tw V))), (V.au, .inl (cC, V.U, .inl V.un))] := hD
    have hl : lv_has ls 6 [(0, .ref t), (1, .int (nI kid)), (2, .ref tv), (3, .int (nI s2)), (4, .int (nI L2)), (5, .int (nI j))] := hl
    refine lv_iload hx hb d_Tree_named_16 (lv_at hl 5 rfl) ?_
    refine lv_iload hx hb d_Tree_named_18 (lv_at hl 4 rfl) ?_
    refine lv_icmp_ge (tgt := 57) hx hb d_Tree_named_20 (by decide) (fun c20 => ?_) (fun c20 => ?_)
    · refine lv_iconst (v := 1) hx hb d_Tree_named_57 (by decide) ?_
      have hjL : j = L2 := by rw [nI_leI (by omega) (by omega)] at c20; omega
      exact W.zret (v := 1) hx hb hr rfl (fun t9 ht hW => ⟨⟨1, (), rfl, Or.inl ⟨rfl, sl_eq.mpr ⟨hLL, fun i hi => hI.2 i (by omega)⟩⟩, by rw [ht]; exact hP, va_K.moved hW.alike hK, hD⟩, hS.F ht⟩) hS.2.2 d_Tree_named_58
    · refine lv_aload_n hx hb d_Tree_named_23 rfl (lv_at hl 0 rfl) ?_
      refine va_get (D := (dC, dI)) (ci := 12) (v := .ref T.au) (C := R_Tree) (T := F_Tree) (N := 13) hx hb hts in_Tree hown hK hP 0 rfl rfl 11 (by decide) (hts _ w_1055) (fun _ h9 => h9) (MFg (by decide) rfl) d_Tree_named_24 ?_
      refine lv_aload_n hx hb d_Tree_named_27 rfl (lv_at hl 0 rfl) ?_
      refine va_get (D := (dC, dI)) (ci := 12) (v := .ref T.a6) (C := R_Tree) (T := F_Tree) (N := 13) hx hb hts in_Tree hown hK hP 0 rfl rfl 6 (by decide) (hts _ w_1046) (fun _ h9 => h9) (MFg (by decide) rfl) d_Tree_named_28 ?_
      refine lv_iload_n hx hb d_Tree_named_31 rfl (lv_at hl 1 rfl) ?_
      have hj : j < L2 := by rw [nI_leI (by omega) (by omega)] at c20; omega
      refine va_iald hx hb hK hP 1 0 rfl rfl (vp_in_nI (show kid < T.N by omega) (by omega)) d_Tree_named_32 ?_
      rw [show (nI kid).toNatClampNeg = kid from nI_clamp (by omega), hn1]
      refine lv_iload hx hb d_Tree_named_33 (lv_at hl 5 rfl) ?_
      refine lv_iadd hx hb d_Tree_named_35 ?_
      refine W.eq (g2 := F0 m 36 ls [.int (nI (s1 + j)), .ref T.au]) (by rw [show ((nI s1) + (nI j)) = (nI (s1 + j)) from (nI_add _ _)]) ?_
      refine va_cald hx hb hK hP 3 1 rfl rfl (vp_in_nI (show s1 + j < T.U by omega) (by omega)) d_Tree_named_36 ?_
      rw [show (nI (s1 + j)).toNatClampNeg = s1 + j from nI_clamp (by omega)]
      refine lv_aload_n hx hb d_Tree_named_37 rfl (lv_at hl 2 rfl) ?_
      refine va_get (D := (dC, dI)) (ci := 12) (v := .ref V.au) (C := R_Tree) (T := F_Tree) (N := 13) hx hb hts in_Tree hown hK hP 4 rfl rfl 11 (by decide) (hts _ w_1055) (fun _ h9 => h9) (MFg (by decide) rfl) d_Tree_named_38 ?_
      refine lv_iload_n hx hb d_Tree_named_41 rfl (lv_at hl 3 rfl) ?_
      refine lv_iload hx hb d_Tree_named_42 (lv_at hl 5 rfl) ?_
      refine lv_iadd hx hb d_Tree_named_44 ?_
      refine W.eq (g2 := F0 m 45 ls [.int (nI (s2 + j)), .ref V.au, .int (T.un (s1 + j))]) (by rw [show ((nI s2) + (nI j)) = (nI (s2 + j)) from (nI_add _ _)]) ?_
      refine va_cald hx hb hK hP 5 1 rfl rfl (vp_in_nI (show s2 + j < V.U by omega) (by omega)) d_Tree_named_45 ?_
      rw [show (nI (s2 + j)).toNatClampNeg = s2 + j from nI_clamp (by omega)]
      refine lv_icmp_eq (tgt := 51) hx hb d_Tree_named_46 (by decide) (fun c46 => ?_) (fun c46 => ?_)
      · refine lv_iinc (v := nI (j + 1)) (lv' := [(5, .int (nI (j + 1))), (0, .ref t), (1, .int (nI kid)), (2, .ref tv), (3, .int (nI s2)), (4, .int (nI L2))]) hx hb d_Tree_named_51 hl (k := 5) rfl (nI_1 j) (by decide) rfl (fun ls hl => ?_)
        refine lv_goto (tgt := 16) hx hb d_Tree_named_54 (by decide) ?_
        have hI2 : ∀ i, i < j + 1 → T.un (s1 + i) = V.un (s2 + i) := fun i hi => by
          rcases Nat.lt_or_ge i j with h | h
          · exact hI.2 i h
          · obtain rfl : i = j := by omega
            exact c46
        exact ih (j + 1) _ _ _ ⟨by omega, hI2⟩ (by show L2 - (j + 1) < L2 - j; omega) hP hD hS (lv_sub hl [1, 2, 3, 4, 5, 0] rfl)
      · refine lv_iconst (v := 0) hx hb d_Tree_named_49 (by decide) ?_
        exact W.zret (v := 0) hx hb hr rfl (fun t9 ht hW => ⟨⟨0, (), rfl, Or.inr ⟨rfl, fun h => c46 ((sl_eq.mp h).2 j (by omega))⟩, by rw [ht]; exact hP, va_K.moved hW.alike hK, hD⟩, hS.F ht⟩) hS.2.2 d_Tree_named_50
  · refine lv_iconst (v := 0) hx hb d_Tree_named_11 (by decide) ?_
    exact W.zret (v := 0) hx hb hr rfl (fun t9 ht hW => ⟨⟨0, (), rfl, Or.inr ⟨rfl, fun h => c8 (by rw [(sl_eq.mp h).1])⟩, by rw [ht]; exact hP, va_K.moved hW.alike hK, hD⟩, hS.F ht⟩) hS.2.2 d_Tree_named_12
set_option maxHeartbeats 4000000 in
set_option maxRecDepth 100000 in
/-- Tree.find -/
theorem c_Tree_findO (l : Launch) (dC : Nat → ClassId) (dI : Nat → Nat → Nat) (t tv : Nat) (sz : Heap) (cI cC : ClassId) (T V : TS) (nd s2 L2 : Nat) (ks : List Nat) (hT : TOK T) (hV : TOK V) (hk : nd < T.ct) (hch : chn T.nx T.ct ks (T.ki nd)) (hnm : ∀ a, a ∈ ks → nmOK T a) (hn4 : s2 + L2 ≤ V.us) : Met l y_Tree_find (k_Tree_find :: gtbl) ({ frames := 1, cells := 0, slots := 0, locals := 32 }) (va_Pc [.ref t, .int (nI nd), .ref tv, .int (nI s2), .int (nI L2)] (mp dC dI [(t, .inr (12, MF 13 (tw T))), (T.a4, .inl (cI, T.N, .inl T.ki)), (T.a5, .inl (cI, T.N, .inl T.nx)), (T.a6, .inl (cI, T.N, .inl T.ns)), (T.a7, .inl (cI, T.N, .inl T.nl)), (T.au, .inl (cC, T.U, .inl T.un)), (tv, .inr (12, MF 13 (tw V))), (V.au, .inl (cC, V.U, .inl V.un))] [(cI, .int), (cC, .char)] sz)) (va_Qi (fun (r : Int32) (_ : Unit) => (∃ a, a ∈ ks ∧ r = nI a ∧ nmT T a = sl V.un s2 L2) ∨ (r = -1 ∧ ∀ a, a ∈ ks → ¬ nmT T a = sl V.un s2 L2)) (fun _ => mz dC dI [(t, .inr (12, MF 13 (tw T))), (T.a4, .inl (cI, T.N, .inl T.ki)), (T.a5, .inl (cI, T.N, .inl T.nx)), (T.a6, .inl (cI, T.N, .inl T.ns)), (T.a7, .inl (cI, T.N, .inl T.nl)), (T.au, .inl (cC, T.U, .inl T.un)), (tv, .inr (12, MF 13 (tw V))), (V.au, .inl (cC, V.U, .inl V.un))] [(cI, .int), (cC, .char)] (va_A [(t, .inr (12, MF 13 (tw T))), (T.a4, .inl (cI, T.N, .inl T.ki)), (T.a5, .inl (cI, T.N, .inl T.nx)), (T.a6, .inl (cI, T.N, .inl T.ns)), (T.a7, .inl (cI, T.N, .inl T.nl)), (T.au, .inl (cC, T.U, .inl T.un)), (tv, .inr (12, MF 13 (tw V))), (V.au, .inl (cC, V.U, .inl V.un))] sz.size)) (va_A [(t, .inr (12, MF 13 (tw T))), (T.a4, .inl (cI, T.N, .inl T.ki)), (T.a5, .inl (cI, T.N, .inl T.nx)), (T.a6, .inl (cI, T.N, .inl T.ns)), (T.a7, .inl (cI, T.N, .inl T.nl)), (T.au, .inl (cC, T.U, .inl T.un)), (tv, .inr (12, MF 13 (tw V))), (V.au, .inl (cC, V.U, .inl V.un))] sz.size)) 0 0 (va_A [(t, .inr (12, MF 13 (tw T))), (T.a4, .inl (cI, T.N, .inl T.ki)), (T.a5, .inl (cI, T.N, .inl T.nx)), (T.a6, .inl (cI, T.N, .inl T.ns)), (T.a7, .inl (cI, T.N, .inl T.nl)), (T.au, .inl (cC, T.U, .inl T.un)), (tv, .inr (12, MF 13 (tw V))), (V.au, .inl (cC, V.U, .inl V.un))] sz.size) := by
  refine Met.ofW (cc := b_Tree_find) (maxL := 6) (ret := (some .int)) (by decide) rfl ?_
  intro p e s m args below meth c s₁ B hml hv
  obtain ⟨rfl, hsz, hP, hK, hD0⟩ := hv
  have hx := B.exec
  have hb := B.bytes
  have hr := B.returns
  have hts0 := atoms_spec (ws := k_Tree_find :: gtbl) B.pre
  have hts := fun w h => hts0 w (List.mem_cons_of_mem _ h)
  have hown : s.vm.findClass R_Tree = some m.cls := findClass_of_methodNamed B.named
  have hlocks := B.notSynchronized
  subst hsz
  have hD := hD0.self (sz := s.heap.size)
  generalize hAe : va_A [(t, .inr (12, MF 13 (tw T))), (T.a4, .inl (cI, T.N, .inl T.ki)), (T.a5, .inl (cI, T.N, .inl T.nx)), (T.a6, .inl (cI, T.N, .inl T.ns)), (T.a7, .inl (cI, T.N, .inl T.nl)), (T.au, .inl (cC, T.U, .inl T.un)), (tv, .inr (12, MF 13 (tw V))), (V.au, .inl (cC, V.U, .inl V.un))] s.heap.size = A at hD ⊢
  have hA : ∀ q : Nat, s.heap.size ≤ q → A q := fun q h => by rw [← hAe]; exact Or.inr h
  have hS : va_S A s.heap s.heap [] := va_S.rf
  have hP : va_P (dC, dI) classes [(t, .inr (12, MF 13 (tw T))), (T.a4, .inl (cI, T.N, .inl T.ki)), (T.a5, .inl (cI, T.N, .inl T.nx)), (T.a6, .inl (cI, T.N, .inl T.ns)), (T.a7, .inl (cI, T.N, .inl T.nl)), (T.au, .inl (cC, T.U, .inl T.un)), (tv, .inr (12, MF 13 (tw V))), (V.au, .inl (cC, V.U, .inl V.un))] s.heap := hP
  have hl := lv_entry ([.ref t, .int (nI nd), .ref tv, .int (nI s2), .int (nI L2)]) (n := 6) (Nat.le_of_ble_eq_true rfl)
  rw [lg_entry_eq]
  generalize (lg_sl ([.ref t, .int (nI nd), .ref tv, .int (nI s2), .int (nI L2)]) ++ List.replicate (6 - (lg_sl ([.ref t, .int (nI nd), .ref tv, .int (nI s2), .int (nI L2)])).length) Slot.unset).toArray = ls at hl ⊢
  have hl : lv_has ls 6 [(0, .ref t), (1, .int (nI nd)), (2, .ref tv), (3, .int (nI s2)), (4, .int (nI L2))] := hl
  have hT0 := hT
  obtain ⟨ho1, ho2, ho3, ho4, ho5, ho6, ho7⟩ := hT
  refine lv_aload_n hx hb d_Tree_find_0 rfl (lv_at hl 0 rfl) ?_
  refine va_get (D := (dC, dI)) (ci := 12) (v := .ref T.a4) (C := R_Tree) (T := F_Tree) (N := 13) hx hb hts in_Tree hown hK hP 0 rfl rfl 4 (by decide) (hts _ w_1042) (fun _ h9 => h9) (MFg (by decide) rfl) d_Tree_find_1 ?_
  refine lv_iload_n hx hb d_Tree_find_4 rfl (lv_at hl 1 rfl) ?_
  refine va_iald hx hb hK hP 1 0 rfl rfl (vp_in_nI (show nd < T.N by omega) (by omega)) d_Tree_find_5 ?_
  rw [show (nI nd).toNatClampNeg = nd from nI_clamp (by omega)]
  refine lv_istore (lv' := [(5, .int (T.ki nd)), (0, .ref t), (1, .int (nI nd)), (2, .ref tv), (3, .int (nI s2)), (4, .int (nI L2))]) hx hb d_Tree_find_6 hl (by decide) rfl (fun ls hl => ?_)
  refine w_loop (D := (dC, dI)) (cl := classes) (A := A) (H0 := s.heap) (nL := 6) 8 (σ := List Nat × Int32) (fun ⟨cs, k⟩ => chn T.nx T.ct cs k ∧ ∃ dn, ks = dn ++ cs ∧ ∀ a, a ∈ dn → ¬ nmT T a = sl V.un s2 L2) (fun ⟨cs, k⟩ => cs.length) (fun ⟨cs, k⟩ => [(t, .inr (12, MF 13 (tw T))), (T.a4, .inl (cI, T.N, .inl T.ki)), (T.a5, .inl (cI, T.N, .inl T.nx)), (T.a6, .inl (cI, T.N, .inl T.ns)), (T.a7, .inl (cI, T.N, .inl T.nl)), (T.au, .inl (cC, T.U, .inl T.un)), (tv, .inr (12, MF 13 (tw V))), (V.au, .inl (cC, V.U, .inl V.un))]) (fun ⟨cs, k⟩ => [(0, .ref t), (1, .int (nI nd)), (2, .ref tv), (3, .int (nI s2)), (4, .int (nI L2)), (5, .int k)]) ?_ (ks, T.ki nd) ⟨hch, [], rfl, fun a h => absurd h (by simp)⟩ hP hD hS (lv_sub hl [1, 2, 3, 4, 5, 0] rfl)
  rintro ⟨cs, k⟩ H locs ls hI ih hP hD hS hl
  have hP : va_P (dC, dI) classes [(t, .inr (12, MF 13 (tw T))), (T.a4, .inl (cI, T.N, .inl T.ki)), (T.a5, .inl (cI, T.N, .inl T.nx)), (T.a6, .inl (cI, T.N, .inl T.ns)), (T.a7, .inl (cI, T.N, .inl T.nl)), (T.au, .inl (cC, T.U, .inl T.un)), (tv, .inr (12, MF 13 (tw V))), (V.au, .inl (cC, V.U, .inl V.un))] H := hP
  have hD : va_D A [(t, .inr (12, MF 13 (tw T))), (T.a4, .inl (cI, T.N, .inl T.ki)), (T.a5, .inl (cI, T.N, .inl T.nx)), (T.a6, .inl (cI, T.N, .inl T.ns)), (T.a7, .inl (cI, T.N, .inl T.nl)), (T.au, .inl (cC, T.U, .inl T.un)), (tv, .inr (12, MF 13 (tw V))), (V.au, .inl (cC, V.U, .inl V.un))] := hD
  have hl : lv_has ls 6 [(0, .ref t), (1, .int (nI nd)), (2, .ref tv), (3, .int (nI s2)), (4, .int (nI L2)), (5, .int k)] := hl
  obtain ⟨hc, dn, hdn, hno⟩ := hI
  refine lv_iload hx hb d_Tree_find_8 (lv_at hl 5 rfl) ?_
  refine lv_if_lt (tgt := 41) hx hb d_Tree_find_10 (by decide) (fun c10 => ?_) (fun c10 => ?_)
  · have hn0 : cs = [] := by cases cs with | nil => rfl | cons a r => exact absurd c10 (by rw [hc.1]; exact nI_pos (by have := hc.2.1; omega))
    refine lv_iconst (v := (-1)) hx hb d_Tree_find_41 (by decide) ?_
    exact W.iret (v := -1) hx hb hr (fun t9 ht hW => ⟨⟨-1, (), rfl, Or.inr ⟨rfl, fun b hb2 => hno b (by rw [hdn, hn0] at hb2; simpa using hb2)⟩, by rw [ht]; exact hP, va_K.moved hW.alike hK, hD⟩, hS.F ht⟩) hS.2.2 d_Tree_find_42
  · obtain ⟨a, r9, hcs⟩ : ∃ a r9, cs = a :: r9 := by cases cs with | nil => exact absurd hc c10 | cons a r => exact ⟨a, r, rfl⟩
    rw [hcs] at hc hdn
    obtain ⟨hc1, hc2, hc3⟩ := hc
    rw [hc1] at hl
    have hl : lv_has ls 6 [(0, .ref t), (1, .int (nI nd)), (2, .ref tv), (3, .int (nI s2)), (4, .int (nI L2)), (5, .int (nI a))] := hl
    obtain ⟨s1, L1, hn1, hn2, hn3⟩ := hnm a (by rw [hdn]; simp)
    have hnT : nmT T a = sl T.un s1 L1 := nmT_eq hn1 hn2 (by omega) (by omega)
    refine lv_aload_n hx hb d_Tree_find_13 rfl (lv_at hl 0 rfl) ?_
    refine lv_iload hx hb d_Tree_find_14 (lv_at hl 5 rfl) ?_
    refine lv_aload_n hx hb d_Tree_find_16 rfl (lv_at hl 2 rfl) ?_
    refine lv_iload_n hx hb d_Tree_find_17 rfl (lv_at hl 3 rfl) ?_
    refine lv_iload hx hb d_Tree_find_18 (lv_at hl 4 rfl) ?_
    have hPc := hP.sub (ws' := [(t, .inr (12, MF 13 (tw T))), (T.a6, .inl (cI, T.N, .inl T.ns)), (T.a7, .inl (cI, T.N, .inl T.nl)), (T.au, .inl (cC, T.U, .inl T.un)), (tv, .inr (12, MF 13 (tw V))), (V.au, .inl (cC, V.U, .inl V.un))]) [0, 3, 4, 5, 6, 7] rfl
    have hDc := hD.sub (ws' := [(t, .inr (12, MF 13 (tw T))), (T.a6, .inl (cI, T.N, .inl T.ns)), (T.a7, .inl (cI, T.N, .inl T.nl)), (T.au, .inl (cC, T.U, .inl T.un)), (tv, .inr (12, MF 13 (tw V))), (V.au, .inl (cC, V.U, .inl V.un))]) [0, 3, 4, 5, 6, 7] (by decide) rfl
    have hKc := hK.sub (tys' := [(cI, .int), (cC, .char)]) [0, 1] rfl
    have hFc := va_free (wc := [(t, .inr (12, MF 13 (tw T))), (T.a6, .inl (cI, T.N, .inl T.ns)), (T.a7, .inl (cI, T.N, .inl T.nl)), (T.au, .inl (cC, T.U, .inl T.un)), (tv, .inr (12, MF 13 (tw V))), (V.au, .inl (cC, V.U, .inl V.un))]) hD hS hA [0, 3, 4, 5, 6, 7] rfl
    refine va_calli (va_runV (As := [.int (nI a), .ref tv, .int (nI s2), .int (nI L2)]) (rest := []) ⟨hx, hb, hml, hown, hts⟩ (c_Tree_namedO l dC dI t tv H cI cC T V a s1 L1 s2 L2 hT0 hV hc2 hn1 hn2 hn3 hn4) (cwV 4 hts (gt_V (own := R_Tree) (C := R_Tree) (i := 58) (y := y_Tree_named) i_Tree_named w_1354 w_1355 w_1356 w_8) rfl rfl rfl (by decide +kernel) ⟨Nat.le_of_ble_eq_true rfl, Nat.le_of_ble_eq_true rfl⟩) ⟨mp_blind, va_recv hKc hPc (ci := 12) (q0 := 0) rfl rfl, fun U hU hW => ⟨rfl, hU, by rw [hU]; exact hPc, va_K.moved hW.alike hKc, hDc.weaken (fun _ _ _ _ => trivial)⟩⟩ rfl rfl hl.1 rfl (lv_room (Nat.le_of_ble_eq_true rfl)) d_Tree_find_20 ⟨Nat.le_of_ble_eq_true rfl, Nat.le_of_ble_eq_true rfl⟩) hS (fun q _ h => hFc q h) hFc (fun r _u t9 H1 locs ht hvm hw hB hz1 hk1 hS => ?_)
    obtain ⟨hP1, hK1, hD1⟩ := hB
    rw [ht] at hP1
    obtain ⟨hP, hD⟩ := va_join (wr := [(T.a4, .inl (cI, T.N, .inl T.ki)), (T.a5, .inl (cI, T.N, .inl T.nx))]) (w1 := [(t, .inr (12, MF 13 (tw T))), (T.a6, .inl (cI, T.N, .inl T.ns)), (T.a7, .inl (cI, T.N, .inl T.nl)), (T.au, .inl (cC, T.U, .inl T.un)), (tv, .inr (12, MF 13 (tw V))), (V.au, .inl (cC, V.U, .inl V.un))]) hP hD [0, 3, 4, 5, 6, 7] [1, 2] rfl rfl (by decide) (by decide) hk1 hFc hP1 hD1
    generalize H1 = H at hP hS ⊢
    have hP : va_P (dC, dI) classes [(T.a4, .inl (cI, T.N, .inl T.ki)), (T.a5, .inl (cI, T.N, .inl T.nx)), (t, .inr (12, MF 13 (tw T))), (T.a6, .inl (cI, T.N, .inl T.ns)), (T.a7, .inl (cI, T.N, .inl T.nl)), (T.au, .inl (cC, T.U, .inl T.un)), (tv, .inr (12, MF 13 (tw V))), (V.au, .inl (cC, V.U, .inl V.un))] H := hP
    have hD : va_D A [(T.a4, .inl (cI, T.N, .inl T.ki)), (T.a5, .inl (cI, T.N, .inl T.nx)), (t, .inr (12, MF 13 (tw T))), (T.a6, .inl (cI, T.N, .inl T.ns)), (T.a7, .inl (cI, T.N, .inl T.nl)), (T.au, .inl (cC, T.U, .inl T.un)), (tv, .inr (12, MF 13 (tw V))), (V.au, .inl (cC, V.U, .inl V.un))] := hD
    have hP := hP.sub (ws' := [(t, .inr (12, MF 13 (tw T))), (T.a4, .inl (cI, T.N, .inl T.ki)), (T.a5, .inl (cI, T.N, .inl T.nx)), (T.a6, .inl (cI, T.N, .inl T.ns)), (T.a7, .inl (cI, T.N, .inl T.nl)), (T.au, .inl (cC, T.U, .inl T.un)), (tv, .inr (12, MF 13 (tw V))), (V.au, .inl (cC, V.U, .inl V.un))]) [2, 0, 1, 3, 4, 5, 6, 7] rfl
    have hD := hD.sub (ws' := [(t, .inr (12, MF 13 (tw T))), (T.a4, .inl (cI, T.N, .inl T.ki)), (T.a5, .inl (cI, T.N, .inl T.nx)), (T.a6, .inl (cI, T.N, .inl T.ns)), (T.a7, .inl (cI, T.N, .inl T.nl)), (T.au, .inl (cC, T.U, .inl T.un)), (tv, .inr (12, MF 13 (tw V))), (V.au, .inl (cC, V.U, .inl V.un))]) [2, 0, 1, 3, 4, 5, 6, 7] (by decide) rfl
    rw [← hnT] at hw
    refine lv_if_eq (tgt := 29) hx hb d_Tree_find_23 (by decide) (fun c23 => ?_) (fun c23 => ?_)
    · have hnn : ¬ nmT T a = sl V.un s2 L2 := by rcases hw with ⟨h, _⟩ | ⟨_, h⟩; exact absurd c23 (by rw [h]; decide); exact h
      refine lv_aload_n hx hb d_Tree_find_29 rfl (lv_at hl 0 rfl) ?_
      refine va_get (D := (dC, dI)) (ci := 12) (v := .ref T.a5) (C := R_Tree) (T := F_Tree) (N := 13) hx hb hts in_Tree hown hK hP 0 rfl rfl 5 (by decide) (hts _ w_1044) (fun _ h9 => h9) (MFg (by decide) rfl) d_Tree_find_30 ?_
      refine lv_iload hx hb d_Tree_find_33 (lv_at hl 5 rfl) ?_
      refine va_iald hx hb hK hP 2 0 rfl rfl (vp_in_nI (show a < T.N by omega) (by omega)) d_Tree_find_35 ?_
      rw [show (nI a).toNatClampNeg = a from nI_clamp (by omega)]
      refine lv_istore (lv' := [(5, .int (T.nx a)), (0, .ref t), (1, .int (nI nd)), (2, .ref tv), (3, .int (nI s2)), (4, .int (nI L2))]) hx hb d_Tree_find_36 hl (by decide) rfl (fun ls hl => ?_)
      refine lv_goto (tgt := 8) hx hb d_Tree_find_38 (by decide) ?_
      exact ih (r9, T.nx a) _ _ _ ⟨hc3, dn ++ [a], by rw [hdn]; simp, fun b hb2 => by rcases List.mem_append.mp hb2 with h | h; exact hno b h; rw [List.mem_singleton.mp h]; exact hnn⟩ (by show r9.length < cs.length; rw [hcs]; simp) hP hD hS (lv_sub hl [1, 2, 3, 4, 5, 0] rfl)
    · have hyy : nmT T a = sl V.un s2 L2 := by rcases hw with ⟨_, h⟩ | ⟨h, _⟩; exact h; exact absurd h c23
      refine lv_iload hx hb d_Tree_find_26 (lv_at hl 5 rfl) ?_
      exact W.iret (v := nI a) hx hb hr (fun t9 ht hW => ⟨⟨nI a, (), rfl, Or.inl ⟨a, by rw [hdn]; simp, rfl, hyy⟩, by rw [ht]; exact hP, va_K.moved hW.alike hK, hD⟩, hS.F ht⟩) hS.2.2 d_Tree_find_28
