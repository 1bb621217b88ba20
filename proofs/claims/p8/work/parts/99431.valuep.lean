set_option maxHeartbeats 4000000 in
set_option maxRecDepth 100000 in
/-- QueryBench.isHighUnit: what it says -/
theorem g_QB_isHighUnit (l : Launch) (dC : Nat → ClassId) (dI : Nat → Nat → Nat) (sz : Heap) (x : Int32) : Met l y_QB_isHighUnit (k_QB_isHighUnit :: gtbl) ({ frames := 0, cells := 0, slots := 0, locals := 0 }) (va_Pc [.int x] mT) (vp_Si (fun (r : Int32) => Bo r ∧ ((¬ r = 0 → hiU x) ∧ (r = 0 → ¬ hiU x)))) 0 0 (fun _ => False) := by
  refine Met.ofW (cc := b_QB_isHighUnit) (maxL := 1) (ret := (some .boolean)) (by decide) rfl ?_
  intro p e s m args below meth c s₁ B hml hv
  obtain ⟨rfl, hN⟩ := hv
  have hx := B.exec
  have hb := B.bytes
  have hr := B.returns
  have hts0 := atoms_spec (ws := k_QB_isHighUnit :: gtbl) B.pre
  have hts := fun w h => hts0 w (List.mem_cons_of_mem _ h)
  have hown : s.vm.findClass R_QB = some m.cls := findClass_of_methodNamed B.named
  have hlocks := B.notSynchronized
  have hl := lv_entry ([.int x]) (n := 1) (Nat.le_of_ble_eq_true rfl)
  rw [lg_entry_eq]
  generalize (lg_sl ([.int x]) ++ List.replicate (1 - (lg_sl ([.int x])).length) Slot.unset).toArray = ls at hl ⊢
  have hl : lv_has ls 1 [(0, .int x)] := hl
  refine lv_iload_n hx hb d_QB_isHighUnit_0 rfl (lv_at hl 0 rfl) ?_
  refine lv_ldc (v := 55296) hx hb hown (hts _ w_434) d_QB_isHighUnit_1 ?_
  refine lv_icmp_lt (tgt := 16) hx hb d_QB_isHighUnit_3 (by decide) (fun c3 => ?_) (fun c3 => ?_)
  · refine lv_iconst (v := 0) hx hb d_QB_isHighUnit_16 (by decide) ?_
    exact W.zret (v := 0) hx hb hr rfl (fun t ht hW => ⟨0, rfl, ⟨Or.inl rfl, fun h => absurd rfl h, fun _ q => absurd c3 (Int32.not_lt.mpr q.1)⟩, ht⟩) (fun _ h => nomatch h) d_QB_isHighUnit_17
  · refine lv_iload_n hx hb d_QB_isHighUnit_6 rfl (lv_at hl 0 rfl) ?_
    refine lv_ldc (v := 56319) hx hb hown (hts _ w_435) d_QB_isHighUnit_7 ?_
    refine lv_icmp_gt (tgt := 16) hx hb d_QB_isHighUnit_9 (by decide) (fun c9 => ?_) (fun c9 => ?_)
    · refine lv_iconst (v := 0) hx hb d_QB_isHighUnit_16 (by decide) ?_
      exact W.zret (v := 0) hx hb hr rfl (fun t ht hW => ⟨0, rfl, ⟨Or.inl rfl, fun h => absurd rfl h, fun _ q => absurd c9 (Int32.not_lt.mpr q.2)⟩, ht⟩) (fun _ h => nomatch h) d_QB_isHighUnit_17
    · refine lv_iconst (v := 1) hx hb d_QB_isHighUnit_12 (by decide) ?_
      refine lv_goto (tgt := 17) hx hb d_QB_isHighUnit_13 (by decide) ?_
      exact W.zret (v := 1) hx hb hr rfl (fun t ht hW => ⟨1, rfl, ⟨Or.inr rfl, fun _ => ⟨Int32.not_lt.mp c3, Int32.not_lt.mp c9⟩, fun h => absurd h (by decide)⟩, ht⟩) (fun _ h => nomatch h) d_QB_isHighUnit_17
set_option maxHeartbeats 4000000 in
set_option maxRecDepth 100000 in
/-- QueryBench.isLowUnit: what it says -/
theorem g_QB_isLowUnit (l : Launch) (dC : Nat → ClassId) (dI : Nat → Nat → Nat) (sz : Heap) (x : Int32) : Met l y_QB_isLowUnit (k_QB_isLowUnit :: gtbl) ({ frames := 0, cells := 0, slots := 0, locals := 0 }) (va_Pc [.int x] mT) (vp_Si (fun (r : Int32) => Bo r ∧ ((¬ r = 0 → loU x) ∧ (r = 0 → ¬ loU x)))) 0 0 (fun _ => False) := by
  refine Met.ofW (cc := b_QB_isLowUnit) (maxL := 1) (ret := (some .boolean)) (by decide) rfl ?_
  intro p e s m args below meth c s₁ B hml hv
  obtain ⟨rfl, hN⟩ := hv
  have hx := B.exec
  have hb := B.bytes
  have hr := B.returns
  have hts0 := atoms_spec (ws := k_QB_isLowUnit :: gtbl) B.pre
  have hts := fun w h => hts0 w (List.mem_cons_of_mem _ h)
  have hown : s.vm.findClass R_QB = some m.cls := findClass_of_methodNamed B.named
  have hlocks := B.notSynchronized
  have hl := lv_entry ([.int x]) (n := 1) (Nat.le_of_ble_eq_true rfl)
  rw [lg_entry_eq]
  generalize (lg_sl ([.int x]) ++ List.replicate (1 - (lg_sl ([.int x])).length) Slot.unset).toArray = ls at hl ⊢
  have hl : lv_has ls 1 [(0, .int x)] := hl
  refine lv_iload_n hx hb d_QB_isLowUnit_0 rfl (lv_at hl 0 rfl) ?_
  refine lv_ldc (v := 56320) hx hb hown (hts _ w_429) d_QB_isLowUnit_1 ?_
  refine lv_icmp_lt (tgt := 16) hx hb d_QB_isLowUnit_3 (by decide) (fun c3 => ?_) (fun c3 => ?_)
  · refine lv_iconst (v := 0) hx hb d_QB_isLowUnit_16 (by decide) ?_
    exact W.zret (v := 0) hx hb hr rfl (fun t ht hW => ⟨0, rfl, ⟨Or.inl rfl, fun h => absurd rfl h, fun _ q => absurd c3 (Int32.not_lt.mpr q.1)⟩, ht⟩) (fun _ h => nomatch h) d_QB_isLowUnit_17
  · refine lv_iload_n hx hb d_QB_isLowUnit_6 rfl (lv_at hl 0 rfl) ?_
    refine lv_ldc (v := 57343) hx hb hown (hts _ w_430) d_QB_isLowUnit_7 ?_
    refine lv_icmp_gt (tgt := 16) hx hb d_QB_isLowUnit_9 (by decide) (fun c9 => ?_) (fun c9 => ?_)
    · refine lv_iconst (v := 0) hx hb d_QB_isLowUnit_16 (by decide) ?_
      exact W.zret (v := 0) hx hb hr rfl (fun t ht hW => ⟨0, rfl, ⟨Or.inl rfl, fun h => absurd rfl h, fun _ q => absurd c9 (Int32.not_lt.mpr q.2)⟩, ht⟩) (fun _ h => nomatch h) d_QB_isLowUnit_17
    · refine lv_iconst (v := 1) hx hb d_QB_isLowUnit_12 (by decide) ?_
      refine lv_goto (tgt := 17) hx hb d_QB_isLowUnit_13 (by decide) ?_
      exact W.zret (v := 1) hx hb hr rfl (fun t ht hW => ⟨1, rfl, ⟨Or.inr rfl, fun _ => ⟨Int32.not_lt.mp c3, Int32.not_lt.mp c9⟩, fun h => absurd h (by decide)⟩, ht⟩) (fun _ h => nomatch h) d_QB_isLowUnit_17
set_option maxHeartbeats 4000000 in
set_option maxRecDepth 100000 in
/-- Value.rank: what it says -/
theorem g_Value_rank (l : Launch) (dC : Nat → ClassId) (dI : Nat → Nat → Nat) (sz : Heap) (x : Int32) : Met l y_Value_rank (k_Value_rank :: gtbl) ({ frames := 1, cells := 0, slots := 0, locals := 40 }) (va_Pc [.int x] mT) (vp_Si (fun (r : Int32) => r = rkI x)) 0 0 (fun _ => False) := by
  refine Met.ofW (cc := b_Value_rank) (maxL := 1) (ret := (some .int)) (by decide) rfl ?_
  intro p e s m args below meth c s₁ B hml hv
  obtain ⟨rfl, hN⟩ := hv
  have hx := B.exec
  have hb := B.bytes
  have hr := B.returns
  have hts0 := atoms_spec (ws := k_Value_rank :: gtbl) B.pre
  have hts := fun w h => hts0 w (List.mem_cons_of_mem _ h)
  have hown : s.vm.findClass R_Value = some m.cls := findClass_of_methodNamed B.named
  have hlocks := B.notSynchronized
  have hl := lv_entry ([.int x]) (n := 1) (Nat.le_of_ble_eq_true rfl)
  rw [lg_entry_eq]
  generalize (lg_sl ([.int x]) ++ List.replicate (1 - (lg_sl ([.int x])).length) Slot.unset).toArray = ls at hl ⊢
  have hl : lv_has ls 1 [(0, .int x)] := hl
  refine lv_iload_n hx hb d_Value_rank_0 rfl (lv_at hl 0 rfl) ?_
  refine vp_callSi (va_Run.run (va_runSN (As := [.int x]) (rest := []) ⟨hx, hb, hml, hown, hts⟩ (g_QB_isHighUnit l dC dI s.heap x) (⟨va_cnB (host := "QueryBench") 1 hts (gt_code i_QB_isHighUnit) rfl rfl rfl (hN _ nz_947) (hts _ w_1) (by decide +kernel) ⟨Nat.le_of_ble_eq_true rfl, Nat.le_of_ble_eq_true rfl⟩, hts _ w_432, trivial⟩) ⟨mT_blind, fun U hU hW => ⟨rfl, hN.warm hW⟩⟩ rfl rfl hl.1 rfl (lv_room (Nat.le_of_ble_eq_true rfl)) d_Value_rank_1 ⟨Nat.le_of_ble_eq_true rfl, Nat.le_of_ble_eq_true rfl⟩)) (fun r1 h_r1 => ?_)
  refine lv_if_ne (tgt := 14) hx hb d_Value_rank_4 (by decide) (fun c4 => ?_) (fun c4 => ?_)
  · refine lv_iload_n hx hb d_Value_rank_14 rfl (lv_at hl 0 rfl) ?_
    refine lv_ldc (v := 65536) hx hb hown (hts _ z_948) d_Value_rank_15 ?_
    refine lv_iadd hx hb d_Value_rank_17 ?_
    refine lv_goto (tgt := 22) hx hb d_Value_rank_18 (by decide) ?_
    exact W.iret (v := (x + 65536)) hx hb hr (fun t ht hW => ⟨(x + 65536), rfl, (by unfold rkI; rw [if_pos (Or.inl (h_r1.2.1 c4))]), ht⟩) (fun _ h => nomatch h) d_Value_rank_22
  · refine lv_iload_n hx hb d_Value_rank_7 rfl (lv_at hl 0 rfl) ?_
    refine vp_callSi (va_Run.run (va_runSN (As := [.int x]) (rest := []) ⟨hx, hb, hml, hown, hts⟩ (g_QB_isLowUnit l dC dI s.heap x) (⟨va_cnB (host := "QueryBench") 1 hts (gt_code i_QB_isLowUnit) rfl rfl rfl (hN _ nz_927) (hts _ w_1) (by decide +kernel) ⟨Nat.le_of_ble_eq_true rfl, Nat.le_of_ble_eq_true rfl⟩, hts _ w_427, trivial⟩) ⟨mT_blind, fun U hU hW => ⟨rfl, hN.warm hW⟩⟩ rfl rfl hl.1 rfl (lv_room (Nat.le_of_ble_eq_true rfl)) d_Value_rank_8 ⟨Nat.le_of_ble_eq_true rfl, Nat.le_of_ble_eq_true rfl⟩)) (fun r2 h_r2 => ?_)
    refine lv_if_eq (tgt := 21) hx hb d_Value_rank_11 (by decide) (fun c11 => ?_) (fun c11 => ?_)
    · refine lv_iload_n hx hb d_Value_rank_21 rfl (lv_at hl 0 rfl) ?_
      exact W.iret (v := x) hx hb hr (fun t ht hW => ⟨x, rfl, (by unfold rkI; rw [if_neg (show ¬ (hiU x ∨ loU x) from fun q => q.elim (h_r1.2.2 c4) (h_r2.2.2 c11))]), ht⟩) (fun _ h => nomatch h) d_Value_rank_22
    · refine lv_iload_n hx hb d_Value_rank_14 rfl (lv_at hl 0 rfl) ?_
      refine lv_ldc (v := 65536) hx hb hown (hts _ z_948) d_Value_rank_15 ?_
      refine lv_iadd hx hb d_Value_rank_17 ?_
      refine lv_goto (tgt := 22) hx hb d_Value_rank_18 (by decide) ?_
      exact W.iret (v := (x + 65536)) hx hb hr (fun t ht hW => ⟨(x + 65536), rfl, (by unfold rkI; rw [if_pos (Or.inr (h_r2.2.1 c11))]), ht⟩) (fun _ h => nomatch h) d_Value_rank_22
set_option maxHeartbeats 4000000 in
set_option maxRecDepth 100000 in
/-- Value.lessText: what it says -/
theorem g_Value_lessText (l : Launch) (dC : Nat → ClassId) (dI : Nat → Nat → Nat) (sz : Heap) (cI cV : ClassId) (E lv : Nat → Nat) (L : List Nat) (f : Nat → va_E) (hO : PO cI cV E lv L f) (a b : Nat) (ha : E a = 4) (hb9 : E b = 4) : Met l y_Value_lessText (k_Value_lessText :: gtbl) ({ frames := 2, cells := 0, slots := 0, locals := 90 }) (va_Pc [.ref a, .ref b] (mq dC dI ([] ++ va_pl L f) [(cI, .int), (cV, .object "QueryBench$Value")] sz)) (vp_Si (fun (r : Int32) => r = bI (ltT (txL f a) (txL f b)))) 0 0 (fun _ => False) := by
  refine Met.ofW (cc := b_Value_lessText) (maxL := 4) (ret := (some .boolean)) (by decide) rfl ?_
  intro p e s m args below meth c s₁ B hml hv
  obtain ⟨rfl, hsz, hP, hK, hN⟩ := hv
  have hx := B.exec
  have hb := B.bytes
  have hr := B.returns
  have hts0 := atoms_spec (ws := k_Value_lessText :: gtbl) B.pre
  have hts := fun w h => hts0 w (List.mem_cons_of_mem _ h)
  have hown : s.vm.findClass R_Value = some m.cls := findClass_of_methodNamed B.named
  have hlocks := B.notSynchronized
  subst hsz
  have hP : va_P (dC, dI) classes ([] ++ va_pl L f) s.heap := hP
  have hl := lv_entry ([.ref a, .ref b]) (n := 4) (Nat.le_of_ble_eq_true rfl)
  rw [lg_entry_eq]
  generalize (lg_sl ([.ref a, .ref b]) ++ List.replicate (4 - (lg_sl ([.ref a, .ref b])).length) Slot.unset).toArray = ls at hl ⊢
  have hl : lv_has ls 4 [(0, .ref a), (1, .ref b)] := hl
  refine lv_aload_n hx hb d_Value_lessText_0 rfl (lv_at hl 0 rfl) ?_
  obtain ⟨n1, g2, ef3, hn4⟩ := hO.txt (ha)
  refine vq_alen hx hb hK hP 0 (hO.inL (a := a) (by rw [ha]; decide)) ef3 rfl d_Value_lessText_1 ?_
  refine lv_aload_n hx hb d_Value_lessText_2 rfl (lv_at hl 1 rfl) ?_
  obtain ⟨n5, g6, ef7, hn8⟩ := hO.txt (hb9)
  refine vq_alen hx hb hK hP 0 (hO.inL (a := b) (by rw [hb9]; decide)) ef7 rfl d_Value_lessText_3 ?_
  refine va_mmin hx hb (hml.trans hl.1.symm) hown (hts _ z_941) (hts _ w_942) (hts _ w_16) (hts _ wm_mini) (Nat.le_of_ble_eq_true rfl) (Nat.le_of_ble_eq_true rfl) (Nat.zero_le _) (Nat.zero_le _) d_Value_lessText_4 ?_
  refine lv_istore_n (lv' := [(2, .int (if (nI n5) < (nI n1) then (nI n5) else (nI n1))), (0, .ref a), (1, .ref b)]) hx hb d_Value_lessText_7 rfl hl (by decide) rfl (fun ls hl => ?_)
  refine lv_iconst (v := 0) hx hb d_Value_lessText_8 (by decide) ?_
  refine lv_istore_n (lv' := [(3, .int 0), (2, .int (if (nI n5) < (nI n1) then (nI n5) else (nI n1))), (0, .ref a), (1, .ref b)]) hx hb d_Value_lessText_9 rfl hl (by decide) rfl (fun ls hl => ?_)
  obtain ⟨mn, hmn1, hmn2, hmn3, hmn4⟩ : ∃ k, (if (nI n5) < (nI n1) then (nI n5) else (nI n1)) = nI k ∧ k ≤ n1 ∧ k ≤ n5 ∧ (k = n1 ∨ k = n5) := by
    split
    · rename_i h9; rw [nI_ltI (by omega) (by omega)] at h9; exact ⟨n5, rfl, by omega, by omega, Or.inr rfl⟩
    · rename_i h9; rw [nI_ltI (by omega) (by omega)] at h9; exact ⟨n1, rfl, by omega, by omega, Or.inl rfl⟩
  rw [hmn1] at hl
  have hl : lv_has ls 4 [(3, .int 0), (2, .int (nI mn)), (0, .ref a), (1, .ref b)] := hl
  refine w_loopR (nL := 4) 10 (σ := Nat) (fun i => i ≤ 4096 ∧ ∀ j, j < i → g2 j = g6 j) (fun i => 4096 - i) (fun i => [(0, .ref a), (1, .ref b), (2, .int (nI mn)), (3, .int (nI i))]) ?_ 0 ⟨Nat.zero_le _, fun j h => absurd h (Nat.not_lt_zero _)⟩ (lv_sub hl [2, 3, 1, 0] rfl)
  rintro i ls hI ih hl
  have hl : lv_has ls 4 [(0, .ref a), (1, .ref b), (2, .int (nI mn)), (3, .int (nI i))] := hl
  obtain ⟨hI, hg⟩ := hI
  have hI : i ≤ 4096 := hI
  have hg : ∀ j, j < i → g2 j = g6 j := hg
  refine lv_iload_n hx hb d_Value_lessText_10 rfl (lv_at hl 3 rfl) ?_
  refine lv_iload_n hx hb d_Value_lessText_11 rfl (lv_at hl 2 rfl) ?_
  refine lv_icmp_ge (tgt := 51) hx hb d_Value_lessText_12 (by decide) (fun c12 => ?_) (fun c12 => ?_)
  · refine lv_aload_n hx hb d_Value_lessText_51 rfl (lv_at hl 0 rfl) ?_
    refine vq_alen hx hb hK hP 0 (hO.inL (a := a) (by rw [ha]; decide)) ef3 rfl d_Value_lessText_52 ?_
    refine lv_aload_n hx hb d_Value_lessText_53 rfl (lv_at hl 1 rfl) ?_
    refine vq_alen hx hb hK hP 0 (hO.inL (a := b) (by rw [hb9]; decide)) ef7 rfl d_Value_lessText_54 ?_
    refine lv_icmp_ge (tgt := 62) hx hb d_Value_lessText_55 (by decide) (fun c55 => ?_) (fun c55 => ?_)
    · refine lv_iconst (v := 0) hx hb d_Value_lessText_62 (by decide) ?_
      have e1 := txL_t ef3
      have e2 := txL_t ef7
      have hmi : mn ≤ i := by rw [nI_leI (by omega) (by omega)] at c12; omega
      have hlt : ltT (txL f a) (txL f b) = decide (n1 < n5) := by
        rw [ltT_pre]
        · rw [e1, e2, List.length_map, List.length_map, List.length_range, List.length_range]
        · rw [e1, e2]
          intro j h1 h2
          rw [List.length_map, List.length_range] at h1 h2
          rw [List.getElem?_map, List.getElem?_map, List.getElem?_range h1, List.getElem?_range h2]
          show some (g2 j) = some (g6 j)
          rw [hg j (by omega)]
      have hc9 : ¬ n1 < n5 := by rw [nI_leI (by omega) (by omega)] at c55; omega
      exact W.zret (v := 0) hx hb hr rfl (fun t ht hW => ⟨0, rfl, (by rw [hlt, decide_eq_false hc9]; rfl), ht⟩) (fun _ h => nomatch h) d_Value_lessText_63
    · refine lv_iconst (v := 1) hx hb d_Value_lessText_58 (by decide) ?_
      refine lv_goto (tgt := 63) hx hb d_Value_lessText_59 (by decide) ?_
      have e1 := txL_t ef3
      have e2 := txL_t ef7
      have hmi : mn ≤ i := by rw [nI_leI (by omega) (by omega)] at c12; omega
      have hlt : ltT (txL f a) (txL f b) = decide (n1 < n5) := by
        rw [ltT_pre]
        · rw [e1, e2, List.length_map, List.length_map, List.length_range, List.length_range]
        · rw [e1, e2]
          intro j h1 h2
          rw [List.length_map, List.length_range] at h1 h2
          rw [List.getElem?_map, List.getElem?_map, List.getElem?_range h1, List.getElem?_range h2]
          show some (g2 j) = some (g6 j)
          rw [hg j (by omega)]
      have hc9 : n1 < n5 := by rw [nI_leI (by omega) (by omega)] at c55; omega
      exact W.zret (v := 1) hx hb hr rfl (fun t ht hW => ⟨1, rfl, (by rw [hlt, decide_eq_true hc9]; rfl), ht⟩) (fun _ h => nomatch h) d_Value_lessText_63
  · have hi : i < mn := by rw [nI_leI (by omega) (by omega)] at c12; omega
    refine lv_aload_n hx hb d_Value_lessText_15 rfl (lv_at hl 0 rfl) ?_
    refine lv_iload_n hx hb d_Value_lessText_16 rfl (lv_at hl 3 rfl) ?_
    refine vq_iald hx hb hK hP 0 (hO.inL (a := a) (by rw [ha]; decide)) ef3 rfl (j := i) (by omega) hn4 d_Value_lessText_17 ?_
    refine lv_aload_n hx hb d_Value_lessText_18 rfl (lv_at hl 1 rfl) ?_
    refine lv_iload_n hx hb d_Value_lessText_19 rfl (lv_at hl 3 rfl) ?_
    refine vq_iald hx hb hK hP 0 (hO.inL (a := b) (by rw [hb9]; decide)) ef7 rfl (j := i) (by omega) hn8 d_Value_lessText_20 ?_
    refine lv_icmp_eq (tgt := 45) hx hb d_Value_lessText_21 (by decide) (fun c21 => ?_) (fun c21 => ?_)
    · refine lv_iinc (v := nI (i + 1)) (lv' := [(3, .int (nI (i + 1))), (0, .ref a), (1, .ref b), (2, .int (nI mn))]) hx hb d_Value_lessText_45 hl (k := 3) rfl (nI_1 _) (by decide) rfl (fun ls hl => ?_)
      refine lv_goto (tgt := 10) hx hb d_Value_lessText_48 (by decide) ?_
      have hg2 : ∀ j, j < i + 1 → g2 j = g6 j := fun j hj => by
        by_cases e : j = i
        · rw [e]; exact c21
        · exact hg j (by omega)
      exact ih (i + 1) _ ⟨show i + 1 ≤ 4096 by omega, hg2⟩ (by show 4096 - (i + 1) < 4096 - i; omega) (lv_sub hl [1, 2, 3, 0] rfl)
    · refine lv_aload_n hx hb d_Value_lessText_24 rfl (lv_at hl 0 rfl) ?_
      refine lv_iload_n hx hb d_Value_lessText_25 rfl (lv_at hl 3 rfl) ?_
      refine vq_iald hx hb hK hP 0 (hO.inL (a := a) (by rw [ha]; decide)) ef3 rfl (j := i) (by omega) hn4 d_Value_lessText_26 ?_
      refine vp_callSi (va_Run.run (va_runS (As := [.int (g2 i)]) (rest := []) ⟨hx, hb, hml, hown, hts⟩ (g_Value_rank l dC dI s.heap ((g2 i))) (va_cwS 1 hts (gt_S (own := R_Value) (i := 59) (y := y_Value_rank) i_Value_rank z_944 z_945 z_14) rfl rfl rfl (by decide +kernel) ⟨Nat.le_of_ble_eq_true rfl, Nat.le_of_ble_eq_true rfl⟩) ⟨mT_blind, fun U hU hW => ⟨rfl, hN.warm hW⟩⟩ rfl rfl hl.1 rfl (lv_room (Nat.le_of_ble_eq_true rfl)) d_Value_lessText_27 ⟨Nat.le_of_ble_eq_true rfl, Nat.le_of_ble_eq_true rfl⟩)) (fun r9 h_r9 => ?_)
      refine lv_aload_n hx hb d_Value_lessText_30 rfl (lv_at hl 1 rfl) ?_
      refine lv_iload_n hx hb d_Value_lessText_31 rfl (lv_at hl 3 rfl) ?_
      refine vq_iald hx hb hK hP 0 (hO.inL (a := b) (by rw [hb9]; decide)) ef7 rfl (j := i) (by omega) hn8 d_Value_lessText_32 ?_
      refine vp_callSi (va_Run.run (va_runS (As := [.int (g6 i)]) (rest := [.int r9]) ⟨hx, hb, hml, hown, hts⟩ (g_Value_rank l dC dI s.heap ((g6 i))) (va_cwS 1 hts (gt_S (own := R_Value) (i := 59) (y := y_Value_rank) i_Value_rank z_944 z_945 z_14) rfl rfl rfl (by decide +kernel) ⟨Nat.le_of_ble_eq_true rfl, Nat.le_of_ble_eq_true rfl⟩) ⟨mT_blind, fun U hU hW => ⟨rfl, hN.warm hW⟩⟩ rfl rfl hl.1 rfl (lv_room (Nat.le_of_ble_eq_true rfl)) d_Value_lessText_33 ⟨Nat.le_of_ble_eq_true rfl, Nat.le_of_ble_eq_true rfl⟩)) (fun r10 h_r10 => ?_)
      refine lv_icmp_ge (tgt := 43) hx hb d_Value_lessText_36 (by decide) (fun c36 => ?_) (fun c36 => ?_)
      · refine lv_iconst (v := 0) hx hb d_Value_lessText_43 (by decide) ?_
        have e1 := txL_t ef3
        have e2 := txL_t ef7
        have hlt : ltT (txL f a) (txL f b) = decide (rkI (g2 i) < rkI (g6 i)) := by
          rw [e1, e2]
          refine ltT_ne i _ _ _ _ (fun j hj => ?_) ?_ ?_ c21
          · rw [List.getElem?_map, List.getElem?_map, List.getElem?_range (by omega), List.getElem?_range (by omega)]
            show some (g2 j) = some (g6 j)
            rw [hg j hj]
          · rw [List.getElem?_map, List.getElem?_range (by omega)]; rfl
          · rw [List.getElem?_map, List.getElem?_range (by omega)]; rfl
        rw [h_r9, h_r10] at c36
        exact W.zret (v := 0) hx hb hr rfl (fun t ht hW => ⟨0, rfl, (by rw [hlt, decide_eq_false (Int32.not_lt.mpr c36)]; rfl), ht⟩) (fun _ h => nomatch h) d_Value_lessText_44
      · refine lv_iconst (v := 1) hx hb d_Value_lessText_39 (by decide) ?_
        refine lv_goto (tgt := 44) hx hb d_Value_lessText_40 (by decide) ?_
        have e1 := txL_t ef3
        have e2 := txL_t ef7
        have hlt : ltT (txL f a) (txL f b) = decide (rkI (g2 i) < rkI (g6 i)) := by
          rw [e1, e2]
          refine ltT_ne i _ _ _ _ (fun j hj => ?_) ?_ ?_ c21
          · rw [List.getElem?_map, List.getElem?_map, List.getElem?_range (by omega), List.getElem?_range (by omega)]
            show some (g2 j) = some (g6 j)
            rw [hg j hj]
          · rw [List.getElem?_map, List.getElem?_range (by omega)]; rfl
          · rw [List.getElem?_map, List.getElem?_range (by omega)]; rfl
        rw [h_r9, h_r10] at c36
        exact W.zret (v := 1) hx hb hr rfl (fun t ht hW => ⟨1, rfl, (by rw [hlt, decide_eq_true (Int32.not_le.mp c36)]; rfl), ht⟩) (fun _ h => nomatch h) d_Value_lessText_44
set_option maxHeartbeats 4000000 in
set_option maxRecDepth 100000 in
/-- Value.measure: what it says -/
theorem g_Value_measure (l : Launch) (dC : Nat → ClassId) (dI : Nat → Nat → Nat) (sz : Heap) (cI cV : ClassId) (E lv : Nat → Nat) (L : List Nat) (f : Nat → va_E) (hO : PO cI cV E lv L f) (a : Nat) (ha : isF E a) (u : VU) (hCa : CU f a u) : Met l y_Value_measure (k_Value_measure :: gtbl) ({ frames := 1, cells := 0, slots := 0, locals := 60 }) (va_Pc [.ref a] (mq dC dI ([] ++ va_pl L f) [(cI, .int), (cV, .object "QueryBench$Value")] sz)) (vp_Si (fun (r : Int32) => r = lnI u)) 0 0 (fun _ => False) := by
  refine Met.ofW (cc := b_Value_measure) (maxL := 3) (ret := (some .int)) (by decide) rfl ?_
  intro p e s m args below meth c s₁ B hml hv
  obtain ⟨rfl, hsz, hP, hK, hN⟩ := hv
  have hx := B.exec
  have hb := B.bytes
  have hr := B.returns
  have hts0 := atoms_spec (ws := k_Value_measure :: gtbl) B.pre
  have hts := fun w h => hts0 w (List.mem_cons_of_mem _ h)
  have hown : s.vm.findClass R_Value = some m.cls := findClass_of_methodNamed B.named
  have hlocks := B.notSynchronized
  subst hsz
  have hP : va_P (dC, dI) classes ([] ++ va_pl L f) s.heap := hP
  have hl := lv_entry ([.ref a]) (n := 3) (Nat.le_of_ble_eq_true rfl)
  rw [lg_entry_eq]
  generalize (lg_sl ([.ref a]) ++ List.replicate (3 - (lg_sl ([.ref a])).length) Slot.unset).toArray = ls at hl ⊢
  have hl : lv_has ls 3 [(0, .ref a)] := hl
  refine lv_aload_n hx hb d_Value_measure_0 rfl (lv_at hl 0 rfl) ?_
  obtain ⟨kd1, nu1, tx1, me1, pa1, na1, ix1, nm1, no1, sp1, ef1, hv1⟩ := hO.val ((isF.v ha))
  have hCla := hCa.get.1.of ef1
  refine vq_get (D := (dC, dI)) (ci := 9) (v := .int kd1) (C := R_Value) (T := F_Value) (N := 10) hx hb hts in_Value hown hK hP (hO.inV (isF.v ha)) ef1 rfl 0 (by decide) (hts _ z_312) (fun _ h9 => h9) rfl d_Value_measure_1 ?_
  refine lv_iconst (v := 5) hx hb d_Value_measure_4 (by decide) ?_
  refine lv_icmp_eq (tgt := 17) hx hb d_Value_measure_5 (by decide) (fun c5 => ?_) (fun c5 => ?_)
  · refine lv_aload_n hx hb d_Value_measure_17 rfl (lv_at hl 0 rfl) ?_
    refine vp_callSi (va_Run.run (va_runV (As := []) (rest := []) ⟨hx, hb, hml, hown, hts⟩ (c_Value_size l dC dI s.heap cI cV E lv L f hO a ha) (cwV 0 hts (gt_V (own := R_Value) (C := R_Value) (i := 19) (y := y_Value_size) i_Value_size z_865 z_866 z_867 z_14) rfl rfl rfl (by decide +kernel) ⟨Nat.le_of_ble_eq_true rfl, Nat.le_of_ble_eq_true rfl⟩) ⟨mq_blind, vq_recv hK hP rfl (hO.inV (isF.v ha)) ef1, fun U hU hW => ⟨rfl, hU, by rw [hU]; exact hP, va_K.moved hW.alike hK, hN.warm hW⟩⟩ rfl rfl hl.1 rfl (lv_room (Nat.le_of_ble_eq_true rfl)) d_Value_measure_18 ⟨Nat.le_of_ble_eq_true rfl, Nat.le_of_ble_eq_true rfl⟩)) (fun r2 h_r2 => ?_)
    subst h_r2
    have hk9 : 5 ≤ (lfU u).1 := by have := (ckd_n (m := 5) hCla.2.1 (Or.inr ⟨by decide, by decide⟩)).mp (hCla.1.symm.trans c5); omega
    exact W.iret (v := (nI (szF f a))) hx hb hr (fun t ht hW => ⟨(nI (szF f a)), rfl, (by unfold lnI; rw [if_neg (by omega), if_pos hk9, hCa.get.2.1]), ht⟩) (fun _ h => nomatch h) d_Value_measure_21
  · refine lv_aload_n hx hb d_Value_measure_8 rfl (lv_at hl 0 rfl) ?_
    refine vq_get (D := (dC, dI)) (ci := 9) (v := .int kd1) (C := R_Value) (T := F_Value) (N := 10) hx hb hts in_Value hown hK hP (hO.inV (isF.v ha)) ef1 rfl 0 (by decide) (hts _ z_312) (fun _ h9 => h9) rfl d_Value_measure_9 ?_
    refine lv_bipush (v := 6) hx hb d_Value_measure_12 (by decide) ?_
    refine lv_icmp_ne (tgt := 22) hx hb d_Value_measure_14 (by decide) (fun c14 => ?_) (fun c14 => ?_)
    · refine lv_aload_n hx hb d_Value_measure_22 rfl (lv_at hl 0 rfl) ?_
      refine vq_get (D := (dC, dI)) (ci := 9) (v := .int kd1) (C := R_Value) (T := F_Value) (N := 10) hx hb hts in_Value hown hK hP (hO.inV (isF.v ha)) ef1 rfl 0 (by decide) (hts _ z_312) (fun _ h9 => h9) rfl d_Value_measure_23 ?_
      refine lv_iconst (v := 4) hx hb d_Value_measure_26 (by decide) ?_
      refine lv_icmp_eq (tgt := 32) hx hb d_Value_measure_27 (by decide) (fun c27 => ?_) (fun c27 => ?_)
      · refine lv_iconst (v := 0) hx hb d_Value_measure_32 (by decide) ?_
        refine lv_istore_n (lv' := [(1, .int 0), (0, .ref a)]) hx hb d_Value_measure_33 rfl hl (by decide) rfl (fun ls hl => ?_)
        refine lv_iconst (v := 0) hx hb d_Value_measure_34 (by decide) ?_
        refine lv_istore_n (lv' := [(2, .int 0), (1, .int 0), (0, .ref a)]) hx hb d_Value_measure_35 rfl hl (by decide) rfl (fun ls hl => ?_)
        refine w_loopR (nL := 3) 36 (σ := Nat) (fun i => i ≤ 4096 ∧ i ≤ (lfU u).2.2.length) (fun i => 4096 - i) (fun i => [(0, .ref a), (1, .int (nI (chrN ((lfU u).2.2.take i)))), (2, .int (nI i))]) ?_ 0 ⟨Nat.zero_le _, Nat.zero_le _⟩ (lv_sub hl [2, 1, 0] rfl)
        rintro i ls hI ih hl
        have hl : lv_has ls 3 [(0, .ref a), (1, .int (nI (chrN ((lfU u).2.2.take i)))), (2, .int (nI i))] := hl
        obtain ⟨hI, hI2⟩ := hI
        have hI : i ≤ 4096 := hI
        have hI2 : i ≤ (lfU u).2.2.length := hI2
        refine lv_iload_n hx hb d_Value_measure_36 rfl (lv_at hl 2 rfl) ?_
        refine lv_aload_n hx hb d_Value_measure_37 rfl (lv_at hl 0 rfl) ?_
        rcases tx1 with _ | b3
        · exact absurd rfl ((hv1.2.2.2.2.2.2.1 ha.n1).1 c27)
        · refine vq_get (D := (dC, dI)) (ci := 9) (v := .ref b3) (C := R_Value) (T := F_Value) (N := 10) hx hb hts in_Value hown hK hP (hO.inV (isF.v ha)) ef1 rfl 2 (by decide) (hts _ z_322) (fun _ h9 => h9) rfl d_Value_measure_38 ?_
          obtain ⟨n4, g5, ef6, hn7⟩ := hO.txt (hv1.1 b3 rfl)
          refine vq_alen hx hb hK hP 0 (hO.inL (a := b3) (by rw [hv1.1 b3 rfl]; decide)) ef6 rfl d_Value_measure_41 ?_
          refine lv_icmp_ge (tgt := 66) hx hb d_Value_measure_42 (by decide) (fun c42 => ?_) (fun c42 => ?_)
          · have hln : (lfU u).2.2.length = n4 := by obtain ⟨q9, q1, q2⟩ := hCla.2.2.2 ((ckd_n (m := 4) hCla.2.1 (Or.inr ⟨by decide, by decide⟩)).mp (hCla.1.symm.trans c27)); rw [← q2, ← Option.some.inj q1, txL_t ef6, List.length_map, List.length_range]
            have hie : n4 ≤ i := by rw [nI_leI (by omega) (by omega)] at c42; omega
            refine lv_iload_n hx hb d_Value_measure_66 rfl (lv_at hl 1 rfl) ?_
            exact W.iret (v := (nI (chrN ((lfU u).2.2.take i)))) hx hb hr (fun t ht hW => ⟨(nI (chrN ((lfU u).2.2.take i))), rfl, (by unfold lnI; rw [if_pos ((ckd_n (m := 4) hCla.2.1 (Or.inr ⟨by decide, by decide⟩)).mp (hCla.1.symm.trans c27)), List.take_of_length_le (by omega)]), ht⟩) (fun _ h => nomatch h) d_Value_measure_67
          · have hln : (lfU u).2.2.length = n4 := by obtain ⟨q9, q1, q2⟩ := hCla.2.2.2 ((ckd_n (m := 4) hCla.2.1 (Or.inr ⟨by decide, by decide⟩)).mp (hCla.1.symm.trans c27)); rw [← q2, ← Option.some.inj q1, txL_t ef6, List.length_map, List.length_range]
            have hi : i < n4 := by rw [nI_leI (by omega) (by omega)] at c42; omega
            refine lv_aload_n hx hb d_Value_measure_45 rfl (lv_at hl 0 rfl) ?_
            refine vq_get (D := (dC, dI)) (ci := 9) (v := .ref b3) (C := R_Value) (T := F_Value) (N := 10) hx hb hts in_Value hown hK hP (hO.inV (isF.v ha)) ef1 rfl 2 (by decide) (hts _ z_322) (fun _ h9 => h9) rfl d_Value_measure_46 ?_
            refine lv_iload_n hx hb d_Value_measure_49 rfl (lv_at hl 2 rfl) ?_
            refine vq_iald hx hb hK hP 0 (hO.inL (a := b3) (by rw [hv1.1 b3 rfl]; decide)) ef6 rfl (j := i) hi hn7 d_Value_measure_50 ?_
            have hun : (lfU u).2.2[i]? = some (g5 i) := by obtain ⟨q9, q1, q2⟩ := hCla.2.2.2 ((ckd_n (m := 4) hCla.2.1 (Or.inr ⟨by decide, by decide⟩)).mp (hCla.1.symm.trans c27)); rw [← q2, ← Option.some.inj q1, txL_t ef6, List.getElem?_map, List.getElem?_range hi]; rfl
            refine vp_callSi (va_Run.run (va_runSN (As := [.int (g5 i)]) (rest := []) ⟨hx, hb, hml, hown, hts⟩ (g_QB_isLowUnit l dC dI s.heap ((g5 i))) (⟨va_cnB (host := "QueryBench") 1 hts (gt_code i_QB_isLowUnit) rfl rfl rfl (hN _ nz_927) (hts _ w_1) (by decide +kernel) ⟨Nat.le_of_ble_eq_true rfl, Nat.le_of_ble_eq_true rfl⟩, hts _ w_427, trivial⟩) ⟨mT_blind, fun U hU hW => ⟨rfl, hN.warm hW⟩⟩ rfl rfl hl.1 rfl (lv_room (Nat.le_of_ble_eq_true rfl)) d_Value_measure_51 ⟨Nat.le_of_ble_eq_true rfl, Nat.le_of_ble_eq_true rfl⟩)) (fun r8 h_r8 => ?_)
            refine lv_if_ne (tgt := 60) hx hb d_Value_measure_54 (by decide) (fun c54 => ?_) (fun c54 => ?_)
            · have hch : chrN ((lfU u).2.2.take (i + 1)) = chrN ((lfU u).2.2.take i) := by rw [chN_s hun, if_pos (h_r8.2.1 c54)]; rfl
              refine lv_iinc (v := nI (i + 1)) (lv' := [(2, .int (nI (i + 1))), (0, .ref a), (1, .int (nI (chrN ((lfU u).2.2.take i))))]) hx hb d_Value_measure_60 hl (k := 2) rfl (nI_1 _) (by decide) rfl (fun ls hl => ?_)
              refine lv_goto (tgt := 36) hx hb d_Value_measure_63 (by decide) ?_
              have hl : lv_has ls 3 [(0, .ref a), (1, .int (nI (chrN ((lfU u).2.2.take (i + 1))))), (2, .int (nI (i + 1)))] := by rw [hch]; exact lv_sub hl [1, 2, 0] rfl
              exact ih (i + 1) _ ⟨show i + 1 ≤ 4096 by omega, show i + 1 ≤ (lfU u).2.2.length by omega⟩ (by show 4096 - (i + 1) < 4096 - i; omega) (lv_sub hl [0, 1, 2] rfl)
            · have hch : chrN ((lfU u).2.2.take (i + 1)) = chrN ((lfU u).2.2.take i) + 1 := by rw [chN_s hun, if_neg (h_r8.2.2 c54)]
              refine lv_iinc (v := nI (chrN ((lfU u).2.2.take i) + 1)) (lv' := [(1, .int (nI (chrN ((lfU u).2.2.take i) + 1))), (0, .ref a), (2, .int (nI i))]) hx hb d_Value_measure_57 hl (k := 1) rfl (nI_1 _) (by decide) rfl (fun ls hl => ?_)
              refine lv_iinc (v := nI (i + 1)) (lv' := [(2, .int (nI (i + 1))), (1, .int (nI (chrN ((lfU u).2.2.take i) + 1))), (0, .ref a)]) hx hb d_Value_measure_60 hl (k := 2) rfl (nI_1 _) (by decide) rfl (fun ls hl => ?_)
              refine lv_goto (tgt := 36) hx hb d_Value_measure_63 (by decide) ?_
              have hl : lv_has ls 3 [(0, .ref a), (1, .int (nI (chrN ((lfU u).2.2.take (i + 1))))), (2, .int (nI (i + 1)))] := by rw [hch]; exact lv_sub hl [2, 1, 0] rfl
              exact ih (i + 1) _ ⟨show i + 1 ≤ 4096 by omega, show i + 1 ≤ (lfU u).2.2.length by omega⟩ (by show 4096 - (i + 1) < 4096 - i; omega) (lv_sub hl [0, 1, 2] rfl)
      · refine lv_iconst (v := (-1)) hx hb d_Value_measure_30 (by decide) ?_
        have hk5 : ¬ (lfU u).1 = 5 := fun q => c5 (hCla.1.trans ((ckd_n (m := 5) hCla.2.1 (Or.inr ⟨by decide, by decide⟩)).mpr q))
        have hk6 : ¬ (lfU u).1 = 6 := fun q => c14 (hCla.1.trans ((ckd_n (m := 6) hCla.2.1 (Or.inr ⟨by decide, by decide⟩)).mpr q))
        have hk4 : ¬ (lfU u).1 = 4 := fun q => c27 (hCla.1.trans ((ckd_n (m := 4) hCla.2.1 (Or.inr ⟨by decide, by decide⟩)).mpr q))
        have hk7 := hCla.2.1
        exact W.iret (v := (-1)) hx hb hr (fun t ht hW => ⟨(-1), rfl, (by unfold lnI; rw [if_neg hk4, if_neg (by omega)]), ht⟩) (fun _ h => nomatch h) d_Value_measure_31
    · refine lv_aload_n hx hb d_Value_measure_17 rfl (lv_at hl 0 rfl) ?_
      refine vp_callSi (va_Run.run (va_runV (As := []) (rest := []) ⟨hx, hb, hml, hown, hts⟩ (c_Value_size l dC dI s.heap cI cV E lv L f hO a ha) (cwV 0 hts (gt_V (own := R_Value) (C := R_Value) (i := 19) (y := y_Value_size) i_Value_size z_865 z_866 z_867 z_14) rfl rfl rfl (by decide +kernel) ⟨Nat.le_of_ble_eq_true rfl, Nat.le_of_ble_eq_true rfl⟩) ⟨mq_blind, vq_recv hK hP rfl (hO.inV (isF.v ha)) ef1, fun U hU hW => ⟨rfl, hU, by rw [hU]; exact hP, va_K.moved hW.alike hK, hN.warm hW⟩⟩ rfl rfl hl.1 rfl (lv_room (Nat.le_of_ble_eq_true rfl)) d_Value_measure_18 ⟨Nat.le_of_ble_eq_true rfl, Nat.le_of_ble_eq_true rfl⟩)) (fun r9 h_r9 => ?_)
      subst h_r9
      have hk9 : 5 ≤ (lfU u).1 := by have := (ckd_n (m := 6) hCla.2.1 (Or.inr ⟨by decide, by decide⟩)).mp (hCla.1.symm.trans c14); omega
      exact W.iret (v := (nI (szF f a))) hx hb hr (fun t ht hW => ⟨(nI (szF f a)), rfl, (by unfold lnI; rw [if_neg (by omega), if_pos hk9, hCa.get.2.1]), ht⟩) (fun _ h => nomatch h) d_Value_measure_21
set_option maxHeartbeats 4000000 in
set_option maxRecDepth 100000 in
/-- Value.member: what it answers -/
theorem g_Value_member (l : Launch) (dC : Nat → ClassId) (dI : Nat → Nat → Nat) (sz : Heap) (cI cV : ClassId) (E lv : Nat → Nat) (L : List Nat) (f : Nat → va_E) (hO : PO cI cV E lv L f) (a : Nat) (ha : isF E a) (u : VU) (hCa : CU f a u) (w9 : Nat) (hw9 : E w9 = 4) : Met l y_Value_member (k_Value_member :: gtbl) ({ frames := 1, cells := 0, slots := 0, locals := 60 }) (va_Pc [.ref a, .ref w9] (mq dC dI ([] ++ va_pl L f) [(cI, .int), (cV, .object "QueryBench$Value")] sz)) (va_Sq (fun (r : Option Nat) => MBR E f a u (txL f w9) r)) 0 0 (fun _ => False) := by
  refine Met.ofW (cc := b_Value_member) (maxL := 3) (ret := (some (.object "QueryBench$Value"))) (by decide) rfl ?_
  intro p e s m args below meth c s₁ B hml hv
  obtain ⟨rfl, hsz, hP, hK, hN⟩ := hv
  have hx := B.exec
  have hb := B.bytes
  have hr := B.returns
  have hts0 := atoms_spec (ws := k_Value_member :: gtbl) B.pre
  have hts := fun w h => hts0 w (List.mem_cons_of_mem _ h)
  have hown : s.vm.findClass R_Value = some m.cls := findClass_of_methodNamed B.named
  have hlocks := B.notSynchronized
  subst hsz
  have hP : va_P (dC, dI) classes ([] ++ va_pl L f) s.heap := hP
  have hl := lv_entry ([.ref a, .ref w9]) (n := 3) (Nat.le_of_ble_eq_true rfl)
  rw [lg_entry_eq]
  generalize (lg_sl ([.ref a, .ref w9]) ++ List.replicate (3 - (lg_sl ([.ref a, .ref w9])).length) Slot.unset).toArray = ls at hl ⊢
  have hl : lv_has ls 3 [(0, .ref a), (1, .ref w9)] := hl
  refine lv_aload_n hx hb d_Value_member_0 rfl (lv_at hl 0 rfl) ?_
  obtain ⟨kd1, nu1, tx1, me1, pa1, na1, ix1, nm1, no1, sp1, ef1, hv1⟩ := hO.val ((isF.v ha))
  have hCla := hCa.get.1.of ef1
  refine vq_get (D := (dC, dI)) (ci := 9) (v := .int kd1) (C := R_Value) (T := F_Value) (N := 10) hx hb hts in_Value hown hK hP (hO.inV (isF.v ha)) ef1 rfl 0 (by decide) (hts _ z_312) (fun _ h9 => h9) rfl d_Value_member_1 ?_
  refine lv_bipush (v := 6) hx hb d_Value_member_4 (by decide) ?_
  refine lv_icmp_eq (tgt := 11) hx hb d_Value_member_6 (by decide) (fun c6 => ?_) (fun c6 => ?_)
  · refine lv_iconst (v := 0) hx hb d_Value_member_11 (by decide) ?_
    refine lv_istore_n (lv' := [(2, .int 0), (0, .ref a), (1, .ref w9)]) hx hb d_Value_member_12 rfl hl (by decide) rfl (fun ls hl => ?_)
    have hs := hO.szle ef1 hv1
    have hk6 : (lfU u).1 = 6 := (ckd_n hCla.2.1 (Or.inr ⟨by decide, by decide⟩)).mp (hCla.1.symm.trans c6)
    have hsz := hCa.get.2.1
    refine w_loopR (nL := 3) 13 (σ := Nat) (fun i => i ≤ 4096 ∧ ∀ j d, j < i → (ksU u)[j]? = some d → ¬ d.1 = txL f w9) (fun i => 4096 - i) (fun i => [(0, .ref a), (1, .ref w9), (2, .int (nI i))]) ?_ 0 ⟨Nat.zero_le _, fun j d h => absurd h (Nat.not_lt_zero _)⟩ (lv_sub hl [1, 2, 0] rfl)
    rintro i ls hI ih hl
    have hl : lv_has ls 3 [(0, .ref a), (1, .ref w9), (2, .int (nI i))] := hl
    obtain ⟨hI, hb4⟩ := hI
    have hI : i ≤ 4096 := hI
    have hb4 : ∀ j d, j < i → (ksU u)[j]? = some d → ¬ d.1 = txL f w9 := hb4
    refine lv_iload_n hx hb d_Value_member_13 rfl (lv_at hl 2 rfl) ?_
    refine lv_aload_n hx hb d_Value_member_14 rfl (lv_at hl 0 rfl) ?_
    refine vp_callSi (va_Run.run (va_runV (As := []) (rest := [.int (nI i)]) ⟨hx, hb, hml, hown, hts⟩ (c_Value_size l dC dI s.heap cI cV E lv L f hO a ha) (cwV 0 hts (gt_V (own := R_Value) (C := R_Value) (i := 19) (y := y_Value_size) i_Value_size z_865 z_866 z_867 z_14) rfl rfl rfl (by decide +kernel) ⟨Nat.le_of_ble_eq_true rfl, Nat.le_of_ble_eq_true rfl⟩) ⟨mq_blind, vq_recv hK hP rfl (hO.inV (isF.v ha)) ef1, fun U hU hW => ⟨rfl, hU, by rw [hU]; exact hP, va_K.moved hW.alike hK, hN.warm hW⟩⟩ rfl rfl hl.1 rfl (lv_room (Nat.le_of_ble_eq_true rfl)) d_Value_member_15 ⟨Nat.le_of_ble_eq_true rfl, Nat.le_of_ble_eq_true rfl⟩)) (fun r2 h_r2 => ?_)
    subst h_r2
    refine lv_icmp_ge (tgt := 50) hx hb d_Value_member_18 (by decide) (fun c18 => ?_) (fun c18 => ?_)
    · refine lv_null hx hb d_Value_member_50 ?_
      have hie : szF f a ≤ i := by rw [nI_leI (by omega) (by omega)] at c18; omega
      exact W.aret (v := va_rf none) hx hb hr (Or.inl ⟨_, rfl⟩) (va_rf_or _) (fun t ht hW => ⟨none, rfl, ⟨(fun c h => nomatch h), Or.inr ⟨rfl, fun _ j d hd => hb4 j d (by have := (List.getElem?_eq_some_iff.mp hd).1; omega) hd⟩⟩, ht⟩) (fun _ h => nomatch h) d_Value_member_51
    · have hi : i < szF f a := by rw [nI_leI (by omega) (by omega)] at c18; omega
      refine lv_aload_n hx hb d_Value_member_21 rfl (lv_at hl 0 rfl) ?_
      rcases me1 with _ | b3
      · exact absurd (PO.mem0 ef1) (by omega)
      · refine vq_get (D := (dC, dI)) (ci := 9) (v := .ref b3) (C := R_Value) (T := F_Value) (N := 10) hx hb hts in_Value hown hK hP (hO.inV (isF.v ha)) ef1 rfl 3 (by decide) (hts _ z_325) (fun _ h9 => h9) rfl d_Value_member_22 ?_
        refine lv_iload_n hx hb d_Value_member_25 rfl (lv_at hl 2 rfl) ?_
        obtain ⟨g4, hi4, ef4, hg4⟩ := hO.mem1 ef1 hv1 ha.n1
        have hn4 := hO.szle ef1 hv1
        obtain ⟨me5, hm5, hf5, hnm5⟩ := hg4 i hi
        refine vq_aald hx hb hK hP 1 hi4 ef4 rfl (j := i) hi hn4 hm5 d_Value_member_26 ?_
        obtain ⟨kd6, nu6, tx6, me6, pa6, na6, ix6, nm6, no6, sp6, ef6, hv6⟩ := hO.val ((isF.v hf5))
        rcases na6 with _ | b7
        · exact absurd rfl (hv6.2.2.2.2.2.2.2 (hnm5 c6)).1
        · refine vq_get (D := (dC, dI)) (ci := 9) (v := .ref b7) (C := R_Value) (T := F_Value) (N := 10) hx hb hts in_Value hown hK hP (hO.inV (isF.v hf5)) ef6 rfl 5 (by decide) (hts _ z_331) (fun _ h9 => h9) rfl d_Value_member_27 ?_
          refine lv_aload_n hx hb d_Value_member_30 rfl (lv_at hl 1 rfl) ?_
          obtain ⟨c9, hc9⟩ : ∃ c, (ksU u)[i]? = some c := ⟨_, List.getElem?_eq_getElem (by omega)⟩
          obtain ⟨z7, q1, q2, q3⟩ := hCa.get.2.2.2 i c9 hc9
          obtain rfl := Option.some.inj (q1.symm.trans ((memF_a ef1 ef4).trans hm5))
          have hnm : c9.1 = txL f b7 := by have h9 := q3 hk6; rw [nmL_v ef6] at h9; exact (Option.some.inj h9).symm
          refine vp_callSi (va_Run.run (va_runSN (As := [.ref b7, .ref w9]) (rest := []) ⟨hx, hb, hml, hown, hts⟩ (f_QB_sameText l dC dI s.heap cI cV E lv L f hO b7 w9 (hv6.2.2.2.1 b7 rfl) (hw9)) (⟨va_cnB (host := "QueryBench") 2 hts (gt_code i_QB_sameText) rfl rfl rfl (hN _ nz_869) (hts _ w_1) (by decide +kernel) ⟨Nat.le_of_ble_eq_true rfl, Nat.le_of_ble_eq_true rfl⟩, hts _ z_444, trivial⟩) ⟨mq_blind, fun U hU hW => ⟨rfl, hU, by rw [hU]; exact hP, va_K.moved hW.alike hK, hN.warm hW⟩⟩ rfl rfl hl.1 rfl (lv_room (Nat.le_of_ble_eq_true rfl)) d_Value_member_31 ⟨Nat.le_of_ble_eq_true rfl, Nat.le_of_ble_eq_true rfl⟩)) (fun r8 h_r8 => ?_)
          refine lv_if_eq (tgt := 44) hx hb d_Value_member_34 (by decide) (fun c34 => ?_) (fun c34 => ?_)
          · have hne : ¬ c9.1 = txL f w9 := by rw [hnm]; rcases h_r8.2 with h | h; (· rw [h.1] at c34; exact absurd c34 (by decide)); (· exact h.2)
            refine lv_iinc (v := nI (i + 1)) (lv' := [(2, .int (nI (i + 1))), (0, .ref a), (1, .ref w9)]) hx hb d_Value_member_44 hl (k := 2) rfl (nI_1 _) (by decide) rfl (fun ls hl => ?_)
            refine lv_goto (tgt := 13) hx hb d_Value_member_47 (by decide) ?_
            exact ih (i + 1) _ ⟨show i + 1 ≤ 4096 by omega, fun j d hj hd => by by_cases e : j = i; (· subst e; rw [hc9] at hd; obtain rfl := Option.some.inj hd; exact hne); (· exact hb4 j d (by omega) hd)⟩ (by show 4096 - (i + 1) < 4096 - i; omega) (lv_sub hl [1, 2, 0] rfl)
          · have heq : c9.1 = txL f w9 := by rw [hnm]; rcases h_r8.2 with h | h; (· exact h.2); (· exact absurd h.1 c34)
            refine lv_aload_n hx hb d_Value_member_37 rfl (lv_at hl 0 rfl) ?_
            refine vq_get (D := (dC, dI)) (ci := 9) (v := .ref b3) (C := R_Value) (T := F_Value) (N := 10) hx hb hts in_Value hown hK hP (hO.inV (isF.v ha)) ef1 rfl 3 (by decide) (hts _ z_325) (fun _ h9 => h9) rfl d_Value_member_38 ?_
            refine lv_iload_n hx hb d_Value_member_41 rfl (lv_at hl 2 rfl) ?_
            obtain ⟨me9, hm9, hf9, hnm9⟩ := hg4 i hi
            refine vq_aald hx hb hK hP 1 hi4 ef4 rfl (j := i) hi hn4 hm9 d_Value_member_42 ?_
            have h7 := q1.symm.trans ((memF_a ef1 ef4).trans hm9)
            exact W.aret (v := va_rf ((some me9))) hx hb hr (Or.inl ⟨_, rfl⟩) (va_rf_or _) (fun t ht hW => ⟨(some me9), rfl, ⟨fun c h => by cases h; exact hf9, Or.inl ⟨hk6, i, c9, _, hc9, heq, hb4, rfl, ((memF_a ef1 ef4).trans hm9), by rw [← Option.some.inj h7]; exact q2⟩⟩, ht⟩) (fun _ h => nomatch h) d_Value_member_43
  · refine lv_null hx hb d_Value_member_9 ?_
    exact W.aret (v := va_rf none) hx hb hr (Or.inl ⟨_, rfl⟩) (va_rf_or _) (fun t ht hW => ⟨none, rfl, ⟨(fun c h => nomatch h), Or.inr ⟨rfl, fun q => absurd (hCla.1.trans ((ckd_n hCla.2.1 (Or.inr ⟨by decide, by decide⟩)).mpr q)) c6⟩⟩, ht⟩) (fun _ h => nomatch h) d_Value_member_10
set_option maxHeartbeats 4000000 in
set_option maxRecDepth 100000 in
/-- Value.less: what it says -/
theorem g_Value_less (l : Launch) (dC : Nat → ClassId) (dI : Nat → Nat → Nat) (sz : Heap) (cI cV : ClassId) (E lv : Nat → Nat) (L : List Nat) (f : Nat → va_E) (hO : PO cI cV E lv L f) (oa ob : Option Nat) (hoa : oR (isF E) oa) (hob : oR (isF E) ob) (va vb : VOp) (hA9 : VAL E f oa va) (hB9 : VAL E f ob vb) : Met l y_Value_less (k_Value_less :: gtbl) ({ frames := 3, cells := 0, slots := 0, locals := 130 }) (va_Pc [va_rf oa, va_rf ob] (mq dC dI ([] ++ va_pl L f) [(cI, .int), (cV, .object "QueryBench$Value")] sz)) (vp_Si (fun (r : Int32) => r = bI (lessO va vb))) 0 0 (fun _ => False) := by
  rcases oa with _ | b1
  · rcases ob with _ | b2
    · change Met _ _ _ _ (va_Pc [.null, .null] _) _ _ _ _
      refine Met.ofW (cc := b_Value_less) (maxL := 2) (ret := (some .boolean)) (by decide) rfl ?_
      intro p e s m args below meth c s₁ B hml hv
      obtain ⟨rfl, hsz, hP, hK, hN⟩ := hv
      have hx := B.exec
      have hb := B.bytes
      have hr := B.returns
      have hts0 := atoms_spec (ws := k_Value_less :: gtbl) B.pre
      have hts := fun w h => hts0 w (List.mem_cons_of_mem _ h)
      have hown : s.vm.findClass R_Value = some m.cls := findClass_of_methodNamed B.named
      have hlocks := B.notSynchronized
      subst hsz
      have hP : va_P (dC, dI) classes ([] ++ va_pl L f) s.heap := hP
      have hl := lv_entry ([.null, .null]) (n := 2) (Nat.le_of_ble_eq_true rfl)
      rw [lg_entry_eq]
      generalize (lg_sl ([.null, .null]) ++ List.replicate (2 - (lg_sl ([.null, .null])).length) Slot.unset).toArray = ls at hl ⊢
      have hl : lv_has ls 2 [(0, .null), (1, .null)] := hl
      refine lv_aload_nN hx hb d_Value_less_0 rfl (lv_at hl 0 rfl) ?_
      refine lv_ifnullN (tgt := 19) hx hb d_Value_less_1 (by decide) ?_
      refine lv_iconst (v := 0) hx hb d_Value_less_19 (by decide) ?_
      have hnn : va = none ∨ vb = none := by
        cases va with
        | none => exact Or.inl rfl
        | some u =>
          cases vb with
          | none => exact Or.inr rfl
          | some w => obtain ⟨y1, y2, -⟩ := hA9; obtain ⟨y3, y4, -⟩ := hB9; first | (cases y2; done) | (cases y4; done)
      exact W.zret (v := 0) hx hb hr rfl (fun t ht hW => ⟨0, rfl, (by rcases hnn with h | h; (· subst h; rfl); (· subst h; cases va <;> rfl)), ht⟩) (fun _ h => nomatch h) d_Value_less_20
    · change Met _ _ _ _ (va_Pc [.null, .ref b2] _) _ _ _ _
      refine Met.ofW (cc := b_Value_less) (maxL := 2) (ret := (some .boolean)) (by decide) rfl ?_
      intro p e s m args below meth c s₁ B hml hv
      obtain ⟨rfl, hsz, hP, hK, hN⟩ := hv
      have hx := B.exec
      have hb := B.bytes
      have hr := B.returns
      have hts0 := atoms_spec (ws := k_Value_less :: gtbl) B.pre
      have hts := fun w h => hts0 w (List.mem_cons_of_mem _ h)
      have hown : s.vm.findClass R_Value = some m.cls := findClass_of_methodNamed B.named
      have hlocks := B.notSynchronized
      subst hsz
      have hP : va_P (dC, dI) classes ([] ++ va_pl L f) s.heap := hP
      have hl := lv_entry ([.null, .ref b2]) (n := 2) (Nat.le_of_ble_eq_true rfl)
      rw [lg_entry_eq]
      generalize (lg_sl ([.null, .ref b2]) ++ List.replicate (2 - (lg_sl ([.null, .ref b2])).length) Slot.unset).toArray = ls at hl ⊢
      have hl : lv_has ls 2 [(0, .null), (1, .ref b2)] := hl
      refine lv_aload_nN hx hb d_Value_less_0 rfl (lv_at hl 0 rfl) ?_
      refine lv_ifnullN (tgt := 19) hx hb d_Value_less_1 (by decide) ?_
      refine lv_iconst (v := 0) hx hb d_Value_less_19 (by decide) ?_
      have hnn : va = none ∨ vb = none := by
        cases va with
        | none => exact Or.inl rfl
        | some u =>
          cases vb with
          | none => exact Or.inr rfl
          | some w => obtain ⟨y1, y2, -⟩ := hA9; obtain ⟨y3, y4, -⟩ := hB9; first | (cases y2; done) | (cases y4; done)
      exact W.zret (v := 0) hx hb hr rfl (fun t ht hW => ⟨0, rfl, (by rcases hnn with h | h; (· subst h; rfl); (· subst h; cases va <;> rfl)), ht⟩) (fun _ h => nomatch h) d_Value_less_20
  · rcases ob with _ | b3
    · change Met _ _ _ _ (va_Pc [.ref b1, .null] _) _ _ _ _
      refine Met.ofW (cc := b_Value_less) (maxL := 2) (ret := (some .boolean)) (by decide) rfl ?_
      intro p e s m args below meth c s₁ B hml hv
      obtain ⟨rfl, hsz, hP, hK, hN⟩ := hv
      have hx := B.exec
      have hb := B.bytes
      have hr := B.returns
      have hts0 := atoms_spec (ws := k_Value_less :: gtbl) B.pre
      have hts := fun w h => hts0 w (List.mem_cons_of_mem _ h)
      have hown : s.vm.findClass R_Value = some m.cls := findClass_of_methodNamed B.named
      have hlocks := B.notSynchronized
      subst hsz
      have hP : va_P (dC, dI) classes ([] ++ va_pl L f) s.heap := hP
      have hl := lv_entry ([.ref b1, .null]) (n := 2) (Nat.le_of_ble_eq_true rfl)
      rw [lg_entry_eq]
      generalize (lg_sl ([.ref b1, .null]) ++ List.replicate (2 - (lg_sl ([.ref b1, .null])).length) Slot.unset).toArray = ls at hl ⊢
      have hl : lv_has ls 2 [(0, .ref b1), (1, .null)] := hl
      refine lv_aload_n hx hb d_Value_less_0 rfl (lv_at hl 0 rfl) ?_
      refine lv_ifnull hx hb d_Value_less_1 ?_
      refine lv_aload_nN hx hb d_Value_less_4 rfl (lv_at hl 1 rfl) ?_
      refine lv_ifnullN (tgt := 19) hx hb d_Value_less_5 (by decide) ?_
      refine lv_iconst (v := 0) hx hb d_Value_less_19 (by decide) ?_
      have hnn : va = none ∨ vb = none := by
        cases va with
        | none => exact Or.inl rfl
        | some u =>
          cases vb with
          | none => exact Or.inr rfl
          | some w => obtain ⟨y1, y2, -⟩ := hA9; obtain ⟨y3, y4, -⟩ := hB9; first | (cases y2; done) | (cases y4; done)
      exact W.zret (v := 0) hx hb hr rfl (fun t ht hW => ⟨0, rfl, (by rcases hnn with h | h; (· subst h; rfl); (· subst h; cases va <;> rfl)), ht⟩) (fun _ h => nomatch h) d_Value_less_20
    · change Met _ _ _ _ (va_Pc [.ref b1, .ref b3] _) _ _ _ _
      refine Met.ofW (cc := b_Value_less) (maxL := 2) (ret := (some .boolean)) (by decide) rfl ?_
      intro p e s m args below meth c s₁ B hml hv
      obtain ⟨rfl, hsz, hP, hK, hN⟩ := hv
      have hx := B.exec
      have hb := B.bytes
      have hr := B.returns
      have hts0 := atoms_spec (ws := k_Value_less :: gtbl) B.pre
      have hts := fun w h => hts0 w (List.mem_cons_of_mem _ h)
      have hown : s.vm.findClass R_Value = some m.cls := findClass_of_methodNamed B.named
      have hlocks := B.notSynchronized
      subst hsz
      have hP : va_P (dC, dI) classes ([] ++ va_pl L f) s.heap := hP
      have hl := lv_entry ([.ref b1, .ref b3]) (n := 2) (Nat.le_of_ble_eq_true rfl)
      rw [lg_entry_eq]
      generalize (lg_sl ([.ref b1, .ref b3]) ++ List.replicate (2 - (lg_sl ([.ref b1, .ref b3])).length) Slot.unset).toArray = ls at hl ⊢
      have hl : lv_has ls 2 [(0, .ref b1), (1, .ref b3)] := hl
      refine lv_aload_n hx hb d_Value_less_0 rfl (lv_at hl 0 rfl) ?_
      refine lv_ifnull hx hb d_Value_less_1 ?_
      refine lv_aload_n hx hb d_Value_less_4 rfl (lv_at hl 1 rfl) ?_
      refine lv_ifnull hx hb d_Value_less_5 ?_
      obtain ⟨ua, hua⟩ : ∃ u, va = some u := by cases hq : va with | none => (rw [hq] at hA9; cases hA9) | some u => exact ⟨u, rfl⟩
      subst hua
      obtain ⟨za, eza, -, hCa⟩ := hA9
      obtain rfl := Option.some.inj eza
      obtain ⟨kd4, nu4, tx4, me4, pa4, na4, ix4, nm4, no4, sp4, ef4, hv4⟩ := hO.val ((isF.v (hoa b1 rfl)))
      have hCla := hCa.get.1.of ef4
      obtain ⟨ub, hub⟩ : ∃ u, vb = some u := by cases hq : vb with | none => (rw [hq] at hB9; cases hB9) | some u => exact ⟨u, rfl⟩
      subst hub
      obtain ⟨zb, ezb, -, hCb⟩ := hB9
      obtain rfl := Option.some.inj ezb
      obtain ⟨kd5, nu5, tx5, me5, pa5, na5, ix5, nm5, no5, sp5, ef5, hv5⟩ := hO.val ((isF.v (hob b3 rfl)))
      have hClb := hCb.get.1.of ef5
      refine lv_aload_n hx hb d_Value_less_8 rfl (lv_at hl 0 rfl) ?_
      refine vq_get (D := (dC, dI)) (ci := 9) (v := .int kd4) (C := R_Value) (T := F_Value) (N := 10) hx hb hts in_Value hown hK hP (hO.inV (isF.v (hoa b1 rfl))) ef4 rfl 0 (by decide) (hts _ z_312) (fun _ h9 => h9) rfl d_Value_less_9 ?_
      refine lv_aload_n hx hb d_Value_less_12 rfl (lv_at hl 1 rfl) ?_
      refine vq_get (D := (dC, dI)) (ci := 9) (v := .int kd5) (C := R_Value) (T := F_Value) (N := 10) hx hb hts in_Value hown hK hP (hO.inV (isF.v (hob b3 rfl))) ef5 rfl 0 (by decide) (hts _ z_312) (fun _ h9 => h9) rfl d_Value_less_13 ?_
      refine lv_icmp_eq (tgt := 21) hx hb d_Value_less_16 (by decide) (fun c16 => ?_) (fun c16 => ?_)
      · have hkk : (lfU ua).1 = (lfU ub).1 := ckd_inj hCla.2.1 hClb.2.1 (hCla.1.symm.trans (c16.trans hClb.1))
        refine lv_aload_n hx hb d_Value_less_21 rfl (lv_at hl 0 rfl) ?_
        refine vq_get (D := (dC, dI)) (ci := 9) (v := .int kd4) (C := R_Value) (T := F_Value) (N := 10) hx hb hts in_Value hown hK hP (hO.inV (isF.v (hoa b1 rfl))) ef4 rfl 0 (by decide) (hts _ z_312) (fun _ h9 => h9) rfl d_Value_less_22 ?_
        refine lv_iconst (v := 3) hx hb d_Value_less_25 (by decide) ?_
        refine lv_icmp_ne (tgt := 47) hx hb d_Value_less_26 (by decide) (fun c26 => ?_) (fun c26 => ?_)
        · refine lv_aload_n hx hb d_Value_less_47 rfl (lv_at hl 0 rfl) ?_
          refine vq_get (D := (dC, dI)) (ci := 9) (v := .int kd4) (C := R_Value) (T := F_Value) (N := 10) hx hb hts in_Value hown hK hP (hO.inV (isF.v (hoa b1 rfl))) ef4 rfl 0 (by decide) (hts _ z_312) (fun _ h9 => h9) rfl d_Value_less_48 ?_
          refine lv_iconst (v := 4) hx hb d_Value_less_51 (by decide) ?_
          refine lv_icmp_ne (tgt := 73) hx hb d_Value_less_52 (by decide) (fun c52 => ?_) (fun c52 => ?_)
          · refine lv_iconst (v := 0) hx hb d_Value_less_73 (by decide) ?_
            have hk3 : ¬ (lfU ua).1 = 3 := fun q => c26 (hCla.1.trans ((ckd_n hCla.2.1 (Or.inr ⟨by decide, by decide⟩)).mpr q))
            have hk4 : ¬ (lfU ua).1 = 4 := fun q => c52 (hCla.1.trans ((ckd_n hCla.2.1 (Or.inr ⟨by decide, by decide⟩)).mpr q))
            exact W.zret (v := 0) hx hb hr rfl (fun t ht hW => ⟨0, rfl, (by show _ = bI (lessU ua ub); unfold lessU; rw [decide_eq_true hkk, if_neg hk3, if_neg hk4]; rfl), ht⟩) (fun _ h => nomatch h) d_Value_less_74
          · refine lv_aload_n hx hb d_Value_less_55 rfl (lv_at hl 0 rfl) ?_
            rcases tx4 with _ | b6
            · exact absurd rfl ((hv4.2.2.2.2.2.2.1 (isF.n1 (hoa b1 rfl))).1 c52)
            · refine vq_get (D := (dC, dI)) (ci := 9) (v := .ref b6) (C := R_Value) (T := F_Value) (N := 10) hx hb hts in_Value hown hK hP (hO.inV (isF.v (hoa b1 rfl))) ef4 rfl 2 (by decide) (hts _ z_322) (fun _ h9 => h9) rfl d_Value_less_56 ?_
              refine lv_aload_n hx hb d_Value_less_59 rfl (lv_at hl 1 rfl) ?_
              rcases tx5 with _ | b7
              · exact absurd rfl ((hv5.2.2.2.2.2.2.1 (isF.n1 (hob b3 rfl))).1 (c16.symm.trans c52))
              · refine vq_get (D := (dC, dI)) (ci := 9) (v := .ref b7) (C := R_Value) (T := F_Value) (N := 10) hx hb hts in_Value hown hK hP (hO.inV (isF.v (hob b3 rfl))) ef5 rfl 2 (by decide) (hts _ z_322) (fun _ h9 => h9) rfl d_Value_less_60 ?_
                have hk4 : (lfU ua).1 = 4 := (ckd_n hCla.2.1 (Or.inr ⟨by decide, by decide⟩)).mp (hCla.1.symm.trans c52)
                have hk4b : (lfU ub).1 = 4 := hkk.symm.trans hk4
                obtain ⟨q1, q2, q3⟩ := hCla.2.2.2 hk4
                obtain ⟨r1, r2, r3⟩ := hClb.2.2.2 hk4b
                obtain rfl := Option.some.inj q2
                obtain rfl := Option.some.inj r2
                refine vp_callSi (va_Run.run (va_runS (As := [.ref b6, .ref b7]) (rest := []) ⟨hx, hb, hml, hown, hts⟩ (g_Value_lessText l dC dI s.heap cI cV E lv L f hO b6 b7 (hv4.1 b6 rfl) (hv5.1 b7 rfl)) (va_cwS 2 hts (gt_S (own := R_Value) (i := 50) (y := y_Value_lessText) i_Value_lessText z_938 z_939 z_14) rfl rfl rfl (by decide +kernel) ⟨Nat.le_of_ble_eq_true rfl, Nat.le_of_ble_eq_true rfl⟩) ⟨mq_blind, fun U hU hW => ⟨rfl, hU, by rw [hU]; exact hP, va_K.moved hW.alike hK, hN.warm hW⟩⟩ rfl rfl hl.1 rfl (lv_room (Nat.le_of_ble_eq_true rfl)) d_Value_less_63 ⟨Nat.le_of_ble_eq_true rfl, Nat.le_of_ble_eq_true rfl⟩)) (fun r8 h_r8 => ?_)
                rw [q3, r3] at h_r8
                refine lv_if_eq (tgt := 73) hx hb d_Value_less_66 (by decide) (fun c66 => ?_) (fun c66 => ?_)
                · refine lv_iconst (v := 0) hx hb d_Value_less_73 (by decide) ?_
                  have hk3 : ¬ (lfU ua).1 = 3 := fun q => c26 (hCla.1.trans ((ckd_n hCla.2.1 (Or.inr ⟨by decide, by decide⟩)).mpr q))
                  exact W.zret (v := 0) hx hb hr rfl (fun t ht hW => ⟨0, rfl, (by show _ = bI (lessU ua ub); unfold lessU; rw [decide_eq_true hkk, if_neg hk3, if_pos hk4, (bI_01 h_r8).2 c66]; rfl), ht⟩) (fun _ h => nomatch h) d_Value_less_74
                · refine lv_iconst (v := 1) hx hb d_Value_less_69 (by decide) ?_
                  refine lv_goto (tgt := 74) hx hb d_Value_less_70 (by decide) ?_
                  have hk3 : ¬ (lfU ua).1 = 3 := fun q => c26 (hCla.1.trans ((ckd_n hCla.2.1 (Or.inr ⟨by decide, by decide⟩)).mpr q))
                  exact W.zret (v := 1) hx hb hr rfl (fun t ht hW => ⟨1, rfl, (by show _ = bI (lessU ua ub); unfold lessU; rw [decide_eq_true hkk, if_neg hk3, if_pos hk4, (bI_01 h_r8).1 c66]; rfl), ht⟩) (fun _ h => nomatch h) d_Value_less_74
        · refine lv_aload_n hx hb d_Value_less_29 rfl (lv_at hl 0 rfl) ?_
          refine vq_get (D := (dC, dI)) (ci := 9) (v := .long nu4) (C := R_Value) (T := F_Value) (N := 10) hx hb hts in_Value hown hK hP (hO.inV (isF.v (hoa b1 rfl))) ef4 rfl 1 (by decide) (hts _ z_317) (fun _ h9 => h9) rfl d_Value_less_30 ?_
          refine lv_aload_n hx hb d_Value_less_33 rfl (lv_at hl 1 rfl) ?_
          refine vq_get (D := (dC, dI)) (ci := 9) (v := .long nu5) (C := R_Value) (T := F_Value) (N := 10) hx hb hts in_Value hown hK hP (hO.inV (isF.v (hob b3 rfl))) ef5 rfl 1 (by decide) (hts _ z_317) (fun _ h9 => h9) rfl d_Value_less_34 ?_
          refine W.lcmp hx hb d_Value_less_37 ?_
          refine lv_if_ge (tgt := 45) hx hb d_Value_less_38 (by decide) (fun c38 => ?_) (fun c38 => ?_)
          · refine lv_iconst (v := 0) hx hb d_Value_less_45 (by decide) ?_
            have hk3 := (ckd_n hCla.2.1 (Or.inr ⟨by decide, by decide⟩)).mp (hCla.1.symm.trans c26)
            have e1 := hCla.2.2.1 hk3
            have e2 := hClb.2.2.1 (hkk.symm.trans hk3)
            exact W.zret (v := 0) hx hb hr rfl (fun t ht hW => ⟨0, rfl, (by show _ = bI (lessU ua ub); unfold lessU; rw [decide_eq_true hkk, if_pos hk3, ← e1, ← e2, decide_eq_false (Int64.not_lt.mpr ((lg_cmp_ge _ _).mp c38))]; rfl), ht⟩) (fun _ h => nomatch h) d_Value_less_46
          · refine lv_iconst (v := 1) hx hb d_Value_less_41 (by decide) ?_
            refine lv_goto (tgt := 46) hx hb d_Value_less_42 (by decide) ?_
            have hk3 := (ckd_n hCla.2.1 (Or.inr ⟨by decide, by decide⟩)).mp (hCla.1.symm.trans c26)
            have e1 := hCla.2.2.1 hk3
            have e2 := hClb.2.2.1 (hkk.symm.trans hk3)
            exact W.zret (v := 1) hx hb hr rfl (fun t ht hW => ⟨1, rfl, (by show _ = bI (lessU ua ub); unfold lessU; rw [decide_eq_true hkk, if_pos hk3, ← e1, ← e2, decide_eq_true (Int64.not_le.mp (fun h => c38 ((lg_cmp_ge _ _).mpr h)))]; rfl), ht⟩) (fun _ h => nomatch h) d_Value_less_46
      · have hkk : ¬ (lfU ua).1 = (lfU ub).1 := fun q => c16 (hCla.1.trans ((by rw [q] : ckd (lfU ua).1 = ckd (lfU ub).1).trans hClb.1.symm))
        refine lv_iconst (v := 0) hx hb d_Value_less_19 (by decide) ?_
        exact W.zret (v := 0) hx hb hr rfl (fun t ht hW => ⟨0, rfl, (by show _ = bI (lessU ua ub); unfold lessU; rw [decide_eq_false hkk]; rfl), ht⟩) (fun _ h => nomatch h) d_Value_less_20
