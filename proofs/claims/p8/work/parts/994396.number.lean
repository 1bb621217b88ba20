set_option maxHeartbeats 4000000 in
set_option maxRecDepth 100000 in
/-- Printer.shortEscape: what it says -/
theorem p_Printer_shortEscape (l : Launch) (dC : Nat → ClassId) (dI : Nat → Nat → Nat) (sz : Heap) (x q : Int32) : Met l y_Printer_shortEscape (k_Printer_shortEscape :: gtbl) ({ frames := 0, cells := 0, slots := 0, locals := 0 }) (va_Pc [.int x, .int q] mT) (vp_Si (fun (r : Int32) => r = shE x q)) 0 0 (fun _ => False) := by
  refine Met.ofW (cc := b_Printer_shortEscape) (maxL := 2) (ret := (some .int)) (by decide) rfl ?_
  intro p e s m args below meth c s₁ B hml hv
  obtain ⟨rfl, hN⟩ := hv
  have hx := B.exec
  have hb := B.bytes
  have hr := B.returns
  have hts0 := atoms_spec (ws := k_Printer_shortEscape :: gtbl) B.pre
  have hts := fun w h => hts0 w (List.mem_cons_of_mem _ h)
  have hown : s.vm.findClass R_Printer = some m.cls := findClass_of_methodNamed B.named
  have hlocks := B.notSynchronized
  have hl := lv_entry ([.int x, .int q]) (n := 2) (Nat.le_of_ble_eq_true rfl)
  rw [lg_entry_eq]
  generalize (lg_sl ([.int x, .int q]) ++ List.replicate (2 - (lg_sl ([.int x, .int q])).length) Slot.unset).toArray = ls at hl ⊢
  have hl : lv_has ls 2 [(0, .int x), (1, .int q)] := hl
  refine lv_iload_n hx hb d_Printer_shortEscape_0 rfl (lv_at hl 0 rfl) ?_
  by_cases hs1_0 : x = 8
  · refine lv_tableIn (tgt := 40) (off := 39) hx hb d_Printer_shortEscape_1 (by rw [hs1_0]; decide) (by rw [hs1_0]; decide) (by rw [hs1_0]; rfl) (by decide) ?_
    refine lv_bipush (v := 98) hx hb d_Printer_shortEscape_40 (by decide) ?_
    exact W.iret (v := 98) hx hb hr (fun t ht hW => ⟨98, rfl, (by rw [hs1_0]; rfl), ht⟩) (fun _ h => nomatch h) d_Printer_shortEscape_42
  · by_cases hs1_1 : x = 9
    · refine lv_tableIn (tgt := 43) (off := 42) hx hb d_Printer_shortEscape_1 (by rw [hs1_1]; decide) (by rw [hs1_1]; decide) (by rw [hs1_1]; rfl) (by decide) ?_
      refine lv_bipush (v := 116) hx hb d_Printer_shortEscape_43 (by decide) ?_
      exact W.iret (v := 116) hx hb hr (fun t ht hW => ⟨116, rfl, (by rw [hs1_1]; rfl), ht⟩) (fun _ h => nomatch h) d_Printer_shortEscape_45
    · by_cases hs1_2 : x = 10
      · refine lv_tableIn (tgt := 46) (off := 45) hx hb d_Printer_shortEscape_1 (by rw [hs1_2]; decide) (by rw [hs1_2]; decide) (by rw [hs1_2]; rfl) (by decide) ?_
        refine lv_bipush (v := 110) hx hb d_Printer_shortEscape_46 (by decide) ?_
        exact W.iret (v := 110) hx hb hr (fun t ht hW => ⟨110, rfl, (by rw [hs1_2]; rfl), ht⟩) (fun _ h => nomatch h) d_Printer_shortEscape_48
      · by_cases hs1_3 : x = 11
        · refine lv_tableIn (tgt := 55) (off := 54) hx hb d_Printer_shortEscape_1 (by rw [hs1_3]; decide) (by rw [hs1_3]; decide) (by rw [hs1_3]; rfl) (by decide) ?_
          refine lv_iload_n hx hb d_Printer_shortEscape_55 rfl (lv_at hl 0 rfl) ?_
          refine lv_iload_n hx hb d_Printer_shortEscape_56 rfl (lv_at hl 1 rfl) ?_
          refine lv_icmp_eq (tgt := 66) hx hb d_Printer_shortEscape_57 (by decide) (fun c57 => ?_) (fun c57 => ?_)
          · refine lv_iload_n hx hb d_Printer_shortEscape_66 rfl (lv_at hl 0 rfl) ?_
            refine lv_goto (tgt := 71) hx hb d_Printer_shortEscape_67 (by decide) ?_
            exact W.iret (v := x) hx hb hr (fun t ht hW => ⟨x, rfl, (by rw [hs1_3]; unfold shE; rw [if_neg (show ¬ (11 : Int32) = 8 by decide), if_neg (show ¬ (11 : Int32) = 9 by decide), if_neg (show ¬ (11 : Int32) = 10 by decide), if_neg (show ¬ (11 : Int32) = 12 by decide), if_neg (show ¬ (11 : Int32) = 13 by decide), if_pos (Or.inl (hs1_3.symm.trans c57))]), ht⟩) (fun _ h => nomatch h) d_Printer_shortEscape_71
          · refine lv_iload_n hx hb d_Printer_shortEscape_60 rfl (lv_at hl 0 rfl) ?_
            refine lv_bipush (v := 92) hx hb d_Printer_shortEscape_61 (by decide) ?_
            refine lv_icmp_ne (tgt := 70) hx hb d_Printer_shortEscape_63 (by decide) (fun c63 => ?_) (fun c63 => ?_)
            · refine lv_iconst (v := 0) hx hb d_Printer_shortEscape_70 (by decide) ?_
              exact W.iret (v := 0) hx hb hr (fun t ht hW => ⟨0, rfl, (by rw [hs1_3]; unfold shE; rw [if_neg (show ¬ (11 : Int32) = 8 by decide), if_neg (show ¬ (11 : Int32) = 9 by decide), if_neg (show ¬ (11 : Int32) = 10 by decide), if_neg (show ¬ (11 : Int32) = 12 by decide), if_neg (show ¬ (11 : Int32) = 13 by decide), if_neg (show ¬ ((11 : Int32) = q ∨ (11 : Int32) = 92) from fun h => h.elim (fun h => c57 (hs1_3.trans h)) (fun h => absurd h (by decide)))]), ht⟩) (fun _ h => nomatch h) d_Printer_shortEscape_71
            · refine lv_iload_n hx hb d_Printer_shortEscape_66 rfl (lv_at hl 0 rfl) ?_
              refine lv_goto (tgt := 71) hx hb d_Printer_shortEscape_67 (by decide) ?_
              exact W.iret (v := x) hx hb hr (fun t ht hW => ⟨x, rfl, (by rw [hs1_3]; unfold shE; rw [if_neg (show ¬ (11 : Int32) = 8 by decide), if_neg (show ¬ (11 : Int32) = 9 by decide), if_neg (show ¬ (11 : Int32) = 10 by decide), if_neg (show ¬ (11 : Int32) = 12 by decide), if_neg (show ¬ (11 : Int32) = 13 by decide), if_pos (Or.inr (hs1_3.symm.trans c63))]), ht⟩) (fun _ h => nomatch h) d_Printer_shortEscape_71
        · by_cases hs1_4 : x = 12
          · refine lv_tableIn (tgt := 49) (off := 48) hx hb d_Printer_shortEscape_1 (by rw [hs1_4]; decide) (by rw [hs1_4]; decide) (by rw [hs1_4]; rfl) (by decide) ?_
            refine lv_bipush (v := 102) hx hb d_Printer_shortEscape_49 (by decide) ?_
            exact W.iret (v := 102) hx hb hr (fun t ht hW => ⟨102, rfl, (by rw [hs1_4]; rfl), ht⟩) (fun _ h => nomatch h) d_Printer_shortEscape_51
          · by_cases hs1_5 : x = 13
            · refine lv_tableIn (tgt := 52) (off := 51) hx hb d_Printer_shortEscape_1 (by rw [hs1_5]; decide) (by rw [hs1_5]; decide) (by rw [hs1_5]; rfl) (by decide) ?_
              refine lv_bipush (v := 114) hx hb d_Printer_shortEscape_52 (by decide) ?_
              exact W.iret (v := 114) hx hb hr (fun t ht hW => ⟨114, rfl, (by rw [hs1_5]; rfl), ht⟩) (fun _ h => nomatch h) d_Printer_shortEscape_54
            · have hk1_0 := i_neN 8 rfl hs1_0
              have hk1_1 := i_neN 9 rfl hs1_1
              have hk1_2 := i_neN 10 rfl hs1_2
              have hk1_3 := i_neN 11 rfl hs1_3
              have hk1_4 := i_neN 12 rfl hs1_4
              have hk1_5 := i_neN 13 rfl hs1_5
              refine lv_tableOut (tgt := 55) hx hb d_Printer_shortEscape_1 (by omega) (by decide) ?_
              refine lv_iload_n hx hb d_Printer_shortEscape_55 rfl (lv_at hl 0 rfl) ?_
              refine lv_iload_n hx hb d_Printer_shortEscape_56 rfl (lv_at hl 1 rfl) ?_
              refine lv_icmp_eq (tgt := 66) hx hb d_Printer_shortEscape_57 (by decide) (fun c57 => ?_) (fun c57 => ?_)
              · refine lv_iload_n hx hb d_Printer_shortEscape_66 rfl (lv_at hl 0 rfl) ?_
                refine lv_goto (tgt := 71) hx hb d_Printer_shortEscape_67 (by decide) ?_
                exact W.iret (v := x) hx hb hr (fun t ht hW => ⟨x, rfl, (by unfold shE; rw [if_neg hs1_0, if_neg hs1_1, if_neg hs1_2, if_neg hs1_4, if_neg hs1_5, if_pos (Or.inl c57)]), ht⟩) (fun _ h => nomatch h) d_Printer_shortEscape_71
              · refine lv_iload_n hx hb d_Printer_shortEscape_60 rfl (lv_at hl 0 rfl) ?_
                refine lv_bipush (v := 92) hx hb d_Printer_shortEscape_61 (by decide) ?_
                refine lv_icmp_ne (tgt := 70) hx hb d_Printer_shortEscape_63 (by decide) (fun c63 => ?_) (fun c63 => ?_)
                · refine lv_iconst (v := 0) hx hb d_Printer_shortEscape_70 (by decide) ?_
                  exact W.iret (v := 0) hx hb hr (fun t ht hW => ⟨0, rfl, (by unfold shE; rw [if_neg hs1_0, if_neg hs1_1, if_neg hs1_2, if_neg hs1_4, if_neg hs1_5, if_neg (show ¬ (x = q ∨ x = 92) from fun h => h.elim c57 c63)]), ht⟩) (fun _ h => nomatch h) d_Printer_shortEscape_71
                · refine lv_iload_n hx hb d_Printer_shortEscape_66 rfl (lv_at hl 0 rfl) ?_
                  refine lv_goto (tgt := 71) hx hb d_Printer_shortEscape_67 (by decide) ?_
                  exact W.iret (v := x) hx hb hr (fun t ht hW => ⟨x, rfl, (by unfold shE; rw [if_neg hs1_0, if_neg hs1_1, if_neg hs1_2, if_neg hs1_4, if_neg hs1_5, if_pos (Or.inr c63)]), ht⟩) (fun _ h => nomatch h) d_Printer_shortEscape_71
set_option maxHeartbeats 4000000 in
set_option maxRecDepth 100000 in
/-- Printer.number: what it writes -/
theorem p_Printer_number (l : Launch) (hl9 : l.stackTraces = false) (dC : Nat → ClassId) (dI : Nat → Nat → Nat) (sz : Heap) (cB : ClassId) (p1 pb ps : Nat) (g : Nat → Int32) (k : Nat) (hk : k ≤ 16384) (x : Int64) (hsm : smL x) : vx_Met l y_Printer_number (k_Printer_number :: gtbl) ({ frames := 9, cells := 1, slots := 6, locals := 150 }) (va_Pc [.ref p1, .long x] (mx dC dI ([(p1, .inr (3, [.ref pb, .int (nI k), .ref ps])), (pb, .inl (cB, 16384, .inl g))]) [(cB, .byte)] sz)) (va_Qv (fun (u : Nat × (Nat → Int32)) => WOK k g (nmB x) u.1 u.2) (fun u t9 => mz dC dI ([(p1, .inr (3, [.ref pb, .int (nI u.1), .ref ps])), (pb, .inl (cB, 16384, .inl u.2))]) [(cB, .byte)] (va_A ([(p1, .inr (3, [.ref pb, .int (nI k), .ref ps])), (pb, .inl (cB, 16384, .inl g))]) sz.size) t9 ∧ szk sz t9.heap (0) (0)) (va_A ([(p1, .inr (3, [.ref pb, .int (nI k), .ref ps])), (pb, .inl (cB, 16384, .inl g))]) sz.size)) (vx_X (fun (u : Int32 × (Nat → Int32)) => WNO k g (nmB x)) (fun En u t9 => En = IOB ∧ mz dC dI ([(p1, .inr (3, [.ref pb, .int u.1, .ref ps])), (pb, .inl (cB, 16384, .inl u.2))]) [(cB, .byte)] (va_A ([(p1, .inr (3, [.ref pb, .int (nI k), .ref ps])), (pb, .inl (cB, 16384, .inl g))]) sz.size) t9) (va_A ([(p1, .inr (3, [.ref pb, .int (nI k), .ref ps])), (pb, .inl (cB, 16384, .inl g))]) sz.size)) (1) (6) (va_A ([(p1, .inr (3, [.ref pb, .int (nI k), .ref ps])), (pb, .inl (cB, 16384, .inl g))]) sz.size) := by
  refine vx_ofW (cc := b_Printer_number) (maxL := 7) (ret := none) (by decide) rfl ?_
  intro p e s m args below meth c s₁ B hml hex hv
  obtain ⟨rfl, ⟨hsz, hP, hK, hD0⟩, hN, hZ⟩ := hv
  have hx := B.exec
  have hb := B.bytes
  have hr := B.returns
  have hts0 := atoms_spec (ws := k_Printer_number :: gtbl) B.pre
  have hts := fun w h => hts0 w (List.mem_cons_of_mem _ h)
  have hown : s.vm.findClass R_Printer = some m.cls := findClass_of_methodNamed B.named
  have hlocks := B.notSynchronized
  subst hsz
  have hD := hD0.self (sz := s.heap.size)
  generalize hAe : va_A ([(p1, .inr (3, [.ref pb, .int (nI k), .ref ps])), (pb, .inl (cB, 16384, .inl g))]) s.heap.size = A at hD hZ ⊢
  have hA : ∀ q : Nat, s.heap.size ≤ q → A q := fun q h => by rw [← hAe]; exact Or.inr h
  have hS : va_S A s.heap s.heap [] := va_S.rf
  have hP : va_P (dC, dI) classes ([(p1, .inr (3, [.ref pb, .int (nI k), .ref ps])), (pb, .inl (cB, 16384, .inl g))]) s.heap := hP
  have hl := lv_entry ([.ref p1, .long x]) (n := 7) (Nat.le_of_ble_eq_true rfl)
  rw [lg_entry_eq]
  generalize (lg_sl ([.ref p1, .long x]) ++ List.replicate (7 - (lg_sl ([.ref p1, .long x])).length) Slot.unset).toArray = ls at hl ⊢
  have hl : lv_has ls 7 [(0, .ref p1), (1, .long x)] := hl
  refine lv_lload_n hx hb d_Printer_number_0 rfl (lv_at hl 1 rfl) ?_
  refine lv_lconst (v := 0) hx hb d_Printer_number_1 (by decide) ?_
  refine W.lcmp hx hb d_Printer_number_2 ?_
  refine lv_if_ge (tgt := 11) hx hb d_Printer_number_3 (by decide) (fun c3 => ?_) (fun c3 => ?_)
  · obtain ⟨hm9, hs9⟩ := lN_tI (Int64.not_lt.mpr ((lg_cmp_ge _ _).mp c3)) hsm
    obtain ⟨m9, hm9e⟩ : ∃ y, y = x.toInt.natAbs := ⟨_, rfl⟩
    rw [← hm9e] at hm9
    have hmb : m9 < 10 ^ 16 := by have h8 := hsm.1; have h9 := hsm.2; omega
    have hR : penL (k, 0, g) (nmB x) = penL (k, 0, g) (dgK m9 (tenK m9 16 0 + 1)) := by rw [nmB_pos hs9, hm9e]
    refine lv_lload_n hx hb d_Printer_number_11 rfl (lv_at hl 1 rfl) ?_
    refine lv_lstore_n (lv' := [(3, .long x), (0, .ref p1), (1, .long x)]) hx hb d_Printer_number_12 rfl hl (by decide) rfl (fun ls hl => ?_)
    refine lv_lload_n hx hb d_Printer_number_13 rfl (lv_at hl 2 rfl) ?_
    refine lv_lconst (v := 0) hx hb d_Printer_number_14 (by decide) ?_
    refine W.lcmp hx hb d_Printer_number_15 ?_
    refine lv_if_ge (tgt := 25) hx hb d_Printer_number_16 (by decide) (fun _ => ?_) (fun h => absurd c3 h)
    refine lv_lconst (v := 1) hx hb d_Printer_number_25 (by decide) ?_
    refine lv_lstore (lv' := [(5, .long 1), (3, .long x), (0, .ref p1), (1, .long x)]) hx hb d_Printer_number_26 hl (by decide) rfl (fun ls hl => ?_)
    have hl : lv_has ls 7 [(5, .long (lN (10 ^ 0))), (3, .long (lN m9)), (0, .ref p1), (1, .long x)] := by rw [← hm9]; exact hl
    refine w_loop (D := (dC, dI)) (cl := classes) (A := A) (H0 := s.heap) (nL := 7) 28 (σ := Nat) (fun j => j ≤ 15 ∧ tenK m9 16 0 = tenK m9 (16 - j) j) (fun j => 16 - j) (fun j => [(p1, .inr (3, [.ref pb, .int (nI k), .ref ps])), (pb, .inl (cB, 16384, .inl g))]) (fun j => [(0, .ref p1), (3, .long (lN m9)), (5, .long (lN (10 ^ j)))]) ?_ 0 ⟨Nat.zero_le _, rfl⟩ hP hD hS (lv_sub hl [2, 1, 0] rfl)
    rintro j H locs ls hI ih hP hD hS hl
    have hP : va_P (dC, dI) classes ([(p1, .inr (3, [.ref pb, .int (nI k), .ref ps])), (pb, .inl (cB, 16384, .inl g))]) H := hP
    have hD : va_D A ([(p1, .inr (3, [.ref pb, .int (nI k), .ref ps])), (pb, .inl (cB, 16384, .inl g))]) := hD
    have hl : lv_has ls 7 [(0, .ref p1), (3, .long (lN m9)), (5, .long (lN (10 ^ j)))] := hl
    obtain ⟨hj, hj2⟩ := hI
    have hj : j ≤ 15 := hj
    have hj2 : tenK m9 16 0 = tenK m9 (16 - j) j := hj2
    refine lv_lload hx hb d_Printer_number_28 (lv_at hl 2 rfl) ?_
    refine lv_lload_n hx hb d_Printer_number_30 rfl (lv_at hl 1 rfl) ?_
    refine lv_ldc2 (v := 10) hx hb hown (hts _ z_967) d_Printer_number_31 ?_
    refine lv_ldiv hx hb d_Printer_number_34 (by decide) ?_
    refine W.lcmp hx hb d_Printer_number_35 ?_
    refine lv_if_gt (tgt := 50) hx hb d_Printer_number_36 (by decide) (fun c36 => ?_) (fun c36 => ?_)
    · have ht9 : tenK m9 16 0 = j := hj2.trans (tenE hj (fun h => absurd ((lg_cmp_gt _ _).mp c36) (Int64.not_lt.mpr ((tenU hmb hj).mpr h))))
      have hl : lv_has ls 7 [(0, .ref p1), (3, .long (lN m9)), (5, .long (tK (j + 1)))] := by rw [tK_s]; exact hl
      have hR0 : penL (k, 0, g) (nmB x) = penL (k, 0, g) (dgK m9 (j + 1)) := by rw [← ht9]; exact hR
      refine w_loop (D := (dC, dI)) (cl := classes) (A := A) (H0 := s.heap) (nL := 7) 50 (σ := Nat × Nat × (Nat → Int32)) (fun ⟨c9, k1, g1⟩ => c9 ≤ 17 ∧ k1 ≤ 16384 ∧ penL (k, 0, g) (nmB x) = penL (k1, 0, g1) (dgK m9 c9)) (fun ⟨c9, k1, g1⟩ => c9) (fun ⟨c9, k1, g1⟩ => [(p1, .inr (3, [.ref pb, .int (nI k1), .ref ps])), (pb, .inl (cB, 16384, .inl g1))]) (fun ⟨c9, k1, g1⟩ => [(0, .ref p1), (3, .long (lN m9)), (5, .long (tK c9))]) ?_ (j + 1, k, g) ⟨by show j + 1 ≤ 17; omega, hk, hR0⟩ hP hD hS (lv_sub hl [0, 1, 2] rfl)
      rintro ⟨c9, k1, g1⟩ H locs ls hI ih hP hD hS hl
      have hP : va_P (dC, dI) classes ([(p1, .inr (3, [.ref pb, .int (nI k1), .ref ps])), (pb, .inl (cB, 16384, .inl g1))]) H := hP
      have hD : va_D A ([(p1, .inr (3, [.ref pb, .int (nI k1), .ref ps])), (pb, .inl (cB, 16384, .inl g1))]) := hD
      have hl : lv_has ls 7 [(0, .ref p1), (3, .long (lN m9)), (5, .long (tK c9))] := hl
      obtain ⟨hc9, hkA, hR1⟩ := hI
      have hc9 : c9 ≤ 17 := hc9
      have hkA : k1 ≤ 16384 := hkA
      have hR1 : penL (k, 0, g) (nmB x) = penL (k1, 0, g1) (dgK m9 c9) := hR1
      refine lv_lload hx hb d_Printer_number_50 (lv_at hl 2 rfl) ?_
      refine lv_lconst (v := 0) hx hb d_Printer_number_52 (by decide) ?_
      refine W.lcmp hx hb d_Printer_number_53 ?_
      refine lv_if_le (tgt := 84) hx hb d_Printer_number_54 (by decide) (fun c54 => ?_) (fun c54 => ?_)
      · have hc0 : c9 = 0 := (tK_pos hc9).mp ((lg_cmp_le _ _).mp c54)
        rw [hc0] at hR1
        refine w_same (fun hq => ?_)
        refine W.widen (k := 1) (n := 6) (Nat.le_of_ble_eq_true rfl) (Nat.le_of_ble_eq_true rfl) ?_
        refine vx_ret ?_
        exact W.vret hx hb hr (fun t9 ht hW => ⟨⟨(k1, g1), rfl, hR1, ⟨by rw [ht]; exact hP, va_K.moved hW.alike hK, hD⟩, by rw [ht]; exact hq⟩, hS.F ht⟩) hS.2.2 d_Printer_number_84
      · have hc0 : ¬ c9 = 0 := fun h => c54 ((lg_cmp_le _ _).mpr ((tK_pos hc9).mpr h))
        obtain ⟨c8, rfl⟩ : ∃ z, c9 = z + 1 := ⟨c9 - 1, by omega⟩
        rw [tK_s] at hl
        have hl : lv_has ls 7 [(0, .ref p1), (3, .long (lN m9)), (5, .long (lN (10 ^ c8)))] := hl
        have hp1 : 0 < 10 ^ c8 := Nat.pow_pos (by decide)
        have hp2 : 10 ^ c8 ≤ 10 ^ 16 := Nat.pow_le_pow_right (by decide) (by omega)
        have hnz : ¬ lN (10 ^ c8) = 0 := fun h => by have := (pk_lEQ (a := 10 ^ c8) (b := 0) (by omega) (by decide)).mp h; omega
        refine lv_aload_n hx hb d_Printer_number_57 rfl (lv_at hl 0 rfl) ?_
        refine lv_bipush (v := 48) hx hb d_Printer_number_58 (by decide) ?_
        refine lv_lload_n hx hb d_Printer_number_60 rfl (lv_at hl 1 rfl) ?_
        refine lv_lload hx hb d_Printer_number_61 (lv_at hl 2 rfl) ?_
        refine lv_ldiv hx hb d_Printer_number_63 hnz ?_
        refine lv_ldc2 (v := 10) hx hb hown (hts _ z_967) d_Printer_number_64 ?_
        refine lv_lrem hx hb d_Printer_number_67 (by decide) ?_
        refine lv_l2i (v := ((((lN m9) / (lN (10 ^ c8))) - ((lN m9) / (lN (10 ^ c8))) / 10 * 10)).toInt32) hx hb d_Printer_number_68 rfl ?_
        refine lv_iadd hx hb d_Printer_number_69 ?_
        refine W.eq (g2 := F0 m 70 ls [.int (48 + nI (m9 / 10 ^ c8 % 10)), .ref p1]) (by rw [show (48 + (((((lN m9) / (lN (10 ^ c8))) - ((lN m9) / (lN (10 ^ c8))) / 10 * 10)).toInt32)) = (48 + nI (m9 / 10 ^ c8 % 10)) from dgt_eq hmb hp1 hp2]) ?_
        have hPc := hP.sub (ws' := [(p1, .inr (3, [.ref pb, .int (nI k1), .ref ps])), (pb, .inl (cB, 16384, .inl g1))]) [0, 1] rfl
        have hDc := hD.sub (ws' := [(p1, .inr (3, [.ref pb, .int (nI k1), .ref ps])), (pb, .inl (cB, 16384, .inl g1))]) [0, 1] (by decide) rfl
        have hFc := va_free (wc := [(p1, .inr (3, [.ref pb, .int (nI k1), .ref ps])), (pb, .inl (cB, 16384, .inl g1))]) hD hS hA [0, 1] rfl
        have hKc := hK.sub (tys' := [(cB, .byte)]) [0] rfl
        refine w_same (fun hq0 => ?_)
        refine vx_callv (vx_runV (As := [.int (48 + nI (m9 / 10 ^ c8 % 10))]) (rest := []) ⟨hx, hb, hml, hown, hts⟩ (t_put l hl9 dC dI cB p1 pb H (.ref ps) g1 k1 ((48 + nI (m9 / 10 ^ c8 % 10))) hkA) (cwV 1 hts (gt_V (own := R_Printer) (C := R_Printer) (i := 25) (y := y_Printer_put) i_Printer_put w_957 w_959 (gt_sel (y := y_Printer_put) (n := 3) (by decide +kernel)) w_6) rfl rfl rfl (by decide +kernel) ⟨Nat.le_of_ble_eq_true rfl, Nat.le_of_ble_eq_true rfl⟩) ⟨mx_blind, va_recv hK hP (ci := 3) (q0 := 0) rfl rfl, fun U hU hW => ⟨rfl, ⟨hU, by rw [hU]; exact hPc, va_K.moved hW.alike hKc, hDc.weaken (fun _ _ _ _ => trivial)⟩, hN.warm hW, by rw [hU]; exact ZX.moved' hW.alike (ZX.narrow' (ZX.kept' hZ hS.2.1) hFc)⟩⟩ rfl rfl hl.1 rfl (lv_room (Nat.le_of_ble_eq_true rfl)) d_Printer_number_70 ⟨Nat.le_of_ble_eq_true rfl, Nat.le_of_ble_eq_true rfl⟩) hS (fun q _ h => hFc q h) hFc (fun q _ h => hFc q h) (fun En ce q9 ⟨kx, gx⟩ t9 H1 locs ht hvm hw hB hz1 hk1 hS hce hcv hcl => ?_) (fun ⟨k21, g21⟩ t9 H1 locs ht hvm hw hB hz1 hk1 hS => ?_)
        · obtain ⟨hEn, hP1, hK1, hD1⟩ := hB
          rw [ht] at hP1
          obtain ⟨hP, hD⟩ := va_join (wr := []) (w1 := [(p1, .inr (3, [.ref pb, .int (nI kx), .ref ps])), (pb, .inl (cB, 16384, .inl gx))]) hP hD [0, 1] [] rfl rfl (by decide) (by decide) hk1 hFc hP1 hD1
          generalize H1 = H at hP hS hce ⊢
          have hP : va_P (dC, dI) classes ([(p1, .inr (3, [.ref pb, .int (nI kx), .ref ps])), (pb, .inl (cB, 16384, .inl gx))]) H := hP
          have hD : va_D A ([(p1, .inr (3, [.ref pb, .int (nI kx), .ref ps])), (pb, .inl (cB, 16384, .inl gx))]) := hD
          exact vx_out (fun x hx => (hex x hx).elim) hlocks hce hcv hcl (fun t9 ht2 ha => ⟨(nI kx, gx), (WNO.go (T := [(48 + nI (m9 / 10 ^ c8 % 10))]) (R := dgK m9 c8) hR1 hw), ⟨hEn, by rw [ht2]; exact hP, va_K.moved ha hK, hD⟩, hS.F ht2⟩) hS.2.2 (Nat.le_of_ble_eq_true rfl) (Nat.le_of_ble_eq_true rfl)
        · obtain ⟨⟨hP1, hK1, hD1⟩, hz9⟩ := hB
          rw [ht] at hP1
          rw [ht] at hz9
          refine w_tight (hq0.trans hz9) ?_
          have hq0 := hq0.trans hz9
          obtain ⟨hP, hD⟩ := va_join (wr := []) (w1 := [(p1, .inr (3, [.ref pb, .int (nI k21), .ref ps])), (pb, .inl (cB, 16384, .inl g21))]) hP hD [0, 1] [] rfl rfl (by decide) (by decide) hk1 hFc hP1 hD1
          generalize H1 = H at hP hS hq0 ⊢
          have hP : va_P (dC, dI) classes ([(p1, .inr (3, [.ref pb, .int (nI k21), .ref ps])), (pb, .inl (cB, 16384, .inl g21))]) H := hP
          have hD : va_D A ([(p1, .inr (3, [.ref pb, .int (nI k21), .ref ps])), (pb, .inl (cB, 16384, .inl g21))]) := hD
          have hw : WOK k1 g1 ([(48 + nI (m9 / 10 ^ c8 % 10))]) k21 g21 := hw
          have hk21 := WOK.le hw hkA
          have hR21 := WOK.go (T := [(48 + nI (m9 / 10 ^ c8 % 10))]) (R := dgK m9 c8) hR1 hw
          refine lv_lload hx hb d_Printer_number_73 (lv_at hl 2 rfl) ?_
          refine lv_ldc2 (v := 10) hx hb hown (hts _ z_967) d_Printer_number_75 ?_
          refine lv_ldiv hx hb d_Printer_number_78 (by decide) ?_
          refine W.eq (g2 := F0 m 79 ls [.long (tK c8)]) (by rw [show ((lN (10 ^ c8)) / 10) = (tK c8) from (show lN (10 ^ c8) / 10 = tK c8 from by rw [← tK_div (show c8 ≤ 16 by omega), tK_s]; rfl)]) ?_
          refine lv_lstore (lv' := [(5, .long (tK c8)), (0, .ref p1), (3, .long (lN m9))]) hx hb d_Printer_number_79 hl (by decide) rfl (fun ls hl => ?_)
          refine lv_goto (tgt := 50) hx hb d_Printer_number_81 (by decide) ?_
          exact ih (c8, k21, g21) _ _ _ ⟨show c8 ≤ 17 by omega, hk21, hR21⟩ (Nat.lt_succ_self c8) hP hD hS (lv_sub hl [1, 2, 0] rfl)
    · refine lv_lload hx hb d_Printer_number_39 (lv_at hl 2 rfl) ?_
      refine lv_ldc2 (v := 10) hx hb hown (hts _ z_967) d_Printer_number_41 ?_
      refine lv_lmul hx hb d_Printer_number_44 ?_
      refine W.eq (g2 := F0 m 45 ls [.long (lN (10 ^ (j + 1)))]) (by rw [show ((lN (10 ^ j)) * 10) = (lN (10 ^ (j + 1))) from (show lN (10 ^ j) * 10 = lN (10 ^ (j + 1)) from lN_p10)]) ?_
      refine lv_lstore (lv' := [(5, .long (lN (10 ^ (j + 1)))), (0, .ref p1), (3, .long (lN m9))]) hx hb d_Printer_number_45 hl (by decide) rfl (fun ls hl => ?_)
      refine lv_goto (tgt := 28) hx hb d_Printer_number_47 (by decide) ?_
      have hj3 := tenG hmb hj ((tenU hmb hj).mp (Int64.not_lt.mp (fun h => c36 ((lg_cmp_gt _ _).mpr h))))
      exact ih (j + 1) _ _ _ ⟨hj3.1, hj2.trans hj3.2⟩ (by show 16 - (j + 1) < 16 - j; omega) hP hD hS (lv_sub hl [1, 2, 0] rfl)
  · obtain ⟨hm9, hs9⟩ := lN_tN (Int64.not_le.mp (fun h => c3 ((lg_cmp_ge _ _).mpr h))) hsm
    obtain ⟨m9, hm9e⟩ : ∃ y, y = x.toInt.natAbs := ⟨_, rfl⟩
    rw [← hm9e] at hm9
    have hmb : m9 < 10 ^ 16 := by have h8 := hsm.1; have h9 := hsm.2; omega
    have hR : penL (k, 0, g) (nmB x) = penL (k, 0, g) ([45] ++ dgK m9 (tenK m9 16 0 + 1)) := by rw [nmB_neg hs9, hm9e]; rfl
    refine lv_lload_n hx hb d_Printer_number_6 rfl (lv_at hl 1 rfl) ?_
    refine lv_lneg hx hb d_Printer_number_7 ?_
    refine lv_goto (tgt := 12) hx hb d_Printer_number_8 (by decide) ?_
    refine lv_lstore_n (lv' := [(3, .long (-x)), (0, .ref p1), (1, .long x)]) hx hb d_Printer_number_12 rfl hl (by decide) rfl (fun ls hl => ?_)
    refine lv_lload_n hx hb d_Printer_number_13 rfl (lv_at hl 2 rfl) ?_
    refine lv_lconst (v := 0) hx hb d_Printer_number_14 (by decide) ?_
    refine W.lcmp hx hb d_Printer_number_15 ?_
    refine lv_if_ge (tgt := 25) hx hb d_Printer_number_16 (by decide) (fun h => absurd h c3) (fun _ => ?_)
    refine lv_aload_n hx hb d_Printer_number_19 rfl (lv_at hl 1 rfl) ?_
    refine lv_bipush (v := 45) hx hb d_Printer_number_20 (by decide) ?_
    have hPc := hP.sub (ws' := [(p1, .inr (3, [.ref pb, .int (nI k), .ref ps])), (pb, .inl (cB, 16384, .inl g))]) [0, 1] rfl
    have hDc := hD.sub (ws' := [(p1, .inr (3, [.ref pb, .int (nI k), .ref ps])), (pb, .inl (cB, 16384, .inl g))]) [0, 1] (by decide) rfl
    have hFc := va_free (wc := [(p1, .inr (3, [.ref pb, .int (nI k), .ref ps])), (pb, .inl (cB, 16384, .inl g))]) hD hS hA [0, 1] rfl
    have hKc := hK.sub (tys' := [(cB, .byte)]) [0] rfl
    refine w_same (fun hq0 => ?_)
    refine vx_callv (vx_runV (As := [.int 45]) (rest := []) ⟨hx, hb, hml, hown, hts⟩ (t_put l hl9 dC dI cB p1 pb s.heap (.ref ps) g k 45 hk) (cwV 1 hts (gt_V (own := R_Printer) (C := R_Printer) (i := 25) (y := y_Printer_put) i_Printer_put w_957 w_959 (gt_sel (y := y_Printer_put) (n := 3) (by decide +kernel)) w_6) rfl rfl rfl (by decide +kernel) ⟨Nat.le_of_ble_eq_true rfl, Nat.le_of_ble_eq_true rfl⟩) ⟨mx_blind, va_recv hK hP (ci := 3) (q0 := 0) rfl rfl, fun U hU hW => ⟨rfl, ⟨hU, by rw [hU]; exact hPc, va_K.moved hW.alike hKc, hDc.weaken (fun _ _ _ _ => trivial)⟩, hN.warm hW, by rw [hU]; exact ZX.moved' hW.alike (ZX.narrow' (ZX.kept' hZ hS.2.1) hFc)⟩⟩ rfl rfl hl.1 rfl (lv_room (Nat.le_of_ble_eq_true rfl)) d_Printer_number_22 ⟨Nat.le_of_ble_eq_true rfl, Nat.le_of_ble_eq_true rfl⟩) hS (fun q _ h => hFc q h) hFc (fun q _ h => hFc q h) (fun En ce q9 ⟨kx, gx⟩ t9 H1 locs ht hvm hw hB hz1 hk1 hS hce hcv hcl => ?_) (fun ⟨k22, g22⟩ t9 H1 locs ht hvm hw hB hz1 hk1 hS => ?_)
    · obtain ⟨hEn, hP1, hK1, hD1⟩ := hB
      rw [ht] at hP1
      obtain ⟨hP, hD⟩ := va_join (wr := []) (w1 := [(p1, .inr (3, [.ref pb, .int (nI kx), .ref ps])), (pb, .inl (cB, 16384, .inl gx))]) hP hD [0, 1] [] rfl rfl (by decide) (by decide) hk1 hFc hP1 hD1
      generalize H1 = H at hP hS hce ⊢
      have hP : va_P (dC, dI) classes ([(p1, .inr (3, [.ref pb, .int (nI kx), .ref ps])), (pb, .inl (cB, 16384, .inl gx))]) H := hP
      have hD : va_D A ([(p1, .inr (3, [.ref pb, .int (nI kx), .ref ps])), (pb, .inl (cB, 16384, .inl gx))]) := hD
      exact vx_out (fun x hx => (hex x hx).elim) hlocks hce hcv hcl (fun t9 ht2 ha => ⟨(nI kx, gx), (WNO.go (T := [45]) (R := dgK m9 (tenK m9 16 0 + 1)) hR hw), ⟨hEn, by rw [ht2]; exact hP, va_K.moved ha hK, hD⟩, hS.F ht2⟩) hS.2.2 (Nat.le_of_ble_eq_true rfl) (Nat.le_of_ble_eq_true rfl)
    · obtain ⟨⟨hP1, hK1, hD1⟩, hz9⟩ := hB
      rw [ht] at hP1
      rw [ht] at hz9
      refine w_tight (hq0.trans hz9) ?_
      have hq0 := hq0.trans hz9
      obtain ⟨hP, hD⟩ := va_join (wr := []) (w1 := [(p1, .inr (3, [.ref pb, .int (nI k22), .ref ps])), (pb, .inl (cB, 16384, .inl g22))]) hP hD [0, 1] [] rfl rfl (by decide) (by decide) hk1 hFc hP1 hD1
      generalize H1 = H at hP hS hq0 ⊢
      have hP : va_P (dC, dI) classes ([(p1, .inr (3, [.ref pb, .int (nI k22), .ref ps])), (pb, .inl (cB, 16384, .inl g22))]) H := hP
      have hD : va_D A ([(p1, .inr (3, [.ref pb, .int (nI k22), .ref ps])), (pb, .inl (cB, 16384, .inl g22))]) := hD
      have hw : WOK k g [45] k22 g22 := hw
      have hk22 := WOK.le hw hk
      have hR22 := WOK.go (T := [45]) (R := dgK m9 (tenK m9 16 0 + 1)) hR hw
      refine lv_lconst (v := 1) hx hb d_Printer_number_25 (by decide) ?_
      refine lv_lstore (lv' := [(5, .long 1), (3, .long (-x)), (0, .ref p1), (1, .long x)]) hx hb d_Printer_number_26 hl (by decide) rfl (fun ls hl => ?_)
      have hl : lv_has ls 7 [(5, .long (lN (10 ^ 0))), (3, .long (lN m9)), (0, .ref p1), (1, .long x)] := by rw [← hm9]; exact hl
      refine w_loop (D := (dC, dI)) (cl := classes) (A := A) (H0 := s.heap) (nL := 7) 28 (σ := Nat) (fun j => j ≤ 15 ∧ tenK m9 16 0 = tenK m9 (16 - j) j) (fun j => 16 - j) (fun j => [(p1, .inr (3, [.ref pb, .int (nI k22), .ref ps])), (pb, .inl (cB, 16384, .inl g22))]) (fun j => [(0, .ref p1), (3, .long (lN m9)), (5, .long (lN (10 ^ j)))]) ?_ 0 ⟨Nat.zero_le _, rfl⟩ hP hD hS (lv_sub hl [2, 1, 0] rfl)
      rintro j H locs ls hI ih hP hD hS hl
      have hP : va_P (dC, dI) classes ([(p1, .inr (3, [.ref pb, .int (nI k22), .ref ps])), (pb, .inl (cB, 16384, .inl g22))]) H := hP
      have hD : va_D A ([(p1, .inr (3, [.ref pb, .int (nI k22), .ref ps])), (pb, .inl (cB, 16384, .inl g22))]) := hD
      have hl : lv_has ls 7 [(0, .ref p1), (3, .long (lN m9)), (5, .long (lN (10 ^ j)))] := hl
      obtain ⟨hj, hj2⟩ := hI
      have hj : j ≤ 15 := hj
      have hj2 : tenK m9 16 0 = tenK m9 (16 - j) j := hj2
      refine lv_lload hx hb d_Printer_number_28 (lv_at hl 2 rfl) ?_
      refine lv_lload_n hx hb d_Printer_number_30 rfl (lv_at hl 1 rfl) ?_
      refine lv_ldc2 (v := 10) hx hb hown (hts _ z_967) d_Printer_number_31 ?_
      refine lv_ldiv hx hb d_Printer_number_34 (by decide) ?_
      refine W.lcmp hx hb d_Printer_number_35 ?_
      refine lv_if_gt (tgt := 50) hx hb d_Printer_number_36 (by decide) (fun c36 => ?_) (fun c36 => ?_)
      · have ht9 : tenK m9 16 0 = j := hj2.trans (tenE hj (fun h => absurd ((lg_cmp_gt _ _).mp c36) (Int64.not_lt.mpr ((tenU hmb hj).mpr h))))
        have hl : lv_has ls 7 [(0, .ref p1), (3, .long (lN m9)), (5, .long (tK (j + 1)))] := by rw [tK_s]; exact hl
        have hR0 : penL (k, 0, g) (nmB x) = penL (k22, 0, g22) (dgK m9 (j + 1)) := by rw [← ht9]; exact hR22
        refine w_loop (D := (dC, dI)) (cl := classes) (A := A) (H0 := s.heap) (nL := 7) 50 (σ := Nat × Nat × (Nat → Int32)) (fun ⟨c9, k1, g1⟩ => c9 ≤ 17 ∧ k1 ≤ 16384 ∧ penL (k, 0, g) (nmB x) = penL (k1, 0, g1) (dgK m9 c9)) (fun ⟨c9, k1, g1⟩ => c9) (fun ⟨c9, k1, g1⟩ => [(p1, .inr (3, [.ref pb, .int (nI k1), .ref ps])), (pb, .inl (cB, 16384, .inl g1))]) (fun ⟨c9, k1, g1⟩ => [(0, .ref p1), (3, .long (lN m9)), (5, .long (tK c9))]) ?_ (j + 1, k22, g22) ⟨by show j + 1 ≤ 17; omega, hk22, hR0⟩ hP hD hS (lv_sub hl [0, 1, 2] rfl)
        rintro ⟨c9, k1, g1⟩ H locs ls hI ih hP hD hS hl
        have hP : va_P (dC, dI) classes ([(p1, .inr (3, [.ref pb, .int (nI k1), .ref ps])), (pb, .inl (cB, 16384, .inl g1))]) H := hP
        have hD : va_D A ([(p1, .inr (3, [.ref pb, .int (nI k1), .ref ps])), (pb, .inl (cB, 16384, .inl g1))]) := hD
        have hl : lv_has ls 7 [(0, .ref p1), (3, .long (lN m9)), (5, .long (tK c9))] := hl
        obtain ⟨hc9, hkA, hR1⟩ := hI
        have hc9 : c9 ≤ 17 := hc9
        have hkA : k1 ≤ 16384 := hkA
        have hR1 : penL (k, 0, g) (nmB x) = penL (k1, 0, g1) (dgK m9 c9) := hR1
        refine lv_lload hx hb d_Printer_number_50 (lv_at hl 2 rfl) ?_
        refine lv_lconst (v := 0) hx hb d_Printer_number_52 (by decide) ?_
        refine W.lcmp hx hb d_Printer_number_53 ?_
        refine lv_if_le (tgt := 84) hx hb d_Printer_number_54 (by decide) (fun c54 => ?_) (fun c54 => ?_)
        · have hc0 : c9 = 0 := (tK_pos hc9).mp ((lg_cmp_le _ _).mp c54)
          rw [hc0] at hR1
          refine w_same (fun hq => ?_)
          refine W.widen (k := 1) (n := 6) (Nat.le_of_ble_eq_true rfl) (Nat.le_of_ble_eq_true rfl) ?_
          refine vx_ret ?_
          exact W.vret hx hb hr (fun t9 ht hW => ⟨⟨(k1, g1), rfl, hR1, ⟨by rw [ht]; exact hP, va_K.moved hW.alike hK, hD⟩, by rw [ht]; exact hq⟩, hS.F ht⟩) hS.2.2 d_Printer_number_84
        · have hc0 : ¬ c9 = 0 := fun h => c54 ((lg_cmp_le _ _).mpr ((tK_pos hc9).mpr h))
          obtain ⟨c8, rfl⟩ : ∃ z, c9 = z + 1 := ⟨c9 - 1, by omega⟩
          rw [tK_s] at hl
          have hl : lv_has ls 7 [(0, .ref p1), (3, .long (lN m9)), (5, .long (lN (10 ^ c8)))] := hl
          have hp1 : 0 < 10 ^ c8 := Nat.pow_pos (by decide)
          have hp2 : 10 ^ c8 ≤ 10 ^ 16 := Nat.pow_le_pow_right (by decide) (by omega)
          have hnz : ¬ lN (10 ^ c8) = 0 := fun h => by have := (pk_lEQ (a := 10 ^ c8) (b := 0) (by omega) (by decide)).mp h; omega
          refine lv_aload_n hx hb d_Printer_number_57 rfl (lv_at hl 0 rfl) ?_
          refine lv_bipush (v := 48) hx hb d_Printer_number_58 (by decide) ?_
          refine lv_lload_n hx hb d_Printer_number_60 rfl (lv_at hl 1 rfl) ?_
          refine lv_lload hx hb d_Printer_number_61 (lv_at hl 2 rfl) ?_
          refine lv_ldiv hx hb d_Printer_number_63 hnz ?_
          refine lv_ldc2 (v := 10) hx hb hown (hts _ z_967) d_Printer_number_64 ?_
          refine lv_lrem hx hb d_Printer_number_67 (by decide) ?_
          refine lv_l2i (v := ((((lN m9) / (lN (10 ^ c8))) - ((lN m9) / (lN (10 ^ c8))) / 10 * 10)).toInt32) hx hb d_Printer_number_68 rfl ?_
          refine lv_iadd hx hb d_Printer_number_69 ?_
          refine W.eq (g2 := F0 m 70 ls [.int (48 + nI (m9 / 10 ^ c8 % 10)), .ref p1]) (by rw [show (48 + (((((lN m9) / (lN (10 ^ c8))) - ((lN m9) / (lN (10 ^ c8))) / 10 * 10)).toInt32)) = (48 + nI (m9 / 10 ^ c8 % 10)) from dgt_eq hmb hp1 hp2]) ?_
          have hPc := hP.sub (ws' := [(p1, .inr (3, [.ref pb, .int (nI k1), .ref ps])), (pb, .inl (cB, 16384, .inl g1))]) [0, 1] rfl
          have hDc := hD.sub (ws' := [(p1, .inr (3, [.ref pb, .int (nI k1), .ref ps])), (pb, .inl (cB, 16384, .inl g1))]) [0, 1] (by decide) rfl
          have hFc := va_free (wc := [(p1, .inr (3, [.ref pb, .int (nI k1), .ref ps])), (pb, .inl (cB, 16384, .inl g1))]) hD hS hA [0, 1] rfl
          have hKc := hK.sub (tys' := [(cB, .byte)]) [0] rfl
          refine w_same (fun hq0 => ?_)
          refine vx_callv (vx_runV (As := [.int (48 + nI (m9 / 10 ^ c8 % 10))]) (rest := []) ⟨hx, hb, hml, hown, hts⟩ (t_put l hl9 dC dI cB p1 pb H (.ref ps) g1 k1 ((48 + nI (m9 / 10 ^ c8 % 10))) hkA) (cwV 1 hts (gt_V (own := R_Printer) (C := R_Printer) (i := 25) (y := y_Printer_put) i_Printer_put w_957 w_959 (gt_sel (y := y_Printer_put) (n := 3) (by decide +kernel)) w_6) rfl rfl rfl (by decide +kernel) ⟨Nat.le_of_ble_eq_true rfl, Nat.le_of_ble_eq_true rfl⟩) ⟨mx_blind, va_recv hK hP (ci := 3) (q0 := 0) rfl rfl, fun U hU hW => ⟨rfl, ⟨hU, by rw [hU]; exact hPc, va_K.moved hW.alike hKc, hDc.weaken (fun _ _ _ _ => trivial)⟩, hN.warm hW, by rw [hU]; exact ZX.moved' hW.alike (ZX.narrow' (ZX.kept' hZ hS.2.1) hFc)⟩⟩ rfl rfl hl.1 rfl (lv_room (Nat.le_of_ble_eq_true rfl)) d_Printer_number_70 ⟨Nat.le_of_ble_eq_true rfl, Nat.le_of_ble_eq_true rfl⟩) hS (fun q _ h => hFc q h) hFc (fun q _ h => hFc q h) (fun En ce q9 ⟨kx, gx⟩ t9 H1 locs ht hvm hw hB hz1 hk1 hS hce hcv hcl => ?_) (fun ⟨k23, g23⟩ t9 H1 locs ht hvm hw hB hz1 hk1 hS => ?_)
          · obtain ⟨hEn, hP1, hK1, hD1⟩ := hB
            rw [ht] at hP1
            obtain ⟨hP, hD⟩ := va_join (wr := []) (w1 := [(p1, .inr (3, [.ref pb, .int (nI kx), .ref ps])), (pb, .inl (cB, 16384, .inl gx))]) hP hD [0, 1] [] rfl rfl (by decide) (by decide) hk1 hFc hP1 hD1
            generalize H1 = H at hP hS hce ⊢
            have hP : va_P (dC, dI) classes ([(p1, .inr (3, [.ref pb, .int (nI kx), .ref ps])), (pb, .inl (cB, 16384, .inl gx))]) H := hP
            have hD : va_D A ([(p1, .inr (3, [.ref pb, .int (nI kx), .ref ps])), (pb, .inl (cB, 16384, .inl gx))]) := hD
            exact vx_out (fun x hx => (hex x hx).elim) hlocks hce hcv hcl (fun t9 ht2 ha => ⟨(nI kx, gx), (WNO.go (T := [(48 + nI (m9 / 10 ^ c8 % 10))]) (R := dgK m9 c8) hR1 hw), ⟨hEn, by rw [ht2]; exact hP, va_K.moved ha hK, hD⟩, hS.F ht2⟩) hS.2.2 (Nat.le_of_ble_eq_true rfl) (Nat.le_of_ble_eq_true rfl)
          · obtain ⟨⟨hP1, hK1, hD1⟩, hz9⟩ := hB
            rw [ht] at hP1
            rw [ht] at hz9
            refine w_tight (hq0.trans hz9) ?_
            have hq0 := hq0.trans hz9
            obtain ⟨hP, hD⟩ := va_join (wr := []) (w1 := [(p1, .inr (3, [.ref pb, .int (nI k23), .ref ps])), (pb, .inl (cB, 16384, .inl g23))]) hP hD [0, 1] [] rfl rfl (by decide) (by decide) hk1 hFc hP1 hD1
            generalize H1 = H at hP hS hq0 ⊢
            have hP : va_P (dC, dI) classes ([(p1, .inr (3, [.ref pb, .int (nI k23), .ref ps])), (pb, .inl (cB, 16384, .inl g23))]) H := hP
            have hD : va_D A ([(p1, .inr (3, [.ref pb, .int (nI k23), .ref ps])), (pb, .inl (cB, 16384, .inl g23))]) := hD
            have hw : WOK k1 g1 ([(48 + nI (m9 / 10 ^ c8 % 10))]) k23 g23 := hw
            have hk23 := WOK.le hw hkA
            have hR23 := WOK.go (T := [(48 + nI (m9 / 10 ^ c8 % 10))]) (R := dgK m9 c8) hR1 hw
            refine lv_lload hx hb d_Printer_number_73 (lv_at hl 2 rfl) ?_
            refine lv_ldc2 (v := 10) hx hb hown (hts _ z_967) d_Printer_number_75 ?_
            refine lv_ldiv hx hb d_Printer_number_78 (by decide) ?_
            refine W.eq (g2 := F0 m 79 ls [.long (tK c8)]) (by rw [show ((lN (10 ^ c8)) / 10) = (tK c8) from (show lN (10 ^ c8) / 10 = tK c8 from by rw [← tK_div (show c8 ≤ 16 by omega), tK_s]; rfl)]) ?_
            refine lv_lstore (lv' := [(5, .long (tK c8)), (0, .ref p1), (3, .long (lN m9))]) hx hb d_Printer_number_79 hl (by decide) rfl (fun ls hl => ?_)
            refine lv_goto (tgt := 50) hx hb d_Printer_number_81 (by decide) ?_
            exact ih (c8, k23, g23) _ _ _ ⟨show c8 ≤ 17 by omega, hk23, hR23⟩ (Nat.lt_succ_self c8) hP hD hS (lv_sub hl [1, 2, 0] rfl)
      · refine lv_lload hx hb d_Printer_number_39 (lv_at hl 2 rfl) ?_
        refine lv_ldc2 (v := 10) hx hb hown (hts _ z_967) d_Printer_number_41 ?_
        refine lv_lmul hx hb d_Printer_number_44 ?_
        refine W.eq (g2 := F0 m 45 ls [.long (lN (10 ^ (j + 1)))]) (by rw [show ((lN (10 ^ j)) * 10) = (lN (10 ^ (j + 1))) from (show lN (10 ^ j) * 10 = lN (10 ^ (j + 1)) from lN_p10)]) ?_
        refine lv_lstore (lv' := [(5, .long (lN (10 ^ (j + 1)))), (0, .ref p1), (3, .long (lN m9))]) hx hb d_Printer_number_45 hl (by decide) rfl (fun ls hl => ?_)
        refine lv_goto (tgt := 28) hx hb d_Printer_number_47 (by decide) ?_
        have hj3 := tenG hmb hj ((tenU hmb hj).mp (Int64.not_lt.mp (fun h => c36 ((lg_cmp_gt _ _).mpr h))))
        exact ih (j + 1) _ _ _ ⟨hj3.1, hj2.trans hj3.2⟩ (by show 16 - (j + 1) < 16 - j; omega) hP hD hS (lv_sub hl [1, 2, 0] rfl)
