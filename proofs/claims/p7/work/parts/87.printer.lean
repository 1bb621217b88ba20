theorem z_967 : (.constantLong "QueryBench$Printer" 94 10 : Cond) ∈ gtbl := gt_in 967 (by decide +kernel) (by decide +kernel)
theorem toI9 {t : Nat} (ht : t < 2 ^ 63) : (lN t).toInt = (t : Int) := pk_lT ht
/-- the power of ten goes on growing only below the number -/
theorem ten_grow {x : Int64} {n : Nat} (h1 : 1 ≤ n) (hn : n < 2 ^ 63) (h : lN n ≤ x / 10) : ∃ m, m < 2 ^ 63 ∧ x = lN m ∧ n * 10 ≤ m := by
  by_cases hx : x < 0
  · exfalso
    have h2 := Int64.le_iff_toInt_le.mp h
    rw [toI9 (by omega), Int64.toInt_div] at h2
    have h3 := Int64.lt_iff_toInt_lt.mp hx
    rw [show (0 : Int64).toInt = 0 from rfl] at h3
    have h4 := Int.natAbs_tdiv_le_natAbs x.toInt 10
    have h5 : x.toInt.tdiv 10 ≤ 0 := by
      have := Int.tdiv_nonneg (a := -x.toInt) (b := 10) (by omega) (by omega)
      rw [Int.neg_tdiv] at this
      omega
    have h6 := x.le_toInt
    have e : (x.toInt.tdiv (10 : Int64).toInt).bmod (2 ^ 64) = x.toInt.tdiv 10 := by
      rw [show (10 : Int64).toInt = 10 from rfl]
      apply Int.bmod_eq_of_le <;> omega
    rw [e] at h2
    omega
  · obtain ⟨m, hm, rfl⟩ := pk_lOf hx
    refine ⟨m, hm, rfl, ?_⟩
    rw [show (10 : Int64) = lN 10 from rfl, pk_lDiv hm (by decide) (by decide), pk_lLE (by omega) (by omega)] at h
    omega
abbrev b_Printer_shortEscape : ByteArray := prog_5_method_11_code
def y_Printer_shortEscape : MethodName := ⟨"QueryBench$Printer", "shortEscape", "(II)I"⟩
abbrev k_Printer_shortEscape : Cond := .code y_Printer_shortEscape b_Printer_shortEscape 2 (some .int)
theorem i_Printer_shortEscape : k_Printer_shortEscape ∈ gtbl := gt_in 978 (by decide +kernel) (by decide +kernel)
theorem d_Printer_shortEscape_0 : decode b_Printer_shortEscape 0 = .ok (.iload_n 0, 1) := by decide +kernel
theorem d_Printer_shortEscape_1 : decode b_Printer_shortEscape 1 = .ok (.tableswitch 54 8 13 #[39, 42, 45, 54, 48, 51], 39) := by decide +kernel
theorem d_Printer_shortEscape_40 : decode b_Printer_shortEscape 40 = .ok (.bipush 98, 2) := by decide +kernel
theorem d_Printer_shortEscape_42 : decode b_Printer_shortEscape 42 = .ok (.ireturn, 1) := by decide +kernel
theorem d_Printer_shortEscape_43 : decode b_Printer_shortEscape 43 = .ok (.bipush 116, 2) := by decide +kernel
theorem d_Printer_shortEscape_45 : decode b_Printer_shortEscape 45 = .ok (.ireturn, 1) := by decide +kernel
theorem d_Printer_shortEscape_46 : decode b_Printer_shortEscape 46 = .ok (.bipush 110, 2) := by decide +kernel
theorem d_Printer_shortEscape_48 : decode b_Printer_shortEscape 48 = .ok (.ireturn, 1) := by decide +kernel
theorem d_Printer_shortEscape_49 : decode b_Printer_shortEscape 49 = .ok (.bipush 102, 2) := by decide +kernel
theorem d_Printer_shortEscape_51 : decode b_Printer_shortEscape 51 = .ok (.ireturn, 1) := by decide +kernel
theorem d_Printer_shortEscape_52 : decode b_Printer_shortEscape 52 = .ok (.bipush 114, 2) := by decide +kernel
theorem d_Printer_shortEscape_54 : decode b_Printer_shortEscape 54 = .ok (.ireturn, 1) := by decide +kernel
theorem d_Printer_shortEscape_55 : decode b_Printer_shortEscape 55 = .ok (.iload_n 0, 1) := by decide +kernel
theorem d_Printer_shortEscape_56 : decode b_Printer_shortEscape 56 = .ok (.iload_n 1, 1) := by decide +kernel
theorem d_Printer_shortEscape_57 : decode b_Printer_shortEscape 57 = .ok (.if_icmp .eq 9, 3) := by decide +kernel
theorem d_Printer_shortEscape_60 : decode b_Printer_shortEscape 60 = .ok (.iload_n 0, 1) := by decide +kernel
theorem d_Printer_shortEscape_61 : decode b_Printer_shortEscape 61 = .ok (.bipush 92, 2) := by decide +kernel
theorem d_Printer_shortEscape_63 : decode b_Printer_shortEscape 63 = .ok (.if_icmp .ne 7, 3) := by decide +kernel
theorem d_Printer_shortEscape_66 : decode b_Printer_shortEscape 66 = .ok (.iload_n 0, 1) := by decide +kernel
theorem d_Printer_shortEscape_67 : decode b_Printer_shortEscape 67 = .ok (.goto 4, 3) := by decide +kernel
theorem d_Printer_shortEscape_70 : decode b_Printer_shortEscape 70 = .ok (.iconst 0, 1) := by decide +kernel
theorem d_Printer_shortEscape_71 : decode b_Printer_shortEscape 71 = .ok (.ireturn, 1) := by decide +kernel
set_option maxHeartbeats 4000000 in
set_option maxRecDepth 100000 in
/-- Printer.shortEscape -/
theorem c_Printer_shortEscape (l : Launch) (dC : Nat → ClassId) (dI : Nat → Nat → Nat) (sz : Heap) (x q : Int32) : Met l y_Printer_shortEscape (k_Printer_shortEscape :: gtbl) ({ frames := 0, cells := 0, slots := 0, locals := 0 }) (va_Pc [.int x, .int q] mT) (vp_Si (fun (r : Int32) => True)) 0 0 (fun _ => False) := by
  refine Met.ofW (cc := b_Printer_shortEscape) (maxL := 2) (ret := (some .int)) (by decide) rfl ?_
  intro p e s m args below meth c s₁ B hml hv
  obtain ⟨rfl, hN⟩ := hv
  have hx := B.exec
  have hb := B.bytes
  have hr := B.returns
  have hts0 := atoms_spec (ws := k_Printer_shortEscape :: gtbl) B.pre
  have hts := fun w h => hts0 w (List.mem_cons_of_mem _ h)
  have hown : s.vm.findClass R_Printer = some m.cls := findClass_of_methodNamed B.named
  have hlocks := B.notSynchronized
  have hl := lv_entry ([.int x, .int q]) (n := 2) (Nat.le_of_ble_eq_true rfl)
  rw [lg_entry_eq]
  generalize (lg_sl ([.int x, .int q]) ++ List.replicate (2 - (lg_sl ([.int x, .int q])).length) Slot.unset).toArray = ls at hl ⊢
  have hl : lv_has ls 2 [(0, .int x), (1, .int q)] := hl
  refine lv_iload_n hx hb d_Printer_shortEscape_0 rfl (lv_at hl 0 rfl) ?_
  by_cases hs1_0 : x = 8
  · refine lv_tableIn (tgt := 40) (off := 39) hx hb d_Printer_shortEscape_1 (by rw [hs1_0]; decide) (by rw [hs1_0]; decide) (by rw [hs1_0]; rfl) (by decide) ?_
    refine lv_bipush (v := 98) hx hb d_Printer_shortEscape_40 (by decide) ?_
    exact W.iret (v := 98) hx hb hr (fun t ht hW => ⟨98, rfl, trivial, ht⟩) (fun _ h => nomatch h) d_Printer_shortEscape_42
  · by_cases hs1_1 : x = 9
    · refine lv_tableIn (tgt := 43) (off := 42) hx hb d_Printer_shortEscape_1 (by rw [hs1_1]; decide) (by rw [hs1_1]; decide) (by rw [hs1_1]; rfl) (by decide) ?_
      refine lv_bipush (v := 116) hx hb d_Printer_shortEscape_43 (by decide) ?_
      exact W.iret (v := 116) hx hb hr (fun t ht hW => ⟨116, rfl, trivial, ht⟩) (fun _ h => nomatch h) d_Printer_shortEscape_45
    · by_cases hs1_2 : x = 10
      · refine lv_tableIn (tgt := 46) (off := 45) hx hb d_Printer_shortEscape_1 (by rw [hs1_2]; decide) (by rw [hs1_2]; decide) (by rw [hs1_2]; rfl) (by decide) ?_
        refine lv_bipush (v := 110) hx hb d_Printer_shortEscape_46 (by decide) ?_
        exact W.iret (v := 110) hx hb hr (fun t ht hW => ⟨110, rfl, trivial, ht⟩) (fun _ h => nomatch h) d_Printer_shortEscape_48
      · by_cases hs1_3 : x = 11
        · refine lv_tableIn (tgt := 55) (off := 54) hx hb d_Printer_shortEscape_1 (by rw [hs1_3]; decide) (by rw [hs1_3]; decide) (by rw [hs1_3]; rfl) (by decide) ?_
          refine lv_iload_n hx hb d_Printer_shortEscape_55 rfl (lv_at hl 0 rfl) ?_
          refine lv_iload_n hx hb d_Printer_shortEscape_56 rfl (lv_at hl 1 rfl) ?_
          refine lv_icmp_eq (tgt := 66) hx hb d_Printer_shortEscape_57 (by decide) (fun c57 => ?_) (fun c57 => ?_)
          · refine lv_iload_n hx hb d_Printer_shortEscape_66 rfl (lv_at hl 0 rfl) ?_
            refine lv_goto (tgt := 71) hx hb d_Printer_shortEscape_67 (by decide) ?_
            exact W.iret (v := x) hx hb hr (fun t ht hW => ⟨x, rfl, trivial, ht⟩) (fun _ h => nomatch h) d_Printer_shortEscape_71
          · refine lv_iload_n hx hb d_Printer_shortEscape_60 rfl (lv_at hl 0 rfl) ?_
            refine lv_bipush (v := 92) hx hb d_Printer_shortEscape_61 (by decide) ?_
            refine lv_icmp_ne (tgt := 70) hx hb d_Printer_shortEscape_63 (by decide) (fun c63 => ?_) (fun c63 => ?_)
            · refine lv_iconst (v := 0) hx hb d_Printer_shortEscape_70 (by decide) ?_
              exact W.iret (v := 0) hx hb hr (fun t ht hW => ⟨0, rfl, trivial, ht⟩) (fun _ h => nomatch h) d_Printer_shortEscape_71
            · refine lv_iload_n hx hb d_Printer_shortEscape_66 rfl (lv_at hl 0 rfl) ?_
              refine lv_goto (tgt := 71) hx hb d_Printer_shortEscape_67 (by decide) ?_
              exact W.iret (v := x) hx hb hr (fun t ht hW => ⟨x, rfl, trivial, ht⟩) (fun _ h => nomatch h) d_Printer_shortEscape_71
        · by_cases hs1_4 : x = 12
          · refine lv_tableIn (tgt := 49) (off := 48) hx hb d_Printer_shortEscape_1 (by rw [hs1_4]; decide) (by rw [hs1_4]; decide) (by rw [hs1_4]; rfl) (by decide) ?_
            refine lv_bipush (v := 102) hx hb d_Printer_shortEscape_49 (by decide) ?_
            exact W.iret (v := 102) hx hb hr (fun t ht hW => ⟨102, rfl, trivial, ht⟩) (fun _ h => nomatch h) d_Printer_shortEscape_51
          · by_cases hs1_5 : x = 13
            · refine lv_tableIn (tgt := 52) (off := 51) hx hb d_Printer_shortEscape_1 (by rw [hs1_5]; decide) (by rw [hs1_5]; decide) (by rw [hs1_5]; rfl) (by decide) ?_
              refine lv_bipush (v := 114) hx hb d_Printer_shortEscape_52 (by decide) ?_
              exact W.iret (v := 114) hx hb hr (fun t ht hW => ⟨114, rfl, trivial, ht⟩) (fun _ h => nomatch h) d_Printer_shortEscape_54
            · have hk1_0 := i_neN 8 rfl hs1_0
              have hk1_1 := i_neN 9 rfl hs1_1
              have hk1_2 := i_neN 10 rfl hs1_2
              have hk1_3 := i_neN 11 rfl hs1_3
              have hk1_4 := i_neN 12 rfl hs1_4
              have hk1_5 := i_neN 13 rfl hs1_5
              refine lv_tableOut (tgt := 55) hx hb d_Printer_shortEscape_1 (by omega) (by decide) ?_
              refine lv_iload_n hx hb d_Printer_shortEscape_55 rfl (lv_at hl 0 rfl) ?_
              refine lv_iload_n hx hb d_Printer_shortEscape_56 rfl (lv_at hl 1 rfl) ?_
              refine lv_icmp_eq (tgt := 66) hx hb d_Printer_shortEscape_57 (by decide) (fun c57 => ?_) (fun c57 => ?_)
              · refine lv_iload_n hx hb d_Printer_shortEscape_66 rfl (lv_at hl 0 rfl) ?_
                refine lv_goto (tgt := 71) hx hb d_Printer_shortEscape_67 (by decide) ?_
                exact W.iret (v := x) hx hb hr (fun t ht hW => ⟨x, rfl, trivial, ht⟩) (fun _ h => nomatch h) d_Printer_shortEscape_71
              · refine lv_iload_n hx hb d_Printer_shortEscape_60 rfl (lv_at hl 0 rfl) ?_
                refine lv_bipush (v := 92) hx hb d_Printer_shortEscape_61 (by decide) ?_
                refine lv_icmp_ne (tgt := 70) hx hb d_Printer_shortEscape_63 (by decide) (fun c63 => ?_) (fun c63 => ?_)
                · refine lv_iconst (v := 0) hx hb d_Printer_shortEscape_70 (by decide) ?_
                  exact W.iret (v := 0) hx hb hr (fun t ht hW => ⟨0, rfl, trivial, ht⟩) (fun _ h => nomatch h) d_Printer_shortEscape_71
                · refine lv_iload_n hx hb d_Printer_shortEscape_66 rfl (lv_at hl 0 rfl) ?_
                  refine lv_goto (tgt := 71) hx hb d_Printer_shortEscape_67 (by decide) ?_
                  exact W.iret (v := x) hx hb hr (fun t ht hW => ⟨x, rfl, trivial, ht⟩) (fun _ h => nomatch h) d_Printer_shortEscape_71
abbrev b_Printer_number : ByteArray := prog_5_method_8_code
def y_Printer_number : MethodName := ⟨"QueryBench$Printer", "number", "(J)V"⟩
abbrev k_Printer_number : Cond := .code y_Printer_number b_Printer_number 7 none
theorem i_Printer_number : k_Printer_number ∈ gtbl := gt_in 966 (by decide +kernel) (by decide +kernel)
theorem d_Printer_number_0 : decode b_Printer_number 0 = .ok (.lload_n 1, 1) := by decide +kernel
theorem d_Printer_number_1 : decode b_Printer_number 1 = .ok (.lconst 0, 1) := by decide +kernel
theorem d_Printer_number_2 : decode b_Printer_number 2 = .ok (.lcmp, 1) := by decide +kernel
theorem d_Printer_number_3 : decode b_Printer_number 3 = .ok (.ifCond .ge 8, 3) := by decide +kernel
theorem d_Printer_number_6 : decode b_Printer_number 6 = .ok (.lload_n 1, 1) := by decide +kernel
theorem d_Printer_number_7 : decode b_Printer_number 7 = .ok (.lneg, 1) := by decide +kernel
theorem d_Printer_number_8 : decode b_Printer_number 8 = .ok (.goto 4, 3) := by decide +kernel
theorem d_Printer_number_11 : decode b_Printer_number 11 = .ok (.lload_n 1, 1) := by decide +kernel
theorem d_Printer_number_12 : decode b_Printer_number 12 = .ok (.lstore_n 3, 1) := by decide +kernel
theorem d_Printer_number_13 : decode b_Printer_number 13 = .ok (.lload_n 1, 1) := by decide +kernel
theorem d_Printer_number_14 : decode b_Printer_number 14 = .ok (.lconst 0, 1) := by decide +kernel
theorem d_Printer_number_15 : decode b_Printer_number 15 = .ok (.lcmp, 1) := by decide +kernel
theorem d_Printer_number_16 : decode b_Printer_number 16 = .ok (.ifCond .ge 9, 3) := by decide +kernel
theorem d_Printer_number_19 : decode b_Printer_number 19 = .ok (.aload_n 0, 1) := by decide +kernel
theorem d_Printer_number_20 : decode b_Printer_number 20 = .ok (.bipush 45, 2) := by decide +kernel
theorem d_Printer_number_22 : decode b_Printer_number 22 = .ok (.invokevirtual 25, 3) := by decide +kernel
theorem d_Printer_number_25 : decode b_Printer_number 25 = .ok (.lconst 1, 1) := by decide +kernel
theorem d_Printer_number_26 : decode b_Printer_number 26 = .ok (.lstore 5, 2) := by decide +kernel
theorem d_Printer_number_28 : decode b_Printer_number 28 = .ok (.lload 5, 2) := by decide +kernel
theorem d_Printer_number_30 : decode b_Printer_number 30 = .ok (.lload_n 3, 1) := by decide +kernel
theorem d_Printer_number_31 : decode b_Printer_number 31 = .ok (.ldc2_w 94, 3) := by decide +kernel
theorem d_Printer_number_34 : decode b_Printer_number 34 = .ok (.ldiv, 1) := by decide +kernel
theorem d_Printer_number_35 : decode b_Printer_number 35 = .ok (.lcmp, 1) := by decide +kernel
theorem d_Printer_number_36 : decode b_Printer_number 36 = .ok (.ifCond .gt 14, 3) := by decide +kernel
theorem d_Printer_number_39 : decode b_Printer_number 39 = .ok (.lload 5, 2) := by decide +kernel
theorem d_Printer_number_41 : decode b_Printer_number 41 = .ok (.ldc2_w 94, 3) := by decide +kernel
theorem d_Printer_number_44 : decode b_Printer_number 44 = .ok (.lmul, 1) := by decide +kernel
theorem d_Printer_number_45 : decode b_Printer_number 45 = .ok (.lstore 5, 2) := by decide +kernel
theorem d_Printer_number_47 : decode b_Printer_number 47 = .ok (.goto (-19), 3) := by decide +kernel
theorem d_Printer_number_50 : decode b_Printer_number 50 = .ok (.lload 5, 2) := by decide +kernel
theorem d_Printer_number_52 : decode b_Printer_number 52 = .ok (.lconst 0, 1) := by decide +kernel
theorem d_Printer_number_53 : decode b_Printer_number 53 = .ok (.lcmp, 1) := by decide +kernel
theorem d_Printer_number_54 : decode b_Printer_number 54 = .ok (.ifCond .le 30, 3) := by decide +kernel
theorem d_Printer_number_57 : decode b_Printer_number 57 = .ok (.aload_n 0, 1) := by decide +kernel
theorem d_Printer_number_58 : decode b_Printer_number 58 = .ok (.bipush 48, 2) := by decide +kernel
theorem d_Printer_number_60 : decode b_Printer_number 60 = .ok (.lload_n 3, 1) := by decide +kernel
theorem d_Printer_number_61 : decode b_Printer_number 61 = .ok (.lload 5, 2) := by decide +kernel
theorem d_Printer_number_63 : decode b_Printer_number 63 = .ok (.ldiv, 1) := by decide +kernel
theorem d_Printer_number_64 : decode b_Printer_number 64 = .ok (.ldc2_w 94, 3) := by decide +kernel
theorem d_Printer_number_67 : decode b_Printer_number 67 = .ok (.lrem, 1) := by decide +kernel
theorem d_Printer_number_68 : decode b_Printer_number 68 = .ok (.l2i, 1) := by decide +kernel
theorem d_Printer_number_69 : decode b_Printer_number 69 = .ok (.iadd, 1) := by decide +kernel
theorem d_Printer_number_70 : decode b_Printer_number 70 = .ok (.invokevirtual 25, 3) := by decide +kernel
theorem d_Printer_number_73 : decode b_Printer_number 73 = .ok (.lload 5, 2) := by decide +kernel
theorem d_Printer_number_75 : decode b_Printer_number 75 = .ok (.ldc2_w 94, 3) := by decide +kernel
theorem d_Printer_number_78 : decode b_Printer_number 78 = .ok (.ldiv, 1) := by decide +kernel
theorem d_Printer_number_79 : decode b_Printer_number 79 = .ok (.lstore 5, 2) := by decide +kernel
theorem d_Printer_number_81 : decode b_Printer_number 81 = .ok (.goto (-31), 3) := by decide +kernel
theorem d_Printer_number_84 : decode b_Printer_number 84 = .ok (.return_, 1) := by decide +kernel
set_option maxHeartbeats 4000000 in
set_option maxRecDepth 100000 in
/-- Printer.number -/
theorem c_Printer_number (l : Launch) (hl9 : l.stackTraces = false) (dC : Nat → ClassId) (dI : Nat → Nat → Nat) (sz : Heap) (cB : ClassId) (p1 pb ps : Nat) (g : Nat → Int32) (k : Nat) (hk : k ≤ 16384) (x : Int64) : vx_Met l y_Printer_number (k_Printer_number :: gtbl) ({ frames := 9, cells := 1, slots := 6, locals := 150 }) (va_Pc [.ref p1, .long x] (mx dC dI ([(p1, .inr (3, [.ref pb, .int (nI k), .ref ps])), (pb, .inl (cB, 16384, .inl g))]) [(cB, .byte)] sz)) (va_Qv (fun (u : Nat × (Nat → Int32)) => u.1 ≤ 16384) (fun u t9 => mz dC dI ([(p1, .inr (3, [.ref pb, .int (nI u.1), .ref ps])), (pb, .inl (cB, 16384, .inl u.2))]) [(cB, .byte)] (va_A ([(p1, .inr (3, [.ref pb, .int (nI k), .ref ps])), (pb, .inl (cB, 16384, .inl g))]) sz.size) t9 ∧ szk sz t9.heap (0) (0)) (va_A ([(p1, .inr (3, [.ref pb, .int (nI k), .ref ps])), (pb, .inl (cB, 16384, .inl g))]) sz.size)) (vx_X (fun (u : Int32 × (Nat → Int32)) => True) (fun En u t9 => En = IOB ∧ mz dC dI ([(p1, .inr (3, [.ref pb, .int u.1, .ref ps])), (pb, .inl (cB, 16384, .inl u.2))]) [(cB, .byte)] (va_A ([(p1, .inr (3, [.ref pb, .int (nI k), .ref ps])), (pb, .inl (cB, 16384, .inl g))]) sz.size) t9) (va_A ([(p1, .inr (3, [.ref pb, .int (nI k), .ref ps])), (pb, .inl (cB, 16384, .inl g))]) sz.size)) (1) (6) (va_A ([(p1, .inr (3, [.ref pb, .int (nI k), .ref ps])), (pb, .inl (cB, 16384, .inl g))]) sz.size) := by
  refine vx_ofW (cc := b_Printer_number) (maxL := 7) (ret := none) (by decide) rfl ?_
  intro p e s m args below meth c s₁ B hml hex hv
  obtain ⟨rfl, ⟨hsz, hP, hK, hD0⟩, hN, hZ⟩ := hv
  have hx := B.exec
  have hb := B.bytes
  have hr := B.returns
  have hts0 := atoms_spec (ws := k_Printer_number :: gtbl) B.pre
  have hts := fun w h => hts0 w (List.mem_cons_of_mem _ h)
  have hown : s.vm.findClass R_Printer = some m.cls := findClass_of_methodNamed B.named
  have hlocks := B.notSynchronized
  subst hsz
  have hD := hD0.self (sz := s.heap.size)
  generalize hAe : va_A ([(p1, .inr (3, [.ref pb, .int (nI k), .ref ps])), (pb, .inl (cB, 16384, .inl g))]) s.heap.size = A at hD hZ ⊢
  have hA : ∀ q : Nat, s.heap.size ≤ q → A q := fun q h => by rw [← hAe]; exact Or.inr h
  have hS : va_S A s.heap s.heap [] := va_S.rf
  have hP : va_P (dC, dI) classes ([(p1, .inr (3, [.ref pb, .int (nI k), .ref ps])), (pb, .inl (cB, 16384, .inl g))]) s.heap := hP
  have hl := lv_entry ([.ref p1, .long x]) (n := 7) (Nat.le_of_ble_eq_true rfl)
  rw [lg_entry_eq]
  generalize (lg_sl ([.ref p1, .long x]) ++ List.replicate (7 - (lg_sl ([.ref p1, .long x])).length) Slot.unset).toArray = ls at hl ⊢
  have hl : lv_has ls 7 [(0, .ref p1), (1, .long x)] := hl
  refine lv_lload_n hx hb d_Printer_number_0 rfl (lv_at hl 1 rfl) ?_
  refine lv_lconst (v := 0) hx hb d_Printer_number_1 (by decide) ?_
  refine W.lcmp hx hb d_Printer_number_2 ?_
  refine lv_if_ge (tgt := 11) hx hb d_Printer_number_3 (by decide) (fun c3 => ?_) (fun c3 => ?_)
  · refine lv_lload_n hx hb d_Printer_number_11 rfl (lv_at hl 1 rfl) ?_
    refine lv_lstore_n (lv' := [(3, .long x), (0, .ref p1), (1, .long x)]) hx hb d_Printer_number_12 rfl hl (by decide) rfl (fun ls hl => ?_)
    refine lv_lload_n hx hb d_Printer_number_13 rfl (lv_at hl 2 rfl) ?_
    refine lv_lconst (v := 0) hx hb d_Printer_number_14 (by decide) ?_
    refine W.lcmp hx hb d_Printer_number_15 ?_
    refine lv_if_ge (tgt := 25) hx hb d_Printer_number_16 (by decide) (fun c16 => ?_) (fun c16 => ?_)
    · refine lv_lconst (v := 1) hx hb d_Printer_number_25 (by decide) ?_
      refine lv_lstore (lv' := [(5, .long 1), (3, .long x), (0, .ref p1), (1, .long x)]) hx hb d_Printer_number_26 hl (by decide) rfl (fun ls hl => ?_)
      obtain ⟨sz9, hsz9⟩ : ∃ y : Int64, y = x := ⟨_, rfl⟩
      have hl : lv_has ls 7 [(5, .long 1), (3, .long sz9), (0, .ref p1), (1, .long x)] := by rw [hsz9]; exact hl
      refine w_loop (D := (dC, dI)) (cl := classes) (A := A) (H0 := s.heap) (nL := 7) 28 (σ := Nat) (fun n => 1 ≤ n ∧ n < 2 ^ 63) (fun n => 2 ^ 63 - n) (fun n => [(p1, .inr (3, [.ref pb, .int (nI k), .ref ps])), (pb, .inl (cB, 16384, .inl g))]) (fun n => [(0, .ref p1), (3, .long sz9), (5, .long (lN n))]) ?_ 1 ⟨by decide, by decide⟩ hP hD hS (lv_sub hl [2, 1, 0] rfl)
      rintro n H locs ls hI ih hP hD hS hl
      have hP : va_P (dC, dI) classes ([(p1, .inr (3, [.ref pb, .int (nI k), .ref ps])), (pb, .inl (cB, 16384, .inl g))]) H := hP
      have hD : va_D A ([(p1, .inr (3, [.ref pb, .int (nI k), .ref ps])), (pb, .inl (cB, 16384, .inl g))]) := hD
      have hl : lv_has ls 7 [(0, .ref p1), (3, .long sz9), (5, .long (lN n))] := hl
      obtain ⟨hn1, hn2⟩ := hI
      have hn1 : 1 ≤ n := hn1
      have hn2 : n < 2 ^ 63 := hn2
      refine lv_lload hx hb d_Printer_number_28 (lv_at hl 2 rfl) ?_
      refine lv_lload_n hx hb d_Printer_number_30 rfl (lv_at hl 1 rfl) ?_
      refine lv_ldc2 (v := 10) hx hb hown (hts _ z_967) d_Printer_number_31 ?_
      refine lv_ldiv hx hb d_Printer_number_34 (by decide) ?_
      refine W.lcmp hx hb d_Printer_number_35 ?_
      refine lv_if_gt (tgt := 50) hx hb d_Printer_number_36 (by decide) (fun c36 => ?_) (fun c36 => ?_)
      · refine w_loop (D := (dC, dI)) (cl := classes) (A := A) (H0 := s.heap) (nL := 7) 50 (σ := Nat × Nat × (Nat → Int32)) (fun ⟨n, k, g⟩ => n < 2 ^ 63 ∧ k ≤ 16384) (fun ⟨n, k, g⟩ => n) (fun ⟨n, k, g⟩ => [(p1, .inr (3, [.ref pb, .int (nI k), .ref ps])), (pb, .inl (cB, 16384, .inl g))]) (fun ⟨n, k, g⟩ => [(0, .ref p1), (3, .long sz9), (5, .long (lN n))]) ?_ (n, k, g) ⟨hn2, hk⟩ hP hD hS (lv_sub hl [0, 1, 2] rfl)
        rintro ⟨n, k, g⟩ H locs ls hI ih hP hD hS hl
        have hP : va_P (dC, dI) classes ([(p1, .inr (3, [.ref pb, .int (nI k), .ref ps])), (pb, .inl (cB, 16384, .inl g))]) H := hP
        have hD : va_D A ([(p1, .inr (3, [.ref pb, .int (nI k), .ref ps])), (pb, .inl (cB, 16384, .inl g))]) := hD
        have hl : lv_has ls 7 [(0, .ref p1), (3, .long sz9), (5, .long (lN n))] := hl
        obtain ⟨hn2, hk⟩ := hI
        have hn2 : n < 2 ^ 63 := hn2
        have hk : k ≤ 16384 := hk
        refine lv_lload hx hb d_Printer_number_50 (lv_at hl 2 rfl) ?_
        refine lv_lconst (v := 0) hx hb d_Printer_number_52 (by decide) ?_
        refine W.lcmp hx hb d_Printer_number_53 ?_
        refine lv_if_le (tgt := 84) hx hb d_Printer_number_54 (by decide) (fun c54 => ?_) (fun c54 => ?_)
        · refine w_same (fun hq => ?_)
          refine W.widen (k := 1) (n := 6) (Nat.le_of_ble_eq_true rfl) (Nat.le_of_ble_eq_true rfl) ?_
          refine vx_ret ?_
          exact W.vret hx hb hr (fun t9 ht hW => ⟨⟨(k, g), rfl, hk, ⟨by rw [ht]; exact hP, va_K.moved hW.alike hK, hD⟩, by rw [ht]; exact hq⟩, hS.F ht⟩) hS.2.2 d_Printer_number_84
        · have hn0 : 0 < n := Nat.pos_of_ne_zero (fun h => c54 ((lg_cmp_le _ _).mpr (by rw [h]; decide)))
          have hnz : ¬ lN n = 0 := fun h => by have := (pk_lEQ (a := n) (b := 0) (by omega) (by decide)).mp h; omega
          refine lv_aload_n hx hb d_Printer_number_57 rfl (lv_at hl 0 rfl) ?_
          refine lv_bipush (v := 48) hx hb d_Printer_number_58 (by decide) ?_
          refine lv_lload_n hx hb d_Printer_number_60 rfl (lv_at hl 1 rfl) ?_
          refine lv_lload hx hb d_Printer_number_61 (lv_at hl 2 rfl) ?_
          refine lv_ldiv hx hb d_Printer_number_63 hnz ?_
          refine lv_ldc2 (v := 10) hx hb hown (hts _ z_967) d_Printer_number_64 ?_
          refine lv_lrem hx hb d_Printer_number_67 (by decide) ?_
          refine lv_l2i (v := (((sz9 / (lN n)) - (sz9 / (lN n)) / 10 * 10)).toInt32) hx hb d_Printer_number_68 rfl ?_
          refine lv_iadd hx hb d_Printer_number_69 ?_
          refine lv_topi (fun x1 e1 => ?_)
          have hPc := hP.sub (ws' := [(p1, .inr (3, [.ref pb, .int (nI k), .ref ps])), (pb, .inl (cB, 16384, .inl g))]) [0, 1] rfl
          have hDc := hD.sub (ws' := [(p1, .inr (3, [.ref pb, .int (nI k), .ref ps])), (pb, .inl (cB, 16384, .inl g))]) [0, 1] (by decide) rfl
          have hFc := va_free (wc := [(p1, .inr (3, [.ref pb, .int (nI k), .ref ps])), (pb, .inl (cB, 16384, .inl g))]) hD hS hA [0, 1] rfl
          have hKc := hK.sub (tys' := [(cB, .byte)]) [0] rfl
          refine w_same (fun hq0 => ?_)
          refine vx_callv (vx_runV (As := [.int x1]) (rest := []) ⟨hx, hb, hml, hown, hts⟩ (w_put l hl9 dC dI cB p1 pb H (.ref ps) g k x1 hk) (cwV 1 hts (gt_V (own := R_Printer) (C := R_Printer) (i := 25) (y := y_Printer_put) i_Printer_put w_957 w_959 (gt_sel (y := y_Printer_put) (n := 3) (by decide +kernel)) w_6) rfl rfl rfl (by decide +kernel) ⟨Nat.le_of_ble_eq_true rfl, Nat.le_of_ble_eq_true rfl⟩) ⟨mx_blind, va_recv hK hP (ci := 3) (q0 := 0) rfl rfl, fun U hU hW => ⟨rfl, ⟨hU, by rw [hU]; exact hPc, va_K.moved hW.alike hKc, hDc.weaken (fun _ _ _ _ => trivial)⟩, hN.warm hW, by rw [hU]; exact ZX.moved' hW.alike (ZX.narrow' (ZX.kept' hZ hS.2.1) hFc)⟩⟩ rfl rfl hl.1 rfl (lv_room (Nat.le_of_ble_eq_true rfl)) d_Printer_number_70 ⟨Nat.le_of_ble_eq_true rfl, Nat.le_of_ble_eq_true rfl⟩) hS (fun q _ h => hFc q h) hFc (fun q _ h => hFc q h) (fun En ce q9 ⟨kx, gx⟩ t9 H1 locs ht hvm hw hB hz1 hk1 hS hce hcv hcl => ?_) (fun ⟨k1, g1⟩ t9 H1 locs ht hvm hw hB hz1 hk1 hS => ?_)
          · obtain ⟨hEn, hP1, hK1, hD1⟩ := hB
            rw [ht] at hP1
            obtain ⟨hP, hD⟩ := va_join (wr := []) (w1 := [(p1, .inr (3, [.ref pb, .int (nI kx), .ref ps])), (pb, .inl (cB, 16384, .inl gx))]) hP hD [0, 1] [] rfl rfl (by decide) (by decide) hk1 hFc hP1 hD1
            generalize H1 = H at hP hS hce ⊢
            have hP : va_P (dC, dI) classes ([(p1, .inr (3, [.ref pb, .int (nI kx), .ref ps])), (pb, .inl (cB, 16384, .inl gx))]) H := hP
            have hD : va_D A ([(p1, .inr (3, [.ref pb, .int (nI kx), .ref ps])), (pb, .inl (cB, 16384, .inl gx))]) := hD
            exact vx_out (fun x hx => (hex x hx).elim) hlocks hce hcv hcl (fun t9 ht2 ha => ⟨(nI kx, gx), trivial, ⟨hEn, by rw [ht2]; exact hP, va_K.moved ha hK, hD⟩, hS.F ht2⟩) hS.2.2 (Nat.le_of_ble_eq_true rfl) (Nat.le_of_ble_eq_true rfl)
          · obtain ⟨⟨hP1, hK1, hD1⟩, hz9⟩ := hB
            rw [ht] at hP1
            rw [ht] at hz9
            refine w_tight (hq0.trans hz9) ?_
            have hq0 := hq0.trans hz9
            obtain ⟨hP, hD⟩ := va_join (wr := []) (w1 := [(p1, .inr (3, [.ref pb, .int (nI k1), .ref ps])), (pb, .inl (cB, 16384, .inl g1))]) hP hD [0, 1] [] rfl rfl (by decide) (by decide) hk1 hFc hP1 hD1
            generalize H1 = H at hP hS hq0 ⊢
            have hP : va_P (dC, dI) classes ([(p1, .inr (3, [.ref pb, .int (nI k1), .ref ps])), (pb, .inl (cB, 16384, .inl g1))]) H := hP
            have hD : va_D A ([(p1, .inr (3, [.ref pb, .int (nI k1), .ref ps])), (pb, .inl (cB, 16384, .inl g1))]) := hD
            have hk1 : k1 ≤ 16384 := hw
            refine lv_lload hx hb d_Printer_number_73 (lv_at hl 2 rfl) ?_
            refine lv_ldc2 (v := 10) hx hb hown (hts _ z_967) d_Printer_number_75 ?_
            refine lv_ldiv hx hb d_Printer_number_78 (by decide) ?_
            refine W.eq (g2 := F0 m 79 ls [.long (lN (n / 10))]) (by rw [show ((lN n) / 10) = (lN (n / 10)) from (show lN n / 10 = lN (n / 10) from pk_lDiv (by omega) (by decide) (by decide))]) ?_
            refine lv_lstore (lv' := [(5, .long (lN (n / 10))), (0, .ref p1), (3, .long sz9)]) hx hb d_Printer_number_79 hl (by decide) rfl (fun ls hl => ?_)
            refine lv_goto (tgt := 50) hx hb d_Printer_number_81 (by decide) ?_
            exact ih (n / 10, k1, g1) _ _ _ ⟨show n / 10 < 2 ^ 63 by omega, hk1⟩ (by show n / 10 < n; omega) hP hD hS (lv_sub hl [1, 2, 0] rfl)
      · refine lv_lload hx hb d_Printer_number_39 (lv_at hl 2 rfl) ?_
        refine lv_ldc2 (v := 10) hx hb hown (hts _ z_967) d_Printer_number_41 ?_
        refine lv_lmul hx hb d_Printer_number_44 ?_
        refine W.eq (g2 := F0 m 45 ls [.long (lN (n * 10))]) (by rw [show ((lN n) * 10) = (lN (n * 10)) from (show lN n * 10 = lN (n * 10) from lN_mul n 10)]) ?_
        refine lv_lstore (lv' := [(5, .long (lN (n * 10))), (0, .ref p1), (3, .long sz9)]) hx hb d_Printer_number_45 hl (by decide) rfl (fun ls hl => ?_)
        refine lv_goto (tgt := 28) hx hb d_Printer_number_47 (by decide) ?_
        obtain ⟨m9, hm1, hm2, hm3⟩ := ten_grow hn1 hn2 (Int64.not_lt.mp (fun h => c36 ((lg_cmp_gt _ _).mpr h)))
        exact ih (n * 10) _ _ _ ⟨show 1 ≤ n * 10 by omega, show n * 10 < 2 ^ 63 by omega⟩ (by show 2 ^ 63 - n * 10 < 2 ^ 63 - n; omega) hP hD hS (lv_sub hl [1, 2, 0] rfl)
    · refine lv_aload_n hx hb d_Printer_number_19 rfl (lv_at hl 1 rfl) ?_
      refine lv_bipush (v := 45) hx hb d_Printer_number_20 (by decide) ?_
      have hPc := hP.sub (ws' := [(p1, .inr (3, [.ref pb, .int (nI k), .ref ps])), (pb, .inl (cB, 16384, .inl g))]) [0, 1] rfl
      have hDc := hD.sub (ws' := [(p1, .inr (3, [.ref pb, .int (nI k), .ref ps])), (pb, .inl (cB, 16384, .inl g))]) [0, 1] (by decide) rfl
      have hFc := va_free (wc := [(p1, .inr (3, [.ref pb, .int (nI k), .ref ps])), (pb, .inl (cB, 16384, .inl g))]) hD hS hA [0, 1] rfl
      have hKc := hK.sub (tys' := [(cB, .byte)]) [0] rfl
      refine w_same (fun hq0 => ?_)
      refine vx_callv (vx_runV (As := [.int 45]) (rest := []) ⟨hx, hb, hml, hown, hts⟩ (w_put l hl9 dC dI cB p1 pb s.heap (.ref ps) g k 45 hk) (cwV 1 hts (gt_V (own := R_Printer) (C := R_Printer) (i := 25) (y := y_Printer_put) i_Printer_put w_957 w_959 (gt_sel (y := y_Printer_put) (n := 3) (by decide +kernel)) w_6) rfl rfl rfl (by decide +kernel) ⟨Nat.le_of_ble_eq_true rfl, Nat.le_of_ble_eq_true rfl⟩) ⟨mx_blind, va_recv hK hP (ci := 3) (q0 := 0) rfl rfl, fun U hU hW => ⟨rfl, ⟨hU, by rw [hU]; exact hPc, va_K.moved hW.alike hKc, hDc.weaken (fun _ _ _ _ => trivial)⟩, hN.warm hW, by rw [hU]; exact ZX.moved' hW.alike (ZX.narrow' (ZX.kept' hZ hS.2.1) hFc)⟩⟩ rfl rfl hl.1 rfl (lv_room (Nat.le_of_ble_eq_true rfl)) d_Printer_number_22 ⟨Nat.le_of_ble_eq_true rfl, Nat.le_of_ble_eq_true rfl⟩) hS (fun q _ h => hFc q h) hFc (fun q _ h => hFc q h) (fun En ce q9 ⟨kx, gx⟩ t9 H1 locs ht hvm hw hB hz1 hk1 hS hce hcv hcl => ?_) (fun ⟨k2, g2⟩ t9 H1 locs ht hvm hw hB hz1 hk1 hS => ?_)
      · obtain ⟨hEn, hP1, hK1, hD1⟩ := hB
        rw [ht] at hP1
        obtain ⟨hP, hD⟩ := va_join (wr := []) (w1 := [(p1, .inr (3, [.ref pb, .int (nI kx), .ref ps])), (pb, .inl (cB, 16384, .inl gx))]) hP hD [0, 1] [] rfl rfl (by decide) (by decide) hk1 hFc hP1 hD1
        generalize H1 = H at hP hS hce ⊢
        have hP : va_P (dC, dI) classes ([(p1, .inr (3, [.ref pb, .int (nI kx), .ref ps])), (pb, .inl (cB, 16384, .inl gx))]) H := hP
        have hD : va_D A ([(p1, .inr (3, [.ref pb, .int (nI kx), .ref ps])), (pb, .inl (cB, 16384, .inl gx))]) := hD
        exact vx_out (fun x hx => (hex x hx).elim) hlocks hce hcv hcl (fun t9 ht2 ha => ⟨(nI kx, gx), trivial, ⟨hEn, by rw [ht2]; exact hP, va_K.moved ha hK, hD⟩, hS.F ht2⟩) hS.2.2 (Nat.le_of_ble_eq_true rfl) (Nat.le_of_ble_eq_true rfl)
      · obtain ⟨⟨hP1, hK1, hD1⟩, hz9⟩ := hB
        rw [ht] at hP1
        rw [ht] at hz9
        refine w_tight (hq0.trans hz9) ?_
        have hq0 := hq0.trans hz9
        obtain ⟨hP, hD⟩ := va_join (wr := []) (w1 := [(p1, .inr (3, [.ref pb, .int (nI k2), .ref ps])), (pb, .inl (cB, 16384, .inl g2))]) hP hD [0, 1] [] rfl rfl (by decide) (by decide) hk1 hFc hP1 hD1
        generalize H1 = H at hP hS hq0 ⊢
        have hP : va_P (dC, dI) classes ([(p1, .inr (3, [.ref pb, .int (nI k2), .ref ps])), (pb, .inl (cB, 16384, .inl g2))]) H := hP
        have hD : va_D A ([(p1, .inr (3, [.ref pb, .int (nI k2), .ref ps])), (pb, .inl (cB, 16384, .inl g2))]) := hD
        have hk2 : k2 ≤ 16384 := hw
        refine lv_lconst (v := 1) hx hb d_Printer_number_25 (by decide) ?_
        refine lv_lstore (lv' := [(5, .long 1), (3, .long x), (0, .ref p1), (1, .long x)]) hx hb d_Printer_number_26 hl (by decide) rfl (fun ls hl => ?_)
        obtain ⟨sz9, hsz9⟩ : ∃ y : Int64, y = x := ⟨_, rfl⟩
        have hl : lv_has ls 7 [(5, .long 1), (3, .long sz9), (0, .ref p1), (1, .long x)] := by rw [hsz9]; exact hl
        refine w_loop (D := (dC, dI)) (cl := classes) (A := A) (H0 := s.heap) (nL := 7) 28 (σ := Nat) (fun n => 1 ≤ n ∧ n < 2 ^ 63) (fun n => 2 ^ 63 - n) (fun n => [(p1, .inr (3, [.ref pb, .int (nI k2), .ref ps])), (pb, .inl (cB, 16384, .inl g2))]) (fun n => [(0, .ref p1), (3, .long sz9), (5, .long (lN n))]) ?_ 1 ⟨by decide, by decide⟩ hP hD hS (lv_sub hl [2, 1, 0] rfl)
        rintro n H locs ls hI ih hP hD hS hl
        have hP : va_P (dC, dI) classes ([(p1, .inr (3, [.ref pb, .int (nI k2), .ref ps])), (pb, .inl (cB, 16384, .inl g2))]) H := hP
        have hD : va_D A ([(p1, .inr (3, [.ref pb, .int (nI k2), .ref ps])), (pb, .inl (cB, 16384, .inl g2))]) := hD
        have hl : lv_has ls 7 [(0, .ref p1), (3, .long sz9), (5, .long (lN n))] := hl
        obtain ⟨hn1, hn2⟩ := hI
        have hn1 : 1 ≤ n := hn1
        have hn2 : n < 2 ^ 63 := hn2
        refine lv_lload hx hb d_Printer_number_28 (lv_at hl 2 rfl) ?_
        refine lv_lload_n hx hb d_Printer_number_30 rfl (lv_at hl 1 rfl) ?_
        refine lv_ldc2 (v := 10) hx hb hown (hts _ z_967) d_Printer_number_31 ?_
        refine lv_ldiv hx hb d_Printer_number_34 (by decide) ?_
        refine W.lcmp hx hb d_Printer_number_35 ?_
        refine lv_if_gt (tgt := 50) hx hb d_Printer_number_36 (by decide) (fun c36 => ?_) (fun c36 => ?_)
        · refine w_loop (D := (dC, dI)) (cl := classes) (A := A) (H0 := s.heap) (nL := 7) 50 (σ := Nat × Nat × (Nat → Int32)) (fun ⟨n, k, g⟩ => n < 2 ^ 63 ∧ k ≤ 16384) (fun ⟨n, k, g⟩ => n) (fun ⟨n, k, g⟩ => [(p1, .inr (3, [.ref pb, .int (nI k), .ref ps])), (pb, .inl (cB, 16384, .inl g))]) (fun ⟨n, k, g⟩ => [(0, .ref p1), (3, .long sz9), (5, .long (lN n))]) ?_ (n, k2, g2) ⟨hn2, hk2⟩ hP hD hS (lv_sub hl [0, 1, 2] rfl)
          rintro ⟨n, k, g⟩ H locs ls hI ih hP hD hS hl
          have hP : va_P (dC, dI) classes ([(p1, .inr (3, [.ref pb, .int (nI k), .ref ps])), (pb, .inl (cB, 16384, .inl g))]) H := hP
          have hD : va_D A ([(p1, .inr (3, [.ref pb, .int (nI k), .ref ps])), (pb, .inl (cB, 16384, .inl g))]) := hD
          have hl : lv_has ls 7 [(0, .ref p1), (3, .long sz9), (5, .long (lN n))] := hl
          obtain ⟨hn2, hk⟩ := hI
          have hn2 : n < 2 ^ 63 := hn2
          have hk : k ≤ 16384 := hk
          refine lv_lload hx hb d_Printer_number_50 (lv_at hl 2 rfl) ?_
          refine lv_lconst (v := 0) hx hb d_Printer_number_52 (by decide) ?_
          refine W.lcmp hx hb d_Printer_number_53 ?_
          refine lv_if_le (tgt := 84) hx hb d_Printer_number_54 (by decide) (fun c54 => ?_) (fun c54 => ?_)
          · refine w_same (fun hq => ?_)
            refine W.widen (k := 1) (n := 6) (Nat.le_of_ble_eq_true rfl) (Nat.le_of_ble_eq_true rfl) ?_
            refine vx_ret ?_
            exact W.vret hx hb hr (fun t9 ht hW => ⟨⟨(k, g), rfl, hk, ⟨by rw [ht]; exact hP, va_K.moved hW.alike hK, hD⟩, by rw [ht]; exact hq⟩, hS.F ht⟩) hS.2.2 d_Printer_number_84
          · have hn0 : 0 < n := Nat.pos_of_ne_zero (fun h => c54 ((lg_cmp_le _ _).mpr (by rw [h]; decide)))
            have hnz : ¬ lN n = 0 := fun h => by have := (pk_lEQ (a := n) (b := 0) (by omega) (by decide)).mp h; omega
            refine lv_aload_n hx hb d_Printer_number_57 rfl (lv_at hl 0 rfl) ?_
            refine lv_bipush (v := 48) hx hb d_Printer_number_58 (by decide) ?_
            refine lv_lload_n hx hb d_Printer_number_60 rfl (lv_at hl 1 rfl) ?_
            refine lv_lload hx hb d_Printer_number_61 (lv_at hl 2 rfl) ?_
            refine lv_ldiv hx hb d_Printer_number_63 hnz ?_
            refine lv_ldc2 (v := 10) hx hb hown (hts _ z_967) d_Printer_number_64 ?_
            refine lv_lrem hx hb d_Printer_number_67 (by decide) ?_
            refine lv_l2i (v := (((sz9 / (lN n)) - (sz9 / (lN n)) / 10 * 10)).toInt32) hx hb d_Printer_number_68 rfl ?_
            refine lv_iadd hx hb d_Printer_number_69 ?_
            refine lv_topi (fun x1 e1 => ?_)
            have hPc := hP.sub (ws' := [(p1, .inr (3, [.ref pb, .int (nI k), .ref ps])), (pb, .inl (cB, 16384, .inl g))]) [0, 1] rfl
            have hDc := hD.sub (ws' := [(p1, .inr (3, [.ref pb, .int (nI k), .ref ps])), (pb, .inl (cB, 16384, .inl g))]) [0, 1] (by decide) rfl
            have hFc := va_free (wc := [(p1, .inr (3, [.ref pb, .int (nI k), .ref ps])), (pb, .inl (cB, 16384, .inl g))]) hD hS hA [0, 1] rfl
            have hKc := hK.sub (tys' := [(cB, .byte)]) [0] rfl
            refine w_same (fun hq0 => ?_)
            refine vx_callv (vx_runV (As := [.int x1]) (rest := []) ⟨hx, hb, hml, hown, hts⟩ (w_put l hl9 dC dI cB p1 pb H (.ref ps) g k x1 hk) (cwV 1 hts (gt_V (own := R_Printer) (C := R_Printer) (i := 25) (y := y_Printer_put) i_Printer_put w_957 w_959 (gt_sel (y := y_Printer_put) (n := 3) (by decide +kernel)) w_6) rfl rfl rfl (by decide +kernel) ⟨Nat.le_of_ble_eq_true rfl, Nat.le_of_ble_eq_true rfl⟩) ⟨mx_blind, va_recv hK hP (ci := 3) (q0 := 0) rfl rfl, fun U hU hW => ⟨rfl, ⟨hU, by rw [hU]; exact hPc, va_K.moved hW.alike hKc, hDc.weaken (fun _ _ _ _ => trivial)⟩, hN.warm hW, by rw [hU]; exact ZX.moved' hW.alike (ZX.narrow' (ZX.kept' hZ hS.2.1) hFc)⟩⟩ rfl rfl hl.1 rfl (lv_room (Nat.le_of_ble_eq_true rfl)) d_Printer_number_70 ⟨Nat.le_of_ble_eq_true rfl, Nat.le_of_ble_eq_true rfl⟩) hS (fun q _ h => hFc q h) hFc (fun q _ h => hFc q h) (fun En ce q9 ⟨kx, gx⟩ t9 H1 locs ht hvm hw hB hz1 hk1 hS hce hcv hcl => ?_) (fun ⟨k3, g3⟩ t9 H1 locs ht hvm hw hB hz1 hk1 hS => ?_)
            · obtain ⟨hEn, hP1, hK1, hD1⟩ := hB
              rw [ht] at hP1
              obtain ⟨hP, hD⟩ := va_join (wr := []) (w1 := [(p1, .inr (3, [.ref pb, .int (nI kx), .ref ps])), (pb, .inl (cB, 16384, .inl gx))]) hP hD [0, 1] [] rfl rfl (by decide) (by decide) hk1 hFc hP1 hD1
              generalize H1 = H at hP hS hce ⊢
              have hP : va_P (dC, dI) classes ([(p1, .inr (3, [.ref pb, .int (nI kx), .ref ps])), (pb, .inl (cB, 16384, .inl gx))]) H := hP
              have hD : va_D A ([(p1, .inr (3, [.ref pb, .int (nI kx), .ref ps])), (pb, .inl (cB, 16384, .inl gx))]) := hD
              exact vx_out (fun x hx => (hex x hx).elim) hlocks hce hcv hcl (fun t9 ht2 ha => ⟨(nI kx, gx), trivial, ⟨hEn, by rw [ht2]; exact hP, va_K.moved ha hK, hD⟩, hS.F ht2⟩) hS.2.2 (Nat.le_of_ble_eq_true rfl) (Nat.le_of_ble_eq_true rfl)
            · obtain ⟨⟨hP1, hK1, hD1⟩, hz9⟩ := hB
              rw [ht] at hP1
              rw [ht] at hz9
              refine w_tight (hq0.trans hz9) ?_
              have hq0 := hq0.trans hz9
              obtain ⟨hP, hD⟩ := va_join (wr := []) (w1 := [(p1, .inr (3, [.ref pb, .int (nI k3), .ref ps])), (pb, .inl (cB, 16384, .inl g3))]) hP hD [0, 1] [] rfl rfl (by decide) (by decide) hk1 hFc hP1 hD1
              generalize H1 = H at hP hS hq0 ⊢
              have hP : va_P (dC, dI) classes ([(p1, .inr (3, [.ref pb, .int (nI k3), .ref ps])), (pb, .inl (cB, 16384, .inl g3))]) H := hP
              have hD : va_D A ([(p1, .inr (3, [.ref pb, .int (nI k3), .ref ps])), (pb, .inl (cB, 16384, .inl g3))]) := hD
              have hk3 : k3 ≤ 16384 := hw
              refine lv_lload hx hb d_Printer_number_73 (lv_at hl 2 rfl) ?_
              refine lv_ldc2 (v := 10) hx hb hown (hts _ z_967) d_Printer_number_75 ?_
              refine lv_ldiv hx hb d_Printer_number_78 (by decide) ?_
              refine W.eq (g2 := F0 m 79 ls [.long (lN (n / 10))]) (by rw [show ((lN n) / 10) = (lN (n / 10)) from (show lN n / 10 = lN (n / 10) from pk_lDiv (by omega) (by decide) (by decide))]) ?_
              refine lv_lstore (lv' := [(5, .long (lN (n / 10))), (0, .ref p1), (3, .long sz9)]) hx hb d_Printer_number_79 hl (by decide) rfl (fun ls hl => ?_)
              refine lv_goto (tgt := 50) hx hb d_Printer_number_81 (by decide) ?_
              exact ih (n / 10, k3, g3) _ _ _ ⟨show n / 10 < 2 ^ 63 by omega, hk3⟩ (by show n / 10 < n; omega) hP hD hS (lv_sub hl [1, 2, 0] rfl)
        · refine lv_lload hx hb d_Printer_number_39 (lv_at hl 2 rfl) ?_
          refine lv_ldc2 (v := 10) hx hb hown (hts _ z_967) d_Printer_number_41 ?_
          refine lv_lmul hx hb d_Printer_number_44 ?_
          refine W.eq (g2 := F0 m 45 ls [.long (lN (n * 10))]) (by rw [show ((lN n) * 10) = (lN (n * 10)) from (show lN n * 10 = lN (n * 10) from lN_mul n 10)]) ?_
          refine lv_lstore (lv' := [(5, .long (lN (n * 10))), (0, .ref p1), (3, .long sz9)]) hx hb d_Printer_number_45 hl (by decide) rfl (fun ls hl => ?_)
          refine lv_goto (tgt := 28) hx hb d_Printer_number_47 (by decide) ?_
          obtain ⟨m9, hm1, hm2, hm3⟩ := ten_grow hn1 hn2 (Int64.not_lt.mp (fun h => c36 ((lg_cmp_gt _ _).mpr h)))
          exact ih (n * 10) _ _ _ ⟨show 1 ≤ n * 10 by omega, show n * 10 < 2 ^ 63 by omega⟩ (by show 2 ^ 63 - n * 10 < 2 ^ 63 - n; omega) hP hD hS (lv_sub hl [1, 2, 0] rfl)
  · refine lv_lload_n hx hb d_Printer_number_6 rfl (lv_at hl 1 rfl) ?_
    refine lv_lneg hx hb d_Printer_number_7 ?_
    refine lv_goto (tgt := 12) hx hb d_Printer_number_8 (by decide) ?_
    refine lv_lstore_n (lv' := [(3, .long (-x)), (0, .ref p1), (1, .long x)]) hx hb d_Printer_number_12 rfl hl (by decide) rfl (fun ls hl => ?_)
    refine lv_lload_n hx hb d_Printer_number_13 rfl (lv_at hl 2 rfl) ?_
    refine lv_lconst (v := 0) hx hb d_Printer_number_14 (by decide) ?_
    refine W.lcmp hx hb d_Printer_number_15 ?_
    refine lv_if_ge (tgt := 25) hx hb d_Printer_number_16 (by decide) (fun c16 => ?_) (fun c16 => ?_)
    · refine lv_lconst (v := 1) hx hb d_Printer_number_25 (by decide) ?_
      refine lv_lstore (lv' := [(5, .long 1), (3, .long (-x)), (0, .ref p1), (1, .long x)]) hx hb d_Printer_number_26 hl (by decide) rfl (fun ls hl => ?_)
      obtain ⟨sz9, hsz9⟩ : ∃ y : Int64, y = (-x) := ⟨_, rfl⟩
      have hl : lv_has ls 7 [(5, .long 1), (3, .long sz9), (0, .ref p1), (1, .long x)] := by rw [hsz9]; exact hl
      refine w_loop (D := (dC, dI)) (cl := classes) (A := A) (H0 := s.heap) (nL := 7) 28 (σ := Nat) (fun n => 1 ≤ n ∧ n < 2 ^ 63) (fun n => 2 ^ 63 - n) (fun n => [(p1, .inr (3, [.ref pb, .int (nI k), .ref ps])), (pb, .inl (cB, 16384, .inl g))]) (fun n => [(0, .ref p1), (3, .long sz9), (5, .long (lN n))]) ?_ 1 ⟨by decide, by decide⟩ hP hD hS (lv_sub hl [2, 1, 0] rfl)
      rintro n H locs ls hI ih hP hD hS hl
      have hP : va_P (dC, dI) classes ([(p1, .inr (3, [.ref pb, .int (nI k), .ref ps])), (pb, .inl (cB, 16384, .inl g))]) H := hP
      have hD : va_D A ([(p1, .inr (3, [.ref pb, .int (nI k), .ref ps])), (pb, .inl (cB, 16384, .inl g))]) := hD
      have hl : lv_has ls 7 [(0, .ref p1), (3, .long sz9), (5, .long (lN n))] := hl
      obtain ⟨hn1, hn2⟩ := hI
      have hn1 : 1 ≤ n := hn1
      have hn2 : n < 2 ^ 63 := hn2
      refine lv_lload hx hb d_Printer_number_28 (lv_at hl 2 rfl) ?_
      refine lv_lload_n hx hb d_Printer_number_30 rfl (lv_at hl 1 rfl) ?_
      refine lv_ldc2 (v := 10) hx hb hown (hts _ z_967) d_Printer_number_31 ?_
      refine lv_ldiv hx hb d_Printer_number_34 (by decide) ?_
      refine W.lcmp hx hb d_Printer_number_35 ?_
      refine lv_if_gt (tgt := 50) hx hb d_Printer_number_36 (by decide) (fun c36 => ?_) (fun c36 => ?_)
      · refine w_loop (D := (dC, dI)) (cl := classes) (A := A) (H0 := s.heap) (nL := 7) 50 (σ := Nat × Nat × (Nat → Int32)) (fun ⟨n, k, g⟩ => n < 2 ^ 63 ∧ k ≤ 16384) (fun ⟨n, k, g⟩ => n) (fun ⟨n, k, g⟩ => [(p1, .inr (3, [.ref pb, .int (nI k), .ref ps])), (pb, .inl (cB, 16384, .inl g))]) (fun ⟨n, k, g⟩ => [(0, .ref p1), (3, .long sz9), (5, .long (lN n))]) ?_ (n, k, g) ⟨hn2, hk⟩ hP hD hS (lv_sub hl [0, 1, 2] rfl)
        rintro ⟨n, k, g⟩ H locs ls hI ih hP hD hS hl
        have hP : va_P (dC, dI) classes ([(p1, .inr (3, [.ref pb, .int (nI k), .ref ps])), (pb, .inl (cB, 16384, .inl g))]) H := hP
        have hD : va_D A ([(p1, .inr (3, [.ref pb, .int (nI k), .ref ps])), (pb, .inl (cB, 16384, .inl g))]) := hD
        have hl : lv_has ls 7 [(0, .ref p1), (3, .long sz9), (5, .long (lN n))] := hl
        obtain ⟨hn2, hk⟩ := hI
        have hn2 : n < 2 ^ 63 := hn2
        have hk : k ≤ 16384 := hk
        refine lv_lload hx hb d_Printer_number_50 (lv_at hl 2 rfl) ?_
        refine lv_lconst (v := 0) hx hb d_Printer_number_52 (by decide) ?_
        refine W.lcmp hx hb d_Printer_number_53 ?_
        refine lv_if_le (tgt := 84) hx hb d_Printer_number_54 (by decide) (fun c54 => ?_) (fun c54 => ?_)
        · refine w_same (fun hq => ?_)
          refine W.widen (k := 1) (n := 6) (Nat.le_of_ble_eq_true rfl) (Nat.le_of_ble_eq_true rfl) ?_
          refine vx_ret ?_
          exact W.vret hx hb hr (fun t9 ht hW => ⟨⟨(k, g), rfl, hk, ⟨by rw [ht]; exact hP, va_K.moved hW.alike hK, hD⟩, by rw [ht]; exact hq⟩, hS.F ht⟩) hS.2.2 d_Printer_number_84
        · have hn0 : 0 < n := Nat.pos_of_ne_zero (fun h => c54 ((lg_cmp_le _ _).mpr (by rw [h]; decide)))
          have hnz : ¬ lN n = 0 := fun h => by have := (pk_lEQ (a := n) (b := 0) (by omega) (by decide)).mp h; omega
          refine lv_aload_n hx hb d_Printer_number_57 rfl (lv_at hl 0 rfl) ?_
          refine lv_bipush (v := 48) hx hb d_Printer_number_58 (by decide) ?_
          refine lv_lload_n hx hb d_Printer_number_60 rfl (lv_at hl 1 rfl) ?_
          refine lv_lload hx hb d_Printer_number_61 (lv_at hl 2 rfl) ?_
          refine lv_ldiv hx hb d_Printer_number_63 hnz ?_
          refine lv_ldc2 (v := 10) hx hb hown (hts _ z_967) d_Printer_number_64 ?_
          refine lv_lrem hx hb d_Printer_number_67 (by decide) ?_
          refine lv_l2i (v := (((sz9 / (lN n)) - (sz9 / (lN n)) / 10 * 10)).toInt32) hx hb d_Printer_number_68 rfl ?_
          refine lv_iadd hx hb d_Printer_number_69 ?_
          refine lv_topi (fun x1 e1 => ?_)
          have hPc := hP.sub (ws' := [(p1, .inr (3, [.ref pb, .int (nI k), .ref ps])), (pb, .inl (cB, 16384, .inl g))]) [0, 1] rfl
          have hDc := hD.sub (ws' := [(p1, .inr (3, [.ref pb, .int (nI k), .ref ps])), (pb, .inl (cB, 16384, .inl g))]) [0, 1] (by decide) rfl
          have hFc := va_free (wc := [(p1, .inr (3, [.ref pb, .int (nI k), .ref ps])), (pb, .inl (cB, 16384, .inl g))]) hD hS hA [0, 1] rfl
          have hKc := hK.sub (tys' := [(cB, .byte)]) [0] rfl
          refine w_same (fun hq0 => ?_)
          refine vx_callv (vx_runV (As := [.int x1]) (rest := []) ⟨hx, hb, hml, hown, hts⟩ (w_put l hl9 dC dI cB p1 pb H (.ref ps) g k x1 hk) (cwV 1 hts (gt_V (own := R_Printer) (C := R_Printer) (i := 25) (y := y_Printer_put) i_Printer_put w_957 w_959 (gt_sel (y := y_Printer_put) (n := 3) (by decide +kernel)) w_6) rfl rfl rfl (by decide +kernel) ⟨Nat.le_of_ble_eq_true rfl, Nat.le_of_ble_eq_true rfl⟩) ⟨mx_blind, va_recv hK hP (ci := 3) (q0 := 0) rfl rfl, fun U hU hW => ⟨rfl, ⟨hU, by rw [hU]; exact hPc, va_K.moved hW.alike hKc, hDc.weaken (fun _ _ _ _ => trivial)⟩, hN.warm hW, by rw [hU]; exact ZX.moved' hW.alike (ZX.narrow' (ZX.kept' hZ hS.2.1) hFc)⟩⟩ rfl rfl hl.1 rfl (lv_room (Nat.le_of_ble_eq_true rfl)) d_Printer_number_70 ⟨Nat.le_of_ble_eq_true rfl, Nat.le_of_ble_eq_true rfl⟩) hS (fun q _ h => hFc q h) hFc (fun q _ h => hFc q h) (fun En ce q9 ⟨kx, gx⟩ t9 H1 locs ht hvm hw hB hz1 hk1 hS hce hcv hcl => ?_) (fun ⟨k4, g4⟩ t9 H1 locs ht hvm hw hB hz1 hk1 hS => ?_)
          · obtain ⟨hEn, hP1, hK1, hD1⟩ := hB
            rw [ht] at hP1
            obtain ⟨hP, hD⟩ := va_join (wr := []) (w1 := [(p1, .inr (3, [.ref pb, .int (nI kx), .ref ps])), (pb, .inl (cB, 16384, .inl gx))]) hP hD [0, 1] [] rfl rfl (by decide) (by decide) hk1 hFc hP1 hD1
            generalize H1 = H at hP hS hce ⊢
            have hP : va_P (dC, dI) classes ([(p1, .inr (3, [.ref pb, .int (nI kx), .ref ps])), (pb, .inl (cB, 16384, .inl gx))]) H := hP
            have hD : va_D A ([(p1, .inr (3, [.ref pb, .int (nI kx), .ref ps])), (pb, .inl (cB, 16384, .inl gx))]) := hD
            exact vx_out (fun x hx => (hex x hx).elim) hlocks hce hcv hcl (fun t9 ht2 ha => ⟨(nI kx, gx), trivial, ⟨hEn, by rw [ht2]; exact hP, va_K.moved ha hK, hD⟩, hS.F ht2⟩) hS.2.2 (Nat.le_of_ble_eq_true rfl) (Nat.le_of_ble_eq_true rfl)
          · obtain ⟨⟨hP1, hK1, hD1⟩, hz9⟩ := hB
            rw [ht] at hP1
            rw [ht] at hz9
            refine w_tight (hq0.trans hz9) ?_
            have hq0 := hq0.trans hz9
            obtain ⟨hP, hD⟩ := va_join (wr := []) (w1 := [(p1, .inr (3, [.ref pb, .int (nI k4), .ref ps])), (pb, .inl (cB, 16384, .inl g4))]) hP hD [0, 1] [] rfl rfl (by decide) (by decide) hk1 hFc hP1 hD1
            generalize H1 = H at hP hS hq0 ⊢
            have hP : va_P (dC, dI) classes ([(p1, .inr (3, [.ref pb, .int (nI k4), .ref ps])), (pb, .inl (cB, 16384, .inl g4))]) H := hP
            have hD : va_D A ([(p1, .inr (3, [.ref pb, .int (nI k4), .ref ps])), (pb, .inl (cB, 16384, .inl g4))]) := hD
            have hk4 : k4 ≤ 16384 := hw
            refine lv_lload hx hb d_Printer_number_73 (lv_at hl 2 rfl) ?_
            refine lv_ldc2 (v := 10) hx hb hown (hts _ z_967) d_Printer_number_75 ?_
            refine lv_ldiv hx hb d_Printer_number_78 (by decide) ?_
            refine W.eq (g2 := F0 m 79 ls [.long (lN (n / 10))]) (by rw [show ((lN n) / 10) = (lN (n / 10)) from (show lN n / 10 = lN (n / 10) from pk_lDiv (by omega) (by decide) (by decide))]) ?_
            refine lv_lstore (lv' := [(5, .long (lN (n / 10))), (0, .ref p1), (3, .long sz9)]) hx hb d_Printer_number_79 hl (by decide) rfl (fun ls hl => ?_)
            refine lv_goto (tgt := 50) hx hb d_Printer_number_81 (by decide) ?_
            exact ih (n / 10, k4, g4) _ _ _ ⟨show n / 10 < 2 ^ 63 by omega, hk4⟩ (by show n / 10 < n; omega) hP hD hS (lv_sub hl [1, 2, 0] rfl)
      · refine lv_lload hx hb d_Printer_number_39 (lv_at hl 2 rfl) ?_
        refine lv_ldc2 (v := 10) hx hb hown (hts _ z_967) d_Printer_number_41 ?_
        refine lv_lmul hx hb d_Printer_number_44 ?_
        refine W.eq (g2 := F0 m 45 ls [.long (lN (n * 10))]) (by rw [show ((lN n) * 10) = (lN (n * 10)) from (show lN n * 10 = lN (n * 10) from lN_mul n 10)]) ?_
        refine lv_lstore (lv' := [(5, .long (lN (n * 10))), (0, .ref p1), (3, .long sz9)]) hx hb d_Printer_number_45 hl (by decide) rfl (fun ls hl => ?_)
        refine lv_goto (tgt := 28) hx hb d_Printer_number_47 (by decide) ?_
        obtain ⟨m9, hm1, hm2, hm3⟩ := ten_grow hn1 hn2 (Int64.not_lt.mp (fun h => c36 ((lg_cmp_gt _ _).mpr h)))
        exact ih (n * 10) _ _ _ ⟨show 1 ≤ n * 10 by omega, show n * 10 < 2 ^ 63 by omega⟩ (by show 2 ^ 63 - n * 10 < 2 ^ 63 - n; omega) hP hD hS (lv_sub hl [1, 2, 0] rfl)
    · refine lv_aload_n hx hb d_Printer_number_19 rfl (lv_at hl 1 rfl) ?_
      refine lv_bipush (v := 45) hx hb d_Printer_number_20 (by decide) ?_
      have hPc := hP.sub (ws' := [(p1, .inr (3, [.ref pb, .int (nI k), .ref ps])), (pb, .inl (cB, 16384, .inl g))]) [0, 1] rfl
      have hDc := hD.sub (ws' := [(p1, .inr (3, [.ref pb, .int (nI k), .ref ps])), (pb, .inl (cB, 16384, .inl g))]) [0, 1] (by decide) rfl
      have hFc := va_free (wc := [(p1, .inr (3, [.ref pb, .int (nI k), .ref ps])), (pb, .inl (cB, 16384, .inl g))]) hD hS hA [0, 1] rfl
      have hKc := hK.sub (tys' := [(cB, .byte)]) [0] rfl
      refine w_same (fun hq0 => ?_)
      refine vx_callv (vx_runV (As := [.int 45]) (rest := []) ⟨hx, hb, hml, hown, hts⟩ (w_put l hl9 dC dI cB p1 pb s.heap (.ref ps) g k 45 hk) (cwV 1 hts (gt_V (own := R_Printer) (C := R_Printer) (i := 25) (y := y_Printer_put) i_Printer_put w_957 w_959 (gt_sel (y := y_Printer_put) (n := 3) (by decide +kernel)) w_6) rfl rfl rfl (by decide +kernel) ⟨Nat.le_of_ble_eq_true rfl, Nat.le_of_ble_eq_true rfl⟩) ⟨mx_blind, va_recv hK hP (ci := 3) (q0 := 0) rfl rfl, fun U hU hW => ⟨rfl, ⟨hU, by rw [hU]; exact hPc, va_K.moved hW.alike hKc, hDc.weaken (fun _ _ _ _ => trivial)⟩, hN.warm hW, by rw [hU]; exact ZX.moved' hW.alike (ZX.narrow' (ZX.kept' hZ hS.2.1) hFc)⟩⟩ rfl rfl hl.1 rfl (lv_room (Nat.le_of_ble_eq_true rfl)) d_Printer_number_22 ⟨Nat.le_of_ble_eq_true rfl, Nat.le_of_ble_eq_true rfl⟩) hS (fun q _ h => hFc q h) hFc (fun q _ h => hFc q h) (fun En ce q9 ⟨kx, gx⟩ t9 H1 locs ht hvm hw hB hz1 hk1 hS hce hcv hcl => ?_) (fun ⟨k5, g5⟩ t9 H1 locs ht hvm hw hB hz1 hk1 hS => ?_)
      · obtain ⟨hEn, hP1, hK1, hD1⟩ := hB
        rw [ht] at hP1
        obtain ⟨hP, hD⟩ := va_join (wr := []) (w1 := [(p1, .inr (3, [.ref pb, .int (nI kx), .ref ps])), (pb, .inl (cB, 16384, .inl gx))]) hP hD [0, 1] [] rfl rfl (by decide) (by decide) hk1 hFc hP1 hD1
        generalize H1 = H at hP hS hce ⊢
        have hP : va_P (dC, dI) classes ([(p1, .inr (3, [.ref pb, .int (nI kx), .ref ps])), (pb, .inl (cB, 16384, .inl gx))]) H := hP
        have hD : va_D A ([(p1, .inr (3, [.ref pb, .int (nI kx), .ref ps])), (pb, .inl (cB, 16384, .inl gx))]) := hD
        exact vx_out (fun x hx => (hex x hx).elim) hlocks hce hcv hcl (fun t9 ht2 ha => ⟨(nI kx, gx), trivial, ⟨hEn, by rw [ht2]; exact hP, va_K.moved ha hK, hD⟩, hS.F ht2⟩) hS.2.2 (Nat.le_of_ble_eq_true rfl) (Nat.le_of_ble_eq_true rfl)
      · obtain ⟨⟨hP1, hK1, hD1⟩, hz9⟩ := hB
        rw [ht] at hP1
        rw [ht] at hz9
        refine w_tight (hq0.trans hz9) ?_
        have hq0 := hq0.trans hz9
        obtain ⟨hP, hD⟩ := va_join (wr := []) (w1 := [(p1, .inr (3, [.ref pb, .int (nI k5), .ref ps])), (pb, .inl (cB, 16384, .inl g5))]) hP hD [0, 1] [] rfl rfl (by decide) (by decide) hk1 hFc hP1 hD1
        generalize H1 = H at hP hS hq0 ⊢
        have hP : va_P (dC, dI) classes ([(p1, .inr (3, [.ref pb, .int (nI k5), .ref ps])), (pb, .inl (cB, 16384, .inl g5))]) H := hP
        have hD : va_D A ([(p1, .inr (3, [.ref pb, .int (nI k5), .ref ps])), (pb, .inl (cB, 16384, .inl g5))]) := hD
        have hk5 : k5 ≤ 16384 := hw
        refine lv_lconst (v := 1) hx hb d_Printer_number_25 (by decide) ?_
        refine lv_lstore (lv' := [(5, .long 1), (3, .long (-x)), (0, .ref p1), (1, .long x)]) hx hb d_Printer_number_26 hl (by decide) rfl (fun ls hl => ?_)
        obtain ⟨sz9, hsz9⟩ : ∃ y : Int64, y = (-x) := ⟨_, rfl⟩
        have hl : lv_has ls 7 [(5, .long 1), (3, .long sz9), (0, .ref p1), (1, .long x)] := by rw [hsz9]; exact hl
        refine w_loop (D := (dC, dI)) (cl := classes) (A := A) (H0 := s.heap) (nL := 7) 28 (σ := Nat) (fun n => 1 ≤ n ∧ n < 2 ^ 63) (fun n => 2 ^ 63 - n) (fun n => [(p1, .inr (3, [.ref pb, .int (nI k5), .ref ps])), (pb, .inl (cB, 16384, .inl g5))]) (fun n => [(0, .ref p1), (3, .long sz9), (5, .long (lN n))]) ?_ 1 ⟨by decide, by decide⟩ hP hD hS (lv_sub hl [2, 1, 0] rfl)
        rintro n H locs ls hI ih hP hD hS hl
        have hP : va_P (dC, dI) classes ([(p1, .inr (3, [.ref pb, .int (nI k5), .ref ps])), (pb, .inl (cB, 16384, .inl g5))]) H := hP
        have hD : va_D A ([(p1, .inr (3, [.ref pb, .int (nI k5), .ref ps])), (pb, .inl (cB, 16384, .inl g5))]) := hD
        have hl : lv_has ls 7 [(0, .ref p1), (3, .long sz9), (5, .long (lN n))] := hl
        obtain ⟨hn1, hn2⟩ := hI
        have hn1 : 1 ≤ n := hn1
        have hn2 : n < 2 ^ 63 := hn2
        refine lv_lload hx hb d_Printer_number_28 (lv_at hl 2 rfl) ?_
        refine lv_lload_n hx hb d_Printer_number_30 rfl (lv_at hl 1 rfl) ?_
        refine lv_ldc2 (v := 10) hx hb hown (hts _ z_967) d_Printer_number_31 ?_
        refine lv_ldiv hx hb d_Printer_number_34 (by decide) ?_
        refine W.lcmp hx hb d_Printer_number_35 ?_
        refine lv_if_gt (tgt := 50) hx hb d_Printer_number_36 (by decide) (fun c36 => ?_) (fun c36 => ?_)
        · refine w_loop (D := (dC, dI)) (cl := classes) (A := A) (H0 := s.heap) (nL := 7) 50 (σ := Nat × Nat × (Nat → Int32)) (fun ⟨n, k, g⟩ => n < 2 ^ 63 ∧ k ≤ 16384) (fun ⟨n, k, g⟩ => n) (fun ⟨n, k, g⟩ => [(p1, .inr (3, [.ref pb, .int (nI k), .ref ps])), (pb, .inl (cB, 16384, .inl g))]) (fun ⟨n, k, g⟩ => [(0, .ref p1), (3, .long sz9), (5, .long (lN n))]) ?_ (n, k5, g5) ⟨hn2, hk5⟩ hP hD hS (lv_sub hl [0, 1, 2] rfl)
          rintro ⟨n, k, g⟩ H locs ls hI ih hP hD hS hl
          have hP : va_P (dC, dI) classes ([(p1, .inr (3, [.ref pb, .int (nI k), .ref ps])), (pb, .inl (cB, 16384, .inl g))]) H := hP
          have hD : va_D A ([(p1, .inr (3, [.ref pb, .int (nI k), .ref ps])), (pb, .inl (cB, 16384, .inl g))]) := hD
          have hl : lv_has ls 7 [(0, .ref p1), (3, .long sz9), (5, .long (lN n))] := hl
          obtain ⟨hn2, hk⟩ := hI
          have hn2 : n < 2 ^ 63 := hn2
          have hk : k ≤ 16384 := hk
          refine lv_lload hx hb d_Printer_number_50 (lv_at hl 2 rfl) ?_
          refine lv_lconst (v := 0) hx hb d_Printer_number_52 (by decide) ?_
          refine W.lcmp hx hb d_Printer_number_53 ?_
          refine lv_if_le (tgt := 84) hx hb d_Printer_number_54 (by decide) (fun c54 => ?_) (fun c54 => ?_)
          · refine w_same (fun hq => ?_)
            refine W.widen (k := 1) (n := 6) (Nat.le_of_ble_eq_true rfl) (Nat.le_of_ble_eq_true rfl) ?_
            refine vx_ret ?_
            exact W.vret hx hb hr (fun t9 ht hW => ⟨⟨(k, g), rfl, hk, ⟨by rw [ht]; exact hP, va_K.moved hW.alike hK, hD⟩, by rw [ht]; exact hq⟩, hS.F ht⟩) hS.2.2 d_Printer_number_84
          · have hn0 : 0 < n := Nat.pos_of_ne_zero (fun h => c54 ((lg_cmp_le _ _).mpr (by rw [h]; decide)))
            have hnz : ¬ lN n = 0 := fun h => by have := (pk_lEQ (a := n) (b := 0) (by omega) (by decide)).mp h; omega
            refine lv_aload_n hx hb d_Printer_number_57 rfl (lv_at hl 0 rfl) ?_
            refine lv_bipush (v := 48) hx hb d_Printer_number_58 (by decide) ?_
            refine lv_lload_n hx hb d_Printer_number_60 rfl (lv_at hl 1 rfl) ?_
            refine lv_lload hx hb d_Printer_number_61 (lv_at hl 2 rfl) ?_
            refine lv_ldiv hx hb d_Printer_number_63 hnz ?_
            refine lv_ldc2 (v := 10) hx hb hown (hts _ z_967) d_Printer_number_64 ?_
            refine lv_lrem hx hb d_Printer_number_67 (by decide) ?_
            refine lv_l2i (v := (((sz9 / (lN n)) - (sz9 / (lN n)) / 10 * 10)).toInt32) hx hb d_Printer_number_68 rfl ?_
            refine lv_iadd hx hb d_Printer_number_69 ?_
            refine lv_topi (fun x1 e1 => ?_)
            have hPc := hP.sub (ws' := [(p1, .inr (3, [.ref pb, .int (nI k), .ref ps])), (pb, .inl (cB, 16384, .inl g))]) [0, 1] rfl
            have hDc := hD.sub (ws' := [(p1, .inr (3, [.ref pb, .int (nI k), .ref ps])), (pb, .inl (cB, 16384, .inl g))]) [0, 1] (by decide) rfl
            have hFc := va_free (wc := [(p1, .inr (3, [.ref pb, .int (nI k), .ref ps])), (pb, .inl (cB, 16384, .inl g))]) hD hS hA [0, 1] rfl
            have hKc := hK.sub (tys' := [(cB, .byte)]) [0] rfl
            refine w_same (fun hq0 => ?_)
            refine vx_callv (vx_runV (As := [.int x1]) (rest := []) ⟨hx, hb, hml, hown, hts⟩ (w_put l hl9 dC dI cB p1 pb H (.ref ps) g k x1 hk) (cwV 1 hts (gt_V (own := R_Printer) (C := R_Printer) (i := 25) (y := y_Printer_put) i_Printer_put w_957 w_959 (gt_sel (y := y_Printer_put) (n := 3) (by decide +kernel)) w_6) rfl rfl rfl (by decide +kernel) ⟨Nat.le_of_ble_eq_true rfl, Nat.le_of_ble_eq_true rfl⟩) ⟨mx_blind, va_recv hK hP (ci := 3) (q0 := 0) rfl rfl, fun U hU hW => ⟨rfl, ⟨hU, by rw [hU]; exact hPc, va_K.moved hW.alike hKc, hDc.weaken (fun _ _ _ _ => trivial)⟩, hN.warm hW, by rw [hU]; exact ZX.moved' hW.alike (ZX.narrow' (ZX.kept' hZ hS.2.1) hFc)⟩⟩ rfl rfl hl.1 rfl (lv_room (Nat.le_of_ble_eq_true rfl)) d_Printer_number_70 ⟨Nat.le_of_ble_eq_true rfl, Nat.le_of_ble_eq_true rfl⟩) hS (fun q _ h => hFc q h) hFc (fun q _ h => hFc q h) (fun En ce q9 ⟨kx, gx⟩ t9 H1 locs ht hvm hw hB hz1 hk1 hS hce hcv hcl => ?_) (fun ⟨k6, g6⟩ t9 H1 locs ht hvm hw hB hz1 hk1 hS => ?_)
            · obtain ⟨hEn, hP1, hK1, hD1⟩ := hB
              rw [ht] at hP1
              obtain ⟨hP, hD⟩ := va_join (wr := []) (w1 := [(p1, .inr (3, [.ref pb, .int (nI kx), .ref ps])), (pb, .inl (cB, 16384, .inl gx))]) hP hD [0, 1] [] rfl rfl (by decide) (by decide) hk1 hFc hP1 hD1
              generalize H1 = H at hP hS hce ⊢
              have hP : va_P (dC, dI) classes ([(p1, .inr (3, [.ref pb, .int (nI kx), .ref ps])), (pb, .inl (cB, 16384, .inl gx))]) H := hP
              have hD : va_D A ([(p1, .inr (3, [.ref pb, .int (nI kx), .ref ps])), (pb, .inl (cB, 16384, .inl gx))]) := hD
              exact vx_out (fun x hx => (hex x hx).elim) hlocks hce hcv hcl (fun t9 ht2 ha => ⟨(nI kx, gx), trivial, ⟨hEn, by rw [ht2]; exact hP, va_K.moved ha hK, hD⟩, hS.F ht2⟩) hS.2.2 (Nat.le_of_ble_eq_true rfl) (Nat.le_of_ble_eq_true rfl)
            · obtain ⟨⟨hP1, hK1, hD1⟩, hz9⟩ := hB
              rw [ht] at hP1
              rw [ht] at hz9
              refine w_tight (hq0.trans hz9) ?_
              have hq0 := hq0.trans hz9
              obtain ⟨hP, hD⟩ := va_join (wr := []) (w1 := [(p1, .inr (3, [.ref pb, .int (nI k6), .ref ps])), (pb, .inl (cB, 16384, .inl g6))]) hP hD [0, 1] [] rfl rfl (by decide) (by decide) hk1 hFc hP1 hD1
              generalize H1 = H at hP hS hq0 ⊢
              have hP : va_P (dC, dI) classes ([(p1, .inr (3, [.ref pb, .int (nI k6), .ref ps])), (pb, .inl (cB, 16384, .inl g6))]) H := hP
              have hD : va_D A ([(p1, .inr (3, [.ref pb, .int (nI k6), .ref ps])), (pb, .inl (cB, 16384, .inl g6))]) := hD
              have hk6 : k6 ≤ 16384 := hw
              refine lv_lload hx hb d_Printer_number_73 (lv_at hl 2 rfl) ?_
              refine lv_ldc2 (v := 10) hx hb hown (hts _ z_967) d_Printer_number_75 ?_
              refine lv_ldiv hx hb d_Printer_number_78 (by decide) ?_
              refine W.eq (g2 := F0 m 79 ls [.long (lN (n / 10))]) (by rw [show ((lN n) / 10) = (lN (n / 10)) from (show lN n / 10 = lN (n / 10) from pk_lDiv (by omega) (by decide) (by decide))]) ?_
              refine lv_lstore (lv' := [(5, .long (lN (n / 10))), (0, .ref p1), (3, .long sz9)]) hx hb d_Printer_number_79 hl (by decide) rfl (fun ls hl => ?_)
              refine lv_goto (tgt := 50) hx hb d_Printer_number_81 (by decide) ?_
              exact ih (n / 10, k6, g6) _ _ _ ⟨show n / 10 < 2 ^ 63 by omega, hk6⟩ (by show n / 10 < n; omega) hP hD hS (lv_sub hl [1, 2, 0] rfl)
        · refine lv_lload hx hb d_Printer_number_39 (lv_at hl 2 rfl) ?_
          refine lv_ldc2 (v := 10) hx hb hown (hts _ z_967) d_Printer_number_41 ?_
          refine lv_lmul hx hb d_Printer_number_44 ?_
          refine W.eq (g2 := F0 m 45 ls [.long (lN (n * 10))]) (by rw [show ((lN n) * 10) = (lN (n * 10)) from (show lN n * 10 = lN (n * 10) from lN_mul n 10)]) ?_
          refine lv_lstore (lv' := [(5, .long (lN (n * 10))), (0, .ref p1), (3, .long sz9)]) hx hb d_Printer_number_45 hl (by decide) rfl (fun ls hl => ?_)
          refine lv_goto (tgt := 28) hx hb d_Printer_number_47 (by decide) ?_
          obtain ⟨m9, hm1, hm2, hm3⟩ := ten_grow hn1 hn2 (Int64.not_lt.mp (fun h => c36 ((lg_cmp_gt _ _).mpr h)))
          exact ih (n * 10) _ _ _ ⟨show 1 ≤ n * 10 by omega, show n * 10 < 2 ^ 63 by omega⟩ (by show 2 ^ 63 - n * 10 < 2 ^ 63 - n; omega) hP hD hS (lv_sub hl [1, 2, 0] rfl)
