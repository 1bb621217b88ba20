set_option maxHeartbeats 4000000 in
set_option maxRecDepth 100000 in
/-- Printer.unit: what it writes -/
theorem p_Printer_unit (l : Launch) (hl9 : l.stackTraces = false) (K : Nat → Nat × Nat) (dC : Nat → ClassId) (dI : Nat → Nat → Nat) (sz : Heap) (cB : ClassId) (p1 pb ps : Nat) (g : Nat → Int32) (k : Nat) (hk : k ≤ 16384) (x q : Int32) (hq : q = 34 ∨ q = 39) : vx_Met l y_Printer_unit (k_Printer_unit :: gtbl) ({ frames := 10, cells := 1, slots := 6, locals := 190 }) (va_Pc [.ref p1, .int x, .int q] (ml K dC dI ([(p1, .inr (3, [.ref pb, .int (nI k), .ref ps])), (pb, .inl (cB, 16384, .inl g))]) [(cB, .byte)] sz)) (va_Qv (fun (u : Nat × (Nat → Int32)) => WOK k g (unB q x) u.1 u.2) (fun u t9 => mz dC dI ([(p1, .inr (3, [.ref pb, .int (nI u.1), .ref ps])), (pb, .inl (cB, 16384, .inl u.2))]) [(cB, .byte)] (va_A ([(p1, .inr (3, [.ref pb, .int (nI k), .ref ps])), (pb, .inl (cB, 16384, .inl g))]) sz.size) t9 ∧ szk sz t9.heap (0) (0)) (va_A ([(p1, .inr (3, [.ref pb, .int (nI k), .ref ps])), (pb, .inl (cB, 16384, .inl g))]) sz.size)) (vx_X (fun (u : Int32 × (Nat → Int32)) => WNO k g (unB q x)) (fun En u t9 => En = IOB ∧ mz dC dI ([(p1, .inr (3, [.ref pb, .int u.1, .ref ps])), (pb, .inl (cB, 16384, .inl u.2))]) [(cB, .byte)] (va_A ([(p1, .inr (3, [.ref pb, .int (nI k), .ref ps])), (pb, .inl (cB, 16384, .inl g))]) sz.size) t9) (va_A ([(p1, .inr (3, [.ref pb, .int (nI k), .ref ps])), (pb, .inl (cB, 16384, .inl g))]) sz.size)) (1) (6) (va_A ([(p1, .inr (3, [.ref pb, .int (nI k), .ref ps])), (pb, .inl (cB, 16384, .inl g))]) sz.size) := by
  refine vx_ofW (cc := b_Printer_unit) (maxL := 5) (ret := none) (by decide) rfl ?_
  intro p e s m args below meth c s₁ B hml hex hv
  obtain ⟨rfl, ⟨hsz, hP, hK, hD0⟩, hN, hZ, hC, hV⟩ := hv
  have hx := B.exec
  have hb := B.bytes
  have hr := B.returns
  have hts0 := atoms_spec (ws := k_Printer_unit :: gtbl) B.pre
  have hts := fun w h => hts0 w (List.mem_cons_of_mem _ h)
  have hown : s.vm.findClass R_Printer = some m.cls := findClass_of_methodNamed B.named
  have hlocks := B.notSynchronized
  subst hsz
  have hD := hD0.self (sz := s.heap.size)
  generalize hAe : va_A ([(p1, .inr (3, [.ref pb, .int (nI k), .ref ps])), (pb, .inl (cB, 16384, .inl g))]) s.heap.size = A at hD hZ hC ⊢
  have hA : ∀ q : Nat, s.heap.size ≤ q → A q := fun q h => by rw [← hAe]; exact Or.inr h
  have hS : va_S A s.heap s.heap [] := va_S.rf
  have hP : va_P (dC, dI) classes ([(p1, .inr (3, [.ref pb, .int (nI k), .ref ps])), (pb, .inl (cB, 16384, .inl g))]) s.heap := hP
  have hl := lv_entry ([.ref p1, .int x, .int q]) (n := 5) (Nat.le_of_ble_eq_true rfl)
  rw [lg_entry_eq]
  generalize (lg_sl ([.ref p1, .int x, .int q]) ++ List.replicate (5 - (lg_sl ([.ref p1, .int x, .int q])).length) Slot.unset).toArray = ls at hl ⊢
  have hl : lv_has ls 5 [(0, .ref p1), (1, .int x), (2, .int q)] := hl
  refine lv_iload_n hx hb d_Printer_unit_0 rfl (lv_at hl 1 rfl) ?_
  refine lv_iload_n hx hb d_Printer_unit_1 rfl (lv_at hl 2 rfl) ?_
  refine vp_callSi (va_Run.run (va_runS (As := [.int x, .int q]) (rest := []) ⟨hx, hb, hml, hown, hts⟩ (p_Printer_shortEscape l dC dI s.heap x q) (va_cwS 2 hts (gt_S (own := R_Printer) (i := 100) (y := y_Printer_shortEscape) i_Printer_shortEscape z_976 z_977 w_6) rfl rfl rfl (by decide +kernel) ⟨Nat.le_of_ble_eq_true rfl, Nat.le_of_ble_eq_true rfl⟩) ⟨mT_blind, fun U hU hW => ⟨rfl, hN.warm hW⟩⟩ rfl rfl hl.1 rfl (lv_room (Nat.le_of_ble_eq_true rfl)) d_Printer_unit_2 ⟨Nat.le_of_ble_eq_true rfl, Nat.le_of_ble_eq_true rfl⟩)) (fun r21 h_r21 => ?_)
  refine lv_istore_n (lv' := [(3, .int r21), (0, .ref p1), (1, .int x), (2, .int q)]) hx hb d_Printer_unit_5 rfl hl (by decide) rfl (fun ls hl => ?_)
  refine lv_iload_n hx hb d_Printer_unit_6 rfl (lv_at hl 0 rfl) ?_
  refine lv_if_eq (tgt := 24) hx hb d_Printer_unit_7 (by decide) (fun c7 => ?_) (fun c7 => ?_)
  · have hs0 : shE x q = 0 := h_r21.symm.trans c7
    refine lv_iload_n hx hb d_Printer_unit_24 rfl (lv_at hl 2 rfl) ?_
    refine lv_bipush (v := 32) hx hb d_Printer_unit_25 (by decide) ?_
    refine lv_icmp_lt (tgt := 44) hx hb d_Printer_unit_27 (by decide) (fun c27 => ?_) (fun c27 => ?_)
    · have hR : penL (k, 0, g) (unB q x) = penL (k, 0, g) (ltB (ctx 3) 2 ++ hxR x 12) := by
        rw [unB_hx hq hs0 (Or.inl c27)]
        rfl
      refine lv_aload_n hx hb d_Printer_unit_44 rfl (lv_at hl 1 rfl) ?_
      refine va_ldcS hx hb hown (hC 3 _ rfl).2 d_Printer_unit_45 ?_
      have hPc := hP.sub (ws' := [(p1, .inr (3, [.ref pb, .int (nI k), .ref ps])), (pb, .inl (cB, 16384, .inl g))]) [0, 1] rfl
      have hDc := hD.sub (ws' := [(p1, .inr (3, [.ref pb, .int (nI k), .ref ps])), (pb, .inl (cB, 16384, .inl g))]) [0, 1] (by decide) rfl
      have hFc := va_free (wc := [(p1, .inr (3, [.ref pb, .int (nI k), .ref ps])), (pb, .inl (cB, 16384, .inl g))]) hD hS hA [0, 1] rfl
      have hKc := hK.sub (tys' := [(cB, .byte)]) [0] rfl
      refine w_same (fun hq0 => ?_)
      refine vx_callv (vx_runV (As := [.ref (K 3).1]) (rest := []) ⟨hx, hb, hml, hown, hts⟩ (t_putLetters l hl9 dC dI cB p1 pb s.heap (.ref ps) g k (K 3).1 (K 3).2 2 (ctx 3) hk (by decide)) (cwV 1 hts (gt_V (own := R_Printer) (C := R_Printer) (i := 73) (y := y_Printer_putLetters) i_Printer_putLetters z_980 z_982 (gt_sel (y := y_Printer_putLetters) (n := 3) (by decide +kernel)) w_6) rfl rfl rfl (by decide +kernel) ⟨Nat.le_of_ble_eq_true rfl, Nat.le_of_ble_eq_true rfl⟩) ⟨mt_blind, va_recv hK hP (ci := 3) (q0 := 0) rfl rfl, fun U hU hW => ⟨rfl, ⟨hU, by rw [hU]; exact hPc, va_K.moved hW.alike hKc, hDc.weaken (fun _ _ _ _ => trivial)⟩, hN.warm hW, by rw [hU]; exact ZX.moved' hW.alike (ZX.narrow' (ZX.kept' hZ hS.2.1) hFc), by rw [hU]; exact SX.moved' hW.alike (SX.narrow' (SX.kept' (hC 3 _ rfl).1 hS.2.1) hFc)⟩⟩ rfl rfl hl.1 rfl (lv_room (Nat.le_of_ble_eq_true rfl)) d_Printer_unit_47 ⟨Nat.le_of_ble_eq_true rfl, Nat.le_of_ble_eq_true rfl⟩) hS (fun q _ h => hFc q h) hFc (fun q _ h => hFc q h) (fun En ce q9 ⟨kx, gx⟩ t9 H1 locs ht hvm hw hB hz1 hk1 hS hce hcv hcl => ?_) (fun ⟨k22, g22⟩ t9 H1 locs ht hvm hw hB hz1 hk1 hS => ?_)
      · obtain ⟨hEn, hP1, hK1, hD1⟩ := hB
        rw [ht] at hP1
        obtain ⟨hP, hD⟩ := va_join (wr := []) (w1 := [(p1, .inr (3, [.ref pb, .int (nI kx), .ref ps])), (pb, .inl (cB, 16384, .inl gx))]) hP hD [0, 1] [] rfl rfl (by decide) (by decide) hk1 hFc hP1 hD1
        generalize H1 = H at hP hS hce ⊢
        have hP : va_P (dC, dI) classes ([(p1, .inr (3, [.ref pb, .int (nI kx), .ref ps])), (pb, .inl (cB, 16384, .inl gx))]) H := hP
        have hD : va_D A ([(p1, .inr (3, [.ref pb, .int (nI kx), .ref ps])), (pb, .inl (cB, 16384, .inl gx))]) := hD
        exact vx_out (fun x hx => (hex x hx).elim) hlocks hce hcv hcl (fun t9 ht2 ha => ⟨(nI kx, gx), (WNO.go (T := (ltB (ctx 3) 2)) (R := hxR x 12) hR hw), ⟨hEn, by rw [ht2]; exact hP, va_K.moved ha hK, hD⟩, hS.F ht2⟩) hS.2.2 (Nat.le_of_ble_eq_true rfl) (Nat.le_of_ble_eq_true rfl)
      · obtain ⟨⟨hP1, hK1, hD1⟩, hz9⟩ := hB
        rw [ht] at hP1
        rw [ht] at hz9
        refine w_tight (hq0.trans hz9) ?_
        have hq0 := hq0.trans hz9
        obtain ⟨hP, hD⟩ := va_join (wr := []) (w1 := [(p1, .inr (3, [.ref pb, .int (nI k22), .ref ps])), (pb, .inl (cB, 16384, .inl g22))]) hP hD [0, 1] [] rfl rfl (by decide) (by decide) hk1 hFc hP1 hD1
        generalize H1 = H at hP hS hq0 ⊢
        have hP : va_P (dC, dI) classes ([(p1, .inr (3, [.ref pb, .int (nI k22), .ref ps])), (pb, .inl (cB, 16384, .inl g22))]) H := hP
        have hD : va_D A ([(p1, .inr (3, [.ref pb, .int (nI k22), .ref ps])), (pb, .inl (cB, 16384, .inl g22))]) := hD
        have hw : WOK k g ((ltB (ctx 3) 2)) k22 g22 := hw
        have hk22 := WOK.le hw hk
        have hR22 := WOK.go (T := (ltB (ctx 3) 2)) (R := hxR x 12) hR hw
        refine lv_bipush (v := 12) hx hb d_Printer_unit_50 (by decide) ?_
        refine lv_istore (lv' := [(4, .int 12), (3, .int r21), (0, .ref p1), (1, .int x), (2, .int q)]) hx hb d_Printer_unit_52 hl (by decide) rfl (fun ls hl => ?_)
        refine w_loop (D := (dC, dI)) (cl := classes) (A := A) (H0 := s.heap) (nL := 5) 54 (σ := Int32 × Nat × (Nat → Int32)) (fun ⟨sh, k1, g1⟩ => sh5 sh ∧ k1 ≤ 16384 ∧ penL (k, 0, g) (unB q x) = penL (k1, 0, g1) (hxR x sh)) (fun ⟨sh, k1, g1⟩ => (sh + 4).toInt.toNat) (fun ⟨sh, k1, g1⟩ => [(p1, .inr (3, [.ref pb, .int (nI k1), .ref ps])), (pb, .inl (cB, 16384, .inl g1))]) (fun ⟨sh, k1, g1⟩ => [(0, .ref p1), (1, .int x), (4, .int sh)]) ?_ (12, k22, g22) ⟨Or.inl rfl, hk22, hR22⟩ hP hD hS (lv_sub hl [2, 3, 0] rfl)
        rintro ⟨sh, k1, g1⟩ H locs ls hI ih hP hD hS hl
        have hP : va_P (dC, dI) classes ([(p1, .inr (3, [.ref pb, .int (nI k1), .ref ps])), (pb, .inl (cB, 16384, .inl g1))]) H := hP
        have hD : va_D A ([(p1, .inr (3, [.ref pb, .int (nI k1), .ref ps])), (pb, .inl (cB, 16384, .inl g1))]) := hD
        have hl : lv_has ls 5 [(0, .ref p1), (1, .int x), (4, .int sh)] := hl
        obtain ⟨hsh, hkA, hR1⟩ := hI
        have hsh : sh5 sh := hsh
        have hkA : k1 ≤ 16384 := hkA
        have hR1 : penL (k, 0, g) (unB q x) = penL (k1, 0, g1) (hxR x sh) := hR1
        refine lv_iload hx hb d_Printer_unit_54 (lv_at hl 2 rfl) ?_
        refine lv_if_lt (tgt := 81) hx hb d_Printer_unit_56 (by decide) (fun c56 => ?_) (fun c56 => ?_)
        · have hR9 : penL (k, 0, g) (unB q x) = penL (k1, 0, g1) [] := by rw [hR1, hxR_0 hsh c56]
          refine w_same (fun hq => ?_)
          refine W.widen (k := 1) (n := 6) (Nat.le_of_ble_eq_true rfl) (Nat.le_of_ble_eq_true rfl) ?_
          refine vx_ret ?_
          exact W.vret hx hb hr (fun t9 ht hW => ⟨⟨(k1, g1), rfl, hR9, ⟨by rw [ht]; exact hP, va_K.moved hW.alike hK, hD⟩, by rw [ht]; exact hq⟩, hS.F ht⟩) hS.2.2 d_Printer_unit_81
        · rw [hxR_s hsh c56] at hR1
          refine lv_aload_n hx hb d_Printer_unit_59 rfl (lv_at hl 0 rfl) ?_
          refine va_ldcS hx hb hown (hC 4 _ rfl).2 d_Printer_unit_60 ?_
          refine lv_iload_n hx hb d_Printer_unit_62 rfl (lv_at hl 1 rfl) ?_
          refine lv_iload hx hb d_Printer_unit_63 (lv_at hl 2 rfl) ?_
          refine lv_ishr hx hb d_Printer_unit_65 ?_
          refine lv_bipush (v := 15) hx hb d_Printer_unit_66 (by decide) ?_
          refine lv_iand hx hb d_Printer_unit_68 ?_
          obtain ⟨j9, hj9, ej9⟩ := pk_andE ((x >>> (sh &&& 31))) (m := 15) 4 (by decide)
          refine W.eq (g2 := F0 m 69 ls [.int (nI j9), .ref (K 4).1, .ref p1]) (by rw [show ((x >>> (sh &&& 31)) &&& 15) = (nI j9) from ej9]) ?_
          have hPc := hP.sub (ws' := []) [] rfl
          have hDc := hD.sub (ws' := []) [] (by decide) rfl
          have hFc := va_free (wc := []) hD hS hA [] rfl
          have hKc := hK.sub (tys' := []) [] rfl
          refine va_calli (va_runV (As := [.int (nI j9)]) (rest := [.ref p1]) ⟨hx, hb, hml, hown, hts⟩ (c_Str_charAt l dC dI H (K 4).1 (K 4).2 16 (ctx 4) j9 hj9 (by decide)) (cwV 1 hts (gt_V (own := R_Printer) (C := R_Str) (i := 45) (y := y_Str_charAt) i_Str_charAt w_985 w_466 w_467 w_18) rfl rfl rfl (by decide +kernel) ⟨Nat.le_of_ble_eq_true rfl, Nat.le_of_ble_eq_true rfl⟩) ⟨mstr_blind, (by obtain ⟨cell, h1, h2, h3, -⟩ := va_O.kept (hC 4 _ rfl).1.1 hS.2.1; exact ⟨cell, h1, h2, h3⟩), fun U hU hW => ⟨rfl, ⟨hU, by rw [hU]; exact hPc, va_K.moved hW.alike hKc, hDc.weaken (fun _ _ _ _ => trivial)⟩, by rw [hU]; exact SX.moved' hW.alike (SX.narrow' (SX.kept' (hC 4 _ rfl).1 hS.2.1) hFc)⟩⟩ rfl rfl hl.1 rfl (lv_room (Nat.le_of_ble_eq_true rfl)) d_Printer_unit_69 ⟨Nat.le_of_ble_eq_true rfl, Nat.le_of_ble_eq_true rfl⟩) hS (fun q _ h => hFc q h) hFc (fun ch _u t9 H1 locs ht hvm hw hB hz1 hk1 hS => ?_)
          obtain ⟨hP1, hK1, hD1⟩ := hB
          rw [ht] at hP1
          obtain ⟨hP, hD⟩ := va_join (wr := [(p1, .inr (3, [.ref pb, .int (nI k1), .ref ps])), (pb, .inl (cB, 16384, .inl g1))]) (w1 := []) hP hD [] [0, 1] rfl rfl (by decide) (by decide) hk1 hFc hP1 hD1
          generalize H1 = H at hP hS ⊢
          have hP : va_P (dC, dI) classes ([(p1, .inr (3, [.ref pb, .int (nI k1), .ref ps])), (pb, .inl (cB, 16384, .inl g1))]) H := hP
          have hD : va_D A ([(p1, .inr (3, [.ref pb, .int (nI k1), .ref ps])), (pb, .inl (cB, 16384, .inl g1))]) := hD
          have hch : ch = hxC ((x >>> (sh &&& 31))) := by
            have hw : ch = ctx 4 j9 &&& 255 := hw
            rw [hw]; unfold hxC; rw [ej9, nI_clamp (by omega)]
          have hRq : penL (k, 0, g) (unB q x) = penL (k1, 0, g1) ([ch] ++ hxR x (sh + Int32.ofInt (-4))) := hR1.trans (by rw [hch, List.singleton_append])
          have hPc := hP.sub (ws' := [(p1, .inr (3, [.ref pb, .int (nI k1), .ref ps])), (pb, .inl (cB, 16384, .inl g1))]) [0, 1] rfl
          have hDc := hD.sub (ws' := [(p1, .inr (3, [.ref pb, .int (nI k1), .ref ps])), (pb, .inl (cB, 16384, .inl g1))]) [0, 1] (by decide) rfl
          have hFc := va_free (wc := [(p1, .inr (3, [.ref pb, .int (nI k1), .ref ps])), (pb, .inl (cB, 16384, .inl g1))]) hD hS hA [0, 1] rfl
          have hKc := hK.sub (tys' := [(cB, .byte)]) [0] rfl
          refine w_same (fun hq0 => ?_)
          refine vx_callv (vx_runV (As := [.int ch]) (rest := []) ⟨hx, hb, hml, hown, hts⟩ (t_put l hl9 dC dI cB p1 pb H (.ref ps) g1 k1 ch hkA) (cwV 1 hts (gt_V (own := R_Printer) (C := R_Printer) (i := 25) (y := y_Printer_put) i_Printer_put w_957 w_959 (gt_sel (y := y_Printer_put) (n := 3) (by decide +kernel)) w_6) rfl rfl rfl (by decide +kernel) ⟨Nat.le_of_ble_eq_true rfl, Nat.le_of_ble_eq_true rfl⟩) ⟨mx_blind, va_recv hK hP (ci := 3) (q0 := 0) rfl rfl, fun U hU hW => ⟨rfl, ⟨hU, by rw [hU]; exact hPc, va_K.moved hW.alike hKc, hDc.weaken (fun _ _ _ _ => trivial)⟩, hN.warm hW, by rw [hU]; exact ZX.moved' hW.alike (ZX.narrow' (ZX.kept' hZ hS.2.1) hFc)⟩⟩ rfl rfl hl.1 rfl (lv_room (Nat.le_of_ble_eq_true rfl)) d_Printer_unit_72 ⟨Nat.le_of_ble_eq_true rfl, Nat.le_of_ble_eq_true rfl⟩) hS (fun q _ h => hFc q h) hFc (fun q _ h => hFc q h) (fun En ce q9 ⟨kx, gx⟩ t9 H1 locs ht hvm hw hB hz1 hk1 hS hce hcv hcl => ?_) (fun ⟨k23, g23⟩ t9 H1 locs ht hvm hw hB hz1 hk1 hS => ?_)
          · obtain ⟨hEn, hP1, hK1, hD1⟩ := hB
            rw [ht] at hP1
            obtain ⟨hP, hD⟩ := va_join (wr := []) (w1 := [(p1, .inr (3, [.ref pb, .int (nI kx), .ref ps])), (pb, .inl (cB, 16384, .inl gx))]) hP hD [0, 1] [] rfl rfl (by decide) (by decide) hk1 hFc hP1 hD1
            generalize H1 = H at hP hS hce ⊢
            have hP : va_P (dC, dI) classes ([(p1, .inr (3, [.ref pb, .int (nI kx), .ref ps])), (pb, .inl (cB, 16384, .inl gx))]) H := hP
            have hD : va_D A ([(p1, .inr (3, [.ref pb, .int (nI kx), .ref ps])), (pb, .inl (cB, 16384, .inl gx))]) := hD
            exact vx_out (fun x hx => (hex x hx).elim) hlocks hce hcv hcl (fun t9 ht2 ha => ⟨(nI kx, gx), (WNO.go (T := [ch]) (R := hxR x (sh + Int32.ofInt (-4))) hRq hw), ⟨hEn, by rw [ht2]; exact hP, va_K.moved ha hK, hD⟩, hS.F ht2⟩) hS.2.2 (Nat.le_of_ble_eq_true rfl) (Nat.le_of_ble_eq_true rfl)
          · obtain ⟨⟨hP1, hK1, hD1⟩, hz9⟩ := hB
            rw [ht] at hP1
            rw [ht] at hz9
            refine w_tight (hq0.trans hz9) ?_
            have hq0 := hq0.trans hz9
            obtain ⟨hP, hD⟩ := va_join (wr := []) (w1 := [(p1, .inr (3, [.ref pb, .int (nI k23), .ref ps])), (pb, .inl (cB, 16384, .inl g23))]) hP hD [0, 1] [] rfl rfl (by decide) (by decide) hk1 hFc hP1 hD1
            generalize H1 = H at hP hS hq0 ⊢
            have hP : va_P (dC, dI) classes ([(p1, .inr (3, [.ref pb, .int (nI k23), .ref ps])), (pb, .inl (cB, 16384, .inl g23))]) H := hP
            have hD : va_D A ([(p1, .inr (3, [.ref pb, .int (nI k23), .ref ps])), (pb, .inl (cB, 16384, .inl g23))]) := hD
            have hw : WOK k1 g1 [ch] k23 g23 := hw
            have hk23 := WOK.le hw hkA
            have hR23 := WOK.go (T := [ch]) (R := hxR x (sh + Int32.ofInt (-4))) hRq hw
            refine lv_iinc (v := sh + Int32.ofInt (-4)) (lv' := [(4, .int (sh + Int32.ofInt (-4))), (0, .ref p1), (1, .int x)]) hx hb d_Printer_unit_75 hl (k := 2) rfl rfl (by decide) rfl (fun ls hl => ?_)
            refine lv_goto (tgt := 54) hx hb d_Printer_unit_78 (by decide) ?_
            have h5 := sh5_s hsh c56
            exact ih (sh + Int32.ofInt (-4), k23, g23) _ _ _ ⟨h5.1, hk23, hR23⟩ h5.2 hP hD hS (lv_sub hl [1, 2, 0] rfl)
    · refine lv_iload_n hx hb d_Printer_unit_30 rfl (lv_at hl 2 rfl) ?_
      refine lv_bipush (v := 126) hx hb d_Printer_unit_31 (by decide) ?_
      refine lv_icmp_gt (tgt := 44) hx hb d_Printer_unit_33 (by decide) (fun c33 => ?_) (fun c33 => ?_)
      · have hR : penL (k, 0, g) (unB q x) = penL (k, 0, g) (ltB (ctx 3) 2 ++ hxR x 12) := by
          rw [unB_hx hq hs0 (Or.inr (fun h => absurd c33 (Int32.not_lt.mpr h)))]
          rfl
        refine lv_aload_n hx hb d_Printer_unit_44 rfl (lv_at hl 1 rfl) ?_
        refine va_ldcS hx hb hown (hC 3 _ rfl).2 d_Printer_unit_45 ?_
        have hPc := hP.sub (ws' := [(p1, .inr (3, [.ref pb, .int (nI k), .ref ps])), (pb, .inl (cB, 16384, .inl g))]) [0, 1] rfl
        have hDc := hD.sub (ws' := [(p1, .inr (3, [.ref pb, .int (nI k), .ref ps])), (pb, .inl (cB, 16384, .inl g))]) [0, 1] (by decide) rfl
        have hFc := va_free (wc := [(p1, .inr (3, [.ref pb, .int (nI k), .ref ps])), (pb, .inl (cB, 16384, .inl g))]) hD hS hA [0, 1] rfl
        have hKc := hK.sub (tys' := [(cB, .byte)]) [0] rfl
        refine w_same (fun hq0 => ?_)
        refine vx_callv (vx_runV (As := [.ref (K 3).1]) (rest := []) ⟨hx, hb, hml, hown, hts⟩ (t_putLetters l hl9 dC dI cB p1 pb s.heap (.ref ps) g k (K 3).1 (K 3).2 2 (ctx 3) hk (by decide)) (cwV 1 hts (gt_V (own := R_Printer) (C := R_Printer) (i := 73) (y := y_Printer_putLetters) i_Printer_putLetters z_980 z_982 (gt_sel (y := y_Printer_putLetters) (n := 3) (by decide +kernel)) w_6) rfl rfl rfl (by decide +kernel) ⟨Nat.le_of_ble_eq_true rfl, Nat.le_of_ble_eq_true rfl⟩) ⟨mt_blind, va_recv hK hP (ci := 3) (q0 := 0) rfl rfl, fun U hU hW => ⟨rfl, ⟨hU, by rw [hU]; exact hPc, va_K.moved hW.alike hKc, hDc.weaken (fun _ _ _ _ => trivial)⟩, hN.warm hW, by rw [hU]; exact ZX.moved' hW.alike (ZX.narrow' (ZX.kept' hZ hS.2.1) hFc), by rw [hU]; exact SX.moved' hW.alike (SX.narrow' (SX.kept' (hC 3 _ rfl).1 hS.2.1) hFc)⟩⟩ rfl rfl hl.1 rfl (lv_room (Nat.le_of_ble_eq_true rfl)) d_Printer_unit_47 ⟨Nat.le_of_ble_eq_true rfl, Nat.le_of_ble_eq_true rfl⟩) hS (fun q _ h => hFc q h) hFc (fun q _ h => hFc q h) (fun En ce q9 ⟨kx, gx⟩ t9 H1 locs ht hvm hw hB hz1 hk1 hS hce hcv hcl => ?_) (fun ⟨k24, g24⟩ t9 H1 locs ht hvm hw hB hz1 hk1 hS => ?_)
        · obtain ⟨hEn, hP1, hK1, hD1⟩ := hB
          rw [ht] at hP1
          obtain ⟨hP, hD⟩ := va_join (wr := []) (w1 := [(p1, .inr (3, [.ref pb, .int (nI kx), .ref ps])), (pb, .inl (cB, 16384, .inl gx))]) hP hD [0, 1] [] rfl rfl (by decide) (by decide) hk1 hFc hP1 hD1
          generalize H1 = H at hP hS hce ⊢
          have hP : va_P (dC, dI) classes ([(p1, .inr (3, [.ref pb, .int (nI kx), .ref ps])), (pb, .inl (cB, 16384, .inl gx))]) H := hP
          have hD : va_D A ([(p1, .inr (3, [.ref pb, .int (nI kx), .ref ps])), (pb, .inl (cB, 16384, .inl gx))]) := hD
          exact vx_out (fun x hx => (hex x hx).elim) hlocks hce hcv hcl (fun t9 ht2 ha => ⟨(nI kx, gx), (WNO.go (T := (ltB (ctx 3) 2)) (R := hxR x 12) hR hw), ⟨hEn, by rw [ht2]; exact hP, va_K.moved ha hK, hD⟩, hS.F ht2⟩) hS.2.2 (Nat.le_of_ble_eq_true rfl) (Nat.le_of_ble_eq_true rfl)
        · obtain ⟨⟨hP1, hK1, hD1⟩, hz9⟩ := hB
          rw [ht] at hP1
          rw [ht] at hz9
          refine w_tight (hq0.trans hz9) ?_
          have hq0 := hq0.trans hz9
          obtain ⟨hP, hD⟩ := va_join (wr := []) (w1 := [(p1, .inr (3, [.ref pb, .int (nI k24), .ref ps])), (pb, .inl (cB, 16384, .inl g24))]) hP hD [0, 1] [] rfl rfl (by decide) (by decide) hk1 hFc hP1 hD1
          generalize H1 = H at hP hS hq0 ⊢
          have hP : va_P (dC, dI) classes ([(p1, .inr (3, [.ref pb, .int (nI k24), .ref ps])), (pb, .inl (cB, 16384, .inl g24))]) H := hP
          have hD : va_D A ([(p1, .inr (3, [.ref pb, .int (nI k24), .ref ps])), (pb, .inl (cB, 16384, .inl g24))]) := hD
          have hw : WOK k g ((ltB (ctx 3) 2)) k24 g24 := hw
          have hk24 := WOK.le hw hk
          have hR24 := WOK.go (T := (ltB (ctx 3) 2)) (R := hxR x 12) hR hw
          refine lv_bipush (v := 12) hx hb d_Printer_unit_50 (by decide) ?_
          refine lv_istore (lv' := [(4, .int 12), (3, .int r21), (0, .ref p1), (1, .int x), (2, .int q)]) hx hb d_Printer_unit_52 hl (by decide) rfl (fun ls hl => ?_)
          refine w_loop (D := (dC, dI)) (cl := classes) (A := A) (H0 := s.heap) (nL := 5) 54 (σ := Int32 × Nat × (Nat → Int32)) (fun ⟨sh, k1, g1⟩ => sh5 sh ∧ k1 ≤ 16384 ∧ penL (k, 0, g) (unB q x) = penL (k1, 0, g1) (hxR x sh)) (fun ⟨sh, k1, g1⟩ => (sh + 4).toInt.toNat) (fun ⟨sh, k1, g1⟩ => [(p1, .inr (3, [.ref pb, .int (nI k1), .ref ps])), (pb, .inl (cB, 16384, .inl g1))]) (fun ⟨sh, k1, g1⟩ => [(0, .ref p1), (1, .int x), (4, .int sh)]) ?_ (12, k24, g24) ⟨Or.inl rfl, hk24, hR24⟩ hP hD hS (lv_sub hl [2, 3, 0] rfl)
          rintro ⟨sh, k1, g1⟩ H locs ls hI ih hP hD hS hl
          have hP : va_P (dC, dI) classes ([(p1, .inr (3, [.ref pb, .int (nI k1), .ref ps])), (pb, .inl (cB, 16384, .inl g1))]) H := hP
          have hD : va_D A ([(p1, .inr (3, [.ref pb, .int (nI k1), .ref ps])), (pb, .inl (cB, 16384, .inl g1))]) := hD
          have hl : lv_has ls 5 [(0, .ref p1), (1, .int x), (4, .int sh)] := hl
          obtain ⟨hsh, hkA, hR1⟩ := hI
          have hsh : sh5 sh := hsh
          have hkA : k1 ≤ 16384 := hkA
          have hR1 : penL (k, 0, g) (unB q x) = penL (k1, 0, g1) (hxR x sh) := hR1
          refine lv_iload hx hb d_Printer_unit_54 (lv_at hl 2 rfl) ?_
          refine lv_if_lt (tgt := 81) hx hb d_Printer_unit_56 (by decide) (fun c56 => ?_) (fun c56 => ?_)
          · have hR9 : penL (k, 0, g) (unB q x) = penL (k1, 0, g1) [] := by rw [hR1, hxR_0 hsh c56]
            refine w_same (fun hq => ?_)
            refine W.widen (k := 1) (n := 6) (Nat.le_of_ble_eq_true rfl) (Nat.le_of_ble_eq_true rfl) ?_
            refine vx_ret ?_
            exact W.vret hx hb hr (fun t9 ht hW => ⟨⟨(k1, g1), rfl, hR9, ⟨by rw [ht]; exact hP, va_K.moved hW.alike hK, hD⟩, by rw [ht]; exact hq⟩, hS.F ht⟩) hS.2.2 d_Printer_unit_81
          · rw [hxR_s hsh c56] at hR1
            refine lv_aload_n hx hb d_Printer_unit_59 rfl (lv_at hl 0 rfl) ?_
            refine va_ldcS hx hb hown (hC 4 _ rfl).2 d_Printer_unit_60 ?_
            refine lv_iload_n hx hb d_Printer_unit_62 rfl (lv_at hl 1 rfl) ?_
            refine lv_iload hx hb d_Printer_unit_63 (lv_at hl 2 rfl) ?_
            refine lv_ishr hx hb d_Printer_unit_65 ?_
            refine lv_bipush (v := 15) hx hb d_Printer_unit_66 (by decide) ?_
            refine lv_iand hx hb d_Printer_unit_68 ?_
            obtain ⟨j9, hj9, ej9⟩ := pk_andE ((x >>> (sh &&& 31))) (m := 15) 4 (by decide)
            refine W.eq (g2 := F0 m 69 ls [.int (nI j9), .ref (K 4).1, .ref p1]) (by rw [show ((x >>> (sh &&& 31)) &&& 15) = (nI j9) from ej9]) ?_
            have hPc := hP.sub (ws' := []) [] rfl
            have hDc := hD.sub (ws' := []) [] (by decide) rfl
            have hFc := va_free (wc := []) hD hS hA [] rfl
            have hKc := hK.sub (tys' := []) [] rfl
            refine va_calli (va_runV (As := [.int (nI j9)]) (rest := [.ref p1]) ⟨hx, hb, hml, hown, hts⟩ (c_Str_charAt l dC dI H (K 4).1 (K 4).2 16 (ctx 4) j9 hj9 (by decide)) (cwV 1 hts (gt_V (own := R_Printer) (C := R_Str) (i := 45) (y := y_Str_charAt) i_Str_charAt w_985 w_466 w_467 w_18) rfl rfl rfl (by decide +kernel) ⟨Nat.le_of_ble_eq_true rfl, Nat.le_of_ble_eq_true rfl⟩) ⟨mstr_blind, (by obtain ⟨cell, h1, h2, h3, -⟩ := va_O.kept (hC 4 _ rfl).1.1 hS.2.1; exact ⟨cell, h1, h2, h3⟩), fun U hU hW => ⟨rfl, ⟨hU, by rw [hU]; exact hPc, va_K.moved hW.alike hKc, hDc.weaken (fun _ _ _ _ => trivial)⟩, by rw [hU]; exact SX.moved' hW.alike (SX.narrow' (SX.kept' (hC 4 _ rfl).1 hS.2.1) hFc)⟩⟩ rfl rfl hl.1 rfl (lv_room (Nat.le_of_ble_eq_true rfl)) d_Printer_unit_69 ⟨Nat.le_of_ble_eq_true rfl, Nat.le_of_ble_eq_true rfl⟩) hS (fun q _ h => hFc q h) hFc (fun ch _u t9 H1 locs ht hvm hw hB hz1 hk1 hS => ?_)
            obtain ⟨hP1, hK1, hD1⟩ := hB
            rw [ht] at hP1
            obtain ⟨hP, hD⟩ := va_join (wr := [(p1, .inr (3, [.ref pb, .int (nI k1), .ref ps])), (pb, .inl (cB, 16384, .inl g1))]) (w1 := []) hP hD [] [0, 1] rfl rfl (by decide) (by decide) hk1 hFc hP1 hD1
            generalize H1 = H at hP hS ⊢
            have hP : va_P (dC, dI) classes ([(p1, .inr (3, [.ref pb, .int (nI k1), .ref ps])), (pb, .inl (cB, 16384, .inl g1))]) H := hP
            have hD : va_D A ([(p1, .inr (3, [.ref pb, .int (nI k1), .ref ps])), (pb, .inl (cB, 16384, .inl g1))]) := hD
            have hch : ch = hxC ((x >>> (sh &&& 31))) := by
              have hw : ch = ctx 4 j9 &&& 255 := hw
              rw [hw]; unfold hxC; rw [ej9, nI_clamp (by omega)]
            have hRq : penL (k, 0, g) (unB q x) = penL (k1, 0, g1) ([ch] ++ hxR x (sh + Int32.ofInt (-4))) := hR1.trans (by rw [hch, List.singleton_append])
            have hPc := hP.sub (ws' := [(p1, .inr (3, [.ref pb, .int (nI k1), .ref ps])), (pb, .inl (cB, 16384, .inl g1))]) [0, 1] rfl
            have hDc := hD.sub (ws' := [(p1, .inr (3, [.ref pb, .int (nI k1), .ref ps])), (pb, .inl (cB, 16384, .inl g1))]) [0, 1] (by decide) rfl
            have hFc := va_free (wc := [(p1, .inr (3, [.ref pb, .int (nI k1), .ref ps])), (pb, .inl (cB, 16384, .inl g1))]) hD hS hA [0, 1] rfl
            have hKc := hK.sub (tys' := [(cB, .byte)]) [0] rfl
            refine w_same (fun hq0 => ?_)
            refine vx_callv (vx_runV (As := [.int ch]) (rest := []) ⟨hx, hb, hml, hown, hts⟩ (t_put l hl9 dC dI cB p1 pb H (.ref ps) g1 k1 ch hkA) (cwV 1 hts (gt_V (own := R_Printer) (C := R_Printer) (i := 25) (y := y_Printer_put) i_Printer_put w_957 w_959 (gt_sel (y := y_Printer_put) (n := 3) (by decide +kernel)) w_6) rfl rfl rfl (by decide +kernel) ⟨Nat.le_of_ble_eq_true rfl, Nat.le_of_ble_eq_true rfl⟩) ⟨mx_blind, va_recv hK hP (ci := 3) (q0 := 0) rfl rfl, fun U hU hW => ⟨rfl, ⟨hU, by rw [hU]; exact hPc, va_K.moved hW.alike hKc, hDc.weaken (fun _ _ _ _ => trivial)⟩, hN.warm hW, by rw [hU]; exact ZX.moved' hW.alike (ZX.narrow' (ZX.kept' hZ hS.2.1) hFc)⟩⟩ rfl rfl hl.1 rfl (lv_room (Nat.le_of_ble_eq_true rfl)) d_Printer_unit_72 ⟨Nat.le_of_ble_eq_true rfl, Nat.le_of_ble_eq_true rfl⟩) hS (fun q _ h => hFc q h) hFc (fun q _ h => hFc q h) (fun En ce q9 ⟨kx, gx⟩ t9 H1 locs ht hvm hw hB hz1 hk1 hS hce hcv hcl => ?_) (fun ⟨k25, g25⟩ t9 H1 locs ht hvm hw hB hz1 hk1 hS => ?_)
            · obtain ⟨hEn, hP1, hK1, hD1⟩ := hB
              rw [ht] at hP1
              obtain ⟨hP, hD⟩ := va_join (wr := []) (w1 := [(p1, .inr (3, [.ref pb, .int (nI kx), .ref ps])), (pb, .inl (cB, 16384, .inl gx))]) hP hD [0, 1] [] rfl rfl (by decide) (by decide) hk1 hFc hP1 hD1
              generalize H1 = H at hP hS hce ⊢
              have hP : va_P (dC, dI) classes ([(p1, .inr (3, [.ref pb, .int (nI kx), .ref ps])), (pb, .inl (cB, 16384, .inl gx))]) H := hP
              have hD : va_D A ([(p1, .inr (3, [.ref pb, .int (nI kx), .ref ps])), (pb, .inl (cB, 16384, .inl gx))]) := hD
              exact vx_out (fun x hx => (hex x hx).elim) hlocks hce hcv hcl (fun t9 ht2 ha => ⟨(nI kx, gx), (WNO.go (T := [ch]) (R := hxR x (sh + Int32.ofInt (-4))) hRq hw), ⟨hEn, by rw [ht2]; exact hP, va_K.moved ha hK, hD⟩, hS.F ht2⟩) hS.2.2 (Nat.le_of_ble_eq_true rfl) (Nat.le_of_ble_eq_true rfl)
            · obtain ⟨⟨hP1, hK1, hD1⟩, hz9⟩ := hB
              rw [ht] at hP1
              rw [ht] at hz9
              refine w_tight (hq0.trans hz9) ?_
              have hq0 := hq0.trans hz9
              obtain ⟨hP, hD⟩ := va_join (wr := []) (w1 := [(p1, .inr (3, [.ref pb, .int (nI k25), .ref ps])), (pb, .inl (cB, 16384, .inl g25))]) hP hD [0, 1] [] rfl rfl (by decide) (by decide) hk1 hFc hP1 hD1
              generalize H1 = H at hP hS hq0 ⊢
              have hP : va_P (dC, dI) classes ([(p1, .inr (3, [.ref pb, .int (nI k25), .ref ps])), (pb, .inl (cB, 16384, .inl g25))]) H := hP
              have hD : va_D A ([(p1, .inr (3, [.ref pb, .int (nI k25), .ref ps])), (pb, .inl (cB, 16384, .inl g25))]) := hD
              have hw : WOK k1 g1 [ch] k25 g25 := hw
              have hk25 := WOK.le hw hkA
              have hR25 := WOK.go (T := [ch]) (R := hxR x (sh + Int32.ofInt (-4))) hRq hw
              refine lv_iinc (v := sh + Int32.ofInt (-4)) (lv' := [(4, .int (sh + Int32.ofInt (-4))), (0, .ref p1), (1, .int x)]) hx hb d_Printer_unit_75 hl (k := 2) rfl rfl (by decide) rfl (fun ls hl => ?_)
              refine lv_goto (tgt := 54) hx hb d_Printer_unit_78 (by decide) ?_
              have h5 := sh5_s hsh c56
              exact ih (sh + Int32.ofInt (-4), k25, g25) _ _ _ ⟨h5.1, hk25, hR25⟩ h5.2 hP hD hS (lv_sub hl [1, 2, 0] rfl)
      · have hR : penL (k, 0, g) (unB q x) = penL (k, 0, g) [x] := by rw [unB_pl hq hs0 c27 (Int32.not_lt.mp c33)]
        refine lv_aload_n hx hb d_Printer_unit_36 rfl (lv_at hl 1 rfl) ?_
        refine lv_iload_n hx hb d_Printer_unit_37 rfl (lv_at hl 2 rfl) ?_
        have hPc := hP.sub (ws' := [(p1, .inr (3, [.ref pb, .int (nI k), .ref ps])), (pb, .inl (cB, 16384, .inl g))]) [0, 1] rfl
        have hDc := hD.sub (ws' := [(p1, .inr (3, [.ref pb, .int (nI k), .ref ps])), (pb, .inl (cB, 16384, .inl g))]) [0, 1] (by decide) rfl
        have hFc := va_free (wc := [(p1, .inr (3, [.ref pb, .int (nI k), .ref ps])), (pb, .inl (cB, 16384, .inl g))]) hD hS hA [0, 1] rfl
        have hKc := hK.sub (tys' := [(cB, .byte)]) [0] rfl
        refine w_same (fun hq0 => ?_)
        refine vx_callv (vx_runV (As := [.int x]) (rest := []) ⟨hx, hb, hml, hown, hts⟩ (t_put l hl9 dC dI cB p1 pb s.heap (.ref ps) g k x hk) (cwV 1 hts (gt_V (own := R_Printer) (C := R_Printer) (i := 25) (y := y_Printer_put) i_Printer_put w_957 w_959 (gt_sel (y := y_Printer_put) (n := 3) (by decide +kernel)) w_6) rfl rfl rfl (by decide +kernel) ⟨Nat.le_of_ble_eq_true rfl, Nat.le_of_ble_eq_true rfl⟩) ⟨mx_blind, va_recv hK hP (ci := 3) (q0 := 0) rfl rfl, fun U hU hW => ⟨rfl, ⟨hU, by rw [hU]; exact hPc, va_K.moved hW.alike hKc, hDc.weaken (fun _ _ _ _ => trivial)⟩, hN.warm hW, by rw [hU]; exact ZX.moved' hW.alike (ZX.narrow' (ZX.kept' hZ hS.2.1) hFc)⟩⟩ rfl rfl hl.1 rfl (lv_room (Nat.le_of_ble_eq_true rfl)) d_Printer_unit_38 ⟨Nat.le_of_ble_eq_true rfl, Nat.le_of_ble_eq_true rfl⟩) hS (fun q _ h => hFc q h) hFc (fun q _ h => hFc q h) (fun En ce q9 ⟨kx, gx⟩ t9 H1 locs ht hvm hw hB hz1 hk1 hS hce hcv hcl => ?_) (fun ⟨k26, g26⟩ t9 H1 locs ht hvm hw hB hz1 hk1 hS => ?_)
        · obtain ⟨hEn, hP1, hK1, hD1⟩ := hB
          rw [ht] at hP1
          obtain ⟨hP, hD⟩ := va_join (wr := []) (w1 := [(p1, .inr (3, [.ref pb, .int (nI kx), .ref ps])), (pb, .inl (cB, 16384, .inl gx))]) hP hD [0, 1] [] rfl rfl (by decide) (by decide) hk1 hFc hP1 hD1
          generalize H1 = H at hP hS hce ⊢
          have hP : va_P (dC, dI) classes ([(p1, .inr (3, [.ref pb, .int (nI kx), .ref ps])), (pb, .inl (cB, 16384, .inl gx))]) H := hP
          have hD : va_D A ([(p1, .inr (3, [.ref pb, .int (nI kx), .ref ps])), (pb, .inl (cB, 16384, .inl gx))]) := hD
          exact vx_out (fun x hx => (hex x hx).elim) hlocks hce hcv hcl (fun t9 ht2 ha => ⟨(nI kx, gx), (WNO.go (T := [x]) (R := []) hR hw), ⟨hEn, by rw [ht2]; exact hP, va_K.moved ha hK, hD⟩, hS.F ht2⟩) hS.2.2 (Nat.le_of_ble_eq_true rfl) (Nat.le_of_ble_eq_true rfl)
        · obtain ⟨⟨hP1, hK1, hD1⟩, hz9⟩ := hB
          rw [ht] at hP1
          rw [ht] at hz9
          refine w_tight (hq0.trans hz9) ?_
          have hq0 := hq0.trans hz9
          obtain ⟨hP, hD⟩ := va_join (wr := []) (w1 := [(p1, .inr (3, [.ref pb, .int (nI k26), .ref ps])), (pb, .inl (cB, 16384, .inl g26))]) hP hD [0, 1] [] rfl rfl (by decide) (by decide) hk1 hFc hP1 hD1
          generalize H1 = H at hP hS hq0 ⊢
          have hP : va_P (dC, dI) classes ([(p1, .inr (3, [.ref pb, .int (nI k26), .ref ps])), (pb, .inl (cB, 16384, .inl g26))]) H := hP
          have hD : va_D A ([(p1, .inr (3, [.ref pb, .int (nI k26), .ref ps])), (pb, .inl (cB, 16384, .inl g26))]) := hD
          have hw : WOK k g [x] k26 g26 := hw
          have hk26 := WOK.le hw hk
          have hR26 := WOK.go (T := [x]) (R := []) hR hw
          refine lv_goto (tgt := 81) hx hb d_Printer_unit_41 (by decide) ?_
          refine w_same (fun hq => ?_)
          refine W.widen (k := 1) (n := 6) (Nat.le_of_ble_eq_true rfl) (Nat.le_of_ble_eq_true rfl) ?_
          refine vx_ret ?_
          exact W.vret hx hb hr (fun t9 ht hW => ⟨⟨(k26, g26), rfl, hR26, ⟨by rw [ht]; exact hP, va_K.moved hW.alike hK, hD⟩, by rw [ht]; exact hq⟩, hS.F ht⟩) hS.2.2 d_Printer_unit_81
  · have hs0 : ¬ shE x q = 0 := fun h => c7 (h_r21.trans h)
    have hR : penL (k, 0, g) (unB q x) = penL (k, 0, g) ([92] ++ [r21]) := by rw [unB_sh hq hs0, h_r21]; rfl
    refine lv_aload_n hx hb d_Printer_unit_10 rfl (lv_at hl 1 rfl) ?_
    refine lv_bipush (v := 92) hx hb d_Printer_unit_11 (by decide) ?_
    have hPc := hP.sub (ws' := [(p1, .inr (3, [.ref pb, .int (nI k), .ref ps])), (pb, .inl (cB, 16384, .inl g))]) [0, 1] rfl
    have hDc := hD.sub (ws' := [(p1, .inr (3, [.ref pb, .int (nI k), .ref ps])), (pb, .inl (cB, 16384, .inl g))]) [0, 1] (by decide) rfl
    have hFc := va_free (wc := [(p1, .inr (3, [.ref pb, .int (nI k), .ref ps])), (pb, .inl (cB, 16384, .inl g))]) hD hS hA [0, 1] rfl
    have hKc := hK.sub (tys' := [(cB, .byte)]) [0] rfl
    refine w_same (fun hq0 => ?_)
    refine vx_callv (vx_runV (As := [.int 92]) (rest := []) ⟨hx, hb, hml, hown, hts⟩ (t_put l hl9 dC dI cB p1 pb s.heap (.ref ps) g k 92 hk) (cwV 1 hts (gt_V (own := R_Printer) (C := R_Printer) (i := 25) (y := y_Printer_put) i_Printer_put w_957 w_959 (gt_sel (y := y_Printer_put) (n := 3) (by decide +kernel)) w_6) rfl rfl rfl (by decide +kernel) ⟨Nat.le_of_ble_eq_true rfl, Nat.le_of_ble_eq_true rfl⟩) ⟨mx_blind, va_recv hK hP (ci := 3) (q0 := 0) rfl rfl, fun U hU hW => ⟨rfl, ⟨hU, by rw [hU]; exact hPc, va_K.moved hW.alike hKc, hDc.weaken (fun _ _ _ _ => trivial)⟩, hN.warm hW, by rw [hU]; exact ZX.moved' hW.alike (ZX.narrow' (ZX.kept' hZ hS.2.1) hFc)⟩⟩ rfl rfl hl.1 rfl (lv_room (Nat.le_of_ble_eq_true rfl)) d_Printer_unit_13 ⟨Nat.le_of_ble_eq_true rfl, Nat.le_of_ble_eq_true rfl⟩) hS (fun q _ h => hFc q h) hFc (fun q _ h => hFc q h) (fun En ce q9 ⟨kx, gx⟩ t9 H1 locs ht hvm hw hB hz1 hk1 hS hce hcv hcl => ?_) (fun ⟨k27, g27⟩ t9 H1 locs ht hvm hw hB hz1 hk1 hS => ?_)
    · obtain ⟨hEn, hP1, hK1, hD1⟩ := hB
      rw [ht] at hP1
      obtain ⟨hP, hD⟩ := va_join (wr := []) (w1 := [(p1, .inr (3, [.ref pb, .int (nI kx), .ref ps])), (pb, .inl (cB, 16384, .inl gx))]) hP hD [0, 1] [] rfl rfl (by decide) (by decide) hk1 hFc hP1 hD1
      generalize H1 = H at hP hS hce ⊢
      have hP : va_P (dC, dI) classes ([(p1, .inr (3, [.ref pb, .int (nI kx), .ref ps])), (pb, .inl (cB, 16384, .inl gx))]) H := hP
      have hD : va_D A ([(p1, .inr (3, [.ref pb, .int (nI kx), .ref ps])), (pb, .inl (cB, 16384, .inl gx))]) := hD
      exact vx_out (fun x hx => (hex x hx).elim) hlocks hce hcv hcl (fun t9 ht2 ha => ⟨(nI kx, gx), (WNO.go (T := [92]) (R := [r21]) hR hw), ⟨hEn, by rw [ht2]; exact hP, va_K.moved ha hK, hD⟩, hS.F ht2⟩) hS.2.2 (Nat.le_of_ble_eq_true rfl) (Nat.le_of_ble_eq_true rfl)
    · obtain ⟨⟨hP1, hK1, hD1⟩, hz9⟩ := hB
      rw [ht] at hP1
      rw [ht] at hz9
      refine w_tight (hq0.trans hz9) ?_
      have hq0 := hq0.trans hz9
      obtain ⟨hP, hD⟩ := va_join (wr := []) (w1 := [(p1, .inr (3, [.ref pb, .int (nI k27), .ref ps])), (pb, .inl (cB, 16384, .inl g27))]) hP hD [0, 1] [] rfl rfl (by decide) (by decide) hk1 hFc hP1 hD1
      generalize H1 = H at hP hS hq0 ⊢
      have hP : va_P (dC, dI) classes ([(p1, .inr (3, [.ref pb, .int (nI k27), .ref ps])), (pb, .inl (cB, 16384, .inl g27))]) H := hP
      have hD : va_D A ([(p1, .inr (3, [.ref pb, .int (nI k27), .ref ps])), (pb, .inl (cB, 16384, .inl g27))]) := hD
      have hw : WOK k g [92] k27 g27 := hw
      have hk27 := WOK.le hw hk
      have hR27 := WOK.go (T := [92]) (R := [r21]) hR hw
      refine lv_aload_n hx hb d_Printer_unit_16 rfl (lv_at hl 1 rfl) ?_
      refine lv_iload_n hx hb d_Printer_unit_17 rfl (lv_at hl 0 rfl) ?_
      have hPc := hP.sub (ws' := [(p1, .inr (3, [.ref pb, .int (nI k27), .ref ps])), (pb, .inl (cB, 16384, .inl g27))]) [0, 1] rfl
      have hDc := hD.sub (ws' := [(p1, .inr (3, [.ref pb, .int (nI k27), .ref ps])), (pb, .inl (cB, 16384, .inl g27))]) [0, 1] (by decide) rfl
      have hFc := va_free (wc := [(p1, .inr (3, [.ref pb, .int (nI k27), .ref ps])), (pb, .inl (cB, 16384, .inl g27))]) hD hS hA [0, 1] rfl
      have hKc := hK.sub (tys' := [(cB, .byte)]) [0] rfl
      refine w_same (fun hq0 => ?_)
      refine vx_callv (vx_runV (As := [.int r21]) (rest := []) ⟨hx, hb, hml, hown, hts⟩ (t_put l hl9 dC dI cB p1 pb H (.ref ps) g27 k27 r21 hk27) (cwV 1 hts (gt_V (own := R_Printer) (C := R_Printer) (i := 25) (y := y_Printer_put) i_Printer_put w_957 w_959 (gt_sel (y := y_Printer_put) (n := 3) (by decide +kernel)) w_6) rfl rfl rfl (by decide +kernel) ⟨Nat.le_of_ble_eq_true rfl, Nat.le_of_ble_eq_true rfl⟩) ⟨mx_blind, va_recv hK hP (ci := 3) (q0 := 0) rfl rfl, fun U hU hW => ⟨rfl, ⟨hU, by rw [hU]; exact hPc, va_K.moved hW.alike hKc, hDc.weaken (fun _ _ _ _ => trivial)⟩, hN.warm hW, by rw [hU]; exact ZX.moved' hW.alike (ZX.narrow' (ZX.kept' hZ hS.2.1) hFc)⟩⟩ rfl rfl hl.1 rfl (lv_room (Nat.le_of_ble_eq_true rfl)) d_Printer_unit_18 ⟨Nat.le_of_ble_eq_true rfl, Nat.le_of_ble_eq_true rfl⟩) hS (fun q _ h => hFc q h) hFc (fun q _ h => hFc q h) (fun En ce q9 ⟨kx, gx⟩ t9 H1 locs ht hvm hw hB hz1 hk1 hS hce hcv hcl => ?_) (fun ⟨k28, g28⟩ t9 H1 locs ht hvm hw hB hz1 hk1 hS => ?_)
      · obtain ⟨hEn, hP1, hK1, hD1⟩ := hB
        rw [ht] at hP1
        obtain ⟨hP, hD⟩ := va_join (wr := []) (w1 := [(p1, .inr (3, [.ref pb, .int (nI kx), .ref ps])), (pb, .inl (cB, 16384, .inl gx))]) hP hD [0, 1] [] rfl rfl (by decide) (by decide) hk1 hFc hP1 hD1
        generalize H1 = H at hP hS hce ⊢
        have hP : va_P (dC, dI) classes ([(p1, .inr (3, [.ref pb, .int (nI kx), .ref ps])), (pb, .inl (cB, 16384, .inl gx))]) H := hP
        have hD : va_D A ([(p1, .inr (3, [.ref pb, .int (nI kx), .ref ps])), (pb, .inl (cB, 16384, .inl gx))]) := hD
        exact vx_out (fun x hx => (hex x hx).elim) hlocks hce hcv hcl (fun t9 ht2 ha => ⟨(nI kx, gx), (WNO.go (T := [r21]) (R := []) hR27 hw), ⟨hEn, by rw [ht2]; exact hP, va_K.moved ha hK, hD⟩, hS.F ht2⟩) hS.2.2 (Nat.le_of_ble_eq_true rfl) (Nat.le_of_ble_eq_true rfl)
      · obtain ⟨⟨hP1, hK1, hD1⟩, hz9⟩ := hB
        rw [ht] at hP1
        rw [ht] at hz9
        refine w_tight (hq0.trans hz9) ?_
        have hq0 := hq0.trans hz9
        obtain ⟨hP, hD⟩ := va_join (wr := []) (w1 := [(p1, .inr (3, [.ref pb, .int (nI k28), .ref ps])), (pb, .inl (cB, 16384, .inl g28))]) hP hD [0, 1] [] rfl rfl (by decide) (by decide) hk1 hFc hP1 hD1
        generalize H1 = H at hP hS hq0 ⊢
        have hP : va_P (dC, dI) classes ([(p1, .inr (3, [.ref pb, .int (nI k28), .ref ps])), (pb, .inl (cB, 16384, .inl g28))]) H := hP
        have hD : va_D A ([(p1, .inr (3, [.ref pb, .int (nI k28), .ref ps])), (pb, .inl (cB, 16384, .inl g28))]) := hD
        have hw : WOK k27 g27 [r21] k28 g28 := hw
        have hk28 := WOK.le hw hk27
        have hR28 := WOK.go (T := [r21]) (R := []) hR27 hw
        refine lv_goto (tgt := 81) hx hb d_Printer_unit_21 (by decide) ?_
        refine w_same (fun hq => ?_)
        refine W.widen (k := 1) (n := 6) (Nat.le_of_ble_eq_true rfl) (Nat.le_of_ble_eq_true rfl) ?_
        refine vx_ret ?_
        exact W.vret hx hb hr (fun t9 ht hW => ⟨⟨(k28, g28), rfl, hR28, ⟨by rw [ht]; exact hP, va_K.moved hW.alike hK, hD⟩, by rw [ht]; exact hq⟩, hS.F ht⟩) hS.2.2 d_Printer_unit_81
set_option maxHeartbeats 4000000 in
set_option maxRecDepth 100000 in
/-- Printer.text: what it writes -/
theorem p_Printer_text (l : Launch) (hl9 : l.stackTraces = false) (K : Nat → Nat × Nat) (dC : Nat → ClassId) (dI : Nat → Nat → Nat) (sz : Heap) (cI cV : ClassId) (E lv : Nat → Nat) (L : List Nat) (f : Nat → va_E) (hO : PO cI cV E lv L f) (cB : ClassId) (p1 pb ps : Nat) (g : Nat → Int32) (k : Nat) (hk : k ≤ 16384) (tx : Nat) (htx : E tx = 4) (q : Int32) (hq : q = 34 ∨ q = 39) : vx_Met l y_Printer_text (k_Printer_text :: gtbl) ({ frames := 11, cells := 1, slots := 6, locals := 230 }) (va_Pc [.ref p1, .ref tx, .int q] (ml K dC dI ([(p1, .inr (3, [.ref pb, .int (nI k), .ref ps])), (pb, .inl (cB, 16384, .inl g))] ++ va_pl L f) [(cB, .byte), (cI, .int), (cV, .object "QueryBench$Value")] sz)) (va_Qv (fun (u : Nat × (Nat → Int32)) => WOK k g ((unL q (txL f tx))) u.1 u.2) (fun u t9 => mz dC dI ([(p1, .inr (3, [.ref pb, .int (nI u.1), .ref ps])), (pb, .inl (cB, 16384, .inl u.2))] ++ va_pl L f) [(cB, .byte), (cI, .int), (cV, .object "QueryBench$Value")] (va_A ([(p1, .inr (3, [.ref pb, .int (nI k), .ref ps])), (pb, .inl (cB, 16384, .inl g))] ++ va_pl L f) sz.size) t9 ∧ szk sz t9.heap (0) (0)) (va_A ([(p1, .inr (3, [.ref pb, .int (nI k), .ref ps])), (pb, .inl (cB, 16384, .inl g))] ++ va_pl L f) sz.size)) (vx_X (fun (u : Int32 × (Nat → Int32)) => WNO k g ((unL q (txL f tx)))) (fun En u t9 => En = IOB ∧ mz dC dI ([(p1, .inr (3, [.ref pb, .int u.1, .ref ps])), (pb, .inl (cB, 16384, .inl u.2))] ++ va_pl L f) [(cB, .byte), (cI, .int), (cV, .object "QueryBench$Value")] (va_A ([(p1, .inr (3, [.ref pb, .int (nI k), .ref ps])), (pb, .inl (cB, 16384, .inl g))] ++ va_pl L f) sz.size) t9) (va_A ([(p1, .inr (3, [.ref pb, .int (nI k), .ref ps])), (pb, .inl (cB, 16384, .inl g))] ++ va_pl L f) sz.size)) (1) (6) (va_A ([(p1, .inr (3, [.ref pb, .int (nI k), .ref ps])), (pb, .inl (cB, 16384, .inl g))] ++ va_pl L f) sz.size) := by
  refine vx_ofW (cc := b_Printer_text) (maxL := 4) (ret := none) (by decide) rfl ?_
  intro p e s m args below meth c s₁ B hml hex hv
  obtain ⟨rfl, ⟨hsz, hP, hK, hD0⟩, hN, hZ, hC, hV⟩ := hv
  have hx := B.exec
  have hb := B.bytes
  have hr := B.returns
  have hts0 := atoms_spec (ws := k_Printer_text :: gtbl) B.pre
  have hts := fun w h => hts0 w (List.mem_cons_of_mem _ h)
  have hown : s.vm.findClass R_Printer = some m.cls := findClass_of_methodNamed B.named
  have hlocks := B.notSynchronized
  subst hsz
  have hD := hD0.self (sz := s.heap.size)
  generalize hAe : va_A ([(p1, .inr (3, [.ref pb, .int (nI k), .ref ps])), (pb, .inl (cB, 16384, .inl g))] ++ va_pl L f) s.heap.size = A at hD hZ hC ⊢
  have hA : ∀ q : Nat, s.heap.size ≤ q → A q := fun q h => by rw [← hAe]; exact Or.inr h
  have hS : va_S A s.heap s.heap [] := va_S.rf
  have hP : va_P (dC, dI) classes ([(p1, .inr (3, [.ref pb, .int (nI k), .ref ps])), (pb, .inl (cB, 16384, .inl g))] ++ va_pl L f) s.heap := hP
  have hl := lv_entry ([.ref p1, .ref tx, .int q]) (n := 4) (Nat.le_of_ble_eq_true rfl)
  rw [lg_entry_eq]
  generalize (lg_sl ([.ref p1, .ref tx, .int q]) ++ List.replicate (4 - (lg_sl ([.ref p1, .ref tx, .int q])).length) Slot.unset).toArray = ls at hl ⊢
  have hl : lv_has ls 4 [(0, .ref p1), (1, .ref tx), (2, .int q)] := hl
  refine lv_aload_n hx hb d_Printer_text_0 rfl (lv_at hl 0 rfl) ?_
  refine lv_iload_n hx hb d_Printer_text_1 rfl (lv_at hl 2 rfl) ?_
  have hR : penL (k, 0, g) (unL q (txL f tx)) = penL (k, 0, g) ([q] ++ unR q (txL f tx) 0) := by rw [unR_0]
  have hPc := hP.sub (ws' := [(p1, .inr (3, [.ref pb, .int (nI k), .ref ps])), (pb, .inl (cB, 16384, .inl g))]) [0, 1] rfl
  have hDc := hD.sub (ws' := [(p1, .inr (3, [.ref pb, .int (nI k), .ref ps])), (pb, .inl (cB, 16384, .inl g))]) [0, 1] (by decide) rfl
  have hFc := va_free (wc := [(p1, .inr (3, [.ref pb, .int (nI k), .ref ps])), (pb, .inl (cB, 16384, .inl g))]) hD hS hA [0, 1] rfl
  have hKc := hK.sub (tys' := [(cB, .byte)]) [0] rfl
  refine w_same (fun hq0 => ?_)
  refine vx_callv (vx_runV (As := [.int q]) (rest := []) ⟨hx, hb, hml, hown, hts⟩ (t_put l hl9 dC dI cB p1 pb s.heap (.ref ps) g k q hk) (cwV 1 hts (gt_V (own := R_Printer) (C := R_Printer) (i := 25) (y := y_Printer_put) i_Printer_put w_957 w_959 (gt_sel (y := y_Printer_put) (n := 3) (by decide +kernel)) w_6) rfl rfl rfl (by decide +kernel) ⟨Nat.le_of_ble_eq_true rfl, Nat.le_of_ble_eq_true rfl⟩) ⟨mx_blind, va_recv hK hP (ci := 3) (q0 := 0) rfl rfl, fun U hU hW => ⟨rfl, ⟨hU, by rw [hU]; exact hPc, va_K.moved hW.alike hKc, hDc.weaken (fun _ _ _ _ => trivial)⟩, hN.warm hW, by rw [hU]; exact ZX.moved' hW.alike (ZX.narrow' (ZX.kept' hZ hS.2.1) hFc)⟩⟩ rfl rfl hl.1 rfl (lv_room (Nat.le_of_ble_eq_true rfl)) d_Printer_text_2 ⟨Nat.le_of_ble_eq_true rfl, Nat.le_of_ble_eq_true rfl⟩) hS (fun q _ h => hFc q h) hFc (fun q _ h => hFc q h) (fun En ce q9 ⟨kx, gx⟩ t9 H1 locs ht hvm hw hB hz1 hk1 hS hce hcv hcl => ?_) (fun ⟨k21, g21⟩ t9 H1 locs ht hvm hw hB hz1 hk1 hS => ?_)
  · obtain ⟨hEn, hP1, hK1, hD1⟩ := hB
    rw [ht] at hP1
    obtain ⟨hP, hD⟩ := va_joinQ (wr := []) (w1 := [(p1, .inr (3, [.ref pb, .int (nI kx), .ref ps])), (pb, .inl (cB, 16384, .inl gx))]) hP hD [0, 1] [] rfl rfl (by decide) (by decide) hk1 hFc hP1 hD1
    generalize H1 = H at hP hS hce ⊢
    have hP : va_P (dC, dI) classes ([(p1, .inr (3, [.ref pb, .int (nI kx), .ref ps])), (pb, .inl (cB, 16384, .inl gx))] ++ va_pl L f) H := hP
    have hD : va_D A ([(p1, .inr (3, [.ref pb, .int (nI kx), .ref ps])), (pb, .inl (cB, 16384, .inl gx))] ++ va_pl L f) := hD
    exact vx_out (fun x hx => (hex x hx).elim) hlocks hce hcv hcl (fun t9 ht2 ha => ⟨(nI kx, gx), (WNO.go (T := [q]) (R := unR q (txL f tx) 0) hR hw), ⟨hEn, by rw [ht2]; exact hP, va_K.moved ha hK, hD⟩, hS.F ht2⟩) hS.2.2 (Nat.le_of_ble_eq_true rfl) (Nat.le_of_ble_eq_true rfl)
  · obtain ⟨⟨hP1, hK1, hD1⟩, hz9⟩ := hB
    rw [ht] at hP1
    rw [ht] at hz9
    refine w_tight (hq0.trans hz9) ?_
    have hq0 := hq0.trans hz9
    obtain ⟨hP, hD⟩ := va_joinQ (wr := []) (w1 := [(p1, .inr (3, [.ref pb, .int (nI k21), .ref ps])), (pb, .inl (cB, 16384, .inl g21))]) hP hD [0, 1] [] rfl rfl (by decide) (by decide) hk1 hFc hP1 hD1
    generalize H1 = H at hP hS hq0 ⊢
    have hP : va_P (dC, dI) classes ([(p1, .inr (3, [.ref pb, .int (nI k21), .ref ps])), (pb, .inl (cB, 16384, .inl g21))] ++ va_pl L f) H := hP
    have hD : va_D A ([(p1, .inr (3, [.ref pb, .int (nI k21), .ref ps])), (pb, .inl (cB, 16384, .inl g21))] ++ va_pl L f) := hD
    have hw : WOK k g [q] k21 g21 := hw
    have hk21 := WOK.le hw hk
    have hR21 := WOK.go (T := [q]) (R := unR q (txL f tx) 0) hR hw
    refine lv_iconst (v := 0) hx hb d_Printer_text_5 (by decide) ?_
    refine lv_istore_n (lv' := [(3, .int 0), (0, .ref p1), (1, .ref tx), (2, .int q)]) hx hb d_Printer_text_6 rfl hl (by decide) rfl (fun ls hl => ?_)
    obtain ⟨n22, g23, ef24, hn25⟩ := hO.txt (htx)
    refine w_loop (D := (dC, dI)) (cl := classes) (A := A) (H0 := s.heap) (nL := 4) 7 (σ := Nat × Nat × (Nat → Int32)) (fun ⟨i, k1, g1⟩ => i ≤ 4096 ∧ k1 ≤ 16384 ∧ penL (k, 0, g) (unL q (txL f tx)) = penL (k1, 0, g1) (unR q (txL f tx) i)) (fun ⟨i, k1, g1⟩ => 4096 - i) (fun ⟨i, k1, g1⟩ => [(p1, .inr (3, [.ref pb, .int (nI k1), .ref ps])), (pb, .inl (cB, 16384, .inl g1))] ++ va_pl L f) (fun ⟨i, k1, g1⟩ => [(0, .ref p1), (1, .ref tx), (2, .int q), (3, .int (nI i))]) ?_ (0, k21, g21) ⟨Nat.zero_le _, hk21, hR21⟩ hP hD hS (lv_sub hl [1, 2, 3, 0] rfl)
    rintro ⟨i, k1, g1⟩ H locs ls hI ih hP hD hS hl
    have hP : va_P (dC, dI) classes ([(p1, .inr (3, [.ref pb, .int (nI k1), .ref ps])), (pb, .inl (cB, 16384, .inl g1))] ++ va_pl L f) H := hP
    have hD : va_D A ([(p1, .inr (3, [.ref pb, .int (nI k1), .ref ps])), (pb, .inl (cB, 16384, .inl g1))] ++ va_pl L f) := hD
    have hl : lv_has ls 4 [(0, .ref p1), (1, .ref tx), (2, .int q), (3, .int (nI i))] := hl
    obtain ⟨hI, hkA, hR1⟩ := hI
    have hI : i ≤ 4096 := hI
    have hkA : k1 ≤ 16384 := hkA
    have hR1 : penL (k, 0, g) (unL q (txL f tx)) = penL (k1, 0, g1) (unR q (txL f tx) i) := hR1
    refine lv_iload_n hx hb d_Printer_text_7 rfl (lv_at hl 3 rfl) ?_
    refine lv_aload_n hx hb d_Printer_text_8 rfl (lv_at hl 1 rfl) ?_
    refine vq_alen hx hb hK hP 1 (hO.inL (a := tx) (by rw [htx]; decide)) ef24 rfl d_Printer_text_9 ?_
    refine lv_icmp_ge (tgt := 27) hx hb d_Printer_text_10 (by decide) (fun c10 => ?_) (fun c10 => ?_)
    · have hR9 : penL (k, 0, g) (unL q (txL f tx)) = penL (k1, 0, g1) ([q] ++ []) := by
        rw [hR1, unR_e]
        · rfl
        · rw [txL_t ef24, List.length_map, List.length_range]; rw [nI_leI (by omega) (by omega)] at c10; exact c10
      refine lv_aload_n hx hb d_Printer_text_27 rfl (lv_at hl 0 rfl) ?_
      refine lv_iload_n hx hb d_Printer_text_28 rfl (lv_at hl 2 rfl) ?_
      have hPc := hP.sub (ws' := [(p1, .inr (3, [.ref pb, .int (nI k1), .ref ps])), (pb, .inl (cB, 16384, .inl g1))]) [0, 1] rfl
      have hDc := hD.sub (ws' := [(p1, .inr (3, [.ref pb, .int (nI k1), .ref ps])), (pb, .inl (cB, 16384, .inl g1))]) [0, 1] (by decide) rfl
      have hFc := va_free (wc := [(p1, .inr (3, [.ref pb, .int (nI k1), .ref ps])), (pb, .inl (cB, 16384, .inl g1))]) hD hS hA [0, 1] rfl
      have hKc := hK.sub (tys' := [(cB, .byte)]) [0] rfl
      refine w_same (fun hq0 => ?_)
      refine vx_callv (vx_runV (As := [.int q]) (rest := []) ⟨hx, hb, hml, hown, hts⟩ (t_put l hl9 dC dI cB p1 pb H (.ref ps) g1 k1 q hkA) (cwV 1 hts (gt_V (own := R_Printer) (C := R_Printer) (i := 25) (y := y_Printer_put) i_Printer_put w_957 w_959 (gt_sel (y := y_Printer_put) (n := 3) (by decide +kernel)) w_6) rfl rfl rfl (by decide +kernel) ⟨Nat.le_of_ble_eq_true rfl, Nat.le_of_ble_eq_true rfl⟩) ⟨mx_blind, va_recv hK hP (ci := 3) (q0 := 0) rfl rfl, fun U hU hW => ⟨rfl, ⟨hU, by rw [hU]; exact hPc, va_K.moved hW.alike hKc, hDc.weaken (fun _ _ _ _ => trivial)⟩, hN.warm hW, by rw [hU]; exact ZX.moved' hW.alike (ZX.narrow' (ZX.kept' hZ hS.2.1) hFc)⟩⟩ rfl rfl hl.1 rfl (lv_room (Nat.le_of_ble_eq_true rfl)) d_Printer_text_29 ⟨Nat.le_of_ble_eq_true rfl, Nat.le_of_ble_eq_true rfl⟩) hS (fun q _ h => hFc q h) hFc (fun q _ h => hFc q h) (fun En ce q9 ⟨kx, gx⟩ t9 H1 locs ht hvm hw hB hz1 hk1 hS hce hcv hcl => ?_) (fun ⟨k26, g26⟩ t9 H1 locs ht hvm hw hB hz1 hk1 hS => ?_)
      · obtain ⟨hEn, hP1, hK1, hD1⟩ := hB
        rw [ht] at hP1
        obtain ⟨hP, hD⟩ := va_joinQ (wr := []) (w1 := [(p1, .inr (3, [.ref pb, .int (nI kx), .ref ps])), (pb, .inl (cB, 16384, .inl gx))]) hP hD [0, 1] [] rfl rfl (by decide) (by decide) hk1 hFc hP1 hD1
        generalize H1 = H at hP hS hce ⊢
        have hP : va_P (dC, dI) classes ([(p1, .inr (3, [.ref pb, .int (nI kx), .ref ps])), (pb, .inl (cB, 16384, .inl gx))] ++ va_pl L f) H := hP
        have hD : va_D A ([(p1, .inr (3, [.ref pb, .int (nI kx), .ref ps])), (pb, .inl (cB, 16384, .inl gx))] ++ va_pl L f) := hD
        exact vx_out (fun x hx => (hex x hx).elim) hlocks hce hcv hcl (fun t9 ht2 ha => ⟨(nI kx, gx), (WNO.go (T := [q]) (R := []) hR9 hw), ⟨hEn, by rw [ht2]; exact hP, va_K.moved ha hK, hD⟩, hS.F ht2⟩) hS.2.2 (Nat.le_of_ble_eq_true rfl) (Nat.le_of_ble_eq_true rfl)
      · obtain ⟨⟨hP1, hK1, hD1⟩, hz9⟩ := hB
        rw [ht] at hP1
        rw [ht] at hz9
        refine w_tight (hq0.trans hz9) ?_
        have hq0 := hq0.trans hz9
        obtain ⟨hP, hD⟩ := va_joinQ (wr := []) (w1 := [(p1, .inr (3, [.ref pb, .int (nI k26), .ref ps])), (pb, .inl (cB, 16384, .inl g26))]) hP hD [0, 1] [] rfl rfl (by decide) (by decide) hk1 hFc hP1 hD1
        generalize H1 = H at hP hS hq0 ⊢
        have hP : va_P (dC, dI) classes ([(p1, .inr (3, [.ref pb, .int (nI k26), .ref ps])), (pb, .inl (cB, 16384, .inl g26))] ++ va_pl L f) H := hP
        have hD : va_D A ([(p1, .inr (3, [.ref pb, .int (nI k26), .ref ps])), (pb, .inl (cB, 16384, .inl g26))] ++ va_pl L f) := hD
        have hw : WOK k1 g1 [q] k26 g26 := hw
        have hk26 := WOK.le hw hkA
        have hR26 := WOK.go (T := [q]) (R := []) hR9 hw
        refine w_same (fun hq => ?_)
        refine W.widen (k := 1) (n := 6) (Nat.le_of_ble_eq_true rfl) (Nat.le_of_ble_eq_true rfl) ?_
        refine vx_ret ?_
        exact W.vret hx hb hr (fun t9 ht hW => ⟨⟨(k26, g26), rfl, hR26, ⟨by rw [ht]; exact hP, va_K.moved hW.alike hK, hD⟩, by rw [ht]; exact hq⟩, hS.F ht⟩) hS.2.2 d_Printer_text_32
    · have hi : i < n22 := by rw [nI_leI (by omega) (by omega)] at c10; omega
      refine lv_aload_n hx hb d_Printer_text_13 rfl (lv_at hl 0 rfl) ?_
      refine lv_aload_n hx hb d_Printer_text_14 rfl (lv_at hl 1 rfl) ?_
      refine lv_iload_n hx hb d_Printer_text_15 rfl (lv_at hl 3 rfl) ?_
      refine vq_iald hx hb hK hP 1 (hO.inL (a := tx) (by rw [htx]; decide)) ef24 rfl (j := i) hi hn25 d_Printer_text_16 ?_
      refine lv_iload_n hx hb d_Printer_text_17 rfl (lv_at hl 2 rfl) ?_
      have hu9 : (txL f tx)[i]? = some ((g23 i)) := by rw [txL_t ef24, List.getElem?_map, List.getElem?_range hi]; rfl
      rw [unR_s hu9] at hR1
      have hPc := hP.sub (ws' := [(p1, .inr (3, [.ref pb, .int (nI k1), .ref ps])), (pb, .inl (cB, 16384, .inl g1))]) [0, 1] rfl
      have hDc := hD.sub (ws' := [(p1, .inr (3, [.ref pb, .int (nI k1), .ref ps])), (pb, .inl (cB, 16384, .inl g1))]) [0, 1] (by decide) rfl
      have hFc := va_free (wc := [(p1, .inr (3, [.ref pb, .int (nI k1), .ref ps])), (pb, .inl (cB, 16384, .inl g1))]) hD hS hA [0, 1] rfl
      have hKc := hK.sub (tys' := [(cB, .byte)]) [0] rfl
      refine w_same (fun hq0 => ?_)
      refine vx_callv (vx_runV (As := [.int (g23 i), .int q]) (rest := []) ⟨hx, hb, hml, hown, hts⟩ (p_Printer_unit l hl9 K dC dI H cB p1 pb ps g1 k1 hkA ((g23 i)) q hq) (cwV 2 hts (gt_V (own := R_Printer) (C := R_Printer) (i := 96) (y := y_Printer_unit) i_Printer_unit z_972 z_974 (gt_sel (y := y_Printer_unit) (n := 3) (by decide +kernel)) w_6) rfl rfl rfl (by decide +kernel) ⟨Nat.le_of_ble_eq_true rfl, Nat.le_of_ble_eq_true rfl⟩) ⟨ml_blind, va_recv hK hP (ci := 3) (q0 := 0) rfl rfl, fun U hU hW => ⟨rfl, ⟨hU, by rw [hU]; exact hPc, va_K.moved hW.alike hKc, hDc.weaken (fun _ _ _ _ => trivial)⟩, hN.warm hW, by rw [hU]; exact ZX.moved' hW.alike (ZX.narrow' (ZX.kept' hZ hS.2.1) hFc), by rw [hU]; exact CE.call hC hS.2.1 hFc hW, va_AO.moved hW.alike hV⟩⟩ rfl rfl hl.1 rfl (lv_room (Nat.le_of_ble_eq_true rfl)) d_Printer_text_18 ⟨Nat.le_of_ble_eq_true rfl, Nat.le_of_ble_eq_true rfl⟩) hS (fun q _ h => hFc q h) hFc (fun q _ h => hFc q h) (fun En ce q9 ⟨kx, gx⟩ t9 H1 locs ht hvm hw hB hz1 hk1 hS hce hcv hcl => ?_) (fun ⟨k27, g27⟩ t9 H1 locs ht hvm hw hB hz1 hk1 hS => ?_)
      · obtain ⟨hEn, hP1, hK1, hD1⟩ := hB
        rw [ht] at hP1
        obtain ⟨hP, hD⟩ := va_joinQ (wr := []) (w1 := [(p1, .inr (3, [.ref pb, .int kx, .ref ps])), (pb, .inl (cB, 16384, .inl gx))]) hP hD [0, 1] [] rfl rfl (by decide) (by decide) hk1 hFc hP1 hD1
        generalize H1 = H at hP hS hce ⊢
        have hP : va_P (dC, dI) classes ([(p1, .inr (3, [.ref pb, .int kx, .ref ps])), (pb, .inl (cB, 16384, .inl gx))] ++ va_pl L f) H := hP
        have hD : va_D A ([(p1, .inr (3, [.ref pb, .int kx, .ref ps])), (pb, .inl (cB, 16384, .inl gx))] ++ va_pl L f) := hD
        exact vx_out (fun x hx => (hex x hx).elim) hlocks hce hcv hcl (fun t9 ht2 ha => ⟨(kx, gx), (WNO.go (T := (unB q ((g23 i)))) (R := unR q (txL f tx) (i + 1)) hR1 hw), ⟨hEn, by rw [ht2]; exact hP, va_K.moved ha hK, hD⟩, hS.F ht2⟩) hS.2.2 (Nat.le_of_ble_eq_true rfl) (Nat.le_of_ble_eq_true rfl)
      · obtain ⟨⟨hP1, hK1, hD1⟩, hz9⟩ := hB
        rw [ht] at hP1
        rw [ht] at hz9
        refine w_tight (hq0.trans hz9) ?_
        have hq0 := hq0.trans hz9
        obtain ⟨hP, hD⟩ := va_joinQ (wr := []) (w1 := [(p1, .inr (3, [.ref pb, .int (nI k27), .ref ps])), (pb, .inl (cB, 16384, .inl g27))]) hP hD [0, 1] [] rfl rfl (by decide) (by decide) hk1 hFc hP1 hD1
        generalize H1 = H at hP hS hq0 ⊢
        have hP : va_P (dC, dI) classes ([(p1, .inr (3, [.ref pb, .int (nI k27), .ref ps])), (pb, .inl (cB, 16384, .inl g27))] ++ va_pl L f) H := hP
        have hD : va_D A ([(p1, .inr (3, [.ref pb, .int (nI k27), .ref ps])), (pb, .inl (cB, 16384, .inl g27))] ++ va_pl L f) := hD
        have hw : WOK k1 g1 ((unB q ((g23 i)))) k27 g27 := hw
        have hk27 := WOK.le hw hkA
        have hR27 := WOK.go (T := (unB q ((g23 i)))) (R := unR q (txL f tx) (i + 1)) hR1 hw
        refine lv_iinc (v := nI (i + 1)) (lv' := [(3, .int (nI (i + 1))), (0, .ref p1), (1, .ref tx), (2, .int q)]) hx hb d_Printer_text_21 hl (k := 3) rfl (nI_1 _) (by decide) rfl (fun ls hl => ?_)
        refine lv_goto (tgt := 7) hx hb d_Printer_text_24 (by decide) ?_
        exact ih (i + 1, k27, g27) _ _ _ ⟨show i + 1 ≤ 4096 by omega, hk27, hR27⟩ (by show 4096 - (i + 1) < 4096 - i; omega) hP hD hS (lv_sub hl [1, 2, 3, 0] rfl)
