/-- Printer: value at a depth, what it writes -/
def PVT (l : Launch) (K : Nat → Nat × Nat) (dC : Nat → ClassId) (dI : Nat → Nat → Nat) (cI cV : ClassId) (E : Nat → Nat) (L : List Nat) (f : Nat → va_E) (cB : ClassId) (p1 pb ps : Nat) (xv : JVt 32) (AL : List Nat) (n d : Nat) : Prop := ∀ (sz : Heap) (g : Nat → Int32) (k : Nat), k ≤ 16384 → ∀ (v9 : Nat) (nn : NT), NCr (preN (rtN xv)) AL v9 nn → nn.2.1 ≤ n → vx_Met l y_Printer_value (k_Printer_value :: gtbl) ({ frames := 14 + 2 * n, cells := 1, slots := 6, locals := 300 + 60 * n }) (va_Pc [.ref p1, .ref v9, .int (nI d)] (ml K dC dI ([(p1, .inr (3, [.ref pb, .int (nI k), .ref ps])), (pb, .inl (cB, 16384, .inl g))] ++ va_pl L f) [(cB, .byte), (cI, .int), (cV, .object "QueryBench$Value")] sz)) (va_Qv (fun (u : Nat × (Nat → Int32)) => WOK k g (prU nn.2) u.1 u.2) (fun u t9 => mz dC dI ([(p1, .inr (3, [.ref pb, .int (nI u.1), .ref ps])), (pb, .inl (cB, 16384, .inl u.2))] ++ va_pl L f) [(cB, .byte), (cI, .int), (cV, .object "QueryBench$Value")] (va_A ([(p1, .inr (3, [.ref pb, .int (nI k), .ref ps])), (pb, .inl (cB, 16384, .inl g))] ++ va_pl L f) sz.size) t9 ∧ szk sz t9.heap (0) (0)) (va_A ([(p1, .inr (3, [.ref pb, .int (nI k), .ref ps])), (pb, .inl (cB, 16384, .inl g))] ++ va_pl L f) sz.size)) (vx_X (fun (u : Int32 × (Nat → Int32)) => WNO k g (prU nn.2)) (fun En u t9 => En = IOB ∧ mz dC dI ([(p1, .inr (3, [.ref pb, .int u.1, .ref ps])), (pb, .inl (cB, 16384, .inl u.2))] ++ va_pl L f) [(cB, .byte), (cI, .int), (cV, .object "QueryBench$Value")] (va_A ([(p1, .inr (3, [.ref pb, .int (nI k), .ref ps])), (pb, .inl (cB, 16384, .inl g))] ++ va_pl L f) sz.size) t9) (va_A ([(p1, .inr (3, [.ref pb, .int (nI k), .ref ps])), (pb, .inl (cB, 16384, .inl g))] ++ va_pl L f) sz.size)) (1) (6) (va_A ([(p1, .inr (3, [.ref pb, .int (nI k), .ref ps])), (pb, .inl (cB, 16384, .inl g))] ++ va_pl L f) sz.size)
/-- Printer: members at a depth, what it writes -/
def PMT (l : Launch) (K : Nat → Nat × Nat) (dC : Nat → ClassId) (dI : Nat → Nat → Nat) (cI cV : ClassId) (E : Nat → Nat) (L : List Nat) (f : Nat → va_E) (cB : ClassId) (p1 pb ps : Nat) (xv : JVt 32) (AL : List Nat) (n d : Nat) : Prop := ∀ (sz : Heap) (g : Nat → Int32) (k : Nat), k ≤ 16384 → ∀ (v9 : Nat) (nn : NT), NCr (preN (rtN xv)) AL v9 nn → nn.2.1 ≤ n → ¬ (lfU nn.2).1 < 5 → vx_Met l y_Printer_members (k_Printer_members :: gtbl) ({ frames := 13 + 2 * n, cells := 1, slots := 6, locals := 270 + 60 * n }) (va_Pc [.ref p1, .ref v9, .int (nI d)] (ml K dC dI ([(p1, .inr (3, [.ref pb, .int (nI k), .ref ps])), (pb, .inl (cB, 16384, .inl g))] ++ va_pl L f) [(cB, .byte), (cI, .int), (cV, .object "QueryBench$Value")] sz)) (va_Qv (fun (u : Nat × (Nat → Int32)) => WOK k g (prU nn.2) u.1 u.2) (fun u t9 => mz dC dI ([(p1, .inr (3, [.ref pb, .int (nI u.1), .ref ps])), (pb, .inl (cB, 16384, .inl u.2))] ++ va_pl L f) [(cB, .byte), (cI, .int), (cV, .object "QueryBench$Value")] (va_A ([(p1, .inr (3, [.ref pb, .int (nI k), .ref ps])), (pb, .inl (cB, 16384, .inl g))] ++ va_pl L f) sz.size) t9 ∧ szk sz t9.heap (0) (0)) (va_A ([(p1, .inr (3, [.ref pb, .int (nI k), .ref ps])), (pb, .inl (cB, 16384, .inl g))] ++ va_pl L f) sz.size)) (vx_X (fun (u : Int32 × (Nat → Int32)) => WNO k g (prU nn.2)) (fun En u t9 => En = IOB ∧ mz dC dI ([(p1, .inr (3, [.ref pb, .int u.1, .ref ps])), (pb, .inl (cB, 16384, .inl u.2))] ++ va_pl L f) [(cB, .byte), (cI, .int), (cV, .object "QueryBench$Value")] (va_A ([(p1, .inr (3, [.ref pb, .int (nI k), .ref ps])), (pb, .inl (cB, 16384, .inl g))] ++ va_pl L f) sz.size) t9) (va_A ([(p1, .inr (3, [.ref pb, .int (nI k), .ref ps])), (pb, .inl (cB, 16384, .inl g))] ++ va_pl L f) sz.size)) (1) (6) (va_A ([(p1, .inr (3, [.ref pb, .int (nI k), .ref ps])), (pb, .inl (cB, 16384, .inl g))] ++ va_pl L f) sz.size)
set_option maxHeartbeats 4000000 in
set_option maxRecDepth 100000 in
theorem t_PM (l : Launch) (hl9 : l.stackTraces = false) (K : Nat → Nat × Nat) (dC : Nat → ClassId) (dI : Nat → Nat → Nat) (cI cV : ClassId) (E lv : Nat → Nat) (L : List Nat) (f : Nat → va_E) (hO : PO cI cV E lv L f) (cB : ClassId) (p1 pb ps : Nat) (xv : JVt 32) (AL : List Nat) (hDq9 : DOC E f (preN (rtN xv)) AL) (hDu : DUP f (preN (rtN xv)) AL) (hsm : allL smF 32 xv) (n d : Nat) (hnd : d + n = 32) (HV : d < 32 → PVT l K dC dI cI cV E L f cB p1 pb ps xv AL (n - 1) (d + 1)) : PMT l K dC dI cI cV E L f cB p1 pb ps xv AL n d := by
  intro sz g k hk v9 nn hn9 hle h5
  refine vx_ofW (cc := b_Printer_members) (maxL := 5) (ret := none) (by decide) rfl ?_
  intro p e s m args below meth c s₁ B hml hex hv
  obtain ⟨rfl, ⟨hsz, hP, hK, hD0⟩, hN, hZ, hC, hV⟩ := hv
  have hx := B.exec
  have hb := B.bytes
  have hr := B.returns
  have hts0 := atoms_spec (ws := k_Printer_members :: gtbl) B.pre
  have hts := fun w h => hts0 w (List.mem_cons_of_mem _ h)
  have hown : s.vm.findClass R_Printer = some m.cls := findClass_of_methodNamed B.named
  have hlocks := B.notSynchronized
  subst hsz
  have hD := hD0.self (sz := s.heap.size)
  generalize hAe : va_A ([(p1, .inr (3, [.ref pb, .int (nI k), .ref ps])), (pb, .inl (cB, 16384, .inl g))] ++ va_pl L f) s.heap.size = A at hD hZ hC ⊢
  have hA : ∀ q : Nat, s.heap.size ≤ q → A q := fun q h => by rw [← hAe]; exact Or.inr h
  have hS : va_S A s.heap s.heap [] := va_S.rf
  have hP : va_P (dC, dI) classes ([(p1, .inr (3, [.ref pb, .int (nI k), .ref ps])), (pb, .inl (cB, 16384, .inl g))] ++ va_pl L f) s.heap := hP
  have hl := lv_entry ([.ref p1, .ref v9, .int (nI d)]) (n := 5) (Nat.le_of_ble_eq_true rfl)
  rw [lg_entry_eq]
  generalize (lg_sl ([.ref p1, .ref v9, .int (nI d)]) ++ List.replicate (5 - (lg_sl ([.ref p1, .ref v9, .int (nI d)])).length) Slot.unset).toArray = ls at hl ⊢
  have hl : lv_has ls 5 [(0, .ref p1), (1, .ref v9), (2, .int (nI d))] := hl
  obtain ⟨hv9, hcu9⟩ := hDq9.cu hn9
  have h09 := hcu9.lf0
  have hsz9 := hcu9.get.2.1
  obtain ⟨kd21, nu21, tx21, me21, pa21, na21, ix21, nm21, no21, sp21, ef21, hv21⟩ := hO.val ((isF.v hv9))
  have hCl := hcu9.get.1.of ef21
  have hr9 : 0 < nn.2.1 := Nat.pos_of_ne_zero (fun h => h5 (h09 h))
  have hd1 : d < 32 := by omega
  refine lv_aload_n hx hb d_Printer_members_0 rfl (lv_at hl 1 rfl) ?_
  refine vq_get (D := (dC, dI)) (ci := 9) (v := .int kd21) (C := R_Value) (T := F_Value) (N := 10) hx hb hts in_Value hown hK hP (hO.inV (isF.v hv9)) ef21 rfl 0 (by decide) (hts _ z_314) (fun _ h9 => h9) rfl d_Printer_members_1 ?_
  refine lv_bipush (v := 6) hx hb d_Printer_members_4 (by decide) ?_
  refine lv_icmp_ne (tgt := 13) hx hb d_Printer_members_6 (by decide) (fun c6 => ?_) (fun c6 => ?_)
  · have h69 : (lfU nn.2).1 = 5 := by
      have h1 : ¬ (lfU nn.2).1 = 6 := fun h => c6 (hCl.1.trans (by rw [h]; rfl))
      have h2 := hCl.2.1
      omega
    have hR : penL (k, 0, g) (prU nn.2) = penL (k, 0, g) ([91] ++ (kR false (ksU nn.2) 0 ++ [93])) := by rw [prU_mu h5 h09, h69]; rfl
    refine lv_iconst (v := 0) hx hb d_Printer_members_13 (by decide) ?_
    refine lv_istore_n (lv' := [(3, .int 0), (0, .ref p1), (1, .ref v9), (2, .int (nI d))]) hx hb d_Printer_members_14 rfl hl (by decide) rfl (fun ls hl => ?_)
    refine lv_aload_n hx hb d_Printer_members_15 rfl (lv_at hl 1 rfl) ?_
    refine lv_iload_n hx hb d_Printer_members_16 rfl (lv_at hl 0 rfl) ?_
    refine lv_if_eq (tgt := 25) hx hb d_Printer_members_17 (by decide) (fun _ => ?_) (fun h => absurd (by decide) h)
    refine lv_bipush (v := 91) hx hb d_Printer_members_25 (by decide) ?_
    have hPc := hP.sub (ws' := [(p1, .inr (3, [.ref pb, .int (nI k), .ref ps])), (pb, .inl (cB, 16384, .inl g))]) [0, 1] rfl
    have hDc := hD.sub (ws' := [(p1, .inr (3, [.ref pb, .int (nI k), .ref ps])), (pb, .inl (cB, 16384, .inl g))]) [0, 1] (by decide) rfl
    have hFc := va_free (wc := [(p1, .inr (3, [.ref pb, .int (nI k), .ref ps])), (pb, .inl (cB, 16384, .inl g))]) hD hS hA [0, 1] rfl
    have hKc := hK.sub (tys' := [(cB, .byte)]) [0] rfl
    refine w_same (fun hq0 => ?_)
    refine vx_callv (vx_runV (As := [.int 91]) (rest := []) ⟨hx, hb, hml, hown, hts⟩ (t_put l hl9 dC dI cB p1 pb s.heap (.ref ps) g k 91 hk) (cwV 1 hts (gt_V (own := R_Printer) (C := R_Printer) (i := 25) (y := y_Printer_put) i_Printer_put w_957 w_959 (gt_sel (y := y_Printer_put) (n := 3) (by decide +kernel)) w_6) rfl rfl rfl (by decide +kernel) ⟨by show 8 + 1 ≤ 13 + 2 * n; omega, by show 8 + (2 + 11) + (110) ≤ 270 + 60 * n; omega⟩) ⟨mx_blind, va_recv hK hP (ci := 3) (q0 := 0) rfl rfl, fun U hU hW => ⟨rfl, ⟨hU, by rw [hU]; exact hPc, va_K.moved hW.alike hKc, hDc.weaken (fun _ _ _ _ => trivial)⟩, hN.warm hW, by rw [hU]; exact ZX.moved' hW.alike (ZX.narrow' (ZX.kept' hZ hS.2.1) hFc)⟩⟩ rfl rfl hl.1 rfl (lv_room (Nat.le_of_ble_eq_true rfl)) d_Printer_members_27 ⟨Nat.le_of_ble_eq_true rfl, Nat.le_of_ble_eq_true rfl⟩) hS (fun q _ h => hFc q h) hFc (fun q _ h => hFc q h) (fun En ce q9 ⟨kx, gx⟩ t9 H1 locs ht hvm hw hB hz1 hk1 hS hce hcv hcl => ?_) (fun ⟨k22, g22⟩ t9 H1 locs ht hvm hw hB hz1 hk1 hS => ?_)
    · obtain ⟨hEn, hP1, hK1, hD1⟩ := hB
      rw [ht] at hP1
      obtain ⟨hP, hD⟩ := va_joinQ (wr := []) (w1 := [(p1, .inr (3, [.ref pb, .int (nI kx), .ref ps])), (pb, .inl (cB, 16384, .inl gx))]) hP hD [0, 1] [] rfl rfl (by decide) (by decide) hk1 hFc hP1 hD1
      generalize H1 = H at hP hS hce ⊢
      have hP : va_P (dC, dI) classes ([(p1, .inr (3, [.ref pb, .int (nI kx), .ref ps])), (pb, .inl (cB, 16384, .inl gx))] ++ va_pl L f) H := hP
      have hD : va_D A ([(p1, .inr (3, [.ref pb, .int (nI kx), .ref ps])), (pb, .inl (cB, 16384, .inl gx))] ++ va_pl L f) := hD
      exact vx_out (fun x hx => (hex x hx).elim) hlocks hce hcv hcl (fun t9 ht2 ha => ⟨(nI kx, gx), (WNO.go (T := [91]) (R := kR false (ksU nn.2) 0 ++ [93]) hR hw), ⟨hEn, by rw [ht2]; exact hP, va_K.moved ha hK, hD⟩, hS.F ht2⟩) hS.2.2 (Nat.le_of_ble_eq_true rfl) (Nat.le_of_ble_eq_true rfl)
    · obtain ⟨⟨hP1, hK1, hD1⟩, hz9⟩ := hB
      rw [ht] at hP1
      rw [ht] at hz9
      refine w_tight (hq0.trans hz9) ?_
      have hq0 := hq0.trans hz9
      obtain ⟨hP, hD⟩ := va_joinQ (wr := []) (w1 := [(p1, .inr (3, [.ref pb, .int (nI k22), .ref ps])), (pb, .inl (cB, 16384, .inl g22))]) hP hD [0, 1] [] rfl rfl (by decide) (by decide) hk1 hFc hP1 hD1
      generalize H1 = H at hP hS hq0 ⊢
      have hP : va_P (dC, dI) classes ([(p1, .inr (3, [.ref pb, .int (nI k22), .ref ps])), (pb, .inl (cB, 16384, .inl g22))] ++ va_pl L f) H := hP
      have hD : va_D A ([(p1, .inr (3, [.ref pb, .int (nI k22), .ref ps])), (pb, .inl (cB, 16384, .inl g22))] ++ va_pl L f) := hD
      have hw : WOK k g [91] k22 g22 := hw
      have hk22 := WOK.le hw hk
      have hR22 := WOK.go (T := [91]) (R := kR false (ksU nn.2) 0 ++ [93]) hR hw
      refine lv_iconst (v := 0) hx hb d_Printer_members_30 (by decide) ?_
      refine lv_istore (lv' := [(4, .int 0), (3, .int 0), (0, .ref p1), (1, .ref v9), (2, .int (nI d))]) hx hb d_Printer_members_31 hl (by decide) rfl (fun ls hl => ?_)
      have hs := hO.szle ef21 hv21
      refine w_loop (D := (dC, dI)) (cl := classes) (A := A) (H0 := s.heap) (nL := 5) 33 (σ := Nat × Nat × (Nat → Int32)) (fun ⟨i, k1, g1⟩ => i ≤ 4096 ∧ k1 ≤ 16384 ∧ penL (k, 0, g) (prU nn.2) = penL (k1, 0, g1) (kR false (ksU nn.2) i ++ [93])) (fun ⟨i, k1, g1⟩ => 4096 - i) (fun ⟨i, k1, g1⟩ => [(p1, .inr (3, [.ref pb, .int (nI k1), .ref ps])), (pb, .inl (cB, 16384, .inl g1))] ++ va_pl L f) (fun ⟨i, k1, g1⟩ => [(0, .ref p1), (1, .ref v9), (2, .int (nI d)), (3, .int 0), (4, .int (nI i))]) ?_ (0, k22, g22) ⟨Nat.zero_le _, hk22, hR22⟩ hP hD hS (lv_sub hl [2, 3, 4, 1, 0] rfl)
      rintro ⟨i, k1, g1⟩ H locs ls hI ih hP hD hS hl
      have hP : va_P (dC, dI) classes ([(p1, .inr (3, [.ref pb, .int (nI k1), .ref ps])), (pb, .inl (cB, 16384, .inl g1))] ++ va_pl L f) H := hP
      have hD : va_D A ([(p1, .inr (3, [.ref pb, .int (nI k1), .ref ps])), (pb, .inl (cB, 16384, .inl g1))] ++ va_pl L f) := hD
      have hl : lv_has ls 5 [(0, .ref p1), (1, .ref v9), (2, .int (nI d)), (3, .int 0), (4, .int (nI i))] := hl
      obtain ⟨hI, hkA, hR1⟩ := hI
      have hI : i ≤ 4096 := hI
      have hkA : k1 ≤ 16384 := hkA
      have hR1 : penL (k, 0, g) (prU nn.2) = penL (k1, 0, g1) (kR false (ksU nn.2) i ++ [93]) := hR1
      refine lv_iload hx hb d_Printer_members_33 (lv_at hl 4 rfl) ?_
      refine lv_aload_n hx hb d_Printer_members_35 rfl (lv_at hl 1 rfl) ?_
      refine vp_callSi (va_Run.run (va_runV (As := []) (rest := [.int (nI i)]) ⟨hx, hb, hml, hown, hts⟩ (c_Value_size l dC dI H cI cV E lv L f hO v9 hv9) (cwV 0 hts (gt_V (own := R_Printer) (C := R_Value) (i := 89) (y := y_Value_size) i_Value_size z_998 z_866 z_867 z_14) rfl rfl rfl (by decide +kernel) ⟨by show 0 + 1 ≤ 13 + 2 * n; omega, by show 8 + (1 + 11) + (0) ≤ 270 + 60 * n; omega⟩) ⟨mq_blind, vq_recv hK hP rfl (hO.inV (isF.v hv9)) ef21, fun U hU hW => ⟨rfl, hU, by rw [hU]; exact hP.part (cx := []) [] rfl, va_K.moved hW.alike (hK.sub (tys' := [(cI, .int), (cV, .object "QueryBench$Value")]) [1, 2] rfl), hN.warm hW⟩⟩ rfl rfl hl.1 rfl (lv_room (Nat.le_of_ble_eq_true rfl)) d_Printer_members_36 ⟨Nat.le_of_ble_eq_true rfl, Nat.le_of_ble_eq_true rfl⟩)) (fun r23 h_r23 => ?_)
      subst h_r23
      refine lv_icmp_ge (tgt := 105) hx hb d_Printer_members_39 (by decide) (fun c39 => ?_) (fun c39 => ?_)
      · have hR9 : penL (k, 0, g) (prU nn.2) = penL (k1, 0, g1) ([93] ++ []) := by
          rw [hR1, kR_e]
          · rfl
          · rw [← hsz9]; rw [nI_leI (by omega) (by omega)] at c39; exact c39
        refine lv_aload_n hx hb d_Printer_members_105 rfl (lv_at hl 0 rfl) ?_
        refine lv_iload_n hx hb d_Printer_members_106 rfl (lv_at hl 3 rfl) ?_
        refine lv_if_eq (tgt := 115) hx hb d_Printer_members_107 (by decide) (fun _ => ?_) (fun h => absurd (by decide) h)
        refine lv_bipush (v := 93) hx hb d_Printer_members_115 (by decide) ?_
        have hPc := hP.sub (ws' := [(p1, .inr (3, [.ref pb, .int (nI k1), .ref ps])), (pb, .inl (cB, 16384, .inl g1))]) [0, 1] rfl
        have hDc := hD.sub (ws' := [(p1, .inr (3, [.ref pb, .int (nI k1), .ref ps])), (pb, .inl (cB, 16384, .inl g1))]) [0, 1] (by decide) rfl
        have hFc := va_free (wc := [(p1, .inr (3, [.ref pb, .int (nI k1), .ref ps])), (pb, .inl (cB, 16384, .inl g1))]) hD hS hA [0, 1] rfl
        have hKc := hK.sub (tys' := [(cB, .byte)]) [0] rfl
        refine w_same (fun hq0 => ?_)
        refine vx_callv (vx_runV (As := [.int 93]) (rest := []) ⟨hx, hb, hml, hown, hts⟩ (t_put l hl9 dC dI cB p1 pb H (.ref ps) g1 k1 93 hkA) (cwV 1 hts (gt_V (own := R_Printer) (C := R_Printer) (i := 25) (y := y_Printer_put) i_Printer_put w_957 w_959 (gt_sel (y := y_Printer_put) (n := 3) (by decide +kernel)) w_6) rfl rfl rfl (by decide +kernel) ⟨by show 8 + 1 ≤ 13 + 2 * n; omega, by show 8 + (2 + 11) + (110) ≤ 270 + 60 * n; omega⟩) ⟨mx_blind, va_recv hK hP (ci := 3) (q0 := 0) rfl rfl, fun U hU hW => ⟨rfl, ⟨hU, by rw [hU]; exact hPc, va_K.moved hW.alike hKc, hDc.weaken (fun _ _ _ _ => trivial)⟩, hN.warm hW, by rw [hU]; exact ZX.moved' hW.alike (ZX.narrow' (ZX.kept' hZ hS.2.1) hFc)⟩⟩ rfl rfl hl.1 rfl (lv_room (Nat.le_of_ble_eq_true rfl)) d_Printer_members_117 ⟨Nat.le_of_ble_eq_true rfl, Nat.le_of_ble_eq_true rfl⟩) hS (fun q _ h => hFc q h) hFc (fun q _ h => hFc q h) (fun En ce q9 ⟨kx, gx⟩ t9 H1 locs ht hvm hw hB hz1 hk1 hS hce hcv hcl => ?_) (fun ⟨k24, g24⟩ t9 H1 locs ht hvm hw hB hz1 hk1 hS => ?_)
        · obtain ⟨hEn, hP1, hK1, hD1⟩ := hB
          rw [ht] at hP1
          obtain ⟨hP, hD⟩ := va_joinQ (wr := []) (w1 := [(p1, .inr (3, [.ref pb, .int (nI kx), .ref ps])), (pb, .inl (cB, 16384, .inl gx))]) hP hD [0, 1] [] rfl rfl (by decide) (by decide) hk1 hFc hP1 hD1
          generalize H1 = H at hP hS hce ⊢
          have hP : va_P (dC, dI) classes ([(p1, .inr (3, [.ref pb, .int (nI kx), .ref ps])), (pb, .inl (cB, 16384, .inl gx))] ++ va_pl L f) H := hP
          have hD : va_D A ([(p1, .inr (3, [.ref pb, .int (nI kx), .ref ps])), (pb, .inl (cB, 16384, .inl gx))] ++ va_pl L f) := hD
          exact vx_out (fun x hx => (hex x hx).elim) hlocks hce hcv hcl (fun t9 ht2 ha => ⟨(nI kx, gx), (WNO.go (T := [93]) (R := []) hR9 hw), ⟨hEn, by rw [ht2]; exact hP, va_K.moved ha hK, hD⟩, hS.F ht2⟩) hS.2.2 (Nat.le_of_ble_eq_true rfl) (Nat.le_of_ble_eq_true rfl)
        · obtain ⟨⟨hP1, hK1, hD1⟩, hz9⟩ := hB
          rw [ht] at hP1
          rw [ht] at hz9
          refine w_tight (hq0.trans hz9) ?_
          have hq0 := hq0.trans hz9
          obtain ⟨hP, hD⟩ := va_joinQ (wr := []) (w1 := [(p1, .inr (3, [.ref pb, .int (nI k24), .ref ps])), (pb, .inl (cB, 16384, .inl g24))]) hP hD [0, 1] [] rfl rfl (by decide) (by decide) hk1 hFc hP1 hD1
          generalize H1 = H at hP hS hq0 ⊢
          have hP : va_P (dC, dI) classes ([(p1, .inr (3, [.ref pb, .int (nI k24), .ref ps])), (pb, .inl (cB, 16384, .inl g24))] ++ va_pl L f) H := hP
          have hD : va_D A ([(p1, .inr (3, [.ref pb, .int (nI k24), .ref ps])), (pb, .inl (cB, 16384, .inl g24))] ++ va_pl L f) := hD
          have hw : WOK k1 g1 [93] k24 g24 := hw
          have hk24 := WOK.le hw hkA
          have hR24 := WOK.go (T := [93]) (R := []) hR9 hw
          refine w_same (fun hq => ?_)
          refine W.widen (k := 1) (n := 6) (Nat.le_of_ble_eq_true rfl) (Nat.le_of_ble_eq_true rfl) ?_
          refine vx_ret ?_
          exact W.vret hx hb hr (fun t9 ht hW => ⟨⟨(k24, g24), rfl, hR24, ⟨by rw [ht]; exact hP, va_K.moved hW.alike hK, hD⟩, by rw [ht]; exact hq⟩, hS.F ht⟩) hS.2.2 d_Printer_members_120
      · have hi : i < szF f v9 := by rw [nI_leI (by omega) (by omega)] at c39; omega
        obtain ⟨c9, hc9⟩ : ∃ z, (ksU nn.2)[i]? = some z := ⟨_, List.getElem?_eq_getElem (by omega)⟩
        refine lv_iload_n hx hb d_Printer_members_42 rfl (lv_at hl 2 rfl) ?_
        refine lv_bipush (v := 32) hx hb d_Printer_members_43 (by decide) ?_
        refine lv_icmp_ge (tgt := 105) hx hb d_Printer_members_45 (by decide) (fun h => absurd h (fun h => by rw [show (32 : Int32) = nI 32 from rfl, nI_leI (by omega) (by omega)] at h; omega)) (fun _ => ?_)
        refine lv_iload hx hb d_Printer_members_48 (lv_at hl 4 rfl) ?_
        refine lv_if_le (tgt := 59) hx hb d_Printer_members_50 (by decide) (fun c50 => ?_) (fun c50 => ?_)
        · have h0 : i = 0 := by rw [show (0 : Int32) = nI 0 from rfl, nI_leI (by omega) (by omega)] at c50; omega
          have hRa : penL (k, 0, g) (prU nn.2) = penL (k1, 0, g1) (prU c9.2 ++ (kR false (ksU nn.2) (i + 1) ++ [93])) := by
            rw [hR1, kR_s hc9, if_pos h0, if_neg (show ¬ false = true by decide)]
            simp only [List.nil_append, List.append_assoc]
          refine lv_iload_n hx hb d_Printer_members_59 rfl (lv_at hl 3 rfl) ?_
          refine lv_if_eq (tgt := 85) hx hb d_Printer_members_60 (by decide) (fun _ => ?_) (fun h => absurd (by decide) h)
          refine lv_aload_n hx hb d_Printer_members_85 rfl (lv_at hl 0 rfl) ?_
          refine lv_aload_n hx hb d_Printer_members_86 rfl (lv_at hl 1 rfl) ?_
          rcases me21 with _ | b25
          · exact absurd (PO.mem0 ef21) (by omega)
          · refine vq_get (D := (dC, dI)) (ci := 9) (v := .ref b25) (C := R_Value) (T := F_Value) (N := 10) hx hb hts in_Value hown hK hP (hO.inV (isF.v hv9)) ef21 rfl 3 (by decide) (hts _ z_326) (fun _ h9 => h9) rfl d_Printer_members_87 ?_
            refine lv_iload hx hb d_Printer_members_90 (lv_at hl 4 rfl) ?_
            obtain ⟨g26, hi26, ef26, hg26⟩ := hO.mem1 ef21 hv21 (isF.n1 hv9)
            have hn26 := hO.szle ef21 hv21
            obtain ⟨me27, hm27, hf27, hnm27⟩ := hg26 i hi
            refine vq_aald hx hb hK hP 2 hi26 ef26 rfl (j := i) hi hn26 hm27 d_Printer_members_92 ?_
            refine lv_iload_n hx hb d_Printer_members_93 rfl (lv_at hl 2 rfl) ?_
            refine lv_iconst (v := 1) hx hb d_Printer_members_94 (by decide) ?_
            refine lv_iadd hx hb d_Printer_members_95 ?_
            refine W.eq (g2 := F0 m 96 ls [.int (nI (d + 1)), .ref me27, .ref p1]) (by rw [show ((nI d) + 1) = (nI (d + 1)) from nI_1 _]) ?_
            have hPc := hP.part (cx := [(p1, .inr (3, [.ref pb, .int (nI k1), .ref ps])), (pb, .inl (cB, 16384, .inl g1))]) [0, 1] rfl
            have hDc := hD.part (cx := [(p1, .inr (3, [.ref pb, .int (nI k1), .ref ps])), (pb, .inl (cB, 16384, .inl g1))]) [0, 1] (by decide) rfl
            have hFc := va_freeP (cx := [(p1, .inr (3, [.ref pb, .int (nI k1), .ref ps])), (pb, .inl (cB, 16384, .inl g1))]) hD hS hA [0, 1] rfl
            have hKc := hK.sub (tys' := [(cB, .byte), (cI, .int), (cV, .object "QueryBench$Value")]) [0, 1, 2] rfl
            refine w_same (fun hq0 => ?_)
            refine vx_callv (vx_runV (As := [.ref me27, .int (nI (d + 1))]) (rest := []) ⟨hx, hb, hml, hown, hts⟩ (HV hd1 H g1 k1 hkA me27 (nn.1 ++ [i], c9.2) (NCr.kid hDq9 hn9 (kdsN_get hc9) ((memF_a ef21 ef26).trans hm27)) (by have h9 := ks_lv hc9; show c9.2.1 ≤ n - 1; omega)) (cwV 2 hts (gt_V (own := R_Printer) (C := R_Printer) (i := 29) (y := y_Printer_value) i_Printer_value z_987 z_989 (gt_sel (y := y_Printer_value) (n := 3) (by decide +kernel)) w_6) rfl rfl rfl (by decide +kernel) ⟨by show 14 + 2 * (n - 1) + 1 ≤ 13 + 2 * n; omega, by show 8 + (3 + 11) + (300 + 60 * (n - 1)) ≤ 270 + 60 * n; omega⟩) ⟨ml_blind, va_recv hK hP (ci := 3) (q0 := 0) rfl rfl, fun U hU hW => ⟨rfl, ⟨hU, by rw [hU]; exact hPc, va_K.moved hW.alike hKc, hDc.weaken (fun _ _ _ _ => trivial)⟩, hN.warm hW, by rw [hU]; exact ZX.moved' hW.alike (ZX.narrow' (ZX.kept' hZ hS.2.1) hFc), by rw [hU]; exact CE.call hC hS.2.1 hFc hW, va_AO.moved hW.alike hV⟩⟩ rfl rfl hl.1 rfl (lv_room (Nat.le_of_ble_eq_true rfl)) d_Printer_members_96 ⟨Nat.le_of_ble_eq_true rfl, Nat.le_of_ble_eq_true rfl⟩) hS (fun q _ h => hFc q h) hFc (fun q _ h => hFc q h) (fun En ce q9 ⟨kx, gx⟩ t9 H1 locs ht hvm hw hB hz1 hk1 hS hce hcv hcl => ?_) (fun ⟨k28, g28⟩ t9 H1 locs ht hvm hw hB hz1 hk1 hS => ?_)
            · obtain ⟨hEn, hP1, hK1, hD1⟩ := hB
              rw [ht] at hP1
              obtain ⟨hP, hD⟩ := va_joinP (wr := []) (rx := [(p1, .inr (3, [.ref pb, .int kx, .ref ps])), (pb, .inl (cB, 16384, .inl gx))]) (pl1 := va_pl L f) hP hD [0, 1] [] rfl rfl (by decide) (by decide) hk1 hFc hP1 hD1
              generalize H1 = H at hP hS hce ⊢
              have hP : va_P (dC, dI) classes ([(p1, .inr (3, [.ref pb, .int kx, .ref ps])), (pb, .inl (cB, 16384, .inl gx))] ++ va_pl L f) H := hP
              have hD : va_D A ([(p1, .inr (3, [.ref pb, .int kx, .ref ps])), (pb, .inl (cB, 16384, .inl gx))] ++ va_pl L f) := hD
              exact vx_out (fun x hx => (hex x hx).elim) hlocks hce hcv hcl (fun t9 ht2 ha => ⟨(kx, gx), (WNO.go (T := (prU c9.2)) (R := kR false (ksU nn.2) (i + 1) ++ [93]) hRa hw), ⟨hEn, by rw [ht2]; exact hP, va_K.moved ha hK, hD⟩, hS.F ht2⟩) hS.2.2 (Nat.le_of_ble_eq_true rfl) (Nat.le_of_ble_eq_true rfl)
            · obtain ⟨⟨hP1, hK1, hD1⟩, hz9⟩ := hB
              rw [ht] at hP1
              rw [ht] at hz9
              refine w_tight (hq0.trans hz9) ?_
              have hq0 := hq0.trans hz9
              obtain ⟨hP, hD⟩ := va_joinP (wr := []) (rx := [(p1, .inr (3, [.ref pb, .int (nI k28), .ref ps])), (pb, .inl (cB, 16384, .inl g28))]) (pl1 := va_pl L f) hP hD [0, 1] [] rfl rfl (by decide) (by decide) hk1 hFc hP1 hD1
              generalize H1 = H at hP hS hq0 ⊢
              have hP : va_P (dC, dI) classes ([(p1, .inr (3, [.ref pb, .int (nI k28), .ref ps])), (pb, .inl (cB, 16384, .inl g28))] ++ va_pl L f) H := hP
              have hD : va_D A ([(p1, .inr (3, [.ref pb, .int (nI k28), .ref ps])), (pb, .inl (cB, 16384, .inl g28))] ++ va_pl L f) := hD
              have hw : WOK k1 g1 ((prU c9.2)) k28 g28 := hw
              have hk28 := WOK.le hw hkA
              have hR28 := WOK.go (T := (prU c9.2)) (R := kR false (ksU nn.2) (i + 1) ++ [93]) hRa hw
              refine lv_iinc (v := nI (i + 1)) (lv' := [(4, .int (nI (i + 1))), (0, .ref p1), (1, .ref v9), (2, .int (nI d)), (3, .int 0)]) hx hb d_Printer_members_99 hl (k := 4) rfl (nI_1 _) (by decide) rfl (fun ls hl => ?_)
              refine lv_goto (tgt := 33) hx hb d_Printer_members_102 (by decide) ?_
              exact ih (i + 1, k28, g28) _ _ _ ⟨show i + 1 ≤ 4096 by omega, hk28, hR28⟩ (by show 4096 - (i + 1) < 4096 - i; omega) hP hD hS (lv_sub hl [1, 2, 3, 4, 0] rfl)
        · have h0 : ¬ i = 0 := fun h => c50 (by rw [h]; decide)
          have hRa : penL (k, 0, g) (prU nn.2) = penL (k1, 0, g1) ([44] ++ (prU c9.2 ++ (kR false (ksU nn.2) (i + 1) ++ [93]))) := by
            rw [hR1, kR_s hc9, if_neg h0, if_neg (show ¬ false = true by decide)]
            simp only [List.nil_append, List.append_assoc]
          refine lv_aload_n hx hb d_Printer_members_53 rfl (lv_at hl 0 rfl) ?_
          refine lv_bipush (v := 44) hx hb d_Printer_members_54 (by decide) ?_
          have hPc := hP.sub (ws' := [(p1, .inr (3, [.ref pb, .int (nI k1), .ref ps])), (pb, .inl (cB, 16384, .inl g1))]) [0, 1] rfl
          have hDc := hD.sub (ws' := [(p1, .inr (3, [.ref pb, .int (nI k1), .ref ps])), (pb, .inl (cB, 16384, .inl g1))]) [0, 1] (by decide) rfl
          have hFc := va_free (wc := [(p1, .inr (3, [.ref pb, .int (nI k1), .ref ps])), (pb, .inl (cB, 16384, .inl g1))]) hD hS hA [0, 1] rfl
          have hKc := hK.sub (tys' := [(cB, .byte)]) [0] rfl
          refine w_same (fun hq0 => ?_)
          refine vx_callv (vx_runV (As := [.int 44]) (rest := []) ⟨hx, hb, hml, hown, hts⟩ (t_put l hl9 dC dI cB p1 pb H (.ref ps) g1 k1 44 hkA) (cwV 1 hts (gt_V (own := R_Printer) (C := R_Printer) (i := 25) (y := y_Printer_put) i_Printer_put w_957 w_959 (gt_sel (y := y_Printer_put) (n := 3) (by decide +kernel)) w_6) rfl rfl rfl (by decide +kernel) ⟨by show 8 + 1 ≤ 13 + 2 * n; omega, by show 8 + (2 + 11) + (110) ≤ 270 + 60 * n; omega⟩) ⟨mx_blind, va_recv hK hP (ci := 3) (q0 := 0) rfl rfl, fun U hU hW => ⟨rfl, ⟨hU, by rw [hU]; exact hPc, va_K.moved hW.alike hKc, hDc.weaken (fun _ _ _ _ => trivial)⟩, hN.warm hW, by rw [hU]; exact ZX.moved' hW.alike (ZX.narrow' (ZX.kept' hZ hS.2.1) hFc)⟩⟩ rfl rfl hl.1 rfl (lv_room (Nat.le_of_ble_eq_true rfl)) d_Printer_members_56 ⟨Nat.le_of_ble_eq_true rfl, Nat.le_of_ble_eq_true rfl⟩) hS (fun q _ h => hFc q h) hFc (fun q _ h => hFc q h) (fun En ce q9 ⟨kx, gx⟩ t9 H1 locs ht hvm hw hB hz1 hk1 hS hce hcv hcl => ?_) (fun ⟨k29, g29⟩ t9 H1 locs ht hvm hw hB hz1 hk1 hS => ?_)
          · obtain ⟨hEn, hP1, hK1, hD1⟩ := hB
            rw [ht] at hP1
            obtain ⟨hP, hD⟩ := va_joinQ (wr := []) (w1 := [(p1, .inr (3, [.ref pb, .int (nI kx), .ref ps])), (pb, .inl (cB, 16384, .inl gx))]) hP hD [0, 1] [] rfl rfl (by decide) (by decide) hk1 hFc hP1 hD1
            generalize H1 = H at hP hS hce ⊢
            have hP : va_P (dC, dI) classes ([(p1, .inr (3, [.ref pb, .int (nI kx), .ref ps])), (pb, .inl (cB, 16384, .inl gx))] ++ va_pl L f) H := hP
            have hD : va_D A ([(p1, .inr (3, [.ref pb, .int (nI kx), .ref ps])), (pb, .inl (cB, 16384, .inl gx))] ++ va_pl L f) := hD
            exact vx_out (fun x hx => (hex x hx).elim) hlocks hce hcv hcl (fun t9 ht2 ha => ⟨(nI kx, gx), (WNO.go (T := [44]) (R := (prU c9.2 ++ (kR false (ksU nn.2) (i + 1) ++ [93]))) hRa hw), ⟨hEn, by rw [ht2]; exact hP, va_K.moved ha hK, hD⟩, hS.F ht2⟩) hS.2.2 (Nat.le_of_ble_eq_true rfl) (Nat.le_of_ble_eq_true rfl)
          · obtain ⟨⟨hP1, hK1, hD1⟩, hz9⟩ := hB
            rw [ht] at hP1
            rw [ht] at hz9
            refine w_tight (hq0.trans hz9) ?_
            have hq0 := hq0.trans hz9
            obtain ⟨hP, hD⟩ := va_joinQ (wr := []) (w1 := [(p1, .inr (3, [.ref pb, .int (nI k29), .ref ps])), (pb, .inl (cB, 16384, .inl g29))]) hP hD [0, 1] [] rfl rfl (by decide) (by decide) hk1 hFc hP1 hD1
            generalize H1 = H at hP hS hq0 ⊢
            have hP : va_P (dC, dI) classes ([(p1, .inr (3, [.ref pb, .int (nI k29), .ref ps])), (pb, .inl (cB, 16384, .inl g29))] ++ va_pl L f) H := hP
            have hD : va_D A ([(p1, .inr (3, [.ref pb, .int (nI k29), .ref ps])), (pb, .inl (cB, 16384, .inl g29))] ++ va_pl L f) := hD
            have hw : WOK k1 g1 [44] k29 g29 := hw
            have hk29 := WOK.le hw hkA
            have hR29 := WOK.go (T := [44]) (R := (prU c9.2 ++ (kR false (ksU nn.2) (i + 1) ++ [93]))) hRa hw
            refine lv_iload_n hx hb d_Printer_members_59 rfl (lv_at hl 3 rfl) ?_
            refine lv_if_eq (tgt := 85) hx hb d_Printer_members_60 (by decide) (fun _ => ?_) (fun h => absurd (by decide) h)
            refine lv_aload_n hx hb d_Printer_members_85 rfl (lv_at hl 0 rfl) ?_
            refine lv_aload_n hx hb d_Printer_members_86 rfl (lv_at hl 1 rfl) ?_
            rcases me21 with _ | b30
            · exact absurd (PO.mem0 ef21) (by omega)
            · refine vq_get (D := (dC, dI)) (ci := 9) (v := .ref b30) (C := R_Value) (T := F_Value) (N := 10) hx hb hts in_Value hown hK hP (hO.inV (isF.v hv9)) ef21 rfl 3 (by decide) (hts _ z_326) (fun _ h9 => h9) rfl d_Printer_members_87 ?_
              refine lv_iload hx hb d_Printer_members_90 (lv_at hl 4 rfl) ?_
              obtain ⟨g31, hi31, ef31, hg31⟩ := hO.mem1 ef21 hv21 (isF.n1 hv9)
              have hn31 := hO.szle ef21 hv21
              obtain ⟨me32, hm32, hf32, hnm32⟩ := hg31 i hi
              refine vq_aald hx hb hK hP 2 hi31 ef31 rfl (j := i) hi hn31 hm32 d_Printer_members_92 ?_
              refine lv_iload_n hx hb d_Printer_members_93 rfl (lv_at hl 2 rfl) ?_
              refine lv_iconst (v := 1) hx hb d_Printer_members_94 (by decide) ?_
              refine lv_iadd hx hb d_Printer_members_95 ?_
              refine W.eq (g2 := F0 m 96 ls [.int (nI (d + 1)), .ref me32, .ref p1]) (by rw [show ((nI d) + 1) = (nI (d + 1)) from nI_1 _]) ?_
              have hPc := hP.part (cx := [(p1, .inr (3, [.ref pb, .int (nI k29), .ref ps])), (pb, .inl (cB, 16384, .inl g29))]) [0, 1] rfl
              have hDc := hD.part (cx := [(p1, .inr (3, [.ref pb, .int (nI k29), .ref ps])), (pb, .inl (cB, 16384, .inl g29))]) [0, 1] (by decide) rfl
              have hFc := va_freeP (cx := [(p1, .inr (3, [.ref pb, .int (nI k29), .ref ps])), (pb, .inl (cB, 16384, .inl g29))]) hD hS hA [0, 1] rfl
              have hKc := hK.sub (tys' := [(cB, .byte), (cI, .int), (cV, .object "QueryBench$Value")]) [0, 1, 2] rfl
              refine w_same (fun hq0 => ?_)
              refine vx_callv (vx_runV (As := [.ref me32, .int (nI (d + 1))]) (rest := []) ⟨hx, hb, hml, hown, hts⟩ (HV hd1 H g29 k29 hk29 me32 (nn.1 ++ [i], c9.2) (NCr.kid hDq9 hn9 (kdsN_get hc9) ((memF_a ef21 ef31).trans hm32)) (by have h9 := ks_lv hc9; show c9.2.1 ≤ n - 1; omega)) (cwV 2 hts (gt_V (own := R_Printer) (C := R_Printer) (i := 29) (y := y_Printer_value) i_Printer_value z_987 z_989 (gt_sel (y := y_Printer_value) (n := 3) (by decide +kernel)) w_6) rfl rfl rfl (by decide +kernel) ⟨by show 14 + 2 * (n - 1) + 1 ≤ 13 + 2 * n; omega, by show 8 + (3 + 11) + (300 + 60 * (n - 1)) ≤ 270 + 60 * n; omega⟩) ⟨ml_blind, va_recv hK hP (ci := 3) (q0 := 0) rfl rfl, fun U hU hW => ⟨rfl, ⟨hU, by rw [hU]; exact hPc, va_K.moved hW.alike hKc, hDc.weaken (fun _ _ _ _ => trivial)⟩, hN.warm hW, by rw [hU]; exact ZX.moved' hW.alike (ZX.narrow' (ZX.kept' hZ hS.2.1) hFc), by rw [hU]; exact CE.call hC hS.2.1 hFc hW, va_AO.moved hW.alike hV⟩⟩ rfl rfl hl.1 rfl (lv_room (Nat.le_of_ble_eq_true rfl)) d_Printer_members_96 ⟨Nat.le_of_ble_eq_true rfl, Nat.le_of_ble_eq_true rfl⟩) hS (fun q _ h => hFc q h) hFc (fun q _ h => hFc q h) (fun En ce q9 ⟨kx, gx⟩ t9 H1 locs ht hvm hw hB hz1 hk1 hS hce hcv hcl => ?_) (fun ⟨k33, g33⟩ t9 H1 locs ht hvm hw hB hz1 hk1 hS => ?_)
              · obtain ⟨hEn, hP1, hK1, hD1⟩ := hB
                rw [ht] at hP1
                obtain ⟨hP, hD⟩ := va_joinP (wr := []) (rx := [(p1, .inr (3, [.ref pb, .int kx, .ref ps])), (pb, .inl (cB, 16384, .inl gx))]) (pl1 := va_pl L f) hP hD [0, 1] [] rfl rfl (by decide) (by decide) hk1 hFc hP1 hD1
                generalize H1 = H at hP hS hce ⊢
                have hP : va_P (dC, dI) classes ([(p1, .inr (3, [.ref pb, .int kx, .ref ps])), (pb, .inl (cB, 16384, .inl gx))] ++ va_pl L f) H := hP
                have hD : va_D A ([(p1, .inr (3, [.ref pb, .int kx, .ref ps])), (pb, .inl (cB, 16384, .inl gx))] ++ va_pl L f) := hD
                exact vx_out (fun x hx => (hex x hx).elim) hlocks hce hcv hcl (fun t9 ht2 ha => ⟨(kx, gx), (WNO.go (T := (prU c9.2)) (R := kR false (ksU nn.2) (i + 1) ++ [93]) hR29 hw), ⟨hEn, by rw [ht2]; exact hP, va_K.moved ha hK, hD⟩, hS.F ht2⟩) hS.2.2 (Nat.le_of_ble_eq_true rfl) (Nat.le_of_ble_eq_true rfl)
              · obtain ⟨⟨hP1, hK1, hD1⟩, hz9⟩ := hB
                rw [ht] at hP1
                rw [ht] at hz9
                refine w_tight (hq0.trans hz9) ?_
                have hq0 := hq0.trans hz9
                obtain ⟨hP, hD⟩ := va_joinP (wr := []) (rx := [(p1, .inr (3, [.ref pb, .int (nI k33), .ref ps])), (pb, .inl (cB, 16384, .inl g33))]) (pl1 := va_pl L f) hP hD [0, 1] [] rfl rfl (by decide) (by decide) hk1 hFc hP1 hD1
                generalize H1 = H at hP hS hq0 ⊢
                have hP : va_P (dC, dI) classes ([(p1, .inr (3, [.ref pb, .int (nI k33), .ref ps])), (pb, .inl (cB, 16384, .inl g33))] ++ va_pl L f) H := hP
                have hD : va_D A ([(p1, .inr (3, [.ref pb, .int (nI k33), .ref ps])), (pb, .inl (cB, 16384, .inl g33))] ++ va_pl L f) := hD
                have hw : WOK k29 g29 ((prU c9.2)) k33 g33 := hw
                have hk33 := WOK.le hw hk29
                have hR33 := WOK.go (T := (prU c9.2)) (R := kR false (ksU nn.2) (i + 1) ++ [93]) hR29 hw
                refine lv_iinc (v := nI (i + 1)) (lv' := [(4, .int (nI (i + 1))), (0, .ref p1), (1, .ref v9), (2, .int (nI d)), (3, .int 0)]) hx hb d_Printer_members_99 hl (k := 4) rfl (nI_1 _) (by decide) rfl (fun ls hl => ?_)
                refine lv_goto (tgt := 33) hx hb d_Printer_members_102 (by decide) ?_
                exact ih (i + 1, k33, g33) _ _ _ ⟨show i + 1 ≤ 4096 by omega, hk33, hR33⟩ (by show 4096 - (i + 1) < 4096 - i; omega) hP hD hS (lv_sub hl [1, 2, 3, 4, 0] rfl)
  · have h69 : (lfU nn.2).1 = 6 := ck_6 hCl.2.1 (hCl.1.symm.trans c6)
    have hR : penL (k, 0, g) (prU nn.2) = penL (k, 0, g) ([123] ++ (kR true (ksU nn.2) 0 ++ [125])) := by rw [prU_mu h5 h09, h69]; rfl
    refine lv_iconst (v := 1) hx hb d_Printer_members_9 (by decide) ?_
    refine lv_goto (tgt := 14) hx hb d_Printer_members_10 (by decide) ?_
    refine lv_istore_n (lv' := [(3, .int 1), (0, .ref p1), (1, .ref v9), (2, .int (nI d))]) hx hb d_Printer_members_14 rfl hl (by decide) rfl (fun ls hl => ?_)
    refine lv_aload_n hx hb d_Printer_members_15 rfl (lv_at hl 1 rfl) ?_
    refine lv_iload_n hx hb d_Printer_members_16 rfl (lv_at hl 0 rfl) ?_
    refine lv_if_eq (tgt := 25) hx hb d_Printer_members_17 (by decide) (fun h => absurd h (by decide)) (fun _ => ?_)
    refine lv_bipush (v := 123) hx hb d_Printer_members_20 (by decide) ?_
    refine lv_goto (tgt := 27) hx hb d_Printer_members_22 (by decide) ?_
    have hPc := hP.sub (ws' := [(p1, .inr (3, [.ref pb, .int (nI k), .ref ps])), (pb, .inl (cB, 16384, .inl g))]) [0, 1] rfl
    have hDc := hD.sub (ws' := [(p1, .inr (3, [.ref pb, .int (nI k), .ref ps])), (pb, .inl (cB, 16384, .inl g))]) [0, 1] (by decide) rfl
    have hFc := va_free (wc := [(p1, .inr (3, [.ref pb, .int (nI k), .ref ps])), (pb, .inl (cB, 16384, .inl g))]) hD hS hA [0, 1] rfl
    have hKc := hK.sub (tys' := [(cB, .byte)]) [0] rfl
    refine w_same (fun hq0 => ?_)
    refine vx_callv (vx_runV (As := [.int 123]) (rest := []) ⟨hx, hb, hml, hown, hts⟩ (t_put l hl9 dC dI cB p1 pb s.heap (.ref ps) g k 123 hk) (cwV 1 hts (gt_V (own := R_Printer) (C := R_Printer) (i := 25) (y := y_Printer_put) i_Printer_put w_957 w_959 (gt_sel (y := y_Printer_put) (n := 3) (by decide +kernel)) w_6) rfl rfl rfl (by decide +kernel) ⟨by show 8 + 1 ≤ 13 + 2 * n; omega, by show 8 + (2 + 11) + (110) ≤ 270 + 60 * n; omega⟩) ⟨mx_blind, va_recv hK hP (ci := 3) (q0 := 0) rfl rfl, fun U hU hW => ⟨rfl, ⟨hU, by rw [hU]; exact hPc, va_K.moved hW.alike hKc, hDc.weaken (fun _ _ _ _ => trivial)⟩, hN.warm hW, by rw [hU]; exact ZX.moved' hW.alike (ZX.narrow' (ZX.kept' hZ hS.2.1) hFc)⟩⟩ rfl rfl hl.1 rfl (lv_room (Nat.le_of_ble_eq_true rfl)) d_Printer_members_27 ⟨Nat.le_of_ble_eq_true rfl, Nat.le_of_ble_eq_true rfl⟩) hS (fun q _ h => hFc q h) hFc (fun q _ h => hFc q h) (fun En ce q9 ⟨kx, gx⟩ t9 H1 locs ht hvm hw hB hz1 hk1 hS hce hcv hcl => ?_) (fun ⟨k34, g34⟩ t9 H1 locs ht hvm hw hB hz1 hk1 hS => ?_)
    · obtain ⟨hEn, hP1, hK1, hD1⟩ := hB
      rw [ht] at hP1
      obtain ⟨hP, hD⟩ := va_joinQ (wr := []) (w1 := [(p1, .inr (3, [.ref pb, .int (nI kx), .ref ps])), (pb, .inl (cB, 16384, .inl gx))]) hP hD [0, 1] [] rfl rfl (by decide) (by decide) hk1 hFc hP1 hD1
      generalize H1 = H at hP hS hce ⊢
      have hP : va_P (dC, dI) classes ([(p1, .inr (3, [.ref pb, .int (nI kx), .ref ps])), (pb, .inl (cB, 16384, .inl gx))] ++ va_pl L f) H := hP
      have hD : va_D A ([(p1, .inr (3, [.ref pb, .int (nI kx), .ref ps])), (pb, .inl (cB, 16384, .inl gx))] ++ va_pl L f) := hD
      exact vx_out (fun x hx => (hex x hx).elim) hlocks hce hcv hcl (fun t9 ht2 ha => ⟨(nI kx, gx), (WNO.go (T := [123]) (R := kR true (ksU nn.2) 0 ++ [125]) hR hw), ⟨hEn, by rw [ht2]; exact hP, va_K.moved ha hK, hD⟩, hS.F ht2⟩) hS.2.2 (Nat.le_of_ble_eq_true rfl) (Nat.le_of_ble_eq_true rfl)
    · obtain ⟨⟨hP1, hK1, hD1⟩, hz9⟩ := hB
      rw [ht] at hP1
      rw [ht] at hz9
      refine w_tight (hq0.trans hz9) ?_
      have hq0 := hq0.trans hz9
      obtain ⟨hP, hD⟩ := va_joinQ (wr := []) (w1 := [(p1, .inr (3, [.ref pb, .int (nI k34), .ref ps])), (pb, .inl (cB, 16384, .inl g34))]) hP hD [0, 1] [] rfl rfl (by decide) (by decide) hk1 hFc hP1 hD1
      generalize H1 = H at hP hS hq0 ⊢
      have hP : va_P (dC, dI) classes ([(p1, .inr (3, [.ref pb, .int (nI k34), .ref ps])), (pb, .inl (cB, 16384, .inl g34))] ++ va_pl L f) H := hP
      have hD : va_D A ([(p1, .inr (3, [.ref pb, .int (nI k34), .ref ps])), (pb, .inl (cB, 16384, .inl g34))] ++ va_pl L f) := hD
      have hw : WOK k g [123] k34 g34 := hw
      have hk34 := WOK.le hw hk
      have hR34 := WOK.go (T := [123]) (R := kR true (ksU nn.2) 0 ++ [125]) hR hw
      refine lv_iconst (v := 0) hx hb d_Printer_members_30 (by decide) ?_
      refine lv_istore (lv' := [(4, .int 0), (3, .int 1), (0, .ref p1), (1, .ref v9), (2, .int (nI d))]) hx hb d_Printer_members_31 hl (by decide) rfl (fun ls hl => ?_)
      have hs := hO.szle ef21 hv21
      refine w_loop (D := (dC, dI)) (cl := classes) (A := A) (H0 := s.heap) (nL := 5) 33 (σ := Nat × Nat × (Nat → Int32)) (fun ⟨i, k1, g1⟩ => i ≤ 4096 ∧ k1 ≤ 16384 ∧ penL (k, 0, g) (prU nn.2) = penL (k1, 0, g1) (kR true (ksU nn.2) i ++ [125])) (fun ⟨i, k1, g1⟩ => 4096 - i) (fun ⟨i, k1, g1⟩ => [(p1, .inr (3, [.ref pb, .int (nI k1), .ref ps])), (pb, .inl (cB, 16384, .inl g1))] ++ va_pl L f) (fun ⟨i, k1, g1⟩ => [(0, .ref p1), (1, .ref v9), (2, .int (nI d)), (3, .int 1), (4, .int (nI i))]) ?_ (0, k34, g34) ⟨Nat.zero_le _, hk34, hR34⟩ hP hD hS (lv_sub hl [2, 3, 4, 1, 0] rfl)
      rintro ⟨i, k1, g1⟩ H locs ls hI ih hP hD hS hl
      have hP : va_P (dC, dI) classes ([(p1, .inr (3, [.ref pb, .int (nI k1), .ref ps])), (pb, .inl (cB, 16384, .inl g1))] ++ va_pl L f) H := hP
      have hD : va_D A ([(p1, .inr (3, [.ref pb, .int (nI k1), .ref ps])), (pb, .inl (cB, 16384, .inl g1))] ++ va_pl L f) := hD
      have hl : lv_has ls 5 [(0, .ref p1), (1, .ref v9), (2, .int (nI d)), (3, .int 1), (4, .int (nI i))] := hl
      obtain ⟨hI, hkA, hR1⟩ := hI
      have hI : i ≤ 4096 := hI
      have hkA : k1 ≤ 16384 := hkA
      have hR1 : penL (k, 0, g) (prU nn.2) = penL (k1, 0, g1) (kR true (ksU nn.2) i ++ [125]) := hR1
      refine lv_iload hx hb d_Printer_members_33 (lv_at hl 4 rfl) ?_
      refine lv_aload_n hx hb d_Printer_members_35 rfl (lv_at hl 1 rfl) ?_
      refine vp_callSi (va_Run.run (va_runV (As := []) (rest := [.int (nI i)]) ⟨hx, hb, hml, hown, hts⟩ (c_Value_size l dC dI H cI cV E lv L f hO v9 hv9) (cwV 0 hts (gt_V (own := R_Printer) (C := R_Value) (i := 89) (y := y_Value_size) i_Value_size z_998 z_866 z_867 z_14) rfl rfl rfl (by decide +kernel) ⟨by show 0 + 1 ≤ 13 + 2 * n; omega, by show 8 + (1 + 11) + (0) ≤ 270 + 60 * n; omega⟩) ⟨mq_blind, vq_recv hK hP rfl (hO.inV (isF.v hv9)) ef21, fun U hU hW => ⟨rfl, hU, by rw [hU]; exact hP.part (cx := []) [] rfl, va_K.moved hW.alike (hK.sub (tys' := [(cI, .int), (cV, .object "QueryBench$Value")]) [1, 2] rfl), hN.warm hW⟩⟩ rfl rfl hl.1 rfl (lv_room (Nat.le_of_ble_eq_true rfl)) d_Printer_members_36 ⟨Nat.le_of_ble_eq_true rfl, Nat.le_of_ble_eq_true rfl⟩)) (fun r35 h_r35 => ?_)
      subst h_r35
      refine lv_icmp_ge (tgt := 105) hx hb d_Printer_members_39 (by decide) (fun c39 => ?_) (fun c39 => ?_)
      · have hR9 : penL (k, 0, g) (prU nn.2) = penL (k1, 0, g1) ([125] ++ []) := by
          rw [hR1, kR_e]
          · rfl
          · rw [← hsz9]; rw [nI_leI (by omega) (by omega)] at c39; exact c39
        refine lv_aload_n hx hb d_Printer_members_105 rfl (lv_at hl 0 rfl) ?_
        refine lv_iload_n hx hb d_Printer_members_106 rfl (lv_at hl 3 rfl) ?_
        refine lv_if_eq (tgt := 115) hx hb d_Printer_members_107 (by decide) (fun h => absurd h (by decide)) (fun _ => ?_)
        refine lv_bipush (v := 125) hx hb d_Printer_members_110 (by decide) ?_
        refine lv_goto (tgt := 117) hx hb d_Printer_members_112 (by decide) ?_
        have hPc := hP.sub (ws' := [(p1, .inr (3, [.ref pb, .int (nI k1), .ref ps])), (pb, .inl (cB, 16384, .inl g1))]) [0, 1] rfl
        have hDc := hD.sub (ws' := [(p1, .inr (3, [.ref pb, .int (nI k1), .ref ps])), (pb, .inl (cB, 16384, .inl g1))]) [0, 1] (by decide) rfl
        have hFc := va_free (wc := [(p1, .inr (3, [.ref pb, .int (nI k1), .ref ps])), (pb, .inl (cB, 16384, .inl g1))]) hD hS hA [0, 1] rfl
        have hKc := hK.sub (tys' := [(cB, .byte)]) [0] rfl
        refine w_same (fun hq0 => ?_)
        refine vx_callv (vx_runV (As := [.int 125]) (rest := []) ⟨hx, hb, hml, hown, hts⟩ (t_put l hl9 dC dI cB p1 pb H (.ref ps) g1 k1 125 hkA) (cwV 1 hts (gt_V (own := R_Printer) (C := R_Printer) (i := 25) (y := y_Printer_put) i_Printer_put w_957 w_959 (gt_sel (y := y_Printer_put) (n := 3) (by decide +kernel)) w_6) rfl rfl rfl (by decide +kernel) ⟨by show 8 + 1 ≤ 13 + 2 * n; omega, by show 8 + (2 + 11) + (110) ≤ 270 + 60 * n; omega⟩) ⟨mx_blind, va_recv hK hP (ci := 3) (q0 := 0) rfl rfl, fun U hU hW => ⟨rfl, ⟨hU, by rw [hU]; exact hPc, va_K.moved hW.alike hKc, hDc.weaken (fun _ _ _ _ => trivial)⟩, hN.warm hW, by rw [hU]; exact ZX.moved' hW.alike (ZX.narrow' (ZX.kept' hZ hS.2.1) hFc)⟩⟩ rfl rfl hl.1 rfl (lv_room (Nat.le_of_ble_eq_true rfl)) d_Printer_members_117 ⟨Nat.le_of_ble_eq_true rfl, Nat.le_of_ble_eq_true rfl⟩) hS (fun q _ h => hFc q h) hFc (fun q _ h => hFc q h) (fun En ce q9 ⟨kx, gx⟩ t9 H1 locs ht hvm hw hB hz1 hk1 hS hce hcv hcl => ?_) (fun ⟨k36, g36⟩ t9 H1 locs ht hvm hw hB hz1 hk1 hS => ?_)
        · obtain ⟨hEn, hP1, hK1, hD1⟩ := hB
          rw [ht] at hP1
          obtain ⟨hP, hD⟩ := va_joinQ (wr := []) (w1 := [(p1, .inr (3, [.ref pb, .int (nI kx), .ref ps])), (pb, .inl (cB, 16384, .inl gx))]) hP hD [0, 1] [] rfl rfl (by decide) (by decide) hk1 hFc hP1 hD1
          generalize H1 = H at hP hS hce ⊢
          have hP : va_P (dC, dI) classes ([(p1, .inr (3, [.ref pb, .int (nI kx), .ref ps])), (pb, .inl (cB, 16384, .inl gx))] ++ va_pl L f) H := hP
          have hD : va_D A ([(p1, .inr (3, [.ref pb, .int (nI kx), .ref ps])), (pb, .inl (cB, 16384, .inl gx))] ++ va_pl L f) := hD
          exact vx_out (fun x hx => (hex x hx).elim) hlocks hce hcv hcl (fun t9 ht2 ha => ⟨(nI kx, gx), (WNO.go (T := [125]) (R := []) hR9 hw), ⟨hEn, by rw [ht2]; exact hP, va_K.moved ha hK, hD⟩, hS.F ht2⟩) hS.2.2 (Nat.le_of_ble_eq_true rfl) (Nat.le_of_ble_eq_true rfl)
        · obtain ⟨⟨hP1, hK1, hD1⟩, hz9⟩ := hB
          rw [ht] at hP1
          rw [ht] at hz9
          refine w_tight (hq0.trans hz9) ?_
          have hq0 := hq0.trans hz9
          obtain ⟨hP, hD⟩ := va_joinQ (wr := []) (w1 := [(p1, .inr (3, [.ref pb, .int (nI k36), .ref ps])), (pb, .inl (cB, 16384, .inl g36))]) hP hD [0, 1] [] rfl rfl (by decide) (by decide) hk1 hFc hP1 hD1
          generalize H1 = H at hP hS hq0 ⊢
          have hP : va_P (dC, dI) classes ([(p1, .inr (3, [.ref pb, .int (nI k36), .ref ps])), (pb, .inl (cB, 16384, .inl g36))] ++ va_pl L f) H := hP
          have hD : va_D A ([(p1, .inr (3, [.ref pb, .int (nI k36), .ref ps])), (pb, .inl (cB, 16384, .inl g36))] ++ va_pl L f) := hD
          have hw : WOK k1 g1 [125] k36 g36 := hw
          have hk36 := WOK.le hw hkA
          have hR36 := WOK.go (T := [125]) (R := []) hR9 hw
          refine w_same (fun hq => ?_)
          refine W.widen (k := 1) (n := 6) (Nat.le_of_ble_eq_true rfl) (Nat.le_of_ble_eq_true rfl) ?_
          refine vx_ret ?_
          exact W.vret hx hb hr (fun t9 ht hW => ⟨⟨(k36, g36), rfl, hR36, ⟨by rw [ht]; exact hP, va_K.moved hW.alike hK, hD⟩, by rw [ht]; exact hq⟩, hS.F ht⟩) hS.2.2 d_Printer_members_120
      · have hi : i < szF f v9 := by rw [nI_leI (by omega) (by omega)] at c39; omega
        obtain ⟨c9, hc9⟩ : ∃ z, (ksU nn.2)[i]? = some z := ⟨_, List.getElem?_eq_getElem (by omega)⟩
        refine lv_iload_n hx hb d_Printer_members_42 rfl (lv_at hl 2 rfl) ?_
        refine lv_bipush (v := 32) hx hb d_Printer_members_43 (by decide) ?_
        refine lv_icmp_ge (tgt := 105) hx hb d_Printer_members_45 (by decide) (fun h => absurd h (fun h => by rw [show (32 : Int32) = nI 32 from rfl, nI_leI (by omega) (by omega)] at h; omega)) (fun _ => ?_)
        refine lv_iload hx hb d_Printer_members_48 (lv_at hl 4 rfl) ?_
        refine lv_if_le (tgt := 59) hx hb d_Printer_members_50 (by decide) (fun c50 => ?_) (fun c50 => ?_)
        · have h0 : i = 0 := by rw [show (0 : Int32) = nI 0 from rfl, nI_leI (by omega) (by omega)] at c50; omega
          have hRa : penL (k, 0, g) (prU nn.2) = penL (k1, 0, g1) (unL 34 c9.1 ++ ([58] ++ (prU c9.2 ++ (kR true (ksU nn.2) (i + 1) ++ [125])))) := by
            rw [hR1, kR_s hc9, if_pos h0, if_pos (show true = true from rfl)]
            simp only [List.nil_append, List.append_assoc]
          refine lv_iload_n hx hb d_Printer_members_59 rfl (lv_at hl 3 rfl) ?_
          refine lv_if_eq (tgt := 85) hx hb d_Printer_members_60 (by decide) (fun h => absurd h (by decide)) (fun _ => ?_)
          refine lv_aload_n hx hb d_Printer_members_63 rfl (lv_at hl 0 rfl) ?_
          refine lv_aload_n hx hb d_Printer_members_64 rfl (lv_at hl 1 rfl) ?_
          rcases me21 with _ | b37
          · exact absurd (PO.mem0 ef21) (by omega)
          · refine vq_get (D := (dC, dI)) (ci := 9) (v := .ref b37) (C := R_Value) (T := F_Value) (N := 10) hx hb hts in_Value hown hK hP (hO.inV (isF.v hv9)) ef21 rfl 3 (by decide) (hts _ z_326) (fun _ h9 => h9) rfl d_Printer_members_65 ?_
            refine lv_iload hx hb d_Printer_members_68 (lv_at hl 4 rfl) ?_
            obtain ⟨g38, hi38, ef38, hg38⟩ := hO.mem1 ef21 hv21 (isF.n1 hv9)
            have hn38 := hO.szle ef21 hv21
            obtain ⟨me39, hm39, hf39, hnm39⟩ := hg38 i hi
            refine vq_aald hx hb hK hP 2 hi38 ef38 rfl (j := i) hi hn38 hm39 d_Printer_members_70 ?_
            obtain ⟨kd40, nu40, tx40, me40, pa40, na40, ix40, nm40, no40, sp40, ef40, hv40⟩ := hO.val ((isF.v hf39))
            rcases na40 with _ | b41
            · exact absurd rfl (hv40.2.2.2.2.2.2.2 (hnm39 c6)).1
            · refine vq_get (D := (dC, dI)) (ci := 9) (v := .ref b41) (C := R_Value) (T := F_Value) (N := 10) hx hb hts in_Value hown hK hP (hO.inV (isF.v hf39)) ef40 rfl 5 (by decide) (hts _ z_332) (fun _ h9 => h9) rfl d_Printer_members_71 ?_
              refine lv_bipush (v := 34) hx hb d_Printer_members_74 (by decide) ?_
              have hnb : txL f b41 = c9.1 := by
                obtain ⟨b8, e1, e2, e3⟩ := hcu9.get.2.2.2 i c9 hc9
                have e5 : b8 = me39 := Option.some.inj (e1.symm.trans ((memF_a ef21 ef38).trans hm39))
                have e4 := e3 h69
                rw [e5, nmL_v ef40] at e4
                exact Option.some.inj e4
              have hRn : penL (k, 0, g) (prU nn.2) = penL (k1, 0, g1) (unL 34 (txL f b41) ++ ([58] ++ (prU c9.2 ++ (kR true (ksU nn.2) (i + 1) ++ [125])))) := by rw [hnb]; exact hRa
              have hPc := hP.part (cx := [(p1, .inr (3, [.ref pb, .int (nI k1), .ref ps])), (pb, .inl (cB, 16384, .inl g1))]) [0, 1] rfl
              have hDc := hD.part (cx := [(p1, .inr (3, [.ref pb, .int (nI k1), .ref ps])), (pb, .inl (cB, 16384, .inl g1))]) [0, 1] (by decide) rfl
              have hFc := va_freeP (cx := [(p1, .inr (3, [.ref pb, .int (nI k1), .ref ps])), (pb, .inl (cB, 16384, .inl g1))]) hD hS hA [0, 1] rfl
              have hKc := hK.sub (tys' := [(cB, .byte), (cI, .int), (cV, .object "QueryBench$Value")]) [0, 1, 2] rfl
              refine w_same (fun hq0 => ?_)
              refine vx_callv (vx_runV (As := [.ref b41, .int 34]) (rest := []) ⟨hx, hb, hml, hown, hts⟩ (p_Printer_text l hl9 K dC dI H cI cV E lv L f hO cB p1 pb ps g1 k1 hkA b41 (hv40.2.2.2.1 b41 rfl) 34 (Or.inl rfl)) (cwV 2 hts (gt_V (own := R_Printer) (C := R_Printer) (i := 64) (y := y_Printer_text) i_Printer_text z_968 z_970 (gt_sel (y := y_Printer_text) (n := 3) (by decide +kernel)) w_6) rfl rfl rfl (by decide +kernel) ⟨by show 11 + 1 ≤ 13 + 2 * n; omega, by show 8 + (4 + 11) + (230) ≤ 270 + 60 * n; omega⟩) ⟨ml_blind, va_recv hK hP (ci := 3) (q0 := 0) rfl rfl, fun U hU hW => ⟨rfl, ⟨hU, by rw [hU]; exact hPc, va_K.moved hW.alike hKc, hDc.weaken (fun _ _ _ _ => trivial)⟩, hN.warm hW, by rw [hU]; exact ZX.moved' hW.alike (ZX.narrow' (ZX.kept' hZ hS.2.1) hFc), by rw [hU]; exact CE.call hC hS.2.1 hFc hW, va_AO.moved hW.alike hV⟩⟩ rfl rfl hl.1 rfl (lv_room (Nat.le_of_ble_eq_true rfl)) d_Printer_members_76 ⟨Nat.le_of_ble_eq_true rfl, Nat.le_of_ble_eq_true rfl⟩) hS (fun q _ h => hFc q h) hFc (fun q _ h => hFc q h) (fun En ce q9 ⟨kx, gx⟩ t9 H1 locs ht hvm hw hB hz1 hk1 hS hce hcv hcl => ?_) (fun ⟨k42, g42⟩ t9 H1 locs ht hvm hw hB hz1 hk1 hS => ?_)
              · obtain ⟨hEn, hP1, hK1, hD1⟩ := hB
                rw [ht] at hP1
                obtain ⟨hP, hD⟩ := va_joinP (wr := []) (rx := [(p1, .inr (3, [.ref pb, .int kx, .ref ps])), (pb, .inl (cB, 16384, .inl gx))]) (pl1 := va_pl L f) hP hD [0, 1] [] rfl rfl (by decide) (by decide) hk1 hFc hP1 hD1
                generalize H1 = H at hP hS hce ⊢
                have hP : va_P (dC, dI) classes ([(p1, .inr (3, [.ref pb, .int kx, .ref ps])), (pb, .inl (cB, 16384, .inl gx))] ++ va_pl L f) H := hP
                have hD : va_D A ([(p1, .inr (3, [.ref pb, .int kx, .ref ps])), (pb, .inl (cB, 16384, .inl gx))] ++ va_pl L f) := hD
                exact vx_out (fun x hx => (hex x hx).elim) hlocks hce hcv hcl (fun t9 ht2 ha => ⟨(kx, gx), (WNO.go (T := (unL 34 (txL f b41))) (R := [58] ++ (prU c9.2 ++ (kR true (ksU nn.2) (i + 1) ++ [125]))) hRn hw), ⟨hEn, by rw [ht2]; exact hP, va_K.moved ha hK, hD⟩, hS.F ht2⟩) hS.2.2 (Nat.le_of_ble_eq_true rfl) (Nat.le_of_ble_eq_true rfl)
              · obtain ⟨⟨hP1, hK1, hD1⟩, hz9⟩ := hB
                rw [ht] at hP1
                rw [ht] at hz9
                refine w_tight (hq0.trans hz9) ?_
                have hq0 := hq0.trans hz9
                obtain ⟨hP, hD⟩ := va_joinP (wr := []) (rx := [(p1, .inr (3, [.ref pb, .int (nI k42), .ref ps])), (pb, .inl (cB, 16384, .inl g42))]) (pl1 := va_pl L f) hP hD [0, 1] [] rfl rfl (by decide) (by decide) hk1 hFc hP1 hD1
                generalize H1 = H at hP hS hq0 ⊢
                have hP : va_P (dC, dI) classes ([(p1, .inr (3, [.ref pb, .int (nI k42), .ref ps])), (pb, .inl (cB, 16384, .inl g42))] ++ va_pl L f) H := hP
                have hD : va_D A ([(p1, .inr (3, [.ref pb, .int (nI k42), .ref ps])), (pb, .inl (cB, 16384, .inl g42))] ++ va_pl L f) := hD
                have hw : WOK k1 g1 ((unL 34 (txL f b41))) k42 g42 := hw
                have hk42 := WOK.le hw hkA
                have hR42 := WOK.go (T := (unL 34 (txL f b41))) (R := [58] ++ (prU c9.2 ++ (kR true (ksU nn.2) (i + 1) ++ [125]))) hRn hw
                refine lv_aload_n hx hb d_Printer_members_79 rfl (lv_at hl 0 rfl) ?_
                refine lv_bipush (v := 58) hx hb d_Printer_members_80 (by decide) ?_
                have hPc := hP.sub (ws' := [(p1, .inr (3, [.ref pb, .int (nI k42), .ref ps])), (pb, .inl (cB, 16384, .inl g42))]) [0, 1] rfl
                have hDc := hD.sub (ws' := [(p1, .inr (3, [.ref pb, .int (nI k42), .ref ps])), (pb, .inl (cB, 16384, .inl g42))]) [0, 1] (by decide) rfl
                have hFc := va_free (wc := [(p1, .inr (3, [.ref pb, .int (nI k42), .ref ps])), (pb, .inl (cB, 16384, .inl g42))]) hD hS hA [0, 1] rfl
                have hKc := hK.sub (tys' := [(cB, .byte)]) [0] rfl
                refine w_same (fun hq0 => ?_)
                refine vx_callv (vx_runV (As := [.int 58]) (rest := []) ⟨hx, hb, hml, hown, hts⟩ (t_put l hl9 dC dI cB p1 pb H (.ref ps) g42 k42 58 hk42) (cwV 1 hts (gt_V (own := R_Printer) (C := R_Printer) (i := 25) (y := y_Printer_put) i_Printer_put w_957 w_959 (gt_sel (y := y_Printer_put) (n := 3) (by decide +kernel)) w_6) rfl rfl rfl (by decide +kernel) ⟨by show 8 + 1 ≤ 13 + 2 * n; omega, by show 8 + (2 + 11) + (110) ≤ 270 + 60 * n; omega⟩) ⟨mx_blind, va_recv hK hP (ci := 3) (q0 := 0) rfl rfl, fun U hU hW => ⟨rfl, ⟨hU, by rw [hU]; exact hPc, va_K.moved hW.alike hKc, hDc.weaken (fun _ _ _ _ => trivial)⟩, hN.warm hW, by rw [hU]; exact ZX.moved' hW.alike (ZX.narrow' (ZX.kept' hZ hS.2.1) hFc)⟩⟩ rfl rfl hl.1 rfl (lv_room (Nat.le_of_ble_eq_true rfl)) d_Printer_members_82 ⟨Nat.le_of_ble_eq_true rfl, Nat.le_of_ble_eq_true rfl⟩) hS (fun q _ h => hFc q h) hFc (fun q _ h => hFc q h) (fun En ce q9 ⟨kx, gx⟩ t9 H1 locs ht hvm hw hB hz1 hk1 hS hce hcv hcl => ?_) (fun ⟨k43, g43⟩ t9 H1 locs ht hvm hw hB hz1 hk1 hS => ?_)
                · obtain ⟨hEn, hP1, hK1, hD1⟩ := hB
                  rw [ht] at hP1
                  obtain ⟨hP, hD⟩ := va_joinQ (wr := []) (w1 := [(p1, .inr (3, [.ref pb, .int (nI kx), .ref ps])), (pb, .inl (cB, 16384, .inl gx))]) hP hD [0, 1] [] rfl rfl (by decide) (by decide) hk1 hFc hP1 hD1
                  generalize H1 = H at hP hS hce ⊢
                  have hP : va_P (dC, dI) classes ([(p1, .inr (3, [.ref pb, .int (nI kx), .ref ps])), (pb, .inl (cB, 16384, .inl gx))] ++ va_pl L f) H := hP
                  have hD : va_D A ([(p1, .inr (3, [.ref pb, .int (nI kx), .ref ps])), (pb, .inl (cB, 16384, .inl gx))] ++ va_pl L f) := hD
                  exact vx_out (fun x hx => (hex x hx).elim) hlocks hce hcv hcl (fun t9 ht2 ha => ⟨(nI kx, gx), (WNO.go (T := [58]) (R := prU c9.2 ++ (kR true (ksU nn.2) (i + 1) ++ [125])) hR42 hw), ⟨hEn, by rw [ht2]; exact hP, va_K.moved ha hK, hD⟩, hS.F ht2⟩) hS.2.2 (Nat.le_of_ble_eq_true rfl) (Nat.le_of_ble_eq_true rfl)
                · obtain ⟨⟨hP1, hK1, hD1⟩, hz9⟩ := hB
                  rw [ht] at hP1
                  rw [ht] at hz9
                  refine w_tight (hq0.trans hz9) ?_
                  have hq0 := hq0.trans hz9
                  obtain ⟨hP, hD⟩ := va_joinQ (wr := []) (w1 := [(p1, .inr (3, [.ref pb, .int (nI k43), .ref ps])), (pb, .inl (cB, 16384, .inl g43))]) hP hD [0, 1] [] rfl rfl (by decide) (by decide) hk1 hFc hP1 hD1
                  generalize H1 = H at hP hS hq0 ⊢
                  have hP : va_P (dC, dI) classes ([(p1, .inr (3, [.ref pb, .int (nI k43), .ref ps])), (pb, .inl (cB, 16384, .inl g43))] ++ va_pl L f) H := hP
                  have hD : va_D A ([(p1, .inr (3, [.ref pb, .int (nI k43), .ref ps])), (pb, .inl (cB, 16384, .inl g43))] ++ va_pl L f) := hD
                  have hw : WOK k42 g42 [58] k43 g43 := hw
                  have hk43 := WOK.le hw hk42
                  have hR43 := WOK.go (T := [58]) (R := prU c9.2 ++ (kR true (ksU nn.2) (i + 1) ++ [125])) hR42 hw
                  refine lv_aload_n hx hb d_Printer_members_85 rfl (lv_at hl 0 rfl) ?_
                  refine lv_aload_n hx hb d_Printer_members_86 rfl (lv_at hl 1 rfl) ?_
                  refine vq_get (D := (dC, dI)) (ci := 9) (v := .ref b37) (C := R_Value) (T := F_Value) (N := 10) hx hb hts in_Value hown hK hP (hO.inV (isF.v hv9)) ef21 rfl 3 (by decide) (hts _ z_326) (fun _ h9 => h9) rfl d_Printer_members_87 ?_
                  refine lv_iload hx hb d_Printer_members_90 (lv_at hl 4 rfl) ?_
                  obtain ⟨me44, hm44, hf44, hnm44⟩ := hg38 i hi
                  refine vq_aald hx hb hK hP 2 hi38 ef38 rfl (j := i) hi hn38 hm44 d_Printer_members_92 ?_
                  refine lv_iload_n hx hb d_Printer_members_93 rfl (lv_at hl 2 rfl) ?_
                  refine lv_iconst (v := 1) hx hb d_Printer_members_94 (by decide) ?_
                  refine lv_iadd hx hb d_Printer_members_95 ?_
                  refine W.eq (g2 := F0 m 96 ls [.int (nI (d + 1)), .ref me44, .ref p1]) (by rw [show ((nI d) + 1) = (nI (d + 1)) from nI_1 _]) ?_
                  have hPc := hP.part (cx := [(p1, .inr (3, [.ref pb, .int (nI k43), .ref ps])), (pb, .inl (cB, 16384, .inl g43))]) [0, 1] rfl
                  have hDc := hD.part (cx := [(p1, .inr (3, [.ref pb, .int (nI k43), .ref ps])), (pb, .inl (cB, 16384, .inl g43))]) [0, 1] (by decide) rfl
                  have hFc := va_freeP (cx := [(p1, .inr (3, [.ref pb, .int (nI k43), .ref ps])), (pb, .inl (cB, 16384, .inl g43))]) hD hS hA [0, 1] rfl
                  have hKc := hK.sub (tys' := [(cB, .byte), (cI, .int), (cV, .object "QueryBench$Value")]) [0, 1, 2] rfl
                  refine w_same (fun hq0 => ?_)
                  refine vx_callv (vx_runV (As := [.ref me44, .int (nI (d + 1))]) (rest := []) ⟨hx, hb, hml, hown, hts⟩ (HV hd1 H g43 k43 hk43 me44 (nn.1 ++ [i], c9.2) (NCr.kid hDq9 hn9 (kdsN_get hc9) ((memF_a ef21 ef38).trans hm44)) (by have h9 := ks_lv hc9; show c9.2.1 ≤ n - 1; omega)) (cwV 2 hts (gt_V (own := R_Printer) (C := R_Printer) (i := 29) (y := y_Printer_value) i_Printer_value z_987 z_989 (gt_sel (y := y_Printer_value) (n := 3) (by decide +kernel)) w_6) rfl rfl rfl (by decide +kernel) ⟨by show 14 + 2 * (n - 1) + 1 ≤ 13 + 2 * n; omega, by show 8 + (3 + 11) + (300 + 60 * (n - 1)) ≤ 270 + 60 * n; omega⟩) ⟨ml_blind, va_recv hK hP (ci := 3) (q0 := 0) rfl rfl, fun U hU hW => ⟨rfl, ⟨hU, by rw [hU]; exact hPc, va_K.moved hW.alike hKc, hDc.weaken (fun _ _ _ _ => trivial)⟩, hN.warm hW, by rw [hU]; exact ZX.moved' hW.alike (ZX.narrow' (ZX.kept' hZ hS.2.1) hFc), by rw [hU]; exact CE.call hC hS.2.1 hFc hW, va_AO.moved hW.alike hV⟩⟩ rfl rfl hl.1 rfl (lv_room (Nat.le_of_ble_eq_true rfl)) d_Printer_members_96 ⟨Nat.le_of_ble_eq_true rfl, Nat.le_of_ble_eq_true rfl⟩) hS (fun q _ h => hFc q h) hFc (fun q _ h => hFc q h) (fun En ce q9 ⟨kx, gx⟩ t9 H1 locs ht hvm hw hB hz1 hk1 hS hce hcv hcl => ?_) (fun ⟨k45, g45⟩ t9 H1 locs ht hvm hw hB hz1 hk1 hS => ?_)
                  · obtain ⟨hEn, hP1, hK1, hD1⟩ := hB
                    rw [ht] at hP1
                    obtain ⟨hP, hD⟩ := va_joinP (wr := []) (rx := [(p1, .inr (3, [.ref pb, .int kx, .ref ps])), (pb, .inl (cB, 16384, .inl gx))]) (pl1 := va_pl L f) hP hD [0, 1] [] rfl rfl (by decide) (by decide) hk1 hFc hP1 hD1
                    generalize H1 = H at hP hS hce ⊢
                    have hP : va_P (dC, dI) classes ([(p1, .inr (3, [.ref pb, .int kx, .ref ps])), (pb, .inl (cB, 16384, .inl gx))] ++ va_pl L f) H := hP
                    have hD : va_D A ([(p1, .inr (3, [.ref pb, .int kx, .ref ps])), (pb, .inl (cB, 16384, .inl gx))] ++ va_pl L f) := hD
                    exact vx_out (fun x hx => (hex x hx).elim) hlocks hce hcv hcl (fun t9 ht2 ha => ⟨(kx, gx), (WNO.go (T := (prU c9.2)) (R := kR true (ksU nn.2) (i + 1) ++ [125]) hR43 hw), ⟨hEn, by rw [ht2]; exact hP, va_K.moved ha hK, hD⟩, hS.F ht2⟩) hS.2.2 (Nat.le_of_ble_eq_true rfl) (Nat.le_of_ble_eq_true rfl)
                  · obtain ⟨⟨hP1, hK1, hD1⟩, hz9⟩ := hB
                    rw [ht] at hP1
                    rw [ht] at hz9
                    refine w_tight (hq0.trans hz9) ?_
                    have hq0 := hq0.trans hz9
                    obtain ⟨hP, hD⟩ := va_joinP (wr := []) (rx := [(p1, .inr (3, [.ref pb, .int (nI k45), .ref ps])), (pb, .inl (cB, 16384, .inl g45))]) (pl1 := va_pl L f) hP hD [0, 1] [] rfl rfl (by decide) (by decide) hk1 hFc hP1 hD1
                    generalize H1 = H at hP hS hq0 ⊢
                    have hP : va_P (dC, dI) classes ([(p1, .inr (3, [.ref pb, .int (nI k45), .ref ps])), (pb, .inl (cB, 16384, .inl g45))] ++ va_pl L f) H := hP
                    have hD : va_D A ([(p1, .inr (3, [.ref pb, .int (nI k45), .ref ps])), (pb, .inl (cB, 16384, .inl g45))] ++ va_pl L f) := hD
                    have hw : WOK k43 g43 ((prU c9.2)) k45 g45 := hw
                    have hk45 := WOK.le hw hk43
                    have hR45 := WOK.go (T := (prU c9.2)) (R := kR true (ksU nn.2) (i + 1) ++ [125]) hR43 hw
                    refine lv_iinc (v := nI (i + 1)) (lv' := [(4, .int (nI (i + 1))), (0, .ref p1), (1, .ref v9), (2, .int (nI d)), (3, .int 1)]) hx hb d_Printer_members_99 hl (k := 4) rfl (nI_1 _) (by decide) rfl (fun ls hl => ?_)
                    refine lv_goto (tgt := 33) hx hb d_Printer_members_102 (by decide) ?_
                    exact ih (i + 1, k45, g45) _ _ _ ⟨show i + 1 ≤ 4096 by omega, hk45, hR45⟩ (by show 4096 - (i + 1) < 4096 - i; omega) hP hD hS (lv_sub hl [1, 2, 3, 4, 0] rfl)
        · have h0 : ¬ i = 0 := fun h => c50 (by rw [h]; decide)
          have hRa : penL (k, 0, g) (prU nn.2) = penL (k1, 0, g1) ([44] ++ (unL 34 c9.1 ++ ([58] ++ (prU c9.2 ++ (kR true (ksU nn.2) (i + 1) ++ [125]))))) := by
            rw [hR1, kR_s hc9, if_neg h0, if_pos (show true = true from rfl)]
            simp only [List.nil_append, List.append_assoc]
          refine lv_aload_n hx hb d_Printer_members_53 rfl (lv_at hl 0 rfl) ?_
          refine lv_bipush (v := 44) hx hb d_Printer_members_54 (by decide) ?_
          have hPc := hP.sub (ws' := [(p1, .inr (3, [.ref pb, .int (nI k1), .ref ps])), (pb, .inl (cB, 16384, .inl g1))]) [0, 1] rfl
          have hDc := hD.sub (ws' := [(p1, .inr (3, [.ref pb, .int (nI k1), .ref ps])), (pb, .inl (cB, 16384, .inl g1))]) [0, 1] (by decide) rfl
          have hFc := va_free (wc := [(p1, .inr (3, [.ref pb, .int (nI k1), .ref ps])), (pb, .inl (cB, 16384, .inl g1))]) hD hS hA [0, 1] rfl
          have hKc := hK.sub (tys' := [(cB, .byte)]) [0] rfl
          refine w_same (fun hq0 => ?_)
          refine vx_callv (vx_runV (As := [.int 44]) (rest := []) ⟨hx, hb, hml, hown, hts⟩ (t_put l hl9 dC dI cB p1 pb H (.ref ps) g1 k1 44 hkA) (cwV 1 hts (gt_V (own := R_Printer) (C := R_Printer) (i := 25) (y := y_Printer_put) i_Printer_put w_957 w_959 (gt_sel (y := y_Printer_put) (n := 3) (by decide +kernel)) w_6) rfl rfl rfl (by decide +kernel) ⟨by show 8 + 1 ≤ 13 + 2 * n; omega, by show 8 + (2 + 11) + (110) ≤ 270 + 60 * n; omega⟩) ⟨mx_blind, va_recv hK hP (ci := 3) (q0 := 0) rfl rfl, fun U hU hW => ⟨rfl, ⟨hU, by rw [hU]; exact hPc, va_K.moved hW.alike hKc, hDc.weaken (fun _ _ _ _ => trivial)⟩, hN.warm hW, by rw [hU]; exact ZX.moved' hW.alike (ZX.narrow' (ZX.kept' hZ hS.2.1) hFc)⟩⟩ rfl rfl hl.1 rfl (lv_room (Nat.le_of_ble_eq_true rfl)) d_Printer_members_56 ⟨Nat.le_of_ble_eq_true rfl, Nat.le_of_ble_eq_true rfl⟩) hS (fun q _ h => hFc q h) hFc (fun q _ h => hFc q h) (fun En ce q9 ⟨kx, gx⟩ t9 H1 locs ht hvm hw hB hz1 hk1 hS hce hcv hcl => ?_) (fun ⟨k46, g46⟩ t9 H1 locs ht hvm hw hB hz1 hk1 hS => ?_)
          · obtain ⟨hEn, hP1, hK1, hD1⟩ := hB
            rw [ht] at hP1
            obtain ⟨hP, hD⟩ := va_joinQ (wr := []) (w1 := [(p1, .inr (3, [.ref pb, .int (nI kx), .ref ps])), (pb, .inl (cB, 16384, .inl gx))]) hP hD [0, 1] [] rfl rfl (by decide) (by decide) hk1 hFc hP1 hD1
            generalize H1 = H at hP hS hce ⊢
            have hP : va_P (dC, dI) classes ([(p1, .inr (3, [.ref pb, .int (nI kx), .ref ps])), (pb, .inl (cB, 16384, .inl gx))] ++ va_pl L f) H := hP
            have hD : va_D A ([(p1, .inr (3, [.ref pb, .int (nI kx), .ref ps])), (pb, .inl (cB, 16384, .inl gx))] ++ va_pl L f) := hD
            exact vx_out (fun x hx => (hex x hx).elim) hlocks hce hcv hcl (fun t9 ht2 ha => ⟨(nI kx, gx), (WNO.go (T := [44]) (R := (unL 34 c9.1 ++ ([58] ++ (prU c9.2 ++ (kR true (ksU nn.2) (i + 1) ++ [125]))))) hRa hw), ⟨hEn, by rw [ht2]; exact hP, va_K.moved ha hK, hD⟩, hS.F ht2⟩) hS.2.2 (Nat.le_of_ble_eq_true rfl) (Nat.le_of_ble_eq_true rfl)
          · obtain ⟨⟨hP1, hK1, hD1⟩, hz9⟩ := hB
            rw [ht] at hP1
            rw [ht] at hz9
            refine w_tight (hq0.trans hz9) ?_
            have hq0 := hq0.trans hz9
            obtain ⟨hP, hD⟩ := va_joinQ (wr := []) (w1 := [(p1, .inr (3, [.ref pb, .int (nI k46), .ref ps])), (pb, .inl (cB, 16384, .inl g46))]) hP hD [0, 1] [] rfl rfl (by decide) (by decide) hk1 hFc hP1 hD1
            generalize H1 = H at hP hS hq0 ⊢
            have hP : va_P (dC, dI) classes ([(p1, .inr (3, [.ref pb, .int (nI k46), .ref ps])), (pb, .inl (cB, 16384, .inl g46))] ++ va_pl L f) H := hP
            have hD : va_D A ([(p1, .inr (3, [.ref pb, .int (nI k46), .ref ps])), (pb, .inl (cB, 16384, .inl g46))] ++ va_pl L f) := hD
            have hw : WOK k1 g1 [44] k46 g46 := hw
            have hk46 := WOK.le hw hkA
            have hR46 := WOK.go (T := [44]) (R := (unL 34 c9.1 ++ ([58] ++ (prU c9.2 ++ (kR true (ksU nn.2) (i + 1) ++ [125]))))) hRa hw
            refine lv_iload_n hx hb d_Printer_members_59 rfl (lv_at hl 3 rfl) ?_
            refine lv_if_eq (tgt := 85) hx hb d_Printer_members_60 (by decide) (fun h => absurd h (by decide)) (fun _ => ?_)
            refine lv_aload_n hx hb d_Printer_members_63 rfl (lv_at hl 0 rfl) ?_
            refine lv_aload_n hx hb d_Printer_members_64 rfl (lv_at hl 1 rfl) ?_
            rcases me21 with _ | b47
            · exact absurd (PO.mem0 ef21) (by omega)
            · refine vq_get (D := (dC, dI)) (ci := 9) (v := .ref b47) (C := R_Value) (T := F_Value) (N := 10) hx hb hts in_Value hown hK hP (hO.inV (isF.v hv9)) ef21 rfl 3 (by decide) (hts _ z_326) (fun _ h9 => h9) rfl d_Printer_members_65 ?_
              refine lv_iload hx hb d_Printer_members_68 (lv_at hl 4 rfl) ?_
              obtain ⟨g48, hi48, ef48, hg48⟩ := hO.mem1 ef21 hv21 (isF.n1 hv9)
              have hn48 := hO.szle ef21 hv21
              obtain ⟨me49, hm49, hf49, hnm49⟩ := hg48 i hi
              refine vq_aald hx hb hK hP 2 hi48 ef48 rfl (j := i) hi hn48 hm49 d_Printer_members_70 ?_
              obtain ⟨kd50, nu50, tx50, me50, pa50, na50, ix50, nm50, no50, sp50, ef50, hv50⟩ := hO.val ((isF.v hf49))
              rcases na50 with _ | b51
              · exact absurd rfl (hv50.2.2.2.2.2.2.2 (hnm49 c6)).1
              · refine vq_get (D := (dC, dI)) (ci := 9) (v := .ref b51) (C := R_Value) (T := F_Value) (N := 10) hx hb hts in_Value hown hK hP (hO.inV (isF.v hf49)) ef50 rfl 5 (by decide) (hts _ z_332) (fun _ h9 => h9) rfl d_Printer_members_71 ?_
                refine lv_bipush (v := 34) hx hb d_Printer_members_74 (by decide) ?_
                have hnb : txL f b51 = c9.1 := by
                  obtain ⟨b8, e1, e2, e3⟩ := hcu9.get.2.2.2 i c9 hc9
                  have e5 : b8 = me49 := Option.some.inj (e1.symm.trans ((memF_a ef21 ef48).trans hm49))
                  have e4 := e3 h69
                  rw [e5, nmL_v ef50] at e4
                  exact Option.some.inj e4
                have hRn : penL (k, 0, g) (prU nn.2) = penL (k46, 0, g46) (unL 34 (txL f b51) ++ ([58] ++ (prU c9.2 ++ (kR true (ksU nn.2) (i + 1) ++ [125])))) := by rw [hnb]; exact hR46
                have hPc := hP.part (cx := [(p1, .inr (3, [.ref pb, .int (nI k46), .ref ps])), (pb, .inl (cB, 16384, .inl g46))]) [0, 1] rfl
                have hDc := hD.part (cx := [(p1, .inr (3, [.ref pb, .int (nI k46), .ref ps])), (pb, .inl (cB, 16384, .inl g46))]) [0, 1] (by decide) rfl
                have hFc := va_freeP (cx := [(p1, .inr (3, [.ref pb, .int (nI k46), .ref ps])), (pb, .inl (cB, 16384, .inl g46))]) hD hS hA [0, 1] rfl
                have hKc := hK.sub (tys' := [(cB, .byte), (cI, .int), (cV, .object "QueryBench$Value")]) [0, 1, 2] rfl
                refine w_same (fun hq0 => ?_)
                refine vx_callv (vx_runV (As := [.ref b51, .int 34]) (rest := []) ⟨hx, hb, hml, hown, hts⟩ (p_Printer_text l hl9 K dC dI H cI cV E lv L f hO cB p1 pb ps g46 k46 hk46 b51 (hv50.2.2.2.1 b51 rfl) 34 (Or.inl rfl)) (cwV 2 hts (gt_V (own := R_Printer) (C := R_Printer) (i := 64) (y := y_Printer_text) i_Printer_text z_968 z_970 (gt_sel (y := y_Printer_text) (n := 3) (by decide +kernel)) w_6) rfl rfl rfl (by decide +kernel) ⟨by show 11 + 1 ≤ 13 + 2 * n; omega, by show 8 + (4 + 11) + (230) ≤ 270 + 60 * n; omega⟩) ⟨ml_blind, va_recv hK hP (ci := 3) (q0 := 0) rfl rfl, fun U hU hW => ⟨rfl, ⟨hU, by rw [hU]; exact hPc, va_K.moved hW.alike hKc, hDc.weaken (fun _ _ _ _ => trivial)⟩, hN.warm hW, by rw [hU]; exact ZX.moved' hW.alike (ZX.narrow' (ZX.kept' hZ hS.2.1) hFc), by rw [hU]; exact CE.call hC hS.2.1 hFc hW, va_AO.moved hW.alike hV⟩⟩ rfl rfl hl.1 rfl (lv_room (Nat.le_of_ble_eq_true rfl)) d_Printer_members_76 ⟨Nat.le_of_ble_eq_true rfl, Nat.le_of_ble_eq_true rfl⟩) hS (fun q _ h => hFc q h) hFc (fun q _ h => hFc q h) (fun En ce q9 ⟨kx, gx⟩ t9 H1 locs ht hvm hw hB hz1 hk1 hS hce hcv hcl => ?_) (fun ⟨k52, g52⟩ t9 H1 locs ht hvm hw hB hz1 hk1 hS => ?_)
                · obtain ⟨hEn, hP1, hK1, hD1⟩ := hB
                  rw [ht] at hP1
                  obtain ⟨hP, hD⟩ := va_joinP (wr := []) (rx := [(p1, .inr (3, [.ref pb, .int kx, .ref ps])), (pb, .inl (cB, 16384, .inl gx))]) (pl1 := va_pl L f) hP hD [0, 1] [] rfl rfl (by decide) (by decide) hk1 hFc hP1 hD1
                  generalize H1 = H at hP hS hce ⊢
                  have hP : va_P (dC, dI) classes ([(p1, .inr (3, [.ref pb, .int kx, .ref ps])), (pb, .inl (cB, 16384, .inl gx))] ++ va_pl L f) H := hP
                  have hD : va_D A ([(p1, .inr (3, [.ref pb, .int kx, .ref ps])), (pb, .inl (cB, 16384, .inl gx))] ++ va_pl L f) := hD
                  exact vx_out (fun x hx => (hex x hx).elim) hlocks hce hcv hcl (fun t9 ht2 ha => ⟨(kx, gx), (WNO.go (T := (unL 34 (txL f b51))) (R := [58] ++ (prU c9.2 ++ (kR true (ksU nn.2) (i + 1) ++ [125]))) hRn hw), ⟨hEn, by rw [ht2]; exact hP, va_K.moved ha hK, hD⟩, hS.F ht2⟩) hS.2.2 (Nat.le_of_ble_eq_true rfl) (Nat.le_of_ble_eq_true rfl)
                · obtain ⟨⟨hP1, hK1, hD1⟩, hz9⟩ := hB
                  rw [ht] at hP1
                  rw [ht] at hz9
                  refine w_tight (hq0.trans hz9) ?_
                  have hq0 := hq0.trans hz9
                  obtain ⟨hP, hD⟩ := va_joinP (wr := []) (rx := [(p1, .inr (3, [.ref pb, .int (nI k52), .ref ps])), (pb, .inl (cB, 16384, .inl g52))]) (pl1 := va_pl L f) hP hD [0, 1] [] rfl rfl (by decide) (by decide) hk1 hFc hP1 hD1
                  generalize H1 = H at hP hS hq0 ⊢
                  have hP : va_P (dC, dI) classes ([(p1, .inr (3, [.ref pb, .int (nI k52), .ref ps])), (pb, .inl (cB, 16384, .inl g52))] ++ va_pl L f) H := hP
                  have hD : va_D A ([(p1, .inr (3, [.ref pb, .int (nI k52), .ref ps])), (pb, .inl (cB, 16384, .inl g52))] ++ va_pl L f) := hD
                  have hw : WOK k46 g46 ((unL 34 (txL f b51))) k52 g52 := hw
                  have hk52 := WOK.le hw hk46
                  have hR52 := WOK.go (T := (unL 34 (txL f b51))) (R := [58] ++ (prU c9.2 ++ (kR true (ksU nn.2) (i + 1) ++ [125]))) hRn hw
                  refine lv_aload_n hx hb d_Printer_members_79 rfl (lv_at hl 0 rfl) ?_
                  refine lv_bipush (v := 58) hx hb d_Printer_members_80 (by decide) ?_
                  have hPc := hP.sub (ws' := [(p1, .inr (3, [.ref pb, .int (nI k52), .ref ps])), (pb, .inl (cB, 16384, .inl g52))]) [0, 1] rfl
                  have hDc := hD.sub (ws' := [(p1, .inr (3, [.ref pb, .int (nI k52), .ref ps])), (pb, .inl (cB, 16384, .inl g52))]) [0, 1] (by decide) rfl
                  have hFc := va_free (wc := [(p1, .inr (3, [.ref pb, .int (nI k52), .ref ps])), (pb, .inl (cB, 16384, .inl g52))]) hD hS hA [0, 1] rfl
                  have hKc := hK.sub (tys' := [(cB, .byte)]) [0] rfl
                  refine w_same (fun hq0 => ?_)
                  refine vx_callv (vx_runV (As := [.int 58]) (rest := []) ⟨hx, hb, hml, hown, hts⟩ (t_put l hl9 dC dI cB p1 pb H (.ref ps) g52 k52 58 hk52) (cwV 1 hts (gt_V (own := R_Printer) (C := R_Printer) (i := 25) (y := y_Printer_put) i_Printer_put w_957 w_959 (gt_sel (y := y_Printer_put) (n := 3) (by decide +kernel)) w_6) rfl rfl rfl (by decide +kernel) ⟨by show 8 + 1 ≤ 13 + 2 * n; omega, by show 8 + (2 + 11) + (110) ≤ 270 + 60 * n; omega⟩) ⟨mx_blind, va_recv hK hP (ci := 3) (q0 := 0) rfl rfl, fun U hU hW => ⟨rfl, ⟨hU, by rw [hU]; exact hPc, va_K.moved hW.alike hKc, hDc.weaken (fun _ _ _ _ => trivial)⟩, hN.warm hW, by rw [hU]; exact ZX.moved' hW.alike (ZX.narrow' (ZX.kept' hZ hS.2.1) hFc)⟩⟩ rfl rfl hl.1 rfl (lv_room (Nat.le_of_ble_eq_true rfl)) d_Printer_members_82 ⟨Nat.le_of_ble_eq_true rfl, Nat.le_of_ble_eq_true rfl⟩) hS (fun q _ h => hFc q h) hFc (fun q _ h => hFc q h) (fun En ce q9 ⟨kx, gx⟩ t9 H1 locs ht hvm hw hB hz1 hk1 hS hce hcv hcl => ?_) (fun ⟨k53, g53⟩ t9 H1 locs ht hvm hw hB hz1 hk1 hS => ?_)
                  · obtain ⟨hEn, hP1, hK1, hD1⟩ := hB
                    rw [ht] at hP1
                    obtain ⟨hP, hD⟩ := va_joinQ (wr := []) (w1 := [(p1, .inr (3, [.ref pb, .int (nI kx), .ref ps])), (pb, .inl (cB, 16384, .inl gx))]) hP hD [0, 1] [] rfl rfl (by decide) (by decide) hk1 hFc hP1 hD1
                    generalize H1 = H at hP hS hce ⊢
                    have hP : va_P (dC, dI) classes ([(p1, .inr (3, [.ref pb, .int (nI kx), .ref ps])), (pb, .inl (cB, 16384, .inl gx))] ++ va_pl L f) H := hP
                    have hD : va_D A ([(p1, .inr (3, [.ref pb, .int (nI kx), .ref ps])), (pb, .inl (cB, 16384, .inl gx))] ++ va_pl L f) := hD
                    exact vx_out (fun x hx => (hex x hx).elim) hlocks hce hcv hcl (fun t9 ht2 ha => ⟨(nI kx, gx), (WNO.go (T := [58]) (R := prU c9.2 ++ (kR true (ksU nn.2) (i + 1) ++ [125])) hR52 hw), ⟨hEn, by rw [ht2]; exact hP, va_K.moved ha hK, hD⟩, hS.F ht2⟩) hS.2.2 (Nat.le_of_ble_eq_true rfl) (Nat.le_of_ble_eq_true rfl)
                  · obtain ⟨⟨hP1, hK1, hD1⟩, hz9⟩ := hB
                    rw [ht] at hP1
                    rw [ht] at hz9
                    refine w_tight (hq0.trans hz9) ?_
                    have hq0 := hq0.trans hz9
                    obtain ⟨hP, hD⟩ := va_joinQ (wr := []) (w1 := [(p1, .inr (3, [.ref pb, .int (nI k53), .ref ps])), (pb, .inl (cB, 16384, .inl g53))]) hP hD [0, 1] [] rfl rfl (by decide) (by decide) hk1 hFc hP1 hD1
                    generalize H1 = H at hP hS hq0 ⊢
                    have hP : va_P (dC, dI) classes ([(p1, .inr (3, [.ref pb, .int (nI k53), .ref ps])), (pb, .inl (cB, 16384, .inl g53))] ++ va_pl L f) H := hP
                    have hD : va_D A ([(p1, .inr (3, [.ref pb, .int (nI k53), .ref ps])), (pb, .inl (cB, 16384, .inl g53))] ++ va_pl L f) := hD
                    have hw : WOK k52 g52 [58] k53 g53 := hw
                    have hk53 := WOK.le hw hk52
                    have hR53 := WOK.go (T := [58]) (R := prU c9.2 ++ (kR true (ksU nn.2) (i + 1) ++ [125])) hR52 hw
                    refine lv_aload_n hx hb d_Printer_members_85 rfl (lv_at hl 0 rfl) ?_
                    refine lv_aload_n hx hb d_Printer_members_86 rfl (lv_at hl 1 rfl) ?_
                    refine vq_get (D := (dC, dI)) (ci := 9) (v := .ref b47) (C := R_Value) (T := F_Value) (N := 10) hx hb hts in_Value hown hK hP (hO.inV (isF.v hv9)) ef21 rfl 3 (by decide) (hts _ z_326) (fun _ h9 => h9) rfl d_Printer_members_87 ?_
                    refine lv_iload hx hb d_Printer_members_90 (lv_at hl 4 rfl) ?_
                    obtain ⟨me54, hm54, hf54, hnm54⟩ := hg48 i hi
                    refine vq_aald hx hb hK hP 2 hi48 ef48 rfl (j := i) hi hn48 hm54 d_Printer_members_92 ?_
                    refine lv_iload_n hx hb d_Printer_members_93 rfl (lv_at hl 2 rfl) ?_
                    refine lv_iconst (v := 1) hx hb d_Printer_members_94 (by decide) ?_
                    refine lv_iadd hx hb d_Printer_members_95 ?_
                    refine W.eq (g2 := F0 m 96 ls [.int (nI (d + 1)), .ref me54, .ref p1]) (by rw [show ((nI d) + 1) = (nI (d + 1)) from nI_1 _]) ?_
                    have hPc := hP.part (cx := [(p1, .inr (3, [.ref pb, .int (nI k53), .ref ps])), (pb, .inl (cB, 16384, .inl g53))]) [0, 1] rfl
                    have hDc := hD.part (cx := [(p1, .inr (3, [.ref pb, .int (nI k53), .ref ps])), (pb, .inl (cB, 16384, .inl g53))]) [0, 1] (by decide) rfl
                    have hFc := va_freeP (cx := [(p1, .inr (3, [.ref pb, .int (nI k53), .ref ps])), (pb, .inl (cB, 16384, .inl g53))]) hD hS hA [0, 1] rfl
                    have hKc := hK.sub (tys' := [(cB, .byte), (cI, .int), (cV, .object "QueryBench$Value")]) [0, 1, 2] rfl
                    refine w_same (fun hq0 => ?_)
                    refine vx_callv (vx_runV (As := [.ref me54, .int (nI (d + 1))]) (rest := []) ⟨hx, hb, hml, hown, hts⟩ (HV hd1 H g53 k53 hk53 me54 (nn.1 ++ [i], c9.2) (NCr.kid hDq9 hn9 (kdsN_get hc9) ((memF_a ef21 ef48).trans hm54)) (by have h9 := ks_lv hc9; show c9.2.1 ≤ n - 1; omega)) (cwV 2 hts (gt_V (own := R_Printer) (C := R_Printer) (i := 29) (y := y_Printer_value) i_Printer_value z_987 z_989 (gt_sel (y := y_Printer_value) (n := 3) (by decide +kernel)) w_6) rfl rfl rfl (by decide +kernel) ⟨by show 14 + 2 * (n - 1) + 1 ≤ 13 + 2 * n; omega, by show 8 + (3 + 11) + (300 + 60 * (n - 1)) ≤ 270 + 60 * n; omega⟩) ⟨ml_blind, va_recv hK hP (ci := 3) (q0 := 0) rfl rfl, fun U hU hW => ⟨rfl, ⟨hU, by rw [hU]; exact hPc, va_K.moved hW.alike hKc, hDc.weaken (fun _ _ _ _ => trivial)⟩, hN.warm hW, by rw [hU]; exact ZX.moved' hW.alike (ZX.narrow' (ZX.kept' hZ hS.2.1) hFc), by rw [hU]; exact CE.call hC hS.2.1 hFc hW, va_AO.moved hW.alike hV⟩⟩ rfl rfl hl.1 rfl (lv_room (Nat.le_of_ble_eq_true rfl)) d_Printer_members_96 ⟨Nat.le_of_ble_eq_true rfl, Nat.le_of_ble_eq_true rfl⟩) hS (fun q _ h => hFc q h) hFc (fun q _ h => hFc q h) (fun En ce q9 ⟨kx, gx⟩ t9 H1 locs ht hvm hw hB hz1 hk1 hS hce hcv hcl => ?_) (fun ⟨k55, g55⟩ t9 H1 locs ht hvm hw hB hz1 hk1 hS => ?_)
                    · obtain ⟨hEn, hP1, hK1, hD1⟩ := hB
                      rw [ht] at hP1
                      obtain ⟨hP, hD⟩ := va_joinP (wr := []) (rx := [(p1, .inr (3, [.ref pb, .int kx, .ref ps])), (pb, .inl (cB, 16384, .inl gx))]) (pl1 := va_pl L f) hP hD [0, 1] [] rfl rfl (by decide) (by decide) hk1 hFc hP1 hD1
                      generalize H1 = H at hP hS hce ⊢
                      have hP : va_P (dC, dI) classes ([(p1, .inr (3, [.ref pb, .int kx, .ref ps])), (pb, .inl (cB, 16384, .inl gx))] ++ va_pl L f) H := hP
                      have hD : va_D A ([(p1, .inr (3, [.ref pb, .int kx, .ref ps])), (pb, .inl (cB, 16384, .inl gx))] ++ va_pl L f) := hD
                      exact vx_out (fun x hx => (hex x hx).elim) hlocks hce hcv hcl (fun t9 ht2 ha => ⟨(kx, gx), (WNO.go (T := (prU c9.2)) (R := kR true (ksU nn.2) (i + 1) ++ [125]) hR53 hw), ⟨hEn, by rw [ht2]; exact hP, va_K.moved ha hK, hD⟩, hS.F ht2⟩) hS.2.2 (Nat.le_of_ble_eq_true rfl) (Nat.le_of_ble_eq_true rfl)
                    · obtain ⟨⟨hP1, hK1, hD1⟩, hz9⟩ := hB
                      rw [ht] at hP1
                      rw [ht] at hz9
                      refine w_tight (hq0.trans hz9) ?_
                      have hq0 := hq0.trans hz9
                      obtain ⟨hP, hD⟩ := va_joinP (wr := []) (rx := [(p1, .inr (3, [.ref pb, .int (nI k55), .ref ps])), (pb, .inl (cB, 16384, .inl g55))]) (pl1 := va_pl L f) hP hD [0, 1] [] rfl rfl (by decide) (by decide) hk1 hFc hP1 hD1
                      generalize H1 = H at hP hS hq0 ⊢
                      have hP : va_P (dC, dI) classes ([(p1, .inr (3, [.ref pb, .int (nI k55), .ref ps])), (pb, .inl (cB, 16384, .inl g55))] ++ va_pl L f) H := hP
                      have hD : va_D A ([(p1, .inr (3, [.ref pb, .int (nI k55), .ref ps])), (pb, .inl (cB, 16384, .inl g55))] ++ va_pl L f) := hD
                      have hw : WOK k53 g53 ((prU c9.2)) k55 g55 := hw
                      have hk55 := WOK.le hw hk53
                      have hR55 := WOK.go (T := (prU c9.2)) (R := kR true (ksU nn.2) (i + 1) ++ [125]) hR53 hw
                      refine lv_iinc (v := nI (i + 1)) (lv' := [(4, .int (nI (i + 1))), (0, .ref p1), (1, .ref v9), (2, .int (nI d)), (3, .int 1)]) hx hb d_Printer_members_99 hl (k := 4) rfl (nI_1 _) (by decide) rfl (fun ls hl => ?_)
                      refine lv_goto (tgt := 33) hx hb d_Printer_members_102 (by decide) ?_
                      exact ih (i + 1, k55, g55) _ _ _ ⟨show i + 1 ≤ 4096 by omega, hk55, hR55⟩ (by show 4096 - (i + 1) < 4096 - i; omega) hP hD hS (lv_sub hl [1, 2, 3, 4, 0] rfl)
set_option maxHeartbeats 4000000 in
set_option maxRecDepth 100000 in
theorem t_PV (l : Launch) (hl9 : l.stackTraces = false) (K : Nat → Nat × Nat) (dC : Nat → ClassId) (dI : Nat → Nat → Nat) (cI cV : ClassId) (E lv : Nat → Nat) (L : List Nat) (f : Nat → va_E) (hO : PO cI cV E lv L f) (cB : ClassId) (p1 pb ps : Nat) (xv : JVt 32) (AL : List Nat) (hDq9 : DOC E f (preN (rtN xv)) AL) (hDu : DUP f (preN (rtN xv)) AL) (hsm : allL smF 32 xv) (n d : Nat) (HM : PMT l K dC dI cI cV E L f cB p1 pb ps xv AL n d) : PVT l K dC dI cI cV E L f cB p1 pb ps xv AL n d := by
  intro sz g k hk v9 nn hn9 hle
  have hsN : smF (lfU nn.2) := by obtain ⟨k9, h8, -⟩ := hn9; exact all_nd hsm (List.mem_of_getElem? h8)
  refine vx_ofW (cc := b_Printer_value) (maxL := 3) (ret := none) (by decide) rfl ?_
  intro p e s m args below meth c s₁ B hml hex hv
  obtain ⟨rfl, ⟨hsz, hP, hK, hD0⟩, hN, hZ, hC, hV⟩ := hv
  have hx := B.exec
  have hb := B.bytes
  have hr := B.returns
  have hts0 := atoms_spec (ws := k_Printer_value :: gtbl) B.pre
  have hts := fun w h => hts0 w (List.mem_cons_of_mem _ h)
  have hown : s.vm.findClass R_Printer = some m.cls := findClass_of_methodNamed B.named
  have hlocks := B.notSynchronized
  subst hsz
  have hD := hD0.self (sz := s.heap.size)
  generalize hAe : va_A ([(p1, .inr (3, [.ref pb, .int (nI k), .ref ps])), (pb, .inl (cB, 16384, .inl g))] ++ va_pl L f) s.heap.size = A at hD hZ hC ⊢
  have hA : ∀ q : Nat, s.heap.size ≤ q → A q := fun q h => by rw [← hAe]; exact Or.inr h
  have hS : va_S A s.heap s.heap [] := va_S.rf
  have hP : va_P (dC, dI) classes ([(p1, .inr (3, [.ref pb, .int (nI k), .ref ps])), (pb, .inl (cB, 16384, .inl g))] ++ va_pl L f) s.heap := hP
  have hl := lv_entry ([.ref p1, .ref v9, .int (nI d)]) (n := 3) (Nat.le_of_ble_eq_true rfl)
  rw [lg_entry_eq]
  generalize (lg_sl ([.ref p1, .ref v9, .int (nI d)]) ++ List.replicate (3 - (lg_sl ([.ref p1, .ref v9, .int (nI d)])).length) Slot.unset).toArray = ls at hl ⊢
  have hl : lv_has ls 3 [(0, .ref p1), (1, .ref v9), (2, .int (nI d))] := hl
  obtain ⟨hv9, hcu9⟩ := hDq9.cu hn9
  obtain ⟨kd21, nu21, tx21, me21, pa21, na21, ix21, nm21, no21, sp21, ef21, hv21⟩ := hO.val ((isF.v hv9))
  have hCl := hcu9.get.1.of ef21
  refine lv_aload_n hx hb d_Printer_value_0 rfl (lv_at hl 1 rfl) ?_
  refine vq_get (D := (dC, dI)) (ci := 9) (v := .int kd21) (C := R_Value) (T := F_Value) (N := 10) hx hb hts in_Value hown hK hP (hO.inV (isF.v hv9)) ef21 rfl 0 (by decide) (hts _ z_314) (fun _ h9 => h9) rfl d_Printer_value_1 ?_
  by_cases hs4_0 : kd21 = 0
  · refine lv_tableIn (tgt := 40) (off := 36) hx hb d_Printer_value_4 (by rw [hs4_0]; decide) (by rw [hs4_0]; decide) (by rw [hs4_0]; rfl) (by decide) ?_
    have hk9 : (lfU nn.2).1 = 0 := ck_0 hCl.2.1 (hCl.1.symm.trans hs4_0)
    have hR : penL (k, 0, g) (prU nn.2) = penL (k, 0, g) (ltB (ctx 0) 4 ++ []) := by rw [prU_0 hk9, List.append_nil]
    refine lv_aload_n hx hb d_Printer_value_40 rfl (lv_at hl 0 rfl) ?_
    refine va_ldcS hx hb hown (hC 0 _ rfl).2 d_Printer_value_41 ?_
    have hPc := hP.sub (ws' := [(p1, .inr (3, [.ref pb, .int (nI k), .ref ps])), (pb, .inl (cB, 16384, .inl g))]) [0, 1] rfl
    have hDc := hD.sub (ws' := [(p1, .inr (3, [.ref pb, .int (nI k), .ref ps])), (pb, .inl (cB, 16384, .inl g))]) [0, 1] (by decide) rfl
    have hFc := va_free (wc := [(p1, .inr (3, [.ref pb, .int (nI k), .ref ps])), (pb, .inl (cB, 16384, .inl g))]) hD hS hA [0, 1] rfl
    have hKc := hK.sub (tys' := [(cB, .byte)]) [0] rfl
    refine w_same (fun hq0 => ?_)
    refine vx_callv (vx_runV (As := [.ref (K 0).1]) (rest := []) ⟨hx, hb, hml, hown, hts⟩ (t_putLetters l hl9 dC dI cB p1 pb s.heap (.ref ps) g k (K 0).1 (K 0).2 4 (ctx 0) hk (by decide)) (cwV 1 hts (gt_V (own := R_Printer) (C := R_Printer) (i := 73) (y := y_Printer_putLetters) i_Printer_putLetters z_980 z_982 (gt_sel (y := y_Printer_putLetters) (n := 3) (by decide +kernel)) w_6) rfl rfl rfl (by decide +kernel) ⟨by show 9 + 1 ≤ 14 + 2 * n; omega, by show 8 + (3 + 11) + (131) ≤ 300 + 60 * n; omega⟩) ⟨mt_blind, va_recv hK hP (ci := 3) (q0 := 0) rfl rfl, fun U hU hW => ⟨rfl, ⟨hU, by rw [hU]; exact hPc, va_K.moved hW.alike hKc, hDc.weaken (fun _ _ _ _ => trivial)⟩, hN.warm hW, by rw [hU]; exact ZX.moved' hW.alike (ZX.narrow' (ZX.kept' hZ hS.2.1) hFc), by rw [hU]; exact SX.moved' hW.alike (SX.narrow' (SX.kept' (hC 0 _ rfl).1 hS.2.1) hFc)⟩⟩ rfl rfl hl.1 rfl (lv_room (Nat.le_of_ble_eq_true rfl)) d_Printer_value_43 ⟨Nat.le_of_ble_eq_true rfl, Nat.le_of_ble_eq_true rfl⟩) hS (fun q _ h => hFc q h) hFc (fun q _ h => hFc q h) (fun En ce q9 ⟨kx, gx⟩ t9 H1 locs ht hvm hw hB hz1 hk1 hS hce hcv hcl => ?_) (fun ⟨k22, g22⟩ t9 H1 locs ht hvm hw hB hz1 hk1 hS => ?_)
    · obtain ⟨hEn, hP1, hK1, hD1⟩ := hB
      rw [ht] at hP1
      obtain ⟨hP, hD⟩ := va_joinQ (wr := []) (w1 := [(p1, .inr (3, [.ref pb, .int (nI kx), .ref ps])), (pb, .inl (cB, 16384, .inl gx))]) hP hD [0, 1] [] rfl rfl (by decide) (by decide) hk1 hFc hP1 hD1
      generalize H1 = H at hP hS hce ⊢
      have hP : va_P (dC, dI) classes ([(p1, .inr (3, [.ref pb, .int (nI kx), .ref ps])), (pb, .inl (cB, 16384, .inl gx))] ++ va_pl L f) H := hP
      have hD : va_D A ([(p1, .inr (3, [.ref pb, .int (nI kx), .ref ps])), (pb, .inl (cB, 16384, .inl gx))] ++ va_pl L f) := hD
      exact vx_out (fun x hx => (hex x hx).elim) hlocks hce hcv hcl (fun t9 ht2 ha => ⟨(nI kx, gx), (WNO.go (T := (ltB (ctx 0) 4)) (R := []) hR hw), ⟨hEn, by rw [ht2]; exact hP, va_K.moved ha hK, hD⟩, hS.F ht2⟩) hS.2.2 (Nat.le_of_ble_eq_true rfl) (Nat.le_of_ble_eq_true rfl)
    · obtain ⟨⟨hP1, hK1, hD1⟩, hz9⟩ := hB
      rw [ht] at hP1
      rw [ht] at hz9
      refine w_tight (hq0.trans hz9) ?_
      have hq0 := hq0.trans hz9
      obtain ⟨hP, hD⟩ := va_joinQ (wr := []) (w1 := [(p1, .inr (3, [.ref pb, .int (nI k22), .ref ps])), (pb, .inl (cB, 16384, .inl g22))]) hP hD [0, 1] [] rfl rfl (by decide) (by decide) hk1 hFc hP1 hD1
      generalize H1 = H at hP hS hq0 ⊢
      have hP : va_P (dC, dI) classes ([(p1, .inr (3, [.ref pb, .int (nI k22), .ref ps])), (pb, .inl (cB, 16384, .inl g22))] ++ va_pl L f) H := hP
      have hD : va_D A ([(p1, .inr (3, [.ref pb, .int (nI k22), .ref ps])), (pb, .inl (cB, 16384, .inl g22))] ++ va_pl L f) := hD
      have hw : WOK k g ((ltB (ctx 0) 4)) k22 g22 := hw
      have hk22 := WOK.le hw hk
      have hR22 := WOK.go (T := (ltB (ctx 0) 4)) (R := []) hR hw
      refine lv_goto (tgt := 97) hx hb d_Printer_value_46 (by decide) ?_
      refine w_same (fun hq => ?_)
      refine W.widen (k := 1) (n := 6) (Nat.le_of_ble_eq_true rfl) (Nat.le_of_ble_eq_true rfl) ?_
      refine vx_ret ?_
      exact W.vret hx hb hr (fun t9 ht hW => ⟨⟨(k22, g22), rfl, hR22, ⟨by rw [ht]; exact hP, va_K.moved hW.alike hK, hD⟩, by rw [ht]; exact hq⟩, hS.F ht⟩) hS.2.2 d_Printer_value_97
  · by_cases hs4_1 : kd21 = 1
    · refine lv_tableIn (tgt := 49) (off := 45) hx hb d_Printer_value_4 (by rw [hs4_1]; decide) (by rw [hs4_1]; decide) (by rw [hs4_1]; rfl) (by decide) ?_
      have hk9 : (lfU nn.2).1 = 2 := ck_1 hCl.2.1 (hCl.1.symm.trans hs4_1)
      have hR : penL (k, 0, g) (prU nn.2) = penL (k, 0, g) (ltB (ctx 1) 5 ++ []) := by rw [prU_2 hk9, List.append_nil]
      refine lv_aload_n hx hb d_Printer_value_49 rfl (lv_at hl 0 rfl) ?_
      refine va_ldcS hx hb hown (hC 1 _ rfl).2 d_Printer_value_50 ?_
      have hPc := hP.sub (ws' := [(p1, .inr (3, [.ref pb, .int (nI k), .ref ps])), (pb, .inl (cB, 16384, .inl g))]) [0, 1] rfl
      have hDc := hD.sub (ws' := [(p1, .inr (3, [.ref pb, .int (nI k), .ref ps])), (pb, .inl (cB, 16384, .inl g))]) [0, 1] (by decide) rfl
      have hFc := va_free (wc := [(p1, .inr (3, [.ref pb, .int (nI k), .ref ps])), (pb, .inl (cB, 16384, .inl g))]) hD hS hA [0, 1] rfl
      have hKc := hK.sub (tys' := [(cB, .byte)]) [0] rfl
      refine w_same (fun hq0 => ?_)
      refine vx_callv (vx_runV (As := [.ref (K 1).1]) (rest := []) ⟨hx, hb, hml, hown, hts⟩ (t_putLetters l hl9 dC dI cB p1 pb s.heap (.ref ps) g k (K 1).1 (K 1).2 5 (ctx 1) hk (by decide)) (cwV 1 hts (gt_V (own := R_Printer) (C := R_Printer) (i := 73) (y := y_Printer_putLetters) i_Printer_putLetters z_980 z_982 (gt_sel (y := y_Printer_putLetters) (n := 3) (by decide +kernel)) w_6) rfl rfl rfl (by decide +kernel) ⟨by show 9 + 1 ≤ 14 + 2 * n; omega, by show 8 + (3 + 11) + (131) ≤ 300 + 60 * n; omega⟩) ⟨mt_blind, va_recv hK hP (ci := 3) (q0 := 0) rfl rfl, fun U hU hW => ⟨rfl, ⟨hU, by rw [hU]; exact hPc, va_K.moved hW.alike hKc, hDc.weaken (fun _ _ _ _ => trivial)⟩, hN.warm hW, by rw [hU]; exact ZX.moved' hW.alike (ZX.narrow' (ZX.kept' hZ hS.2.1) hFc), by rw [hU]; exact SX.moved' hW.alike (SX.narrow' (SX.kept' (hC 1 _ rfl).1 hS.2.1) hFc)⟩⟩ rfl rfl hl.1 rfl (lv_room (Nat.le_of_ble_eq_true rfl)) d_Printer_value_52 ⟨Nat.le_of_ble_eq_true rfl, Nat.le_of_ble_eq_true rfl⟩) hS (fun q _ h => hFc q h) hFc (fun q _ h => hFc q h) (fun En ce q9 ⟨kx, gx⟩ t9 H1 locs ht hvm hw hB hz1 hk1 hS hce hcv hcl => ?_) (fun ⟨k23, g23⟩ t9 H1 locs ht hvm hw hB hz1 hk1 hS => ?_)
      · obtain ⟨hEn, hP1, hK1, hD1⟩ := hB
        rw [ht] at hP1
        obtain ⟨hP, hD⟩ := va_joinQ (wr := []) (w1 := [(p1, .inr (3, [.ref pb, .int (nI kx), .ref ps])), (pb, .inl (cB, 16384, .inl gx))]) hP hD [0, 1] [] rfl rfl (by decide) (by decide) hk1 hFc hP1 hD1
        generalize H1 = H at hP hS hce ⊢
        have hP : va_P (dC, dI) classes ([(p1, .inr (3, [.ref pb, .int (nI kx), .ref ps])), (pb, .inl (cB, 16384, .inl gx))] ++ va_pl L f) H := hP
        have hD : va_D A ([(p1, .inr (3, [.ref pb, .int (nI kx), .ref ps])), (pb, .inl (cB, 16384, .inl gx))] ++ va_pl L f) := hD
        exact vx_out (fun x hx => (hex x hx).elim) hlocks hce hcv hcl (fun t9 ht2 ha => ⟨(nI kx, gx), (WNO.go (T := (ltB (ctx 1) 5)) (R := []) hR hw), ⟨hEn, by rw [ht2]; exact hP, va_K.moved ha hK, hD⟩, hS.F ht2⟩) hS.2.2 (Nat.le_of_ble_eq_true rfl) (Nat.le_of_ble_eq_true rfl)
      · obtain ⟨⟨hP1, hK1, hD1⟩, hz9⟩ := hB
        rw [ht] at hP1
        rw [ht] at hz9
        refine w_tight (hq0.trans hz9) ?_
        have hq0 := hq0.trans hz9
        obtain ⟨hP, hD⟩ := va_joinQ (wr := []) (w1 := [(p1, .inr (3, [.ref pb, .int (nI k23), .ref ps])), (pb, .inl (cB, 16384, .inl g23))]) hP hD [0, 1] [] rfl rfl (by decide) (by decide) hk1 hFc hP1 hD1
        generalize H1 = H at hP hS hq0 ⊢
        have hP : va_P (dC, dI) classes ([(p1, .inr (3, [.ref pb, .int (nI k23), .ref ps])), (pb, .inl (cB, 16384, .inl g23))] ++ va_pl L f) H := hP
        have hD : va_D A ([(p1, .inr (3, [.ref pb, .int (nI k23), .ref ps])), (pb, .inl (cB, 16384, .inl g23))] ++ va_pl L f) := hD
        have hw : WOK k g ((ltB (ctx 1) 5)) k23 g23 := hw
        have hk23 := WOK.le hw hk
        have hR23 := WOK.go (T := (ltB (ctx 1) 5)) (R := []) hR hw
        refine lv_goto (tgt := 97) hx hb d_Printer_value_55 (by decide) ?_
        refine w_same (fun hq => ?_)
        refine W.widen (k := 1) (n := 6) (Nat.le_of_ble_eq_true rfl) (Nat.le_of_ble_eq_true rfl) ?_
        refine vx_ret ?_
        exact W.vret hx hb hr (fun t9 ht hW => ⟨⟨(k23, g23), rfl, hR23, ⟨by rw [ht]; exact hP, va_K.moved hW.alike hK, hD⟩, by rw [ht]; exact hq⟩, hS.F ht⟩) hS.2.2 d_Printer_value_97
    · by_cases hs4_2 : kd21 = 2
      · refine lv_tableIn (tgt := 58) (off := 54) hx hb d_Printer_value_4 (by rw [hs4_2]; decide) (by rw [hs4_2]; decide) (by rw [hs4_2]; rfl) (by decide) ?_
        have hk9 : (lfU nn.2).1 = 1 := ck_2 hCl.2.1 (hCl.1.symm.trans hs4_2)
        have hR : penL (k, 0, g) (prU nn.2) = penL (k, 0, g) (ltB (ctx 2) 4 ++ []) := by rw [prU_1 hk9, List.append_nil]
        refine lv_aload_n hx hb d_Printer_value_58 rfl (lv_at hl 0 rfl) ?_
        refine va_ldcS hx hb hown (hC 2 _ rfl).2 d_Printer_value_59 ?_
        have hPc := hP.sub (ws' := [(p1, .inr (3, [.ref pb, .int (nI k), .ref ps])), (pb, .inl (cB, 16384, .inl g))]) [0, 1] rfl
        have hDc := hD.sub (ws' := [(p1, .inr (3, [.ref pb, .int (nI k), .ref ps])), (pb, .inl (cB, 16384, .inl g))]) [0, 1] (by decide) rfl
        have hFc := va_free (wc := [(p1, .inr (3, [.ref pb, .int (nI k), .ref ps])), (pb, .inl (cB, 16384, .inl g))]) hD hS hA [0, 1] rfl
        have hKc := hK.sub (tys' := [(cB, .byte)]) [0] rfl
        refine w_same (fun hq0 => ?_)
        refine vx_callv (vx_runV (As := [.ref (K 2).1]) (rest := []) ⟨hx, hb, hml, hown, hts⟩ (t_putLetters l hl9 dC dI cB p1 pb s.heap (.ref ps) g k (K 2).1 (K 2).2 4 (ctx 2) hk (by decide)) (cwV 1 hts (gt_V (own := R_Printer) (C := R_Printer) (i := 73) (y := y_Printer_putLetters) i_Printer_putLetters z_980 z_982 (gt_sel (y := y_Printer_putLetters) (n := 3) (by decide +kernel)) w_6) rfl rfl rfl (by decide +kernel) ⟨by show 9 + 1 ≤ 14 + 2 * n; omega, by show 8 + (3 + 11) + (131) ≤ 300 + 60 * n; omega⟩) ⟨mt_blind, va_recv hK hP (ci := 3) (q0 := 0) rfl rfl, fun U hU hW => ⟨rfl, ⟨hU, by rw [hU]; exact hPc, va_K.moved hW.alike hKc, hDc.weaken (fun _ _ _ _ => trivial)⟩, hN.warm hW, by rw [hU]; exact ZX.moved' hW.alike (ZX.narrow' (ZX.kept' hZ hS.2.1) hFc), by rw [hU]; exact SX.moved' hW.alike (SX.narrow' (SX.kept' (hC 2 _ rfl).1 hS.2.1) hFc)⟩⟩ rfl rfl hl.1 rfl (lv_room (Nat.le_of_ble_eq_true rfl)) d_Printer_value_61 ⟨Nat.le_of_ble_eq_true rfl, Nat.le_of_ble_eq_true rfl⟩) hS (fun q _ h => hFc q h) hFc (fun q _ h => hFc q h) (fun En ce q9 ⟨kx, gx⟩ t9 H1 locs ht hvm hw hB hz1 hk1 hS hce hcv hcl => ?_) (fun ⟨k24, g24⟩ t9 H1 locs ht hvm hw hB hz1 hk1 hS => ?_)
        · obtain ⟨hEn, hP1, hK1, hD1⟩ := hB
          rw [ht] at hP1
          obtain ⟨hP, hD⟩ := va_joinQ (wr := []) (w1 := [(p1, .inr (3, [.ref pb, .int (nI kx), .ref ps])), (pb, .inl (cB, 16384, .inl gx))]) hP hD [0, 1] [] rfl rfl (by decide) (by decide) hk1 hFc hP1 hD1
          generalize H1 = H at hP hS hce ⊢
          have hP : va_P (dC, dI) classes ([(p1, .inr (3, [.ref pb, .int (nI kx), .ref ps])), (pb, .inl (cB, 16384, .inl gx))] ++ va_pl L f) H := hP
          have hD : va_D A ([(p1, .inr (3, [.ref pb, .int (nI kx), .ref ps])), (pb, .inl (cB, 16384, .inl gx))] ++ va_pl L f) := hD
          exact vx_out (fun x hx => (hex x hx).elim) hlocks hce hcv hcl (fun t9 ht2 ha => ⟨(nI kx, gx), (WNO.go (T := (ltB (ctx 2) 4)) (R := []) hR hw), ⟨hEn, by rw [ht2]; exact hP, va_K.moved ha hK, hD⟩, hS.F ht2⟩) hS.2.2 (Nat.le_of_ble_eq_true rfl) (Nat.le_of_ble_eq_true rfl)
        · obtain ⟨⟨hP1, hK1, hD1⟩, hz9⟩ := hB
          rw [ht] at hP1
          rw [ht] at hz9
          refine w_tight (hq0.trans hz9) ?_
          have hq0 := hq0.trans hz9
          obtain ⟨hP, hD⟩ := va_joinQ (wr := []) (w1 := [(p1, .inr (3, [.ref pb, .int (nI k24), .ref ps])), (pb, .inl (cB, 16384, .inl g24))]) hP hD [0, 1] [] rfl rfl (by decide) (by decide) hk1 hFc hP1 hD1
          generalize H1 = H at hP hS hq0 ⊢
          have hP : va_P (dC, dI) classes ([(p1, .inr (3, [.ref pb, .int (nI k24), .ref ps])), (pb, .inl (cB, 16384, .inl g24))] ++ va_pl L f) H := hP
          have hD : va_D A ([(p1, .inr (3, [.ref pb, .int (nI k24), .ref ps])), (pb, .inl (cB, 16384, .inl g24))] ++ va_pl L f) := hD
          have hw : WOK k g ((ltB (ctx 2) 4)) k24 g24 := hw
          have hk24 := WOK.le hw hk
          have hR24 := WOK.go (T := (ltB (ctx 2) 4)) (R := []) hR hw
          refine lv_goto (tgt := 97) hx hb d_Printer_value_64 (by decide) ?_
          refine w_same (fun hq => ?_)
          refine W.widen (k := 1) (n := 6) (Nat.le_of_ble_eq_true rfl) (Nat.le_of_ble_eq_true rfl) ?_
          refine vx_ret ?_
          exact W.vret hx hb hr (fun t9 ht hW => ⟨⟨(k24, g24), rfl, hR24, ⟨by rw [ht]; exact hP, va_K.moved hW.alike hK, hD⟩, by rw [ht]; exact hq⟩, hS.F ht⟩) hS.2.2 d_Printer_value_97
      · by_cases hs4_3 : kd21 = 3
        · refine lv_tableIn (tgt := 67) (off := 63) hx hb d_Printer_value_4 (by rw [hs4_3]; decide) (by rw [hs4_3]; decide) (by rw [hs4_3]; rfl) (by decide) ?_
          have hk9 : (lfU nn.2).1 = 3 := ck_3 hCl.2.1 (hCl.1.symm.trans hs4_3)
          refine lv_aload_n hx hb d_Printer_value_67 rfl (lv_at hl 0 rfl) ?_
          refine lv_aload_n hx hb d_Printer_value_68 rfl (lv_at hl 1 rfl) ?_
          refine vq_get (D := (dC, dI)) (ci := 9) (v := .long nu21) (C := R_Value) (T := F_Value) (N := 10) hx hb hts in_Value hown hK hP (hO.inV (isF.v hv9)) ef21 rfl 1 (by decide) (hts _ z_318) (fun _ h9 => h9) rfl d_Printer_value_69 ?_
          have hnu : nu21 = (lfU nn.2).2.1 := hCl.2.2.1 hk9
          have hR : penL (k, 0, g) (prU nn.2) = penL (k, 0, g) (nmB nu21 ++ []) := by rw [prU_3 hk9, List.append_nil, hnu]
          have hPc := hP.sub (ws' := [(p1, .inr (3, [.ref pb, .int (nI k), .ref ps])), (pb, .inl (cB, 16384, .inl g))]) [0, 1] rfl
          have hDc := hD.sub (ws' := [(p1, .inr (3, [.ref pb, .int (nI k), .ref ps])), (pb, .inl (cB, 16384, .inl g))]) [0, 1] (by decide) rfl
          have hFc := va_free (wc := [(p1, .inr (3, [.ref pb, .int (nI k), .ref ps])), (pb, .inl (cB, 16384, .inl g))]) hD hS hA [0, 1] rfl
          have hKc := hK.sub (tys' := [(cB, .byte)]) [0] rfl
          refine w_same (fun hq0 => ?_)
          refine vx_callv (vx_runV (As := [.long nu21]) (rest := []) ⟨hx, hb, hml, hown, hts⟩ (p_Printer_number l hl9 dC dI s.heap cB p1 pb ps g k hk nu21 (by rw [hnu]; exact hsN hk9)) (cwV 1 hts (gt_V (own := R_Printer) (C := R_Printer) (i := 60) (y := y_Printer_number) i_Printer_number z_963 z_965 (gt_sel (y := y_Printer_number) (n := 3) (by decide +kernel)) w_6) rfl rfl rfl (by decide +kernel) ⟨by show 9 + 1 ≤ 14 + 2 * n; omega, by show 8 + (7 + 11) + (150) ≤ 300 + 60 * n; omega⟩) ⟨mx_blind, va_recv hK hP (ci := 3) (q0 := 0) rfl rfl, fun U hU hW => ⟨rfl, ⟨hU, by rw [hU]; exact hPc, va_K.moved hW.alike hKc, hDc.weaken (fun _ _ _ _ => trivial)⟩, hN.warm hW, by rw [hU]; exact ZX.moved' hW.alike (ZX.narrow' (ZX.kept' hZ hS.2.1) hFc)⟩⟩ rfl rfl hl.1 rfl (lv_room (Nat.le_of_ble_eq_true rfl)) d_Printer_value_72 ⟨Nat.le_of_ble_eq_true rfl, Nat.le_of_ble_eq_true rfl⟩) hS (fun q _ h => hFc q h) hFc (fun q _ h => hFc q h) (fun En ce q9 ⟨kx, gx⟩ t9 H1 locs ht hvm hw hB hz1 hk1 hS hce hcv hcl => ?_) (fun ⟨k25, g25⟩ t9 H1 locs ht hvm hw hB hz1 hk1 hS => ?_)
          · obtain ⟨hEn, hP1, hK1, hD1⟩ := hB
            rw [ht] at hP1
            obtain ⟨hP, hD⟩ := va_joinQ (wr := []) (w1 := [(p1, .inr (3, [.ref pb, .int kx, .ref ps])), (pb, .inl (cB, 16384, .inl gx))]) hP hD [0, 1] [] rfl rfl (by decide) (by decide) hk1 hFc hP1 hD1
            generalize H1 = H at hP hS hce ⊢
            have hP : va_P (dC, dI) classes ([(p1, .inr (3, [.ref pb, .int kx, .ref ps])), (pb, .inl (cB, 16384, .inl gx))] ++ va_pl L f) H := hP
            have hD : va_D A ([(p1, .inr (3, [.ref pb, .int kx, .ref ps])), (pb, .inl (cB, 16384, .inl gx))] ++ va_pl L f) := hD
            exact vx_out (fun x hx => (hex x hx).elim) hlocks hce hcv hcl (fun t9 ht2 ha => ⟨(kx, gx), (WNO.go (T := (nmB nu21)) (R := []) hR hw), ⟨hEn, by rw [ht2]; exact hP, va_K.moved ha hK, hD⟩, hS.F ht2⟩) hS.2.2 (Nat.le_of_ble_eq_true rfl) (Nat.le_of_ble_eq_true rfl)
          · obtain ⟨⟨hP1, hK1, hD1⟩, hz9⟩ := hB
            rw [ht] at hP1
            rw [ht] at hz9
            refine w_tight (hq0.trans hz9) ?_
            have hq0 := hq0.trans hz9
            obtain ⟨hP, hD⟩ := va_joinQ (wr := []) (w1 := [(p1, .inr (3, [.ref pb, .int (nI k25), .ref ps])), (pb, .inl (cB, 16384, .inl g25))]) hP hD [0, 1] [] rfl rfl (by decide) (by decide) hk1 hFc hP1 hD1
            generalize H1 = H at hP hS hq0 ⊢
            have hP : va_P (dC, dI) classes ([(p1, .inr (3, [.ref pb, .int (nI k25), .ref ps])), (pb, .inl (cB, 16384, .inl g25))] ++ va_pl L f) H := hP
            have hD : va_D A ([(p1, .inr (3, [.ref pb, .int (nI k25), .ref ps])), (pb, .inl (cB, 16384, .inl g25))] ++ va_pl L f) := hD
            have hw : WOK k g ((nmB nu21)) k25 g25 := hw
            have hk25 := WOK.le hw hk
            have hR25 := WOK.go (T := (nmB nu21)) (R := []) hR hw
            refine lv_goto (tgt := 97) hx hb d_Printer_value_75 (by decide) ?_
            refine w_same (fun hq => ?_)
            refine W.widen (k := 1) (n := 6) (Nat.le_of_ble_eq_true rfl) (Nat.le_of_ble_eq_true rfl) ?_
            refine vx_ret ?_
            exact W.vret hx hb hr (fun t9 ht hW => ⟨⟨(k25, g25), rfl, hR25, ⟨by rw [ht]; exact hP, va_K.moved hW.alike hK, hD⟩, by rw [ht]; exact hq⟩, hS.F ht⟩) hS.2.2 d_Printer_value_97
        · by_cases hs4_4 : kd21 = 4
          · refine lv_tableIn (tgt := 78) (off := 74) hx hb d_Printer_value_4 (by rw [hs4_4]; decide) (by rw [hs4_4]; decide) (by rw [hs4_4]; rfl) (by decide) ?_
            have hk9 : (lfU nn.2).1 = 4 := ck_4 hCl.2.1 (hCl.1.symm.trans hs4_4)
            refine lv_aload_n hx hb d_Printer_value_78 rfl (lv_at hl 0 rfl) ?_
            refine lv_aload_n hx hb d_Printer_value_79 rfl (lv_at hl 1 rfl) ?_
            rcases tx21 with _ | b26
            · exact absurd rfl ((hv21.2.2.2.2.2.2.1 (isF.n1 hv9)).1 hs4_4)
            · refine vq_get (D := (dC, dI)) (ci := 9) (v := .ref b26) (C := R_Value) (T := F_Value) (N := 10) hx hb hts in_Value hown hK hP (hO.inV (isF.v hv9)) ef21 rfl 2 (by decide) (hts _ z_323) (fun _ h9 => h9) rfl d_Printer_value_80 ?_
              refine lv_bipush (v := 34) hx hb d_Printer_value_83 (by decide) ?_
              have htx9 : txL f b26 = (lfU nn.2).2.2 := by
                obtain ⟨q8, e1, e2⟩ := hCl.2.2.2 hk9
                have e1 := Option.some.inj e1
                rw [e1]; exact e2
              have hR : penL (k, 0, g) (prU nn.2) = penL (k, 0, g) (unL 34 (txL f b26) ++ []) := by rw [prU_4 hk9, List.append_nil, htx9]
              have hPc := hP.part (cx := [(p1, .inr (3, [.ref pb, .int (nI k), .ref ps])), (pb, .inl (cB, 16384, .inl g))]) [0, 1] rfl
              have hDc := hD.part (cx := [(p1, .inr (3, [.ref pb, .int (nI k), .ref ps])), (pb, .inl (cB, 16384, .inl g))]) [0, 1] (by decide) rfl
              have hFc := va_freeP (cx := [(p1, .inr (3, [.ref pb, .int (nI k), .ref ps])), (pb, .inl (cB, 16384, .inl g))]) hD hS hA [0, 1] rfl
              have hKc := hK.sub (tys' := [(cB, .byte), (cI, .int), (cV, .object "QueryBench$Value")]) [0, 1, 2] rfl
              refine w_same (fun hq0 => ?_)
              refine vx_callv (vx_runV (As := [.ref b26, .int 34]) (rest := []) ⟨hx, hb, hml, hown, hts⟩ (p_Printer_text l hl9 K dC dI s.heap cI cV E lv L f hO cB p1 pb ps g k hk b26 (hv21.1 b26 rfl) 34 (Or.inl rfl)) (cwV 2 hts (gt_V (own := R_Printer) (C := R_Printer) (i := 64) (y := y_Printer_text) i_Printer_text z_968 z_970 (gt_sel (y := y_Printer_text) (n := 3) (by decide +kernel)) w_6) rfl rfl rfl (by decide +kernel) ⟨by show 11 + 1 ≤ 14 + 2 * n; omega, by show 8 + (4 + 11) + (230) ≤ 300 + 60 * n; omega⟩) ⟨ml_blind, va_recv hK hP (ci := 3) (q0 := 0) rfl rfl, fun U hU hW => ⟨rfl, ⟨hU, by rw [hU]; exact hPc, va_K.moved hW.alike hKc, hDc.weaken (fun _ _ _ _ => trivial)⟩, hN.warm hW, by rw [hU]; exact ZX.moved' hW.alike (ZX.narrow' (ZX.kept' hZ hS.2.1) hFc), by rw [hU]; exact CE.call hC hS.2.1 hFc hW, va_AO.moved hW.alike hV⟩⟩ rfl rfl hl.1 rfl (lv_room (Nat.le_of_ble_eq_true rfl)) d_Printer_value_85 ⟨Nat.le_of_ble_eq_true rfl, Nat.le_of_ble_eq_true rfl⟩) hS (fun q _ h => hFc q h) hFc (fun q _ h => hFc q h) (fun En ce q9 ⟨kx, gx⟩ t9 H1 locs ht hvm hw hB hz1 hk1 hS hce hcv hcl => ?_) (fun ⟨k27, g27⟩ t9 H1 locs ht hvm hw hB hz1 hk1 hS => ?_)
              · obtain ⟨hEn, hP1, hK1, hD1⟩ := hB
                rw [ht] at hP1
                obtain ⟨hP, hD⟩ := va_joinP (wr := []) (rx := [(p1, .inr (3, [.ref pb, .int kx, .ref ps])), (pb, .inl (cB, 16384, .inl gx))]) (pl1 := va_pl L f) hP hD [0, 1] [] rfl rfl (by decide) (by decide) hk1 hFc hP1 hD1
                generalize H1 = H at hP hS hce ⊢
                have hP : va_P (dC, dI) classes ([(p1, .inr (3, [.ref pb, .int kx, .ref ps])), (pb, .inl (cB, 16384, .inl gx))] ++ va_pl L f) H := hP
                have hD : va_D A ([(p1, .inr (3, [.ref pb, .int kx, .ref ps])), (pb, .inl (cB, 16384, .inl gx))] ++ va_pl L f) := hD
                exact vx_out (fun x hx => (hex x hx).elim) hlocks hce hcv hcl (fun t9 ht2 ha => ⟨(kx, gx), (WNO.go (T := (unL 34 (txL f b26))) (R := []) hR hw), ⟨hEn, by rw [ht2]; exact hP, va_K.moved ha hK, hD⟩, hS.F ht2⟩) hS.2.2 (Nat.le_of_ble_eq_true rfl) (Nat.le_of_ble_eq_true rfl)
              · obtain ⟨⟨hP1, hK1, hD1⟩, hz9⟩ := hB
                rw [ht] at hP1
                rw [ht] at hz9
                refine w_tight (hq0.trans hz9) ?_
                have hq0 := hq0.trans hz9
                obtain ⟨hP, hD⟩ := va_joinP (wr := []) (rx := [(p1, .inr (3, [.ref pb, .int (nI k27), .ref ps])), (pb, .inl (cB, 16384, .inl g27))]) (pl1 := va_pl L f) hP hD [0, 1] [] rfl rfl (by decide) (by decide) hk1 hFc hP1 hD1
                generalize H1 = H at hP hS hq0 ⊢
                have hP : va_P (dC, dI) classes ([(p1, .inr (3, [.ref pb, .int (nI k27), .ref ps])), (pb, .inl (cB, 16384, .inl g27))] ++ va_pl L f) H := hP
                have hD : va_D A ([(p1, .inr (3, [.ref pb, .int (nI k27), .ref ps])), (pb, .inl (cB, 16384, .inl g27))] ++ va_pl L f) := hD
                have hw : WOK k g ((unL 34 (txL f b26))) k27 g27 := hw
                have hk27 := WOK.le hw hk
                have hR27 := WOK.go (T := (unL 34 (txL f b26))) (R := []) hR hw
                refine lv_goto (tgt := 97) hx hb d_Printer_value_88 (by decide) ?_
                refine w_same (fun hq => ?_)
                refine W.widen (k := 1) (n := 6) (Nat.le_of_ble_eq_true rfl) (Nat.le_of_ble_eq_true rfl) ?_
                refine vx_ret ?_
                exact W.vret hx hb hr (fun t9 ht hW => ⟨⟨(k27, g27), rfl, hR27, ⟨by rw [ht]; exact hP, va_K.moved hW.alike hK, hD⟩, by rw [ht]; exact hq⟩, hS.F ht⟩) hS.2.2 d_Printer_value_97
          · have hk4_0 := i_neN 0 rfl hs4_0
            have hk4_1 := i_neN 1 rfl hs4_1
            have hk4_2 := i_neN 2 rfl hs4_2
            have hk4_3 := i_neN 3 rfl hs4_3
            have hk4_4 := i_neN 4 rfl hs4_4
            refine lv_tableOut (tgt := 91) hx hb d_Printer_value_4 (by omega) (by decide) ?_
            refine lv_aload_n hx hb d_Printer_value_91 rfl (lv_at hl 0 rfl) ?_
            refine lv_aload_n hx hb d_Printer_value_92 rfl (lv_at hl 1 rfl) ?_
            refine lv_iload_n hx hb d_Printer_value_93 rfl (lv_at hl 2 rfl) ?_
            have h5 : ¬ (lfU nn.2).1 < 5 := ck_ge hCl.2.1 (fun h => hs4_0 (hCl.1.trans h)) (fun h => hs4_1 (hCl.1.trans h)) (fun h => hs4_2 (hCl.1.trans h)) (fun h => hs4_3 (hCl.1.trans h)) (fun h => hs4_4 (hCl.1.trans h))
            have hPc := hP.part (cx := [(p1, .inr (3, [.ref pb, .int (nI k), .ref ps])), (pb, .inl (cB, 16384, .inl g))]) [0, 1] rfl
            have hDc := hD.part (cx := [(p1, .inr (3, [.ref pb, .int (nI k), .ref ps])), (pb, .inl (cB, 16384, .inl g))]) [0, 1] (by decide) rfl
            have hFc := va_freeP (cx := [(p1, .inr (3, [.ref pb, .int (nI k), .ref ps])), (pb, .inl (cB, 16384, .inl g))]) hD hS hA [0, 1] rfl
            have hKc := hK.sub (tys' := [(cB, .byte), (cI, .int), (cV, .object "QueryBench$Value")]) [0, 1, 2] rfl
            refine w_same (fun hq0 => ?_)
            refine vx_callv (vx_runV (As := [.ref v9, .int (nI d)]) (rest := []) ⟨hx, hb, hml, hown, hts⟩ (HM s.heap g k hk v9 nn hn9 hle h5) (cwV 2 hts (gt_V (own := R_Printer) (C := R_Printer) (i := 86) (y := y_Printer_members) i_Printer_members z_994 z_996 (gt_sel (y := y_Printer_members) (n := 3) (by decide +kernel)) w_6) rfl rfl rfl (by decide +kernel) ⟨by show 13 + 2 * n + 1 ≤ 14 + 2 * n; omega, by show 8 + (5 + 11) + (270 + 60 * n) ≤ 300 + 60 * n; omega⟩) ⟨ml_blind, va_recv hK hP (ci := 3) (q0 := 0) rfl rfl, fun U hU hW => ⟨rfl, ⟨hU, by rw [hU]; exact hPc, va_K.moved hW.alike hKc, hDc.weaken (fun _ _ _ _ => trivial)⟩, hN.warm hW, by rw [hU]; exact ZX.moved' hW.alike (ZX.narrow' (ZX.kept' hZ hS.2.1) hFc), by rw [hU]; exact CE.call hC hS.2.1 hFc hW, va_AO.moved hW.alike hV⟩⟩ rfl rfl hl.1 rfl (lv_room (Nat.le_of_ble_eq_true rfl)) d_Printer_value_94 ⟨Nat.le_of_ble_eq_true rfl, Nat.le_of_ble_eq_true rfl⟩) hS (fun q _ h => hFc q h) hFc (fun q _ h => hFc q h) (fun En ce q9 ⟨kx, gx⟩ t9 H1 locs ht hvm hw hB hz1 hk1 hS hce hcv hcl => ?_) (fun ⟨k28, g28⟩ t9 H1 locs ht hvm hw hB hz1 hk1 hS => ?_)
            · obtain ⟨hEn, hP1, hK1, hD1⟩ := hB
              rw [ht] at hP1
              obtain ⟨hP, hD⟩ := va_joinP (wr := []) (rx := [(p1, .inr (3, [.ref pb, .int kx, .ref ps])), (pb, .inl (cB, 16384, .inl gx))]) (pl1 := va_pl L f) hP hD [0, 1] [] rfl rfl (by decide) (by decide) hk1 hFc hP1 hD1
              generalize H1 = H at hP hS hce ⊢
              have hP : va_P (dC, dI) classes ([(p1, .inr (3, [.ref pb, .int kx, .ref ps])), (pb, .inl (cB, 16384, .inl gx))] ++ va_pl L f) H := hP
              have hD : va_D A ([(p1, .inr (3, [.ref pb, .int kx, .ref ps])), (pb, .inl (cB, 16384, .inl gx))] ++ va_pl L f) := hD
              exact vx_out (fun x hx => (hex x hx).elim) hlocks hce hcv hcl (fun t9 ht2 ha => ⟨(kx, gx), (WNO.go (T := (prU nn.2)) (R := []) (by rw [List.append_nil]) hw), ⟨hEn, by rw [ht2]; exact hP, va_K.moved ha hK, hD⟩, hS.F ht2⟩) hS.2.2 (Nat.le_of_ble_eq_true rfl) (Nat.le_of_ble_eq_true rfl)
            · obtain ⟨⟨hP1, hK1, hD1⟩, hz9⟩ := hB
              rw [ht] at hP1
              rw [ht] at hz9
              refine w_tight (hq0.trans hz9) ?_
              have hq0 := hq0.trans hz9
              obtain ⟨hP, hD⟩ := va_joinP (wr := []) (rx := [(p1, .inr (3, [.ref pb, .int (nI k28), .ref ps])), (pb, .inl (cB, 16384, .inl g28))]) (pl1 := va_pl L f) hP hD [0, 1] [] rfl rfl (by decide) (by decide) hk1 hFc hP1 hD1
              generalize H1 = H at hP hS hq0 ⊢
              have hP : va_P (dC, dI) classes ([(p1, .inr (3, [.ref pb, .int (nI k28), .ref ps])), (pb, .inl (cB, 16384, .inl g28))] ++ va_pl L f) H := hP
              have hD : va_D A ([(p1, .inr (3, [.ref pb, .int (nI k28), .ref ps])), (pb, .inl (cB, 16384, .inl g28))] ++ va_pl L f) := hD
              have hw : WOK k g ((prU nn.2)) k28 g28 := hw
              have hk28 := WOK.le hw hk
              have hR28 := WOK.go (T := (prU nn.2)) (R := []) (by rw [List.append_nil]) hw
              refine w_same (fun hq => ?_)
              refine W.widen (k := 1) (n := 6) (Nat.le_of_ble_eq_true rfl) (Nat.le_of_ble_eq_true rfl) ?_
              refine vx_ret ?_
              exact W.vret hx hb hr (fun t9 ht hW => ⟨⟨(k28, g28), rfl, hR28, ⟨by rw [ht]; exact hP, va_K.moved hW.alike hK, hD⟩, by rw [ht]; exact hq⟩, hS.F ht⟩) hS.2.2 d_Printer_value_97
theorem t_PVall (l : Launch) (hl9 : l.stackTraces = false) (K : Nat → Nat × Nat) (dC : Nat → ClassId) (dI : Nat → Nat → Nat) (cI cV : ClassId) (E lv : Nat → Nat) (L : List Nat) (f : Nat → va_E) (hO : PO cI cV E lv L f) (cB : ClassId) (p1 pb ps : Nat) (xv : JVt 32) (AL : List Nat) (hDq9 : DOC E f (preN (rtN xv)) AL) (hDu : DUP f (preN (rtN xv)) AL) (hsm : allL smF 32 xv) : ∀ n d, d + n = 32 → PVT l K dC dI cI cV E L f cB p1 pb ps xv AL n d := by
  intro n
  induction n with
  | zero => exact fun d hd => t_PV l hl9 K dC dI cI cV E lv L f hO cB p1 pb ps xv AL hDq9 hDu hsm 0 d (t_PM l hl9 K dC dI cI cV E lv L f hO cB p1 pb ps xv AL hDq9 hDu hsm 0 d hd (fun h => absurd h (by omega)))
  | succ n ih => exact fun d hd => t_PV l hl9 K dC dI cI cV E lv L f hO cB p1 pb ps xv AL hDq9 hDu hsm (n + 1) d (t_PM l hl9 K dC dI cI cV E lv L f hO cB p1 pb ps xv AL hDq9 hDu hsm (n + 1) d hd (fun _ => ih (d + 1) (by omega)))
set_option maxHeartbeats 4000000 in
set_option maxRecDepth 100000 in
/-- Printer.line: what it writes -/
theorem p_Printer_line (l : Launch) (hl9 : l.stackTraces = false) (K : Nat → Nat × Nat) (dC : Nat → ClassId) (dI : Nat → Nat → Nat) (sz : Heap) (cI cV : ClassId) (E lv : Nat → Nat) (L : List Nat) (f : Nat → va_E) (hO : PO cI cV E lv L f) (cB : ClassId) (p1 pb ps : Nat) (g : Nat → Int32) (k : Nat) (hk : k ≤ 16384) (h : Nat → Option Nat) (nd : Nat) (xv : JVt 32) (AL : List Nat) (hDq9 : DOC E f (preN (rtN xv)) AL) (hDu : DUP f (preN (rtN xv)) AL) (hsm : allL smF 32 xv) (nn : NT) (hnn : NCr (preN (rtN xv)) AL nd nn) : vx_Met l y_Printer_line (k_Printer_line :: gtbl) ({ frames := 80, cells := 1, slots := 6, locals := 2300 }) (va_Pc [.ref p1, .ref nd] (ml K dC dI ([(p1, .inr (3, [.ref pb, .int (nI k), .ref ps])), (pb, .inl (cB, 16384, .inl g)), (ps, .inl (cV, 32, .inr (.inr (.inr (.inr h)))))] ++ va_pl L f) [(cB, .byte), (cI, .int), (cV, .object "QueryBench$Value")] sz)) (va_Qv (fun (u : Nat × (Nat → Int32) × (Nat → Option Nat)) => WOK k g ((rowB xv nn)) u.1 u.2.1) (fun u t9 => mz dC dI ([(p1, .inr (3, [.ref pb, .int (nI u.1), .ref ps])), (pb, .inl (cB, 16384, .inl u.2.1)), (ps, .inl (cV, 32, .inr (.inr (.inr (.inr u.2.2)))))] ++ va_pl L f) [(cB, .byte), (cI, .int), (cV, .object "QueryBench$Value")] (va_A ([(p1, .inr (3, [.ref pb, .int (nI k), .ref ps])), (pb, .inl (cB, 16384, .inl g)), (ps, .inl (cV, 32, .inr (.inr (.inr (.inr h)))))] ++ va_pl L f) sz.size) t9 ∧ szk sz t9.heap (0) (0)) (va_A ([(p1, .inr (3, [.ref pb, .int (nI k), .ref ps])), (pb, .inl (cB, 16384, .inl g)), (ps, .inl (cV, 32, .inr (.inr (.inr (.inr h)))))] ++ va_pl L f) sz.size)) (vx_X (fun (u : Int32 × (Nat → Int32) × (Nat → Option Nat)) => WNO k g ((rowB xv nn))) (fun En u t9 => En = IOB ∧ mz dC dI ([(p1, .inr (3, [.ref pb, .int u.1, .ref ps])), (pb, .inl (cB, 16384, .inl u.2.1)), (ps, .inl (cV, 32, .inr (.inr (.inr (.inr u.2.2)))))] ++ va_pl L f) [(cB, .byte), (cI, .int), (cV, .object "QueryBench$Value")] (va_A ([(p1, .inr (3, [.ref pb, .int (nI k), .ref ps])), (pb, .inl (cB, 16384, .inl g)), (ps, .inl (cV, 32, .inr (.inr (.inr (.inr h)))))] ++ va_pl L f) sz.size) t9) (va_A ([(p1, .inr (3, [.ref pb, .int (nI k), .ref ps])), (pb, .inl (cB, 16384, .inl g)), (ps, .inl (cV, 32, .inr (.inr (.inr (.inr h)))))] ++ va_pl L f) sz.size)) (1) (6) (va_A ([(p1, .inr (3, [.ref pb, .int (nI k), .ref ps])), (pb, .inl (cB, 16384, .inl g)), (ps, .inl (cV, 32, .inr (.inr (.inr (.inr h)))))] ++ va_pl L f) sz.size) := by
  refine vx_ofW (cc := b_Printer_line) (maxL := 2) (ret := none) (by decide) rfl ?_
  intro p e s m args below meth c s₁ B hml hex hv
  obtain ⟨rfl, ⟨hsz, hP, hK, hD0⟩, hN, hZ, hC, hV⟩ := hv
  have hx := B.exec
  have hb := B.bytes
  have hr := B.returns
  have hts0 := atoms_spec (ws := k_Printer_line :: gtbl) B.pre
  have hts := fun w h => hts0 w (List.mem_cons_of_mem _ h)
  have hown : s.vm.findClass R_Printer = some m.cls := findClass_of_methodNamed B.named
  have hlocks := B.notSynchronized
  subst hsz
  have hD := hD0.self (sz := s.heap.size)
  generalize hAe : va_A ([(p1, .inr (3, [.ref pb, .int (nI k), .ref ps])), (pb, .inl (cB, 16384, .inl g)), (ps, .inl (cV, 32, .inr (.inr (.inr (.inr h)))))] ++ va_pl L f) s.heap.size = A at hD hZ hC ⊢
  have hA : ∀ q : Nat, s.heap.size ≤ q → A q := fun q h => by rw [← hAe]; exact Or.inr h
  have hS : va_S A s.heap s.heap [] := va_S.rf
  have hP : va_P (dC, dI) classes ([(p1, .inr (3, [.ref pb, .int (nI k), .ref ps])), (pb, .inl (cB, 16384, .inl g)), (ps, .inl (cV, 32, .inr (.inr (.inr (.inr h)))))] ++ va_pl L f) s.heap := hP
  have hl := lv_entry ([.ref p1, .ref nd]) (n := 2) (Nat.le_of_ble_eq_true rfl)
  rw [lg_entry_eq]
  generalize (lg_sl ([.ref p1, .ref nd]) ++ List.replicate (2 - (lg_sl ([.ref p1, .ref nd])).length) Slot.unset).toArray = ls at hl ⊢
  have hl : lv_has ls 2 [(0, .ref p1), (1, .ref nd)] := hl
  refine lv_aload_n hx hb d_Printer_line_0 rfl (lv_at hl 0 rfl) ?_
  refine lv_aload_n hx hb d_Printer_line_1 rfl (lv_at hl 1 rfl) ?_
  have hR : penL (k, 0, g) (rowB xv nn) = penL (k, 0, g) (([36] ++ pthJ ⟨32, xv⟩ nn.1) ++ ([32] ++ (prU nn.2 ++ [10]))) := by unfold rowB; rw [List.append_assoc]; rfl
  have hPc := hP.part (cx := [(p1, .inr (3, [.ref pb, .int (nI k), .ref ps])), (pb, .inl (cB, 16384, .inl g)), (ps, .inl (cV, 32, .inr (.inr (.inr (.inr h)))))]) [0, 1, 2] rfl
  have hDc := hD.part (cx := [(p1, .inr (3, [.ref pb, .int (nI k), .ref ps])), (pb, .inl (cB, 16384, .inl g)), (ps, .inl (cV, 32, .inr (.inr (.inr (.inr h)))))]) [0, 1, 2] (by decide) rfl
  have hFc := va_freeP (cx := [(p1, .inr (3, [.ref pb, .int (nI k), .ref ps])), (pb, .inl (cB, 16384, .inl g)), (ps, .inl (cV, 32, .inr (.inr (.inr (.inr h)))))]) hD hS hA [0, 1, 2] rfl
  have hKc := hK.sub (tys' := [(cB, .byte), (cI, .int), (cV, .object "QueryBench$Value")]) [0, 1, 2] rfl
  refine w_same (fun hq0 => ?_)
  refine vx_callv (vx_runV (As := [.ref nd]) (rest := []) ⟨hx, hb, hml, hown, hts⟩ (p_Printer_path l hl9 K dC dI s.heap cI cV E lv L f hO cB p1 pb ps g k hk h nd xv AL hDq9 hDu nn hnn) (cwV 1 hts (gt_V (own := R_Printer) (C := R_Printer) (i := 21) (y := y_Printer_path) i_Printer_path z_953 z_955 (gt_sel (y := y_Printer_path) (n := 3) (by decide +kernel)) w_6) rfl rfl rfl (by decide +kernel) ⟨Nat.le_of_ble_eq_true rfl, Nat.le_of_ble_eq_true rfl⟩) ⟨ml_blind, va_recv hK hP (ci := 3) (q0 := 0) rfl rfl, fun U hU hW => ⟨rfl, ⟨hU, by rw [hU]; exact hPc, va_K.moved hW.alike hKc, hDc.weaken (fun _ _ _ _ => trivial)⟩, hN.warm hW, by rw [hU]; exact ZX.moved' hW.alike (ZX.narrow' (ZX.kept' hZ hS.2.1) hFc), by rw [hU]; exact CE.call hC hS.2.1 hFc hW, va_AO.moved hW.alike hV⟩⟩ rfl rfl hl.1 rfl (lv_room (Nat.le_of_ble_eq_true rfl)) d_Printer_line_2 ⟨Nat.le_of_ble_eq_true rfl, Nat.le_of_ble_eq_true rfl⟩) hS (fun q _ h => hFc q h) hFc (fun q _ h => hFc q h) (fun En ce q9 ⟨kx, gx, h9⟩ t9 H1 locs ht hvm hw hB hz1 hk1 hS hce hcv hcl => ?_) (fun ⟨k21, g21, h9⟩ t9 H1 locs ht hvm hw hB hz1 hk1 hS => ?_)
  · obtain ⟨hEn, hP1, hK1, hD1⟩ := hB
    rw [ht] at hP1
    obtain ⟨hP, hD⟩ := va_joinP (wr := []) (rx := [(p1, .inr (3, [.ref pb, .int kx, .ref ps])), (pb, .inl (cB, 16384, .inl gx)), (ps, .inl (cV, 32, .inr (.inr (.inr (.inr h9)))))]) (pl1 := va_pl L f) hP hD [0, 1, 2] [] rfl rfl (by decide) (by decide) hk1 hFc hP1 hD1
    generalize H1 = H at hP hS hce ⊢
    have hP : va_P (dC, dI) classes ([(p1, .inr (3, [.ref pb, .int kx, .ref ps])), (pb, .inl (cB, 16384, .inl gx)), (ps, .inl (cV, 32, .inr (.inr (.inr (.inr h9)))))] ++ va_pl L f) H := hP
    have hD : va_D A ([(p1, .inr (3, [.ref pb, .int kx, .ref ps])), (pb, .inl (cB, 16384, .inl gx)), (ps, .inl (cV, 32, .inr (.inr (.inr (.inr h9)))))] ++ va_pl L f) := hD
    exact vx_out (fun x hx => (hex x hx).elim) hlocks hce hcv hcl (fun t9 ht2 ha => ⟨(kx, gx, h9), (WNO.go (T := ([36] ++ pthJ ⟨32, xv⟩ nn.1)) (R := [32] ++ (prU nn.2 ++ [10])) hR hw), ⟨hEn, by rw [ht2]; exact hP, va_K.moved ha hK, hD⟩, hS.F ht2⟩) hS.2.2 (Nat.le_of_ble_eq_true rfl) (Nat.le_of_ble_eq_true rfl)
  · obtain ⟨⟨hP1, hK1, hD1⟩, hz9⟩ := hB
    rw [ht] at hP1
    rw [ht] at hz9
    refine w_tight (hq0.trans hz9) ?_
    have hq0 := hq0.trans hz9
    obtain ⟨hP, hD⟩ := va_joinP (wr := []) (rx := [(p1, .inr (3, [.ref pb, .int (nI k21), .ref ps])), (pb, .inl (cB, 16384, .inl g21)), (ps, .inl (cV, 32, .inr (.inr (.inr (.inr h9)))))]) (pl1 := va_pl L f) hP hD [0, 1, 2] [] rfl rfl (by decide) (by decide) hk1 hFc hP1 hD1
    generalize H1 = H at hP hS hq0 ⊢
    have hP : va_P (dC, dI) classes ([(p1, .inr (3, [.ref pb, .int (nI k21), .ref ps])), (pb, .inl (cB, 16384, .inl g21)), (ps, .inl (cV, 32, .inr (.inr (.inr (.inr h9)))))] ++ va_pl L f) H := hP
    have hD : va_D A ([(p1, .inr (3, [.ref pb, .int (nI k21), .ref ps])), (pb, .inl (cB, 16384, .inl g21)), (ps, .inl (cV, 32, .inr (.inr (.inr (.inr h9)))))] ++ va_pl L f) := hD
    have hw : WOK k g (([36] ++ pthJ ⟨32, xv⟩ nn.1)) k21 g21 := hw
    have hk21 := WOK.le hw hk
    have hR21 := WOK.go (T := ([36] ++ pthJ ⟨32, xv⟩ nn.1)) (R := [32] ++ (prU nn.2 ++ [10])) hR hw
    refine lv_aload_n hx hb d_Printer_line_5 rfl (lv_at hl 0 rfl) ?_
    refine lv_bipush (v := 32) hx hb d_Printer_line_6 (by decide) ?_
    have hPc := hP.sub (ws' := [(p1, .inr (3, [.ref pb, .int (nI k21), .ref ps])), (pb, .inl (cB, 16384, .inl g21))]) [0, 1] rfl
    have hDc := hD.sub (ws' := [(p1, .inr (3, [.ref pb, .int (nI k21), .ref ps])), (pb, .inl (cB, 16384, .inl g21))]) [0, 1] (by decide) rfl
    have hFc := va_free (wc := [(p1, .inr (3, [.ref pb, .int (nI k21), .ref ps])), (pb, .inl (cB, 16384, .inl g21))]) hD hS hA [0, 1] rfl
    have hKc := hK.sub (tys' := [(cB, .byte)]) [0] rfl
    refine w_same (fun hq0 => ?_)
    refine vx_callv (vx_runV (As := [.int 32]) (rest := []) ⟨hx, hb, hml, hown, hts⟩ (t_put l hl9 dC dI cB p1 pb H (.ref ps) g21 k21 32 hk21) (cwV 1 hts (gt_V (own := R_Printer) (C := R_Printer) (i := 25) (y := y_Printer_put) i_Printer_put w_957 w_959 (gt_sel (y := y_Printer_put) (n := 3) (by decide +kernel)) w_6) rfl rfl rfl (by decide +kernel) ⟨Nat.le_of_ble_eq_true rfl, Nat.le_of_ble_eq_true rfl⟩) ⟨mx_blind, va_recv hK hP (ci := 3) (q0 := 0) rfl rfl, fun U hU hW => ⟨rfl, ⟨hU, by rw [hU]; exact hPc, va_K.moved hW.alike hKc, hDc.weaken (fun _ _ _ _ => trivial)⟩, hN.warm hW, by rw [hU]; exact ZX.moved' hW.alike (ZX.narrow' (ZX.kept' hZ hS.2.1) hFc)⟩⟩ rfl rfl hl.1 rfl (lv_room (Nat.le_of_ble_eq_true rfl)) d_Printer_line_8 ⟨Nat.le_of_ble_eq_true rfl, Nat.le_of_ble_eq_true rfl⟩) hS (fun q _ h => hFc q h) hFc (fun q _ h => hFc q h) (fun En ce q9 ⟨kx, gx⟩ t9 H1 locs ht hvm hw hB hz1 hk1 hS hce hcv hcl => ?_) (fun ⟨k22, g22⟩ t9 H1 locs ht hvm hw hB hz1 hk1 hS => ?_)
    · obtain ⟨hEn, hP1, hK1, hD1⟩ := hB
      rw [ht] at hP1
      obtain ⟨hP, hD⟩ := va_joinQ (wr := [(ps, .inl (cV, 32, .inr (.inr (.inr (.inr h9)))))]) (w1 := [(p1, .inr (3, [.ref pb, .int (nI kx), .ref ps])), (pb, .inl (cB, 16384, .inl gx))]) hP hD [0, 1] [2] rfl rfl (by decide) (by decide) hk1 hFc hP1 hD1
      generalize H1 = H at hP hS hce ⊢
      have hP : va_P (dC, dI) classes ([(ps, .inl (cV, 32, .inr (.inr (.inr (.inr h9))))), (p1, .inr (3, [.ref pb, .int (nI kx), .ref ps])), (pb, .inl (cB, 16384, .inl gx))] ++ va_pl L f) H := hP
      have hD : va_D A ([(ps, .inl (cV, 32, .inr (.inr (.inr (.inr h9))))), (p1, .inr (3, [.ref pb, .int (nI kx), .ref ps])), (pb, .inl (cB, 16384, .inl gx))] ++ va_pl L f) := hD
      have hP := hP.part (cx := [(p1, .inr (3, [.ref pb, .int (nI kx), .ref ps])), (pb, .inl (cB, 16384, .inl gx)), (ps, .inl (cV, 32, .inr (.inr (.inr (.inr h9)))))]) [1, 2, 0] rfl
      have hD := hD.part (cx := [(p1, .inr (3, [.ref pb, .int (nI kx), .ref ps])), (pb, .inl (cB, 16384, .inl gx)), (ps, .inl (cV, 32, .inr (.inr (.inr (.inr h9)))))]) [1, 2, 0] (by decide) rfl
      exact vx_out (fun x hx => (hex x hx).elim) hlocks hce hcv hcl (fun t9 ht2 ha => ⟨(nI kx, gx, h9), (WNO.go (T := [32]) (R := prU nn.2 ++ [10]) hR21 hw), ⟨hEn, by rw [ht2]; exact hP, va_K.moved ha hK, hD⟩, hS.F ht2⟩) hS.2.2 (Nat.le_of_ble_eq_true rfl) (Nat.le_of_ble_eq_true rfl)
    · obtain ⟨⟨hP1, hK1, hD1⟩, hz9⟩ := hB
      rw [ht] at hP1
      rw [ht] at hz9
      refine w_tight (hq0.trans hz9) ?_
      have hq0 := hq0.trans hz9
      obtain ⟨hP, hD⟩ := va_joinQ (wr := [(ps, .inl (cV, 32, .inr (.inr (.inr (.inr h9)))))]) (w1 := [(p1, .inr (3, [.ref pb, .int (nI k22), .ref ps])), (pb, .inl (cB, 16384, .inl g22))]) hP hD [0, 1] [2] rfl rfl (by decide) (by decide) hk1 hFc hP1 hD1
      generalize H1 = H at hP hS hq0 ⊢
      have hP : va_P (dC, dI) classes ([(ps, .inl (cV, 32, .inr (.inr (.inr (.inr h9))))), (p1, .inr (3, [.ref pb, .int (nI k22), .ref ps])), (pb, .inl (cB, 16384, .inl g22))] ++ va_pl L f) H := hP
      have hD : va_D A ([(ps, .inl (cV, 32, .inr (.inr (.inr (.inr h9))))), (p1, .inr (3, [.ref pb, .int (nI k22), .ref ps])), (pb, .inl (cB, 16384, .inl g22))] ++ va_pl L f) := hD
      have hP := hP.part (cx := [(p1, .inr (3, [.ref pb, .int (nI k22), .ref ps])), (pb, .inl (cB, 16384, .inl g22)), (ps, .inl (cV, 32, .inr (.inr (.inr (.inr h9)))))]) [1, 2, 0] rfl
      have hD := hD.part (cx := [(p1, .inr (3, [.ref pb, .int (nI k22), .ref ps])), (pb, .inl (cB, 16384, .inl g22)), (ps, .inl (cV, 32, .inr (.inr (.inr (.inr h9)))))]) [1, 2, 0] (by decide) rfl
      have hw : WOK k21 g21 [32] k22 g22 := hw
      have hk22 := WOK.le hw hk21
      have hR22 := WOK.go (T := [32]) (R := prU nn.2 ++ [10]) hR21 hw
      refine lv_aload_n hx hb d_Printer_line_11 rfl (lv_at hl 0 rfl) ?_
      refine lv_aload_n hx hb d_Printer_line_12 rfl (lv_at hl 1 rfl) ?_
      refine lv_iconst (v := 0) hx hb d_Printer_line_13 (by decide) ?_
      have hPc := hP.part (cx := [(p1, .inr (3, [.ref pb, .int (nI k22), .ref ps])), (pb, .inl (cB, 16384, .inl g22))]) [0, 1] rfl
      have hDc := hD.part (cx := [(p1, .inr (3, [.ref pb, .int (nI k22), .ref ps])), (pb, .inl (cB, 16384, .inl g22))]) [0, 1] (by decide) rfl
      have hFc := va_freeP (cx := [(p1, .inr (3, [.ref pb, .int (nI k22), .ref ps])), (pb, .inl (cB, 16384, .inl g22))]) hD hS hA [0, 1] rfl
      have hKc := hK.sub (tys' := [(cB, .byte), (cI, .int), (cV, .object "QueryBench$Value")]) [0, 1, 2] rfl
      refine w_same (fun hq0 => ?_)
      refine vx_callv (vx_runV (As := [.ref nd, .int 0]) (rest := []) ⟨hx, hb, hml, hown, hts⟩ ((t_PVall l hl9 K dC dI cI cV E lv L f hO cB p1 pb ps xv AL hDq9 hDu hsm 32 0 rfl) H g22 k22 hk22 nd nn hnn (by obtain ⟨k9, h8, -⟩ := hnn; obtain ⟨q9, -, -, h7⟩ := pth_at 32 xv [] nn (List.mem_of_getElem? h8); omega)) (cwV 2 hts (gt_V (own := R_Printer) (C := R_Printer) (i := 29) (y := y_Printer_value) i_Printer_value z_987 z_989 (gt_sel (y := y_Printer_value) (n := 3) (by decide +kernel)) w_6) rfl rfl rfl (by decide +kernel) ⟨by show 14 + 2 * 32 + 1 ≤ 80; omega, by show 8 + (3 + 11) + (300 + 60 * 32) ≤ 2300; omega⟩) ⟨ml_blind, va_recv hK hP (ci := 3) (q0 := 0) rfl rfl, fun U hU hW => ⟨rfl, ⟨hU, by rw [hU]; exact hPc, va_K.moved hW.alike hKc, hDc.weaken (fun _ _ _ _ => trivial)⟩, hN.warm hW, by rw [hU]; exact ZX.moved' hW.alike (ZX.narrow' (ZX.kept' hZ hS.2.1) hFc), by rw [hU]; exact CE.call hC hS.2.1 hFc hW, va_AO.moved hW.alike hV⟩⟩ rfl rfl hl.1 rfl (lv_room (Nat.le_of_ble_eq_true rfl)) d_Printer_line_14 ⟨Nat.le_of_ble_eq_true rfl, Nat.le_of_ble_eq_true rfl⟩) hS (fun q _ h => hFc q h) hFc (fun q _ h => hFc q h) (fun En ce q9 ⟨kx, gx⟩ t9 H1 locs ht hvm hw hB hz1 hk1 hS hce hcv hcl => ?_) (fun ⟨k23, g23⟩ t9 H1 locs ht hvm hw hB hz1 hk1 hS => ?_)
      · obtain ⟨hEn, hP1, hK1, hD1⟩ := hB
        rw [ht] at hP1
        obtain ⟨hP, hD⟩ := va_joinP (wr := [(ps, .inl (cV, 32, .inr (.inr (.inr (.inr h9)))))]) (rx := [(p1, .inr (3, [.ref pb, .int kx, .ref ps])), (pb, .inl (cB, 16384, .inl gx))]) (pl1 := va_pl L f) hP hD [0, 1] [2] rfl rfl (by decide) (by decide) hk1 hFc hP1 hD1
        generalize H1 = H at hP hS hce ⊢
        have hP : va_P (dC, dI) classes ([(ps, .inl (cV, 32, .inr (.inr (.inr (.inr h9))))), (p1, .inr (3, [.ref pb, .int kx, .ref ps])), (pb, .inl (cB, 16384, .inl gx))] ++ va_pl L f) H := hP
        have hD : va_D A ([(ps, .inl (cV, 32, .inr (.inr (.inr (.inr h9))))), (p1, .inr (3, [.ref pb, .int kx, .ref ps])), (pb, .inl (cB, 16384, .inl gx))] ++ va_pl L f) := hD
        have hP := hP.part (cx := [(p1, .inr (3, [.ref pb, .int kx, .ref ps])), (pb, .inl (cB, 16384, .inl gx)), (ps, .inl (cV, 32, .inr (.inr (.inr (.inr h9)))))]) [1, 2, 0] rfl
        have hD := hD.part (cx := [(p1, .inr (3, [.ref pb, .int kx, .ref ps])), (pb, .inl (cB, 16384, .inl gx)), (ps, .inl (cV, 32, .inr (.inr (.inr (.inr h9)))))]) [1, 2, 0] (by decide) rfl
        exact vx_out (fun x hx => (hex x hx).elim) hlocks hce hcv hcl (fun t9 ht2 ha => ⟨(kx, gx, h9), (WNO.go (T := (prU nn.2)) (R := [10]) hR22 hw), ⟨hEn, by rw [ht2]; exact hP, va_K.moved ha hK, hD⟩, hS.F ht2⟩) hS.2.2 (Nat.le_of_ble_eq_true rfl) (Nat.le_of_ble_eq_true rfl)
      · obtain ⟨⟨hP1, hK1, hD1⟩, hz9⟩ := hB
        rw [ht] at hP1
        rw [ht] at hz9
        refine w_tight (hq0.trans hz9) ?_
        have hq0 := hq0.trans hz9
        obtain ⟨hP, hD⟩ := va_joinP (wr := [(ps, .inl (cV, 32, .inr (.inr (.inr (.inr h9)))))]) (rx := [(p1, .inr (3, [.ref pb, .int (nI k23), .ref ps])), (pb, .inl (cB, 16384, .inl g23))]) (pl1 := va_pl L f) hP hD [0, 1] [2] rfl rfl (by decide) (by decide) hk1 hFc hP1 hD1
        generalize H1 = H at hP hS hq0 ⊢
        have hP : va_P (dC, dI) classes ([(ps, .inl (cV, 32, .inr (.inr (.inr (.inr h9))))), (p1, .inr (3, [.ref pb, .int (nI k23), .ref ps])), (pb, .inl (cB, 16384, .inl g23))] ++ va_pl L f) H := hP
        have hD : va_D A ([(ps, .inl (cV, 32, .inr (.inr (.inr (.inr h9))))), (p1, .inr (3, [.ref pb, .int (nI k23), .ref ps])), (pb, .inl (cB, 16384, .inl g23))] ++ va_pl L f) := hD
        have hP := hP.part (cx := [(p1, .inr (3, [.ref pb, .int (nI k23), .ref ps])), (pb, .inl (cB, 16384, .inl g23)), (ps, .inl (cV, 32, .inr (.inr (.inr (.inr h9)))))]) [1, 2, 0] rfl
        have hD := hD.part (cx := [(p1, .inr (3, [.ref pb, .int (nI k23), .ref ps])), (pb, .inl (cB, 16384, .inl g23)), (ps, .inl (cV, 32, .inr (.inr (.inr (.inr h9)))))]) [1, 2, 0] (by decide) rfl
        have hw : WOK k22 g22 ((prU nn.2)) k23 g23 := hw
        have hk23 := WOK.le hw hk22
        have hR23 := WOK.go (T := (prU nn.2)) (R := [10]) hR22 hw
        refine lv_aload_n hx hb d_Printer_line_17 rfl (lv_at hl 0 rfl) ?_
        refine lv_bipush (v := 10) hx hb d_Printer_line_18 (by decide) ?_
        have hPc := hP.sub (ws' := [(p1, .inr (3, [.ref pb, .int (nI k23), .ref ps])), (pb, .inl (cB, 16384, .inl g23))]) [0, 1] rfl
        have hDc := hD.sub (ws' := [(p1, .inr (3, [.ref pb, .int (nI k23), .ref ps])), (pb, .inl (cB, 16384, .inl g23))]) [0, 1] (by decide) rfl
        have hFc := va_free (wc := [(p1, .inr (3, [.ref pb, .int (nI k23), .ref ps])), (pb, .inl (cB, 16384, .inl g23))]) hD hS hA [0, 1] rfl
        have hKc := hK.sub (tys' := [(cB, .byte)]) [0] rfl
        refine w_same (fun hq0 => ?_)
        refine vx_callv (vx_runV (As := [.int 10]) (rest := []) ⟨hx, hb, hml, hown, hts⟩ (t_put l hl9 dC dI cB p1 pb H (.ref ps) g23 k23 10 hk23) (cwV 1 hts (gt_V (own := R_Printer) (C := R_Printer) (i := 25) (y := y_Printer_put) i_Printer_put w_957 w_959 (gt_sel (y := y_Printer_put) (n := 3) (by decide +kernel)) w_6) rfl rfl rfl (by decide +kernel) ⟨Nat.le_of_ble_eq_true rfl, Nat.le_of_ble_eq_true rfl⟩) ⟨mx_blind, va_recv hK hP (ci := 3) (q0 := 0) rfl rfl, fun U hU hW => ⟨rfl, ⟨hU, by rw [hU]; exact hPc, va_K.moved hW.alike hKc, hDc.weaken (fun _ _ _ _ => trivial)⟩, hN.warm hW, by rw [hU]; exact ZX.moved' hW.alike (ZX.narrow' (ZX.kept' hZ hS.2.1) hFc)⟩⟩ rfl rfl hl.1 rfl (lv_room (Nat.le_of_ble_eq_true rfl)) d_Printer_line_20 ⟨Nat.le_of_ble_eq_true rfl, Nat.le_of_ble_eq_true rfl⟩) hS (fun q _ h => hFc q h) hFc (fun q _ h => hFc q h) (fun En ce q9 ⟨kx, gx⟩ t9 H1 locs ht hvm hw hB hz1 hk1 hS hce hcv hcl => ?_) (fun ⟨k24, g24⟩ t9 H1 locs ht hvm hw hB hz1 hk1 hS => ?_)
        · obtain ⟨hEn, hP1, hK1, hD1⟩ := hB
          rw [ht] at hP1
          obtain ⟨hP, hD⟩ := va_joinQ (wr := [(ps, .inl (cV, 32, .inr (.inr (.inr (.inr h9)))))]) (w1 := [(p1, .inr (3, [.ref pb, .int (nI kx), .ref ps])), (pb, .inl (cB, 16384, .inl gx))]) hP hD [0, 1] [2] rfl rfl (by decide) (by decide) hk1 hFc hP1 hD1
          generalize H1 = H at hP hS hce ⊢
          have hP : va_P (dC, dI) classes ([(ps, .inl (cV, 32, .inr (.inr (.inr (.inr h9))))), (p1, .inr (3, [.ref pb, .int (nI kx), .ref ps])), (pb, .inl (cB, 16384, .inl gx))] ++ va_pl L f) H := hP
          have hD : va_D A ([(ps, .inl (cV, 32, .inr (.inr (.inr (.inr h9))))), (p1, .inr (3, [.ref pb, .int (nI kx), .ref ps])), (pb, .inl (cB, 16384, .inl gx))] ++ va_pl L f) := hD
          have hP := hP.part (cx := [(p1, .inr (3, [.ref pb, .int (nI kx), .ref ps])), (pb, .inl (cB, 16384, .inl gx)), (ps, .inl (cV, 32, .inr (.inr (.inr (.inr h9)))))]) [1, 2, 0] rfl
          have hD := hD.part (cx := [(p1, .inr (3, [.ref pb, .int (nI kx), .ref ps])), (pb, .inl (cB, 16384, .inl gx)), (ps, .inl (cV, 32, .inr (.inr (.inr (.inr h9)))))]) [1, 2, 0] (by decide) rfl
          exact vx_out (fun x hx => (hex x hx).elim) hlocks hce hcv hcl (fun t9 ht2 ha => ⟨(nI kx, gx, h9), (WNO.go (T := [10]) (R := []) hR23 hw), ⟨hEn, by rw [ht2]; exact hP, va_K.moved ha hK, hD⟩, hS.F ht2⟩) hS.2.2 (Nat.le_of_ble_eq_true rfl) (Nat.le_of_ble_eq_true rfl)
        · obtain ⟨⟨hP1, hK1, hD1⟩, hz9⟩ := hB
          rw [ht] at hP1
          rw [ht] at hz9
          refine w_tight (hq0.trans hz9) ?_
          have hq0 := hq0.trans hz9
          obtain ⟨hP, hD⟩ := va_joinQ (wr := [(ps, .inl (cV, 32, .inr (.inr (.inr (.inr h9)))))]) (w1 := [(p1, .inr (3, [.ref pb, .int (nI k24), .ref ps])), (pb, .inl (cB, 16384, .inl g24))]) hP hD [0, 1] [2] rfl rfl (by decide) (by decide) hk1 hFc hP1 hD1
          generalize H1 = H at hP hS hq0 ⊢
          have hP : va_P (dC, dI) classes ([(ps, .inl (cV, 32, .inr (.inr (.inr (.inr h9))))), (p1, .inr (3, [.ref pb, .int (nI k24), .ref ps])), (pb, .inl (cB, 16384, .inl g24))] ++ va_pl L f) H := hP
          have hD : va_D A ([(ps, .inl (cV, 32, .inr (.inr (.inr (.inr h9))))), (p1, .inr (3, [.ref pb, .int (nI k24), .ref ps])), (pb, .inl (cB, 16384, .inl g24))] ++ va_pl L f) := hD
          have hP := hP.part (cx := [(p1, .inr (3, [.ref pb, .int (nI k24), .ref ps])), (pb, .inl (cB, 16384, .inl g24)), (ps, .inl (cV, 32, .inr (.inr (.inr (.inr h9)))))]) [1, 2, 0] rfl
          have hD := hD.part (cx := [(p1, .inr (3, [.ref pb, .int (nI k24), .ref ps])), (pb, .inl (cB, 16384, .inl g24)), (ps, .inl (cV, 32, .inr (.inr (.inr (.inr h9)))))]) [1, 2, 0] (by decide) rfl
          have hw : WOK k23 g23 [10] k24 g24 := hw
          have hk24 := WOK.le hw hk23
          have hR24 := WOK.go (T := [10]) (R := []) hR23 hw
          refine w_same (fun hq => ?_)
          refine W.widen (k := 1) (n := 6) (Nat.le_of_ble_eq_true rfl) (Nat.le_of_ble_eq_true rfl) ?_
          refine vx_ret ?_
          exact W.vret hx hb hr (fun t9 ht hW => ⟨⟨(k24, g24, h9), rfl, hR24, ⟨by rw [ht]; exact hP, va_K.moved hW.alike hK, hD⟩, by rw [ht]; exact hq⟩, hS.F ht⟩) hS.2.2 d_Printer_line_23
