theorem w_1548 : (.methodLink "QueryBenchModel$Tree" 69 ⟨"QueryBenchModel$Tree", "unit", "(I)V"⟩ : Cond) ∈ gtbl := gt_in 1548 (by decide +kernel) (by decide +kernel)
abbrev b_Tree_name : ByteArray := prog_15_method_14_code
def y_Tree_name : MethodName := ⟨"QueryBenchModel$Tree", "name", "(ILQueryBenchModel$Tree;II)V"⟩
abbrev k_Tree_name : Cond := .code y_Tree_name b_Tree_name 6 none
theorem i_Tree_name : k_Tree_name ∈ gtbl := gt_in 1553 (by decide +kernel) (by decide +kernel)
theorem d_Tree_name_0 : decode b_Tree_name 0 = .ok (.aload_n 0, 1) := by decide +kernel
theorem d_Tree_name_1 : decode b_Tree_name 1 = .ok (.getfield 31, 3) := by decide +kernel
theorem d_Tree_name_4 : decode b_Tree_name 4 = .ok (.iload_n 1, 1) := by decide +kernel
theorem d_Tree_name_5 : decode b_Tree_name 5 = .ok (.aload_n 0, 1) := by decide +kernel
theorem d_Tree_name_6 : decode b_Tree_name 6 = .ok (.getfield 51, 3) := by decide +kernel
theorem d_Tree_name_9 : decode b_Tree_name 9 = .ok (.iastore, 1) := by decide +kernel
theorem d_Tree_name_10 : decode b_Tree_name 10 = .ok (.aload_n 0, 1) := by decide +kernel
theorem d_Tree_name_11 : decode b_Tree_name 11 = .ok (.getfield 34, 3) := by decide +kernel
theorem d_Tree_name_14 : decode b_Tree_name 14 = .ok (.iload_n 1, 1) := by decide +kernel
theorem d_Tree_name_15 : decode b_Tree_name 15 = .ok (.iload 4, 2) := by decide +kernel
theorem d_Tree_name_17 : decode b_Tree_name 17 = .ok (.iastore, 1) := by decide +kernel
theorem d_Tree_name_18 : decode b_Tree_name 18 = .ok (.iconst 0, 1) := by decide +kernel
theorem d_Tree_name_19 : decode b_Tree_name 19 = .ok (.istore 5, 2) := by decide +kernel
theorem d_Tree_name_21 : decode b_Tree_name 21 = .ok (.iload 5, 2) := by decide +kernel
theorem d_Tree_name_23 : decode b_Tree_name 23 = .ok (.iload 4, 2) := by decide +kernel
theorem d_Tree_name_25 : decode b_Tree_name 25 = .ok (.if_icmp .ge 22, 3) := by decide +kernel
theorem d_Tree_name_28 : decode b_Tree_name 28 = .ok (.aload_n 0, 1) := by decide +kernel
theorem d_Tree_name_29 : decode b_Tree_name 29 = .ok (.aload_n 2, 1) := by decide +kernel
theorem d_Tree_name_30 : decode b_Tree_name 30 = .ok (.getfield 43, 3) := by decide +kernel
theorem d_Tree_name_33 : decode b_Tree_name 33 = .ok (.iload_n 3, 1) := by decide +kernel
theorem d_Tree_name_34 : decode b_Tree_name 34 = .ok (.iload 5, 2) := by decide +kernel
theorem d_Tree_name_36 : decode b_Tree_name 36 = .ok (.iadd, 1) := by decide +kernel
theorem d_Tree_name_37 : decode b_Tree_name 37 = .ok (.caload, 1) := by decide +kernel
theorem d_Tree_name_38 : decode b_Tree_name 38 = .ok (.invokevirtual 69, 3) := by decide +kernel
theorem d_Tree_name_41 : decode b_Tree_name 41 = .ok (.iinc 5 1, 3) := by decide +kernel
theorem d_Tree_name_44 : decode b_Tree_name 44 = .ok (.goto (-23), 3) := by decide +kernel
theorem d_Tree_name_47 : decode b_Tree_name 47 = .ok (.return_, 1) := by decide +kernel
set_option maxHeartbeats 4000000 in
set_option maxRecDepth 100000 in
/-- Tree.name -/
theorem c_Tree_name (l : Launch) (dC : Nat → ClassId) (dI : Nat → Nat → Nat) (t tv : Nat) (sz : Heap) (cI cC : ClassId) (T V : TS) (x9 s2 L2 : Nat) (hT : TOK T) (hV : TOK V) (hx9 : x9 < T.ct) (hs2 : s2 + L2 ≤ V.us) (hcu : T.us + L2 ≤ 400000) : Met l y_Tree_name (k_Tree_name :: gtbl) ({ frames := 1, cells := qcap T (T.us + L2), slots := 2 * qcap T (T.us + L2), locals := 30 }) (va_Pc [.ref t, .int (nI x9), .ref tv, .int (nI s2), .int (nI L2)] (mp dC dI [(t, .inr (12, MF 13 (tw T))), (T.a6, .inl (cI, T.N, .inl T.ns)), (T.a7, .inl (cI, T.N, .inl T.nl)), (T.au, .inl (cC, T.U, .inl T.un)), (tv, .inr (12, MF 13 (tw V))), (V.au, .inl (cC, V.U, .inl V.un))] [(cI, .int), (cC, .char)] sz)) (va_Qv (fun (u : TS × List Int32) => TX T u.1 u.2 ∧ u.2.length = L2 ∧ u.2 = sl V.un s2 L2) (fun u t9 => mz dC dI [(t, .inr (12, MF 13 (tw u.1))), (T.a6, .inl (cI, T.N, .inl (upd T.ns x9 (nI T.us)))), (T.a7, .inl (cI, T.N, .inl (upd T.nl x9 (nI L2)))), (u.1.au, .inl (cC, u.1.U, .inl u.1.un)), (tv, .inr (12, MF 13 (tw V))), (V.au, .inl (cC, V.U, .inl V.un))] [(cI, .int), (cC, .char)] (va_A [(t, .inr (12, MF 13 (tw T))), (T.a6, .inl (cI, T.N, .inl T.ns)), (T.a7, .inl (cI, T.N, .inl T.nl)), (T.au, .inl (cC, T.U, .inl T.un)), (tv, .inr (12, MF 13 (tw V))), (V.au, .inl (cC, V.U, .inl V.un))] sz.size) t9 ∧ szk sz t9.heap (u.1.U - T.U) (2 * (u.1.U - T.U))) (va_A [(t, .inr (12, MF 13 (tw T))), (T.a6, .inl (cI, T.N, .inl T.ns)), (T.a7, .inl (cI, T.N, .inl T.nl)), (T.au, .inl (cC, T.U, .inl T.un)), (tv, .inr (12, MF 13 (tw V))), (V.au, .inl (cC, V.U, .inl V.un))] sz.size)) (qcap T (T.us + L2)) (2 * qcap T (T.us + L2)) (va_A [(t, .inr (12, MF 13 (tw T))), (T.a6, .inl (cI, T.N, .inl T.ns)), (T.a7, .inl (cI, T.N, .inl T.nl)), (T.au, .inl (cC, T.U, .inl T.un)), (tv, .inr (12, MF 13 (tw V))), (V.au, .inl (cC, V.U, .inl V.un))] sz.size) := by
  refine Met.ofW (cc := b_Tree_name) (maxL := 6) (ret := none) (by decide) rfl ?_
  intro p e s m args below meth c s₁ B hml hv
  obtain ⟨rfl, hsz, hP, hK, hD0⟩ := hv
  have hx := B.exec
  have hb := B.bytes
  have hr := B.returns
  have hts0 := atoms_spec (ws := k_Tree_name :: gtbl) B.pre
  have hts := fun w h => hts0 w (List.mem_cons_of_mem _ h)
  have hown : s.vm.findClass R_Tree = some m.cls := findClass_of_methodNamed B.named
  have hlocks := B.notSynchronized
  subst hsz
  have hD := hD0.self (sz := s.heap.size)
  generalize hAe : va_A [(t, .inr (12, MF 13 (tw T))), (T.a6, .inl (cI, T.N, .inl T.ns)), (T.a7, .inl (cI, T.N, .inl T.nl)), (T.au, .inl (cC, T.U, .inl T.un)), (tv, .inr (12, MF 13 (tw V))), (V.au, .inl (cC, V.U, .inl V.un))] s.heap.size = A at hD ⊢
  have hA : ∀ q : Nat, s.heap.size ≤ q → A q := fun q h => by rw [← hAe]; exact Or.inr h
  have hS : va_S A s.heap s.heap [] := va_S.rf
  have hP : va_P (dC, dI) classes [(t, .inr (12, MF 13 (tw T))), (T.a6, .inl (cI, T.N, .inl T.ns)), (T.a7, .inl (cI, T.N, .inl T.nl)), (T.au, .inl (cC, T.U, .inl T.un)), (tv, .inr (12, MF 13 (tw V))), (V.au, .inl (cC, V.U, .inl V.un))] s.heap := hP
  have hl := lv_entry ([.ref t, .int (nI x9), .ref tv, .int (nI s2), .int (nI L2)]) (n := 6) (Nat.le_of_ble_eq_true rfl)
  rw [lg_entry_eq]
  generalize (lg_sl ([.ref t, .int (nI x9), .ref tv, .int (nI s2), .int (nI L2)]) ++ List.replicate (6 - (lg_sl ([.ref t, .int (nI x9), .ref tv, .int (nI s2), .int (nI L2)])).length) Slot.unset).toArray = ls at hl ⊢
  have hl : lv_has ls 6 [(0, .ref t), (1, .int (nI x9)), (2, .ref tv), (3, .int (nI s2)), (4, .int (nI L2))] := hl
  have hT0 := hT
  obtain ⟨ho1, ho2, ho3, ho4, ho5, ho6, ho7⟩ := hT
  obtain ⟨hv1, hv2, hv3, hv4, hv5, hv6, hv7⟩ := hV
  refine lv_aload_n hx hb d_Tree_name_0 rfl (lv_at hl 0 rfl) ?_
  refine va_get (D := (dC, dI)) (ci := 12) (v := .ref T.a6) (C := R_Tree) (T := F_Tree) (N := 13) hx hb hts in_Tree hown hK hP 0 rfl rfl 6 (by decide) (hts _ w_1046) (fun _ h9 => h9) (MFg (by decide) rfl) d_Tree_name_1 ?_
  refine lv_iload_n hx hb d_Tree_name_4 rfl (lv_at hl 1 rfl) ?_
  refine lv_aload_n hx hb d_Tree_name_5 rfl (lv_at hl 0 rfl) ?_
  refine va_get (D := (dC, dI)) (ci := 12) (v := .int (nI T.us)) (C := R_Tree) (T := F_Tree) (N := 13) hx hb hts in_Tree hown hK hP 0 rfl rfl 12 (by decide) (hts _ w_1057) (fun _ h9 => h9) (MFg (by decide) rfl) d_Tree_name_6 ?_
  refine va_iast hx hb hK hP hD hS 1 0 rfl rfl (vp_in_nI (show x9 < T.N by omega) (by omega)) d_Tree_name_9 (fun H locs hP hD hS => ?_)
  rw [show (nI x9).toNatClampNeg = x9 from nI_clamp (by omega)] at hP hD
  have hP : va_P (dC, dI) classes [(t, .inr (12, MF 13 (tw T))), (T.a6, .inl (cI, T.N, .inl (upd T.ns x9 (nI T.us)))), (T.a7, .inl (cI, T.N, .inl T.nl)), (T.au, .inl (cC, T.U, .inl T.un)), (tv, .inr (12, MF 13 (tw V))), (V.au, .inl (cC, V.U, .inl V.un))] H := hP
  have hD : va_D A [(t, .inr (12, MF 13 (tw T))), (T.a6, .inl (cI, T.N, .inl (upd T.ns x9 (nI T.us)))), (T.a7, .inl (cI, T.N, .inl T.nl)), (T.au, .inl (cC, T.U, .inl T.un)), (tv, .inr (12, MF 13 (tw V))), (V.au, .inl (cC, V.U, .inl V.un))] := hD
  refine lv_aload_n hx hb d_Tree_name_10 rfl (lv_at hl 0 rfl) ?_
  refine va_get (D := (dC, dI)) (ci := 12) (v := .ref T.a7) (C := R_Tree) (T := F_Tree) (N := 13) hx hb hts in_Tree hown hK hP 0 rfl rfl 7 (by decide) (hts _ w_1048) (fun _ h9 => h9) (MFg (by decide) rfl) d_Tree_name_11 ?_
  refine lv_iload_n hx hb d_Tree_name_14 rfl (lv_at hl 1 rfl) ?_
  refine lv_iload hx hb d_Tree_name_15 (lv_at hl 4 rfl) ?_
  refine va_iast hx hb hK hP hD hS 2 0 rfl rfl (vp_in_nI (show x9 < T.N by omega) (by omega)) d_Tree_name_17 (fun H locs hP hD hS => ?_)
  rw [show (nI x9).toNatClampNeg = x9 from nI_clamp (by omega)] at hP hD
  have hP : va_P (dC, dI) classes [(t, .inr (12, MF 13 (tw T))), (T.a6, .inl (cI, T.N, .inl (upd T.ns x9 (nI T.us)))), (T.a7, .inl (cI, T.N, .inl (upd T.nl x9 (nI L2)))), (T.au, .inl (cC, T.U, .inl T.un)), (tv, .inr (12, MF 13 (tw V))), (V.au, .inl (cC, V.U, .inl V.un))] H := hP
  have hD : va_D A [(t, .inr (12, MF 13 (tw T))), (T.a6, .inl (cI, T.N, .inl (upd T.ns x9 (nI T.us)))), (T.a7, .inl (cI, T.N, .inl (upd T.nl x9 (nI L2)))), (T.au, .inl (cC, T.U, .inl T.un)), (tv, .inr (12, MF 13 (tw V))), (V.au, .inl (cC, V.U, .inl V.un))] := hD
  refine lv_iconst (v := 0) hx hb d_Tree_name_18 (by decide) ?_
  refine lv_istore (lv' := [(5, .int 0), (0, .ref t), (1, .int (nI x9)), (2, .ref tv), (3, .int (nI s2)), (4, .int (nI L2))]) hx hb d_Tree_name_19 hl (by decide) rfl (fun ls hl => ?_)
  refine w_same (fun hq => ?_)
  refine W.widen (k := qcap T (T.us + L2)) (n := 2 * qcap T (T.us + L2)) (Nat.zero_le _) (Nat.zero_le _) ?_
  refine w_loopH (D := (dC, dI)) (cl := classes) (A := A) (H0 := s.heap) (nL := 6) 21 (σ := TS × List Int32) (fun ⟨Tc, us⟩ H => TX T Tc us ∧ (us.length ≤ L2 ∧ us = sl V.un s2 us.length) ∧ szk s.heap H (Tc.U - T.U) (2 * (Tc.U - T.U))) (fun ⟨Tc, us⟩ => L2 - us.length) (fun ⟨Tc, us⟩ => [(t, .inr (12, MF 13 (tw Tc))), (T.a6, .inl (cI, T.N, .inl (upd T.ns x9 (nI T.us)))), (T.a7, .inl (cI, T.N, .inl (upd T.nl x9 (nI L2)))), (Tc.au, .inl (cC, Tc.U, .inl Tc.un)), (tv, .inr (12, MF 13 (tw V))), (V.au, .inl (cC, V.U, .inl V.un))]) (fun ⟨Tc, us⟩ => [(0, .ref t), (1, .int (nI x9)), (2, .ref tv), (3, .int (nI s2)), (4, .int (nI L2)), (5, .int (nI us.length))]) ?_ (T, []) ⟨TX.rf hT0, ⟨Nat.zero_le _, rfl⟩, hq.mono (Nat.zero_le _) (Nat.zero_le _)⟩ hP hD hS (lv_sub hl [1, 2, 3, 4, 5, 0] rfl)
  rintro ⟨Tc, us⟩ H locs ls hI ih hP hD hS hl
  have hP : va_P (dC, dI) classes [(t, .inr (12, MF 13 (tw Tc))), (T.a6, .inl (cI, T.N, .inl (upd T.ns x9 (nI T.us)))), (T.a7, .inl (cI, T.N, .inl (upd T.nl x9 (nI L2)))), (Tc.au, .inl (cC, Tc.U, .inl Tc.un)), (tv, .inr (12, MF 13 (tw V))), (V.au, .inl (cC, V.U, .inl V.un))] H := hP
  have hD : va_D A [(t, .inr (12, MF 13 (tw Tc))), (T.a6, .inl (cI, T.N, .inl (upd T.ns x9 (nI T.us)))), (T.a7, .inl (cI, T.N, .inl (upd T.nl x9 (nI L2)))), (Tc.au, .inl (cC, Tc.U, .inl Tc.un)), (tv, .inr (12, MF 13 (tw V))), (V.au, .inl (cC, V.U, .inl V.un))] := hD
  have hl : lv_has ls 6 [(0, .ref t), (1, .int (nI x9)), (2, .ref tv), (3, .int (nI s2)), (4, .int (nI L2)), (5, .int (nI us.length))] := hl
  obtain ⟨hTX, ⟨hI1, hI2⟩, hI5⟩ := hI
  refine w_tight hI5 ?_
  have hTc := hTX.ok hT0 (by omega)
  refine lv_iload hx hb d_Tree_name_21 (lv_at hl 5 rfl) ?_
  refine lv_iload hx hb d_Tree_name_23 (lv_at hl 4 rfl) ?_
  refine lv_icmp_ge (tgt := 47) hx hb d_Tree_name_25 (by decide) (fun c25 => ?_) (fun c25 => ?_)
  · have hl2 : us.length = L2 := by rw [nI_leI (by omega) (by omega)] at c25; omega
    refine w_same (fun hq => ?_)
    have hcp3 := q_cap hTX (B := (T.us + L2)) (by omega)
    refine W.widen (k := qcap T (T.us + L2)) (n := 2 * qcap T (T.us + L2)) (by omega) (by omega) ?_
    exact W.vret hx hb hr (fun t9 ht hW => ⟨⟨(Tc, us), rfl, ⟨hTX, hl2, by rw [← hl2]; exact hI2⟩, ⟨by rw [ht]; exact hP, va_K.moved hW.alike hK, hD⟩, by rw [ht]; exact hq⟩, hS.F ht⟩) hS.2.2 d_Tree_name_47
  · refine lv_aload_n hx hb d_Tree_name_28 rfl (lv_at hl 0 rfl) ?_
    refine lv_aload_n hx hb d_Tree_name_29 rfl (lv_at hl 2 rfl) ?_
    refine va_get (D := (dC, dI)) (ci := 12) (v := .ref V.au) (C := R_Tree) (T := F_Tree) (N := 13) hx hb hts in_Tree hown hK hP 4 rfl rfl 11 (by decide) (hts _ w_1055) (fun _ h9 => h9) (MFg (by decide) rfl) d_Tree_name_30 ?_
    refine lv_iload_n hx hb d_Tree_name_33 rfl (lv_at hl 3 rfl) ?_
    refine lv_iload hx hb d_Tree_name_34 (lv_at hl 5 rfl) ?_
    refine lv_iadd hx hb d_Tree_name_36 ?_
    have hj : us.length < L2 := by rw [nI_leI (by omega) (by omega)] at c25; omega
    refine W.eq (g2 := F0 m 37 ls [.int (nI (s2 + us.length)), .ref V.au, .ref t]) (by rw [show ((nI s2) + (nI us.length)) = (nI (s2 + us.length)) from nI_add _ _]) ?_
    refine va_cald hx hb hK hP 5 1 rfl rfl (vp_in_nI (show s2 + us.length < V.U by omega) (by omega)) d_Tree_name_37 ?_
    rw [show (nI (s2 + us.length)).toNatClampNeg = s2 + us.length from nI_clamp (by omega)]
    have hft := q_fit hTX hT0 (B := (T.us + L2)) (by omega)
    have hPc := hP.sub (ws' := [(t, .inr (12, MF 13 (tw Tc))), (Tc.au, .inl (cC, Tc.U, .inl Tc.un))]) [0, 3] rfl
    have hDc := hD.sub (ws' := [(t, .inr (12, MF 13 (tw Tc))), (Tc.au, .inl (cC, Tc.U, .inl Tc.un))]) [0, 3] (by decide) rfl
    have hKc := hK.sub (tys' := [(cC, .char)]) [1] rfl
    have hFc := va_free (wc := [(t, .inr (12, MF 13 (tw Tc))), (Tc.au, .inl (cC, Tc.U, .inl Tc.un))]) hD hS hA [0, 3] rfl
    refine w_same (fun hq0 => ?_)
    refine va_callv (va_runV (As := [.int (V.un (s2 + us.length))]) (rest := []) ⟨hx, hb, hml, hown, hts⟩ (c_Tree_unitT l dC dI t H cC Tc (V.un (s2 + us.length)) hTc) (cwV 1 hts (gt_V (own := R_Tree) (C := R_Tree) (i := 69) (y := y_Tree_unit) i_Tree_unit w_1548 w_1266 w_1267 w_8) rfl rfl rfl (by decide +kernel) ⟨Nat.le_of_ble_eq_true rfl, Nat.le_of_ble_eq_true rfl⟩) ⟨mp_blind, va_recv hKc hPc (ci := 12) (q0 := 0) rfl rfl, fun U hU hW => ⟨rfl, hU, by rw [hU]; exact hPc, va_K.moved hW.alike hKc, hDc.weaken (fun _ _ _ _ => trivial)⟩⟩ rfl rfl hl.1 rfl (lv_room (Nat.le_of_ble_eq_true rfl)) d_Tree_name_38 ⟨by show Tc.U - T.U + grC Tc.U Tc.us ≤ qcap T (T.us + L2); omega, by show 2 * (Tc.U - T.U) + grS Tc.U Tc.us ≤ 2 * qcap T (T.us + L2); omega⟩) hS (fun q _ h => hFc q h) hFc (fun Ta t9 H1 locs ht hvm hw hB hz1 hk1 hS => ?_)
    obtain ⟨⟨hP1, hK1, hD1⟩, hz9⟩ := hB
    rw [ht] at hP1
    rw [ht] at hz9
    have hw : TX Tc Ta [(V.un (s2 + us.length))] := hw
    have hX_Ta : TX T Ta (us ++ [(V.un (s2 + us.length))]) := hTX.trans hw
    have hU1 := hw.U.1
    have hU2 := hTX.U.1
    have hq1 : szk s.heap H1 (Ta.U - T.U) (2 * (Ta.U - T.U)) := (hq0.trans hz9).mono (by omega) (by omega)
    refine w_tight hq1 ?_
    obtain ⟨hP, hD⟩ := va_join (wr := [(T.a6, .inl (cI, T.N, .inl (upd T.ns x9 (nI T.us)))), (T.a7, .inl (cI, T.N, .inl (upd T.nl x9 (nI L2)))), (tv, .inr (12, MF 13 (tw V))), (V.au, .inl (cC, V.U, .inl V.un))]) (w1 := [(t, .inr (12, MF 13 (tw Ta))), (Ta.au, .inl (cC, Ta.U, .inl Ta.un))]) hP hD [0, 3] [1, 2, 4, 5] rfl rfl (by decide) (by decide) hk1 hFc hP1 hD1
    generalize H1 = H at hP hS ⊢
    have hP : va_P (dC, dI) classes [(T.a6, .inl (cI, T.N, .inl (upd T.ns x9 (nI T.us)))), (T.a7, .inl (cI, T.N, .inl (upd T.nl x9 (nI L2)))), (tv, .inr (12, MF 13 (tw V))), (V.au, .inl (cC, V.U, .inl V.un)), (t, .inr (12, MF 13 (tw Ta))), (Ta.au, .inl (cC, Ta.U, .inl Ta.un))] H := hP
    have hD : va_D A [(T.a6, .inl (cI, T.N, .inl (upd T.ns x9 (nI T.us)))), (T.a7, .inl (cI, T.N, .inl (upd T.nl x9 (nI L2)))), (tv, .inr (12, MF 13 (tw V))), (V.au, .inl (cC, V.U, .inl V.un)), (t, .inr (12, MF 13 (tw Ta))), (Ta.au, .inl (cC, Ta.U, .inl Ta.un))] := hD
    have hP := hP.sub (ws' := [(t, .inr (12, MF 13 (tw Ta))), (T.a6, .inl (cI, T.N, .inl (upd T.ns x9 (nI T.us)))), (T.a7, .inl (cI, T.N, .inl (upd T.nl x9 (nI L2)))), (tv, .inr (12, MF 13 (tw V))), (V.au, .inl (cC, V.U, .inl V.un)), (Ta.au, .inl (cC, Ta.U, .inl Ta.un))]) [4, 0, 1, 2, 3, 5] rfl
    have hD := hD.sub (ws' := [(t, .inr (12, MF 13 (tw Ta))), (T.a6, .inl (cI, T.N, .inl (upd T.ns x9 (nI T.us)))), (T.a7, .inl (cI, T.N, .inl (upd T.nl x9 (nI L2)))), (tv, .inr (12, MF 13 (tw V))), (V.au, .inl (cC, V.U, .inl V.un)), (Ta.au, .inl (cC, Ta.U, .inl Ta.un))]) [4, 0, 1, 2, 3, 5] (by decide) rfl
    have hP := hP.sub (ws' := [(t, .inr (12, MF 13 (tw Ta))), (T.a6, .inl (cI, T.N, .inl (upd T.ns x9 (nI T.us)))), (T.a7, .inl (cI, T.N, .inl (upd T.nl x9 (nI L2)))), (Ta.au, .inl (cC, Ta.U, .inl Ta.un)), (tv, .inr (12, MF 13 (tw V))), (V.au, .inl (cC, V.U, .inl V.un))]) [0, 1, 2, 5, 3, 4] rfl
    have hD := hD.sub (ws' := [(t, .inr (12, MF 13 (tw Ta))), (T.a6, .inl (cI, T.N, .inl (upd T.ns x9 (nI T.us)))), (T.a7, .inl (cI, T.N, .inl (upd T.nl x9 (nI L2)))), (Ta.au, .inl (cC, Ta.U, .inl Ta.un)), (tv, .inr (12, MF 13 (tw V))), (V.au, .inl (cC, V.U, .inl V.un))]) [0, 1, 2, 5, 3, 4] (by decide) rfl
    refine lv_iinc (v := nI (us.length + 1)) (lv' := [(5, .int (nI (us.length + 1))), (0, .ref t), (1, .int (nI x9)), (2, .ref tv), (3, .int (nI s2)), (4, .int (nI L2))]) hx hb d_Tree_name_41 hl (k := 5) rfl (nI_1 _) (by decide) rfl (fun ls hl => ?_)
    refine lv_goto (tgt := 21) hx hb d_Tree_name_44 (by decide) ?_
    refine w_same (fun hq => ?_)
    have hcp2 := q_cap hX_Ta (B := (T.us + L2)) (by rw [List.length_append, List.length_singleton]; omega)
    refine W.widen (k := qcap T (T.us + L2)) (n := 2 * qcap T (T.us + L2)) (by omega) (by omega) ?_
    have hl9 : lv_has ls 6 [(0, .ref t), (1, .int (nI x9)), (2, .ref tv), (3, .int (nI s2)), (4, .int (nI L2)), (5, .int (nI (us ++ [V.un (s2 + us.length)]).length))] := by rw [List.length_append, List.length_singleton]; exact lv_sub hl [1, 2, 3, 4, 5, 0] rfl
    exact ih (Ta, us ++ [V.un (s2 + us.length)]) _ _ _ ⟨hX_Ta, ⟨by show (us ++ [V.un (s2 + us.length)]).length ≤ L2; rw [List.length_append, List.length_singleton]; omega, slu_ap hI2⟩, hq⟩ (by show L2 - (us ++ [V.un (s2 + us.length)]).length < L2 - us.length; rw [List.length_append, List.length_singleton]; omega) hP hD hS hl9
