theorem z_117 : (.fieldLink "QueryBench$Walk" 21 "QueryBench$Walk" "top" "I" : Cond) ∈ gtbl := gt_in 117 (by decide +kernel) (by decide +kernel)
theorem z_315 : (.fieldLink "QueryBench$Walk" 125 "QueryBench$Value" "kind" "I" : Cond) ∈ gtbl := gt_in 315 (by decide +kernel) (by decide +kernel)
theorem z_328 : (.fieldLink "QueryBench$Walk" 122 "QueryBench$Value" "members" "[LQueryBench$Value;" : Cond) ∈ gtbl := gt_in 328 (by decide +kernel) (by decide +kernel)
theorem z_839 : (.methodLink "QueryBench$Walk" 38 ⟨"QueryBench$Walk", "push", "(LQueryBench$Value;)V"⟩ : Cond) ∈ gtbl := gt_in 839 (by decide +kernel) (by decide +kernel)
theorem z_841 : (.instanceMethod ⟨"QueryBench$Walk", "push", "(LQueryBench$Value;)V"⟩ : Cond) ∈ gtbl := gt_in 841 (by decide +kernel) (by decide +kernel)
theorem z_843 : (.methodLink "QueryBench$Walk" 58 ⟨"QueryBench$Walk", "spend", "()V"⟩ : Cond) ∈ gtbl := gt_in 843 (by decide +kernel) (by decide +kernel)
theorem z_845 : (.instanceMethod ⟨"QueryBench$Walk", "spend", "()V"⟩ : Cond) ∈ gtbl := gt_in 845 (by decide +kernel) (by decide +kernel)
theorem z_861 : (.methodLink "QueryBench$Walk" 114 ⟨"QueryBench$Value", "member", "([I)LQueryBench$Value;"⟩ : Cond) ∈ gtbl := gt_in 861 (by decide +kernel) (by decide +kernel)
theorem z_874 : (.methodLink "QueryBench$Walk" 118 ⟨"QueryBench$Value", "size", "()I"⟩ : Cond) ∈ gtbl := gt_in 874 (by decide +kernel) (by decide +kernel)
theorem cut_in {a b x m r : Int64} (h : a.toInt ≤ b.toInt) (em : m = if x < b then x else b) (er : r = if a < m then m else a) : a.toInt ≤ r.toInt ∧ r.toInt ≤ b.toInt := by
  have hm : m.toInt ≤ b.toInt := by
    rw [em]
    split
    · rename_i h1
      have h3 := Int64.lt_iff_toInt_lt.mp h1
      omega
    · omega
  rw [er]
  split
  · rename_i h1
    have h3 := Int64.lt_iff_toInt_lt.mp h1
    omega
  · omega
theorem l_idx {x : Int64} {n : Nat} (h0 : 0 ≤ x.toInt) (h1 : x.toInt < n) (hn : n ≤ 4096) : ∃ j, j < n ∧ x = lN j := by
  refine ⟨x.toInt.toNat, by omega, ?_⟩
  apply Int64.toInt_inj.mp
  rw [pk_lT (by omega)]
  omega
theorem l_add {x y : Int64} (h0 : -4 ≤ x.toInt) (h1 : x.toInt ≤ 4096) (h2 : -9007199254740992 ≤ y.toInt) (h3 : y.toInt ≤ 9007199254740992) : (x + y).toInt = x.toInt + y.toInt := by
  rw [Int64.toInt_add]
  apply Int.bmod_eq_of_le <;> omega
theorem l_at {x : Int64} {n : Nat} (hn : n ≤ 4096) (h0 : ¬ lg_cmp x 0 < 0) (h1 : ¬ 0 ≤ lg_cmp x (nI n).toInt64) : ∃ j, j < n ∧ x = lN j := by
  have a0 : ¬ x < 0 := fun h => h0 ((lg_cmp_lt _ _).mpr h)
  have a1 : ¬ (nI n).toInt64 ≤ x := fun h => h1 ((lg_cmp_ge _ _).mpr h)
  obtain ⟨j, hj, rfl⟩ := pk_lOf a0
  rw [nI_l (by omega), pk_lLE (by omega) (by omega)] at a1
  exact ⟨j, by omega, rfl⟩
theorem i64_nI {n : Nat} (h : n ≤ 4096) : (nI n).toInt64.toInt = n := by rw [nI_l (by omega), pk_lT (by omega)]
abbrev b_Walk_push : ByteArray := prog_12_method_5_code
def y_Walk_push : MethodName := ⟨"QueryBench$Walk", "push", "(LQueryBench$Value;)V"⟩
abbrev k_Walk_push : Cond := .code y_Walk_push b_Walk_push 2 none
theorem i_Walk_push : k_Walk_push ∈ gtbl := gt_in 842 (by decide +kernel) (by decide +kernel)
theorem d_Walk_push_0 : decode b_Walk_push 0 = .ok (.aload_n 0, 1) := by decide +kernel
theorem d_Walk_push_1 : decode b_Walk_push 1 = .ok (.invokevirtual 58, 3) := by decide +kernel
theorem d_Walk_push_4 : decode b_Walk_push 4 = .ok (.aload_n 0, 1) := by decide +kernel
theorem d_Walk_push_5 : decode b_Walk_push 5 = .ok (.getfield 11, 3) := by decide +kernel
theorem d_Walk_push_8 : decode b_Walk_push 8 = .ok (.aload_n 0, 1) := by decide +kernel
theorem d_Walk_push_9 : decode b_Walk_push 9 = .ok (.getfield 21, 3) := by decide +kernel
theorem d_Walk_push_12 : decode b_Walk_push 12 = .ok (.aload_n 1, 1) := by decide +kernel
theorem d_Walk_push_13 : decode b_Walk_push 13 = .ok (.aastore, 1) := by decide +kernel
theorem d_Walk_push_14 : decode b_Walk_push 14 = .ok (.aload_n 0, 1) := by decide +kernel
theorem d_Walk_push_15 : decode b_Walk_push 15 = .ok (.dup, 1) := by decide +kernel
theorem d_Walk_push_16 : decode b_Walk_push 16 = .ok (.getfield 21, 3) := by decide +kernel
theorem d_Walk_push_19 : decode b_Walk_push 19 = .ok (.iconst 1, 1) := by decide +kernel
theorem d_Walk_push_20 : decode b_Walk_push 20 = .ok (.iadd, 1) := by decide +kernel
theorem d_Walk_push_21 : decode b_Walk_push 21 = .ok (.putfield 21, 3) := by decide +kernel
theorem d_Walk_push_24 : decode b_Walk_push 24 = .ok (.return_, 1) := by decide +kernel
set_option maxHeartbeats 4000000 in
set_option maxRecDepth 100000 in
/-- Walk.push -/
theorem c_Walk_push (l : Launch) (hl9 : l.stackTraces = false) (K : Nat → Nat × Nat) (dC : Nat → ClassId) (dI : Nat → Nat → Nat) (sz : Heap) (cI cV : ClassId) (E lv : Nat → Nat) (L : List Nat) (f : Nat → va_E) (hO : PO cI cV E lv L f) (hN1 : ∀ a, E a ≠ 1) (wk wl rt : Nat) (hrt : isF E rt) (tp sp : Nat) (g : Nat → Option Nat) (ν : Nat → Int64) (hW9 : WI E tp sp g) (nd : Nat) (hnd : isF E nd) : vx_Met l y_Walk_push (k_Walk_push :: gtbl) ({ frames := 9, cells := 1, slots := 6, locals := 150 }) (va_Pc [.ref wk, .ref nd] (ml K dC dI ([(wk, .inr (10, [.ref wl, .int (nI tp), .int (nI sp), .ref rt])), (wl, .inl (cV, 10000, .inr (.inr (.inr (.inr g)))))] ++ va_pl L (pf f ν)) [(cI, .int), (cV, .object "QueryBench$Value")] sz)) (va_Qv (fun (u : Nat × Nat × (Nat → Option Nat) × (Nat → Int64)) => u.1 = tp + 1 ∧ u.2.1 = sp + 1 ∧ WI E u.1 u.2.1 u.2.2.1) (fun u t9 => mz dC dI ([(wk, .inr (10, [.ref wl, .int (nI u.1), .int (nI u.2.1), .ref rt])), (wl, .inl (cV, 10000, .inr (.inr (.inr (.inr u.2.2.1)))))] ++ va_pl L (pf f u.2.2.2)) [(cI, .int), (cV, .object "QueryBench$Value")] (va_A ([(wk, .inr (10, [.ref wl, .int (nI tp), .int (nI sp), .ref rt])), (wl, .inl (cV, 10000, .inr (.inr (.inr (.inr g)))))] ++ va_pl L (pf f ν)) sz.size) t9 ∧ szk sz t9.heap (0) (0)) (va_A ([(wk, .inr (10, [.ref wl, .int (nI tp), .int (nI sp), .ref rt])), (wl, .inl (cV, 10000, .inr (.inr (.inr (.inr g)))))] ++ va_pl L (pf f ν)) sz.size)) (vx_X (fun (u : Int32 × Int32 × (Nat → Option Nat) × (Nat → Int64)) => True) (fun En u t9 => En = IOB ∧ mz dC dI ([(wk, .inr (10, [.ref wl, .int u.1, .int u.2.1, .ref rt])), (wl, .inl (cV, 10000, .inr (.inr (.inr (.inr u.2.2.1)))))] ++ va_pl L (pf f u.2.2.2)) [(cI, .int), (cV, .object "QueryBench$Value")] (va_A ([(wk, .inr (10, [.ref wl, .int (nI tp), .int (nI sp), .ref rt])), (wl, .inl (cV, 10000, .inr (.inr (.inr (.inr g)))))] ++ va_pl L (pf f ν)) sz.size) t9) (va_A ([(wk, .inr (10, [.ref wl, .int (nI tp), .int (nI sp), .ref rt])), (wl, .inl (cV, 10000, .inr (.inr (.inr (.inr g)))))] ++ va_pl L (pf f ν)) sz.size)) (1) (6) (va_A ([(wk, .inr (10, [.ref wl, .int (nI tp), .int (nI sp), .ref rt])), (wl, .inl (cV, 10000, .inr (.inr (.inr (.inr g)))))] ++ va_pl L (pf f ν)) sz.size) := by
  refine vx_ofW (cc := b_Walk_push) (maxL := 2) (ret := none) (by decide) rfl ?_
  intro p e s m args below meth c s₁ B hml hex hv
  obtain ⟨rfl, ⟨hsz, hP, hK, hD0⟩, hN, hZ, hC, hV⟩ := hv
  have hx := B.exec
  have hb := B.bytes
  have hr := B.returns
  have hts0 := atoms_spec (ws := k_Walk_push :: gtbl) B.pre
  have hts := fun w h => hts0 w (List.mem_cons_of_mem _ h)
  have hown : s.vm.findClass R_Walk = some m.cls := findClass_of_methodNamed B.named
  have hlocks := B.notSynchronized
  subst hsz
  have hD := hD0.self (sz := s.heap.size)
  generalize hAe : va_A ([(wk, .inr (10, [.ref wl, .int (nI tp), .int (nI sp), .ref rt])), (wl, .inl (cV, 10000, .inr (.inr (.inr (.inr g)))))] ++ va_pl L (pf f ν)) s.heap.size = A at hD hZ hC ⊢
  have hA : ∀ q : Nat, s.heap.size ≤ q → A q := fun q h => by rw [← hAe]; exact Or.inr h
  have hS : va_S A s.heap s.heap [] := va_S.rf
  have hP : va_P (dC, dI) classes ([(wk, .inr (10, [.ref wl, .int (nI tp), .int (nI sp), .ref rt])), (wl, .inl (cV, 10000, .inr (.inr (.inr (.inr g)))))] ++ va_pl L (pf f ν)) s.heap := hP
  have hl := lv_entry ([.ref wk, .ref nd]) (n := 2) (Nat.le_of_ble_eq_true rfl)
  rw [lg_entry_eq]
  generalize (lg_sl ([.ref wk, .ref nd]) ++ List.replicate (2 - (lg_sl ([.ref wk, .ref nd])).length) Slot.unset).toArray = ls at hl ⊢
  have hl : lv_has ls 2 [(0, .ref wk), (1, .ref nd)] := hl
  have hW0 := hW9
  have hW1 := hW9.1
  have hW2 := hW9.2.1
  refine lv_aload_n hx hb d_Walk_push_0 rfl (lv_at hl 0 rfl) ?_
  have hPc := hP.sub (ws' := [(wk, .inr (10, [.ref wl, .int (nI tp), .int (nI sp), .ref rt]))]) [0] rfl
  have hDc := hD.sub (ws' := [(wk, .inr (10, [.ref wl, .int (nI tp), .int (nI sp), .ref rt]))]) [0] (by decide) rfl
  have hFc := va_free (wc := [(wk, .inr (10, [.ref wl, .int (nI tp), .int (nI sp), .ref rt]))]) hD hS hA [0] rfl
  have hKc := hK.sub (tys' := []) [] rfl
  refine w_same (fun hq0 => ?_)
  refine vx_callv (vx_runV (As := []) (rest := []) ⟨hx, hb, hml, hown, hts⟩ (c_Walk_spend l hl9 dC dI wk s.heap (.ref wl) (.ref rt) (nI tp) sp (by omega)) (cwV 0 hts (gt_V (own := R_Walk) (C := R_Walk) (i := 58) (y := y_Walk_spend) i_Walk_spend z_843 z_845 (gt_sel (y := y_Walk_spend) (n := 4) (by decide +kernel)) w_5) rfl rfl rfl (by decide +kernel) ⟨Nat.le_of_ble_eq_true rfl, Nat.le_of_ble_eq_true rfl⟩) ⟨mx_blind, va_recv hK hP (ci := 10) (q0 := 0) rfl rfl, fun U hU hW => ⟨rfl, ⟨hU, by rw [hU]; exact hPc, va_K.moved hW.alike hKc, hDc.weaken (fun _ _ _ _ => trivial)⟩, hN.warm hW, by rw [hU]; exact ZX.moved' hW.alike (ZX.narrow' (ZX.kept' hZ hS.2.1) hFc)⟩⟩ rfl rfl hl.1 rfl (lv_room (Nat.le_of_ble_eq_true rfl)) d_Walk_push_1 ⟨Nat.le_of_ble_eq_true rfl, Nat.le_of_ble_eq_true rfl⟩) hS (fun q _ h => hFc q h) hFc (fun q _ h => hFc q h) (fun En ce q9 _u t9 H1 locs ht hvm hw hB hz1 hk1 hS hce hcv hcl => ?_) (fun _u t9 H1 locs ht hvm hw hB hz1 hk1 hS => ?_)
  · obtain ⟨hEn, hP1, hK1, hD1⟩ := hB
    rw [ht] at hP1
    obtain ⟨hP, hD⟩ := va_joinQ (wr := [(wl, .inl (cV, 10000, .inr (.inr (.inr (.inr g)))))]) (w1 := [(wk, .inr (10, [.ref wl, .int (nI tp), .int (nI sp), .ref rt]))]) hP hD [0] [1] rfl rfl (by decide) (by decide) hk1 hFc hP1 hD1
    generalize H1 = H at hP hS hce ⊢
    have hP : va_P (dC, dI) classes ([(wl, .inl (cV, 10000, .inr (.inr (.inr (.inr g))))), (wk, .inr (10, [.ref wl, .int (nI tp), .int (nI sp), .ref rt]))] ++ va_pl L (pf f ν)) H := hP
    have hD : va_D A ([(wl, .inl (cV, 10000, .inr (.inr (.inr (.inr g))))), (wk, .inr (10, [.ref wl, .int (nI tp), .int (nI sp), .ref rt]))] ++ va_pl L (pf f ν)) := hD
    have hP := hP.part (cx := [(wk, .inr (10, [.ref wl, .int (nI tp), .int (nI sp), .ref rt])), (wl, .inl (cV, 10000, .inr (.inr (.inr (.inr g)))))]) [1, 0] rfl
    have hD := hD.part (cx := [(wk, .inr (10, [.ref wl, .int (nI tp), .int (nI sp), .ref rt])), (wl, .inl (cV, 10000, .inr (.inr (.inr (.inr g)))))]) [1, 0] (by decide) rfl
    exact vx_out (fun x hx => (hex x hx).elim) hlocks hce hcv hcl (fun t9 ht2 ha => ⟨(nI tp, nI sp, g, ν), trivial, ⟨hEn, by rw [ht2]; exact hP, va_K.moved ha hK, hD⟩, hS.F ht2⟩) hS.2.2 (Nat.le_of_ble_eq_true rfl) (Nat.le_of_ble_eq_true rfl)
  · obtain ⟨⟨hP1, hK1, hD1⟩, hz9⟩ := hB
    rw [ht] at hP1
    rw [ht] at hz9
    refine w_tight (hq0.trans hz9) ?_
    have hq0 := hq0.trans hz9
    obtain ⟨hP, hD⟩ := va_joinQ (wr := [(wl, .inl (cV, 10000, .inr (.inr (.inr (.inr g)))))]) (w1 := [(wk, .inr (10, [.ref wl, .int (nI tp), .int (nI (sp + 1)), .ref rt]))]) hP hD [0] [1] rfl rfl (by decide) (by decide) hk1 hFc hP1 hD1
    generalize H1 = H at hP hS hq0 ⊢
    have hP : va_P (dC, dI) classes ([(wl, .inl (cV, 10000, .inr (.inr (.inr (.inr g))))), (wk, .inr (10, [.ref wl, .int (nI tp), .int (nI (sp + 1)), .ref rt]))] ++ va_pl L (pf f ν)) H := hP
    have hD : va_D A ([(wl, .inl (cV, 10000, .inr (.inr (.inr (.inr g))))), (wk, .inr (10, [.ref wl, .int (nI tp), .int (nI (sp + 1)), .ref rt]))] ++ va_pl L (pf f ν)) := hD
    have hP := hP.part (cx := [(wk, .inr (10, [.ref wl, .int (nI tp), .int (nI (sp + 1)), .ref rt])), (wl, .inl (cV, 10000, .inr (.inr (.inr (.inr g)))))]) [1, 0] rfl
    have hD := hD.part (cx := [(wk, .inr (10, [.ref wl, .int (nI tp), .int (nI (sp + 1)), .ref rt])), (wl, .inl (cV, 10000, .inr (.inr (.inr (.inr g)))))]) [1, 0] (by decide) rfl
    have hsp1 : sp < 10000 := hw
    have hW1 := WI.more hW9 hsp1
    have hhW11 := hW1.1
    have hhW12 := hW1.2.1
    refine lv_aload_n hx hb d_Walk_push_4 rfl (lv_at hl 0 rfl) ?_
    refine va_get (D := (dC, dI)) (ci := 10) (v := .ref wl) (C := R_Walk) (T := F_Walk) (N := 4) hx hb hts in_Walk hown hK hP 0 rfl rfl 0 (by decide) (hts _ w_115) (fun _ h9 => h9) rfl d_Walk_push_5 ?_
    refine lv_aload_n hx hb d_Walk_push_8 rfl (lv_at hl 0 rfl) ?_
    refine va_get (D := (dC, dI)) (ci := 10) (v := .int (nI tp)) (C := R_Walk) (T := F_Walk) (N := 4) hx hb hts in_Walk hown hK hP 0 rfl rfl 1 (by decide) (hts _ z_117) (fun _ h9 => h9) rfl d_Walk_push_9 ?_
    refine lv_aload_n hx hb d_Walk_push_12 rfl (lv_at hl 1 rfl) ?_
    obtain ⟨kd2, nu2, tx2, me2, pa2, na2, ix2, nm2, no2, sp2, ef2, hv2⟩ := hO.val ((isF.v hnd))
    refine vq_ast hx hb hK hP hD hS 1 1 9 rfl rfl (hO.inV (isF.v hnd)) (pf_V ef2) rfl (show tp < 10000 by omega) (by decide) d_Walk_push_13 (fun H locs hP hD hS => ?_)
    have hWu := WI.up hW0 (show sp < 10000 by omega) hnd
    have hP : va_P (dC, dI) classes ([(wk, .inr (10, [.ref wl, .int (nI tp), .int (nI (sp + 1)), .ref rt])), (wl, .inl (cV, 10000, .inr (.inr (.inr (.inr ((va_up g tp (some nd))))))))] ++ va_pl L (pf f ν)) H := hP
    have hD : va_D A ([(wk, .inr (10, [.ref wl, .int (nI tp), .int (nI (sp + 1)), .ref rt])), (wl, .inl (cV, 10000, .inr (.inr (.inr (.inr ((va_up g tp (some nd))))))))] ++ va_pl L (pf f ν)) := hD
    refine lv_aload_n hx hb d_Walk_push_14 rfl (lv_at hl 0 rfl) ?_
    refine lv_dup hx hb d_Walk_push_15 rfl ?_
    refine va_get (D := (dC, dI)) (ci := 10) (v := .int (nI tp)) (C := R_Walk) (T := F_Walk) (N := 4) hx hb hts in_Walk hown hK hP 0 rfl rfl 1 (by decide) (hts _ z_117) (fun _ h9 => h9) rfl d_Walk_push_16 ?_
    refine lv_iconst (v := 1) hx hb d_Walk_push_19 (by decide) ?_
    refine lv_iadd hx hb d_Walk_push_20 ?_
    refine W.eq (g2 := F0 m 21 ls [.int (nI (tp + 1)), .ref wk]) (by rw [show ((nI tp) + 1) = (nI (tp + 1)) from nI_1 _]) ?_
    refine va_put (D := (dC, dI)) (ci := 10) (v := .int (nI (tp + 1))) (ty := .int) (C := R_Walk) (T := F_Walk) (N := 4) hx hb hts in_Walk t_Walk t_Walk_ok n_Walk hown hK hP hD hS 0 rfl rfl 1 (by decide) (hts _ z_117) (fun _ h9 => h9) rfl (by decide +kernel) rfl rfl (Nat.le_of_ble_eq_true rfl) d_Walk_push_21 (fun H locs hP hD hS => ?_)
    have hP : va_P (dC, dI) classes ([(wk, .inr (10, [.ref wl, .int (nI (tp + 1)), .int (nI (sp + 1)), .ref rt])), (wl, .inl (cV, 10000, .inr (.inr (.inr (.inr ((va_up g tp (some nd))))))))] ++ va_pl L (pf f ν)) H := hP
    have hD : va_D A ([(wk, .inr (10, [.ref wl, .int (nI (tp + 1)), .int (nI (sp + 1)), .ref rt])), (wl, .inl (cV, 10000, .inr (.inr (.inr (.inr ((va_up g tp (some nd))))))))] ++ va_pl L (pf f ν)) := hD
    refine w_same (fun hq => ?_)
    refine W.widen (k := 1) (n := 6) (Nat.le_of_ble_eq_true rfl) (Nat.le_of_ble_eq_true rfl) ?_
    refine vx_ret ?_
    exact W.vret hx hb hr (fun t9 ht hW => ⟨⟨(tp + 1, sp + 1, (va_up g tp (some nd)), ν), rfl, ⟨rfl, rfl, hWu⟩, ⟨by rw [ht]; exact hP, va_K.moved hW.alike hK, hD⟩, by rw [ht]; exact hq⟩, hS.F ht⟩) hS.2.2 d_Walk_push_24
abbrev b_Walk_pushNamed : ByteArray := prog_12_method_8_code
def y_Walk_pushNamed : MethodName := ⟨"QueryBench$Walk", "pushNamed", "(LQueryBench$Value;[I)V"⟩
abbrev k_Walk_pushNamed : Cond := .code y_Walk_pushNamed b_Walk_pushNamed 4 none
theorem i_Walk_pushNamed : k_Walk_pushNamed ∈ gtbl := gt_in 860 (by decide +kernel) (by decide +kernel)
theorem d_Walk_pushNamed_0 : decode b_Walk_pushNamed 0 = .ok (.aload_n 1, 1) := by decide +kernel
theorem d_Walk_pushNamed_1 : decode b_Walk_pushNamed 1 = .ok (.aload_n 2, 1) := by decide +kernel
theorem d_Walk_pushNamed_2 : decode b_Walk_pushNamed 2 = .ok (.invokevirtual 114, 3) := by decide +kernel
theorem d_Walk_pushNamed_5 : decode b_Walk_pushNamed 5 = .ok (.astore_n 3, 1) := by decide +kernel
theorem d_Walk_pushNamed_6 : decode b_Walk_pushNamed 6 = .ok (.aload_n 3, 1) := by decide +kernel
theorem d_Walk_pushNamed_7 : decode b_Walk_pushNamed 7 = .ok (.ifnull 8, 3) := by decide +kernel
theorem d_Walk_pushNamed_10 : decode b_Walk_pushNamed 10 = .ok (.aload_n 0, 1) := by decide +kernel
theorem d_Walk_pushNamed_11 : decode b_Walk_pushNamed 11 = .ok (.aload_n 3, 1) := by decide +kernel
theorem d_Walk_pushNamed_12 : decode b_Walk_pushNamed 12 = .ok (.invokevirtual 38, 3) := by decide +kernel
theorem d_Walk_pushNamed_15 : decode b_Walk_pushNamed 15 = .ok (.return_, 1) := by decide +kernel
set_option maxHeartbeats 4000000 in
set_option maxRecDepth 100000 in
/-- Walk.pushNamed -/
theorem c_Walk_pushNamed (l : Launch) (hl9 : l.stackTraces = false) (K : Nat → Nat × Nat) (dC : Nat → ClassId) (dI : Nat → Nat → Nat) (sz : Heap) (cI cV : ClassId) (E lv : Nat → Nat) (L : List Nat) (f : Nat → va_E) (hO : PO cI cV E lv L f) (hN1 : ∀ a, E a ≠ 1) (wk wl rt : Nat) (hrt : isF E rt) (tp sp : Nat) (g : Nat → Option Nat) (ν : Nat → Int64) (hW9 : WI E tp sp g) (nd : Nat) (hnd : isF E nd) (nm9 : Nat) (hnm9 : E nm9 = 4) : vx_Met l y_Walk_pushNamed (k_Walk_pushNamed :: gtbl) ({ frames := 10, cells := 1, slots := 6, locals := 200 }) (va_Pc [.ref wk, .ref nd, .ref nm9] (ml K dC dI ([(wk, .inr (10, [.ref wl, .int (nI tp), .int (nI sp), .ref rt])), (wl, .inl (cV, 10000, .inr (.inr (.inr (.inr g)))))] ++ va_pl L (pf f ν)) [(cI, .int), (cV, .object "QueryBench$Value")] sz)) (va_Qv (fun (u : Nat × Nat × (Nat → Option Nat) × (Nat → Int64)) => tp ≤ u.1 ∧ sp ≤ u.2.1 ∧ WI E u.1 u.2.1 u.2.2.1) (fun u t9 => mz dC dI ([(wk, .inr (10, [.ref wl, .int (nI u.1), .int (nI u.2.1), .ref rt])), (wl, .inl (cV, 10000, .inr (.inr (.inr (.inr u.2.2.1)))))] ++ va_pl L (pf f u.2.2.2)) [(cI, .int), (cV, .object "QueryBench$Value")] (va_A ([(wk, .inr (10, [.ref wl, .int (nI tp), .int (nI sp), .ref rt])), (wl, .inl (cV, 10000, .inr (.inr (.inr (.inr g)))))] ++ va_pl L (pf f ν)) sz.size) t9 ∧ szk sz t9.heap (0) (0)) (va_A ([(wk, .inr (10, [.ref wl, .int (nI tp), .int (nI sp), .ref rt])), (wl, .inl (cV, 10000, .inr (.inr (.inr (.inr g)))))] ++ va_pl L (pf f ν)) sz.size)) (vx_X (fun (u : Int32 × Int32 × (Nat → Option Nat) × (Nat → Int64)) => True) (fun En u t9 => En = IOB ∧ mz dC dI ([(wk, .inr (10, [.ref wl, .int u.1, .int u.2.1, .ref rt])), (wl, .inl (cV, 10000, .inr (.inr (.inr (.inr u.2.2.1)))))] ++ va_pl L (pf f u.2.2.2)) [(cI, .int), (cV, .object "QueryBench$Value")] (va_A ([(wk, .inr (10, [.ref wl, .int (nI tp), .int (nI sp), .ref rt])), (wl, .inl (cV, 10000, .inr (.inr (.inr (.inr g)))))] ++ va_pl L (pf f ν)) sz.size) t9) (va_A ([(wk, .inr (10, [.ref wl, .int (nI tp), .int (nI sp), .ref rt])), (wl, .inl (cV, 10000, .inr (.inr (.inr (.inr g)))))] ++ va_pl L (pf f ν)) sz.size)) (1) (6) (va_A ([(wk, .inr (10, [.ref wl, .int (nI tp), .int (nI sp), .ref rt])), (wl, .inl (cV, 10000, .inr (.inr (.inr (.inr g)))))] ++ va_pl L (pf f ν)) sz.size) := by
  refine vx_ofW (cc := b_Walk_pushNamed) (maxL := 4) (ret := none) (by decide) rfl ?_
  intro p e s m args below meth c s₁ B hml hex hv
  obtain ⟨rfl, ⟨hsz, hP, hK, hD0⟩, hN, hZ, hC, hV⟩ := hv
  have hx := B.exec
  have hb := B.bytes
  have hr := B.returns
  have hts0 := atoms_spec (ws := k_Walk_pushNamed :: gtbl) B.pre
  have hts := fun w h => hts0 w (List.mem_cons_of_mem _ h)
  have hown : s.vm.findClass R_Walk = some m.cls := findClass_of_methodNamed B.named
  have hlocks := B.notSynchronized
  subst hsz
  have hD := hD0.self (sz := s.heap.size)
  generalize hAe : va_A ([(wk, .inr (10, [.ref wl, .int (nI tp), .int (nI sp), .ref rt])), (wl, .inl (cV, 10000, .inr (.inr (.inr (.inr g)))))] ++ va_pl L (pf f ν)) s.heap.size = A at hD hZ hC ⊢
  have hA : ∀ q : Nat, s.heap.size ≤ q → A q := fun q h => by rw [← hAe]; exact Or.inr h
  have hS : va_S A s.heap s.heap [] := va_S.rf
  have hP : va_P (dC, dI) classes ([(wk, .inr (10, [.ref wl, .int (nI tp), .int (nI sp), .ref rt])), (wl, .inl (cV, 10000, .inr (.inr (.inr (.inr g)))))] ++ va_pl L (pf f ν)) s.heap := hP
  have hl := lv_entry ([.ref wk, .ref nd, .ref nm9]) (n := 4) (Nat.le_of_ble_eq_true rfl)
  rw [lg_entry_eq]
  generalize (lg_sl ([.ref wk, .ref nd, .ref nm9]) ++ List.replicate (4 - (lg_sl ([.ref wk, .ref nd, .ref nm9])).length) Slot.unset).toArray = ls at hl ⊢
  have hl : lv_has ls 4 [(0, .ref wk), (1, .ref nd), (2, .ref nm9)] := hl
  have hW0 := hW9
  have hW1 := hW9.1
  have hW2 := hW9.2.1
  refine lv_aload_n hx hb d_Walk_pushNamed_0 rfl (lv_at hl 1 rfl) ?_
  refine lv_aload_n hx hb d_Walk_pushNamed_1 rfl (lv_at hl 2 rfl) ?_
  obtain ⟨kd1, nu1, tx1, me1, pa1, na1, ix1, nm1, no1, sp1, ef1, hv1⟩ := hO.val ((isF.v hnd))
  refine va_csq (va_Run.run (va_runV (As := [.ref nm9]) (rest := []) ⟨hx, hb, hml, hown, hts⟩ (c_Value_member l dC dI s.heap cI cV E lv L (pf f ν) (hO.num ν) nd hnd (some nm9) (fun b h => by cases h; exact hnm9) (fun _ h => by cases h)) (cwV 1 hts (gt_V (own := R_Walk) (C := R_Value) (i := 114) (y := y_Value_member) i_Value_member z_861 z_862 z_863 z_14) rfl rfl rfl (by decide +kernel) ⟨Nat.le_of_ble_eq_true rfl, Nat.le_of_ble_eq_true rfl⟩) ⟨mq_blind, vq_recv hK hP rfl (hO.inV (isF.v hnd)) (pf_V ef1), fun U hU hW => ⟨rfl, hU, by rw [hU]; exact hP.part (cx := []) [] rfl, va_K.moved hW.alike hK, hN.warm hW⟩⟩ rfl rfl hl.1 rfl (lv_room (Nat.le_of_ble_eq_true rfl)) d_Walk_pushNamed_2 ⟨Nat.le_of_ble_eq_true rfl, Nat.le_of_ble_eq_true rfl⟩)) (fun r2 h_r2 => ?_)
  rcases r2 with _ | b3
  · refine lv_astore_nN (lv' := [(3, .null), (0, .ref wk), (1, .ref nd), (2, .ref nm9)]) hx hb d_Walk_pushNamed_5 rfl hl (by decide) rfl (fun ls hl => ?_)
    refine lv_aload_nN hx hb d_Walk_pushNamed_6 rfl (lv_at hl 0 rfl) ?_
    refine lv_ifnullN (tgt := 15) hx hb d_Walk_pushNamed_7 (by decide) ?_
    refine w_same (fun hq => ?_)
    refine W.widen (k := 1) (n := 6) (Nat.le_of_ble_eq_true rfl) (Nat.le_of_ble_eq_true rfl) ?_
    refine vx_ret ?_
    exact W.vret hx hb hr (fun t9 ht hW => ⟨⟨(tp, sp, g, ν), rfl, ⟨by show tp ≤ tp; omega, by show sp ≤ sp; omega, hW9⟩, ⟨by rw [ht]; exact hP, va_K.moved hW.alike hK, hD⟩, by rw [ht]; exact hq⟩, hS.F ht⟩) hS.2.2 d_Walk_pushNamed_15
  · refine lv_astore_n (lv' := [(3, .ref b3), (0, .ref wk), (1, .ref nd), (2, .ref nm9)]) hx hb d_Walk_pushNamed_5 rfl hl (by decide) rfl (fun ls hl => ?_)
    refine lv_aload_n hx hb d_Walk_pushNamed_6 rfl (lv_at hl 0 rfl) ?_
    refine lv_ifnull hx hb d_Walk_pushNamed_7 ?_
    refine lv_aload_n hx hb d_Walk_pushNamed_10 rfl (lv_at hl 1 rfl) ?_
    refine lv_aload_n hx hb d_Walk_pushNamed_11 rfl (lv_at hl 0 rfl) ?_
    have hPc := hP.part (cx := [(wk, .inr (10, [.ref wl, .int (nI tp), .int (nI sp), .ref rt])), (wl, .inl (cV, 10000, .inr (.inr (.inr (.inr g)))))]) [0, 1] rfl
    have hDc := hD.part (cx := [(wk, .inr (10, [.ref wl, .int (nI tp), .int (nI sp), .ref rt])), (wl, .inl (cV, 10000, .inr (.inr (.inr (.inr g)))))]) [0, 1] (by decide) rfl
    have hFc := va_freeP (cx := [(wk, .inr (10, [.ref wl, .int (nI tp), .int (nI sp), .ref rt])), (wl, .inl (cV, 10000, .inr (.inr (.inr (.inr g)))))]) hD hS hA [0, 1] rfl
    have hKc := hK.sub (tys' := [(cI, .int), (cV, .object "QueryBench$Value")]) [0, 1] rfl
    refine w_same (fun hq0 => ?_)
    refine vx_callv (vx_runV (As := [.ref b3]) (rest := []) ⟨hx, hb, hml, hown, hts⟩ (c_Walk_push l hl9 K dC dI s.heap cI cV E lv L f hO hN1 wk wl rt hrt tp sp g ν hW9 b3 (h_r2 b3 rfl)) (cwV 1 hts (gt_V (own := R_Walk) (C := R_Walk) (i := 38) (y := y_Walk_push) i_Walk_push z_839 z_841 (gt_sel (y := y_Walk_push) (n := 4) (by decide +kernel)) w_5) rfl rfl rfl (by decide +kernel) ⟨Nat.le_of_ble_eq_true rfl, Nat.le_of_ble_eq_true rfl⟩) ⟨ml_blind, va_recv hK hP (ci := 10) (q0 := 0) rfl rfl, fun U hU hW => ⟨rfl, ⟨hU, by rw [hU]; exact hPc, va_K.moved hW.alike hKc, hDc.weaken (fun _ _ _ _ => trivial)⟩, hN.warm hW, by rw [hU]; exact ZX.moved' hW.alike (ZX.narrow' (ZX.kept' hZ hS.2.1) hFc), by rw [hU]; exact CE.call hC hS.2.1 hFc hW, va_AO.moved hW.alike hV⟩⟩ rfl rfl hl.1 rfl (lv_room (Nat.le_of_ble_eq_true rfl)) d_Walk_pushNamed_12 ⟨Nat.le_of_ble_eq_true rfl, Nat.le_of_ble_eq_true rfl⟩) hS (fun q _ h => hFc q h) hFc (fun q _ h => hFc q h) (fun En ce q9 ⟨tx, sx, gx, nx⟩ t9 H1 locs ht hvm hw hB hz1 hk1 hS hce hcv hcl => ?_) (fun ⟨t4, s4, g4, n4⟩ t9 H1 locs ht hvm hw hB hz1 hk1 hS => ?_)
    · obtain ⟨hEn, hP1, hK1, hD1⟩ := hB
      rw [ht] at hP1
      obtain ⟨hP, hD⟩ := va_joinP (wr := []) (rx := [(wk, .inr (10, [.ref wl, .int tx, .int sx, .ref rt])), (wl, .inl (cV, 10000, .inr (.inr (.inr (.inr gx)))))]) (pl1 := va_pl L (pf f nx)) hP hD [0, 1] [] rfl rfl (by decide) (by decide) hk1 hFc hP1 hD1
      generalize H1 = H at hP hS hce ⊢
      have hP : va_P (dC, dI) classes ([(wk, .inr (10, [.ref wl, .int tx, .int sx, .ref rt])), (wl, .inl (cV, 10000, .inr (.inr (.inr (.inr gx)))))] ++ va_pl L (pf f nx)) H := hP
      have hD : va_D A ([(wk, .inr (10, [.ref wl, .int tx, .int sx, .ref rt])), (wl, .inl (cV, 10000, .inr (.inr (.inr (.inr gx)))))] ++ va_pl L (pf f nx)) := hD
      exact vx_out (fun x hx => (hex x hx).elim) hlocks hce hcv hcl (fun t9 ht2 ha => ⟨(tx, sx, gx, nx), trivial, ⟨hEn, by rw [ht2]; exact hP, va_K.moved ha hK, hD⟩, hS.F ht2⟩) hS.2.2 (Nat.le_of_ble_eq_true rfl) (Nat.le_of_ble_eq_true rfl)
    · obtain ⟨⟨hP1, hK1, hD1⟩, hz9⟩ := hB
      rw [ht] at hP1
      rw [ht] at hz9
      refine w_tight (hq0.trans hz9) ?_
      have hq0 := hq0.trans hz9
      obtain ⟨hP, hD⟩ := va_joinP (wr := []) (rx := [(wk, .inr (10, [.ref wl, .int (nI t4), .int (nI s4), .ref rt])), (wl, .inl (cV, 10000, .inr (.inr (.inr (.inr g4)))))]) (pl1 := va_pl L (pf f n4)) hP hD [0, 1] [] rfl rfl (by decide) (by decide) hk1 hFc hP1 hD1
      generalize H1 = H at hP hS hq0 ⊢
      have hP : va_P (dC, dI) classes ([(wk, .inr (10, [.ref wl, .int (nI t4), .int (nI s4), .ref rt])), (wl, .inl (cV, 10000, .inr (.inr (.inr (.inr g4)))))] ++ va_pl L (pf f n4)) H := hP
      have hD : va_D A ([(wk, .inr (10, [.ref wl, .int (nI t4), .int (nI s4), .ref rt])), (wl, .inl (cV, 10000, .inr (.inr (.inr (.inr g4)))))] ++ va_pl L (pf f n4)) := hD
      obtain ⟨ha4, hb4, hW4⟩ := hw
      have ha4 : t4 = tp + 1 := ha4
      have hb4 : s4 = sp + 1 := hb4
      have hW4 : WI E t4 s4 g4 := hW4
      have hhW41 := hW4.1
      have hhW42 := hW4.2.1
      refine w_same (fun hq => ?_)
      refine W.widen (k := 1) (n := 6) (Nat.le_of_ble_eq_true rfl) (Nat.le_of_ble_eq_true rfl) ?_
      refine vx_ret ?_
      exact W.vret hx hb hr (fun t9 ht hW => ⟨⟨(t4, s4, g4, n4), rfl, ⟨by show tp ≤ t4; omega, by show sp ≤ s4; omega, hW4⟩, ⟨by rw [ht]; exact hP, va_K.moved hW.alike hK, hD⟩, by rw [ht]; exact hq⟩, hS.F ht⟩) hS.2.2 d_Walk_pushNamed_15
abbrev b_Walk_pushAll : ByteArray := prog_12_method_9_code
def y_Walk_pushAll : MethodName := ⟨"QueryBench$Walk", "pushAll", "(LQueryBench$Value;)V"⟩
abbrev k_Walk_pushAll : Cond := .code y_Walk_pushAll b_Walk_pushAll 3 none
theorem i_Walk_pushAll : k_Walk_pushAll ∈ gtbl := gt_in 873 (by decide +kernel) (by decide +kernel)
theorem d_Walk_pushAll_0 : decode b_Walk_pushAll 0 = .ok (.iconst 0, 1) := by decide +kernel
theorem d_Walk_pushAll_1 : decode b_Walk_pushAll 1 = .ok (.istore_n 2, 1) := by decide +kernel
theorem d_Walk_pushAll_2 : decode b_Walk_pushAll 2 = .ok (.iload_n 2, 1) := by decide +kernel
theorem d_Walk_pushAll_3 : decode b_Walk_pushAll 3 = .ok (.aload_n 1, 1) := by decide +kernel
theorem d_Walk_pushAll_4 : decode b_Walk_pushAll 4 = .ok (.invokevirtual 118, 3) := by decide +kernel
theorem d_Walk_pushAll_7 : decode b_Walk_pushAll 7 = .ok (.if_icmp .ge 19, 3) := by decide +kernel
theorem d_Walk_pushAll_10 : decode b_Walk_pushAll 10 = .ok (.aload_n 0, 1) := by decide +kernel
theorem d_Walk_pushAll_11 : decode b_Walk_pushAll 11 = .ok (.aload_n 1, 1) := by decide +kernel
theorem d_Walk_pushAll_12 : decode b_Walk_pushAll 12 = .ok (.getfield 122, 3) := by decide +kernel
theorem d_Walk_pushAll_15 : decode b_Walk_pushAll 15 = .ok (.iload_n 2, 1) := by decide +kernel
theorem d_Walk_pushAll_16 : decode b_Walk_pushAll 16 = .ok (.aaload, 1) := by decide +kernel
theorem d_Walk_pushAll_17 : decode b_Walk_pushAll 17 = .ok (.invokevirtual 38, 3) := by decide +kernel
theorem d_Walk_pushAll_20 : decode b_Walk_pushAll 20 = .ok (.iinc 2 1, 3) := by decide +kernel
theorem d_Walk_pushAll_23 : decode b_Walk_pushAll 23 = .ok (.goto (-21), 3) := by decide +kernel
theorem d_Walk_pushAll_26 : decode b_Walk_pushAll 26 = .ok (.return_, 1) := by decide +kernel
set_option maxHeartbeats 4000000 in
set_option maxRecDepth 100000 in
/-- Walk.pushAll -/
theorem c_Walk_pushAll (l : Launch) (hl9 : l.stackTraces = false) (K : Nat → Nat × Nat) (dC : Nat → ClassId) (dI : Nat → Nat → Nat) (sz : Heap) (cI cV : ClassId) (E lv : Nat → Nat) (L : List Nat) (f : Nat → va_E) (hO : PO cI cV E lv L f) (hN1 : ∀ a, E a ≠ 1) (wk wl rt : Nat) (hrt : isF E rt) (tp sp : Nat) (g : Nat → Option Nat) (ν : Nat → Int64) (hW9 : WI E tp sp g) (nd : Nat) (hnd : isF E nd) : vx_Met l y_Walk_pushAll (k_Walk_pushAll :: gtbl) ({ frames := 10, cells := 1, slots := 6, locals := 200 }) (va_Pc [.ref wk, .ref nd] (ml K dC dI ([(wk, .inr (10, [.ref wl, .int (nI tp), .int (nI sp), .ref rt])), (wl, .inl (cV, 10000, .inr (.inr (.inr (.inr g)))))] ++ va_pl L (pf f ν)) [(cI, .int), (cV, .object "QueryBench$Value")] sz)) (va_Qv (fun (u : Nat × Nat × (Nat → Option Nat) × (Nat → Int64)) => tp ≤ u.1 ∧ sp ≤ u.2.1 ∧ WI E u.1 u.2.1 u.2.2.1) (fun u t9 => mz dC dI ([(wk, .inr (10, [.ref wl, .int (nI u.1), .int (nI u.2.1), .ref rt])), (wl, .inl (cV, 10000, .inr (.inr (.inr (.inr u.2.2.1)))))] ++ va_pl L (pf f u.2.2.2)) [(cI, .int), (cV, .object "QueryBench$Value")] (va_A ([(wk, .inr (10, [.ref wl, .int (nI tp), .int (nI sp), .ref rt])), (wl, .inl (cV, 10000, .inr (.inr (.inr (.inr g)))))] ++ va_pl L (pf f ν)) sz.size) t9 ∧ szk sz t9.heap (0) (0)) (va_A ([(wk, .inr (10, [.ref wl, .int (nI tp), .int (nI sp), .ref rt])), (wl, .inl (cV, 10000, .inr (.inr (.inr (.inr g)))))] ++ va_pl L (pf f ν)) sz.size)) (vx_X (fun (u : Int32 × Int32 × (Nat → Option Nat) × (Nat → Int64)) => True) (fun En u t9 => En = IOB ∧ mz dC dI ([(wk, .inr (10, [.ref wl, .int u.1, .int u.2.1, .ref rt])), (wl, .inl (cV, 10000, .inr (.inr (.inr (.inr u.2.2.1)))))] ++ va_pl L (pf f u.2.2.2)) [(cI, .int), (cV, .object "QueryBench$Value")] (va_A ([(wk, .inr (10, [.ref wl, .int (nI tp), .int (nI sp), .ref rt])), (wl, .inl (cV, 10000, .inr (.inr (.inr (.inr g)))))] ++ va_pl L (pf f ν)) sz.size) t9) (va_A ([(wk, .inr (10, [.ref wl, .int (nI tp), .int (nI sp), .ref rt])), (wl, .inl (cV, 10000, .inr (.inr (.inr (.inr g)))))] ++ va_pl L (pf f ν)) sz.size)) (1) (6) (va_A ([(wk, .inr (10, [.ref wl, .int (nI tp), .int (nI sp), .ref rt])), (wl, .inl (cV, 10000, .inr (.inr (.inr (.inr g)))))] ++ va_pl L (pf f ν)) sz.size) := by
  refine vx_ofW (cc := b_Walk_pushAll) (maxL := 3) (ret := none) (by decide) rfl ?_
  intro p e s m args below meth c s₁ B hml hex hv
  obtain ⟨rfl, ⟨hsz, hP, hK, hD0⟩, hN, hZ, hC, hV⟩ := hv
  have hx := B.exec
  have hb := B.bytes
  have hr := B.returns
  have hts0 := atoms_spec (ws := k_Walk_pushAll :: gtbl) B.pre
  have hts := fun w h => hts0 w (List.mem_cons_of_mem _ h)
  have hown : s.vm.findClass R_Walk = some m.cls := findClass_of_methodNamed B.named
  have hlocks := B.notSynchronized
  subst hsz
  have hD := hD0.self (sz := s.heap.size)
  generalize hAe : va_A ([(wk, .inr (10, [.ref wl, .int (nI tp), .int (nI sp), .ref rt])), (wl, .inl (cV, 10000, .inr (.inr (.inr (.inr g)))))] ++ va_pl L (pf f ν)) s.heap.size = A at hD hZ hC ⊢
  have hA : ∀ q : Nat, s.heap.size ≤ q → A q := fun q h => by rw [← hAe]; exact Or.inr h
  have hS : va_S A s.heap s.heap [] := va_S.rf
  have hP : va_P (dC, dI) classes ([(wk, .inr (10, [.ref wl, .int (nI tp), .int (nI sp), .ref rt])), (wl, .inl (cV, 10000, .inr (.inr (.inr (.inr g)))))] ++ va_pl L (pf f ν)) s.heap := hP
  have hl := lv_entry ([.ref wk, .ref nd]) (n := 3) (Nat.le_of_ble_eq_true rfl)
  rw [lg_entry_eq]
  generalize (lg_sl ([.ref wk, .ref nd]) ++ List.replicate (3 - (lg_sl ([.ref wk, .ref nd])).length) Slot.unset).toArray = ls at hl ⊢
  have hl : lv_has ls 3 [(0, .ref wk), (1, .ref nd)] := hl
  have hW0 := hW9
  have hW1 := hW9.1
  have hW2 := hW9.2.1
  refine lv_iconst (v := 0) hx hb d_Walk_pushAll_0 (by decide) ?_
  refine lv_istore_n (lv' := [(2, .int 0), (0, .ref wk), (1, .ref nd)]) hx hb d_Walk_pushAll_1 rfl hl (by decide) rfl (fun ls hl => ?_)
  obtain ⟨kd1, nu1, tx1, me1, pa1, na1, ix1, nm1, no1, sp1, ef1, hv1⟩ := hO.val ((isF.v hnd))
  have hs := hO.szle ef1 hv1
  refine w_loop (D := (dC, dI)) (cl := classes) (A := A) (H0 := s.heap) (nL := 3) 2 (σ := Nat × Nat × Nat × (Nat → Option Nat) × (Nat → Int64)) (fun ⟨i, t, s9, g, ν⟩ => i ≤ 4096 ∧ tp ≤ t ∧ sp ≤ s9 ∧ WI E t s9 g) (fun ⟨i, t, s9, g, ν⟩ => 4096 - i) (fun ⟨i, t, s9, g, ν⟩ => [(wk, .inr (10, [.ref wl, .int (nI t), .int (nI s9), .ref rt])), (wl, .inl (cV, 10000, .inr (.inr (.inr (.inr g)))))] ++ va_pl L (pf f ν)) (fun ⟨i, t, s9, g, ν⟩ => [(0, .ref wk), (1, .ref nd), (2, .int (nI i))]) ?_ (0, tp, sp, g, ν) ⟨Nat.zero_le _, by show tp ≤ tp; omega, by show sp ≤ sp; omega, hW9⟩ hP hD hS (lv_sub hl [1, 2, 0] rfl)
  rintro ⟨i, t, s9, g, ν⟩ H locs ls hI ih hP hD hS hl
  have hP : va_P (dC, dI) classes ([(wk, .inr (10, [.ref wl, .int (nI t), .int (nI s9), .ref rt])), (wl, .inl (cV, 10000, .inr (.inr (.inr (.inr g)))))] ++ va_pl L (pf f ν)) H := hP
  have hD : va_D A ([(wk, .inr (10, [.ref wl, .int (nI t), .int (nI s9), .ref rt])), (wl, .inl (cV, 10000, .inr (.inr (.inr (.inr g)))))] ++ va_pl L (pf f ν)) := hD
  have hl : lv_has ls 3 [(0, .ref wk), (1, .ref nd), (2, .int (nI i))] := hl
  obtain ⟨hI, hI1, hI2, hI3⟩ := hI
  have hI : i ≤ 4096 := hI
  have hI1 : tp ≤ t := hI1
  have hI2 : sp ≤ s9 := hI2
  have hI3 : WI E t s9 g := hI3
  have hhI31 := hI3.1
  have hhI32 := hI3.2.1
  refine lv_iload_n hx hb d_Walk_pushAll_2 rfl (lv_at hl 2 rfl) ?_
  refine lv_aload_n hx hb d_Walk_pushAll_3 rfl (lv_at hl 1 rfl) ?_
  refine vp_callSi (va_Run.run (va_runV (As := []) (rest := [.int (nI i)]) ⟨hx, hb, hml, hown, hts⟩ (c_Value_size l dC dI H cI cV E lv L (pf f ν) (hO.num ν) nd hnd) (cwV 0 hts (gt_V (own := R_Walk) (C := R_Value) (i := 118) (y := y_Value_size) i_Value_size z_874 z_866 z_867 z_14) rfl rfl rfl (by decide +kernel) ⟨Nat.le_of_ble_eq_true rfl, Nat.le_of_ble_eq_true rfl⟩) ⟨mq_blind, vq_recv hK hP rfl (hO.inV (isF.v hnd)) (pf_V ef1), fun U hU hW => ⟨rfl, hU, by rw [hU]; exact hP.part (cx := []) [] rfl, va_K.moved hW.alike hK, hN.warm hW⟩⟩ rfl rfl hl.1 rfl (lv_room (Nat.le_of_ble_eq_true rfl)) d_Walk_pushAll_4 ⟨Nat.le_of_ble_eq_true rfl, Nat.le_of_ble_eq_true rfl⟩)) (fun r2 h_r2 => ?_)
  rw [hO.szpf hnd] at h_r2
  subst h_r2
  refine lv_icmp_ge (tgt := 26) hx hb d_Walk_pushAll_7 (by decide) (fun c7 => ?_) (fun c7 => ?_)
  · refine w_same (fun hq => ?_)
    refine W.widen (k := 1) (n := 6) (Nat.le_of_ble_eq_true rfl) (Nat.le_of_ble_eq_true rfl) ?_
    refine vx_ret ?_
    exact W.vret hx hb hr (fun t9 ht hW => ⟨⟨(t, s9, g, ν), rfl, ⟨by show tp ≤ t; omega, by show sp ≤ s9; omega, hI3⟩, ⟨by rw [ht]; exact hP, va_K.moved hW.alike hK, hD⟩, by rw [ht]; exact hq⟩, hS.F ht⟩) hS.2.2 d_Walk_pushAll_26
  · have hi : i < szF f nd := by rw [nI_leI (by omega) (by omega)] at c7; omega
    refine lv_aload_n hx hb d_Walk_pushAll_10 rfl (lv_at hl 0 rfl) ?_
    refine lv_aload_n hx hb d_Walk_pushAll_11 rfl (lv_at hl 1 rfl) ?_
    rcases me1 with _ | b3
    · exact absurd (PO.mem0 ef1) (by omega)
    · refine vq_get (D := (dC, dI)) (ci := 9) (v := .ref b3) (C := R_Value) (T := F_Value) (N := 10) hx hb hts in_Value hown hK hP (hO.inV (isF.v hnd)) (pf_V ef1) rfl 3 (by decide) (hts _ z_328) (fun _ h9 => h9) rfl d_Walk_pushAll_12 ?_
      refine lv_iload_n hx hb d_Walk_pushAll_15 rfl (lv_at hl 2 rfl) ?_
      obtain ⟨g4, hi4, ef4, hg4⟩ := hO.mem1 ef1 hv1 (isF.n1 hnd)
      have hn4 := hO.szle ef1 hv1
      obtain ⟨me5, hm5, hf5, hnm5⟩ := hg4 i hi
      refine vq_aald hx hb hK hP 1 hi4 (pf_A ef4) rfl (j := i) hi hn4 hm5 d_Walk_pushAll_16 ?_
      have hPc := hP.part (cx := [(wk, .inr (10, [.ref wl, .int (nI t), .int (nI s9), .ref rt])), (wl, .inl (cV, 10000, .inr (.inr (.inr (.inr g)))))]) [0, 1] rfl
      have hDc := hD.part (cx := [(wk, .inr (10, [.ref wl, .int (nI t), .int (nI s9), .ref rt])), (wl, .inl (cV, 10000, .inr (.inr (.inr (.inr g)))))]) [0, 1] (by decide) rfl
      have hFc := va_freeP (cx := [(wk, .inr (10, [.ref wl, .int (nI t), .int (nI s9), .ref rt])), (wl, .inl (cV, 10000, .inr (.inr (.inr (.inr g)))))]) hD hS hA [0, 1] rfl
      have hKc := hK.sub (tys' := [(cI, .int), (cV, .object "QueryBench$Value")]) [0, 1] rfl
      refine w_same (fun hq0 => ?_)
      refine vx_callv (vx_runV (As := [.ref me5]) (rest := []) ⟨hx, hb, hml, hown, hts⟩ (c_Walk_push l hl9 K dC dI H cI cV E lv L f hO hN1 wk wl rt hrt t s9 g ν hI3 me5 hf5) (cwV 1 hts (gt_V (own := R_Walk) (C := R_Walk) (i := 38) (y := y_Walk_push) i_Walk_push z_839 z_841 (gt_sel (y := y_Walk_push) (n := 4) (by decide +kernel)) w_5) rfl rfl rfl (by decide +kernel) ⟨Nat.le_of_ble_eq_true rfl, Nat.le_of_ble_eq_true rfl⟩) ⟨ml_blind, va_recv hK hP (ci := 10) (q0 := 0) rfl rfl, fun U hU hW => ⟨rfl, ⟨hU, by rw [hU]; exact hPc, va_K.moved hW.alike hKc, hDc.weaken (fun _ _ _ _ => trivial)⟩, hN.warm hW, by rw [hU]; exact ZX.moved' hW.alike (ZX.narrow' (ZX.kept' hZ hS.2.1) hFc), by rw [hU]; exact CE.call hC hS.2.1 hFc hW, va_AO.moved hW.alike hV⟩⟩ rfl rfl hl.1 rfl (lv_room (Nat.le_of_ble_eq_true rfl)) d_Walk_pushAll_17 ⟨Nat.le_of_ble_eq_true rfl, Nat.le_of_ble_eq_true rfl⟩) hS (fun q _ h => hFc q h) hFc (fun q _ h => hFc q h) (fun En ce q9 ⟨tx, sx, gx, nx⟩ t9 H1 locs ht hvm hw hB hz1 hk1 hS hce hcv hcl => ?_) (fun ⟨t6, s6, g6, n6⟩ t9 H1 locs ht hvm hw hB hz1 hk1 hS => ?_)
      · obtain ⟨hEn, hP1, hK1, hD1⟩ := hB
        rw [ht] at hP1
        obtain ⟨hP, hD⟩ := va_joinP (wr := []) (rx := [(wk, .inr (10, [.ref wl, .int tx, .int sx, .ref rt])), (wl, .inl (cV, 10000, .inr (.inr (.inr (.inr gx)))))]) (pl1 := va_pl L (pf f nx)) hP hD [0, 1] [] rfl rfl (by decide) (by decide) hk1 hFc hP1 hD1
        generalize H1 = H at hP hS hce ⊢
        have hP : va_P (dC, dI) classes ([(wk, .inr (10, [.ref wl, .int tx, .int sx, .ref rt])), (wl, .inl (cV, 10000, .inr (.inr (.inr (.inr gx)))))] ++ va_pl L (pf f nx)) H := hP
        have hD : va_D A ([(wk, .inr (10, [.ref wl, .int tx, .int sx, .ref rt])), (wl, .inl (cV, 10000, .inr (.inr (.inr (.inr gx)))))] ++ va_pl L (pf f nx)) := hD
        exact vx_out (fun x hx => (hex x hx).elim) hlocks hce hcv hcl (fun t9 ht2 ha => ⟨(tx, sx, gx, nx), trivial, ⟨hEn, by rw [ht2]; exact hP, va_K.moved ha hK, hD⟩, hS.F ht2⟩) hS.2.2 (Nat.le_of_ble_eq_true rfl) (Nat.le_of_ble_eq_true rfl)
      · obtain ⟨⟨hP1, hK1, hD1⟩, hz9⟩ := hB
        rw [ht] at hP1
        rw [ht] at hz9
        refine w_tight (hq0.trans hz9) ?_
        have hq0 := hq0.trans hz9
        obtain ⟨hP, hD⟩ := va_joinP (wr := []) (rx := [(wk, .inr (10, [.ref wl, .int (nI t6), .int (nI s6), .ref rt])), (wl, .inl (cV, 10000, .inr (.inr (.inr (.inr g6)))))]) (pl1 := va_pl L (pf f n6)) hP hD [0, 1] [] rfl rfl (by decide) (by decide) hk1 hFc hP1 hD1
        generalize H1 = H at hP hS hq0 ⊢
        have hP : va_P (dC, dI) classes ([(wk, .inr (10, [.ref wl, .int (nI t6), .int (nI s6), .ref rt])), (wl, .inl (cV, 10000, .inr (.inr (.inr (.inr g6)))))] ++ va_pl L (pf f n6)) H := hP
        have hD : va_D A ([(wk, .inr (10, [.ref wl, .int (nI t6), .int (nI s6), .ref rt])), (wl, .inl (cV, 10000, .inr (.inr (.inr (.inr g6)))))] ++ va_pl L (pf f n6)) := hD
        obtain ⟨ha6, hb6, hW6⟩ := hw
        have ha6 : t6 = t + 1 := ha6
        have hb6 : s6 = s9 + 1 := hb6
        have hW6 : WI E t6 s6 g6 := hW6
        have hhW61 := hW6.1
        have hhW62 := hW6.2.1
        refine lv_iinc (v := nI (i + 1)) (lv' := [(2, .int (nI (i + 1))), (0, .ref wk), (1, .ref nd)]) hx hb d_Walk_pushAll_20 hl (k := 2) rfl (nI_1 _) (by decide) rfl (fun ls hl => ?_)
        refine lv_goto (tgt := 2) hx hb d_Walk_pushAll_23 (by decide) ?_
        exact ih (i + 1, t6, s6, g6, n6) _ _ _ ⟨show i + 1 ≤ 4096 by omega, by show tp ≤ t6; omega, by show sp ≤ s6; omega, hW6⟩ (by show 4096 - (i + 1) < 4096 - i; omega) hP hD hS (lv_sub hl [1, 2, 0] rfl)
abbrev b_Walk_pushAt : ByteArray := prog_12_method_10_code
def y_Walk_pushAt : MethodName := ⟨"QueryBench$Walk", "pushAt", "(LQueryBench$Value;J)V"⟩
abbrev k_Walk_pushAt : Cond := .code y_Walk_pushAt b_Walk_pushAt 6 none
theorem i_Walk_pushAt : k_Walk_pushAt ∈ gtbl := gt_in 878 (by decide +kernel) (by decide +kernel)
theorem d_Walk_pushAt_0 : decode b_Walk_pushAt 0 = .ok (.lload_n 2, 1) := by decide +kernel
theorem d_Walk_pushAt_1 : decode b_Walk_pushAt 1 = .ok (.lconst 0, 1) := by decide +kernel
theorem d_Walk_pushAt_2 : decode b_Walk_pushAt 2 = .ok (.lcmp, 1) := by decide +kernel
theorem d_Walk_pushAt_3 : decode b_Walk_pushAt 3 = .ok (.ifCond .ge 13, 3) := by decide +kernel
theorem d_Walk_pushAt_6 : decode b_Walk_pushAt 6 = .ok (.lload_n 2, 1) := by decide +kernel
theorem d_Walk_pushAt_7 : decode b_Walk_pushAt 7 = .ok (.aload_n 1, 1) := by decide +kernel
theorem d_Walk_pushAt_8 : decode b_Walk_pushAt 8 = .ok (.invokevirtual 118, 3) := by decide +kernel
theorem d_Walk_pushAt_11 : decode b_Walk_pushAt 11 = .ok (.i2l, 1) := by decide +kernel
theorem d_Walk_pushAt_12 : decode b_Walk_pushAt 12 = .ok (.ladd, 1) := by decide +kernel
theorem d_Walk_pushAt_13 : decode b_Walk_pushAt 13 = .ok (.goto 4, 3) := by decide +kernel
theorem d_Walk_pushAt_16 : decode b_Walk_pushAt 16 = .ok (.lload_n 2, 1) := by decide +kernel
theorem d_Walk_pushAt_17 : decode b_Walk_pushAt 17 = .ok (.lstore 4, 2) := by decide +kernel
theorem d_Walk_pushAt_19 : decode b_Walk_pushAt 19 = .ok (.aload_n 1, 1) := by decide +kernel
theorem d_Walk_pushAt_20 : decode b_Walk_pushAt 20 = .ok (.getfield 125, 3) := by decide +kernel
theorem d_Walk_pushAt_23 : decode b_Walk_pushAt 23 = .ok (.iconst 5, 1) := by decide +kernel
theorem d_Walk_pushAt_24 : decode b_Walk_pushAt 24 = .ok (.if_icmp .ne 33, 3) := by decide +kernel
theorem d_Walk_pushAt_27 : decode b_Walk_pushAt 27 = .ok (.lload 4, 2) := by decide +kernel
theorem d_Walk_pushAt_29 : decode b_Walk_pushAt 29 = .ok (.lconst 0, 1) := by decide +kernel
theorem d_Walk_pushAt_30 : decode b_Walk_pushAt 30 = .ok (.lcmp, 1) := by decide +kernel
theorem d_Walk_pushAt_31 : decode b_Walk_pushAt 31 = .ok (.ifCond .lt 26, 3) := by decide +kernel
theorem d_Walk_pushAt_34 : decode b_Walk_pushAt 34 = .ok (.lload 4, 2) := by decide +kernel
theorem d_Walk_pushAt_36 : decode b_Walk_pushAt 36 = .ok (.aload_n 1, 1) := by decide +kernel
theorem d_Walk_pushAt_37 : decode b_Walk_pushAt 37 = .ok (.invokevirtual 118, 3) := by decide +kernel
theorem d_Walk_pushAt_40 : decode b_Walk_pushAt 40 = .ok (.i2l, 1) := by decide +kernel
theorem d_Walk_pushAt_41 : decode b_Walk_pushAt 41 = .ok (.lcmp, 1) := by decide +kernel
theorem d_Walk_pushAt_42 : decode b_Walk_pushAt 42 = .ok (.ifCond .ge 15, 3) := by decide +kernel
theorem d_Walk_pushAt_45 : decode b_Walk_pushAt 45 = .ok (.aload_n 0, 1) := by decide +kernel
theorem d_Walk_pushAt_46 : decode b_Walk_pushAt 46 = .ok (.aload_n 1, 1) := by decide +kernel
theorem d_Walk_pushAt_47 : decode b_Walk_pushAt 47 = .ok (.getfield 122, 3) := by decide +kernel
theorem d_Walk_pushAt_50 : decode b_Walk_pushAt 50 = .ok (.lload 4, 2) := by decide +kernel
theorem d_Walk_pushAt_52 : decode b_Walk_pushAt 52 = .ok (.l2i, 1) := by decide +kernel
theorem d_Walk_pushAt_53 : decode b_Walk_pushAt 53 = .ok (.aaload, 1) := by decide +kernel
theorem d_Walk_pushAt_54 : decode b_Walk_pushAt 54 = .ok (.invokevirtual 38, 3) := by decide +kernel
theorem d_Walk_pushAt_57 : decode b_Walk_pushAt 57 = .ok (.return_, 1) := by decide +kernel
set_option maxHeartbeats 4000000 in
set_option maxRecDepth 100000 in
/-- Walk.pushAt -/
theorem c_Walk_pushAt (l : Launch) (hl9 : l.stackTraces = false) (K : Nat → Nat × Nat) (dC : Nat → ClassId) (dI : Nat → Nat → Nat) (sz : Heap) (cI cV : ClassId) (E lv : Nat → Nat) (L : List Nat) (f : Nat → va_E) (hO : PO cI cV E lv L f) (hN1 : ∀ a, E a ≠ 1) (wk wl rt : Nat) (hrt : isF E rt) (tp sp : Nat) (g : Nat → Option Nat) (ν : Nat → Int64) (hW9 : WI E tp sp g) (nd : Nat) (hnd : isF E nd) (ix9 : Int64) : vx_Met l y_Walk_pushAt (k_Walk_pushAt :: gtbl) ({ frames := 10, cells := 1, slots := 6, locals := 200 }) (va_Pc [.ref wk, .ref nd, .long ix9] (ml K dC dI ([(wk, .inr (10, [.ref wl, .int (nI tp), .int (nI sp), .ref rt])), (wl, .inl (cV, 10000, .inr (.inr (.inr (.inr g)))))] ++ va_pl L (pf f ν)) [(cI, .int), (cV, .object "QueryBench$Value")] sz)) (va_Qv (fun (u : Nat × Nat × (Nat → Option Nat) × (Nat → Int64)) => tp ≤ u.1 ∧ sp ≤ u.2.1 ∧ WI E u.1 u.2.1 u.2.2.1) (fun u t9 => mz dC dI ([(wk, .inr (10, [.ref wl, .int (nI u.1), .int (nI u.2.1), .ref rt])), (wl, .inl (cV, 10000, .inr (.inr (.inr (.inr u.2.2.1)))))] ++ va_pl L (pf f u.2.2.2)) [(cI, .int), (cV, .object "QueryBench$Value")] (va_A ([(wk, .inr (10, [.ref wl, .int (nI tp), .int (nI sp), .ref rt])), (wl, .inl (cV, 10000, .inr (.inr (.inr (.inr g)))))] ++ va_pl L (pf f ν)) sz.size) t9 ∧ szk sz t9.heap (0) (0)) (va_A ([(wk, .inr (10, [.ref wl, .int (nI tp), .int (nI sp), .ref rt])), (wl, .inl (cV, 10000, .inr (.inr (.inr (.inr g)))))] ++ va_pl L (pf f ν)) sz.size)) (vx_X (fun (u : Int32 × Int32 × (Nat → Option Nat) × (Nat → Int64)) => True) (fun En u t9 => En = IOB ∧ mz dC dI ([(wk, .inr (10, [.ref wl, .int u.1, .int u.2.1, .ref rt])), (wl, .inl (cV, 10000, .inr (.inr (.inr (.inr u.2.2.1)))))] ++ va_pl L (pf f u.2.2.2)) [(cI, .int), (cV, .object "QueryBench$Value")] (va_A ([(wk, .inr (10, [.ref wl, .int (nI tp), .int (nI sp), .ref rt])), (wl, .inl (cV, 10000, .inr (.inr (.inr (.inr g)))))] ++ va_pl L (pf f ν)) sz.size) t9) (va_A ([(wk, .inr (10, [.ref wl, .int (nI tp), .int (nI sp), .ref rt])), (wl, .inl (cV, 10000, .inr (.inr (.inr (.inr g)))))] ++ va_pl L (pf f ν)) sz.size)) (1) (6) (va_A ([(wk, .inr (10, [.ref wl, .int (nI tp), .int (nI sp), .ref rt])), (wl, .inl (cV, 10000, .inr (.inr (.inr (.inr g)))))] ++ va_pl L (pf f ν)) sz.size) := by
  refine vx_ofW (cc := b_Walk_pushAt) (maxL := 6) (ret := none) (by decide) rfl ?_
  intro p e s m args below meth c s₁ B hml hex hv
  obtain ⟨rfl, ⟨hsz, hP, hK, hD0⟩, hN, hZ, hC, hV⟩ := hv
  have hx := B.exec
  have hb := B.bytes
  have hr := B.returns
  have hts0 := atoms_spec (ws := k_Walk_pushAt :: gtbl) B.pre
  have hts := fun w h => hts0 w (List.mem_cons_of_mem _ h)
  have hown : s.vm.findClass R_Walk = some m.cls := findClass_of_methodNamed B.named
  have hlocks := B.notSynchronized
  subst hsz
  have hD := hD0.self (sz := s.heap.size)
  generalize hAe : va_A ([(wk, .inr (10, [.ref wl, .int (nI tp), .int (nI sp), .ref rt])), (wl, .inl (cV, 10000, .inr (.inr (.inr (.inr g)))))] ++ va_pl L (pf f ν)) s.heap.size = A at hD hZ hC ⊢
  have hA : ∀ q : Nat, s.heap.size ≤ q → A q := fun q h => by rw [← hAe]; exact Or.inr h
  have hS : va_S A s.heap s.heap [] := va_S.rf
  have hP : va_P (dC, dI) classes ([(wk, .inr (10, [.ref wl, .int (nI tp), .int (nI sp), .ref rt])), (wl, .inl (cV, 10000, .inr (.inr (.inr (.inr g)))))] ++ va_pl L (pf f ν)) s.heap := hP
  have hl := lv_entry ([.ref wk, .ref nd, .long ix9]) (n := 6) (Nat.le_of_ble_eq_true rfl)
  rw [lg_entry_eq]
  generalize (lg_sl ([.ref wk, .ref nd, .long ix9]) ++ List.replicate (6 - (lg_sl ([.ref wk, .ref nd, .long ix9])).length) Slot.unset).toArray = ls at hl ⊢
  have hl : lv_has ls 6 [(0, .ref wk), (1, .ref nd), (2, .long ix9)] := hl
  have hW0 := hW9
  have hW1 := hW9.1
  have hW2 := hW9.2.1
  refine lv_lload_n hx hb d_Walk_pushAt_0 rfl (lv_at hl 2 rfl) ?_
  refine lv_lconst (v := 0) hx hb d_Walk_pushAt_1 (by decide) ?_
  refine W.lcmp hx hb d_Walk_pushAt_2 ?_
  refine lv_if_ge (tgt := 16) hx hb d_Walk_pushAt_3 (by decide) (fun c3 => ?_) (fun c3 => ?_)
  · refine lv_lload_n hx hb d_Walk_pushAt_16 rfl (lv_at hl 2 rfl) ?_
    refine lv_lstore (lv' := [(4, .long ix9), (0, .ref wk), (1, .ref nd), (2, .long ix9)]) hx hb d_Walk_pushAt_17 hl (by decide) rfl (fun ls hl => ?_)
    refine lv_aload_n hx hb d_Walk_pushAt_19 rfl (lv_at hl 2 rfl) ?_
    obtain ⟨kd1, nu1, tx1, me1, pa1, na1, ix1, nm1, no1, sp1, ef1, hv1⟩ := hO.val ((isF.v hnd))
    refine vq_get (D := (dC, dI)) (ci := 9) (v := .int kd1) (C := R_Value) (T := F_Value) (N := 10) hx hb hts in_Value hown hK hP (hO.inV (isF.v hnd)) (pf_V ef1) rfl 0 (by decide) (hts _ z_315) (fun _ h9 => h9) rfl d_Walk_pushAt_20 ?_
    refine lv_iconst (v := 5) hx hb d_Walk_pushAt_23 (by decide) ?_
    refine lv_icmp_ne (tgt := 57) hx hb d_Walk_pushAt_24 (by decide) (fun c24 => ?_) (fun c24 => ?_)
    · refine w_same (fun hq => ?_)
      refine W.widen (k := 1) (n := 6) (Nat.le_of_ble_eq_true rfl) (Nat.le_of_ble_eq_true rfl) ?_
      refine vx_ret ?_
      exact W.vret hx hb hr (fun t9 ht hW => ⟨⟨(tp, sp, g, ν), rfl, ⟨by show tp ≤ tp; omega, by show sp ≤ sp; omega, hW9⟩, ⟨by rw [ht]; exact hP, va_K.moved hW.alike hK, hD⟩, by rw [ht]; exact hq⟩, hS.F ht⟩) hS.2.2 d_Walk_pushAt_57
    · refine lv_lload hx hb d_Walk_pushAt_27 (lv_at hl 0 rfl) ?_
      refine lv_lconst (v := 0) hx hb d_Walk_pushAt_29 (by decide) ?_
      refine W.lcmp hx hb d_Walk_pushAt_30 ?_
      refine lv_if_lt (tgt := 57) hx hb d_Walk_pushAt_31 (by decide) (fun c31 => ?_) (fun c31 => ?_)
      · refine w_same (fun hq => ?_)
        refine W.widen (k := 1) (n := 6) (Nat.le_of_ble_eq_true rfl) (Nat.le_of_ble_eq_true rfl) ?_
        refine vx_ret ?_
        exact W.vret hx hb hr (fun t9 ht hW => ⟨⟨(tp, sp, g, ν), rfl, ⟨by show tp ≤ tp; omega, by show sp ≤ sp; omega, hW9⟩, ⟨by rw [ht]; exact hP, va_K.moved hW.alike hK, hD⟩, by rw [ht]; exact hq⟩, hS.F ht⟩) hS.2.2 d_Walk_pushAt_57
      · refine lv_lload hx hb d_Walk_pushAt_34 (lv_at hl 0 rfl) ?_
        refine lv_aload_n hx hb d_Walk_pushAt_36 rfl (lv_at hl 2 rfl) ?_
        refine vp_callSi (va_Run.run (va_runV (As := []) (rest := [.long ix9]) ⟨hx, hb, hml, hown, hts⟩ (c_Value_size l dC dI s.heap cI cV E lv L (pf f ν) (hO.num ν) nd hnd) (cwV 0 hts (gt_V (own := R_Walk) (C := R_Value) (i := 118) (y := y_Value_size) i_Value_size z_874 z_866 z_867 z_14) rfl rfl rfl (by decide +kernel) ⟨Nat.le_of_ble_eq_true rfl, Nat.le_of_ble_eq_true rfl⟩) ⟨mq_blind, vq_recv hK hP rfl (hO.inV (isF.v hnd)) (pf_V ef1), fun U hU hW => ⟨rfl, hU, by rw [hU]; exact hP.part (cx := []) [] rfl, va_K.moved hW.alike hK, hN.warm hW⟩⟩ rfl rfl hl.1 rfl (lv_room (Nat.le_of_ble_eq_true rfl)) d_Walk_pushAt_37 ⟨Nat.le_of_ble_eq_true rfl, Nat.le_of_ble_eq_true rfl⟩)) (fun r2 h_r2 => ?_)
        rw [hO.szpf hnd] at h_r2
        subst h_r2
        refine lv_i2l (v := ((nI (szF f nd))).toInt64) hx hb d_Walk_pushAt_40 rfl ?_
        refine W.lcmp hx hb d_Walk_pushAt_41 ?_
        refine lv_if_ge (tgt := 57) hx hb d_Walk_pushAt_42 (by decide) (fun c42 => ?_) (fun c42 => ?_)
        · refine w_same (fun hq => ?_)
          refine W.widen (k := 1) (n := 6) (Nat.le_of_ble_eq_true rfl) (Nat.le_of_ble_eq_true rfl) ?_
          refine vx_ret ?_
          exact W.vret hx hb hr (fun t9 ht hW => ⟨⟨(tp, sp, g, ν), rfl, ⟨by show tp ≤ tp; omega, by show sp ≤ sp; omega, hW9⟩, ⟨by rw [ht]; exact hP, va_K.moved hW.alike hK, hD⟩, by rw [ht]; exact hq⟩, hS.F ht⟩) hS.2.2 d_Walk_pushAt_57
        · have hs := hO.szle ef1 hv1
          obtain ⟨j, hj, ej⟩ := l_at (x := ix9) hs c31 c42
          refine lv_aload_n hx hb d_Walk_pushAt_45 rfl (lv_at hl 1 rfl) ?_
          refine lv_aload_n hx hb d_Walk_pushAt_46 rfl (lv_at hl 2 rfl) ?_
          rcases me1 with _ | b3
          · exact absurd (PO.mem0 ef1) (by omega)
          · refine vq_get (D := (dC, dI)) (ci := 9) (v := .ref b3) (C := R_Value) (T := F_Value) (N := 10) hx hb hts in_Value hown hK hP (hO.inV (isF.v hnd)) (pf_V ef1) rfl 3 (by decide) (hts _ z_328) (fun _ h9 => h9) rfl d_Walk_pushAt_47 ?_
            refine lv_lload hx hb d_Walk_pushAt_50 (lv_at hl 0 rfl) ?_
            refine lv_l2i (v := ix9.toInt32) hx hb d_Walk_pushAt_52 rfl ?_
            refine W.eq (g2 := F0 m 53 ls [.int (nI j), .ref b3, .ref wk]) (by rw [show (ix9.toInt32) = (nI j) from (by rw [ej]; exact lN_i j)]) ?_
            obtain ⟨g4, hi4, ef4, hg4⟩ := hO.mem1 ef1 hv1 (isF.n1 hnd)
            have hn4 := hO.szle ef1 hv1
            obtain ⟨me5, hm5, hf5, hnm5⟩ := hg4 j hj
            refine vq_aald hx hb hK hP 1 hi4 (pf_A ef4) rfl (j := j) hj hn4 hm5 d_Walk_pushAt_53 ?_
            have hPc := hP.part (cx := [(wk, .inr (10, [.ref wl, .int (nI tp), .int (nI sp), .ref rt])), (wl, .inl (cV, 10000, .inr (.inr (.inr (.inr g)))))]) [0, 1] rfl
            have hDc := hD.part (cx := [(wk, .inr (10, [.ref wl, .int (nI tp), .int (nI sp), .ref rt])), (wl, .inl (cV, 10000, .inr (.inr (.inr (.inr g)))))]) [0, 1] (by decide) rfl
            have hFc := va_freeP (cx := [(wk, .inr (10, [.ref wl, .int (nI tp), .int (nI sp), .ref rt])), (wl, .inl (cV, 10000, .inr (.inr (.inr (.inr g)))))]) hD hS hA [0, 1] rfl
            have hKc := hK.sub (tys' := [(cI, .int), (cV, .object "QueryBench$Value")]) [0, 1] rfl
            refine w_same (fun hq0 => ?_)
            refine vx_callv (vx_runV (As := [.ref me5]) (rest := []) ⟨hx, hb, hml, hown, hts⟩ (c_Walk_push l hl9 K dC dI s.heap cI cV E lv L f hO hN1 wk wl rt hrt tp sp g ν hW9 me5 hf5) (cwV 1 hts (gt_V (own := R_Walk) (C := R_Walk) (i := 38) (y := y_Walk_push) i_Walk_push z_839 z_841 (gt_sel (y := y_Walk_push) (n := 4) (by decide +kernel)) w_5) rfl rfl rfl (by decide +kernel) ⟨Nat.le_of_ble_eq_true rfl, Nat.le_of_ble_eq_true rfl⟩) ⟨ml_blind, va_recv hK hP (ci := 10) (q0 := 0) rfl rfl, fun U hU hW => ⟨rfl, ⟨hU, by rw [hU]; exact hPc, va_K.moved hW.alike hKc, hDc.weaken (fun _ _ _ _ => trivial)⟩, hN.warm hW, by rw [hU]; exact ZX.moved' hW.alike (ZX.narrow' (ZX.kept' hZ hS.2.1) hFc), by rw [hU]; exact CE.call hC hS.2.1 hFc hW, va_AO.moved hW.alike hV⟩⟩ rfl rfl hl.1 rfl (lv_room (Nat.le_of_ble_eq_true rfl)) d_Walk_pushAt_54 ⟨Nat.le_of_ble_eq_true rfl, Nat.le_of_ble_eq_true rfl⟩) hS (fun q _ h => hFc q h) hFc (fun q _ h => hFc q h) (fun En ce q9 ⟨tx, sx, gx, nx⟩ t9 H1 locs ht hvm hw hB hz1 hk1 hS hce hcv hcl => ?_) (fun ⟨t6, s6, g6, n6⟩ t9 H1 locs ht hvm hw hB hz1 hk1 hS => ?_)
            · obtain ⟨hEn, hP1, hK1, hD1⟩ := hB
              rw [ht] at hP1
              obtain ⟨hP, hD⟩ := va_joinP (wr := []) (rx := [(wk, .inr (10, [.ref wl, .int tx, .int sx, .ref rt])), (wl, .inl (cV, 10000, .inr (.inr (.inr (.inr gx)))))]) (pl1 := va_pl L (pf f nx)) hP hD [0, 1] [] rfl rfl (by decide) (by decide) hk1 hFc hP1 hD1
              generalize H1 = H at hP hS hce ⊢
              have hP : va_P (dC, dI) classes ([(wk, .inr (10, [.ref wl, .int tx, .int sx, .ref rt])), (wl, .inl (cV, 10000, .inr (.inr (.inr (.inr gx)))))] ++ va_pl L (pf f nx)) H := hP
              have hD : va_D A ([(wk, .inr (10, [.ref wl, .int tx, .int sx, .ref rt])), (wl, .inl (cV, 10000, .inr (.inr (.inr (.inr gx)))))] ++ va_pl L (pf f nx)) := hD
              exact vx_out (fun x hx => (hex x hx).elim) hlocks hce hcv hcl (fun t9 ht2 ha => ⟨(tx, sx, gx, nx), trivial, ⟨hEn, by rw [ht2]; exact hP, va_K.moved ha hK, hD⟩, hS.F ht2⟩) hS.2.2 (Nat.le_of_ble_eq_true rfl) (Nat.le_of_ble_eq_true rfl)
            · obtain ⟨⟨hP1, hK1, hD1⟩, hz9⟩ := hB
              rw [ht] at hP1
              rw [ht] at hz9
              refine w_tight (hq0.trans hz9) ?_
              have hq0 := hq0.trans hz9
              obtain ⟨hP, hD⟩ := va_joinP (wr := []) (rx := [(wk, .inr (10, [.ref wl, .int (nI t6), .int (nI s6), .ref rt])), (wl, .inl (cV, 10000, .inr (.inr (.inr (.inr g6)))))]) (pl1 := va_pl L (pf f n6)) hP hD [0, 1] [] rfl rfl (by decide) (by decide) hk1 hFc hP1 hD1
              generalize H1 = H at hP hS hq0 ⊢
              have hP : va_P (dC, dI) classes ([(wk, .inr (10, [.ref wl, .int (nI t6), .int (nI s6), .ref rt])), (wl, .inl (cV, 10000, .inr (.inr (.inr (.inr g6)))))] ++ va_pl L (pf f n6)) H := hP
              have hD : va_D A ([(wk, .inr (10, [.ref wl, .int (nI t6), .int (nI s6), .ref rt])), (wl, .inl (cV, 10000, .inr (.inr (.inr (.inr g6)))))] ++ va_pl L (pf f n6)) := hD
              obtain ⟨ha6, hb6, hW6⟩ := hw
              have ha6 : t6 = tp + 1 := ha6
              have hb6 : s6 = sp + 1 := hb6
              have hW6 : WI E t6 s6 g6 := hW6
              have hhW61 := hW6.1
              have hhW62 := hW6.2.1
              refine w_same (fun hq => ?_)
              refine W.widen (k := 1) (n := 6) (Nat.le_of_ble_eq_true rfl) (Nat.le_of_ble_eq_true rfl) ?_
              refine vx_ret ?_
              exact W.vret hx hb hr (fun t9 ht hW => ⟨⟨(t6, s6, g6, n6), rfl, ⟨by show tp ≤ t6; omega, by show sp ≤ s6; omega, hW6⟩, ⟨by rw [ht]; exact hP, va_K.moved hW.alike hK, hD⟩, by rw [ht]; exact hq⟩, hS.F ht⟩) hS.2.2 d_Walk_pushAt_57
  · refine lv_lload_n hx hb d_Walk_pushAt_6 rfl (lv_at hl 2 rfl) ?_
    refine lv_aload_n hx hb d_Walk_pushAt_7 rfl (lv_at hl 1 rfl) ?_
    obtain ⟨kd7, nu7, tx7, me7, pa7, na7, ix7, nm7, no7, sp7, ef7, hv7⟩ := hO.val ((isF.v hnd))
    refine vp_callSi (va_Run.run (va_runV (As := []) (rest := [.long ix9]) ⟨hx, hb, hml, hown, hts⟩ (c_Value_size l dC dI s.heap cI cV E lv L (pf f ν) (hO.num ν) nd hnd) (cwV 0 hts (gt_V (own := R_Walk) (C := R_Value) (i := 118) (y := y_Value_size) i_Value_size z_874 z_866 z_867 z_14) rfl rfl rfl (by decide +kernel) ⟨Nat.le_of_ble_eq_true rfl, Nat.le_of_ble_eq_true rfl⟩) ⟨mq_blind, vq_recv hK hP rfl (hO.inV (isF.v hnd)) (pf_V ef7), fun U hU hW => ⟨rfl, hU, by rw [hU]; exact hP.part (cx := []) [] rfl, va_K.moved hW.alike hK, hN.warm hW⟩⟩ rfl rfl hl.1 rfl (lv_room (Nat.le_of_ble_eq_true rfl)) d_Walk_pushAt_8 ⟨Nat.le_of_ble_eq_true rfl, Nat.le_of_ble_eq_true rfl⟩)) (fun r8 h_r8 => ?_)
    rw [hO.szpf hnd] at h_r8
    subst h_r8
    refine lv_i2l (v := ((nI (szF f nd))).toInt64) hx hb d_Walk_pushAt_11 rfl ?_
    refine lv_ladd hx hb d_Walk_pushAt_12 ?_
    refine lv_goto (tgt := 17) hx hb d_Walk_pushAt_13 (by decide) ?_
    refine lv_lstore (lv' := [(4, .long (ix9 + (((nI (szF f nd))).toInt64))), (0, .ref wk), (1, .ref nd), (2, .long ix9)]) hx hb d_Walk_pushAt_17 hl (by decide) rfl (fun ls hl => ?_)
    refine lv_aload_n hx hb d_Walk_pushAt_19 rfl (lv_at hl 2 rfl) ?_
    refine vq_get (D := (dC, dI)) (ci := 9) (v := .int kd7) (C := R_Value) (T := F_Value) (N := 10) hx hb hts in_Value hown hK hP (hO.inV (isF.v hnd)) (pf_V ef7) rfl 0 (by decide) (hts _ z_315) (fun _ h9 => h9) rfl d_Walk_pushAt_20 ?_
    refine lv_iconst (v := 5) hx hb d_Walk_pushAt_23 (by decide) ?_
    refine lv_icmp_ne (tgt := 57) hx hb d_Walk_pushAt_24 (by decide) (fun c24 => ?_) (fun c24 => ?_)
    · refine w_same (fun hq => ?_)
      refine W.widen (k := 1) (n := 6) (Nat.le_of_ble_eq_true rfl) (Nat.le_of_ble_eq_true rfl) ?_
      refine vx_ret ?_
      exact W.vret hx hb hr (fun t9 ht hW => ⟨⟨(tp, sp, g, ν), rfl, ⟨by show tp ≤ tp; omega, by show sp ≤ sp; omega, hW9⟩, ⟨by rw [ht]; exact hP, va_K.moved hW.alike hK, hD⟩, by rw [ht]; exact hq⟩, hS.F ht⟩) hS.2.2 d_Walk_pushAt_57
    · refine lv_lload hx hb d_Walk_pushAt_27 (lv_at hl 0 rfl) ?_
      refine lv_lconst (v := 0) hx hb d_Walk_pushAt_29 (by decide) ?_
      refine W.lcmp hx hb d_Walk_pushAt_30 ?_
      refine lv_if_lt (tgt := 57) hx hb d_Walk_pushAt_31 (by decide) (fun c31 => ?_) (fun c31 => ?_)
      · refine w_same (fun hq => ?_)
        refine W.widen (k := 1) (n := 6) (Nat.le_of_ble_eq_true rfl) (Nat.le_of_ble_eq_true rfl) ?_
        refine vx_ret ?_
        exact W.vret hx hb hr (fun t9 ht hW => ⟨⟨(tp, sp, g, ν), rfl, ⟨by show tp ≤ tp; omega, by show sp ≤ sp; omega, hW9⟩, ⟨by rw [ht]; exact hP, va_K.moved hW.alike hK, hD⟩, by rw [ht]; exact hq⟩, hS.F ht⟩) hS.2.2 d_Walk_pushAt_57
      · refine lv_lload hx hb d_Walk_pushAt_34 (lv_at hl 0 rfl) ?_
        refine lv_aload_n hx hb d_Walk_pushAt_36 rfl (lv_at hl 2 rfl) ?_
        refine vp_callSi (va_Run.run (va_runV (As := []) (rest := [.long (ix9 + (((nI (szF f nd))).toInt64))]) ⟨hx, hb, hml, hown, hts⟩ (c_Value_size l dC dI s.heap cI cV E lv L (pf f ν) (hO.num ν) nd hnd) (cwV 0 hts (gt_V (own := R_Walk) (C := R_Value) (i := 118) (y := y_Value_size) i_Value_size z_874 z_866 z_867 z_14) rfl rfl rfl (by decide +kernel) ⟨Nat.le_of_ble_eq_true rfl, Nat.le_of_ble_eq_true rfl⟩) ⟨mq_blind, vq_recv hK hP rfl (hO.inV (isF.v hnd)) (pf_V ef7), fun U hU hW => ⟨rfl, hU, by rw [hU]; exact hP.part (cx := []) [] rfl, va_K.moved hW.alike hK, hN.warm hW⟩⟩ rfl rfl hl.1 rfl (lv_room (Nat.le_of_ble_eq_true rfl)) d_Walk_pushAt_37 ⟨Nat.le_of_ble_eq_true rfl, Nat.le_of_ble_eq_true rfl⟩)) (fun r9 h_r9 => ?_)
        rw [hO.szpf hnd] at h_r9
        subst h_r9
        refine lv_i2l (v := ((nI (szF f nd))).toInt64) hx hb d_Walk_pushAt_40 rfl ?_
        refine W.lcmp hx hb d_Walk_pushAt_41 ?_
        refine lv_if_ge (tgt := 57) hx hb d_Walk_pushAt_42 (by decide) (fun c42 => ?_) (fun c42 => ?_)
        · refine w_same (fun hq => ?_)
          refine W.widen (k := 1) (n := 6) (Nat.le_of_ble_eq_true rfl) (Nat.le_of_ble_eq_true rfl) ?_
          refine vx_ret ?_
          exact W.vret hx hb hr (fun t9 ht hW => ⟨⟨(tp, sp, g, ν), rfl, ⟨by show tp ≤ tp; omega, by show sp ≤ sp; omega, hW9⟩, ⟨by rw [ht]; exact hP, va_K.moved hW.alike hK, hD⟩, by rw [ht]; exact hq⟩, hS.F ht⟩) hS.2.2 d_Walk_pushAt_57
        · have hs := hO.szle ef7 hv7
          obtain ⟨j, hj, ej⟩ := l_at (x := (ix9 + (((nI (szF f nd))).toInt64))) hs c31 c42
          refine lv_aload_n hx hb d_Walk_pushAt_45 rfl (lv_at hl 1 rfl) ?_
          refine lv_aload_n hx hb d_Walk_pushAt_46 rfl (lv_at hl 2 rfl) ?_
          rcases me7 with _ | b10
          · exact absurd (PO.mem0 ef7) (by omega)
          · refine vq_get (D := (dC, dI)) (ci := 9) (v := .ref b10) (C := R_Value) (T := F_Value) (N := 10) hx hb hts in_Value hown hK hP (hO.inV (isF.v hnd)) (pf_V ef7) rfl 3 (by decide) (hts _ z_328) (fun _ h9 => h9) rfl d_Walk_pushAt_47 ?_
            refine lv_lload hx hb d_Walk_pushAt_50 (lv_at hl 0 rfl) ?_
            refine lv_l2i (v := ((ix9 + (((nI (szF f nd))).toInt64))).toInt32) hx hb d_Walk_pushAt_52 rfl ?_
            refine W.eq (g2 := F0 m 53 ls [.int (nI j), .ref b10, .ref wk]) (by rw [show (((ix9 + (((nI (szF f nd))).toInt64))).toInt32) = (nI j) from (by rw [ej]; exact lN_i j)]) ?_
            obtain ⟨g11, hi11, ef11, hg11⟩ := hO.mem1 ef7 hv7 (isF.n1 hnd)
            have hn11 := hO.szle ef7 hv7
            obtain ⟨me12, hm12, hf12, hnm12⟩ := hg11 j hj
            refine vq_aald hx hb hK hP 1 hi11 (pf_A ef11) rfl (j := j) hj hn11 hm12 d_Walk_pushAt_53 ?_
            have hPc := hP.part (cx := [(wk, .inr (10, [.ref wl, .int (nI tp), .int (nI sp), .ref rt])), (wl, .inl (cV, 10000, .inr (.inr (.inr (.inr g)))))]) [0, 1] rfl
            have hDc := hD.part (cx := [(wk, .inr (10, [.ref wl, .int (nI tp), .int (nI sp), .ref rt])), (wl, .inl (cV, 10000, .inr (.inr (.inr (.inr g)))))]) [0, 1] (by decide) rfl
            have hFc := va_freeP (cx := [(wk, .inr (10, [.ref wl, .int (nI tp), .int (nI sp), .ref rt])), (wl, .inl (cV, 10000, .inr (.inr (.inr (.inr g)))))]) hD hS hA [0, 1] rfl
            have hKc := hK.sub (tys' := [(cI, .int), (cV, .object "QueryBench$Value")]) [0, 1] rfl
            refine w_same (fun hq0 => ?_)
            refine vx_callv (vx_runV (As := [.ref me12]) (rest := []) ⟨hx, hb, hml, hown, hts⟩ (c_Walk_push l hl9 K dC dI s.heap cI cV E lv L f hO hN1 wk wl rt hrt tp sp g ν hW9 me12 hf12) (cwV 1 hts (gt_V (own := R_Walk) (C := R_Walk) (i := 38) (y := y_Walk_push) i_Walk_push z_839 z_841 (gt_sel (y := y_Walk_push) (n := 4) (by decide +kernel)) w_5) rfl rfl rfl (by decide +kernel) ⟨Nat.le_of_ble_eq_true rfl, Nat.le_of_ble_eq_true rfl⟩) ⟨ml_blind, va_recv hK hP (ci := 10) (q0 := 0) rfl rfl, fun U hU hW => ⟨rfl, ⟨hU, by rw [hU]; exact hPc, va_K.moved hW.alike hKc, hDc.weaken (fun _ _ _ _ => trivial)⟩, hN.warm hW, by rw [hU]; exact ZX.moved' hW.alike (ZX.narrow' (ZX.kept' hZ hS.2.1) hFc), by rw [hU]; exact CE.call hC hS.2.1 hFc hW, va_AO.moved hW.alike hV⟩⟩ rfl rfl hl.1 rfl (lv_room (Nat.le_of_ble_eq_true rfl)) d_Walk_pushAt_54 ⟨Nat.le_of_ble_eq_true rfl, Nat.le_of_ble_eq_true rfl⟩) hS (fun q _ h => hFc q h) hFc (fun q _ h => hFc q h) (fun En ce q9 ⟨tx, sx, gx, nx⟩ t9 H1 locs ht hvm hw hB hz1 hk1 hS hce hcv hcl => ?_) (fun ⟨t13, s13, g13, n13⟩ t9 H1 locs ht hvm hw hB hz1 hk1 hS => ?_)
            · obtain ⟨hEn, hP1, hK1, hD1⟩ := hB
              rw [ht] at hP1
              obtain ⟨hP, hD⟩ := va_joinP (wr := []) (rx := [(wk, .inr (10, [.ref wl, .int tx, .int sx, .ref rt])), (wl, .inl (cV, 10000, .inr (.inr (.inr (.inr gx)))))]) (pl1 := va_pl L (pf f nx)) hP hD [0, 1] [] rfl rfl (by decide) (by decide) hk1 hFc hP1 hD1
              generalize H1 = H at hP hS hce ⊢
              have hP : va_P (dC, dI) classes ([(wk, .inr (10, [.ref wl, .int tx, .int sx, .ref rt])), (wl, .inl (cV, 10000, .inr (.inr (.inr (.inr gx)))))] ++ va_pl L (pf f nx)) H := hP
              have hD : va_D A ([(wk, .inr (10, [.ref wl, .int tx, .int sx, .ref rt])), (wl, .inl (cV, 10000, .inr (.inr (.inr (.inr gx)))))] ++ va_pl L (pf f nx)) := hD
              exact vx_out (fun x hx => (hex x hx).elim) hlocks hce hcv hcl (fun t9 ht2 ha => ⟨(tx, sx, gx, nx), trivial, ⟨hEn, by rw [ht2]; exact hP, va_K.moved ha hK, hD⟩, hS.F ht2⟩) hS.2.2 (Nat.le_of_ble_eq_true rfl) (Nat.le_of_ble_eq_true rfl)
            · obtain ⟨⟨hP1, hK1, hD1⟩, hz9⟩ := hB
              rw [ht] at hP1
              rw [ht] at hz9
              refine w_tight (hq0.trans hz9) ?_
              have hq0 := hq0.trans hz9
              obtain ⟨hP, hD⟩ := va_joinP (wr := []) (rx := [(wk, .inr (10, [.ref wl, .int (nI t13), .int (nI s13), .ref rt])), (wl, .inl (cV, 10000, .inr (.inr (.inr (.inr g13)))))]) (pl1 := va_pl L (pf f n13)) hP hD [0, 1] [] rfl rfl (by decide) (by decide) hk1 hFc hP1 hD1
              generalize H1 = H at hP hS hq0 ⊢
              have hP : va_P (dC, dI) classes ([(wk, .inr (10, [.ref wl, .int (nI t13), .int (nI s13), .ref rt])), (wl, .inl (cV, 10000, .inr (.inr (.inr (.inr g13)))))] ++ va_pl L (pf f n13)) H := hP
              have hD : va_D A ([(wk, .inr (10, [.ref wl, .int (nI t13), .int (nI s13), .ref rt])), (wl, .inl (cV, 10000, .inr (.inr (.inr (.inr g13)))))] ++ va_pl L (pf f n13)) := hD
              obtain ⟨ha13, hb13, hW13⟩ := hw
              have ha13 : t13 = tp + 1 := ha13
              have hb13 : s13 = sp + 1 := hb13
              have hW13 : WI E t13 s13 g13 := hW13
              have hhW131 := hW13.1
              have hhW132 := hW13.2.1
              refine w_same (fun hq => ?_)
              refine W.widen (k := 1) (n := 6) (Nat.le_of_ble_eq_true rfl) (Nat.le_of_ble_eq_true rfl) ?_
              refine vx_ret ?_
              exact W.vret hx hb hr (fun t9 ht hW => ⟨⟨(t13, s13, g13, n13), rfl, ⟨by show tp ≤ t13; omega, by show sp ≤ s13; omega, hW13⟩, ⟨by rw [ht]; exact hP, va_K.moved hW.alike hK, hD⟩, by rw [ht]; exact hq⟩, hS.F ht⟩) hS.2.2 d_Walk_pushAt_57
