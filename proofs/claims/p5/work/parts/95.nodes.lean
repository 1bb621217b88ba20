theorem z_121 : (.fieldLink "QueryBench$Walk" 17 "QueryBench$Walk" "root" "LQueryBench$Value;" : Cond) ∈ gtbl := gt_in 121 (by decide +kernel) (by decide +kernel)
theorem z_338 : (.fieldLink "QueryBench$Walk" 70 "QueryBench$Value" "nextOfAll" "LQueryBench$Value;" : Cond) ∈ gtbl := gt_in 338 (by decide +kernel) (by decide +kernel)
theorem z_340 : (.fieldLink "QueryBench$Walk" 67 "QueryBench$Value" "span" "I" : Cond) ∈ gtbl := gt_in 340 (by decide +kernel) (by decide +kernel)
theorem z_547 : (.fieldLink "QueryBench$Walk" 32 "QueryBench$Query" "fromRoot" "Z" : Cond) ∈ gtbl := gt_in 547 (by decide +kernel) (by decide +kernel)
theorem z_552 : (.fieldLink "QueryBench$Walk" 42 "QueryBench$Query" "first" "LQueryBench$Segment;" : Cond) ∈ gtbl := gt_in 552 (by decide +kernel) (by decide +kernel)
theorem z_576 : (.fieldLink "QueryBench$Walk" 61 "QueryBench$Segment" "descends" "Z" : Cond) ∈ gtbl := gt_in 576 (by decide +kernel) (by decide +kernel)
theorem z_581 : (.fieldLink "QueryBench$Walk" 50 "QueryBench$Segment" "next" "LQueryBench$Segment;" : Cond) ∈ gtbl := gt_in 581 (by decide +kernel) (by decide +kernel)
theorem z_849 : (.methodLink "QueryBench$Walk" 46 ⟨"QueryBench$Walk", "step", "(LQueryBench$Segment;LQueryBench$Value;)V"⟩ : Cond) ∈ gtbl := gt_in 849 (by decide +kernel) (by decide +kernel)
theorem z_851 : (.instanceMethod ⟨"QueryBench$Walk", "step", "(LQueryBench$Segment;LQueryBench$Value;)V"⟩ : Cond) ∈ gtbl := gt_in 851 (by decide +kernel) (by decide +kernel)
theorem z_853 : (.methodLink "QueryBench$Walk" 64 ⟨"QueryBench$Walk", "choose", "(LQueryBench$Segment;LQueryBench$Value;)V"⟩ : Cond) ∈ gtbl := gt_in 853 (by decide +kernel) (by decide +kernel)
theorem z_855 : (.instanceMethod ⟨"QueryBench$Walk", "choose", "(LQueryBench$Segment;LQueryBench$Value;)V"⟩ : Cond) ∈ gtbl := gt_in 855 (by decide +kernel) (by decide +kernel)
abbrev b_Walk_step : ByteArray := prog_12_method_6_code
def y_Walk_step : MethodName := ⟨"QueryBench$Walk", "step", "(LQueryBench$Segment;LQueryBench$Value;)V"⟩
abbrev k_Walk_step : Cond := .code y_Walk_step b_Walk_step 5 none
theorem i_Walk_step : k_Walk_step ∈ gtbl := gt_in 852 (by decide +kernel) (by decide +kernel)
theorem d_Walk_step_0 : decode b_Walk_step 0 = .ok (.aload_n 1, 1) := by decide +kernel
theorem d_Walk_step_1 : decode b_Walk_step 1 = .ok (.getfield 61, 3) := by decide +kernel
theorem d_Walk_step_4 : decode b_Walk_step 4 = .ok (.ifCond .ne 10, 3) := by decide +kernel
theorem d_Walk_step_7 : decode b_Walk_step 7 = .ok (.aload_n 0, 1) := by decide +kernel
theorem d_Walk_step_8 : decode b_Walk_step 8 = .ok (.aload_n 1, 1) := by decide +kernel
theorem d_Walk_step_9 : decode b_Walk_step 9 = .ok (.aload_n 2, 1) := by decide +kernel
theorem d_Walk_step_10 : decode b_Walk_step 10 = .ok (.invokevirtual 64, 3) := by decide +kernel
theorem d_Walk_step_13 : decode b_Walk_step 13 = .ok (.return_, 1) := by decide +kernel
theorem d_Walk_step_14 : decode b_Walk_step 14 = .ok (.aload_n 2, 1) := by decide +kernel
theorem d_Walk_step_15 : decode b_Walk_step 15 = .ok (.astore_n 3, 1) := by decide +kernel
theorem d_Walk_step_16 : decode b_Walk_step 16 = .ok (.iconst 0, 1) := by decide +kernel
theorem d_Walk_step_17 : decode b_Walk_step 17 = .ok (.istore 4, 2) := by decide +kernel
theorem d_Walk_step_19 : decode b_Walk_step 19 = .ok (.iload 4, 2) := by decide +kernel
theorem d_Walk_step_21 : decode b_Walk_step 21 = .ok (.aload_n 2, 1) := by decide +kernel
theorem d_Walk_step_22 : decode b_Walk_step 22 = .ok (.getfield 67, 3) := by decide +kernel
theorem d_Walk_step_25 : decode b_Walk_step 25 = .ok (.if_icmp .ge 28, 3) := by decide +kernel
theorem d_Walk_step_28 : decode b_Walk_step 28 = .ok (.aload_n 3, 1) := by decide +kernel
theorem d_Walk_step_29 : decode b_Walk_step 29 = .ok (.ifnull 24, 3) := by decide +kernel
theorem d_Walk_step_32 : decode b_Walk_step 32 = .ok (.aload_n 0, 1) := by decide +kernel
theorem d_Walk_step_33 : decode b_Walk_step 33 = .ok (.invokevirtual 58, 3) := by decide +kernel
theorem d_Walk_step_36 : decode b_Walk_step 36 = .ok (.aload_n 0, 1) := by decide +kernel
theorem d_Walk_step_37 : decode b_Walk_step 37 = .ok (.aload_n 1, 1) := by decide +kernel
theorem d_Walk_step_38 : decode b_Walk_step 38 = .ok (.aload_n 3, 1) := by decide +kernel
theorem d_Walk_step_39 : decode b_Walk_step 39 = .ok (.invokevirtual 64, 3) := by decide +kernel
theorem d_Walk_step_42 : decode b_Walk_step 42 = .ok (.aload_n 3, 1) := by decide +kernel
theorem d_Walk_step_43 : decode b_Walk_step 43 = .ok (.getfield 70, 3) := by decide +kernel
theorem d_Walk_step_46 : decode b_Walk_step 46 = .ok (.astore_n 3, 1) := by decide +kernel
theorem d_Walk_step_47 : decode b_Walk_step 47 = .ok (.iinc 4 1, 3) := by decide +kernel
theorem d_Walk_step_50 : decode b_Walk_step 50 = .ok (.goto (-31), 3) := by decide +kernel
theorem d_Walk_step_53 : decode b_Walk_step 53 = .ok (.return_, 1) := by decide +kernel
set_option maxHeartbeats 4000000 in
set_option maxRecDepth 100000 in
/-- Walk.step -/
theorem c_Walk_step (l : Launch) (hl9 : l.stackTraces = false) (K : Nat → Nat × Nat) (dC : Nat → ClassId) (dI : Nat → Nat → Nat) (sz : Heap) (cI cV : ClassId) (E lv : Nat → Nat) (L : List Nat) (f : Nat → va_E) (hO : PO cI cV E lv L f) (hN1 : ∀ a, E a ≠ 1) (wk wl rt : Nat) (hrt : isF E rt) (tp sp : Nat) (g : Nat → Option Nat) (ν : Nat → Int64) (hW9 : WI E tp sp g) (n : Nat) (HI : 0 < n → HDC l K dC dI cI cV E lv L f wk wl rt (n - 1)) (sg : Nat) (hsg : E sg = 8) (hls : lv sg ≤ n) (nd : Nat) (hnd : isF E nd) : vx_Met l y_Walk_step (k_Walk_step :: gtbl) ({ frames := 59 + 5 * n, cells := 1, slots := 6, locals := 2460 + 200 * n }) (va_Pc [.ref wk, .ref sg, .ref nd] (ml K dC dI ([(wk, .inr (10, [.ref wl, .int (nI tp), .int (nI sp), .ref rt])), (wl, .inl (cV, 10000, .inr (.inr (.inr (.inr g)))))] ++ va_pl L (pf f ν)) [(cI, .int), (cV, .object "QueryBench$Value")] sz)) (va_Qv (fun (u : Nat × Nat × (Nat → Option Nat) × (Nat → Int64)) => tp ≤ u.1 ∧ sp ≤ u.2.1 ∧ WI E u.1 u.2.1 u.2.2.1) (fun u t9 => mz dC dI ([(wk, .inr (10, [.ref wl, .int (nI u.1), .int (nI u.2.1), .ref rt])), (wl, .inl (cV, 10000, .inr (.inr (.inr (.inr u.2.2.1)))))] ++ va_pl L (pf f u.2.2.2)) [(cI, .int), (cV, .object "QueryBench$Value")] (va_A ([(wk, .inr (10, [.ref wl, .int (nI tp), .int (nI sp), .ref rt])), (wl, .inl (cV, 10000, .inr (.inr (.inr (.inr g)))))] ++ va_pl L (pf f ν)) sz.size) t9 ∧ szk sz t9.heap (0) (0)) (va_A ([(wk, .inr (10, [.ref wl, .int (nI tp), .int (nI sp), .ref rt])), (wl, .inl (cV, 10000, .inr (.inr (.inr (.inr g)))))] ++ va_pl L (pf f ν)) sz.size)) (vx_X (fun (u : Int32 × Int32 × (Nat → Option Nat) × (Nat → Int64)) => True) (fun En u t9 => En = IOB ∧ mz dC dI ([(wk, .inr (10, [.ref wl, .int u.1, .int u.2.1, .ref rt])), (wl, .inl (cV, 10000, .inr (.inr (.inr (.inr u.2.2.1)))))] ++ va_pl L (pf f u.2.2.2)) [(cI, .int), (cV, .object "QueryBench$Value")] (va_A ([(wk, .inr (10, [.ref wl, .int (nI tp), .int (nI sp), .ref rt])), (wl, .inl (cV, 10000, .inr (.inr (.inr (.inr g)))))] ++ va_pl L (pf f ν)) sz.size) t9) (va_A ([(wk, .inr (10, [.ref wl, .int (nI tp), .int (nI sp), .ref rt])), (wl, .inl (cV, 10000, .inr (.inr (.inr (.inr g)))))] ++ va_pl L (pf f ν)) sz.size)) (1) (6) (va_A ([(wk, .inr (10, [.ref wl, .int (nI tp), .int (nI sp), .ref rt])), (wl, .inl (cV, 10000, .inr (.inr (.inr (.inr g)))))] ++ va_pl L (pf f ν)) sz.size) := by
  refine vx_ofW (cc := b_Walk_step) (maxL := 5) (ret := none) (by decide) rfl ?_
  intro p e s m args below meth c s₁ B hml hex hv
  obtain ⟨rfl, ⟨hsz, hP, hK, hD0⟩, hN, hZ, hC, hV⟩ := hv
  have hx := B.exec
  have hb := B.bytes
  have hr := B.returns
  have hts0 := atoms_spec (ws := k_Walk_step :: gtbl) B.pre
  have hts := fun w h => hts0 w (List.mem_cons_of_mem _ h)
  have hown : s.vm.findClass R_Walk = some m.cls := findClass_of_methodNamed B.named
  have hlocks := B.notSynchronized
  subst hsz
  have hD := hD0.self (sz := s.heap.size)
  generalize hAe : va_A ([(wk, .inr (10, [.ref wl, .int (nI tp), .int (nI sp), .ref rt])), (wl, .inl (cV, 10000, .inr (.inr (.inr (.inr g)))))] ++ va_pl L (pf f ν)) s.heap.size = A at hD hZ hC ⊢
  have hA : ∀ q : Nat, s.heap.size ≤ q → A q := fun q h => by rw [← hAe]; exact Or.inr h
  have hS : va_S A s.heap s.heap [] := va_S.rf
  have hP : va_P (dC, dI) classes ([(wk, .inr (10, [.ref wl, .int (nI tp), .int (nI sp), .ref rt])), (wl, .inl (cV, 10000, .inr (.inr (.inr (.inr g)))))] ++ va_pl L (pf f ν)) s.heap := hP
  have hl := lv_entry ([.ref wk, .ref sg, .ref nd]) (n := 5) (Nat.le_of_ble_eq_true rfl)
  rw [lg_entry_eq]
  generalize (lg_sl ([.ref wk, .ref sg, .ref nd]) ++ List.replicate (5 - (lg_sl ([.ref wk, .ref sg, .ref nd])).length) Slot.unset).toArray = ls at hl ⊢
  have hl : lv_has ls 5 [(0, .ref wk), (1, .ref sg), (2, .ref nd)] := hl
  have hW0 := hW9
  have hW1 := hW9.1
  have hW2 := hW9.2.1
  refine lv_aload_n hx hb d_Walk_step_0 rfl (lv_at hl 1 rfl) ?_
  obtain ⟨ds21, fi21, nx21, ef21, hv21⟩ := hO.seg hsg
  refine vq_get (D := (dC, dI)) (ci := 6) (v := .int ds21) (C := R_Segment) (T := F_Segment) (N := 3) hx hb hts in_Segment hown hK hP (hO.inL (a := sg) (by rw [hsg]; decide)) (pf_G ef21) rfl 0 (by decide) (hts _ z_576) (fun _ h9 => h9) rfl d_Walk_step_1 ?_
  refine lv_if_ne (tgt := 14) hx hb d_Walk_step_4 (by decide) (fun c4 => ?_) (fun c4 => ?_)
  · refine lv_aload_n hx hb d_Walk_step_14 rfl (lv_at hl 2 rfl) ?_
    refine lv_astore_n (lv' := [(3, .ref nd), (0, .ref wk), (1, .ref sg), (2, .ref nd)]) hx hb d_Walk_step_15 rfl hl (by decide) rfl (fun ls hl => ?_)
    refine lv_iconst (v := 0) hx hb d_Walk_step_16 (by decide) ?_
    refine lv_istore (lv' := [(4, .int 0), (3, .ref nd), (0, .ref wk), (1, .ref sg), (2, .ref nd)]) hx hb d_Walk_step_17 hl (by decide) rfl (fun ls hl => ?_)
    obtain ⟨kd22, nu22, tx22, me22, pa22, na22, ix22, nm22, no22, sp22, ef22, hv22⟩ := hO.val ((isF.v hnd))
    refine w_loop (D := (dC, dI)) (cl := classes) (A := A) (H0 := s.heap) (nL := 5) 19 (σ := Option Nat × Int32 × Nat × Nat × (Nat → Option Nat) × (Nat → Int64)) (fun ⟨o, i, t, s9, g, ν⟩ => oR (isF E) o ∧ tp ≤ t ∧ sp ≤ s9 ∧ WI E t s9 g) (fun ⟨o, i, t, s9, g, ν⟩ => 10000 - s9) (fun ⟨o, i, t, s9, g, ν⟩ => [(wk, .inr (10, [.ref wl, .int (nI t), .int (nI s9), .ref rt])), (wl, .inl (cV, 10000, .inr (.inr (.inr (.inr g)))))] ++ va_pl L (pf f ν)) (fun ⟨o, i, t, s9, g, ν⟩ => [(0, .ref wk), (1, .ref sg), (2, .ref nd), (3, va_rf o), (4, .int i)]) ?_ (some nd, 0, tp, sp, g, ν) ⟨fun b h => by cases h; exact hnd, by show tp ≤ tp; omega, by show sp ≤ sp; omega, hW9⟩ hP hD hS (lv_sub hl [2, 3, 4, 1, 0] rfl)
    rintro ⟨o, i, t, s9, g, ν⟩ H locs ls hI ih hP hD hS hl
    have hP : va_P (dC, dI) classes ([(wk, .inr (10, [.ref wl, .int (nI t), .int (nI s9), .ref rt])), (wl, .inl (cV, 10000, .inr (.inr (.inr (.inr g)))))] ++ va_pl L (pf f ν)) H := hP
    have hD : va_D A ([(wk, .inr (10, [.ref wl, .int (nI t), .int (nI s9), .ref rt])), (wl, .inl (cV, 10000, .inr (.inr (.inr (.inr g)))))] ++ va_pl L (pf f ν)) := hD
    have hl : lv_has ls 5 [(0, .ref wk), (1, .ref sg), (2, .ref nd), (3, va_rf o), (4, .int i)] := hl
    obtain ⟨hI, hI1, hI2, hI3⟩ := hI
    have hI : oR (isF E) o := hI
    have hI1 : tp ≤ t := hI1
    have hI2 : sp ≤ s9 := hI2
    have hI3 : WI E t s9 g := hI3
    have hhI31 := hI3.1
    have hhI32 := hI3.2.1
    rcases o with _ | ob
    · have hl : lv_has ls 5 [(0, .ref wk), (1, .ref sg), (2, .ref nd), (3, .null), (4, .int i)] := hl
      refine lv_iload hx hb d_Walk_step_19 (lv_at hl 4 rfl) ?_
      refine lv_aload_n hx hb d_Walk_step_21 rfl (lv_at hl 2 rfl) ?_
      refine vq_get (D := (dC, dI)) (ci := 9) (v := .int sp22) (C := R_Value) (T := F_Value) (N := 10) hx hb hts in_Value hown hK hP (hO.inV (isF.v hnd)) (pf_V ef22) rfl 9 (by decide) (hts _ z_340) (fun _ h9 => h9) rfl d_Walk_step_22 ?_
      refine lv_icmp_ge (tgt := 53) hx hb d_Walk_step_25 (by decide) (fun c25 => ?_) (fun c25 => ?_)
      · refine w_same (fun hq => ?_)
        refine W.widen (k := 1) (n := 6) (Nat.le_of_ble_eq_true rfl) (Nat.le_of_ble_eq_true rfl) ?_
        refine vx_ret ?_
        exact W.vret hx hb hr (fun t9 ht hW => ⟨⟨(t, s9, g, ν), rfl, ⟨by show tp ≤ t; omega, by show sp ≤ s9; omega, hI3⟩, ⟨by rw [ht]; exact hP, va_K.moved hW.alike hK, hD⟩, by rw [ht]; exact hq⟩, hS.F ht⟩) hS.2.2 d_Walk_step_53
      · refine lv_aload_nN hx hb d_Walk_step_28 rfl (lv_at hl 3 rfl) ?_
        refine lv_ifnullN (tgt := 53) hx hb d_Walk_step_29 (by decide) ?_
        refine w_same (fun hq => ?_)
        refine W.widen (k := 1) (n := 6) (Nat.le_of_ble_eq_true rfl) (Nat.le_of_ble_eq_true rfl) ?_
        refine vx_ret ?_
        exact W.vret hx hb hr (fun t9 ht hW => ⟨⟨(t, s9, g, ν), rfl, ⟨by show tp ≤ t; omega, by show sp ≤ s9; omega, hI3⟩, ⟨by rw [ht]; exact hP, va_K.moved hW.alike hK, hD⟩, by rw [ht]; exact hq⟩, hS.F ht⟩) hS.2.2 d_Walk_step_53
    · have hl : lv_has ls 5 [(0, .ref wk), (1, .ref sg), (2, .ref nd), (3, .ref ob), (4, .int i)] := hl
      have hob := hI ob rfl
      refine lv_iload hx hb d_Walk_step_19 (lv_at hl 4 rfl) ?_
      refine lv_aload_n hx hb d_Walk_step_21 rfl (lv_at hl 2 rfl) ?_
      refine vq_get (D := (dC, dI)) (ci := 9) (v := .int sp22) (C := R_Value) (T := F_Value) (N := 10) hx hb hts in_Value hown hK hP (hO.inV (isF.v hnd)) (pf_V ef22) rfl 9 (by decide) (hts _ z_340) (fun _ h9 => h9) rfl d_Walk_step_22 ?_
      refine lv_icmp_ge (tgt := 53) hx hb d_Walk_step_25 (by decide) (fun c25 => ?_) (fun c25 => ?_)
      · refine w_same (fun hq => ?_)
        refine W.widen (k := 1) (n := 6) (Nat.le_of_ble_eq_true rfl) (Nat.le_of_ble_eq_true rfl) ?_
        refine vx_ret ?_
        exact W.vret hx hb hr (fun t9 ht hW => ⟨⟨(t, s9, g, ν), rfl, ⟨by show tp ≤ t; omega, by show sp ≤ s9; omega, hI3⟩, ⟨by rw [ht]; exact hP, va_K.moved hW.alike hK, hD⟩, by rw [ht]; exact hq⟩, hS.F ht⟩) hS.2.2 d_Walk_step_53
      · refine lv_aload_n hx hb d_Walk_step_28 rfl (lv_at hl 3 rfl) ?_
        refine lv_ifnull hx hb d_Walk_step_29 ?_
        refine lv_aload_n hx hb d_Walk_step_32 rfl (lv_at hl 0 rfl) ?_
        have hPc := hP.sub (ws' := [(wk, .inr (10, [.ref wl, .int (nI t), .int (nI s9), .ref rt]))]) [0] rfl
        have hDc := hD.sub (ws' := [(wk, .inr (10, [.ref wl, .int (nI t), .int (nI s9), .ref rt]))]) [0] (by decide) rfl
        have hFc := va_free (wc := [(wk, .inr (10, [.ref wl, .int (nI t), .int (nI s9), .ref rt]))]) hD hS hA [0] rfl
        have hKc := hK.sub (tys' := []) [] rfl
        refine w_same (fun hq0 => ?_)
        refine vx_callv (vx_runV (As := []) (rest := []) ⟨hx, hb, hml, hown, hts⟩ (c_Walk_spend l hl9 dC dI wk H (.ref wl) (.ref rt) (nI t) s9 (by omega)) (cwV 0 hts (gt_V (own := R_Walk) (C := R_Walk) (i := 58) (y := y_Walk_spend) i_Walk_spend z_843 z_845 (gt_sel (y := y_Walk_spend) (n := 4) (by decide +kernel)) w_5) rfl rfl rfl (by decide +kernel) ⟨by show 8 + 1 ≤ 59 + 5 * n; omega, by show 8 + (1 + 11) + (110) ≤ 2460 + 200 * n; omega⟩) ⟨mx_blind, va_recv hK hP (ci := 10) (q0 := 0) rfl rfl, fun U hU hW => ⟨rfl, ⟨hU, by rw [hU]; exact hPc, va_K.moved hW.alike hKc, hDc.weaken (fun _ _ _ _ => trivial)⟩, hN.warm hW, by rw [hU]; exact ZX.moved' hW.alike (ZX.narrow' (ZX.kept' hZ hS.2.1) hFc)⟩⟩ rfl rfl hl.1 rfl (lv_room (Nat.le_of_ble_eq_true rfl)) d_Walk_step_33 ⟨Nat.le_of_ble_eq_true rfl, Nat.le_of_ble_eq_true rfl⟩) hS (fun q _ h => hFc q h) hFc (fun q _ h => hFc q h) (fun En ce q9 _u t9 H1 locs ht hvm hw hB hz1 hk1 hS hce hcv hcl => ?_) (fun _u t9 H1 locs ht hvm hw hB hz1 hk1 hS => ?_)
        · obtain ⟨hEn, hP1, hK1, hD1⟩ := hB
          rw [ht] at hP1
          obtain ⟨hP, hD⟩ := va_joinQ (wr := [(wl, .inl (cV, 10000, .inr (.inr (.inr (.inr g)))))]) (w1 := [(wk, .inr (10, [.ref wl, .int (nI t), .int (nI s9), .ref rt]))]) hP hD [0] [1] rfl rfl (by decide) (by decide) hk1 hFc hP1 hD1
          generalize H1 = H at hP hS hce ⊢
          have hP : va_P (dC, dI) classes ([(wl, .inl (cV, 10000, .inr (.inr (.inr (.inr g))))), (wk, .inr (10, [.ref wl, .int (nI t), .int (nI s9), .ref rt]))] ++ va_pl L (pf f ν)) H := hP
          have hD : va_D A ([(wl, .inl (cV, 10000, .inr (.inr (.inr (.inr g))))), (wk, .inr (10, [.ref wl, .int (nI t), .int (nI s9), .ref rt]))] ++ va_pl L (pf f ν)) := hD
          have hP := hP.part (cx := [(wk, .inr (10, [.ref wl, .int (nI t), .int (nI s9), .ref rt])), (wl, .inl (cV, 10000, .inr (.inr (.inr (.inr g)))))]) [1, 0] rfl
          have hD := hD.part (cx := [(wk, .inr (10, [.ref wl, .int (nI t), .int (nI s9), .ref rt])), (wl, .inl (cV, 10000, .inr (.inr (.inr (.inr g)))))]) [1, 0] (by decide) rfl
          exact vx_out (fun x hx => (hex x hx).elim) hlocks hce hcv hcl (fun t9 ht2 ha => ⟨(nI t, nI s9, g, ν), trivial, ⟨hEn, by rw [ht2]; exact hP, va_K.moved ha hK, hD⟩, hS.F ht2⟩) hS.2.2 (Nat.le_of_ble_eq_true rfl) (Nat.le_of_ble_eq_true rfl)
        · obtain ⟨⟨hP1, hK1, hD1⟩, hz9⟩ := hB
          rw [ht] at hP1
          rw [ht] at hz9
          refine w_tight (hq0.trans hz9) ?_
          have hq0 := hq0.trans hz9
          obtain ⟨hP, hD⟩ := va_joinQ (wr := [(wl, .inl (cV, 10000, .inr (.inr (.inr (.inr g)))))]) (w1 := [(wk, .inr (10, [.ref wl, .int (nI t), .int (nI (s9 + 1)), .ref rt]))]) hP hD [0] [1] rfl rfl (by decide) (by decide) hk1 hFc hP1 hD1
          generalize H1 = H at hP hS hq0 ⊢
          have hP : va_P (dC, dI) classes ([(wl, .inl (cV, 10000, .inr (.inr (.inr (.inr g))))), (wk, .inr (10, [.ref wl, .int (nI t), .int (nI (s9 + 1)), .ref rt]))] ++ va_pl L (pf f ν)) H := hP
          have hD : va_D A ([(wl, .inl (cV, 10000, .inr (.inr (.inr (.inr g))))), (wk, .inr (10, [.ref wl, .int (nI t), .int (nI (s9 + 1)), .ref rt]))] ++ va_pl L (pf f ν)) := hD
          have hP := hP.part (cx := [(wk, .inr (10, [.ref wl, .int (nI t), .int (nI (s9 + 1)), .ref rt])), (wl, .inl (cV, 10000, .inr (.inr (.inr (.inr g)))))]) [1, 0] rfl
          have hD := hD.part (cx := [(wk, .inr (10, [.ref wl, .int (nI t), .int (nI (s9 + 1)), .ref rt])), (wl, .inl (cV, 10000, .inr (.inr (.inr (.inr g)))))]) [1, 0] (by decide) rfl
          have hsp23 : s9 < 10000 := hw
          have hW23 := WI.more hI3 hsp23
          have hhW231 := hW23.1
          have hhW232 := hW23.2.1
          refine lv_aload_n hx hb d_Walk_step_36 rfl (lv_at hl 0 rfl) ?_
          refine lv_aload_n hx hb d_Walk_step_37 rfl (lv_at hl 1 rfl) ?_
          refine lv_aload_n hx hb d_Walk_step_38 rfl (lv_at hl 3 rfl) ?_
          have hPc := hP.part (cx := [(wk, .inr (10, [.ref wl, .int (nI t), .int (nI (s9 + 1)), .ref rt])), (wl, .inl (cV, 10000, .inr (.inr (.inr (.inr g)))))]) [0, 1] rfl
          have hDc := hD.part (cx := [(wk, .inr (10, [.ref wl, .int (nI t), .int (nI (s9 + 1)), .ref rt])), (wl, .inl (cV, 10000, .inr (.inr (.inr (.inr g)))))]) [0, 1] (by decide) rfl
          have hFc := va_freeP (cx := [(wk, .inr (10, [.ref wl, .int (nI t), .int (nI (s9 + 1)), .ref rt])), (wl, .inl (cV, 10000, .inr (.inr (.inr (.inr g)))))]) hD hS hA [0, 1] rfl
          have hKc := hK.sub (tys' := [(cI, .int), (cV, .object "QueryBench$Value")]) [0, 1] rfl
          refine w_same (fun hq0 => ?_)
          refine vx_callv (vx_runV (As := [.ref sg, .ref ob]) (rest := []) ⟨hx, hb, hml, hown, hts⟩ (c_Walk_choose l hl9 K dC dI H cI cV E lv L f hO hN1 wk wl rt hrt t (s9 + 1) g ν hW23 n HI sg hsg hls ob hob) (cwV 2 hts (gt_V (own := R_Walk) (C := R_Walk) (i := 64) (y := y_Walk_choose) i_Walk_choose z_853 z_855 (gt_sel (y := y_Walk_choose) (n := 4) (by decide +kernel)) w_5) rfl rfl rfl (by decide +kernel) ⟨by show 58 + 5 * n + 1 ≤ 59 + 5 * n; omega, by show 8 + (4 + 11) + (2420 + 200 * n) ≤ 2460 + 200 * n; omega⟩) ⟨ml_blind, va_recv hK hP (ci := 10) (q0 := 0) rfl rfl, fun U hU hW => ⟨rfl, ⟨hU, by rw [hU]; exact hPc, va_K.moved hW.alike hKc, hDc.weaken (fun _ _ _ _ => trivial)⟩, hN.warm hW, by rw [hU]; exact ZX.moved' hW.alike (ZX.narrow' (ZX.kept' hZ hS.2.1) hFc), by rw [hU]; exact CE.call hC hS.2.1 hFc hW, va_AO.moved hW.alike hV⟩⟩ rfl rfl hl.1 rfl (lv_room (Nat.le_of_ble_eq_true rfl)) d_Walk_step_39 ⟨Nat.le_of_ble_eq_true rfl, Nat.le_of_ble_eq_true rfl⟩) hS (fun q _ h => hFc q h) hFc (fun q _ h => hFc q h) (fun En ce q9 ⟨tx, sx, gx, nx⟩ t9 H1 locs ht hvm hw hB hz1 hk1 hS hce hcv hcl => ?_) (fun ⟨t24, s24, g24, n24⟩ t9 H1 locs ht hvm hw hB hz1 hk1 hS => ?_)
          · obtain ⟨hEn, hP1, hK1, hD1⟩ := hB
            rw [ht] at hP1
            obtain ⟨hP, hD⟩ := va_joinP (wr := []) (rx := [(wk, .inr (10, [.ref wl, .int tx, .int sx, .ref rt])), (wl, .inl (cV, 10000, .inr (.inr (.inr (.inr gx)))))]) (pl1 := va_pl L (pf f nx)) hP hD [0, 1] [] rfl rfl (by decide) (by decide) hk1 hFc hP1 hD1
            generalize H1 = H at hP hS hce ⊢
            have hP : va_P (dC, dI) classes ([(wk, .inr (10, [.ref wl, .int tx, .int sx, .ref rt])), (wl, .inl (cV, 10000, .inr (.inr (.inr (.inr gx)))))] ++ va_pl L (pf f nx)) H := hP
            have hD : va_D A ([(wk, .inr (10, [.ref wl, .int tx, .int sx, .ref rt])), (wl, .inl (cV, 10000, .inr (.inr (.inr (.inr gx)))))] ++ va_pl L (pf f nx)) := hD
            exact vx_out (fun x hx => (hex x hx).elim) hlocks hce hcv hcl (fun t9 ht2 ha => ⟨(tx, sx, gx, nx), trivial, ⟨hEn, by rw [ht2]; exact hP, va_K.moved ha hK, hD⟩, hS.F ht2⟩) hS.2.2 (Nat.le_of_ble_eq_true rfl) (Nat.le_of_ble_eq_true rfl)
          · obtain ⟨⟨hP1, hK1, hD1⟩, hz9⟩ := hB
            rw [ht] at hP1
            rw [ht] at hz9
            refine w_tight (hq0.trans hz9) ?_
            have hq0 := hq0.trans hz9
            obtain ⟨hP, hD⟩ := va_joinP (wr := []) (rx := [(wk, .inr (10, [.ref wl, .int (nI t24), .int (nI s24), .ref rt])), (wl, .inl (cV, 10000, .inr (.inr (.inr (.inr g24)))))]) (pl1 := va_pl L (pf f n24)) hP hD [0, 1] [] rfl rfl (by decide) (by decide) hk1 hFc hP1 hD1
            generalize H1 = H at hP hS hq0 ⊢
            have hP : va_P (dC, dI) classes ([(wk, .inr (10, [.ref wl, .int (nI t24), .int (nI s24), .ref rt])), (wl, .inl (cV, 10000, .inr (.inr (.inr (.inr g24)))))] ++ va_pl L (pf f n24)) H := hP
            have hD : va_D A ([(wk, .inr (10, [.ref wl, .int (nI t24), .int (nI s24), .ref rt])), (wl, .inl (cV, 10000, .inr (.inr (.inr (.inr g24)))))] ++ va_pl L (pf f n24)) := hD
            obtain ⟨ha24, hb24, hW24⟩ := hw
            have ha24 : t ≤ t24 := ha24
            have hb24 : (s9 + 1) ≤ s24 := hb24
            have hW24 : WI E t24 s24 g24 := hW24
            have hhW241 := hW24.1
            have hhW242 := hW24.2.1
            refine lv_aload_n hx hb d_Walk_step_42 rfl (lv_at hl 3 rfl) ?_
            obtain ⟨kd25, nu25, tx25, me25, pa25, na25, ix25, nm25, no25, sp25, ef25, hv25⟩ := hO.val ((isF.v hob))
            rcases no25 with _ | b26
            · refine vq_get (D := (dC, dI)) (ci := 9) (v := .null) (C := R_Value) (T := F_Value) (N := 10) hx hb hts in_Value hown hK hP (hO.inV (isF.v hob)) (pf_V ef25) rfl 8 (by decide) (hts _ z_338) (fun _ h9 => h9) rfl d_Walk_step_43 ?_
              refine lv_astore_nN (lv' := [(3, .null), (0, .ref wk), (1, .ref sg), (2, .ref nd), (4, .int i)]) hx hb d_Walk_step_46 rfl hl (by decide) rfl (fun ls hl => ?_)
              refine lv_iinc (v := i + 1) (lv' := [(4, .int (i + 1)), (3, .null), (0, .ref wk), (1, .ref sg), (2, .ref nd)]) hx hb d_Walk_step_47 hl (k := 4) rfl rfl (by decide) rfl (fun ls hl => ?_)
              refine lv_goto (tgt := 19) hx hb d_Walk_step_50 (by decide) ?_
              exact ih (none, i + 1, t24, s24, g24, n24) _ _ _ ⟨(fun b h => nomatch h), by show tp ≤ t24; omega, by show sp ≤ s24; omega, hW24⟩ (by show 10000 - s24 < 10000 - s9; omega) hP hD hS (lv_sub hl [2, 3, 4, 1, 0] rfl)
            · refine vq_get (D := (dC, dI)) (ci := 9) (v := .ref b26) (C := R_Value) (T := F_Value) (N := 10) hx hb hts in_Value hown hK hP (hO.inV (isF.v hob)) (pf_V ef25) rfl 8 (by decide) (hts _ z_338) (fun _ h9 => h9) rfl d_Walk_step_43 ?_
              refine lv_astore_n (lv' := [(3, .ref b26), (0, .ref wk), (1, .ref sg), (2, .ref nd), (4, .int i)]) hx hb d_Walk_step_46 rfl hl (by decide) rfl (fun ls hl => ?_)
              refine lv_iinc (v := i + 1) (lv' := [(4, .int (i + 1)), (3, .ref b26), (0, .ref wk), (1, .ref sg), (2, .ref nd)]) hx hb d_Walk_step_47 hl (k := 4) rfl rfl (by decide) rfl (fun ls hl => ?_)
              refine lv_goto (tgt := 19) hx hb d_Walk_step_50 (by decide) ?_
              exact ih ((some b26), i + 1, t24, s24, g24, n24) _ _ _ ⟨(fun b h => by cases h; exact isV.f hN1 (hv25.2.2.2.2.2.1 b26 rfl)), by show tp ≤ t24; omega, by show sp ≤ s24; omega, hW24⟩ (by show 10000 - s24 < 10000 - s9; omega) hP hD hS (lv_sub hl [2, 3, 4, 1, 0] rfl)
  · refine lv_aload_n hx hb d_Walk_step_7 rfl (lv_at hl 0 rfl) ?_
    refine lv_aload_n hx hb d_Walk_step_8 rfl (lv_at hl 1 rfl) ?_
    refine lv_aload_n hx hb d_Walk_step_9 rfl (lv_at hl 2 rfl) ?_
    have hPc := hP.part (cx := [(wk, .inr (10, [.ref wl, .int (nI tp), .int (nI sp), .ref rt])), (wl, .inl (cV, 10000, .inr (.inr (.inr (.inr g)))))]) [0, 1] rfl
    have hDc := hD.part (cx := [(wk, .inr (10, [.ref wl, .int (nI tp), .int (nI sp), .ref rt])), (wl, .inl (cV, 10000, .inr (.inr (.inr (.inr g)))))]) [0, 1] (by decide) rfl
    have hFc := va_freeP (cx := [(wk, .inr (10, [.ref wl, .int (nI tp), .int (nI sp), .ref rt])), (wl, .inl (cV, 10000, .inr (.inr (.inr (.inr g)))))]) hD hS hA [0, 1] rfl
    have hKc := hK.sub (tys' := [(cI, .int), (cV, .object "QueryBench$Value")]) [0, 1] rfl
    refine w_same (fun hq0 => ?_)
    refine vx_callv (vx_runV (As := [.ref sg, .ref nd]) (rest := []) ⟨hx, hb, hml, hown, hts⟩ (c_Walk_choose l hl9 K dC dI s.heap cI cV E lv L f hO hN1 wk wl rt hrt tp sp g ν hW9 n HI sg hsg hls nd hnd) (cwV 2 hts (gt_V (own := R_Walk) (C := R_Walk) (i := 64) (y := y_Walk_choose) i_Walk_choose z_853 z_855 (gt_sel (y := y_Walk_choose) (n := 4) (by decide +kernel)) w_5) rfl rfl rfl (by decide +kernel) ⟨by show 58 + 5 * n + 1 ≤ 59 + 5 * n; omega, by show 8 + (4 + 11) + (2420 + 200 * n) ≤ 2460 + 200 * n; omega⟩) ⟨ml_blind, va_recv hK hP (ci := 10) (q0 := 0) rfl rfl, fun U hU hW => ⟨rfl, ⟨hU, by rw [hU]; exact hPc, va_K.moved hW.alike hKc, hDc.weaken (fun _ _ _ _ => trivial)⟩, hN.warm hW, by rw [hU]; exact ZX.moved' hW.alike (ZX.narrow' (ZX.kept' hZ hS.2.1) hFc), by rw [hU]; exact CE.call hC hS.2.1 hFc hW, va_AO.moved hW.alike hV⟩⟩ rfl rfl hl.1 rfl (lv_room (Nat.le_of_ble_eq_true rfl)) d_Walk_step_10 ⟨Nat.le_of_ble_eq_true rfl, Nat.le_of_ble_eq_true rfl⟩) hS (fun q _ h => hFc q h) hFc (fun q _ h => hFc q h) (fun En ce q9 ⟨tx, sx, gx, nx⟩ t9 H1 locs ht hvm hw hB hz1 hk1 hS hce hcv hcl => ?_) (fun ⟨t27, s27, g27, n27⟩ t9 H1 locs ht hvm hw hB hz1 hk1 hS => ?_)
    · obtain ⟨hEn, hP1, hK1, hD1⟩ := hB
      rw [ht] at hP1
      obtain ⟨hP, hD⟩ := va_joinP (wr := []) (rx := [(wk, .inr (10, [.ref wl, .int tx, .int sx, .ref rt])), (wl, .inl (cV, 10000, .inr (.inr (.inr (.inr gx)))))]) (pl1 := va_pl L (pf f nx)) hP hD [0, 1] [] rfl rfl (by decide) (by decide) hk1 hFc hP1 hD1
      generalize H1 = H at hP hS hce ⊢
      have hP : va_P (dC, dI) classes ([(wk, .inr (10, [.ref wl, .int tx, .int sx, .ref rt])), (wl, .inl (cV, 10000, .inr (.inr (.inr (.inr gx)))))] ++ va_pl L (pf f nx)) H := hP
      have hD : va_D A ([(wk, .inr (10, [.ref wl, .int tx, .int sx, .ref rt])), (wl, .inl (cV, 10000, .inr (.inr (.inr (.inr gx)))))] ++ va_pl L (pf f nx)) := hD
      exact vx_out (fun x hx => (hex x hx).elim) hlocks hce hcv hcl (fun t9 ht2 ha => ⟨(tx, sx, gx, nx), trivial, ⟨hEn, by rw [ht2]; exact hP, va_K.moved ha hK, hD⟩, hS.F ht2⟩) hS.2.2 (Nat.le_of_ble_eq_true rfl) (Nat.le_of_ble_eq_true rfl)
    · obtain ⟨⟨hP1, hK1, hD1⟩, hz9⟩ := hB
      rw [ht] at hP1
      rw [ht] at hz9
      refine w_tight (hq0.trans hz9) ?_
      have hq0 := hq0.trans hz9
      obtain ⟨hP, hD⟩ := va_joinP (wr := []) (rx := [(wk, .inr (10, [.ref wl, .int (nI t27), .int (nI s27), .ref rt])), (wl, .inl (cV, 10000, .inr (.inr (.inr (.inr g27)))))]) (pl1 := va_pl L (pf f n27)) hP hD [0, 1] [] rfl rfl (by decide) (by decide) hk1 hFc hP1 hD1
      generalize H1 = H at hP hS hq0 ⊢
      have hP : va_P (dC, dI) classes ([(wk, .inr (10, [.ref wl, .int (nI t27), .int (nI s27), .ref rt])), (wl, .inl (cV, 10000, .inr (.inr (.inr (.inr g27)))))] ++ va_pl L (pf f n27)) H := hP
      have hD : va_D A ([(wk, .inr (10, [.ref wl, .int (nI t27), .int (nI s27), .ref rt])), (wl, .inl (cV, 10000, .inr (.inr (.inr (.inr g27)))))] ++ va_pl L (pf f n27)) := hD
      obtain ⟨ha27, hb27, hW27⟩ := hw
      have ha27 : tp ≤ t27 := ha27
      have hb27 : sp ≤ s27 := hb27
      have hW27 : WI E t27 s27 g27 := hW27
      have hhW271 := hW27.1
      have hhW272 := hW27.2.1
      refine w_same (fun hq => ?_)
      refine W.widen (k := 1) (n := 6) (Nat.le_of_ble_eq_true rfl) (Nat.le_of_ble_eq_true rfl) ?_
      refine vx_ret ?_
      exact W.vret hx hb hr (fun t9 ht hW => ⟨⟨(t27, s27, g27, n27), rfl, ⟨by show tp ≤ t27; omega, by show sp ≤ s27; omega, hW27⟩, ⟨by rw [ht]; exact hP, va_K.moved hW.alike hK, hD⟩, by rw [ht]; exact hq⟩, hS.F ht⟩) hS.2.2 d_Walk_step_13
set_option maxHeartbeats 4000000 in
set_option maxRecDepth 100000 in
theorem c_ND (l : Launch) (hl9 : l.stackTraces = false) (K : Nat → Nat × Nat) (dC : Nat → ClassId) (dI : Nat → Nat → Nat) (cI cV : ClassId) (E lv : Nat → Nat) (L : List Nat) (f : Nat → va_E) (hO : PO cI cV E lv L f) (hN1 : ∀ a, E a ≠ 1) (wk wl rt : Nat) (hrt : isF E rt) (n : Nat) (HI : 0 < n → HDC l K dC dI cI cV E lv L f wk wl rt (n - 1)) : NDC l K dC dI cI cV E lv L f wk wl rt n := by
  intro sz tp sp g ν hW9 qu cu hqu hlq hcu
  refine vx_ofW (cc := b_Walk_nodes) (maxL := 7) (ret := (some .int)) (by decide) rfl ?_
  intro p e s m args below meth c s₁ B hml hex hv
  obtain ⟨rfl, ⟨hsz, hP, hK, hD0⟩, hN, hZ, hC, hV⟩ := hv
  have hx := B.exec
  have hb := B.bytes
  have hr := B.returns
  have hts0 := atoms_spec (ws := k_Walk_nodes :: gtbl) B.pre
  have hts := fun w h => hts0 w (List.mem_cons_of_mem _ h)
  have hown : s.vm.findClass R_Walk = some m.cls := findClass_of_methodNamed B.named
  have hlocks := B.notSynchronized
  subst hsz
  have hD := hD0.self (sz := s.heap.size)
  generalize hAe : va_A ([(wk, .inr (10, [.ref wl, .int (nI tp), .int (nI sp), .ref rt])), (wl, .inl (cV, 10000, .inr (.inr (.inr (.inr g)))))] ++ va_pl L (pf f ν)) s.heap.size = A at hD hZ hC ⊢
  have hA : ∀ q : Nat, s.heap.size ≤ q → A q := fun q h => by rw [← hAe]; exact Or.inr h
  have hS : va_S A s.heap s.heap [] := va_S.rf
  have hP : va_P (dC, dI) classes ([(wk, .inr (10, [.ref wl, .int (nI tp), .int (nI sp), .ref rt])), (wl, .inl (cV, 10000, .inr (.inr (.inr (.inr g)))))] ++ va_pl L (pf f ν)) s.heap := hP
  have hl := lv_entry ([.ref wk, .ref qu, .ref cu]) (n := 7) (Nat.le_of_ble_eq_true rfl)
  rw [lg_entry_eq]
  generalize (lg_sl ([.ref wk, .ref qu, .ref cu]) ++ List.replicate (7 - (lg_sl ([.ref wk, .ref qu, .ref cu])).length) Slot.unset).toArray = ls at hl ⊢
  have hl : lv_has ls 7 [(0, .ref wk), (1, .ref qu), (2, .ref cu)] := hl
  have hW0 := hW9
  have hW1 := hW9.1
  have hW2 := hW9.2.1
  refine lv_aload_n hx hb d_Walk_nodes_0 rfl (lv_at hl 0 rfl) ?_
  refine va_get (D := (dC, dI)) (ci := 10) (v := .int (nI tp)) (C := R_Walk) (T := F_Walk) (N := 4) hx hb hts in_Walk hown hK hP 0 rfl rfl 1 (by decide) (hts _ z_117) (fun _ h9 => h9) rfl d_Walk_nodes_1 ?_
  refine lv_istore_n (lv' := [(3, .int (nI tp)), (0, .ref wk), (1, .ref qu), (2, .ref cu)]) hx hb d_Walk_nodes_4 rfl hl (by decide) rfl (fun ls hl => ?_)
  refine lv_aload_n hx hb d_Walk_nodes_5 rfl (lv_at hl 1 rfl) ?_
  refine lv_aload_n hx hb d_Walk_nodes_6 rfl (lv_at hl 2 rfl) ?_
  obtain ⟨fr21, sg21, fi21, la21, ef21, hv21⟩ := hO.qry hqu
  refine vq_get (D := (dC, dI)) (ci := 4) (v := .int fr21) (C := R_Query) (T := F_Query) (N := 4) hx hb hts in_Query hown hK hP (hO.inL (a := qu) (by rw [hqu]; decide)) (pf_Q ef21) rfl 0 (by decide) (hts _ z_547) (fun _ h9 => h9) rfl d_Walk_nodes_7 ?_
  refine lv_if_eq (tgt := 20) hx hb d_Walk_nodes_10 (by decide) (fun c10 => ?_) (fun c10 => ?_)
  · refine lv_aload_n hx hb d_Walk_nodes_20 rfl (lv_at hl 3 rfl) ?_
    have hPc := hP.part (cx := [(wk, .inr (10, [.ref wl, .int (nI tp), .int (nI sp), .ref rt])), (wl, .inl (cV, 10000, .inr (.inr (.inr (.inr g)))))]) [0, 1] rfl
    have hDc := hD.part (cx := [(wk, .inr (10, [.ref wl, .int (nI tp), .int (nI sp), .ref rt])), (wl, .inl (cV, 10000, .inr (.inr (.inr (.inr g)))))]) [0, 1] (by decide) rfl
    have hFc := va_freeP (cx := [(wk, .inr (10, [.ref wl, .int (nI tp), .int (nI sp), .ref rt])), (wl, .inl (cV, 10000, .inr (.inr (.inr (.inr g)))))]) hD hS hA [0, 1] rfl
    have hKc := hK.sub (tys' := [(cI, .int), (cV, .object "QueryBench$Value")]) [0, 1] rfl
    refine w_same (fun hq0 => ?_)
    refine vx_callv (vx_runV (As := [.ref cu]) (rest := []) ⟨hx, hb, hml, hown, hts⟩ (c_Walk_push l hl9 K dC dI s.heap cI cV E lv L f hO hN1 wk wl rt hrt tp sp g ν hW9 cu hcu) (cwV 1 hts (gt_V (own := R_Walk) (C := R_Walk) (i := 38) (y := y_Walk_push) i_Walk_push z_839 z_841 (gt_sel (y := y_Walk_push) (n := 4) (by decide +kernel)) w_5) rfl rfl rfl (by decide +kernel) ⟨by show 9 + 1 ≤ 60 + 5 * n; omega, by show 8 + (2 + 11) + (150) ≤ 2500 + 200 * n; omega⟩) ⟨ml_blind, va_recv hK hP (ci := 10) (q0 := 0) rfl rfl, fun U hU hW => ⟨rfl, ⟨hU, by rw [hU]; exact hPc, va_K.moved hW.alike hKc, hDc.weaken (fun _ _ _ _ => trivial)⟩, hN.warm hW, by rw [hU]; exact ZX.moved' hW.alike (ZX.narrow' (ZX.kept' hZ hS.2.1) hFc), by rw [hU]; exact CE.call hC hS.2.1 hFc hW, va_AO.moved hW.alike hV⟩⟩ rfl rfl hl.1 rfl (lv_room (Nat.le_of_ble_eq_true rfl)) d_Walk_nodes_21 ⟨Nat.le_of_ble_eq_true rfl, Nat.le_of_ble_eq_true rfl⟩) hS (fun q _ h => hFc q h) hFc (fun q _ h => hFc q h) (fun En ce q9 ⟨tx, sx, gx, nx⟩ t9 H1 locs ht hvm hw hB hz1 hk1 hS hce hcv hcl => ?_) (fun ⟨t22, s22, g22, n22⟩ t9 H1 locs ht hvm hw hB hz1 hk1 hS => ?_)
    · obtain ⟨hEn, hP1, hK1, hD1⟩ := hB
      rw [ht] at hP1
      obtain ⟨hP, hD⟩ := va_joinP (wr := []) (rx := [(wk, .inr (10, [.ref wl, .int tx, .int sx, .ref rt])), (wl, .inl (cV, 10000, .inr (.inr (.inr (.inr gx)))))]) (pl1 := va_pl L (pf f nx)) hP hD [0, 1] [] rfl rfl (by decide) (by decide) hk1 hFc hP1 hD1
      generalize H1 = H at hP hS hce ⊢
      have hP : va_P (dC, dI) classes ([(wk, .inr (10, [.ref wl, .int tx, .int sx, .ref rt])), (wl, .inl (cV, 10000, .inr (.inr (.inr (.inr gx)))))] ++ va_pl L (pf f nx)) H := hP
      have hD : va_D A ([(wk, .inr (10, [.ref wl, .int tx, .int sx, .ref rt])), (wl, .inl (cV, 10000, .inr (.inr (.inr (.inr gx)))))] ++ va_pl L (pf f nx)) := hD
      exact vx_out (fun x hx => (hex x hx).elim) hlocks hce hcv hcl (fun t9 ht2 ha => ⟨(tx, sx, gx, nx), trivial, ⟨hEn, by rw [ht2]; exact hP, va_K.moved ha hK, hD⟩, hS.F ht2⟩) hS.2.2 (Nat.le_of_ble_eq_true rfl) (Nat.le_of_ble_eq_true rfl)
    · obtain ⟨⟨hP1, hK1, hD1⟩, hz9⟩ := hB
      rw [ht] at hP1
      rw [ht] at hz9
      refine w_tight (hq0.trans hz9) ?_
      have hq0 := hq0.trans hz9
      obtain ⟨hP, hD⟩ := va_joinP (wr := []) (rx := [(wk, .inr (10, [.ref wl, .int (nI t22), .int (nI s22), .ref rt])), (wl, .inl (cV, 10000, .inr (.inr (.inr (.inr g22)))))]) (pl1 := va_pl L (pf f n22)) hP hD [0, 1] [] rfl rfl (by decide) (by decide) hk1 hFc hP1 hD1
      generalize H1 = H at hP hS hq0 ⊢
      have hP : va_P (dC, dI) classes ([(wk, .inr (10, [.ref wl, .int (nI t22), .int (nI s22), .ref rt])), (wl, .inl (cV, 10000, .inr (.inr (.inr (.inr g22)))))] ++ va_pl L (pf f n22)) H := hP
      have hD : va_D A ([(wk, .inr (10, [.ref wl, .int (nI t22), .int (nI s22), .ref rt])), (wl, .inl (cV, 10000, .inr (.inr (.inr (.inr g22)))))] ++ va_pl L (pf f n22)) := hD
      obtain ⟨ha22, hb22, hW22⟩ := hw
      have ha22 : t22 = tp + 1 := ha22
      have hb22 : s22 = sp + 1 := hb22
      have hW22 : WI E t22 s22 g22 := hW22
      have hhW221 := hW22.1
      have hhW222 := hW22.2.1
      refine lv_aload_n hx hb d_Walk_nodes_24 rfl (lv_at hl 2 rfl) ?_
      rcases fi21 with _ | b23
      · refine vq_get (D := (dC, dI)) (ci := 4) (v := .null) (C := R_Query) (T := F_Query) (N := 4) hx hb hts in_Query hown hK hP (hO.inL (a := qu) (by rw [hqu]; decide)) (pf_Q ef21) rfl 2 (by decide) (hts _ z_552) (fun _ h9 => h9) rfl d_Walk_nodes_25 ?_
        refine lv_astoreN (lv' := [(4, .null), (3, .int (nI tp)), (0, .ref wk), (1, .ref qu), (2, .ref cu)]) hx hb d_Walk_nodes_28 hl (by decide) rfl (fun ls hl => ?_)
        refine w_loop (D := (dC, dI)) (cl := classes) (A := A) (H0 := s.heap) (nL := 7) 30 (σ := Option Nat × Nat × Nat × Nat × (Nat → Option Nat) × (Nat → Int64)) (fun ⟨o, fr, t, s9, g, ν⟩ => oR (fun b => E b = 8 ∧ lv b ≤ n) o ∧ fr ≤ t ∧ tp ≤ t ∧ sp ≤ s9 ∧ WI E t s9 g) (fun ⟨o, fr, t, s9, g, ν⟩ => chL L o) (fun ⟨o, fr, t, s9, g, ν⟩ => [(wk, .inr (10, [.ref wl, .int (nI t), .int (nI s9), .ref rt])), (wl, .inl (cV, 10000, .inr (.inr (.inr (.inr g)))))] ++ va_pl L (pf f ν)) (fun ⟨o, fr, t, s9, g, ν⟩ => [(0, .ref wk), (1, .ref qu), (2, .ref cu), (3, .int (nI fr)), (4, va_rf o)]) ?_ (none, tp, t22, s22, g22, n22) ⟨(fun b h => nomatch h), by show tp ≤ t22; omega, by show tp ≤ t22; omega, by show sp ≤ s22; omega, hW22⟩ hP hD hS (lv_sub hl [2, 3, 4, 1, 0] rfl)
        rintro ⟨o, fr, t, s9, g, ν⟩ H locs ls hI ih hP hD hS hl
        have hP : va_P (dC, dI) classes ([(wk, .inr (10, [.ref wl, .int (nI t), .int (nI s9), .ref rt])), (wl, .inl (cV, 10000, .inr (.inr (.inr (.inr g)))))] ++ va_pl L (pf f ν)) H := hP
        have hD : va_D A ([(wk, .inr (10, [.ref wl, .int (nI t), .int (nI s9), .ref rt])), (wl, .inl (cV, 10000, .inr (.inr (.inr (.inr g)))))] ++ va_pl L (pf f ν)) := hD
        have hl : lv_has ls 7 [(0, .ref wk), (1, .ref qu), (2, .ref cu), (3, .int (nI fr)), (4, va_rf o)] := hl
        obtain ⟨hI, hI0, hI1, hI2, hI3⟩ := hI
        have hI : oR (fun b => E b = 8 ∧ lv b ≤ n) o := hI
        have hI0 : fr ≤ t := hI0
        have hI1 : tp ≤ t := hI1
        have hI2 : sp ≤ s9 := hI2
        have hI3 : WI E t s9 g := hI3
        have ihO := ih
        have hhI31 := hI3.1
        have hhI32 := hI3.2.1
        rcases o with _ | ob
        · have hl : lv_has ls 7 [(0, .ref wk), (1, .ref qu), (2, .ref cu), (3, .int (nI fr)), (4, .null)] := hl
          refine lv_aloadN hx hb d_Walk_nodes_30 (lv_at hl 4 rfl) ?_
          refine lv_ifnullN (tgt := 83) hx hb d_Walk_nodes_32 (by decide) ?_
          refine lv_iload_n hx hb d_Walk_nodes_83 rfl (lv_at hl 3 rfl) ?_
          refine w_same (fun hq => ?_)
          refine W.widen (k := 1) (n := 6) (Nat.le_of_ble_eq_true rfl) (Nat.le_of_ble_eq_true rfl) ?_
          refine vx_ret ?_
          exact W.iret (v := (nI fr)) hx hb hr (fun t9 ht hW => ⟨⟨(nI fr), (t, s9, g, ν), rfl, ⟨⟨fr, rfl, hI0⟩, by show tp ≤ t; omega, by show sp ≤ s9; omega, hI3⟩, ⟨by rw [ht]; exact hP, va_K.moved hW.alike hK, hD⟩, by rw [ht]; exact hq⟩, hS.F ht⟩) hS.2.2 d_Walk_nodes_84
        · have hl : lv_has ls 7 [(0, .ref wk), (1, .ref qu), (2, .ref cu), (3, .int (nI fr)), (4, .ref ob)] := hl
          obtain ⟨hob1, hob2⟩ := hI ob rfl
          refine lv_aload hx hb d_Walk_nodes_30 (lv_at hl 4 rfl) ?_
          refine lv_ifnull hx hb d_Walk_nodes_32 ?_
          refine lv_aload_n hx hb d_Walk_nodes_35 rfl (lv_at hl 0 rfl) ?_
          refine va_get (D := (dC, dI)) (ci := 10) (v := .int (nI t)) (C := R_Walk) (T := F_Walk) (N := 4) hx hb hts in_Walk hown hK hP 0 rfl rfl 1 (by decide) (hts _ z_117) (fun _ h9 => h9) rfl d_Walk_nodes_36 ?_
          refine lv_istore (lv' := [(5, .int (nI t)), (0, .ref wk), (1, .ref qu), (2, .ref cu), (3, .int (nI fr)), (4, .ref ob)]) hx hb d_Walk_nodes_39 hl (by decide) rfl (fun ls hl => ?_)
          refine lv_iload_n hx hb d_Walk_nodes_41 rfl (lv_at hl 4 rfl) ?_
          refine lv_istore (lv' := [(6, .int (nI fr)), (5, .int (nI t)), (0, .ref wk), (1, .ref qu), (2, .ref cu), (3, .int (nI fr)), (4, .ref ob)]) hx hb d_Walk_nodes_42 hl (by decide) rfl (fun ls hl => ?_)
          obtain ⟨ds24, fi24, nx24, ef24, hv24⟩ := hO.seg hob1
          refine w_loop (D := (dC, dI)) (cl := classes) (A := A) (H0 := s.heap) (nL := 7) 44 (σ := Nat × Nat × Nat × (Nat → Option Nat) × (Nat → Int64)) (fun ⟨i, t2, s2, g, ν⟩ => i ≤ t ∧ t ≤ t2 ∧ s9 ≤ s2 ∧ WI E t2 s2 g) (fun ⟨i, t2, s2, g, ν⟩ => t - i) (fun ⟨i, t2, s2, g, ν⟩ => [(wk, .inr (10, [.ref wl, .int (nI t2), .int (nI s2), .ref rt])), (wl, .inl (cV, 10000, .inr (.inr (.inr (.inr g)))))] ++ va_pl L (pf f ν)) (fun ⟨i, t2, s2, g, ν⟩ => [(0, .ref wk), (1, .ref qu), (2, .ref cu), (4, .ref ob), (5, .int (nI t)), (6, .int (nI i))]) ?_ (fr, t, s9, g, ν) ⟨hI0, Nat.le_refl _, Nat.le_refl _, hI3⟩ hP hD hS (lv_sub hl [2, 3, 4, 6, 1, 0] rfl)
          rintro ⟨i, t2, s2, g, ν⟩ H locs ls hI ih hP hD hS hl
          have hP : va_P (dC, dI) classes ([(wk, .inr (10, [.ref wl, .int (nI t2), .int (nI s2), .ref rt])), (wl, .inl (cV, 10000, .inr (.inr (.inr (.inr g)))))] ++ va_pl L (pf f ν)) H := hP
          have hD : va_D A ([(wk, .inr (10, [.ref wl, .int (nI t2), .int (nI s2), .ref rt])), (wl, .inl (cV, 10000, .inr (.inr (.inr (.inr g)))))] ++ va_pl L (pf f ν)) := hD
          have hl : lv_has ls 7 [(0, .ref wk), (1, .ref qu), (2, .ref cu), (4, .ref ob), (5, .int (nI t)), (6, .int (nI i))] := hl
          obtain ⟨hJ, hJ1, hJ2, hJ3⟩ := hI
          have hJ : i ≤ t := hJ
          have hJ1 : t ≤ t2 := hJ1
          have hJ2 : s9 ≤ s2 := hJ2
          have hJ3 : WI E t2 s2 g := hJ3
          have hhJ31 := hJ3.1
          have hhJ32 := hJ3.2.1
          refine lv_iload hx hb d_Walk_nodes_44 (lv_at hl 5 rfl) ?_
          refine lv_iload hx hb d_Walk_nodes_46 (lv_at hl 4 rfl) ?_
          refine lv_icmp_ge (tgt := 70) hx hb d_Walk_nodes_48 (by decide) (fun c48 => ?_) (fun c48 => ?_)
          · refine lv_iload hx hb d_Walk_nodes_70 (lv_at hl 4 rfl) ?_
            refine lv_istore_n (lv' := [(3, .int (nI t)), (0, .ref wk), (1, .ref qu), (2, .ref cu), (4, .ref ob), (5, .int (nI t)), (6, .int (nI i))]) hx hb d_Walk_nodes_72 rfl hl (by decide) rfl (fun ls hl => ?_)
            refine lv_aload hx hb d_Walk_nodes_73 (lv_at hl 4 rfl) ?_
            rcases nx24 with _ | b25
            · refine vq_get (D := (dC, dI)) (ci := 6) (v := .null) (C := R_Segment) (T := F_Segment) (N := 3) hx hb hts in_Segment hown hK hP (hO.inL (a := ob) (by rw [hob1]; decide)) (pf_G ef24) rfl 2 (by decide) (hts _ z_581) (fun _ h9 => h9) rfl d_Walk_nodes_75 ?_
              refine lv_astoreN (lv' := [(4, .null), (3, .int (nI t)), (0, .ref wk), (1, .ref qu), (2, .ref cu), (5, .int (nI t)), (6, .int (nI i))]) hx hb d_Walk_nodes_78 hl (by decide) rfl (fun ls hl => ?_)
              refine lv_goto (tgt := 30) hx hb d_Walk_nodes_80 (by decide) ?_
              exact ihO (none, t, t2, s2, g, ν) _ _ _ ⟨(fun b h => nomatch h), by show t ≤ t2; omega, by show tp ≤ t2; omega, by show sp ≤ s2; omega, hJ3⟩ (chL_lt (hO.inL (a := ob) (by rw [hob1]; decide)) (fun b h => nomatch h)) hP hD hS (lv_sub hl [2, 3, 4, 1, 0] rfl)
            · refine vq_get (D := (dC, dI)) (ci := 6) (v := .ref b25) (C := R_Segment) (T := F_Segment) (N := 3) hx hb hts in_Segment hown hK hP (hO.inL (a := ob) (by rw [hob1]; decide)) (pf_G ef24) rfl 2 (by decide) (hts _ z_581) (fun _ h9 => h9) rfl d_Walk_nodes_75 ?_
              refine lv_astore (lv' := [(4, .ref b25), (3, .int (nI t)), (0, .ref wk), (1, .ref qu), (2, .ref cu), (5, .int (nI t)), (6, .int (nI i))]) hx hb d_Walk_nodes_78 hl (by decide) rfl (fun ls hl => ?_)
              refine lv_goto (tgt := 30) hx hb d_Walk_nodes_80 (by decide) ?_
              exact ihO ((some b25), t, t2, s2, g, ν) _ _ _ ⟨(fun b h => by cases h; exact ⟨(hv24.2 b25 rfl).1, Nat.le_trans (hv24.2 b25 rfl).2.1 hob2⟩), by show t ≤ t2; omega, by show tp ≤ t2; omega, by show sp ≤ s2; omega, hJ3⟩ (chL_lt (hO.inL (a := ob) (by rw [hob1]; decide)) (fun b h => by cases h; exact (hv24.2 b25 rfl).2.2)) hP hD hS (lv_sub hl [2, 3, 4, 1, 0] rfl)
          · have hi : i < t := by rw [nI_leI (by omega) (by omega)] at c48; omega
            obtain ⟨nd9, hnd1, hnd2⟩ := hJ3.2.2 i (by omega)
            refine lv_aload_n hx hb d_Walk_nodes_51 rfl (lv_at hl 0 rfl) ?_
            refine lv_aload hx hb d_Walk_nodes_52 (lv_at hl 3 rfl) ?_
            refine lv_aload_n hx hb d_Walk_nodes_54 rfl (lv_at hl 0 rfl) ?_
            refine va_get (D := (dC, dI)) (ci := 10) (v := .ref wl) (C := R_Walk) (T := F_Walk) (N := 4) hx hb hts in_Walk hown hK hP 0 rfl rfl 0 (by decide) (hts _ w_115) (fun _ h9 => h9) rfl d_Walk_nodes_55 ?_
            refine lv_iload hx hb d_Walk_nodes_58 (lv_at hl 5 rfl) ?_
            refine vq_ald0 hx hb hK hP 1 1 rfl rfl (show i < 10000 by omega) (by decide) hnd1 d_Walk_nodes_60 ?_
            have hPc := hP.part (cx := [(wk, .inr (10, [.ref wl, .int (nI t2), .int (nI s2), .ref rt])), (wl, .inl (cV, 10000, .inr (.inr (.inr (.inr g)))))]) [0, 1] rfl
            have hDc := hD.part (cx := [(wk, .inr (10, [.ref wl, .int (nI t2), .int (nI s2), .ref rt])), (wl, .inl (cV, 10000, .inr (.inr (.inr (.inr g)))))]) [0, 1] (by decide) rfl
            have hFc := va_freeP (cx := [(wk, .inr (10, [.ref wl, .int (nI t2), .int (nI s2), .ref rt])), (wl, .inl (cV, 10000, .inr (.inr (.inr (.inr g)))))]) hD hS hA [0, 1] rfl
            have hKc := hK.sub (tys' := [(cI, .int), (cV, .object "QueryBench$Value")]) [0, 1] rfl
            refine w_same (fun hq0 => ?_)
            refine vx_callv (vx_runV (As := [.ref ob, .ref nd9]) (rest := []) ⟨hx, hb, hml, hown, hts⟩ (c_Walk_step l hl9 K dC dI H cI cV E lv L f hO hN1 wk wl rt hrt t2 s2 g ν hJ3 n HI ob hob1 hob2 nd9 hnd2) (cwV 2 hts (gt_V (own := R_Walk) (C := R_Walk) (i := 46) (y := y_Walk_step) i_Walk_step z_849 z_851 (gt_sel (y := y_Walk_step) (n := 4) (by decide +kernel)) w_5) rfl rfl rfl (by decide +kernel) ⟨by show 59 + 5 * n + 1 ≤ 60 + 5 * n; omega, by show 8 + (5 + 11) + (2460 + 200 * n) ≤ 2500 + 200 * n; omega⟩) ⟨ml_blind, va_recv hK hP (ci := 10) (q0 := 0) rfl rfl, fun U hU hW => ⟨rfl, ⟨hU, by rw [hU]; exact hPc, va_K.moved hW.alike hKc, hDc.weaken (fun _ _ _ _ => trivial)⟩, hN.warm hW, by rw [hU]; exact ZX.moved' hW.alike (ZX.narrow' (ZX.kept' hZ hS.2.1) hFc), by rw [hU]; exact CE.call hC hS.2.1 hFc hW, va_AO.moved hW.alike hV⟩⟩ rfl rfl hl.1 rfl (lv_room (Nat.le_of_ble_eq_true rfl)) d_Walk_nodes_61 ⟨Nat.le_of_ble_eq_true rfl, Nat.le_of_ble_eq_true rfl⟩) hS (fun q _ h => hFc q h) hFc (fun q _ h => hFc q h) (fun En ce q9 ⟨tx, sx, gx, nx⟩ t9 H1 locs ht hvm hw hB hz1 hk1 hS hce hcv hcl => ?_) (fun ⟨t26, s26, g26, n26⟩ t9 H1 locs ht hvm hw hB hz1 hk1 hS => ?_)
            · obtain ⟨hEn, hP1, hK1, hD1⟩ := hB
              rw [ht] at hP1
              obtain ⟨hP, hD⟩ := va_joinP (wr := []) (rx := [(wk, .inr (10, [.ref wl, .int tx, .int sx, .ref rt])), (wl, .inl (cV, 10000, .inr (.inr (.inr (.inr gx)))))]) (pl1 := va_pl L (pf f nx)) hP hD [0, 1] [] rfl rfl (by decide) (by decide) hk1 hFc hP1 hD1
              generalize H1 = H at hP hS hce ⊢
              have hP : va_P (dC, dI) classes ([(wk, .inr (10, [.ref wl, .int tx, .int sx, .ref rt])), (wl, .inl (cV, 10000, .inr (.inr (.inr (.inr gx)))))] ++ va_pl L (pf f nx)) H := hP
              have hD : va_D A ([(wk, .inr (10, [.ref wl, .int tx, .int sx, .ref rt])), (wl, .inl (cV, 10000, .inr (.inr (.inr (.inr gx)))))] ++ va_pl L (pf f nx)) := hD
              exact vx_out (fun x hx => (hex x hx).elim) hlocks hce hcv hcl (fun t9 ht2 ha => ⟨(tx, sx, gx, nx), trivial, ⟨hEn, by rw [ht2]; exact hP, va_K.moved ha hK, hD⟩, hS.F ht2⟩) hS.2.2 (Nat.le_of_ble_eq_true rfl) (Nat.le_of_ble_eq_true rfl)
            · obtain ⟨⟨hP1, hK1, hD1⟩, hz9⟩ := hB
              rw [ht] at hP1
              rw [ht] at hz9
              refine w_tight (hq0.trans hz9) ?_
              have hq0 := hq0.trans hz9
              obtain ⟨hP, hD⟩ := va_joinP (wr := []) (rx := [(wk, .inr (10, [.ref wl, .int (nI t26), .int (nI s26), .ref rt])), (wl, .inl (cV, 10000, .inr (.inr (.inr (.inr g26)))))]) (pl1 := va_pl L (pf f n26)) hP hD [0, 1] [] rfl rfl (by decide) (by decide) hk1 hFc hP1 hD1
              generalize H1 = H at hP hS hq0 ⊢
              have hP : va_P (dC, dI) classes ([(wk, .inr (10, [.ref wl, .int (nI t26), .int (nI s26), .ref rt])), (wl, .inl (cV, 10000, .inr (.inr (.inr (.inr g26)))))] ++ va_pl L (pf f n26)) H := hP
              have hD : va_D A ([(wk, .inr (10, [.ref wl, .int (nI t26), .int (nI s26), .ref rt])), (wl, .inl (cV, 10000, .inr (.inr (.inr (.inr g26)))))] ++ va_pl L (pf f n26)) := hD
              obtain ⟨ha26, hb26, hW26⟩ := hw
              have ha26 : t2 ≤ t26 := ha26
              have hb26 : s2 ≤ s26 := hb26
              have hW26 : WI E t26 s26 g26 := hW26
              have hhW261 := hW26.1
              have hhW262 := hW26.2.1
              refine lv_iinc (v := nI (i + 1)) (lv' := [(6, .int (nI (i + 1))), (0, .ref wk), (1, .ref qu), (2, .ref cu), (4, .ref ob), (5, .int (nI t))]) hx hb d_Walk_nodes_64 hl (k := 5) rfl (nI_1 _) (by decide) rfl (fun ls hl => ?_)
              refine lv_goto (tgt := 44) hx hb d_Walk_nodes_67 (by decide) ?_
              exact ih (i + 1, t26, s26, g26, n26) _ _ _ ⟨show i + 1 ≤ t by omega, by show t ≤ t26; omega, by show s9 ≤ s26; omega, hW26⟩ (by show t - (i + 1) < t - i; omega) hP hD hS (lv_sub hl [1, 2, 3, 4, 5, 0] rfl)
      · refine vq_get (D := (dC, dI)) (ci := 4) (v := .ref b23) (C := R_Query) (T := F_Query) (N := 4) hx hb hts in_Query hown hK hP (hO.inL (a := qu) (by rw [hqu]; decide)) (pf_Q ef21) rfl 2 (by decide) (hts _ z_552) (fun _ h9 => h9) rfl d_Walk_nodes_25 ?_
        refine lv_astore (lv' := [(4, .ref b23), (3, .int (nI tp)), (0, .ref wk), (1, .ref qu), (2, .ref cu)]) hx hb d_Walk_nodes_28 hl (by decide) rfl (fun ls hl => ?_)
        refine w_loop (D := (dC, dI)) (cl := classes) (A := A) (H0 := s.heap) (nL := 7) 30 (σ := Option Nat × Nat × Nat × Nat × (Nat → Option Nat) × (Nat → Int64)) (fun ⟨o, fr, t, s9, g, ν⟩ => oR (fun b => E b = 8 ∧ lv b ≤ n) o ∧ fr ≤ t ∧ tp ≤ t ∧ sp ≤ s9 ∧ WI E t s9 g) (fun ⟨o, fr, t, s9, g, ν⟩ => chL L o) (fun ⟨o, fr, t, s9, g, ν⟩ => [(wk, .inr (10, [.ref wl, .int (nI t), .int (nI s9), .ref rt])), (wl, .inl (cV, 10000, .inr (.inr (.inr (.inr g)))))] ++ va_pl L (pf f ν)) (fun ⟨o, fr, t, s9, g, ν⟩ => [(0, .ref wk), (1, .ref qu), (2, .ref cu), (3, .int (nI fr)), (4, va_rf o)]) ?_ ((some b23), tp, t22, s22, g22, n22) ⟨(fun b h => by cases h; exact ⟨(hv21.1 b23 rfl).1, Nat.le_trans (hv21.1 b23 rfl).2 hlq⟩), by show tp ≤ t22; omega, by show tp ≤ t22; omega, by show sp ≤ s22; omega, hW22⟩ hP hD hS (lv_sub hl [2, 3, 4, 1, 0] rfl)
        rintro ⟨o, fr, t, s9, g, ν⟩ H locs ls hI ih hP hD hS hl
        have hP : va_P (dC, dI) classes ([(wk, .inr (10, [.ref wl, .int (nI t), .int (nI s9), .ref rt])), (wl, .inl (cV, 10000, .inr (.inr (.inr (.inr g)))))] ++ va_pl L (pf f ν)) H := hP
        have hD : va_D A ([(wk, .inr (10, [.ref wl, .int (nI t), .int (nI s9), .ref rt])), (wl, .inl (cV, 10000, .inr (.inr (.inr (.inr g)))))] ++ va_pl L (pf f ν)) := hD
        have hl : lv_has ls 7 [(0, .ref wk), (1, .ref qu), (2, .ref cu), (3, .int (nI fr)), (4, va_rf o)] := hl
        obtain ⟨hI, hI0, hI1, hI2, hI3⟩ := hI
        have hI : oR (fun b => E b = 8 ∧ lv b ≤ n) o := hI
        have hI0 : fr ≤ t := hI0
        have hI1 : tp ≤ t := hI1
        have hI2 : sp ≤ s9 := hI2
        have hI3 : WI E t s9 g := hI3
        have ihO := ih
        have hhI31 := hI3.1
        have hhI32 := hI3.2.1
        rcases o with _ | ob
        · have hl : lv_has ls 7 [(0, .ref wk), (1, .ref qu), (2, .ref cu), (3, .int (nI fr)), (4, .null)] := hl
          refine lv_aloadN hx hb d_Walk_nodes_30 (lv_at hl 4 rfl) ?_
          refine lv_ifnullN (tgt := 83) hx hb d_Walk_nodes_32 (by decide) ?_
          refine lv_iload_n hx hb d_Walk_nodes_83 rfl (lv_at hl 3 rfl) ?_
          refine w_same (fun hq => ?_)
          refine W.widen (k := 1) (n := 6) (Nat.le_of_ble_eq_true rfl) (Nat.le_of_ble_eq_true rfl) ?_
          refine vx_ret ?_
          exact W.iret (v := (nI fr)) hx hb hr (fun t9 ht hW => ⟨⟨(nI fr), (t, s9, g, ν), rfl, ⟨⟨fr, rfl, hI0⟩, by show tp ≤ t; omega, by show sp ≤ s9; omega, hI3⟩, ⟨by rw [ht]; exact hP, va_K.moved hW.alike hK, hD⟩, by rw [ht]; exact hq⟩, hS.F ht⟩) hS.2.2 d_Walk_nodes_84
        · have hl : lv_has ls 7 [(0, .ref wk), (1, .ref qu), (2, .ref cu), (3, .int (nI fr)), (4, .ref ob)] := hl
          obtain ⟨hob1, hob2⟩ := hI ob rfl
          refine lv_aload hx hb d_Walk_nodes_30 (lv_at hl 4 rfl) ?_
          refine lv_ifnull hx hb d_Walk_nodes_32 ?_
          refine lv_aload_n hx hb d_Walk_nodes_35 rfl (lv_at hl 0 rfl) ?_
          refine va_get (D := (dC, dI)) (ci := 10) (v := .int (nI t)) (C := R_Walk) (T := F_Walk) (N := 4) hx hb hts in_Walk hown hK hP 0 rfl rfl 1 (by decide) (hts _ z_117) (fun _ h9 => h9) rfl d_Walk_nodes_36 ?_
          refine lv_istore (lv' := [(5, .int (nI t)), (0, .ref wk), (1, .ref qu), (2, .ref cu), (3, .int (nI fr)), (4, .ref ob)]) hx hb d_Walk_nodes_39 hl (by decide) rfl (fun ls hl => ?_)
          refine lv_iload_n hx hb d_Walk_nodes_41 rfl (lv_at hl 4 rfl) ?_
          refine lv_istore (lv' := [(6, .int (nI fr)), (5, .int (nI t)), (0, .ref wk), (1, .ref qu), (2, .ref cu), (3, .int (nI fr)), (4, .ref ob)]) hx hb d_Walk_nodes_42 hl (by decide) rfl (fun ls hl => ?_)
          obtain ⟨ds27, fi27, nx27, ef27, hv27⟩ := hO.seg hob1
          refine w_loop (D := (dC, dI)) (cl := classes) (A := A) (H0 := s.heap) (nL := 7) 44 (σ := Nat × Nat × Nat × (Nat → Option Nat) × (Nat → Int64)) (fun ⟨i, t2, s2, g, ν⟩ => i ≤ t ∧ t ≤ t2 ∧ s9 ≤ s2 ∧ WI E t2 s2 g) (fun ⟨i, t2, s2, g, ν⟩ => t - i) (fun ⟨i, t2, s2, g, ν⟩ => [(wk, .inr (10, [.ref wl, .int (nI t2), .int (nI s2), .ref rt])), (wl, .inl (cV, 10000, .inr (.inr (.inr (.inr g)))))] ++ va_pl L (pf f ν)) (fun ⟨i, t2, s2, g, ν⟩ => [(0, .ref wk), (1, .ref qu), (2, .ref cu), (4, .ref ob), (5, .int (nI t)), (6, .int (nI i))]) ?_ (fr, t, s9, g, ν) ⟨hI0, Nat.le_refl _, Nat.le_refl _, hI3⟩ hP hD hS (lv_sub hl [2, 3, 4, 6, 1, 0] rfl)
          rintro ⟨i, t2, s2, g, ν⟩ H locs ls hI ih hP hD hS hl
          have hP : va_P (dC, dI) classes ([(wk, .inr (10, [.ref wl, .int (nI t2), .int (nI s2), .ref rt])), (wl, .inl (cV, 10000, .inr (.inr (.inr (.inr g)))))] ++ va_pl L (pf f ν)) H := hP
          have hD : va_D A ([(wk, .inr (10, [.ref wl, .int (nI t2), .int (nI s2), .ref rt])), (wl, .inl (cV, 10000, .inr (.inr (.inr (.inr g)))))] ++ va_pl L (pf f ν)) := hD
          have hl : lv_has ls 7 [(0, .ref wk), (1, .ref qu), (2, .ref cu), (4, .ref ob), (5, .int (nI t)), (6, .int (nI i))] := hl
          obtain ⟨hJ, hJ1, hJ2, hJ3⟩ := hI
          have hJ : i ≤ t := hJ
          have hJ1 : t ≤ t2 := hJ1
          have hJ2 : s9 ≤ s2 := hJ2
          have hJ3 : WI E t2 s2 g := hJ3
          have hhJ31 := hJ3.1
          have hhJ32 := hJ3.2.1
          refine lv_iload hx hb d_Walk_nodes_44 (lv_at hl 5 rfl) ?_
          refine lv_iload hx hb d_Walk_nodes_46 (lv_at hl 4 rfl) ?_
          refine lv_icmp_ge (tgt := 70) hx hb d_Walk_nodes_48 (by decide) (fun c48 => ?_) (fun c48 => ?_)
          · refine lv_iload hx hb d_Walk_nodes_70 (lv_at hl 4 rfl) ?_
            refine lv_istore_n (lv' := [(3, .int (nI t)), (0, .ref wk), (1, .ref qu), (2, .ref cu), (4, .ref ob), (5, .int (nI t)), (6, .int (nI i))]) hx hb d_Walk_nodes_72 rfl hl (by decide) rfl (fun ls hl => ?_)
            refine lv_aload hx hb d_Walk_nodes_73 (lv_at hl 4 rfl) ?_
            rcases nx27 with _ | b28
            · refine vq_get (D := (dC, dI)) (ci := 6) (v := .null) (C := R_Segment) (T := F_Segment) (N := 3) hx hb hts in_Segment hown hK hP (hO.inL (a := ob) (by rw [hob1]; decide)) (pf_G ef27) rfl 2 (by decide) (hts _ z_581) (fun _ h9 => h9) rfl d_Walk_nodes_75 ?_
              refine lv_astoreN (lv' := [(4, .null), (3, .int (nI t)), (0, .ref wk), (1, .ref qu), (2, .ref cu), (5, .int (nI t)), (6, .int (nI i))]) hx hb d_Walk_nodes_78 hl (by decide) rfl (fun ls hl => ?_)
              refine lv_goto (tgt := 30) hx hb d_Walk_nodes_80 (by decide) ?_
              exact ihO (none, t, t2, s2, g, ν) _ _ _ ⟨(fun b h => nomatch h), by show t ≤ t2; omega, by show tp ≤ t2; omega, by show sp ≤ s2; omega, hJ3⟩ (chL_lt (hO.inL (a := ob) (by rw [hob1]; decide)) (fun b h => nomatch h)) hP hD hS (lv_sub hl [2, 3, 4, 1, 0] rfl)
            · refine vq_get (D := (dC, dI)) (ci := 6) (v := .ref b28) (C := R_Segment) (T := F_Segment) (N := 3) hx hb hts in_Segment hown hK hP (hO.inL (a := ob) (by rw [hob1]; decide)) (pf_G ef27) rfl 2 (by decide) (hts _ z_581) (fun _ h9 => h9) rfl d_Walk_nodes_75 ?_
              refine lv_astore (lv' := [(4, .ref b28), (3, .int (nI t)), (0, .ref wk), (1, .ref qu), (2, .ref cu), (5, .int (nI t)), (6, .int (nI i))]) hx hb d_Walk_nodes_78 hl (by decide) rfl (fun ls hl => ?_)
              refine lv_goto (tgt := 30) hx hb d_Walk_nodes_80 (by decide) ?_
              exact ihO ((some b28), t, t2, s2, g, ν) _ _ _ ⟨(fun b h => by cases h; exact ⟨(hv27.2 b28 rfl).1, Nat.le_trans (hv27.2 b28 rfl).2.1 hob2⟩), by show t ≤ t2; omega, by show tp ≤ t2; omega, by show sp ≤ s2; omega, hJ3⟩ (chL_lt (hO.inL (a := ob) (by rw [hob1]; decide)) (fun b h => by cases h; exact (hv27.2 b28 rfl).2.2)) hP hD hS (lv_sub hl [2, 3, 4, 1, 0] rfl)
          · have hi : i < t := by rw [nI_leI (by omega) (by omega)] at c48; omega
            obtain ⟨nd9, hnd1, hnd2⟩ := hJ3.2.2 i (by omega)
            refine lv_aload_n hx hb d_Walk_nodes_51 rfl (lv_at hl 0 rfl) ?_
            refine lv_aload hx hb d_Walk_nodes_52 (lv_at hl 3 rfl) ?_
            refine lv_aload_n hx hb d_Walk_nodes_54 rfl (lv_at hl 0 rfl) ?_
            refine va_get (D := (dC, dI)) (ci := 10) (v := .ref wl) (C := R_Walk) (T := F_Walk) (N := 4) hx hb hts in_Walk hown hK hP 0 rfl rfl 0 (by decide) (hts _ w_115) (fun _ h9 => h9) rfl d_Walk_nodes_55 ?_
            refine lv_iload hx hb d_Walk_nodes_58 (lv_at hl 5 rfl) ?_
            refine vq_ald0 hx hb hK hP 1 1 rfl rfl (show i < 10000 by omega) (by decide) hnd1 d_Walk_nodes_60 ?_
            have hPc := hP.part (cx := [(wk, .inr (10, [.ref wl, .int (nI t2), .int (nI s2), .ref rt])), (wl, .inl (cV, 10000, .inr (.inr (.inr (.inr g)))))]) [0, 1] rfl
            have hDc := hD.part (cx := [(wk, .inr (10, [.ref wl, .int (nI t2), .int (nI s2), .ref rt])), (wl, .inl (cV, 10000, .inr (.inr (.inr (.inr g)))))]) [0, 1] (by decide) rfl
            have hFc := va_freeP (cx := [(wk, .inr (10, [.ref wl, .int (nI t2), .int (nI s2), .ref rt])), (wl, .inl (cV, 10000, .inr (.inr (.inr (.inr g)))))]) hD hS hA [0, 1] rfl
            have hKc := hK.sub (tys' := [(cI, .int), (cV, .object "QueryBench$Value")]) [0, 1] rfl
            refine w_same (fun hq0 => ?_)
            refine vx_callv (vx_runV (As := [.ref ob, .ref nd9]) (rest := []) ⟨hx, hb, hml, hown, hts⟩ (c_Walk_step l hl9 K dC dI H cI cV E lv L f hO hN1 wk wl rt hrt t2 s2 g ν hJ3 n HI ob hob1 hob2 nd9 hnd2) (cwV 2 hts (gt_V (own := R_Walk) (C := R_Walk) (i := 46) (y := y_Walk_step) i_Walk_step z_849 z_851 (gt_sel (y := y_Walk_step) (n := 4) (by decide +kernel)) w_5) rfl rfl rfl (by decide +kernel) ⟨by show 59 + 5 * n + 1 ≤ 60 + 5 * n; omega, by show 8 + (5 + 11) + (2460 + 200 * n) ≤ 2500 + 200 * n; omega⟩) ⟨ml_blind, va_recv hK hP (ci := 10) (q0 := 0) rfl rfl, fun U hU hW => ⟨rfl, ⟨hU, by rw [hU]; exact hPc, va_K.moved hW.alike hKc, hDc.weaken (fun _ _ _ _ => trivial)⟩, hN.warm hW, by rw [hU]; exact ZX.moved' hW.alike (ZX.narrow' (ZX.kept' hZ hS.2.1) hFc), by rw [hU]; exact CE.call hC hS.2.1 hFc hW, va_AO.moved hW.alike hV⟩⟩ rfl rfl hl.1 rfl (lv_room (Nat.le_of_ble_eq_true rfl)) d_Walk_nodes_61 ⟨Nat.le_of_ble_eq_true rfl, Nat.le_of_ble_eq_true rfl⟩) hS (fun q _ h => hFc q h) hFc (fun q _ h => hFc q h) (fun En ce q9 ⟨tx, sx, gx, nx⟩ t9 H1 locs ht hvm hw hB hz1 hk1 hS hce hcv hcl => ?_) (fun ⟨t29, s29, g29, n29⟩ t9 H1 locs ht hvm hw hB hz1 hk1 hS => ?_)
            · obtain ⟨hEn, hP1, hK1, hD1⟩ := hB
              rw [ht] at hP1
              obtain ⟨hP, hD⟩ := va_joinP (wr := []) (rx := [(wk, .inr (10, [.ref wl, .int tx, .int sx, .ref rt])), (wl, .inl (cV, 10000, .inr (.inr (.inr (.inr gx)))))]) (pl1 := va_pl L (pf f nx)) hP hD [0, 1] [] rfl rfl (by decide) (by decide) hk1 hFc hP1 hD1
              generalize H1 = H at hP hS hce ⊢
              have hP : va_P (dC, dI) classes ([(wk, .inr (10, [.ref wl, .int tx, .int sx, .ref rt])), (wl, .inl (cV, 10000, .inr (.inr (.inr (.inr gx)))))] ++ va_pl L (pf f nx)) H := hP
              have hD : va_D A ([(wk, .inr (10, [.ref wl, .int tx, .int sx, .ref rt])), (wl, .inl (cV, 10000, .inr (.inr (.inr (.inr gx)))))] ++ va_pl L (pf f nx)) := hD
              exact vx_out (fun x hx => (hex x hx).elim) hlocks hce hcv hcl (fun t9 ht2 ha => ⟨(tx, sx, gx, nx), trivial, ⟨hEn, by rw [ht2]; exact hP, va_K.moved ha hK, hD⟩, hS.F ht2⟩) hS.2.2 (Nat.le_of_ble_eq_true rfl) (Nat.le_of_ble_eq_true rfl)
            · obtain ⟨⟨hP1, hK1, hD1⟩, hz9⟩ := hB
              rw [ht] at hP1
              rw [ht] at hz9
              refine w_tight (hq0.trans hz9) ?_
              have hq0 := hq0.trans hz9
              obtain ⟨hP, hD⟩ := va_joinP (wr := []) (rx := [(wk, .inr (10, [.ref wl, .int (nI t29), .int (nI s29), .ref rt])), (wl, .inl (cV, 10000, .inr (.inr (.inr (.inr g29)))))]) (pl1 := va_pl L (pf f n29)) hP hD [0, 1] [] rfl rfl (by decide) (by decide) hk1 hFc hP1 hD1
              generalize H1 = H at hP hS hq0 ⊢
              have hP : va_P (dC, dI) classes ([(wk, .inr (10, [.ref wl, .int (nI t29), .int (nI s29), .ref rt])), (wl, .inl (cV, 10000, .inr (.inr (.inr (.inr g29)))))] ++ va_pl L (pf f n29)) H := hP
              have hD : va_D A ([(wk, .inr (10, [.ref wl, .int (nI t29), .int (nI s29), .ref rt])), (wl, .inl (cV, 10000, .inr (.inr (.inr (.inr g29)))))] ++ va_pl L (pf f n29)) := hD
              obtain ⟨ha29, hb29, hW29⟩ := hw
              have ha29 : t2 ≤ t29 := ha29
              have hb29 : s2 ≤ s29 := hb29
              have hW29 : WI E t29 s29 g29 := hW29
              have hhW291 := hW29.1
              have hhW292 := hW29.2.1
              refine lv_iinc (v := nI (i + 1)) (lv' := [(6, .int (nI (i + 1))), (0, .ref wk), (1, .ref qu), (2, .ref cu), (4, .ref ob), (5, .int (nI t))]) hx hb d_Walk_nodes_64 hl (k := 5) rfl (nI_1 _) (by decide) rfl (fun ls hl => ?_)
              refine lv_goto (tgt := 44) hx hb d_Walk_nodes_67 (by decide) ?_
              exact ih (i + 1, t29, s29, g29, n29) _ _ _ ⟨show i + 1 ≤ t by omega, by show t ≤ t29; omega, by show s9 ≤ s29; omega, hW29⟩ (by show t - (i + 1) < t - i; omega) hP hD hS (lv_sub hl [1, 2, 3, 4, 5, 0] rfl)
  · refine lv_aload_n hx hb d_Walk_nodes_13 rfl (lv_at hl 1 rfl) ?_
    refine va_get (D := (dC, dI)) (ci := 10) (v := .ref rt) (C := R_Walk) (T := F_Walk) (N := 4) hx hb hts in_Walk hown hK hP 0 rfl rfl 3 (by decide) (hts _ z_121) (fun _ h9 => h9) rfl d_Walk_nodes_14 ?_
    refine lv_goto (tgt := 21) hx hb d_Walk_nodes_17 (by decide) ?_
    have hPc := hP.part (cx := [(wk, .inr (10, [.ref wl, .int (nI tp), .int (nI sp), .ref rt])), (wl, .inl (cV, 10000, .inr (.inr (.inr (.inr g)))))]) [0, 1] rfl
    have hDc := hD.part (cx := [(wk, .inr (10, [.ref wl, .int (nI tp), .int (nI sp), .ref rt])), (wl, .inl (cV, 10000, .inr (.inr (.inr (.inr g)))))]) [0, 1] (by decide) rfl
    have hFc := va_freeP (cx := [(wk, .inr (10, [.ref wl, .int (nI tp), .int (nI sp), .ref rt])), (wl, .inl (cV, 10000, .inr (.inr (.inr (.inr g)))))]) hD hS hA [0, 1] rfl
    have hKc := hK.sub (tys' := [(cI, .int), (cV, .object "QueryBench$Value")]) [0, 1] rfl
    refine w_same (fun hq0 => ?_)
    refine vx_callv (vx_runV (As := [.ref rt]) (rest := []) ⟨hx, hb, hml, hown, hts⟩ (c_Walk_push l hl9 K dC dI s.heap cI cV E lv L f hO hN1 wk wl rt hrt tp sp g ν hW9 rt hrt) (cwV 1 hts (gt_V (own := R_Walk) (C := R_Walk) (i := 38) (y := y_Walk_push) i_Walk_push z_839 z_841 (gt_sel (y := y_Walk_push) (n := 4) (by decide +kernel)) w_5) rfl rfl rfl (by decide +kernel) ⟨by show 9 + 1 ≤ 60 + 5 * n; omega, by show 8 + (2 + 11) + (150) ≤ 2500 + 200 * n; omega⟩) ⟨ml_blind, va_recv hK hP (ci := 10) (q0 := 0) rfl rfl, fun U hU hW => ⟨rfl, ⟨hU, by rw [hU]; exact hPc, va_K.moved hW.alike hKc, hDc.weaken (fun _ _ _ _ => trivial)⟩, hN.warm hW, by rw [hU]; exact ZX.moved' hW.alike (ZX.narrow' (ZX.kept' hZ hS.2.1) hFc), by rw [hU]; exact CE.call hC hS.2.1 hFc hW, va_AO.moved hW.alike hV⟩⟩ rfl rfl hl.1 rfl (lv_room (Nat.le_of_ble_eq_true rfl)) d_Walk_nodes_21 ⟨Nat.le_of_ble_eq_true rfl, Nat.le_of_ble_eq_true rfl⟩) hS (fun q _ h => hFc q h) hFc (fun q _ h => hFc q h) (fun En ce q9 ⟨tx, sx, gx, nx⟩ t9 H1 locs ht hvm hw hB hz1 hk1 hS hce hcv hcl => ?_) (fun ⟨t30, s30, g30, n30⟩ t9 H1 locs ht hvm hw hB hz1 hk1 hS => ?_)
    · obtain ⟨hEn, hP1, hK1, hD1⟩ := hB
      rw [ht] at hP1
      obtain ⟨hP, hD⟩ := va_joinP (wr := []) (rx := [(wk, .inr (10, [.ref wl, .int tx, .int sx, .ref rt])), (wl, .inl (cV, 10000, .inr (.inr (.inr (.inr gx)))))]) (pl1 := va_pl L (pf f nx)) hP hD [0, 1] [] rfl rfl (by decide) (by decide) hk1 hFc hP1 hD1
      generalize H1 = H at hP hS hce ⊢
      have hP : va_P (dC, dI) classes ([(wk, .inr (10, [.ref wl, .int tx, .int sx, .ref rt])), (wl, .inl (cV, 10000, .inr (.inr (.inr (.inr gx)))))] ++ va_pl L (pf f nx)) H := hP
      have hD : va_D A ([(wk, .inr (10, [.ref wl, .int tx, .int sx, .ref rt])), (wl, .inl (cV, 10000, .inr (.inr (.inr (.inr gx)))))] ++ va_pl L (pf f nx)) := hD
      exact vx_out (fun x hx => (hex x hx).elim) hlocks hce hcv hcl (fun t9 ht2 ha => ⟨(tx, sx, gx, nx), trivial, ⟨hEn, by rw [ht2]; exact hP, va_K.moved ha hK, hD⟩, hS.F ht2⟩) hS.2.2 (Nat.le_of_ble_eq_true rfl) (Nat.le_of_ble_eq_true rfl)
    · obtain ⟨⟨hP1, hK1, hD1⟩, hz9⟩ := hB
      rw [ht] at hP1
      rw [ht] at hz9
      refine w_tight (hq0.trans hz9) ?_
      have hq0 := hq0.trans hz9
      obtain ⟨hP, hD⟩ := va_joinP (wr := []) (rx := [(wk, .inr (10, [.ref wl, .int (nI t30), .int (nI s30), .ref rt])), (wl, .inl (cV, 10000, .inr (.inr (.inr (.inr g30)))))]) (pl1 := va_pl L (pf f n30)) hP hD [0, 1] [] rfl rfl (by decide) (by decide) hk1 hFc hP1 hD1
      generalize H1 = H at hP hS hq0 ⊢
      have hP : va_P (dC, dI) classes ([(wk, .inr (10, [.ref wl, .int (nI t30), .int (nI s30), .ref rt])), (wl, .inl (cV, 10000, .inr (.inr (.inr (.inr g30)))))] ++ va_pl L (pf f n30)) H := hP
      have hD : va_D A ([(wk, .inr (10, [.ref wl, .int (nI t30), .int (nI s30), .ref rt])), (wl, .inl (cV, 10000, .inr (.inr (.inr (.inr g30)))))] ++ va_pl L (pf f n30)) := hD
      obtain ⟨ha30, hb30, hW30⟩ := hw
      have ha30 : t30 = tp + 1 := ha30
      have hb30 : s30 = sp + 1 := hb30
      have hW30 : WI E t30 s30 g30 := hW30
      have hhW301 := hW30.1
      have hhW302 := hW30.2.1
      refine lv_aload_n hx hb d_Walk_nodes_24 rfl (lv_at hl 2 rfl) ?_
      rcases fi21 with _ | b31
      · refine vq_get (D := (dC, dI)) (ci := 4) (v := .null) (C := R_Query) (T := F_Query) (N := 4) hx hb hts in_Query hown hK hP (hO.inL (a := qu) (by rw [hqu]; decide)) (pf_Q ef21) rfl 2 (by decide) (hts _ z_552) (fun _ h9 => h9) rfl d_Walk_nodes_25 ?_
        refine lv_astoreN (lv' := [(4, .null), (3, .int (nI tp)), (0, .ref wk), (1, .ref qu), (2, .ref cu)]) hx hb d_Walk_nodes_28 hl (by decide) rfl (fun ls hl => ?_)
        refine w_loop (D := (dC, dI)) (cl := classes) (A := A) (H0 := s.heap) (nL := 7) 30 (σ := Option Nat × Nat × Nat × Nat × (Nat → Option Nat) × (Nat → Int64)) (fun ⟨o, fr, t, s9, g, ν⟩ => oR (fun b => E b = 8 ∧ lv b ≤ n) o ∧ fr ≤ t ∧ tp ≤ t ∧ sp ≤ s9 ∧ WI E t s9 g) (fun ⟨o, fr, t, s9, g, ν⟩ => chL L o) (fun ⟨o, fr, t, s9, g, ν⟩ => [(wk, .inr (10, [.ref wl, .int (nI t), .int (nI s9), .ref rt])), (wl, .inl (cV, 10000, .inr (.inr (.inr (.inr g)))))] ++ va_pl L (pf f ν)) (fun ⟨o, fr, t, s9, g, ν⟩ => [(0, .ref wk), (1, .ref qu), (2, .ref cu), (3, .int (nI fr)), (4, va_rf o)]) ?_ (none, tp, t30, s30, g30, n30) ⟨(fun b h => nomatch h), by show tp ≤ t30; omega, by show tp ≤ t30; omega, by show sp ≤ s30; omega, hW30⟩ hP hD hS (lv_sub hl [2, 3, 4, 1, 0] rfl)
        rintro ⟨o, fr, t, s9, g, ν⟩ H locs ls hI ih hP hD hS hl
        have hP : va_P (dC, dI) classes ([(wk, .inr (10, [.ref wl, .int (nI t), .int (nI s9), .ref rt])), (wl, .inl (cV, 10000, .inr (.inr (.inr (.inr g)))))] ++ va_pl L (pf f ν)) H := hP
        have hD : va_D A ([(wk, .inr (10, [.ref wl, .int (nI t), .int (nI s9), .ref rt])), (wl, .inl (cV, 10000, .inr (.inr (.inr (.inr g)))))] ++ va_pl L (pf f ν)) := hD
        have hl : lv_has ls 7 [(0, .ref wk), (1, .ref qu), (2, .ref cu), (3, .int (nI fr)), (4, va_rf o)] := hl
        obtain ⟨hI, hI0, hI1, hI2, hI3⟩ := hI
        have hI : oR (fun b => E b = 8 ∧ lv b ≤ n) o := hI
        have hI0 : fr ≤ t := hI0
        have hI1 : tp ≤ t := hI1
        have hI2 : sp ≤ s9 := hI2
        have hI3 : WI E t s9 g := hI3
        have ihO := ih
        have hhI31 := hI3.1
        have hhI32 := hI3.2.1
        rcases o with _ | ob
        · have hl : lv_has ls 7 [(0, .ref wk), (1, .ref qu), (2, .ref cu), (3, .int (nI fr)), (4, .null)] := hl
          refine lv_aloadN hx hb d_Walk_nodes_30 (lv_at hl 4 rfl) ?_
          refine lv_ifnullN (tgt := 83) hx hb d_Walk_nodes_32 (by decide) ?_
          refine lv_iload_n hx hb d_Walk_nodes_83 rfl (lv_at hl 3 rfl) ?_
          refine w_same (fun hq => ?_)
          refine W.widen (k := 1) (n := 6) (Nat.le_of_ble_eq_true rfl) (Nat.le_of_ble_eq_true rfl) ?_
          refine vx_ret ?_
          exact W.iret (v := (nI fr)) hx hb hr (fun t9 ht hW => ⟨⟨(nI fr), (t, s9, g, ν), rfl, ⟨⟨fr, rfl, hI0⟩, by show tp ≤ t; omega, by show sp ≤ s9; omega, hI3⟩, ⟨by rw [ht]; exact hP, va_K.moved hW.alike hK, hD⟩, by rw [ht]; exact hq⟩, hS.F ht⟩) hS.2.2 d_Walk_nodes_84
        · have hl : lv_has ls 7 [(0, .ref wk), (1, .ref qu), (2, .ref cu), (3, .int (nI fr)), (4, .ref ob)] := hl
          obtain ⟨hob1, hob2⟩ := hI ob rfl
          refine lv_aload hx hb d_Walk_nodes_30 (lv_at hl 4 rfl) ?_
          refine lv_ifnull hx hb d_Walk_nodes_32 ?_
          refine lv_aload_n hx hb d_Walk_nodes_35 rfl (lv_at hl 0 rfl) ?_
          refine va_get (D := (dC, dI)) (ci := 10) (v := .int (nI t)) (C := R_Walk) (T := F_Walk) (N := 4) hx hb hts in_Walk hown hK hP 0 rfl rfl 1 (by decide) (hts _ z_117) (fun _ h9 => h9) rfl d_Walk_nodes_36 ?_
          refine lv_istore (lv' := [(5, .int (nI t)), (0, .ref wk), (1, .ref qu), (2, .ref cu), (3, .int (nI fr)), (4, .ref ob)]) hx hb d_Walk_nodes_39 hl (by decide) rfl (fun ls hl => ?_)
          refine lv_iload_n hx hb d_Walk_nodes_41 rfl (lv_at hl 4 rfl) ?_
          refine lv_istore (lv' := [(6, .int (nI fr)), (5, .int (nI t)), (0, .ref wk), (1, .ref qu), (2, .ref cu), (3, .int (nI fr)), (4, .ref ob)]) hx hb d_Walk_nodes_42 hl (by decide) rfl (fun ls hl => ?_)
          obtain ⟨ds32, fi32, nx32, ef32, hv32⟩ := hO.seg hob1
          refine w_loop (D := (dC, dI)) (cl := classes) (A := A) (H0 := s.heap) (nL := 7) 44 (σ := Nat × Nat × Nat × (Nat → Option Nat) × (Nat → Int64)) (fun ⟨i, t2, s2, g, ν⟩ => i ≤ t ∧ t ≤ t2 ∧ s9 ≤ s2 ∧ WI E t2 s2 g) (fun ⟨i, t2, s2, g, ν⟩ => t - i) (fun ⟨i, t2, s2, g, ν⟩ => [(wk, .inr (10, [.ref wl, .int (nI t2), .int (nI s2), .ref rt])), (wl, .inl (cV, 10000, .inr (.inr (.inr (.inr g)))))] ++ va_pl L (pf f ν)) (fun ⟨i, t2, s2, g, ν⟩ => [(0, .ref wk), (1, .ref qu), (2, .ref cu), (4, .ref ob), (5, .int (nI t)), (6, .int (nI i))]) ?_ (fr, t, s9, g, ν) ⟨hI0, Nat.le_refl _, Nat.le_refl _, hI3⟩ hP hD hS (lv_sub hl [2, 3, 4, 6, 1, 0] rfl)
          rintro ⟨i, t2, s2, g, ν⟩ H locs ls hI ih hP hD hS hl
          have hP : va_P (dC, dI) classes ([(wk, .inr (10, [.ref wl, .int (nI t2), .int (nI s2), .ref rt])), (wl, .inl (cV, 10000, .inr (.inr (.inr (.inr g)))))] ++ va_pl L (pf f ν)) H := hP
          have hD : va_D A ([(wk, .inr (10, [.ref wl, .int (nI t2), .int (nI s2), .ref rt])), (wl, .inl (cV, 10000, .inr (.inr (.inr (.inr g)))))] ++ va_pl L (pf f ν)) := hD
          have hl : lv_has ls 7 [(0, .ref wk), (1, .ref qu), (2, .ref cu), (4, .ref ob), (5, .int (nI t)), (6, .int (nI i))] := hl
          obtain ⟨hJ, hJ1, hJ2, hJ3⟩ := hI
          have hJ : i ≤ t := hJ
          have hJ1 : t ≤ t2 := hJ1
          have hJ2 : s9 ≤ s2 := hJ2
          have hJ3 : WI E t2 s2 g := hJ3
          have hhJ31 := hJ3.1
          have hhJ32 := hJ3.2.1
          refine lv_iload hx hb d_Walk_nodes_44 (lv_at hl 5 rfl) ?_
          refine lv_iload hx hb d_Walk_nodes_46 (lv_at hl 4 rfl) ?_
          refine lv_icmp_ge (tgt := 70) hx hb d_Walk_nodes_48 (by decide) (fun c48 => ?_) (fun c48 => ?_)
          · refine lv_iload hx hb d_Walk_nodes_70 (lv_at hl 4 rfl) ?_
            refine lv_istore_n (lv' := [(3, .int (nI t)), (0, .ref wk), (1, .ref qu), (2, .ref cu), (4, .ref ob), (5, .int (nI t)), (6, .int (nI i))]) hx hb d_Walk_nodes_72 rfl hl (by decide) rfl (fun ls hl => ?_)
            refine lv_aload hx hb d_Walk_nodes_73 (lv_at hl 4 rfl) ?_
            rcases nx32 with _ | b33
            · refine vq_get (D := (dC, dI)) (ci := 6) (v := .null) (C := R_Segment) (T := F_Segment) (N := 3) hx hb hts in_Segment hown hK hP (hO.inL (a := ob) (by rw [hob1]; decide)) (pf_G ef32) rfl 2 (by decide) (hts _ z_581) (fun _ h9 => h9) rfl d_Walk_nodes_75 ?_
              refine lv_astoreN (lv' := [(4, .null), (3, .int (nI t)), (0, .ref wk), (1, .ref qu), (2, .ref cu), (5, .int (nI t)), (6, .int (nI i))]) hx hb d_Walk_nodes_78 hl (by decide) rfl (fun ls hl => ?_)
              refine lv_goto (tgt := 30) hx hb d_Walk_nodes_80 (by decide) ?_
              exact ihO (none, t, t2, s2, g, ν) _ _ _ ⟨(fun b h => nomatch h), by show t ≤ t2; omega, by show tp ≤ t2; omega, by show sp ≤ s2; omega, hJ3⟩ (chL_lt (hO.inL (a := ob) (by rw [hob1]; decide)) (fun b h => nomatch h)) hP hD hS (lv_sub hl [2, 3, 4, 1, 0] rfl)
            · refine vq_get (D := (dC, dI)) (ci := 6) (v := .ref b33) (C := R_Segment) (T := F_Segment) (N := 3) hx hb hts in_Segment hown hK hP (hO.inL (a := ob) (by rw [hob1]; decide)) (pf_G ef32) rfl 2 (by decide) (hts _ z_581) (fun _ h9 => h9) rfl d_Walk_nodes_75 ?_
              refine lv_astore (lv' := [(4, .ref b33), (3, .int (nI t)), (0, .ref wk), (1, .ref qu), (2, .ref cu), (5, .int (nI t)), (6, .int (nI i))]) hx hb d_Walk_nodes_78 hl (by decide) rfl (fun ls hl => ?_)
              refine lv_goto (tgt := 30) hx hb d_Walk_nodes_80 (by decide) ?_
              exact ihO ((some b33), t, t2, s2, g, ν) _ _ _ ⟨(fun b h => by cases h; exact ⟨(hv32.2 b33 rfl).1, Nat.le_trans (hv32.2 b33 rfl).2.1 hob2⟩), by show t ≤ t2; omega, by show tp ≤ t2; omega, by show sp ≤ s2; omega, hJ3⟩ (chL_lt (hO.inL (a := ob) (by rw [hob1]; decide)) (fun b h => by cases h; exact (hv32.2 b33 rfl).2.2)) hP hD hS (lv_sub hl [2, 3, 4, 1, 0] rfl)
          · have hi : i < t := by rw [nI_leI (by omega) (by omega)] at c48; omega
            obtain ⟨nd9, hnd1, hnd2⟩ := hJ3.2.2 i (by omega)
            refine lv_aload_n hx hb d_Walk_nodes_51 rfl (lv_at hl 0 rfl) ?_
            refine lv_aload hx hb d_Walk_nodes_52 (lv_at hl 3 rfl) ?_
            refine lv_aload_n hx hb d_Walk_nodes_54 rfl (lv_at hl 0 rfl) ?_
            refine va_get (D := (dC, dI)) (ci := 10) (v := .ref wl) (C := R_Walk) (T := F_Walk) (N := 4) hx hb hts in_Walk hown hK hP 0 rfl rfl 0 (by decide) (hts _ w_115) (fun _ h9 => h9) rfl d_Walk_nodes_55 ?_
            refine lv_iload hx hb d_Walk_nodes_58 (lv_at hl 5 rfl) ?_
            refine vq_ald0 hx hb hK hP 1 1 rfl rfl (show i < 10000 by omega) (by decide) hnd1 d_Walk_nodes_60 ?_
            have hPc := hP.part (cx := [(wk, .inr (10, [.ref wl, .int (nI t2), .int (nI s2), .ref rt])), (wl, .inl (cV, 10000, .inr (.inr (.inr (.inr g)))))]) [0, 1] rfl
            have hDc := hD.part (cx := [(wk, .inr (10, [.ref wl, .int (nI t2), .int (nI s2), .ref rt])), (wl, .inl (cV, 10000, .inr (.inr (.inr (.inr g)))))]) [0, 1] (by decide) rfl
            have hFc := va_freeP (cx := [(wk, .inr (10, [.ref wl, .int (nI t2), .int (nI s2), .ref rt])), (wl, .inl (cV, 10000, .inr (.inr (.inr (.inr g)))))]) hD hS hA [0, 1] rfl
            have hKc := hK.sub (tys' := [(cI, .int), (cV, .object "QueryBench$Value")]) [0, 1] rfl
            refine w_same (fun hq0 => ?_)
            refine vx_callv (vx_runV (As := [.ref ob, .ref nd9]) (rest := []) ⟨hx, hb, hml, hown, hts⟩ (c_Walk_step l hl9 K dC dI H cI cV E lv L f hO hN1 wk wl rt hrt t2 s2 g ν hJ3 n HI ob hob1 hob2 nd9 hnd2) (cwV 2 hts (gt_V (own := R_Walk) (C := R_Walk) (i := 46) (y := y_Walk_step) i_Walk_step z_849 z_851 (gt_sel (y := y_Walk_step) (n := 4) (by decide +kernel)) w_5) rfl rfl rfl (by decide +kernel) ⟨by show 59 + 5 * n + 1 ≤ 60 + 5 * n; omega, by show 8 + (5 + 11) + (2460 + 200 * n) ≤ 2500 + 200 * n; omega⟩) ⟨ml_blind, va_recv hK hP (ci := 10) (q0 := 0) rfl rfl, fun U hU hW => ⟨rfl, ⟨hU, by rw [hU]; exact hPc, va_K.moved hW.alike hKc, hDc.weaken (fun _ _ _ _ => trivial)⟩, hN.warm hW, by rw [hU]; exact ZX.moved' hW.alike (ZX.narrow' (ZX.kept' hZ hS.2.1) hFc), by rw [hU]; exact CE.call hC hS.2.1 hFc hW, va_AO.moved hW.alike hV⟩⟩ rfl rfl hl.1 rfl (lv_room (Nat.le_of_ble_eq_true rfl)) d_Walk_nodes_61 ⟨Nat.le_of_ble_eq_true rfl, Nat.le_of_ble_eq_true rfl⟩) hS (fun q _ h => hFc q h) hFc (fun q _ h => hFc q h) (fun En ce q9 ⟨tx, sx, gx, nx⟩ t9 H1 locs ht hvm hw hB hz1 hk1 hS hce hcv hcl => ?_) (fun ⟨t34, s34, g34, n34⟩ t9 H1 locs ht hvm hw hB hz1 hk1 hS => ?_)
            · obtain ⟨hEn, hP1, hK1, hD1⟩ := hB
              rw [ht] at hP1
              obtain ⟨hP, hD⟩ := va_joinP (wr := []) (rx := [(wk, .inr (10, [.ref wl, .int tx, .int sx, .ref rt])), (wl, .inl (cV, 10000, .inr (.inr (.inr (.inr gx)))))]) (pl1 := va_pl L (pf f nx)) hP hD [0, 1] [] rfl rfl (by decide) (by decide) hk1 hFc hP1 hD1
              generalize H1 = H at hP hS hce ⊢
              have hP : va_P (dC, dI) classes ([(wk, .inr (10, [.ref wl, .int tx, .int sx, .ref rt])), (wl, .inl (cV, 10000, .inr (.inr (.inr (.inr gx)))))] ++ va_pl L (pf f nx)) H := hP
              have hD : va_D A ([(wk, .inr (10, [.ref wl, .int tx, .int sx, .ref rt])), (wl, .inl (cV, 10000, .inr (.inr (.inr (.inr gx)))))] ++ va_pl L (pf f nx)) := hD
              exact vx_out (fun x hx => (hex x hx).elim) hlocks hce hcv hcl (fun t9 ht2 ha => ⟨(tx, sx, gx, nx), trivial, ⟨hEn, by rw [ht2]; exact hP, va_K.moved ha hK, hD⟩, hS.F ht2⟩) hS.2.2 (Nat.le_of_ble_eq_true rfl) (Nat.le_of_ble_eq_true rfl)
            · obtain ⟨⟨hP1, hK1, hD1⟩, hz9⟩ := hB
              rw [ht] at hP1
              rw [ht] at hz9
              refine w_tight (hq0.trans hz9) ?_
              have hq0 := hq0.trans hz9
              obtain ⟨hP, hD⟩ := va_joinP (wr := []) (rx := [(wk, .inr (10, [.ref wl, .int (nI t34), .int (nI s34), .ref rt])), (wl, .inl (cV, 10000, .inr (.inr (.inr (.inr g34)))))]) (pl1 := va_pl L (pf f n34)) hP hD [0, 1] [] rfl rfl (by decide) (by decide) hk1 hFc hP1 hD1
              generalize H1 = H at hP hS hq0 ⊢
              have hP : va_P (dC, dI) classes ([(wk, .inr (10, [.ref wl, .int (nI t34), .int (nI s34), .ref rt])), (wl, .inl (cV, 10000, .inr (.inr (.inr (.inr g34)))))] ++ va_pl L (pf f n34)) H := hP
              have hD : va_D A ([(wk, .inr (10, [.ref wl, .int (nI t34), .int (nI s34), .ref rt])), (wl, .inl (cV, 10000, .inr (.inr (.inr (.inr g34)))))] ++ va_pl L (pf f n34)) := hD
              obtain ⟨ha34, hb34, hW34⟩ := hw
              have ha34 : t2 ≤ t34 := ha34
              have hb34 : s2 ≤ s34 := hb34
              have hW34 : WI E t34 s34 g34 := hW34
              have hhW341 := hW34.1
              have hhW342 := hW34.2.1
              refine lv_iinc (v := nI (i + 1)) (lv' := [(6, .int (nI (i + 1))), (0, .ref wk), (1, .ref qu), (2, .ref cu), (4, .ref ob), (5, .int (nI t))]) hx hb d_Walk_nodes_64 hl (k := 5) rfl (nI_1 _) (by decide) rfl (fun ls hl => ?_)
              refine lv_goto (tgt := 44) hx hb d_Walk_nodes_67 (by decide) ?_
              exact ih (i + 1, t34, s34, g34, n34) _ _ _ ⟨show i + 1 ≤ t by omega, by show t ≤ t34; omega, by show s9 ≤ s34; omega, hW34⟩ (by show t - (i + 1) < t - i; omega) hP hD hS (lv_sub hl [1, 2, 3, 4, 5, 0] rfl)
      · refine vq_get (D := (dC, dI)) (ci := 4) (v := .ref b31) (C := R_Query) (T := F_Query) (N := 4) hx hb hts in_Query hown hK hP (hO.inL (a := qu) (by rw [hqu]; decide)) (pf_Q ef21) rfl 2 (by decide) (hts _ z_552) (fun _ h9 => h9) rfl d_Walk_nodes_25 ?_
        refine lv_astore (lv' := [(4, .ref b31), (3, .int (nI tp)), (0, .ref wk), (1, .ref qu), (2, .ref cu)]) hx hb d_Walk_nodes_28 hl (by decide) rfl (fun ls hl => ?_)
        refine w_loop (D := (dC, dI)) (cl := classes) (A := A) (H0 := s.heap) (nL := 7) 30 (σ := Option Nat × Nat × Nat × Nat × (Nat → Option Nat) × (Nat → Int64)) (fun ⟨o, fr, t, s9, g, ν⟩ => oR (fun b => E b = 8 ∧ lv b ≤ n) o ∧ fr ≤ t ∧ tp ≤ t ∧ sp ≤ s9 ∧ WI E t s9 g) (fun ⟨o, fr, t, s9, g, ν⟩ => chL L o) (fun ⟨o, fr, t, s9, g, ν⟩ => [(wk, .inr (10, [.ref wl, .int (nI t), .int (nI s9), .ref rt])), (wl, .inl (cV, 10000, .inr (.inr (.inr (.inr g)))))] ++ va_pl L (pf f ν)) (fun ⟨o, fr, t, s9, g, ν⟩ => [(0, .ref wk), (1, .ref qu), (2, .ref cu), (3, .int (nI fr)), (4, va_rf o)]) ?_ ((some b31), tp, t30, s30, g30, n30) ⟨(fun b h => by cases h; exact ⟨(hv21.1 b31 rfl).1, Nat.le_trans (hv21.1 b31 rfl).2 hlq⟩), by show tp ≤ t30; omega, by show tp ≤ t30; omega, by show sp ≤ s30; omega, hW30⟩ hP hD hS (lv_sub hl [2, 3, 4, 1, 0] rfl)
        rintro ⟨o, fr, t, s9, g, ν⟩ H locs ls hI ih hP hD hS hl
        have hP : va_P (dC, dI) classes ([(wk, .inr (10, [.ref wl, .int (nI t), .int (nI s9), .ref rt])), (wl, .inl (cV, 10000, .inr (.inr (.inr (.inr g)))))] ++ va_pl L (pf f ν)) H := hP
        have hD : va_D A ([(wk, .inr (10, [.ref wl, .int (nI t), .int (nI s9), .ref rt])), (wl, .inl (cV, 10000, .inr (.inr (.inr (.inr g)))))] ++ va_pl L (pf f ν)) := hD
        have hl : lv_has ls 7 [(0, .ref wk), (1, .ref qu), (2, .ref cu), (3, .int (nI fr)), (4, va_rf o)] := hl
        obtain ⟨hI, hI0, hI1, hI2, hI3⟩ := hI
        have hI : oR (fun b => E b = 8 ∧ lv b ≤ n) o := hI
        have hI0 : fr ≤ t := hI0
        have hI1 : tp ≤ t := hI1
        have hI2 : sp ≤ s9 := hI2
        have hI3 : WI E t s9 g := hI3
        have ihO := ih
        have hhI31 := hI3.1
        have hhI32 := hI3.2.1
        rcases o with _ | ob
        · have hl : lv_has ls 7 [(0, .ref wk), (1, .ref qu), (2, .ref cu), (3, .int (nI fr)), (4, .null)] := hl
          refine lv_aloadN hx hb d_Walk_nodes_30 (lv_at hl 4 rfl) ?_
          refine lv_ifnullN (tgt := 83) hx hb d_Walk_nodes_32 (by decide) ?_
          refine lv_iload_n hx hb d_Walk_nodes_83 rfl (lv_at hl 3 rfl) ?_
          refine w_same (fun hq => ?_)
          refine W.widen (k := 1) (n := 6) (Nat.le_of_ble_eq_true rfl) (Nat.le_of_ble_eq_true rfl) ?_
          refine vx_ret ?_
          exact W.iret (v := (nI fr)) hx hb hr (fun t9 ht hW => ⟨⟨(nI fr), (t, s9, g, ν), rfl, ⟨⟨fr, rfl, hI0⟩, by show tp ≤ t; omega, by show sp ≤ s9; omega, hI3⟩, ⟨by rw [ht]; exact hP, va_K.moved hW.alike hK, hD⟩, by rw [ht]; exact hq⟩, hS.F ht⟩) hS.2.2 d_Walk_nodes_84
        · have hl : lv_has ls 7 [(0, .ref wk), (1, .ref qu), (2, .ref cu), (3, .int (nI fr)), (4, .ref ob)] := hl
          obtain ⟨hob1, hob2⟩ := hI ob rfl
          refine lv_aload hx hb d_Walk_nodes_30 (lv_at hl 4 rfl) ?_
          refine lv_ifnull hx hb d_Walk_nodes_32 ?_
          refine lv_aload_n hx hb d_Walk_nodes_35 rfl (lv_at hl 0 rfl) ?_
          refine va_get (D := (dC, dI)) (ci := 10) (v := .int (nI t)) (C := R_Walk) (T := F_Walk) (N := 4) hx hb hts in_Walk hown hK hP 0 rfl rfl 1 (by decide) (hts _ z_117) (fun _ h9 => h9) rfl d_Walk_nodes_36 ?_
          refine lv_istore (lv' := [(5, .int (nI t)), (0, .ref wk), (1, .ref qu), (2, .ref cu), (3, .int (nI fr)), (4, .ref ob)]) hx hb d_Walk_nodes_39 hl (by decide) rfl (fun ls hl => ?_)
          refine lv_iload_n hx hb d_Walk_nodes_41 rfl (lv_at hl 4 rfl) ?_
          refine lv_istore (lv' := [(6, .int (nI fr)), (5, .int (nI t)), (0, .ref wk), (1, .ref qu), (2, .ref cu), (3, .int (nI fr)), (4, .ref ob)]) hx hb d_Walk_nodes_42 hl (by decide) rfl (fun ls hl => ?_)
          obtain ⟨ds35, fi35, nx35, ef35, hv35⟩ := hO.seg hob1
          refine w_loop (D := (dC, dI)) (cl := classes) (A := A) (H0 := s.heap) (nL := 7) 44 (σ := Nat × Nat × Nat × (Nat → Option Nat) × (Nat → Int64)) (fun ⟨i, t2, s2, g, ν⟩ => i ≤ t ∧ t ≤ t2 ∧ s9 ≤ s2 ∧ WI E t2 s2 g) (fun ⟨i, t2, s2, g, ν⟩ => t - i) (fun ⟨i, t2, s2, g, ν⟩ => [(wk, .inr (10, [.ref wl, .int (nI t2), .int (nI s2), .ref rt])), (wl, .inl (cV, 10000, .inr (.inr (.inr (.inr g)))))] ++ va_pl L (pf f ν)) (fun ⟨i, t2, s2, g, ν⟩ => [(0, .ref wk), (1, .ref qu), (2, .ref cu), (4, .ref ob), (5, .int (nI t)), (6, .int (nI i))]) ?_ (fr, t, s9, g, ν) ⟨hI0, Nat.le_refl _, Nat.le_refl _, hI3⟩ hP hD hS (lv_sub hl [2, 3, 4, 6, 1, 0] rfl)
          rintro ⟨i, t2, s2, g, ν⟩ H locs ls hI ih hP hD hS hl
          have hP : va_P (dC, dI) classes ([(wk, .inr (10, [.ref wl, .int (nI t2), .int (nI s2), .ref rt])), (wl, .inl (cV, 10000, .inr (.inr (.inr (.inr g)))))] ++ va_pl L (pf f ν)) H := hP
          have hD : va_D A ([(wk, .inr (10, [.ref wl, .int (nI t2), .int (nI s2), .ref rt])), (wl, .inl (cV, 10000, .inr (.inr (.inr (.inr g)))))] ++ va_pl L (pf f ν)) := hD
          have hl : lv_has ls 7 [(0, .ref wk), (1, .ref qu), (2, .ref cu), (4, .ref ob), (5, .int (nI t)), (6, .int (nI i))] := hl
          obtain ⟨hJ, hJ1, hJ2, hJ3⟩ := hI
          have hJ : i ≤ t := hJ
          have hJ1 : t ≤ t2 := hJ1
          have hJ2 : s9 ≤ s2 := hJ2
          have hJ3 : WI E t2 s2 g := hJ3
          have hhJ31 := hJ3.1
          have hhJ32 := hJ3.2.1
          refine lv_iload hx hb d_Walk_nodes_44 (lv_at hl 5 rfl) ?_
          refine lv_iload hx hb d_Walk_nodes_46 (lv_at hl 4 rfl) ?_
          refine lv_icmp_ge (tgt := 70) hx hb d_Walk_nodes_48 (by decide) (fun c48 => ?_) (fun c48 => ?_)
          · refine lv_iload hx hb d_Walk_nodes_70 (lv_at hl 4 rfl) ?_
            refine lv_istore_n (lv' := [(3, .int (nI t)), (0, .ref wk), (1, .ref qu), (2, .ref cu), (4, .ref ob), (5, .int (nI t)), (6, .int (nI i))]) hx hb d_Walk_nodes_72 rfl hl (by decide) rfl (fun ls hl => ?_)
            refine lv_aload hx hb d_Walk_nodes_73 (lv_at hl 4 rfl) ?_
            rcases nx35 with _ | b36
            · refine vq_get (D := (dC, dI)) (ci := 6) (v := .null) (C := R_Segment) (T := F_Segment) (N := 3) hx hb hts in_Segment hown hK hP (hO.inL (a := ob) (by rw [hob1]; decide)) (pf_G ef35) rfl 2 (by decide) (hts _ z_581) (fun _ h9 => h9) rfl d_Walk_nodes_75 ?_
              refine lv_astoreN (lv' := [(4, .null), (3, .int (nI t)), (0, .ref wk), (1, .ref qu), (2, .ref cu), (5, .int (nI t)), (6, .int (nI i))]) hx hb d_Walk_nodes_78 hl (by decide) rfl (fun ls hl => ?_)
              refine lv_goto (tgt := 30) hx hb d_Walk_nodes_80 (by decide) ?_
              exact ihO (none, t, t2, s2, g, ν) _ _ _ ⟨(fun b h => nomatch h), by show t ≤ t2; omega, by show tp ≤ t2; omega, by show sp ≤ s2; omega, hJ3⟩ (chL_lt (hO.inL (a := ob) (by rw [hob1]; decide)) (fun b h => nomatch h)) hP hD hS (lv_sub hl [2, 3, 4, 1, 0] rfl)
            · refine vq_get (D := (dC, dI)) (ci := 6) (v := .ref b36) (C := R_Segment) (T := F_Segment) (N := 3) hx hb hts in_Segment hown hK hP (hO.inL (a := ob) (by rw [hob1]; decide)) (pf_G ef35) rfl 2 (by decide) (hts _ z_581) (fun _ h9 => h9) rfl d_Walk_nodes_75 ?_
              refine lv_astore (lv' := [(4, .ref b36), (3, .int (nI t)), (0, .ref wk), (1, .ref qu), (2, .ref cu), (5, .int (nI t)), (6, .int (nI i))]) hx hb d_Walk_nodes_78 hl (by decide) rfl (fun ls hl => ?_)
              refine lv_goto (tgt := 30) hx hb d_Walk_nodes_80 (by decide) ?_
              exact ihO ((some b36), t, t2, s2, g, ν) _ _ _ ⟨(fun b h => by cases h; exact ⟨(hv35.2 b36 rfl).1, Nat.le_trans (hv35.2 b36 rfl).2.1 hob2⟩), by show t ≤ t2; omega, by show tp ≤ t2; omega, by show sp ≤ s2; omega, hJ3⟩ (chL_lt (hO.inL (a := ob) (by rw [hob1]; decide)) (fun b h => by cases h; exact (hv35.2 b36 rfl).2.2)) hP hD hS (lv_sub hl [2, 3, 4, 1, 0] rfl)
          · have hi : i < t := by rw [nI_leI (by omega) (by omega)] at c48; omega
            obtain ⟨nd9, hnd1, hnd2⟩ := hJ3.2.2 i (by omega)
            refine lv_aload_n hx hb d_Walk_nodes_51 rfl (lv_at hl 0 rfl) ?_
            refine lv_aload hx hb d_Walk_nodes_52 (lv_at hl 3 rfl) ?_
            refine lv_aload_n hx hb d_Walk_nodes_54 rfl (lv_at hl 0 rfl) ?_
            refine va_get (D := (dC, dI)) (ci := 10) (v := .ref wl) (C := R_Walk) (T := F_Walk) (N := 4) hx hb hts in_Walk hown hK hP 0 rfl rfl 0 (by decide) (hts _ w_115) (fun _ h9 => h9) rfl d_Walk_nodes_55 ?_
            refine lv_iload hx hb d_Walk_nodes_58 (lv_at hl 5 rfl) ?_
            refine vq_ald0 hx hb hK hP 1 1 rfl rfl (show i < 10000 by omega) (by decide) hnd1 d_Walk_nodes_60 ?_
            have hPc := hP.part (cx := [(wk, .inr (10, [.ref wl, .int (nI t2), .int (nI s2), .ref rt])), (wl, .inl (cV, 10000, .inr (.inr (.inr (.inr g)))))]) [0, 1] rfl
            have hDc := hD.part (cx := [(wk, .inr (10, [.ref wl, .int (nI t2), .int (nI s2), .ref rt])), (wl, .inl (cV, 10000, .inr (.inr (.inr (.inr g)))))]) [0, 1] (by decide) rfl
            have hFc := va_freeP (cx := [(wk, .inr (10, [.ref wl, .int (nI t2), .int (nI s2), .ref rt])), (wl, .inl (cV, 10000, .inr (.inr (.inr (.inr g)))))]) hD hS hA [0, 1] rfl
            have hKc := hK.sub (tys' := [(cI, .int), (cV, .object "QueryBench$Value")]) [0, 1] rfl
            refine w_same (fun hq0 => ?_)
            refine vx_callv (vx_runV (As := [.ref ob, .ref nd9]) (rest := []) ⟨hx, hb, hml, hown, hts⟩ (c_Walk_step l hl9 K dC dI H cI cV E lv L f hO hN1 wk wl rt hrt t2 s2 g ν hJ3 n HI ob hob1 hob2 nd9 hnd2) (cwV 2 hts (gt_V (own := R_Walk) (C := R_Walk) (i := 46) (y := y_Walk_step) i_Walk_step z_849 z_851 (gt_sel (y := y_Walk_step) (n := 4) (by decide +kernel)) w_5) rfl rfl rfl (by decide +kernel) ⟨by show 59 + 5 * n + 1 ≤ 60 + 5 * n; omega, by show 8 + (5 + 11) + (2460 + 200 * n) ≤ 2500 + 200 * n; omega⟩) ⟨ml_blind, va_recv hK hP (ci := 10) (q0 := 0) rfl rfl, fun U hU hW => ⟨rfl, ⟨hU, by rw [hU]; exact hPc, va_K.moved hW.alike hKc, hDc.weaken (fun _ _ _ _ => trivial)⟩, hN.warm hW, by rw [hU]; exact ZX.moved' hW.alike (ZX.narrow' (ZX.kept' hZ hS.2.1) hFc), by rw [hU]; exact CE.call hC hS.2.1 hFc hW, va_AO.moved hW.alike hV⟩⟩ rfl rfl hl.1 rfl (lv_room (Nat.le_of_ble_eq_true rfl)) d_Walk_nodes_61 ⟨Nat.le_of_ble_eq_true rfl, Nat.le_of_ble_eq_true rfl⟩) hS (fun q _ h => hFc q h) hFc (fun q _ h => hFc q h) (fun En ce q9 ⟨tx, sx, gx, nx⟩ t9 H1 locs ht hvm hw hB hz1 hk1 hS hce hcv hcl => ?_) (fun ⟨t37, s37, g37, n37⟩ t9 H1 locs ht hvm hw hB hz1 hk1 hS => ?_)
            · obtain ⟨hEn, hP1, hK1, hD1⟩ := hB
              rw [ht] at hP1
              obtain ⟨hP, hD⟩ := va_joinP (wr := []) (rx := [(wk, .inr (10, [.ref wl, .int tx, .int sx, .ref rt])), (wl, .inl (cV, 10000, .inr (.inr (.inr (.inr gx)))))]) (pl1 := va_pl L (pf f nx)) hP hD [0, 1] [] rfl rfl (by decide) (by decide) hk1 hFc hP1 hD1
              generalize H1 = H at hP hS hce ⊢
              have hP : va_P (dC, dI) classes ([(wk, .inr (10, [.ref wl, .int tx, .int sx, .ref rt])), (wl, .inl (cV, 10000, .inr (.inr (.inr (.inr gx)))))] ++ va_pl L (pf f nx)) H := hP
              have hD : va_D A ([(wk, .inr (10, [.ref wl, .int tx, .int sx, .ref rt])), (wl, .inl (cV, 10000, .inr (.inr (.inr (.inr gx)))))] ++ va_pl L (pf f nx)) := hD
              exact vx_out (fun x hx => (hex x hx).elim) hlocks hce hcv hcl (fun t9 ht2 ha => ⟨(tx, sx, gx, nx), trivial, ⟨hEn, by rw [ht2]; exact hP, va_K.moved ha hK, hD⟩, hS.F ht2⟩) hS.2.2 (Nat.le_of_ble_eq_true rfl) (Nat.le_of_ble_eq_true rfl)
            · obtain ⟨⟨hP1, hK1, hD1⟩, hz9⟩ := hB
              rw [ht] at hP1
              rw [ht] at hz9
              refine w_tight (hq0.trans hz9) ?_
              have hq0 := hq0.trans hz9
              obtain ⟨hP, hD⟩ := va_joinP (wr := []) (rx := [(wk, .inr (10, [.ref wl, .int (nI t37), .int (nI s37), .ref rt])), (wl, .inl (cV, 10000, .inr (.inr (.inr (.inr g37)))))]) (pl1 := va_pl L (pf f n37)) hP hD [0, 1] [] rfl rfl (by decide) (by decide) hk1 hFc hP1 hD1
              generalize H1 = H at hP hS hq0 ⊢
              have hP : va_P (dC, dI) classes ([(wk, .inr (10, [.ref wl, .int (nI t37), .int (nI s37), .ref rt])), (wl, .inl (cV, 10000, .inr (.inr (.inr (.inr g37)))))] ++ va_pl L (pf f n37)) H := hP
              have hD : va_D A ([(wk, .inr (10, [.ref wl, .int (nI t37), .int (nI s37), .ref rt])), (wl, .inl (cV, 10000, .inr (.inr (.inr (.inr g37)))))] ++ va_pl L (pf f n37)) := hD
              obtain ⟨ha37, hb37, hW37⟩ := hw
              have ha37 : t2 ≤ t37 := ha37
              have hb37 : s2 ≤ s37 := hb37
              have hW37 : WI E t37 s37 g37 := hW37
              have hhW371 := hW37.1
              have hhW372 := hW37.2.1
              refine lv_iinc (v := nI (i + 1)) (lv' := [(6, .int (nI (i + 1))), (0, .ref wk), (1, .ref qu), (2, .ref cu), (4, .ref ob), (5, .int (nI t))]) hx hb d_Walk_nodes_64 hl (k := 5) rfl (nI_1 _) (by decide) rfl (fun ls hl => ?_)
              refine lv_goto (tgt := 44) hx hb d_Walk_nodes_67 (by decide) ?_
              exact ih (i + 1, t37, s37, g37, n37) _ _ _ ⟨show i + 1 ≤ t by omega, by show t ≤ t37; omega, by show s9 ≤ s37; omega, hW37⟩ (by show t - (i + 1) < t - i; omega) hP hD hS (lv_sub hl [1, 2, 3, 4, 5, 0] rfl)
