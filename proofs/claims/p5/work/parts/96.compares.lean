theorem z_677 : (.fieldLink "QueryBench$Walk" 156 "QueryBench$Condition" "kind" "I" : Cond) ∈ gtbl := gt_in 677 (by decide +kernel) (by decide +kernel)
theorem z_681 : (.fieldLink "QueryBench$Walk" 177 "QueryBench$Condition" "next" "LQueryBench$Condition;" : Cond) ∈ gtbl := gt_in 681 (by decide +kernel) (by decide +kernel)
theorem z_684 : (.fieldLink "QueryBench$Walk" 179 "QueryBench$Condition" "left" "LQueryBench$Operand;" : Cond) ∈ gtbl := gt_in 684 (by decide +kernel) (by decide +kernel)
theorem z_686 : (.fieldLink "QueryBench$Walk" 187 "QueryBench$Condition" "right" "LQueryBench$Operand;" : Cond) ∈ gtbl := gt_in 686 (by decide +kernel) (by decide +kernel)
theorem z_835 : (.methodLink "QueryBench$Walk" 28 ⟨"QueryBench$Walk", "nodes", "(LQueryBench$Query;LQueryBench$Value;)I"⟩ : Cond) ∈ gtbl := gt_in 835 (by decide +kernel) (by decide +kernel)
theorem z_837 : (.instanceMethod ⟨"QueryBench$Walk", "nodes", "(LQueryBench$Query;LQueryBench$Value;)I"⟩ : Cond) ∈ gtbl := gt_in 837 (by decide +kernel) (by decide +kernel)
theorem z_915 : (.methodLink "QueryBench$Walk" 183 ⟨"QueryBench$Walk", "valueOf", "(LQueryBench$Operand;LQueryBench$Value;)LQueryBench$Value;"⟩ : Cond) ∈ gtbl := gt_in 915 (by decide +kernel) (by decide +kernel)
theorem z_917 : (.instanceMethod ⟨"QueryBench$Walk", "valueOf", "(LQueryBench$Operand;LQueryBench$Value;)LQueryBench$Value;"⟩ : Cond) ∈ gtbl := gt_in 917 (by decide +kernel) (by decide +kernel)
theorem z_928 : (.methodLink "QueryBench$Walk" 190 ⟨"QueryBench$Value", "same", "(LQueryBench$Value;LQueryBench$Value;)Z"⟩ : Cond) ∈ gtbl := gt_in 928 (by decide +kernel) (by decide +kernel)
theorem z_929 : (.static ⟨"QueryBench$Value", "same", "(LQueryBench$Value;LQueryBench$Value;)Z"⟩ : Cond) ∈ gtbl := gt_in 929 (by decide +kernel) (by decide +kernel)
theorem z_935 : (.methodLink "QueryBench$Walk" 194 ⟨"QueryBench$Value", "less", "(LQueryBench$Value;LQueryBench$Value;)Z"⟩ : Cond) ∈ gtbl := gt_in 935 (by decide +kernel) (by decide +kernel)
theorem z_936 : (.static ⟨"QueryBench$Value", "less", "(LQueryBench$Value;LQueryBench$Value;)Z"⟩ : Cond) ∈ gtbl := gt_in 936 (by decide +kernel) (by decide +kernel)
abbrev b_Walk_anyHolds : ByteArray := prog_12_method_15_code
def y_Walk_anyHolds : MethodName := ⟨"QueryBench$Walk", "anyHolds", "(LQueryBench$Condition;LQueryBench$Value;)Z"⟩
abbrev k_Walk_anyHolds : Cond := .code y_Walk_anyHolds b_Walk_anyHolds 4 (some .boolean)
theorem i_Walk_anyHolds : k_Walk_anyHolds ∈ gtbl := gt_in 902 (by decide +kernel) (by decide +kernel)
theorem d_Walk_anyHolds_0 : decode b_Walk_anyHolds 0 = .ok (.aload_n 1, 1) := by decide +kernel
theorem d_Walk_anyHolds_1 : decode b_Walk_anyHolds 1 = .ok (.astore_n 3, 1) := by decide +kernel
theorem d_Walk_anyHolds_2 : decode b_Walk_anyHolds 2 = .ok (.aload_n 3, 1) := by decide +kernel
theorem d_Walk_anyHolds_3 : decode b_Walk_anyHolds 3 = .ok (.ifnull 22, 3) := by decide +kernel
theorem d_Walk_anyHolds_6 : decode b_Walk_anyHolds 6 = .ok (.aload_n 0, 1) := by decide +kernel
theorem d_Walk_anyHolds_7 : decode b_Walk_anyHolds 7 = .ok (.aload_n 3, 1) := by decide +kernel
theorem d_Walk_anyHolds_8 : decode b_Walk_anyHolds 8 = .ok (.aload_n 2, 1) := by decide +kernel
theorem d_Walk_anyHolds_9 : decode b_Walk_anyHolds 9 = .ok (.invokevirtual 152, 3) := by decide +kernel
theorem d_Walk_anyHolds_12 : decode b_Walk_anyHolds 12 = .ok (.ifCond .eq 5, 3) := by decide +kernel
theorem d_Walk_anyHolds_15 : decode b_Walk_anyHolds 15 = .ok (.iconst 1, 1) := by decide +kernel
theorem d_Walk_anyHolds_16 : decode b_Walk_anyHolds 16 = .ok (.ireturn, 1) := by decide +kernel
theorem d_Walk_anyHolds_17 : decode b_Walk_anyHolds 17 = .ok (.aload_n 3, 1) := by decide +kernel
theorem d_Walk_anyHolds_18 : decode b_Walk_anyHolds 18 = .ok (.getfield 177, 3) := by decide +kernel
theorem d_Walk_anyHolds_21 : decode b_Walk_anyHolds 21 = .ok (.astore_n 3, 1) := by decide +kernel
theorem d_Walk_anyHolds_22 : decode b_Walk_anyHolds 22 = .ok (.goto (-20), 3) := by decide +kernel
theorem d_Walk_anyHolds_25 : decode b_Walk_anyHolds 25 = .ok (.iconst 0, 1) := by decide +kernel
theorem d_Walk_anyHolds_26 : decode b_Walk_anyHolds 26 = .ok (.ireturn, 1) := by decide +kernel
set_option maxHeartbeats 4000000 in
set_option maxRecDepth 100000 in
/-- Walk.anyHolds -/
theorem c_Walk_anyHolds (l : Launch) (hl9 : l.stackTraces = false) (K : Nat → Nat × Nat) (dC : Nat → ClassId) (dI : Nat → Nat → Nat) (sz : Heap) (cI cV : ClassId) (E lv : Nat → Nat) (L : List Nat) (f : Nat → va_E) (hO : PO cI cV E lv L f) (hN1 : ∀ a, E a ≠ 1) (wk wl rt : Nat) (hrt : isF E rt) (tp sp : Nat) (g : Nat → Option Nat) (ν : Nat → Int64) (hW9 : WI E tp sp g) (n : Nat) (hn : 0 < n) (HI : HDC l K dC dI cI cV E lv L f wk wl rt (n - 1)) (fi : Option Nat) (hfi : oR (fun b => E b = 10 ∧ lv b ≤ n - 1) fi) (cu : Nat) (hcu : isF E cu) : vx_Met l y_Walk_anyHolds (k_Walk_anyHolds :: gtbl) ({ frames := 59 + 5 * n, cells := 1, slots := 6, locals := 2460 + 200 * n }) (va_Pc [.ref wk, va_rf fi, .ref cu] (ml K dC dI ([(wk, .inr (10, [.ref wl, .int (nI tp), .int (nI sp), .ref rt])), (wl, .inl (cV, 10000, .inr (.inr (.inr (.inr g)))))] ++ va_pl L (pf f ν)) [(cI, .int), (cV, .object "QueryBench$Value")] sz)) (va_Qi (fun (r : Int32) (u : Nat × (Nat → Option Nat) × (Nat → Int64)) => Bo r ∧ sp ≤ u.1 ∧ WI E tp u.1 u.2.1) (fun u t9 => mz dC dI ([(wk, .inr (10, [.ref wl, .int (nI tp), .int (nI u.1), .ref rt])), (wl, .inl (cV, 10000, .inr (.inr (.inr (.inr u.2.1)))))] ++ va_pl L (pf f u.2.2)) [(cI, .int), (cV, .object "QueryBench$Value")] (va_A ([(wk, .inr (10, [.ref wl, .int (nI tp), .int (nI sp), .ref rt])), (wl, .inl (cV, 10000, .inr (.inr (.inr (.inr g)))))] ++ va_pl L (pf f ν)) sz.size) t9 ∧ szk sz t9.heap (0) (0)) (va_A ([(wk, .inr (10, [.ref wl, .int (nI tp), .int (nI sp), .ref rt])), (wl, .inl (cV, 10000, .inr (.inr (.inr (.inr g)))))] ++ va_pl L (pf f ν)) sz.size)) (vx_X (fun (u : Int32 × Int32 × (Nat → Option Nat) × (Nat → Int64)) => True) (fun En u t9 => En = IOB ∧ mz dC dI ([(wk, .inr (10, [.ref wl, .int u.1, .int u.2.1, .ref rt])), (wl, .inl (cV, 10000, .inr (.inr (.inr (.inr u.2.2.1)))))] ++ va_pl L (pf f u.2.2.2)) [(cI, .int), (cV, .object "QueryBench$Value")] (va_A ([(wk, .inr (10, [.ref wl, .int (nI tp), .int (nI sp), .ref rt])), (wl, .inl (cV, 10000, .inr (.inr (.inr (.inr g)))))] ++ va_pl L (pf f ν)) sz.size) t9) (va_A ([(wk, .inr (10, [.ref wl, .int (nI tp), .int (nI sp), .ref rt])), (wl, .inl (cV, 10000, .inr (.inr (.inr (.inr g)))))] ++ va_pl L (pf f ν)) sz.size)) (1) (6) (va_A ([(wk, .inr (10, [.ref wl, .int (nI tp), .int (nI sp), .ref rt])), (wl, .inl (cV, 10000, .inr (.inr (.inr (.inr g)))))] ++ va_pl L (pf f ν)) sz.size) := by
  rcases fi with _ | b21
  · change vx_Met _ _ _ _ (va_Pc [.ref wk, .null, .ref cu] _) _ _ _ _ _
    refine vx_ofW (cc := b_Walk_anyHolds) (maxL := 4) (ret := (some .boolean)) (by decide) rfl ?_
    intro p e s m args below meth c s₁ B hml hex hv
    obtain ⟨rfl, ⟨hsz, hP, hK, hD0⟩, hN, hZ, hC, hV⟩ := hv
    have hx := B.exec
    have hb := B.bytes
    have hr := B.returns
    have hts0 := atoms_spec (ws := k_Walk_anyHolds :: gtbl) B.pre
    have hts := fun w h => hts0 w (List.mem_cons_of_mem _ h)
    have hown : s.vm.findClass R_Walk = some m.cls := findClass_of_methodNamed B.named
    have hlocks := B.notSynchronized
    subst hsz
    have hD := hD0.self (sz := s.heap.size)
    generalize hAe : va_A ([(wk, .inr (10, [.ref wl, .int (nI tp), .int (nI sp), .ref rt])), (wl, .inl (cV, 10000, .inr (.inr (.inr (.inr g)))))] ++ va_pl L (pf f ν)) s.heap.size = A at hD hZ hC ⊢
    have hA : ∀ q : Nat, s.heap.size ≤ q → A q := fun q h => by rw [← hAe]; exact Or.inr h
    have hS : va_S A s.heap s.heap [] := va_S.rf
    have hP : va_P (dC, dI) classes ([(wk, .inr (10, [.ref wl, .int (nI tp), .int (nI sp), .ref rt])), (wl, .inl (cV, 10000, .inr (.inr (.inr (.inr g)))))] ++ va_pl L (pf f ν)) s.heap := hP
    have hl := lv_entry ([.ref wk, .null, .ref cu]) (n := 4) (Nat.le_of_ble_eq_true rfl)
    rw [lg_entry_eq]
    generalize (lg_sl ([.ref wk, .null, .ref cu]) ++ List.replicate (4 - (lg_sl ([.ref wk, .null, .ref cu])).length) Slot.unset).toArray = ls at hl ⊢
    have hl : lv_has ls 4 [(0, .ref wk), (1, .null), (2, .ref cu)] := hl
    have hW0 := hW9
    have hW1 := hW9.1
    have hW2 := hW9.2.1
    refine lv_aload_nN hx hb d_Walk_anyHolds_0 rfl (lv_at hl 1 rfl) ?_
    refine lv_astore_nN (lv' := [(3, .null), (0, .ref wk), (1, .null), (2, .ref cu)]) hx hb d_Walk_anyHolds_1 rfl hl (by decide) rfl (fun ls hl => ?_)
    refine w_loop (D := (dC, dI)) (cl := classes) (A := A) (H0 := s.heap) (nL := 4) 2 (σ := Option Nat × Nat × (Nat → Option Nat) × (Nat → Int64)) (fun ⟨o, s9, g, ν⟩ => oR (fun b => E b = 10 ∧ lv b ≤ n - 1) o ∧ sp ≤ s9 ∧ WI E tp s9 g) (fun ⟨o, s9, g, ν⟩ => chL L o) (fun ⟨o, s9, g, ν⟩ => [(wk, .inr (10, [.ref wl, .int (nI tp), .int (nI s9), .ref rt])), (wl, .inl (cV, 10000, .inr (.inr (.inr (.inr g)))))] ++ va_pl L (pf f ν)) (fun ⟨o, s9, g, ν⟩ => [(0, .ref wk), (2, .ref cu), (3, va_rf o)]) ?_ (none, sp, g, ν) ⟨(fun b h => nomatch h), by show sp ≤ sp; omega, hW9⟩ hP hD hS (lv_sub hl [1, 3, 0] rfl)
    rintro ⟨o, s9, g, ν⟩ H locs ls hI ih hP hD hS hl
    have hP : va_P (dC, dI) classes ([(wk, .inr (10, [.ref wl, .int (nI tp), .int (nI s9), .ref rt])), (wl, .inl (cV, 10000, .inr (.inr (.inr (.inr g)))))] ++ va_pl L (pf f ν)) H := hP
    have hD : va_D A ([(wk, .inr (10, [.ref wl, .int (nI tp), .int (nI s9), .ref rt])), (wl, .inl (cV, 10000, .inr (.inr (.inr (.inr g)))))] ++ va_pl L (pf f ν)) := hD
    have hl : lv_has ls 4 [(0, .ref wk), (2, .ref cu), (3, va_rf o)] := hl
    obtain ⟨hI, hI2, hI3⟩ := hI
    have hI : oR (fun b => E b = 10 ∧ lv b ≤ n - 1) o := hI
    have hI2 : sp ≤ s9 := hI2
    have hI3 : WI E tp s9 g := hI3
    have hhI31 := hI3.1
    have hhI32 := hI3.2.1
    rcases o with _ | ob
    · have hl : lv_has ls 4 [(0, .ref wk), (2, .ref cu), (3, .null)] := hl
      refine lv_aload_nN hx hb d_Walk_anyHolds_2 rfl (lv_at hl 2 rfl) ?_
      refine lv_ifnullN (tgt := 25) hx hb d_Walk_anyHolds_3 (by decide) ?_
      refine lv_iconst (v := 0) hx hb d_Walk_anyHolds_25 (by decide) ?_
      refine w_same (fun hq => ?_)
      refine W.widen (k := 1) (n := 6) (Nat.le_of_ble_eq_true rfl) (Nat.le_of_ble_eq_true rfl) ?_
      refine vx_ret ?_
      exact W.zret (v := 0) hx hb hr rfl (fun t9 ht hW => ⟨⟨0, (s9, g, ν), rfl, ⟨(Or.inl rfl), by show sp ≤ s9; omega, hI3⟩, ⟨by rw [ht]; exact hP, va_K.moved hW.alike hK, hD⟩, by rw [ht]; exact hq⟩, hS.F ht⟩) hS.2.2 d_Walk_anyHolds_26
    · have hl : lv_has ls 4 [(0, .ref wk), (2, .ref cu), (3, .ref ob)] := hl
      obtain ⟨hob1, hob2⟩ := hI ob rfl
      refine lv_aload_n hx hb d_Walk_anyHolds_2 rfl (lv_at hl 2 rfl) ?_
      refine lv_ifnull hx hb d_Walk_anyHolds_3 ?_
      refine lv_aload_n hx hb d_Walk_anyHolds_6 rfl (lv_at hl 0 rfl) ?_
      refine lv_aload_n hx hb d_Walk_anyHolds_7 rfl (lv_at hl 2 rfl) ?_
      refine lv_aload_n hx hb d_Walk_anyHolds_8 rfl (lv_at hl 1 rfl) ?_
      have hPc := hP.part (cx := [(wk, .inr (10, [.ref wl, .int (nI tp), .int (nI s9), .ref rt])), (wl, .inl (cV, 10000, .inr (.inr (.inr (.inr g)))))]) [0, 1] rfl
      have hDc := hD.part (cx := [(wk, .inr (10, [.ref wl, .int (nI tp), .int (nI s9), .ref rt])), (wl, .inl (cV, 10000, .inr (.inr (.inr (.inr g)))))]) [0, 1] (by decide) rfl
      have hFc := va_freeP (cx := [(wk, .inr (10, [.ref wl, .int (nI tp), .int (nI s9), .ref rt])), (wl, .inl (cV, 10000, .inr (.inr (.inr (.inr g)))))]) hD hS hA [0, 1] rfl
      have hKc := hK.sub (tys' := [(cI, .int), (cV, .object "QueryBench$Value")]) [0, 1] rfl
      refine w_same (fun hq0 => ?_)
      refine vx_calli (vx_runV (As := [.ref ob, .ref cu]) (rest := []) ⟨hx, hb, hml, hown, hts⟩ (HI H tp s9 g ν hI3 ob cu hob1 hob2 hcu) (cwV 2 hts (gt_V (own := R_Walk) (C := R_Walk) (i := 152) (y := y_Walk_holds) i_Walk_holds z_895 z_897 (gt_sel (y := y_Walk_holds) (n := 4) (by decide +kernel)) w_5) rfl rfl rfl (by decide +kernel) ⟨by show 60 + 5 * (n - 1) + 1 ≤ 59 + 5 * n; omega, by show 8 + (3 + 11) + (2500 + 200 * (n - 1)) ≤ 2460 + 200 * n; omega⟩) ⟨ml_blind, va_recv hK hP (ci := 10) (q0 := 0) rfl rfl, fun U hU hW => ⟨rfl, ⟨hU, by rw [hU]; exact hPc, va_K.moved hW.alike hKc, hDc.weaken (fun _ _ _ _ => trivial)⟩, hN.warm hW, by rw [hU]; exact ZX.moved' hW.alike (ZX.narrow' (ZX.kept' hZ hS.2.1) hFc), by rw [hU]; exact CE.call hC hS.2.1 hFc hW, va_AO.moved hW.alike hV⟩⟩ rfl rfl hl.1 rfl (lv_room (Nat.le_of_ble_eq_true rfl)) d_Walk_anyHolds_9 ⟨Nat.le_of_ble_eq_true rfl, Nat.le_of_ble_eq_true rfl⟩) hS (fun q _ h => hFc q h) hFc (fun q _ h => hFc q h) (fun En ce q9 ⟨tx, sx, gx, nx⟩ t9 H1 locs ht hvm hw hB hz1 hk1 hS hce hcv hcl => ?_) (fun r22 ⟨s22, g22, n22⟩ t9 H1 locs ht hvm hw hB hz1 hk1 hS => ?_)
      · obtain ⟨hEn, hP1, hK1, hD1⟩ := hB
        rw [ht] at hP1
        obtain ⟨hP, hD⟩ := va_joinP (wr := []) (rx := [(wk, .inr (10, [.ref wl, .int tx, .int sx, .ref rt])), (wl, .inl (cV, 10000, .inr (.inr (.inr (.inr gx)))))]) (pl1 := va_pl L (pf f nx)) hP hD [0, 1] [] rfl rfl (by decide) (by decide) hk1 hFc hP1 hD1
        generalize H1 = H at hP hS hce ⊢
        have hP : va_P (dC, dI) classes ([(wk, .inr (10, [.ref wl, .int tx, .int sx, .ref rt])), (wl, .inl (cV, 10000, .inr (.inr (.inr (.inr gx)))))] ++ va_pl L (pf f nx)) H := hP
        have hD : va_D A ([(wk, .inr (10, [.ref wl, .int tx, .int sx, .ref rt])), (wl, .inl (cV, 10000, .inr (.inr (.inr (.inr gx)))))] ++ va_pl L (pf f nx)) := hD
        exact vx_out (fun x hx => (hex x hx).elim) hlocks hce hcv hcl (fun t9 ht2 ha => ⟨(tx, sx, gx, nx), trivial, ⟨hEn, by rw [ht2]; exact hP, va_K.moved ha hK, hD⟩, hS.F ht2⟩) hS.2.2 (Nat.le_of_ble_eq_true rfl) (Nat.le_of_ble_eq_true rfl)
      · obtain ⟨⟨hP1, hK1, hD1⟩, hz9⟩ := hB
        rw [ht] at hP1
        rw [ht] at hz9
        refine w_tight (hq0.trans hz9) ?_
        have hq0 := hq0.trans hz9
        obtain ⟨hP, hD⟩ := va_joinP (wr := []) (rx := [(wk, .inr (10, [.ref wl, .int (nI tp), .int (nI s22), .ref rt])), (wl, .inl (cV, 10000, .inr (.inr (.inr (.inr g22)))))]) (pl1 := va_pl L (pf f n22)) hP hD [0, 1] [] rfl rfl (by decide) (by decide) hk1 hFc hP1 hD1
        generalize H1 = H at hP hS hq0 ⊢
        have hP : va_P (dC, dI) classes ([(wk, .inr (10, [.ref wl, .int (nI tp), .int (nI s22), .ref rt])), (wl, .inl (cV, 10000, .inr (.inr (.inr (.inr g22)))))] ++ va_pl L (pf f n22)) H := hP
        have hD : va_D A ([(wk, .inr (10, [.ref wl, .int (nI tp), .int (nI s22), .ref rt])), (wl, .inl (cV, 10000, .inr (.inr (.inr (.inr g22)))))] ++ va_pl L (pf f n22)) := hD
        obtain ⟨h_r22, hb22, hW22⟩ := hw
        have hb22 : s9 ≤ s22 := hb22
        have hW22 : WI E tp s22 g22 := hW22
        have hhW221 := hW22.1
        have hhW222 := hW22.2.1
        refine lv_if_eq (tgt := 17) hx hb d_Walk_anyHolds_12 (by decide) (fun c12 => ?_) (fun c12 => ?_)
        · refine lv_aload_n hx hb d_Walk_anyHolds_17 rfl (lv_at hl 2 rfl) ?_
          obtain ⟨kd23, fi23, nx23, qu23, le23, ri23, ef23, hv23⟩ := hO.con hob1
          rcases nx23 with _ | b24
          · refine vq_get (D := (dC, dI)) (ci := 0) (v := .null) (C := R_Condition) (T := F_Condition) (N := 6) hx hb hts in_Condition hown hK hP (hO.inL (a := ob) (by rw [hob1]; decide)) (pf_K ef23) rfl 2 (by decide) (hts _ z_681) (fun _ h9 => h9) rfl d_Walk_anyHolds_18 ?_
            refine lv_astore_nN (lv' := [(3, .null), (0, .ref wk), (2, .ref cu)]) hx hb d_Walk_anyHolds_21 rfl hl (by decide) rfl (fun ls hl => ?_)
            refine lv_goto (tgt := 2) hx hb d_Walk_anyHolds_22 (by decide) ?_
            exact ih (none, s22, g22, n22) _ _ _ ⟨(fun b h => nomatch h), by show sp ≤ s22; omega, hW22⟩ (chL_lt (hO.inL (a := ob) (by rw [hob1]; decide)) (fun b h => nomatch h)) hP hD hS (lv_sub hl [1, 2, 0] rfl)
          · refine vq_get (D := (dC, dI)) (ci := 0) (v := .ref b24) (C := R_Condition) (T := F_Condition) (N := 6) hx hb hts in_Condition hown hK hP (hO.inL (a := ob) (by rw [hob1]; decide)) (pf_K ef23) rfl 2 (by decide) (hts _ z_681) (fun _ h9 => h9) rfl d_Walk_anyHolds_18 ?_
            refine lv_astore_n (lv' := [(3, .ref b24), (0, .ref wk), (2, .ref cu)]) hx hb d_Walk_anyHolds_21 rfl hl (by decide) rfl (fun ls hl => ?_)
            refine lv_goto (tgt := 2) hx hb d_Walk_anyHolds_22 (by decide) ?_
            exact ih ((some b24), s22, g22, n22) _ _ _ ⟨(fun b h => by cases h; exact ⟨(hv23.2.1 b24 rfl).1, Nat.le_trans (hv23.2.1 b24 rfl).2.1 hob2⟩), by show sp ≤ s22; omega, hW22⟩ (chL_lt (hO.inL (a := ob) (by rw [hob1]; decide)) (fun b h => by cases h; exact (hv23.2.1 b24 rfl).2.2)) hP hD hS (lv_sub hl [1, 2, 0] rfl)
        · refine lv_iconst (v := 1) hx hb d_Walk_anyHolds_15 (by decide) ?_
          refine w_same (fun hq => ?_)
          refine W.widen (k := 1) (n := 6) (Nat.le_of_ble_eq_true rfl) (Nat.le_of_ble_eq_true rfl) ?_
          refine vx_ret ?_
          exact W.zret (v := 1) hx hb hr rfl (fun t9 ht hW => ⟨⟨1, (s22, g22, n22), rfl, ⟨(Or.inr rfl), by show sp ≤ s22; omega, hW22⟩, ⟨by rw [ht]; exact hP, va_K.moved hW.alike hK, hD⟩, by rw [ht]; exact hq⟩, hS.F ht⟩) hS.2.2 d_Walk_anyHolds_16
  · change vx_Met _ _ _ _ (va_Pc [.ref wk, .ref b21, .ref cu] _) _ _ _ _ _
    refine vx_ofW (cc := b_Walk_anyHolds) (maxL := 4) (ret := (some .boolean)) (by decide) rfl ?_
    intro p e s m args below meth c s₁ B hml hex hv
    obtain ⟨rfl, ⟨hsz, hP, hK, hD0⟩, hN, hZ, hC, hV⟩ := hv
    have hx := B.exec
    have hb := B.bytes
    have hr := B.returns
    have hts0 := atoms_spec (ws := k_Walk_anyHolds :: gtbl) B.pre
    have hts := fun w h => hts0 w (List.mem_cons_of_mem _ h)
    have hown : s.vm.findClass R_Walk = some m.cls := findClass_of_methodNamed B.named
    have hlocks := B.notSynchronized
    subst hsz
    have hD := hD0.self (sz := s.heap.size)
    generalize hAe : va_A ([(wk, .inr (10, [.ref wl, .int (nI tp), .int (nI sp), .ref rt])), (wl, .inl (cV, 10000, .inr (.inr (.inr (.inr g)))))] ++ va_pl L (pf f ν)) s.heap.size = A at hD hZ hC ⊢
    have hA : ∀ q : Nat, s.heap.size ≤ q → A q := fun q h => by rw [← hAe]; exact Or.inr h
    have hS : va_S A s.heap s.heap [] := va_S.rf
    have hP : va_P (dC, dI) classes ([(wk, .inr (10, [.ref wl, .int (nI tp), .int (nI sp), .ref rt])), (wl, .inl (cV, 10000, .inr (.inr (.inr (.inr g)))))] ++ va_pl L (pf f ν)) s.heap := hP
    have hl := lv_entry ([.ref wk, .ref b21, .ref cu]) (n := 4) (Nat.le_of_ble_eq_true rfl)
    rw [lg_entry_eq]
    generalize (lg_sl ([.ref wk, .ref b21, .ref cu]) ++ List.replicate (4 - (lg_sl ([.ref wk, .ref b21, .ref cu])).length) Slot.unset).toArray = ls at hl ⊢
    have hl : lv_has ls 4 [(0, .ref wk), (1, .ref b21), (2, .ref cu)] := hl
    have hW0 := hW9
    have hW1 := hW9.1
    have hW2 := hW9.2.1
    refine lv_aload_n hx hb d_Walk_anyHolds_0 rfl (lv_at hl 1 rfl) ?_
    refine lv_astore_n (lv' := [(3, .ref b21), (0, .ref wk), (1, .ref b21), (2, .ref cu)]) hx hb d_Walk_anyHolds_1 rfl hl (by decide) rfl (fun ls hl => ?_)
    refine w_loop (D := (dC, dI)) (cl := classes) (A := A) (H0 := s.heap) (nL := 4) 2 (σ := Option Nat × Nat × (Nat → Option Nat) × (Nat → Int64)) (fun ⟨o, s9, g, ν⟩ => oR (fun b => E b = 10 ∧ lv b ≤ n - 1) o ∧ sp ≤ s9 ∧ WI E tp s9 g) (fun ⟨o, s9, g, ν⟩ => chL L o) (fun ⟨o, s9, g, ν⟩ => [(wk, .inr (10, [.ref wl, .int (nI tp), .int (nI s9), .ref rt])), (wl, .inl (cV, 10000, .inr (.inr (.inr (.inr g)))))] ++ va_pl L (pf f ν)) (fun ⟨o, s9, g, ν⟩ => [(0, .ref wk), (2, .ref cu), (3, va_rf o)]) ?_ ((some b21), sp, g, ν) ⟨hfi, by show sp ≤ sp; omega, hW9⟩ hP hD hS (lv_sub hl [1, 3, 0] rfl)
    rintro ⟨o, s9, g, ν⟩ H locs ls hI ih hP hD hS hl
    have hP : va_P (dC, dI) classes ([(wk, .inr (10, [.ref wl, .int (nI tp), .int (nI s9), .ref rt])), (wl, .inl (cV, 10000, .inr (.inr (.inr (.inr g)))))] ++ va_pl L (pf f ν)) H := hP
    have hD : va_D A ([(wk, .inr (10, [.ref wl, .int (nI tp), .int (nI s9), .ref rt])), (wl, .inl (cV, 10000, .inr (.inr (.inr (.inr g)))))] ++ va_pl L (pf f ν)) := hD
    have hl : lv_has ls 4 [(0, .ref wk), (2, .ref cu), (3, va_rf o)] := hl
    obtain ⟨hI, hI2, hI3⟩ := hI
    have hI : oR (fun b => E b = 10 ∧ lv b ≤ n - 1) o := hI
    have hI2 : sp ≤ s9 := hI2
    have hI3 : WI E tp s9 g := hI3
    have hhI31 := hI3.1
    have hhI32 := hI3.2.1
    rcases o with _ | ob
    · have hl : lv_has ls 4 [(0, .ref wk), (2, .ref cu), (3, .null)] := hl
      refine lv_aload_nN hx hb d_Walk_anyHolds_2 rfl (lv_at hl 2 rfl) ?_
      refine lv_ifnullN (tgt := 25) hx hb d_Walk_anyHolds_3 (by decide) ?_
      refine lv_iconst (v := 0) hx hb d_Walk_anyHolds_25 (by decide) ?_
      refine w_same (fun hq => ?_)
      refine W.widen (k := 1) (n := 6) (Nat.le_of_ble_eq_true rfl) (Nat.le_of_ble_eq_true rfl) ?_
      refine vx_ret ?_
      exact W.zret (v := 0) hx hb hr rfl (fun t9 ht hW => ⟨⟨0, (s9, g, ν), rfl, ⟨(Or.inl rfl), by show sp ≤ s9; omega, hI3⟩, ⟨by rw [ht]; exact hP, va_K.moved hW.alike hK, hD⟩, by rw [ht]; exact hq⟩, hS.F ht⟩) hS.2.2 d_Walk_anyHolds_26
    · have hl : lv_has ls 4 [(0, .ref wk), (2, .ref cu), (3, .ref ob)] := hl
      obtain ⟨hob1, hob2⟩ := hI ob rfl
      refine lv_aload_n hx hb d_Walk_anyHolds_2 rfl (lv_at hl 2 rfl) ?_
      refine lv_ifnull hx hb d_Walk_anyHolds_3 ?_
      refine lv_aload_n hx hb d_Walk_anyHolds_6 rfl (lv_at hl 0 rfl) ?_
      refine lv_aload_n hx hb d_Walk_anyHolds_7 rfl (lv_at hl 2 rfl) ?_
      refine lv_aload_n hx hb d_Walk_anyHolds_8 rfl (lv_at hl 1 rfl) ?_
      have hPc := hP.part (cx := [(wk, .inr (10, [.ref wl, .int (nI tp), .int (nI s9), .ref rt])), (wl, .inl (cV, 10000, .inr (.inr (.inr (.inr g)))))]) [0, 1] rfl
      have hDc := hD.part (cx := [(wk, .inr (10, [.ref wl, .int (nI tp), .int (nI s9), .ref rt])), (wl, .inl (cV, 10000, .inr (.inr (.inr (.inr g)))))]) [0, 1] (by decide) rfl
      have hFc := va_freeP (cx := [(wk, .inr (10, [.ref wl, .int (nI tp), .int (nI s9), .ref rt])), (wl, .inl (cV, 10000, .inr (.inr (.inr (.inr g)))))]) hD hS hA [0, 1] rfl
      have hKc := hK.sub (tys' := [(cI, .int), (cV, .object "QueryBench$Value")]) [0, 1] rfl
      refine w_same (fun hq0 => ?_)
      refine vx_calli (vx_runV (As := [.ref ob, .ref cu]) (rest := []) ⟨hx, hb, hml, hown, hts⟩ (HI H tp s9 g ν hI3 ob cu hob1 hob2 hcu) (cwV 2 hts (gt_V (own := R_Walk) (C := R_Walk) (i := 152) (y := y_Walk_holds) i_Walk_holds z_895 z_897 (gt_sel (y := y_Walk_holds) (n := 4) (by decide +kernel)) w_5) rfl rfl rfl (by decide +kernel) ⟨by show 60 + 5 * (n - 1) + 1 ≤ 59 + 5 * n; omega, by show 8 + (3 + 11) + (2500 + 200 * (n - 1)) ≤ 2460 + 200 * n; omega⟩) ⟨ml_blind, va_recv hK hP (ci := 10) (q0 := 0) rfl rfl, fun U hU hW => ⟨rfl, ⟨hU, by rw [hU]; exact hPc, va_K.moved hW.alike hKc, hDc.weaken (fun _ _ _ _ => trivial)⟩, hN.warm hW, by rw [hU]; exact ZX.moved' hW.alike (ZX.narrow' (ZX.kept' hZ hS.2.1) hFc), by rw [hU]; exact CE.call hC hS.2.1 hFc hW, va_AO.moved hW.alike hV⟩⟩ rfl rfl hl.1 rfl (lv_room (Nat.le_of_ble_eq_true rfl)) d_Walk_anyHolds_9 ⟨Nat.le_of_ble_eq_true rfl, Nat.le_of_ble_eq_true rfl⟩) hS (fun q _ h => hFc q h) hFc (fun q _ h => hFc q h) (fun En ce q9 ⟨tx, sx, gx, nx⟩ t9 H1 locs ht hvm hw hB hz1 hk1 hS hce hcv hcl => ?_) (fun r25 ⟨s25, g25, n25⟩ t9 H1 locs ht hvm hw hB hz1 hk1 hS => ?_)
      · obtain ⟨hEn, hP1, hK1, hD1⟩ := hB
        rw [ht] at hP1
        obtain ⟨hP, hD⟩ := va_joinP (wr := []) (rx := [(wk, .inr (10, [.ref wl, .int tx, .int sx, .ref rt])), (wl, .inl (cV, 10000, .inr (.inr (.inr (.inr gx)))))]) (pl1 := va_pl L (pf f nx)) hP hD [0, 1] [] rfl rfl (by decide) (by decide) hk1 hFc hP1 hD1
        generalize H1 = H at hP hS hce ⊢
        have hP : va_P (dC, dI) classes ([(wk, .inr (10, [.ref wl, .int tx, .int sx, .ref rt])), (wl, .inl (cV, 10000, .inr (.inr (.inr (.inr gx)))))] ++ va_pl L (pf f nx)) H := hP
        have hD : va_D A ([(wk, .inr (10, [.ref wl, .int tx, .int sx, .ref rt])), (wl, .inl (cV, 10000, .inr (.inr (.inr (.inr gx)))))] ++ va_pl L (pf f nx)) := hD
        exact vx_out (fun x hx => (hex x hx).elim) hlocks hce hcv hcl (fun t9 ht2 ha => ⟨(tx, sx, gx, nx), trivial, ⟨hEn, by rw [ht2]; exact hP, va_K.moved ha hK, hD⟩, hS.F ht2⟩) hS.2.2 (Nat.le_of_ble_eq_true rfl) (Nat.le_of_ble_eq_true rfl)
      · obtain ⟨⟨hP1, hK1, hD1⟩, hz9⟩ := hB
        rw [ht] at hP1
        rw [ht] at hz9
        refine w_tight (hq0.trans hz9) ?_
        have hq0 := hq0.trans hz9
        obtain ⟨hP, hD⟩ := va_joinP (wr := []) (rx := [(wk, .inr (10, [.ref wl, .int (nI tp), .int (nI s25), .ref rt])), (wl, .inl (cV, 10000, .inr (.inr (.inr (.inr g25)))))]) (pl1 := va_pl L (pf f n25)) hP hD [0, 1] [] rfl rfl (by decide) (by decide) hk1 hFc hP1 hD1
        generalize H1 = H at hP hS hq0 ⊢
        have hP : va_P (dC, dI) classes ([(wk, .inr (10, [.ref wl, .int (nI tp), .int (nI s25), .ref rt])), (wl, .inl (cV, 10000, .inr (.inr (.inr (.inr g25)))))] ++ va_pl L (pf f n25)) H := hP
        have hD : va_D A ([(wk, .inr (10, [.ref wl, .int (nI tp), .int (nI s25), .ref rt])), (wl, .inl (cV, 10000, .inr (.inr (.inr (.inr g25)))))] ++ va_pl L (pf f n25)) := hD
        obtain ⟨h_r25, hb25, hW25⟩ := hw
        have hb25 : s9 ≤ s25 := hb25
        have hW25 : WI E tp s25 g25 := hW25
        have hhW251 := hW25.1
        have hhW252 := hW25.2.1
        refine lv_if_eq (tgt := 17) hx hb d_Walk_anyHolds_12 (by decide) (fun c12 => ?_) (fun c12 => ?_)
        · refine lv_aload_n hx hb d_Walk_anyHolds_17 rfl (lv_at hl 2 rfl) ?_
          obtain ⟨kd26, fi26, nx26, qu26, le26, ri26, ef26, hv26⟩ := hO.con hob1
          rcases nx26 with _ | b27
          · refine vq_get (D := (dC, dI)) (ci := 0) (v := .null) (C := R_Condition) (T := F_Condition) (N := 6) hx hb hts in_Condition hown hK hP (hO.inL (a := ob) (by rw [hob1]; decide)) (pf_K ef26) rfl 2 (by decide) (hts _ z_681) (fun _ h9 => h9) rfl d_Walk_anyHolds_18 ?_
            refine lv_astore_nN (lv' := [(3, .null), (0, .ref wk), (2, .ref cu)]) hx hb d_Walk_anyHolds_21 rfl hl (by decide) rfl (fun ls hl => ?_)
            refine lv_goto (tgt := 2) hx hb d_Walk_anyHolds_22 (by decide) ?_
            exact ih (none, s25, g25, n25) _ _ _ ⟨(fun b h => nomatch h), by show sp ≤ s25; omega, hW25⟩ (chL_lt (hO.inL (a := ob) (by rw [hob1]; decide)) (fun b h => nomatch h)) hP hD hS (lv_sub hl [1, 2, 0] rfl)
          · refine vq_get (D := (dC, dI)) (ci := 0) (v := .ref b27) (C := R_Condition) (T := F_Condition) (N := 6) hx hb hts in_Condition hown hK hP (hO.inL (a := ob) (by rw [hob1]; decide)) (pf_K ef26) rfl 2 (by decide) (hts _ z_681) (fun _ h9 => h9) rfl d_Walk_anyHolds_18 ?_
            refine lv_astore_n (lv' := [(3, .ref b27), (0, .ref wk), (2, .ref cu)]) hx hb d_Walk_anyHolds_21 rfl hl (by decide) rfl (fun ls hl => ?_)
            refine lv_goto (tgt := 2) hx hb d_Walk_anyHolds_22 (by decide) ?_
            exact ih ((some b27), s25, g25, n25) _ _ _ ⟨(fun b h => by cases h; exact ⟨(hv26.2.1 b27 rfl).1, Nat.le_trans (hv26.2.1 b27 rfl).2.1 hob2⟩), by show sp ≤ s25; omega, hW25⟩ (chL_lt (hO.inL (a := ob) (by rw [hob1]; decide)) (fun b h => by cases h; exact (hv26.2.1 b27 rfl).2.2)) hP hD hS (lv_sub hl [1, 2, 0] rfl)
        · refine lv_iconst (v := 1) hx hb d_Walk_anyHolds_15 (by decide) ?_
          refine w_same (fun hq => ?_)
          refine W.widen (k := 1) (n := 6) (Nat.le_of_ble_eq_true rfl) (Nat.le_of_ble_eq_true rfl) ?_
          refine vx_ret ?_
          exact W.zret (v := 1) hx hb hr rfl (fun t9 ht hW => ⟨⟨1, (s25, g25, n25), rfl, ⟨(Or.inr rfl), by show sp ≤ s25; omega, hW25⟩, ⟨by rw [ht]; exact hP, va_K.moved hW.alike hK, hD⟩, by rw [ht]; exact hq⟩, hS.F ht⟩) hS.2.2 d_Walk_anyHolds_16
abbrev b_Walk_allHold : ByteArray := prog_12_method_16_code
def y_Walk_allHold : MethodName := ⟨"QueryBench$Walk", "allHold", "(LQueryBench$Condition;LQueryBench$Value;)Z"⟩
abbrev k_Walk_allHold : Cond := .code y_Walk_allHold b_Walk_allHold 4 (some .boolean)
theorem i_Walk_allHold : k_Walk_allHold ∈ gtbl := gt_in 906 (by decide +kernel) (by decide +kernel)
theorem d_Walk_allHold_0 : decode b_Walk_allHold 0 = .ok (.aload_n 1, 1) := by decide +kernel
theorem d_Walk_allHold_1 : decode b_Walk_allHold 1 = .ok (.astore_n 3, 1) := by decide +kernel
theorem d_Walk_allHold_2 : decode b_Walk_allHold 2 = .ok (.aload_n 3, 1) := by decide +kernel
theorem d_Walk_allHold_3 : decode b_Walk_allHold 3 = .ok (.ifnull 22, 3) := by decide +kernel
theorem d_Walk_allHold_6 : decode b_Walk_allHold 6 = .ok (.aload_n 0, 1) := by decide +kernel
theorem d_Walk_allHold_7 : decode b_Walk_allHold 7 = .ok (.aload_n 3, 1) := by decide +kernel
theorem d_Walk_allHold_8 : decode b_Walk_allHold 8 = .ok (.aload_n 2, 1) := by decide +kernel
theorem d_Walk_allHold_9 : decode b_Walk_allHold 9 = .ok (.invokevirtual 152, 3) := by decide +kernel
theorem d_Walk_allHold_12 : decode b_Walk_allHold 12 = .ok (.ifCond .ne 5, 3) := by decide +kernel
theorem d_Walk_allHold_15 : decode b_Walk_allHold 15 = .ok (.iconst 0, 1) := by decide +kernel
theorem d_Walk_allHold_16 : decode b_Walk_allHold 16 = .ok (.ireturn, 1) := by decide +kernel
theorem d_Walk_allHold_17 : decode b_Walk_allHold 17 = .ok (.aload_n 3, 1) := by decide +kernel
theorem d_Walk_allHold_18 : decode b_Walk_allHold 18 = .ok (.getfield 177, 3) := by decide +kernel
theorem d_Walk_allHold_21 : decode b_Walk_allHold 21 = .ok (.astore_n 3, 1) := by decide +kernel
theorem d_Walk_allHold_22 : decode b_Walk_allHold 22 = .ok (.goto (-20), 3) := by decide +kernel
theorem d_Walk_allHold_25 : decode b_Walk_allHold 25 = .ok (.iconst 1, 1) := by decide +kernel
theorem d_Walk_allHold_26 : decode b_Walk_allHold 26 = .ok (.ireturn, 1) := by decide +kernel
set_option maxHeartbeats 4000000 in
set_option maxRecDepth 100000 in
/-- Walk.allHold -/
theorem c_Walk_allHold (l : Launch) (hl9 : l.stackTraces = false) (K : Nat → Nat × Nat) (dC : Nat → ClassId) (dI : Nat → Nat → Nat) (sz : Heap) (cI cV : ClassId) (E lv : Nat → Nat) (L : List Nat) (f : Nat → va_E) (hO : PO cI cV E lv L f) (hN1 : ∀ a, E a ≠ 1) (wk wl rt : Nat) (hrt : isF E rt) (tp sp : Nat) (g : Nat → Option Nat) (ν : Nat → Int64) (hW9 : WI E tp sp g) (n : Nat) (hn : 0 < n) (HI : HDC l K dC dI cI cV E lv L f wk wl rt (n - 1)) (fi : Option Nat) (hfi : oR (fun b => E b = 10 ∧ lv b ≤ n - 1) fi) (cu : Nat) (hcu : isF E cu) : vx_Met l y_Walk_allHold (k_Walk_allHold :: gtbl) ({ frames := 59 + 5 * n, cells := 1, slots := 6, locals := 2460 + 200 * n }) (va_Pc [.ref wk, va_rf fi, .ref cu] (ml K dC dI ([(wk, .inr (10, [.ref wl, .int (nI tp), .int (nI sp), .ref rt])), (wl, .inl (cV, 10000, .inr (.inr (.inr (.inr g)))))] ++ va_pl L (pf f ν)) [(cI, .int), (cV, .object "QueryBench$Value")] sz)) (va_Qi (fun (r : Int32) (u : Nat × (Nat → Option Nat) × (Nat → Int64)) => Bo r ∧ sp ≤ u.1 ∧ WI E tp u.1 u.2.1) (fun u t9 => mz dC dI ([(wk, .inr (10, [.ref wl, .int (nI tp), .int (nI u.1), .ref rt])), (wl, .inl (cV, 10000, .inr (.inr (.inr (.inr u.2.1)))))] ++ va_pl L (pf f u.2.2)) [(cI, .int), (cV, .object "QueryBench$Value")] (va_A ([(wk, .inr (10, [.ref wl, .int (nI tp), .int (nI sp), .ref rt])), (wl, .inl (cV, 10000, .inr (.inr (.inr (.inr g)))))] ++ va_pl L (pf f ν)) sz.size) t9 ∧ szk sz t9.heap (0) (0)) (va_A ([(wk, .inr (10, [.ref wl, .int (nI tp), .int (nI sp), .ref rt])), (wl, .inl (cV, 10000, .inr (.inr (.inr (.inr g)))))] ++ va_pl L (pf f ν)) sz.size)) (vx_X (fun (u : Int32 × Int32 × (Nat → Option Nat) × (Nat → Int64)) => True) (fun En u t9 => En = IOB ∧ mz dC dI ([(wk, .inr (10, [.ref wl, .int u.1, .int u.2.1, .ref rt])), (wl, .inl (cV, 10000, .inr (.inr (.inr (.inr u.2.2.1)))))] ++ va_pl L (pf f u.2.2.2)) [(cI, .int), (cV, .object "QueryBench$Value")] (va_A ([(wk, .inr (10, [.ref wl, .int (nI tp), .int (nI sp), .ref rt])), (wl, .inl (cV, 10000, .inr (.inr (.inr (.inr g)))))] ++ va_pl L (pf f ν)) sz.size) t9) (va_A ([(wk, .inr (10, [.ref wl, .int (nI tp), .int (nI sp), .ref rt])), (wl, .inl (cV, 10000, .inr (.inr (.inr (.inr g)))))] ++ va_pl L (pf f ν)) sz.size)) (1) (6) (va_A ([(wk, .inr (10, [.ref wl, .int (nI tp), .int (nI sp), .ref rt])), (wl, .inl (cV, 10000, .inr (.inr (.inr (.inr g)))))] ++ va_pl L (pf f ν)) sz.size) := by
  rcases fi with _ | b21
  · change vx_Met _ _ _ _ (va_Pc [.ref wk, .null, .ref cu] _) _ _ _ _ _
    refine vx_ofW (cc := b_Walk_allHold) (maxL := 4) (ret := (some .boolean)) (by decide) rfl ?_
    intro p e s m args below meth c s₁ B hml hex hv
    obtain ⟨rfl, ⟨hsz, hP, hK, hD0⟩, hN, hZ, hC, hV⟩ := hv
    have hx := B.exec
    have hb := B.bytes
    have hr := B.returns
    have hts0 := atoms_spec (ws := k_Walk_allHold :: gtbl) B.pre
    have hts := fun w h => hts0 w (List.mem_cons_of_mem _ h)
    have hown : s.vm.findClass R_Walk = some m.cls := findClass_of_methodNamed B.named
    have hlocks := B.notSynchronized
    subst hsz
    have hD := hD0.self (sz := s.heap.size)
    generalize hAe : va_A ([(wk, .inr (10, [.ref wl, .int (nI tp), .int (nI sp), .ref rt])), (wl, .inl (cV, 10000, .inr (.inr (.inr (.inr g)))))] ++ va_pl L (pf f ν)) s.heap.size = A at hD hZ hC ⊢
    have hA : ∀ q : Nat, s.heap.size ≤ q → A q := fun q h => by rw [← hAe]; exact Or.inr h
    have hS : va_S A s.heap s.heap [] := va_S.rf
    have hP : va_P (dC, dI) classes ([(wk, .inr (10, [.ref wl, .int (nI tp), .int (nI sp), .ref rt])), (wl, .inl (cV, 10000, .inr (.inr (.inr (.inr g)))))] ++ va_pl L (pf f ν)) s.heap := hP
    have hl := lv_entry ([.ref wk, .null, .ref cu]) (n := 4) (Nat.le_of_ble_eq_true rfl)
    rw [lg_entry_eq]
    generalize (lg_sl ([.ref wk, .null, .ref cu]) ++ List.replicate (4 - (lg_sl ([.ref wk, .null, .ref cu])).length) Slot.unset).toArray = ls at hl ⊢
    have hl : lv_has ls 4 [(0, .ref wk), (1, .null), (2, .ref cu)] := hl
    have hW0 := hW9
    have hW1 := hW9.1
    have hW2 := hW9.2.1
    refine lv_aload_nN hx hb d_Walk_allHold_0 rfl (lv_at hl 1 rfl) ?_
    refine lv_astore_nN (lv' := [(3, .null), (0, .ref wk), (1, .null), (2, .ref cu)]) hx hb d_Walk_allHold_1 rfl hl (by decide) rfl (fun ls hl => ?_)
    refine w_loop (D := (dC, dI)) (cl := classes) (A := A) (H0 := s.heap) (nL := 4) 2 (σ := Option Nat × Nat × (Nat → Option Nat) × (Nat → Int64)) (fun ⟨o, s9, g, ν⟩ => oR (fun b => E b = 10 ∧ lv b ≤ n - 1) o ∧ sp ≤ s9 ∧ WI E tp s9 g) (fun ⟨o, s9, g, ν⟩ => chL L o) (fun ⟨o, s9, g, ν⟩ => [(wk, .inr (10, [.ref wl, .int (nI tp), .int (nI s9), .ref rt])), (wl, .inl (cV, 10000, .inr (.inr (.inr (.inr g)))))] ++ va_pl L (pf f ν)) (fun ⟨o, s9, g, ν⟩ => [(0, .ref wk), (2, .ref cu), (3, va_rf o)]) ?_ (none, sp, g, ν) ⟨(fun b h => nomatch h), by show sp ≤ sp; omega, hW9⟩ hP hD hS (lv_sub hl [1, 3, 0] rfl)
    rintro ⟨o, s9, g, ν⟩ H locs ls hI ih hP hD hS hl
    have hP : va_P (dC, dI) classes ([(wk, .inr (10, [.ref wl, .int (nI tp), .int (nI s9), .ref rt])), (wl, .inl (cV, 10000, .inr (.inr (.inr (.inr g)))))] ++ va_pl L (pf f ν)) H := hP
    have hD : va_D A ([(wk, .inr (10, [.ref wl, .int (nI tp), .int (nI s9), .ref rt])), (wl, .inl (cV, 10000, .inr (.inr (.inr (.inr g)))))] ++ va_pl L (pf f ν)) := hD
    have hl : lv_has ls 4 [(0, .ref wk), (2, .ref cu), (3, va_rf o)] := hl
    obtain ⟨hI, hI2, hI3⟩ := hI
    have hI : oR (fun b => E b = 10 ∧ lv b ≤ n - 1) o := hI
    have hI2 : sp ≤ s9 := hI2
    have hI3 : WI E tp s9 g := hI3
    have hhI31 := hI3.1
    have hhI32 := hI3.2.1
    rcases o with _ | ob
    · have hl : lv_has ls 4 [(0, .ref wk), (2, .ref cu), (3, .null)] := hl
      refine lv_aload_nN hx hb d_Walk_allHold_2 rfl (lv_at hl 2 rfl) ?_
      refine lv_ifnullN (tgt := 25) hx hb d_Walk_allHold_3 (by decide) ?_
      refine lv_iconst (v := 1) hx hb d_Walk_allHold_25 (by decide) ?_
      refine w_same (fun hq => ?_)
      refine W.widen (k := 1) (n := 6) (Nat.le_of_ble_eq_true rfl) (Nat.le_of_ble_eq_true rfl) ?_
      refine vx_ret ?_
      exact W.zret (v := 1) hx hb hr rfl (fun t9 ht hW => ⟨⟨1, (s9, g, ν), rfl, ⟨(Or.inr rfl), by show sp ≤ s9; omega, hI3⟩, ⟨by rw [ht]; exact hP, va_K.moved hW.alike hK, hD⟩, by rw [ht]; exact hq⟩, hS.F ht⟩) hS.2.2 d_Walk_allHold_26
    · have hl : lv_has ls 4 [(0, .ref wk), (2, .ref cu), (3, .ref ob)] := hl
      obtain ⟨hob1, hob2⟩ := hI ob rfl
      refine lv_aload_n hx hb d_Walk_allHold_2 rfl (lv_at hl 2 rfl) ?_
      refine lv_ifnull hx hb d_Walk_allHold_3 ?_
      refine lv_aload_n hx hb d_Walk_allHold_6 rfl (lv_at hl 0 rfl) ?_
      refine lv_aload_n hx hb d_Walk_allHold_7 rfl (lv_at hl 2 rfl) ?_
      refine lv_aload_n hx hb d_Walk_allHold_8 rfl (lv_at hl 1 rfl) ?_
      have hPc := hP.part (cx := [(wk, .inr (10, [.ref wl, .int (nI tp), .int (nI s9), .ref rt])), (wl, .inl (cV, 10000, .inr (.inr (.inr (.inr g)))))]) [0, 1] rfl
      have hDc := hD.part (cx := [(wk, .inr (10, [.ref wl, .int (nI tp), .int (nI s9), .ref rt])), (wl, .inl (cV, 10000, .inr (.inr (.inr (.inr g)))))]) [0, 1] (by decide) rfl
      have hFc := va_freeP (cx := [(wk, .inr (10, [.ref wl, .int (nI tp), .int (nI s9), .ref rt])), (wl, .inl (cV, 10000, .inr (.inr (.inr (.inr g)))))]) hD hS hA [0, 1] rfl
      have hKc := hK.sub (tys' := [(cI, .int), (cV, .object "QueryBench$Value")]) [0, 1] rfl
      refine w_same (fun hq0 => ?_)
      refine vx_calli (vx_runV (As := [.ref ob, .ref cu]) (rest := []) ⟨hx, hb, hml, hown, hts⟩ (HI H tp s9 g ν hI3 ob cu hob1 hob2 hcu) (cwV 2 hts (gt_V (own := R_Walk) (C := R_Walk) (i := 152) (y := y_Walk_holds) i_Walk_holds z_895 z_897 (gt_sel (y := y_Walk_holds) (n := 4) (by decide +kernel)) w_5) rfl rfl rfl (by decide +kernel) ⟨by show 60 + 5 * (n - 1) + 1 ≤ 59 + 5 * n; omega, by show 8 + (3 + 11) + (2500 + 200 * (n - 1)) ≤ 2460 + 200 * n; omega⟩) ⟨ml_blind, va_recv hK hP (ci := 10) (q0 := 0) rfl rfl, fun U hU hW => ⟨rfl, ⟨hU, by rw [hU]; exact hPc, va_K.moved hW.alike hKc, hDc.weaken (fun _ _ _ _ => trivial)⟩, hN.warm hW, by rw [hU]; exact ZX.moved' hW.alike (ZX.narrow' (ZX.kept' hZ hS.2.1) hFc), by rw [hU]; exact CE.call hC hS.2.1 hFc hW, va_AO.moved hW.alike hV⟩⟩ rfl rfl hl.1 rfl (lv_room (Nat.le_of_ble_eq_true rfl)) d_Walk_allHold_9 ⟨Nat.le_of_ble_eq_true rfl, Nat.le_of_ble_eq_true rfl⟩) hS (fun q _ h => hFc q h) hFc (fun q _ h => hFc q h) (fun En ce q9 ⟨tx, sx, gx, nx⟩ t9 H1 locs ht hvm hw hB hz1 hk1 hS hce hcv hcl => ?_) (fun r22 ⟨s22, g22, n22⟩ t9 H1 locs ht hvm hw hB hz1 hk1 hS => ?_)
      · obtain ⟨hEn, hP1, hK1, hD1⟩ := hB
        rw [ht] at hP1
        obtain ⟨hP, hD⟩ := va_joinP (wr := []) (rx := [(wk, .inr (10, [.ref wl, .int tx, .int sx, .ref rt])), (wl, .inl (cV, 10000, .inr (.inr (.inr (.inr gx)))))]) (pl1 := va_pl L (pf f nx)) hP hD [0, 1] [] rfl rfl (by decide) (by decide) hk1 hFc hP1 hD1
        generalize H1 = H at hP hS hce ⊢
        have hP : va_P (dC, dI) classes ([(wk, .inr (10, [.ref wl, .int tx, .int sx, .ref rt])), (wl, .inl (cV, 10000, .inr (.inr (.inr (.inr gx)))))] ++ va_pl L (pf f nx)) H := hP
        have hD : va_D A ([(wk, .inr (10, [.ref wl, .int tx, .int sx, .ref rt])), (wl, .inl (cV, 10000, .inr (.inr (.inr (.inr gx)))))] ++ va_pl L (pf f nx)) := hD
        exact vx_out (fun x hx => (hex x hx).elim) hlocks hce hcv hcl (fun t9 ht2 ha => ⟨(tx, sx, gx, nx), trivial, ⟨hEn, by rw [ht2]; exact hP, va_K.moved ha hK, hD⟩, hS.F ht2⟩) hS.2.2 (Nat.le_of_ble_eq_true rfl) (Nat.le_of_ble_eq_true rfl)
      · obtain ⟨⟨hP1, hK1, hD1⟩, hz9⟩ := hB
        rw [ht] at hP1
        rw [ht] at hz9
        refine w_tight (hq0.trans hz9) ?_
        have hq0 := hq0.trans hz9
        obtain ⟨hP, hD⟩ := va_joinP (wr := []) (rx := [(wk, .inr (10, [.ref wl, .int (nI tp), .int (nI s22), .ref rt])), (wl, .inl (cV, 10000, .inr (.inr (.inr (.inr g22)))))]) (pl1 := va_pl L (pf f n22)) hP hD [0, 1] [] rfl rfl (by decide) (by decide) hk1 hFc hP1 hD1
        generalize H1 = H at hP hS hq0 ⊢
        have hP : va_P (dC, dI) classes ([(wk, .inr (10, [.ref wl, .int (nI tp), .int (nI s22), .ref rt])), (wl, .inl (cV, 10000, .inr (.inr (.inr (.inr g22)))))] ++ va_pl L (pf f n22)) H := hP
        have hD : va_D A ([(wk, .inr (10, [.ref wl, .int (nI tp), .int (nI s22), .ref rt])), (wl, .inl (cV, 10000, .inr (.inr (.inr (.inr g22)))))] ++ va_pl L (pf f n22)) := hD
        obtain ⟨h_r22, hb22, hW22⟩ := hw
        have hb22 : s9 ≤ s22 := hb22
        have hW22 : WI E tp s22 g22 := hW22
        have hhW221 := hW22.1
        have hhW222 := hW22.2.1
        refine lv_if_ne (tgt := 17) hx hb d_Walk_allHold_12 (by decide) (fun c12 => ?_) (fun c12 => ?_)
        · refine lv_aload_n hx hb d_Walk_allHold_17 rfl (lv_at hl 2 rfl) ?_
          obtain ⟨kd23, fi23, nx23, qu23, le23, ri23, ef23, hv23⟩ := hO.con hob1
          rcases nx23 with _ | b24
          · refine vq_get (D := (dC, dI)) (ci := 0) (v := .null) (C := R_Condition) (T := F_Condition) (N := 6) hx hb hts in_Condition hown hK hP (hO.inL (a := ob) (by rw [hob1]; decide)) (pf_K ef23) rfl 2 (by decide) (hts _ z_681) (fun _ h9 => h9) rfl d_Walk_allHold_18 ?_
            refine lv_astore_nN (lv' := [(3, .null), (0, .ref wk), (2, .ref cu)]) hx hb d_Walk_allHold_21 rfl hl (by decide) rfl (fun ls hl => ?_)
            refine lv_goto (tgt := 2) hx hb d_Walk_allHold_22 (by decide) ?_
            exact ih (none, s22, g22, n22) _ _ _ ⟨(fun b h => nomatch h), by show sp ≤ s22; omega, hW22⟩ (chL_lt (hO.inL (a := ob) (by rw [hob1]; decide)) (fun b h => nomatch h)) hP hD hS (lv_sub hl [1, 2, 0] rfl)
          · refine vq_get (D := (dC, dI)) (ci := 0) (v := .ref b24) (C := R_Condition) (T := F_Condition) (N := 6) hx hb hts in_Condition hown hK hP (hO.inL (a := ob) (by rw [hob1]; decide)) (pf_K ef23) rfl 2 (by decide) (hts _ z_681) (fun _ h9 => h9) rfl d_Walk_allHold_18 ?_
            refine lv_astore_n (lv' := [(3, .ref b24), (0, .ref wk), (2, .ref cu)]) hx hb d_Walk_allHold_21 rfl hl (by decide) rfl (fun ls hl => ?_)
            refine lv_goto (tgt := 2) hx hb d_Walk_allHold_22 (by decide) ?_
            exact ih ((some b24), s22, g22, n22) _ _ _ ⟨(fun b h => by cases h; exact ⟨(hv23.2.1 b24 rfl).1, Nat.le_trans (hv23.2.1 b24 rfl).2.1 hob2⟩), by show sp ≤ s22; omega, hW22⟩ (chL_lt (hO.inL (a := ob) (by rw [hob1]; decide)) (fun b h => by cases h; exact (hv23.2.1 b24 rfl).2.2)) hP hD hS (lv_sub hl [1, 2, 0] rfl)
        · refine lv_iconst (v := 0) hx hb d_Walk_allHold_15 (by decide) ?_
          refine w_same (fun hq => ?_)
          refine W.widen (k := 1) (n := 6) (Nat.le_of_ble_eq_true rfl) (Nat.le_of_ble_eq_true rfl) ?_
          refine vx_ret ?_
          exact W.zret (v := 0) hx hb hr rfl (fun t9 ht hW => ⟨⟨0, (s22, g22, n22), rfl, ⟨(Or.inl rfl), by show sp ≤ s22; omega, hW22⟩, ⟨by rw [ht]; exact hP, va_K.moved hW.alike hK, hD⟩, by rw [ht]; exact hq⟩, hS.F ht⟩) hS.2.2 d_Walk_allHold_16
  · change vx_Met _ _ _ _ (va_Pc [.ref wk, .ref b21, .ref cu] _) _ _ _ _ _
    refine vx_ofW (cc := b_Walk_allHold) (maxL := 4) (ret := (some .boolean)) (by decide) rfl ?_
    intro p e s m args below meth c s₁ B hml hex hv
    obtain ⟨rfl, ⟨hsz, hP, hK, hD0⟩, hN, hZ, hC, hV⟩ := hv
    have hx := B.exec
    have hb := B.bytes
    have hr := B.returns
    have hts0 := atoms_spec (ws := k_Walk_allHold :: gtbl) B.pre
    have hts := fun w h => hts0 w (List.mem_cons_of_mem _ h)
    have hown : s.vm.findClass R_Walk = some m.cls := findClass_of_methodNamed B.named
    have hlocks := B.notSynchronized
    subst hsz
    have hD := hD0.self (sz := s.heap.size)
    generalize hAe : va_A ([(wk, .inr (10, [.ref wl, .int (nI tp), .int (nI sp), .ref rt])), (wl, .inl (cV, 10000, .inr (.inr (.inr (.inr g)))))] ++ va_pl L (pf f ν)) s.heap.size = A at hD hZ hC ⊢
    have hA : ∀ q : Nat, s.heap.size ≤ q → A q := fun q h => by rw [← hAe]; exact Or.inr h
    have hS : va_S A s.heap s.heap [] := va_S.rf
    have hP : va_P (dC, dI) classes ([(wk, .inr (10, [.ref wl, .int (nI tp), .int (nI sp), .ref rt])), (wl, .inl (cV, 10000, .inr (.inr (.inr (.inr g)))))] ++ va_pl L (pf f ν)) s.heap := hP
    have hl := lv_entry ([.ref wk, .ref b21, .ref cu]) (n := 4) (Nat.le_of_ble_eq_true rfl)
    rw [lg_entry_eq]
    generalize (lg_sl ([.ref wk, .ref b21, .ref cu]) ++ List.replicate (4 - (lg_sl ([.ref wk, .ref b21, .ref cu])).length) Slot.unset).toArray = ls at hl ⊢
    have hl : lv_has ls 4 [(0, .ref wk), (1, .ref b21), (2, .ref cu)] := hl
    have hW0 := hW9
    have hW1 := hW9.1
    have hW2 := hW9.2.1
    refine lv_aload_n hx hb d_Walk_allHold_0 rfl (lv_at hl 1 rfl) ?_
    refine lv_astore_n (lv' := [(3, .ref b21), (0, .ref wk), (1, .ref b21), (2, .ref cu)]) hx hb d_Walk_allHold_1 rfl hl (by decide) rfl (fun ls hl => ?_)
    refine w_loop (D := (dC, dI)) (cl := classes) (A := A) (H0 := s.heap) (nL := 4) 2 (σ := Option Nat × Nat × (Nat → Option Nat) × (Nat → Int64)) (fun ⟨o, s9, g, ν⟩ => oR (fun b => E b = 10 ∧ lv b ≤ n - 1) o ∧ sp ≤ s9 ∧ WI E tp s9 g) (fun ⟨o, s9, g, ν⟩ => chL L o) (fun ⟨o, s9, g, ν⟩ => [(wk, .inr (10, [.ref wl, .int (nI tp), .int (nI s9), .ref rt])), (wl, .inl (cV, 10000, .inr (.inr (.inr (.inr g)))))] ++ va_pl L (pf f ν)) (fun ⟨o, s9, g, ν⟩ => [(0, .ref wk), (2, .ref cu), (3, va_rf o)]) ?_ ((some b21), sp, g, ν) ⟨hfi, by show sp ≤ sp; omega, hW9⟩ hP hD hS (lv_sub hl [1, 3, 0] rfl)
    rintro ⟨o, s9, g, ν⟩ H locs ls hI ih hP hD hS hl
    have hP : va_P (dC, dI) classes ([(wk, .inr (10, [.ref wl, .int (nI tp), .int (nI s9), .ref rt])), (wl, .inl (cV, 10000, .inr (.inr (.inr (.inr g)))))] ++ va_pl L (pf f ν)) H := hP
    have hD : va_D A ([(wk, .inr (10, [.ref wl, .int (nI tp), .int (nI s9), .ref rt])), (wl, .inl (cV, 10000, .inr (.inr (.inr (.inr g)))))] ++ va_pl L (pf f ν)) := hD
    have hl : lv_has ls 4 [(0, .ref wk), (2, .ref cu), (3, va_rf o)] := hl
    obtain ⟨hI, hI2, hI3⟩ := hI
    have hI : oR (fun b => E b = 10 ∧ lv b ≤ n - 1) o := hI
    have hI2 : sp ≤ s9 := hI2
    have hI3 : WI E tp s9 g := hI3
    have hhI31 := hI3.1
    have hhI32 := hI3.2.1
    rcases o with _ | ob
    · have hl : lv_has ls 4 [(0, .ref wk), (2, .ref cu), (3, .null)] := hl
      refine lv_aload_nN hx hb d_Walk_allHold_2 rfl (lv_at hl 2 rfl) ?_
      refine lv_ifnullN (tgt := 25) hx hb d_Walk_allHold_3 (by decide) ?_
      refine lv_iconst (v := 1) hx hb d_Walk_allHold_25 (by decide) ?_
      refine w_same (fun hq => ?_)
      refine W.widen (k := 1) (n := 6) (Nat.le_of_ble_eq_true rfl) (Nat.le_of_ble_eq_true rfl) ?_
      refine vx_ret ?_
      exact W.zret (v := 1) hx hb hr rfl (fun t9 ht hW => ⟨⟨1, (s9, g, ν), rfl, ⟨(Or.inr rfl), by show sp ≤ s9; omega, hI3⟩, ⟨by rw [ht]; exact hP, va_K.moved hW.alike hK, hD⟩, by rw [ht]; exact hq⟩, hS.F ht⟩) hS.2.2 d_Walk_allHold_26
    · have hl : lv_has ls 4 [(0, .ref wk), (2, .ref cu), (3, .ref ob)] := hl
      obtain ⟨hob1, hob2⟩ := hI ob rfl
      refine lv_aload_n hx hb d_Walk_allHold_2 rfl (lv_at hl 2 rfl) ?_
      refine lv_ifnull hx hb d_Walk_allHold_3 ?_
      refine lv_aload_n hx hb d_Walk_allHold_6 rfl (lv_at hl 0 rfl) ?_
      refine lv_aload_n hx hb d_Walk_allHold_7 rfl (lv_at hl 2 rfl) ?_
      refine lv_aload_n hx hb d_Walk_allHold_8 rfl (lv_at hl 1 rfl) ?_
      have hPc := hP.part (cx := [(wk, .inr (10, [.ref wl, .int (nI tp), .int (nI s9), .ref rt])), (wl, .inl (cV, 10000, .inr (.inr (.inr (.inr g)))))]) [0, 1] rfl
      have hDc := hD.part (cx := [(wk, .inr (10, [.ref wl, .int (nI tp), .int (nI s9), .ref rt])), (wl, .inl (cV, 10000, .inr (.inr (.inr (.inr g)))))]) [0, 1] (by decide) rfl
      have hFc := va_freeP (cx := [(wk, .inr (10, [.ref wl, .int (nI tp), .int (nI s9), .ref rt])), (wl, .inl (cV, 10000, .inr (.inr (.inr (.inr g)))))]) hD hS hA [0, 1] rfl
      have hKc := hK.sub (tys' := [(cI, .int), (cV, .object "QueryBench$Value")]) [0, 1] rfl
      refine w_same (fun hq0 => ?_)
      refine vx_calli (vx_runV (As := [.ref ob, .ref cu]) (rest := []) ⟨hx, hb, hml, hown, hts⟩ (HI H tp s9 g ν hI3 ob cu hob1 hob2 hcu) (cwV 2 hts (gt_V (own := R_Walk) (C := R_Walk) (i := 152) (y := y_Walk_holds) i_Walk_holds z_895 z_897 (gt_sel (y := y_Walk_holds) (n := 4) (by decide +kernel)) w_5) rfl rfl rfl (by decide +kernel) ⟨by show 60 + 5 * (n - 1) + 1 ≤ 59 + 5 * n; omega, by show 8 + (3 + 11) + (2500 + 200 * (n - 1)) ≤ 2460 + 200 * n; omega⟩) ⟨ml_blind, va_recv hK hP (ci := 10) (q0 := 0) rfl rfl, fun U hU hW => ⟨rfl, ⟨hU, by rw [hU]; exact hPc, va_K.moved hW.alike hKc, hDc.weaken (fun _ _ _ _ => trivial)⟩, hN.warm hW, by rw [hU]; exact ZX.moved' hW.alike (ZX.narrow' (ZX.kept' hZ hS.2.1) hFc), by rw [hU]; exact CE.call hC hS.2.1 hFc hW, va_AO.moved hW.alike hV⟩⟩ rfl rfl hl.1 rfl (lv_room (Nat.le_of_ble_eq_true rfl)) d_Walk_allHold_9 ⟨Nat.le_of_ble_eq_true rfl, Nat.le_of_ble_eq_true rfl⟩) hS (fun q _ h => hFc q h) hFc (fun q _ h => hFc q h) (fun En ce q9 ⟨tx, sx, gx, nx⟩ t9 H1 locs ht hvm hw hB hz1 hk1 hS hce hcv hcl => ?_) (fun r25 ⟨s25, g25, n25⟩ t9 H1 locs ht hvm hw hB hz1 hk1 hS => ?_)
      · obtain ⟨hEn, hP1, hK1, hD1⟩ := hB
        rw [ht] at hP1
        obtain ⟨hP, hD⟩ := va_joinP (wr := []) (rx := [(wk, .inr (10, [.ref wl, .int tx, .int sx, .ref rt])), (wl, .inl (cV, 10000, .inr (.inr (.inr (.inr gx)))))]) (pl1 := va_pl L (pf f nx)) hP hD [0, 1] [] rfl rfl (by decide) (by decide) hk1 hFc hP1 hD1
        generalize H1 = H at hP hS hce ⊢
        have hP : va_P (dC, dI) classes ([(wk, .inr (10, [.ref wl, .int tx, .int sx, .ref rt])), (wl, .inl (cV, 10000, .inr (.inr (.inr (.inr gx)))))] ++ va_pl L (pf f nx)) H := hP
        have hD : va_D A ([(wk, .inr (10, [.ref wl, .int tx, .int sx, .ref rt])), (wl, .inl (cV, 10000, .inr (.inr (.inr (.inr gx)))))] ++ va_pl L (pf f nx)) := hD
        exact vx_out (fun x hx => (hex x hx).elim) hlocks hce hcv hcl (fun t9 ht2 ha => ⟨(tx, sx, gx, nx), trivial, ⟨hEn, by rw [ht2]; exact hP, va_K.moved ha hK, hD⟩, hS.F ht2⟩) hS.2.2 (Nat.le_of_ble_eq_true rfl) (Nat.le_of_ble_eq_true rfl)
      · obtain ⟨⟨hP1, hK1, hD1⟩, hz9⟩ := hB
        rw [ht] at hP1
        rw [ht] at hz9
        refine w_tight (hq0.trans hz9) ?_
        have hq0 := hq0.trans hz9
        obtain ⟨hP, hD⟩ := va_joinP (wr := []) (rx := [(wk, .inr (10, [.ref wl, .int (nI tp), .int (nI s25), .ref rt])), (wl, .inl (cV, 10000, .inr (.inr (.inr (.inr g25)))))]) (pl1 := va_pl L (pf f n25)) hP hD [0, 1] [] rfl rfl (by decide) (by decide) hk1 hFc hP1 hD1
        generalize H1 = H at hP hS hq0 ⊢
        have hP : va_P (dC, dI) classes ([(wk, .inr (10, [.ref wl, .int (nI tp), .int (nI s25), .ref rt])), (wl, .inl (cV, 10000, .inr (.inr (.inr (.inr g25)))))] ++ va_pl L (pf f n25)) H := hP
        have hD : va_D A ([(wk, .inr (10, [.ref wl, .int (nI tp), .int (nI s25), .ref rt])), (wl, .inl (cV, 10000, .inr (.inr (.inr (.inr g25)))))] ++ va_pl L (pf f n25)) := hD
        obtain ⟨h_r25, hb25, hW25⟩ := hw
        have hb25 : s9 ≤ s25 := hb25
        have hW25 : WI E tp s25 g25 := hW25
        have hhW251 := hW25.1
        have hhW252 := hW25.2.1
        refine lv_if_ne (tgt := 17) hx hb d_Walk_allHold_12 (by decide) (fun c12 => ?_) (fun c12 => ?_)
        · refine lv_aload_n hx hb d_Walk_allHold_17 rfl (lv_at hl 2 rfl) ?_
          obtain ⟨kd26, fi26, nx26, qu26, le26, ri26, ef26, hv26⟩ := hO.con hob1
          rcases nx26 with _ | b27
          · refine vq_get (D := (dC, dI)) (ci := 0) (v := .null) (C := R_Condition) (T := F_Condition) (N := 6) hx hb hts in_Condition hown hK hP (hO.inL (a := ob) (by rw [hob1]; decide)) (pf_K ef26) rfl 2 (by decide) (hts _ z_681) (fun _ h9 => h9) rfl d_Walk_allHold_18 ?_
            refine lv_astore_nN (lv' := [(3, .null), (0, .ref wk), (2, .ref cu)]) hx hb d_Walk_allHold_21 rfl hl (by decide) rfl (fun ls hl => ?_)
            refine lv_goto (tgt := 2) hx hb d_Walk_allHold_22 (by decide) ?_
            exact ih (none, s25, g25, n25) _ _ _ ⟨(fun b h => nomatch h), by show sp ≤ s25; omega, hW25⟩ (chL_lt (hO.inL (a := ob) (by rw [hob1]; decide)) (fun b h => nomatch h)) hP hD hS (lv_sub hl [1, 2, 0] rfl)
          · refine vq_get (D := (dC, dI)) (ci := 0) (v := .ref b27) (C := R_Condition) (T := F_Condition) (N := 6) hx hb hts in_Condition hown hK hP (hO.inL (a := ob) (by rw [hob1]; decide)) (pf_K ef26) rfl 2 (by decide) (hts _ z_681) (fun _ h9 => h9) rfl d_Walk_allHold_18 ?_
            refine lv_astore_n (lv' := [(3, .ref b27), (0, .ref wk), (2, .ref cu)]) hx hb d_Walk_allHold_21 rfl hl (by decide) rfl (fun ls hl => ?_)
            refine lv_goto (tgt := 2) hx hb d_Walk_allHold_22 (by decide) ?_
            exact ih ((some b27), s25, g25, n25) _ _ _ ⟨(fun b h => by cases h; exact ⟨(hv26.2.1 b27 rfl).1, Nat.le_trans (hv26.2.1 b27 rfl).2.1 hob2⟩), by show sp ≤ s25; omega, hW25⟩ (chL_lt (hO.inL (a := ob) (by rw [hob1]; decide)) (fun b h => by cases h; exact (hv26.2.1 b27 rfl).2.2)) hP hD hS (lv_sub hl [1, 2, 0] rfl)
        · refine lv_iconst (v := 0) hx hb d_Walk_allHold_15 (by decide) ?_
          refine w_same (fun hq => ?_)
          refine W.widen (k := 1) (n := 6) (Nat.le_of_ble_eq_true rfl) (Nat.le_of_ble_eq_true rfl) ?_
          refine vx_ret ?_
          exact W.zret (v := 0) hx hb hr rfl (fun t9 ht hW => ⟨⟨0, (s25, g25, n25), rfl, ⟨(Or.inl rfl), by show sp ≤ s25; omega, hW25⟩, ⟨by rw [ht]; exact hP, va_K.moved hW.alike hK, hD⟩, by rw [ht]; exact hq⟩, hS.F ht⟩) hS.2.2 d_Walk_allHold_16
set_option maxHeartbeats 4000000 in
set_option maxRecDepth 100000 in
/-- Walk.anyHolds, of nothing -/
theorem c_Walk_anyHolds0 (l : Launch) (hl9 : l.stackTraces = false) (K : Nat → Nat × Nat) (dC : Nat → ClassId) (dI : Nat → Nat → Nat) (sz : Heap) (cI cV : ClassId) (E lv : Nat → Nat) (L : List Nat) (f : Nat → va_E) (hO : PO cI cV E lv L f) (hN1 : ∀ a, E a ≠ 1) (wk wl rt : Nat) (hrt : isF E rt) (tp sp : Nat) (g : Nat → Option Nat) (ν : Nat → Int64) (hW9 : WI E tp sp g) (n : Nat) (cu : Nat) (hcu : isF E cu) : vx_Met l y_Walk_anyHolds (k_Walk_anyHolds :: gtbl) ({ frames := 59 + 5 * n, cells := 1, slots := 6, locals := 2460 + 200 * n }) (va_Pc [.ref wk, .null, .ref cu] (ml K dC dI ([(wk, .inr (10, [.ref wl, .int (nI tp), .int (nI sp), .ref rt])), (wl, .inl (cV, 10000, .inr (.inr (.inr (.inr g)))))] ++ va_pl L (pf f ν)) [(cI, .int), (cV, .object "QueryBench$Value")] sz)) (va_Qi (fun (r : Int32) (u : Nat × (Nat → Option Nat) × (Nat → Int64)) => Bo r ∧ sp ≤ u.1 ∧ WI E tp u.1 u.2.1) (fun u t9 => mz dC dI ([(wk, .inr (10, [.ref wl, .int (nI tp), .int (nI u.1), .ref rt])), (wl, .inl (cV, 10000, .inr (.inr (.inr (.inr u.2.1)))))] ++ va_pl L (pf f u.2.2)) [(cI, .int), (cV, .object "QueryBench$Value")] (va_A ([(wk, .inr (10, [.ref wl, .int (nI tp), .int (nI sp), .ref rt])), (wl, .inl (cV, 10000, .inr (.inr (.inr (.inr g)))))] ++ va_pl L (pf f ν)) sz.size) t9 ∧ szk sz t9.heap (0) (0)) (va_A ([(wk, .inr (10, [.ref wl, .int (nI tp), .int (nI sp), .ref rt])), (wl, .inl (cV, 10000, .inr (.inr (.inr (.inr g)))))] ++ va_pl L (pf f ν)) sz.size)) (vx_X (fun (u : Int32 × Int32 × (Nat → Option Nat) × (Nat → Int64)) => True) (fun En u t9 => En = IOB ∧ mz dC dI ([(wk, .inr (10, [.ref wl, .int u.1, .int u.2.1, .ref rt])), (wl, .inl (cV, 10000, .inr (.inr (.inr (.inr u.2.2.1)))))] ++ va_pl L (pf f u.2.2.2)) [(cI, .int), (cV, .object "QueryBench$Value")] (va_A ([(wk, .inr (10, [.ref wl, .int (nI tp), .int (nI sp), .ref rt])), (wl, .inl (cV, 10000, .inr (.inr (.inr (.inr g)))))] ++ va_pl L (pf f ν)) sz.size) t9) (va_A ([(wk, .inr (10, [.ref wl, .int (nI tp), .int (nI sp), .ref rt])), (wl, .inl (cV, 10000, .inr (.inr (.inr (.inr g)))))] ++ va_pl L (pf f ν)) sz.size)) (1) (6) (va_A ([(wk, .inr (10, [.ref wl, .int (nI tp), .int (nI sp), .ref rt])), (wl, .inl (cV, 10000, .inr (.inr (.inr (.inr g)))))] ++ va_pl L (pf f ν)) sz.size) := by
  refine vx_ofW (cc := b_Walk_anyHolds) (maxL := 4) (ret := (some .boolean)) (by decide) rfl ?_
  intro p e s m args below meth c s₁ B hml hex hv
  obtain ⟨rfl, ⟨hsz, hP, hK, hD0⟩, hN, hZ, hC, hV⟩ := hv
  have hx := B.exec
  have hb := B.bytes
  have hr := B.returns
  have hts0 := atoms_spec (ws := k_Walk_anyHolds :: gtbl) B.pre
  have hts := fun w h => hts0 w (List.mem_cons_of_mem _ h)
  have hown : s.vm.findClass R_Walk = some m.cls := findClass_of_methodNamed B.named
  have hlocks := B.notSynchronized
  subst hsz
  have hD := hD0.self (sz := s.heap.size)
  generalize hAe : va_A ([(wk, .inr (10, [.ref wl, .int (nI tp), .int (nI sp), .ref rt])), (wl, .inl (cV, 10000, .inr (.inr (.inr (.inr g)))))] ++ va_pl L (pf f ν)) s.heap.size = A at hD hZ hC ⊢
  have hA : ∀ q : Nat, s.heap.size ≤ q → A q := fun q h => by rw [← hAe]; exact Or.inr h
  have hS : va_S A s.heap s.heap [] := va_S.rf
  have hP : va_P (dC, dI) classes ([(wk, .inr (10, [.ref wl, .int (nI tp), .int (nI sp), .ref rt])), (wl, .inl (cV, 10000, .inr (.inr (.inr (.inr g)))))] ++ va_pl L (pf f ν)) s.heap := hP
  have hl := lv_entry ([.ref wk, .null, .ref cu]) (n := 4) (Nat.le_of_ble_eq_true rfl)
  rw [lg_entry_eq]
  generalize (lg_sl ([.ref wk, .null, .ref cu]) ++ List.replicate (4 - (lg_sl ([.ref wk, .null, .ref cu])).length) Slot.unset).toArray = ls at hl ⊢
  have hl : lv_has ls 4 [(0, .ref wk), (1, .null), (2, .ref cu)] := hl
  have hW0 := hW9
  have hW1 := hW9.1
  have hW2 := hW9.2.1
  refine lv_aload_nN hx hb d_Walk_anyHolds_0 rfl (lv_at hl 1 rfl) ?_
  refine lv_astore_nN (lv' := [(3, .null), (0, .ref wk), (1, .null), (2, .ref cu)]) hx hb d_Walk_anyHolds_1 rfl hl (by decide) rfl (fun ls hl => ?_)
  refine lv_aload_nN hx hb d_Walk_anyHolds_2 rfl (lv_at hl 0 rfl) ?_
  refine lv_ifnullN (tgt := 25) hx hb d_Walk_anyHolds_3 (by decide) ?_
  refine lv_iconst (v := 0) hx hb d_Walk_anyHolds_25 (by decide) ?_
  refine w_same (fun hq => ?_)
  refine W.widen (k := 1) (n := 6) (Nat.le_of_ble_eq_true rfl) (Nat.le_of_ble_eq_true rfl) ?_
  refine vx_ret ?_
  exact W.zret (v := 0) hx hb hr rfl (fun t9 ht hW => ⟨⟨0, (sp, g, ν), rfl, ⟨(Or.inl rfl), by show sp ≤ sp; omega, hW9⟩, ⟨by rw [ht]; exact hP, va_K.moved hW.alike hK, hD⟩, by rw [ht]; exact hq⟩, hS.F ht⟩) hS.2.2 d_Walk_anyHolds_26
set_option maxHeartbeats 4000000 in
set_option maxRecDepth 100000 in
/-- Walk.allHold, of nothing -/
theorem c_Walk_allHold0 (l : Launch) (hl9 : l.stackTraces = false) (K : Nat → Nat × Nat) (dC : Nat → ClassId) (dI : Nat → Nat → Nat) (sz : Heap) (cI cV : ClassId) (E lv : Nat → Nat) (L : List Nat) (f : Nat → va_E) (hO : PO cI cV E lv L f) (hN1 : ∀ a, E a ≠ 1) (wk wl rt : Nat) (hrt : isF E rt) (tp sp : Nat) (g : Nat → Option Nat) (ν : Nat → Int64) (hW9 : WI E tp sp g) (n : Nat) (cu : Nat) (hcu : isF E cu) : vx_Met l y_Walk_allHold (k_Walk_allHold :: gtbl) ({ frames := 59 + 5 * n, cells := 1, slots := 6, locals := 2460 + 200 * n }) (va_Pc [.ref wk, .null, .ref cu] (ml K dC dI ([(wk, .inr (10, [.ref wl, .int (nI tp), .int (nI sp), .ref rt])), (wl, .inl (cV, 10000, .inr (.inr (.inr (.inr g)))))] ++ va_pl L (pf f ν)) [(cI, .int), (cV, .object "QueryBench$Value")] sz)) (va_Qi (fun (r : Int32) (u : Nat × (Nat → Option Nat) × (Nat → Int64)) => Bo r ∧ sp ≤ u.1 ∧ WI E tp u.1 u.2.1) (fun u t9 => mz dC dI ([(wk, .inr (10, [.ref wl, .int (nI tp), .int (nI u.1), .ref rt])), (wl, .inl (cV, 10000, .inr (.inr (.inr (.inr u.2.1)))))] ++ va_pl L (pf f u.2.2)) [(cI, .int), (cV, .object "QueryBench$Value")] (va_A ([(wk, .inr (10, [.ref wl, .int (nI tp), .int (nI sp), .ref rt])), (wl, .inl (cV, 10000, .inr (.inr (.inr (.inr g)))))] ++ va_pl L (pf f ν)) sz.size) t9 ∧ szk sz t9.heap (0) (0)) (va_A ([(wk, .inr (10, [.ref wl, .int (nI tp), .int (nI sp), .ref rt])), (wl, .inl (cV, 10000, .inr (.inr (.inr (.inr g)))))] ++ va_pl L (pf f ν)) sz.size)) (vx_X (fun (u : Int32 × Int32 × (Nat → Option Nat) × (Nat → Int64)) => True) (fun En u t9 => En = IOB ∧ mz dC dI ([(wk, .inr (10, [.ref wl, .int u.1, .int u.2.1, .ref rt])), (wl, .inl (cV, 10000, .inr (.inr (.inr (.inr u.2.2.1)))))] ++ va_pl L (pf f u.2.2.2)) [(cI, .int), (cV, .object "QueryBench$Value")] (va_A ([(wk, .inr (10, [.ref wl, .int (nI tp), .int (nI sp), .ref rt])), (wl, .inl (cV, 10000, .inr (.inr (.inr (.inr g)))))] ++ va_pl L (pf f ν)) sz.size) t9) (va_A ([(wk, .inr (10, [.ref wl, .int (nI tp), .int (nI sp), .ref rt])), (wl, .inl (cV, 10000, .inr (.inr (.inr (.inr g)))))] ++ va_pl L (pf f ν)) sz.size)) (1) (6) (va_A ([(wk, .inr (10, [.ref wl, .int (nI tp), .int (nI sp), .ref rt])), (wl, .inl (cV, 10000, .inr (.inr (.inr (.inr g)))))] ++ va_pl L (pf f ν)) sz.size) := by
  refine vx_ofW (cc := b_Walk_allHold) (maxL := 4) (ret := (some .boolean)) (by decide) rfl ?_
  intro p e s m args below meth c s₁ B hml hex hv
  obtain ⟨rfl, ⟨hsz, hP, hK, hD0⟩, hN, hZ, hC, hV⟩ := hv
  have hx := B.exec
  have hb := B.bytes
  have hr := B.returns
  have hts0 := atoms_spec (ws := k_Walk_allHold :: gtbl) B.pre
  have hts := fun w h => hts0 w (List.mem_cons_of_mem _ h)
  have hown : s.vm.findClass R_Walk = some m.cls := findClass_of_methodNamed B.named
  have hlocks := B.notSynchronized
  subst hsz
  have hD := hD0.self (sz := s.heap.size)
  generalize hAe : va_A ([(wk, .inr (10, [.ref wl, .int (nI tp), .int (nI sp), .ref rt])), (wl, .inl (cV, 10000, .inr (.inr (.inr (.inr g)))))] ++ va_pl L (pf f ν)) s.heap.size = A at hD hZ hC ⊢
  have hA : ∀ q : Nat, s.heap.size ≤ q → A q := fun q h => by rw [← hAe]; exact Or.inr h
  have hS : va_S A s.heap s.heap [] := va_S.rf
  have hP : va_P (dC, dI) classes ([(wk, .inr (10, [.ref wl, .int (nI tp), .int (nI sp), .ref rt])), (wl, .inl (cV, 10000, .inr (.inr (.inr (.inr g)))))] ++ va_pl L (pf f ν)) s.heap := hP
  have hl := lv_entry ([.ref wk, .null, .ref cu]) (n := 4) (Nat.le_of_ble_eq_true rfl)
  rw [lg_entry_eq]
  generalize (lg_sl ([.ref wk, .null, .ref cu]) ++ List.replicate (4 - (lg_sl ([.ref wk, .null, .ref cu])).length) Slot.unset).toArray = ls at hl ⊢
  have hl : lv_has ls 4 [(0, .ref wk), (1, .null), (2, .ref cu)] := hl
  have hW0 := hW9
  have hW1 := hW9.1
  have hW2 := hW9.2.1
  refine lv_aload_nN hx hb d_Walk_allHold_0 rfl (lv_at hl 1 rfl) ?_
  refine lv_astore_nN (lv' := [(3, .null), (0, .ref wk), (1, .null), (2, .ref cu)]) hx hb d_Walk_allHold_1 rfl hl (by decide) rfl (fun ls hl => ?_)
  refine lv_aload_nN hx hb d_Walk_allHold_2 rfl (lv_at hl 0 rfl) ?_
  refine lv_ifnullN (tgt := 25) hx hb d_Walk_allHold_3 (by decide) ?_
  refine lv_iconst (v := 1) hx hb d_Walk_allHold_25 (by decide) ?_
  refine w_same (fun hq => ?_)
  refine W.widen (k := 1) (n := 6) (Nat.le_of_ble_eq_true rfl) (Nat.le_of_ble_eq_true rfl) ?_
  refine vx_ret ?_
  exact W.zret (v := 1) hx hb hr rfl (fun t9 ht hW => ⟨⟨1, (sp, g, ν), rfl, ⟨(Or.inr rfl), by show sp ≤ sp; omega, hW9⟩, ⟨by rw [ht]; exact hP, va_K.moved hW.alike hK, hD⟩, by rw [ht]; exact hq⟩, hS.F ht⟩) hS.2.2 d_Walk_allHold_26
abbrev b_Walk_nodeCount : ByteArray := prog_12_method_19_code
def y_Walk_nodeCount : MethodName := ⟨"QueryBench$Walk", "nodeCount", "(LQueryBench$Query;LQueryBench$Value;)I"⟩
abbrev k_Walk_nodeCount : Cond := .code y_Walk_nodeCount b_Walk_nodeCount 6 (some .int)
theorem i_Walk_nodeCount : k_Walk_nodeCount ∈ gtbl := gt_in 910 (by decide +kernel) (by decide +kernel)
theorem d_Walk_nodeCount_0 : decode b_Walk_nodeCount 0 = .ok (.aload_n 0, 1) := by decide +kernel
theorem d_Walk_nodeCount_1 : decode b_Walk_nodeCount 1 = .ok (.getfield 21, 3) := by decide +kernel
theorem d_Walk_nodeCount_4 : decode b_Walk_nodeCount 4 = .ok (.istore_n 3, 1) := by decide +kernel
theorem d_Walk_nodeCount_5 : decode b_Walk_nodeCount 5 = .ok (.aload_n 0, 1) := by decide +kernel
theorem d_Walk_nodeCount_6 : decode b_Walk_nodeCount 6 = .ok (.aload_n 1, 1) := by decide +kernel
theorem d_Walk_nodeCount_7 : decode b_Walk_nodeCount 7 = .ok (.aload_n 2, 1) := by decide +kernel
theorem d_Walk_nodeCount_8 : decode b_Walk_nodeCount 8 = .ok (.invokevirtual 28, 3) := by decide +kernel
theorem d_Walk_nodeCount_11 : decode b_Walk_nodeCount 11 = .ok (.istore 4, 2) := by decide +kernel
theorem d_Walk_nodeCount_13 : decode b_Walk_nodeCount 13 = .ok (.aload_n 0, 1) := by decide +kernel
theorem d_Walk_nodeCount_14 : decode b_Walk_nodeCount 14 = .ok (.getfield 21, 3) := by decide +kernel
theorem d_Walk_nodeCount_17 : decode b_Walk_nodeCount 17 = .ok (.iload 4, 2) := by decide +kernel
theorem d_Walk_nodeCount_19 : decode b_Walk_nodeCount 19 = .ok (.isub, 1) := by decide +kernel
theorem d_Walk_nodeCount_20 : decode b_Walk_nodeCount 20 = .ok (.istore 5, 2) := by decide +kernel
theorem d_Walk_nodeCount_22 : decode b_Walk_nodeCount 22 = .ok (.aload_n 0, 1) := by decide +kernel
theorem d_Walk_nodeCount_23 : decode b_Walk_nodeCount 23 = .ok (.iload_n 3, 1) := by decide +kernel
theorem d_Walk_nodeCount_24 : decode b_Walk_nodeCount 24 = .ok (.putfield 21, 3) := by decide +kernel
theorem d_Walk_nodeCount_27 : decode b_Walk_nodeCount 27 = .ok (.iload 5, 2) := by decide +kernel
theorem d_Walk_nodeCount_29 : decode b_Walk_nodeCount 29 = .ok (.ireturn, 1) := by decide +kernel
set_option maxHeartbeats 4000000 in
set_option maxRecDepth 100000 in
/-- Walk.nodeCount -/
theorem c_Walk_nodeCount (l : Launch) (hl9 : l.stackTraces = false) (K : Nat → Nat × Nat) (dC : Nat → ClassId) (dI : Nat → Nat → Nat) (sz : Heap) (cI cV : ClassId) (E lv : Nat → Nat) (L : List Nat) (f : Nat → va_E) (hO : PO cI cV E lv L f) (hN1 : ∀ a, E a ≠ 1) (wk wl rt : Nat) (hrt : isF E rt) (tp sp : Nat) (g : Nat → Option Nat) (ν : Nat → Int64) (hW9 : WI E tp sp g) (n : Nat) (hn : 0 < n) (HI : NDC l K dC dI cI cV E lv L f wk wl rt (n - 1)) (qu : Nat) (hqu : E qu = 7) (hlq : lv qu ≤ n - 1) (cu : Nat) (hcu : isF E cu) : vx_Met l y_Walk_nodeCount (k_Walk_nodeCount :: gtbl) ({ frames := 59 + 5 * n, cells := 1, slots := 6, locals := 2460 + 200 * n }) (va_Pc [.ref wk, .ref qu, .ref cu] (ml K dC dI ([(wk, .inr (10, [.ref wl, .int (nI tp), .int (nI sp), .ref rt])), (wl, .inl (cV, 10000, .inr (.inr (.inr (.inr g)))))] ++ va_pl L (pf f ν)) [(cI, .int), (cV, .object "QueryBench$Value")] sz)) (va_Qi (fun (r : Int32) (u : Nat × (Nat → Option Nat) × (Nat → Int64)) => sp ≤ u.1 ∧ WI E tp u.1 u.2.1) (fun u t9 => mz dC dI ([(wk, .inr (10, [.ref wl, .int (nI tp), .int (nI u.1), .ref rt])), (wl, .inl (cV, 10000, .inr (.inr (.inr (.inr u.2.1)))))] ++ va_pl L (pf f u.2.2)) [(cI, .int), (cV, .object "QueryBench$Value")] (va_A ([(wk, .inr (10, [.ref wl, .int (nI tp), .int (nI sp), .ref rt])), (wl, .inl (cV, 10000, .inr (.inr (.inr (.inr g)))))] ++ va_pl L (pf f ν)) sz.size) t9 ∧ szk sz t9.heap (0) (0)) (va_A ([(wk, .inr (10, [.ref wl, .int (nI tp), .int (nI sp), .ref rt])), (wl, .inl (cV, 10000, .inr (.inr (.inr (.inr g)))))] ++ va_pl L (pf f ν)) sz.size)) (vx_X (fun (u : Int32 × Int32 × (Nat → Option Nat) × (Nat → Int64)) => True) (fun En u t9 => En = IOB ∧ mz dC dI ([(wk, .inr (10, [.ref wl, .int u.1, .int u.2.1, .ref rt])), (wl, .inl (cV, 10000, .inr (.inr (.inr (.inr u.2.2.1)))))] ++ va_pl L (pf f u.2.2.2)) [(cI, .int), (cV, .object "QueryBench$Value")] (va_A ([(wk, .inr (10, [.ref wl, .int (nI tp), .int (nI sp), .ref rt])), (wl, .inl (cV, 10000, .inr (.inr (.inr (.inr g)))))] ++ va_pl L (pf f ν)) sz.size) t9) (va_A ([(wk, .inr (10, [.ref wl, .int (nI tp), .int (nI sp), .ref rt])), (wl, .inl (cV, 10000, .inr (.inr (.inr (.inr g)))))] ++ va_pl L (pf f ν)) sz.size)) (1) (6) (va_A ([(wk, .inr (10, [.ref wl, .int (nI tp), .int (nI sp), .ref rt])), (wl, .inl (cV, 10000, .inr (.inr (.inr (.inr g)))))] ++ va_pl L (pf f ν)) sz.size) := by
  refine vx_ofW (cc := b_Walk_nodeCount) (maxL := 6) (ret := (some .int)) (by decide) rfl ?_
  intro p e s m args below meth c s₁ B hml hex hv
  obtain ⟨rfl, ⟨hsz, hP, hK, hD0⟩, hN, hZ, hC, hV⟩ := hv
  have hx := B.exec
  have hb := B.bytes
  have hr := B.returns
  have hts0 := atoms_spec (ws := k_Walk_nodeCount :: gtbl) B.pre
  have hts := fun w h => hts0 w (List.mem_cons_of_mem _ h)
  have hown : s.vm.findClass R_Walk = some m.cls := findClass_of_methodNamed B.named
  have hlocks := B.notSynchronized
  subst hsz
  have hD := hD0.self (sz := s.heap.size)
  generalize hAe : va_A ([(wk, .inr (10, [.ref wl, .int (nI tp), .int (nI sp), .ref rt])), (wl, .inl (cV, 10000, .inr (.inr (.inr (.inr g)))))] ++ va_pl L (pf f ν)) s.heap.size = A at hD hZ hC ⊢
  have hA : ∀ q : Nat, s.heap.size ≤ q → A q := fun q h => by rw [← hAe]; exact Or.inr h
  have hS : va_S A s.heap s.heap [] := va_S.rf
  have hP : va_P (dC, dI) classes ([(wk, .inr (10, [.ref wl, .int (nI tp), .int (nI sp), .ref rt])), (wl, .inl (cV, 10000, .inr (.inr (.inr (.inr g)))))] ++ va_pl L (pf f ν)) s.heap := hP
  have hl := lv_entry ([.ref wk, .ref qu, .ref cu]) (n := 6) (Nat.le_of_ble_eq_true rfl)
  rw [lg_entry_eq]
  generalize (lg_sl ([.ref wk, .ref qu, .ref cu]) ++ List.replicate (6 - (lg_sl ([.ref wk, .ref qu, .ref cu])).length) Slot.unset).toArray = ls at hl ⊢
  have hl : lv_has ls 6 [(0, .ref wk), (1, .ref qu), (2, .ref cu)] := hl
  have hW0 := hW9
  have hW1 := hW9.1
  have hW2 := hW9.2.1
  refine lv_aload_n hx hb d_Walk_nodeCount_0 rfl (lv_at hl 0 rfl) ?_
  refine va_get (D := (dC, dI)) (ci := 10) (v := .int (nI tp)) (C := R_Walk) (T := F_Walk) (N := 4) hx hb hts in_Walk hown hK hP 0 rfl rfl 1 (by decide) (hts _ z_117) (fun _ h9 => h9) rfl d_Walk_nodeCount_1 ?_
  refine lv_istore_n (lv' := [(3, .int (nI tp)), (0, .ref wk), (1, .ref qu), (2, .ref cu)]) hx hb d_Walk_nodeCount_4 rfl hl (by decide) rfl (fun ls hl => ?_)
  refine lv_aload_n hx hb d_Walk_nodeCount_5 rfl (lv_at hl 1 rfl) ?_
  refine lv_aload_n hx hb d_Walk_nodeCount_6 rfl (lv_at hl 2 rfl) ?_
  refine lv_aload_n hx hb d_Walk_nodeCount_7 rfl (lv_at hl 3 rfl) ?_
  have hPc := hP.part (cx := [(wk, .inr (10, [.ref wl, .int (nI tp), .int (nI sp), .ref rt])), (wl, .inl (cV, 10000, .inr (.inr (.inr (.inr g)))))]) [0, 1] rfl
  have hDc := hD.part (cx := [(wk, .inr (10, [.ref wl, .int (nI tp), .int (nI sp), .ref rt])), (wl, .inl (cV, 10000, .inr (.inr (.inr (.inr g)))))]) [0, 1] (by decide) rfl
  have hFc := va_freeP (cx := [(wk, .inr (10, [.ref wl, .int (nI tp), .int (nI sp), .ref rt])), (wl, .inl (cV, 10000, .inr (.inr (.inr (.inr g)))))]) hD hS hA [0, 1] rfl
  have hKc := hK.sub (tys' := [(cI, .int), (cV, .object "QueryBench$Value")]) [0, 1] rfl
  refine w_same (fun hq0 => ?_)
  refine vx_calli (vx_runV (As := [.ref qu, .ref cu]) (rest := []) ⟨hx, hb, hml, hown, hts⟩ (HI s.heap tp sp g ν hW9 qu cu hqu hlq hcu) (cwV 2 hts (gt_V (own := R_Walk) (C := R_Walk) (i := 28) (y := y_Walk_nodes) i_Walk_nodes z_835 z_837 (gt_sel (y := y_Walk_nodes) (n := 4) (by decide +kernel)) w_5) rfl rfl rfl (by decide +kernel) ⟨by show 60 + 5 * (n - 1) + 1 ≤ 59 + 5 * n; omega, by show 8 + (7 + 11) + (2500 + 200 * (n - 1)) ≤ 2460 + 200 * n; omega⟩) ⟨ml_blind, va_recv hK hP (ci := 10) (q0 := 0) rfl rfl, fun U hU hW => ⟨rfl, ⟨hU, by rw [hU]; exact hPc, va_K.moved hW.alike hKc, hDc.weaken (fun _ _ _ _ => trivial)⟩, hN.warm hW, by rw [hU]; exact ZX.moved' hW.alike (ZX.narrow' (ZX.kept' hZ hS.2.1) hFc), by rw [hU]; exact CE.call hC hS.2.1 hFc hW, va_AO.moved hW.alike hV⟩⟩ rfl rfl hl.1 rfl (lv_room (Nat.le_of_ble_eq_true rfl)) d_Walk_nodeCount_8 ⟨Nat.le_of_ble_eq_true rfl, Nat.le_of_ble_eq_true rfl⟩) hS (fun q _ h => hFc q h) hFc (fun q _ h => hFc q h) (fun En ce q9 ⟨tx, sx, gx, nx⟩ t9 H1 locs ht hvm hw hB hz1 hk1 hS hce hcv hcl => ?_) (fun r21 ⟨t21, s21, g21, n21⟩ t9 H1 locs ht hvm hw hB hz1 hk1 hS => ?_)
  · obtain ⟨hEn, hP1, hK1, hD1⟩ := hB
    rw [ht] at hP1
    obtain ⟨hP, hD⟩ := va_joinP (wr := []) (rx := [(wk, .inr (10, [.ref wl, .int tx, .int sx, .ref rt])), (wl, .inl (cV, 10000, .inr (.inr (.inr (.inr gx)))))]) (pl1 := va_pl L (pf f nx)) hP hD [0, 1] [] rfl rfl (by decide) (by decide) hk1 hFc hP1 hD1
    generalize H1 = H at hP hS hce ⊢
    have hP : va_P (dC, dI) classes ([(wk, .inr (10, [.ref wl, .int tx, .int sx, .ref rt])), (wl, .inl (cV, 10000, .inr (.inr (.inr (.inr gx)))))] ++ va_pl L (pf f nx)) H := hP
    have hD : va_D A ([(wk, .inr (10, [.ref wl, .int tx, .int sx, .ref rt])), (wl, .inl (cV, 10000, .inr (.inr (.inr (.inr gx)))))] ++ va_pl L (pf f nx)) := hD
    exact vx_out (fun x hx => (hex x hx).elim) hlocks hce hcv hcl (fun t9 ht2 ha => ⟨(tx, sx, gx, nx), trivial, ⟨hEn, by rw [ht2]; exact hP, va_K.moved ha hK, hD⟩, hS.F ht2⟩) hS.2.2 (Nat.le_of_ble_eq_true rfl) (Nat.le_of_ble_eq_true rfl)
  · obtain ⟨⟨hP1, hK1, hD1⟩, hz9⟩ := hB
    rw [ht] at hP1
    rw [ht] at hz9
    refine w_tight (hq0.trans hz9) ?_
    have hq0 := hq0.trans hz9
    obtain ⟨hP, hD⟩ := va_joinP (wr := []) (rx := [(wk, .inr (10, [.ref wl, .int (nI t21), .int (nI s21), .ref rt])), (wl, .inl (cV, 10000, .inr (.inr (.inr (.inr g21)))))]) (pl1 := va_pl L (pf f n21)) hP hD [0, 1] [] rfl rfl (by decide) (by decide) hk1 hFc hP1 hD1
    generalize H1 = H at hP hS hq0 ⊢
    have hP : va_P (dC, dI) classes ([(wk, .inr (10, [.ref wl, .int (nI t21), .int (nI s21), .ref rt])), (wl, .inl (cV, 10000, .inr (.inr (.inr (.inr g21)))))] ++ va_pl L (pf f n21)) H := hP
    have hD : va_D A ([(wk, .inr (10, [.ref wl, .int (nI t21), .int (nI s21), .ref rt])), (wl, .inl (cV, 10000, .inr (.inr (.inr (.inr g21)))))] ++ va_pl L (pf f n21)) := hD
    obtain ⟨hr21, ha21, hb21, hW21⟩ := hw
    have ha21 : tp ≤ t21 := ha21
    have hb21 : sp ≤ s21 := hb21
    have hW21 : WI E t21 s21 g21 := hW21
    have hhW211 := hW21.1
    have hhW212 := hW21.2.1
    obtain ⟨fr, hfr1, hfr2⟩ := hr21
    have hfr2 : fr ≤ t21 := hfr2
    subst hfr1
    refine lv_istore (lv' := [(4, .int (nI fr)), (3, .int (nI tp)), (0, .ref wk), (1, .ref qu), (2, .ref cu)]) hx hb d_Walk_nodeCount_11 hl (by decide) rfl (fun ls hl => ?_)
    refine lv_aload_n hx hb d_Walk_nodeCount_13 rfl (lv_at hl 2 rfl) ?_
    refine va_get (D := (dC, dI)) (ci := 10) (v := .int (nI t21)) (C := R_Walk) (T := F_Walk) (N := 4) hx hb hts in_Walk hown hK hP 0 rfl rfl 1 (by decide) (hts _ z_117) (fun _ h9 => h9) rfl d_Walk_nodeCount_14 ?_
    refine lv_iload hx hb d_Walk_nodeCount_17 (lv_at hl 0 rfl) ?_
    refine lv_isub hx hb d_Walk_nodeCount_19 ?_
    refine lv_istore (lv' := [(5, .int ((nI t21) - (nI fr))), (4, .int (nI fr)), (3, .int (nI tp)), (0, .ref wk), (1, .ref qu), (2, .ref cu)]) hx hb d_Walk_nodeCount_20 hl (by decide) rfl (fun ls hl => ?_)
    refine lv_aload_n hx hb d_Walk_nodeCount_22 rfl (lv_at hl 3 rfl) ?_
    refine lv_iload_n hx hb d_Walk_nodeCount_23 rfl (lv_at hl 2 rfl) ?_
    refine va_put (D := (dC, dI)) (ci := 10) (v := .int (nI tp)) (ty := .int) (C := R_Walk) (T := F_Walk) (N := 4) hx hb hts in_Walk t_Walk t_Walk_ok n_Walk hown hK hP hD hS 0 rfl rfl 1 (by decide) (hts _ z_117) (fun _ h9 => h9) rfl (by decide +kernel) rfl rfl (Nat.le_of_ble_eq_true rfl) d_Walk_nodeCount_24 (fun H locs hP hD hS => ?_)
    have hP : va_P (dC, dI) classes ([(wk, .inr (10, [.ref wl, .int (nI tp), .int (nI s21), .ref rt])), (wl, .inl (cV, 10000, .inr (.inr (.inr (.inr g21)))))] ++ va_pl L (pf f n21)) H := hP
    have hD : va_D A ([(wk, .inr (10, [.ref wl, .int (nI tp), .int (nI s21), .ref rt])), (wl, .inl (cV, 10000, .inr (.inr (.inr (.inr g21)))))] ++ va_pl L (pf f n21)) := hD
    have hWc := WI.cut hW21 (show tp ≤ t21 by omega)
    refine lv_iload hx hb d_Walk_nodeCount_27 (lv_at hl 0 rfl) ?_
    refine w_same (fun hq => ?_)
    refine W.widen (k := 1) (n := 6) (Nat.le_of_ble_eq_true rfl) (Nat.le_of_ble_eq_true rfl) ?_
    refine vx_ret ?_
    exact W.iret (v := ((nI t21) - (nI fr))) hx hb hr (fun t9 ht hW => ⟨⟨((nI t21) - (nI fr)), (s21, g21, n21), rfl, ⟨by show sp ≤ s21; omega, hWc⟩, ⟨by rw [ht]; exact hP, va_K.moved hW.alike hK, hD⟩, by rw [ht]; exact hq⟩, hS.F ht⟩) hS.2.2 d_Walk_nodeCount_29
abbrev b_Walk_onlyNode : ByteArray := prog_12_method_20_code
def y_Walk_onlyNode : MethodName := ⟨"QueryBench$Walk", "onlyNode", "(LQueryBench$Query;LQueryBench$Value;)LQueryBench$Value;"⟩
abbrev k_Walk_onlyNode : Cond := .code y_Walk_onlyNode b_Walk_onlyNode 6 (some (.object "QueryBench$Value"))
theorem i_Walk_onlyNode : k_Walk_onlyNode ∈ gtbl := gt_in 922 (by decide +kernel) (by decide +kernel)
theorem d_Walk_onlyNode_0 : decode b_Walk_onlyNode 0 = .ok (.aload_n 0, 1) := by decide +kernel
theorem d_Walk_onlyNode_1 : decode b_Walk_onlyNode 1 = .ok (.getfield 21, 3) := by decide +kernel
theorem d_Walk_onlyNode_4 : decode b_Walk_onlyNode 4 = .ok (.istore_n 3, 1) := by decide +kernel
theorem d_Walk_onlyNode_5 : decode b_Walk_onlyNode 5 = .ok (.aload_n 0, 1) := by decide +kernel
theorem d_Walk_onlyNode_6 : decode b_Walk_onlyNode 6 = .ok (.aload_n 1, 1) := by decide +kernel
theorem d_Walk_onlyNode_7 : decode b_Walk_onlyNode 7 = .ok (.aload_n 2, 1) := by decide +kernel
theorem d_Walk_onlyNode_8 : decode b_Walk_onlyNode 8 = .ok (.invokevirtual 28, 3) := by decide +kernel
theorem d_Walk_onlyNode_11 : decode b_Walk_onlyNode 11 = .ok (.istore 4, 2) := by decide +kernel
theorem d_Walk_onlyNode_13 : decode b_Walk_onlyNode 13 = .ok (.aload_n 0, 1) := by decide +kernel
theorem d_Walk_onlyNode_14 : decode b_Walk_onlyNode 14 = .ok (.getfield 21, 3) := by decide +kernel
theorem d_Walk_onlyNode_17 : decode b_Walk_onlyNode 17 = .ok (.iload 4, 2) := by decide +kernel
theorem d_Walk_onlyNode_19 : decode b_Walk_onlyNode 19 = .ok (.isub, 1) := by decide +kernel
theorem d_Walk_onlyNode_20 : decode b_Walk_onlyNode 20 = .ok (.iconst 1, 1) := by decide +kernel
theorem d_Walk_onlyNode_21 : decode b_Walk_onlyNode 21 = .ok (.if_icmp .ne 13, 3) := by decide +kernel
theorem d_Walk_onlyNode_24 : decode b_Walk_onlyNode 24 = .ok (.aload_n 0, 1) := by decide +kernel
theorem d_Walk_onlyNode_25 : decode b_Walk_onlyNode 25 = .ok (.getfield 11, 3) := by decide +kernel
theorem d_Walk_onlyNode_28 : decode b_Walk_onlyNode 28 = .ok (.iload 4, 2) := by decide +kernel
theorem d_Walk_onlyNode_30 : decode b_Walk_onlyNode 30 = .ok (.aaload, 1) := by decide +kernel
theorem d_Walk_onlyNode_31 : decode b_Walk_onlyNode 31 = .ok (.goto 4, 3) := by decide +kernel
theorem d_Walk_onlyNode_34 : decode b_Walk_onlyNode 34 = .ok (.aconst_null, 1) := by decide +kernel
theorem d_Walk_onlyNode_35 : decode b_Walk_onlyNode 35 = .ok (.astore 5, 2) := by decide +kernel
theorem d_Walk_onlyNode_37 : decode b_Walk_onlyNode 37 = .ok (.aload_n 0, 1) := by decide +kernel
theorem d_Walk_onlyNode_38 : decode b_Walk_onlyNode 38 = .ok (.iload_n 3, 1) := by decide +kernel
theorem d_Walk_onlyNode_39 : decode b_Walk_onlyNode 39 = .ok (.putfield 21, 3) := by decide +kernel
theorem d_Walk_onlyNode_42 : decode b_Walk_onlyNode 42 = .ok (.aload 5, 2) := by decide +kernel
theorem d_Walk_onlyNode_44 : decode b_Walk_onlyNode 44 = .ok (.areturn, 1) := by decide +kernel
set_option maxHeartbeats 4000000 in
set_option maxRecDepth 100000 in
/-- Walk.onlyNode -/
theorem c_Walk_onlyNode (l : Launch) (hl9 : l.stackTraces = false) (K : Nat → Nat × Nat) (dC : Nat → ClassId) (dI : Nat → Nat → Nat) (sz : Heap) (cI cV : ClassId) (E lv : Nat → Nat) (L : List Nat) (f : Nat → va_E) (hO : PO cI cV E lv L f) (hN1 : ∀ a, E a ≠ 1) (wk wl rt : Nat) (hrt : isF E rt) (tp sp : Nat) (g : Nat → Option Nat) (ν : Nat → Int64) (hW9 : WI E tp sp g) (n : Nat) (hn : 0 < n) (HI : NDC l K dC dI cI cV E lv L f wk wl rt (n - 1)) (qu : Nat) (hqu : E qu = 7) (hlq : lv qu ≤ n - 1) (cu : Nat) (hcu : isF E cu) : vx_Met l y_Walk_onlyNode (k_Walk_onlyNode :: gtbl) ({ frames := 59 + 5 * n, cells := 1, slots := 6, locals := 2460 + 200 * n }) (va_Pc [.ref wk, .ref qu, .ref cu] (ml K dC dI ([(wk, .inr (10, [.ref wl, .int (nI tp), .int (nI sp), .ref rt])), (wl, .inl (cV, 10000, .inr (.inr (.inr (.inr g)))))] ++ va_pl L (pf f ν)) [(cI, .int), (cV, .object "QueryBench$Value")] sz)) (va_Qq (fun (r : Option Nat) (u : Nat × (Nat → Option Nat) × (Nat → Int64)) => oR (isF E) r ∧ sp ≤ u.1 ∧ WI E tp u.1 u.2.1) (fun u t9 => mz dC dI ([(wk, .inr (10, [.ref wl, .int (nI tp), .int (nI u.1), .ref rt])), (wl, .inl (cV, 10000, .inr (.inr (.inr (.inr u.2.1)))))] ++ va_pl L (pf f u.2.2)) [(cI, .int), (cV, .object "QueryBench$Value")] (va_A ([(wk, .inr (10, [.ref wl, .int (nI tp), .int (nI sp), .ref rt])), (wl, .inl (cV, 10000, .inr (.inr (.inr (.inr g)))))] ++ va_pl L (pf f ν)) sz.size) t9 ∧ szk sz t9.heap (0) (0)) (va_A ([(wk, .inr (10, [.ref wl, .int (nI tp), .int (nI sp), .ref rt])), (wl, .inl (cV, 10000, .inr (.inr (.inr (.inr g)))))] ++ va_pl L (pf f ν)) sz.size)) (vx_X (fun (u : Int32 × Int32 × (Nat → Option Nat) × (Nat → Int64)) => True) (fun En u t9 => En = IOB ∧ mz dC dI ([(wk, .inr (10, [.ref wl, .int u.1, .int u.2.1, .ref rt])), (wl, .inl (cV, 10000, .inr (.inr (.inr (.inr u.2.2.1)))))] ++ va_pl L (pf f u.2.2.2)) [(cI, .int), (cV, .object "QueryBench$Value")] (va_A ([(wk, .inr (10, [.ref wl, .int (nI tp), .int (nI sp), .ref rt])), (wl, .inl (cV, 10000, .inr (.inr (.inr (.inr g)))))] ++ va_pl L (pf f ν)) sz.size) t9) (va_A ([(wk, .inr (10, [.ref wl, .int (nI tp), .int (nI sp), .ref rt])), (wl, .inl (cV, 10000, .inr (.inr (.inr (.inr g)))))] ++ va_pl L (pf f ν)) sz.size)) (1) (6) (va_A ([(wk, .inr (10, [.ref wl, .int (nI tp), .int (nI sp), .ref rt])), (wl, .inl (cV, 10000, .inr (.inr (.inr (.inr g)))))] ++ va_pl L (pf f ν)) sz.size) := by
  refine vx_ofW (cc := b_Walk_onlyNode) (maxL := 6) (ret := (some (.object "QueryBench$Value"))) (by decide) rfl ?_
  intro p e s m args below meth c s₁ B hml hex hv
  obtain ⟨rfl, ⟨hsz, hP, hK, hD0⟩, hN, hZ, hC, hV⟩ := hv
  have hx := B.exec
  have hb := B.bytes
  have hr := B.returns
  have hts0 := atoms_spec (ws := k_Walk_onlyNode :: gtbl) B.pre
  have hts := fun w h => hts0 w (List.mem_cons_of_mem _ h)
  have hown : s.vm.findClass R_Walk = some m.cls := findClass_of_methodNamed B.named
  have hlocks := B.notSynchronized
  subst hsz
  have hD := hD0.self (sz := s.heap.size)
  generalize hAe : va_A ([(wk, .inr (10, [.ref wl, .int (nI tp), .int (nI sp), .ref rt])), (wl, .inl (cV, 10000, .inr (.inr (.inr (.inr g)))))] ++ va_pl L (pf f ν)) s.heap.size = A at hD hZ hC ⊢
  have hA : ∀ q : Nat, s.heap.size ≤ q → A q := fun q h => by rw [← hAe]; exact Or.inr h
  have hS : va_S A s.heap s.heap [] := va_S.rf
  have hP : va_P (dC, dI) classes ([(wk, .inr (10, [.ref wl, .int (nI tp), .int (nI sp), .ref rt])), (wl, .inl (cV, 10000, .inr (.inr (.inr (.inr g)))))] ++ va_pl L (pf f ν)) s.heap := hP
  have hl := lv_entry ([.ref wk, .ref qu, .ref cu]) (n := 6) (Nat.le_of_ble_eq_true rfl)
  rw [lg_entry_eq]
  generalize (lg_sl ([.ref wk, .ref qu, .ref cu]) ++ List.replicate (6 - (lg_sl ([.ref wk, .ref qu, .ref cu])).length) Slot.unset).toArray = ls at hl ⊢
  have hl : lv_has ls 6 [(0, .ref wk), (1, .ref qu), (2, .ref cu)] := hl
  have hW0 := hW9
  have hW1 := hW9.1
  have hW2 := hW9.2.1
  refine lv_aload_n hx hb d_Walk_onlyNode_0 rfl (lv_at hl 0 rfl) ?_
  refine va_get (D := (dC, dI)) (ci := 10) (v := .int (nI tp)) (C := R_Walk) (T := F_Walk) (N := 4) hx hb hts in_Walk hown hK hP 0 rfl rfl 1 (by decide) (hts _ z_117) (fun _ h9 => h9) rfl d_Walk_onlyNode_1 ?_
  refine lv_istore_n (lv' := [(3, .int (nI tp)), (0, .ref wk), (1, .ref qu), (2, .ref cu)]) hx hb d_Walk_onlyNode_4 rfl hl (by decide) rfl (fun ls hl => ?_)
  refine lv_aload_n hx hb d_Walk_onlyNode_5 rfl (lv_at hl 1 rfl) ?_
  refine lv_aload_n hx hb d_Walk_onlyNode_6 rfl (lv_at hl 2 rfl) ?_
  refine lv_aload_n hx hb d_Walk_onlyNode_7 rfl (lv_at hl 3 rfl) ?_
  have hPc := hP.part (cx := [(wk, .inr (10, [.ref wl, .int (nI tp), .int (nI sp), .ref rt])), (wl, .inl (cV, 10000, .inr (.inr (.inr (.inr g)))))]) [0, 1] rfl
  have hDc := hD.part (cx := [(wk, .inr (10, [.ref wl, .int (nI tp), .int (nI sp), .ref rt])), (wl, .inl (cV, 10000, .inr (.inr (.inr (.inr g)))))]) [0, 1] (by decide) rfl
  have hFc := va_freeP (cx := [(wk, .inr (10, [.ref wl, .int (nI tp), .int (nI sp), .ref rt])), (wl, .inl (cV, 10000, .inr (.inr (.inr (.inr g)))))]) hD hS hA [0, 1] rfl
  have hKc := hK.sub (tys' := [(cI, .int), (cV, .object "QueryBench$Value")]) [0, 1] rfl
  refine w_same (fun hq0 => ?_)
  refine vx_calli (vx_runV (As := [.ref qu, .ref cu]) (rest := []) ⟨hx, hb, hml, hown, hts⟩ (HI s.heap tp sp g ν hW9 qu cu hqu hlq hcu) (cwV 2 hts (gt_V (own := R_Walk) (C := R_Walk) (i := 28) (y := y_Walk_nodes) i_Walk_nodes z_835 z_837 (gt_sel (y := y_Walk_nodes) (n := 4) (by decide +kernel)) w_5) rfl rfl rfl (by decide +kernel) ⟨by show 60 + 5 * (n - 1) + 1 ≤ 59 + 5 * n; omega, by show 8 + (7 + 11) + (2500 + 200 * (n - 1)) ≤ 2460 + 200 * n; omega⟩) ⟨ml_blind, va_recv hK hP (ci := 10) (q0 := 0) rfl rfl, fun U hU hW => ⟨rfl, ⟨hU, by rw [hU]; exact hPc, va_K.moved hW.alike hKc, hDc.weaken (fun _ _ _ _ => trivial)⟩, hN.warm hW, by rw [hU]; exact ZX.moved' hW.alike (ZX.narrow' (ZX.kept' hZ hS.2.1) hFc), by rw [hU]; exact CE.call hC hS.2.1 hFc hW, va_AO.moved hW.alike hV⟩⟩ rfl rfl hl.1 rfl (lv_room (Nat.le_of_ble_eq_true rfl)) d_Walk_onlyNode_8 ⟨Nat.le_of_ble_eq_true rfl, Nat.le_of_ble_eq_true rfl⟩) hS (fun q _ h => hFc q h) hFc (fun q _ h => hFc q h) (fun En ce q9 ⟨tx, sx, gx, nx⟩ t9 H1 locs ht hvm hw hB hz1 hk1 hS hce hcv hcl => ?_) (fun r21 ⟨t21, s21, g21, n21⟩ t9 H1 locs ht hvm hw hB hz1 hk1 hS => ?_)
  · obtain ⟨hEn, hP1, hK1, hD1⟩ := hB
    rw [ht] at hP1
    obtain ⟨hP, hD⟩ := va_joinP (wr := []) (rx := [(wk, .inr (10, [.ref wl, .int tx, .int sx, .ref rt])), (wl, .inl (cV, 10000, .inr (.inr (.inr (.inr gx)))))]) (pl1 := va_pl L (pf f nx)) hP hD [0, 1] [] rfl rfl (by decide) (by decide) hk1 hFc hP1 hD1
    generalize H1 = H at hP hS hce ⊢
    have hP : va_P (dC, dI) classes ([(wk, .inr (10, [.ref wl, .int tx, .int sx, .ref rt])), (wl, .inl (cV, 10000, .inr (.inr (.inr (.inr gx)))))] ++ va_pl L (pf f nx)) H := hP
    have hD : va_D A ([(wk, .inr (10, [.ref wl, .int tx, .int sx, .ref rt])), (wl, .inl (cV, 10000, .inr (.inr (.inr (.inr gx)))))] ++ va_pl L (pf f nx)) := hD
    exact vx_out (fun x hx => (hex x hx).elim) hlocks hce hcv hcl (fun t9 ht2 ha => ⟨(tx, sx, gx, nx), trivial, ⟨hEn, by rw [ht2]; exact hP, va_K.moved ha hK, hD⟩, hS.F ht2⟩) hS.2.2 (Nat.le_of_ble_eq_true rfl) (Nat.le_of_ble_eq_true rfl)
  · obtain ⟨⟨hP1, hK1, hD1⟩, hz9⟩ := hB
    rw [ht] at hP1
    rw [ht] at hz9
    refine w_tight (hq0.trans hz9) ?_
    have hq0 := hq0.trans hz9
    obtain ⟨hP, hD⟩ := va_joinP (wr := []) (rx := [(wk, .inr (10, [.ref wl, .int (nI t21), .int (nI s21), .ref rt])), (wl, .inl (cV, 10000, .inr (.inr (.inr (.inr g21)))))]) (pl1 := va_pl L (pf f n21)) hP hD [0, 1] [] rfl rfl (by decide) (by decide) hk1 hFc hP1 hD1
    generalize H1 = H at hP hS hq0 ⊢
    have hP : va_P (dC, dI) classes ([(wk, .inr (10, [.ref wl, .int (nI t21), .int (nI s21), .ref rt])), (wl, .inl (cV, 10000, .inr (.inr (.inr (.inr g21)))))] ++ va_pl L (pf f n21)) H := hP
    have hD : va_D A ([(wk, .inr (10, [.ref wl, .int (nI t21), .int (nI s21), .ref rt])), (wl, .inl (cV, 10000, .inr (.inr (.inr (.inr g21)))))] ++ va_pl L (pf f n21)) := hD
    obtain ⟨hr21, ha21, hb21, hW21⟩ := hw
    have ha21 : tp ≤ t21 := ha21
    have hb21 : sp ≤ s21 := hb21
    have hW21 : WI E t21 s21 g21 := hW21
    have hhW211 := hW21.1
    have hhW212 := hW21.2.1
    obtain ⟨fr, hfr1, hfr2⟩ := hr21
    have hfr2 : fr ≤ t21 := hfr2
    subst hfr1
    refine lv_istore (lv' := [(4, .int (nI fr)), (3, .int (nI tp)), (0, .ref wk), (1, .ref qu), (2, .ref cu)]) hx hb d_Walk_onlyNode_11 hl (by decide) rfl (fun ls hl => ?_)
    refine lv_aload_n hx hb d_Walk_onlyNode_13 rfl (lv_at hl 2 rfl) ?_
    refine va_get (D := (dC, dI)) (ci := 10) (v := .int (nI t21)) (C := R_Walk) (T := F_Walk) (N := 4) hx hb hts in_Walk hown hK hP 0 rfl rfl 1 (by decide) (hts _ z_117) (fun _ h9 => h9) rfl d_Walk_onlyNode_14 ?_
    refine lv_iload hx hb d_Walk_onlyNode_17 (lv_at hl 0 rfl) ?_
    refine lv_isub hx hb d_Walk_onlyNode_19 ?_
    refine lv_iconst (v := 1) hx hb d_Walk_onlyNode_20 (by decide) ?_
    refine lv_icmp_ne (tgt := 34) hx hb d_Walk_onlyNode_21 (by decide) (fun c21 => ?_) (fun c21 => ?_)
    · refine lv_null hx hb d_Walk_onlyNode_34 ?_
      refine lv_astoreN (lv' := [(5, .null), (4, .int (nI fr)), (3, .int (nI tp)), (0, .ref wk), (1, .ref qu), (2, .ref cu)]) hx hb d_Walk_onlyNode_35 hl (by decide) rfl (fun ls hl => ?_)
      refine lv_aload_n hx hb d_Walk_onlyNode_37 rfl (lv_at hl 3 rfl) ?_
      refine lv_iload_n hx hb d_Walk_onlyNode_38 rfl (lv_at hl 2 rfl) ?_
      refine va_put (D := (dC, dI)) (ci := 10) (v := .int (nI tp)) (ty := .int) (C := R_Walk) (T := F_Walk) (N := 4) hx hb hts in_Walk t_Walk t_Walk_ok n_Walk hown hK hP hD hS 0 rfl rfl 1 (by decide) (hts _ z_117) (fun _ h9 => h9) rfl (by decide +kernel) rfl rfl (Nat.le_of_ble_eq_true rfl) d_Walk_onlyNode_39 (fun H locs hP hD hS => ?_)
      have hP : va_P (dC, dI) classes ([(wk, .inr (10, [.ref wl, .int (nI tp), .int (nI s21), .ref rt])), (wl, .inl (cV, 10000, .inr (.inr (.inr (.inr g21)))))] ++ va_pl L (pf f n21)) H := hP
      have hD : va_D A ([(wk, .inr (10, [.ref wl, .int (nI tp), .int (nI s21), .ref rt])), (wl, .inl (cV, 10000, .inr (.inr (.inr (.inr g21)))))] ++ va_pl L (pf f n21)) := hD
      have hWc := WI.cut hW21 (show tp ≤ t21 by omega)
      refine lv_aloadN hx hb d_Walk_onlyNode_42 (lv_at hl 0 rfl) ?_
      refine w_same (fun hq => ?_)
      refine W.widen (k := 1) (n := 6) (Nat.le_of_ble_eq_true rfl) (Nat.le_of_ble_eq_true rfl) ?_
      refine vx_ret ?_
      exact W.aret (v := va_rf none) hx hb hr (Or.inl ⟨_, rfl⟩) (va_rf_or _) (fun t9 ht hW => ⟨⟨none, (s21, g21, n21), rfl, ⟨(fun b h => nomatch h), by show sp ≤ s21; omega, hWc⟩, ⟨by rw [ht]; exact hP, va_K.moved hW.alike hK, hD⟩, by rw [ht]; exact hq⟩, hS.F ht⟩) hS.2.2 d_Walk_onlyNode_44
    · have hlt : fr < t21 := by have e9 := congrArg Int32.toInt c21; rw [pk_sub_toInt (by omega) (by omega), show (1 : Int32).toInt = 1 from rfl] at e9; omega
      obtain ⟨nd9, hnd1, hnd2⟩ := hW21.2.2 fr hlt
      refine lv_aload_n hx hb d_Walk_onlyNode_24 rfl (lv_at hl 2 rfl) ?_
      refine va_get (D := (dC, dI)) (ci := 10) (v := .ref wl) (C := R_Walk) (T := F_Walk) (N := 4) hx hb hts in_Walk hown hK hP 0 rfl rfl 0 (by decide) (hts _ w_115) (fun _ h9 => h9) rfl d_Walk_onlyNode_25 ?_
      refine lv_iload hx hb d_Walk_onlyNode_28 (lv_at hl 0 rfl) ?_
      refine vq_ald0 hx hb hK hP 1 1 rfl rfl (show fr < 10000 by omega) (by decide) hnd1 d_Walk_onlyNode_30 ?_
      refine lv_goto (tgt := 35) hx hb d_Walk_onlyNode_31 (by decide) ?_
      refine lv_astore (lv' := [(5, .ref nd9), (4, .int (nI fr)), (3, .int (nI tp)), (0, .ref wk), (1, .ref qu), (2, .ref cu)]) hx hb d_Walk_onlyNode_35 hl (by decide) rfl (fun ls hl => ?_)
      refine lv_aload_n hx hb d_Walk_onlyNode_37 rfl (lv_at hl 3 rfl) ?_
      refine lv_iload_n hx hb d_Walk_onlyNode_38 rfl (lv_at hl 2 rfl) ?_
      refine va_put (D := (dC, dI)) (ci := 10) (v := .int (nI tp)) (ty := .int) (C := R_Walk) (T := F_Walk) (N := 4) hx hb hts in_Walk t_Walk t_Walk_ok n_Walk hown hK hP hD hS 0 rfl rfl 1 (by decide) (hts _ z_117) (fun _ h9 => h9) rfl (by decide +kernel) rfl rfl (Nat.le_of_ble_eq_true rfl) d_Walk_onlyNode_39 (fun H locs hP hD hS => ?_)
      have hP : va_P (dC, dI) classes ([(wk, .inr (10, [.ref wl, .int (nI tp), .int (nI s21), .ref rt])), (wl, .inl (cV, 10000, .inr (.inr (.inr (.inr g21)))))] ++ va_pl L (pf f n21)) H := hP
      have hD : va_D A ([(wk, .inr (10, [.ref wl, .int (nI tp), .int (nI s21), .ref rt])), (wl, .inl (cV, 10000, .inr (.inr (.inr (.inr g21)))))] ++ va_pl L (pf f n21)) := hD
      have hWc := WI.cut hW21 (show tp ≤ t21 by omega)
      refine lv_aload hx hb d_Walk_onlyNode_42 (lv_at hl 0 rfl) ?_
      refine w_same (fun hq => ?_)
      refine W.widen (k := 1) (n := 6) (Nat.le_of_ble_eq_true rfl) (Nat.le_of_ble_eq_true rfl) ?_
      refine vx_ret ?_
      exact W.aret (v := va_rf ((some nd9))) hx hb hr (Or.inl ⟨_, rfl⟩) (va_rf_or _) (fun t9 ht hW => ⟨⟨(some nd9), (s21, g21, n21), rfl, ⟨(fun b h => by cases h; exact hnd2), by show sp ≤ s21; omega, hWc⟩, ⟨by rw [ht]; exact hP, va_K.moved hW.alike hK, hD⟩, by rw [ht]; exact hq⟩, hS.F ht⟩) hS.2.2 d_Walk_onlyNode_44
abbrev b_Walk_compares : ByteArray := prog_12_method_17_code
def y_Walk_compares : MethodName := ⟨"QueryBench$Walk", "compares", "(LQueryBench$Condition;LQueryBench$Value;)Z"⟩
abbrev k_Walk_compares : Cond := .code y_Walk_compares b_Walk_compares 5 (some .boolean)
theorem i_Walk_compares : k_Walk_compares ∈ gtbl := gt_in 914 (by decide +kernel) (by decide +kernel)
theorem d_Walk_compares_0 : decode b_Walk_compares 0 = .ok (.aload_n 0, 1) := by decide +kernel
theorem d_Walk_compares_1 : decode b_Walk_compares 1 = .ok (.aload_n 1, 1) := by decide +kernel
theorem d_Walk_compares_2 : decode b_Walk_compares 2 = .ok (.getfield 179, 3) := by decide +kernel
theorem d_Walk_compares_5 : decode b_Walk_compares 5 = .ok (.aload_n 2, 1) := by decide +kernel
theorem d_Walk_compares_6 : decode b_Walk_compares 6 = .ok (.invokevirtual 183, 3) := by decide +kernel
theorem d_Walk_compares_9 : decode b_Walk_compares 9 = .ok (.astore_n 3, 1) := by decide +kernel
theorem d_Walk_compares_10 : decode b_Walk_compares 10 = .ok (.aload_n 0, 1) := by decide +kernel
theorem d_Walk_compares_11 : decode b_Walk_compares 11 = .ok (.aload_n 1, 1) := by decide +kernel
theorem d_Walk_compares_12 : decode b_Walk_compares 12 = .ok (.getfield 187, 3) := by decide +kernel
theorem d_Walk_compares_15 : decode b_Walk_compares 15 = .ok (.aload_n 2, 1) := by decide +kernel
theorem d_Walk_compares_16 : decode b_Walk_compares 16 = .ok (.invokevirtual 183, 3) := by decide +kernel
theorem d_Walk_compares_19 : decode b_Walk_compares 19 = .ok (.astore 4, 2) := by decide +kernel
theorem d_Walk_compares_21 : decode b_Walk_compares 21 = .ok (.aload_n 1, 1) := by decide +kernel
theorem d_Walk_compares_22 : decode b_Walk_compares 22 = .ok (.getfield 156, 3) := by decide +kernel
theorem d_Walk_compares_25 : decode b_Walk_compares 25 = .ok (.tableswitch 95 4 8 #[35, 42, 57, 64, 88], 35) := by decide +kernel
theorem d_Walk_compares_60 : decode b_Walk_compares 60 = .ok (.aload_n 3, 1) := by decide +kernel
theorem d_Walk_compares_61 : decode b_Walk_compares 61 = .ok (.aload 4, 2) := by decide +kernel
theorem d_Walk_compares_63 : decode b_Walk_compares 63 = .ok (.invokestatic 190, 3) := by decide +kernel
theorem d_Walk_compares_66 : decode b_Walk_compares 66 = .ok (.ireturn, 1) := by decide +kernel
theorem d_Walk_compares_67 : decode b_Walk_compares 67 = .ok (.aload_n 3, 1) := by decide +kernel
theorem d_Walk_compares_68 : decode b_Walk_compares 68 = .ok (.aload 4, 2) := by decide +kernel
theorem d_Walk_compares_70 : decode b_Walk_compares 70 = .ok (.invokestatic 190, 3) := by decide +kernel
theorem d_Walk_compares_73 : decode b_Walk_compares 73 = .ok (.ifCond .ne 7, 3) := by decide +kernel
theorem d_Walk_compares_76 : decode b_Walk_compares 76 = .ok (.iconst 1, 1) := by decide +kernel
theorem d_Walk_compares_77 : decode b_Walk_compares 77 = .ok (.goto 4, 3) := by decide +kernel
theorem d_Walk_compares_80 : decode b_Walk_compares 80 = .ok (.iconst 0, 1) := by decide +kernel
theorem d_Walk_compares_81 : decode b_Walk_compares 81 = .ok (.ireturn, 1) := by decide +kernel
theorem d_Walk_compares_82 : decode b_Walk_compares 82 = .ok (.aload_n 3, 1) := by decide +kernel
theorem d_Walk_compares_83 : decode b_Walk_compares 83 = .ok (.aload 4, 2) := by decide +kernel
theorem d_Walk_compares_85 : decode b_Walk_compares 85 = .ok (.invokestatic 194, 3) := by decide +kernel
theorem d_Walk_compares_88 : decode b_Walk_compares 88 = .ok (.ireturn, 1) := by decide +kernel
theorem d_Walk_compares_89 : decode b_Walk_compares 89 = .ok (.aload_n 3, 1) := by decide +kernel
theorem d_Walk_compares_90 : decode b_Walk_compares 90 = .ok (.aload 4, 2) := by decide +kernel
theorem d_Walk_compares_92 : decode b_Walk_compares 92 = .ok (.invokestatic 194, 3) := by decide +kernel
theorem d_Walk_compares_95 : decode b_Walk_compares 95 = .ok (.ifCond .ne 12, 3) := by decide +kernel
theorem d_Walk_compares_98 : decode b_Walk_compares 98 = .ok (.aload_n 3, 1) := by decide +kernel
theorem d_Walk_compares_99 : decode b_Walk_compares 99 = .ok (.aload 4, 2) := by decide +kernel
theorem d_Walk_compares_101 : decode b_Walk_compares 101 = .ok (.invokestatic 190, 3) := by decide +kernel
theorem d_Walk_compares_104 : decode b_Walk_compares 104 = .ok (.ifCond .eq 7, 3) := by decide +kernel
theorem d_Walk_compares_107 : decode b_Walk_compares 107 = .ok (.iconst 1, 1) := by decide +kernel
theorem d_Walk_compares_108 : decode b_Walk_compares 108 = .ok (.goto 4, 3) := by decide +kernel
theorem d_Walk_compares_111 : decode b_Walk_compares 111 = .ok (.iconst 0, 1) := by decide +kernel
theorem d_Walk_compares_112 : decode b_Walk_compares 112 = .ok (.ireturn, 1) := by decide +kernel
theorem d_Walk_compares_113 : decode b_Walk_compares 113 = .ok (.aload 4, 2) := by decide +kernel
theorem d_Walk_compares_115 : decode b_Walk_compares 115 = .ok (.aload_n 3, 1) := by decide +kernel
theorem d_Walk_compares_116 : decode b_Walk_compares 116 = .ok (.invokestatic 194, 3) := by decide +kernel
theorem d_Walk_compares_119 : decode b_Walk_compares 119 = .ok (.ireturn, 1) := by decide +kernel
theorem d_Walk_compares_120 : decode b_Walk_compares 120 = .ok (.aload 4, 2) := by decide +kernel
theorem d_Walk_compares_122 : decode b_Walk_compares 122 = .ok (.aload_n 3, 1) := by decide +kernel
theorem d_Walk_compares_123 : decode b_Walk_compares 123 = .ok (.invokestatic 194, 3) := by decide +kernel
theorem d_Walk_compares_126 : decode b_Walk_compares 126 = .ok (.ifCond .ne 12, 3) := by decide +kernel
theorem d_Walk_compares_129 : decode b_Walk_compares 129 = .ok (.aload_n 3, 1) := by decide +kernel
theorem d_Walk_compares_130 : decode b_Walk_compares 130 = .ok (.aload 4, 2) := by decide +kernel
theorem d_Walk_compares_132 : decode b_Walk_compares 132 = .ok (.invokestatic 190, 3) := by decide +kernel
theorem d_Walk_compares_135 : decode b_Walk_compares 135 = .ok (.ifCond .eq 7, 3) := by decide +kernel
theorem d_Walk_compares_138 : decode b_Walk_compares 138 = .ok (.iconst 1, 1) := by decide +kernel
theorem d_Walk_compares_139 : decode b_Walk_compares 139 = .ok (.goto 4, 3) := by decide +kernel
theorem d_Walk_compares_142 : decode b_Walk_compares 142 = .ok (.iconst 0, 1) := by decide +kernel
theorem d_Walk_compares_143 : decode b_Walk_compares 143 = .ok (.ireturn, 1) := by decide +kernel
set_option maxHeartbeats 4000000 in
set_option maxRecDepth 100000 in
/-- Walk.compares -/
theorem c_Walk_compares (l : Launch) (hl9 : l.stackTraces = false) (K : Nat → Nat × Nat) (dC : Nat → ClassId) (dI : Nat → Nat → Nat) (sz : Heap) (cI cV : ClassId) (E lv : Nat → Nat) (L : List Nat) (f : Nat → va_E) (hO : PO cI cV E lv L f) (hN1 : ∀ a, E a ≠ 1) (wk wl rt : Nat) (hrt : isF E rt) (tp sp : Nat) (g : Nat → Option Nat) (ν : Nat → Int64) (hW9 : WI E tp sp g) (n : Nat) (hn : 0 < n) (HI : VOC l K dC dI cI cV E lv L f wk wl rt (n - 1)) (co : Nat) (hco : E co = 10) (le ri : Nat) (hle : E le = 11) (hle2 : lv le ≤ n - 1) (hri : E ri = 11) (hri2 : lv ri ≤ n - 1) (hcm : ∃ kd fi nx qu, f co = kE kd fi nx qu (some le) (some ri)) (cu : Nat) (hcu : isF E cu) : vx_Met l y_Walk_compares (k_Walk_compares :: gtbl) ({ frames := 59 + 5 * n, cells := 1, slots := 6, locals := 2460 + 200 * n }) (va_Pc [.ref wk, .ref co, .ref cu] (ml K dC dI ([(wk, .inr (10, [.ref wl, .int (nI tp), .int (nI sp), .ref rt])), (wl, .inl (cV, 10000, .inr (.inr (.inr (.inr g)))))] ++ va_pl L (pf f ν)) [(cI, .int), (cV, .object "QueryBench$Value")] sz)) (va_Qi (fun (r : Int32) (u : Nat × (Nat → Option Nat) × (Nat → Int64)) => Bo r ∧ sp ≤ u.1 ∧ WI E tp u.1 u.2.1) (fun u t9 => mz dC dI ([(wk, .inr (10, [.ref wl, .int (nI tp), .int (nI u.1), .ref rt])), (wl, .inl (cV, 10000, .inr (.inr (.inr (.inr u.2.1)))))] ++ va_pl L (pf f u.2.2)) [(cI, .int), (cV, .object "QueryBench$Value")] (va_A ([(wk, .inr (10, [.ref wl, .int (nI tp), .int (nI sp), .ref rt])), (wl, .inl (cV, 10000, .inr (.inr (.inr (.inr g)))))] ++ va_pl L (pf f ν)) sz.size) t9 ∧ szk sz t9.heap (0) (0)) (va_A ([(wk, .inr (10, [.ref wl, .int (nI tp), .int (nI sp), .ref rt])), (wl, .inl (cV, 10000, .inr (.inr (.inr (.inr g)))))] ++ va_pl L (pf f ν)) sz.size)) (vx_X (fun (u : Int32 × Int32 × (Nat → Option Nat) × (Nat → Int64)) => True) (fun En u t9 => En = IOB ∧ mz dC dI ([(wk, .inr (10, [.ref wl, .int u.1, .int u.2.1, .ref rt])), (wl, .inl (cV, 10000, .inr (.inr (.inr (.inr u.2.2.1)))))] ++ va_pl L (pf f u.2.2.2)) [(cI, .int), (cV, .object "QueryBench$Value")] (va_A ([(wk, .inr (10, [.ref wl, .int (nI tp), .int (nI sp), .ref rt])), (wl, .inl (cV, 10000, .inr (.inr (.inr (.inr g)))))] ++ va_pl L (pf f ν)) sz.size) t9) (va_A ([(wk, .inr (10, [.ref wl, .int (nI tp), .int (nI sp), .ref rt])), (wl, .inl (cV, 10000, .inr (.inr (.inr (.inr g)))))] ++ va_pl L (pf f ν)) sz.size)) (1) (6) (va_A ([(wk, .inr (10, [.ref wl, .int (nI tp), .int (nI sp), .ref rt])), (wl, .inl (cV, 10000, .inr (.inr (.inr (.inr g)))))] ++ va_pl L (pf f ν)) sz.size) := by
  refine vx_ofW (cc := b_Walk_compares) (maxL := 5) (ret := (some .boolean)) (by decide) rfl ?_
  intro p e s m args below meth c s₁ B hml hex hv
  obtain ⟨rfl, ⟨hsz, hP, hK, hD0⟩, hN, hZ, hC, hV⟩ := hv
  have hx := B.exec
  have hb := B.bytes
  have hr := B.returns
  have hts0 := atoms_spec (ws := k_Walk_compares :: gtbl) B.pre
  have hts := fun w h => hts0 w (List.mem_cons_of_mem _ h)
  have hown : s.vm.findClass R_Walk = some m.cls := findClass_of_methodNamed B.named
  have hlocks := B.notSynchronized
  subst hsz
  have hD := hD0.self (sz := s.heap.size)
  generalize hAe : va_A ([(wk, .inr (10, [.ref wl, .int (nI tp), .int (nI sp), .ref rt])), (wl, .inl (cV, 10000, .inr (.inr (.inr (.inr g)))))] ++ va_pl L (pf f ν)) s.heap.size = A at hD hZ hC ⊢
  have hA : ∀ q : Nat, s.heap.size ≤ q → A q := fun q h => by rw [← hAe]; exact Or.inr h
  have hS : va_S A s.heap s.heap [] := va_S.rf
  have hP : va_P (dC, dI) classes ([(wk, .inr (10, [.ref wl, .int (nI tp), .int (nI sp), .ref rt])), (wl, .inl (cV, 10000, .inr (.inr (.inr (.inr g)))))] ++ va_pl L (pf f ν)) s.heap := hP
  have hl := lv_entry ([.ref wk, .ref co, .ref cu]) (n := 5) (Nat.le_of_ble_eq_true rfl)
  rw [lg_entry_eq]
  generalize (lg_sl ([.ref wk, .ref co, .ref cu]) ++ List.replicate (5 - (lg_sl ([.ref wk, .ref co, .ref cu])).length) Slot.unset).toArray = ls at hl ⊢
  have hl : lv_has ls 5 [(0, .ref wk), (1, .ref co), (2, .ref cu)] := hl
  have hW0 := hW9
  have hW1 := hW9.1
  have hW2 := hW9.2.1
  obtain ⟨kd9, fi9, nx9, qu9, ef9⟩ := hcm
  refine lv_aload_n hx hb d_Walk_compares_0 rfl (lv_at hl 0 rfl) ?_
  refine lv_aload_n hx hb d_Walk_compares_1 rfl (lv_at hl 1 rfl) ?_
  refine vq_get (D := (dC, dI)) (ci := 0) (v := .ref le) (C := R_Condition) (T := F_Condition) (N := 6) hx hb hts in_Condition hown hK hP (hO.inL (a := co) (by rw [hco]; decide)) (pf_K ef9) rfl 4 (by decide) (hts _ z_684) (fun _ h9 => h9) rfl d_Walk_compares_2 ?_
  refine lv_aload_n hx hb d_Walk_compares_5 rfl (lv_at hl 2 rfl) ?_
  have hPc := hP.part (cx := [(wk, .inr (10, [.ref wl, .int (nI tp), .int (nI sp), .ref rt])), (wl, .inl (cV, 10000, .inr (.inr (.inr (.inr g)))))]) [0, 1] rfl
  have hDc := hD.part (cx := [(wk, .inr (10, [.ref wl, .int (nI tp), .int (nI sp), .ref rt])), (wl, .inl (cV, 10000, .inr (.inr (.inr (.inr g)))))]) [0, 1] (by decide) rfl
  have hFc := va_freeP (cx := [(wk, .inr (10, [.ref wl, .int (nI tp), .int (nI sp), .ref rt])), (wl, .inl (cV, 10000, .inr (.inr (.inr (.inr g)))))]) hD hS hA [0, 1] rfl
  have hKc := hK.sub (tys' := [(cI, .int), (cV, .object "QueryBench$Value")]) [0, 1] rfl
  refine w_same (fun hq0 => ?_)
  refine vx_callq (vx_runV (As := [.ref le, .ref cu]) (rest := []) ⟨hx, hb, hml, hown, hts⟩ (HI s.heap tp sp g ν hW9 le cu hle hle2 hcu) (cwV 2 hts (gt_V (own := R_Walk) (C := R_Walk) (i := 183) (y := y_Walk_valueOf) i_Walk_valueOf z_915 z_917 (gt_sel (y := y_Walk_valueOf) (n := 4) (by decide +kernel)) w_5) rfl rfl rfl (by decide +kernel) ⟨by show 60 + 5 * (n - 1) + 1 ≤ 59 + 5 * n; omega, by show 8 + (4 + 11) + (2500 + 200 * (n - 1)) ≤ 2460 + 200 * n; omega⟩) ⟨ml_blind, va_recv hK hP (ci := 10) (q0 := 0) rfl rfl, fun U hU hW => ⟨rfl, ⟨hU, by rw [hU]; exact hPc, va_K.moved hW.alike hKc, hDc.weaken (fun _ _ _ _ => trivial)⟩, hN.warm hW, by rw [hU]; exact ZX.moved' hW.alike (ZX.narrow' (ZX.kept' hZ hS.2.1) hFc), by rw [hU]; exact CE.call hC hS.2.1 hFc hW, va_AO.moved hW.alike hV⟩⟩ rfl rfl hl.1 rfl (lv_room (Nat.le_of_ble_eq_true rfl)) d_Walk_compares_6 ⟨Nat.le_of_ble_eq_true rfl, Nat.le_of_ble_eq_true rfl⟩) hS (fun q _ h => hFc q h) hFc (fun q _ h => hFc q h) (fun En ce q9 ⟨tx, sx, gx, nx⟩ t9 H1 locs ht hvm hw hB hz1 hk1 hS hce hcv hcl => ?_) (fun r21 ⟨s21, g21, n21⟩ t9 H1 locs ht hvm hw hB hz1 hk1 hS => ?_)
  · obtain ⟨hEn, hP1, hK1, hD1⟩ := hB
    rw [ht] at hP1
    obtain ⟨hP, hD⟩ := va_joinP (wr := []) (rx := [(wk, .inr (10, [.ref wl, .int tx, .int sx, .ref rt])), (wl, .inl (cV, 10000, .inr (.inr (.inr (.inr gx)))))]) (pl1 := va_pl L (pf f nx)) hP hD [0, 1] [] rfl rfl (by decide) (by decide) hk1 hFc hP1 hD1
    generalize H1 = H at hP hS hce ⊢
    have hP : va_P (dC, dI) classes ([(wk, .inr (10, [.ref wl, .int tx, .int sx, .ref rt])), (wl, .inl (cV, 10000, .inr (.inr (.inr (.inr gx)))))] ++ va_pl L (pf f nx)) H := hP
    have hD : va_D A ([(wk, .inr (10, [.ref wl, .int tx, .int sx, .ref rt])), (wl, .inl (cV, 10000, .inr (.inr (.inr (.inr gx)))))] ++ va_pl L (pf f nx)) := hD
    exact vx_out (fun x hx => (hex x hx).elim) hlocks hce hcv hcl (fun t9 ht2 ha => ⟨(tx, sx, gx, nx), trivial, ⟨hEn, by rw [ht2]; exact hP, va_K.moved ha hK, hD⟩, hS.F ht2⟩) hS.2.2 (Nat.le_of_ble_eq_true rfl) (Nat.le_of_ble_eq_true rfl)
  · obtain ⟨⟨hP1, hK1, hD1⟩, hz9⟩ := hB
    rw [ht] at hP1
    rw [ht] at hz9
    refine w_tight (hq0.trans hz9) ?_
    have hq0 := hq0.trans hz9
    obtain ⟨hP, hD⟩ := va_joinP (wr := []) (rx := [(wk, .inr (10, [.ref wl, .int (nI tp), .int (nI s21), .ref rt])), (wl, .inl (cV, 10000, .inr (.inr (.inr (.inr g21)))))]) (pl1 := va_pl L (pf f n21)) hP hD [0, 1] [] rfl rfl (by decide) (by decide) hk1 hFc hP1 hD1
    generalize H1 = H at hP hS hq0 ⊢
    have hP : va_P (dC, dI) classes ([(wk, .inr (10, [.ref wl, .int (nI tp), .int (nI s21), .ref rt])), (wl, .inl (cV, 10000, .inr (.inr (.inr (.inr g21)))))] ++ va_pl L (pf f n21)) H := hP
    have hD : va_D A ([(wk, .inr (10, [.ref wl, .int (nI tp), .int (nI s21), .ref rt])), (wl, .inl (cV, 10000, .inr (.inr (.inr (.inr g21)))))] ++ va_pl L (pf f n21)) := hD
    obtain ⟨h_r21, hb21, hW21⟩ := hw
    have hb21 : sp ≤ s21 := hb21
    have hW21 : WI E tp s21 g21 := hW21
    have hhW211 := hW21.1
    have hhW212 := hW21.2.1
    rcases r21 with _ | b22
    · refine lv_astore_nN (lv' := [(3, .null), (0, .ref wk), (1, .ref co), (2, .ref cu)]) hx hb d_Walk_compares_9 rfl hl (by decide) rfl (fun ls hl => ?_)
      refine lv_aload_n hx hb d_Walk_compares_10 rfl (lv_at hl 1 rfl) ?_
      refine lv_aload_n hx hb d_Walk_compares_11 rfl (lv_at hl 2 rfl) ?_
      refine vq_get (D := (dC, dI)) (ci := 0) (v := .ref ri) (C := R_Condition) (T := F_Condition) (N := 6) hx hb hts in_Condition hown hK hP (hO.inL (a := co) (by rw [hco]; decide)) (pf_K ef9) rfl 5 (by decide) (hts _ z_686) (fun _ h9 => h9) rfl d_Walk_compares_12 ?_
      refine lv_aload_n hx hb d_Walk_compares_15 rfl (lv_at hl 3 rfl) ?_
      have hPc := hP.part (cx := [(wk, .inr (10, [.ref wl, .int (nI tp), .int (nI s21), .ref rt])), (wl, .inl (cV, 10000, .inr (.inr (.inr (.inr g21)))))]) [0, 1] rfl
      have hDc := hD.part (cx := [(wk, .inr (10, [.ref wl, .int (nI tp), .int (nI s21), .ref rt])), (wl, .inl (cV, 10000, .inr (.inr (.inr (.inr g21)))))]) [0, 1] (by decide) rfl
      have hFc := va_freeP (cx := [(wk, .inr (10, [.ref wl, .int (nI tp), .int (nI s21), .ref rt])), (wl, .inl (cV, 10000, .inr (.inr (.inr (.inr g21)))))]) hD hS hA [0, 1] rfl
      have hKc := hK.sub (tys' := [(cI, .int), (cV, .object "QueryBench$Value")]) [0, 1] rfl
      refine w_same (fun hq0 => ?_)
      refine vx_callq (vx_runV (As := [.ref ri, .ref cu]) (rest := []) ⟨hx, hb, hml, hown, hts⟩ (HI H tp s21 g21 n21 hW21 ri cu hri hri2 hcu) (cwV 2 hts (gt_V (own := R_Walk) (C := R_Walk) (i := 183) (y := y_Walk_valueOf) i_Walk_valueOf z_915 z_917 (gt_sel (y := y_Walk_valueOf) (n := 4) (by decide +kernel)) w_5) rfl rfl rfl (by decide +kernel) ⟨by show 60 + 5 * (n - 1) + 1 ≤ 59 + 5 * n; omega, by show 8 + (4 + 11) + (2500 + 200 * (n - 1)) ≤ 2460 + 200 * n; omega⟩) ⟨ml_blind, va_recv hK hP (ci := 10) (q0 := 0) rfl rfl, fun U hU hW => ⟨rfl, ⟨hU, by rw [hU]; exact hPc, va_K.moved hW.alike hKc, hDc.weaken (fun _ _ _ _ => trivial)⟩, hN.warm hW, by rw [hU]; exact ZX.moved' hW.alike (ZX.narrow' (ZX.kept' hZ hS.2.1) hFc), by rw [hU]; exact CE.call hC hS.2.1 hFc hW, va_AO.moved hW.alike hV⟩⟩ rfl rfl hl.1 rfl (lv_room (Nat.le_of_ble_eq_true rfl)) d_Walk_compares_16 ⟨Nat.le_of_ble_eq_true rfl, Nat.le_of_ble_eq_true rfl⟩) hS (fun q _ h => hFc q h) hFc (fun q _ h => hFc q h) (fun En ce q9 ⟨tx, sx, gx, nx⟩ t9 H1 locs ht hvm hw hB hz1 hk1 hS hce hcv hcl => ?_) (fun r23 ⟨s23, g23, n23⟩ t9 H1 locs ht hvm hw hB hz1 hk1 hS => ?_)
      · obtain ⟨hEn, hP1, hK1, hD1⟩ := hB
        rw [ht] at hP1
        obtain ⟨hP, hD⟩ := va_joinP (wr := []) (rx := [(wk, .inr (10, [.ref wl, .int tx, .int sx, .ref rt])), (wl, .inl (cV, 10000, .inr (.inr (.inr (.inr gx)))))]) (pl1 := va_pl L (pf f nx)) hP hD [0, 1] [] rfl rfl (by decide) (by decide) hk1 hFc hP1 hD1
        generalize H1 = H at hP hS hce ⊢
        have hP : va_P (dC, dI) classes ([(wk, .inr (10, [.ref wl, .int tx, .int sx, .ref rt])), (wl, .inl (cV, 10000, .inr (.inr (.inr (.inr gx)))))] ++ va_pl L (pf f nx)) H := hP
        have hD : va_D A ([(wk, .inr (10, [.ref wl, .int tx, .int sx, .ref rt])), (wl, .inl (cV, 10000, .inr (.inr (.inr (.inr gx)))))] ++ va_pl L (pf f nx)) := hD
        exact vx_out (fun x hx => (hex x hx).elim) hlocks hce hcv hcl (fun t9 ht2 ha => ⟨(tx, sx, gx, nx), trivial, ⟨hEn, by rw [ht2]; exact hP, va_K.moved ha hK, hD⟩, hS.F ht2⟩) hS.2.2 (Nat.le_of_ble_eq_true rfl) (Nat.le_of_ble_eq_true rfl)
      · obtain ⟨⟨hP1, hK1, hD1⟩, hz9⟩ := hB
        rw [ht] at hP1
        rw [ht] at hz9
        refine w_tight (hq0.trans hz9) ?_
        have hq0 := hq0.trans hz9
        obtain ⟨hP, hD⟩ := va_joinP (wr := []) (rx := [(wk, .inr (10, [.ref wl, .int (nI tp), .int (nI s23), .ref rt])), (wl, .inl (cV, 10000, .inr (.inr (.inr (.inr g23)))))]) (pl1 := va_pl L (pf f n23)) hP hD [0, 1] [] rfl rfl (by decide) (by decide) hk1 hFc hP1 hD1
        generalize H1 = H at hP hS hq0 ⊢
        have hP : va_P (dC, dI) classes ([(wk, .inr (10, [.ref wl, .int (nI tp), .int (nI s23), .ref rt])), (wl, .inl (cV, 10000, .inr (.inr (.inr (.inr g23)))))] ++ va_pl L (pf f n23)) H := hP
        have hD : va_D A ([(wk, .inr (10, [.ref wl, .int (nI tp), .int (nI s23), .ref rt])), (wl, .inl (cV, 10000, .inr (.inr (.inr (.inr g23)))))] ++ va_pl L (pf f n23)) := hD
        obtain ⟨h_r23, hb23, hW23⟩ := hw
        have hb23 : s21 ≤ s23 := hb23
        have hW23 : WI E tp s23 g23 := hW23
        have hhW231 := hW23.1
        have hhW232 := hW23.2.1
        rcases r23 with _ | b24
        · refine lv_astoreN (lv' := [(4, .null), (3, .null), (0, .ref wk), (1, .ref co), (2, .ref cu)]) hx hb d_Walk_compares_19 hl (by decide) rfl (fun ls hl => ?_)
          refine lv_aload_n hx hb d_Walk_compares_21 rfl (lv_at hl 3 rfl) ?_
          refine vq_get (D := (dC, dI)) (ci := 0) (v := .int kd9) (C := R_Condition) (T := F_Condition) (N := 6) hx hb hts in_Condition hown hK hP (hO.inL (a := co) (by rw [hco]; decide)) (pf_K ef9) rfl 0 (by decide) (hts _ z_677) (fun _ h9 => h9) rfl d_Walk_compares_22 ?_
          by_cases hs25_0 : kd9 = 4
          · refine lv_tableIn (tgt := 60) (off := 35) hx hb d_Walk_compares_25 (by rw [hs25_0]; decide) (by rw [hs25_0]; decide) (by rw [hs25_0]; rfl) (by decide) ?_
            refine lv_aload_nN hx hb d_Walk_compares_60 rfl (lv_at hl 1 rfl) ?_
            refine lv_aloadN hx hb d_Walk_compares_61 (lv_at hl 0 rfl) ?_
            refine vp_callSi (va_Run.run (va_runS (As := [.null, .null]) (rest := []) ⟨hx, hb, hml, hown, hts⟩ (c_Value_same l dC dI H cI cV E lv L (pf f n23) (hO.num n23) none none (fun b h => nomatch h) (fun b h => nomatch h)) (va_cwS 2 hts (gt_S (own := R_Walk) (i := 190) (y := y_Value_same) i_Value_same z_928 z_929 z_14) rfl rfl rfl (by decide +kernel) ⟨by show 40 + 1 ≤ 59 + 5 * n; omega, by show 8 + (2 + 11) + (1700) ≤ 2460 + 200 * n; omega⟩) ⟨mq_blind, fun U hU hW => ⟨rfl, hU, by rw [hU]; exact hP.part (cx := []) [] rfl, va_K.moved hW.alike hK, hN.warm hW⟩⟩ rfl rfl hl.1 rfl (lv_room (Nat.le_of_ble_eq_true rfl)) d_Walk_compares_63 ⟨Nat.le_of_ble_eq_true rfl, Nat.le_of_ble_eq_true rfl⟩)) (fun r25 h_r25 => ?_)
            refine w_same (fun hq => ?_)
            refine W.widen (k := 1) (n := 6) (Nat.le_of_ble_eq_true rfl) (Nat.le_of_ble_eq_true rfl) ?_
            refine vx_ret ?_
            exact W.zret (v := r25) hx hb hr (Bo.nar h_r25) (fun t9 ht hW => ⟨⟨r25, (s23, g23, n23), rfl, ⟨h_r25, by show sp ≤ s23; omega, hW23⟩, ⟨by rw [ht]; exact hP, va_K.moved hW.alike hK, hD⟩, by rw [ht]; exact hq⟩, hS.F ht⟩) hS.2.2 d_Walk_compares_66
          · by_cases hs25_1 : kd9 = 5
            · refine lv_tableIn (tgt := 67) (off := 42) hx hb d_Walk_compares_25 (by rw [hs25_1]; decide) (by rw [hs25_1]; decide) (by rw [hs25_1]; rfl) (by decide) ?_
              refine lv_aload_nN hx hb d_Walk_compares_67 rfl (lv_at hl 1 rfl) ?_
              refine lv_aloadN hx hb d_Walk_compares_68 (lv_at hl 0 rfl) ?_
              refine vp_callSi (va_Run.run (va_runS (As := [.null, .null]) (rest := []) ⟨hx, hb, hml, hown, hts⟩ (c_Value_same l dC dI H cI cV E lv L (pf f n23) (hO.num n23) none none (fun b h => nomatch h) (fun b h => nomatch h)) (va_cwS 2 hts (gt_S (own := R_Walk) (i := 190) (y := y_Value_same) i_Value_same z_928 z_929 z_14) rfl rfl rfl (by decide +kernel) ⟨by show 40 + 1 ≤ 59 + 5 * n; omega, by show 8 + (2 + 11) + (1700) ≤ 2460 + 200 * n; omega⟩) ⟨mq_blind, fun U hU hW => ⟨rfl, hU, by rw [hU]; exact hP.part (cx := []) [] rfl, va_K.moved hW.alike hK, hN.warm hW⟩⟩ rfl rfl hl.1 rfl (lv_room (Nat.le_of_ble_eq_true rfl)) d_Walk_compares_70 ⟨Nat.le_of_ble_eq_true rfl, Nat.le_of_ble_eq_true rfl⟩)) (fun r26 h_r26 => ?_)
              refine lv_if_ne (tgt := 80) hx hb d_Walk_compares_73 (by decide) (fun c73 => ?_) (fun c73 => ?_)
              · refine lv_iconst (v := 0) hx hb d_Walk_compares_80 (by decide) ?_
                refine w_same (fun hq => ?_)
                refine W.widen (k := 1) (n := 6) (Nat.le_of_ble_eq_true rfl) (Nat.le_of_ble_eq_true rfl) ?_
                refine vx_ret ?_
                exact W.zret (v := 0) hx hb hr rfl (fun t9 ht hW => ⟨⟨0, (s23, g23, n23), rfl, ⟨(Or.inl rfl), by show sp ≤ s23; omega, hW23⟩, ⟨by rw [ht]; exact hP, va_K.moved hW.alike hK, hD⟩, by rw [ht]; exact hq⟩, hS.F ht⟩) hS.2.2 d_Walk_compares_81
              · refine lv_iconst (v := 1) hx hb d_Walk_compares_76 (by decide) ?_
                refine lv_goto (tgt := 81) hx hb d_Walk_compares_77 (by decide) ?_
                refine w_same (fun hq => ?_)
                refine W.widen (k := 1) (n := 6) (Nat.le_of_ble_eq_true rfl) (Nat.le_of_ble_eq_true rfl) ?_
                refine vx_ret ?_
                exact W.zret (v := 1) hx hb hr rfl (fun t9 ht hW => ⟨⟨1, (s23, g23, n23), rfl, ⟨(Or.inr rfl), by show sp ≤ s23; omega, hW23⟩, ⟨by rw [ht]; exact hP, va_K.moved hW.alike hK, hD⟩, by rw [ht]; exact hq⟩, hS.F ht⟩) hS.2.2 d_Walk_compares_81
            · by_cases hs25_2 : kd9 = 6
              · refine lv_tableIn (tgt := 82) (off := 57) hx hb d_Walk_compares_25 (by rw [hs25_2]; decide) (by rw [hs25_2]; decide) (by rw [hs25_2]; rfl) (by decide) ?_
                refine lv_aload_nN hx hb d_Walk_compares_82 rfl (lv_at hl 1 rfl) ?_
                refine lv_aloadN hx hb d_Walk_compares_83 (lv_at hl 0 rfl) ?_
                refine vp_callSi (va_Run.run (va_runS (As := [.null, .null]) (rest := []) ⟨hx, hb, hml, hown, hts⟩ (c_Value_less l dC dI H cI cV E lv L (pf f n23) (hO.num n23) none none (fun b h => nomatch h) (fun b h => nomatch h)) (va_cwS 2 hts (gt_S (own := R_Walk) (i := 194) (y := y_Value_less) i_Value_less z_935 z_936 z_14) rfl rfl rfl (by decide +kernel) ⟨by show 3 + 1 ≤ 59 + 5 * n; omega, by show 8 + (2 + 11) + (130) ≤ 2460 + 200 * n; omega⟩) ⟨mq_blind, fun U hU hW => ⟨rfl, hU, by rw [hU]; exact hP.part (cx := []) [] rfl, va_K.moved hW.alike hK, hN.warm hW⟩⟩ rfl rfl hl.1 rfl (lv_room (Nat.le_of_ble_eq_true rfl)) d_Walk_compares_85 ⟨Nat.le_of_ble_eq_true rfl, Nat.le_of_ble_eq_true rfl⟩)) (fun r27 h_r27 => ?_)
                refine w_same (fun hq => ?_)
                refine W.widen (k := 1) (n := 6) (Nat.le_of_ble_eq_true rfl) (Nat.le_of_ble_eq_true rfl) ?_
                refine vx_ret ?_
                exact W.zret (v := r27) hx hb hr (Bo.nar h_r27) (fun t9 ht hW => ⟨⟨r27, (s23, g23, n23), rfl, ⟨h_r27, by show sp ≤ s23; omega, hW23⟩, ⟨by rw [ht]; exact hP, va_K.moved hW.alike hK, hD⟩, by rw [ht]; exact hq⟩, hS.F ht⟩) hS.2.2 d_Walk_compares_88
              · by_cases hs25_3 : kd9 = 7
                · refine lv_tableIn (tgt := 89) (off := 64) hx hb d_Walk_compares_25 (by rw [hs25_3]; decide) (by rw [hs25_3]; decide) (by rw [hs25_3]; rfl) (by decide) ?_
                  refine lv_aload_nN hx hb d_Walk_compares_89 rfl (lv_at hl 1 rfl) ?_
                  refine lv_aloadN hx hb d_Walk_compares_90 (lv_at hl 0 rfl) ?_
                  refine vp_callSi (va_Run.run (va_runS (As := [.null, .null]) (rest := []) ⟨hx, hb, hml, hown, hts⟩ (c_Value_less l dC dI H cI cV E lv L (pf f n23) (hO.num n23) none none (fun b h => nomatch h) (fun b h => nomatch h)) (va_cwS 2 hts (gt_S (own := R_Walk) (i := 194) (y := y_Value_less) i_Value_less z_935 z_936 z_14) rfl rfl rfl (by decide +kernel) ⟨by show 3 + 1 ≤ 59 + 5 * n; omega, by show 8 + (2 + 11) + (130) ≤ 2460 + 200 * n; omega⟩) ⟨mq_blind, fun U hU hW => ⟨rfl, hU, by rw [hU]; exact hP.part (cx := []) [] rfl, va_K.moved hW.alike hK, hN.warm hW⟩⟩ rfl rfl hl.1 rfl (lv_room (Nat.le_of_ble_eq_true rfl)) d_Walk_compares_92 ⟨Nat.le_of_ble_eq_true rfl, Nat.le_of_ble_eq_true rfl⟩)) (fun r28 h_r28 => ?_)
                  refine lv_if_ne (tgt := 107) hx hb d_Walk_compares_95 (by decide) (fun c95 => ?_) (fun c95 => ?_)
                  · refine lv_iconst (v := 1) hx hb d_Walk_compares_107 (by decide) ?_
                    refine lv_goto (tgt := 112) hx hb d_Walk_compares_108 (by decide) ?_
                    refine w_same (fun hq => ?_)
                    refine W.widen (k := 1) (n := 6) (Nat.le_of_ble_eq_true rfl) (Nat.le_of_ble_eq_true rfl) ?_
                    refine vx_ret ?_
                    exact W.zret (v := 1) hx hb hr rfl (fun t9 ht hW => ⟨⟨1, (s23, g23, n23), rfl, ⟨(Or.inr rfl), by show sp ≤ s23; omega, hW23⟩, ⟨by rw [ht]; exact hP, va_K.moved hW.alike hK, hD⟩, by rw [ht]; exact hq⟩, hS.F ht⟩) hS.2.2 d_Walk_compares_112
                  · refine lv_aload_nN hx hb d_Walk_compares_98 rfl (lv_at hl 1 rfl) ?_
                    refine lv_aloadN hx hb d_Walk_compares_99 (lv_at hl 0 rfl) ?_
                    refine vp_callSi (va_Run.run (va_runS (As := [.null, .null]) (rest := []) ⟨hx, hb, hml, hown, hts⟩ (c_Value_same l dC dI H cI cV E lv L (pf f n23) (hO.num n23) none none (fun b h => nomatch h) (fun b h => nomatch h)) (va_cwS 2 hts (gt_S (own := R_Walk) (i := 190) (y := y_Value_same) i_Value_same z_928 z_929 z_14) rfl rfl rfl (by decide +kernel) ⟨by show 40 + 1 ≤ 59 + 5 * n; omega, by show 8 + (2 + 11) + (1700) ≤ 2460 + 200 * n; omega⟩) ⟨mq_blind, fun U hU hW => ⟨rfl, hU, by rw [hU]; exact hP.part (cx := []) [] rfl, va_K.moved hW.alike hK, hN.warm hW⟩⟩ rfl rfl hl.1 rfl (lv_room (Nat.le_of_ble_eq_true rfl)) d_Walk_compares_101 ⟨Nat.le_of_ble_eq_true rfl, Nat.le_of_ble_eq_true rfl⟩)) (fun r29 h_r29 => ?_)
                    refine lv_if_eq (tgt := 111) hx hb d_Walk_compares_104 (by decide) (fun c104 => ?_) (fun c104 => ?_)
                    · refine lv_iconst (v := 0) hx hb d_Walk_compares_111 (by decide) ?_
                      refine w_same (fun hq => ?_)
                      refine W.widen (k := 1) (n := 6) (Nat.le_of_ble_eq_true rfl) (Nat.le_of_ble_eq_true rfl) ?_
                      refine vx_ret ?_
                      exact W.zret (v := 0) hx hb hr rfl (fun t9 ht hW => ⟨⟨0, (s23, g23, n23), rfl, ⟨(Or.inl rfl), by show sp ≤ s23; omega, hW23⟩, ⟨by rw [ht]; exact hP, va_K.moved hW.alike hK, hD⟩, by rw [ht]; exact hq⟩, hS.F ht⟩) hS.2.2 d_Walk_compares_112
                    · refine lv_iconst (v := 1) hx hb d_Walk_compares_107 (by decide) ?_
                      refine lv_goto (tgt := 112) hx hb d_Walk_compares_108 (by decide) ?_
                      refine w_same (fun hq => ?_)
                      refine W.widen (k := 1) (n := 6) (Nat.le_of_ble_eq_true rfl) (Nat.le_of_ble_eq_true rfl) ?_
                      refine vx_ret ?_
                      exact W.zret (v := 1) hx hb hr rfl (fun t9 ht hW => ⟨⟨1, (s23, g23, n23), rfl, ⟨(Or.inr rfl), by show sp ≤ s23; omega, hW23⟩, ⟨by rw [ht]; exact hP, va_K.moved hW.alike hK, hD⟩, by rw [ht]; exact hq⟩, hS.F ht⟩) hS.2.2 d_Walk_compares_112
                · by_cases hs25_4 : kd9 = 8
                  · refine lv_tableIn (tgt := 113) (off := 88) hx hb d_Walk_compares_25 (by rw [hs25_4]; decide) (by rw [hs25_4]; decide) (by rw [hs25_4]; rfl) (by decide) ?_
                    refine lv_aloadN hx hb d_Walk_compares_113 (lv_at hl 0 rfl) ?_
                    refine lv_aload_nN hx hb d_Walk_compares_115 rfl (lv_at hl 1 rfl) ?_
                    refine vp_callSi (va_Run.run (va_runS (As := [.null, .null]) (rest := []) ⟨hx, hb, hml, hown, hts⟩ (c_Value_less l dC dI H cI cV E lv L (pf f n23) (hO.num n23) none none (fun b h => nomatch h) (fun b h => nomatch h)) (va_cwS 2 hts (gt_S (own := R_Walk) (i := 194) (y := y_Value_less) i_Value_less z_935 z_936 z_14) rfl rfl rfl (by decide +kernel) ⟨by show 3 + 1 ≤ 59 + 5 * n; omega, by show 8 + (2 + 11) + (130) ≤ 2460 + 200 * n; omega⟩) ⟨mq_blind, fun U hU hW => ⟨rfl, hU, by rw [hU]; exact hP.part (cx := []) [] rfl, va_K.moved hW.alike hK, hN.warm hW⟩⟩ rfl rfl hl.1 rfl (lv_room (Nat.le_of_ble_eq_true rfl)) d_Walk_compares_116 ⟨Nat.le_of_ble_eq_true rfl, Nat.le_of_ble_eq_true rfl⟩)) (fun r30 h_r30 => ?_)
                    refine w_same (fun hq => ?_)
                    refine W.widen (k := 1) (n := 6) (Nat.le_of_ble_eq_true rfl) (Nat.le_of_ble_eq_true rfl) ?_
                    refine vx_ret ?_
                    exact W.zret (v := r30) hx hb hr (Bo.nar h_r30) (fun t9 ht hW => ⟨⟨r30, (s23, g23, n23), rfl, ⟨h_r30, by show sp ≤ s23; omega, hW23⟩, ⟨by rw [ht]; exact hP, va_K.moved hW.alike hK, hD⟩, by rw [ht]; exact hq⟩, hS.F ht⟩) hS.2.2 d_Walk_compares_119
                  · have hk25_0 := i_neN 4 rfl hs25_0
                    have hk25_1 := i_neN 5 rfl hs25_1
                    have hk25_2 := i_neN 6 rfl hs25_2
                    have hk25_3 := i_neN 7 rfl hs25_3
                    have hk25_4 := i_neN 8 rfl hs25_4
                    refine lv_tableOut (tgt := 120) hx hb d_Walk_compares_25 (by omega) (by decide) ?_
                    refine lv_aloadN hx hb d_Walk_compares_120 (lv_at hl 0 rfl) ?_
                    refine lv_aload_nN hx hb d_Walk_compares_122 rfl (lv_at hl 1 rfl) ?_
                    refine vp_callSi (va_Run.run (va_runS (As := [.null, .null]) (rest := []) ⟨hx, hb, hml, hown, hts⟩ (c_Value_less l dC dI H cI cV E lv L (pf f n23) (hO.num n23) none none (fun b h => nomatch h) (fun b h => nomatch h)) (va_cwS 2 hts (gt_S (own := R_Walk) (i := 194) (y := y_Value_less) i_Value_less z_935 z_936 z_14) rfl rfl rfl (by decide +kernel) ⟨by show 3 + 1 ≤ 59 + 5 * n; omega, by show 8 + (2 + 11) + (130) ≤ 2460 + 200 * n; omega⟩) ⟨mq_blind, fun U hU hW => ⟨rfl, hU, by rw [hU]; exact hP.part (cx := []) [] rfl, va_K.moved hW.alike hK, hN.warm hW⟩⟩ rfl rfl hl.1 rfl (lv_room (Nat.le_of_ble_eq_true rfl)) d_Walk_compares_123 ⟨Nat.le_of_ble_eq_true rfl, Nat.le_of_ble_eq_true rfl⟩)) (fun r31 h_r31 => ?_)
                    refine lv_if_ne (tgt := 138) hx hb d_Walk_compares_126 (by decide) (fun c126 => ?_) (fun c126 => ?_)
                    · refine lv_iconst (v := 1) hx hb d_Walk_compares_138 (by decide) ?_
                      refine lv_goto (tgt := 143) hx hb d_Walk_compares_139 (by decide) ?_
                      refine w_same (fun hq => ?_)
                      refine W.widen (k := 1) (n := 6) (Nat.le_of_ble_eq_true rfl) (Nat.le_of_ble_eq_true rfl) ?_
                      refine vx_ret ?_
                      exact W.zret (v := 1) hx hb hr rfl (fun t9 ht hW => ⟨⟨1, (s23, g23, n23), rfl, ⟨(Or.inr rfl), by show sp ≤ s23; omega, hW23⟩, ⟨by rw [ht]; exact hP, va_K.moved hW.alike hK, hD⟩, by rw [ht]; exact hq⟩, hS.F ht⟩) hS.2.2 d_Walk_compares_143
                    · refine lv_aload_nN hx hb d_Walk_compares_129 rfl (lv_at hl 1 rfl) ?_
                      refine lv_aloadN hx hb d_Walk_compares_130 (lv_at hl 0 rfl) ?_
                      refine vp_callSi (va_Run.run (va_runS (As := [.null, .null]) (rest := []) ⟨hx, hb, hml, hown, hts⟩ (c_Value_same l dC dI H cI cV E lv L (pf f n23) (hO.num n23) none none (fun b h => nomatch h) (fun b h => nomatch h)) (va_cwS 2 hts (gt_S (own := R_Walk) (i := 190) (y := y_Value_same) i_Value_same z_928 z_929 z_14) rfl rfl rfl (by decide +kernel) ⟨by show 40 + 1 ≤ 59 + 5 * n; omega, by show 8 + (2 + 11) + (1700) ≤ 2460 + 200 * n; omega⟩) ⟨mq_blind, fun U hU hW => ⟨rfl, hU, by rw [hU]; exact hP.part (cx := []) [] rfl, va_K.moved hW.alike hK, hN.warm hW⟩⟩ rfl rfl hl.1 rfl (lv_room (Nat.le_of_ble_eq_true rfl)) d_Walk_compares_132 ⟨Nat.le_of_ble_eq_true rfl, Nat.le_of_ble_eq_true rfl⟩)) (fun r32 h_r32 => ?_)
                      refine lv_if_eq (tgt := 142) hx hb d_Walk_compares_135 (by decide) (fun c135 => ?_) (fun c135 => ?_)
                      · refine lv_iconst (v := 0) hx hb d_Walk_compares_142 (by decide) ?_
                        refine w_same (fun hq => ?_)
                        refine W.widen (k := 1) (n := 6) (Nat.le_of_ble_eq_true rfl) (Nat.le_of_ble_eq_true rfl) ?_
                        refine vx_ret ?_
                        exact W.zret (v := 0) hx hb hr rfl (fun t9 ht hW => ⟨⟨0, (s23, g23, n23), rfl, ⟨(Or.inl rfl), by show sp ≤ s23; omega, hW23⟩, ⟨by rw [ht]; exact hP, va_K.moved hW.alike hK, hD⟩, by rw [ht]; exact hq⟩, hS.F ht⟩) hS.2.2 d_Walk_compares_143
                      · refine lv_iconst (v := 1) hx hb d_Walk_compares_138 (by decide) ?_
                        refine lv_goto (tgt := 143) hx hb d_Walk_compares_139 (by decide) ?_
                        refine w_same (fun hq => ?_)
                        refine W.widen (k := 1) (n := 6) (Nat.le_of_ble_eq_true rfl) (Nat.le_of_ble_eq_true rfl) ?_
                        refine vx_ret ?_
                        exact W.zret (v := 1) hx hb hr rfl (fun t9 ht hW => ⟨⟨1, (s23, g23, n23), rfl, ⟨(Or.inr rfl), by show sp ≤ s23; omega, hW23⟩, ⟨by rw [ht]; exact hP, va_K.moved hW.alike hK, hD⟩, by rw [ht]; exact hq⟩, hS.F ht⟩) hS.2.2 d_Walk_compares_143
        · refine lv_astore (lv' := [(4, .ref b24), (3, .null), (0, .ref wk), (1, .ref co), (2, .ref cu)]) hx hb d_Walk_compares_19 hl (by decide) rfl (fun ls hl => ?_)
          refine lv_aload_n hx hb d_Walk_compares_21 rfl (lv_at hl 3 rfl) ?_
          refine vq_get (D := (dC, dI)) (ci := 0) (v := .int kd9) (C := R_Condition) (T := F_Condition) (N := 6) hx hb hts in_Condition hown hK hP (hO.inL (a := co) (by rw [hco]; decide)) (pf_K ef9) rfl 0 (by decide) (hts _ z_677) (fun _ h9 => h9) rfl d_Walk_compares_22 ?_
          by_cases hs25_0 : kd9 = 4
          · refine lv_tableIn (tgt := 60) (off := 35) hx hb d_Walk_compares_25 (by rw [hs25_0]; decide) (by rw [hs25_0]; decide) (by rw [hs25_0]; rfl) (by decide) ?_
            refine lv_aload_nN hx hb d_Walk_compares_60 rfl (lv_at hl 1 rfl) ?_
            refine lv_aload hx hb d_Walk_compares_61 (lv_at hl 0 rfl) ?_
            refine vp_callSi (va_Run.run (va_runS (As := [.null, .ref b24]) (rest := []) ⟨hx, hb, hml, hown, hts⟩ (c_Value_same l dC dI H cI cV E lv L (pf f n23) (hO.num n23) none (some b24) (fun b h => nomatch h) (fun b h => by cases h; exact (h_r23 b24 rfl))) (va_cwS 2 hts (gt_S (own := R_Walk) (i := 190) (y := y_Value_same) i_Value_same z_928 z_929 z_14) rfl rfl rfl (by decide +kernel) ⟨by show 40 + 1 ≤ 59 + 5 * n; omega, by show 8 + (2 + 11) + (1700) ≤ 2460 + 200 * n; omega⟩) ⟨mq_blind, fun U hU hW => ⟨rfl, hU, by rw [hU]; exact hP.part (cx := []) [] rfl, va_K.moved hW.alike hK, hN.warm hW⟩⟩ rfl rfl hl.1 rfl (lv_room (Nat.le_of_ble_eq_true rfl)) d_Walk_compares_63 ⟨Nat.le_of_ble_eq_true rfl, Nat.le_of_ble_eq_true rfl⟩)) (fun r33 h_r33 => ?_)
            refine w_same (fun hq => ?_)
            refine W.widen (k := 1) (n := 6) (Nat.le_of_ble_eq_true rfl) (Nat.le_of_ble_eq_true rfl) ?_
            refine vx_ret ?_
            exact W.zret (v := r33) hx hb hr (Bo.nar h_r33) (fun t9 ht hW => ⟨⟨r33, (s23, g23, n23), rfl, ⟨h_r33, by show sp ≤ s23; omega, hW23⟩, ⟨by rw [ht]; exact hP, va_K.moved hW.alike hK, hD⟩, by rw [ht]; exact hq⟩, hS.F ht⟩) hS.2.2 d_Walk_compares_66
          · by_cases hs25_1 : kd9 = 5
            · refine lv_tableIn (tgt := 67) (off := 42) hx hb d_Walk_compares_25 (by rw [hs25_1]; decide) (by rw [hs25_1]; decide) (by rw [hs25_1]; rfl) (by decide) ?_
              refine lv_aload_nN hx hb d_Walk_compares_67 rfl (lv_at hl 1 rfl) ?_
              refine lv_aload hx hb d_Walk_compares_68 (lv_at hl 0 rfl) ?_
              refine vp_callSi (va_Run.run (va_runS (As := [.null, .ref b24]) (rest := []) ⟨hx, hb, hml, hown, hts⟩ (c_Value_same l dC dI H cI cV E lv L (pf f n23) (hO.num n23) none (some b24) (fun b h => nomatch h) (fun b h => by cases h; exact (h_r23 b24 rfl))) (va_cwS 2 hts (gt_S (own := R_Walk) (i := 190) (y := y_Value_same) i_Value_same z_928 z_929 z_14) rfl rfl rfl (by decide +kernel) ⟨by show 40 + 1 ≤ 59 + 5 * n; omega, by show 8 + (2 + 11) + (1700) ≤ 2460 + 200 * n; omega⟩) ⟨mq_blind, fun U hU hW => ⟨rfl, hU, by rw [hU]; exact hP.part (cx := []) [] rfl, va_K.moved hW.alike hK, hN.warm hW⟩⟩ rfl rfl hl.1 rfl (lv_room (Nat.le_of_ble_eq_true rfl)) d_Walk_compares_70 ⟨Nat.le_of_ble_eq_true rfl, Nat.le_of_ble_eq_true rfl⟩)) (fun r34 h_r34 => ?_)
              refine lv_if_ne (tgt := 80) hx hb d_Walk_compares_73 (by decide) (fun c73 => ?_) (fun c73 => ?_)
              · refine lv_iconst (v := 0) hx hb d_Walk_compares_80 (by decide) ?_
                refine w_same (fun hq => ?_)
                refine W.widen (k := 1) (n := 6) (Nat.le_of_ble_eq_true rfl) (Nat.le_of_ble_eq_true rfl) ?_
                refine vx_ret ?_
                exact W.zret (v := 0) hx hb hr rfl (fun t9 ht hW => ⟨⟨0, (s23, g23, n23), rfl, ⟨(Or.inl rfl), by show sp ≤ s23; omega, hW23⟩, ⟨by rw [ht]; exact hP, va_K.moved hW.alike hK, hD⟩, by rw [ht]; exact hq⟩, hS.F ht⟩) hS.2.2 d_Walk_compares_81
              · refine lv_iconst (v := 1) hx hb d_Walk_compares_76 (by decide) ?_
                refine lv_goto (tgt := 81) hx hb d_Walk_compares_77 (by decide) ?_
                refine w_same (fun hq => ?_)
                refine W.widen (k := 1) (n := 6) (Nat.le_of_ble_eq_true rfl) (Nat.le_of_ble_eq_true rfl) ?_
                refine vx_ret ?_
                exact W.zret (v := 1) hx hb hr rfl (fun t9 ht hW => ⟨⟨1, (s23, g23, n23), rfl, ⟨(Or.inr rfl), by show sp ≤ s23; omega, hW23⟩, ⟨by rw [ht]; exact hP, va_K.moved hW.alike hK, hD⟩, by rw [ht]; exact hq⟩, hS.F ht⟩) hS.2.2 d_Walk_compares_81
            · by_cases hs25_2 : kd9 = 6
              · refine lv_tableIn (tgt := 82) (off := 57) hx hb d_Walk_compares_25 (by rw [hs25_2]; decide) (by rw [hs25_2]; decide) (by rw [hs25_2]; rfl) (by decide) ?_
                refine lv_aload_nN hx hb d_Walk_compares_82 rfl (lv_at hl 1 rfl) ?_
                refine lv_aload hx hb d_Walk_compares_83 (lv_at hl 0 rfl) ?_
                refine vp_callSi (va_Run.run (va_runS (As := [.null, .ref b24]) (rest := []) ⟨hx, hb, hml, hown, hts⟩ (c_Value_less l dC dI H cI cV E lv L (pf f n23) (hO.num n23) none (some b24) (fun b h => nomatch h) (fun b h => by cases h; exact (h_r23 b24 rfl))) (va_cwS 2 hts (gt_S (own := R_Walk) (i := 194) (y := y_Value_less) i_Value_less z_935 z_936 z_14) rfl rfl rfl (by decide +kernel) ⟨by show 3 + 1 ≤ 59 + 5 * n; omega, by show 8 + (2 + 11) + (130) ≤ 2460 + 200 * n; omega⟩) ⟨mq_blind, fun U hU hW => ⟨rfl, hU, by rw [hU]; exact hP.part (cx := []) [] rfl, va_K.moved hW.alike hK, hN.warm hW⟩⟩ rfl rfl hl.1 rfl (lv_room (Nat.le_of_ble_eq_true rfl)) d_Walk_compares_85 ⟨Nat.le_of_ble_eq_true rfl, Nat.le_of_ble_eq_true rfl⟩)) (fun r35 h_r35 => ?_)
                refine w_same (fun hq => ?_)
                refine W.widen (k := 1) (n := 6) (Nat.le_of_ble_eq_true rfl) (Nat.le_of_ble_eq_true rfl) ?_
                refine vx_ret ?_
                exact W.zret (v := r35) hx hb hr (Bo.nar h_r35) (fun t9 ht hW => ⟨⟨r35, (s23, g23, n23), rfl, ⟨h_r35, by show sp ≤ s23; omega, hW23⟩, ⟨by rw [ht]; exact hP, va_K.moved hW.alike hK, hD⟩, by rw [ht]; exact hq⟩, hS.F ht⟩) hS.2.2 d_Walk_compares_88
              · by_cases hs25_3 : kd9 = 7
                · refine lv_tableIn (tgt := 89) (off := 64) hx hb d_Walk_compares_25 (by rw [hs25_3]; decide) (by rw [hs25_3]; decide) (by rw [hs25_3]; rfl) (by decide) ?_
                  refine lv_aload_nN hx hb d_Walk_compares_89 rfl (lv_at hl 1 rfl) ?_
                  refine lv_aload hx hb d_Walk_compares_90 (lv_at hl 0 rfl) ?_
                  refine vp_callSi (va_Run.run (va_runS (As := [.null, .ref b24]) (rest := []) ⟨hx, hb, hml, hown, hts⟩ (c_Value_less l dC dI H cI cV E lv L (pf f n23) (hO.num n23) none (some b24) (fun b h => nomatch h) (fun b h => by cases h; exact (h_r23 b24 rfl))) (va_cwS 2 hts (gt_S (own := R_Walk) (i := 194) (y := y_Value_less) i_Value_less z_935 z_936 z_14) rfl rfl rfl (by decide +kernel) ⟨by show 3 + 1 ≤ 59 + 5 * n; omega, by show 8 + (2 + 11) + (130) ≤ 2460 + 200 * n; omega⟩) ⟨mq_blind, fun U hU hW => ⟨rfl, hU, by rw [hU]; exact hP.part (cx := []) [] rfl, va_K.moved hW.alike hK, hN.warm hW⟩⟩ rfl rfl hl.1 rfl (lv_room (Nat.le_of_ble_eq_true rfl)) d_Walk_compares_92 ⟨Nat.le_of_ble_eq_true rfl, Nat.le_of_ble_eq_true rfl⟩)) (fun r36 h_r36 => ?_)
                  refine lv_if_ne (tgt := 107) hx hb d_Walk_compares_95 (by decide) (fun c95 => ?_) (fun c95 => ?_)
                  · refine lv_iconst (v := 1) hx hb d_Walk_compares_107 (by decide) ?_
                    refine lv_goto (tgt := 112) hx hb d_Walk_compares_108 (by decide) ?_
                    refine w_same (fun hq => ?_)
                    refine W.widen (k := 1) (n := 6) (Nat.le_of_ble_eq_true rfl) (Nat.le_of_ble_eq_true rfl) ?_
                    refine vx_ret ?_
                    exact W.zret (v := 1) hx hb hr rfl (fun t9 ht hW => ⟨⟨1, (s23, g23, n23), rfl, ⟨(Or.inr rfl), by show sp ≤ s23; omega, hW23⟩, ⟨by rw [ht]; exact hP, va_K.moved hW.alike hK, hD⟩, by rw [ht]; exact hq⟩, hS.F ht⟩) hS.2.2 d_Walk_compares_112
                  · refine lv_aload_nN hx hb d_Walk_compares_98 rfl (lv_at hl 1 rfl) ?_
                    refine lv_aload hx hb d_Walk_compares_99 (lv_at hl 0 rfl) ?_
                    refine vp_callSi (va_Run.run (va_runS (As := [.null, .ref b24]) (rest := []) ⟨hx, hb, hml, hown, hts⟩ (c_Value_same l dC dI H cI cV E lv L (pf f n23) (hO.num n23) none (some b24) (fun b h => nomatch h) (fun b h => by cases h; exact (h_r23 b24 rfl))) (va_cwS 2 hts (gt_S (own := R_Walk) (i := 190) (y := y_Value_same) i_Value_same z_928 z_929 z_14) rfl rfl rfl (by decide +kernel) ⟨by show 40 + 1 ≤ 59 + 5 * n; omega, by show 8 + (2 + 11) + (1700) ≤ 2460 + 200 * n; omega⟩) ⟨mq_blind, fun U hU hW => ⟨rfl, hU, by rw [hU]; exact hP.part (cx := []) [] rfl, va_K.moved hW.alike hK, hN.warm hW⟩⟩ rfl rfl hl.1 rfl (lv_room (Nat.le_of_ble_eq_true rfl)) d_Walk_compares_101 ⟨Nat.le_of_ble_eq_true rfl, Nat.le_of_ble_eq_true rfl⟩)) (fun r37 h_r37 => ?_)
                    refine lv_if_eq (tgt := 111) hx hb d_Walk_compares_104 (by decide) (fun c104 => ?_) (fun c104 => ?_)
                    · refine lv_iconst (v := 0) hx hb d_Walk_compares_111 (by decide) ?_
                      refine w_same (fun hq => ?_)
                      refine W.widen (k := 1) (n := 6) (Nat.le_of_ble_eq_true rfl) (Nat.le_of_ble_eq_true rfl) ?_
                      refine vx_ret ?_
                      exact W.zret (v := 0) hx hb hr rfl (fun t9 ht hW => ⟨⟨0, (s23, g23, n23), rfl, ⟨(Or.inl rfl), by show sp ≤ s23; omega, hW23⟩, ⟨by rw [ht]; exact hP, va_K.moved hW.alike hK, hD⟩, by rw [ht]; exact hq⟩, hS.F ht⟩) hS.2.2 d_Walk_compares_112
                    · refine lv_iconst (v := 1) hx hb d_Walk_compares_107 (by decide) ?_
                      refine lv_goto (tgt := 112) hx hb d_Walk_compares_108 (by decide) ?_
                      refine w_same (fun hq => ?_)
                      refine W.widen (k := 1) (n := 6) (Nat.le_of_ble_eq_true rfl) (Nat.le_of_ble_eq_true rfl) ?_
                      refine vx_ret ?_
                      exact W.zret (v := 1) hx hb hr rfl (fun t9 ht hW => ⟨⟨1, (s23, g23, n23), rfl, ⟨(Or.inr rfl), by show sp ≤ s23; omega, hW23⟩, ⟨by rw [ht]; exact hP, va_K.moved hW.alike hK, hD⟩, by rw [ht]; exact hq⟩, hS.F ht⟩) hS.2.2 d_Walk_compares_112
                · by_cases hs25_4 : kd9 = 8
                  · refine lv_tableIn (tgt := 113) (off := 88) hx hb d_Walk_compares_25 (by rw [hs25_4]; decide) (by rw [hs25_4]; decide) (by rw [hs25_4]; rfl) (by decide) ?_
                    refine lv_aload hx hb d_Walk_compares_113 (lv_at hl 0 rfl) ?_
                    refine lv_aload_nN hx hb d_Walk_compares_115 rfl (lv_at hl 1 rfl) ?_
                    refine vp_callSi (va_Run.run (va_runS (As := [.ref b24, .null]) (rest := []) ⟨hx, hb, hml, hown, hts⟩ (c_Value_less l dC dI H cI cV E lv L (pf f n23) (hO.num n23) (some b24) none (fun b h => by cases h; exact (h_r23 b24 rfl)) (fun b h => nomatch h)) (va_cwS 2 hts (gt_S (own := R_Walk) (i := 194) (y := y_Value_less) i_Value_less z_935 z_936 z_14) rfl rfl rfl (by decide +kernel) ⟨by show 3 + 1 ≤ 59 + 5 * n; omega, by show 8 + (2 + 11) + (130) ≤ 2460 + 200 * n; omega⟩) ⟨mq_blind, fun U hU hW => ⟨rfl, hU, by rw [hU]; exact hP.part (cx := []) [] rfl, va_K.moved hW.alike hK, hN.warm hW⟩⟩ rfl rfl hl.1 rfl (lv_room (Nat.le_of_ble_eq_true rfl)) d_Walk_compares_116 ⟨Nat.le_of_ble_eq_true rfl, Nat.le_of_ble_eq_true rfl⟩)) (fun r38 h_r38 => ?_)
                    refine w_same (fun hq => ?_)
                    refine W.widen (k := 1) (n := 6) (Nat.le_of_ble_eq_true rfl) (Nat.le_of_ble_eq_true rfl) ?_
                    refine vx_ret ?_
                    exact W.zret (v := r38) hx hb hr (Bo.nar h_r38) (fun t9 ht hW => ⟨⟨r38, (s23, g23, n23), rfl, ⟨h_r38, by show sp ≤ s23; omega, hW23⟩, ⟨by rw [ht]; exact hP, va_K.moved hW.alike hK, hD⟩, by rw [ht]; exact hq⟩, hS.F ht⟩) hS.2.2 d_Walk_compares_119
                  · have hk25_0 := i_neN 4 rfl hs25_0
                    have hk25_1 := i_neN 5 rfl hs25_1
                    have hk25_2 := i_neN 6 rfl hs25_2
                    have hk25_3 := i_neN 7 rfl hs25_3
                    have hk25_4 := i_neN 8 rfl hs25_4
                    refine lv_tableOut (tgt := 120) hx hb d_Walk_compares_25 (by omega) (by decide) ?_
                    refine lv_aload hx hb d_Walk_compares_120 (lv_at hl 0 rfl) ?_
                    refine lv_aload_nN hx hb d_Walk_compares_122 rfl (lv_at hl 1 rfl) ?_
                    refine vp_callSi (va_Run.run (va_runS (As := [.ref b24, .null]) (rest := []) ⟨hx, hb, hml, hown, hts⟩ (c_Value_less l dC dI H cI cV E lv L (pf f n23) (hO.num n23) (some b24) none (fun b h => by cases h; exact (h_r23 b24 rfl)) (fun b h => nomatch h)) (va_cwS 2 hts (gt_S (own := R_Walk) (i := 194) (y := y_Value_less) i_Value_less z_935 z_936 z_14) rfl rfl rfl (by decide +kernel) ⟨by show 3 + 1 ≤ 59 + 5 * n; omega, by show 8 + (2 + 11) + (130) ≤ 2460 + 200 * n; omega⟩) ⟨mq_blind, fun U hU hW => ⟨rfl, hU, by rw [hU]; exact hP.part (cx := []) [] rfl, va_K.moved hW.alike hK, hN.warm hW⟩⟩ rfl rfl hl.1 rfl (lv_room (Nat.le_of_ble_eq_true rfl)) d_Walk_compares_123 ⟨Nat.le_of_ble_eq_true rfl, Nat.le_of_ble_eq_true rfl⟩)) (fun r39 h_r39 => ?_)
                    refine lv_if_ne (tgt := 138) hx hb d_Walk_compares_126 (by decide) (fun c126 => ?_) (fun c126 => ?_)
                    · refine lv_iconst (v := 1) hx hb d_Walk_compares_138 (by decide) ?_
                      refine lv_goto (tgt := 143) hx hb d_Walk_compares_139 (by decide) ?_
                      refine w_same (fun hq => ?_)
                      refine W.widen (k := 1) (n := 6) (Nat.le_of_ble_eq_true rfl) (Nat.le_of_ble_eq_true rfl) ?_
                      refine vx_ret ?_
                      exact W.zret (v := 1) hx hb hr rfl (fun t9 ht hW => ⟨⟨1, (s23, g23, n23), rfl, ⟨(Or.inr rfl), by show sp ≤ s23; omega, hW23⟩, ⟨by rw [ht]; exact hP, va_K.moved hW.alike hK, hD⟩, by rw [ht]; exact hq⟩, hS.F ht⟩) hS.2.2 d_Walk_compares_143
                    · refine lv_aload_nN hx hb d_Walk_compares_129 rfl (lv_at hl 1 rfl) ?_
                      refine lv_aload hx hb d_Walk_compares_130 (lv_at hl 0 rfl) ?_
                      refine vp_callSi (va_Run.run (va_runS (As := [.null, .ref b24]) (rest := []) ⟨hx, hb, hml, hown, hts⟩ (c_Value_same l dC dI H cI cV E lv L (pf f n23) (hO.num n23) none (some b24) (fun b h => nomatch h) (fun b h => by cases h; exact (h_r23 b24 rfl))) (va_cwS 2 hts (gt_S (own := R_Walk) (i := 190) (y := y_Value_same) i_Value_same z_928 z_929 z_14) rfl rfl rfl (by decide +kernel) ⟨by show 40 + 1 ≤ 59 + 5 * n; omega, by show 8 + (2 + 11) + (1700) ≤ 2460 + 200 * n; omega⟩) ⟨mq_blind, fun U hU hW => ⟨rfl, hU, by rw [hU]; exact hP.part (cx := []) [] rfl, va_K.moved hW.alike hK, hN.warm hW⟩⟩ rfl rfl hl.1 rfl (lv_room (Nat.le_of_ble_eq_true rfl)) d_Walk_compares_132 ⟨Nat.le_of_ble_eq_true rfl, Nat.le_of_ble_eq_true rfl⟩)) (fun r40 h_r40 => ?_)
                      refine lv_if_eq (tgt := 142) hx hb d_Walk_compares_135 (by decide) (fun c135 => ?_) (fun c135 => ?_)
                      · refine lv_iconst (v := 0) hx hb d_Walk_compares_142 (by decide) ?_
                        refine w_same (fun hq => ?_)
                        refine W.widen (k := 1) (n := 6) (Nat.le_of_ble_eq_true rfl) (Nat.le_of_ble_eq_true rfl) ?_
                        refine vx_ret ?_
                        exact W.zret (v := 0) hx hb hr rfl (fun t9 ht hW => ⟨⟨0, (s23, g23, n23), rfl, ⟨(Or.inl rfl), by show sp ≤ s23; omega, hW23⟩, ⟨by rw [ht]; exact hP, va_K.moved hW.alike hK, hD⟩, by rw [ht]; exact hq⟩, hS.F ht⟩) hS.2.2 d_Walk_compares_143
                      · refine lv_iconst (v := 1) hx hb d_Walk_compares_138 (by decide) ?_
                        refine lv_goto (tgt := 143) hx hb d_Walk_compares_139 (by decide) ?_
                        refine w_same (fun hq => ?_)
                        refine W.widen (k := 1) (n := 6) (Nat.le_of_ble_eq_true rfl) (Nat.le_of_ble_eq_true rfl) ?_
                        refine vx_ret ?_
                        exact W.zret (v := 1) hx hb hr rfl (fun t9 ht hW => ⟨⟨1, (s23, g23, n23), rfl, ⟨(Or.inr rfl), by show sp ≤ s23; omega, hW23⟩, ⟨by rw [ht]; exact hP, va_K.moved hW.alike hK, hD⟩, by rw [ht]; exact hq⟩, hS.F ht⟩) hS.2.2 d_Walk_compares_143
    · refine lv_astore_n (lv' := [(3, .ref b22), (0, .ref wk), (1, .ref co), (2, .ref cu)]) hx hb d_Walk_compares_9 rfl hl (by decide) rfl (fun ls hl => ?_)
      refine lv_aload_n hx hb d_Walk_compares_10 rfl (lv_at hl 1 rfl) ?_
      refine lv_aload_n hx hb d_Walk_compares_11 rfl (lv_at hl 2 rfl) ?_
      refine vq_get (D := (dC, dI)) (ci := 0) (v := .ref ri) (C := R_Condition) (T := F_Condition) (N := 6) hx hb hts in_Condition hown hK hP (hO.inL (a := co) (by rw [hco]; decide)) (pf_K ef9) rfl 5 (by decide) (hts _ z_686) (fun _ h9 => h9) rfl d_Walk_compares_12 ?_
      refine lv_aload_n hx hb d_Walk_compares_15 rfl (lv_at hl 3 rfl) ?_
      have hPc := hP.part (cx := [(wk, .inr (10, [.ref wl, .int (nI tp), .int (nI s21), .ref rt])), (wl, .inl (cV, 10000, .inr (.inr (.inr (.inr g21)))))]) [0, 1] rfl
      have hDc := hD.part (cx := [(wk, .inr (10, [.ref wl, .int (nI tp), .int (nI s21), .ref rt])), (wl, .inl (cV, 10000, .inr (.inr (.inr (.inr g21)))))]) [0, 1] (by decide) rfl
      have hFc := va_freeP (cx := [(wk, .inr (10, [.ref wl, .int (nI tp), .int (nI s21), .ref rt])), (wl, .inl (cV, 10000, .inr (.inr (.inr (.inr g21)))))]) hD hS hA [0, 1] rfl
      have hKc := hK.sub (tys' := [(cI, .int), (cV, .object "QueryBench$Value")]) [0, 1] rfl
      refine w_same (fun hq0 => ?_)
      refine vx_callq (vx_runV (As := [.ref ri, .ref cu]) (rest := []) ⟨hx, hb, hml, hown, hts⟩ (HI H tp s21 g21 n21 hW21 ri cu hri hri2 hcu) (cwV 2 hts (gt_V (own := R_Walk) (C := R_Walk) (i := 183) (y := y_Walk_valueOf) i_Walk_valueOf z_915 z_917 (gt_sel (y := y_Walk_valueOf) (n := 4) (by decide +kernel)) w_5) rfl rfl rfl (by decide +kernel) ⟨by show 60 + 5 * (n - 1) + 1 ≤ 59 + 5 * n; omega, by show 8 + (4 + 11) + (2500 + 200 * (n - 1)) ≤ 2460 + 200 * n; omega⟩) ⟨ml_blind, va_recv hK hP (ci := 10) (q0 := 0) rfl rfl, fun U hU hW => ⟨rfl, ⟨hU, by rw [hU]; exact hPc, va_K.moved hW.alike hKc, hDc.weaken (fun _ _ _ _ => trivial)⟩, hN.warm hW, by rw [hU]; exact ZX.moved' hW.alike (ZX.narrow' (ZX.kept' hZ hS.2.1) hFc), by rw [hU]; exact CE.call hC hS.2.1 hFc hW, va_AO.moved hW.alike hV⟩⟩ rfl rfl hl.1 rfl (lv_room (Nat.le_of_ble_eq_true rfl)) d_Walk_compares_16 ⟨Nat.le_of_ble_eq_true rfl, Nat.le_of_ble_eq_true rfl⟩) hS (fun q _ h => hFc q h) hFc (fun q _ h => hFc q h) (fun En ce q9 ⟨tx, sx, gx, nx⟩ t9 H1 locs ht hvm hw hB hz1 hk1 hS hce hcv hcl => ?_) (fun r41 ⟨s41, g41, n41⟩ t9 H1 locs ht hvm hw hB hz1 hk1 hS => ?_)
      · obtain ⟨hEn, hP1, hK1, hD1⟩ := hB
        rw [ht] at hP1
        obtain ⟨hP, hD⟩ := va_joinP (wr := []) (rx := [(wk, .inr (10, [.ref wl, .int tx, .int sx, .ref rt])), (wl, .inl (cV, 10000, .inr (.inr (.inr (.inr gx)))))]) (pl1 := va_pl L (pf f nx)) hP hD [0, 1] [] rfl rfl (by decide) (by decide) hk1 hFc hP1 hD1
        generalize H1 = H at hP hS hce ⊢
        have hP : va_P (dC, dI) classes ([(wk, .inr (10, [.ref wl, .int tx, .int sx, .ref rt])), (wl, .inl (cV, 10000, .inr (.inr (.inr (.inr gx)))))] ++ va_pl L (pf f nx)) H := hP
        have hD : va_D A ([(wk, .inr (10, [.ref wl, .int tx, .int sx, .ref rt])), (wl, .inl (cV, 10000, .inr (.inr (.inr (.inr gx)))))] ++ va_pl L (pf f nx)) := hD
        exact vx_out (fun x hx => (hex x hx).elim) hlocks hce hcv hcl (fun t9 ht2 ha => ⟨(tx, sx, gx, nx), trivial, ⟨hEn, by rw [ht2]; exact hP, va_K.moved ha hK, hD⟩, hS.F ht2⟩) hS.2.2 (Nat.le_of_ble_eq_true rfl) (Nat.le_of_ble_eq_true rfl)
      · obtain ⟨⟨hP1, hK1, hD1⟩, hz9⟩ := hB
        rw [ht] at hP1
        rw [ht] at hz9
        refine w_tight (hq0.trans hz9) ?_
        have hq0 := hq0.trans hz9
        obtain ⟨hP, hD⟩ := va_joinP (wr := []) (rx := [(wk, .inr (10, [.ref wl, .int (nI tp), .int (nI s41), .ref rt])), (wl, .inl (cV, 10000, .inr (.inr (.inr (.inr g41)))))]) (pl1 := va_pl L (pf f n41)) hP hD [0, 1] [] rfl rfl (by decide) (by decide) hk1 hFc hP1 hD1
        generalize H1 = H at hP hS hq0 ⊢
        have hP : va_P (dC, dI) classes ([(wk, .inr (10, [.ref wl, .int (nI tp), .int (nI s41), .ref rt])), (wl, .inl (cV, 10000, .inr (.inr (.inr (.inr g41)))))] ++ va_pl L (pf f n41)) H := hP
        have hD : va_D A ([(wk, .inr (10, [.ref wl, .int (nI tp), .int (nI s41), .ref rt])), (wl, .inl (cV, 10000, .inr (.inr (.inr (.inr g41)))))] ++ va_pl L (pf f n41)) := hD
        obtain ⟨h_r41, hb41, hW41⟩ := hw
        have hb41 : s21 ≤ s41 := hb41
        have hW41 : WI E tp s41 g41 := hW41
        have hhW411 := hW41.1
        have hhW412 := hW41.2.1
        rcases r41 with _ | b42
        · refine lv_astoreN (lv' := [(4, .null), (3, .ref b22), (0, .ref wk), (1, .ref co), (2, .ref cu)]) hx hb d_Walk_compares_19 hl (by decide) rfl (fun ls hl => ?_)
          refine lv_aload_n hx hb d_Walk_compares_21 rfl (lv_at hl 3 rfl) ?_
          refine vq_get (D := (dC, dI)) (ci := 0) (v := .int kd9) (C := R_Condition) (T := F_Condition) (N := 6) hx hb hts in_Condition hown hK hP (hO.inL (a := co) (by rw [hco]; decide)) (pf_K ef9) rfl 0 (by decide) (hts _ z_677) (fun _ h9 => h9) rfl d_Walk_compares_22 ?_
          by_cases hs25_0 : kd9 = 4
          · refine lv_tableIn (tgt := 60) (off := 35) hx hb d_Walk_compares_25 (by rw [hs25_0]; decide) (by rw [hs25_0]; decide) (by rw [hs25_0]; rfl) (by decide) ?_
            refine lv_aload_n hx hb d_Walk_compares_60 rfl (lv_at hl 1 rfl) ?_
            refine lv_aloadN hx hb d_Walk_compares_61 (lv_at hl 0 rfl) ?_
            refine vp_callSi (va_Run.run (va_runS (As := [.ref b22, .null]) (rest := []) ⟨hx, hb, hml, hown, hts⟩ (c_Value_same l dC dI H cI cV E lv L (pf f n41) (hO.num n41) (some b22) none (fun b h => by cases h; exact (h_r21 b22 rfl)) (fun b h => nomatch h)) (va_cwS 2 hts (gt_S (own := R_Walk) (i := 190) (y := y_Value_same) i_Value_same z_928 z_929 z_14) rfl rfl rfl (by decide +kernel) ⟨by show 40 + 1 ≤ 59 + 5 * n; omega, by show 8 + (2 + 11) + (1700) ≤ 2460 + 200 * n; omega⟩) ⟨mq_blind, fun U hU hW => ⟨rfl, hU, by rw [hU]; exact hP.part (cx := []) [] rfl, va_K.moved hW.alike hK, hN.warm hW⟩⟩ rfl rfl hl.1 rfl (lv_room (Nat.le_of_ble_eq_true rfl)) d_Walk_compares_63 ⟨Nat.le_of_ble_eq_true rfl, Nat.le_of_ble_eq_true rfl⟩)) (fun r43 h_r43 => ?_)
            refine w_same (fun hq => ?_)
            refine W.widen (k := 1) (n := 6) (Nat.le_of_ble_eq_true rfl) (Nat.le_of_ble_eq_true rfl) ?_
            refine vx_ret ?_
            exact W.zret (v := r43) hx hb hr (Bo.nar h_r43) (fun t9 ht hW => ⟨⟨r43, (s41, g41, n41), rfl, ⟨h_r43, by show sp ≤ s41; omega, hW41⟩, ⟨by rw [ht]; exact hP, va_K.moved hW.alike hK, hD⟩, by rw [ht]; exact hq⟩, hS.F ht⟩) hS.2.2 d_Walk_compares_66
          · by_cases hs25_1 : kd9 = 5
            · refine lv_tableIn (tgt := 67) (off := 42) hx hb d_Walk_compares_25 (by rw [hs25_1]; decide) (by rw [hs25_1]; decide) (by rw [hs25_1]; rfl) (by decide) ?_
              refine lv_aload_n hx hb d_Walk_compares_67 rfl (lv_at hl 1 rfl) ?_
              refine lv_aloadN hx hb d_Walk_compares_68 (lv_at hl 0 rfl) ?_
              refine vp_callSi (va_Run.run (va_runS (As := [.ref b22, .null]) (rest := []) ⟨hx, hb, hml, hown, hts⟩ (c_Value_same l dC dI H cI cV E lv L (pf f n41) (hO.num n41) (some b22) none (fun b h => by cases h; exact (h_r21 b22 rfl)) (fun b h => nomatch h)) (va_cwS 2 hts (gt_S (own := R_Walk) (i := 190) (y := y_Value_same) i_Value_same z_928 z_929 z_14) rfl rfl rfl (by decide +kernel) ⟨by show 40 + 1 ≤ 59 + 5 * n; omega, by show 8 + (2 + 11) + (1700) ≤ 2460 + 200 * n; omega⟩) ⟨mq_blind, fun U hU hW => ⟨rfl, hU, by rw [hU]; exact hP.part (cx := []) [] rfl, va_K.moved hW.alike hK, hN.warm hW⟩⟩ rfl rfl hl.1 rfl (lv_room (Nat.le_of_ble_eq_true rfl)) d_Walk_compares_70 ⟨Nat.le_of_ble_eq_true rfl, Nat.le_of_ble_eq_true rfl⟩)) (fun r44 h_r44 => ?_)
              refine lv_if_ne (tgt := 80) hx hb d_Walk_compares_73 (by decide) (fun c73 => ?_) (fun c73 => ?_)
              · refine lv_iconst (v := 0) hx hb d_Walk_compares_80 (by decide) ?_
                refine w_same (fun hq => ?_)
                refine W.widen (k := 1) (n := 6) (Nat.le_of_ble_eq_true rfl) (Nat.le_of_ble_eq_true rfl) ?_
                refine vx_ret ?_
                exact W.zret (v := 0) hx hb hr rfl (fun t9 ht hW => ⟨⟨0, (s41, g41, n41), rfl, ⟨(Or.inl rfl), by show sp ≤ s41; omega, hW41⟩, ⟨by rw [ht]; exact hP, va_K.moved hW.alike hK, hD⟩, by rw [ht]; exact hq⟩, hS.F ht⟩) hS.2.2 d_Walk_compares_81
              · refine lv_iconst (v := 1) hx hb d_Walk_compares_76 (by decide) ?_
                refine lv_goto (tgt := 81) hx hb d_Walk_compares_77 (by decide) ?_
                refine w_same (fun hq => ?_)
                refine W.widen (k := 1) (n := 6) (Nat.le_of_ble_eq_true rfl) (Nat.le_of_ble_eq_true rfl) ?_
                refine vx_ret ?_
                exact W.zret (v := 1) hx hb hr rfl (fun t9 ht hW => ⟨⟨1, (s41, g41, n41), rfl, ⟨(Or.inr rfl), by show sp ≤ s41; omega, hW41⟩, ⟨by rw [ht]; exact hP, va_K.moved hW.alike hK, hD⟩, by rw [ht]; exact hq⟩, hS.F ht⟩) hS.2.2 d_Walk_compares_81
            · by_cases hs25_2 : kd9 = 6
              · refine lv_tableIn (tgt := 82) (off := 57) hx hb d_Walk_compares_25 (by rw [hs25_2]; decide) (by rw [hs25_2]; decide) (by rw [hs25_2]; rfl) (by decide) ?_
                refine lv_aload_n hx hb d_Walk_compares_82 rfl (lv_at hl 1 rfl) ?_
                refine lv_aloadN hx hb d_Walk_compares_83 (lv_at hl 0 rfl) ?_
                refine vp_callSi (va_Run.run (va_runS (As := [.ref b22, .null]) (rest := []) ⟨hx, hb, hml, hown, hts⟩ (c_Value_less l dC dI H cI cV E lv L (pf f n41) (hO.num n41) (some b22) none (fun b h => by cases h; exact (h_r21 b22 rfl)) (fun b h => nomatch h)) (va_cwS 2 hts (gt_S (own := R_Walk) (i := 194) (y := y_Value_less) i_Value_less z_935 z_936 z_14) rfl rfl rfl (by decide +kernel) ⟨by show 3 + 1 ≤ 59 + 5 * n; omega, by show 8 + (2 + 11) + (130) ≤ 2460 + 200 * n; omega⟩) ⟨mq_blind, fun U hU hW => ⟨rfl, hU, by rw [hU]; exact hP.part (cx := []) [] rfl, va_K.moved hW.alike hK, hN.warm hW⟩⟩ rfl rfl hl.1 rfl (lv_room (Nat.le_of_ble_eq_true rfl)) d_Walk_compares_85 ⟨Nat.le_of_ble_eq_true rfl, Nat.le_of_ble_eq_true rfl⟩)) (fun r45 h_r45 => ?_)
                refine w_same (fun hq => ?_)
                refine W.widen (k := 1) (n := 6) (Nat.le_of_ble_eq_true rfl) (Nat.le_of_ble_eq_true rfl) ?_
                refine vx_ret ?_
                exact W.zret (v := r45) hx hb hr (Bo.nar h_r45) (fun t9 ht hW => ⟨⟨r45, (s41, g41, n41), rfl, ⟨h_r45, by show sp ≤ s41; omega, hW41⟩, ⟨by rw [ht]; exact hP, va_K.moved hW.alike hK, hD⟩, by rw [ht]; exact hq⟩, hS.F ht⟩) hS.2.2 d_Walk_compares_88
              · by_cases hs25_3 : kd9 = 7
                · refine lv_tableIn (tgt := 89) (off := 64) hx hb d_Walk_compares_25 (by rw [hs25_3]; decide) (by rw [hs25_3]; decide) (by rw [hs25_3]; rfl) (by decide) ?_
                  refine lv_aload_n hx hb d_Walk_compares_89 rfl (lv_at hl 1 rfl) ?_
                  refine lv_aloadN hx hb d_Walk_compares_90 (lv_at hl 0 rfl) ?_
                  refine vp_callSi (va_Run.run (va_runS (As := [.ref b22, .null]) (rest := []) ⟨hx, hb, hml, hown, hts⟩ (c_Value_less l dC dI H cI cV E lv L (pf f n41) (hO.num n41) (some b22) none (fun b h => by cases h; exact (h_r21 b22 rfl)) (fun b h => nomatch h)) (va_cwS 2 hts (gt_S (own := R_Walk) (i := 194) (y := y_Value_less) i_Value_less z_935 z_936 z_14) rfl rfl rfl (by decide +kernel) ⟨by show 3 + 1 ≤ 59 + 5 * n; omega, by show 8 + (2 + 11) + (130) ≤ 2460 + 200 * n; omega⟩) ⟨mq_blind, fun U hU hW => ⟨rfl, hU, by rw [hU]; exact hP.part (cx := []) [] rfl, va_K.moved hW.alike hK, hN.warm hW⟩⟩ rfl rfl hl.1 rfl (lv_room (Nat.le_of_ble_eq_true rfl)) d_Walk_compares_92 ⟨Nat.le_of_ble_eq_true rfl, Nat.le_of_ble_eq_true rfl⟩)) (fun r46 h_r46 => ?_)
                  refine lv_if_ne (tgt := 107) hx hb d_Walk_compares_95 (by decide) (fun c95 => ?_) (fun c95 => ?_)
                  · refine lv_iconst (v := 1) hx hb d_Walk_compares_107 (by decide) ?_
                    refine lv_goto (tgt := 112) hx hb d_Walk_compares_108 (by decide) ?_
                    refine w_same (fun hq => ?_)
                    refine W.widen (k := 1) (n := 6) (Nat.le_of_ble_eq_true rfl) (Nat.le_of_ble_eq_true rfl) ?_
                    refine vx_ret ?_
                    exact W.zret (v := 1) hx hb hr rfl (fun t9 ht hW => ⟨⟨1, (s41, g41, n41), rfl, ⟨(Or.inr rfl), by show sp ≤ s41; omega, hW41⟩, ⟨by rw [ht]; exact hP, va_K.moved hW.alike hK, hD⟩, by rw [ht]; exact hq⟩, hS.F ht⟩) hS.2.2 d_Walk_compares_112
                  · refine lv_aload_n hx hb d_Walk_compares_98 rfl (lv_at hl 1 rfl) ?_
                    refine lv_aloadN hx hb d_Walk_compares_99 (lv_at hl 0 rfl) ?_
                    refine vp_callSi (va_Run.run (va_runS (As := [.ref b22, .null]) (rest := []) ⟨hx, hb, hml, hown, hts⟩ (c_Value_same l dC dI H cI cV E lv L (pf f n41) (hO.num n41) (some b22) none (fun b h => by cases h; exact (h_r21 b22 rfl)) (fun b h => nomatch h)) (va_cwS 2 hts (gt_S (own := R_Walk) (i := 190) (y := y_Value_same) i_Value_same z_928 z_929 z_14) rfl rfl rfl (by decide +kernel) ⟨by show 40 + 1 ≤ 59 + 5 * n; omega, by show 8 + (2 + 11) + (1700) ≤ 2460 + 200 * n; omega⟩) ⟨mq_blind, fun U hU hW => ⟨rfl, hU, by rw [hU]; exact hP.part (cx := []) [] rfl, va_K.moved hW.alike hK, hN.warm hW⟩⟩ rfl rfl hl.1 rfl (lv_room (Nat.le_of_ble_eq_true rfl)) d_Walk_compares_101 ⟨Nat.le_of_ble_eq_true rfl, Nat.le_of_ble_eq_true rfl⟩)) (fun r47 h_r47 => ?_)
                    refine lv_if_eq (tgt := 111) hx hb d_Walk_compares_104 (by decide) (fun c104 => ?_) (fun c104 => ?_)
                    · refine lv_iconst (v := 0) hx hb d_Walk_compares_111 (by decide) ?_
                      refine w_same (fun hq => ?_)
                      refine W.widen (k := 1) (n := 6) (Nat.le_of_ble_eq_true rfl) (Nat.le_of_ble_eq_true rfl) ?_
                      refine vx_ret ?_
                      exact W.zret (v := 0) hx hb hr rfl (fun t9 ht hW => ⟨⟨0, (s41, g41, n41), rfl, ⟨(Or.inl rfl), by show sp ≤ s41; omega, hW41⟩, ⟨by rw [ht]; exact hP, va_K.moved hW.alike hK, hD⟩, by rw [ht]; exact hq⟩, hS.F ht⟩) hS.2.2 d_Walk_compares_112
                    · refine lv_iconst (v := 1) hx hb d_Walk_compares_107 (by decide) ?_
                      refine lv_goto (tgt := 112) hx hb d_Walk_compares_108 (by decide) ?_
                      refine w_same (fun hq => ?_)
                      refine W.widen (k := 1) (n := 6) (Nat.le_of_ble_eq_true rfl) (Nat.le_of_ble_eq_true rfl) ?_
                      refine vx_ret ?_
                      exact W.zret (v := 1) hx hb hr rfl (fun t9 ht hW => ⟨⟨1, (s41, g41, n41), rfl, ⟨(Or.inr rfl), by show sp ≤ s41; omega, hW41⟩, ⟨by rw [ht]; exact hP, va_K.moved hW.alike hK, hD⟩, by rw [ht]; exact hq⟩, hS.F ht⟩) hS.2.2 d_Walk_compares_112
                · by_cases hs25_4 : kd9 = 8
                  · refine lv_tableIn (tgt := 113) (off := 88) hx hb d_Walk_compares_25 (by rw [hs25_4]; decide) (by rw [hs25_4]; decide) (by rw [hs25_4]; rfl) (by decide) ?_
                    refine lv_aloadN hx hb d_Walk_compares_113 (lv_at hl 0 rfl) ?_
                    refine lv_aload_n hx hb d_Walk_compares_115 rfl (lv_at hl 1 rfl) ?_
                    refine vp_callSi (va_Run.run (va_runS (As := [.null, .ref b22]) (rest := []) ⟨hx, hb, hml, hown, hts⟩ (c_Value_less l dC dI H cI cV E lv L (pf f n41) (hO.num n41) none (some b22) (fun b h => nomatch h) (fun b h => by cases h; exact (h_r21 b22 rfl))) (va_cwS 2 hts (gt_S (own := R_Walk) (i := 194) (y := y_Value_less) i_Value_less z_935 z_936 z_14) rfl rfl rfl (by decide +kernel) ⟨by show 3 + 1 ≤ 59 + 5 * n; omega, by show 8 + (2 + 11) + (130) ≤ 2460 + 200 * n; omega⟩) ⟨mq_blind, fun U hU hW => ⟨rfl, hU, by rw [hU]; exact hP.part (cx := []) [] rfl, va_K.moved hW.alike hK, hN.warm hW⟩⟩ rfl rfl hl.1 rfl (lv_room (Nat.le_of_ble_eq_true rfl)) d_Walk_compares_116 ⟨Nat.le_of_ble_eq_true rfl, Nat.le_of_ble_eq_true rfl⟩)) (fun r48 h_r48 => ?_)
                    refine w_same (fun hq => ?_)
                    refine W.widen (k := 1) (n := 6) (Nat.le_of_ble_eq_true rfl) (Nat.le_of_ble_eq_true rfl) ?_
                    refine vx_ret ?_
                    exact W.zret (v := r48) hx hb hr (Bo.nar h_r48) (fun t9 ht hW => ⟨⟨r48, (s41, g41, n41), rfl, ⟨h_r48, by show sp ≤ s41; omega, hW41⟩, ⟨by rw [ht]; exact hP, va_K.moved hW.alike hK, hD⟩, by rw [ht]; exact hq⟩, hS.F ht⟩) hS.2.2 d_Walk_compares_119
                  · have hk25_0 := i_neN 4 rfl hs25_0
                    have hk25_1 := i_neN 5 rfl hs25_1
                    have hk25_2 := i_neN 6 rfl hs25_2
                    have hk25_3 := i_neN 7 rfl hs25_3
                    have hk25_4 := i_neN 8 rfl hs25_4
                    refine lv_tableOut (tgt := 120) hx hb d_Walk_compares_25 (by omega) (by decide) ?_
                    refine lv_aloadN hx hb d_Walk_compares_120 (lv_at hl 0 rfl) ?_
                    refine lv_aload_n hx hb d_Walk_compares_122 rfl (lv_at hl 1 rfl) ?_
                    refine vp_callSi (va_Run.run (va_runS (As := [.null, .ref b22]) (rest := []) ⟨hx, hb, hml, hown, hts⟩ (c_Value_less l dC dI H cI cV E lv L (pf f n41) (hO.num n41) none (some b22) (fun b h => nomatch h) (fun b h => by cases h; exact (h_r21 b22 rfl))) (va_cwS 2 hts (gt_S (own := R_Walk) (i := 194) (y := y_Value_less) i_Value_less z_935 z_936 z_14) rfl rfl rfl (by decide +kernel) ⟨by show 3 + 1 ≤ 59 + 5 * n; omega, by show 8 + (2 + 11) + (130) ≤ 2460 + 200 * n; omega⟩) ⟨mq_blind, fun U hU hW => ⟨rfl, hU, by rw [hU]; exact hP.part (cx := []) [] rfl, va_K.moved hW.alike hK, hN.warm hW⟩⟩ rfl rfl hl.1 rfl (lv_room (Nat.le_of_ble_eq_true rfl)) d_Walk_compares_123 ⟨Nat.le_of_ble_eq_true rfl, Nat.le_of_ble_eq_true rfl⟩)) (fun r49 h_r49 => ?_)
                    refine lv_if_ne (tgt := 138) hx hb d_Walk_compares_126 (by decide) (fun c126 => ?_) (fun c126 => ?_)
                    · refine lv_iconst (v := 1) hx hb d_Walk_compares_138 (by decide) ?_
                      refine lv_goto (tgt := 143) hx hb d_Walk_compares_139 (by decide) ?_
                      refine w_same (fun hq => ?_)
                      refine W.widen (k := 1) (n := 6) (Nat.le_of_ble_eq_true rfl) (Nat.le_of_ble_eq_true rfl) ?_
                      refine vx_ret ?_
                      exact W.zret (v := 1) hx hb hr rfl (fun t9 ht hW => ⟨⟨1, (s41, g41, n41), rfl, ⟨(Or.inr rfl), by show sp ≤ s41; omega, hW41⟩, ⟨by rw [ht]; exact hP, va_K.moved hW.alike hK, hD⟩, by rw [ht]; exact hq⟩, hS.F ht⟩) hS.2.2 d_Walk_compares_143
                    · refine lv_aload_n hx hb d_Walk_compares_129 rfl (lv_at hl 1 rfl) ?_
                      refine lv_aloadN hx hb d_Walk_compares_130 (lv_at hl 0 rfl) ?_
                      refine vp_callSi (va_Run.run (va_runS (As := [.ref b22, .null]) (rest := []) ⟨hx, hb, hml, hown, hts⟩ (c_Value_same l dC dI H cI cV E lv L (pf f n41) (hO.num n41) (some b22) none (fun b h => by cases h; exact (h_r21 b22 rfl)) (fun b h => nomatch h)) (va_cwS 2 hts (gt_S (own := R_Walk) (i := 190) (y := y_Value_same) i_Value_same z_928 z_929 z_14) rfl rfl rfl (by decide +kernel) ⟨by show 40 + 1 ≤ 59 + 5 * n; omega, by show 8 + (2 + 11) + (1700) ≤ 2460 + 200 * n; omega⟩) ⟨mq_blind, fun U hU hW => ⟨rfl, hU, by rw [hU]; exact hP.part (cx := []) [] rfl, va_K.moved hW.alike hK, hN.warm hW⟩⟩ rfl rfl hl.1 rfl (lv_room (Nat.le_of_ble_eq_true rfl)) d_Walk_compares_132 ⟨Nat.le_of_ble_eq_true rfl, Nat.le_of_ble_eq_true rfl⟩)) (fun r50 h_r50 => ?_)
                      refine lv_if_eq (tgt := 142) hx hb d_Walk_compares_135 (by decide) (fun c135 => ?_) (fun c135 => ?_)
                      · refine lv_iconst (v := 0) hx hb d_Walk_compares_142 (by decide) ?_
                        refine w_same (fun hq => ?_)
                        refine W.widen (k := 1) (n := 6) (Nat.le_of_ble_eq_true rfl) (Nat.le_of_ble_eq_true rfl) ?_
                        refine vx_ret ?_
                        exact W.zret (v := 0) hx hb hr rfl (fun t9 ht hW => ⟨⟨0, (s41, g41, n41), rfl, ⟨(Or.inl rfl), by show sp ≤ s41; omega, hW41⟩, ⟨by rw [ht]; exact hP, va_K.moved hW.alike hK, hD⟩, by rw [ht]; exact hq⟩, hS.F ht⟩) hS.2.2 d_Walk_compares_143
                      · refine lv_iconst (v := 1) hx hb d_Walk_compares_138 (by decide) ?_
                        refine lv_goto (tgt := 143) hx hb d_Walk_compares_139 (by decide) ?_
                        refine w_same (fun hq => ?_)
                        refine W.widen (k := 1) (n := 6) (Nat.le_of_ble_eq_true rfl) (Nat.le_of_ble_eq_true rfl) ?_
                        refine vx_ret ?_
                        exact W.zret (v := 1) hx hb hr rfl (fun t9 ht hW => ⟨⟨1, (s41, g41, n41), rfl, ⟨(Or.inr rfl), by show sp ≤ s41; omega, hW41⟩, ⟨by rw [ht]; exact hP, va_K.moved hW.alike hK, hD⟩, by rw [ht]; exact hq⟩, hS.F ht⟩) hS.2.2 d_Walk_compares_143
        · refine lv_astore (lv' := [(4, .ref b42), (3, .ref b22), (0, .ref wk), (1, .ref co), (2, .ref cu)]) hx hb d_Walk_compares_19 hl (by decide) rfl (fun ls hl => ?_)
          refine lv_aload_n hx hb d_Walk_compares_21 rfl (lv_at hl 3 rfl) ?_
          refine vq_get (D := (dC, dI)) (ci := 0) (v := .int kd9) (C := R_Condition) (T := F_Condition) (N := 6) hx hb hts in_Condition hown hK hP (hO.inL (a := co) (by rw [hco]; decide)) (pf_K ef9) rfl 0 (by decide) (hts _ z_677) (fun _ h9 => h9) rfl d_Walk_compares_22 ?_
          by_cases hs25_0 : kd9 = 4
          · refine lv_tableIn (tgt := 60) (off := 35) hx hb d_Walk_compares_25 (by rw [hs25_0]; decide) (by rw [hs25_0]; decide) (by rw [hs25_0]; rfl) (by decide) ?_
            refine lv_aload_n hx hb d_Walk_compares_60 rfl (lv_at hl 1 rfl) ?_
            refine lv_aload hx hb d_Walk_compares_61 (lv_at hl 0 rfl) ?_
            refine vp_callSi (va_Run.run (va_runS (As := [.ref b22, .ref b42]) (rest := []) ⟨hx, hb, hml, hown, hts⟩ (c_Value_same l dC dI H cI cV E lv L (pf f n41) (hO.num n41) (some b22) (some b42) (fun b h => by cases h; exact (h_r21 b22 rfl)) (fun b h => by cases h; exact (h_r41 b42 rfl))) (va_cwS 2 hts (gt_S (own := R_Walk) (i := 190) (y := y_Value_same) i_Value_same z_928 z_929 z_14) rfl rfl rfl (by decide +kernel) ⟨by show 40 + 1 ≤ 59 + 5 * n; omega, by show 8 + (2 + 11) + (1700) ≤ 2460 + 200 * n; omega⟩) ⟨mq_blind, fun U hU hW => ⟨rfl, hU, by rw [hU]; exact hP.part (cx := []) [] rfl, va_K.moved hW.alike hK, hN.warm hW⟩⟩ rfl rfl hl.1 rfl (lv_room (Nat.le_of_ble_eq_true rfl)) d_Walk_compares_63 ⟨Nat.le_of_ble_eq_true rfl, Nat.le_of_ble_eq_true rfl⟩)) (fun r51 h_r51 => ?_)
            refine w_same (fun hq => ?_)
            refine W.widen (k := 1) (n := 6) (Nat.le_of_ble_eq_true rfl) (Nat.le_of_ble_eq_true rfl) ?_
            refine vx_ret ?_
            exact W.zret (v := r51) hx hb hr (Bo.nar h_r51) (fun t9 ht hW => ⟨⟨r51, (s41, g41, n41), rfl, ⟨h_r51, by show sp ≤ s41; omega, hW41⟩, ⟨by rw [ht]; exact hP, va_K.moved hW.alike hK, hD⟩, by rw [ht]; exact hq⟩, hS.F ht⟩) hS.2.2 d_Walk_compares_66
          · by_cases hs25_1 : kd9 = 5
            · refine lv_tableIn (tgt := 67) (off := 42) hx hb d_Walk_compares_25 (by rw [hs25_1]; decide) (by rw [hs25_1]; decide) (by rw [hs25_1]; rfl) (by decide) ?_
              refine lv_aload_n hx hb d_Walk_compares_67 rfl (lv_at hl 1 rfl) ?_
              refine lv_aload hx hb d_Walk_compares_68 (lv_at hl 0 rfl) ?_
              refine vp_callSi (va_Run.run (va_runS (As := [.ref b22, .ref b42]) (rest := []) ⟨hx, hb, hml, hown, hts⟩ (c_Value_same l dC dI H cI cV E lv L (pf f n41) (hO.num n41) (some b22) (some b42) (fun b h => by cases h; exact (h_r21 b22 rfl)) (fun b h => by cases h; exact (h_r41 b42 rfl))) (va_cwS 2 hts (gt_S (own := R_Walk) (i := 190) (y := y_Value_same) i_Value_same z_928 z_929 z_14) rfl rfl rfl (by decide +kernel) ⟨by show 40 + 1 ≤ 59 + 5 * n; omega, by show 8 + (2 + 11) + (1700) ≤ 2460 + 200 * n; omega⟩) ⟨mq_blind, fun U hU hW => ⟨rfl, hU, by rw [hU]; exact hP.part (cx := []) [] rfl, va_K.moved hW.alike hK, hN.warm hW⟩⟩ rfl rfl hl.1 rfl (lv_room (Nat.le_of_ble_eq_true rfl)) d_Walk_compares_70 ⟨Nat.le_of_ble_eq_true rfl, Nat.le_of_ble_eq_true rfl⟩)) (fun r52 h_r52 => ?_)
              refine lv_if_ne (tgt := 80) hx hb d_Walk_compares_73 (by decide) (fun c73 => ?_) (fun c73 => ?_)
              · refine lv_iconst (v := 0) hx hb d_Walk_compares_80 (by decide) ?_
                refine w_same (fun hq => ?_)
                refine W.widen (k := 1) (n := 6) (Nat.le_of_ble_eq_true rfl) (Nat.le_of_ble_eq_true rfl) ?_
                refine vx_ret ?_
                exact W.zret (v := 0) hx hb hr rfl (fun t9 ht hW => ⟨⟨0, (s41, g41, n41), rfl, ⟨(Or.inl rfl), by show sp ≤ s41; omega, hW41⟩, ⟨by rw [ht]; exact hP, va_K.moved hW.alike hK, hD⟩, by rw [ht]; exact hq⟩, hS.F ht⟩) hS.2.2 d_Walk_compares_81
              · refine lv_iconst (v := 1) hx hb d_Walk_compares_76 (by decide) ?_
                refine lv_goto (tgt := 81) hx hb d_Walk_compares_77 (by decide) ?_
                refine w_same (fun hq => ?_)
                refine W.widen (k := 1) (n := 6) (Nat.le_of_ble_eq_true rfl) (Nat.le_of_ble_eq_true rfl) ?_
                refine vx_ret ?_
                exact W.zret (v := 1) hx hb hr rfl (fun t9 ht hW => ⟨⟨1, (s41, g41, n41), rfl, ⟨(Or.inr rfl), by show sp ≤ s41; omega, hW41⟩, ⟨by rw [ht]; exact hP, va_K.moved hW.alike hK, hD⟩, by rw [ht]; exact hq⟩, hS.F ht⟩) hS.2.2 d_Walk_compares_81
            · by_cases hs25_2 : kd9 = 6
              · refine lv_tableIn (tgt := 82) (off := 57) hx hb d_Walk_compares_25 (by rw [hs25_2]; decide) (by rw [hs25_2]; decide) (by rw [hs25_2]; rfl) (by decide) ?_
                refine lv_aload_n hx hb d_Walk_compares_82 rfl (lv_at hl 1 rfl) ?_
                refine lv_aload hx hb d_Walk_compares_83 (lv_at hl 0 rfl) ?_
                refine vp_callSi (va_Run.run (va_runS (As := [.ref b22, .ref b42]) (rest := []) ⟨hx, hb, hml, hown, hts⟩ (c_Value_less l dC dI H cI cV E lv L (pf f n41) (hO.num n41) (some b22) (some b42) (fun b h => by cases h; exact (h_r21 b22 rfl)) (fun b h => by cases h; exact (h_r41 b42 rfl))) (va_cwS 2 hts (gt_S (own := R_Walk) (i := 194) (y := y_Value_less) i_Value_less z_935 z_936 z_14) rfl rfl rfl (by decide +kernel) ⟨by show 3 + 1 ≤ 59 + 5 * n; omega, by show 8 + (2 + 11) + (130) ≤ 2460 + 200 * n; omega⟩) ⟨mq_blind, fun U hU hW => ⟨rfl, hU, by rw [hU]; exact hP.part (cx := []) [] rfl, va_K.moved hW.alike hK, hN.warm hW⟩⟩ rfl rfl hl.1 rfl (lv_room (Nat.le_of_ble_eq_true rfl)) d_Walk_compares_85 ⟨Nat.le_of_ble_eq_true rfl, Nat.le_of_ble_eq_true rfl⟩)) (fun r53 h_r53 => ?_)
                refine w_same (fun hq => ?_)
                refine W.widen (k := 1) (n := 6) (Nat.le_of_ble_eq_true rfl) (Nat.le_of_ble_eq_true rfl) ?_
                refine vx_ret ?_
                exact W.zret (v := r53) hx hb hr (Bo.nar h_r53) (fun t9 ht hW => ⟨⟨r53, (s41, g41, n41), rfl, ⟨h_r53, by show sp ≤ s41; omega, hW41⟩, ⟨by rw [ht]; exact hP, va_K.moved hW.alike hK, hD⟩, by rw [ht]; exact hq⟩, hS.F ht⟩) hS.2.2 d_Walk_compares_88
              · by_cases hs25_3 : kd9 = 7
                · refine lv_tableIn (tgt := 89) (off := 64) hx hb d_Walk_compares_25 (by rw [hs25_3]; decide) (by rw [hs25_3]; decide) (by rw [hs25_3]; rfl) (by decide) ?_
                  refine lv_aload_n hx hb d_Walk_compares_89 rfl (lv_at hl 1 rfl) ?_
                  refine lv_aload hx hb d_Walk_compares_90 (lv_at hl 0 rfl) ?_
                  refine vp_callSi (va_Run.run (va_runS (As := [.ref b22, .ref b42]) (rest := []) ⟨hx, hb, hml, hown, hts⟩ (c_Value_less l dC dI H cI cV E lv L (pf f n41) (hO.num n41) (some b22) (some b42) (fun b h => by cases h; exact (h_r21 b22 rfl)) (fun b h => by cases h; exact (h_r41 b42 rfl))) (va_cwS 2 hts (gt_S (own := R_Walk) (i := 194) (y := y_Value_less) i_Value_less z_935 z_936 z_14) rfl rfl rfl (by decide +kernel) ⟨by show 3 + 1 ≤ 59 + 5 * n; omega, by show 8 + (2 + 11) + (130) ≤ 2460 + 200 * n; omega⟩) ⟨mq_blind, fun U hU hW => ⟨rfl, hU, by rw [hU]; exact hP.part (cx := []) [] rfl, va_K.moved hW.alike hK, hN.warm hW⟩⟩ rfl rfl hl.1 rfl (lv_room (Nat.le_of_ble_eq_true rfl)) d_Walk_compares_92 ⟨Nat.le_of_ble_eq_true rfl, Nat.le_of_ble_eq_true rfl⟩)) (fun r54 h_r54 => ?_)
                  refine lv_if_ne (tgt := 107) hx hb d_Walk_compares_95 (by decide) (fun c95 => ?_) (fun c95 => ?_)
                  · refine lv_iconst (v := 1) hx hb d_Walk_compares_107 (by decide) ?_
                    refine lv_goto (tgt := 112) hx hb d_Walk_compares_108 (by decide) ?_
                    refine w_same (fun hq => ?_)
                    refine W.widen (k := 1) (n := 6) (Nat.le_of_ble_eq_true rfl) (Nat.le_of_ble_eq_true rfl) ?_
                    refine vx_ret ?_
                    exact W.zret (v := 1) hx hb hr rfl (fun t9 ht hW => ⟨⟨1, (s41, g41, n41), rfl, ⟨(Or.inr rfl), by show sp ≤ s41; omega, hW41⟩, ⟨by rw [ht]; exact hP, va_K.moved hW.alike hK, hD⟩, by rw [ht]; exact hq⟩, hS.F ht⟩) hS.2.2 d_Walk_compares_112
                  · refine lv_aload_n hx hb d_Walk_compares_98 rfl (lv_at hl 1 rfl) ?_
                    refine lv_aload hx hb d_Walk_compares_99 (lv_at hl 0 rfl) ?_
                    refine vp_callSi (va_Run.run (va_runS (As := [.ref b22, .ref b42]) (rest := []) ⟨hx, hb, hml, hown, hts⟩ (c_Value_same l dC dI H cI cV E lv L (pf f n41) (hO.num n41) (some b22) (some b42) (fun b h => by cases h; exact (h_r21 b22 rfl)) (fun b h => by cases h; exact (h_r41 b42 rfl))) (va_cwS 2 hts (gt_S (own := R_Walk) (i := 190) (y := y_Value_same) i_Value_same z_928 z_929 z_14) rfl rfl rfl (by decide +kernel) ⟨by show 40 + 1 ≤ 59 + 5 * n; omega, by show 8 + (2 + 11) + (1700) ≤ 2460 + 200 * n; omega⟩) ⟨mq_blind, fun U hU hW => ⟨rfl, hU, by rw [hU]; exact hP.part (cx := []) [] rfl, va_K.moved hW.alike hK, hN.warm hW⟩⟩ rfl rfl hl.1 rfl (lv_room (Nat.le_of_ble_eq_true rfl)) d_Walk_compares_101 ⟨Nat.le_of_ble_eq_true rfl, Nat.le_of_ble_eq_true rfl⟩)) (fun r55 h_r55 => ?_)
                    refine lv_if_eq (tgt := 111) hx hb d_Walk_compares_104 (by decide) (fun c104 => ?_) (fun c104 => ?_)
                    · refine lv_iconst (v := 0) hx hb d_Walk_compares_111 (by decide) ?_
                      refine w_same (fun hq => ?_)
                      refine W.widen (k := 1) (n := 6) (Nat.le_of_ble_eq_true rfl) (Nat.le_of_ble_eq_true rfl) ?_
                      refine vx_ret ?_
                      exact W.zret (v := 0) hx hb hr rfl (fun t9 ht hW => ⟨⟨0, (s41, g41, n41), rfl, ⟨(Or.inl rfl), by show sp ≤ s41; omega, hW41⟩, ⟨by rw [ht]; exact hP, va_K.moved hW.alike hK, hD⟩, by rw [ht]; exact hq⟩, hS.F ht⟩) hS.2.2 d_Walk_compares_112
                    · refine lv_iconst (v := 1) hx hb d_Walk_compares_107 (by decide) ?_
                      refine lv_goto (tgt := 112) hx hb d_Walk_compares_108 (by decide) ?_
                      refine w_same (fun hq => ?_)
                      refine W.widen (k := 1) (n := 6) (Nat.le_of_ble_eq_true rfl) (Nat.le_of_ble_eq_true rfl) ?_
                      refine vx_ret ?_
                      exact W.zret (v := 1) hx hb hr rfl (fun t9 ht hW => ⟨⟨1, (s41, g41, n41), rfl, ⟨(Or.inr rfl), by show sp ≤ s41; omega, hW41⟩, ⟨by rw [ht]; exact hP, va_K.moved hW.alike hK, hD⟩, by rw [ht]; exact hq⟩, hS.F ht⟩) hS.2.2 d_Walk_compares_112
                · by_cases hs25_4 : kd9 = 8
                  · refine lv_tableIn (tgt := 113) (off := 88) hx hb d_Walk_compares_25 (by rw [hs25_4]; decide) (by rw [hs25_4]; decide) (by rw [hs25_4]; rfl) (by decide) ?_
                    refine lv_aload hx hb d_Walk_compares_113 (lv_at hl 0 rfl) ?_
                    refine lv_aload_n hx hb d_Walk_compares_115 rfl (lv_at hl 1 rfl) ?_
                    refine vp_callSi (va_Run.run (va_runS (As := [.ref b42, .ref b22]) (rest := []) ⟨hx, hb, hml, hown, hts⟩ (c_Value_less l dC dI H cI cV E lv L (pf f n41) (hO.num n41) (some b42) (some b22) (fun b h => by cases h; exact (h_r41 b42 rfl)) (fun b h => by cases h; exact (h_r21 b22 rfl))) (va_cwS 2 hts (gt_S (own := R_Walk) (i := 194) (y := y_Value_less) i_Value_less z_935 z_936 z_14) rfl rfl rfl (by decide +kernel) ⟨by show 3 + 1 ≤ 59 + 5 * n; omega, by show 8 + (2 + 11) + (130) ≤ 2460 + 200 * n; omega⟩) ⟨mq_blind, fun U hU hW => ⟨rfl, hU, by rw [hU]; exact hP.part (cx := []) [] rfl, va_K.moved hW.alike hK, hN.warm hW⟩⟩ rfl rfl hl.1 rfl (lv_room (Nat.le_of_ble_eq_true rfl)) d_Walk_compares_116 ⟨Nat.le_of_ble_eq_true rfl, Nat.le_of_ble_eq_true rfl⟩)) (fun r56 h_r56 => ?_)
                    refine w_same (fun hq => ?_)
                    refine W.widen (k := 1) (n := 6) (Nat.le_of_ble_eq_true rfl) (Nat.le_of_ble_eq_true rfl) ?_
                    refine vx_ret ?_
                    exact W.zret (v := r56) hx hb hr (Bo.nar h_r56) (fun t9 ht hW => ⟨⟨r56, (s41, g41, n41), rfl, ⟨h_r56, by show sp ≤ s41; omega, hW41⟩, ⟨by rw [ht]; exact hP, va_K.moved hW.alike hK, hD⟩, by rw [ht]; exact hq⟩, hS.F ht⟩) hS.2.2 d_Walk_compares_119
                  · have hk25_0 := i_neN 4 rfl hs25_0
                    have hk25_1 := i_neN 5 rfl hs25_1
                    have hk25_2 := i_neN 6 rfl hs25_2
                    have hk25_3 := i_neN 7 rfl hs25_3
                    have hk25_4 := i_neN 8 rfl hs25_4
                    refine lv_tableOut (tgt := 120) hx hb d_Walk_compares_25 (by omega) (by decide) ?_
                    refine lv_aload hx hb d_Walk_compares_120 (lv_at hl 0 rfl) ?_
                    refine lv_aload_n hx hb d_Walk_compares_122 rfl (lv_at hl 1 rfl) ?_
                    refine vp_callSi (va_Run.run (va_runS (As := [.ref b42, .ref b22]) (rest := []) ⟨hx, hb, hml, hown, hts⟩ (c_Value_less l dC dI H cI cV E lv L (pf f n41) (hO.num n41) (some b42) (some b22) (fun b h => by cases h; exact (h_r41 b42 rfl)) (fun b h => by cases h; exact (h_r21 b22 rfl))) (va_cwS 2 hts (gt_S (own := R_Walk) (i := 194) (y := y_Value_less) i_Value_less z_935 z_936 z_14) rfl rfl rfl (by decide +kernel) ⟨by show 3 + 1 ≤ 59 + 5 * n; omega, by show 8 + (2 + 11) + (130) ≤ 2460 + 200 * n; omega⟩) ⟨mq_blind, fun U hU hW => ⟨rfl, hU, by rw [hU]; exact hP.part (cx := []) [] rfl, va_K.moved hW.alike hK, hN.warm hW⟩⟩ rfl rfl hl.1 rfl (lv_room (Nat.le_of_ble_eq_true rfl)) d_Walk_compares_123 ⟨Nat.le_of_ble_eq_true rfl, Nat.le_of_ble_eq_true rfl⟩)) (fun r57 h_r57 => ?_)
                    refine lv_if_ne (tgt := 138) hx hb d_Walk_compares_126 (by decide) (fun c126 => ?_) (fun c126 => ?_)
                    · refine lv_iconst (v := 1) hx hb d_Walk_compares_138 (by decide) ?_
                      refine lv_goto (tgt := 143) hx hb d_Walk_compares_139 (by decide) ?_
                      refine w_same (fun hq => ?_)
                      refine W.widen (k := 1) (n := 6) (Nat.le_of_ble_eq_true rfl) (Nat.le_of_ble_eq_true rfl) ?_
                      refine vx_ret ?_
                      exact W.zret (v := 1) hx hb hr rfl (fun t9 ht hW => ⟨⟨1, (s41, g41, n41), rfl, ⟨(Or.inr rfl), by show sp ≤ s41; omega, hW41⟩, ⟨by rw [ht]; exact hP, va_K.moved hW.alike hK, hD⟩, by rw [ht]; exact hq⟩, hS.F ht⟩) hS.2.2 d_Walk_compares_143
                    · refine lv_aload_n hx hb d_Walk_compares_129 rfl (lv_at hl 1 rfl) ?_
                      refine lv_aload hx hb d_Walk_compares_130 (lv_at hl 0 rfl) ?_
                      refine vp_callSi (va_Run.run (va_runS (As := [.ref b22, .ref b42]) (rest := []) ⟨hx, hb, hml, hown, hts⟩ (c_Value_same l dC dI H cI cV E lv L (pf f n41) (hO.num n41) (some b22) (some b42) (fun b h => by cases h; exact (h_r21 b22 rfl)) (fun b h => by cases h; exact (h_r41 b42 rfl))) (va_cwS 2 hts (gt_S (own := R_Walk) (i := 190) (y := y_Value_same) i_Value_same z_928 z_929 z_14) rfl rfl rfl (by decide +kernel) ⟨by show 40 + 1 ≤ 59 + 5 * n; omega, by show 8 + (2 + 11) + (1700) ≤ 2460 + 200 * n; omega⟩) ⟨mq_blind, fun U hU hW => ⟨rfl, hU, by rw [hU]; exact hP.part (cx := []) [] rfl, va_K.moved hW.alike hK, hN.warm hW⟩⟩ rfl rfl hl.1 rfl (lv_room (Nat.le_of_ble_eq_true rfl)) d_Walk_compares_132 ⟨Nat.le_of_ble_eq_true rfl, Nat.le_of_ble_eq_true rfl⟩)) (fun r58 h_r58 => ?_)
                      refine lv_if_eq (tgt := 142) hx hb d_Walk_compares_135 (by decide) (fun c135 => ?_) (fun c135 => ?_)
                      · refine lv_iconst (v := 0) hx hb d_Walk_compares_142 (by decide) ?_
                        refine w_same (fun hq => ?_)
                        refine W.widen (k := 1) (n := 6) (Nat.le_of_ble_eq_true rfl) (Nat.le_of_ble_eq_true rfl) ?_
                        refine vx_ret ?_
                        exact W.zret (v := 0) hx hb hr rfl (fun t9 ht hW => ⟨⟨0, (s41, g41, n41), rfl, ⟨(Or.inl rfl), by show sp ≤ s41; omega, hW41⟩, ⟨by rw [ht]; exact hP, va_K.moved hW.alike hK, hD⟩, by rw [ht]; exact hq⟩, hS.F ht⟩) hS.2.2 d_Walk_compares_143
                      · refine lv_iconst (v := 1) hx hb d_Walk_compares_138 (by decide) ?_
                        refine lv_goto (tgt := 143) hx hb d_Walk_compares_139 (by decide) ?_
                        refine w_same (fun hq => ?_)
                        refine W.widen (k := 1) (n := 6) (Nat.le_of_ble_eq_true rfl) (Nat.le_of_ble_eq_true rfl) ?_
                        refine vx_ret ?_
                        exact W.zret (v := 1) hx hb hr rfl (fun t9 ht hW => ⟨⟨1, (s41, g41, n41), rfl, ⟨(Or.inr rfl), by show sp ≤ s41; omega, hW41⟩, ⟨by rw [ht]; exact hP, va_K.moved hW.alike hK, hD⟩, by rw [ht]; exact hq⟩, hS.F ht⟩) hS.2.2 d_Walk_compares_143
