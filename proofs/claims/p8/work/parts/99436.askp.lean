set_option maxHeartbeats 4000000 in
set_option maxRecDepth 100000 in
/-- Walk.anyHolds: what it says -/
theorem p_Walk_anyHolds (l : Launch) (hl9 : l.stackTraces = false) (K : Nat → Nat × Nat) (dC : Nat → ClassId) (dI : Nat → Nat → Nat) (sz : Heap) (cI cV : ClassId) (E lv : Nat → Nat) (L : List Nat) (f : Nat → va_E) (hO : PO cI cV E lv L f) (hN1 : ∀ a, E a ≠ 1) (PL : List NT) (AL : List Nat) (S : Nat → Nat) (wk wl rt : Nat) (hrt : isF E rt) (rtn : NT) (hrn : NCr PL AL rt rtn) (tp sp : Nat) (g : Nat → Option Nat) (ν : Nat → Int64) (hW9 : WI E tp sp g) (hDq9 : ∀ ν2, NUg S ν ν2 → DOC E (pf f ν2) PL AL) (cu : Nat) (cun : NT) (hcn : NCr PL AL cu cun) (n : Nat) (hn : 0 < n) (HI : HDF l K dC dI cI cV E lv L f PL AL wk wl rt rtn (n - 1)) (fi : Option Nat) (hfi : oR (fun b => E b = 10 ∧ lv b ≤ n - 1) fi) (l9 : List CT) (hCh : CHD KD 2 (pf f ν) S fi l9) : vx_Met l y_Walk_anyHolds (k_Walk_anyHolds :: gtbl) ({ frames := 59 + 5 * n, cells := 1, slots := 6, locals := 2460 + 200 * n }) (va_Pc [.ref wk, va_rf fi, .ref cu] (ml K dC dI ([(wk, .inr (10, [.ref wl, .int (nI tp), .int (nI sp), .ref rt])), (wl, .inl (cV, 10000, .inr (.inr (.inr (.inr g)))))] ++ va_pl L (pf f ν)) [(cI, .int), (cV, .object "QueryBench$Value")] sz)) (va_Qi (fun (r : Int32) (u : Nat × (Nat → Option Nat) × (Nat → Int64)) => r = bI (anyC_ l9 rtn cun).1 ∧ ASK E S (anyC_ l9 rtn cun).2 tp sp g ν u.1 u.2.1 u.2.2) (fun u t9 => mz dC dI ([(wk, .inr (10, [.ref wl, .int (nI tp), .int (nI u.1), .ref rt])), (wl, .inl (cV, 10000, .inr (.inr (.inr (.inr u.2.1)))))] ++ va_pl L (pf f u.2.2)) [(cI, .int), (cV, .object "QueryBench$Value")] (va_A ([(wk, .inr (10, [.ref wl, .int (nI tp), .int (nI sp), .ref rt])), (wl, .inl (cV, 10000, .inr (.inr (.inr (.inr g)))))] ++ va_pl L (pf f ν)) sz.size) t9 ∧ szk sz t9.heap (0) (0)) (va_A ([(wk, .inr (10, [.ref wl, .int (nI tp), .int (nI sp), .ref rt])), (wl, .inl (cV, 10000, .inr (.inr (.inr (.inr g)))))] ++ va_pl L (pf f ν)) sz.size)) (vx_X (fun (u : Int32 × Int32 × (Nat → Option Nat) × (Nat → Int64)) => 10000 < sp + (anyC_ l9 rtn cun).2 ∧ NUg S ν u.2.2.2) (fun En u t9 => En = IOB ∧ mz dC dI ([(wk, .inr (10, [.ref wl, .int u.1, .int u.2.1, .ref rt])), (wl, .inl (cV, 10000, .inr (.inr (.inr (.inr u.2.2.1)))))] ++ va_pl L (pf f u.2.2.2)) [(cI, .int), (cV, .object "QueryBench$Value")] (va_A ([(wk, .inr (10, [.ref wl, .int (nI tp), .int (nI sp), .ref rt])), (wl, .inl (cV, 10000, .inr (.inr (.inr (.inr g)))))] ++ va_pl L (pf f ν)) sz.size) t9) (va_A ([(wk, .inr (10, [.ref wl, .int (nI tp), .int (nI sp), .ref rt])), (wl, .inl (cV, 10000, .inr (.inr (.inr (.inr g)))))] ++ va_pl L (pf f ν)) sz.size)) (1) (6) (va_A ([(wk, .inr (10, [.ref wl, .int (nI tp), .int (nI sp), .ref rt])), (wl, .inl (cV, 10000, .inr (.inr (.inr (.inr g)))))] ++ va_pl L (pf f ν)) sz.size) := by
  rcases fi with _ | b21
  · change vx_Met _ _ _ _ (va_Pc [.ref wk, .null, .ref cu] _) _ _ _ _ _
    refine vx_ofW (cc := b_Walk_anyHolds) (maxL := 4) (ret := (some .boolean)) (by decide) rfl ?_
    intro p e s m args below meth c s₁ B hml hex hv
    obtain ⟨rfl, ⟨hsz, hP, hK, hD0⟩, hN, hZ, hC, hV⟩ := hv
    have hx := B.exec
    have hb := B.bytes
    have hr := B.returns
    have hts0 := atoms_spec (ws := k_Walk_anyHolds :: gtbl) B.pre
    have hts := fun w h => hts0 w (List.mem_cons_of_mem _ h)
    have hown : s.vm.findClass R_Walk = some m.cls := findClass_of_methodNamed B.named
    have hlocks := B.notSynchronized
    subst hsz
    have hD := hD0.self (sz := s.heap.size)
    generalize hAe : va_A ([(wk, .inr (10, [.ref wl, .int (nI tp), .int (nI sp), .ref rt])), (wl, .inl (cV, 10000, .inr (.inr (.inr (.inr g)))))] ++ va_pl L (pf f ν)) s.heap.size = A at hD hZ hC ⊢
    have hA : ∀ q : Nat, s.heap.size ≤ q → A q := fun q h => by rw [← hAe]; exact Or.inr h
    have hS : va_S A s.heap s.heap [] := va_S.rf
    have hP : va_P (dC, dI) classes ([(wk, .inr (10, [.ref wl, .int (nI tp), .int (nI sp), .ref rt])), (wl, .inl (cV, 10000, .inr (.inr (.inr (.inr g)))))] ++ va_pl L (pf f ν)) s.heap := hP
    have hl := lv_entry ([.ref wk, .null, .ref cu]) (n := 4) (Nat.le_of_ble_eq_true rfl)
    rw [lg_entry_eq]
    generalize (lg_sl ([.ref wk, .null, .ref cu]) ++ List.replicate (4 - (lg_sl ([.ref wk, .null, .ref cu])).length) Slot.unset).toArray = ls at hl ⊢
    have hl : lv_has ls 4 [(0, .ref wk), (1, .null), (2, .ref cu)] := hl
    have hW1 := hW9.1
    have hW2 := hW9.2.1
    have hDν := hDq9 ν NUg.rf
    obtain ⟨hcu, -⟩ := hcn.ax hDν
    refine lv_aload_nN hx hb d_Walk_anyHolds_0 rfl (lv_at hl 1 rfl) ?_
    refine lv_astore_nN (lv' := [(3, .null), (0, .ref wk), (1, .null), (2, .ref cu)]) hx hb d_Walk_anyHolds_1 rfl hl (by decide) rfl (fun ls hl => ?_)
    refine w_loop (D := (dC, dI)) (cl := classes) (A := A) (H0 := s.heap) (nL := 4) 2 (σ := Option Nat × List CT × Nat × Nat × (Nat → Option Nat) × (Nat → Int64)) (fun ⟨o, q9, w, s9, g1, ν3⟩ => oR (fun b => E b = 10 ∧ lv b ≤ n - 1) o ∧ CHD KD 2 (pf f ν3) S o q9 ∧ ASK E S w tp sp g ν s9 g1 ν3 ∧ (anyC_ q9 rtn cun).1 = (anyC_ l9 rtn cun).1 ∧ w + (anyC_ q9 rtn cun).2 = (anyC_ l9 rtn cun).2) (fun ⟨o, q9, w, s9, g1, ν3⟩ => chL L o) (fun ⟨o, q9, w, s9, g1, ν3⟩ => [(wk, .inr (10, [.ref wl, .int (nI tp), .int (nI s9), .ref rt])), (wl, .inl (cV, 10000, .inr (.inr (.inr (.inr g1)))))] ++ va_pl L (pf f ν3)) (fun ⟨o, q9, w, s9, g1, ν3⟩ => [(0, .ref wk), (2, .ref cu), (3, va_rf o)]) ?_ (none, l9, 0, sp, g, ν) ⟨(fun b h => nomatch h), hCh, ASK.rf hW9, rfl, Nat.zero_add _⟩ hP hD hS (lv_sub hl [1, 3, 0] rfl)
    rintro ⟨o, q9, w, s9, g1, ν3⟩ H locs ls hI ih hP hD hS hl
    have hP : va_P (dC, dI) classes ([(wk, .inr (10, [.ref wl, .int (nI tp), .int (nI s9), .ref rt])), (wl, .inl (cV, 10000, .inr (.inr (.inr (.inr g1)))))] ++ va_pl L (pf f ν3)) H := hP
    have hD : va_D A ([(wk, .inr (10, [.ref wl, .int (nI tp), .int (nI s9), .ref rt])), (wl, .inl (cV, 10000, .inr (.inr (.inr (.inr g1)))))] ++ va_pl L (pf f ν3)) := hD
    have hl : lv_has ls 4 [(0, .ref wk), (2, .ref cu), (3, va_rf o)] := hl
    obtain ⟨hI, hCI, hA9, hR1, hR2⟩ := hI
    have hI : oR (fun b => E b = 10 ∧ lv b ≤ n - 1) o := hI
    have hCI : CHD KD 2 (pf f ν3) S o q9 := hCI
    have hA9 : ASK E S w tp sp g ν s9 g1 ν3 := hA9
    have hR1 : (anyC_ q9 rtn cun).1 = (anyC_ l9 rtn cun).1 := hR1
    have hR2 : w + (anyC_ q9 rtn cun).2 = (anyC_ l9 rtn cun).2 := hR2
    have hI3 := hA9.2.1
    have hI4 := hI3.1
    have hI5 := hI3.2.1
    rcases o with _ | ob
    · have hl : lv_has ls 4 [(0, .ref wk), (2, .ref cu), (3, .null)] := hl
      obtain rfl := hCI.no
      refine lv_aload_nN hx hb d_Walk_anyHolds_2 rfl (lv_at hl 2 rfl) ?_
      refine lv_ifnullN (tgt := 25) hx hb d_Walk_anyHolds_3 (by decide) ?_
      refine lv_iconst (v := 0) hx hb d_Walk_anyHolds_25 (by decide) ?_
      have hA3 : ASK E S (anyC_ l9 rtn cun).2 tp sp g ν s9 g1 ν3 := by rw [← hR2]; exact hA9
      refine w_same (fun hq => ?_)
      refine W.widen (k := 1) (n := 6) (Nat.le_of_ble_eq_true rfl) (Nat.le_of_ble_eq_true rfl) ?_
      refine vx_ret ?_
      exact W.zret (v := 0) hx hb hr rfl (fun t9 ht hW => ⟨⟨0, (s9, g1, ν3), rfl, ⟨(by rw [← hR1]; rfl), hA3⟩, ⟨by rw [ht]; exact hP, va_K.moved hW.alike hK, hD⟩, by rw [ht]; exact hq⟩, hS.F ht⟩) hS.2.2 d_Walk_anyHolds_26
    · have hl : lv_has ls 4 [(0, .ref wk), (2, .ref cu), (3, .ref ob)] := hl
      obtain ⟨hob1, hob2⟩ := hI ob rfl
      obtain ⟨m8, q8, rfl, hS3, hKD, hCn⟩ := hCI.so
      refine lv_aload_n hx hb d_Walk_anyHolds_2 rfl (lv_at hl 2 rfl) ?_
      refine lv_ifnull hx hb d_Walk_anyHolds_3 ?_
      refine lv_aload_n hx hb d_Walk_anyHolds_6 rfl (lv_at hl 0 rfl) ?_
      refine lv_aload_n hx hb d_Walk_anyHolds_7 rfl (lv_at hl 2 rfl) ?_
      refine lv_aload_n hx hb d_Walk_anyHolds_8 rfl (lv_at hl 1 rfl) ?_
      have hPc := hP.part (cx := [(wk, .inr (10, [.ref wl, .int (nI tp), .int (nI s9), .ref rt])), (wl, .inl (cV, 10000, .inr (.inr (.inr (.inr g1)))))]) [0, 1] rfl
      have hDc := hD.part (cx := [(wk, .inr (10, [.ref wl, .int (nI tp), .int (nI s9), .ref rt])), (wl, .inl (cV, 10000, .inr (.inr (.inr (.inr g1)))))]) [0, 1] (by decide) rfl
      have hFc := va_freeP (cx := [(wk, .inr (10, [.ref wl, .int (nI tp), .int (nI s9), .ref rt])), (wl, .inl (cV, 10000, .inr (.inr (.inr (.inr g1)))))]) hD hS hA [0, 1] rfl
      have hKc := hK.sub (tys' := [(cI, .int), (cV, .object "QueryBench$Value")]) [0, 1] rfl
      refine w_same (fun hq0 => ?_)
      refine vx_calli (vx_runV (As := [.ref ob, .ref cu]) (rest := []) ⟨hx, hb, hml, hown, hts⟩ (HI H S tp s9 g1 ν3 hI3 (fun ν2 h2 => hDq9 ν2 (hA9.2.2.2.tr h2)) ob cu m8 cun hob1 hob2 hKD hcn) (cwV 2 hts (gt_V (own := R_Walk) (C := R_Walk) (i := 152) (y := y_Walk_holds) i_Walk_holds z_895 z_897 (gt_sel (y := y_Walk_holds) (n := 4) (by decide +kernel)) w_5) rfl rfl rfl (by decide +kernel) ⟨by show 60 + 5 * (n - 1) + 1 ≤ 59 + 5 * n; omega, by show 8 + (3 + 11) + (2500 + 200 * (n - 1)) ≤ 2460 + 200 * n; omega⟩) ⟨ml_blind, va_recv hK hP (ci := 10) (q0 := 0) rfl rfl, fun U hU hW => ⟨rfl, ⟨hU, by rw [hU]; exact hPc, va_K.moved hW.alike hKc, hDc.weaken (fun _ _ _ _ => trivial)⟩, hN.warm hW, by rw [hU]; exact ZX.moved' hW.alike (ZX.narrow' (ZX.kept' hZ hS.2.1) hFc), by rw [hU]; exact CE.call hC hS.2.1 hFc hW, va_AO.moved hW.alike hV⟩⟩ rfl rfl hl.1 rfl (lv_room (Nat.le_of_ble_eq_true rfl)) d_Walk_anyHolds_9 ⟨Nat.le_of_ble_eq_true rfl, Nat.le_of_ble_eq_true rfl⟩) hS (fun q _ h => hFc q h) hFc (fun q _ h => hFc q h) (fun En ce q9 ⟨tx, sx, gx, nx⟩ t9 H1 locs ht hvm hw hB hz1 hk1 hS hce hcv hcl => ?_) (fun r22 ⟨s22, g22, n22⟩ t9 H1 locs ht hvm hw hB hz1 hk1 hS => ?_)
      · obtain ⟨hEn, hP1, hK1, hD1⟩ := hB
        rw [ht] at hP1
        obtain ⟨hP, hD⟩ := va_joinP (wr := []) (rx := [(wk, .inr (10, [.ref wl, .int tx, .int sx, .ref rt])), (wl, .inl (cV, 10000, .inr (.inr (.inr (.inr gx)))))]) (pl1 := va_pl L (pf f nx)) hP hD [0, 1] [] rfl rfl (by decide) (by decide) hk1 hFc hP1 hD1
        generalize H1 = H at hP hS hce ⊢
        have hP : va_P (dC, dI) classes ([(wk, .inr (10, [.ref wl, .int tx, .int sx, .ref rt])), (wl, .inl (cV, 10000, .inr (.inr (.inr (.inr gx)))))] ++ va_pl L (pf f nx)) H := hP
        have hD : va_D A ([(wk, .inr (10, [.ref wl, .int tx, .int sx, .ref rt])), (wl, .inl (cV, 10000, .inr (.inr (.inr (.inr gx)))))] ++ va_pl L (pf f nx)) := hD
        have hno : 10000 < sp + (anyC_ l9 rtn cun).2 := by have hw : 10000 < s9 + (m8 rtn cun).2 := hw.1; have := hA9.1; have h9 := anyC_ge (l := q8) (g := m8) (rt := rtn) (nd := cun); omega
        exact vx_out (fun x hx => (hex x hx).elim) hlocks hce hcv hcl (fun t9 ht2 ha => ⟨(tx, sx, gx, nx), ⟨hno, hA9.2.2.2.tr hw.2⟩, ⟨hEn, by rw [ht2]; exact hP, va_K.moved ha hK, hD⟩, hS.F ht2⟩) hS.2.2 (Nat.le_of_ble_eq_true rfl) (Nat.le_of_ble_eq_true rfl)
      · obtain ⟨⟨hP1, hK1, hD1⟩, hz9⟩ := hB
        rw [ht] at hP1
        rw [ht] at hz9
        refine w_tight (hq0.trans hz9) ?_
        have hq0 := hq0.trans hz9
        obtain ⟨hP, hD⟩ := va_joinP (wr := []) (rx := [(wk, .inr (10, [.ref wl, .int (nI tp), .int (nI s22), .ref rt])), (wl, .inl (cV, 10000, .inr (.inr (.inr (.inr g22)))))]) (pl1 := va_pl L (pf f n22)) hP hD [0, 1] [] rfl rfl (by decide) (by decide) hk1 hFc hP1 hD1
        generalize H1 = H at hP hS hq0 ⊢
        have hP : va_P (dC, dI) classes ([(wk, .inr (10, [.ref wl, .int (nI tp), .int (nI s22), .ref rt])), (wl, .inl (cV, 10000, .inr (.inr (.inr (.inr g22)))))] ++ va_pl L (pf f n22)) H := hP
        have hD : va_D A ([(wk, .inr (10, [.ref wl, .int (nI tp), .int (nI s22), .ref rt])), (wl, .inl (cV, 10000, .inr (.inr (.inr (.inr g22)))))] ++ va_pl L (pf f n22)) := hD
        obtain ⟨hr22, hA22⟩ := hw
        have hA22 : ASK E S (m8 rtn cun).2 tp s9 g1 ν3 s22 g22 n22 := hA22
        have hr8 : r22 = bI (m8 rtn cun).1 := hr22
        have hA2 := hA9.tr hA22
        refine lv_if_eq (tgt := 17) hx hb d_Walk_anyHolds_12 (by decide) (fun c12 => ?_) (fun c12 => ?_)
        · refine lv_aload_n hx hb d_Walk_anyHolds_17 rfl (lv_at hl 2 rfl) ?_
          obtain ⟨kd23, fi23, nx23, qu23, le23, ri23, ef23, hv23⟩ := hO.con hob1
          rcases nx23 with _ | b24
          · refine vq_get (D := (dC, dI)) (ci := 0) (v := .null) (C := R_Condition) (T := F_Condition) (N := 6) hx hb hts in_Condition hown hK hP (hO.inL (a := ob) (by rw [hob1]; decide)) (pf_K ef23) rfl 2 (by decide) (hts _ z_681) (fun _ h9 => h9) rfl d_Walk_anyHolds_18 ?_
            refine lv_astore_nN (lv' := [(3, .null), (0, .ref wk), (2, .ref cu)]) hx hb d_Walk_anyHolds_21 rfl hl (by decide) rfl (fun ls hl => ?_)
            refine lv_goto (tgt := 2) hx hb d_Walk_anyHolds_22 (by decide) ?_
            have hgo := anyC_f (l := q8) (bI_f (hr8.symm.trans c12))
            have hR1 := (congrArg Prod.fst hgo).symm.trans hR1
            have hR2 := (congrArg (fun z => w + z.2) hgo).symm.trans hR2
            have hCn1 : CHD KD 2 (pf f ν3) S none q8 := by rw [← show refE 2 (pf f ν3 ob) = none by rw [pf_K ef23]; rfl]; exact hCn
            have hCn2 : CHD KD 2 (pf f n22) S none q8 := CHK.nu hCn1 hA22.2.2.2
            exact ih (none, q8, w + (m8 rtn cun).2, s22, g22, n22) _ _ _ ⟨(fun b h => nomatch h), hCn2, hA2, hR1, by show w + (m8 rtn cun).2 + _ = _; rw [Nat.add_assoc]; exact hR2⟩ (chL_lt (hO.inL (a := ob) (by rw [hob1]; decide)) (fun b h => nomatch h)) hP hD hS (lv_sub hl [1, 2, 0] rfl)
          · refine vq_get (D := (dC, dI)) (ci := 0) (v := .ref b24) (C := R_Condition) (T := F_Condition) (N := 6) hx hb hts in_Condition hown hK hP (hO.inL (a := ob) (by rw [hob1]; decide)) (pf_K ef23) rfl 2 (by decide) (hts _ z_681) (fun _ h9 => h9) rfl d_Walk_anyHolds_18 ?_
            refine lv_astore_n (lv' := [(3, .ref b24), (0, .ref wk), (2, .ref cu)]) hx hb d_Walk_anyHolds_21 rfl hl (by decide) rfl (fun ls hl => ?_)
            refine lv_goto (tgt := 2) hx hb d_Walk_anyHolds_22 (by decide) ?_
            have hgo := anyC_f (l := q8) (bI_f (hr8.symm.trans c12))
            have hR1 := (congrArg Prod.fst hgo).symm.trans hR1
            have hR2 := (congrArg (fun z => w + z.2) hgo).symm.trans hR2
            have hCn1 : CHD KD 2 (pf f ν3) S (some b24) q8 := by rw [← show refE 2 (pf f ν3 ob) = (some b24) by rw [pf_K ef23]; rfl]; exact hCn
            have hCn2 : CHD KD 2 (pf f n22) S (some b24) q8 := CHK.nu hCn1 hA22.2.2.2
            exact ih ((some b24), q8, w + (m8 rtn cun).2, s22, g22, n22) _ _ _ ⟨(fun b h => by cases h; exact ⟨(hv23.2.1 b24 rfl).1, Nat.le_trans (hv23.2.1 b24 rfl).2.1 hob2⟩), hCn2, hA2, hR1, by show w + (m8 rtn cun).2 + _ = _; rw [Nat.add_assoc]; exact hR2⟩ (chL_lt (hO.inL (a := ob) (by rw [hob1]; decide)) (fun b h => by cases h; exact (hv23.2.1 b24 rfl).2.2)) hP hD hS (lv_sub hl [1, 2, 0] rfl)
        · refine lv_iconst (v := 1) hx hb d_Walk_anyHolds_15 (by decide) ?_
          have hst := anyC_t (l := q8) (bI_t (fun q => c12 (hr8.trans q)))
          have hR1 := (congrArg Prod.fst hst).symm.trans hR1
          have hR2 := (congrArg (fun z => w + z.2) hst).symm.trans hR2
          have hA3 : ASK E S (anyC_ l9 rtn cun).2 tp sp g ν s22 g22 n22 := by rw [← hR2]; exact hA2
          refine w_same (fun hq => ?_)
          refine W.widen (k := 1) (n := 6) (Nat.le_of_ble_eq_true rfl) (Nat.le_of_ble_eq_true rfl) ?_
          refine vx_ret ?_
          exact W.zret (v := 1) hx hb hr rfl (fun t9 ht hW => ⟨⟨1, (s22, g22, n22), rfl, ⟨(by rw [← hR1]; rfl), hA3⟩, ⟨by rw [ht]; exact hP, va_K.moved hW.alike hK, hD⟩, by rw [ht]; exact hq⟩, hS.F ht⟩) hS.2.2 d_Walk_anyHolds_16
  · change vx_Met _ _ _ _ (va_Pc [.ref wk, .ref b21, .ref cu] _) _ _ _ _ _
    refine vx_ofW (cc := b_Walk_anyHolds) (maxL := 4) (ret := (some .boolean)) (by decide) rfl ?_
    intro p e s m args below meth c s₁ B hml hex hv
    obtain ⟨rfl, ⟨hsz, hP, hK, hD0⟩, hN, hZ, hC, hV⟩ := hv
    have hx := B.exec
    have hb := B.bytes
    have hr := B.returns
    have hts0 := atoms_spec (ws := k_Walk_anyHolds :: gtbl) B.pre
    have hts := fun w h => hts0 w (List.mem_cons_of_mem _ h)
    have hown : s.vm.findClass R_Walk = some m.cls := findClass_of_methodNamed B.named
    have hlocks := B.notSynchronized
    subst hsz
    have hD := hD0.self (sz := s.heap.size)
    generalize hAe : va_A ([(wk, .inr (10, [.ref wl, .int (nI tp), .int (nI sp), .ref rt])), (wl, .inl (cV, 10000, .inr (.inr (.inr (.inr g)))))] ++ va_pl L (pf f ν)) s.heap.size = A at hD hZ hC ⊢
    have hA : ∀ q : Nat, s.heap.size ≤ q → A q := fun q h => by rw [← hAe]; exact Or.inr h
    have hS : va_S A s.heap s.heap [] := va_S.rf
    have hP : va_P (dC, dI) classes ([(wk, .inr (10, [.ref wl, .int (nI tp), .int (nI sp), .ref rt])), (wl, .inl (cV, 10000, .inr (.inr (.inr (.inr g)))))] ++ va_pl L (pf f ν)) s.heap := hP
    have hl := lv_entry ([.ref wk, .ref b21, .ref cu]) (n := 4) (Nat.le_of_ble_eq_true rfl)
    rw [lg_entry_eq]
    generalize (lg_sl ([.ref wk, .ref b21, .ref cu]) ++ List.replicate (4 - (lg_sl ([.ref wk, .ref b21, .ref cu])).length) Slot.unset).toArray = ls at hl ⊢
    have hl : lv_has ls 4 [(0, .ref wk), (1, .ref b21), (2, .ref cu)] := hl
    have hW1 := hW9.1
    have hW2 := hW9.2.1
    have hDν := hDq9 ν NUg.rf
    obtain ⟨hcu, -⟩ := hcn.ax hDν
    refine lv_aload_n hx hb d_Walk_anyHolds_0 rfl (lv_at hl 1 rfl) ?_
    refine lv_astore_n (lv' := [(3, .ref b21), (0, .ref wk), (1, .ref b21), (2, .ref cu)]) hx hb d_Walk_anyHolds_1 rfl hl (by decide) rfl (fun ls hl => ?_)
    refine w_loop (D := (dC, dI)) (cl := classes) (A := A) (H0 := s.heap) (nL := 4) 2 (σ := Option Nat × List CT × Nat × Nat × (Nat → Option Nat) × (Nat → Int64)) (fun ⟨o, q9, w, s9, g1, ν3⟩ => oR (fun b => E b = 10 ∧ lv b ≤ n - 1) o ∧ CHD KD 2 (pf f ν3) S o q9 ∧ ASK E S w tp sp g ν s9 g1 ν3 ∧ (anyC_ q9 rtn cun).1 = (anyC_ l9 rtn cun).1 ∧ w + (anyC_ q9 rtn cun).2 = (anyC_ l9 rtn cun).2) (fun ⟨o, q9, w, s9, g1, ν3⟩ => chL L o) (fun ⟨o, q9, w, s9, g1, ν3⟩ => [(wk, .inr (10, [.ref wl, .int (nI tp), .int (nI s9), .ref rt])), (wl, .inl (cV, 10000, .inr (.inr (.inr (.inr g1)))))] ++ va_pl L (pf f ν3)) (fun ⟨o, q9, w, s9, g1, ν3⟩ => [(0, .ref wk), (2, .ref cu), (3, va_rf o)]) ?_ ((some b21), l9, 0, sp, g, ν) ⟨hfi, hCh, ASK.rf hW9, rfl, Nat.zero_add _⟩ hP hD hS (lv_sub hl [1, 3, 0] rfl)
    rintro ⟨o, q9, w, s9, g1, ν3⟩ H locs ls hI ih hP hD hS hl
    have hP : va_P (dC, dI) classes ([(wk, .inr (10, [.ref wl, .int (nI tp), .int (nI s9), .ref rt])), (wl, .inl (cV, 10000, .inr (.inr (.inr (.inr g1)))))] ++ va_pl L (pf f ν3)) H := hP
    have hD : va_D A ([(wk, .inr (10, [.ref wl, .int (nI tp), .int (nI s9), .ref rt])), (wl, .inl (cV, 10000, .inr (.inr (.inr (.inr g1)))))] ++ va_pl L (pf f ν3)) := hD
    have hl : lv_has ls 4 [(0, .ref wk), (2, .ref cu), (3, va_rf o)] := hl
    obtain ⟨hI, hCI, hA9, hR1, hR2⟩ := hI
    have hI : oR (fun b => E b = 10 ∧ lv b ≤ n - 1) o := hI
    have hCI : CHD KD 2 (pf f ν3) S o q9 := hCI
    have hA9 : ASK E S w tp sp g ν s9 g1 ν3 := hA9
    have hR1 : (anyC_ q9 rtn cun).1 = (anyC_ l9 rtn cun).1 := hR1
    have hR2 : w + (anyC_ q9 rtn cun).2 = (anyC_ l9 rtn cun).2 := hR2
    have hI3 := hA9.2.1
    have hI4 := hI3.1
    have hI5 := hI3.2.1
    rcases o with _ | ob
    · have hl : lv_has ls 4 [(0, .ref wk), (2, .ref cu), (3, .null)] := hl
      obtain rfl := hCI.no
      refine lv_aload_nN hx hb d_Walk_anyHolds_2 rfl (lv_at hl 2 rfl) ?_
      refine lv_ifnullN (tgt := 25) hx hb d_Walk_anyHolds_3 (by decide) ?_
      refine lv_iconst (v := 0) hx hb d_Walk_anyHolds_25 (by decide) ?_
      have hA3 : ASK E S (anyC_ l9 rtn cun).2 tp sp g ν s9 g1 ν3 := by rw [← hR2]; exact hA9
      refine w_same (fun hq => ?_)
      refine W.widen (k := 1) (n := 6) (Nat.le_of_ble_eq_true rfl) (Nat.le_of_ble_eq_true rfl) ?_
      refine vx_ret ?_
      exact W.zret (v := 0) hx hb hr rfl (fun t9 ht hW => ⟨⟨0, (s9, g1, ν3), rfl, ⟨(by rw [← hR1]; rfl), hA3⟩, ⟨by rw [ht]; exact hP, va_K.moved hW.alike hK, hD⟩, by rw [ht]; exact hq⟩, hS.F ht⟩) hS.2.2 d_Walk_anyHolds_26
    · have hl : lv_has ls 4 [(0, .ref wk), (2, .ref cu), (3, .ref ob)] := hl
      obtain ⟨hob1, hob2⟩ := hI ob rfl
      obtain ⟨m8, q8, rfl, hS3, hKD, hCn⟩ := hCI.so
      refine lv_aload_n hx hb d_Walk_anyHolds_2 rfl (lv_at hl 2 rfl) ?_
      refine lv_ifnull hx hb d_Walk_anyHolds_3 ?_
      refine lv_aload_n hx hb d_Walk_anyHolds_6 rfl (lv_at hl 0 rfl) ?_
      refine lv_aload_n hx hb d_Walk_anyHolds_7 rfl (lv_at hl 2 rfl) ?_
      refine lv_aload_n hx hb d_Walk_anyHolds_8 rfl (lv_at hl 1 rfl) ?_
      have hPc := hP.part (cx := [(wk, .inr (10, [.ref wl, .int (nI tp), .int (nI s9), .ref rt])), (wl, .inl (cV, 10000, .inr (.inr (.inr (.inr g1)))))]) [0, 1] rfl
      have hDc := hD.part (cx := [(wk, .inr (10, [.ref wl, .int (nI tp), .int (nI s9), .ref rt])), (wl, .inl (cV, 10000, .inr (.inr (.inr (.inr g1)))))]) [0, 1] (by decide) rfl
      have hFc := va_freeP (cx := [(wk, .inr (10, [.ref wl, .int (nI tp), .int (nI s9), .ref rt])), (wl, .inl (cV, 10000, .inr (.inr (.inr (.inr g1)))))]) hD hS hA [0, 1] rfl
      have hKc := hK.sub (tys' := [(cI, .int), (cV, .object "QueryBench$Value")]) [0, 1] rfl
      refine w_same (fun hq0 => ?_)
      refine vx_calli (vx_runV (As := [.ref ob, .ref cu]) (rest := []) ⟨hx, hb, hml, hown, hts⟩ (HI H S tp s9 g1 ν3 hI3 (fun ν2 h2 => hDq9 ν2 (hA9.2.2.2.tr h2)) ob cu m8 cun hob1 hob2 hKD hcn) (cwV 2 hts (gt_V (own := R_Walk) (C := R_Walk) (i := 152) (y := y_Walk_holds) i_Walk_holds z_895 z_897 (gt_sel (y := y_Walk_holds) (n := 4) (by decide +kernel)) w_5) rfl rfl rfl (by decide +kernel) ⟨by show 60 + 5 * (n - 1) + 1 ≤ 59 + 5 * n; omega, by show 8 + (3 + 11) + (2500 + 200 * (n - 1)) ≤ 2460 + 200 * n; omega⟩) ⟨ml_blind, va_recv hK hP (ci := 10) (q0 := 0) rfl rfl, fun U hU hW => ⟨rfl, ⟨hU, by rw [hU]; exact hPc, va_K.moved hW.alike hKc, hDc.weaken (fun _ _ _ _ => trivial)⟩, hN.warm hW, by rw [hU]; exact ZX.moved' hW.alike (ZX.narrow' (ZX.kept' hZ hS.2.1) hFc), by rw [hU]; exact CE.call hC hS.2.1 hFc hW, va_AO.moved hW.alike hV⟩⟩ rfl rfl hl.1 rfl (lv_room (Nat.le_of_ble_eq_true rfl)) d_Walk_anyHolds_9 ⟨Nat.le_of_ble_eq_true rfl, Nat.le_of_ble_eq_true rfl⟩) hS (fun q _ h => hFc q h) hFc (fun q _ h => hFc q h) (fun En ce q9 ⟨tx, sx, gx, nx⟩ t9 H1 locs ht hvm hw hB hz1 hk1 hS hce hcv hcl => ?_) (fun r25 ⟨s25, g25, n25⟩ t9 H1 locs ht hvm hw hB hz1 hk1 hS => ?_)
      · obtain ⟨hEn, hP1, hK1, hD1⟩ := hB
        rw [ht] at hP1
        obtain ⟨hP, hD⟩ := va_joinP (wr := []) (rx := [(wk, .inr (10, [.ref wl, .int tx, .int sx, .ref rt])), (wl, .inl (cV, 10000, .inr (.inr (.inr (.inr gx)))))]) (pl1 := va_pl L (pf f nx)) hP hD [0, 1] [] rfl rfl (by decide) (by decide) hk1 hFc hP1 hD1
        generalize H1 = H at hP hS hce ⊢
        have hP : va_P (dC, dI) classes ([(wk, .inr (10, [.ref wl, .int tx, .int sx, .ref rt])), (wl, .inl (cV, 10000, .inr (.inr (.inr (.inr gx)))))] ++ va_pl L (pf f nx)) H := hP
        have hD : va_D A ([(wk, .inr (10, [.ref wl, .int tx, .int sx, .ref rt])), (wl, .inl (cV, 10000, .inr (.inr (.inr (.inr gx)))))] ++ va_pl L (pf f nx)) := hD
        have hno : 10000 < sp + (anyC_ l9 rtn cun).2 := by have hw : 10000 < s9 + (m8 rtn cun).2 := hw.1; have := hA9.1; have h9 := anyC_ge (l := q8) (g := m8) (rt := rtn) (nd := cun); omega
        exact vx_out (fun x hx => (hex x hx).elim) hlocks hce hcv hcl (fun t9 ht2 ha => ⟨(tx, sx, gx, nx), ⟨hno, hA9.2.2.2.tr hw.2⟩, ⟨hEn, by rw [ht2]; exact hP, va_K.moved ha hK, hD⟩, hS.F ht2⟩) hS.2.2 (Nat.le_of_ble_eq_true rfl) (Nat.le_of_ble_eq_true rfl)
      · obtain ⟨⟨hP1, hK1, hD1⟩, hz9⟩ := hB
        rw [ht] at hP1
        rw [ht] at hz9
        refine w_tight (hq0.trans hz9) ?_
        have hq0 := hq0.trans hz9
        obtain ⟨hP, hD⟩ := va_joinP (wr := []) (rx := [(wk, .inr (10, [.ref wl, .int (nI tp), .int (nI s25), .ref rt])), (wl, .inl (cV, 10000, .inr (.inr (.inr (.inr g25)))))]) (pl1 := va_pl L (pf f n25)) hP hD [0, 1] [] rfl rfl (by decide) (by decide) hk1 hFc hP1 hD1
        generalize H1 = H at hP hS hq0 ⊢
        have hP : va_P (dC, dI) classes ([(wk, .inr (10, [.ref wl, .int (nI tp), .int (nI s25), .ref rt])), (wl, .inl (cV, 10000, .inr (.inr (.inr (.inr g25)))))] ++ va_pl L (pf f n25)) H := hP
        have hD : va_D A ([(wk, .inr (10, [.ref wl, .int (nI tp), .int (nI s25), .ref rt])), (wl, .inl (cV, 10000, .inr (.inr (.inr (.inr g25)))))] ++ va_pl L (pf f n25)) := hD
        obtain ⟨hr25, hA25⟩ := hw
        have hA25 : ASK E S (m8 rtn cun).2 tp s9 g1 ν3 s25 g25 n25 := hA25
        have hr8 : r25 = bI (m8 rtn cun).1 := hr25
        have hA2 := hA9.tr hA25
        refine lv_if_eq (tgt := 17) hx hb d_Walk_anyHolds_12 (by decide) (fun c12 => ?_) (fun c12 => ?_)
        · refine lv_aload_n hx hb d_Walk_anyHolds_17 rfl (lv_at hl 2 rfl) ?_
          obtain ⟨kd26, fi26, nx26, qu26, le26, ri26, ef26, hv26⟩ := hO.con hob1
          rcases nx26 with _ | b27
          · refine vq_get (D := (dC, dI)) (ci := 0) (v := .null) (C := R_Condition) (T := F_Condition) (N := 6) hx hb hts in_Condition hown hK hP (hO.inL (a := ob) (by rw [hob1]; decide)) (pf_K ef26) rfl 2 (by decide) (hts _ z_681) (fun _ h9 => h9) rfl d_Walk_anyHolds_18 ?_
            refine lv_astore_nN (lv' := [(3, .null), (0, .ref wk), (2, .ref cu)]) hx hb d_Walk_anyHolds_21 rfl hl (by decide) rfl (fun ls hl => ?_)
            refine lv_goto (tgt := 2) hx hb d_Walk_anyHolds_22 (by decide) ?_
            have hgo := anyC_f (l := q8) (bI_f (hr8.symm.trans c12))
            have hR1 := (congrArg Prod.fst hgo).symm.trans hR1
            have hR2 := (congrArg (fun z => w + z.2) hgo).symm.trans hR2
            have hCn1 : CHD KD 2 (pf f ν3) S none q8 := by rw [← show refE 2 (pf f ν3 ob) = none by rw [pf_K ef26]; rfl]; exact hCn
            have hCn2 : CHD KD 2 (pf f n25) S none q8 := CHK.nu hCn1 hA25.2.2.2
            exact ih (none, q8, w + (m8 rtn cun).2, s25, g25, n25) _ _ _ ⟨(fun b h => nomatch h), hCn2, hA2, hR1, by show w + (m8 rtn cun).2 + _ = _; rw [Nat.add_assoc]; exact hR2⟩ (chL_lt (hO.inL (a := ob) (by rw [hob1]; decide)) (fun b h => nomatch h)) hP hD hS (lv_sub hl [1, 2, 0] rfl)
          · refine vq_get (D := (dC, dI)) (ci := 0) (v := .ref b27) (C := R_Condition) (T := F_Condition) (N := 6) hx hb hts in_Condition hown hK hP (hO.inL (a := ob) (by rw [hob1]; decide)) (pf_K ef26) rfl 2 (by decide) (hts _ z_681) (fun _ h9 => h9) rfl d_Walk_anyHolds_18 ?_
            refine lv_astore_n (lv' := [(3, .ref b27), (0, .ref wk), (2, .ref cu)]) hx hb d_Walk_anyHolds_21 rfl hl (by decide) rfl (fun ls hl => ?_)
            refine lv_goto (tgt := 2) hx hb d_Walk_anyHolds_22 (by decide) ?_
            have hgo := anyC_f (l := q8) (bI_f (hr8.symm.trans c12))
            have hR1 := (congrArg Prod.fst hgo).symm.trans hR1
            have hR2 := (congrArg (fun z => w + z.2) hgo).symm.trans hR2
            have hCn1 : CHD KD 2 (pf f ν3) S (some b27) q8 := by rw [← show refE 2 (pf f ν3 ob) = (some b27) by rw [pf_K ef26]; rfl]; exact hCn
            have hCn2 : CHD KD 2 (pf f n25) S (some b27) q8 := CHK.nu hCn1 hA25.2.2.2
            exact ih ((some b27), q8, w + (m8 rtn cun).2, s25, g25, n25) _ _ _ ⟨(fun b h => by cases h; exact ⟨(hv26.2.1 b27 rfl).1, Nat.le_trans (hv26.2.1 b27 rfl).2.1 hob2⟩), hCn2, hA2, hR1, by show w + (m8 rtn cun).2 + _ = _; rw [Nat.add_assoc]; exact hR2⟩ (chL_lt (hO.inL (a := ob) (by rw [hob1]; decide)) (fun b h => by cases h; exact (hv26.2.1 b27 rfl).2.2)) hP hD hS (lv_sub hl [1, 2, 0] rfl)
        · refine lv_iconst (v := 1) hx hb d_Walk_anyHolds_15 (by decide) ?_
          have hst := anyC_t (l := q8) (bI_t (fun q => c12 (hr8.trans q)))
          have hR1 := (congrArg Prod.fst hst).symm.trans hR1
          have hR2 := (congrArg (fun z => w + z.2) hst).symm.trans hR2
          have hA3 : ASK E S (anyC_ l9 rtn cun).2 tp sp g ν s25 g25 n25 := by rw [← hR2]; exact hA2
          refine w_same (fun hq => ?_)
          refine W.widen (k := 1) (n := 6) (Nat.le_of_ble_eq_true rfl) (Nat.le_of_ble_eq_true rfl) ?_
          refine vx_ret ?_
          exact W.zret (v := 1) hx hb hr rfl (fun t9 ht hW => ⟨⟨1, (s25, g25, n25), rfl, ⟨(by rw [← hR1]; rfl), hA3⟩, ⟨by rw [ht]; exact hP, va_K.moved hW.alike hK, hD⟩, by rw [ht]; exact hq⟩, hS.F ht⟩) hS.2.2 d_Walk_anyHolds_16
set_option maxHeartbeats 4000000 in
set_option maxRecDepth 100000 in
/-- Walk.anyHolds, of nothing -/
theorem p_Walk_anyHolds0 (l : Launch) (hl9 : l.stackTraces = false) (K : Nat → Nat × Nat) (dC : Nat → ClassId) (dI : Nat → Nat → Nat) (sz : Heap) (cI cV : ClassId) (E lv : Nat → Nat) (L : List Nat) (f : Nat → va_E) (hO : PO cI cV E lv L f) (hN1 : ∀ a, E a ≠ 1) (PL : List NT) (AL : List Nat) (S : Nat → Nat) (wk wl rt : Nat) (hrt : isF E rt) (rtn : NT) (hrn : NCr PL AL rt rtn) (tp sp : Nat) (g : Nat → Option Nat) (ν : Nat → Int64) (hW9 : WI E tp sp g) (hDq9 : ∀ ν2, NUg S ν ν2 → DOC E (pf f ν2) PL AL) (cu : Nat) (cun : NT) (hcn : NCr PL AL cu cun) (n : Nat) : vx_Met l y_Walk_anyHolds (k_Walk_anyHolds :: gtbl) ({ frames := 59 + 5 * n, cells := 1, slots := 6, locals := 2460 + 200 * n }) (va_Pc [.ref wk, .null, .ref cu] (ml K dC dI ([(wk, .inr (10, [.ref wl, .int (nI tp), .int (nI sp), .ref rt])), (wl, .inl (cV, 10000, .inr (.inr (.inr (.inr g)))))] ++ va_pl L (pf f ν)) [(cI, .int), (cV, .object "QueryBench$Value")] sz)) (va_Qi (fun (r : Int32) (u : Nat × (Nat → Option Nat) × (Nat → Int64)) => r = bI (anyC_ [] rtn cun).1 ∧ ASK E S 0 tp sp g ν u.1 u.2.1 u.2.2) (fun u t9 => mz dC dI ([(wk, .inr (10, [.ref wl, .int (nI tp), .int (nI u.1), .ref rt])), (wl, .inl (cV, 10000, .inr (.inr (.inr (.inr u.2.1)))))] ++ va_pl L (pf f u.2.2)) [(cI, .int), (cV, .object "QueryBench$Value")] (va_A ([(wk, .inr (10, [.ref wl, .int (nI tp), .int (nI sp), .ref rt])), (wl, .inl (cV, 10000, .inr (.inr (.inr (.inr g)))))] ++ va_pl L (pf f ν)) sz.size) t9 ∧ szk sz t9.heap (0) (0)) (va_A ([(wk, .inr (10, [.ref wl, .int (nI tp), .int (nI sp), .ref rt])), (wl, .inl (cV, 10000, .inr (.inr (.inr (.inr g)))))] ++ va_pl L (pf f ν)) sz.size)) (vx_X (fun (u : Int32 × Int32 × (Nat → Option Nat) × (Nat → Int64)) => 10000 < sp + 0 ∧ NUg S ν u.2.2.2) (fun En u t9 => En = IOB ∧ mz dC dI ([(wk, .inr (10, [.ref wl, .int u.1, .int u.2.1, .ref rt])), (wl, .inl (cV, 10000, .inr (.inr (.inr (.inr u.2.2.1)))))] ++ va_pl L (pf f u.2.2.2)) [(cI, .int), (cV, .object "QueryBench$Value")] (va_A ([(wk, .inr (10, [.ref wl, .int (nI tp), .int (nI sp), .ref rt])), (wl, .inl (cV, 10000, .inr (.inr (.inr (.inr g)))))] ++ va_pl L (pf f ν)) sz.size) t9) (va_A ([(wk, .inr (10, [.ref wl, .int (nI tp), .int (nI sp), .ref rt])), (wl, .inl (cV, 10000, .inr (.inr (.inr (.inr g)))))] ++ va_pl L (pf f ν)) sz.size)) (1) (6) (va_A ([(wk, .inr (10, [.ref wl, .int (nI tp), .int (nI sp), .ref rt])), (wl, .inl (cV, 10000, .inr (.inr (.inr (.inr g)))))] ++ va_pl L (pf f ν)) sz.size) := by
  refine vx_ofW (cc := b_Walk_anyHolds) (maxL := 4) (ret := (some .boolean)) (by decide) rfl ?_
  intro p e s m args below meth c s₁ B hml hex hv
  obtain ⟨rfl, ⟨hsz, hP, hK, hD0⟩, hN, hZ, hC, hV⟩ := hv
  have hx := B.exec
  have hb := B.bytes
  have hr := B.returns
  have hts0 := atoms_spec (ws := k_Walk_anyHolds :: gtbl) B.pre
  have hts := fun w h => hts0 w (List.mem_cons_of_mem _ h)
  have hown : s.vm.findClass R_Walk = some m.cls := findClass_of_methodNamed B.named
  have hlocks := B.notSynchronized
  subst hsz
  have hD := hD0.self (sz := s.heap.size)
  generalize hAe : va_A ([(wk, .inr (10, [.ref wl, .int (nI tp), .int (nI sp), .ref rt])), (wl, .inl (cV, 10000, .inr (.inr (.inr (.inr g)))))] ++ va_pl L (pf f ν)) s.heap.size = A at hD hZ hC ⊢
  have hA : ∀ q : Nat, s.heap.size ≤ q → A q := fun q h => by rw [← hAe]; exact Or.inr h
  have hS : va_S A s.heap s.heap [] := va_S.rf
  have hP : va_P (dC, dI) classes ([(wk, .inr (10, [.ref wl, .int (nI tp), .int (nI sp), .ref rt])), (wl, .inl (cV, 10000, .inr (.inr (.inr (.inr g)))))] ++ va_pl L (pf f ν)) s.heap := hP
  have hl := lv_entry ([.ref wk, .null, .ref cu]) (n := 4) (Nat.le_of_ble_eq_true rfl)
  rw [lg_entry_eq]
  generalize (lg_sl ([.ref wk, .null, .ref cu]) ++ List.replicate (4 - (lg_sl ([.ref wk, .null, .ref cu])).length) Slot.unset).toArray = ls at hl ⊢
  have hl : lv_has ls 4 [(0, .ref wk), (1, .null), (2, .ref cu)] := hl
  have hW0 := hW9
  have hW1 := hW9.1
  have hW2 := hW9.2.1
  have hDν := hDq9 ν NUg.rf
  obtain ⟨hcu, -⟩ := hcn.ax hDν
  refine lv_aload_nN hx hb d_Walk_anyHolds_0 rfl (lv_at hl 1 rfl) ?_
  refine lv_astore_nN (lv' := [(3, .null), (0, .ref wk), (1, .null), (2, .ref cu)]) hx hb d_Walk_anyHolds_1 rfl hl (by decide) rfl (fun ls hl => ?_)
  refine lv_aload_nN hx hb d_Walk_anyHolds_2 rfl (lv_at hl 0 rfl) ?_
  refine lv_ifnullN (tgt := 25) hx hb d_Walk_anyHolds_3 (by decide) ?_
  refine lv_iconst (v := 0) hx hb d_Walk_anyHolds_25 (by decide) ?_
  refine w_same (fun hq => ?_)
  refine W.widen (k := 1) (n := 6) (Nat.le_of_ble_eq_true rfl) (Nat.le_of_ble_eq_true rfl) ?_
  refine vx_ret ?_
  exact W.zret (v := 0) hx hb hr rfl (fun t9 ht hW => ⟨⟨0, (sp, g, ν), rfl, ⟨rfl, (ASK.rf hW9)⟩, ⟨by rw [ht]; exact hP, va_K.moved hW.alike hK, hD⟩, by rw [ht]; exact hq⟩, hS.F ht⟩) hS.2.2 d_Walk_anyHolds_26
set_option maxHeartbeats 4000000 in
set_option maxRecDepth 100000 in
/-- Walk.allHold: what it says -/
theorem p_Walk_allHold (l : Launch) (hl9 : l.stackTraces = false) (K : Nat → Nat × Nat) (dC : Nat → ClassId) (dI : Nat → Nat → Nat) (sz : Heap) (cI cV : ClassId) (E lv : Nat → Nat) (L : List Nat) (f : Nat → va_E) (hO : PO cI cV E lv L f) (hN1 : ∀ a, E a ≠ 1) (PL : List NT) (AL : List Nat) (S : Nat → Nat) (wk wl rt : Nat) (hrt : isF E rt) (rtn : NT) (hrn : NCr PL AL rt rtn) (tp sp : Nat) (g : Nat → Option Nat) (ν : Nat → Int64) (hW9 : WI E tp sp g) (hDq9 : ∀ ν2, NUg S ν ν2 → DOC E (pf f ν2) PL AL) (cu : Nat) (cun : NT) (hcn : NCr PL AL cu cun) (n : Nat) (hn : 0 < n) (HI : HDF l K dC dI cI cV E lv L f PL AL wk wl rt rtn (n - 1)) (fi : Option Nat) (hfi : oR (fun b => E b = 10 ∧ lv b ≤ n - 1) fi) (l9 : List CT) (hCh : CHD KD 2 (pf f ν) S fi l9) : vx_Met l y_Walk_allHold (k_Walk_allHold :: gtbl) ({ frames := 59 + 5 * n, cells := 1, slots := 6, locals := 2460 + 200 * n }) (va_Pc [.ref wk, va_rf fi, .ref cu] (ml K dC dI ([(wk, .inr (10, [.ref wl, .int (nI tp), .int (nI sp), .ref rt])), (wl, .inl (cV, 10000, .inr (.inr (.inr (.inr g)))))] ++ va_pl L (pf f ν)) [(cI, .int), (cV, .object "QueryBench$Value")] sz)) (va_Qi (fun (r : Int32) (u : Nat × (Nat → Option Nat) × (Nat → Int64)) => r = bI (allC l9 rtn cun).1 ∧ ASK E S (allC l9 rtn cun).2 tp sp g ν u.1 u.2.1 u.2.2) (fun u t9 => mz dC dI ([(wk, .inr (10, [.ref wl, .int (nI tp), .int (nI u.1), .ref rt])), (wl, .inl (cV, 10000, .inr (.inr (.inr (.inr u.2.1)))))] ++ va_pl L (pf f u.2.2)) [(cI, .int), (cV, .object "QueryBench$Value")] (va_A ([(wk, .inr (10, [.ref wl, .int (nI tp), .int (nI sp), .ref rt])), (wl, .inl (cV, 10000, .inr (.inr (.inr (.inr g)))))] ++ va_pl L (pf f ν)) sz.size) t9 ∧ szk sz t9.heap (0) (0)) (va_A ([(wk, .inr (10, [.ref wl, .int (nI tp), .int (nI sp), .ref rt])), (wl, .inl (cV, 10000, .inr (.inr (.inr (.inr g)))))] ++ va_pl L (pf f ν)) sz.size)) (vx_X (fun (u : Int32 × Int32 × (Nat → Option Nat) × (Nat → Int64)) => 10000 < sp + (allC l9 rtn cun).2 ∧ NUg S ν u.2.2.2) (fun En u t9 => En = IOB ∧ mz dC dI ([(wk, .inr (10, [.ref wl, .int u.1, .int u.2.1, .ref rt])), (wl, .inl (cV, 10000, .inr (.inr (.inr (.inr u.2.2.1)))))] ++ va_pl L (pf f u.2.2.2)) [(cI, .int), (cV, .object "QueryBench$Value")] (va_A ([(wk, .inr (10, [.ref wl, .int (nI tp), .int (nI sp), .ref rt])), (wl, .inl (cV, 10000, .inr (.inr (.inr (.inr g)))))] ++ va_pl L (pf f ν)) sz.size) t9) (va_A ([(wk, .inr (10, [.ref wl, .int (nI tp), .int (nI sp), .ref rt])), (wl, .inl (cV, 10000, .inr (.inr (.inr (.inr g)))))] ++ va_pl L (pf f ν)) sz.size)) (1) (6) (va_A ([(wk, .inr (10, [.ref wl, .int (nI tp), .int (nI sp), .ref rt])), (wl, .inl (cV, 10000, .inr (.inr (.inr (.inr g)))))] ++ va_pl L (pf f ν)) sz.size) := by
  rcases fi with _ | b21
  · change vx_Met _ _ _ _ (va_Pc [.ref wk, .null, .ref cu] _) _ _ _ _ _
    refine vx_ofW (cc := b_Walk_allHold) (maxL := 4) (ret := (some .boolean)) (by decide) rfl ?_
    intro p e s m args below meth c s₁ B hml hex hv
    obtain ⟨rfl, ⟨hsz, hP, hK, hD0⟩, hN, hZ, hC, hV⟩ := hv
    have hx := B.exec
    have hb := B.bytes
    have hr := B.returns
    have hts0 := atoms_spec (ws := k_Walk_allHold :: gtbl) B.pre
    have hts := fun w h => hts0 w (List.mem_cons_of_mem _ h)
    have hown : s.vm.findClass R_Walk = some m.cls := findClass_of_methodNamed B.named
    have hlocks := B.notSynchronized
    subst hsz
    have hD := hD0.self (sz := s.heap.size)
    generalize hAe : va_A ([(wk, .inr (10, [.ref wl, .int (nI tp), .int (nI sp), .ref rt])), (wl, .inl (cV, 10000, .inr (.inr (.inr (.inr g)))))] ++ va_pl L (pf f ν)) s.heap.size = A at hD hZ hC ⊢
    have hA : ∀ q : Nat, s.heap.size ≤ q → A q := fun q h => by rw [← hAe]; exact Or.inr h
    have hS : va_S A s.heap s.heap [] := va_S.rf
    have hP : va_P (dC, dI) classes ([(wk, .inr (10, [.ref wl, .int (nI tp), .int (nI sp), .ref rt])), (wl, .inl (cV, 10000, .inr (.inr (.inr (.inr g)))))] ++ va_pl L (pf f ν)) s.heap := hP
    have hl := lv_entry ([.ref wk, .null, .ref cu]) (n := 4) (Nat.le_of_ble_eq_true rfl)
    rw [lg_entry_eq]
    generalize (lg_sl ([.ref wk, .null, .ref cu]) ++ List.replicate (4 - (lg_sl ([.ref wk, .null, .ref cu])).length) Slot.unset).toArray = ls at hl ⊢
    have hl : lv_has ls 4 [(0, .ref wk), (1, .null), (2, .ref cu)] := hl
    have hW1 := hW9.1
    have hW2 := hW9.2.1
    have hDν := hDq9 ν NUg.rf
    obtain ⟨hcu, -⟩ := hcn.ax hDν
    refine lv_aload_nN hx hb d_Walk_allHold_0 rfl (lv_at hl 1 rfl) ?_
    refine lv_astore_nN (lv' := [(3, .null), (0, .ref wk), (1, .null), (2, .ref cu)]) hx hb d_Walk_allHold_1 rfl hl (by decide) rfl (fun ls hl => ?_)
    refine w_loop (D := (dC, dI)) (cl := classes) (A := A) (H0 := s.heap) (nL := 4) 2 (σ := Option Nat × List CT × Nat × Nat × (Nat → Option Nat) × (Nat → Int64)) (fun ⟨o, q9, w, s9, g1, ν3⟩ => oR (fun b => E b = 10 ∧ lv b ≤ n - 1) o ∧ CHD KD 2 (pf f ν3) S o q9 ∧ ASK E S w tp sp g ν s9 g1 ν3 ∧ (allC q9 rtn cun).1 = (allC l9 rtn cun).1 ∧ w + (allC q9 rtn cun).2 = (allC l9 rtn cun).2) (fun ⟨o, q9, w, s9, g1, ν3⟩ => chL L o) (fun ⟨o, q9, w, s9, g1, ν3⟩ => [(wk, .inr (10, [.ref wl, .int (nI tp), .int (nI s9), .ref rt])), (wl, .inl (cV, 10000, .inr (.inr (.inr (.inr g1)))))] ++ va_pl L (pf f ν3)) (fun ⟨o, q9, w, s9, g1, ν3⟩ => [(0, .ref wk), (2, .ref cu), (3, va_rf o)]) ?_ (none, l9, 0, sp, g, ν) ⟨(fun b h => nomatch h), hCh, ASK.rf hW9, rfl, Nat.zero_add _⟩ hP hD hS (lv_sub hl [1, 3, 0] rfl)
    rintro ⟨o, q9, w, s9, g1, ν3⟩ H locs ls hI ih hP hD hS hl
    have hP : va_P (dC, dI) classes ([(wk, .inr (10, [.ref wl, .int (nI tp), .int (nI s9), .ref rt])), (wl, .inl (cV, 10000, .inr (.inr (.inr (.inr g1)))))] ++ va_pl L (pf f ν3)) H := hP
    have hD : va_D A ([(wk, .inr (10, [.ref wl, .int (nI tp), .int (nI s9), .ref rt])), (wl, .inl (cV, 10000, .inr (.inr (.inr (.inr g1)))))] ++ va_pl L (pf f ν3)) := hD
    have hl : lv_has ls 4 [(0, .ref wk), (2, .ref cu), (3, va_rf o)] := hl
    obtain ⟨hI, hCI, hA9, hR1, hR2⟩ := hI
    have hI : oR (fun b => E b = 10 ∧ lv b ≤ n - 1) o := hI
    have hCI : CHD KD 2 (pf f ν3) S o q9 := hCI
    have hA9 : ASK E S w tp sp g ν s9 g1 ν3 := hA9
    have hR1 : (allC q9 rtn cun).1 = (allC l9 rtn cun).1 := hR1
    have hR2 : w + (allC q9 rtn cun).2 = (allC l9 rtn cun).2 := hR2
    have hI3 := hA9.2.1
    have hI4 := hI3.1
    have hI5 := hI3.2.1
    rcases o with _ | ob
    · have hl : lv_has ls 4 [(0, .ref wk), (2, .ref cu), (3, .null)] := hl
      obtain rfl := hCI.no
      refine lv_aload_nN hx hb d_Walk_allHold_2 rfl (lv_at hl 2 rfl) ?_
      refine lv_ifnullN (tgt := 25) hx hb d_Walk_allHold_3 (by decide) ?_
      refine lv_iconst (v := 1) hx hb d_Walk_allHold_25 (by decide) ?_
      have hA3 : ASK E S (allC l9 rtn cun).2 tp sp g ν s9 g1 ν3 := by rw [← hR2]; exact hA9
      refine w_same (fun hq => ?_)
      refine W.widen (k := 1) (n := 6) (Nat.le_of_ble_eq_true rfl) (Nat.le_of_ble_eq_true rfl) ?_
      refine vx_ret ?_
      exact W.zret (v := 1) hx hb hr rfl (fun t9 ht hW => ⟨⟨1, (s9, g1, ν3), rfl, ⟨(by rw [← hR1]; rfl), hA3⟩, ⟨by rw [ht]; exact hP, va_K.moved hW.alike hK, hD⟩, by rw [ht]; exact hq⟩, hS.F ht⟩) hS.2.2 d_Walk_allHold_26
    · have hl : lv_has ls 4 [(0, .ref wk), (2, .ref cu), (3, .ref ob)] := hl
      obtain ⟨hob1, hob2⟩ := hI ob rfl
      obtain ⟨m8, q8, rfl, hS3, hKD, hCn⟩ := hCI.so
      refine lv_aload_n hx hb d_Walk_allHold_2 rfl (lv_at hl 2 rfl) ?_
      refine lv_ifnull hx hb d_Walk_allHold_3 ?_
      refine lv_aload_n hx hb d_Walk_allHold_6 rfl (lv_at hl 0 rfl) ?_
      refine lv_aload_n hx hb d_Walk_allHold_7 rfl (lv_at hl 2 rfl) ?_
      refine lv_aload_n hx hb d_Walk_allHold_8 rfl (lv_at hl 1 rfl) ?_
      have hPc := hP.part (cx := [(wk, .inr (10, [.ref wl, .int (nI tp), .int (nI s9), .ref rt])), (wl, .inl (cV, 10000, .inr (.inr (.inr (.inr g1)))))]) [0, 1] rfl
      have hDc := hD.part (cx := [(wk, .inr (10, [.ref wl, .int (nI tp), .int (nI s9), .ref rt])), (wl, .inl (cV, 10000, .inr (.inr (.inr (.inr g1)))))]) [0, 1] (by decide) rfl
      have hFc := va_freeP (cx := [(wk, .inr (10, [.ref wl, .int (nI tp), .int (nI s9), .ref rt])), (wl, .inl (cV, 10000, .inr (.inr (.inr (.inr g1)))))]) hD hS hA [0, 1] rfl
      have hKc := hK.sub (tys' := [(cI, .int), (cV, .object "QueryBench$Value")]) [0, 1] rfl
      refine w_same (fun hq0 => ?_)
      refine vx_calli (vx_runV (As := [.ref ob, .ref cu]) (rest := []) ⟨hx, hb, hml, hown, hts⟩ (HI H S tp s9 g1 ν3 hI3 (fun ν2 h2 => hDq9 ν2 (hA9.2.2.2.tr h2)) ob cu m8 cun hob1 hob2 hKD hcn) (cwV 2 hts (gt_V (own := R_Walk) (C := R_Walk) (i := 152) (y := y_Walk_holds) i_Walk_holds z_895 z_897 (gt_sel (y := y_Walk_holds) (n := 4) (by decide +kernel)) w_5) rfl rfl rfl (by decide +kernel) ⟨by show 60 + 5 * (n - 1) + 1 ≤ 59 + 5 * n; omega, by show 8 + (3 + 11) + (2500 + 200 * (n - 1)) ≤ 2460 + 200 * n; omega⟩) ⟨ml_blind, va_recv hK hP (ci := 10) (q0 := 0) rfl rfl, fun U hU hW => ⟨rfl, ⟨hU, by rw [hU]; exact hPc, va_K.moved hW.alike hKc, hDc.weaken (fun _ _ _ _ => trivial)⟩, hN.warm hW, by rw [hU]; exact ZX.moved' hW.alike (ZX.narrow' (ZX.kept' hZ hS.2.1) hFc), by rw [hU]; exact CE.call hC hS.2.1 hFc hW, va_AO.moved hW.alike hV⟩⟩ rfl rfl hl.1 rfl (lv_room (Nat.le_of_ble_eq_true rfl)) d_Walk_allHold_9 ⟨Nat.le_of_ble_eq_true rfl, Nat.le_of_ble_eq_true rfl⟩) hS (fun q _ h => hFc q h) hFc (fun q _ h => hFc q h) (fun En ce q9 ⟨tx, sx, gx, nx⟩ t9 H1 locs ht hvm hw hB hz1 hk1 hS hce hcv hcl => ?_) (fun r22 ⟨s22, g22, n22⟩ t9 H1 locs ht hvm hw hB hz1 hk1 hS => ?_)
      · obtain ⟨hEn, hP1, hK1, hD1⟩ := hB
        rw [ht] at hP1
        obtain ⟨hP, hD⟩ := va_joinP (wr := []) (rx := [(wk, .inr (10, [.ref wl, .int tx, .int sx, .ref rt])), (wl, .inl (cV, 10000, .inr (.inr (.inr (.inr gx)))))]) (pl1 := va_pl L (pf f nx)) hP hD [0, 1] [] rfl rfl (by decide) (by decide) hk1 hFc hP1 hD1
        generalize H1 = H at hP hS hce ⊢
        have hP : va_P (dC, dI) classes ([(wk, .inr (10, [.ref wl, .int tx, .int sx, .ref rt])), (wl, .inl (cV, 10000, .inr (.inr (.inr (.inr gx)))))] ++ va_pl L (pf f nx)) H := hP
        have hD : va_D A ([(wk, .inr (10, [.ref wl, .int tx, .int sx, .ref rt])), (wl, .inl (cV, 10000, .inr (.inr (.inr (.inr gx)))))] ++ va_pl L (pf f nx)) := hD
        have hno : 10000 < sp + (allC l9 rtn cun).2 := by have hw : 10000 < s9 + (m8 rtn cun).2 := hw.1; have := hA9.1; have h9 := allC_ge (l := q8) (g := m8) (rt := rtn) (nd := cun); omega
        exact vx_out (fun x hx => (hex x hx).elim) hlocks hce hcv hcl (fun t9 ht2 ha => ⟨(tx, sx, gx, nx), ⟨hno, hA9.2.2.2.tr hw.2⟩, ⟨hEn, by rw [ht2]; exact hP, va_K.moved ha hK, hD⟩, hS.F ht2⟩) hS.2.2 (Nat.le_of_ble_eq_true rfl) (Nat.le_of_ble_eq_true rfl)
      · obtain ⟨⟨hP1, hK1, hD1⟩, hz9⟩ := hB
        rw [ht] at hP1
        rw [ht] at hz9
        refine w_tight (hq0.trans hz9) ?_
        have hq0 := hq0.trans hz9
        obtain ⟨hP, hD⟩ := va_joinP (wr := []) (rx := [(wk, .inr (10, [.ref wl, .int (nI tp), .int (nI s22), .ref rt])), (wl, .inl (cV, 10000, .inr (.inr (.inr (.inr g22)))))]) (pl1 := va_pl L (pf f n22)) hP hD [0, 1] [] rfl rfl (by decide) (by decide) hk1 hFc hP1 hD1
        generalize H1 = H at hP hS hq0 ⊢
        have hP : va_P (dC, dI) classes ([(wk, .inr (10, [.ref wl, .int (nI tp), .int (nI s22), .ref rt])), (wl, .inl (cV, 10000, .inr (.inr (.inr (.inr g22)))))] ++ va_pl L (pf f n22)) H := hP
        have hD : va_D A ([(wk, .inr (10, [.ref wl, .int (nI tp), .int (nI s22), .ref rt])), (wl, .inl (cV, 10000, .inr (.inr (.inr (.inr g22)))))] ++ va_pl L (pf f n22)) := hD
        obtain ⟨hr22, hA22⟩ := hw
        have hA22 : ASK E S (m8 rtn cun).2 tp s9 g1 ν3 s22 g22 n22 := hA22
        have hr8 : r22 = bI (m8 rtn cun).1 := hr22
        have hA2 := hA9.tr hA22
        refine lv_if_ne (tgt := 17) hx hb d_Walk_allHold_12 (by decide) (fun c12 => ?_) (fun c12 => ?_)
        · refine lv_aload_n hx hb d_Walk_allHold_17 rfl (lv_at hl 2 rfl) ?_
          obtain ⟨kd23, fi23, nx23, qu23, le23, ri23, ef23, hv23⟩ := hO.con hob1
          rcases nx23 with _ | b24
          · refine vq_get (D := (dC, dI)) (ci := 0) (v := .null) (C := R_Condition) (T := F_Condition) (N := 6) hx hb hts in_Condition hown hK hP (hO.inL (a := ob) (by rw [hob1]; decide)) (pf_K ef23) rfl 2 (by decide) (hts _ z_681) (fun _ h9 => h9) rfl d_Walk_allHold_18 ?_
            refine lv_astore_nN (lv' := [(3, .null), (0, .ref wk), (2, .ref cu)]) hx hb d_Walk_allHold_21 rfl hl (by decide) rfl (fun ls hl => ?_)
            refine lv_goto (tgt := 2) hx hb d_Walk_allHold_22 (by decide) ?_
            have hgo := allC_t (l := q8) (bI_t (fun q => c12 (hr8.trans q)))
            have hR1 := (congrArg Prod.fst hgo).symm.trans hR1
            have hR2 := (congrArg (fun z => w + z.2) hgo).symm.trans hR2
            have hCn1 : CHD KD 2 (pf f ν3) S none q8 := by rw [← show refE 2 (pf f ν3 ob) = none by rw [pf_K ef23]; rfl]; exact hCn
            have hCn2 : CHD KD 2 (pf f n22) S none q8 := CHK.nu hCn1 hA22.2.2.2
            exact ih (none, q8, w + (m8 rtn cun).2, s22, g22, n22) _ _ _ ⟨(fun b h => nomatch h), hCn2, hA2, hR1, by show w + (m8 rtn cun).2 + _ = _; rw [Nat.add_assoc]; exact hR2⟩ (chL_lt (hO.inL (a := ob) (by rw [hob1]; decide)) (fun b h => nomatch h)) hP hD hS (lv_sub hl [1, 2, 0] rfl)
          · refine vq_get (D := (dC, dI)) (ci := 0) (v := .ref b24) (C := R_Condition) (T := F_Condition) (N := 6) hx hb hts in_Condition hown hK hP (hO.inL (a := ob) (by rw [hob1]; decide)) (pf_K ef23) rfl 2 (by decide) (hts _ z_681) (fun _ h9 => h9) rfl d_Walk_allHold_18 ?_
            refine lv_astore_n (lv' := [(3, .ref b24), (0, .ref wk), (2, .ref cu)]) hx hb d_Walk_allHold_21 rfl hl (by decide) rfl (fun ls hl => ?_)
            refine lv_goto (tgt := 2) hx hb d_Walk_allHold_22 (by decide) ?_
            have hgo := allC_t (l := q8) (bI_t (fun q => c12 (hr8.trans q)))
            have hR1 := (congrArg Prod.fst hgo).symm.trans hR1
            have hR2 := (congrArg (fun z => w + z.2) hgo).symm.trans hR2
            have hCn1 : CHD KD 2 (pf f ν3) S (some b24) q8 := by rw [← show refE 2 (pf f ν3 ob) = (some b24) by rw [pf_K ef23]; rfl]; exact hCn
            have hCn2 : CHD KD 2 (pf f n22) S (some b24) q8 := CHK.nu hCn1 hA22.2.2.2
            exact ih ((some b24), q8, w + (m8 rtn cun).2, s22, g22, n22) _ _ _ ⟨(fun b h => by cases h; exact ⟨(hv23.2.1 b24 rfl).1, Nat.le_trans (hv23.2.1 b24 rfl).2.1 hob2⟩), hCn2, hA2, hR1, by show w + (m8 rtn cun).2 + _ = _; rw [Nat.add_assoc]; exact hR2⟩ (chL_lt (hO.inL (a := ob) (by rw [hob1]; decide)) (fun b h => by cases h; exact (hv23.2.1 b24 rfl).2.2)) hP hD hS (lv_sub hl [1, 2, 0] rfl)
        · refine lv_iconst (v := 0) hx hb d_Walk_allHold_15 (by decide) ?_
          have hst := allC_f (l := q8) (bI_f (hr8.symm.trans c12))
          have hR1 := (congrArg Prod.fst hst).symm.trans hR1
          have hR2 := (congrArg (fun z => w + z.2) hst).symm.trans hR2
          have hA3 : ASK E S (allC l9 rtn cun).2 tp sp g ν s22 g22 n22 := by rw [← hR2]; exact hA2
          refine w_same (fun hq => ?_)
          refine W.widen (k := 1) (n := 6) (Nat.le_of_ble_eq_true rfl) (Nat.le_of_ble_eq_true rfl) ?_
          refine vx_ret ?_
          exact W.zret (v := 0) hx hb hr rfl (fun t9 ht hW => ⟨⟨0, (s22, g22, n22), rfl, ⟨(by rw [← hR1]; rfl), hA3⟩, ⟨by rw [ht]; exact hP, va_K.moved hW.alike hK, hD⟩, by rw [ht]; exact hq⟩, hS.F ht⟩) hS.2.2 d_Walk_allHold_16
  · change vx_Met _ _ _ _ (va_Pc [.ref wk, .ref b21, .ref cu] _) _ _ _ _ _
    refine vx_ofW (cc := b_Walk_allHold) (maxL := 4) (ret := (some .boolean)) (by decide) rfl ?_
    intro p e s m args below meth c s₁ B hml hex hv
    obtain ⟨rfl, ⟨hsz, hP, hK, hD0⟩, hN, hZ, hC, hV⟩ := hv
    have hx := B.exec
    have hb := B.bytes
    have hr := B.returns
    have hts0 := atoms_spec (ws := k_Walk_allHold :: gtbl) B.pre
    have hts := fun w h => hts0 w (List.mem_cons_of_mem _ h)
    have hown : s.vm.findClass R_Walk = some m.cls := findClass_of_methodNamed B.named
    have hlocks := B.notSynchronized
    subst hsz
    have hD := hD0.self (sz := s.heap.size)
    generalize hAe : va_A ([(wk, .inr (10, [.ref wl, .int (nI tp), .int (nI sp), .ref rt])), (wl, .inl (cV, 10000, .inr (.inr (.inr (.inr g)))))] ++ va_pl L (pf f ν)) s.heap.size = A at hD hZ hC ⊢
    have hA : ∀ q : Nat, s.heap.size ≤ q → A q := fun q h => by rw [← hAe]; exact Or.inr h
    have hS : va_S A s.heap s.heap [] := va_S.rf
    have hP : va_P (dC, dI) classes ([(wk, .inr (10, [.ref wl, .int (nI tp), .int (nI sp), .ref rt])), (wl, .inl (cV, 10000, .inr (.inr (.inr (.inr g)))))] ++ va_pl L (pf f ν)) s.heap := hP
    have hl := lv_entry ([.ref wk, .ref b21, .ref cu]) (n := 4) (Nat.le_of_ble_eq_true rfl)
    rw [lg_entry_eq]
    generalize (lg_sl ([.ref wk, .ref b21, .ref cu]) ++ List.replicate (4 - (lg_sl ([.ref wk, .ref b21, .ref cu])).length) Slot.unset).toArray = ls at hl ⊢
    have hl : lv_has ls 4 [(0, .ref wk), (1, .ref b21), (2, .ref cu)] := hl
    have hW1 := hW9.1
    have hW2 := hW9.2.1
    have hDν := hDq9 ν NUg.rf
    obtain ⟨hcu, -⟩ := hcn.ax hDν
    refine lv_aload_n hx hb d_Walk_allHold_0 rfl (lv_at hl 1 rfl) ?_
    refine lv_astore_n (lv' := [(3, .ref b21), (0, .ref wk), (1, .ref b21), (2, .ref cu)]) hx hb d_Walk_allHold_1 rfl hl (by decide) rfl (fun ls hl => ?_)
    refine w_loop (D := (dC, dI)) (cl := classes) (A := A) (H0 := s.heap) (nL := 4) 2 (σ := Option Nat × List CT × Nat × Nat × (Nat → Option Nat) × (Nat → Int64)) (fun ⟨o, q9, w, s9, g1, ν3⟩ => oR (fun b => E b = 10 ∧ lv b ≤ n - 1) o ∧ CHD KD 2 (pf f ν3) S o q9 ∧ ASK E S w tp sp g ν s9 g1 ν3 ∧ (allC q9 rtn cun).1 = (allC l9 rtn cun).1 ∧ w + (allC q9 rtn cun).2 = (allC l9 rtn cun).2) (fun ⟨o, q9, w, s9, g1, ν3⟩ => chL L o) (fun ⟨o, q9, w, s9, g1, ν3⟩ => [(wk, .inr (10, [.ref wl, .int (nI tp), .int (nI s9), .ref rt])), (wl, .inl (cV, 10000, .inr (.inr (.inr (.inr g1)))))] ++ va_pl L (pf f ν3)) (fun ⟨o, q9, w, s9, g1, ν3⟩ => [(0, .ref wk), (2, .ref cu), (3, va_rf o)]) ?_ ((some b21), l9, 0, sp, g, ν) ⟨hfi, hCh, ASK.rf hW9, rfl, Nat.zero_add _⟩ hP hD hS (lv_sub hl [1, 3, 0] rfl)
    rintro ⟨o, q9, w, s9, g1, ν3⟩ H locs ls hI ih hP hD hS hl
    have hP : va_P (dC, dI) classes ([(wk, .inr (10, [.ref wl, .int (nI tp), .int (nI s9), .ref rt])), (wl, .inl (cV, 10000, .inr (.inr (.inr (.inr g1)))))] ++ va_pl L (pf f ν3)) H := hP
    have hD : va_D A ([(wk, .inr (10, [.ref wl, .int (nI tp), .int (nI s9), .ref rt])), (wl, .inl (cV, 10000, .inr (.inr (.inr (.inr g1)))))] ++ va_pl L (pf f ν3)) := hD
    have hl : lv_has ls 4 [(0, .ref wk), (2, .ref cu), (3, va_rf o)] := hl
    obtain ⟨hI, hCI, hA9, hR1, hR2⟩ := hI
    have hI : oR (fun b => E b = 10 ∧ lv b ≤ n - 1) o := hI
    have hCI : CHD KD 2 (pf f ν3) S o q9 := hCI
    have hA9 : ASK E S w tp sp g ν s9 g1 ν3 := hA9
    have hR1 : (allC q9 rtn cun).1 = (allC l9 rtn cun).1 := hR1
    have hR2 : w + (allC q9 rtn cun).2 = (allC l9 rtn cun).2 := hR2
    have hI3 := hA9.2.1
    have hI4 := hI3.1
    have hI5 := hI3.2.1
    rcases o with _ | ob
    · have hl : lv_has ls 4 [(0, .ref wk), (2, .ref cu), (3, .null)] := hl
      obtain rfl := hCI.no
      refine lv_aload_nN hx hb d_Walk_allHold_2 rfl (lv_at hl 2 rfl) ?_
      refine lv_ifnullN (tgt := 25) hx hb d_Walk_allHold_3 (by decide) ?_
      refine lv_iconst (v := 1) hx hb d_Walk_allHold_25 (by decide) ?_
      have hA3 : ASK E S (allC l9 rtn cun).2 tp sp g ν s9 g1 ν3 := by rw [← hR2]; exact hA9
      refine w_same (fun hq => ?_)
      refine W.widen (k := 1) (n := 6) (Nat.le_of_ble_eq_true rfl) (Nat.le_of_ble_eq_true rfl) ?_
      refine vx_ret ?_
      exact W.zret (v := 1) hx hb hr rfl (fun t9 ht hW => ⟨⟨1, (s9, g1, ν3), rfl, ⟨(by rw [← hR1]; rfl), hA3⟩, ⟨by rw [ht]; exact hP, va_K.moved hW.alike hK, hD⟩, by rw [ht]; exact hq⟩, hS.F ht⟩) hS.2.2 d_Walk_allHold_26
    · have hl : lv_has ls 4 [(0, .ref wk), (2, .ref cu), (3, .ref ob)] := hl
      obtain ⟨hob1, hob2⟩ := hI ob rfl
      obtain ⟨m8, q8, rfl, hS3, hKD, hCn⟩ := hCI.so
      refine lv_aload_n hx hb d_Walk_allHold_2 rfl (lv_at hl 2 rfl) ?_
      refine lv_ifnull hx hb d_Walk_allHold_3 ?_
      refine lv_aload_n hx hb d_Walk_allHold_6 rfl (lv_at hl 0 rfl) ?_
      refine lv_aload_n hx hb d_Walk_allHold_7 rfl (lv_at hl 2 rfl) ?_
      refine lv_aload_n hx hb d_Walk_allHold_8 rfl (lv_at hl 1 rfl) ?_
      have hPc := hP.part (cx := [(wk, .inr (10, [.ref wl, .int (nI tp), .int (nI s9), .ref rt])), (wl, .inl (cV, 10000, .inr (.inr (.inr (.inr g1)))))]) [0, 1] rfl
      have hDc := hD.part (cx := [(wk, .inr (10, [.ref wl, .int (nI tp), .int (nI s9), .ref rt])), (wl, .inl (cV, 10000, .inr (.inr (.inr (.inr g1)))))]) [0, 1] (by decide) rfl
      have hFc := va_freeP (cx := [(wk, .inr (10, [.ref wl, .int (nI tp), .int (nI s9), .ref rt])), (wl, .inl (cV, 10000, .inr (.inr (.inr (.inr g1)))))]) hD hS hA [0, 1] rfl
      have hKc := hK.sub (tys' := [(cI, .int), (cV, .object "QueryBench$Value")]) [0, 1] rfl
      refine w_same (fun hq0 => ?_)
      refine vx_calli (vx_runV (As := [.ref ob, .ref cu]) (rest := []) ⟨hx, hb, hml, hown, hts⟩ (HI H S tp s9 g1 ν3 hI3 (fun ν2 h2 => hDq9 ν2 (hA9.2.2.2.tr h2)) ob cu m8 cun hob1 hob2 hKD hcn) (cwV 2 hts (gt_V (own := R_Walk) (C := R_Walk) (i := 152) (y := y_Walk_holds) i_Walk_holds z_895 z_897 (gt_sel (y := y_Walk_holds) (n := 4) (by decide +kernel)) w_5) rfl rfl rfl (by decide +kernel) ⟨by show 60 + 5 * (n - 1) + 1 ≤ 59 + 5 * n; omega, by show 8 + (3 + 11) + (2500 + 200 * (n - 1)) ≤ 2460 + 200 * n; omega⟩) ⟨ml_blind, va_recv hK hP (ci := 10) (q0 := 0) rfl rfl, fun U hU hW => ⟨rfl, ⟨hU, by rw [hU]; exact hPc, va_K.moved hW.alike hKc, hDc.weaken (fun _ _ _ _ => trivial)⟩, hN.warm hW, by rw [hU]; exact ZX.moved' hW.alike (ZX.narrow' (ZX.kept' hZ hS.2.1) hFc), by rw [hU]; exact CE.call hC hS.2.1 hFc hW, va_AO.moved hW.alike hV⟩⟩ rfl rfl hl.1 rfl (lv_room (Nat.le_of_ble_eq_true rfl)) d_Walk_allHold_9 ⟨Nat.le_of_ble_eq_true rfl, Nat.le_of_ble_eq_true rfl⟩) hS (fun q _ h => hFc q h) hFc (fun q _ h => hFc q h) (fun En ce q9 ⟨tx, sx, gx, nx⟩ t9 H1 locs ht hvm hw hB hz1 hk1 hS hce hcv hcl => ?_) (fun r25 ⟨s25, g25, n25⟩ t9 H1 locs ht hvm hw hB hz1 hk1 hS => ?_)
      · obtain ⟨hEn, hP1, hK1, hD1⟩ := hB
        rw [ht] at hP1
        obtain ⟨hP, hD⟩ := va_joinP (wr := []) (rx := [(wk, .inr (10, [.ref wl, .int tx, .int sx, .ref rt])), (wl, .inl (cV, 10000, .inr (.inr (.inr (.inr gx)))))]) (pl1 := va_pl L (pf f nx)) hP hD [0, 1] [] rfl rfl (by decide) (by decide) hk1 hFc hP1 hD1
        generalize H1 = H at hP hS hce ⊢
        have hP : va_P (dC, dI) classes ([(wk, .inr (10, [.ref wl, .int tx, .int sx, .ref rt])), (wl, .inl (cV, 10000, .inr (.inr (.inr (.inr gx)))))] ++ va_pl L (pf f nx)) H := hP
        have hD : va_D A ([(wk, .inr (10, [.ref wl, .int tx, .int sx, .ref rt])), (wl, .inl (cV, 10000, .inr (.inr (.inr (.inr gx)))))] ++ va_pl L (pf f nx)) := hD
        have hno : 10000 < sp + (allC l9 rtn cun).2 := by have hw : 10000 < s9 + (m8 rtn cun).2 := hw.1; have := hA9.1; have h9 := allC_ge (l := q8) (g := m8) (rt := rtn) (nd := cun); omega
        exact vx_out (fun x hx => (hex x hx).elim) hlocks hce hcv hcl (fun t9 ht2 ha => ⟨(tx, sx, gx, nx), ⟨hno, hA9.2.2.2.tr hw.2⟩, ⟨hEn, by rw [ht2]; exact hP, va_K.moved ha hK, hD⟩, hS.F ht2⟩) hS.2.2 (Nat.le_of_ble_eq_true rfl) (Nat.le_of_ble_eq_true rfl)
      · obtain ⟨⟨hP1, hK1, hD1⟩, hz9⟩ := hB
        rw [ht] at hP1
        rw [ht] at hz9
        refine w_tight (hq0.trans hz9) ?_
        have hq0 := hq0.trans hz9
        obtain ⟨hP, hD⟩ := va_joinP (wr := []) (rx := [(wk, .inr (10, [.ref wl, .int (nI tp), .int (nI s25), .ref rt])), (wl, .inl (cV, 10000, .inr (.inr (.inr (.inr g25)))))]) (pl1 := va_pl L (pf f n25)) hP hD [0, 1] [] rfl rfl (by decide) (by decide) hk1 hFc hP1 hD1
        generalize H1 = H at hP hS hq0 ⊢
        have hP : va_P (dC, dI) classes ([(wk, .inr (10, [.ref wl, .int (nI tp), .int (nI s25), .ref rt])), (wl, .inl (cV, 10000, .inr (.inr (.inr (.inr g25)))))] ++ va_pl L (pf f n25)) H := hP
        have hD : va_D A ([(wk, .inr (10, [.ref wl, .int (nI tp), .int (nI s25), .ref rt])), (wl, .inl (cV, 10000, .inr (.inr (.inr (.inr g25)))))] ++ va_pl L (pf f n25)) := hD
        obtain ⟨hr25, hA25⟩ := hw
        have hA25 : ASK E S (m8 rtn cun).2 tp s9 g1 ν3 s25 g25 n25 := hA25
        have hr8 : r25 = bI (m8 rtn cun).1 := hr25
        have hA2 := hA9.tr hA25
        refine lv_if_ne (tgt := 17) hx hb d_Walk_allHold_12 (by decide) (fun c12 => ?_) (fun c12 => ?_)
        · refine lv_aload_n hx hb d_Walk_allHold_17 rfl (lv_at hl 2 rfl) ?_
          obtain ⟨kd26, fi26, nx26, qu26, le26, ri26, ef26, hv26⟩ := hO.con hob1
          rcases nx26 with _ | b27
          · refine vq_get (D := (dC, dI)) (ci := 0) (v := .null) (C := R_Condition) (T := F_Condition) (N := 6) hx hb hts in_Condition hown hK hP (hO.inL (a := ob) (by rw [hob1]; decide)) (pf_K ef26) rfl 2 (by decide) (hts _ z_681) (fun _ h9 => h9) rfl d_Walk_allHold_18 ?_
            refine lv_astore_nN (lv' := [(3, .null), (0, .ref wk), (2, .ref cu)]) hx hb d_Walk_allHold_21 rfl hl (by decide) rfl (fun ls hl => ?_)
            refine lv_goto (tgt := 2) hx hb d_Walk_allHold_22 (by decide) ?_
            have hgo := allC_t (l := q8) (bI_t (fun q => c12 (hr8.trans q)))
            have hR1 := (congrArg Prod.fst hgo).symm.trans hR1
            have hR2 := (congrArg (fun z => w + z.2) hgo).symm.trans hR2
            have hCn1 : CHD KD 2 (pf f ν3) S none q8 := by rw [← show refE 2 (pf f ν3 ob) = none by rw [pf_K ef26]; rfl]; exact hCn
            have hCn2 : CHD KD 2 (pf f n25) S none q8 := CHK.nu hCn1 hA25.2.2.2
            exact ih (none, q8, w + (m8 rtn cun).2, s25, g25, n25) _ _ _ ⟨(fun b h => nomatch h), hCn2, hA2, hR1, by show w + (m8 rtn cun).2 + _ = _; rw [Nat.add_assoc]; exact hR2⟩ (chL_lt (hO.inL (a := ob) (by rw [hob1]; decide)) (fun b h => nomatch h)) hP hD hS (lv_sub hl [1, 2, 0] rfl)
          · refine vq_get (D := (dC, dI)) (ci := 0) (v := .ref b27) (C := R_Condition) (T := F_Condition) (N := 6) hx hb hts in_Condition hown hK hP (hO.inL (a := ob) (by rw [hob1]; decide)) (pf_K ef26) rfl 2 (by decide) (hts _ z_681) (fun _ h9 => h9) rfl d_Walk_allHold_18 ?_
            refine lv_astore_n (lv' := [(3, .ref b27), (0, .ref wk), (2, .ref cu)]) hx hb d_Walk_allHold_21 rfl hl (by decide) rfl (fun ls hl => ?_)
            refine lv_goto (tgt := 2) hx hb d_Walk_allHold_22 (by decide) ?_
            have hgo := allC_t (l := q8) (bI_t (fun q => c12 (hr8.trans q)))
            have hR1 := (congrArg Prod.fst hgo).symm.trans hR1
            have hR2 := (congrArg (fun z => w + z.2) hgo).symm.trans hR2
            have hCn1 : CHD KD 2 (pf f ν3) S (some b27) q8 := by rw [← show refE 2 (pf f ν3 ob) = (some b27) by rw [pf_K ef26]; rfl]; exact hCn
            have hCn2 : CHD KD 2 (pf f n25) S (some b27) q8 := CHK.nu hCn1 hA25.2.2.2
            exact ih ((some b27), q8, w + (m8 rtn cun).2, s25, g25, n25) _ _ _ ⟨(fun b h => by cases h; exact ⟨(hv26.2.1 b27 rfl).1, Nat.le_trans (hv26.2.1 b27 rfl).2.1 hob2⟩), hCn2, hA2, hR1, by show w + (m8 rtn cun).2 + _ = _; rw [Nat.add_assoc]; exact hR2⟩ (chL_lt (hO.inL (a := ob) (by rw [hob1]; decide)) (fun b h => by cases h; exact (hv26.2.1 b27 rfl).2.2)) hP hD hS (lv_sub hl [1, 2, 0] rfl)
        · refine lv_iconst (v := 0) hx hb d_Walk_allHold_15 (by decide) ?_
          have hst := allC_f (l := q8) (bI_f (hr8.symm.trans c12))
          have hR1 := (congrArg Prod.fst hst).symm.trans hR1
          have hR2 := (congrArg (fun z => w + z.2) hst).symm.trans hR2
          have hA3 : ASK E S (allC l9 rtn cun).2 tp sp g ν s25 g25 n25 := by rw [← hR2]; exact hA2
          refine w_same (fun hq => ?_)
          refine W.widen (k := 1) (n := 6) (Nat.le_of_ble_eq_true rfl) (Nat.le_of_ble_eq_true rfl) ?_
          refine vx_ret ?_
          exact W.zret (v := 0) hx hb hr rfl (fun t9 ht hW => ⟨⟨0, (s25, g25, n25), rfl, ⟨(by rw [← hR1]; rfl), hA3⟩, ⟨by rw [ht]; exact hP, va_K.moved hW.alike hK, hD⟩, by rw [ht]; exact hq⟩, hS.F ht⟩) hS.2.2 d_Walk_allHold_16
set_option maxHeartbeats 4000000 in
set_option maxRecDepth 100000 in
/-- Walk.allHold, of nothing -/
theorem p_Walk_allHold0 (l : Launch) (hl9 : l.stackTraces = false) (K : Nat → Nat × Nat) (dC : Nat → ClassId) (dI : Nat → Nat → Nat) (sz : Heap) (cI cV : ClassId) (E lv : Nat → Nat) (L : List Nat) (f : Nat → va_E) (hO : PO cI cV E lv L f) (hN1 : ∀ a, E a ≠ 1) (PL : List NT) (AL : List Nat) (S : Nat → Nat) (wk wl rt : Nat) (hrt : isF E rt) (rtn : NT) (hrn : NCr PL AL rt rtn) (tp sp : Nat) (g : Nat → Option Nat) (ν : Nat → Int64) (hW9 : WI E tp sp g) (hDq9 : ∀ ν2, NUg S ν ν2 → DOC E (pf f ν2) PL AL) (cu : Nat) (cun : NT) (hcn : NCr PL AL cu cun) (n : Nat) : vx_Met l y_Walk_allHold (k_Walk_allHold :: gtbl) ({ frames := 59 + 5 * n, cells := 1, slots := 6, locals := 2460 + 200 * n }) (va_Pc [.ref wk, .null, .ref cu] (ml K dC dI ([(wk, .inr (10, [.ref wl, .int (nI tp), .int (nI sp), .ref rt])), (wl, .inl (cV, 10000, .inr (.inr (.inr (.inr g)))))] ++ va_pl L (pf f ν)) [(cI, .int), (cV, .object "QueryBench$Value")] sz)) (va_Qi (fun (r : Int32) (u : Nat × (Nat → Option Nat) × (Nat → Int64)) => r = bI (allC [] rtn cun).1 ∧ ASK E S 0 tp sp g ν u.1 u.2.1 u.2.2) (fun u t9 => mz dC dI ([(wk, .inr (10, [.ref wl, .int (nI tp), .int (nI u.1), .ref rt])), (wl, .inl (cV, 10000, .inr (.inr (.inr (.inr u.2.1)))))] ++ va_pl L (pf f u.2.2)) [(cI, .int), (cV, .object "QueryBench$Value")] (va_A ([(wk, .inr (10, [.ref wl, .int (nI tp), .int (nI sp), .ref rt])), (wl, .inl (cV, 10000, .inr (.inr (.inr (.inr g)))))] ++ va_pl L (pf f ν)) sz.size) t9 ∧ szk sz t9.heap (0) (0)) (va_A ([(wk, .inr (10, [.ref wl, .int (nI tp), .int (nI sp), .ref rt])), (wl, .inl (cV, 10000, .inr (.inr (.inr (.inr g)))))] ++ va_pl L (pf f ν)) sz.size)) (vx_X (fun (u : Int32 × Int32 × (Nat → Option Nat) × (Nat → Int64)) => 10000 < sp + 0 ∧ NUg S ν u.2.2.2) (fun En u t9 => En = IOB ∧ mz dC dI ([(wk, .inr (10, [.ref wl, .int u.1, .int u.2.1, .ref rt])), (wl, .inl (cV, 10000, .inr (.inr (.inr (.inr u.2.2.1)))))] ++ va_pl L (pf f u.2.2.2)) [(cI, .int), (cV, .object "QueryBench$Value")] (va_A ([(wk, .inr (10, [.ref wl, .int (nI tp), .int (nI sp), .ref rt])), (wl, .inl (cV, 10000, .inr (.inr (.inr (.inr g)))))] ++ va_pl L (pf f ν)) sz.size) t9) (va_A ([(wk, .inr (10, [.ref wl, .int (nI tp), .int (nI sp), .ref rt])), (wl, .inl (cV, 10000, .inr (.inr (.inr (.inr g)))))] ++ va_pl L (pf f ν)) sz.size)) (1) (6) (va_A ([(wk, .inr (10, [.ref wl, .int (nI tp), .int (nI sp), .ref rt])), (wl, .inl (cV, 10000, .inr (.inr (.inr (.inr g)))))] ++ va_pl L (pf f ν)) sz.size) := by
  refine vx_ofW (cc := b_Walk_allHold) (maxL := 4) (ret := (some .boolean)) (by decide) rfl ?_
  intro p e s m args below meth c s₁ B hml hex hv
  obtain ⟨rfl, ⟨hsz, hP, hK, hD0⟩, hN, hZ, hC, hV⟩ := hv
  have hx := B.exec
  have hb := B.bytes
  have hr := B.returns
  have hts0 := atoms_spec (ws := k_Walk_allHold :: gtbl) B.pre
  have hts := fun w h => hts0 w (List.mem_cons_of_mem _ h)
  have hown : s.vm.findClass R_Walk = some m.cls := findClass_of_methodNamed B.named
  have hlocks := B.notSynchronized
  subst hsz
  have hD := hD0.self (sz := s.heap.size)
  generalize hAe : va_A ([(wk, .inr (10, [.ref wl, .int (nI tp), .int (nI sp), .ref rt])), (wl, .inl (cV, 10000, .inr (.inr (.inr (.inr g)))))] ++ va_pl L (pf f ν)) s.heap.size = A at hD hZ hC ⊢
  have hA : ∀ q : Nat, s.heap.size ≤ q → A q := fun q h => by rw [← hAe]; exact Or.inr h
  have hS : va_S A s.heap s.heap [] := va_S.rf
  have hP : va_P (dC, dI) classes ([(wk, .inr (10, [.ref wl, .int (nI tp), .int (nI sp), .ref rt])), (wl, .inl (cV, 10000, .inr (.inr (.inr (.inr g)))))] ++ va_pl L (pf f ν)) s.heap := hP
  have hl := lv_entry ([.ref wk, .null, .ref cu]) (n := 4) (Nat.le_of_ble_eq_true rfl)
  rw [lg_entry_eq]
  generalize (lg_sl ([.ref wk, .null, .ref cu]) ++ List.replicate (4 - (lg_sl ([.ref wk, .null, .ref cu])).length) Slot.unset).toArray = ls at hl ⊢
  have hl : lv_has ls 4 [(0, .ref wk), (1, .null), (2, .ref cu)] := hl
  have hW0 := hW9
  have hW1 := hW9.1
  have hW2 := hW9.2.1
  have hDν := hDq9 ν NUg.rf
  obtain ⟨hcu, -⟩ := hcn.ax hDν
  refine lv_aload_nN hx hb d_Walk_allHold_0 rfl (lv_at hl 1 rfl) ?_
  refine lv_astore_nN (lv' := [(3, .null), (0, .ref wk), (1, .null), (2, .ref cu)]) hx hb d_Walk_allHold_1 rfl hl (by decide) rfl (fun ls hl => ?_)
  refine lv_aload_nN hx hb d_Walk_allHold_2 rfl (lv_at hl 0 rfl) ?_
  refine lv_ifnullN (tgt := 25) hx hb d_Walk_allHold_3 (by decide) ?_
  refine lv_iconst (v := 1) hx hb d_Walk_allHold_25 (by decide) ?_
  refine w_same (fun hq => ?_)
  refine W.widen (k := 1) (n := 6) (Nat.le_of_ble_eq_true rfl) (Nat.le_of_ble_eq_true rfl) ?_
  refine vx_ret ?_
  exact W.zret (v := 1) hx hb hr rfl (fun t9 ht hW => ⟨⟨1, (sp, g, ν), rfl, ⟨rfl, (ASK.rf hW9)⟩, ⟨by rw [ht]; exact hP, va_K.moved hW.alike hK, hD⟩, by rw [ht]; exact hq⟩, hS.F ht⟩) hS.2.2 d_Walk_allHold_26
set_option maxHeartbeats 4000000 in
set_option maxRecDepth 100000 in
/-- Walk.nodeCount: what it says -/
theorem p_Walk_nodeCount (l : Launch) (hl9 : l.stackTraces = false) (K : Nat → Nat × Nat) (dC : Nat → ClassId) (dI : Nat → Nat → Nat) (sz : Heap) (cI cV : ClassId) (E lv : Nat → Nat) (L : List Nat) (f : Nat → va_E) (hO : PO cI cV E lv L f) (hN1 : ∀ a, E a ≠ 1) (PL : List NT) (AL : List Nat) (S : Nat → Nat) (wk wl rt : Nat) (hrt : isF E rt) (rtn : NT) (hrn : NCr PL AL rt rtn) (tp sp : Nat) (g : Nat → Option Nat) (ν : Nat → Int64) (hW9 : WI E tp sp g) (hDq9 : ∀ ν2, NUg S ν ν2 → DOC E (pf f ν2) PL AL) (cu : Nat) (cun : NT) (hcn : NCr PL AL cu cun) (n : Nat) (hn : 0 < n) (HI : NDF l K dC dI cI cV E lv L f PL AL wk wl rt rtn (n - 1)) (qu : Nat) (hqu : E qu = 7) (hlq : lv qu ≤ n - 1) (m9 : QT) (hQ : QD (pf f ν) S qu m9) : vx_Met l y_Walk_nodeCount (k_Walk_nodeCount :: gtbl) ({ frames := 59 + 5 * n, cells := 1, slots := 6, locals := 2460 + 200 * n }) (va_Pc [.ref wk, .ref qu, .ref cu] (ml K dC dI ([(wk, .inr (10, [.ref wl, .int (nI tp), .int (nI sp), .ref rt])), (wl, .inl (cV, 10000, .inr (.inr (.inr (.inr g)))))] ++ va_pl L (pf f ν)) [(cI, .int), (cV, .object "QueryBench$Value")] sz)) (va_Qi (fun (r : Int32) (u : Nat × (Nat → Option Nat) × (Nat → Int64)) => (r = nI (m9 rtn cun).1.length ∧ (m9 rtn cun).1.length ≤ 10000) ∧ ASK E S (m9 rtn cun).2 tp sp g ν u.1 u.2.1 u.2.2) (fun u t9 => mz dC dI ([(wk, .inr (10, [.ref wl, .int (nI tp), .int (nI u.1), .ref rt])), (wl, .inl (cV, 10000, .inr (.inr (.inr (.inr u.2.1)))))] ++ va_pl L (pf f u.2.2)) [(cI, .int), (cV, .object "QueryBench$Value")] (va_A ([(wk, .inr (10, [.ref wl, .int (nI tp), .int (nI sp), .ref rt])), (wl, .inl (cV, 10000, .inr (.inr (.inr (.inr g)))))] ++ va_pl L (pf f ν)) sz.size) t9 ∧ szk sz t9.heap (0) (0)) (va_A ([(wk, .inr (10, [.ref wl, .int (nI tp), .int (nI sp), .ref rt])), (wl, .inl (cV, 10000, .inr (.inr (.inr (.inr g)))))] ++ va_pl L (pf f ν)) sz.size)) (vx_X (fun (u : Int32 × Int32 × (Nat → Option Nat) × (Nat → Int64)) => 10000 < sp + (m9 rtn cun).2 ∧ NUg S ν u.2.2.2) (fun En u t9 => En = IOB ∧ mz dC dI ([(wk, .inr (10, [.ref wl, .int u.1, .int u.2.1, .ref rt])), (wl, .inl (cV, 10000, .inr (.inr (.inr (.inr u.2.2.1)))))] ++ va_pl L (pf f u.2.2.2)) [(cI, .int), (cV, .object "QueryBench$Value")] (va_A ([(wk, .inr (10, [.ref wl, .int (nI tp), .int (nI sp), .ref rt])), (wl, .inl (cV, 10000, .inr (.inr (.inr (.inr g)))))] ++ va_pl L (pf f ν)) sz.size) t9) (va_A ([(wk, .inr (10, [.ref wl, .int (nI tp), .int (nI sp), .ref rt])), (wl, .inl (cV, 10000, .inr (.inr (.inr (.inr g)))))] ++ va_pl L (pf f ν)) sz.size)) (1) (6) (va_A ([(wk, .inr (10, [.ref wl, .int (nI tp), .int (nI sp), .ref rt])), (wl, .inl (cV, 10000, .inr (.inr (.inr (.inr g)))))] ++ va_pl L (pf f ν)) sz.size) := by
  refine vx_ofW (cc := b_Walk_nodeCount) (maxL := 6) (ret := (some .int)) (by decide) rfl ?_
  intro p e s m args below meth c s₁ B hml hex hv
  obtain ⟨rfl, ⟨hsz, hP, hK, hD0⟩, hN, hZ, hC, hV⟩ := hv
  have hx := B.exec
  have hb := B.bytes
  have hr := B.returns
  have hts0 := atoms_spec (ws := k_Walk_nodeCount :: gtbl) B.pre
  have hts := fun w h => hts0 w (List.mem_cons_of_mem _ h)
  have hown : s.vm.findClass R_Walk = some m.cls := findClass_of_methodNamed B.named
  have hlocks := B.notSynchronized
  subst hsz
  have hD := hD0.self (sz := s.heap.size)
  generalize hAe : va_A ([(wk, .inr (10, [.ref wl, .int (nI tp), .int (nI sp), .ref rt])), (wl, .inl (cV, 10000, .inr (.inr (.inr (.inr g)))))] ++ va_pl L (pf f ν)) s.heap.size = A at hD hZ hC ⊢
  have hA : ∀ q : Nat, s.heap.size ≤ q → A q := fun q h => by rw [← hAe]; exact Or.inr h
  have hS : va_S A s.heap s.heap [] := va_S.rf
  have hP : va_P (dC, dI) classes ([(wk, .inr (10, [.ref wl, .int (nI tp), .int (nI sp), .ref rt])), (wl, .inl (cV, 10000, .inr (.inr (.inr (.inr g)))))] ++ va_pl L (pf f ν)) s.heap := hP
  have hl := lv_entry ([.ref wk, .ref qu, .ref cu]) (n := 6) (Nat.le_of_ble_eq_true rfl)
  rw [lg_entry_eq]
  generalize (lg_sl ([.ref wk, .ref qu, .ref cu]) ++ List.replicate (6 - (lg_sl ([.ref wk, .ref qu, .ref cu])).length) Slot.unset).toArray = ls at hl ⊢
  have hl : lv_has ls 6 [(0, .ref wk), (1, .ref qu), (2, .ref cu)] := hl
  have hW0 := hW9
  have hW1 := hW9.1
  have hW2 := hW9.2.1
  have hDν := hDq9 ν NUg.rf
  obtain ⟨hcu, -⟩ := hcn.ax hDν
  refine lv_aload_n hx hb d_Walk_nodeCount_0 rfl (lv_at hl 0 rfl) ?_
  refine va_get (D := (dC, dI)) (ci := 10) (v := .int (nI tp)) (C := R_Walk) (T := F_Walk) (N := 4) hx hb hts in_Walk hown hK hP 0 rfl rfl 1 (by decide) (hts _ z_117) (fun _ h9 => h9) rfl d_Walk_nodeCount_1 ?_
  refine lv_istore_n (lv' := [(3, .int (nI tp)), (0, .ref wk), (1, .ref qu), (2, .ref cu)]) hx hb d_Walk_nodeCount_4 rfl hl (by decide) rfl (fun ls hl => ?_)
  refine lv_aload_n hx hb d_Walk_nodeCount_5 rfl (lv_at hl 1 rfl) ?_
  refine lv_aload_n hx hb d_Walk_nodeCount_6 rfl (lv_at hl 2 rfl) ?_
  refine lv_aload_n hx hb d_Walk_nodeCount_7 rfl (lv_at hl 3 rfl) ?_
  have hPc := hP.part (cx := [(wk, .inr (10, [.ref wl, .int (nI tp), .int (nI sp), .ref rt])), (wl, .inl (cV, 10000, .inr (.inr (.inr (.inr g)))))]) [0, 1] rfl
  have hDc := hD.part (cx := [(wk, .inr (10, [.ref wl, .int (nI tp), .int (nI sp), .ref rt])), (wl, .inl (cV, 10000, .inr (.inr (.inr (.inr g)))))]) [0, 1] (by decide) rfl
  have hFc := va_freeP (cx := [(wk, .inr (10, [.ref wl, .int (nI tp), .int (nI sp), .ref rt])), (wl, .inl (cV, 10000, .inr (.inr (.inr (.inr g)))))]) hD hS hA [0, 1] rfl
  have hKc := hK.sub (tys' := [(cI, .int), (cV, .object "QueryBench$Value")]) [0, 1] rfl
  refine w_same (fun hq0 => ?_)
  refine vx_calli (vx_runV (As := [.ref qu, .ref cu]) (rest := []) ⟨hx, hb, hml, hown, hts⟩ (HI s.heap S tp sp g ν hW9 hDq9 qu cu m9 cun hqu hlq hQ hcn) (cwV 2 hts (gt_V (own := R_Walk) (C := R_Walk) (i := 28) (y := y_Walk_nodes) i_Walk_nodes z_835 z_837 (gt_sel (y := y_Walk_nodes) (n := 4) (by decide +kernel)) w_5) rfl rfl rfl (by decide +kernel) ⟨by show 60 + 5 * (n - 1) + 1 ≤ 59 + 5 * n; omega, by show 8 + (7 + 11) + (2500 + 200 * (n - 1)) ≤ 2460 + 200 * n; omega⟩) ⟨ml_blind, va_recv hK hP (ci := 10) (q0 := 0) rfl rfl, fun U hU hW => ⟨rfl, ⟨hU, by rw [hU]; exact hPc, va_K.moved hW.alike hKc, hDc.weaken (fun _ _ _ _ => trivial)⟩, hN.warm hW, by rw [hU]; exact ZX.moved' hW.alike (ZX.narrow' (ZX.kept' hZ hS.2.1) hFc), by rw [hU]; exact CE.call hC hS.2.1 hFc hW, va_AO.moved hW.alike hV⟩⟩ rfl rfl hl.1 rfl (lv_room (Nat.le_of_ble_eq_true rfl)) d_Walk_nodeCount_8 ⟨Nat.le_of_ble_eq_true rfl, Nat.le_of_ble_eq_true rfl⟩) hS (fun q _ h => hFc q h) hFc (fun q _ h => hFc q h) (fun En ce q9 ⟨tx, sx, gx, nx⟩ t9 H1 locs ht hvm hw hB hz1 hk1 hS hce hcv hcl => ?_) (fun r21 ⟨t21, s21, g21, n21⟩ t9 H1 locs ht hvm hw hB hz1 hk1 hS => ?_)
  · obtain ⟨hEn, hP1, hK1, hD1⟩ := hB
    rw [ht] at hP1
    obtain ⟨hP, hD⟩ := va_joinP (wr := []) (rx := [(wk, .inr (10, [.ref wl, .int tx, .int sx, .ref rt])), (wl, .inl (cV, 10000, .inr (.inr (.inr (.inr gx)))))]) (pl1 := va_pl L (pf f nx)) hP hD [0, 1] [] rfl rfl (by decide) (by decide) hk1 hFc hP1 hD1
    generalize H1 = H at hP hS hce ⊢
    have hP : va_P (dC, dI) classes ([(wk, .inr (10, [.ref wl, .int tx, .int sx, .ref rt])), (wl, .inl (cV, 10000, .inr (.inr (.inr (.inr gx)))))] ++ va_pl L (pf f nx)) H := hP
    have hD : va_D A ([(wk, .inr (10, [.ref wl, .int tx, .int sx, .ref rt])), (wl, .inl (cV, 10000, .inr (.inr (.inr (.inr gx)))))] ++ va_pl L (pf f nx)) := hD
    exact vx_out (fun x hx => (hex x hx).elim) hlocks hce hcv hcl (fun t9 ht2 ha => ⟨(tx, sx, gx, nx), hw, ⟨hEn, by rw [ht2]; exact hP, va_K.moved ha hK, hD⟩, hS.F ht2⟩) hS.2.2 (Nat.le_of_ble_eq_true rfl) (Nat.le_of_ble_eq_true rfl)
  · obtain ⟨⟨hP1, hK1, hD1⟩, hz9⟩ := hB
    rw [ht] at hP1
    rw [ht] at hz9
    refine w_tight (hq0.trans hz9) ?_
    have hq0 := hq0.trans hz9
    obtain ⟨hP, hD⟩ := va_joinP (wr := []) (rx := [(wk, .inr (10, [.ref wl, .int (nI t21), .int (nI s21), .ref rt])), (wl, .inl (cV, 10000, .inr (.inr (.inr (.inr g21)))))]) (pl1 := va_pl L (pf f n21)) hP hD [0, 1] [] rfl rfl (by decide) (by decide) hk1 hFc hP1 hD1
    generalize H1 = H at hP hS hq0 ⊢
    have hP : va_P (dC, dI) classes ([(wk, .inr (10, [.ref wl, .int (nI t21), .int (nI s21), .ref rt])), (wl, .inl (cV, 10000, .inr (.inr (.inr (.inr g21)))))] ++ va_pl L (pf f n21)) H := hP
    have hD : va_D A ([(wk, .inr (10, [.ref wl, .int (nI t21), .int (nI s21), .ref rt])), (wl, .inl (cV, 10000, .inr (.inr (.inr (.inr g21)))))] ++ va_pl L (pf f n21)) := hD
    obtain ⟨fr, hfr1, k1, k2, k3, k4, k5, k6, k7⟩ := hw
    have k1 : tp ≤ fr := k1
    have k2 : t21 = fr + (m9 rtn cun).1.length := k2
    have k3 : s21 = sp + (m9 rtn cun).2 := k3
    have k4 : WI E t21 s21 g21 := k4
    have k8 := k4.1
    have k9 := k4.2.1
    subst hfr1
    have hA3 : ASK E S (m9 rtn cun).2 tp sp g ν s21 g21 n21 := ⟨k3, WI.cut k4 (show tp ≤ t21 by omega), k5, k7⟩
    refine lv_istore (lv' := [(4, .int (nI fr)), (3, .int (nI tp)), (0, .ref wk), (1, .ref qu), (2, .ref cu)]) hx hb d_Walk_nodeCount_11 hl (by decide) rfl (fun ls hl => ?_)
    refine lv_aload_n hx hb d_Walk_nodeCount_13 rfl (lv_at hl 2 rfl) ?_
    refine va_get (D := (dC, dI)) (ci := 10) (v := .int (nI t21)) (C := R_Walk) (T := F_Walk) (N := 4) hx hb hts in_Walk hown hK hP 0 rfl rfl 1 (by decide) (hts _ z_117) (fun _ h9 => h9) rfl d_Walk_nodeCount_14 ?_
    refine lv_iload hx hb d_Walk_nodeCount_17 (lv_at hl 0 rfl) ?_
    refine lv_isub hx hb d_Walk_nodeCount_19 ?_
    refine lv_istore (lv' := [(5, .int ((nI t21) - (nI fr))), (4, .int (nI fr)), (3, .int (nI tp)), (0, .ref wk), (1, .ref qu), (2, .ref cu)]) hx hb d_Walk_nodeCount_20 hl (by decide) rfl (fun ls hl => ?_)
    refine lv_aload_n hx hb d_Walk_nodeCount_22 rfl (lv_at hl 3 rfl) ?_
    refine lv_iload_n hx hb d_Walk_nodeCount_23 rfl (lv_at hl 2 rfl) ?_
    refine va_put (D := (dC, dI)) (ci := 10) (v := .int (nI tp)) (ty := .int) (C := R_Walk) (T := F_Walk) (N := 4) hx hb hts in_Walk t_Walk t_Walk_ok n_Walk hown hK hP hD hS 0 rfl rfl 1 (by decide) (hts _ z_117) (fun _ h9 => h9) rfl (by decide +kernel) rfl rfl (Nat.le_of_ble_eq_true rfl) d_Walk_nodeCount_24 (fun H locs hP hD hS => ?_)
    have hP : va_P (dC, dI) classes ([(wk, .inr (10, [.ref wl, .int (nI tp), .int (nI s21), .ref rt])), (wl, .inl (cV, 10000, .inr (.inr (.inr (.inr g21)))))] ++ va_pl L (pf f n21)) H := hP
    have hD : va_D A ([(wk, .inr (10, [.ref wl, .int (nI tp), .int (nI s21), .ref rt])), (wl, .inl (cV, 10000, .inr (.inr (.inr (.inr g21)))))] ++ va_pl L (pf f n21)) := hD
    refine lv_iload hx hb d_Walk_nodeCount_27 (lv_at hl 0 rfl) ?_
    refine w_same (fun hq => ?_)
    refine W.widen (k := 1) (n := 6) (Nat.le_of_ble_eq_true rfl) (Nat.le_of_ble_eq_true rfl) ?_
    refine vx_ret ?_
    exact W.iret (v := ((nI t21) - (nI fr))) hx hb hr (fun t9 ht hW => ⟨⟨((nI t21) - (nI fr)), (s21, g21, n21), rfl, ⟨⟨by show ((nI t21) - (nI fr)) = nI (m9 rtn cun).1.length; rw [nI_subN (by omega) (by omega)]; congr 1; omega, by omega⟩, hA3⟩, ⟨by rw [ht]; exact hP, va_K.moved hW.alike hK, hD⟩, by rw [ht]; exact hq⟩, hS.F ht⟩) hS.2.2 d_Walk_nodeCount_29
set_option maxHeartbeats 4000000 in
set_option maxRecDepth 100000 in
/-- Walk.onlyNode: what it says -/
theorem p_Walk_onlyNode (l : Launch) (hl9 : l.stackTraces = false) (K : Nat → Nat × Nat) (dC : Nat → ClassId) (dI : Nat → Nat → Nat) (sz : Heap) (cI cV : ClassId) (E lv : Nat → Nat) (L : List Nat) (f : Nat → va_E) (hO : PO cI cV E lv L f) (hN1 : ∀ a, E a ≠ 1) (PL : List NT) (AL : List Nat) (S : Nat → Nat) (wk wl rt : Nat) (hrt : isF E rt) (rtn : NT) (hrn : NCr PL AL rt rtn) (tp sp : Nat) (g : Nat → Option Nat) (ν : Nat → Int64) (hW9 : WI E tp sp g) (hDq9 : ∀ ν2, NUg S ν ν2 → DOC E (pf f ν2) PL AL) (cu : Nat) (cun : NT) (hcn : NCr PL AL cu cun) (n : Nat) (hn : 0 < n) (HI : NDF l K dC dI cI cV E lv L f PL AL wk wl rt rtn (n - 1)) (qu : Nat) (hqu : E qu = 7) (hlq : lv qu ≤ n - 1) (m9 : QT) (hQ : QD (pf f ν) S qu m9) : vx_Met l y_Walk_onlyNode (k_Walk_onlyNode :: gtbl) ({ frames := 59 + 5 * n, cells := 1, slots := 6, locals := 2460 + 200 * n }) (va_Pc [.ref wk, .ref qu, .ref cu] (ml K dC dI ([(wk, .inr (10, [.ref wl, .int (nI tp), .int (nI sp), .ref rt])), (wl, .inl (cV, 10000, .inr (.inr (.inr (.inr g)))))] ++ va_pl L (pf f ν)) [(cI, .int), (cV, .object "QueryBench$Value")] sz)) (va_Qq (fun (r : Option Nat) (u : Nat × (Nat → Option Nat) × (Nat → Int64)) => VRp E f PL AL S u.2.2 r (oneV (m9 rtn cun).1) ∧ ASK E S (m9 rtn cun).2 tp sp g ν u.1 u.2.1 u.2.2) (fun u t9 => mz dC dI ([(wk, .inr (10, [.ref wl, .int (nI tp), .int (nI u.1), .ref rt])), (wl, .inl (cV, 10000, .inr (.inr (.inr (.inr u.2.1)))))] ++ va_pl L (pf f u.2.2)) [(cI, .int), (cV, .object "QueryBench$Value")] (va_A ([(wk, .inr (10, [.ref wl, .int (nI tp), .int (nI sp), .ref rt])), (wl, .inl (cV, 10000, .inr (.inr (.inr (.inr g)))))] ++ va_pl L (pf f ν)) sz.size) t9 ∧ szk sz t9.heap (0) (0)) (va_A ([(wk, .inr (10, [.ref wl, .int (nI tp), .int (nI sp), .ref rt])), (wl, .inl (cV, 10000, .inr (.inr (.inr (.inr g)))))] ++ va_pl L (pf f ν)) sz.size)) (vx_X (fun (u : Int32 × Int32 × (Nat → Option Nat) × (Nat → Int64)) => 10000 < sp + (m9 rtn cun).2 ∧ NUg S ν u.2.2.2) (fun En u t9 => En = IOB ∧ mz dC dI ([(wk, .inr (10, [.ref wl, .int u.1, .int u.2.1, .ref rt])), (wl, .inl (cV, 10000, .inr (.inr (.inr (.inr u.2.2.1)))))] ++ va_pl L (pf f u.2.2.2)) [(cI, .int), (cV, .object "QueryBench$Value")] (va_A ([(wk, .inr (10, [.ref wl, .int (nI tp), .int (nI sp), .ref rt])), (wl, .inl (cV, 10000, .inr (.inr (.inr (.inr g)))))] ++ va_pl L (pf f ν)) sz.size) t9) (va_A ([(wk, .inr (10, [.ref wl, .int (nI tp), .int (nI sp), .ref rt])), (wl, .inl (cV, 10000, .inr (.inr (.inr (.inr g)))))] ++ va_pl L (pf f ν)) sz.size)) (1) (6) (va_A ([(wk, .inr (10, [.ref wl, .int (nI tp), .int (nI sp), .ref rt])), (wl, .inl (cV, 10000, .inr (.inr (.inr (.inr g)))))] ++ va_pl L (pf f ν)) sz.size) := by
  refine vx_ofW (cc := b_Walk_onlyNode) (maxL := 6) (ret := (some (.object "QueryBench$Value"))) (by decide) rfl ?_
  intro p e s m args below meth c s₁ B hml hex hv
  obtain ⟨rfl, ⟨hsz, hP, hK, hD0⟩, hN, hZ, hC, hV⟩ := hv
  have hx := B.exec
  have hb := B.bytes
  have hr := B.returns
  have hts0 := atoms_spec (ws := k_Walk_onlyNode :: gtbl) B.pre
  have hts := fun w h => hts0 w (List.mem_cons_of_mem _ h)
  have hown : s.vm.findClass R_Walk = some m.cls := findClass_of_methodNamed B.named
  have hlocks := B.notSynchronized
  subst hsz
  have hD := hD0.self (sz := s.heap.size)
  generalize hAe : va_A ([(wk, .inr (10, [.ref wl, .int (nI tp), .int (nI sp), .ref rt])), (wl, .inl (cV, 10000, .inr (.inr (.inr (.inr g)))))] ++ va_pl L (pf f ν)) s.heap.size = A at hD hZ hC ⊢
  have hA : ∀ q : Nat, s.heap.size ≤ q → A q := fun q h => by rw [← hAe]; exact Or.inr h
  have hS : va_S A s.heap s.heap [] := va_S.rf
  have hP : va_P (dC, dI) classes ([(wk, .inr (10, [.ref wl, .int (nI tp), .int (nI sp), .ref rt])), (wl, .inl (cV, 10000, .inr (.inr (.inr (.inr g)))))] ++ va_pl L (pf f ν)) s.heap := hP
  have hl := lv_entry ([.ref wk, .ref qu, .ref cu]) (n := 6) (Nat.le_of_ble_eq_true rfl)
  rw [lg_entry_eq]
  generalize (lg_sl ([.ref wk, .ref qu, .ref cu]) ++ List.replicate (6 - (lg_sl ([.ref wk, .ref qu, .ref cu])).length) Slot.unset).toArray = ls at hl ⊢
  have hl : lv_has ls 6 [(0, .ref wk), (1, .ref qu), (2, .ref cu)] := hl
  have hW0 := hW9
  have hW1 := hW9.1
  have hW2 := hW9.2.1
  have hDν := hDq9 ν NUg.rf
  obtain ⟨hcu, -⟩ := hcn.ax hDν
  refine lv_aload_n hx hb d_Walk_onlyNode_0 rfl (lv_at hl 0 rfl) ?_
  refine va_get (D := (dC, dI)) (ci := 10) (v := .int (nI tp)) (C := R_Walk) (T := F_Walk) (N := 4) hx hb hts in_Walk hown hK hP 0 rfl rfl 1 (by decide) (hts _ z_117) (fun _ h9 => h9) rfl d_Walk_onlyNode_1 ?_
  refine lv_istore_n (lv' := [(3, .int (nI tp)), (0, .ref wk), (1, .ref qu), (2, .ref cu)]) hx hb d_Walk_onlyNode_4 rfl hl (by decide) rfl (fun ls hl => ?_)
  refine lv_aload_n hx hb d_Walk_onlyNode_5 rfl (lv_at hl 1 rfl) ?_
  refine lv_aload_n hx hb d_Walk_onlyNode_6 rfl (lv_at hl 2 rfl) ?_
  refine lv_aload_n hx hb d_Walk_onlyNode_7 rfl (lv_at hl 3 rfl) ?_
  have hPc := hP.part (cx := [(wk, .inr (10, [.ref wl, .int (nI tp), .int (nI sp), .ref rt])), (wl, .inl (cV, 10000, .inr (.inr (.inr (.inr g)))))]) [0, 1] rfl
  have hDc := hD.part (cx := [(wk, .inr (10, [.ref wl, .int (nI tp), .int (nI sp), .ref rt])), (wl, .inl (cV, 10000, .inr (.inr (.inr (.inr g)))))]) [0, 1] (by decide) rfl
  have hFc := va_freeP (cx := [(wk, .inr (10, [.ref wl, .int (nI tp), .int (nI sp), .ref rt])), (wl, .inl (cV, 10000, .inr (.inr (.inr (.inr g)))))]) hD hS hA [0, 1] rfl
  have hKc := hK.sub (tys' := [(cI, .int), (cV, .object "QueryBench$Value")]) [0, 1] rfl
  refine w_same (fun hq0 => ?_)
  refine vx_calli (vx_runV (As := [.ref qu, .ref cu]) (rest := []) ⟨hx, hb, hml, hown, hts⟩ (HI s.heap S tp sp g ν hW9 hDq9 qu cu m9 cun hqu hlq hQ hcn) (cwV 2 hts (gt_V (own := R_Walk) (C := R_Walk) (i := 28) (y := y_Walk_nodes) i_Walk_nodes z_835 z_837 (gt_sel (y := y_Walk_nodes) (n := 4) (by decide +kernel)) w_5) rfl rfl rfl (by decide +kernel) ⟨by show 60 + 5 * (n - 1) + 1 ≤ 59 + 5 * n; omega, by show 8 + (7 + 11) + (2500 + 200 * (n - 1)) ≤ 2460 + 200 * n; omega⟩) ⟨ml_blind, va_recv hK hP (ci := 10) (q0 := 0) rfl rfl, fun U hU hW => ⟨rfl, ⟨hU, by rw [hU]; exact hPc, va_K.moved hW.alike hKc, hDc.weaken (fun _ _ _ _ => trivial)⟩, hN.warm hW, by rw [hU]; exact ZX.moved' hW.alike (ZX.narrow' (ZX.kept' hZ hS.2.1) hFc), by rw [hU]; exact CE.call hC hS.2.1 hFc hW, va_AO.moved hW.alike hV⟩⟩ rfl rfl hl.1 rfl (lv_room (Nat.le_of_ble_eq_true rfl)) d_Walk_onlyNode_8 ⟨Nat.le_of_ble_eq_true rfl, Nat.le_of_ble_eq_true rfl⟩) hS (fun q _ h => hFc q h) hFc (fun q _ h => hFc q h) (fun En ce q9 ⟨tx, sx, gx, nx⟩ t9 H1 locs ht hvm hw hB hz1 hk1 hS hce hcv hcl => ?_) (fun r21 ⟨t21, s21, g21, n21⟩ t9 H1 locs ht hvm hw hB hz1 hk1 hS => ?_)
  · obtain ⟨hEn, hP1, hK1, hD1⟩ := hB
    rw [ht] at hP1
    obtain ⟨hP, hD⟩ := va_joinP (wr := []) (rx := [(wk, .inr (10, [.ref wl, .int tx, .int sx, .ref rt])), (wl, .inl (cV, 10000, .inr (.inr (.inr (.inr gx)))))]) (pl1 := va_pl L (pf f nx)) hP hD [0, 1] [] rfl rfl (by decide) (by decide) hk1 hFc hP1 hD1
    generalize H1 = H at hP hS hce ⊢
    have hP : va_P (dC, dI) classes ([(wk, .inr (10, [.ref wl, .int tx, .int sx, .ref rt])), (wl, .inl (cV, 10000, .inr (.inr (.inr (.inr gx)))))] ++ va_pl L (pf f nx)) H := hP
    have hD : va_D A ([(wk, .inr (10, [.ref wl, .int tx, .int sx, .ref rt])), (wl, .inl (cV, 10000, .inr (.inr (.inr (.inr gx)))))] ++ va_pl L (pf f nx)) := hD
    exact vx_out (fun x hx => (hex x hx).elim) hlocks hce hcv hcl (fun t9 ht2 ha => ⟨(tx, sx, gx, nx), hw, ⟨hEn, by rw [ht2]; exact hP, va_K.moved ha hK, hD⟩, hS.F ht2⟩) hS.2.2 (Nat.le_of_ble_eq_true rfl) (Nat.le_of_ble_eq_true rfl)
  · obtain ⟨⟨hP1, hK1, hD1⟩, hz9⟩ := hB
    rw [ht] at hP1
    rw [ht] at hz9
    refine w_tight (hq0.trans hz9) ?_
    have hq0 := hq0.trans hz9
    obtain ⟨hP, hD⟩ := va_joinP (wr := []) (rx := [(wk, .inr (10, [.ref wl, .int (nI t21), .int (nI s21), .ref rt])), (wl, .inl (cV, 10000, .inr (.inr (.inr (.inr g21)))))]) (pl1 := va_pl L (pf f n21)) hP hD [0, 1] [] rfl rfl (by decide) (by decide) hk1 hFc hP1 hD1
    generalize H1 = H at hP hS hq0 ⊢
    have hP : va_P (dC, dI) classes ([(wk, .inr (10, [.ref wl, .int (nI t21), .int (nI s21), .ref rt])), (wl, .inl (cV, 10000, .inr (.inr (.inr (.inr g21)))))] ++ va_pl L (pf f n21)) H := hP
    have hD : va_D A ([(wk, .inr (10, [.ref wl, .int (nI t21), .int (nI s21), .ref rt])), (wl, .inl (cV, 10000, .inr (.inr (.inr (.inr g21)))))] ++ va_pl L (pf f n21)) := hD
    obtain ⟨fr, hfr1, k1, k2, k3, k4, k5, k6, k7⟩ := hw
    have k1 : tp ≤ fr := k1
    have k2 : t21 = fr + (m9 rtn cun).1.length := k2
    have k3 : s21 = sp + (m9 rtn cun).2 := k3
    have k4 : WI E t21 s21 g21 := k4
    have k8 := k4.1
    have k9 := k4.2.1
    subst hfr1
    have hA3 : ASK E S (m9 rtn cun).2 tp sp g ν s21 g21 n21 := ⟨k3, WI.cut k4 (show tp ≤ t21 by omega), k5, k7⟩
    refine lv_istore (lv' := [(4, .int (nI fr)), (3, .int (nI tp)), (0, .ref wk), (1, .ref qu), (2, .ref cu)]) hx hb d_Walk_onlyNode_11 hl (by decide) rfl (fun ls hl => ?_)
    refine lv_aload_n hx hb d_Walk_onlyNode_13 rfl (lv_at hl 2 rfl) ?_
    refine va_get (D := (dC, dI)) (ci := 10) (v := .int (nI t21)) (C := R_Walk) (T := F_Walk) (N := 4) hx hb hts in_Walk hown hK hP 0 rfl rfl 1 (by decide) (hts _ z_117) (fun _ h9 => h9) rfl d_Walk_onlyNode_14 ?_
    refine lv_iload hx hb d_Walk_onlyNode_17 (lv_at hl 0 rfl) ?_
    refine lv_isub hx hb d_Walk_onlyNode_19 ?_
    refine lv_iconst (v := 1) hx hb d_Walk_onlyNode_20 (by decide) ?_
    refine lv_icmp_ne (tgt := 34) hx hb d_Walk_onlyNode_21 (by decide) (fun c21 => ?_) (fun c21 => ?_)
    · have hl1 : ¬ (m9 rtn cun).1.length = 1 := fun q => c21 (by rw [nI_subN (by omega) (by omega), show t21 - fr = 1 by omega]; rfl)
      refine lv_null hx hb d_Walk_onlyNode_34 ?_
      refine lv_astoreN (lv' := [(5, .null), (4, .int (nI fr)), (3, .int (nI tp)), (0, .ref wk), (1, .ref qu), (2, .ref cu)]) hx hb d_Walk_onlyNode_35 hl (by decide) rfl (fun ls hl => ?_)
      refine lv_aload_n hx hb d_Walk_onlyNode_37 rfl (lv_at hl 3 rfl) ?_
      refine lv_iload_n hx hb d_Walk_onlyNode_38 rfl (lv_at hl 2 rfl) ?_
      refine va_put (D := (dC, dI)) (ci := 10) (v := .int (nI tp)) (ty := .int) (C := R_Walk) (T := F_Walk) (N := 4) hx hb hts in_Walk t_Walk t_Walk_ok n_Walk hown hK hP hD hS 0 rfl rfl 1 (by decide) (hts _ z_117) (fun _ h9 => h9) rfl (by decide +kernel) rfl rfl (Nat.le_of_ble_eq_true rfl) d_Walk_onlyNode_39 (fun H locs hP hD hS => ?_)
      have hP : va_P (dC, dI) classes ([(wk, .inr (10, [.ref wl, .int (nI tp), .int (nI s21), .ref rt])), (wl, .inl (cV, 10000, .inr (.inr (.inr (.inr g21)))))] ++ va_pl L (pf f n21)) H := hP
      have hD : va_D A ([(wk, .inr (10, [.ref wl, .int (nI tp), .int (nI s21), .ref rt])), (wl, .inl (cV, 10000, .inr (.inr (.inr (.inr g21)))))] ++ va_pl L (pf f n21)) := hD
      refine lv_aloadN hx hb d_Walk_onlyNode_42 (lv_at hl 0 rfl) ?_
      refine w_same (fun hq => ?_)
      refine W.widen (k := 1) (n := 6) (Nat.le_of_ble_eq_true rfl) (Nat.le_of_ble_eq_true rfl) ?_
      refine vx_ret ?_
      exact W.aret (v := va_rf none) hx hb hr (Or.inl ⟨_, rfl⟩) (va_rf_or _) (fun t9 ht hW => ⟨⟨none, (s21, g21, n21), rfl, ⟨(by rw [oneV_0 hl1]; rfl), hA3⟩, ⟨by rw [ht]; exact hP, va_K.moved hW.alike hK, hD⟩, by rw [ht]; exact hq⟩, hS.F ht⟩) hS.2.2 d_Walk_onlyNode_44
    · have hl1 : (m9 rtn cun).1.length = 1 := by have e9 := congrArg Int32.toInt c21; rw [pk_sub_toInt (by omega) (by omega), show (1 : Int32).toInt = 1 from rfl] at e9; omega
      obtain ⟨nd7, hl7⟩ : ∃ e, (m9 rtn cun).1[0]? = some e := ⟨_, List.getElem?_eq_getElem (by omega)⟩
      obtain ⟨nd9, hnd1, hn7⟩ := k6 0 nd7 hl7
      have hnd1 : g21 fr = some nd9 := hnd1
      have hnd2 := (hn7.ax (hDq9 n21 k7)).1
      refine lv_aload_n hx hb d_Walk_onlyNode_24 rfl (lv_at hl 2 rfl) ?_
      refine va_get (D := (dC, dI)) (ci := 10) (v := .ref wl) (C := R_Walk) (T := F_Walk) (N := 4) hx hb hts in_Walk hown hK hP 0 rfl rfl 0 (by decide) (hts _ w_115) (fun _ h9 => h9) rfl d_Walk_onlyNode_25 ?_
      refine lv_iload hx hb d_Walk_onlyNode_28 (lv_at hl 0 rfl) ?_
      refine vq_ald0 hx hb hK hP 1 1 rfl rfl (show fr < 10000 by omega) (by decide) hnd1 d_Walk_onlyNode_30 ?_
      refine lv_goto (tgt := 35) hx hb d_Walk_onlyNode_31 (by decide) ?_
      refine lv_astore (lv' := [(5, .ref nd9), (4, .int (nI fr)), (3, .int (nI tp)), (0, .ref wk), (1, .ref qu), (2, .ref cu)]) hx hb d_Walk_onlyNode_35 hl (by decide) rfl (fun ls hl => ?_)
      refine lv_aload_n hx hb d_Walk_onlyNode_37 rfl (lv_at hl 3 rfl) ?_
      refine lv_iload_n hx hb d_Walk_onlyNode_38 rfl (lv_at hl 2 rfl) ?_
      refine va_put (D := (dC, dI)) (ci := 10) (v := .int (nI tp)) (ty := .int) (C := R_Walk) (T := F_Walk) (N := 4) hx hb hts in_Walk t_Walk t_Walk_ok n_Walk hown hK hP hD hS 0 rfl rfl 1 (by decide) (hts _ z_117) (fun _ h9 => h9) rfl (by decide +kernel) rfl rfl (Nat.le_of_ble_eq_true rfl) d_Walk_onlyNode_39 (fun H locs hP hD hS => ?_)
      have hP : va_P (dC, dI) classes ([(wk, .inr (10, [.ref wl, .int (nI tp), .int (nI s21), .ref rt])), (wl, .inl (cV, 10000, .inr (.inr (.inr (.inr g21)))))] ++ va_pl L (pf f n21)) H := hP
      have hD : va_D A ([(wk, .inr (10, [.ref wl, .int (nI tp), .int (nI s21), .ref rt])), (wl, .inl (cV, 10000, .inr (.inr (.inr (.inr g21)))))] ++ va_pl L (pf f n21)) := hD
      refine lv_aload hx hb d_Walk_onlyNode_42 (lv_at hl 0 rfl) ?_
      refine w_same (fun hq => ?_)
      refine W.widen (k := 1) (n := 6) (Nat.le_of_ble_eq_true rfl) (Nat.le_of_ble_eq_true rfl) ?_
      refine vx_ret ?_
      exact W.aret (v := va_rf ((some nd9))) hx hb hr (Or.inl ⟨_, rfl⟩) (va_rf_or _) (fun t9 ht hW => ⟨⟨(some nd9), (s21, g21, n21), rfl, ⟨(by rw [oneV_1 hl1 hl7]; exact ⟨nd9, rfl, hnd2, Or.inr ⟨nd7, hn7, rfl⟩⟩), hA3⟩, ⟨by rw [ht]; exact hP, va_K.moved hW.alike hK, hD⟩, by rw [ht]; exact hq⟩, hS.F ht⟩) hS.2.2 d_Walk_onlyNode_44
