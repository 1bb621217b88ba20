set_option maxHeartbeats 4000000 in
set_option maxRecDepth 100000 in
/-- Walk.compares: what it says -/
theorem p_Walk_compares (l : Launch) (hl9 : l.stackTraces = false) (K : Nat → Nat × Nat) (dC : Nat → ClassId) (dI : Nat → Nat → Nat) (sz : Heap) (cI cV : ClassId) (E lv : Nat → Nat) (L : List Nat) (f : Nat → va_E) (hO : PO cI cV E lv L f) (hN1 : ∀ a, E a ≠ 1) (PL : List NT) (AL : List Nat) (S : Nat → Nat) (wk wl rt : Nat) (hrt : isF E rt) (rtn : NT) (hrn : NCr PL AL rt rtn) (tp sp : Nat) (g : Nat → Option Nat) (ν : Nat → Int64) (hW9 : WI E tp sp g) (hDq9 : ∀ ν2, NUg S ν ν2 → DOC E (pf f ν2) PL AL) (cu : Nat) (cun : NT) (hcn : NCr PL AL cu cun) (n : Nat) (hn : 0 < n) (HI : VOF l K dC dI cI cV E lv L f PL AL wk wl rt rtn (n - 1)) (co : Nat) (hco : E co = 10) (le ri : Nat) (hle : E le = 11) (hle2 : lv le ≤ n - 1) (hri : E ri = 11) (hri2 : lv ri ≤ n - 1) (op : Nat) (hop : op ≤ 5) (hcm : ∃ fi nx qu, f co = kE (nI (4 + op)) fi nx qu (some le) (some ri)) (x9 y9 : OT) (Sl Sr : Nat → Nat) (hSl : SUB Sl S) (hSr : SUB Sr S) (hdis : DIS Sl Sr) (hOx : OD (pf f ν) Sl le x9) (hOy : OD (pf f ν) Sr ri y9) : vx_Met l y_Walk_compares (k_Walk_compares :: gtbl) ({ frames := 59 + 5 * n, cells := 1, slots := 6, locals := 2460 + 200 * n }) (va_Pc [.ref wk, .ref co, .ref cu] (ml K dC dI ([(wk, .inr (10, [.ref wl, .int (nI tp), .int (nI sp), .ref rt])), (wl, .inl (cV, 10000, .inr (.inr (.inr (.inr g)))))] ++ va_pl L (pf f ν)) [(cI, .int), (cV, .object "QueryBench$Value")] sz)) (va_Qi (fun (r : Int32) (u : Nat × (Nat → Option Nat) × (Nat → Int64)) => r = bI (cmpC op x9 y9 rtn cun).1 ∧ ASK E S (cmpC op x9 y9 rtn cun).2 tp sp g ν u.1 u.2.1 u.2.2) (fun u t9 => mz dC dI ([(wk, .inr (10, [.ref wl, .int (nI tp), .int (nI u.1), .ref rt])), (wl, .inl (cV, 10000, .inr (.inr (.inr (.inr u.2.1)))))] ++ va_pl L (pf f u.2.2)) [(cI, .int), (cV, .object "QueryBench$Value")] (va_A ([(wk, .inr (10, [.ref wl, .int (nI tp), .int (nI sp), .ref rt])), (wl, .inl (cV, 10000, .inr (.inr (.inr (.inr g)))))] ++ va_pl L (pf f ν)) sz.size) t9 ∧ szk sz t9.heap (0) (0)) (va_A ([(wk, .inr (10, [.ref wl, .int (nI tp), .int (nI sp), .ref rt])), (wl, .inl (cV, 10000, .inr (.inr (.inr (.inr g)))))] ++ va_pl L (pf f ν)) sz.size)) (vx_X (fun (u : Int32 × Int32 × (Nat → Option Nat) × (Nat → Int64)) => 10000 < sp + (cmpC op x9 y9 rtn cun).2 ∧ NUg S ν u.2.2.2) (fun En u t9 => En = IOB ∧ mz dC dI ([(wk, .inr (10, [.ref wl, .int u.1, .int u.2.1, .ref rt])), (wl, .inl (cV, 10000, .inr (.inr (.inr (.inr u.2.2.1)))))] ++ va_pl L (pf f u.2.2.2)) [(cI, .int), (cV, .object "QueryBench$Value")] (va_A ([(wk, .inr (10, [.ref wl, .int (nI tp), .int (nI sp), .ref rt])), (wl, .inl (cV, 10000, .inr (.inr (.inr (.inr g)))))] ++ va_pl L (pf f ν)) sz.size) t9) (va_A ([(wk, .inr (10, [.ref wl, .int (nI tp), .int (nI sp), .ref rt])), (wl, .inl (cV, 10000, .inr (.inr (.inr (.inr g)))))] ++ va_pl L (pf f ν)) sz.size)) (1) (6) (va_A ([(wk, .inr (10, [.ref wl, .int (nI tp), .int (nI sp), .ref rt])), (wl, .inl (cV, 10000, .inr (.inr (.inr (.inr g)))))] ++ va_pl L (pf f ν)) sz.size) := by
  refine vx_ofW (cc := b_Walk_compares) (maxL := 5) (ret := (some .boolean)) (by decide) rfl ?_
  intro p e s m args below meth c s₁ B hml hex hv
  obtain ⟨rfl, ⟨hsz, hP, hK, hD0⟩, hN, hZ, hC, hV⟩ := hv
  have hx := B.exec
  have hb := B.bytes
  have hr := B.returns
  have hts0 := atoms_spec (ws := k_Walk_compares :: gtbl) B.pre
  have hts := fun w h => hts0 w (List.mem_cons_of_mem _ h)
  have hown : s.vm.findClass R_Walk = some m.cls := findClass_of_methodNamed B.named
  have hlocks := B.notSynchronized
  subst hsz
  have hD := hD0.self (sz := s.heap.size)
  generalize hAe : va_A ([(wk, .inr (10, [.ref wl, .int (nI tp), .int (nI sp), .ref rt])), (wl, .inl (cV, 10000, .inr (.inr (.inr (.inr g)))))] ++ va_pl L (pf f ν)) s.heap.size = A at hD hZ hC ⊢
  have hA : ∀ q : Nat, s.heap.size ≤ q → A q := fun q h => by rw [← hAe]; exact Or.inr h
  have hS : va_S A s.heap s.heap [] := va_S.rf
  have hP : va_P (dC, dI) classes ([(wk, .inr (10, [.ref wl, .int (nI tp), .int (nI sp), .ref rt])), (wl, .inl (cV, 10000, .inr (.inr (.inr (.inr g)))))] ++ va_pl L (pf f ν)) s.heap := hP
  have hl := lv_entry ([.ref wk, .ref co, .ref cu]) (n := 5) (Nat.le_of_ble_eq_true rfl)
  rw [lg_entry_eq]
  generalize (lg_sl ([.ref wk, .ref co, .ref cu]) ++ List.replicate (5 - (lg_sl ([.ref wk, .ref co, .ref cu])).length) Slot.unset).toArray = ls at hl ⊢
  have hl : lv_has ls 5 [(0, .ref wk), (1, .ref co), (2, .ref cu)] := hl
  have hW0 := hW9
  have hW1 := hW9.1
  have hW2 := hW9.2.1
  have hDν := hDq9 ν NUg.rf
  obtain ⟨hcu, -⟩ := hcn.ax hDν
  obtain ⟨fi9, nx9, qu9, ef9⟩ := hcm
  obtain ⟨kd9, hkd⟩ : ∃ z, z = nI (4 + op) := ⟨_, rfl⟩
  rw [← hkd] at ef9
  refine lv_aload_n hx hb d_Walk_compares_0 rfl (lv_at hl 0 rfl) ?_
  refine lv_aload_n hx hb d_Walk_compares_1 rfl (lv_at hl 1 rfl) ?_
  refine vq_get (D := (dC, dI)) (ci := 0) (v := .ref le) (C := R_Condition) (T := F_Condition) (N := 6) hx hb hts in_Condition hown hK hP (hO.inL (a := co) (by rw [hco]; decide)) (pf_K ef9) rfl 4 (by decide) (hts _ z_684) (fun _ h9 => h9) rfl d_Walk_compares_2 ?_
  refine lv_aload_n hx hb d_Walk_compares_5 rfl (lv_at hl 2 rfl) ?_
  have hPc := hP.part (cx := [(wk, .inr (10, [.ref wl, .int (nI tp), .int (nI sp), .ref rt])), (wl, .inl (cV, 10000, .inr (.inr (.inr (.inr g)))))]) [0, 1] rfl
  have hDc := hD.part (cx := [(wk, .inr (10, [.ref wl, .int (nI tp), .int (nI sp), .ref rt])), (wl, .inl (cV, 10000, .inr (.inr (.inr (.inr g)))))]) [0, 1] (by decide) rfl
  have hFc := va_freeP (cx := [(wk, .inr (10, [.ref wl, .int (nI tp), .int (nI sp), .ref rt])), (wl, .inl (cV, 10000, .inr (.inr (.inr (.inr g)))))]) hD hS hA [0, 1] rfl
  have hKc := hK.sub (tys' := [(cI, .int), (cV, .object "QueryBench$Value")]) [0, 1] rfl
  refine w_same (fun hq0 => ?_)
  refine vx_callq (vx_runV (As := [.ref le, .ref cu]) (rest := []) ⟨hx, hb, hml, hown, hts⟩ (HI s.heap Sl tp sp g ν hW9 (fun ν2 h2 => hDq9 ν2 (h2.up hSl)) le cu x9 cun hle hle2 hOx hcn) (cwV 2 hts (gt_V (own := R_Walk) (C := R_Walk) (i := 183) (y := y_Walk_valueOf) i_Walk_valueOf z_915 z_917 (gt_sel (y := y_Walk_valueOf) (n := 4) (by decide +kernel)) w_5) rfl rfl rfl (by decide +kernel) ⟨by show 60 + 5 * (n - 1) + 1 ≤ 59 + 5 * n; omega, by show 8 + (4 + 11) + (2500 + 200 * (n - 1)) ≤ 2460 + 200 * n; omega⟩) ⟨ml_blind, va_recv hK hP (ci := 10) (q0 := 0) rfl rfl, fun U hU hW => ⟨rfl, ⟨hU, by rw [hU]; exact hPc, va_K.moved hW.alike hKc, hDc.weaken (fun _ _ _ _ => trivial)⟩, hN.warm hW, by rw [hU]; exact ZX.moved' hW.alike (ZX.narrow' (ZX.kept' hZ hS.2.1) hFc), by rw [hU]; exact CE.call hC hS.2.1 hFc hW, va_AO.moved hW.alike hV⟩⟩ rfl rfl hl.1 rfl (lv_room (Nat.le_of_ble_eq_true rfl)) d_Walk_compares_6 ⟨Nat.le_of_ble_eq_true rfl, Nat.le_of_ble_eq_true rfl⟩) hS (fun q _ h => hFc q h) hFc (fun q _ h => hFc q h) (fun En ce q9 ⟨tx, sx, gx, nx⟩ t9 H1 locs ht hvm hw hB hz1 hk1 hS hce hcv hcl => ?_) (fun r21 ⟨s21, g21, n21⟩ t9 H1 locs ht hvm hw hB hz1 hk1 hS => ?_)
  · obtain ⟨hEn, hP1, hK1, hD1⟩ := hB
    rw [ht] at hP1
    obtain ⟨hP, hD⟩ := va_joinP (wr := []) (rx := [(wk, .inr (10, [.ref wl, .int tx, .int sx, .ref rt])), (wl, .inl (cV, 10000, .inr (.inr (.inr (.inr gx)))))]) (pl1 := va_pl L (pf f nx)) hP hD [0, 1] [] rfl rfl (by decide) (by decide) hk1 hFc hP1 hD1
    generalize H1 = H at hP hS hce ⊢
    have hP : va_P (dC, dI) classes ([(wk, .inr (10, [.ref wl, .int tx, .int sx, .ref rt])), (wl, .inl (cV, 10000, .inr (.inr (.inr (.inr gx)))))] ++ va_pl L (pf f nx)) H := hP
    have hD : va_D A ([(wk, .inr (10, [.ref wl, .int tx, .int sx, .ref rt])), (wl, .inl (cV, 10000, .inr (.inr (.inr (.inr gx)))))] ++ va_pl L (pf f nx)) := hD
    have hno : 10000 < sp + (cmpC op x9 y9 rtn cun).2 := by have hw : 10000 < sp + (x9 rtn cun).2 := hw.1; show 10000 < sp + ((x9 rtn cun).2 + (y9 rtn cun).2); omega
    exact vx_out (fun x hx => (hex x hx).elim) hlocks hce hcv hcl (fun t9 ht2 ha => ⟨(tx, sx, gx, nx), ⟨hno, (hw.2.up hSl)⟩, ⟨hEn, by rw [ht2]; exact hP, va_K.moved ha hK, hD⟩, hS.F ht2⟩) hS.2.2 (Nat.le_of_ble_eq_true rfl) (Nat.le_of_ble_eq_true rfl)
  · obtain ⟨⟨hP1, hK1, hD1⟩, hz9⟩ := hB
    rw [ht] at hP1
    rw [ht] at hz9
    refine w_tight (hq0.trans hz9) ?_
    have hq0 := hq0.trans hz9
    obtain ⟨hP, hD⟩ := va_joinP (wr := []) (rx := [(wk, .inr (10, [.ref wl, .int (nI tp), .int (nI s21), .ref rt])), (wl, .inl (cV, 10000, .inr (.inr (.inr (.inr g21)))))]) (pl1 := va_pl L (pf f n21)) hP hD [0, 1] [] rfl rfl (by decide) (by decide) hk1 hFc hP1 hD1
    generalize H1 = H at hP hS hq0 ⊢
    have hP : va_P (dC, dI) classes ([(wk, .inr (10, [.ref wl, .int (nI tp), .int (nI s21), .ref rt])), (wl, .inl (cV, 10000, .inr (.inr (.inr (.inr g21)))))] ++ va_pl L (pf f n21)) H := hP
    have hD : va_D A ([(wk, .inr (10, [.ref wl, .int (nI tp), .int (nI s21), .ref rt])), (wl, .inl (cV, 10000, .inr (.inr (.inr (.inr g21)))))] ++ va_pl L (pf f n21)) := hD
    obtain ⟨hr21, hA21⟩ := hw
    have hA21 : ASK E Sl (x9 rtn cun).2 tp sp g ν s21 g21 n21 := hA21
    have hVle : VRp E f PL AL Sl n21 r21 (x9 rtn cun).1 := hr21
    have hOle := hVle.oR
    have hNle := hA21.2.2.2
    have hUle := hA21.up hSl
    have hJle := hA21.2.1
    have hJle1 := hJle.1
    have hJle2 := hJle.2.1
    rcases r21 with _ | b22
    · refine lv_astore_nN (lv' := [(3, .null), (0, .ref wk), (1, .ref co), (2, .ref cu)]) hx hb d_Walk_compares_9 rfl hl (by decide) rfl (fun ls hl => ?_)
      refine lv_aload_n hx hb d_Walk_compares_10 rfl (lv_at hl 1 rfl) ?_
      refine lv_aload_n hx hb d_Walk_compares_11 rfl (lv_at hl 2 rfl) ?_
      refine vq_get (D := (dC, dI)) (ci := 0) (v := .ref ri) (C := R_Condition) (T := F_Condition) (N := 6) hx hb hts in_Condition hown hK hP (hO.inL (a := co) (by rw [hco]; decide)) (pf_K ef9) rfl 5 (by decide) (hts _ z_686) (fun _ h9 => h9) rfl d_Walk_compares_12 ?_
      refine lv_aload_n hx hb d_Walk_compares_15 rfl (lv_at hl 3 rfl) ?_
      have hPc := hP.part (cx := [(wk, .inr (10, [.ref wl, .int (nI tp), .int (nI s21), .ref rt])), (wl, .inl (cV, 10000, .inr (.inr (.inr (.inr g21)))))]) [0, 1] rfl
      have hDc := hD.part (cx := [(wk, .inr (10, [.ref wl, .int (nI tp), .int (nI s21), .ref rt])), (wl, .inl (cV, 10000, .inr (.inr (.inr (.inr g21)))))]) [0, 1] (by decide) rfl
      have hFc := va_freeP (cx := [(wk, .inr (10, [.ref wl, .int (nI tp), .int (nI s21), .ref rt])), (wl, .inl (cV, 10000, .inr (.inr (.inr (.inr g21)))))]) hD hS hA [0, 1] rfl
      have hKc := hK.sub (tys' := [(cI, .int), (cV, .object "QueryBench$Value")]) [0, 1] rfl
      refine w_same (fun hq0 => ?_)
      refine vx_callq (vx_runV (As := [.ref ri, .ref cu]) (rest := []) ⟨hx, hb, hml, hown, hts⟩ (HI H Sr tp s21 g21 n21 hJle (fun ν2 h2 => hDq9 ν2 (hUle.2.2.2.tr (h2.up hSr))) ri cu y9 cun hri hri2 (hOy.nu hO hri hUle.2.2.2 hSr) hcn) (cwV 2 hts (gt_V (own := R_Walk) (C := R_Walk) (i := 183) (y := y_Walk_valueOf) i_Walk_valueOf z_915 z_917 (gt_sel (y := y_Walk_valueOf) (n := 4) (by decide +kernel)) w_5) rfl rfl rfl (by decide +kernel) ⟨by show 60 + 5 * (n - 1) + 1 ≤ 59 + 5 * n; omega, by show 8 + (4 + 11) + (2500 + 200 * (n - 1)) ≤ 2460 + 200 * n; omega⟩) ⟨ml_blind, va_recv hK hP (ci := 10) (q0 := 0) rfl rfl, fun U hU hW => ⟨rfl, ⟨hU, by rw [hU]; exact hPc, va_K.moved hW.alike hKc, hDc.weaken (fun _ _ _ _ => trivial)⟩, hN.warm hW, by rw [hU]; exact ZX.moved' hW.alike (ZX.narrow' (ZX.kept' hZ hS.2.1) hFc), by rw [hU]; exact CE.call hC hS.2.1 hFc hW, va_AO.moved hW.alike hV⟩⟩ rfl rfl hl.1 rfl (lv_room (Nat.le_of_ble_eq_true rfl)) d_Walk_compares_16 ⟨Nat.le_of_ble_eq_true rfl, Nat.le_of_ble_eq_true rfl⟩) hS (fun q _ h => hFc q h) hFc (fun q _ h => hFc q h) (fun En ce q9 ⟨tx, sx, gx, nx⟩ t9 H1 locs ht hvm hw hB hz1 hk1 hS hce hcv hcl => ?_) (fun r23 ⟨s23, g23, n23⟩ t9 H1 locs ht hvm hw hB hz1 hk1 hS => ?_)
      · obtain ⟨hEn, hP1, hK1, hD1⟩ := hB
        rw [ht] at hP1
        obtain ⟨hP, hD⟩ := va_joinP (wr := []) (rx := [(wk, .inr (10, [.ref wl, .int tx, .int sx, .ref rt])), (wl, .inl (cV, 10000, .inr (.inr (.inr (.inr gx)))))]) (pl1 := va_pl L (pf f nx)) hP hD [0, 1] [] rfl rfl (by decide) (by decide) hk1 hFc hP1 hD1
        generalize H1 = H at hP hS hce ⊢
        have hP : va_P (dC, dI) classes ([(wk, .inr (10, [.ref wl, .int tx, .int sx, .ref rt])), (wl, .inl (cV, 10000, .inr (.inr (.inr (.inr gx)))))] ++ va_pl L (pf f nx)) H := hP
        have hD : va_D A ([(wk, .inr (10, [.ref wl, .int tx, .int sx, .ref rt])), (wl, .inl (cV, 10000, .inr (.inr (.inr (.inr gx)))))] ++ va_pl L (pf f nx)) := hD
        have hno : 10000 < sp + (cmpC op x9 y9 rtn cun).2 := by have hw : 10000 < s21 + (y9 rtn cun).2 := hw.1; show 10000 < sp + ((x9 rtn cun).2 + (y9 rtn cun).2); have := hUle.1; omega
        exact vx_out (fun x hx => (hex x hx).elim) hlocks hce hcv hcl (fun t9 ht2 ha => ⟨(tx, sx, gx, nx), ⟨hno, hUle.2.2.2.tr (hw.2.up hSr)⟩, ⟨hEn, by rw [ht2]; exact hP, va_K.moved ha hK, hD⟩, hS.F ht2⟩) hS.2.2 (Nat.le_of_ble_eq_true rfl) (Nat.le_of_ble_eq_true rfl)
      · obtain ⟨⟨hP1, hK1, hD1⟩, hz9⟩ := hB
        rw [ht] at hP1
        rw [ht] at hz9
        refine w_tight (hq0.trans hz9) ?_
        have hq0 := hq0.trans hz9
        obtain ⟨hP, hD⟩ := va_joinP (wr := []) (rx := [(wk, .inr (10, [.ref wl, .int (nI tp), .int (nI s23), .ref rt])), (wl, .inl (cV, 10000, .inr (.inr (.inr (.inr g23)))))]) (pl1 := va_pl L (pf f n23)) hP hD [0, 1] [] rfl rfl (by decide) (by decide) hk1 hFc hP1 hD1
        generalize H1 = H at hP hS hq0 ⊢
        have hP : va_P (dC, dI) classes ([(wk, .inr (10, [.ref wl, .int (nI tp), .int (nI s23), .ref rt])), (wl, .inl (cV, 10000, .inr (.inr (.inr (.inr g23)))))] ++ va_pl L (pf f n23)) H := hP
        have hD : va_D A ([(wk, .inr (10, [.ref wl, .int (nI tp), .int (nI s23), .ref rt])), (wl, .inl (cV, 10000, .inr (.inr (.inr (.inr g23)))))] ++ va_pl L (pf f n23)) := hD
        obtain ⟨hr23, hA23⟩ := hw
        have hA23 : ASK E Sr (y9 rtn cun).2 tp s21 g21 n21 s23 g23 n23 := hA23
        have hVri : VRp E f PL AL Sr n23 r23 (y9 rtn cun).1 := hr23
        have hOri := hVri.oR
        have hNri := hA23.2.2.2
        have hUri := hA23.up hSr
        have hJri := hA23.2.1
        have hJri1 := hJri.1
        have hJri2 := hJri.2.1
        have hAll : ASK E S (cmpC op x9 y9 rtn cun).2 tp sp g ν s23 g23 n23 := hUle.tr hUri
        have hVle := hVle.keep hdis hNri (fun b hb => (hO.szpf hb).trans (hO.szpf hb).symm)
        have hDe := hDq9 n23 hAll.2.2.2
        have hXle := hVle.val hDe
        have hXri := hVri.val hDe
        have hZle := hVle.dep hDe
        rcases r23 with _ | b24
        · refine lv_astoreN (lv' := [(4, .null), (3, .null), (0, .ref wk), (1, .ref co), (2, .ref cu)]) hx hb d_Walk_compares_19 hl (by decide) rfl (fun ls hl => ?_)
          refine lv_aload_n hx hb d_Walk_compares_21 rfl (lv_at hl 3 rfl) ?_
          refine vq_get (D := (dC, dI)) (ci := 0) (v := .int kd9) (C := R_Condition) (T := F_Condition) (N := 6) hx hb hts in_Condition hown hK hP (hO.inL (a := co) (by rw [hco]; decide)) (pf_K ef9) rfl 0 (by decide) (hts _ z_677) (fun _ h9 => h9) rfl d_Walk_compares_22 ?_
          by_cases hs25_0 : kd9 = 4
          · refine lv_tableIn (tgt := 60) (off := 35) hx hb d_Walk_compares_25 (by rw [hs25_0]; decide) (by rw [hs25_0]; decide) (by rw [hs25_0]; rfl) (by decide) ?_
            refine lv_aload_nN hx hb d_Walk_compares_60 rfl (lv_at hl 1 rfl) ?_
            refine lv_aloadN hx hb d_Walk_compares_61 (lv_at hl 0 rfl) ?_
            have ho5 : op = 0 := kd_op hop (by decide) (hkd.symm.trans hs25_0)
            subst ho5
            refine vp_callSi (va_Run.run (va_runS (As := [.null, .null]) (rest := []) ⟨hx, hb, hml, hown, hts⟩ (g_Value_same l dC dI H cI cV E lv L (pf f n23) (hO.num n23) none none hOle hOri (x9 rtn cun).1 (y9 rtn cun).1 hXle hXri hZle) (va_cwS 2 hts (gt_S (own := R_Walk) (i := 190) (y := y_Value_same) i_Value_same z_928 z_929 z_14) rfl rfl rfl (by decide +kernel) ⟨by show 40 + 1 ≤ 59 + 5 * n; omega, by show 8 + (2 + 11) + (1700) ≤ 2460 + 200 * n; omega⟩) ⟨mq_blind, fun U hU hW => ⟨rfl, hU, by rw [hU]; exact hP.part (cx := []) [] rfl, va_K.moved hW.alike hK, hN.warm hW⟩⟩ rfl rfl hl.1 rfl (lv_room (Nat.le_of_ble_eq_true rfl)) d_Walk_compares_63 ⟨Nat.le_of_ble_eq_true rfl, Nat.le_of_ble_eq_true rfl⟩)) (fun r25 h_r25 => ?_)
            refine w_same (fun hq => ?_)
            refine W.widen (k := 1) (n := 6) (Nat.le_of_ble_eq_true rfl) (Nat.le_of_ble_eq_true rfl) ?_
            refine vx_ret ?_
            exact W.zret (v := r25) hx hb hr (Bo.nar (bI_Bo h_r25)) (fun t9 ht hW => ⟨⟨r25, (s23, g23, n23), rfl, ⟨(h_r25.trans (by rw [show (cmpC 0 x9 y9 rtn cun).1 = sameO _ _ from cmp_0])), hAll⟩, ⟨by rw [ht]; exact hP, va_K.moved hW.alike hK, hD⟩, by rw [ht]; exact hq⟩, hS.F ht⟩) hS.2.2 d_Walk_compares_66
          · by_cases hs25_1 : kd9 = 5
            · refine lv_tableIn (tgt := 67) (off := 42) hx hb d_Walk_compares_25 (by rw [hs25_1]; decide) (by rw [hs25_1]; decide) (by rw [hs25_1]; rfl) (by decide) ?_
              refine lv_aload_nN hx hb d_Walk_compares_67 rfl (lv_at hl 1 rfl) ?_
              refine lv_aloadN hx hb d_Walk_compares_68 (lv_at hl 0 rfl) ?_
              have ho5 : op = 1 := kd_op hop (by decide) (hkd.symm.trans hs25_1)
              subst ho5
              refine vp_callSi (va_Run.run (va_runS (As := [.null, .null]) (rest := []) ⟨hx, hb, hml, hown, hts⟩ (g_Value_same l dC dI H cI cV E lv L (pf f n23) (hO.num n23) none none hOle hOri (x9 rtn cun).1 (y9 rtn cun).1 hXle hXri hZle) (va_cwS 2 hts (gt_S (own := R_Walk) (i := 190) (y := y_Value_same) i_Value_same z_928 z_929 z_14) rfl rfl rfl (by decide +kernel) ⟨by show 40 + 1 ≤ 59 + 5 * n; omega, by show 8 + (2 + 11) + (1700) ≤ 2460 + 200 * n; omega⟩) ⟨mq_blind, fun U hU hW => ⟨rfl, hU, by rw [hU]; exact hP.part (cx := []) [] rfl, va_K.moved hW.alike hK, hN.warm hW⟩⟩ rfl rfl hl.1 rfl (lv_room (Nat.le_of_ble_eq_true rfl)) d_Walk_compares_70 ⟨Nat.le_of_ble_eq_true rfl, Nat.le_of_ble_eq_true rfl⟩)) (fun r26 h_r26 => ?_)
              refine lv_if_ne (tgt := 80) hx hb d_Walk_compares_73 (by decide) (fun c73 => ?_) (fun c73 => ?_)
              · refine lv_iconst (v := 0) hx hb d_Walk_compares_80 (by decide) ?_
                refine w_same (fun hq => ?_)
                refine W.widen (k := 1) (n := 6) (Nat.le_of_ble_eq_true rfl) (Nat.le_of_ble_eq_true rfl) ?_
                refine vx_ret ?_
                exact W.zret (v := 0) hx hb hr rfl (fun t9 ht hW => ⟨⟨0, (s23, g23, n23), rfl, ⟨(by rw [show (cmpC 1 x9 y9 rtn cun).1 = !(sameO _ _) from cmp_1, (bI_01 h_r26).1 c73]; rfl), hAll⟩, ⟨by rw [ht]; exact hP, va_K.moved hW.alike hK, hD⟩, by rw [ht]; exact hq⟩, hS.F ht⟩) hS.2.2 d_Walk_compares_81
              · refine lv_iconst (v := 1) hx hb d_Walk_compares_76 (by decide) ?_
                refine lv_goto (tgt := 81) hx hb d_Walk_compares_77 (by decide) ?_
                refine w_same (fun hq => ?_)
                refine W.widen (k := 1) (n := 6) (Nat.le_of_ble_eq_true rfl) (Nat.le_of_ble_eq_true rfl) ?_
                refine vx_ret ?_
                exact W.zret (v := 1) hx hb hr rfl (fun t9 ht hW => ⟨⟨1, (s23, g23, n23), rfl, ⟨(by rw [show (cmpC 1 x9 y9 rtn cun).1 = !(sameO _ _) from cmp_1, (bI_01 h_r26).2 c73]; rfl), hAll⟩, ⟨by rw [ht]; exact hP, va_K.moved hW.alike hK, hD⟩, by rw [ht]; exact hq⟩, hS.F ht⟩) hS.2.2 d_Walk_compares_81
            · by_cases hs25_2 : kd9 = 6
              · refine lv_tableIn (tgt := 82) (off := 57) hx hb d_Walk_compares_25 (by rw [hs25_2]; decide) (by rw [hs25_2]; decide) (by rw [hs25_2]; rfl) (by decide) ?_
                refine lv_aload_nN hx hb d_Walk_compares_82 rfl (lv_at hl 1 rfl) ?_
                refine lv_aloadN hx hb d_Walk_compares_83 (lv_at hl 0 rfl) ?_
                have ho5 : op = 2 := kd_op hop (by decide) (hkd.symm.trans hs25_2)
                subst ho5
                refine vp_callSi (va_Run.run (va_runS (As := [.null, .null]) (rest := []) ⟨hx, hb, hml, hown, hts⟩ (g_Value_less l dC dI H cI cV E lv L (pf f n23) (hO.num n23) none none hOle hOri (x9 rtn cun).1 (y9 rtn cun).1 hXle hXri) (va_cwS 2 hts (gt_S (own := R_Walk) (i := 194) (y := y_Value_less) i_Value_less z_935 z_936 z_14) rfl rfl rfl (by decide +kernel) ⟨by show 3 + 1 ≤ 59 + 5 * n; omega, by show 8 + (2 + 11) + (130) ≤ 2460 + 200 * n; omega⟩) ⟨mq_blind, fun U hU hW => ⟨rfl, hU, by rw [hU]; exact hP.part (cx := []) [] rfl, va_K.moved hW.alike hK, hN.warm hW⟩⟩ rfl rfl hl.1 rfl (lv_room (Nat.le_of_ble_eq_true rfl)) d_Walk_compares_85 ⟨Nat.le_of_ble_eq_true rfl, Nat.le_of_ble_eq_true rfl⟩)) (fun r27 h_r27 => ?_)
                refine w_same (fun hq => ?_)
                refine W.widen (k := 1) (n := 6) (Nat.le_of_ble_eq_true rfl) (Nat.le_of_ble_eq_true rfl) ?_
                refine vx_ret ?_
                exact W.zret (v := r27) hx hb hr (Bo.nar (bI_Bo h_r27)) (fun t9 ht hW => ⟨⟨r27, (s23, g23, n23), rfl, ⟨(h_r27.trans (by rw [show (cmpC 2 x9 y9 rtn cun).1 = lessO _ _ from cmp_2])), hAll⟩, ⟨by rw [ht]; exact hP, va_K.moved hW.alike hK, hD⟩, by rw [ht]; exact hq⟩, hS.F ht⟩) hS.2.2 d_Walk_compares_88
              · by_cases hs25_3 : kd9 = 7
                · refine lv_tableIn (tgt := 89) (off := 64) hx hb d_Walk_compares_25 (by rw [hs25_3]; decide) (by rw [hs25_3]; decide) (by rw [hs25_3]; rfl) (by decide) ?_
                  refine lv_aload_nN hx hb d_Walk_compares_89 rfl (lv_at hl 1 rfl) ?_
                  refine lv_aloadN hx hb d_Walk_compares_90 (lv_at hl 0 rfl) ?_
                  have ho5 : op = 3 := kd_op hop (by decide) (hkd.symm.trans hs25_3)
                  subst ho5
                  refine vp_callSi (va_Run.run (va_runS (As := [.null, .null]) (rest := []) ⟨hx, hb, hml, hown, hts⟩ (g_Value_less l dC dI H cI cV E lv L (pf f n23) (hO.num n23) none none hOle hOri (x9 rtn cun).1 (y9 rtn cun).1 hXle hXri) (va_cwS 2 hts (gt_S (own := R_Walk) (i := 194) (y := y_Value_less) i_Value_less z_935 z_936 z_14) rfl rfl rfl (by decide +kernel) ⟨by show 3 + 1 ≤ 59 + 5 * n; omega, by show 8 + (2 + 11) + (130) ≤ 2460 + 200 * n; omega⟩) ⟨mq_blind, fun U hU hW => ⟨rfl, hU, by rw [hU]; exact hP.part (cx := []) [] rfl, va_K.moved hW.alike hK, hN.warm hW⟩⟩ rfl rfl hl.1 rfl (lv_room (Nat.le_of_ble_eq_true rfl)) d_Walk_compares_92 ⟨Nat.le_of_ble_eq_true rfl, Nat.le_of_ble_eq_true rfl⟩)) (fun r28 h_r28 => ?_)
                  refine lv_if_ne (tgt := 107) hx hb d_Walk_compares_95 (by decide) (fun c95 => ?_) (fun c95 => ?_)
                  · refine lv_iconst (v := 1) hx hb d_Walk_compares_107 (by decide) ?_
                    refine lv_goto (tgt := 112) hx hb d_Walk_compares_108 (by decide) ?_
                    refine w_same (fun hq => ?_)
                    refine W.widen (k := 1) (n := 6) (Nat.le_of_ble_eq_true rfl) (Nat.le_of_ble_eq_true rfl) ?_
                    refine vx_ret ?_
                    exact W.zret (v := 1) hx hb hr rfl (fun t9 ht hW => ⟨⟨1, (s23, g23, n23), rfl, ⟨(by rw [show (cmpC 3 x9 y9 rtn cun).1 = (lessO _ _ || sameO _ _) from cmp_3, (bI_01 h_r28).1 c95]; rfl), hAll⟩, ⟨by rw [ht]; exact hP, va_K.moved hW.alike hK, hD⟩, by rw [ht]; exact hq⟩, hS.F ht⟩) hS.2.2 d_Walk_compares_112
                  · refine lv_aload_nN hx hb d_Walk_compares_98 rfl (lv_at hl 1 rfl) ?_
                    refine lv_aloadN hx hb d_Walk_compares_99 (lv_at hl 0 rfl) ?_
                    refine vp_callSi (va_Run.run (va_runS (As := [.null, .null]) (rest := []) ⟨hx, hb, hml, hown, hts⟩ (g_Value_same l dC dI H cI cV E lv L (pf f n23) (hO.num n23) none none hOle hOri (x9 rtn cun).1 (y9 rtn cun).1 hXle hXri hZle) (va_cwS 2 hts (gt_S (own := R_Walk) (i := 190) (y := y_Value_same) i_Value_same z_928 z_929 z_14) rfl rfl rfl (by decide +kernel) ⟨by show 40 + 1 ≤ 59 + 5 * n; omega, by show 8 + (2 + 11) + (1700) ≤ 2460 + 200 * n; omega⟩) ⟨mq_blind, fun U hU hW => ⟨rfl, hU, by rw [hU]; exact hP.part (cx := []) [] rfl, va_K.moved hW.alike hK, hN.warm hW⟩⟩ rfl rfl hl.1 rfl (lv_room (Nat.le_of_ble_eq_true rfl)) d_Walk_compares_101 ⟨Nat.le_of_ble_eq_true rfl, Nat.le_of_ble_eq_true rfl⟩)) (fun r29 h_r29 => ?_)
                    refine lv_if_eq (tgt := 111) hx hb d_Walk_compares_104 (by decide) (fun c104 => ?_) (fun c104 => ?_)
                    · refine lv_iconst (v := 0) hx hb d_Walk_compares_111 (by decide) ?_
                      refine w_same (fun hq => ?_)
                      refine W.widen (k := 1) (n := 6) (Nat.le_of_ble_eq_true rfl) (Nat.le_of_ble_eq_true rfl) ?_
                      refine vx_ret ?_
                      exact W.zret (v := 0) hx hb hr rfl (fun t9 ht hW => ⟨⟨0, (s23, g23, n23), rfl, ⟨(by rw [show (cmpC 3 x9 y9 rtn cun).1 = (lessO _ _ || sameO _ _) from cmp_3, (bI_01 h_r28).2 c95, (bI_01 h_r29).2 c104]; rfl), hAll⟩, ⟨by rw [ht]; exact hP, va_K.moved hW.alike hK, hD⟩, by rw [ht]; exact hq⟩, hS.F ht⟩) hS.2.2 d_Walk_compares_112
                    · refine lv_iconst (v := 1) hx hb d_Walk_compares_107 (by decide) ?_
                      refine lv_goto (tgt := 112) hx hb d_Walk_compares_108 (by decide) ?_
                      refine w_same (fun hq => ?_)
                      refine W.widen (k := 1) (n := 6) (Nat.le_of_ble_eq_true rfl) (Nat.le_of_ble_eq_true rfl) ?_
                      refine vx_ret ?_
                      exact W.zret (v := 1) hx hb hr rfl (fun t9 ht hW => ⟨⟨1, (s23, g23, n23), rfl, ⟨(by rw [show (cmpC 3 x9 y9 rtn cun).1 = (lessO _ _ || sameO _ _) from cmp_3, (bI_01 h_r29).1 c104, Bool.or_true]; rfl), hAll⟩, ⟨by rw [ht]; exact hP, va_K.moved hW.alike hK, hD⟩, by rw [ht]; exact hq⟩, hS.F ht⟩) hS.2.2 d_Walk_compares_112
                · by_cases hs25_4 : kd9 = 8
                  · refine lv_tableIn (tgt := 113) (off := 88) hx hb d_Walk_compares_25 (by rw [hs25_4]; decide) (by rw [hs25_4]; decide) (by rw [hs25_4]; rfl) (by decide) ?_
                    refine lv_aloadN hx hb d_Walk_compares_113 (lv_at hl 0 rfl) ?_
                    refine lv_aload_nN hx hb d_Walk_compares_115 rfl (lv_at hl 1 rfl) ?_
                    have ho5 : op = 4 := kd_op hop (by decide) (hkd.symm.trans hs25_4)
                    subst ho5
                    refine vp_callSi (va_Run.run (va_runS (As := [.null, .null]) (rest := []) ⟨hx, hb, hml, hown, hts⟩ (g_Value_less l dC dI H cI cV E lv L (pf f n23) (hO.num n23) none none hOri hOle (y9 rtn cun).1 (x9 rtn cun).1 hXri hXle) (va_cwS 2 hts (gt_S (own := R_Walk) (i := 194) (y := y_Value_less) i_Value_less z_935 z_936 z_14) rfl rfl rfl (by decide +kernel) ⟨by show 3 + 1 ≤ 59 + 5 * n; omega, by show 8 + (2 + 11) + (130) ≤ 2460 + 200 * n; omega⟩) ⟨mq_blind, fun U hU hW => ⟨rfl, hU, by rw [hU]; exact hP.part (cx := []) [] rfl, va_K.moved hW.alike hK, hN.warm hW⟩⟩ rfl rfl hl.1 rfl (lv_room (Nat.le_of_ble_eq_true rfl)) d_Walk_compares_116 ⟨Nat.le_of_ble_eq_true rfl, Nat.le_of_ble_eq_true rfl⟩)) (fun r30 h_r30 => ?_)
                    refine w_same (fun hq => ?_)
                    refine W.widen (k := 1) (n := 6) (Nat.le_of_ble_eq_true rfl) (Nat.le_of_ble_eq_true rfl) ?_
                    refine vx_ret ?_
                    exact W.zret (v := r30) hx hb hr (Bo.nar (bI_Bo h_r30)) (fun t9 ht hW => ⟨⟨r30, (s23, g23, n23), rfl, ⟨(h_r30.trans (by rw [show (cmpC 4 x9 y9 rtn cun).1 = lessO _ _ from cmp_4])), hAll⟩, ⟨by rw [ht]; exact hP, va_K.moved hW.alike hK, hD⟩, by rw [ht]; exact hq⟩, hS.F ht⟩) hS.2.2 d_Walk_compares_119
                  · have hk25_0 := i_neN 4 rfl hs25_0
                    have hk25_1 := i_neN 5 rfl hs25_1
                    have hk25_2 := i_neN 6 rfl hs25_2
                    have hk25_3 := i_neN 7 rfl hs25_3
                    have hk25_4 := i_neN 8 rfl hs25_4
                    refine lv_tableOut (tgt := 120) hx hb d_Walk_compares_25 (by omega) (by decide) ?_
                    refine lv_aloadN hx hb d_Walk_compares_120 (lv_at hl 0 rfl) ?_
                    refine lv_aload_nN hx hb d_Walk_compares_122 rfl (lv_at hl 1 rfl) ?_
                    have ho5 : op = 5 := by have z : ∀ j, j ≤ 5 → ¬ kd9 = nI (4 + j) → ¬ op = j := fun j _ h e => h (by rw [hkd, e]); have z0 := z 0 (by decide) hs25_0; have z1 := z 1 (by decide) hs25_1; have z2 := z 2 (by decide) hs25_2; have z3 := z 3 (by decide) hs25_3; have z4 := z 4 (by decide) hs25_4; omega
                    subst ho5
                    refine vp_callSi (va_Run.run (va_runS (As := [.null, .null]) (rest := []) ⟨hx, hb, hml, hown, hts⟩ (g_Value_less l dC dI H cI cV E lv L (pf f n23) (hO.num n23) none none hOri hOle (y9 rtn cun).1 (x9 rtn cun).1 hXri hXle) (va_cwS 2 hts (gt_S (own := R_Walk) (i := 194) (y := y_Value_less) i_Value_less z_935 z_936 z_14) rfl rfl rfl (by decide +kernel) ⟨by show 3 + 1 ≤ 59 + 5 * n; omega, by show 8 + (2 + 11) + (130) ≤ 2460 + 200 * n; omega⟩) ⟨mq_blind, fun U hU hW => ⟨rfl, hU, by rw [hU]; exact hP.part (cx := []) [] rfl, va_K.moved hW.alike hK, hN.warm hW⟩⟩ rfl rfl hl.1 rfl (lv_room (Nat.le_of_ble_eq_true rfl)) d_Walk_compares_123 ⟨Nat.le_of_ble_eq_true rfl, Nat.le_of_ble_eq_true rfl⟩)) (fun r31 h_r31 => ?_)
                    refine lv_if_ne (tgt := 138) hx hb d_Walk_compares_126 (by decide) (fun c126 => ?_) (fun c126 => ?_)
                    · refine lv_iconst (v := 1) hx hb d_Walk_compares_138 (by decide) ?_
                      refine lv_goto (tgt := 143) hx hb d_Walk_compares_139 (by decide) ?_
                      refine w_same (fun hq => ?_)
                      refine W.widen (k := 1) (n := 6) (Nat.le_of_ble_eq_true rfl) (Nat.le_of_ble_eq_true rfl) ?_
                      refine vx_ret ?_
                      exact W.zret (v := 1) hx hb hr rfl (fun t9 ht hW => ⟨⟨1, (s23, g23, n23), rfl, ⟨(by rw [show (cmpC 5 x9 y9 rtn cun).1 = (lessO _ _ || sameO _ _) from cmp_5, (bI_01 h_r31).1 c126]; rfl), hAll⟩, ⟨by rw [ht]; exact hP, va_K.moved hW.alike hK, hD⟩, by rw [ht]; exact hq⟩, hS.F ht⟩) hS.2.2 d_Walk_compares_143
                    · refine lv_aload_nN hx hb d_Walk_compares_129 rfl (lv_at hl 1 rfl) ?_
                      refine lv_aloadN hx hb d_Walk_compares_130 (lv_at hl 0 rfl) ?_
                      refine vp_callSi (va_Run.run (va_runS (As := [.null, .null]) (rest := []) ⟨hx, hb, hml, hown, hts⟩ (g_Value_same l dC dI H cI cV E lv L (pf f n23) (hO.num n23) none none hOle hOri (x9 rtn cun).1 (y9 rtn cun).1 hXle hXri hZle) (va_cwS 2 hts (gt_S (own := R_Walk) (i := 190) (y := y_Value_same) i_Value_same z_928 z_929 z_14) rfl rfl rfl (by decide +kernel) ⟨by show 40 + 1 ≤ 59 + 5 * n; omega, by show 8 + (2 + 11) + (1700) ≤ 2460 + 200 * n; omega⟩) ⟨mq_blind, fun U hU hW => ⟨rfl, hU, by rw [hU]; exact hP.part (cx := []) [] rfl, va_K.moved hW.alike hK, hN.warm hW⟩⟩ rfl rfl hl.1 rfl (lv_room (Nat.le_of_ble_eq_true rfl)) d_Walk_compares_132 ⟨Nat.le_of_ble_eq_true rfl, Nat.le_of_ble_eq_true rfl⟩)) (fun r32 h_r32 => ?_)
                      refine lv_if_eq (tgt := 142) hx hb d_Walk_compares_135 (by decide) (fun c135 => ?_) (fun c135 => ?_)
                      · refine lv_iconst (v := 0) hx hb d_Walk_compares_142 (by decide) ?_
                        refine w_same (fun hq => ?_)
                        refine W.widen (k := 1) (n := 6) (Nat.le_of_ble_eq_true rfl) (Nat.le_of_ble_eq_true rfl) ?_
                        refine vx_ret ?_
                        exact W.zret (v := 0) hx hb hr rfl (fun t9 ht hW => ⟨⟨0, (s23, g23, n23), rfl, ⟨(by rw [show (cmpC 5 x9 y9 rtn cun).1 = (lessO _ _ || sameO _ _) from cmp_5, (bI_01 h_r31).2 c126, (bI_01 h_r32).2 c135]; rfl), hAll⟩, ⟨by rw [ht]; exact hP, va_K.moved hW.alike hK, hD⟩, by rw [ht]; exact hq⟩, hS.F ht⟩) hS.2.2 d_Walk_compares_143
                      · refine lv_iconst (v := 1) hx hb d_Walk_compares_138 (by decide) ?_
                        refine lv_goto (tgt := 143) hx hb d_Walk_compares_139 (by decide) ?_
                        refine w_same (fun hq => ?_)
                        refine W.widen (k := 1) (n := 6) (Nat.le_of_ble_eq_true rfl) (Nat.le_of_ble_eq_true rfl) ?_
                        refine vx_ret ?_
                        exact W.zret (v := 1) hx hb hr rfl (fun t9 ht hW => ⟨⟨1, (s23, g23, n23), rfl, ⟨(by rw [show (cmpC 5 x9 y9 rtn cun).1 = (lessO _ _ || sameO _ _) from cmp_5, (bI_01 h_r32).1 c135, Bool.or_true]; rfl), hAll⟩, ⟨by rw [ht]; exact hP, va_K.moved hW.alike hK, hD⟩, by rw [ht]; exact hq⟩, hS.F ht⟩) hS.2.2 d_Walk_compares_143
        · refine lv_astore (lv' := [(4, .ref b24), (3, .null), (0, .ref wk), (1, .ref co), (2, .ref cu)]) hx hb d_Walk_compares_19 hl (by decide) rfl (fun ls hl => ?_)
          refine lv_aload_n hx hb d_Walk_compares_21 rfl (lv_at hl 3 rfl) ?_
          refine vq_get (D := (dC, dI)) (ci := 0) (v := .int kd9) (C := R_Condition) (T := F_Condition) (N := 6) hx hb hts in_Condition hown hK hP (hO.inL (a := co) (by rw [hco]; decide)) (pf_K ef9) rfl 0 (by decide) (hts _ z_677) (fun _ h9 => h9) rfl d_Walk_compares_22 ?_
          by_cases hs25_0 : kd9 = 4
          · refine lv_tableIn (tgt := 60) (off := 35) hx hb d_Walk_compares_25 (by rw [hs25_0]; decide) (by rw [hs25_0]; decide) (by rw [hs25_0]; rfl) (by decide) ?_
            refine lv_aload_nN hx hb d_Walk_compares_60 rfl (lv_at hl 1 rfl) ?_
            refine lv_aload hx hb d_Walk_compares_61 (lv_at hl 0 rfl) ?_
            have ho5 : op = 0 := kd_op hop (by decide) (hkd.symm.trans hs25_0)
            subst ho5
            refine vp_callSi (va_Run.run (va_runS (As := [.null, .ref b24]) (rest := []) ⟨hx, hb, hml, hown, hts⟩ (g_Value_same l dC dI H cI cV E lv L (pf f n23) (hO.num n23) none (some b24) hOle hOri (x9 rtn cun).1 (y9 rtn cun).1 hXle hXri hZle) (va_cwS 2 hts (gt_S (own := R_Walk) (i := 190) (y := y_Value_same) i_Value_same z_928 z_929 z_14) rfl rfl rfl (by decide +kernel) ⟨by show 40 + 1 ≤ 59 + 5 * n; omega, by show 8 + (2 + 11) + (1700) ≤ 2460 + 200 * n; omega⟩) ⟨mq_blind, fun U hU hW => ⟨rfl, hU, by rw [hU]; exact hP.part (cx := []) [] rfl, va_K.moved hW.alike hK, hN.warm hW⟩⟩ rfl rfl hl.1 rfl (lv_room (Nat.le_of_ble_eq_true rfl)) d_Walk_compares_63 ⟨Nat.le_of_ble_eq_true rfl, Nat.le_of_ble_eq_true rfl⟩)) (fun r33 h_r33 => ?_)
            refine w_same (fun hq => ?_)
            refine W.widen (k := 1) (n := 6) (Nat.le_of_ble_eq_true rfl) (Nat.le_of_ble_eq_true rfl) ?_
            refine vx_ret ?_
            exact W.zret (v := r33) hx hb hr (Bo.nar (bI_Bo h_r33)) (fun t9 ht hW => ⟨⟨r33, (s23, g23, n23), rfl, ⟨(h_r33.trans (by rw [show (cmpC 0 x9 y9 rtn cun).1 = sameO _ _ from cmp_0])), hAll⟩, ⟨by rw [ht]; exact hP, va_K.moved hW.alike hK, hD⟩, by rw [ht]; exact hq⟩, hS.F ht⟩) hS.2.2 d_Walk_compares_66
          · by_cases hs25_1 : kd9 = 5
            · refine lv_tableIn (tgt := 67) (off := 42) hx hb d_Walk_compares_25 (by rw [hs25_1]; decide) (by rw [hs25_1]; decide) (by rw [hs25_1]; rfl) (by decide) ?_
              refine lv_aload_nN hx hb d_Walk_compares_67 rfl (lv_at hl 1 rfl) ?_
              refine lv_aload hx hb d_Walk_compares_68 (lv_at hl 0 rfl) ?_
              have ho5 : op = 1 := kd_op hop (by decide) (hkd.symm.trans hs25_1)
              subst ho5
              refine vp_callSi (va_Run.run (va_runS (As := [.null, .ref b24]) (rest := []) ⟨hx, hb, hml, hown, hts⟩ (g_Value_same l dC dI H cI cV E lv L (pf f n23) (hO.num n23) none (some b24) hOle hOri (x9 rtn cun).1 (y9 rtn cun).1 hXle hXri hZle) (va_cwS 2 hts (gt_S (own := R_Walk) (i := 190) (y := y_Value_same) i_Value_same z_928 z_929 z_14) rfl rfl rfl (by decide +kernel) ⟨by show 40 + 1 ≤ 59 + 5 * n; omega, by show 8 + (2 + 11) + (1700) ≤ 2460 + 200 * n; omega⟩) ⟨mq_blind, fun U hU hW => ⟨rfl, hU, by rw [hU]; exact hP.part (cx := []) [] rfl, va_K.moved hW.alike hK, hN.warm hW⟩⟩ rfl rfl hl.1 rfl (lv_room (Nat.le_of_ble_eq_true rfl)) d_Walk_compares_70 ⟨Nat.le_of_ble_eq_true rfl, Nat.le_of_ble_eq_true rfl⟩)) (fun r34 h_r34 => ?_)
              refine lv_if_ne (tgt := 80) hx hb d_Walk_compares_73 (by decide) (fun c73 => ?_) (fun c73 => ?_)
              · refine lv_iconst (v := 0) hx hb d_Walk_compares_80 (by decide) ?_
                refine w_same (fun hq => ?_)
                refine W.widen (k := 1) (n := 6) (Nat.le_of_ble_eq_true rfl) (Nat.le_of_ble_eq_true rfl) ?_
                refine vx_ret ?_
                exact W.zret (v := 0) hx hb hr rfl (fun t9 ht hW => ⟨⟨0, (s23, g23, n23), rfl, ⟨(by rw [show (cmpC 1 x9 y9 rtn cun).1 = !(sameO _ _) from cmp_1, (bI_01 h_r34).1 c73]; rfl), hAll⟩, ⟨by rw [ht]; exact hP, va_K.moved hW.alike hK, hD⟩, by rw [ht]; exact hq⟩, hS.F ht⟩) hS.2.2 d_Walk_compares_81
              · refine lv_iconst (v := 1) hx hb d_Walk_compares_76 (by decide) ?_
                refine lv_goto (tgt := 81) hx hb d_Walk_compares_77 (by decide) ?_
                refine w_same (fun hq => ?_)
                refine W.widen (k := 1) (n := 6) (Nat.le_of_ble_eq_true rfl) (Nat.le_of_ble_eq_true rfl) ?_
                refine vx_ret ?_
                exact W.zret (v := 1) hx hb hr rfl (fun t9 ht hW => ⟨⟨1, (s23, g23, n23), rfl, ⟨(by rw [show (cmpC 1 x9 y9 rtn cun).1 = !(sameO _ _) from cmp_1, (bI_01 h_r34).2 c73]; rfl), hAll⟩, ⟨by rw [ht]; exact hP, va_K.moved hW.alike hK, hD⟩, by rw [ht]; exact hq⟩, hS.F ht⟩) hS.2.2 d_Walk_compares_81
            · by_cases hs25_2 : kd9 = 6
              · refine lv_tableIn (tgt := 82) (off := 57) hx hb d_Walk_compares_25 (by rw [hs25_2]; decide) (by rw [hs25_2]; decide) (by rw [hs25_2]; rfl) (by decide) ?_
                refine lv_aload_nN hx hb d_Walk_compares_82 rfl (lv_at hl 1 rfl) ?_
                refine lv_aload hx hb d_Walk_compares_83 (lv_at hl 0 rfl) ?_
                have ho5 : op = 2 := kd_op hop (by decide) (hkd.symm.trans hs25_2)
                subst ho5
                refine vp_callSi (va_Run.run (va_runS (As := [.null, .ref b24]) (rest := []) ⟨hx, hb, hml, hown, hts⟩ (g_Value_less l dC dI H cI cV E lv L (pf f n23) (hO.num n23) none (some b24) hOle hOri (x9 rtn cun).1 (y9 rtn cun).1 hXle hXri) (va_cwS 2 hts (gt_S (own := R_Walk) (i := 194) (y := y_Value_less) i_Value_less z_935 z_936 z_14) rfl rfl rfl (by decide +kernel) ⟨by show 3 + 1 ≤ 59 + 5 * n; omega, by show 8 + (2 + 11) + (130) ≤ 2460 + 200 * n; omega⟩) ⟨mq_blind, fun U hU hW => ⟨rfl, hU, by rw [hU]; exact hP.part (cx := []) [] rfl, va_K.moved hW.alike hK, hN.warm hW⟩⟩ rfl rfl hl.1 rfl (lv_room (Nat.le_of_ble_eq_true rfl)) d_Walk_compares_85 ⟨Nat.le_of_ble_eq_true rfl, Nat.le_of_ble_eq_true rfl⟩)) (fun r35 h_r35 => ?_)
                refine w_same (fun hq => ?_)
                refine W.widen (k := 1) (n := 6) (Nat.le_of_ble_eq_true rfl) (Nat.le_of_ble_eq_true rfl) ?_
                refine vx_ret ?_
                exact W.zret (v := r35) hx hb hr (Bo.nar (bI_Bo h_r35)) (fun t9 ht hW => ⟨⟨r35, (s23, g23, n23), rfl, ⟨(h_r35.trans (by rw [show (cmpC 2 x9 y9 rtn cun).1 = lessO _ _ from cmp_2])), hAll⟩, ⟨by rw [ht]; exact hP, va_K.moved hW.alike hK, hD⟩, by rw [ht]; exact hq⟩, hS.F ht⟩) hS.2.2 d_Walk_compares_88
              · by_cases hs25_3 : kd9 = 7
                · refine lv_tableIn (tgt := 89) (off := 64) hx hb d_Walk_compares_25 (by rw [hs25_3]; decide) (by rw [hs25_3]; decide) (by rw [hs25_3]; rfl) (by decide) ?_
                  refine lv_aload_nN hx hb d_Walk_compares_89 rfl (lv_at hl 1 rfl) ?_
                  refine lv_aload hx hb d_Walk_compares_90 (lv_at hl 0 rfl) ?_
                  have ho5 : op = 3 := kd_op hop (by decide) (hkd.symm.trans hs25_3)
                  subst ho5
                  refine vp_callSi (va_Run.run (va_runS (As := [.null, .ref b24]) (rest := []) ⟨hx, hb, hml, hown, hts⟩ (g_Value_less l dC dI H cI cV E lv L (pf f n23) (hO.num n23) none (some b24) hOle hOri (x9 rtn cun).1 (y9 rtn cun).1 hXle hXri) (va_cwS 2 hts (gt_S (own := R_Walk) (i := 194) (y := y_Value_less) i_Value_less z_935 z_936 z_14) rfl rfl rfl (by decide +kernel) ⟨by show 3 + 1 ≤ 59 + 5 * n; omega, by show 8 + (2 + 11) + (130) ≤ 2460 + 200 * n; omega⟩) ⟨mq_blind, fun U hU hW => ⟨rfl, hU, by rw [hU]; exact hP.part (cx := []) [] rfl, va_K.moved hW.alike hK, hN.warm hW⟩⟩ rfl rfl hl.1 rfl (lv_room (Nat.le_of_ble_eq_true rfl)) d_Walk_compares_92 ⟨Nat.le_of_ble_eq_true rfl, Nat.le_of_ble_eq_true rfl⟩)) (fun r36 h_r36 => ?_)
                  refine lv_if_ne (tgt := 107) hx hb d_Walk_compares_95 (by decide) (fun c95 => ?_) (fun c95 => ?_)
                  · refine lv_iconst (v := 1) hx hb d_Walk_compares_107 (by decide) ?_
                    refine lv_goto (tgt := 112) hx hb d_Walk_compares_108 (by decide) ?_
                    refine w_same (fun hq => ?_)
                    refine W.widen (k := 1) (n := 6) (Nat.le_of_ble_eq_true rfl) (Nat.le_of_ble_eq_true rfl) ?_
                    refine vx_ret ?_
                    exact W.zret (v := 1) hx hb hr rfl (fun t9 ht hW => ⟨⟨1, (s23, g23, n23), rfl, ⟨(by rw [show (cmpC 3 x9 y9 rtn cun).1 = (lessO _ _ || sameO _ _) from cmp_3, (bI_01 h_r36).1 c95]; rfl), hAll⟩, ⟨by rw [ht]; exact hP, va_K.moved hW.alike hK, hD⟩, by rw [ht]; exact hq⟩, hS.F ht⟩) hS.2.2 d_Walk_compares_112
                  · refine lv_aload_nN hx hb d_Walk_compares_98 rfl (lv_at hl 1 rfl) ?_
                    refine lv_aload hx hb d_Walk_compares_99 (lv_at hl 0 rfl) ?_
                    refine vp_callSi (va_Run.run (va_runS (As := [.null, .ref b24]) (rest := []) ⟨hx, hb, hml, hown, hts⟩ (g_Value_same l dC dI H cI cV E lv L (pf f n23) (hO.num n23) none (some b24) hOle hOri (x9 rtn cun).1 (y9 rtn cun).1 hXle hXri hZle) (va_cwS 2 hts (gt_S (own := R_Walk) (i := 190) (y := y_Value_same) i_Value_same z_928 z_929 z_14) rfl rfl rfl (by decide +kernel) ⟨by show 40 + 1 ≤ 59 + 5 * n; omega, by show 8 + (2 + 11) + (1700) ≤ 2460 + 200 * n; omega⟩) ⟨mq_blind, fun U hU hW => ⟨rfl, hU, by rw [hU]; exact hP.part (cx := []) [] rfl, va_K.moved hW.alike hK, hN.warm hW⟩⟩ rfl rfl hl.1 rfl (lv_room (Nat.le_of_ble_eq_true rfl)) d_Walk_compares_101 ⟨Nat.le_of_ble_eq_true rfl, Nat.le_of_ble_eq_true rfl⟩)) (fun r37 h_r37 => ?_)
                    refine lv_if_eq (tgt := 111) hx hb d_Walk_compares_104 (by decide) (fun c104 => ?_) (fun c104 => ?_)
                    · refine lv_iconst (v := 0) hx hb d_Walk_compares_111 (by decide) ?_
                      refine w_same (fun hq => ?_)
                      refine W.widen (k := 1) (n := 6) (Nat.le_of_ble_eq_true rfl) (Nat.le_of_ble_eq_true rfl) ?_
                      refine vx_ret ?_
                      exact W.zret (v := 0) hx hb hr rfl (fun t9 ht hW => ⟨⟨0, (s23, g23, n23), rfl, ⟨(by rw [show (cmpC 3 x9 y9 rtn cun).1 = (lessO _ _ || sameO _ _) from cmp_3, (bI_01 h_r36).2 c95, (bI_01 h_r37).2 c104]; rfl), hAll⟩, ⟨by rw [ht]; exact hP, va_K.moved hW.alike hK, hD⟩, by rw [ht]; exact hq⟩, hS.F ht⟩) hS.2.2 d_Walk_compares_112
                    · refine lv_iconst (v := 1) hx hb d_Walk_compares_107 (by decide) ?_
                      refine lv_goto (tgt := 112) hx hb d_Walk_compares_108 (by decide) ?_
                      refine w_same (fun hq => ?_)
                      refine W.widen (k := 1) (n := 6) (Nat.le_of_ble_eq_true rfl) (Nat.le_of_ble_eq_true rfl) ?_
                      refine vx_ret ?_
                      exact W.zret (v := 1) hx hb hr rfl (fun t9 ht hW => ⟨⟨1, (s23, g23, n23), rfl, ⟨(by rw [show (cmpC 3 x9 y9 rtn cun).1 = (lessO _ _ || sameO _ _) from cmp_3, (bI_01 h_r37).1 c104, Bool.or_true]; rfl), hAll⟩, ⟨by rw [ht]; exact hP, va_K.moved hW.alike hK, hD⟩, by rw [ht]; exact hq⟩, hS.F ht⟩) hS.2.2 d_Walk_compares_112
                · by_cases hs25_4 : kd9 = 8
                  · refine lv_tableIn (tgt := 113) (off := 88) hx hb d_Walk_compares_25 (by rw [hs25_4]; decide) (by rw [hs25_4]; decide) (by rw [hs25_4]; rfl) (by decide) ?_
                    refine lv_aload hx hb d_Walk_compares_113 (lv_at hl 0 rfl) ?_
                    refine lv_aload_nN hx hb d_Walk_compares_115 rfl (lv_at hl 1 rfl) ?_
                    have ho5 : op = 4 := kd_op hop (by decide) (hkd.symm.trans hs25_4)
                    subst ho5
                    refine vp_callSi (va_Run.run (va_runS (As := [.ref b24, .null]) (rest := []) ⟨hx, hb, hml, hown, hts⟩ (g_Value_less l dC dI H cI cV E lv L (pf f n23) (hO.num n23) (some b24) none hOri hOle (y9 rtn cun).1 (x9 rtn cun).1 hXri hXle) (va_cwS 2 hts (gt_S (own := R_Walk) (i := 194) (y := y_Value_less) i_Value_less z_935 z_936 z_14) rfl rfl rfl (by decide +kernel) ⟨by show 3 + 1 ≤ 59 + 5 * n; omega, by show 8 + (2 + 11) + (130) ≤ 2460 + 200 * n; omega⟩) ⟨mq_blind, fun U hU hW => ⟨rfl, hU, by rw [hU]; exact hP.part (cx := []) [] rfl, va_K.moved hW.alike hK, hN.warm hW⟩⟩ rfl rfl hl.1 rfl (lv_room (Nat.le_of_ble_eq_true rfl)) d_Walk_compares_116 ⟨Nat.le_of_ble_eq_true rfl, Nat.le_of_ble_eq_true rfl⟩)) (fun r38 h_r38 => ?_)
                    refine w_same (fun hq => ?_)
                    refine W.widen (k := 1) (n := 6) (Nat.le_of_ble_eq_true rfl) (Nat.le_of_ble_eq_true rfl) ?_
                    refine vx_ret ?_
                    exact W.zret (v := r38) hx hb hr (Bo.nar (bI_Bo h_r38)) (fun t9 ht hW => ⟨⟨r38, (s23, g23, n23), rfl, ⟨(h_r38.trans (by rw [show (cmpC 4 x9 y9 rtn cun).1 = lessO _ _ from cmp_4])), hAll⟩, ⟨by rw [ht]; exact hP, va_K.moved hW.alike hK, hD⟩, by rw [ht]; exact hq⟩, hS.F ht⟩) hS.2.2 d_Walk_compares_119
                  · have hk25_0 := i_neN 4 rfl hs25_0
                    have hk25_1 := i_neN 5 rfl hs25_1
                    have hk25_2 := i_neN 6 rfl hs25_2
                    have hk25_3 := i_neN 7 rfl hs25_3
                    have hk25_4 := i_neN 8 rfl hs25_4
                    refine lv_tableOut (tgt := 120) hx hb d_Walk_compares_25 (by omega) (by decide) ?_
                    refine lv_aload hx hb d_Walk_compares_120 (lv_at hl 0 rfl) ?_
                    refine lv_aload_nN hx hb d_Walk_compares_122 rfl (lv_at hl 1 rfl) ?_
                    have ho5 : op = 5 := by have z : ∀ j, j ≤ 5 → ¬ kd9 = nI (4 + j) → ¬ op = j := fun j _ h e => h (by rw [hkd, e]); have z0 := z 0 (by decide) hs25_0; have z1 := z 1 (by decide) hs25_1; have z2 := z 2 (by decide) hs25_2; have z3 := z 3 (by decide) hs25_3; have z4 := z 4 (by decide) hs25_4; omega
                    subst ho5
                    refine vp_callSi (va_Run.run (va_runS (As := [.ref b24, .null]) (rest := []) ⟨hx, hb, hml, hown, hts⟩ (g_Value_less l dC dI H cI cV E lv L (pf f n23) (hO.num n23) (some b24) none hOri hOle (y9 rtn cun).1 (x9 rtn cun).1 hXri hXle) (va_cwS 2 hts (gt_S (own := R_Walk) (i := 194) (y := y_Value_less) i_Value_less z_935 z_936 z_14) rfl rfl rfl (by decide +kernel) ⟨by show 3 + 1 ≤ 59 + 5 * n; omega, by show 8 + (2 + 11) + (130) ≤ 2460 + 200 * n; omega⟩) ⟨mq_blind, fun U hU hW => ⟨rfl, hU, by rw [hU]; exact hP.part (cx := []) [] rfl, va_K.moved hW.alike hK, hN.warm hW⟩⟩ rfl rfl hl.1 rfl (lv_room (Nat.le_of_ble_eq_true rfl)) d_Walk_compares_123 ⟨Nat.le_of_ble_eq_true rfl, Nat.le_of_ble_eq_true rfl⟩)) (fun r39 h_r39 => ?_)
                    refine lv_if_ne (tgt := 138) hx hb d_Walk_compares_126 (by decide) (fun c126 => ?_) (fun c126 => ?_)
                    · refine lv_iconst (v := 1) hx hb d_Walk_compares_138 (by decide) ?_
                      refine lv_goto (tgt := 143) hx hb d_Walk_compares_139 (by decide) ?_
                      refine w_same (fun hq => ?_)
                      refine W.widen (k := 1) (n := 6) (Nat.le_of_ble_eq_true rfl) (Nat.le_of_ble_eq_true rfl) ?_
                      refine vx_ret ?_
                      exact W.zret (v := 1) hx hb hr rfl (fun t9 ht hW => ⟨⟨1, (s23, g23, n23), rfl, ⟨(by rw [show (cmpC 5 x9 y9 rtn cun).1 = (lessO _ _ || sameO _ _) from cmp_5, (bI_01 h_r39).1 c126]; rfl), hAll⟩, ⟨by rw [ht]; exact hP, va_K.moved hW.alike hK, hD⟩, by rw [ht]; exact hq⟩, hS.F ht⟩) hS.2.2 d_Walk_compares_143
                    · refine lv_aload_nN hx hb d_Walk_compares_129 rfl (lv_at hl 1 rfl) ?_
                      refine lv_aload hx hb d_Walk_compares_130 (lv_at hl 0 rfl) ?_
                      refine vp_callSi (va_Run.run (va_runS (As := [.null, .ref b24]) (rest := []) ⟨hx, hb, hml, hown, hts⟩ (g_Value_same l dC dI H cI cV E lv L (pf f n23) (hO.num n23) none (some b24) hOle hOri (x9 rtn cun).1 (y9 rtn cun).1 hXle hXri hZle) (va_cwS 2 hts (gt_S (own := R_Walk) (i := 190) (y := y_Value_same) i_Value_same z_928 z_929 z_14) rfl rfl rfl (by decide +kernel) ⟨by show 40 + 1 ≤ 59 + 5 * n; omega, by show 8 + (2 + 11) + (1700) ≤ 2460 + 200 * n; omega⟩) ⟨mq_blind, fun U hU hW => ⟨rfl, hU, by rw [hU]; exact hP.part (cx := []) [] rfl, va_K.moved hW.alike hK, hN.warm hW⟩⟩ rfl rfl hl.1 rfl (lv_room (Nat.le_of_ble_eq_true rfl)) d_Walk_compares_132 ⟨Nat.le_of_ble_eq_true rfl, Nat.le_of_ble_eq_true rfl⟩)) (fun r40 h_r40 => ?_)
                      refine lv_if_eq (tgt := 142) hx hb d_Walk_compares_135 (by decide) (fun c135 => ?_) (fun c135 => ?_)
                      · refine lv_iconst (v := 0) hx hb d_Walk_compares_142 (by decide) ?_
                        refine w_same (fun hq => ?_)
                        refine W.widen (k := 1) (n := 6) (Nat.le_of_ble_eq_true rfl) (Nat.le_of_ble_eq_true rfl) ?_
                        refine vx_ret ?_
                        exact W.zret (v := 0) hx hb hr rfl (fun t9 ht hW => ⟨⟨0, (s23, g23, n23), rfl, ⟨(by rw [show (cmpC 5 x9 y9 rtn cun).1 = (lessO _ _ || sameO _ _) from cmp_5, (bI_01 h_r39).2 c126, (bI_01 h_r40).2 c135]; rfl), hAll⟩, ⟨by rw [ht]; exact hP, va_K.moved hW.alike hK, hD⟩, by rw [ht]; exact hq⟩, hS.F ht⟩) hS.2.2 d_Walk_compares_143
                      · refine lv_iconst (v := 1) hx hb d_Walk_compares_138 (by decide) ?_
                        refine lv_goto (tgt := 143) hx hb d_Walk_compares_139 (by decide) ?_
                        refine w_same (fun hq => ?_)
                        refine W.widen (k := 1) (n := 6) (Nat.le_of_ble_eq_true rfl) (Nat.le_of_ble_eq_true rfl) ?_
                        refine vx_ret ?_
                        exact W.zret (v := 1) hx hb hr rfl (fun t9 ht hW => ⟨⟨1, (s23, g23, n23), rfl, ⟨(by rw [show (cmpC 5 x9 y9 rtn cun).1 = (lessO _ _ || sameO _ _) from cmp_5, (bI_01 h_r40).1 c135, Bool.or_true]; rfl), hAll⟩, ⟨by rw [ht]; exact hP, va_K.moved hW.alike hK, hD⟩, by rw [ht]; exact hq⟩, hS.F ht⟩) hS.2.2 d_Walk_compares_143
    · refine lv_astore_n (lv' := [(3, .ref b22), (0, .ref wk), (1, .ref co), (2, .ref cu)]) hx hb d_Walk_compares_9 rfl hl (by decide) rfl (fun ls hl => ?_)
      refine lv_aload_n hx hb d_Walk_compares_10 rfl (lv_at hl 1 rfl) ?_
      refine lv_aload_n hx hb d_Walk_compares_11 rfl (lv_at hl 2 rfl) ?_
      refine vq_get (D := (dC, dI)) (ci := 0) (v := .ref ri) (C := R_Condition) (T := F_Condition) (N := 6) hx hb hts in_Condition hown hK hP (hO.inL (a := co) (by rw [hco]; decide)) (pf_K ef9) rfl 5 (by decide) (hts _ z_686) (fun _ h9 => h9) rfl d_Walk_compares_12 ?_
      refine lv_aload_n hx hb d_Walk_compares_15 rfl (lv_at hl 3 rfl) ?_
      have hPc := hP.part (cx := [(wk, .inr (10, [.ref wl, .int (nI tp), .int (nI s21), .ref rt])), (wl, .inl (cV, 10000, .inr (.inr (.inr (.inr g21)))))]) [0, 1] rfl
      have hDc := hD.part (cx := [(wk, .inr (10, [.ref wl, .int (nI tp), .int (nI s21), .ref rt])), (wl, .inl (cV, 10000, .inr (.inr (.inr (.inr g21)))))]) [0, 1] (by decide) rfl
      have hFc := va_freeP (cx := [(wk, .inr (10, [.ref wl, .int (nI tp), .int (nI s21), .ref rt])), (wl, .inl (cV, 10000, .inr (.inr (.inr (.inr g21)))))]) hD hS hA [0, 1] rfl
      have hKc := hK.sub (tys' := [(cI, .int), (cV, .object "QueryBench$Value")]) [0, 1] rfl
      refine w_same (fun hq0 => ?_)
      refine vx_callq (vx_runV (As := [.ref ri, .ref cu]) (rest := []) ⟨hx, hb, hml, hown, hts⟩ (HI H Sr tp s21 g21 n21 hJle (fun ν2 h2 => hDq9 ν2 (hUle.2.2.2.tr (h2.up hSr))) ri cu y9 cun hri hri2 (hOy.nu hO hri hUle.2.2.2 hSr) hcn) (cwV 2 hts (gt_V (own := R_Walk) (C := R_Walk) (i := 183) (y := y_Walk_valueOf) i_Walk_valueOf z_915 z_917 (gt_sel (y := y_Walk_valueOf) (n := 4) (by decide +kernel)) w_5) rfl rfl rfl (by decide +kernel) ⟨by show 60 + 5 * (n - 1) + 1 ≤ 59 + 5 * n; omega, by show 8 + (4 + 11) + (2500 + 200 * (n - 1)) ≤ 2460 + 200 * n; omega⟩) ⟨ml_blind, va_recv hK hP (ci := 10) (q0 := 0) rfl rfl, fun U hU hW => ⟨rfl, ⟨hU, by rw [hU]; exact hPc, va_K.moved hW.alike hKc, hDc.weaken (fun _ _ _ _ => trivial)⟩, hN.warm hW, by rw [hU]; exact ZX.moved' hW.alike (ZX.narrow' (ZX.kept' hZ hS.2.1) hFc), by rw [hU]; exact CE.call hC hS.2.1 hFc hW, va_AO.moved hW.alike hV⟩⟩ rfl rfl hl.1 rfl (lv_room (Nat.le_of_ble_eq_true rfl)) d_Walk_compares_16 ⟨Nat.le_of_ble_eq_true rfl, Nat.le_of_ble_eq_true rfl⟩) hS (fun q _ h => hFc q h) hFc (fun q _ h => hFc q h) (fun En ce q9 ⟨tx, sx, gx, nx⟩ t9 H1 locs ht hvm hw hB hz1 hk1 hS hce hcv hcl => ?_) (fun r41 ⟨s41, g41, n41⟩ t9 H1 locs ht hvm hw hB hz1 hk1 hS => ?_)
      · obtain ⟨hEn, hP1, hK1, hD1⟩ := hB
        rw [ht] at hP1
        obtain ⟨hP, hD⟩ := va_joinP (wr := []) (rx := [(wk, .inr (10, [.ref wl, .int tx, .int sx, .ref rt])), (wl, .inl (cV, 10000, .inr (.inr (.inr (.inr gx)))))]) (pl1 := va_pl L (pf f nx)) hP hD [0, 1] [] rfl rfl (by decide) (by decide) hk1 hFc hP1 hD1
        generalize H1 = H at hP hS hce ⊢
        have hP : va_P (dC, dI) classes ([(wk, .inr (10, [.ref wl, .int tx, .int sx, .ref rt])), (wl, .inl (cV, 10000, .inr (.inr (.inr (.inr gx)))))] ++ va_pl L (pf f nx)) H := hP
        have hD : va_D A ([(wk, .inr (10, [.ref wl, .int tx, .int sx, .ref rt])), (wl, .inl (cV, 10000, .inr (.inr (.inr (.inr gx)))))] ++ va_pl L (pf f nx)) := hD
        have hno : 10000 < sp + (cmpC op x9 y9 rtn cun).2 := by have hw : 10000 < s21 + (y9 rtn cun).2 := hw.1; show 10000 < sp + ((x9 rtn cun).2 + (y9 rtn cun).2); have := hUle.1; omega
        exact vx_out (fun x hx => (hex x hx).elim) hlocks hce hcv hcl (fun t9 ht2 ha => ⟨(tx, sx, gx, nx), ⟨hno, hUle.2.2.2.tr (hw.2.up hSr)⟩, ⟨hEn, by rw [ht2]; exact hP, va_K.moved ha hK, hD⟩, hS.F ht2⟩) hS.2.2 (Nat.le_of_ble_eq_true rfl) (Nat.le_of_ble_eq_true rfl)
      · obtain ⟨⟨hP1, hK1, hD1⟩, hz9⟩ := hB
        rw [ht] at hP1
        rw [ht] at hz9
        refine w_tight (hq0.trans hz9) ?_
        have hq0 := hq0.trans hz9
        obtain ⟨hP, hD⟩ := va_joinP (wr := []) (rx := [(wk, .inr (10, [.ref wl, .int (nI tp), .int (nI s41), .ref rt])), (wl, .inl (cV, 10000, .inr (.inr (.inr (.inr g41)))))]) (pl1 := va_pl L (pf f n41)) hP hD [0, 1] [] rfl rfl (by decide) (by decide) hk1 hFc hP1 hD1
        generalize H1 = H at hP hS hq0 ⊢
        have hP : va_P (dC, dI) classes ([(wk, .inr (10, [.ref wl, .int (nI tp), .int (nI s41), .ref rt])), (wl, .inl (cV, 10000, .inr (.inr (.inr (.inr g41)))))] ++ va_pl L (pf f n41)) H := hP
        have hD : va_D A ([(wk, .inr (10, [.ref wl, .int (nI tp), .int (nI s41), .ref rt])), (wl, .inl (cV, 10000, .inr (.inr (.inr (.inr g41)))))] ++ va_pl L (pf f n41)) := hD
        obtain ⟨hr41, hA41⟩ := hw
        have hA41 : ASK E Sr (y9 rtn cun).2 tp s21 g21 n21 s41 g41 n41 := hA41
        have hVri : VRp E f PL AL Sr n41 r41 (y9 rtn cun).1 := hr41
        have hOri := hVri.oR
        have hNri := hA41.2.2.2
        have hUri := hA41.up hSr
        have hJri := hA41.2.1
        have hJri1 := hJri.1
        have hJri2 := hJri.2.1
        have hAll : ASK E S (cmpC op x9 y9 rtn cun).2 tp sp g ν s41 g41 n41 := hUle.tr hUri
        have hVle := hVle.keep hdis hNri (fun b hb => (hO.szpf hb).trans (hO.szpf hb).symm)
        have hDe := hDq9 n41 hAll.2.2.2
        have hXle := hVle.val hDe
        have hXri := hVri.val hDe
        have hZle := hVle.dep hDe
        rcases r41 with _ | b42
        · refine lv_astoreN (lv' := [(4, .null), (3, .ref b22), (0, .ref wk), (1, .ref co), (2, .ref cu)]) hx hb d_Walk_compares_19 hl (by decide) rfl (fun ls hl => ?_)
          refine lv_aload_n hx hb d_Walk_compares_21 rfl (lv_at hl 3 rfl) ?_
          refine vq_get (D := (dC, dI)) (ci := 0) (v := .int kd9) (C := R_Condition) (T := F_Condition) (N := 6) hx hb hts in_Condition hown hK hP (hO.inL (a := co) (by rw [hco]; decide)) (pf_K ef9) rfl 0 (by decide) (hts _ z_677) (fun _ h9 => h9) rfl d_Walk_compares_22 ?_
          by_cases hs25_0 : kd9 = 4
          · refine lv_tableIn (tgt := 60) (off := 35) hx hb d_Walk_compares_25 (by rw [hs25_0]; decide) (by rw [hs25_0]; decide) (by rw [hs25_0]; rfl) (by decide) ?_
            refine lv_aload_n hx hb d_Walk_compares_60 rfl (lv_at hl 1 rfl) ?_
            refine lv_aloadN hx hb d_Walk_compares_61 (lv_at hl 0 rfl) ?_
            have ho5 : op = 0 := kd_op hop (by decide) (hkd.symm.trans hs25_0)
            subst ho5
            refine vp_callSi (va_Run.run (va_runS (As := [.ref b22, .null]) (rest := []) ⟨hx, hb, hml, hown, hts⟩ (g_Value_same l dC dI H cI cV E lv L (pf f n41) (hO.num n41) (some b22) none hOle hOri (x9 rtn cun).1 (y9 rtn cun).1 hXle hXri hZle) (va_cwS 2 hts (gt_S (own := R_Walk) (i := 190) (y := y_Value_same) i_Value_same z_928 z_929 z_14) rfl rfl rfl (by decide +kernel) ⟨by show 40 + 1 ≤ 59 + 5 * n; omega, by show 8 + (2 + 11) + (1700) ≤ 2460 + 200 * n; omega⟩) ⟨mq_blind, fun U hU hW => ⟨rfl, hU, by rw [hU]; exact hP.part (cx := []) [] rfl, va_K.moved hW.alike hK, hN.warm hW⟩⟩ rfl rfl hl.1 rfl (lv_room (Nat.le_of_ble_eq_true rfl)) d_Walk_compares_63 ⟨Nat.le_of_ble_eq_true rfl, Nat.le_of_ble_eq_true rfl⟩)) (fun r43 h_r43 => ?_)
            refine w_same (fun hq => ?_)
            refine W.widen (k := 1) (n := 6) (Nat.le_of_ble_eq_true rfl) (Nat.le_of_ble_eq_true rfl) ?_
            refine vx_ret ?_
            exact W.zret (v := r43) hx hb hr (Bo.nar (bI_Bo h_r43)) (fun t9 ht hW => ⟨⟨r43, (s41, g41, n41), rfl, ⟨(h_r43.trans (by rw [show (cmpC 0 x9 y9 rtn cun).1 = sameO _ _ from cmp_0])), hAll⟩, ⟨by rw [ht]; exact hP, va_K.moved hW.alike hK, hD⟩, by rw [ht]; exact hq⟩, hS.F ht⟩) hS.2.2 d_Walk_compares_66
          · by_cases hs25_1 : kd9 = 5
            · refine lv_tableIn (tgt := 67) (off := 42) hx hb d_Walk_compares_25 (by rw [hs25_1]; decide) (by rw [hs25_1]; decide) (by rw [hs25_1]; rfl) (by decide) ?_
              refine lv_aload_n hx hb d_Walk_compares_67 rfl (lv_at hl 1 rfl) ?_
              refine lv_aloadN hx hb d_Walk_compares_68 (lv_at hl 0 rfl) ?_
              have ho5 : op = 1 := kd_op hop (by decide) (hkd.symm.trans hs25_1)
              subst ho5
              refine vp_callSi (va_Run.run (va_runS (As := [.ref b22, .null]) (rest := []) ⟨hx, hb, hml, hown, hts⟩ (g_Value_same l dC dI H cI cV E lv L (pf f n41) (hO.num n41) (some b22) none hOle hOri (x9 rtn cun).1 (y9 rtn cun).1 hXle hXri hZle) (va_cwS 2 hts (gt_S (own := R_Walk) (i := 190) (y := y_Value_same) i_Value_same z_928 z_929 z_14) rfl rfl rfl (by decide +kernel) ⟨by show 40 + 1 ≤ 59 + 5 * n; omega, by show 8 + (2 + 11) + (1700) ≤ 2460 + 200 * n; omega⟩) ⟨mq_blind, fun U hU hW => ⟨rfl, hU, by rw [hU]; exact hP.part (cx := []) [] rfl, va_K.moved hW.alike hK, hN.warm hW⟩⟩ rfl rfl hl.1 rfl (lv_room (Nat.le_of_ble_eq_true rfl)) d_Walk_compares_70 ⟨Nat.le_of_ble_eq_true rfl, Nat.le_of_ble_eq_true rfl⟩)) (fun r44 h_r44 => ?_)
              refine lv_if_ne (tgt := 80) hx hb d_Walk_compares_73 (by decide) (fun c73 => ?_) (fun c73 => ?_)
              · refine lv_iconst (v := 0) hx hb d_Walk_compares_80 (by decide) ?_
                refine w_same (fun hq => ?_)
                refine W.widen (k := 1) (n := 6) (Nat.le_of_ble_eq_true rfl) (Nat.le_of_ble_eq_true rfl) ?_
                refine vx_ret ?_
                exact W.zret (v := 0) hx hb hr rfl (fun t9 ht hW => ⟨⟨0, (s41, g41, n41), rfl, ⟨(by rw [show (cmpC 1 x9 y9 rtn cun).1 = !(sameO _ _) from cmp_1, (bI_01 h_r44).1 c73]; rfl), hAll⟩, ⟨by rw [ht]; exact hP, va_K.moved hW.alike hK, hD⟩, by rw [ht]; exact hq⟩, hS.F ht⟩) hS.2.2 d_Walk_compares_81
              · refine lv_iconst (v := 1) hx hb d_Walk_compares_76 (by decide) ?_
                refine lv_goto (tgt := 81) hx hb d_Walk_compares_77 (by decide) ?_
                refine w_same (fun hq => ?_)
                refine W.widen (k := 1) (n := 6) (Nat.le_of_ble_eq_true rfl) (Nat.le_of_ble_eq_true rfl) ?_
                refine vx_ret ?_
                exact W.zret (v := 1) hx hb hr rfl (fun t9 ht hW => ⟨⟨1, (s41, g41, n41), rfl, ⟨(by rw [show (cmpC 1 x9 y9 rtn cun).1 = !(sameO _ _) from cmp_1, (bI_01 h_r44).2 c73]; rfl), hAll⟩, ⟨by rw [ht]; exact hP, va_K.moved hW.alike hK, hD⟩, by rw [ht]; exact hq⟩, hS.F ht⟩) hS.2.2 d_Walk_compares_81
            · by_cases hs25_2 : kd9 = 6
              · refine lv_tableIn (tgt := 82) (off := 57) hx hb d_Walk_compares_25 (by rw [hs25_2]; decide) (by rw [hs25_2]; decide) (by rw [hs25_2]; rfl) (by decide) ?_
                refine lv_aload_n hx hb d_Walk_compares_82 rfl (lv_at hl 1 rfl) ?_
                refine lv_aloadN hx hb d_Walk_compares_83 (lv_at hl 0 rfl) ?_
                have ho5 : op = 2 := kd_op hop (by decide) (hkd.symm.trans hs25_2)
                subst ho5
                refine vp_callSi (va_Run.run (va_runS (As := [.ref b22, .null]) (rest := []) ⟨hx, hb, hml, hown, hts⟩ (g_Value_less l dC dI H cI cV E lv L (pf f n41) (hO.num n41) (some b22) none hOle hOri (x9 rtn cun).1 (y9 rtn cun).1 hXle hXri) (va_cwS 2 hts (gt_S (own := R_Walk) (i := 194) (y := y_Value_less) i_Value_less z_935 z_936 z_14) rfl rfl rfl (by decide +kernel) ⟨by show 3 + 1 ≤ 59 + 5 * n; omega, by show 8 + (2 + 11) + (130) ≤ 2460 + 200 * n; omega⟩) ⟨mq_blind, fun U hU hW => ⟨rfl, hU, by rw [hU]; exact hP.part (cx := []) [] rfl, va_K.moved hW.alike hK, hN.warm hW⟩⟩ rfl rfl hl.1 rfl (lv_room (Nat.le_of_ble_eq_true rfl)) d_Walk_compares_85 ⟨Nat.le_of_ble_eq_true rfl, Nat.le_of_ble_eq_true rfl⟩)) (fun r45 h_r45 => ?_)
                refine w_same (fun hq => ?_)
                refine W.widen (k := 1) (n := 6) (Nat.le_of_ble_eq_true rfl) (Nat.le_of_ble_eq_true rfl) ?_
                refine vx_ret ?_
                exact W.zret (v := r45) hx hb hr (Bo.nar (bI_Bo h_r45)) (fun t9 ht hW => ⟨⟨r45, (s41, g41, n41), rfl, ⟨(h_r45.trans (by rw [show (cmpC 2 x9 y9 rtn cun).1 = lessO _ _ from cmp_2])), hAll⟩, ⟨by rw [ht]; exact hP, va_K.moved hW.alike hK, hD⟩, by rw [ht]; exact hq⟩, hS.F ht⟩) hS.2.2 d_Walk_compares_88
              · by_cases hs25_3 : kd9 = 7
                · refine lv_tableIn (tgt := 89) (off := 64) hx hb d_Walk_compares_25 (by rw [hs25_3]; decide) (by rw [hs25_3]; decide) (by rw [hs25_3]; rfl) (by decide) ?_
                  refine lv_aload_n hx hb d_Walk_compares_89 rfl (lv_at hl 1 rfl) ?_
                  refine lv_aloadN hx hb d_Walk_compares_90 (lv_at hl 0 rfl) ?_
                  have ho5 : op = 3 := kd_op hop (by decide) (hkd.symm.trans hs25_3)
                  subst ho5
                  refine vp_callSi (va_Run.run (va_runS (As := [.ref b22, .null]) (rest := []) ⟨hx, hb, hml, hown, hts⟩ (g_Value_less l dC dI H cI cV E lv L (pf f n41) (hO.num n41) (some b22) none hOle hOri (x9 rtn cun).1 (y9 rtn cun).1 hXle hXri) (va_cwS 2 hts (gt_S (own := R_Walk) (i := 194) (y := y_Value_less) i_Value_less z_935 z_936 z_14) rfl rfl rfl (by decide +kernel) ⟨by show 3 + 1 ≤ 59 + 5 * n; omega, by show 8 + (2 + 11) + (130) ≤ 2460 + 200 * n; omega⟩) ⟨mq_blind, fun U hU hW => ⟨rfl, hU, by rw [hU]; exact hP.part (cx := []) [] rfl, va_K.moved hW.alike hK, hN.warm hW⟩⟩ rfl rfl hl.1 rfl (lv_room (Nat.le_of_ble_eq_true rfl)) d_Walk_compares_92 ⟨Nat.le_of_ble_eq_true rfl, Nat.le_of_ble_eq_true rfl⟩)) (fun r46 h_r46 => ?_)
                  refine lv_if_ne (tgt := 107) hx hb d_Walk_compares_95 (by decide) (fun c95 => ?_) (fun c95 => ?_)
                  · refine lv_iconst (v := 1) hx hb d_Walk_compares_107 (by decide) ?_
                    refine lv_goto (tgt := 112) hx hb d_Walk_compares_108 (by decide) ?_
                    refine w_same (fun hq => ?_)
                    refine W.widen (k := 1) (n := 6) (Nat.le_of_ble_eq_true rfl) (Nat.le_of_ble_eq_true rfl) ?_
                    refine vx_ret ?_
                    exact W.zret (v := 1) hx hb hr rfl (fun t9 ht hW => ⟨⟨1, (s41, g41, n41), rfl, ⟨(by rw [show (cmpC 3 x9 y9 rtn cun).1 = (lessO _ _ || sameO _ _) from cmp_3, (bI_01 h_r46).1 c95]; rfl), hAll⟩, ⟨by rw [ht]; exact hP, va_K.moved hW.alike hK, hD⟩, by rw [ht]; exact hq⟩, hS.F ht⟩) hS.2.2 d_Walk_compares_112
                  · refine lv_aload_n hx hb d_Walk_compares_98 rfl (lv_at hl 1 rfl) ?_
                    refine lv_aloadN hx hb d_Walk_compares_99 (lv_at hl 0 rfl) ?_
                    refine vp_callSi (va_Run.run (va_runS (As := [.ref b22, .null]) (rest := []) ⟨hx, hb, hml, hown, hts⟩ (g_Value_same l dC dI H cI cV E lv L (pf f n41) (hO.num n41) (some b22) none hOle hOri (x9 rtn cun).1 (y9 rtn cun).1 hXle hXri hZle) (va_cwS 2 hts (gt_S (own := R_Walk) (i := 190) (y := y_Value_same) i_Value_same z_928 z_929 z_14) rfl rfl rfl (by decide +kernel) ⟨by show 40 + 1 ≤ 59 + 5 * n; omega, by show 8 + (2 + 11) + (1700) ≤ 2460 + 200 * n; omega⟩) ⟨mq_blind, fun U hU hW => ⟨rfl, hU, by rw [hU]; exact hP.part (cx := []) [] rfl, va_K.moved hW.alike hK, hN.warm hW⟩⟩ rfl rfl hl.1 rfl (lv_room (Nat.le_of_ble_eq_true rfl)) d_Walk_compares_101 ⟨Nat.le_of_ble_eq_true rfl, Nat.le_of_ble_eq_true rfl⟩)) (fun r47 h_r47 => ?_)
                    refine lv_if_eq (tgt := 111) hx hb d_Walk_compares_104 (by decide) (fun c104 => ?_) (fun c104 => ?_)
                    · refine lv_iconst (v := 0) hx hb d_Walk_compares_111 (by decide) ?_
                      refine w_same (fun hq => ?_)
                      refine W.widen (k := 1) (n := 6) (Nat.le_of_ble_eq_true rfl) (Nat.le_of_ble_eq_true rfl) ?_
                      refine vx_ret ?_
                      exact W.zret (v := 0) hx hb hr rfl (fun t9 ht hW => ⟨⟨0, (s41, g41, n41), rfl, ⟨(by rw [show (cmpC 3 x9 y9 rtn cun).1 = (lessO _ _ || sameO _ _) from cmp_3, (bI_01 h_r46).2 c95, (bI_01 h_r47).2 c104]; rfl), hAll⟩, ⟨by rw [ht]; exact hP, va_K.moved hW.alike hK, hD⟩, by rw [ht]; exact hq⟩, hS.F ht⟩) hS.2.2 d_Walk_compares_112
                    · refine lv_iconst (v := 1) hx hb d_Walk_compares_107 (by decide) ?_
                      refine lv_goto (tgt := 112) hx hb d_Walk_compares_108 (by decide) ?_
                      refine w_same (fun hq => ?_)
                      refine W.widen (k := 1) (n := 6) (Nat.le_of_ble_eq_true rfl) (Nat.le_of_ble_eq_true rfl) ?_
                      refine vx_ret ?_
                      exact W.zret (v := 1) hx hb hr rfl (fun t9 ht hW => ⟨⟨1, (s41, g41, n41), rfl, ⟨(by rw [show (cmpC 3 x9 y9 rtn cun).1 = (lessO _ _ || sameO _ _) from cmp_3, (bI_01 h_r47).1 c104, Bool.or_true]; rfl), hAll⟩, ⟨by rw [ht]; exact hP, va_K.moved hW.alike hK, hD⟩, by rw [ht]; exact hq⟩, hS.F ht⟩) hS.2.2 d_Walk_compares_112
                · by_cases hs25_4 : kd9 = 8
                  · refine lv_tableIn (tgt := 113) (off := 88) hx hb d_Walk_compares_25 (by rw [hs25_4]; decide) (by rw [hs25_4]; decide) (by rw [hs25_4]; rfl) (by decide) ?_
                    refine lv_aloadN hx hb d_Walk_compares_113 (lv_at hl 0 rfl) ?_
                    refine lv_aload_n hx hb d_Walk_compares_115 rfl (lv_at hl 1 rfl) ?_
                    have ho5 : op = 4 := kd_op hop (by decide) (hkd.symm.trans hs25_4)
                    subst ho5
                    refine vp_callSi (va_Run.run (va_runS (As := [.null, .ref b22]) (rest := []) ⟨hx, hb, hml, hown, hts⟩ (g_Value_less l dC dI H cI cV E lv L (pf f n41) (hO.num n41) none (some b22) hOri hOle (y9 rtn cun).1 (x9 rtn cun).1 hXri hXle) (va_cwS 2 hts (gt_S (own := R_Walk) (i := 194) (y := y_Value_less) i_Value_less z_935 z_936 z_14) rfl rfl rfl (by decide +kernel) ⟨by show 3 + 1 ≤ 59 + 5 * n; omega, by show 8 + (2 + 11) + (130) ≤ 2460 + 200 * n; omega⟩) ⟨mq_blind, fun U hU hW => ⟨rfl, hU, by rw [hU]; exact hP.part (cx := []) [] rfl, va_K.moved hW.alike hK, hN.warm hW⟩⟩ rfl rfl hl.1 rfl (lv_room (Nat.le_of_ble_eq_true rfl)) d_Walk_compares_116 ⟨Nat.le_of_ble_eq_true rfl, Nat.le_of_ble_eq_true rfl⟩)) (fun r48 h_r48 => ?_)
                    refine w_same (fun hq => ?_)
                    refine W.widen (k := 1) (n := 6) (Nat.le_of_ble_eq_true rfl) (Nat.le_of_ble_eq_true rfl) ?_
                    refine vx_ret ?_
                    exact W.zret (v := r48) hx hb hr (Bo.nar (bI_Bo h_r48)) (fun t9 ht hW => ⟨⟨r48, (s41, g41, n41), rfl, ⟨(h_r48.trans (by rw [show (cmpC 4 x9 y9 rtn cun).1 = lessO _ _ from cmp_4])), hAll⟩, ⟨by rw [ht]; exact hP, va_K.moved hW.alike hK, hD⟩, by rw [ht]; exact hq⟩, hS.F ht⟩) hS.2.2 d_Walk_compares_119
                  · have hk25_0 := i_neN 4 rfl hs25_0
                    have hk25_1 := i_neN 5 rfl hs25_1
                    have hk25_2 := i_neN 6 rfl hs25_2
                    have hk25_3 := i_neN 7 rfl hs25_3
                    have hk25_4 := i_neN 8 rfl hs25_4
                    refine lv_tableOut (tgt := 120) hx hb d_Walk_compares_25 (by omega) (by decide) ?_
                    refine lv_aloadN hx hb d_Walk_compares_120 (lv_at hl 0 rfl) ?_
                    refine lv_aload_n hx hb d_Walk_compares_122 rfl (lv_at hl 1 rfl) ?_
                    have ho5 : op = 5 := by have z : ∀ j, j ≤ 5 → ¬ kd9 = nI (4 + j) → ¬ op = j := fun j _ h e => h (by rw [hkd, e]); have z0 := z 0 (by decide) hs25_0; have z1 := z 1 (by decide) hs25_1; have z2 := z 2 (by decide) hs25_2; have z3 := z 3 (by decide) hs25_3; have z4 := z 4 (by decide) hs25_4; omega
                    subst ho5
                    refine vp_callSi (va_Run.run (va_runS (As := [.null, .ref b22]) (rest := []) ⟨hx, hb, hml, hown, hts⟩ (g_Value_less l dC dI H cI cV E lv L (pf f n41) (hO.num n41) none (some b22) hOri hOle (y9 rtn cun).1 (x9 rtn cun).1 hXri hXle) (va_cwS 2 hts (gt_S (own := R_Walk) (i := 194) (y := y_Value_less) i_Value_less z_935 z_936 z_14) rfl rfl rfl (by decide +kernel) ⟨by show 3 + 1 ≤ 59 + 5 * n; omega, by show 8 + (2 + 11) + (130) ≤ 2460 + 200 * n; omega⟩) ⟨mq_blind, fun U hU hW => ⟨rfl, hU, by rw [hU]; exact hP.part (cx := []) [] rfl, va_K.moved hW.alike hK, hN.warm hW⟩⟩ rfl rfl hl.1 rfl (lv_room (Nat.le_of_ble_eq_true rfl)) d_Walk_compares_123 ⟨Nat.le_of_ble_eq_true rfl, Nat.le_of_ble_eq_true rfl⟩)) (fun r49 h_r49 => ?_)
                    refine lv_if_ne (tgt := 138) hx hb d_Walk_compares_126 (by decide) (fun c126 => ?_) (fun c126 => ?_)
                    · refine lv_iconst (v := 1) hx hb d_Walk_compares_138 (by decide) ?_
                      refine lv_goto (tgt := 143) hx hb d_Walk_compares_139 (by decide) ?_
                      refine w_same (fun hq => ?_)
                      refine W.widen (k := 1) (n := 6) (Nat.le_of_ble_eq_true rfl) (Nat.le_of_ble_eq_true rfl) ?_
                      refine vx_ret ?_
                      exact W.zret (v := 1) hx hb hr rfl (fun t9 ht hW => ⟨⟨1, (s41, g41, n41), rfl, ⟨(by rw [show (cmpC 5 x9 y9 rtn cun).1 = (lessO _ _ || sameO _ _) from cmp_5, (bI_01 h_r49).1 c126]; rfl), hAll⟩, ⟨by rw [ht]; exact hP, va_K.moved hW.alike hK, hD⟩, by rw [ht]; exact hq⟩, hS.F ht⟩) hS.2.2 d_Walk_compares_143
                    · refine lv_aload_n hx hb d_Walk_compares_129 rfl (lv_at hl 1 rfl) ?_
                      refine lv_aloadN hx hb d_Walk_compares_130 (lv_at hl 0 rfl) ?_
                      refine vp_callSi (va_Run.run (va_runS (As := [.ref b22, .null]) (rest := []) ⟨hx, hb, hml, hown, hts⟩ (g_Value_same l dC dI H cI cV E lv L (pf f n41) (hO.num n41) (some b22) none hOle hOri (x9 rtn cun).1 (y9 rtn cun).1 hXle hXri hZle) (va_cwS 2 hts (gt_S (own := R_Walk) (i := 190) (y := y_Value_same) i_Value_same z_928 z_929 z_14) rfl rfl rfl (by decide +kernel) ⟨by show 40 + 1 ≤ 59 + 5 * n; omega, by show 8 + (2 + 11) + (1700) ≤ 2460 + 200 * n; omega⟩) ⟨mq_blind, fun U hU hW => ⟨rfl, hU, by rw [hU]; exact hP.part (cx := []) [] rfl, va_K.moved hW.alike hK, hN.warm hW⟩⟩ rfl rfl hl.1 rfl (lv_room (Nat.le_of_ble_eq_true rfl)) d_Walk_compares_132 ⟨Nat.le_of_ble_eq_true rfl, Nat.le_of_ble_eq_true rfl⟩)) (fun r50 h_r50 => ?_)
                      refine lv_if_eq (tgt := 142) hx hb d_Walk_compares_135 (by decide) (fun c135 => ?_) (fun c135 => ?_)
                      · refine lv_iconst (v := 0) hx hb d_Walk_compares_142 (by decide) ?_
                        refine w_same (fun hq => ?_)
                        refine W.widen (k := 1) (n := 6) (Nat.le_of_ble_eq_true rfl) (Nat.le_of_ble_eq_true rfl) ?_
                        refine vx_ret ?_
                        exact W.zret (v := 0) hx hb hr rfl (fun t9 ht hW => ⟨⟨0, (s41, g41, n41), rfl, ⟨(by rw [show (cmpC 5 x9 y9 rtn cun).1 = (lessO _ _ || sameO _ _) from cmp_5, (bI_01 h_r49).2 c126, (bI_01 h_r50).2 c135]; rfl), hAll⟩, ⟨by rw [ht]; exact hP, va_K.moved hW.alike hK, hD⟩, by rw [ht]; exact hq⟩, hS.F ht⟩) hS.2.2 d_Walk_compares_143
                      · refine lv_iconst (v := 1) hx hb d_Walk_compares_138 (by decide) ?_
                        refine lv_goto (tgt := 143) hx hb d_Walk_compares_139 (by decide) ?_
                        refine w_same (fun hq => ?_)
                        refine W.widen (k := 1) (n := 6) (Nat.le_of_ble_eq_true rfl) (Nat.le_of_ble_eq_true rfl) ?_
                        refine vx_ret ?_
                        exact W.zret (v := 1) hx hb hr rfl (fun t9 ht hW => ⟨⟨1, (s41, g41, n41), rfl, ⟨(by rw [show (cmpC 5 x9 y9 rtn cun).1 = (lessO _ _ || sameO _ _) from cmp_5, (bI_01 h_r50).1 c135, Bool.or_true]; rfl), hAll⟩, ⟨by rw [ht]; exact hP, va_K.moved hW.alike hK, hD⟩, by rw [ht]; exact hq⟩, hS.F ht⟩) hS.2.2 d_Walk_compares_143
        · refine lv_astore (lv' := [(4, .ref b42), (3, .ref b22), (0, .ref wk), (1, .ref co), (2, .ref cu)]) hx hb d_Walk_compares_19 hl (by decide) rfl (fun ls hl => ?_)
          refine lv_aload_n hx hb d_Walk_compares_21 rfl (lv_at hl 3 rfl) ?_
          refine vq_get (D := (dC, dI)) (ci := 0) (v := .int kd9) (C := R_Condition) (T := F_Condition) (N := 6) hx hb hts in_Condition hown hK hP (hO.inL (a := co) (by rw [hco]; decide)) (pf_K ef9) rfl 0 (by decide) (hts _ z_677) (fun _ h9 => h9) rfl d_Walk_compares_22 ?_
          by_cases hs25_0 : kd9 = 4
          · refine lv_tableIn (tgt := 60) (off := 35) hx hb d_Walk_compares_25 (by rw [hs25_0]; decide) (by rw [hs25_0]; decide) (by rw [hs25_0]; rfl) (by decide) ?_
            refine lv_aload_n hx hb d_Walk_compares_60 rfl (lv_at hl 1 rfl) ?_
            refine lv_aload hx hb d_Walk_compares_61 (lv_at hl 0 rfl) ?_
            have ho5 : op = 0 := kd_op hop (by decide) (hkd.symm.trans hs25_0)
            subst ho5
            refine vp_callSi (va_Run.run (va_runS (As := [.ref b22, .ref b42]) (rest := []) ⟨hx, hb, hml, hown, hts⟩ (g_Value_same l dC dI H cI cV E lv L (pf f n41) (hO.num n41) (some b22) (some b42) hOle hOri (x9 rtn cun).1 (y9 rtn cun).1 hXle hXri hZle) (va_cwS 2 hts (gt_S (own := R_Walk) (i := 190) (y := y_Value_same) i_Value_same z_928 z_929 z_14) rfl rfl rfl (by decide +kernel) ⟨by show 40 + 1 ≤ 59 + 5 * n; omega, by show 8 + (2 + 11) + (1700) ≤ 2460 + 200 * n; omega⟩) ⟨mq_blind, fun U hU hW => ⟨rfl, hU, by rw [hU]; exact hP.part (cx := []) [] rfl, va_K.moved hW.alike hK, hN.warm hW⟩⟩ rfl rfl hl.1 rfl (lv_room (Nat.le_of_ble_eq_true rfl)) d_Walk_compares_63 ⟨Nat.le_of_ble_eq_true rfl, Nat.le_of_ble_eq_true rfl⟩)) (fun r51 h_r51 => ?_)
            refine w_same (fun hq => ?_)
            refine W.widen (k := 1) (n := 6) (Nat.le_of_ble_eq_true rfl) (Nat.le_of_ble_eq_true rfl) ?_
            refine vx_ret ?_
            exact W.zret (v := r51) hx hb hr (Bo.nar (bI_Bo h_r51)) (fun t9 ht hW => ⟨⟨r51, (s41, g41, n41), rfl, ⟨(h_r51.trans (by rw [show (cmpC 0 x9 y9 rtn cun).1 = sameO _ _ from cmp_0])), hAll⟩, ⟨by rw [ht]; exact hP, va_K.moved hW.alike hK, hD⟩, by rw [ht]; exact hq⟩, hS.F ht⟩) hS.2.2 d_Walk_compares_66
          · by_cases hs25_1 : kd9 = 5
            · refine lv_tableIn (tgt := 67) (off := 42) hx hb d_Walk_compares_25 (by rw [hs25_1]; decide) (by rw [hs25_1]; decide) (by rw [hs25_1]; rfl) (by decide) ?_
              refine lv_aload_n hx hb d_Walk_compares_67 rfl (lv_at hl 1 rfl) ?_
              refine lv_aload hx hb d_Walk_compares_68 (lv_at hl 0 rfl) ?_
              have ho5 : op = 1 := kd_op hop (by decide) (hkd.symm.trans hs25_1)
              subst ho5
              refine vp_callSi (va_Run.run (va_runS (As := [.ref b22, .ref b42]) (rest := []) ⟨hx, hb, hml, hown, hts⟩ (g_Value_same l dC dI H cI cV E lv L (pf f n41) (hO.num n41) (some b22) (some b42) hOle hOri (x9 rtn cun).1 (y9 rtn cun).1 hXle hXri hZle) (va_cwS 2 hts (gt_S (own := R_Walk) (i := 190) (y := y_Value_same) i_Value_same z_928 z_929 z_14) rfl rfl rfl (by decide +kernel) ⟨by show 40 + 1 ≤ 59 + 5 * n; omega, by show 8 + (2 + 11) + (1700) ≤ 2460 + 200 * n; omega⟩) ⟨mq_blind, fun U hU hW => ⟨rfl, hU, by rw [hU]; exact hP.part (cx := []) [] rfl, va_K.moved hW.alike hK, hN.warm hW⟩⟩ rfl rfl hl.1 rfl (lv_room (Nat.le_of_ble_eq_true rfl)) d_Walk_compares_70 ⟨Nat.le_of_ble_eq_true rfl, Nat.le_of_ble_eq_true rfl⟩)) (fun r52 h_r52 => ?_)
              refine lv_if_ne (tgt := 80) hx hb d_Walk_compares_73 (by decide) (fun c73 => ?_) (fun c73 => ?_)
              · refine lv_iconst (v := 0) hx hb d_Walk_compares_80 (by decide) ?_
                refine w_same (fun hq => ?_)
                refine W.widen (k := 1) (n := 6) (Nat.le_of_ble_eq_true rfl) (Nat.le_of_ble_eq_true rfl) ?_
                refine vx_ret ?_
                exact W.zret (v := 0) hx hb hr rfl (fun t9 ht hW => ⟨⟨0, (s41, g41, n41), rfl, ⟨(by rw [show (cmpC 1 x9 y9 rtn cun).1 = !(sameO _ _) from cmp_1, (bI_01 h_r52).1 c73]; rfl), hAll⟩, ⟨by rw [ht]; exact hP, va_K.moved hW.alike hK, hD⟩, by rw [ht]; exact hq⟩, hS.F ht⟩) hS.2.2 d_Walk_compares_81
              · refine lv_iconst (v := 1) hx hb d_Walk_compares_76 (by decide) ?_
                refine lv_goto (tgt := 81) hx hb d_Walk_compares_77 (by decide) ?_
                refine w_same (fun hq => ?_)
                refine W.widen (k := 1) (n := 6) (Nat.le_of_ble_eq_true rfl) (Nat.le_of_ble_eq_true rfl) ?_
                refine vx_ret ?_
                exact W.zret (v := 1) hx hb hr rfl (fun t9 ht hW => ⟨⟨1, (s41, g41, n41), rfl, ⟨(by rw [show (cmpC 1 x9 y9 rtn cun).1 = !(sameO _ _) from cmp_1, (bI_01 h_r52).2 c73]; rfl), hAll⟩, ⟨by rw [ht]; exact hP, va_K.moved hW.alike hK, hD⟩, by rw [ht]; exact hq⟩, hS.F ht⟩) hS.2.2 d_Walk_compares_81
            · by_cases hs25_2 : kd9 = 6
              · refine lv_tableIn (tgt := 82) (off := 57) hx hb d_Walk_compares_25 (by rw [hs25_2]; decide) (by rw [hs25_2]; decide) (by rw [hs25_2]; rfl) (by decide) ?_
                refine lv_aload_n hx hb d_Walk_compares_82 rfl (lv_at hl 1 rfl) ?_
                refine lv_aload hx hb d_Walk_compares_83 (lv_at hl 0 rfl) ?_
                have ho5 : op = 2 := kd_op hop (by decide) (hkd.symm.trans hs25_2)
                subst ho5
                refine vp_callSi (va_Run.run (va_runS (As := [.ref b22, .ref b42]) (rest := []) ⟨hx, hb, hml, hown, hts⟩ (g_Value_less l dC dI H cI cV E lv L (pf f n41) (hO.num n41) (some b22) (some b42) hOle hOri (x9 rtn cun).1 (y9 rtn cun).1 hXle hXri) (va_cwS 2 hts (gt_S (own := R_Walk) (i := 194) (y := y_Value_less) i_Value_less z_935 z_936 z_14) rfl rfl rfl (by decide +kernel) ⟨by show 3 + 1 ≤ 59 + 5 * n; omega, by show 8 + (2 + 11) + (130) ≤ 2460 + 200 * n; omega⟩) ⟨mq_blind, fun U hU hW => ⟨rfl, hU, by rw [hU]; exact hP.part (cx := []) [] rfl, va_K.moved hW.alike hK, hN.warm hW⟩⟩ rfl rfl hl.1 rfl (lv_room (Nat.le_of_ble_eq_true rfl)) d_Walk_compares_85 ⟨Nat.le_of_ble_eq_true rfl, Nat.le_of_ble_eq_true rfl⟩)) (fun r53 h_r53 => ?_)
                refine w_same (fun hq => ?_)
                refine W.widen (k := 1) (n := 6) (Nat.le_of_ble_eq_true rfl) (Nat.le_of_ble_eq_true rfl) ?_
                refine vx_ret ?_
                exact W.zret (v := r53) hx hb hr (Bo.nar (bI_Bo h_r53)) (fun t9 ht hW => ⟨⟨r53, (s41, g41, n41), rfl, ⟨(h_r53.trans (by rw [show (cmpC 2 x9 y9 rtn cun).1 = lessO _ _ from cmp_2])), hAll⟩, ⟨by rw [ht]; exact hP, va_K.moved hW.alike hK, hD⟩, by rw [ht]; exact hq⟩, hS.F ht⟩) hS.2.2 d_Walk_compares_88
              · by_cases hs25_3 : kd9 = 7
                · refine lv_tableIn (tgt := 89) (off := 64) hx hb d_Walk_compares_25 (by rw [hs25_3]; decide) (by rw [hs25_3]; decide) (by rw [hs25_3]; rfl) (by decide) ?_
                  refine lv_aload_n hx hb d_Walk_compares_89 rfl (lv_at hl 1 rfl) ?_
                  refine lv_aload hx hb d_Walk_compares_90 (lv_at hl 0 rfl) ?_
                  have ho5 : op = 3 := kd_op hop (by decide) (hkd.symm.trans hs25_3)
                  subst ho5
                  refine vp_callSi (va_Run.run (va_runS (As := [.ref b22, .ref b42]) (rest := []) ⟨hx, hb, hml, hown, hts⟩ (g_Value_less l dC dI H cI cV E lv L (pf f n41) (hO.num n41) (some b22) (some b42) hOle hOri (x9 rtn cun).1 (y9 rtn cun).1 hXle hXri) (va_cwS 2 hts (gt_S (own := R_Walk) (i := 194) (y := y_Value_less) i_Value_less z_935 z_936 z_14) rfl rfl rfl (by decide +kernel) ⟨by show 3 + 1 ≤ 59 + 5 * n; omega, by show 8 + (2 + 11) + (130) ≤ 2460 + 200 * n; omega⟩) ⟨mq_blind, fun U hU hW => ⟨rfl, hU, by rw [hU]; exact hP.part (cx := []) [] rfl, va_K.moved hW.alike hK, hN.warm hW⟩⟩ rfl rfl hl.1 rfl (lv_room (Nat.le_of_ble_eq_true rfl)) d_Walk_compares_92 ⟨Nat.le_of_ble_eq_true rfl, Nat.le_of_ble_eq_true rfl⟩)) (fun r54 h_r54 => ?_)
                  refine lv_if_ne (tgt := 107) hx hb d_Walk_compares_95 (by decide) (fun c95 => ?_) (fun c95 => ?_)
                  · refine lv_iconst (v := 1) hx hb d_Walk_compares_107 (by decide) ?_
                    refine lv_goto (tgt := 112) hx hb d_Walk_compares_108 (by decide) ?_
                    refine w_same (fun hq => ?_)
                    refine W.widen (k := 1) (n := 6) (Nat.le_of_ble_eq_true rfl) (Nat.le_of_ble_eq_true rfl) ?_
                    refine vx_ret ?_
                    exact W.zret (v := 1) hx hb hr rfl (fun t9 ht hW => ⟨⟨1, (s41, g41, n41), rfl, ⟨(by rw [show (cmpC 3 x9 y9 rtn cun).1 = (lessO _ _ || sameO _ _) from cmp_3, (bI_01 h_r54).1 c95]; rfl), hAll⟩, ⟨by rw [ht]; exact hP, va_K.moved hW.alike hK, hD⟩, by rw [ht]; exact hq⟩, hS.F ht⟩) hS.2.2 d_Walk_compares_112
                  · refine lv_aload_n hx hb d_Walk_compares_98 rfl (lv_at hl 1 rfl) ?_
                    refine lv_aload hx hb d_Walk_compares_99 (lv_at hl 0 rfl) ?_
                    refine vp_callSi (va_Run.run (va_runS (As := [.ref b22, .ref b42]) (rest := []) ⟨hx, hb, hml, hown, hts⟩ (g_Value_same l dC dI H cI cV E lv L (pf f n41) (hO.num n41) (some b22) (some b42) hOle hOri (x9 rtn cun).1 (y9 rtn cun).1 hXle hXri hZle) (va_cwS 2 hts (gt_S (own := R_Walk) (i := 190) (y := y_Value_same) i_Value_same z_928 z_929 z_14) rfl rfl rfl (by decide +kernel) ⟨by show 40 + 1 ≤ 59 + 5 * n; omega, by show 8 + (2 + 11) + (1700) ≤ 2460 + 200 * n; omega⟩) ⟨mq_blind, fun U hU hW => ⟨rfl, hU, by rw [hU]; exact hP.part (cx := []) [] rfl, va_K.moved hW.alike hK, hN.warm hW⟩⟩ rfl rfl hl.1 rfl (lv_room (Nat.le_of_ble_eq_true rfl)) d_Walk_compares_101 ⟨Nat.le_of_ble_eq_true rfl, Nat.le_of_ble_eq_true rfl⟩)) (fun r55 h_r55 => ?_)
                    refine lv_if_eq (tgt := 111) hx hb d_Walk_compares_104 (by decide) (fun c104 => ?_) (fun c104 => ?_)
                    · refine lv_iconst (v := 0) hx hb d_Walk_compares_111 (by decide) ?_
                      refine w_same (fun hq => ?_)
                      refine W.widen (k := 1) (n := 6) (Nat.le_of_ble_eq_true rfl) (Nat.le_of_ble_eq_true rfl) ?_
                      refine vx_ret ?_
                      exact W.zret (v := 0) hx hb hr rfl (fun t9 ht hW => ⟨⟨0, (s41, g41, n41), rfl, ⟨(by rw [show (cmpC 3 x9 y9 rtn cun).1 = (lessO _ _ || sameO _ _) from cmp_3, (bI_01 h_r54).2 c95, (bI_01 h_r55).2 c104]; rfl), hAll⟩, ⟨by rw [ht]; exact hP, va_K.moved hW.alike hK, hD⟩, by rw [ht]; exact hq⟩, hS.F ht⟩) hS.2.2 d_Walk_compares_112
                    · refine lv_iconst (v := 1) hx hb d_Walk_compares_107 (by decide) ?_
                      refine lv_goto (tgt := 112) hx hb d_Walk_compares_108 (by decide) ?_
                      refine w_same (fun hq => ?_)
                      refine W.widen (k := 1) (n := 6) (Nat.le_of_ble_eq_true rfl) (Nat.le_of_ble_eq_true rfl) ?_
                      refine vx_ret ?_
                      exact W.zret (v := 1) hx hb hr rfl (fun t9 ht hW => ⟨⟨1, (s41, g41, n41), rfl, ⟨(by rw [show (cmpC 3 x9 y9 rtn cun).1 = (lessO _ _ || sameO _ _) from cmp_3, (bI_01 h_r55).1 c104, Bool.or_true]; rfl), hAll⟩, ⟨by rw [ht]; exact hP, va_K.moved hW.alike hK, hD⟩, by rw [ht]; exact hq⟩, hS.F ht⟩) hS.2.2 d_Walk_compares_112
                · by_cases hs25_4 : kd9 = 8
                  · refine lv_tableIn (tgt := 113) (off := 88) hx hb d_Walk_compares_25 (by rw [hs25_4]; decide) (by rw [hs25_4]; decide) (by rw [hs25_4]; rfl) (by decide) ?_
                    refine lv_aload hx hb d_Walk_compares_113 (lv_at hl 0 rfl) ?_
                    refine lv_aload_n hx hb d_Walk_compares_115 rfl (lv_at hl 1 rfl) ?_
                    have ho5 : op = 4 := kd_op hop (by decide) (hkd.symm.trans hs25_4)
                    subst ho5
                    refine vp_callSi (va_Run.run (va_runS (As := [.ref b42, .ref b22]) (rest := []) ⟨hx, hb, hml, hown, hts⟩ (g_Value_less l dC dI H cI cV E lv L (pf f n41) (hO.num n41) (some b42) (some b22) hOri hOle (y9 rtn cun).1 (x9 rtn cun).1 hXri hXle) (va_cwS 2 hts (gt_S (own := R_Walk) (i := 194) (y := y_Value_less) i_Value_less z_935 z_936 z_14) rfl rfl rfl (by decide +kernel) ⟨by show 3 + 1 ≤ 59 + 5 * n; omega, by show 8 + (2 + 11) + (130) ≤ 2460 + 200 * n; omega⟩) ⟨mq_blind, fun U hU hW => ⟨rfl, hU, by rw [hU]; exact hP.part (cx := []) [] rfl, va_K.moved hW.alike hK, hN.warm hW⟩⟩ rfl rfl hl.1 rfl (lv_room (Nat.le_of_ble_eq_true rfl)) d_Walk_compares_116 ⟨Nat.le_of_ble_eq_true rfl, Nat.le_of_ble_eq_true rfl⟩)) (fun r56 h_r56 => ?_)
                    refine w_same (fun hq => ?_)
                    refine W.widen (k := 1) (n := 6) (Nat.le_of_ble_eq_true rfl) (Nat.le_of_ble_eq_true rfl) ?_
                    refine vx_ret ?_
                    exact W.zret (v := r56) hx hb hr (Bo.nar (bI_Bo h_r56)) (fun t9 ht hW => ⟨⟨r56, (s41, g41, n41), rfl, ⟨(h_r56.trans (by rw [show (cmpC 4 x9 y9 rtn cun).1 = lessO _ _ from cmp_4])), hAll⟩, ⟨by rw [ht]; exact hP, va_K.moved hW.alike hK, hD⟩, by rw [ht]; exact hq⟩, hS.F ht⟩) hS.2.2 d_Walk_compares_119
                  · have hk25_0 := i_neN 4 rfl hs25_0
                    have hk25_1 := i_neN 5 rfl hs25_1
                    have hk25_2 := i_neN 6 rfl hs25_2
                    have hk25_3 := i_neN 7 rfl hs25_3
                    have hk25_4 := i_neN 8 rfl hs25_4
                    refine lv_tableOut (tgt := 120) hx hb d_Walk_compares_25 (by omega) (by decide) ?_
                    refine lv_aload hx hb d_Walk_compares_120 (lv_at hl 0 rfl) ?_
                    refine lv_aload_n hx hb d_Walk_compares_122 rfl (lv_at hl 1 rfl) ?_
                    have ho5 : op = 5 := by have z : ∀ j, j ≤ 5 → ¬ kd9 = nI (4 + j) → ¬ op = j := fun j _ h e => h (by rw [hkd, e]); have z0 := z 0 (by decide) hs25_0; have z1 := z 1 (by decide) hs25_1; have z2 := z 2 (by decide) hs25_2; have z3 := z 3 (by decide) hs25_3; have z4 := z 4 (by decide) hs25_4; omega
                    subst ho5
                    refine vp_callSi (va_Run.run (va_runS (As := [.ref b42, .ref b22]) (rest := []) ⟨hx, hb, hml, hown, hts⟩ (g_Value_less l dC dI H cI cV E lv L (pf f n41) (hO.num n41) (some b42) (some b22) hOri hOle (y9 rtn cun).1 (x9 rtn cun).1 hXri hXle) (va_cwS 2 hts (gt_S (own := R_Walk) (i := 194) (y := y_Value_less) i_Value_less z_935 z_936 z_14) rfl rfl rfl (by decide +kernel) ⟨by show 3 + 1 ≤ 59 + 5 * n; omega, by show 8 + (2 + 11) + (130) ≤ 2460 + 200 * n; omega⟩) ⟨mq_blind, fun U hU hW => ⟨rfl, hU, by rw [hU]; exact hP.part (cx := []) [] rfl, va_K.moved hW.alike hK, hN.warm hW⟩⟩ rfl rfl hl.1 rfl (lv_room (Nat.le_of_ble_eq_true rfl)) d_Walk_compares_123 ⟨Nat.le_of_ble_eq_true rfl, Nat.le_of_ble_eq_true rfl⟩)) (fun r57 h_r57 => ?_)
                    refine lv_if_ne (tgt := 138) hx hb d_Walk_compares_126 (by decide) (fun c126 => ?_) (fun c126 => ?_)
                    · refine lv_iconst (v := 1) hx hb d_Walk_compares_138 (by decide) ?_
                      refine lv_goto (tgt := 143) hx hb d_Walk_compares_139 (by decide) ?_
                      refine w_same (fun hq => ?_)
                      refine W.widen (k := 1) (n := 6) (Nat.le_of_ble_eq_true rfl) (Nat.le_of_ble_eq_true rfl) ?_
                      refine vx_ret ?_
                      exact W.zret (v := 1) hx hb hr rfl (fun t9 ht hW => ⟨⟨1, (s41, g41, n41), rfl, ⟨(by rw [show (cmpC 5 x9 y9 rtn cun).1 = (lessO _ _ || sameO _ _) from cmp_5, (bI_01 h_r57).1 c126]; rfl), hAll⟩, ⟨by rw [ht]; exact hP, va_K.moved hW.alike hK, hD⟩, by rw [ht]; exact hq⟩, hS.F ht⟩) hS.2.2 d_Walk_compares_143
                    · refine lv_aload_n hx hb d_Walk_compares_129 rfl (lv_at hl 1 rfl) ?_
                      refine lv_aload hx hb d_Walk_compares_130 (lv_at hl 0 rfl) ?_
                      refine vp_callSi (va_Run.run (va_runS (As := [.ref b22, .ref b42]) (rest := []) ⟨hx, hb, hml, hown, hts⟩ (g_Value_same l dC dI H cI cV E lv L (pf f n41) (hO.num n41) (some b22) (some b42) hOle hOri (x9 rtn cun).1 (y9 rtn cun).1 hXle hXri hZle) (va_cwS 2 hts (gt_S (own := R_Walk) (i := 190) (y := y_Value_same) i_Value_same z_928 z_929 z_14) rfl rfl rfl (by decide +kernel) ⟨by show 40 + 1 ≤ 59 + 5 * n; omega, by show 8 + (2 + 11) + (1700) ≤ 2460 + 200 * n; omega⟩) ⟨mq_blind, fun U hU hW => ⟨rfl, hU, by rw [hU]; exact hP.part (cx := []) [] rfl, va_K.moved hW.alike hK, hN.warm hW⟩⟩ rfl rfl hl.1 rfl (lv_room (Nat.le_of_ble_eq_true rfl)) d_Walk_compares_132 ⟨Nat.le_of_ble_eq_true rfl, Nat.le_of_ble_eq_true rfl⟩)) (fun r58 h_r58 => ?_)
                      refine lv_if_eq (tgt := 142) hx hb d_Walk_compares_135 (by decide) (fun c135 => ?_) (fun c135 => ?_)
                      · refine lv_iconst (v := 0) hx hb d_Walk_compares_142 (by decide) ?_
                        refine w_same (fun hq => ?_)
                        refine W.widen (k := 1) (n := 6) (Nat.le_of_ble_eq_true rfl) (Nat.le_of_ble_eq_true rfl) ?_
                        refine vx_ret ?_
                        exact W.zret (v := 0) hx hb hr rfl (fun t9 ht hW => ⟨⟨0, (s41, g41, n41), rfl, ⟨(by rw [show (cmpC 5 x9 y9 rtn cun).1 = (lessO _ _ || sameO _ _) from cmp_5, (bI_01 h_r57).2 c126, (bI_01 h_r58).2 c135]; rfl), hAll⟩, ⟨by rw [ht]; exact hP, va_K.moved hW.alike hK, hD⟩, by rw [ht]; exact hq⟩, hS.F ht⟩) hS.2.2 d_Walk_compares_143
                      · refine lv_iconst (v := 1) hx hb d_Walk_compares_138 (by decide) ?_
                        refine lv_goto (tgt := 143) hx hb d_Walk_compares_139 (by decide) ?_
                        refine w_same (fun hq => ?_)
                        refine W.widen (k := 1) (n := 6) (Nat.le_of_ble_eq_true rfl) (Nat.le_of_ble_eq_true rfl) ?_
                        refine vx_ret ?_
                        exact W.zret (v := 1) hx hb hr rfl (fun t9 ht hW => ⟨⟨1, (s41, g41, n41), rfl, ⟨(by rw [show (cmpC 5 x9 y9 rtn cun).1 = (lessO _ _ || sameO _ _) from cmp_5, (bI_01 h_r58).1 c135, Bool.or_true]; rfl), hAll⟩, ⟨by rw [ht]; exact hP, va_K.moved hW.alike hK, hD⟩, by rw [ht]; exact hq⟩, hS.F ht⟩) hS.2.2 d_Walk_compares_143
