theorem w_1105 : (.fieldLink "QueryBenchModel" 36 "QueryBenchModel" "queryText" "[B" : Cond) ∈ gtbl := gt_in 1105 (by decide +kernel) (by decide +kernel)
theorem w_1106 : (.fieldLink "QueryBenchModel" 39 "QueryBenchModel" "queryLength" "I" : Cond) ∈ gtbl := gt_in 1106 (by decide +kernel) (by decide +kernel)
theorem w_1399 : (.methodLink "QueryBenchModel" 416 ⟨"QueryBenchModel", "readQuery", "([BI)I"⟩ : Cond) ∈ gtbl := gt_in 1399 (by decide +kernel) (by decide +kernel)
theorem w_1401 : (.instanceMethod ⟨"QueryBenchModel", "readQuery", "([BI)I"⟩ : Cond) ∈ gtbl := gt_in 1401 (by decide +kernel) (by decide +kernel)
section
variable {f g : Nat → Int32} {n : Nat}
/-- two texts of the same n bytes -/
theorem hereV_cg (h : ∀ j, j < n → f j = g j) : hereV f n = hereV g n := by
  funext i
  unfold hereV
  by_cases hi : i < n
  · rw [if_pos hi, if_pos hi, h i hi]
  · rw [if_neg hi, if_neg hi]
theorem skipH_cg (h : hereV f n = hereV g n) : skipH f n = skipH g n := by
  have e : ∀ k j, skH f n k j = skH g n k j := by
    intro k
    induction k with
    | zero => intro j; rfl
    | succ k ih => intro j; simp only [skH]; rw [h, ih]
  funext i
  unfold skipH
  exact e _ _
theorem mtB_cg (h : hereV f n = hereV g n) : mtB f n = mtB g n := by
  funext i b k
  induction k with
  | zero => rfl
  | succ k ih => simp only [mtB]; rw [h, ih]
theorem nmE_cg (h : hereV f n = hereV g n) : nmE f n = nmE g n := by
  funext k
  induction k with
  | zero => rfl
  | succ k ih => funext j; simp only [nmE]; rw [h, ih]
theorem escM_cg (h : hereV f n = hereV g n) : escM f n = escM g n := by
  have e : ∀ k j a, hexM f n k j a = hexM g n k j a := by
    intro k
    induction k with
    | zero => intro j a; rfl
    | succ k ih => intro j a; simp only [hexM]; rw [h, ih]
  funext q i
  unfold escM
  rw [h, e]
theorem qtQ_cg (hf : ∀ j, j < n → f j = g j) (h : hereV f n = hereV g n) : qtQ f n = qtQ g n := by
  have he := escM_cg h
  have e : ∀ q k i us, qtM f n q k i us = qtM g n q k i us := by
    intro q k
    induction k with
    | zero => intro i us; rfl
    | succ k ih =>
      intro i us
      simp only [qtM]
      rw [h, he]
      simp only [ih]
      by_cases h1 : (escM g n q i).2 + 1 < n
      · rw [hf _ h1]
      · simp only [h1, not_false_eq_true, if_true]
  funext q i
  unfold qtQ
  rw [h, e]
theorem whM_cg (h : hereV f n = hereV g n) : whM f n = whM g n := by
  have e : ∀ k j a, dgM f n k j a = dgM g n k j a := by
    intro k
    induction k with
    | zero => intro j a; rfl
    | succ k ih => intro j a; simp only [dgM]; rw [h, ih]
  have e2 : ∀ i, dgN f n i = dgN g n i := by intro i; unfold dgN; rw [h, e]
  funext i
  unfold whM whB
  rw [h]
  simp only [e2]
theorem selP_cg (hf : ∀ j, j < n → f j = g j) : selP f n = selP g n := by
  have h := hereV_cg hf
  have h1 := skipH_cg h
  have h2 := whM_cg h
  have h3 := qtQ_cg hf h
  funext orL sg i
  unfold selP slP slT
  rw [h, h1, h2, h3]
theorem slsP_cg (hf : ∀ j, j < n → f j = g j) : slsP f n = slsP g n := by
  have h := hereV_cg hf
  have h1 := skipH_cg h
  have h2 := selP_cg hf
  have e : ∀ orL sg k j a b ac, slsL f n orL sg k j a b ac = slsL g n orL sg k j a b ac := by
    intro orL sg k
    induction k with
    | zero => intro j a b ac; rfl
    | succ k ih => intro j a b ac; simp only [slsL]; rw [h, h1, h2]; simp only [ih]
  funext ok orL sg i
  unfold slsP
  rw [h, e]
theorem sgP_cg (hf : ∀ j, j < n → f j = g j) : sgP f n = sgP g n := by
  have h := hereV_cg hf
  have h1 := nmE_cg h
  have h2 := slsP_cg hf
  funext ok orL sg i
  unfold sgP sgN nmT_
  rw [h, h1, h2]
theorem qrP_cg (hf : ∀ j, j < n → f j = g j) : qrP f n = qrP g n := by
  have h := hereV_cg hf
  have h1 := skipH_cg h
  have h2 := sgP_cg hf
  have e : ∀ ok orL sg k j a ac, qrL f n ok orL sg k j a ac = qrL g n ok orL sg k j a ac := by
    intro ok orL sg k
    induction k with
    | zero => intro j a ac; rfl
    | succ k ih => intro j a ac; simp only [qrL]; rw [h, h1, h2]; simp only [ih]
  funext ok orL sg rt i
  unfold qrP
  rw [e]
theorem cmP_cg (hf : ∀ j, j < n → f j = g j) : cmP f n = cmP g n := by
  have h := hereV_cg hf
  have h1 := skipH_cg h
  have h2 := qrP_cg hf
  have h3 := whM_cg h
  have h4 := qtQ_cg hf h
  have h5 := mtB_cg h
  funext ok orL cmL qyL i
  unfold cmP fnT fnA fnP
  rw [h, h1, h2, h3, h4, h5]
theorem baP_cg (hf : ∀ j, j < n → f j = g j) : baP f n = baP g n := by
  have h := hereV_cg hf
  have h1 := skipH_cg h
  have h2 := qrP_cg hf
  have h3 := cmP_cg hf
  have h5 := mtB_cg h
  funext ok orL cmL qyL i
  unfold baP baB cpP opP
  rw [h, h1, h2, h3, h5]
theorem liP_cg (hf : ∀ j, j < n → f j = g j) : liP f n = liP g n := by
  have h := hereV_cg hf
  have h1 := skipH_cg h
  have h5 := mtB_cg h
  funext one c tx k
  induction k with
  | zero => rfl
  | succ k ih => funext i ac; simp only [liP]; rw [h, h1, h5]; simp only [ih]
theorem DDf_cg (hf : ∀ j, j < n → f j = g j) : ∀ d, DDf f n d = DDf g n d := by
  have h2 := qrP_cg hf
  have h3 := cmP_cg hf
  have h4 := baP_cg hf
  have h5 := liP_cg hf
  have ho : orP f n = orP g n := by funext ok orL cmL qyL i; unfold orP anP; rw [h4, h5]
  intro d
  induction d with
  | zero => simp only [DDf]; rw [ho, h3, h2]
  | succ d ih => simp only [DDf]; rw [ih, ho, h3, h2]
/-- R3: the same text is read again -/
theorem pQ_cg (hf : ∀ j, j < n → f j = g j) : pQ f n = pQ g n := by
  unfold pQ
  rw [hereV_cg hf, DDf_cg hf]
end
/-- fields of the reference that a read may change -/
abbrev rdF (j : Nat) : Prop := j = 1 ∨ j = 4 ∨ j = 5 ∨ j = 6 ∨ j = 7 ∨ j = 8 ∨ j = 9 ∨ j = 17 ∨ j = 19 ∨ j = 20 ∨ j = 21 ∨ j = 23
def RDR (f : Nat → Int32) (tp : Nat) (res : Int32) (v4 : Value) : Prop := (∃ (fl : Bool) (m : QT), pQ f tp = some (fl, m) ∧ v4 = .int 0 ∧ res = (if fl = true then 1 else 0)) ∨ (pQ f tp = none ∧ v4 = .int 1)
abbrev b_Mo_readQ : ByteArray := prog_14_method_65_code
def y_Mo_readQ : MethodName := ⟨"QueryBenchModel", "read", "()I"⟩
abbrev k_Mo_readQ : Cond := .code y_Mo_readQ b_Mo_readQ 4 (some .int)
theorem i_Mo_readQ : k_Mo_readQ ∈ gtbl := gt_in 1398 (by decide +kernel) (by decide +kernel)
theorem d_Mo_readQ_0 : decode b_Mo_readQ 0 = .ok (.aload_n 0, 1) := by decide +kernel
theorem d_Mo_readQ_1 : decode b_Mo_readQ 1 = .ok (.invokevirtual 404, 3) := by decide +kernel
theorem d_Mo_readQ_4 : decode b_Mo_readQ 4 = .ok (.istore_n 1, 1) := by decide +kernel
theorem d_Mo_readQ_5 : decode b_Mo_readQ 5 = .ok (.aload_n 0, 1) := by decide +kernel
theorem d_Mo_readQ_6 : decode b_Mo_readQ 6 = .ok (.iconst (-1), 1) := by decide +kernel
theorem d_Mo_readQ_7 : decode b_Mo_readQ 7 = .ok (.putfield 16, 3) := by decide +kernel
theorem d_Mo_readQ_10 : decode b_Mo_readQ 10 = .ok (.aload_n 0, 1) := by decide +kernel
theorem d_Mo_readQ_11 : decode b_Mo_readQ 11 = .ok (.iconst 0, 1) := by decide +kernel
theorem d_Mo_readQ_12 : decode b_Mo_readQ 12 = .ok (.putfield 116, 3) := by decide +kernel
theorem d_Mo_readQ_15 : decode b_Mo_readQ 15 = .ok (.aload_n 0, 1) := by decide +kernel
theorem d_Mo_readQ_16 : decode b_Mo_readQ 16 = .ok (.aload_n 0, 1) := by decide +kernel
theorem d_Mo_readQ_17 : decode b_Mo_readQ 17 = .ok (.getfield 7, 3) := by decide +kernel
theorem d_Mo_readQ_20 : decode b_Mo_readQ 20 = .ok (.iload_n 1, 1) := by decide +kernel
theorem d_Mo_readQ_21 : decode b_Mo_readQ 21 = .ok (.invokevirtual 416, 3) := by decide +kernel
theorem d_Mo_readQ_24 : decode b_Mo_readQ 24 = .ok (.istore_n 2, 1) := by decide +kernel
theorem d_Mo_readQ_25 : decode b_Mo_readQ 25 = .ok (.iload_n 2, 1) := by decide +kernel
theorem d_Mo_readQ_26 : decode b_Mo_readQ 26 = .ok (.ifCond .ge 18, 3) := by decide +kernel
theorem d_Mo_readQ_29 : decode b_Mo_readQ 29 = .ok (.aload_n 0, 1) := by decide +kernel
theorem d_Mo_readQ_30 : decode b_Mo_readQ 30 = .ok (.aload_n 0, 1) := by decide +kernel
theorem d_Mo_readQ_31 : decode b_Mo_readQ 31 = .ok (.getfield 144, 3) := by decide +kernel
theorem d_Mo_readQ_34 : decode b_Mo_readQ 34 = .ok (.putfield 16, 3) := by decide +kernel
theorem d_Mo_readQ_37 : decode b_Mo_readQ 37 = .ok (.aload_n 0, 1) := by decide +kernel
theorem d_Mo_readQ_38 : decode b_Mo_readQ 38 = .ok (.iconst 1, 1) := by decide +kernel
theorem d_Mo_readQ_39 : decode b_Mo_readQ 39 = .ok (.putfield 116, 3) := by decide +kernel
theorem d_Mo_readQ_42 : decode b_Mo_readQ 42 = .ok (.iconst 0, 1) := by decide +kernel
theorem d_Mo_readQ_43 : decode b_Mo_readQ 43 = .ok (.ireturn, 1) := by decide +kernel
theorem d_Mo_readQ_44 : decode b_Mo_readQ 44 = .ok (.aload_n 0, 1) := by decide +kernel
theorem d_Mo_readQ_45 : decode b_Mo_readQ 45 = .ok (.iload_n 1, 1) := by decide +kernel
theorem d_Mo_readQ_46 : decode b_Mo_readQ 46 = .ok (.putfield 39, 3) := by decide +kernel
theorem d_Mo_readQ_49 : decode b_Mo_readQ 49 = .ok (.iconst 0, 1) := by decide +kernel
theorem d_Mo_readQ_50 : decode b_Mo_readQ 50 = .ok (.istore_n 3, 1) := by decide +kernel
theorem d_Mo_readQ_51 : decode b_Mo_readQ 51 = .ok (.iload_n 3, 1) := by decide +kernel
theorem d_Mo_readQ_52 : decode b_Mo_readQ 52 = .ok (.iload_n 1, 1) := by decide +kernel
theorem d_Mo_readQ_53 : decode b_Mo_readQ 53 = .ok (.if_icmp .ge 21, 3) := by decide +kernel
theorem d_Mo_readQ_56 : decode b_Mo_readQ 56 = .ok (.aload_n 0, 1) := by decide +kernel
theorem d_Mo_readQ_57 : decode b_Mo_readQ 57 = .ok (.getfield 36, 3) := by decide +kernel
theorem d_Mo_readQ_60 : decode b_Mo_readQ 60 = .ok (.iload_n 3, 1) := by decide +kernel
theorem d_Mo_readQ_61 : decode b_Mo_readQ 61 = .ok (.aload_n 0, 1) := by decide +kernel
theorem d_Mo_readQ_62 : decode b_Mo_readQ 62 = .ok (.getfield 7, 3) := by decide +kernel
theorem d_Mo_readQ_65 : decode b_Mo_readQ 65 = .ok (.iload_n 3, 1) := by decide +kernel
theorem d_Mo_readQ_66 : decode b_Mo_readQ 66 = .ok (.baload, 1) := by decide +kernel
theorem d_Mo_readQ_67 : decode b_Mo_readQ 67 = .ok (.bastore, 1) := by decide +kernel
theorem d_Mo_readQ_68 : decode b_Mo_readQ 68 = .ok (.iinc 3 1, 3) := by decide +kernel
theorem d_Mo_readQ_71 : decode b_Mo_readQ 71 = .ok (.goto (-20), 3) := by decide +kernel
theorem d_Mo_readQ_74 : decode b_Mo_readQ 74 = .ok (.aload_n 0, 1) := by decide +kernel
theorem d_Mo_readQ_75 : decode b_Mo_readQ 75 = .ok (.iload_n 2, 1) := by decide +kernel
theorem d_Mo_readQ_76 : decode b_Mo_readQ 76 = .ok (.iconst 3, 1) := by decide +kernel
theorem d_Mo_readQ_77 : decode b_Mo_readQ 77 = .ok (.invokevirtual 286, 3) := by decide +kernel
theorem d_Mo_readQ_80 : decode b_Mo_readQ 80 = .ok (.ireturn, 1) := by decide +kernel
set_option maxHeartbeats 4000000 in
set_option maxRecDepth 100000 in
/-- the reference: read -/
theorem c_Mo_readQ (l : Launch) (dC : Nat → ClassId) (dI : Nat → Nat → Nat) (mo : Nat) (sz : Heap) (v : Nat → Value) (cB cI cL cC : ClassId) (qx qt : Nat) (f qg : Nat → Int32) (K : Nat → Nat × Nat) (tv : Nat) (Q : QS) (VA V : TS) (i tp : Nat) (htp : tp ≤ 4096) (hfb : ∀ j, vp_nar .byte (f j) = f j) (hQ : QOK Q) (hV : TOK V) (eQR : Q.R = 0) (eV : V = VA.clr) (ei : i = 0) (h0 : v 0 = .ref qx) (h1 : v 1 = .int (nI tp)) (h16 : v 16 = .ref qt) (h19 : v 19 = .ref Q.qq) (h20 : v 20 = .ref Q.qe) (h22 : v 22 = .ref tv) : Met l y_Mo_readQ (k_Mo_readQ :: gtbl) ({ frames := 272, cells := kcap Q (Q.R + 8 * (tp - i) + 9) + qcap V (V.us + (tp + 12 - i)), slots := 22 * kcap Q (Q.R + 8 * (tp - i) + 9) + 2 * qcap V (V.us + (tp + 12 - i)), locals := 10800 }) (va_Pc [.ref mo] (me K dC dI [(mo, .inr (13, MF 30 v)), (qx, .inl (cB, 4096, .inl f)), (qt, .inl (cB, 4096, .inl qg)), (Q.qq, .inl (cI, (8 * Q.C), .inl Q.qf)), (Q.qe, .inl (cL, (3 * Q.C), .inr (.inl Q.ef))), (tv, .inr (12, MF 13 (tw VA))), (V.au, .inl (cC, V.U, .inl V.un))] [(cB, .byte), (cI, .int), (cL, .long), (cC, .char)] sz)) (va_Qi (fun (res : Int32) (u : (Nat → Value) × QS × TS × (Nat → Int32)) => QOK u.2.1 ∧ TOK u.2.2.1 ∧ GQ (Q.R + 8 * (tp - i) + 9) (V.us + (tp + 12 - i)) Q V u.2.1 u.2.2.1 ∧ u.1 1 = .int (nI 0) ∧ (∀ j9, ¬ rdF j9 → u.1 j9 = v j9) ∧ u.1 19 = .ref u.2.1.qq ∧ u.1 20 = .ref u.2.1.qe ∧ ((u.2.2.2 = qg ∧ u.1 17 = v 17 ∧ pQ f tp = none) ∨ (u.1 17 = .int (nI tp) ∧ ∃ z, pQ u.2.2.2 tp = some z ∧ pQ f tp = some z)) ∧ ((∃ z5, u.1 5 = .int z5) ∨ u.1 5 = v 5) ∧ RDR f tp res (u.1 4)) (fun u t9 => mz dC dI [(mo, .inr (13, MF 30 u.1)), (qx, .inl (cB, 4096, .inl f)), (qt, .inl (cB, 4096, .inl u.2.2.2)), (u.2.1.qq, .inl (cI, (8 * u.2.1.C), .inl u.2.1.qf)), (u.2.1.qe, .inl (cL, (3 * u.2.1.C), .inr (.inl u.2.1.ef))), (tv, .inr (12, MF 13 (tw u.2.2.1))), (u.2.2.1.au, .inl (cC, u.2.2.1.U, .inl u.2.2.1.un))] [(cB, .byte), (cI, .int), (cL, .long), (cC, .char)] (va_A [(mo, .inr (13, MF 30 v)), (qx, .inl (cB, 4096, .inl f)), (qt, .inl (cB, 4096, .inl qg)), (Q.qq, .inl (cI, (8 * Q.C), .inl Q.qf)), (Q.qe, .inl (cL, (3 * Q.C), .inr (.inl Q.ef))), (tv, .inr (12, MF 13 (tw VA))), (V.au, .inl (cC, V.U, .inl V.un))] sz.size) t9 ∧ szk sz t9.heap (cQ Q V u.2.1 u.2.2.1) (sQ Q V u.2.1 u.2.2.1)) (va_A [(mo, .inr (13, MF 30 v)), (qx, .inl (cB, 4096, .inl f)), (qt, .inl (cB, 4096, .inl qg)), (Q.qq, .inl (cI, (8 * Q.C), .inl Q.qf)), (Q.qe, .inl (cL, (3 * Q.C), .inr (.inl Q.ef))), (tv, .inr (12, MF 13 (tw VA))), (V.au, .inl (cC, V.U, .inl V.un))] sz.size)) (kcap Q (Q.R + 8 * (tp - i) + 9) + qcap V (V.us + (tp + 12 - i))) (22 * kcap Q (Q.R + 8 * (tp - i) + 9) + 2 * qcap V (V.us + (tp + 12 - i))) (va_A [(mo, .inr (13, MF 30 v)), (qx, .inl (cB, 4096, .inl f)), (qt, .inl (cB, 4096, .inl qg)), (Q.qq, .inl (cI, (8 * Q.C), .inl Q.qf)), (Q.qe, .inl (cL, (3 * Q.C), .inr (.inl Q.ef))), (tv, .inr (12, MF 13 (tw VA))), (V.au, .inl (cC, V.U, .inl V.un))] sz.size) := by
  refine Met.ofW (cc := b_Mo_readQ) (maxL := 4) (ret := (some .int)) (by decide) rfl ?_
  intro p e s m args below meth c s₁ B hml hv
  obtain ⟨rfl, ⟨hsz, hP, hK, hD0⟩, hM⟩ := hv
  have hx := B.exec
  have hb := B.bytes
  have hr := B.returns
  have hts0 := atoms_spec (ws := k_Mo_readQ :: gtbl) B.pre
  have hts := fun w h => hts0 w (List.mem_cons_of_mem _ h)
  have hown : s.vm.findClass R_Mo = some m.cls := findClass_of_methodNamed B.named
  have hlocks := B.notSynchronized
  subst hsz
  have hD := hD0.self (sz := s.heap.size)
  generalize hAe : va_A [(mo, .inr (13, MF 30 v)), (qx, .inl (cB, 4096, .inl f)), (qt, .inl (cB, 4096, .inl qg)), (Q.qq, .inl (cI, (8 * Q.C), .inl Q.qf)), (Q.qe, .inl (cL, (3 * Q.C), .inr (.inl Q.ef))), (tv, .inr (12, MF 13 (tw VA))), (V.au, .inl (cC, V.U, .inl V.un))] s.heap.size = A at hD hM ⊢
  have hA : ∀ q : Nat, s.heap.size ≤ q → A q := fun q h => by rw [← hAe]; exact Or.inr h
  have hS : va_S A s.heap s.heap [] := va_S.rf
  have hP : va_P (dC, dI) classes [(mo, .inr (13, MF 30 v)), (qx, .inl (cB, 4096, .inl f)), (qt, .inl (cB, 4096, .inl qg)), (Q.qq, .inl (cI, (8 * Q.C), .inl Q.qf)), (Q.qe, .inl (cL, (3 * Q.C), .inr (.inl Q.ef))), (tv, .inr (12, MF 13 (tw VA))), (V.au, .inl (cC, V.U, .inl V.un))] s.heap := hP
  have hl := lv_entry ([.ref mo]) (n := 4) (Nat.le_of_ble_eq_true rfl)
  rw [lg_entry_eq]
  generalize (lg_sl ([.ref mo]) ++ List.replicate (4 - (lg_sl ([.ref mo])).length) Slot.unset).toArray = ls at hl ⊢
  have hl : lv_has ls 4 [(0, .ref mo)] := hl
  refine lv_aload_n hx hb d_Mo_readQ_0 rfl (lv_at hl 0 rfl) ?_
  have hPc := hP.sub (ws' := [(mo, .inr (13, MF 30 v))]) [0] rfl
  have hDc := hD.sub (ws' := [(mo, .inr (13, MF 30 v))]) [0] (by decide) rfl
  have hKc := hK.sub (tys' := []) [] rfl
  have hFc := va_free (wc := [(mo, .inr (13, MF 30 v))]) hD hS hA [0] rfl
  refine va_calli (va_runV (As := []) (rest := []) ⟨hx, hb, hml, hown, hts⟩ (c_Mo_used l dC dI mo s.heap v (nI tp) h1) (cwV 0 hts (gt_V (own := R_Mo) (C := R_Mo) (i := 404) (y := y_Mo_used) i_Mo_used w_1213 w_1215 (gt_sel (y := y_Mo_used) (n := 30) (by decide +kernel)) w_7) rfl rfl rfl (by decide +kernel) ⟨Nat.le_of_ble_eq_true rfl, Nat.le_of_ble_eq_true rfl⟩) ⟨mp_blind, va_recv hKc hPc (ci := 13) (q0 := 0) rfl rfl, fun U hU hW => ⟨rfl, hU, by rw [hU]; exact hPc, va_K.moved hW.alike hKc, hDc.weaken (fun _ _ _ _ => trivial)⟩⟩ rfl rfl hl.1 rfl (lv_room (Nat.le_of_ble_eq_true rfl)) d_Mo_readQ_1 ⟨Nat.zero_le _, Nat.zero_le _⟩) hS (fun q _ h => hFc q h) hFc (fun r0 u2 t9 H1 locs ht hvm hw hB hz1 hk1 hS => ?_)
  obtain ⟨hP1, hK1, hD1⟩ := hB
  rw [ht] at hP1
  obtain ⟨hP, hD⟩ := va_join (wr := [(qx, .inl (cB, 4096, .inl f)), (qt, .inl (cB, 4096, .inl qg)), (Q.qq, .inl (cI, (8 * Q.C), .inl Q.qf)), (Q.qe, .inl (cL, (3 * Q.C), .inr (.inl Q.ef))), (tv, .inr (12, MF 13 (tw VA))), (V.au, .inl (cC, V.U, .inl V.un))]) (w1 := [(mo, .inr (13, MF 30 u2))]) hP hD [0] [1, 2, 3, 4, 5, 6] rfl rfl (by decide) (by decide) hk1 hFc hP1 hD1
  generalize H1 = H at hP hS ⊢
  have hP : va_P (dC, dI) classes [(qx, .inl (cB, 4096, .inl f)), (qt, .inl (cB, 4096, .inl qg)), (Q.qq, .inl (cI, (8 * Q.C), .inl Q.qf)), (Q.qe, .inl (cL, (3 * Q.C), .inr (.inl Q.ef))), (tv, .inr (12, MF 13 (tw VA))), (V.au, .inl (cC, V.U, .inl V.un)), (mo, .inr (13, MF 30 u2))] H := hP
  have hD : va_D A [(qx, .inl (cB, 4096, .inl f)), (qt, .inl (cB, 4096, .inl qg)), (Q.qq, .inl (cI, (8 * Q.C), .inl Q.qf)), (Q.qe, .inl (cL, (3 * Q.C), .inr (.inl Q.ef))), (tv, .inr (12, MF 13 (tw VA))), (V.au, .inl (cC, V.U, .inl V.un)), (mo, .inr (13, MF 30 u2))] := hD
  have hP := hP.sub (ws' := [(mo, .inr (13, MF 30 u2)), (qx, .inl (cB, 4096, .inl f)), (qt, .inl (cB, 4096, .inl qg)), (Q.qq, .inl (cI, (8 * Q.C), .inl Q.qf)), (Q.qe, .inl (cL, (3 * Q.C), .inr (.inl Q.ef))), (tv, .inr (12, MF 13 (tw VA))), (V.au, .inl (cC, V.U, .inl V.un))]) [6, 0, 1, 2, 3, 4, 5] rfl
  have hD := hD.sub (ws' := [(mo, .inr (13, MF 30 u2)), (qx, .inl (cB, 4096, .inl f)), (qt, .inl (cB, 4096, .inl qg)), (Q.qq, .inl (cI, (8 * Q.C), .inl Q.qf)), (Q.qe, .inl (cL, (3 * Q.C), .inr (.inl Q.ef))), (tv, .inr (12, MF 13 (tw VA))), (V.au, .inl (cC, V.U, .inl V.un))]) [6, 0, 1, 2, 3, 4, 5] (by decide) rfl
  have hw : r0 = nI tp ∧ u2 = va_up v 1 (.int 0) := hw
  obtain ⟨hw1, hw2⟩ := hw
  subst hw1
  subst hw2
  have hP : va_P (dC, dI) classes [(mo, .inr (13, MF 30 (va_up v 1 (.int 0)))), (qx, .inl (cB, 4096, .inl f)), (qt, .inl (cB, 4096, .inl qg)), (Q.qq, .inl (cI, (8 * Q.C), .inl Q.qf)), (Q.qe, .inl (cL, (3 * Q.C), .inr (.inl Q.ef))), (tv, .inr (12, MF 13 (tw VA))), (V.au, .inl (cC, V.U, .inl V.un))] H := hP
  have hD : va_D A [(mo, .inr (13, MF 30 (va_up v 1 (.int 0)))), (qx, .inl (cB, 4096, .inl f)), (qt, .inl (cB, 4096, .inl qg)), (Q.qq, .inl (cI, (8 * Q.C), .inl Q.qf)), (Q.qe, .inl (cL, (3 * Q.C), .inr (.inl Q.ef))), (tv, .inr (12, MF 13 (tw VA))), (V.au, .inl (cC, V.U, .inl V.un))] := hD
  refine lv_istore_n (lv' := [(1, .int (nI tp)), (0, .ref mo)]) hx hb d_Mo_readQ_4 rfl hl (by decide) rfl (fun ls hl => ?_)
  refine lv_aload_n hx hb d_Mo_readQ_5 rfl (lv_at hl 1 rfl) ?_
  refine lv_iconst (v := (-1)) hx hb d_Mo_readQ_6 (by decide) ?_
  refine va_put (D := (dC, dI)) (ci := 13) (v := .int (-1)) (ty := .int) (C := R_Mo) (T := F_Mo) (N := 30) hx hb hts in_Mo t_Mo t_Mo_ok n_Mo hown hK hP hD hS 0 rfl rfl 5 (by decide) (hts _ w_1094) (fun _ h9 => h9) rfl (by decide +kernel) rfl rfl (by rw [MFl]; decide) d_Mo_readQ_7 (fun H locs hP hD hS => ?_)
  rw [MFs (n := 30) (k := 5) (by decide)] at hP hD
  have hP : va_P (dC, dI) classes [(mo, .inr (13, MF 30 (va_up (va_up v 1 (.int 0)) 5 (.int (-1))))), (qx, .inl (cB, 4096, .inl f)), (qt, .inl (cB, 4096, .inl qg)), (Q.qq, .inl (cI, (8 * Q.C), .inl Q.qf)), (Q.qe, .inl (cL, (3 * Q.C), .inr (.inl Q.ef))), (tv, .inr (12, MF 13 (tw VA))), (V.au, .inl (cC, V.U, .inl V.un))] H := hP
  have hD : va_D A [(mo, .inr (13, MF 30 (va_up (va_up v 1 (.int 0)) 5 (.int (-1))))), (qx, .inl (cB, 4096, .inl f)), (qt, .inl (cB, 4096, .inl qg)), (Q.qq, .inl (cI, (8 * Q.C), .inl Q.qf)), (Q.qe, .inl (cL, (3 * Q.C), .inr (.inl Q.ef))), (tv, .inr (12, MF 13 (tw VA))), (V.au, .inl (cC, V.U, .inl V.un))] := hD
  refine lv_aload_n hx hb d_Mo_readQ_10 rfl (lv_at hl 1 rfl) ?_
  refine lv_iconst (v := 0) hx hb d_Mo_readQ_11 (by decide) ?_
  refine va_put (D := (dC, dI)) (ci := 13) (v := .int 0) (ty := .int) (C := R_Mo) (T := F_Mo) (N := 30) hx hb hts in_Mo t_Mo t_Mo_ok n_Mo hown hK hP hD hS 0 rfl rfl 4 (by decide) (hts _ w_1093) (fun _ h9 => h9) rfl (by decide +kernel) rfl rfl (by rw [MFl]; decide) d_Mo_readQ_12 (fun H locs hP hD hS => ?_)
  rw [MFs (n := 30) (k := 4) (by decide)] at hP hD
  have hP : va_P (dC, dI) classes [(mo, .inr (13, MF 30 (va_up (va_up (va_up v 1 (.int 0)) 5 (.int (-1))) 4 (.int 0)))), (qx, .inl (cB, 4096, .inl f)), (qt, .inl (cB, 4096, .inl qg)), (Q.qq, .inl (cI, (8 * Q.C), .inl Q.qf)), (Q.qe, .inl (cL, (3 * Q.C), .inr (.inl Q.ef))), (tv, .inr (12, MF 13 (tw VA))), (V.au, .inl (cC, V.U, .inl V.un))] H := hP
  have hD : va_D A [(mo, .inr (13, MF 30 (va_up (va_up (va_up v 1 (.int 0)) 5 (.int (-1))) 4 (.int 0)))), (qx, .inl (cB, 4096, .inl f)), (qt, .inl (cB, 4096, .inl qg)), (Q.qq, .inl (cI, (8 * Q.C), .inl Q.qf)), (Q.qe, .inl (cL, (3 * Q.C), .inr (.inl Q.ef))), (tv, .inr (12, MF 13 (tw VA))), (V.au, .inl (cC, V.U, .inl V.un))] := hD
  refine lv_aload_n hx hb d_Mo_readQ_15 rfl (lv_at hl 1 rfl) ?_
  refine lv_aload_n hx hb d_Mo_readQ_16 rfl (lv_at hl 1 rfl) ?_
  refine va_get (D := (dC, dI)) (ci := 13) (v := .ref qx) (C := R_Mo) (T := F_Mo) (N := 30) hx hb hts in_Mo hown hK hP 0 rfl rfl 0 (by decide) (hts _ w_1089) (fun _ h9 => h9) (MFg (by decide) ((va_up_ne _ _ (by decide)).trans ((va_up_ne _ _ (by decide)).trans ((va_up_ne _ _ (by decide)).trans (h0))))) d_Mo_readQ_17 ?_
  refine lv_iload_n hx hb d_Mo_readQ_20 rfl (lv_at hl 0 rfl) ?_
  have hPc := hP.sub (ws' := [(mo, .inr (13, MF 30 (va_up (va_up (va_up v 1 (.int 0)) 5 (.int (-1))) 4 (.int 0)))), (qx, .inl (cB, 4096, .inl f)), (Q.qq, .inl (cI, (8 * Q.C), .inl Q.qf)), (Q.qe, .inl (cL, (3 * Q.C), .inr (.inl Q.ef))), (tv, .inr (12, MF 13 (tw VA))), (V.au, .inl (cC, V.U, .inl V.un))]) [0, 1, 3, 4, 5, 6] rfl
  have hDc := hD.sub (ws' := [(mo, .inr (13, MF 30 (va_up (va_up (va_up v 1 (.int 0)) 5 (.int (-1))) 4 (.int 0)))), (qx, .inl (cB, 4096, .inl f)), (Q.qq, .inl (cI, (8 * Q.C), .inl Q.qf)), (Q.qe, .inl (cL, (3 * Q.C), .inr (.inl Q.ef))), (tv, .inr (12, MF 13 (tw VA))), (V.au, .inl (cC, V.U, .inl V.un))]) [0, 1, 3, 4, 5, 6] (by decide) rfl
  have hKc := hK.sub (tys' := [(cB, .byte), (cI, .int), (cL, .long), (cC, .char)]) [0, 1, 2, 3] rfl
  have hFc := va_free (wc := [(mo, .inr (13, MF 30 (va_up (va_up (va_up v 1 (.int 0)) 5 (.int (-1))) 4 (.int 0)))), (qx, .inl (cB, 4096, .inl f)), (Q.qq, .inl (cI, (8 * Q.C), .inl Q.qf)), (Q.qe, .inl (cL, (3 * Q.C), .inr (.inl Q.ef))), (tv, .inr (12, MF 13 (tw VA))), (V.au, .inl (cC, V.U, .inl V.un))]) hD hS hA [0, 1, 3, 4, 5, 6] rfl
  refine w_same (fun hq0 => ?_)
  refine va_calli (va_runV (As := [.ref qx, .int (nI tp)]) (rest := []) ⟨hx, hb, hml, hown, hts⟩ (c_Mo_readQuery l dC dI mo H (va_up (va_up (va_up v 1 (.int 0)) 5 (.int (-1))) 4 (.int 0)) cB cI cL cC qx 4096 f tp K tv Q VA V i htp (by decide) hQ hV eQR eV ei ((va_up_ne _ _ (by decide)).trans ((va_up_ne _ _ (by decide)).trans ((va_up_ne _ _ (by decide)).trans (h19)))) ((va_up_ne _ _ (by decide)).trans ((va_up_ne _ _ (by decide)).trans ((va_up_ne _ _ (by decide)).trans (h20)))) ((va_up_ne _ _ (by decide)).trans ((va_up_ne _ _ (by decide)).trans ((va_up_ne _ _ (by decide)).trans (h22))))) (cwV 2 hts (gt_V (own := R_Mo) (C := R_Mo) (i := 416) (y := y_Mo_readQuery) i_Mo_readQuery w_1399 w_1401 (gt_sel (y := y_Mo_readQuery) (n := 30) (by decide +kernel)) w_7) rfl rfl rfl (by decide +kernel) ⟨Nat.le_of_ble_eq_true rfl, Nat.le_of_ble_eq_true rfl⟩) ⟨me_blind, va_recv hKc hPc (ci := 13) (q0 := 0) rfl rfl, fun U hU hW => ⟨rfl, ⟨hU, by rw [hU]; exact hPc, va_K.moved hW.alike hKc, hDc.weaken (fun _ _ _ _ => trivial)⟩, by rw [hU]; exact ME.call hM hS.2.1 hFc hW⟩⟩ rfl rfl hl.1 rfl (lv_room (Nat.le_of_ble_eq_true rfl)) d_Mo_readQ_21 ⟨Nat.le_of_eq (Nat.zero_add _), Nat.le_of_eq (Nat.zero_add _)⟩) hS (fun q _ h => hFc q h) hFc (fun r1 ⟨Q2, V2, j2, b2, o2⟩ t9 H1 locs ht hvm hw hB hz1 hk1 hS => ?_)
  obtain ⟨⟨hP1, hK1, hD1⟩, hz9⟩ := hB
  rw [ht] at hP1
  rw [ht] at hz9
  obtain ⟨⟨hQk_Q2, hGn, hTXs, hR1, hR2⟩, hw⟩ := hw
  have hQk_Q2 : QOK Q2 := hQk_Q2
  have hGn : GQ (Q.R + 8 * (tp - i) + 9) (V.us + (tp + 12 - i)) Q V Q2 V2 := hGn
  have hz9 : szk H H1 (cQ Q V Q2 V2) (sQ Q V Q2 V2) := hz9
  have hq1 : szk s.heap H1 (cQ Q V Q2 V2) (sQ Q V Q2 V2) := (hq0.trans hz9).mono (by omega) (by omega)
  refine w_tight hq1 ?_
  obtain ⟨hP, hD⟩ := va_join (wr := [(qt, .inl (cB, 4096, .inl qg))]) (w1 := [(mo, .inr (13, MF 30 (rf (rs (tx (va_up (va_up (va_up v 1 (.int 0)) 5 (.int (-1))) 4 (.int 0)) qx tp) Q2 o2) j2 b2))), (qx, .inl (cB, 4096, .inl f)), (Q2.qq, .inl (cI, (8 * Q2.C), .inl Q2.qf)), (Q2.qe, .inl (cL, (3 * Q2.C), .inr (.inl Q2.ef))), (tv, .inr (12, MF 13 (tw V2))), (V2.au, .inl (cC, V2.U, .inl V2.un))]) hP hD [0, 1, 3, 4, 5, 6] [2] rfl rfl (by decide) (by decide) hk1 hFc hP1 hD1
  generalize H1 = H at hP hS ⊢
  have hP : va_P (dC, dI) classes [(qt, .inl (cB, 4096, .inl qg)), (mo, .inr (13, MF 30 (rf (rs (tx (va_up (va_up (va_up v 1 (.int 0)) 5 (.int (-1))) 4 (.int 0)) qx tp) Q2 o2) j2 b2))), (qx, .inl (cB, 4096, .inl f)), (Q2.qq, .inl (cI, (8 * Q2.C), .inl Q2.qf)), (Q2.qe, .inl (cL, (3 * Q2.C), .inr (.inl Q2.ef))), (tv, .inr (12, MF 13 (tw V2))), (V2.au, .inl (cC, V2.U, .inl V2.un))] H := hP
  have hD : va_D A [(qt, .inl (cB, 4096, .inl qg)), (mo, .inr (13, MF 30 (rf (rs (tx (va_up (va_up (va_up v 1 (.int 0)) 5 (.int (-1))) 4 (.int 0)) qx tp) Q2 o2) j2 b2))), (qx, .inl (cB, 4096, .inl f)), (Q2.qq, .inl (cI, (8 * Q2.C), .inl Q2.qf)), (Q2.qe, .inl (cL, (3 * Q2.C), .inr (.inl Q2.ef))), (tv, .inr (12, MF 13 (tw V2))), (V2.au, .inl (cC, V2.U, .inl V2.un))] := hD
  have hP := hP.sub (ws' := [(mo, .inr (13, MF 30 (rf (rs (tx (va_up (va_up (va_up v 1 (.int 0)) 5 (.int (-1))) 4 (.int 0)) qx tp) Q2 o2) j2 b2))), (qx, .inl (cB, 4096, .inl f)), (qt, .inl (cB, 4096, .inl qg)), (tv, .inr (12, MF 13 (tw V2))), (Q2.qq, .inl (cI, (8 * Q2.C), .inl Q2.qf)), (Q2.qe, .inl (cL, (3 * Q2.C), .inr (.inl Q2.ef))), (V2.au, .inl (cC, V2.U, .inl V2.un))]) [1, 2, 0, 5, 3, 4, 6] rfl
  have hD := hD.sub (ws' := [(mo, .inr (13, MF 30 (rf (rs (tx (va_up (va_up (va_up v 1 (.int 0)) 5 (.int (-1))) 4 (.int 0)) qx tp) Q2 o2) j2 b2))), (qx, .inl (cB, 4096, .inl f)), (qt, .inl (cB, 4096, .inl qg)), (tv, .inr (12, MF 13 (tw V2))), (Q2.qq, .inl (cI, (8 * Q2.C), .inl Q2.qf)), (Q2.qe, .inl (cL, (3 * Q2.C), .inr (.inl Q2.ef))), (V2.au, .inl (cC, V2.U, .inl V2.un))]) [1, 2, 0, 5, 3, 4, 6] (by decide) rfl
  have hP := hP.sub (ws' := [(mo, .inr (13, MF 30 (rf (rs (tx (va_up (va_up (va_up v 1 (.int 0)) 5 (.int (-1))) 4 (.int 0)) qx tp) Q2 o2) j2 b2))), (qx, .inl (cB, 4096, .inl f)), (qt, .inl (cB, 4096, .inl qg)), (Q2.qq, .inl (cI, (8 * Q2.C), .inl Q2.qf)), (Q2.qe, .inl (cL, (3 * Q2.C), .inr (.inl Q2.ef))), (tv, .inr (12, MF 13 (tw V2))), (V2.au, .inl (cC, V2.U, .inl V2.un))]) [0, 1, 2, 4, 5, 3, 6] rfl
  have hD := hD.sub (ws' := [(mo, .inr (13, MF 30 (rf (rs (tx (va_up (va_up (va_up v 1 (.int 0)) 5 (.int (-1))) 4 (.int 0)) qx tp) Q2 o2) j2 b2))), (qx, .inl (cB, 4096, .inl f)), (qt, .inl (cB, 4096, .inl qg)), (Q2.qq, .inl (cI, (8 * Q2.C), .inl Q2.qf)), (Q2.qe, .inl (cL, (3 * Q2.C), .inr (.inl Q2.ef))), (tv, .inr (12, MF 13 (tw V2))), (V2.au, .inl (cC, V2.U, .inl V2.un))]) [0, 1, 2, 4, 5, 3, 6] (by decide) rfl
  obtain ⟨us9, hX9, hl9⟩ := hTXs
  have hX9 : TX V V2 us9 := hX9
  have eus : V.us = 0 := by rw [eV]; rfl
  have hTk_V2 : TOK V2 := hX9.ok hV (by omega)
  have hqb := hQk_Q2.2.2.1
  have hqb2 := hQk_Q2.2.1
  have hfit := hGn.fits
  rcases hw with ⟨fl, g9, hv_1, hv_2, hv_3, hv_4, hv_5, hv_6, hv_7⟩ | ⟨hv_1, hv_2⟩
  · have hv_4 : Q2.qf (8 * 0 + 3) = (if fl = true then 1 else 0) := hv_4
    have hv_5 : 0 < Q2.R := hv_5
    subst hv_1
    refine lv_istore_n (lv' := [(2, .int 0), (1, .int (nI tp)), (0, .ref mo)]) hx hb d_Mo_readQ_24 rfl hl (by decide) rfl (fun ls hl => ?_)
    refine lv_iload_n hx hb d_Mo_readQ_25 rfl (lv_at hl 0 rfl) ?_
    refine lv_if_ge (tgt := 44) hx hb d_Mo_readQ_26 (by decide) (fun _ => ?_) (fun h => absurd (by decide) h)
    refine lv_aload_n hx hb d_Mo_readQ_44 rfl (lv_at hl 2 rfl) ?_
    refine lv_iload_n hx hb d_Mo_readQ_45 rfl (lv_at hl 1 rfl) ?_
    refine va_put (D := (dC, dI)) (ci := 13) (v := .int (nI tp)) (ty := .int) (C := R_Mo) (T := F_Mo) (N := 30) hx hb hts in_Mo t_Mo t_Mo_ok n_Mo hown hK hP hD hS 0 rfl rfl 17 (by decide) (hts _ w_1106) (fun _ h9 => h9) rfl (by decide +kernel) rfl rfl (by rw [MFl]; decide) d_Mo_readQ_46 (fun H locs hP hD hS => ?_)
    rw [MFs (n := 30) (k := 17) (by decide)] at hP hD
    have hP : va_P (dC, dI) classes [(mo, .inr (13, MF 30 (va_up (rf (rs (tx (va_up (va_up (va_up v 1 (.int 0)) 5 (.int (-1))) 4 (.int 0)) qx tp) Q2 o2) j2 b2) 17 (.int (nI tp))))), (qx, .inl (cB, 4096, .inl f)), (qt, .inl (cB, 4096, .inl qg)), (Q2.qq, .inl (cI, (8 * Q2.C), .inl Q2.qf)), (Q2.qe, .inl (cL, (3 * Q2.C), .inr (.inl Q2.ef))), (tv, .inr (12, MF 13 (tw V2))), (V2.au, .inl (cC, V2.U, .inl V2.un))] H := hP
    have hD : va_D A [(mo, .inr (13, MF 30 (va_up (rf (rs (tx (va_up (va_up (va_up v 1 (.int 0)) 5 (.int (-1))) 4 (.int 0)) qx tp) Q2 o2) j2 b2) 17 (.int (nI tp))))), (qx, .inl (cB, 4096, .inl f)), (qt, .inl (cB, 4096, .inl qg)), (Q2.qq, .inl (cI, (8 * Q2.C), .inl Q2.qf)), (Q2.qe, .inl (cL, (3 * Q2.C), .inr (.inl Q2.ef))), (tv, .inr (12, MF 13 (tw V2))), (V2.au, .inl (cC, V2.U, .inl V2.un))] := hD
    refine lv_iconst (v := 0) hx hb d_Mo_readQ_49 (by decide) ?_
    refine lv_istore_n (lv' := [(3, .int 0), (2, .int 0), (1, .int (nI tp)), (0, .ref mo)]) hx hb d_Mo_readQ_50 rfl hl (by decide) rfl (fun ls hl => ?_)
    rw [← cpR_0 qg f] at hP hD
    have hP : va_P (dC, dI) classes [(mo, .inr (13, MF 30 (va_up (rf (rs (tx (va_up (va_up (va_up v 1 (.int 0)) 5 (.int (-1))) 4 (.int 0)) qx tp) Q2 o2) j2 b2) 17 (.int (nI tp))))), (qx, .inl (cB, 4096, .inl f)), (qt, .inl (cB, 4096, .inl (cpR qg f 0))), (Q2.qq, .inl (cI, (8 * Q2.C), .inl Q2.qf)), (Q2.qe, .inl (cL, (3 * Q2.C), .inr (.inl Q2.ef))), (tv, .inr (12, MF 13 (tw V2))), (V2.au, .inl (cC, V2.U, .inl V2.un))] H := hP
    have hD : va_D A [(mo, .inr (13, MF 30 (va_up (rf (rs (tx (va_up (va_up (va_up v 1 (.int 0)) 5 (.int (-1))) 4 (.int 0)) qx tp) Q2 o2) j2 b2) 17 (.int (nI tp))))), (qx, .inl (cB, 4096, .inl f)), (qt, .inl (cB, 4096, .inl (cpR qg f 0))), (Q2.qq, .inl (cI, (8 * Q2.C), .inl Q2.qf)), (Q2.qe, .inl (cL, (3 * Q2.C), .inr (.inl Q2.ef))), (tv, .inr (12, MF 13 (tw V2))), (V2.au, .inl (cC, V2.U, .inl V2.un))] := hD
    refine w_loop (D := (dC, dI)) (cl := classes) (A := A) (H0 := s.heap) (nL := 4) 51 (σ := Nat) (fun j => j ≤ tp) (fun j => tp - j) (fun j => [(mo, .inr (13, MF 30 (va_up (rf (rs (tx (va_up (va_up (va_up v 1 (.int 0)) 5 (.int (-1))) 4 (.int 0)) qx tp) Q2 o2) j2 b2) 17 (.int (nI tp))))), (qx, .inl (cB, 4096, .inl f)), (qt, .inl (cB, 4096, .inl (cpR qg f j))), (Q2.qq, .inl (cI, (8 * Q2.C), .inl Q2.qf)), (Q2.qe, .inl (cL, (3 * Q2.C), .inr (.inl Q2.ef))), (tv, .inr (12, MF 13 (tw V2))), (V2.au, .inl (cC, V2.U, .inl V2.un))]) (fun j => [(0, .ref mo), (1, .int (nI tp)), (2, .int 0), (3, .int (nI j))]) ?_ 0 (Nat.zero_le _) hP hD hS (lv_sub hl [3, 2, 1, 0] rfl)
    rintro j H locs ls hI ih hP hD hS hl
    have hP : va_P (dC, dI) classes [(mo, .inr (13, MF 30 (va_up (rf (rs (tx (va_up (va_up (va_up v 1 (.int 0)) 5 (.int (-1))) 4 (.int 0)) qx tp) Q2 o2) j2 b2) 17 (.int (nI tp))))), (qx, .inl (cB, 4096, .inl f)), (qt, .inl (cB, 4096, .inl (cpR qg f j))), (Q2.qq, .inl (cI, (8 * Q2.C), .inl Q2.qf)), (Q2.qe, .inl (cL, (3 * Q2.C), .inr (.inl Q2.ef))), (tv, .inr (12, MF 13 (tw V2))), (V2.au, .inl (cC, V2.U, .inl V2.un))] H := hP
    have hD : va_D A [(mo, .inr (13, MF 30 (va_up (rf (rs (tx (va_up (va_up (va_up v 1 (.int 0)) 5 (.int (-1))) 4 (.int 0)) qx tp) Q2 o2) j2 b2) 17 (.int (nI tp))))), (qx, .inl (cB, 4096, .inl f)), (qt, .inl (cB, 4096, .inl (cpR qg f j))), (Q2.qq, .inl (cI, (8 * Q2.C), .inl Q2.qf)), (Q2.qe, .inl (cL, (3 * Q2.C), .inr (.inl Q2.ef))), (tv, .inr (12, MF 13 (tw V2))), (V2.au, .inl (cC, V2.U, .inl V2.un))] := hD
    have hl : lv_has ls 4 [(0, .ref mo), (1, .int (nI tp)), (2, .int 0), (3, .int (nI j))] := hl
    refine lv_iload_n hx hb d_Mo_readQ_51 rfl (lv_at hl 3 rfl) ?_
    refine lv_iload_n hx hb d_Mo_readQ_52 rfl (lv_at hl 1 rfl) ?_
    refine lv_icmp_ge (tgt := 74) hx hb d_Mo_readQ_53 (by decide) (fun c53 => ?_) (fun c53 => ?_)
    · refine lv_aload_n hx hb d_Mo_readQ_74 rfl (lv_at hl 0 rfl) ?_
      refine lv_iload_n hx hb d_Mo_readQ_75 rfl (lv_at hl 2 rfl) ?_
      refine lv_iconst (v := 3) hx hb d_Mo_readQ_76 (by decide) ?_
      have hjt : j = tp := by rw [nI_leI (by omega) (by omega)] at c53; omega
      refine W.eq (g2 := F0 m 77 ls [.int 3, .int (nI 0), .ref mo]) rfl ?_
      refine W.eq (g2 := F0 m 77 ls [.int (nI 3), .int (nI 0), .ref mo]) rfl ?_
      have hPc := hP.sub (ws' := [(mo, .inr (13, MF 30 (va_up (rf (rs (tx (va_up (va_up (va_up v 1 (.int 0)) 5 (.int (-1))) 4 (.int 0)) qx tp) Q2 o2) j2 b2) 17 (.int (nI tp))))), (Q2.qq, .inl (cI, (8 * Q2.C), .inl Q2.qf))]) [0, 3] rfl
      have hDc := hD.sub (ws' := [(mo, .inr (13, MF 30 (va_up (rf (rs (tx (va_up (va_up (va_up v 1 (.int 0)) 5 (.int (-1))) 4 (.int 0)) qx tp) Q2 o2) j2 b2) 17 (.int (nI tp))))), (Q2.qq, .inl (cI, (8 * Q2.C), .inl Q2.qf))]) [0, 3] (by decide) rfl
      have hKc := hK.sub (tys' := [(cI, .int)]) [1] rfl
      have hFc := va_free (wc := [(mo, .inr (13, MF 30 (va_up (rf (rs (tx (va_up (va_up (va_up v 1 (.int 0)) 5 (.int (-1))) 4 (.int 0)) qx tp) Q2 o2) j2 b2) 17 (.int (nI tp))))), (Q2.qq, .inl (cI, (8 * Q2.C), .inl Q2.qf))]) hD hS hA [0, 3] rfl
      refine va_calli (va_runV (As := [.int (nI 0), .int (nI 3)]) (rest := []) ⟨hx, hb, hml, hown, hts⟩ (c_Mo_field l dC dI mo H (va_up (rf (rs (tx (va_up (va_up (va_up v 1 (.int 0)) 5 (.int (-1))) 4 (.int 0)) qx tp) Q2 o2) j2 b2) 17 (.int (nI tp))) cI Q2.qq (8 * Q2.C) Q2.qf 0 3 (by omega) (by omega) ((va_up_ne _ _ (by decide)).trans ((rf_ne (by decide) (by decide)).trans rs_19))) (cwV 2 hts (gt_V (own := R_Mo) (C := R_Mo) (i := 286) (y := y_Mo_field) i_Mo_field w_1431 w_1433 (gt_sel (y := y_Mo_field) (n := 30) (by decide +kernel)) w_7) rfl rfl rfl (by decide +kernel) ⟨Nat.le_of_ble_eq_true rfl, Nat.le_of_ble_eq_true rfl⟩) ⟨mp_blind, va_recv hKc hPc (ci := 13) (q0 := 0) rfl rfl, fun U hU hW => ⟨rfl, hU, by rw [hU]; exact hPc, va_K.moved hW.alike hKc, hDc.weaken (fun _ _ _ _ => trivial)⟩⟩ rfl rfl hl.1 rfl (lv_room (Nat.le_of_ble_eq_true rfl)) d_Mo_readQ_77 ⟨hfit.1, hfit.2⟩) hS (fun q _ h => hFc q h) hFc (fun r9 _u t9 H1 locs ht hvm hw hB hz1 hk1 hS => ?_)
      obtain ⟨hP1, hK1, hD1⟩ := hB
      rw [ht] at hP1
      obtain ⟨hP, hD⟩ := va_join (wr := [(qx, .inl (cB, 4096, .inl f)), (qt, .inl (cB, 4096, .inl (cpR qg f j))), (Q2.qe, .inl (cL, (3 * Q2.C), .inr (.inl Q2.ef))), (tv, .inr (12, MF 13 (tw V2))), (V2.au, .inl (cC, V2.U, .inl V2.un))]) (w1 := [(mo, .inr (13, MF 30 (va_up (rf (rs (tx (va_up (va_up (va_up v 1 (.int 0)) 5 (.int (-1))) 4 (.int 0)) qx tp) Q2 o2) j2 b2) 17 (.int (nI tp))))), (Q2.qq, .inl (cI, (8 * Q2.C), .inl Q2.qf))]) hP hD [0, 3] [1, 2, 4, 5, 6] rfl rfl (by decide) (by decide) hk1 hFc hP1 hD1
      generalize H1 = H at hP hS ⊢
      have hP : va_P (dC, dI) classes [(qx, .inl (cB, 4096, .inl f)), (qt, .inl (cB, 4096, .inl (cpR qg f j))), (Q2.qe, .inl (cL, (3 * Q2.C), .inr (.inl Q2.ef))), (tv, .inr (12, MF 13 (tw V2))), (V2.au, .inl (cC, V2.U, .inl V2.un)), (mo, .inr (13, MF 30 (va_up (rf (rs (tx (va_up (va_up (va_up v 1 (.int 0)) 5 (.int (-1))) 4 (.int 0)) qx tp) Q2 o2) j2 b2) 17 (.int (nI tp))))), (Q2.qq, .inl (cI, (8 * Q2.C), .inl Q2.qf))] H := hP
      have hD : va_D A [(qx, .inl (cB, 4096, .inl f)), (qt, .inl (cB, 4096, .inl (cpR qg f j))), (Q2.qe, .inl (cL, (3 * Q2.C), .inr (.inl Q2.ef))), (tv, .inr (12, MF 13 (tw V2))), (V2.au, .inl (cC, V2.U, .inl V2.un)), (mo, .inr (13, MF 30 (va_up (rf (rs (tx (va_up (va_up (va_up v 1 (.int 0)) 5 (.int (-1))) 4 (.int 0)) qx tp) Q2 o2) j2 b2) 17 (.int (nI tp))))), (Q2.qq, .inl (cI, (8 * Q2.C), .inl Q2.qf))] := hD
      have hP := hP.sub (ws' := [(mo, .inr (13, MF 30 (va_up (rf (rs (tx (va_up (va_up (va_up v 1 (.int 0)) 5 (.int (-1))) 4 (.int 0)) qx tp) Q2 o2) j2 b2) 17 (.int (nI tp))))), (qx, .inl (cB, 4096, .inl f)), (qt, .inl (cB, 4096, .inl (cpR qg f j))), (Q2.qq, .inl (cI, (8 * Q2.C), .inl Q2.qf)), (Q2.qe, .inl (cL, (3 * Q2.C), .inr (.inl Q2.ef))), (tv, .inr (12, MF 13 (tw V2))), (V2.au, .inl (cC, V2.U, .inl V2.un))]) [5, 0, 1, 6, 2, 3, 4] rfl
      have hD := hD.sub (ws' := [(mo, .inr (13, MF 30 (va_up (rf (rs (tx (va_up (va_up (va_up v 1 (.int 0)) 5 (.int (-1))) 4 (.int 0)) qx tp) Q2 o2) j2 b2) 17 (.int (nI tp))))), (qx, .inl (cB, 4096, .inl f)), (qt, .inl (cB, 4096, .inl (cpR qg f j))), (Q2.qq, .inl (cI, (8 * Q2.C), .inl Q2.qf)), (Q2.qe, .inl (cL, (3 * Q2.C), .inr (.inl Q2.ef))), (tv, .inr (12, MF 13 (tw V2))), (V2.au, .inl (cC, V2.U, .inl V2.un))]) [5, 0, 1, 6, 2, 3, 4] (by decide) rfl
      have h_r9 : r9 = Q2.qf (8 * 0 + 3) := hw
      refine w_same (fun hq => ?_)
      refine W.widen (k := kcap Q (Q.R + 8 * (tp - i) + 9) + qcap V (V.us + (tp + 12 - i))) (n := 22 * kcap Q (Q.R + 8 * (tp - i) + 9) + 2 * qcap V (V.us + (tp + 12 - i))) hfit.1 hfit.2 ?_
      have hV1 : ∀ j9, ¬ rdF j9 → (va_up (va_up (va_up v 1 (.int 0)) 5 (.int (-1))) 4 (.int 0)) j9 = v j9 := fun j9 hj9 => by
        simp only [not_or] at hj9
        obtain ⟨q1, q4, q5, q6, q7, q8, q9, q17, q19, q20, q21, q23⟩ := hj9
        rw [va_up_ne _ _ q4, va_up_ne _ _ q5, va_up_ne _ _ q1]
      have hV2 : ∀ j9, ¬ rdF j9 → (rf (rs (tx (va_up (va_up (va_up v 1 (.int 0)) 5 (.int (-1))) 4 (.int 0)) qx tp) Q2 o2) j2 b2) j9 = v j9 := fun j9 hj9 => by
        rw [← hV1 j9 hj9]
        simp only [not_or] at hj9
        obtain ⟨q1, q4, q5, q6, q7, q8, q9, q17, q19, q20, q21, q23⟩ := hj9
        rw [rf_ne q7 q9, rs_ne q19 q20 q21 q23, tx_ne q6 q8]
      rw [hjt] at hP hD
      have hpq : pQ (cpR qg f tp) tp = some (fl, g9) := by rw [← hv_2]; exact pQ_cg (fun j9 h9 => if_pos h9)
      have hf17 : (va_up (rf (rs (tx (va_up (va_up (va_up v 1 (.int 0)) 5 (.int (-1))) 4 (.int 0)) qx tp) Q2 o2) j2 b2) 17 (.int (nI tp))) 17 = .int (nI tp) := va_up_self _ _ _
      have hfl : ∀ j9, ¬ rdF j9 → (va_up (rf (rs (tx (va_up (va_up (va_up v 1 (.int 0)) 5 (.int (-1))) 4 (.int 0)) qx tp) Q2 o2) j2 b2) 17 (.int (nI tp))) j9 = v j9 := fun j9 hj9 => by rw [va_up_ne _ _ (fun q => hj9 (by rw [q]; decide))]; exact hV2 j9 hj9
      have hf5 : (∃ z5, (va_up (rf (rs (tx (va_up (va_up (va_up v 1 (.int 0)) 5 (.int (-1))) 4 (.int 0)) qx tp) Q2 o2) j2 b2) 17 (.int (nI tp))) 5 = .int z5) ∨ (va_up (rf (rs (tx (va_up (va_up (va_up v 1 (.int 0)) 5 (.int (-1))) 4 (.int 0)) qx tp) Q2 o2) j2 b2) 17 (.int (nI tp))) 5 = v 5 := Or.inl ⟨_, by rw [va_up_ne _ _ (by decide), rf_ne (by decide) (by decide), rs_ne (by decide) (by decide) (by decide) (by decide), tx_ne (by decide) (by decide), va_up_ne _ _ (by decide)]; exact va_up_self _ _ _⟩
      have hf1 : (va_up (rf (rs (tx (va_up (va_up (va_up v 1 (.int 0)) 5 (.int (-1))) 4 (.int 0)) qx tp) Q2 o2) j2 b2) 17 (.int (nI tp))) 1 = .int (nI 0) := by rw [va_up_ne _ _ (by decide), rf_ne (by decide) (by decide), rs_ne (by decide) (by decide) (by decide) (by decide), tx_ne (by decide) (by decide), va_up_ne _ _ (by decide), va_up_ne _ _ (by decide)]; exact va_up_self _ _ _
      have hf19 : (va_up (rf (rs (tx (va_up (va_up (va_up v 1 (.int 0)) 5 (.int (-1))) 4 (.int 0)) qx tp) Q2 o2) j2 b2) 17 (.int (nI tp))) 19 = .ref Q2.qq := by rw [va_up_ne _ _ (by decide), rf_ne (by decide) (by decide)]; exact rs_19
      have hf20 : (va_up (rf (rs (tx (va_up (va_up (va_up v 1 (.int 0)) 5 (.int (-1))) 4 (.int 0)) qx tp) Q2 o2) j2 b2) 17 (.int (nI tp))) 20 = .ref Q2.qe := by rw [va_up_ne _ _ (by decide), rf_ne (by decide) (by decide)]; exact rs_20
      have hf4 : (va_up (rf (rs (tx (va_up (va_up (va_up v 1 (.int 0)) 5 (.int (-1))) 4 (.int 0)) qx tp) Q2 o2) j2 b2) 17 (.int (nI tp))) 4 = .int 0 := by rw [va_up_ne _ _ (by decide), rf_ne (by decide) (by decide), rs_ne (by decide) (by decide) (by decide) (by decide), tx_ne (by decide) (by decide)]; exact va_up_self _ _ _
      have hRD : RDR f tp r9 ((va_up (rf (rs (tx (va_up (va_up (va_up v 1 (.int 0)) 5 (.int (-1))) 4 (.int 0)) qx tp) Q2 o2) j2 b2) 17 (.int (nI tp))) 4) := Or.inl ⟨fl, g9, hv_2, hf4, h_r9.trans hv_4⟩
      exact W.iret (v := r9) hx hb hr (fun t9 ht hW => ⟨⟨r9, (va_up (rf (rs (tx (va_up (va_up (va_up v 1 (.int 0)) 5 (.int (-1))) 4 (.int 0)) qx tp) Q2 o2) j2 b2) 17 (.int (nI tp)), Q2, V2, cpR qg f tp), rfl, ⟨hQk_Q2, hTk_V2, hGn, hf1, hfl, hf19, hf20, Or.inr ⟨hf17, (fl, g9), hpq, hv_2⟩, hf5, hRD⟩, ⟨by rw [ht]; exact hP, va_K.moved hW.alike hK, hD⟩, by rw [ht]; exact hq⟩, hS.F ht⟩) hS.2.2 d_Mo_readQ_80
    · refine lv_aload_n hx hb d_Mo_readQ_56 rfl (lv_at hl 0 rfl) ?_
      refine va_get (D := (dC, dI)) (ci := 13) (v := .ref qt) (C := R_Mo) (T := F_Mo) (N := 30) hx hb hts in_Mo hown hK hP 0 rfl rfl 16 (by decide) (hts _ w_1105) (fun _ h9 => h9) (MFg (by decide) ((va_up_ne _ _ (by decide)).trans ((rf_ne (by decide) (by decide)).trans ((rs_ne (by decide) (by decide) (by decide) (by decide)).trans ((tx_ne (by decide) (by decide)).trans ((va_up_ne _ _ (by decide)).trans ((va_up_ne _ _ (by decide)).trans ((va_up_ne _ _ (by decide)).trans (h16))))))))) d_Mo_readQ_57 ?_
      refine lv_iload_n hx hb d_Mo_readQ_60 rfl (lv_at hl 3 rfl) ?_
      refine lv_aload_n hx hb d_Mo_readQ_61 rfl (lv_at hl 0 rfl) ?_
      refine va_get (D := (dC, dI)) (ci := 13) (v := .ref qx) (C := R_Mo) (T := F_Mo) (N := 30) hx hb hts in_Mo hown hK hP 0 rfl rfl 0 (by decide) (hts _ w_1089) (fun _ h9 => h9) (MFg (by decide) ((va_up_ne _ _ (by decide)).trans ((rf_ne (by decide) (by decide)).trans ((rs_ne (by decide) (by decide) (by decide) (by decide)).trans ((tx_ne (by decide) (by decide)).trans ((va_up_ne _ _ (by decide)).trans ((va_up_ne _ _ (by decide)).trans ((va_up_ne _ _ (by decide)).trans (h0))))))))) d_Mo_readQ_62 ?_
      refine lv_iload_n hx hb d_Mo_readQ_65 rfl (lv_at hl 3 rfl) ?_
      have hj : j < tp := by rw [nI_leI (by omega) (by omega)] at c53; omega
      refine va_bald hx hb hK hP 1 0 rfl rfl (vp_in_nI (show j < 4096 by omega) (by decide)) d_Mo_readQ_66 ?_
      rw [show (nI j).toNatClampNeg = j from nI_clamp (by omega)]
      refine va_bast hx hb hK hP hD hS 2 0 rfl rfl (vp_in_nI (show j < 4096 by omega) (by decide)) d_Mo_readQ_67 (fun H locs hP hD hS => ?_)
      rw [show (nI j).toNatClampNeg = j from nI_clamp (by omega), hfb j, cpR_s] at hP hD
      have hP : va_P (dC, dI) classes [(mo, .inr (13, MF 30 (va_up (rf (rs (tx (va_up (va_up (va_up v 1 (.int 0)) 5 (.int (-1))) 4 (.int 0)) qx tp) Q2 o2) j2 b2) 17 (.int (nI tp))))), (qx, .inl (cB, 4096, .inl f)), (qt, .inl (cB, 4096, .inl (cpR qg f (j + 1)))), (Q2.qq, .inl (cI, (8 * Q2.C), .inl Q2.qf)), (Q2.qe, .inl (cL, (3 * Q2.C), .inr (.inl Q2.ef))), (tv, .inr (12, MF 13 (tw V2))), (V2.au, .inl (cC, V2.U, .inl V2.un))] H := hP
      have hD : va_D A [(mo, .inr (13, MF 30 (va_up (rf (rs (tx (va_up (va_up (va_up v 1 (.int 0)) 5 (.int (-1))) 4 (.int 0)) qx tp) Q2 o2) j2 b2) 17 (.int (nI tp))))), (qx, .inl (cB, 4096, .inl f)), (qt, .inl (cB, 4096, .inl (cpR qg f (j + 1)))), (Q2.qq, .inl (cI, (8 * Q2.C), .inl Q2.qf)), (Q2.qe, .inl (cL, (3 * Q2.C), .inr (.inl Q2.ef))), (tv, .inr (12, MF 13 (tw V2))), (V2.au, .inl (cC, V2.U, .inl V2.un))] := hD
      refine lv_iinc (v := nI (j + 1)) (lv' := [(3, .int (nI (j + 1))), (0, .ref mo), (1, .int (nI tp)), (2, .int 0)]) hx hb d_Mo_readQ_68 hl (k := 3) rfl (nI_1 j) (by decide) rfl (fun ls hl => ?_)
      refine lv_goto (tgt := 51) hx hb d_Mo_readQ_71 (by decide) ?_
      exact ih (j + 1) _ _ _ (by omega) (by show tp - (j + 1) < tp - j; omega) hP hD hS (lv_sub hl [1, 2, 3, 0] rfl)
  · subst hv_1
    refine lv_istore_n (lv' := [(2, .int (-1)), (1, .int (nI tp)), (0, .ref mo)]) hx hb d_Mo_readQ_24 rfl hl (by decide) rfl (fun ls hl => ?_)
    refine lv_iload_n hx hb d_Mo_readQ_25 rfl (lv_at hl 0 rfl) ?_
    refine lv_if_ge (tgt := 44) hx hb d_Mo_readQ_26 (by decide) (fun h => absurd h (by decide)) (fun _ => ?_)
    refine lv_aload_n hx hb d_Mo_readQ_29 rfl (lv_at hl 2 rfl) ?_
    refine lv_aload_n hx hb d_Mo_readQ_30 rfl (lv_at hl 2 rfl) ?_
    refine va_get (D := (dC, dI)) (ci := 13) (v := .int b2) (C := R_Mo) (T := F_Mo) (N := 30) hx hb hts in_Mo hown hK hP 0 rfl rfl 9 (by decide) (hts _ w_1098) (fun _ h9 => h9) (MFg (by decide) rf_9) d_Mo_readQ_31 ?_
    refine va_put (D := (dC, dI)) (ci := 13) (v := .int b2) (ty := .int) (C := R_Mo) (T := F_Mo) (N := 30) hx hb hts in_Mo t_Mo t_Mo_ok n_Mo hown hK hP hD hS 0 rfl rfl 5 (by decide) (hts _ w_1094) (fun _ h9 => h9) rfl (by decide +kernel) rfl rfl (by rw [MFl]; decide) d_Mo_readQ_34 (fun H locs hP hD hS => ?_)
    rw [MFs (n := 30) (k := 5) (by decide)] at hP hD
    have hP : va_P (dC, dI) classes [(mo, .inr (13, MF 30 (va_up (rf (rs (tx (va_up (va_up (va_up v 1 (.int 0)) 5 (.int (-1))) 4 (.int 0)) qx tp) Q2 o2) j2 b2) 5 (.int b2)))), (qx, .inl (cB, 4096, .inl f)), (qt, .inl (cB, 4096, .inl qg)), (Q2.qq, .inl (cI, (8 * Q2.C), .inl Q2.qf)), (Q2.qe, .inl (cL, (3 * Q2.C), .inr (.inl Q2.ef))), (tv, .inr (12, MF 13 (tw V2))), (V2.au, .inl (cC, V2.U, .inl V2.un))] H := hP
    have hD : va_D A [(mo, .inr (13, MF 30 (va_up (rf (rs (tx (va_up (va_up (va_up v 1 (.int 0)) 5 (.int (-1))) 4 (.int 0)) qx tp) Q2 o2) j2 b2) 5 (.int b2)))), (qx, .inl (cB, 4096, .inl f)), (qt, .inl (cB, 4096, .inl qg)), (Q2.qq, .inl (cI, (8 * Q2.C), .inl Q2.qf)), (Q2.qe, .inl (cL, (3 * Q2.C), .inr (.inl Q2.ef))), (tv, .inr (12, MF 13 (tw V2))), (V2.au, .inl (cC, V2.U, .inl V2.un))] := hD
    refine lv_aload_n hx hb d_Mo_readQ_37 rfl (lv_at hl 2 rfl) ?_
    refine lv_iconst (v := 1) hx hb d_Mo_readQ_38 (by decide) ?_
    refine va_put (D := (dC, dI)) (ci := 13) (v := .int 1) (ty := .int) (C := R_Mo) (T := F_Mo) (N := 30) hx hb hts in_Mo t_Mo t_Mo_ok n_Mo hown hK hP hD hS 0 rfl rfl 4 (by decide) (hts _ w_1093) (fun _ h9 => h9) rfl (by decide +kernel) rfl rfl (by rw [MFl]; decide) d_Mo_readQ_39 (fun H locs hP hD hS => ?_)
    rw [MFs (n := 30) (k := 4) (by decide)] at hP hD
    have hP : va_P (dC, dI) classes [(mo, .inr (13, MF 30 (va_up (va_up (rf (rs (tx (va_up (va_up (va_up v 1 (.int 0)) 5 (.int (-1))) 4 (.int 0)) qx tp) Q2 o2) j2 b2) 5 (.int b2)) 4 (.int 1)))), (qx, .inl (cB, 4096, .inl f)), (qt, .inl (cB, 4096, .inl qg)), (Q2.qq, .inl (cI, (8 * Q2.C), .inl Q2.qf)), (Q2.qe, .inl (cL, (3 * Q2.C), .inr (.inl Q2.ef))), (tv, .inr (12, MF 13 (tw V2))), (V2.au, .inl (cC, V2.U, .inl V2.un))] H := hP
    have hD : va_D A [(mo, .inr (13, MF 30 (va_up (va_up (rf (rs (tx (va_up (va_up (va_up v 1 (.int 0)) 5 (.int (-1))) 4 (.int 0)) qx tp) Q2 o2) j2 b2) 5 (.int b2)) 4 (.int 1)))), (qx, .inl (cB, 4096, .inl f)), (qt, .inl (cB, 4096, .inl qg)), (Q2.qq, .inl (cI, (8 * Q2.C), .inl Q2.qf)), (Q2.qe, .inl (cL, (3 * Q2.C), .inr (.inl Q2.ef))), (tv, .inr (12, MF 13 (tw V2))), (V2.au, .inl (cC, V2.U, .inl V2.un))] := hD
    refine lv_iconst (v := 0) hx hb d_Mo_readQ_42 (by decide) ?_
    refine w_same (fun hq => ?_)
    refine W.widen (k := kcap Q (Q.R + 8 * (tp - i) + 9) + qcap V (V.us + (tp + 12 - i))) (n := 22 * kcap Q (Q.R + 8 * (tp - i) + 9) + 2 * qcap V (V.us + (tp + 12 - i))) hfit.1 hfit.2 ?_
    have hV1 : ∀ j9, ¬ rdF j9 → (va_up (va_up (va_up v 1 (.int 0)) 5 (.int (-1))) 4 (.int 0)) j9 = v j9 := fun j9 hj9 => by
      simp only [not_or] at hj9
      obtain ⟨q1, q4, q5, q6, q7, q8, q9, q17, q19, q20, q21, q23⟩ := hj9
      rw [va_up_ne _ _ q4, va_up_ne _ _ q5, va_up_ne _ _ q1]
    have hV2 : ∀ j9, ¬ rdF j9 → (rf (rs (tx (va_up (va_up (va_up v 1 (.int 0)) 5 (.int (-1))) 4 (.int 0)) qx tp) Q2 o2) j2 b2) j9 = v j9 := fun j9 hj9 => by
      rw [← hV1 j9 hj9]
      simp only [not_or] at hj9
      obtain ⟨q1, q4, q5, q6, q7, q8, q9, q17, q19, q20, q21, q23⟩ := hj9
      rw [rf_ne q7 q9, rs_ne q19 q20 q21 q23, tx_ne q6 q8]
    have hf17 : (va_up (va_up (rf (rs (tx (va_up (va_up (va_up v 1 (.int 0)) 5 (.int (-1))) 4 (.int 0)) qx tp) Q2 o2) j2 b2) 5 (.int b2)) 4 (.int 1)) 17 = v 17 := by rw [va_up_ne _ _ (by decide), va_up_ne _ _ (by decide), rf_ne (by decide) (by decide), rs_ne (by decide) (by decide) (by decide) (by decide), tx_ne (by decide) (by decide), va_up_ne _ _ (by decide), va_up_ne _ _ (by decide), va_up_ne _ _ (by decide)]
    have hfl : ∀ j9, ¬ rdF j9 → (va_up (va_up (rf (rs (tx (va_up (va_up (va_up v 1 (.int 0)) 5 (.int (-1))) 4 (.int 0)) qx tp) Q2 o2) j2 b2) 5 (.int b2)) 4 (.int 1)) j9 = v j9 := fun j9 hj9 => by rw [va_up_ne _ _ (fun q => hj9 (by rw [q]; decide)), va_up_ne _ _ (fun q => hj9 (by rw [q]; decide))]; exact hV2 j9 hj9
    have hf5 : (∃ z5, (va_up (va_up (rf (rs (tx (va_up (va_up (va_up v 1 (.int 0)) 5 (.int (-1))) 4 (.int 0)) qx tp) Q2 o2) j2 b2) 5 (.int b2)) 4 (.int 1)) 5 = .int z5) ∨ (va_up (va_up (rf (rs (tx (va_up (va_up (va_up v 1 (.int 0)) 5 (.int (-1))) 4 (.int 0)) qx tp) Q2 o2) j2 b2) 5 (.int b2)) 4 (.int 1)) 5 = v 5 := Or.inl (by first | exact ⟨_, va_up_self _ _ _⟩ | exact ⟨_, (va_up_ne _ _ (by decide)).trans (va_up_self _ _ _)⟩)
    have hf1 : (va_up (va_up (rf (rs (tx (va_up (va_up (va_up v 1 (.int 0)) 5 (.int (-1))) 4 (.int 0)) qx tp) Q2 o2) j2 b2) 5 (.int b2)) 4 (.int 1)) 1 = .int (nI 0) := by rw [va_up_ne _ _ (by decide), va_up_ne _ _ (by decide), rf_ne (by decide) (by decide), rs_ne (by decide) (by decide) (by decide) (by decide), tx_ne (by decide) (by decide), va_up_ne _ _ (by decide), va_up_ne _ _ (by decide)]; exact va_up_self _ _ _
    have hf19 : (va_up (va_up (rf (rs (tx (va_up (va_up (va_up v 1 (.int 0)) 5 (.int (-1))) 4 (.int 0)) qx tp) Q2 o2) j2 b2) 5 (.int b2)) 4 (.int 1)) 19 = .ref Q2.qq := by rw [va_up_ne _ _ (by decide), va_up_ne _ _ (by decide), rf_ne (by decide) (by decide)]; exact rs_19
    have hf20 : (va_up (va_up (rf (rs (tx (va_up (va_up (va_up v 1 (.int 0)) 5 (.int (-1))) 4 (.int 0)) qx tp) Q2 o2) j2 b2) 5 (.int b2)) 4 (.int 1)) 20 = .ref Q2.qe := by rw [va_up_ne _ _ (by decide), va_up_ne _ _ (by decide), rf_ne (by decide) (by decide)]; exact rs_20
    have hRD : RDR f tp 0 ((va_up (va_up (rf (rs (tx (va_up (va_up (va_up v 1 (.int 0)) 5 (.int (-1))) 4 (.int 0)) qx tp) Q2 o2) j2 b2) 5 (.int b2)) 4 (.int 1)) 4) := Or.inr ⟨hv_2, va_up_self _ _ _⟩
    exact W.iret (v := 0) hx hb hr (fun t9 ht hW => ⟨⟨0, (va_up (va_up (rf (rs (tx (va_up (va_up (va_up v 1 (.int 0)) 5 (.int (-1))) 4 (.int 0)) qx tp) Q2 o2) j2 b2) 5 (.int b2)) 4 (.int 1), Q2, V2, qg), rfl, ⟨hQk_Q2, hTk_V2, hGn, hf1, hfl, hf19, hf20, Or.inl ⟨rfl, hf17, hv_2⟩, hf5, hRD⟩, ⟨by rw [ht]; exact hP, va_K.moved hW.alike hK, hD⟩, by rw [ht]; exact hq⟩, hS.F ht⟩) hS.2.2 d_Mo_readQ_43
