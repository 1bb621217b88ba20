def TS.wn (T : TS) (g : Nat → Int64) : TS := (TS.mk T.N T.U T.ct T.us T.a0 T.a1 T.a2 T.a3 T.a4 T.a5 T.a6 T.a7 T.a8 T.a9 T.au T.kd T.st T.ln T.ki T.nx T.ns T.nl T.pa T.pl T.un g)
def TS.wl (T : TS) (g : Nat → Int32) : TS := (TS.mk T.N T.U T.ct T.us T.a0 T.a1 T.a2 T.a3 T.a4 T.a5 T.a6 T.a7 T.a8 T.a9 T.au T.kd T.st g T.ki T.nx T.ns T.nl T.pa T.pl T.un T.nu)
/-- a value has been added to the tree -/
def VA (cn cu : Nat) (T T2 : TS) (res : Int32) : Prop := TOK T2 ∧ TE T T2 ∧ GB (T.ct + cn) (T.us + cu) T T2 ∧ T2.ct ≤ T.ct + cn ∧ T2.us ≤ T.us + cu ∧ VV T2 res
theorem VA.rf {cn cu : Nat} {T : TS} {res : Int32} (hT : TOK T) (h : VV T res) : VA cn cu T T res := ⟨hT, TE.rf, GB.rf, Nat.le_add_right _ _, Nat.le_add_right _ _, h⟩
theorem VA.mono {cn cu c2 u2 : Nat} {T T2 : TS} {res : Int32} (h : VA cn cu T T2 res) (h1 : cn ≤ c2) (h2 : cu ≤ u2) : VA c2 u2 T T2 res := ⟨h.1, h.2.1, GB.mono h.2.2.1 (by omega) (by omega), by have := h.2.2.2.1; omega, by have := h.2.2.2.2.1; omega, h.2.2.2.2.2⟩
theorem VA.word {T T1 : TS} {k : Nat} (hA : TAd T T1 (nI k)) (hk : k ≤ 2) (hT : TOK T) (hc : T.ct ≤ 390000) : VA 1 0 T T1 (nI T.ct) := by
  obtain ⟨a1, a2, a3, a4, a5, a6, a7, a8⟩ := hA.ok hT (by omega)
  have hg := (hA.gb hT (by omega)).1
  have hAA := hA.2.2.2.2.2.2.2
  have hR : RepL T1 T.ct (k, 0, []) := ⟨hAA.1, by show k ≤ 6; omega, fun h => absurd h (by show ¬ k = 3; omega), fun h => absurd h (by show ¬ k = 4; omega), fun _ => hAA.2.2.2.2.2.1⟩
  exact ⟨a1, hA.te, ⟨hg.1, by have := hg.2.1; omega, hg.2.2.1, by have := hg.2.2.2; omega⟩, by omega, by omega, Or.inr ⟨T.ct, 0, rfl, by omega, T1.ct, (k, 0, []), by omega, Nat.le_refl _, hR, hAA.2.1, by show k < 5; omega⟩⟩
theorem VA.num {T T1 : TS} {x : Int64} (hA : TAd T T1 3) (hT : TOK T) (hc : T.ct ≤ 390000) : VA 1 0 T (T1.wn (vp_updL T1.nu T.ct x)) (nI T.ct) := by
  obtain ⟨a1, a2, a3, a4, a5, a6, a7, a8⟩ := hA.ok hT (by omega)
  have hg := (hA.gb hT (by omega)).1
  have hAA := hA.2.2.2.2.2.2.2
  have hte := hA.te
  have hR : RepL (T1.wn (vp_updL T1.nu T.ct x)) T.ct (3, x, []) := ⟨hAA.1, by show 3 ≤ 6; omega, fun _ => if_pos rfl, fun h => absurd h (by show ¬ 3 = 4; omega), fun _ => hAA.2.2.2.2.2.1⟩
  have ht2 : TE T (T1.wn (vp_updL T1.nu T.ct x)) := ⟨hte.1, fun j hj => by
    obtain ⟨q1, q2, q3, q4, q5, q6, q7, q8, q9⟩ := hte.2.1 j hj
    exact ⟨q1, (show vp_updL T1.nu T.ct x j = T.nu j from (if_neg (show ¬ j = T.ct from by omega)).trans q2), q3, q4, q5, q6, q7, q8, q9⟩, hte.2.2⟩
  exact ⟨a1, ht2, ⟨hg.1, by have := hg.2.1; show T1.N ≤ _; omega, hg.2.2.1, by have := hg.2.2.2; show T1.U ≤ _; omega⟩, by show T1.ct ≤ _; omega, by show T1.us ≤ _; omega, Or.inr ⟨T.ct, 0, rfl, by omega, T1.ct, (3, x, []), by show T.ct < T1.ct; omega, Nat.le_refl _, hR, hAA.2.1, by show 3 < 5; omega⟩⟩
theorem VA.str {T T1 Tc : TS} {us : List Int32} (hA : TAd T T1 4) (hX : TX T1 Tc us) (hT : TOK T) (hc : T.ct ≤ 390000) (hu : T.us + us.length ≤ 390000) : VA 1 us.length T (Tc.wl (upd Tc.ln T.ct (nI us.length))) (nI T.ct) := by
  obtain ⟨a1, a2, a3, a4, a5, a6, a7, a8⟩ := hA.ok hT (by omega)
  have hg := (hA.gb hT (by omega)).1
  have hAA := hA.2.2.2.2.2.2.2
  have hte := hA.te.trans hX.te
  have hk := hX.ok a1 (by omega)
  have hXa := hX.alk
  have hXs := hX.us
  have hXU := hX.U
  have hXX := hXa.1 T.ct trivial
  have hst : Tc.st T.ct = nI T.us := hXX.2.2.1.trans hAA.2.2.2.2.2.2
  have hR : RepL (Tc.wl (upd Tc.ln T.ct (nI us.length))) T.ct (4, 0, sl Tc.un T.us us.length) := ⟨hXX.1.trans hAA.1, by show 4 ≤ 6; omega, fun h => absurd h (by show ¬ 4 = 3; omega), fun _ => ⟨T.us, us.length, hst, pk_us, by show T.us + us.length ≤ Tc.us; omega, rfl⟩, fun h => absurd rfl h⟩
  have ht2 : TE T (Tc.wl (upd Tc.ln T.ct (nI us.length))) := ⟨hte.1, fun j hj => by
    obtain ⟨q1, q2, q3, q4, q5, q6, q7, q8, q9⟩ := hte.2.1 j hj
    exact ⟨q1, q2, q3, (pk_un (show j ≠ T.ct by omega)).trans q4, q5, q6, q7, q8, q9⟩, hte.2.2⟩
  refine ⟨hk, ht2, ⟨?_, ?_, ?_, ?_⟩, ?_, ?_, Or.inr ⟨T.ct, 0, rfl, by omega, Tc.ct, (4, 0, sl Tc.un T.us us.length), ?_, Nat.le_refl _, hR, hXX.2.2.2.2.1.trans hAA.2.1, by show 4 < 5; omega⟩⟩
  · show T.N ≤ Tc.N; rw [hXa.2.2]; exact hg.1
  · show Tc.N ≤ _; rw [hXa.2.2]; have := hg.2.1; omega
  · show T.U ≤ Tc.U; omega
  · show Tc.U ≤ _; omega
  · show Tc.ct ≤ _; rw [hXa.2.1]; omega
  · show Tc.us ≤ _; omega
  · show T.ct < Tc.ct; rw [hXa.2.1]; omega
theorem RepL.len {T : TS} {a : Nat} {x : LF} (h : RepL T a x) : ∃ L, T.ln a = nI L ∧ L ≤ x.2.2.length ∧ (0 < L → ∃ s, T.st a = nI s ∧ s + L ≤ T.us) := by
  by_cases e : x.1 = 4
  · obtain ⟨s, L, e1, e2, e3, e4⟩ := h.2.2.2.1 e
    exact ⟨L, e2, by rw [← e4, sl_len]; exact Nat.le_refl _, fun _ => ⟨s, e1, e3⟩⟩
  · exact ⟨0, h.2.2.2.2 e, Nat.zero_le _, fun q => absurd q (Nat.lt_irrefl _)⟩
theorem cE_wn {T T1 : TS} {g : Nat → Int64} : cE T (T1.wn g) = cE T T1 ∧ sE T (T1.wn g) = sE T T1 := ⟨rfl, rfl⟩
theorem cE_wl {T T1 : TS} {g : Nat → Int32} : cE T (T1.wl g) = cE T T1 ∧ sE T (T1.wl g) = sE T T1 := ⟨rfl, rfl⟩
/-- a value has been added to the tree, and it is this -/
def VB (cn cu : Nat) (T T2 : TS) (res : Int32) (o : VOp) : Prop := VA cn cu T T2 res ∧ VY T2 res o
theorem VB.rf {cn cu : Nat} {T : TS} {res : Int32} {o : VOp} (hT : TOK T) (h : VY T res o) : VB cn cu T T res o := ⟨VA.rf hT h.vv, h⟩
theorem VB.mono {cn cu c2 u2 : Nat} {T T2 : TS} {res : Int32} {o : VOp} (h : VB cn cu T T2 res o) (h1 : cn ≤ c2) (h2 : cu ≤ u2) : VB c2 u2 T T2 res o := ⟨h.1.mono h1 h2, h.2⟩
theorem VB.word {T T1 : TS} {k : Nat} (hA : TAd T T1 (nI k)) (hk : k ≤ 2) (hT : TOK T) (hc : T.ct ≤ 390000) : VB 1 0 T T1 (nI T.ct) (some (leafU (k, 0, []))) := by
  have a6 := (hA.ok hT (by omega)).2.2.2.2.2.1
  have hAA := hA.2.2.2.2.2.2.2
  have hR : RepL T1 T.ct (k, 0, []) := ⟨hAA.1, by show k ≤ 6; omega, fun h => absurd h (by show ¬ k = 3; omega), fun h => absurd h (by show ¬ k = 4; omega), fun _ => hAA.2.2.2.2.2.1⟩
  have hwf : wfL (k, 0, []) := by
    have h3 : k = 0 ∨ k = 1 ∨ k = 2 := by omega
    rcases h3 with rfl | rfl | rfl
    · exact Or.inl rfl
    · exact Or.inr (Or.inl rfl)
    · exact Or.inr (Or.inr (Or.inl rfl))
  have hv : RepV T1 0 T.ct T1.ct (k, 0, []) := ⟨by omega, Nat.le_refl _, hR, hAA.2.1, by show k < 5; omega⟩
  exact ⟨VA.word hA hk hT hc, T.ct, rfl, Nat.zero_le _, ⟨T1.ct, hv⟩, hwf⟩
theorem VB.num {T T1 : TS} {x : Int64} (hA : TAd T T1 3) (hT : TOK T) (hc : T.ct ≤ 390000) (hx : gL x) : VB 1 0 T (T1.wn (vp_updL T1.nu T.ct x)) (nI T.ct) (some (leafU (3, x, []))) := by
  have a6 := (hA.ok hT (by omega)).2.2.2.2.2.1
  have hAA := hA.2.2.2.2.2.2.2
  have hR : RepL (T1.wn (vp_updL T1.nu T.ct x)) T.ct (3, x, []) := ⟨hAA.1, by show 3 ≤ 6; omega, fun _ => if_pos rfl, fun h => absurd h (by show ¬ 3 = 4; omega), fun _ => hAA.2.2.2.2.2.1⟩
  have hv : RepV (T1.wn (vp_updL T1.nu T.ct x)) 0 T.ct T1.ct (3, x, []) := ⟨by omega, Nat.le_refl _, hR, hAA.2.1, by show 3 < 5; omega⟩
  exact ⟨VA.num hA hT hc, T.ct, rfl, Nat.zero_le _, ⟨T1.ct, hv⟩, Or.inr (Or.inr (Or.inr (Or.inl ⟨x, hx, rfl⟩)))⟩
theorem VB.str {T T1 Tc : TS} {us : List Int32} (hA : TAd T T1 4) (hX : TX T1 Tc us) (hT : TOK T) (hc : T.ct ≤ 390000) (hu : T.us + us.length ≤ 390000) (hw : uOK us) : VB 1 us.length T (Tc.wl (upd Tc.ln T.ct (nI us.length))) (nI T.ct) (some (leafU (4, 0, us))) := by
  obtain ⟨a1, a2, a3, a4, a5, a6, a7, a8⟩ := hA.ok hT (by omega)
  have hAA := hA.2.2.2.2.2.2.2
  have hXa := hX.alk
  have hXs := hX.us
  have hXX := hXa.1 T.ct trivial
  have hst : Tc.st T.ct = nI T.us := hXX.2.2.1.trans hAA.2.2.2.2.2.2
  have hsl : sl Tc.un T.us us.length = us := by
    have h1 := hX.un.2
    rw [a5] at h1
    rw [h1]
    exact c16_map hw
  have hR : RepL (Tc.wl (upd Tc.ln T.ct (nI us.length))) T.ct (4, 0, us) := ⟨hXX.1.trans hAA.1, by show 4 ≤ 6; omega, fun h => absurd h (by show ¬ 4 = 3; omega), fun _ => ⟨T.us, us.length, hst, pk_us, by show T.us + us.length ≤ Tc.us; omega, hsl⟩, fun h => absurd rfl h⟩
  have hv : RepV (Tc.wl (upd Tc.ln T.ct (nI us.length))) 0 T.ct Tc.ct (4, 0, us) := ⟨by rw [hXa.2.1]; omega, Nat.le_refl _, hR, hXX.2.2.2.2.1.trans hAA.2.1, by show 4 < 5; omega⟩
  exact ⟨VA.str hA hX hT hc hu, T.ct, rfl, Nat.zero_le _, ⟨Tc.ct, hv⟩, Or.inr (Or.inr (Or.inr (Or.inr ⟨us, hw, rfl⟩)))⟩
/-- how many characters -/
def chrN (l : List Int32) : Nat := (l.filter (fun c => decide (¬ loU c))).length
theorem chrN_1 {a : Int32} {l : List Int32} (h : ¬ loU a) : chrN (a :: l) = 1 + chrN l := by
  unfold chrN
  rw [List.filter_cons_of_pos (by exact decide_eq_true h), List.length_cons, Nat.add_comm]
theorem chrN_2 {a b : Int32} {l : List Int32} (h : ¬ loU a) (hb : loU b) : chrN (a :: b :: l) = 1 + chrN l := by
  rw [chrN_1 h]
  unfold chrN
  rw [List.filter_cons_of_neg (by rw [decide_eq_true_eq]; exact fun q => q hb)]
theorem chrN_le : ∀ (l : List Int32), chrN l ≤ l.length := fun l => List.length_filter_le _ l
theorem i64_1 (c : Nat) : Int64.ofNat c + 1 = Int64.ofNat (c + 1) := (Int64.ofNat_add c 1).symm
theorem gL_nat {c : Nat} (h : c ≤ 1000000) : gL (Int64.ofNat c) := by
  have e : (Int64.ofNat c).toInt = (c : Int) := toI_ofN (by omega)
  unfold gL
  rw [e]
  omega
theorem n64_of {c : Nat} (h : c < 2 ^ 31) : (nI c).toInt64 = Int64.ofNat c := by
  apply Int64.toInt_inj.mp
  rw [n64 h, toI_ofN (by omega)]
theorem lenU_4 {u : VU} (h : (lfU u).1 = 4) : lenU u = some (leafU (3, Int64.ofNat (chrN (lfU u).2.2), [])) := by
  unfold lenU
  rw [if_pos h]
  rfl
theorem lenU_5 {u : VU} (h : 5 ≤ (lfU u).1) : lenU u = some (leafU (3, Int64.ofNat (ksU u).length, [])) := by
  unfold lenU
  rw [if_neg (by omega), if_pos h]
  rfl
theorem lenU_0 {u : VU} (h : (lfU u).1 < 4) : lenU u = none := by
  unfold lenU
  rw [if_neg (by omega), if_neg (by omega)]
/-- a step of counting -/
theorem len_step {g : Nat → Int32} {i n c N : Nat} (hi : i < n) (hs : uOK (sl g i (n - i))) (hc : c + chrN (sl g i (n - i)) = N) : (65535 < chV g i n → i + 2 ≤ n ∧ uOK (sl g (i + 2) (n - (i + 2))) ∧ c + 1 + chrN (sl g (i + 2) (n - (i + 2))) = N) ∧ (¬ 65535 < chV g i n → uOK (sl g (i + 1) (n - (i + 1))) ∧ c + 1 + chrN (sl g (i + 1) (n - (i + 1))) = N) := by
  rcases chr_get hi hs with ⟨a1, a2, a3, a4, a5, a6, a7⟩ | ⟨A, B, a1, a2, a3, a4, a5, a6, a7, a8, a9, a10⟩
  · rw [a2]
    refine ⟨fun h => absurd a4 (Int32.not_le.mpr h), fun _ => ⟨a7, ?_⟩⟩
    rw [a6, chrN_1 a5] at hc
    omega
  · rw [a7]
    refine ⟨fun _ => ⟨a8, a10, ?_⟩, fun h => absurd ((nI_lt9 (a := 65535) (by decide) (by omega)).mpr (by omega)) h⟩
    rw [a9, chrN_2 (fun q => absurd q.1 (Int32.not_le.mpr ((nI_lt9 (b := 56320) (by omega) (by decide)).mpr (by omega)))) ⟨nI_le' (a := 56320) a5 (by omega), nI_le' (b := 57343) a6 (by decide)⟩] at hc
    omega
theorem VX.kdlt {T : TS} {a k : Nat} {u : VU} (h : VX T a u) (hk : k < 2 ^ 31) : nI k ≤ T.kd a ↔ k ≤ (lfU u).1 := by
  obtain ⟨h1, h2⟩ := h.kdq
  rw [h1, Int32.le_iff_toInt_le, n32 hk, n32 (by omega)]
  omega
abbrev b_Mo_lengthOf : ByteArray := prog_14_method_60_code
def y_Mo_lengthOf : MethodName := ⟨"QueryBenchModel", "lengthOf", "(I)I"⟩
abbrev k_Mo_lengthOf : Cond := .code y_Mo_lengthOf b_Mo_lengthOf 6 (some .int)
theorem i_Mo_lengthOf : k_Mo_lengthOf ∈ gtbl := gt_in 1537 (by decide +kernel) (by decide +kernel)
theorem d_Mo_lengthOf_0 : decode b_Mo_lengthOf 0 = .ok (.iload_n 1, 1) := by decide +kernel
theorem d_Mo_lengthOf_1 : decode b_Mo_lengthOf 1 = .ok (.ifCond .lt 16, 3) := by decide +kernel
theorem d_Mo_lengthOf_4 : decode b_Mo_lengthOf 4 = .ok (.aload_n 0, 1) := by decide +kernel
theorem d_Mo_lengthOf_5 : decode b_Mo_lengthOf 5 = .ok (.getfield 62, 3) := by decide +kernel
theorem d_Mo_lengthOf_8 : decode b_Mo_lengthOf 8 = .ok (.getfield 65, 3) := by decide +kernel
theorem d_Mo_lengthOf_11 : decode b_Mo_lengthOf 11 = .ok (.iload_n 1, 1) := by decide +kernel
theorem d_Mo_lengthOf_12 : decode b_Mo_lengthOf 12 = .ok (.iaload, 1) := by decide +kernel
theorem d_Mo_lengthOf_13 : decode b_Mo_lengthOf 13 = .ok (.iconst 4, 1) := by decide +kernel
theorem d_Mo_lengthOf_14 : decode b_Mo_lengthOf 14 = .ok (.if_icmp .ge 5, 3) := by decide +kernel
theorem d_Mo_lengthOf_17 : decode b_Mo_lengthOf 17 = .ok (.iconst (-1), 1) := by decide +kernel
theorem d_Mo_lengthOf_18 : decode b_Mo_lengthOf 18 = .ok (.ireturn, 1) := by decide +kernel
theorem d_Mo_lengthOf_19 : decode b_Mo_lengthOf 19 = .ok (.lconst 0, 1) := by decide +kernel
theorem d_Mo_lengthOf_20 : decode b_Mo_lengthOf 20 = .ok (.lstore_n 2, 1) := by decide +kernel
theorem d_Mo_lengthOf_21 : decode b_Mo_lengthOf 21 = .ok (.aload_n 0, 1) := by decide +kernel
theorem d_Mo_lengthOf_22 : decode b_Mo_lengthOf 22 = .ok (.getfield 62, 3) := by decide +kernel
theorem d_Mo_lengthOf_25 : decode b_Mo_lengthOf 25 = .ok (.getfield 65, 3) := by decide +kernel
theorem d_Mo_lengthOf_28 : decode b_Mo_lengthOf 28 = .ok (.iload_n 1, 1) := by decide +kernel
theorem d_Mo_lengthOf_29 : decode b_Mo_lengthOf 29 = .ok (.iaload, 1) := by decide +kernel
theorem d_Mo_lengthOf_30 : decode b_Mo_lengthOf 30 = .ok (.iconst 4, 1) := by decide +kernel
theorem d_Mo_lengthOf_31 : decode b_Mo_lengthOf 31 = .ok (.if_icmp .ne 81, 3) := by decide +kernel
theorem d_Mo_lengthOf_34 : decode b_Mo_lengthOf 34 = .ok (.aload_n 0, 1) := by decide +kernel
theorem d_Mo_lengthOf_35 : decode b_Mo_lengthOf 35 = .ok (.getfield 62, 3) := by decide +kernel
theorem d_Mo_lengthOf_38 : decode b_Mo_lengthOf 38 = .ok (.getfield 103, 3) := by decide +kernel
theorem d_Mo_lengthOf_41 : decode b_Mo_lengthOf 41 = .ok (.iload_n 1, 1) := by decide +kernel
theorem d_Mo_lengthOf_42 : decode b_Mo_lengthOf 42 = .ok (.iaload, 1) := by decide +kernel
theorem d_Mo_lengthOf_43 : decode b_Mo_lengthOf 43 = .ok (.aload_n 0, 1) := by decide +kernel
theorem d_Mo_lengthOf_44 : decode b_Mo_lengthOf 44 = .ok (.getfield 62, 3) := by decide +kernel
theorem d_Mo_lengthOf_47 : decode b_Mo_lengthOf 47 = .ok (.getfield 106, 3) := by decide +kernel
theorem d_Mo_lengthOf_50 : decode b_Mo_lengthOf 50 = .ok (.iload_n 1, 1) := by decide +kernel
theorem d_Mo_lengthOf_51 : decode b_Mo_lengthOf 51 = .ok (.iaload, 1) := by decide +kernel
theorem d_Mo_lengthOf_52 : decode b_Mo_lengthOf 52 = .ok (.iadd, 1) := by decide +kernel
theorem d_Mo_lengthOf_53 : decode b_Mo_lengthOf 53 = .ok (.istore 4, 2) := by decide +kernel
theorem d_Mo_lengthOf_55 : decode b_Mo_lengthOf 55 = .ok (.aload_n 0, 1) := by decide +kernel
theorem d_Mo_lengthOf_56 : decode b_Mo_lengthOf 56 = .ok (.getfield 62, 3) := by decide +kernel
theorem d_Mo_lengthOf_59 : decode b_Mo_lengthOf 59 = .ok (.getfield 103, 3) := by decide +kernel
theorem d_Mo_lengthOf_62 : decode b_Mo_lengthOf 62 = .ok (.iload_n 1, 1) := by decide +kernel
theorem d_Mo_lengthOf_63 : decode b_Mo_lengthOf 63 = .ok (.iaload, 1) := by decide +kernel
theorem d_Mo_lengthOf_64 : decode b_Mo_lengthOf 64 = .ok (.istore 5, 2) := by decide +kernel
theorem d_Mo_lengthOf_66 : decode b_Mo_lengthOf 66 = .ok (.iload 5, 2) := by decide +kernel
theorem d_Mo_lengthOf_68 : decode b_Mo_lengthOf 68 = .ok (.iload 4, 2) := by decide +kernel
theorem d_Mo_lengthOf_70 : decode b_Mo_lengthOf 70 = .ok (.if_icmp .ge 39, 3) := by decide +kernel
theorem d_Mo_lengthOf_73 : decode b_Mo_lengthOf 73 = .ok (.lload_n 2, 1) := by decide +kernel
theorem d_Mo_lengthOf_74 : decode b_Mo_lengthOf 74 = .ok (.lconst 1, 1) := by decide +kernel
theorem d_Mo_lengthOf_75 : decode b_Mo_lengthOf 75 = .ok (.ladd, 1) := by decide +kernel
theorem d_Mo_lengthOf_76 : decode b_Mo_lengthOf 76 = .ok (.lstore_n 2, 1) := by decide +kernel
theorem d_Mo_lengthOf_77 : decode b_Mo_lengthOf 77 = .ok (.iload 5, 2) := by decide +kernel
theorem d_Mo_lengthOf_79 : decode b_Mo_lengthOf 79 = .ok (.aload_n 0, 1) := by decide +kernel
theorem d_Mo_lengthOf_80 : decode b_Mo_lengthOf 80 = .ok (.getfield 62, 3) := by decide +kernel
theorem d_Mo_lengthOf_83 : decode b_Mo_lengthOf 83 = .ok (.getfield 107, 3) := by decide +kernel
theorem d_Mo_lengthOf_86 : decode b_Mo_lengthOf 86 = .ok (.iload 5, 2) := by decide +kernel
theorem d_Mo_lengthOf_88 : decode b_Mo_lengthOf 88 = .ok (.iload 4, 2) := by decide +kernel
theorem d_Mo_lengthOf_90 : decode b_Mo_lengthOf 90 = .ok (.invokestatic 111, 3) := by decide +kernel
theorem d_Mo_lengthOf_93 : decode b_Mo_lengthOf 93 = .ok (.ldc 115, 2) := by decide +kernel
theorem d_Mo_lengthOf_95 : decode b_Mo_lengthOf 95 = .ok (.if_icmp .le 7, 3) := by decide +kernel
theorem d_Mo_lengthOf_98 : decode b_Mo_lengthOf 98 = .ok (.iconst 2, 1) := by decide +kernel
theorem d_Mo_lengthOf_99 : decode b_Mo_lengthOf 99 = .ok (.goto 4, 3) := by decide +kernel
theorem d_Mo_lengthOf_102 : decode b_Mo_lengthOf 102 = .ok (.iconst 1, 1) := by decide +kernel
theorem d_Mo_lengthOf_103 : decode b_Mo_lengthOf 103 = .ok (.iadd, 1) := by decide +kernel
theorem d_Mo_lengthOf_104 : decode b_Mo_lengthOf 104 = .ok (.istore 5, 2) := by decide +kernel
theorem d_Mo_lengthOf_106 : decode b_Mo_lengthOf 106 = .ok (.goto (-40), 3) := by decide +kernel
theorem d_Mo_lengthOf_109 : decode b_Mo_lengthOf 109 = .ok (.goto 13, 3) := by decide +kernel
theorem d_Mo_lengthOf_112 : decode b_Mo_lengthOf 112 = .ok (.aload_n 0, 1) := by decide +kernel
theorem d_Mo_lengthOf_113 : decode b_Mo_lengthOf 113 = .ok (.getfield 62, 3) := by decide +kernel
theorem d_Mo_lengthOf_116 : decode b_Mo_lengthOf 116 = .ok (.iload_n 1, 1) := by decide +kernel
theorem d_Mo_lengthOf_117 : decode b_Mo_lengthOf 117 = .ok (.invokevirtual 85, 3) := by decide +kernel
theorem d_Mo_lengthOf_120 : decode b_Mo_lengthOf 120 = .ok (.i2l, 1) := by decide +kernel
theorem d_Mo_lengthOf_121 : decode b_Mo_lengthOf 121 = .ok (.lstore_n 2, 1) := by decide +kernel
theorem d_Mo_lengthOf_122 : decode b_Mo_lengthOf 122 = .ok (.aload_n 0, 1) := by decide +kernel
theorem d_Mo_lengthOf_123 : decode b_Mo_lengthOf 123 = .ok (.getfield 62, 3) := by decide +kernel
theorem d_Mo_lengthOf_126 : decode b_Mo_lengthOf 126 = .ok (.iconst 3, 1) := by decide +kernel
theorem d_Mo_lengthOf_127 : decode b_Mo_lengthOf 127 = .ok (.invokevirtual 197, 3) := by decide +kernel
theorem d_Mo_lengthOf_130 : decode b_Mo_lengthOf 130 = .ok (.istore 4, 2) := by decide +kernel
theorem d_Mo_lengthOf_132 : decode b_Mo_lengthOf 132 = .ok (.aload_n 0, 1) := by decide +kernel
theorem d_Mo_lengthOf_133 : decode b_Mo_lengthOf 133 = .ok (.getfield 62, 3) := by decide +kernel
theorem d_Mo_lengthOf_136 : decode b_Mo_lengthOf 136 = .ok (.getfield 68, 3) := by decide +kernel
theorem d_Mo_lengthOf_139 : decode b_Mo_lengthOf 139 = .ok (.iload 4, 2) := by decide +kernel
theorem d_Mo_lengthOf_141 : decode b_Mo_lengthOf 141 = .ok (.lload_n 2, 1) := by decide +kernel
theorem d_Mo_lengthOf_142 : decode b_Mo_lengthOf 142 = .ok (.lastore, 1) := by decide +kernel
theorem d_Mo_lengthOf_143 : decode b_Mo_lengthOf 143 = .ok (.iload 4, 2) := by decide +kernel
theorem d_Mo_lengthOf_145 : decode b_Mo_lengthOf 145 = .ok (.ireturn, 1) := by decide +kernel
set_option maxHeartbeats 4000000 in
set_option maxRecDepth 100000 in
/-- the reference: lengthOf -/
theorem c_Mo_lengthOf (l : Launch) (dC : Nat → ClassId) (dI : Nat → Nat → Nat) (mo t : Nat) (sz : Heap) (cI cL cC : ClassId) (T : TS) (v : Nat → Value) (vv : Int32) (hT : TOK T) (o9 : VOp) (hA9 : VY T vv o9) (hc9 : T.ct ≤ 380000) (h29 : v 29 = .ref t) : Met l y_Mo_lengthOf (k_Mo_lengthOf :: gtbl) ({ frames := 2, cells := ncap T (T.ct + 1) + qcap T (T.us + 0), slots := 20 * ncap T (T.ct + 1) + 2 * qcap T (T.us + 0), locals := 60 }) (va_Pc [.ref mo, .int vv] (mp dC dI [(mo, .inr (13, MF 30 v)), (t, .inr (12, MF 13 (tw T))), (T.a0, .inl (cI, T.N, .inl T.kd)), (T.a1, .inl (cL, T.N, .inr (.inl T.nu))), (T.a2, .inl (cI, T.N, .inl T.st)), (T.a3, .inl (cI, T.N, .inl T.ln)), (T.a4, .inl (cI, T.N, .inl T.ki)), (T.a5, .inl (cI, T.N, .inl T.nx)), (T.a6, .inl (cI, T.N, .inl T.ns)), (T.a7, .inl (cI, T.N, .inl T.nl)), (T.a8, .inl (cI, T.N, .inl T.pa)), (T.a9, .inl (cI, T.N, .inl T.pl)), (T.au, .inl (cC, T.U, .inl T.un))] [(cI, .int), (cL, .long), (cC, .char)] sz)) (va_Qi (fun (res : Int32) (u : TS) => VB 1 0 T u res (o9.bind lenU)) (fun u t9 => mz dC dI [(mo, .inr (13, MF 30 v)), (t, .inr (12, MF 13 (tw u))), (u.a0, .inl (cI, u.N, .inl u.kd)), (u.a1, .inl (cL, u.N, .inr (.inl u.nu))), (u.a2, .inl (cI, u.N, .inl u.st)), (u.a3, .inl (cI, u.N, .inl u.ln)), (u.a4, .inl (cI, u.N, .inl u.ki)), (u.a5, .inl (cI, u.N, .inl u.nx)), (u.a6, .inl (cI, u.N, .inl u.ns)), (u.a7, .inl (cI, u.N, .inl u.nl)), (u.a8, .inl (cI, u.N, .inl u.pa)), (u.a9, .inl (cI, u.N, .inl u.pl)), (u.au, .inl (cC, u.U, .inl u.un))] [(cI, .int), (cL, .long), (cC, .char)] (va_A [(mo, .inr (13, MF 30 v)), (t, .inr (12, MF 13 (tw T))), (T.a0, .inl (cI, T.N, .inl T.kd)), (T.a1, .inl (cL, T.N, .inr (.inl T.nu))), (T.a2, .inl (cI, T.N, .inl T.st)), (T.a3, .inl (cI, T.N, .inl T.ln)), (T.a4, .inl (cI, T.N, .inl T.ki)), (T.a5, .inl (cI, T.N, .inl T.nx)), (T.a6, .inl (cI, T.N, .inl T.ns)), (T.a7, .inl (cI, T.N, .inl T.nl)), (T.a8, .inl (cI, T.N, .inl T.pa)), (T.a9, .inl (cI, T.N, .inl T.pl)), (T.au, .inl (cC, T.U, .inl T.un))] sz.size) t9 ∧ szk sz t9.heap (cE T u) (sE T u)) (va_A [(mo, .inr (13, MF 30 v)), (t, .inr (12, MF 13 (tw T))), (T.a0, .inl (cI, T.N, .inl T.kd)), (T.a1, .inl (cL, T.N, .inr (.inl T.nu))), (T.a2, .inl (cI, T.N, .inl T.st)), (T.a3, .inl (cI, T.N, .inl T.ln)), (T.a4, .inl (cI, T.N, .inl T.ki)), (T.a5, .inl (cI, T.N, .inl T.nx)), (T.a6, .inl (cI, T.N, .inl T.ns)), (T.a7, .inl (cI, T.N, .inl T.nl)), (T.a8, .inl (cI, T.N, .inl T.pa)), (T.a9, .inl (cI, T.N, .inl T.pl)), (T.au, .inl (cC, T.U, .inl T.un))] sz.size)) (ncap T (T.ct + 1) + qcap T (T.us + 0)) (20 * ncap T (T.ct + 1) + 2 * qcap T (T.us + 0)) (va_A [(mo, .inr (13, MF 30 v)), (t, .inr (12, MF 13 (tw T))), (T.a0, .inl (cI, T.N, .inl T.kd)), (T.a1, .inl (cL, T.N, .inr (.inl T.nu))), (T.a2, .inl (cI, T.N, .inl T.st)), (T.a3, .inl (cI, T.N, .inl T.ln)), (T.a4, .inl (cI, T.N, .inl T.ki)), (T.a5, .inl (cI, T.N, .inl T.nx)), (T.a6, .inl (cI, T.N, .inl T.ns)), (T.a7, .inl (cI, T.N, .inl T.nl)), (T.a8, .inl (cI, T.N, .inl T.pa)), (T.a9, .inl (cI, T.N, .inl T.pl)), (T.au, .inl (cC, T.U, .inl T.un))] sz.size) := by
  refine Met.ofW (cc := b_Mo_lengthOf) (maxL := 6) (ret := (some .int)) (by decide) rfl ?_
  intro p e s m args below meth c s₁ B hml hv
  obtain ⟨rfl, hsz, hP, hK, hD0⟩ := hv
  have hx := B.exec
  have hb := B.bytes
  have hr := B.returns
  have hts0 := atoms_spec (ws := k_Mo_lengthOf :: gtbl) B.pre
  have hts := fun w h => hts0 w (List.mem_cons_of_mem _ h)
  have hown : s.vm.findClass R_Mo = some m.cls := findClass_of_methodNamed B.named
  have hlocks := B.notSynchronized
  subst hsz
  have hD := hD0.self (sz := s.heap.size)
  generalize hAe : va_A [(mo, .inr (13, MF 30 v)), (t, .inr (12, MF 13 (tw T))), (T.a0, .inl (cI, T.N, .inl T.kd)), (T.a1, .inl (cL, T.N, .inr (.inl T.nu))), (T.a2, .inl (cI, T.N, .inl T.st)), (T.a3, .inl (cI, T.N, .inl T.ln)), (T.a4, .inl (cI, T.N, .inl T.ki)), (T.a5, .inl (cI, T.N, .inl T.nx)), (T.a6, .inl (cI, T.N, .inl T.ns)), (T.a7, .inl (cI, T.N, .inl T.nl)), (T.a8, .inl (cI, T.N, .inl T.pa)), (T.a9, .inl (cI, T.N, .inl T.pl)), (T.au, .inl (cC, T.U, .inl T.un))] s.heap.size = A at hD ⊢
  have hA : ∀ q : Nat, s.heap.size ≤ q → A q := fun q h => by rw [← hAe]; exact Or.inr h
  have hS : va_S A s.heap s.heap [] := va_S.rf
  have hP : va_P (dC, dI) classes [(mo, .inr (13, MF 30 v)), (t, .inr (12, MF 13 (tw T))), (T.a0, .inl (cI, T.N, .inl T.kd)), (T.a1, .inl (cL, T.N, .inr (.inl T.nu))), (T.a2, .inl (cI, T.N, .inl T.st)), (T.a3, .inl (cI, T.N, .inl T.ln)), (T.a4, .inl (cI, T.N, .inl T.ki)), (T.a5, .inl (cI, T.N, .inl T.nx)), (T.a6, .inl (cI, T.N, .inl T.ns)), (T.a7, .inl (cI, T.N, .inl T.nl)), (T.a8, .inl (cI, T.N, .inl T.pa)), (T.a9, .inl (cI, T.N, .inl T.pl)), (T.au, .inl (cC, T.U, .inl T.un))] s.heap := hP
  have hl := lv_entry ([.ref mo, .int vv]) (n := 6) (Nat.le_of_ble_eq_true rfl)
  rw [lg_entry_eq]
  generalize (lg_sl ([.ref mo, .int vv]) ++ List.replicate (6 - (lg_sl ([.ref mo, .int vv])).length) Slot.unset).toArray = ls at hl ⊢
  have hl : lv_has ls 6 [(0, .ref mo), (1, .int vv)] := hl
  have hTk_T := hT
  obtain ⟨ho1, ho2, ho3, ho4, ho5, ho6, ho7⟩ := hT
  have hT : TOK T := ⟨ho1, ho2, ho3, ho4, ho5, ho6, ho7⟩
  have hGB_T : GB (T.ct + 1) (T.us + 0) T T := GB.rf
  refine w_same (fun hq => ?_)
  refine w_tight (k := cE T T) (n := sE T T) (by rw [cE_rf.1, cE_rf.2]; exact hq) ?_
  have hfit_T := hGB_T.fits
  rcases hA9.two with ⟨ha, hoa⟩ | ⟨a9, ua, ha, hoa, hra, hva⟩
  · rw [ha] at hl
    have hl : lv_has ls 6 [(0, .ref mo), (1, .int (-1))] := hl
    refine lv_iload_n hx hb d_Mo_lengthOf_0 rfl (lv_at hl 1 rfl) ?_
    refine lv_if_lt (tgt := 17) hx hb d_Mo_lengthOf_1 (by decide) (fun _ => ?_) (fun h => absurd (by decide) h)
    refine lv_iconst (v := (-1)) hx hb d_Mo_lengthOf_17 (by decide) ?_
    refine w_same (fun hq => ?_)
    refine W.widen (k := ncap T (T.ct + 1) + qcap T (T.us + 0)) (n := 20 * ncap T (T.ct + 1) + 2 * qcap T (T.us + 0)) hfit_T.1 hfit_T.2 ?_
    have hnone : o9.bind lenU = none := by rw [hoa]; rfl
    exact W.iret (v := -1) hx hb hr (fun t9 ht hW => ⟨⟨-1, T, rfl, (by rw [hnone]; exact VB.rf hTk_T rfl), ⟨by rw [ht]; exact hP, va_K.moved hW.alike hK, hD⟩, by rw [ht]; exact hq⟩, hS.F ht⟩) hS.2.2 d_Mo_lengthOf_18
  · have hac := hva.vr.lt
    obtain ⟨ks, hch, hkq, hkn, hkm, hkl, hkc⟩ := hva.kids
    rw [ha] at hl
    have hl : lv_has ls 6 [(0, .ref mo), (1, .int (nI a9))] := hl
    refine lv_iload_n hx hb d_Mo_lengthOf_0 rfl (lv_at hl 1 rfl) ?_
    refine lv_if_lt (tgt := 17) hx hb d_Mo_lengthOf_1 (by decide) (fun h => absurd h (nI_pos (by omega))) (fun _ => ?_)
    refine lv_aload_n hx hb d_Mo_lengthOf_4 rfl (lv_at hl 0 rfl) ?_
    refine va_get (D := (dC, dI)) (ci := 13) (v := .ref t) (C := R_Mo) (T := F_Mo) (N := 30) hx hb hts in_Mo hown hK hP 0 rfl rfl 29 (by decide) (hts _ w_1118) (fun _ h9 => h9) (MFg (by decide) h29) d_Mo_lengthOf_5 ?_
    refine va_get (D := (dC, dI)) (ci := 12) (v := .ref T.a0) (C := R_Tree) (T := F_Tree) (N := 13) hx hb hts in_Tree hown hK hP 1 rfl rfl 0 (by decide) (hts _ w_1035) (fun _ h9 => h9) (MFg (by decide) rfl) d_Mo_lengthOf_8 ?_
    refine lv_iload_n hx hb d_Mo_lengthOf_11 rfl (lv_at hl 1 rfl) ?_
    refine va_iald hx hb hK hP 2 0 rfl rfl (vp_in_nI (show a9 < T.N by omega) (by omega)) d_Mo_lengthOf_12 ?_
    rw [show (nI a9).toNatClampNeg = a9 from nI_clamp (by omega)]
    refine lv_iconst (v := 4) hx hb d_Mo_lengthOf_13 (by decide) ?_
    refine lv_icmp_ge (tgt := 19) hx hb d_Mo_lengthOf_14 (by decide) (fun c14 => ?_) (fun c14 => ?_)
    · refine w_join (D := (dC, dI)) (cl := classes) (A := A) (H0 := s.heap) (nL := 6) 122 (σ := Int64) (fun nn => lenU ua = some (leafU (3, nn, [])) ∧ gL nn) (fun nn => cE T T) (fun nn => sE T T) (fun nn => [(mo, .inr (13, MF 30 v)), (t, .inr (12, MF 13 (tw T))), (T.a0, .inl (cI, T.N, .inl T.kd)), (T.a1, .inl (cL, T.N, .inr (.inl T.nu))), (T.a2, .inl (cI, T.N, .inl T.st)), (T.a3, .inl (cI, T.N, .inl T.ln)), (T.a4, .inl (cI, T.N, .inl T.ki)), (T.a5, .inl (cI, T.N, .inl T.nx)), (T.a6, .inl (cI, T.N, .inl T.ns)), (T.a7, .inl (cI, T.N, .inl T.nl)), (T.a8, .inl (cI, T.N, .inl T.pa)), (T.a9, .inl (cI, T.N, .inl T.pl)), (T.au, .inl (cC, T.U, .inl T.un))]) (fun nn => [(0, .ref mo), (1, .int (nI a9)), (2, .long nn)]) (fun jn122 => ?_) ?_
      · refine lv_lconst (v := 0) hx hb d_Mo_lengthOf_19 (by decide) ?_
        refine lv_lstore_n (lv' := [(2, .long 0), (0, .ref mo), (1, .int (nI a9))]) hx hb d_Mo_lengthOf_20 rfl hl (by decide) rfl (fun ls hl => ?_)
        refine lv_aload_n hx hb d_Mo_lengthOf_21 rfl (lv_at hl 1 rfl) ?_
        refine va_get (D := (dC, dI)) (ci := 13) (v := .ref t) (C := R_Mo) (T := F_Mo) (N := 30) hx hb hts in_Mo hown hK hP 0 rfl rfl 29 (by decide) (hts _ w_1118) (fun _ h9 => h9) (MFg (by decide) h29) d_Mo_lengthOf_22 ?_
        refine va_get (D := (dC, dI)) (ci := 12) (v := .ref T.a0) (C := R_Tree) (T := F_Tree) (N := 13) hx hb hts in_Tree hown hK hP 1 rfl rfl 0 (by decide) (hts _ w_1035) (fun _ h9 => h9) (MFg (by decide) rfl) d_Mo_lengthOf_25 ?_
        refine lv_iload_n hx hb d_Mo_lengthOf_28 rfl (lv_at hl 2 rfl) ?_
        refine va_iald hx hb hK hP 2 0 rfl rfl (vp_in_nI (show a9 < T.N by omega) (by omega)) d_Mo_lengthOf_29 ?_
        rw [show (nI a9).toNatClampNeg = a9 from nI_clamp (by omega)]
        refine lv_iconst (v := 4) hx hb d_Mo_lengthOf_30 (by decide) ?_
        refine lv_icmp_ne (tgt := 112) hx hb d_Mo_lengthOf_31 (by decide) (fun c31 => ?_) (fun c31 => ?_)
        · have h5 : 5 ≤ (lfU ua).1 := by have h1 := (hva.kdlt (k := 4) (by decide)).mp (by first | exact c14 | exact Int32.not_lt.mp c14); have h2 : ¬ (lfU ua).1 = 4 := fun e => c31 ((hva.kd (k := 4) (by decide)).mpr e); omega
          refine lv_aload_n hx hb d_Mo_lengthOf_112 rfl (lv_at hl 1 rfl) ?_
          refine va_get (D := (dC, dI)) (ci := 13) (v := .ref t) (C := R_Mo) (T := F_Mo) (N := 30) hx hb hts in_Mo hown hK hP 0 rfl rfl 29 (by decide) (hts _ w_1118) (fun _ h9 => h9) (MFg (by decide) h29) d_Mo_lengthOf_113 ?_
          refine lv_iload_n hx hb d_Mo_lengthOf_116 rfl (lv_at hl 2 rfl) ?_
          have hPc := hP.sub (ws' := [(t, .inr (12, MF 13 (tw T))), (T.a4, .inl (cI, T.N, .inl T.ki)), (T.a5, .inl (cI, T.N, .inl T.nx))]) [1, 6, 7] rfl
          have hDc := hD.sub (ws' := [(t, .inr (12, MF 13 (tw T))), (T.a4, .inl (cI, T.N, .inl T.ki)), (T.a5, .inl (cI, T.N, .inl T.nx))]) [1, 6, 7] (by decide) rfl
          have hKc := hK.sub (tys' := [(cI, .int)]) [0] rfl
          have hFc := va_free (wc := [(t, .inr (12, MF 13 (tw T))), (T.a4, .inl (cI, T.N, .inl T.ki)), (T.a5, .inl (cI, T.N, .inl T.nx))]) hD hS hA [1, 6, 7] rfl
          refine va_calli (va_runV (As := [.int (nI a9)]) (rest := []) ⟨hx, hb, hml, hown, hts⟩ (c_Tree_size l dC dI t s.heap (tw T) cI T.a4 T.a5 T.N a9 T.ki T.nx ks (by omega) (by omega) (chn_mono ho3 hch) rfl rfl) (cwV 1 hts (gt_V (own := R_Mo) (C := R_Tree) (i := 85) (y := y_Tree_size) i_Tree_size w_1513 w_1514 w_1515 w_8) rfl rfl rfl (by decide +kernel) ⟨Nat.le_of_ble_eq_true rfl, Nat.le_of_ble_eq_true rfl⟩) ⟨mp_blind, va_recv hKc hPc (ci := 12) (q0 := 0) rfl rfl, fun U hU hW => ⟨rfl, hU, by rw [hU]; exact hPc, va_K.moved hW.alike hKc, hDc.weaken (fun _ _ _ _ => trivial)⟩⟩ rfl rfl hl.1 rfl (lv_room (Nat.le_of_ble_eq_true rfl)) d_Mo_lengthOf_117 ⟨hfit_T.1, hfit_T.2⟩) hS (fun q _ h => hFc q h) hFc (fun r5 _u t9 H1 locs ht hvm hw hB hz1 hk1 hS => ?_)
          obtain ⟨hP1, hK1, hD1⟩ := hB
          rw [ht] at hP1
          obtain ⟨hP, hD⟩ := va_join (wr := [(mo, .inr (13, MF 30 v)), (T.a0, .inl (cI, T.N, .inl T.kd)), (T.a1, .inl (cL, T.N, .inr (.inl T.nu))), (T.a2, .inl (cI, T.N, .inl T.st)), (T.a3, .inl (cI, T.N, .inl T.ln)), (T.a6, .inl (cI, T.N, .inl T.ns)), (T.a7, .inl (cI, T.N, .inl T.nl)), (T.a8, .inl (cI, T.N, .inl T.pa)), (T.a9, .inl (cI, T.N, .inl T.pl)), (T.au, .inl (cC, T.U, .inl T.un))]) (w1 := [(t, .inr (12, MF 13 (tw T))), (T.a4, .inl (cI, T.N, .inl T.ki)), (T.a5, .inl (cI, T.N, .inl T.nx))]) hP hD [1, 6, 7] [0, 2, 3, 4, 5, 8, 9, 10, 11, 12] rfl rfl (by decide) (by decide) hk1 hFc hP1 hD1
          generalize H1 = H at hP hS ⊢
          have hP : va_P (dC, dI) classes [(mo, .inr (13, MF 30 v)), (T.a0, .inl (cI, T.N, .inl T.kd)), (T.a1, .inl (cL, T.N, .inr (.inl T.nu))), (T.a2, .inl (cI, T.N, .inl T.st)), (T.a3, .inl (cI, T.N, .inl T.ln)), (T.a6, .inl (cI, T.N, .inl T.ns)), (T.a7, .inl (cI, T.N, .inl T.nl)), (T.a8, .inl (cI, T.N, .inl T.pa)), (T.a9, .inl (cI, T.N, .inl T.pl)), (T.au, .inl (cC, T.U, .inl T.un)), (t, .inr (12, MF 13 (tw T))), (T.a4, .inl (cI, T.N, .inl T.ki)), (T.a5, .inl (cI, T.N, .inl T.nx))] H := hP
          have hD : va_D A [(mo, .inr (13, MF 30 v)), (T.a0, .inl (cI, T.N, .inl T.kd)), (T.a1, .inl (cL, T.N, .inr (.inl T.nu))), (T.a2, .inl (cI, T.N, .inl T.st)), (T.a3, .inl (cI, T.N, .inl T.ln)), (T.a6, .inl (cI, T.N, .inl T.ns)), (T.a7, .inl (cI, T.N, .inl T.nl)), (T.a8, .inl (cI, T.N, .inl T.pa)), (T.a9, .inl (cI, T.N, .inl T.pl)), (T.au, .inl (cC, T.U, .inl T.un)), (t, .inr (12, MF 13 (tw T))), (T.a4, .inl (cI, T.N, .inl T.ki)), (T.a5, .inl (cI, T.N, .inl T.nx))] := hD
          have hP := hP.sub (ws' := [(mo, .inr (13, MF 30 v)), (t, .inr (12, MF 13 (tw T))), (T.a0, .inl (cI, T.N, .inl T.kd)), (T.a1, .inl (cL, T.N, .inr (.inl T.nu))), (T.a2, .inl (cI, T.N, .inl T.st)), (T.a3, .inl (cI, T.N, .inl T.ln)), (T.a4, .inl (cI, T.N, .inl T.ki)), (T.a5, .inl (cI, T.N, .inl T.nx)), (T.a6, .inl (cI, T.N, .inl T.ns)), (T.a7, .inl (cI, T.N, .inl T.nl)), (T.a8, .inl (cI, T.N, .inl T.pa)), (T.a9, .inl (cI, T.N, .inl T.pl)), (T.au, .inl (cC, T.U, .inl T.un))]) [0, 10, 1, 2, 3, 4, 11, 12, 5, 6, 7, 8, 9] rfl
          have hD := hD.sub (ws' := [(mo, .inr (13, MF 30 v)), (t, .inr (12, MF 13 (tw T))), (T.a0, .inl (cI, T.N, .inl T.kd)), (T.a1, .inl (cL, T.N, .inr (.inl T.nu))), (T.a2, .inl (cI, T.N, .inl T.st)), (T.a3, .inl (cI, T.N, .inl T.ln)), (T.a4, .inl (cI, T.N, .inl T.ki)), (T.a5, .inl (cI, T.N, .inl T.nx)), (T.a6, .inl (cI, T.N, .inl T.ns)), (T.a7, .inl (cI, T.N, .inl T.nl)), (T.a8, .inl (cI, T.N, .inl T.pa)), (T.a9, .inl (cI, T.N, .inl T.pl)), (T.au, .inl (cC, T.U, .inl T.un))]) [0, 10, 1, 2, 3, 4, 11, 12, 5, 6, 7, 8, 9] (by decide) rfl
          have hw : r5 = nI ks.length := hw
          subst hw
          refine lv_i2l (v := ((nI ks.length)).toInt64) hx hb d_Mo_lengthOf_120 rfl ?_
          refine W.eq (g2 := F0 m 121 ls [.long (Int64.ofNat (ksU ua).length)]) (by rw [show (((nI ks.length)).toInt64) = (Int64.ofNat (ksU ua).length) from (by rw [hkq]; exact n64_of (by omega))]) ?_
          refine lv_lstore_n (lv' := [(2, .long (Int64.ofNat (ksU ua).length)), (0, .ref mo), (1, .int (nI a9))]) hx hb d_Mo_lengthOf_121 rfl hl (by decide) rfl (fun ls hl => ?_)
          exact jn122 ((Int64.ofNat (ksU ua).length)) _ _ _ ⟨lenU_5 h5, gL_nat (by omega)⟩ hP hD hS (lv_sub hl [1, 2, 0] rfl)
        · refine lv_aload_n hx hb d_Mo_lengthOf_34 rfl (lv_at hl 1 rfl) ?_
          refine va_get (D := (dC, dI)) (ci := 13) (v := .ref t) (C := R_Mo) (T := F_Mo) (N := 30) hx hb hts in_Mo hown hK hP 0 rfl rfl 29 (by decide) (hts _ w_1118) (fun _ h9 => h9) (MFg (by decide) h29) d_Mo_lengthOf_35 ?_
          refine va_get (D := (dC, dI)) (ci := 12) (v := .ref T.a2) (C := R_Tree) (T := F_Tree) (N := 13) hx hb hts in_Tree hown hK hP 1 rfl rfl 2 (by decide) (hts _ w_1039) (fun _ h9 => h9) (MFg (by decide) rfl) d_Mo_lengthOf_38 ?_
          refine lv_iload_n hx hb d_Mo_lengthOf_41 rfl (lv_at hl 2 rfl) ?_
          have hka4 : (lfU ua).1 = 4 := (hva.kd (k := 4) (by decide)).mp (by first | exact c31 | exact Classical.not_not.mp c31)
          obtain ⟨s9, L9, g1, g2, g3, gx, gu⟩ := hva.str hka4
          refine va_iald hx hb hK hP 4 0 rfl rfl (vp_in_nI (show a9 < T.N by omega) (by omega)) d_Mo_lengthOf_42 ?_
          rw [show (nI a9).toNatClampNeg = a9 from nI_clamp (by omega)]
          refine W.eq (g2 := F0 m 43 ls [.int (nI s9)]) (by rw [show (T.st a9) = (nI s9) from g1]) ?_
          refine lv_aload_n hx hb d_Mo_lengthOf_43 rfl (lv_at hl 1 rfl) ?_
          refine va_get (D := (dC, dI)) (ci := 13) (v := .ref t) (C := R_Mo) (T := F_Mo) (N := 30) hx hb hts in_Mo hown hK hP 0 rfl rfl 29 (by decide) (hts _ w_1118) (fun _ h9 => h9) (MFg (by decide) h29) d_Mo_lengthOf_44 ?_
          refine va_get (D := (dC, dI)) (ci := 12) (v := .ref T.a3) (C := R_Tree) (T := F_Tree) (N := 13) hx hb hts in_Tree hown hK hP 1 rfl rfl 3 (by decide) (hts _ w_1041) (fun _ h9 => h9) (MFg (by decide) rfl) d_Mo_lengthOf_47 ?_
          refine lv_iload_n hx hb d_Mo_lengthOf_50 rfl (lv_at hl 2 rfl) ?_
          refine va_iald hx hb hK hP 5 0 rfl rfl (vp_in_nI (show a9 < T.N by omega) (by omega)) d_Mo_lengthOf_51 ?_
          rw [show (nI a9).toNatClampNeg = a9 from nI_clamp (by omega)]
          refine W.eq (g2 := F0 m 52 ls [.int (nI L9), .int (nI s9)]) (by rw [show (T.ln a9) = (nI L9) from g2]) ?_
          refine lv_iadd hx hb d_Mo_lengthOf_52 ?_
          refine W.eq (g2 := F0 m 53 ls [.int (nI (s9 + L9))]) (by rw [show ((nI s9) + (nI L9)) = (nI (s9 + L9)) from nI_add _ _]) ?_
          refine lv_istore (lv' := [(4, .int (nI (s9 + L9))), (2, .long 0), (0, .ref mo), (1, .int (nI a9))]) hx hb d_Mo_lengthOf_53 hl (by decide) rfl (fun ls hl => ?_)
          refine lv_aload_n hx hb d_Mo_lengthOf_55 rfl (lv_at hl 2 rfl) ?_
          refine va_get (D := (dC, dI)) (ci := 13) (v := .ref t) (C := R_Mo) (T := F_Mo) (N := 30) hx hb hts in_Mo hown hK hP 0 rfl rfl 29 (by decide) (hts _ w_1118) (fun _ h9 => h9) (MFg (by decide) h29) d_Mo_lengthOf_56 ?_
          refine va_get (D := (dC, dI)) (ci := 12) (v := .ref T.a2) (C := R_Tree) (T := F_Tree) (N := 13) hx hb hts in_Tree hown hK hP 1 rfl rfl 2 (by decide) (hts _ w_1039) (fun _ h9 => h9) (MFg (by decide) rfl) d_Mo_lengthOf_59 ?_
          refine lv_iload_n hx hb d_Mo_lengthOf_62 rfl (lv_at hl 3 rfl) ?_
          refine va_iald hx hb hK hP 4 0 rfl rfl (vp_in_nI (show a9 < T.N by omega) (by omega)) d_Mo_lengthOf_63 ?_
          rw [show (nI a9).toNatClampNeg = a9 from nI_clamp (by omega)]
          refine W.eq (g2 := F0 m 64 ls [.int (nI s9)]) (by rw [show (T.st a9) = (nI s9) from g1]) ?_
          refine lv_istore (lv' := [(5, .int (nI s9)), (4, .int (nI (s9 + L9))), (2, .long 0), (0, .ref mo), (1, .int (nI a9))]) hx hb d_Mo_lengthOf_64 hl (by decide) rfl (fun ls hl => ?_)
          refine w_loop (D := (dC, dI)) (cl := classes) (A := A) (H0 := s.heap) (nL := 6) 66 (σ := Nat × Int64 × Nat) (fun ⟨i, nn, c9⟩ => i ≤ s9 + L9 ∧ uOK (sl T.un i (s9 + L9 - i)) ∧ nn = Int64.ofNat c9 ∧ c9 + chrN (sl T.un i (s9 + L9 - i)) = chrN (sl T.un s9 L9)) (fun ⟨i, nn, c9⟩ => s9 + L9 + 2 - i) (fun ⟨i, nn, c9⟩ => [(mo, .inr (13, MF 30 v)), (t, .inr (12, MF 13 (tw T))), (T.a0, .inl (cI, T.N, .inl T.kd)), (T.a1, .inl (cL, T.N, .inr (.inl T.nu))), (T.a2, .inl (cI, T.N, .inl T.st)), (T.a3, .inl (cI, T.N, .inl T.ln)), (T.a4, .inl (cI, T.N, .inl T.ki)), (T.a5, .inl (cI, T.N, .inl T.nx)), (T.a6, .inl (cI, T.N, .inl T.ns)), (T.a7, .inl (cI, T.N, .inl T.nl)), (T.a8, .inl (cI, T.N, .inl T.pa)), (T.a9, .inl (cI, T.N, .inl T.pl)), (T.au, .inl (cC, T.U, .inl T.un))]) (fun ⟨i, nn, c9⟩ => [(0, .ref mo), (1, .int (nI a9)), (2, .long nn), (4, .int (nI (s9 + L9))), (5, .int (nI i))]) ?_ (s9, 0, 0) ⟨by show s9 ≤ s9 + L9; omega, by show uOK (sl T.un s9 (s9 + L9 - s9)); rw [Nat.add_sub_cancel_left]; exact gu, rfl, by show 0 + chrN (sl T.un s9 (s9 + L9 - s9)) = _; rw [Nat.add_sub_cancel_left, Nat.zero_add]⟩ hP hD hS (lv_sub hl [3, 4, 2, 1, 0] rfl)
          rintro ⟨i, nn, c9⟩ H locs ls hI ih hP hD hS hl
          have hP : va_P (dC, dI) classes [(mo, .inr (13, MF 30 v)), (t, .inr (12, MF 13 (tw T))), (T.a0, .inl (cI, T.N, .inl T.kd)), (T.a1, .inl (cL, T.N, .inr (.inl T.nu))), (T.a2, .inl (cI, T.N, .inl T.st)), (T.a3, .inl (cI, T.N, .inl T.ln)), (T.a4, .inl (cI, T.N, .inl T.ki)), (T.a5, .inl (cI, T.N, .inl T.nx)), (T.a6, .inl (cI, T.N, .inl T.ns)), (T.a7, .inl (cI, T.N, .inl T.nl)), (T.a8, .inl (cI, T.N, .inl T.pa)), (T.a9, .inl (cI, T.N, .inl T.pl)), (T.au, .inl (cC, T.U, .inl T.un))] H := hP
          have hD : va_D A [(mo, .inr (13, MF 30 v)), (t, .inr (12, MF 13 (tw T))), (T.a0, .inl (cI, T.N, .inl T.kd)), (T.a1, .inl (cL, T.N, .inr (.inl T.nu))), (T.a2, .inl (cI, T.N, .inl T.st)), (T.a3, .inl (cI, T.N, .inl T.ln)), (T.a4, .inl (cI, T.N, .inl T.ki)), (T.a5, .inl (cI, T.N, .inl T.nx)), (T.a6, .inl (cI, T.N, .inl T.ns)), (T.a7, .inl (cI, T.N, .inl T.nl)), (T.a8, .inl (cI, T.N, .inl T.pa)), (T.a9, .inl (cI, T.N, .inl T.pl)), (T.au, .inl (cC, T.U, .inl T.un))] := hD
          have hl : lv_has ls 6 [(0, .ref mo), (1, .int (nI a9)), (2, .long nn), (4, .int (nI (s9 + L9))), (5, .int (nI i))] := hl
          obtain ⟨hI1, hI2, hI3, hI4⟩ := hI
          refine lv_iload hx hb d_Mo_lengthOf_66 (lv_at hl 4 rfl) ?_
          refine lv_iload hx hb d_Mo_lengthOf_68 (lv_at hl 3 rfl) ?_
          refine lv_icmp_ge (tgt := 109) hx hb d_Mo_lengthOf_70 (by decide) (fun c70 => ?_) (fun c70 => ?_)
          · have hie : i = s9 + L9 := by rw [nI_leI (by omega) (by omega)] at c70; omega
            have hfin : chrN (sl T.un s9 L9) = c9 := by rw [hie, Nat.sub_self] at hI4; exact hI4.symm
            refine lv_goto (tgt := 122) hx hb d_Mo_lengthOf_109 (by decide) ?_
            exact jn122 nn _ _ _ (by rw [hI3, lenU_4 hka4, ← gx, show chrN (sl T.un s9 L9) = c9 from hfin]; exact ⟨rfl, gL_nat (by have := chrN_le (sl T.un s9 L9); rw [sl_len] at this; omega)⟩) hP hD hS (lv_sub hl [0, 1, 2] rfl)
          · refine lv_lload_n hx hb d_Mo_lengthOf_73 rfl (lv_at hl 2 rfl) ?_
            refine lv_lconst (v := 1) hx hb d_Mo_lengthOf_74 (by decide) ?_
            refine lv_ladd hx hb d_Mo_lengthOf_75 ?_
            refine lv_lstore_n (lv' := [(2, .long (nn + 1)), (0, .ref mo), (1, .int (nI a9)), (4, .int (nI (s9 + L9))), (5, .int (nI i))]) hx hb d_Mo_lengthOf_76 rfl hl (by decide) rfl (fun ls hl => ?_)
            refine lv_iload hx hb d_Mo_lengthOf_77 (lv_at hl 4 rfl) ?_
            refine lv_aload_n hx hb d_Mo_lengthOf_79 rfl (lv_at hl 1 rfl) ?_
            refine va_get (D := (dC, dI)) (ci := 13) (v := .ref t) (C := R_Mo) (T := F_Mo) (N := 30) hx hb hts in_Mo hown hK hP 0 rfl rfl 29 (by decide) (hts _ w_1118) (fun _ h9 => h9) (MFg (by decide) h29) d_Mo_lengthOf_80 ?_
            refine va_get (D := (dC, dI)) (ci := 12) (v := .ref T.au) (C := R_Tree) (T := F_Tree) (N := 13) hx hb hts in_Tree hown hK hP 1 rfl rfl 11 (by decide) (hts _ w_1056) (fun _ h9 => h9) (MFg (by decide) rfl) d_Mo_lengthOf_83 ?_
            refine lv_iload hx hb d_Mo_lengthOf_86 (lv_at hl 4 rfl) ?_
            refine lv_iload hx hb d_Mo_lengthOf_88 (lv_at hl 3 rfl) ?_
            have hi : i < s9 + L9 := by rw [nI_leI (by omega) (by omega)] at c70; omega
            have hstp := len_step hi hI2 hI4
            have hPc := hP.sub (ws' := [(T.au, .inl (cC, T.U, .inl T.un))]) [12] rfl
            have hDc := hD.sub (ws' := [(T.au, .inl (cC, T.U, .inl T.un))]) [12] (by decide) rfl
            have hKc := hK.sub (tys' := [(cC, .char)]) [2] rfl
            have hFc := va_free (wc := [(T.au, .inl (cC, T.U, .inl T.un))]) hD hS hA [12] rfl
            refine va_calli (va_runS (As := [.ref T.au, .int (nI i), .int (nI (s9 + L9))]) (rest := [.int (nI i)]) ⟨hx, hb, hml, hown, hts⟩ (c_Mo_character l dC dI H cC T.au T.U i (s9 + L9) T.un (by omega) (by omega) ho5) (va_cwS 3 hts (gt_S (own := R_Mo) (i := 111) (y := y_Mo_character) i_Mo_character w_1538 w_1539 w_7) rfl rfl rfl (by decide +kernel) ⟨Nat.le_of_ble_eq_true rfl, Nat.le_of_ble_eq_true rfl⟩) ⟨mp_blind, fun U hU hW => ⟨rfl, hU, by rw [hU]; exact hPc, va_K.moved hW.alike hKc, hDc.weaken (fun _ _ _ _ => trivial)⟩⟩ rfl rfl hl.1 rfl (lv_room (Nat.le_of_ble_eq_true rfl)) d_Mo_lengthOf_90 ⟨hfit_T.1, hfit_T.2⟩) hS (fun q _ h => hFc q h) hFc (fun c8 _u t9 H1 locs ht hvm hw hB hz1 hk1 hS => ?_)
            obtain ⟨hP1, hK1, hD1⟩ := hB
            rw [ht] at hP1
            obtain ⟨hP, hD⟩ := va_join (wr := [(mo, .inr (13, MF 30 v)), (t, .inr (12, MF 13 (tw T))), (T.a0, .inl (cI, T.N, .inl T.kd)), (T.a1, .inl (cL, T.N, .inr (.inl T.nu))), (T.a2, .inl (cI, T.N, .inl T.st)), (T.a3, .inl (cI, T.N, .inl T.ln)), (T.a4, .inl (cI, T.N, .inl T.ki)), (T.a5, .inl (cI, T.N, .inl T.nx)), (T.a6, .inl (cI, T.N, .inl T.ns)), (T.a7, .inl (cI, T.N, .inl T.nl)), (T.a8, .inl (cI, T.N, .inl T.pa)), (T.a9, .inl (cI, T.N, .inl T.pl))]) (w1 := [(T.au, .inl (cC, T.U, .inl T.un))]) hP hD [12] [0, 1, 2, 3, 4, 5, 6, 7, 8, 9, 10, 11] rfl rfl (by decide) (by decide) hk1 hFc hP1 hD1
            generalize H1 = H at hP hS ⊢
            have hP : va_P (dC, dI) classes [(mo, .inr (13, MF 30 v)), (t, .inr (12, MF 13 (tw T))), (T.a0, .inl (cI, T.N, .inl T.kd)), (T.a1, .inl (cL, T.N, .inr (.inl T.nu))), (T.a2, .inl (cI, T.N, .inl T.st)), (T.a3, .inl (cI, T.N, .inl T.ln)), (T.a4, .inl (cI, T.N, .inl T.ki)), (T.a5, .inl (cI, T.N, .inl T.nx)), (T.a6, .inl (cI, T.N, .inl T.ns)), (T.a7, .inl (cI, T.N, .inl T.nl)), (T.a8, .inl (cI, T.N, .inl T.pa)), (T.a9, .inl (cI, T.N, .inl T.pl)), (T.au, .inl (cC, T.U, .inl T.un))] H := hP
            have hD : va_D A [(mo, .inr (13, MF 30 v)), (t, .inr (12, MF 13 (tw T))), (T.a0, .inl (cI, T.N, .inl T.kd)), (T.a1, .inl (cL, T.N, .inr (.inl T.nu))), (T.a2, .inl (cI, T.N, .inl T.st)), (T.a3, .inl (cI, T.N, .inl T.ln)), (T.a4, .inl (cI, T.N, .inl T.ki)), (T.a5, .inl (cI, T.N, .inl T.nx)), (T.a6, .inl (cI, T.N, .inl T.ns)), (T.a7, .inl (cI, T.N, .inl T.nl)), (T.a8, .inl (cI, T.N, .inl T.pa)), (T.a9, .inl (cI, T.N, .inl T.pl)), (T.au, .inl (cC, T.U, .inl T.un))] := hD
            have h_c8 : c8 = chV T.un i (s9 + L9) := hw
            refine lv_ldc (v := 65535) hx hb hown (hts _ w_1542) d_Mo_lengthOf_93 ?_
            refine lv_icmp_le (tgt := 102) hx hb d_Mo_lengthOf_95 (by decide) (fun c95 => ?_) (fun c95 => ?_)
            · refine lv_iconst (v := 1) hx hb d_Mo_lengthOf_102 (by decide) ?_
              have hlen := hstp.2 (by rw [← h_c8]; first | exact c95 | exact Int32.not_lt.mpr c95)
              refine lv_iadd hx hb d_Mo_lengthOf_103 ?_
              refine W.eq (g2 := F0 m 104 ls [.int (nI (i + 1))]) (by rw [show ((nI i) + 1) = (nI (i + 1)) from nI_add i 1]) ?_
              refine lv_istore (lv' := [(5, .int (nI (i + 1))), (2, .long (nn + 1)), (0, .ref mo), (1, .int (nI a9)), (4, .int (nI (s9 + L9)))]) hx hb d_Mo_lengthOf_104 hl (by decide) rfl (fun ls hl => ?_)
              refine lv_goto (tgt := 66) hx hb d_Mo_lengthOf_106 (by decide) ?_
              exact ih ((i + 1), nn + 1, c9 + 1) _ _ _ ⟨by show i + 1 ≤ _; omega, hlen.1, by rw [hI3]; exact i64_1 c9, hlen.2⟩ (by show s9 + L9 + 2 - (i + 1) < s9 + L9 + 2 - i; omega) hP hD hS (lv_sub hl [2, 3, 1, 4, 0] rfl)
            · refine lv_iconst (v := 2) hx hb d_Mo_lengthOf_98 (by decide) ?_
              refine lv_goto (tgt := 103) hx hb d_Mo_lengthOf_99 (by decide) ?_
              have hlen := hstp.1 (by rw [← h_c8]; first | exact c95 | exact Int32.not_le.mp c95)
              refine lv_iadd hx hb d_Mo_lengthOf_103 ?_
              refine W.eq (g2 := F0 m 104 ls [.int (nI (i + 2))]) (by rw [show ((nI i) + 2) = (nI (i + 2)) from nI_add i 2]) ?_
              refine lv_istore (lv' := [(5, .int (nI (i + 2))), (2, .long (nn + 1)), (0, .ref mo), (1, .int (nI a9)), (4, .int (nI (s9 + L9)))]) hx hb d_Mo_lengthOf_104 hl (by decide) rfl (fun ls hl => ?_)
              refine lv_goto (tgt := 66) hx hb d_Mo_lengthOf_106 (by decide) ?_
              exact ih ((i + 2), nn + 1, c9 + 1) _ _ _ ⟨hlen.1, hlen.2.1, by rw [hI3]; exact i64_1 c9, hlen.2.2⟩ (by show s9 + L9 + 2 - (i + 2) < s9 + L9 + 2 - i; omega) hP hD hS (lv_sub hl [2, 3, 1, 4, 0] rfl)
      · rintro nn H locs ls hI122 hP hD hS hl
        have hP : va_P (dC, dI) classes [(mo, .inr (13, MF 30 v)), (t, .inr (12, MF 13 (tw T))), (T.a0, .inl (cI, T.N, .inl T.kd)), (T.a1, .inl (cL, T.N, .inr (.inl T.nu))), (T.a2, .inl (cI, T.N, .inl T.st)), (T.a3, .inl (cI, T.N, .inl T.ln)), (T.a4, .inl (cI, T.N, .inl T.ki)), (T.a5, .inl (cI, T.N, .inl T.nx)), (T.a6, .inl (cI, T.N, .inl T.ns)), (T.a7, .inl (cI, T.N, .inl T.nl)), (T.a8, .inl (cI, T.N, .inl T.pa)), (T.a9, .inl (cI, T.N, .inl T.pl)), (T.au, .inl (cC, T.U, .inl T.un))] H := hP
        have hD : va_D A [(mo, .inr (13, MF 30 v)), (t, .inr (12, MF 13 (tw T))), (T.a0, .inl (cI, T.N, .inl T.kd)), (T.a1, .inl (cL, T.N, .inr (.inl T.nu))), (T.a2, .inl (cI, T.N, .inl T.st)), (T.a3, .inl (cI, T.N, .inl T.ln)), (T.a4, .inl (cI, T.N, .inl T.ki)), (T.a5, .inl (cI, T.N, .inl T.nx)), (T.a6, .inl (cI, T.N, .inl T.ns)), (T.a7, .inl (cI, T.N, .inl T.nl)), (T.a8, .inl (cI, T.N, .inl T.pa)), (T.a9, .inl (cI, T.N, .inl T.pl)), (T.au, .inl (cC, T.U, .inl T.un))] := hD
        have hl : lv_has ls 6 [(0, .ref mo), (1, .int (nI a9)), (2, .long nn)] := hl
        refine lv_aload_n hx hb d_Mo_lengthOf_122 rfl (lv_at hl 0 rfl) ?_
        refine va_get (D := (dC, dI)) (ci := 13) (v := .ref t) (C := R_Mo) (T := F_Mo) (N := 30) hx hb hts in_Mo hown hK hP 0 rfl rfl 29 (by decide) (hts _ w_1118) (fun _ h9 => h9) (MFg (by decide) h29) d_Mo_lengthOf_123 ?_
        refine lv_iconst (v := 3) hx hb d_Mo_lengthOf_126 (by decide) ?_
        have hPc := hP.sub (ws' := [(t, .inr (12, MF 13 (tw T))), (T.a0, .inl (cI, T.N, .inl T.kd)), (T.a1, .inl (cL, T.N, .inr (.inl T.nu))), (T.a2, .inl (cI, T.N, .inl T.st)), (T.a3, .inl (cI, T.N, .inl T.ln)), (T.a4, .inl (cI, T.N, .inl T.ki)), (T.a5, .inl (cI, T.N, .inl T.nx)), (T.a6, .inl (cI, T.N, .inl T.ns)), (T.a7, .inl (cI, T.N, .inl T.nl)), (T.a8, .inl (cI, T.N, .inl T.pa)), (T.a9, .inl (cI, T.N, .inl T.pl)), (T.au, .inl (cC, T.U, .inl T.un))]) [1, 2, 3, 4, 5, 6, 7, 8, 9, 10, 11, 12] rfl
        have hDc := hD.sub (ws' := [(t, .inr (12, MF 13 (tw T))), (T.a0, .inl (cI, T.N, .inl T.kd)), (T.a1, .inl (cL, T.N, .inr (.inl T.nu))), (T.a2, .inl (cI, T.N, .inl T.st)), (T.a3, .inl (cI, T.N, .inl T.ln)), (T.a4, .inl (cI, T.N, .inl T.ki)), (T.a5, .inl (cI, T.N, .inl T.nx)), (T.a6, .inl (cI, T.N, .inl T.ns)), (T.a7, .inl (cI, T.N, .inl T.nl)), (T.a8, .inl (cI, T.N, .inl T.pa)), (T.a9, .inl (cI, T.N, .inl T.pl)), (T.au, .inl (cC, T.U, .inl T.un))]) [1, 2, 3, 4, 5, 6, 7, 8, 9, 10, 11, 12] (by decide) rfl
        have hKc := hK.sub (tys' := [(cI, .int), (cL, .long), (cC, .char)]) [0, 1, 2] rfl
        have hFc := va_free (wc := [(t, .inr (12, MF 13 (tw T))), (T.a0, .inl (cI, T.N, .inl T.kd)), (T.a1, .inl (cL, T.N, .inr (.inl T.nu))), (T.a2, .inl (cI, T.N, .inl T.st)), (T.a3, .inl (cI, T.N, .inl T.ln)), (T.a4, .inl (cI, T.N, .inl T.ki)), (T.a5, .inl (cI, T.N, .inl T.nx)), (T.a6, .inl (cI, T.N, .inl T.ns)), (T.a7, .inl (cI, T.N, .inl T.nl)), (T.a8, .inl (cI, T.N, .inl T.pa)), (T.a9, .inl (cI, T.N, .inl T.pl)), (T.au, .inl (cC, T.U, .inl T.un))]) hD hS hA [1, 2, 3, 4, 5, 6, 7, 8, 9, 10, 11, 12] rfl
        refine w_same (fun hq0 => ?_)
        refine va_calli (va_runV (As := [.int 3]) (rest := []) ⟨hx, hb, hml, hown, hts⟩ (c_Tree_add l dC dI t H cI cL cC T 3 hTk_T) (cwV 1 hts (gt_V (own := R_Mo) (C := R_Tree) (i := 197) (y := y_Tree_add) i_Tree_add w_1254 w_1255 w_1256 w_8) rfl rfl rfl (by decide +kernel) ⟨Nat.le_of_ble_eq_true rfl, Nat.le_of_ble_eq_true rfl⟩) ⟨mp_blind, va_recv hKc hPc (ci := 12) (q0 := 0) rfl rfl, fun U hU hW => ⟨rfl, hU, by rw [hU]; exact hPc, va_K.moved hW.alike hKc, hDc.weaken (fun _ _ _ _ => trivial)⟩⟩ rfl rfl hl.1 rfl (lv_room (Nat.le_of_ble_eq_true rfl)) d_Mo_lengthOf_127 ⟨(TAd.fit hGB_T hTk_T (by omega)).1, (TAd.fit hGB_T hTk_T (by omega)).2⟩) hS (fun q _ h => hFc q h) hFc (fun r0 T1 t9 H1 locs ht hvm hw hB hz1 hk1 hS => ?_)
        obtain ⟨⟨hP1, hK1, hD1⟩, hz9⟩ := hB
        rw [ht] at hP1
        rw [ht] at hz9
        obtain ⟨hr0, hA_T1⟩ := hw
        have hA_T1 : TAd T T1 3 := hA_T1
        have hAg := hA_T1.gb hTk_T (by omega)
        obtain ⟨hGB_T1, hGc, hGs⟩ := hGB_T.tr hAg.1 (show T.ct + 1 ≤ T.ct + 1 by omega) (Nat.zero_le _)
        have hGc := Nat.le_trans (Nat.add_le_add_left hAg.2.1 _) hGc
        have hGs := Nat.le_trans (Nat.add_le_add_left hAg.2.2 _) hGs
        have hq1 : szk s.heap H1 (cE T T1) (sE T T1) := (hq0.trans hz9).mono hGc hGs
        refine w_tight hq1 ?_
        obtain ⟨hP, hD⟩ := va_join (wr := [(mo, .inr (13, MF 30 v))]) (w1 := [(t, .inr (12, MF 13 (tw T1))), (T1.a0, .inl (cI, T1.N, .inl T1.kd)), (T1.a1, .inl (cL, T1.N, .inr (.inl T1.nu))), (T1.a2, .inl (cI, T1.N, .inl T1.st)), (T1.a3, .inl (cI, T1.N, .inl T1.ln)), (T1.a4, .inl (cI, T1.N, .inl T1.ki)), (T1.a5, .inl (cI, T1.N, .inl T1.nx)), (T1.a6, .inl (cI, T1.N, .inl T1.ns)), (T1.a7, .inl (cI, T1.N, .inl T1.nl)), (T1.a8, .inl (cI, T1.N, .inl T1.pa)), (T1.a9, .inl (cI, T1.N, .inl T1.pl)), (T1.au, .inl (cC, T1.U, .inl T1.un))]) hP hD [1, 2, 3, 4, 5, 6, 7, 8, 9, 10, 11, 12] [0] rfl rfl (by decide) (by decide) hk1 hFc hP1 hD1
        generalize H1 = H at hP hS ⊢
        have hP : va_P (dC, dI) classes [(mo, .inr (13, MF 30 v)), (t, .inr (12, MF 13 (tw T1))), (T1.a0, .inl (cI, T1.N, .inl T1.kd)), (T1.a1, .inl (cL, T1.N, .inr (.inl T1.nu))), (T1.a2, .inl (cI, T1.N, .inl T1.st)), (T1.a3, .inl (cI, T1.N, .inl T1.ln)), (T1.a4, .inl (cI, T1.N, .inl T1.ki)), (T1.a5, .inl (cI, T1.N, .inl T1.nx)), (T1.a6, .inl (cI, T1.N, .inl T1.ns)), (T1.a7, .inl (cI, T1.N, .inl T1.nl)), (T1.a8, .inl (cI, T1.N, .inl T1.pa)), (T1.a9, .inl (cI, T1.N, .inl T1.pl)), (T1.au, .inl (cC, T1.U, .inl T1.un))] H := hP
        have hD : va_D A [(mo, .inr (13, MF 30 v)), (t, .inr (12, MF 13 (tw T1))), (T1.a0, .inl (cI, T1.N, .inl T1.kd)), (T1.a1, .inl (cL, T1.N, .inr (.inl T1.nu))), (T1.a2, .inl (cI, T1.N, .inl T1.st)), (T1.a3, .inl (cI, T1.N, .inl T1.ln)), (T1.a4, .inl (cI, T1.N, .inl T1.ki)), (T1.a5, .inl (cI, T1.N, .inl T1.nx)), (T1.a6, .inl (cI, T1.N, .inl T1.ns)), (T1.a7, .inl (cI, T1.N, .inl T1.nl)), (T1.a8, .inl (cI, T1.N, .inl T1.pa)), (T1.a9, .inl (cI, T1.N, .inl T1.pl)), (T1.au, .inl (cC, T1.U, .inl T1.un))] := hD
        have hTk_T1 := (hA_T1.ok hTk_T (by omega)).1
        have hAc_T1 : T1.ct = T.ct + 1 ∧ T1.us = T.us := ⟨(hA_T1.ok hTk_T (by omega)).2.2.2.2.2.1, (hA_T1.ok hTk_T (by omega)).2.2.2.2.1⟩
        have hr0 : r0 = nI T.ct := hr0
        subst hr0
        have hfit_T1 := hGB_T1.fits
        refine lv_istore (lv' := [(4, .int (nI T.ct)), (0, .ref mo), (1, .int (nI a9)), (2, .long nn)]) hx hb d_Mo_lengthOf_130 hl (by decide) rfl (fun ls hl => ?_)
        refine lv_aload_n hx hb d_Mo_lengthOf_132 rfl (lv_at hl 1 rfl) ?_
        refine va_get (D := (dC, dI)) (ci := 13) (v := .ref t) (C := R_Mo) (T := F_Mo) (N := 30) hx hb hts in_Mo hown hK hP 0 rfl rfl 29 (by decide) (hts _ w_1118) (fun _ h9 => h9) (MFg (by decide) h29) d_Mo_lengthOf_133 ?_
        refine va_get (D := (dC, dI)) (ci := 12) (v := .ref T1.a1) (C := R_Tree) (T := F_Tree) (N := 13) hx hb hts in_Tree hown hK hP 1 rfl rfl 1 (by decide) (hts _ w_1037) (fun _ h9 => h9) (MFg (by decide) rfl) d_Mo_lengthOf_136 ?_
        refine lv_iload hx hb d_Mo_lengthOf_139 (lv_at hl 0 rfl) ?_
        refine lv_lload_n hx hb d_Mo_lengthOf_141 rfl (lv_at hl 3 rfl) ?_
        refine va_last hx hb hK hP hD hS 3 1 rfl rfl (vp_in_nI (show T.ct < T1.N by have := hTk_T1.2.2.1; omega) (by have := hTk_T1.2.1; omega)) d_Mo_lengthOf_142 (fun H locs hP hD hS => ?_)
        rw [show (nI T.ct).toNatClampNeg = T.ct from nI_clamp (by have := hTk_T1.2.1; have := hTk_T1.2.2.1; omega)] at hP hD
        have hP : va_P (dC, dI) classes [(mo, .inr (13, MF 30 v)), (t, .inr (12, MF 13 (tw T1))), (T1.a0, .inl (cI, T1.N, .inl T1.kd)), (T1.a1, .inl (cL, T1.N, .inr (.inl (vp_updL T1.nu T.ct nn)))), (T1.a2, .inl (cI, T1.N, .inl T1.st)), (T1.a3, .inl (cI, T1.N, .inl T1.ln)), (T1.a4, .inl (cI, T1.N, .inl T1.ki)), (T1.a5, .inl (cI, T1.N, .inl T1.nx)), (T1.a6, .inl (cI, T1.N, .inl T1.ns)), (T1.a7, .inl (cI, T1.N, .inl T1.nl)), (T1.a8, .inl (cI, T1.N, .inl T1.pa)), (T1.a9, .inl (cI, T1.N, .inl T1.pl)), (T1.au, .inl (cC, T1.U, .inl T1.un))] H := hP
        have hD : va_D A [(mo, .inr (13, MF 30 v)), (t, .inr (12, MF 13 (tw T1))), (T1.a0, .inl (cI, T1.N, .inl T1.kd)), (T1.a1, .inl (cL, T1.N, .inr (.inl (vp_updL T1.nu T.ct nn)))), (T1.a2, .inl (cI, T1.N, .inl T1.st)), (T1.a3, .inl (cI, T1.N, .inl T1.ln)), (T1.a4, .inl (cI, T1.N, .inl T1.ki)), (T1.a5, .inl (cI, T1.N, .inl T1.nx)), (T1.a6, .inl (cI, T1.N, .inl T1.ns)), (T1.a7, .inl (cI, T1.N, .inl T1.nl)), (T1.a8, .inl (cI, T1.N, .inl T1.pa)), (T1.a9, .inl (cI, T1.N, .inl T1.pl)), (T1.au, .inl (cC, T1.U, .inl T1.un))] := hD
        obtain ⟨T2, e_T2⟩ : ∃ z : TS, z = T1.wn (vp_updL T1.nu T.ct nn) := ⟨_, rfl⟩
        have hP : va_P (dC, dI) classes [(mo, .inr (13, MF 30 v)), (t, .inr (12, MF 13 (tw T2))), (T2.a0, .inl (cI, T2.N, .inl T2.kd)), (T2.a1, .inl (cL, T2.N, .inr (.inl T2.nu))), (T2.a2, .inl (cI, T2.N, .inl T2.st)), (T2.a3, .inl (cI, T2.N, .inl T2.ln)), (T2.a4, .inl (cI, T2.N, .inl T2.ki)), (T2.a5, .inl (cI, T2.N, .inl T2.nx)), (T2.a6, .inl (cI, T2.N, .inl T2.ns)), (T2.a7, .inl (cI, T2.N, .inl T2.nl)), (T2.a8, .inl (cI, T2.N, .inl T2.pa)), (T2.a9, .inl (cI, T2.N, .inl T2.pl)), (T2.au, .inl (cC, T2.U, .inl T2.un))] H := by subst e_T2; exact hP
        have hD : va_D A [(mo, .inr (13, MF 30 v)), (t, .inr (12, MF 13 (tw T2))), (T2.a0, .inl (cI, T2.N, .inl T2.kd)), (T2.a1, .inl (cL, T2.N, .inr (.inl T2.nu))), (T2.a2, .inl (cI, T2.N, .inl T2.st)), (T2.a3, .inl (cI, T2.N, .inl T2.ln)), (T2.a4, .inl (cI, T2.N, .inl T2.ki)), (T2.a5, .inl (cI, T2.N, .inl T2.nx)), (T2.a6, .inl (cI, T2.N, .inl T2.ns)), (T2.a7, .inl (cI, T2.N, .inl T2.nl)), (T2.a8, .inl (cI, T2.N, .inl T2.pa)), (T2.a9, .inl (cI, T2.N, .inl T2.pl)), (T2.au, .inl (cC, T2.U, .inl T2.un))] := by subst e_T2; exact hD
        refine lv_iload hx hb d_Mo_lengthOf_143 (lv_at hl 0 rfl) ?_
        have hVA : VB 1 0 T T2 (nI T.ct) (o9.bind lenU) := by rw [hoa, show (some ua : VOp).bind lenU = lenU ua from rfl, hI122.1, e_T2]; exact VB.num hA_T1 hTk_T (by omega) hI122.2
        have hfit_T2 := hVA.1.2.2.1.fits
        refine w_same (fun hq => ?_)
        have hq : szk s.heap H (cE T T2) (sE T T2) := by rw [e_T2, cE_wn.1, cE_wn.2]; exact hq
        refine W.widen (k := ncap T (T.ct + 1) + qcap T (T.us + 0)) (n := 20 * ncap T (T.ct + 1) + 2 * qcap T (T.us + 0)) hfit_T1.1 hfit_T1.2 ?_
        exact W.iret (v := nI T.ct) hx hb hr (fun t9 ht hW => ⟨⟨nI T.ct, T2, rfl, hVA, ⟨by rw [ht]; exact hP, va_K.moved hW.alike hK, hD⟩, by rw [ht]; exact hq⟩, hS.F ht⟩) hS.2.2 d_Mo_lengthOf_145
    · refine lv_iconst (v := (-1)) hx hb d_Mo_lengthOf_17 (by decide) ?_
      refine w_same (fun hq => ?_)
      refine W.widen (k := ncap T (T.ct + 1) + qcap T (T.us + 0)) (n := 20 * ncap T (T.ct + 1) + 2 * qcap T (T.us + 0)) hfit_T.1 hfit_T.2 ?_
      have hnone : o9.bind lenU = none := by rw [hoa]; exact lenU_0 (Nat.lt_of_not_le (fun q => absurd ((hva.kdlt (k := 4) (by decide)).mpr q) (by first | exact c14 | exact Int32.not_le.mpr c14)))
      exact W.iret (v := -1) hx hb hr (fun t9 ht hW => ⟨⟨-1, T, rfl, (by rw [hnone]; exact VB.rf hTk_T rfl), ⟨by rw [ht]; exact hP, va_K.moved hW.alike hK, hD⟩, by rw [ht]; exact hq⟩, hS.F ht⟩) hS.2.2 d_Mo_lengthOf_18
