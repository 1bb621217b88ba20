def kcap (Q : QS) (B : Nat) : Nat := max Q.C (2 * B) - Q.C
def GQ (BN BU : Nat) (Q : QS) (V : TS) (Q2 : QS) (V2 : TS) : Prop := Q.C ≤ Q2.C ∧ Q2.C ≤ max Q.C (2 * BN) ∧ V.U ≤ V2.U ∧ V2.U ≤ max V.U (2 * BU)
def cQ (Q : QS) (V : TS) (Q2 : QS) (V2 : TS) : Nat := Q2.C - Q.C + (V2.U - V.U)
def sQ (Q : QS) (V : TS) (Q2 : QS) (V2 : TS) : Nat := 22 * (Q2.C - Q.C) + 2 * (V2.U - V.U)
theorem GQ.rf {BN BU : Nat} {Q : QS} {V : TS} : GQ BN BU Q V Q V := ⟨Nat.le_refl _, Nat.le_max_left _ _, Nat.le_refl _, Nat.le_max_left _ _⟩
theorem cQ_rf {Q : QS} {V : TS} : cQ Q V Q V = 0 ∧ sQ Q V Q V = 0 := by unfold cQ sQ; omega
theorem GQ.fits {BN BU : Nat} {Q Q2 : QS} {V V2 : TS} (h : GQ BN BU Q V Q2 V2) : cQ Q V Q2 V2 ≤ kcap Q BN + qcap V BU ∧ sQ Q V Q2 V2 ≤ 22 * kcap Q BN + 2 * qcap V BU := by
  obtain ⟨h1, h2, h3, h4⟩ := h
  unfold cQ sQ kcap qcap
  constructor <;> omega
theorem GQ.step {BN BU B2 C2 : Nat} {Q Q2 : QS} {V V2 : TS} (h : GQ BN BU Q V Q2 V2) (hB : B2 ≤ BN) (hC : C2 ≤ BU) : cQ Q V Q2 V2 + (kcap Q2 B2 + qcap V2 C2) ≤ kcap Q BN + qcap V BU ∧ sQ Q V Q2 V2 + (22 * kcap Q2 B2 + 2 * qcap V2 C2) ≤ 22 * kcap Q BN + 2 * qcap V BU := by
  obtain ⟨h1, h2, h3, h4⟩ := h
  have e1 : Q2.C - Q.C + kcap Q2 B2 ≤ kcap Q BN := by unfold kcap; omega
  have e2 : V2.U - V.U + qcap V2 C2 ≤ qcap V BU := by unfold qcap; omega
  unfold cQ sQ
  constructor <;> omega
theorem GQ.stepQ {BN BU C2 : Nat} {Q Q2 : QS} {V V2 : TS} (h : GQ BN BU Q V Q2 V2) (hC : C2 ≤ BU) : cQ Q V Q2 V2 + qcap V2 C2 ≤ kcap Q BN + qcap V BU ∧ sQ Q V Q2 V2 + 2 * qcap V2 C2 ≤ 22 * kcap Q BN + 2 * qcap V BU := by
  have := h.step (B2 := 0) (C2 := C2) (Nat.zero_le _) hC
  omega
theorem GQ.tr {BN BU B2 C2 : Nat} {Q Q2 Q3 : QS} {V V2 V3 : TS} (h : GQ BN BU Q V Q2 V2) (g : GQ B2 C2 Q2 V2 Q3 V3) (hB : B2 ≤ BN) (hC : C2 ≤ BU) : GQ BN BU Q V Q3 V3 ∧ cQ Q V Q2 V2 + cQ Q2 V2 Q3 V3 ≤ cQ Q V Q3 V3 ∧ sQ Q V Q2 V2 + sQ Q2 V2 Q3 V3 ≤ sQ Q V Q3 V3 := by
  obtain ⟨h1, h2, h3, h4⟩ := h
  obtain ⟨g1, g2, g3, g4⟩ := g
  refine ⟨⟨by omega, by omega, by omega, by omega⟩, ?_, ?_⟩
  · unfold cQ; omega
  · unfold sQ; omega
theorem TX.gq {V V2 : TS} {us : List Int32} (h : TX V V2 us) (Q : QS) : GQ 0 (V.us + us.length) Q V Q V2 ∧ V2.U - V.U = cQ Q V Q V2 ∧ 2 * (V2.U - V.U) = sQ Q V Q V2 := by
  have h2 := h.U
  refine ⟨⟨by omega, by omega, by omega, by omega⟩, ?_, ?_⟩
  · unfold cQ; omega
  · unfold sQ; omega
theorem QAd.gq {Q Q2 : QS} {k : Int32} (h : QAd Q Q2 k) (hQ : QOK Q) (hc : Q.R ≤ 50000 - 1) (V : TS) : QOK Q2 ∧ GQ (Q.R + 1) 0 Q V Q2 V ∧ rwC Q ≤ cQ Q V Q2 V ∧ rwS Q ≤ sQ Q V Q2 V ∧ Q2.R = Q.R + 1 := by
  obtain ⟨h1, h2, h3, hef, h4⟩ := h
  obtain ⟨a1, a2, a3, a4⟩ := hQ
  have hN : (¬ Q.R = Q.C ∧ Q2.C = Q.C) ∨ (Q.R = Q.C ∧ Q2.C = 2 * Q.C) := by
    by_cases e : Q.R = Q.C
    · rw [if_pos e] at h1; exact Or.inr ⟨e, h1⟩
    · rw [if_neg e] at h1; exact Or.inl ⟨e, h1⟩
  refine ⟨⟨by omega, by omega, by omega, fun j => (hef.1 j).elim (fun e => by rw [e]; exact a4 j) (fun e => by rw [e]; decide)⟩, ⟨by omega, by omega, by omega, by omega⟩, ?_, ?_, h2⟩
  · unfold rwC cQ; split <;> omega
  · unfold rwS sQ; split <;> omega
theorem QAd.fit {BN BU : Nat} {Q Q1 : QS} {V V1 : TS} (h : GQ BN BU Q V Q1 V1) (hQ : QOK Q1) (hB : Q1.R + 1 ≤ BN) : cQ Q V Q1 V1 + rwC Q1 ≤ kcap Q BN + qcap V BU ∧ sQ Q V Q1 V1 + rwS Q1 ≤ 22 * kcap Q BN + 2 * qcap V BU := by
  obtain ⟨a1, a2, a3, a4⟩ := hQ
  have h9 := h.step (B2 := Q1.R + 1) (C2 := 0) hB (Nat.zero_le _)
  have e1 : rwC Q1 ≤ kcap Q1 (Q1.R + 1) := by unfold rwC kcap; split <;> omega
  have e2 : rwS Q1 ≤ 22 * kcap Q1 (Q1.R + 1) := by unfold rwS kcap; split <;> omega
  omega
/-- how far the rows and the units may have grown -/
def QPo (n i k : Nat) (Q : QS) (V : TS) (u : QS × TS × Nat × Int32 × Nat) : Prop := QOK u.1 ∧ GQ (Q.R + 8 * (n - i) + k) (V.us + (n + 12 - i)) Q V u.1 u.2.1 ∧ (∃ us, TX V u.2.1 us ∧ us.length ≤ n + 12 - i) ∧ Q.R ≤ u.1.R ∧ u.1.R ≤ Q.R + 8 * (n - i) + k
def ORo (orL : Nat → Option (Nat × CT)) (O : QP CT) (n i k d o : Nat) (Q : QS) (V : TS) (res : Int32) (u : QS × TS × Nat × Int32 × Nat) : Prop := QPo n i k Q V u ∧ ((∃ m, res = nI Q.R ∧ orL i = some (u.2.2.1, m) ∧ O u.1 u.2.1 Q.R u.1.R Q.R m ∧ alr Q V u.1 u.2.1 0 Q.R ∧ u.1.R + 8 * i + d ≤ Q.R + 8 * u.2.2.1 ∧ u.2.1.us + i ≤ V.us + u.2.2.1 ∧ u.2.2.1 ≤ n ∧ Q.R < u.1.R ∧ u.2.2.2.2 = o) ∨ (res = -1 ∧ orL i = none))
def SELo (f : Nat → Int32) (orL : Nat → Option (Nat × CT)) (O : QP CT) (sg : Bool) (n i o : Nat) (Q : QS) (V : TS) (res : Int32) (u : QS × TS × Nat × Int32 × Nat) : Prop := QPo n i 4 Q V u ∧ ((∃ fl m, res = nI Q.R ∧ selP f n orL sg i = some (u.2.2.1, fl, m) ∧ SELp O u.1 u.2.1 Q.R u.1.R Q.R m ∧ (fl = true ↔ (u.1.qf (8 * Q.R + 0) = 1 ∨ u.1.qf (8 * Q.R + 0) = 3)) ∧ u.1.qf (8 * Q.R + 1) = -1 ∧ alr Q V u.1 u.2.1 0 Q.R ∧ u.1.R + 8 * i + 7 ≤ Q.R + 8 * u.2.2.1 ∧ u.2.1.us + i ≤ V.us + u.2.2.1 ∧ u.2.2.1 ≤ n ∧ Q.R < u.1.R ∧ u.2.2.2.2 = o) ∨ (res = -1 ∧ selP f n orL sg i = none))
theorem TXs.tr {V V2 V3 : TS} {a b c : Nat} (h1 : ∃ us, TX V V2 us ∧ us.length ≤ a) (h2 : ∃ us, TX V2 V3 us ∧ us.length ≤ b) (h : a + b ≤ c) : ∃ us, TX V V3 us ∧ us.length ≤ c := by
  obtain ⟨us, a1, a2⟩ := h1
  obtain ⟨vs, b1, b2⟩ := h2
  exact ⟨us ++ vs, a1.trans b1, by rw [List.length_append]; omega⟩
abbrev b_Mo_or : ByteArray := prog_14_method_44_code
def y_Mo_or : MethodName := ⟨"QueryBenchModel", "or", "()I"⟩
abbrev k_Mo_or : Cond := .code y_Mo_or b_Mo_or 5 (some .int)
theorem i_Mo_or : k_Mo_or ∈ gtbl := gt_in 1438 (by decide +kernel) (by decide +kernel)
/-- what or does: F frames, L locals -/
def ORC (orL : (Nat → Int32) → Nat → Nat → Option (Nat × CT)) (O : QP CT) (o F L : Nat) : Prop := ∀ (l : Launch) (dC : Nat → ClassId) (dI : Nat → Nat → Nat) (mo : Nat) (sz : Heap) (v : Nat → Value) (cB cI cL cC : ClassId) (qx NN : Nat) (f : Nat → Int32) (n : Nat) (K : Nat → Nat × Nat) (tv : Nat) (Q : QS) (V : TS) (i : Nat) (br : Int32), n ≤ NN → NN ≤ 4096 → i ≤ n → v 6 = .ref qx → v 8 = .int (nI n) → v 22 = .ref tv → QOK Q → TOK V → V.us + (n + 12 - i) ≤ 400000 → Q.R + 8 * (n - i) + 3 ≤ 40000 → Met l y_Mo_or (k_Mo_or :: gtbl) ({ frames := F, cells := kcap Q (Q.R + 8 * (n - i) + 3) + qcap V (V.us + (n + 12 - i)), slots := 22 * kcap Q (Q.R + 8 * (n - i) + 3) + 2 * qcap V (V.us + (n + 12 - i)), locals := L }) (va_Pc [.ref mo] (me K dC dI [(mo, .inr (13, MF 30 (rf (rs v Q o) i br))), (qx, .inl (cB, NN, .inl f)), (Q.qq, .inl (cI, (8 * Q.C), .inl Q.qf)), (Q.qe, .inl (cL, (3 * Q.C), .inr (.inl Q.ef))), (tv, .inr (12, MF 13 (tw V))), (V.au, .inl (cC, V.U, .inl V.un))] [(cB, .byte), (cI, .int), (cL, .long), (cC, .char)] sz)) (va_Qi (fun (res : Int32) (u : QS × TS × Nat × Int32 × Nat) => ORo (orL f n) O n i 3 3 o Q V res u) (fun u t9 => mz dC dI [(mo, .inr (13, MF 30 (rf (rs v u.1 u.2.2.2.2) u.2.2.1 u.2.2.2.1))), (qx, .inl (cB, NN, .inl f)), (u.1.qq, .inl (cI, (8 * u.1.C), .inl u.1.qf)), (u.1.qe, .inl (cL, (3 * u.1.C), .inr (.inl u.1.ef))), (tv, .inr (12, MF 13 (tw u.2.1))), (u.2.1.au, .inl (cC, u.2.1.U, .inl u.2.1.un))] [(cB, .byte), (cI, .int), (cL, .long), (cC, .char)] (va_A [(mo, .inr (13, MF 30 (rf (rs v Q o) i br))), (qx, .inl (cB, NN, .inl f)), (Q.qq, .inl (cI, (8 * Q.C), .inl Q.qf)), (Q.qe, .inl (cL, (3 * Q.C), .inr (.inl Q.ef))), (tv, .inr (12, MF 13 (tw V))), (V.au, .inl (cC, V.U, .inl V.un))] sz.size) t9 ∧ szk sz t9.heap (cQ Q V u.1 u.2.1) (sQ Q V u.1 u.2.1)) (va_A [(mo, .inr (13, MF 30 (rf (rs v Q o) i br))), (qx, .inl (cB, NN, .inl f)), (Q.qq, .inl (cI, (8 * Q.C), .inl Q.qf)), (Q.qe, .inl (cL, (3 * Q.C), .inr (.inl Q.ef))), (tv, .inr (12, MF 13 (tw V))), (V.au, .inl (cC, V.U, .inl V.un))] sz.size)) (kcap Q (Q.R + 8 * (n - i) + 3) + qcap V (V.us + (n + 12 - i))) (22 * kcap Q (Q.R + 8 * (n - i) + 3) + 2 * qcap V (V.us + (n + 12 - i))) (va_A [(mo, .inr (13, MF 30 (rf (rs v Q o) i br))), (qx, .inl (cB, NN, .inl f)), (Q.qq, .inl (cI, (8 * Q.C), .inl Q.qf)), (Q.qe, .inl (cL, (3 * Q.C), .inr (.inl Q.ef))), (tv, .inr (12, MF 13 (tw V))), (V.au, .inl (cC, V.U, .inl V.un))] sz.size)
