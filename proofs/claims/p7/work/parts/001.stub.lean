section
theorem w_1423 : (.methodLink "QueryBenchModel" 290 ⟨"QueryBenchModel", "enter", "(I)Z"⟩ : Cond) ∈ gtbl := by sorry
theorem w_1425 : (.instanceMethod ⟨"QueryBenchModel", "enter", "(I)Z"⟩ : Cond) ∈ gtbl := by sorry
theorem w_1427 : (.methodLink "QueryBenchModel" 293 ⟨"QueryBenchModel", "selector", "(Z)I"⟩ : Cond) ∈ gtbl := by sorry
theorem w_1429 : (.instanceMethod ⟨"QueryBenchModel", "selector", "(Z)I"⟩ : Cond) ∈ gtbl := by sorry
theorem w_1447 : (.methodLink "QueryBenchModel" 297 ⟨"QueryBenchModel", "shut", "(I)Z"⟩ : Cond) ∈ gtbl := by sorry
theorem w_1449 : (.instanceMethod ⟨"QueryBenchModel", "shut", "(I)Z"⟩ : Cond) ∈ gtbl := by sorry
/-- the selectors read so far, from row R0 on: s9 is the segment's row, y the query's -/
def SLi (O : QP CT) (Q0 : QS) (V0 : TS) (R0 s9 y : Nat) (Q : QS) (V : TS) (bf : Int32) (fst fl : Bool) (l : List QT) : Prop :=
  R0 ≤ Q.R ∧ KQ 1 (SELp O) Q V R0 Q.R (Q.qf (8 * s9 + 2)) bf l ∧ ((bf = -1 ∧ fst = true ∧ l = []) ∨ (∃ a : Nat, bf = nI a ∧ a < Q.R ∧ R0 ≤ a ∧ fst = false)) ∧ (∀ r k : Nat, r < R0 → k < 8 → ¬ (r = s9 ∧ k = 2) → ¬ (r = y ∧ k = 3) → Q.qf (8 * r + k) = Q0.qf (8 * r + k)) ∧ Q.qf (8 * y + 3) = (if fl = true then Q0.qf (8 * y + 3) else 0) ∧ EUk Q0 V0 Q V 0 R0
theorem SLi.rf {O : QP CT} {Q0 : QS} {V0 : TS} {s9 y : Nat} (h : Q0.qf (8 * s9 + 2) = -1) : SLi O Q0 V0 Q0.R s9 y Q0 V0 (-1) true true [] := by sorry
theorem SLi.one {O : QP CT} (hO : Frm 8 O) {Q0 Q Q1 Q2 : QS} {V0 V V1 : TS} {R0 s9 y : Nat} {fst fl : Bool} {l : List QT} {m : QT} (h : SLi O Q0 V0 R0 s9 y Q V (-1) fst fl l) (hl0 : l = []) (hs : s9 < R0) (hy : y < R0) (hE : alr Q V Q1 V1 0 Q.R) (hS : SELp O Q1 V1 Q.R Q1.R Q.R m) (hl : Q1.qf (8 * Q.R + 1) = -1) (hu : Q2.qf = upd Q1.qf (8 * s9 + 2) (nI Q.R)) (he : Q2.ef = Q1.ef) (hR : Q2.R = Q1.R) : SLi O Q0 V0 R0 s9 y Q2 V1 (nI Q.R) false fl (l ++ [m]) := by sorry
theorem SLi.add {O : QP CT} (hO : Frm 8 O) {Q0 Q Q1 Q2 : QS} {V0 V V1 : TS} {R0 s9 y a : Nat} {fst fl : Bool} {l : List QT} {m : QT} (h : SLi O Q0 V0 R0 s9 y Q V (nI a) fst fl l) (ha1 : a < Q.R) (ha2 : R0 ≤ a) (hRb : Q.R < 2 ^ 28) (hs : s9 < R0) (hy : y < R0) (hE : alr Q V Q1 V1 0 Q.R) (hS : SELp O Q1 V1 Q.R Q1.R Q.R m) (hl : Q1.qf (8 * Q.R + 1) = -1) (hu : Q2.qf = upd Q1.qf (8 * a + 1) (nI Q.R)) (he : Q2.ef = Q1.ef) (hR : Q2.R = Q1.R) : SLi O Q0 V0 R0 s9 y Q2 V1 (nI Q.R) false fl (l ++ [m]) := by sorry
theorem SLi.off {O : QP CT} (hO : Frm 8 O) {Q0 Q Q2 : QS} {V0 V : TS} {R0 s9 y : Nat} {bf : Int32} {fst fl : Bool} {l : List QT} (h : SLi O Q0 V0 R0 s9 y Q V bf fst fl l) (hs : s9 < R0) (hy : y < R0) (hu : Q2.qf = upd Q.qf (8 * y + 3) 0) (he : Q2.ef = Q.ef) (hR : Q2.R = Q.R) : SLi O Q0 V0 R0 s9 y Q2 V bf fst false l := by sorry
theorem SLi.all {O : QP CT} {Q0 Q : QS} {V0 V : TS} {R0 s9 y : Nat} {bf : Int32} {fst fl : Bool} {l : List QT} (h : SLi O Q0 V0 R0 s9 y Q V bf fst fl l) : CHn 1 (SELp O) Q V Q.R (-1) l R0 (Q.qf (8 * s9 + 2)) := by sorry
/-- ones of a kind read so far, chained at field lk, the first at field 2 of row y -/
def CHi {M : Type} (lk : Nat) (P : QP M) (Q0 : QS) (V0 : TS) (y : Nat) (Q : QS) (V : TS) (bf : Int32) (l : List M) : Prop :=
  y < Q.R ∧ KQ lk P Q V (y + 1) Q.R (Q.qf (8 * y + 2)) bf l ∧ ((bf = -1 ∧ l = []) ∨ ∃ a : Nat, bf = nI a ∧ a < Q.R ∧ y + 1 ≤ a) ∧ (∀ r k : Nat, r < y → k < 8 → Q.qf (8 * r + k) = Q0.qf (8 * r + k)) ∧ EUk Q0 V0 Q V 0 y
/-- rows below R stay, but for field 3 of row y -/
def al3 (Q : QS) (V : TS) (Q2 : QS) (V2 : TS) (R y : Nat) : Prop := (∀ r k : Nat, r < R → k < 8 → ¬ (r = y ∧ k = 3) → Q2.qf (8 * r + k) = Q.qf (8 * r + k)) ∧ EUk Q V Q2 V2 0 R
theorem alr.a3 {Q Q2 : QS} {V V2 : TS} {R y : Nat} (h : alr Q V Q2 V2 0 R) : al3 Q V Q2 V2 R y := by sorry
section CHis
variable {M : Type} {lk : Nat} {P : QP M}
theorem CHi.one (hF : Frm lk P) (hI : Inn P) (hlk : lk < 8) {Q0 Q Q1 Q2 : QS} {V0 V V1 : TS} {y c : Nat} {bf : Int32} {l : List M} {m : M} (h : CHi lk P Q0 V0 y Q V bf l) (hl0 : l = []) (hE : al3 Q V Q1 V1 Q.R y) (hS : P Q1 V1 Q.R Q1.R c m) (hl : Q1.qf (8 * c + lk) = -1) (hu : Q2.qf = upd Q1.qf (8 * y + 2) (nI c)) (he : Q2.ef = Q1.ef) (hR : Q2.R = Q1.R) : CHi lk P Q0 V0 y Q2 V1 (nI c) (l ++ [m]) := by sorry
theorem CHi.add (hF : Frm lk P) (hI : Inn P) (hlk : lk < 8) {Q0 Q Q1 Q2 : QS} {V0 V V1 : TS} {y a c : Nat} {l : List M} {m : M} (h : CHi lk P Q0 V0 y Q V (nI a) l) (ha1 : a < Q.R) (ha2 : y + 1 ≤ a) (hRb : Q.R < 2 ^ 28) (hE : al3 Q V Q1 V1 Q.R y) (hS : P Q1 V1 Q.R Q1.R c m) (hl : Q1.qf (8 * c + lk) = -1) (hu : Q2.qf = upd Q1.qf (8 * a + lk) (nI c)) (he : Q2.ef = Q1.ef) (hR : Q2.R = Q1.R) : CHi lk P Q0 V0 y Q2 V1 (nI c) (l ++ [m]) := by sorry
theorem CHi.all (hI : Inn P) {Q0 Q : QS} {V0 V : TS} {y : Nat} {bf : Int32} {l : List M} (h : CHi lk P Q0 V0 y Q V bf l) : CHn lk P Q V Q.R (-1) l (y + 1) (Q.qf (8 * y + 2)) := by sorry
/-- the rows of before, and how they stay -/
theorem CHi.ex {Q0 Q : QS} {V0 V : TS} {y : Nat} {bf : Int32} {l : List M} (h : CHi lk P Q0 V0 y Q V bf l) : alr Q0 V0 Q V 0 y := by sorry
end CHis
section
variable {f : Nat → Int32} {n : Nat} {orL : Nat → Option (Nat × CT)} {sg : Bool} {k j j2 : Nat} {fst fl p2 : Bool} {m : QT} {ac : List QT}
theorem slsL_n (h : selP f n orL sg (skipH f n j) = none) : slsL f n orL sg (k + 1) j fst fl ac = none := by sorry
theorem slsL_e (h : selP f n orL sg (skipH f n j) = some (j2, p2, m)) (h2 : hereV f n (skipH f n j2) = 93) : slsL f n orL sg (k + 1) j fst fl ac = some (skipH f n j2 + 1, fl && (fst && p2), ac ++ [m]) := by sorry
theorem slsL_b (h : selP f n orL sg (skipH f n j) = some (j2, p2, m)) (h2 : ¬ hereV f n (skipH f n j2) = 93) (h3 : sg = true ∨ ¬ hereV f n (skipH f n j2) = 44) : slsL f n orL sg (k + 1) j fst fl ac = none := by sorry
theorem slsL_s (h : selP f n orL sg (skipH f n j) = some (j2, p2, m)) (h2 : ¬ hereV f n (skipH f n j2) = 93) (h3 : ¬ (sg = true ∨ ¬ hereV f n (skipH f n j2) = 44)) : slsL f n orL sg (k + 1) j fst fl ac = slsL f n orL sg k (skipH f n j2 + 1) false (fl && (fst && p2)) (ac ++ [m]) := by sorry
end
def SLSo (f : Nat → Int32) (ok : Bool) (orL : Nat → Option (Nat × CT)) (O : QP CT) (sg : Bool) (n i o s9 y : Nat) (Q : QS) (V : TS) (res : Int32) (u : QS × TS × Nat × Int32 × Nat) : Prop := QPo n i 7 Q V u ∧ ((∃ fl m, res = 1 ∧ slsP f n ok orL sg i = some (u.2.2.1, fl, m) ∧ (CHn 1 (SELp O) u.1 u.2.1 u.1.R (-1) m Q.R (u.1.qf (8 * s9 + 2)) ∧ EUk Q V u.1 u.2.1 0 Q.R) ∧ (∀ r k, r < Q.R → k < 8 → ¬ (r = s9 ∧ k = 2) → ¬ (r = y ∧ k = 3) → u.1.qf (8 * r + k) = Q.qf (8 * r + k)) ∧ u.1.qf (8 * y + 3) = (if fl = true then Q.qf (8 * y + 3) else 0) ∧ u.1.R + 8 * i + 8 ≤ Q.R + 8 * u.2.2.1 ∧ u.2.1.us + i ≤ V.us + u.2.2.1 ∧ u.2.2.1 ≤ n ∧ u.2.2.2.2 = o) ∨ (res = 0 ∧ slsP f n ok orL sg i = none))
theorem b_on (fl : Bool) {p : Bool} (h : p = true) : fl = (fl && (true && p)) := by sorry
theorem b_off (fl : Bool) {p : Bool} (h : p = false) : false = (fl && (true && p)) := by sorry
theorem b_of2 (fl p : Bool) : false = (fl && (false && p)) := by sorry
abbrev b_Mo_selectors : ByteArray := prog_14_method_41_code
def y_Mo_selectors : MethodName := ⟨"QueryBenchModel", "selectors", "(IIZ)Z"⟩
abbrev k_Mo_selectors : Cond := .code y_Mo_selectors b_Mo_selectors 6 (some .boolean)
theorem i_Mo_selectors : k_Mo_selectors ∈ gtbl := by sorry
theorem d_Mo_selectors_0 : decode b_Mo_selectors 0 = .ok (.aload_n 0, 1) := by sorry
theorem d_Mo_selectors_1 : decode b_Mo_selectors 1 = .ok (.bipush 91, 2) := by sorry
theorem d_Mo_selectors_3 : decode b_Mo_selectors 3 = .ok (.invokevirtual 290, 3) := by sorry
theorem d_Mo_selectors_6 : decode b_Mo_selectors 6 = .ok (.ifCond .ne 5, 3) := by sorry
theorem d_Mo_selectors_9 : decode b_Mo_selectors 9 = .ok (.iconst 0, 1) := by sorry
theorem d_Mo_selectors_10 : decode b_Mo_selectors 10 = .ok (.ireturn, 1) := by sorry
theorem d_Mo_selectors_11 : decode b_Mo_selectors 11 = .ok (.iconst (-1), 1) := by sorry
theorem d_Mo_selectors_12 : decode b_Mo_selectors 12 = .ok (.istore 4, 2) := by sorry
theorem d_Mo_selectors_14 : decode b_Mo_selectors 14 = .ok (.aload_n 0, 1) := by sorry
theorem d_Mo_selectors_15 : decode b_Mo_selectors 15 = .ok (.invokevirtual 184, 3) := by sorry
theorem d_Mo_selectors_18 : decode b_Mo_selectors 18 = .ok (.aload_n 0, 1) := by sorry
theorem d_Mo_selectors_19 : decode b_Mo_selectors 19 = .ok (.iload_n 3, 1) := by sorry
theorem d_Mo_selectors_20 : decode b_Mo_selectors 20 = .ok (.invokevirtual 293, 3) := by sorry
theorem d_Mo_selectors_23 : decode b_Mo_selectors 23 = .ok (.istore 5, 2) := by sorry
theorem d_Mo_selectors_25 : decode b_Mo_selectors 25 = .ok (.iload 5, 2) := by sorry
theorem d_Mo_selectors_27 : decode b_Mo_selectors 27 = .ok (.ifCond .ge 5, 3) := by sorry
theorem d_Mo_selectors_30 : decode b_Mo_selectors 30 = .ok (.iconst 0, 1) := by sorry
theorem d_Mo_selectors_31 : decode b_Mo_selectors 31 = .ok (.ireturn, 1) := by sorry
theorem d_Mo_selectors_32 : decode b_Mo_selectors 32 = .ok (.iload 4, 2) := by sorry
theorem d_Mo_selectors_34 : decode b_Mo_selectors 34 = .ok (.ifCond .ge 14, 3) := by sorry
theorem d_Mo_selectors_37 : decode b_Mo_selectors 37 = .ok (.aload_n 0, 1) := by sorry
theorem d_Mo_selectors_38 : decode b_Mo_selectors 38 = .ok (.iload_n 2, 1) := by sorry
theorem d_Mo_selectors_39 : decode b_Mo_selectors 39 = .ok (.iconst 2, 1) := by sorry
theorem d_Mo_selectors_40 : decode b_Mo_selectors 40 = .ok (.iload 5, 2) := by sorry
theorem d_Mo_selectors_42 : decode b_Mo_selectors 42 = .ok (.invokevirtual 272, 3) := by sorry
theorem d_Mo_selectors_45 : decode b_Mo_selectors 45 = .ok (.goto 12, 3) := by sorry
theorem d_Mo_selectors_48 : decode b_Mo_selectors 48 = .ok (.aload_n 0, 1) := by sorry
theorem d_Mo_selectors_49 : decode b_Mo_selectors 49 = .ok (.iload 4, 2) := by sorry
theorem d_Mo_selectors_51 : decode b_Mo_selectors 51 = .ok (.iconst 1, 1) := by sorry
theorem d_Mo_selectors_52 : decode b_Mo_selectors 52 = .ok (.iload 5, 2) := by sorry
theorem d_Mo_selectors_54 : decode b_Mo_selectors 54 = .ok (.invokevirtual 272, 3) := by sorry
theorem d_Mo_selectors_57 : decode b_Mo_selectors 57 = .ok (.iload 4, 2) := by sorry
theorem d_Mo_selectors_59 : decode b_Mo_selectors 59 = .ok (.ifCond .ge 25, 3) := by sorry
theorem d_Mo_selectors_62 : decode b_Mo_selectors 62 = .ok (.aload_n 0, 1) := by sorry
theorem d_Mo_selectors_63 : decode b_Mo_selectors 63 = .ok (.iload 5, 2) := by sorry
theorem d_Mo_selectors_65 : decode b_Mo_selectors 65 = .ok (.iconst 0, 1) := by sorry
theorem d_Mo_selectors_66 : decode b_Mo_selectors 66 = .ok (.invokevirtual 286, 3) := by sorry
theorem d_Mo_selectors_69 : decode b_Mo_selectors 69 = .ok (.iconst 1, 1) := by sorry
theorem d_Mo_selectors_70 : decode b_Mo_selectors 70 = .ok (.if_icmp .eq 21, 3) := by sorry
theorem d_Mo_selectors_73 : decode b_Mo_selectors 73 = .ok (.aload_n 0, 1) := by sorry
theorem d_Mo_selectors_74 : decode b_Mo_selectors 74 = .ok (.iload 5, 2) := by sorry
theorem d_Mo_selectors_76 : decode b_Mo_selectors 76 = .ok (.iconst 0, 1) := by sorry
theorem d_Mo_selectors_77 : decode b_Mo_selectors 77 = .ok (.invokevirtual 286, 3) := by sorry
theorem d_Mo_selectors_80 : decode b_Mo_selectors 80 = .ok (.iconst 3, 1) := by sorry
theorem d_Mo_selectors_81 : decode b_Mo_selectors 81 = .ok (.if_icmp .eq 10, 3) := by sorry
theorem d_Mo_selectors_84 : decode b_Mo_selectors 84 = .ok (.aload_n 0, 1) := by sorry
theorem d_Mo_selectors_85 : decode b_Mo_selectors 85 = .ok (.iload_n 1, 1) := by sorry
theorem d_Mo_selectors_86 : decode b_Mo_selectors 86 = .ok (.iconst 3, 1) := by sorry
theorem d_Mo_selectors_87 : decode b_Mo_selectors 87 = .ok (.iconst 0, 1) := by sorry
theorem d_Mo_selectors_88 : decode b_Mo_selectors 88 = .ok (.invokevirtual 272, 3) := by sorry
theorem d_Mo_selectors_91 : decode b_Mo_selectors 91 = .ok (.iload 5, 2) := by sorry
theorem d_Mo_selectors_93 : decode b_Mo_selectors 93 = .ok (.istore 4, 2) := by sorry
theorem d_Mo_selectors_95 : decode b_Mo_selectors 95 = .ok (.aload_n 0, 1) := by sorry
theorem d_Mo_selectors_96 : decode b_Mo_selectors 96 = .ok (.invokevirtual 184, 3) := by sorry
theorem d_Mo_selectors_99 : decode b_Mo_selectors 99 = .ok (.aload_n 0, 1) := by sorry
theorem d_Mo_selectors_100 : decode b_Mo_selectors 100 = .ok (.invokevirtual 147, 3) := by sorry
theorem d_Mo_selectors_103 : decode b_Mo_selectors 103 = .ok (.bipush 93, 2) := by sorry
theorem d_Mo_selectors_105 : decode b_Mo_selectors 105 = .ok (.if_icmp .ne 10, 3) := by sorry
theorem d_Mo_selectors_108 : decode b_Mo_selectors 108 = .ok (.aload_n 0, 1) := by sorry
theorem d_Mo_selectors_109 : decode b_Mo_selectors 109 = .ok (.bipush 93, 2) := by sorry
theorem d_Mo_selectors_111 : decode b_Mo_selectors 111 = .ok (.invokevirtual 297, 3) := by sorry
theorem d_Mo_selectors_114 : decode b_Mo_selectors 114 = .ok (.ireturn, 1) := by sorry
theorem d_Mo_selectors_115 : decode b_Mo_selectors 115 = .ok (.iload_n 3, 1) := by sorry
theorem d_Mo_selectors_116 : decode b_Mo_selectors 116 = .ok (.ifCond .ne 12, 3) := by sorry
theorem d_Mo_selectors_119 : decode b_Mo_selectors 119 = .ok (.aload_n 0, 1) := by sorry
theorem d_Mo_selectors_120 : decode b_Mo_selectors 120 = .ok (.invokevirtual 147, 3) := by sorry
theorem d_Mo_selectors_123 : decode b_Mo_selectors 123 = .ok (.bipush 44, 2) := by sorry
theorem d_Mo_selectors_125 : decode b_Mo_selectors 125 = .ok (.if_icmp .eq 12, 3) := by sorry
theorem d_Mo_selectors_128 : decode b_Mo_selectors 128 = .ok (.aload_n 0, 1) := by sorry
theorem d_Mo_selectors_129 : decode b_Mo_selectors 129 = .ok (.aload_n 0, 1) := by sorry
theorem d_Mo_selectors_130 : decode b_Mo_selectors 130 = .ok (.getfield 135, 3) := by sorry
theorem d_Mo_selectors_133 : decode b_Mo_selectors 133 = .ok (.invokevirtual 151, 3) := by sorry
theorem d_Mo_selectors_136 : decode b_Mo_selectors 136 = .ok (.ireturn, 1) := by sorry
theorem d_Mo_selectors_137 : decode b_Mo_selectors 137 = .ok (.aload_n 0, 1) := by sorry
theorem d_Mo_selectors_138 : decode b_Mo_selectors 138 = .ok (.dup, 1) := by sorry
theorem d_Mo_selectors_139 : decode b_Mo_selectors 139 = .ok (.getfield 135, 3) := by sorry
theorem d_Mo_selectors_142 : decode b_Mo_selectors 142 = .ok (.iconst 1, 1) := by sorry
theorem d_Mo_selectors_143 : decode b_Mo_selectors 143 = .ok (.iadd, 1) := by sorry
theorem d_Mo_selectors_144 : decode b_Mo_selectors 144 = .ok (.putfield 135, 3) := by sorry
theorem d_Mo_selectors_147 : decode b_Mo_selectors 147 = .ok (.goto (-133), 3) := by sorry
set_option maxHeartbeats 4000000 in
set_option maxRecDepth 100000 in
/-- the reference: selectors -/
theorem c_sls0 (orL : (Nat → Int32) → Nat → Nat → Option (Nat × CT)) (O : QP CT) (F L : Nat) (hOf : Frm 8 O) (l : Launch) (dC : Nat → ClassId) (dI : Nat → Nat → Nat) (mo : Nat) (sz : Heap) (v : Nat → Value) (cB cI cL cC : ClassId) (qx NN : Nat) (f : Nat → Int32) (n : Nat) (K : Nat → Nat × Nat) (tv : Nat) (Q : QS) (V : TS) (o i : Nat) (br : Int32) (s9 y : Nat) (ok : Bool) (hok : ok = true ↔ ¬ o = 16) (ho16 : o ≤ 16) (hOR : ¬ o = 16 → ORC orL O (o + 1) F L) (hnN : n ≤ NN) (hNN : NN ≤ 4096) (hi0 : i ≤ n) (h6 : v 6 = .ref qx) (h8 : v 8 = .int (nI n)) (h22 : v 22 = .ref tv) (hQ : QOK Q) (hV : TOK V) (hcu : V.us + (n + 12 - i) ≤ 400000) (hcr : Q.R + 8 * (n - i) + 7 ≤ 40000) (hs9 : s9 < Q.R) (hy : y < Q.R) (hsy : Q.qf (8 * s9 + 2) = -1) : Met l y_Mo_selectors (k_Mo_selectors :: gtbl) ({ frames := 8 + F, cells := kcap Q (Q.R + 8 * (n - i) + 7) + qcap V (V.us + (n + 12 - i)), slots := 22 * kcap Q (Q.R + 8 * (n - i) + 7) + 2 * qcap V (V.us + (n + 12 - i)), locals := 240 + L }) (va_Pc [.ref mo, .int (nI y), .int (nI s9), .int 0] (me K dC dI [(mo, .inr (13, MF 30 (rf (rs v Q o) i br))), (qx, .inl (cB, NN, .inl f)), (Q.qq, .inl (cI, (8 * Q.C), .inl Q.qf)), (Q.qe, .inl (cL, (3 * Q.C), .inr (.inl Q.ef))), (tv, .inr (12, MF 13 (tw V))), (V.au, .inl (cC, V.U, .inl V.un))] [(cB, .byte), (cI, .int), (cL, .long), (cC, .char)] sz)) (va_Qi (fun (res : Int32) (u : QS × TS × Nat × Int32 × Nat) => SLSo f ok (orL f n) O false n i o s9 y Q V res u) (fun u t9 => mz dC dI [(mo, .inr (13, MF 30 (rf (rs v u.1 u.2.2.2.2) u.2.2.1 u.2.2.2.1))), (qx, .inl (cB, NN, .inl f)), (u.1.qq, .inl (cI, (8 * u.1.C), .inl u.1.qf)), (u.1.qe, .inl (cL, (3 * u.1.C), .inr (.inl u.1.ef))), (tv, .inr (12, MF 13 (tw u.2.1))), (u.2.1.au, .inl (cC, u.2.1.U, .inl u.2.1.un))] [(cB, .byte), (cI, .int), (cL, .long), (cC, .char)] (va_A [(mo, .inr (13, MF 30 (rf (rs v Q o) i br))), (qx, .inl (cB, NN, .inl f)), (Q.qq, .inl (cI, (8 * Q.C), .inl Q.qf)), (Q.qe, .inl (cL, (3 * Q.C), .inr (.inl Q.ef))), (tv, .inr (12, MF 13 (tw V))), (V.au, .inl (cC, V.U, .inl V.un))] sz.size) t9 ∧ szk sz t9.heap (cQ Q V u.1 u.2.1) (sQ Q V u.1 u.2.1)) (va_A [(mo, .inr (13, MF 30 (rf (rs v Q o) i br))), (qx, .inl (cB, NN, .inl f)), (Q.qq, .inl (cI, (8 * Q.C), .inl Q.qf)), (Q.qe, .inl (cL, (3 * Q.C), .inr (.inl Q.ef))), (tv, .inr (12, MF 13 (tw V))), (V.au, .inl (cC, V.U, .inl V.un))] sz.size)) (kcap Q (Q.R + 8 * (n - i) + 7) + qcap V (V.us + (n + 12 - i))) (22 * kcap Q (Q.R + 8 * (n - i) + 7) + 2 * qcap V (V.us + (n + 12 - i))) (va_A [(mo, .inr (13, MF 30 (rf (rs v Q o) i br))), (qx, .inl (cB, NN, .inl f)), (Q.qq, .inl (cI, (8 * Q.C), .inl Q.qf)), (Q.qe, .inl (cL, (3 * Q.C), .inr (.inl Q.ef))), (tv, .inr (12, MF 13 (tw V))), (V.au, .inl (cC, V.U, .inl V.un))] sz.size) := by sorry
set_option maxHeartbeats 4000000 in
set_option maxRecDepth 100000 in
/-- the reference: selectors -/
theorem c_sls1 (orL : (Nat → Int32) → Nat → Nat → Option (Nat × CT)) (O : QP CT) (F L : Nat) (hOf : Frm 8 O) (l : Launch) (dC : Nat → ClassId) (dI : Nat → Nat → Nat) (mo : Nat) (sz : Heap) (v : Nat → Value) (cB cI cL cC : ClassId) (qx NN : Nat) (f : Nat → Int32) (n : Nat) (K : Nat → Nat × Nat) (tv : Nat) (Q : QS) (V : TS) (o i : Nat) (br : Int32) (s9 y : Nat) (ok : Bool) (hok : ok = true ↔ ¬ o = 16) (ho16 : o ≤ 16) (hOR : ¬ o = 16 → ORC orL O (o + 1) F L) (hnN : n ≤ NN) (hNN : NN ≤ 4096) (hi0 : i ≤ n) (h6 : v 6 = .ref qx) (h8 : v 8 = .int (nI n)) (h22 : v 22 = .ref tv) (hQ : QOK Q) (hV : TOK V) (hcu : V.us + (n + 12 - i) ≤ 400000) (hcr : Q.R + 8 * (n - i) + 7 ≤ 40000) (hs9 : s9 < Q.R) (hy : y < Q.R) (hsy : Q.qf (8 * s9 + 2) = -1) : Met l y_Mo_selectors (k_Mo_selectors :: gtbl) ({ frames := 8 + F, cells := kcap Q (Q.R + 8 * (n - i) + 7) + qcap V (V.us + (n + 12 - i)), slots := 22 * kcap Q (Q.R + 8 * (n - i) + 7) + 2 * qcap V (V.us + (n + 12 - i)), locals := 240 + L }) (va_Pc [.ref mo, .int (nI y), .int (nI s9), .int 1] (me K dC dI [(mo, .inr (13, MF 30 (rf (rs v Q o) i br))), (qx, .inl (cB, NN, .inl f)), (Q.qq, .inl (cI, (8 * Q.C), .inl Q.qf)), (Q.qe, .inl (cL, (3 * Q.C), .inr (.inl Q.ef))), (tv, .inr (12, MF 13 (tw V))), (V.au, .inl (cC, V.U, .inl V.un))] [(cB, .byte), (cI, .int), (cL, .long), (cC, .char)] sz)) (va_Qi (fun (res : Int32) (u : QS × TS × Nat × Int32 × Nat) => SLSo f ok (orL f n) O true n i o s9 y Q V res u) (fun u t9 => mz dC dI [(mo, .inr (13, MF 30 (rf (rs v u.1 u.2.2.2.2) u.2.2.1 u.2.2.2.1))), (qx, .inl (cB, NN, .inl f)), (u.1.qq, .inl (cI, (8 * u.1.C), .inl u.1.qf)), (u.1.qe, .inl (cL, (3 * u.1.C), .inr (.inl u.1.ef))), (tv, .inr (12, MF 13 (tw u.2.1))), (u.2.1.au, .inl (cC, u.2.1.U, .inl u.2.1.un))] [(cB, .byte), (cI, .int), (cL, .long), (cC, .char)] (va_A [(mo, .inr (13, MF 30 (rf (rs v Q o) i br))), (qx, .inl (cB, NN, .inl f)), (Q.qq, .inl (cI, (8 * Q.C), .inl Q.qf)), (Q.qe, .inl (cL, (3 * Q.C), .inr (.inl Q.ef))), (tv, .inr (12, MF 13 (tw V))), (V.au, .inl (cC, V.U, .inl V.un))] sz.size) t9 ∧ szk sz t9.heap (cQ Q V u.1 u.2.1) (sQ Q V u.1 u.2.1)) (va_A [(mo, .inr (13, MF 30 (rf (rs v Q o) i br))), (qx, .inl (cB, NN, .inl f)), (Q.qq, .inl (cI, (8 * Q.C), .inl Q.qf)), (Q.qe, .inl (cL, (3 * Q.C), .inr (.inl Q.ef))), (tv, .inr (12, MF 13 (tw V))), (V.au, .inl (cC, V.U, .inl V.un))] sz.size)) (kcap Q (Q.R + 8 * (n - i) + 7) + qcap V (V.us + (n + 12 - i))) (22 * kcap Q (Q.R + 8 * (n - i) + 7) + 2 * qcap V (V.us + (n + 12 - i))) (va_A [(mo, .inr (13, MF 30 (rf (rs v Q o) i br))), (qx, .inl (cB, NN, .inl f)), (Q.qq, .inl (cI, (8 * Q.C), .inl Q.qf)), (Q.qe, .inl (cL, (3 * Q.C), .inr (.inl Q.ef))), (tv, .inr (12, MF 13 (tw V))), (V.au, .inl (cC, V.U, .inl V.un))] sz.size) := by sorry
end
section
theorem w_1419 : (.methodLink "QueryBenchModel" 279 ⟨"QueryBenchModel", "selectors", "(IIZ)Z"⟩ : Cond) ∈ gtbl := by sorry
theorem w_1421 : (.instanceMethod ⟨"QueryBenchModel", "selectors", "(IIZ)Z"⟩ : Cond) ∈ gtbl := by sorry
theorem w_1478 : (.methodLink "QueryBenchModel" 283 ⟨"QueryBenchModel", "letter", "(I)Z"⟩ : Cond) ∈ gtbl := by sorry
theorem w_1479 : (.static ⟨"QueryBenchModel", "letter", "(I)Z"⟩ : Cond) ∈ gtbl := by sorry
/-- a segment begun at row R0 for the query of row y: fl says whether it may still have one node at most, ds whether it descends -/
def SGi (Q0 : QS) (V0 : TS) (R0 y : Nat) (Q : QS) (V : TS) (fl ds : Bool) : Prop := Q.R = R0 + 1 ∧ Q.qf (8 * R0 + 1) = (if ds = true then 1 else 0) ∧ Q.qf (8 * R0 + 2) = -1 ∧ Q.qf (8 * R0 + 3) = -1 ∧ al3 Q0 V0 Q V R0 y ∧ Q.qf (8 * y + 3) = (if fl = true then Q0.qf (8 * y + 3) else 0)
theorem SGi.st {Q0 Q1 Q : QS} {V0 : TS} {y : Nat} (hy : y < Q0.R) (hR : Q.R = Q0.R + 1) (h1 : alr Q0 V0 Q1 V0 0 Q0.R) (h2 : ∀ j : Nat, 0 < j → j < 8 → Q1.qf (8 * Q0.R + j) = -1) (h : Q.qf = upd Q1.qf (8 * Q0.R + 1) 0) (he : Q.ef = Q1.ef) : SGi Q0 V0 Q0.R y Q V0 true false := by sorry
theorem SGi.dd {Q0 Q Q4 Q5 : QS} {V0 V : TS} {R0 y : Nat} {fl ds : Bool} (h : SGi Q0 V0 R0 y Q V fl ds) (hy : y < R0) (e4 : Q4.qf = upd Q.qf (8 * R0 + 1) 1) (f4 : Q4.ef = Q.ef) (e5 : Q5.qf = upd Q4.qf (8 * y + 3) 0) (f5 : Q5.ef = Q4.ef) (hR : Q5.R = Q.R) : SGi Q0 V0 R0 y Q5 V false true := by sorry
/-- what a segment leaves -/
def SGf (O : QP CT) (Q0 : QS) (V0 : TS) (R0 y : Nat) (Q : QS) (V : TS) (fl : Bool) (m : QT) : Prop := SEGp O Q V R0 Q.R R0 m ∧ Q.qf (8 * R0 + 3) = -1 ∧ al3 Q0 V0 Q V R0 y ∧ Q.qf (8 * y + 3) = (if fl = true then Q0.qf (8 * y + 3) else 0)
theorem ds_m {ds : Bool} {x : Int32} (h : x = (if ds = true then 1 else 0)) : (x = 0 ∨ x = 1) ∧ decide (x = 1) = ds := by sorry
theorem SGi.sls {O : QP CT} {Q0 Q Q2 : QS} {V0 V V2 : TS} {R0 y : Nat} {fl fl1 ds : Bool} {l : List QT} (h : SGi Q0 V0 R0 y Q V fl ds) (hy : y < R0) (hR : Q.R ≤ Q2.R) (hC : CHn 1 (SELp O) Q2 V2 Q2.R (-1) l Q.R (Q2.qf (8 * R0 + 2))) (hE : ∀ r k : Nat, r < Q.R → k < 8 → ¬ (r = R0 ∧ k = 2) → ¬ (r = y ∧ k = 3) → Q2.qf (8 * r + k) = Q.qf (8 * r + k)) (h3 : Q2.qf (8 * y + 3) = (if fl1 = true then Q.qf (8 * y + 3) else 0)) (hU : EUk Q V Q2 V2 0 Q.R) : SGf O Q0 V0 R0 y Q2 V2 (fl && fl1) (segS ds l) := by sorry
theorem SGi.fin {O : QP CT} {Q0 Q Q2 : QS} {V0 V V2 : TS} {R0 y : Nat} {fl c ds : Bool} {m : QT} (h : SGi Q0 V0 R0 y Q V fl ds) (hy : y < R0) (hR2 : Q2.R = R0 + 2) (hS : SELp O Q2 V2 (R0 + 1) (R0 + 2) (R0 + 1) m) (hl : Q2.qf (8 * (R0 + 1) + 1) = -1) (h2 : Q2.qf (8 * R0 + 2) = nI (R0 + 1)) (hE : ∀ r k : Nat, r < R0 + 1 → k < 8 → ¬ (r = R0 ∧ k = 2) → ¬ (r = y ∧ k = 3) → Q2.qf (8 * r + k) = Q.qf (8 * r + k)) (h3 : Q2.qf (8 * y + 3) = (if c = true then Q0.qf (8 * y + 3) else 0)) (hU : EUk Q V Q2 V2 0 (R0 + 1)) : SGf O Q0 V0 R0 y Q2 V2 c (segS ds [m]) := by sorry
/-- a segment that is one selector of kind kd: its row is the next -/
theorem SGi.star {O : QP CT} {Q0 Q Q1 Qb Q3 : QS} {V0 V : TS} {R0 y : Nat} {fl ds : Bool} (h : SGi Q0 V0 R0 y Q V fl ds) (hy : y < R0) (hR2 : Q3.R = Q.R + 1) (h1 : alr Q V Q1 V 0 Q.R) (h0 : Q1.qf (8 * Q.R) = 2) (h2 : ∀ j : Nat, 0 < j → j < 8 → Q1.qf (8 * Q.R + j) = -1) (eb : Qb.qf = upd Q1.qf (8 * R0 + 2) (nI Q.R)) (fb : Qb.ef = Q1.ef) (e3 : Q3.qf = upd Qb.qf (8 * y + 3) 0) (f3 : Q3.ef = Qb.ef) : SGf O Q0 V0 R0 y Q3 V false (segS ds [eachS]) := by sorry
theorem SGi.name {O : QP CT} {Q0 Q Q1 Q2 Q3 Q4 : QS} {V0 V V2 : TS} {R0 y st ln : Nat} {fl ds : Bool} {t : List Int32} (h : SGi Q0 V0 R0 y Q V fl ds) (hy : y < R0) (hR2 : Q4.R = Q.R + 1) (h1 : alr Q V Q1 V 0 Q.R) (h0 : Q1.qf (8 * Q.R) = 1) (h2 : ∀ j : Nat, 0 < j → j < 8 → Q1.qf (8 * Q.R + j) = -1) (e2 : Q2.qf = upd Q1.qf (8 * Q.R + 2) (nI st)) (f2 : Q2.ef = Q1.ef) (e3 : Q3.qf = upd Q2.qf (8 * Q.R + 3) (nI ln)) (f3 : Q3.ef = Q2.ef) (e4 : Q4.qf = upd Q3.qf (8 * R0 + 2) (nI Q.R)) (f4 : Q4.ef = Q3.ef) (hV : V.us ≤ V2.us ∧ ∀ j : Nat, j < V.us → V2.un j = V.un j) (hu : st + ln ≤ V2.us) (ht : sl V2.un st ln = t) : SGf O Q0 V0 R0 y Q4 V2 fl (segS ds [namS t]) := by sorry
section
variable {f : Nat → Int32} {n : Nat} {ok : Bool} {orL : Nat → Option (Nat × CT)} {sg : Bool} {i : Nat}
theorem sgP_a (h : ¬ hereV f n i = 46) : sgP f n ok orL sg i = (slsP f n ok orL sg i).map (fun p => (p.1, p.2.1, segS false p.2.2)) := by sorry
theorem sgP_b (h : hereV f n i = 46) (h2 : hereV f n (i + 1) = 46 ∧ sg = false) (h3 : hereV f n (i + 2) = 91) : sgP f n ok orL sg i = (slsP f n ok orL sg (i + 2)).map (fun p => (p.1, false, segS true p.2.2)) := by sorry
theorem sgP_c (h : hereV f n i = 46) (h2 : hereV f n (i + 1) = 46 ∧ sg = false) (h3 : ¬ hereV f n (i + 2) = 91) : sgP f n ok orL sg i = sgN f n sg (i + 2) false true := by sorry
theorem sgP_d (h : hereV f n i = 46) (h2 : ¬ (hereV f n (i + 1) = 46 ∧ sg = false)) : sgP f n ok orL sg i = sgN f n sg (i + 1) true false := by sorry
theorem nmE_s {k j : Nat} (h : letH (hereV f n j) ∨ digH (hereV f n j)) : nmE f n (k + 1) j = nmE f n k (j + 1) := by sorry
theorem nmE_e {k j : Nat} (h : ¬ (letH (hereV f n j) ∨ digH (hereV f n j))) : nmE f n (k + 1) j = j := by sorry
theorem nmT_0 {j : Nat} : nmT_ f n j j = [] := by sorry
theorem nmT_s {i j : Nat} (h : i ≤ j) : nmT_ f n i (j + 1) = nmT_ f n i j ++ [hereV f n j] := by sorry
theorem letdig_b {x : Int32} (h : letH x ∨ digH x) : 0 ≤ x ∧ x ≤ 126 := by sorry
end
def SGo (f : Nat → Int32) (ok : Bool) (orL : Nat → Option (Nat × CT)) (O : QP CT) (sg : Bool) (n i o y : Nat) (Q : QS) (V : TS) (res : Int32) (u : QS × TS × Nat × Int32 × Nat) : Prop := QPo n i 8 Q V u ∧ ((∃ fl m, res = nI Q.R ∧ sgP f n ok orL sg i = some (u.2.2.1, fl, m) ∧ SGf O Q V Q.R y u.1 u.2.1 fl m ∧ u.1.R + 8 * i + 7 ≤ Q.R + 8 * u.2.2.1 ∧ u.2.1.us + i ≤ V.us + u.2.2.1 ∧ u.2.2.1 ≤ n ∧ Q.R < u.1.R ∧ u.2.2.2.2 = o) ∨ (res = -1 ∧ sgP f n ok orL sg i = none))
theorem uq_fit {BN BU : Nat} {Q Q1 : QS} {V V1 : TS} (h : GQ BN BU Q V Q1 V1) (hB : V1.us + 1 ≤ BU) : cQ Q V Q1 V1 + grC V1.U V1.us ≤ kcap Q BN + qcap V BU ∧ sQ Q V Q1 V1 + grS V1.U V1.us ≤ 22 * kcap Q BN + 2 * qcap V BU := by sorry
theorem lt_01 {x r : Int32} (h : r = if letH x then 1 else 0) : (¬ r = 0 → letH x) ∧ (r = 0 → ¬ letH x) := by sorry
theorem letH_lt {f : Nat → Int32} {n i : Nat} (h : letH (hereV f n i)) : i < n := by sorry
abbrev b_Mo_segment : ByteArray := prog_14_method_40_code
def y_Mo_segment : MethodName := ⟨"QueryBenchModel", "segment", "(IZ)I"⟩
abbrev k_Mo_segment : Cond := .code y_Mo_segment b_Mo_segment 5 (some .int)
theorem i_Mo_segment : k_Mo_segment ∈ gtbl := by sorry
theorem d_Mo_segment_0 : decode b_Mo_segment 0 = .ok (.aload_n 0, 1) := by sorry
theorem d_Mo_segment_1 : decode b_Mo_segment 1 = .ok (.bipush 21, 2) := by sorry
theorem d_Mo_segment_3 : decode b_Mo_segment 3 = .ok (.invokevirtual 269, 3) := by sorry
theorem d_Mo_segment_6 : decode b_Mo_segment 6 = .ok (.istore_n 3, 1) := by sorry
theorem d_Mo_segment_7 : decode b_Mo_segment 7 = .ok (.aload_n 0, 1) := by sorry
theorem d_Mo_segment_8 : decode b_Mo_segment 8 = .ok (.iload_n 3, 1) := by sorry
theorem d_Mo_segment_9 : decode b_Mo_segment 9 = .ok (.iconst 1, 1) := by sorry
theorem d_Mo_segment_10 : decode b_Mo_segment 10 = .ok (.iconst 0, 1) := by sorry
theorem d_Mo_segment_11 : decode b_Mo_segment 11 = .ok (.invokevirtual 272, 3) := by sorry
theorem d_Mo_segment_14 : decode b_Mo_segment 14 = .ok (.aload_n 0, 1) := by sorry
theorem d_Mo_segment_15 : decode b_Mo_segment 15 = .ok (.invokevirtual 147, 3) := by sorry
theorem d_Mo_segment_18 : decode b_Mo_segment 18 = .ok (.bipush 46, 2) := by sorry
theorem d_Mo_segment_20 : decode b_Mo_segment 20 = .ok (.if_icmp .ne 236, 3) := by sorry
theorem d_Mo_segment_23 : decode b_Mo_segment 23 = .ok (.aload_n 0, 1) := by sorry
theorem d_Mo_segment_24 : decode b_Mo_segment 24 = .ok (.dup, 1) := by sorry
theorem d_Mo_segment_25 : decode b_Mo_segment 25 = .ok (.getfield 135, 3) := by sorry
theorem d_Mo_segment_28 : decode b_Mo_segment 28 = .ok (.iconst 1, 1) := by sorry
theorem d_Mo_segment_29 : decode b_Mo_segment 29 = .ok (.iadd, 1) := by sorry
theorem d_Mo_segment_30 : decode b_Mo_segment 30 = .ok (.putfield 135, 3) := by sorry
theorem d_Mo_segment_33 : decode b_Mo_segment 33 = .ok (.aload_n 0, 1) := by sorry
theorem d_Mo_segment_34 : decode b_Mo_segment 34 = .ok (.invokevirtual 147, 3) := by sorry
theorem d_Mo_segment_37 : decode b_Mo_segment 37 = .ok (.bipush 46, 2) := by sorry
theorem d_Mo_segment_39 : decode b_Mo_segment 39 = .ok (.if_icmp .ne 56, 3) := by sorry
theorem d_Mo_segment_42 : decode b_Mo_segment 42 = .ok (.iload_n 2, 1) := by sorry
theorem d_Mo_segment_43 : decode b_Mo_segment 43 = .ok (.ifCond .ne 52, 3) := by sorry
theorem d_Mo_segment_46 : decode b_Mo_segment 46 = .ok (.aload_n 0, 1) := by sorry
theorem d_Mo_segment_47 : decode b_Mo_segment 47 = .ok (.dup, 1) := by sorry
theorem d_Mo_segment_48 : decode b_Mo_segment 48 = .ok (.getfield 135, 3) := by sorry
theorem d_Mo_segment_51 : decode b_Mo_segment 51 = .ok (.iconst 1, 1) := by sorry
theorem d_Mo_segment_52 : decode b_Mo_segment 52 = .ok (.iadd, 1) := by sorry
theorem d_Mo_segment_53 : decode b_Mo_segment 53 = .ok (.putfield 135, 3) := by sorry
theorem d_Mo_segment_56 : decode b_Mo_segment 56 = .ok (.aload_n 0, 1) := by sorry
theorem d_Mo_segment_57 : decode b_Mo_segment 57 = .ok (.iload_n 3, 1) := by sorry
theorem d_Mo_segment_58 : decode b_Mo_segment 58 = .ok (.iconst 1, 1) := by sorry
theorem d_Mo_segment_59 : decode b_Mo_segment 59 = .ok (.iconst 1, 1) := by sorry
theorem d_Mo_segment_60 : decode b_Mo_segment 60 = .ok (.invokevirtual 272, 3) := by sorry
theorem d_Mo_segment_63 : decode b_Mo_segment 63 = .ok (.aload_n 0, 1) := by sorry
theorem d_Mo_segment_64 : decode b_Mo_segment 64 = .ok (.iload_n 1, 1) := by sorry
theorem d_Mo_segment_65 : decode b_Mo_segment 65 = .ok (.iconst 3, 1) := by sorry
theorem d_Mo_segment_66 : decode b_Mo_segment 66 = .ok (.iconst 0, 1) := by sorry
theorem d_Mo_segment_67 : decode b_Mo_segment 67 = .ok (.invokevirtual 272, 3) := by sorry
theorem d_Mo_segment_70 : decode b_Mo_segment 70 = .ok (.aload_n 0, 1) := by sorry
theorem d_Mo_segment_71 : decode b_Mo_segment 71 = .ok (.invokevirtual 147, 3) := by sorry
theorem d_Mo_segment_74 : decode b_Mo_segment 74 = .ok (.bipush 91, 2) := by sorry
theorem d_Mo_segment_76 : decode b_Mo_segment 76 = .ok (.if_icmp .ne 19, 3) := by sorry
theorem d_Mo_segment_79 : decode b_Mo_segment 79 = .ok (.aload_n 0, 1) := by sorry
theorem d_Mo_segment_80 : decode b_Mo_segment 80 = .ok (.iload_n 1, 1) := by sorry
theorem d_Mo_segment_81 : decode b_Mo_segment 81 = .ok (.iload_n 3, 1) := by sorry
theorem d_Mo_segment_82 : decode b_Mo_segment 82 = .ok (.iload_n 2, 1) := by sorry
theorem d_Mo_segment_83 : decode b_Mo_segment 83 = .ok (.invokevirtual 279, 3) := by sorry
theorem d_Mo_segment_86 : decode b_Mo_segment 86 = .ok (.ifCond .eq 7, 3) := by sorry
theorem d_Mo_segment_89 : decode b_Mo_segment 89 = .ok (.iload_n 3, 1) := by sorry
theorem d_Mo_segment_90 : decode b_Mo_segment 90 = .ok (.goto 4, 3) := by sorry
theorem d_Mo_segment_93 : decode b_Mo_segment 93 = .ok (.iconst (-1), 1) := by sorry
theorem d_Mo_segment_94 : decode b_Mo_segment 94 = .ok (.ireturn, 1) := by sorry
theorem d_Mo_segment_95 : decode b_Mo_segment 95 = .ok (.aload_n 0, 1) := by sorry
theorem d_Mo_segment_96 : decode b_Mo_segment 96 = .ok (.invokevirtual 147, 3) := by sorry
theorem d_Mo_segment_99 : decode b_Mo_segment 99 = .ok (.bipush 42, 2) := by sorry
theorem d_Mo_segment_101 : decode b_Mo_segment 101 = .ok (.if_icmp .ne 37, 3) := by sorry
theorem d_Mo_segment_104 : decode b_Mo_segment 104 = .ok (.iload_n 2, 1) := by sorry
theorem d_Mo_segment_105 : decode b_Mo_segment 105 = .ok (.ifCond .ne 33, 3) := by sorry
theorem d_Mo_segment_108 : decode b_Mo_segment 108 = .ok (.aload_n 0, 1) := by sorry
theorem d_Mo_segment_109 : decode b_Mo_segment 109 = .ok (.dup, 1) := by sorry
theorem d_Mo_segment_110 : decode b_Mo_segment 110 = .ok (.getfield 135, 3) := by sorry
theorem d_Mo_segment_113 : decode b_Mo_segment 113 = .ok (.iconst 1, 1) := by sorry
theorem d_Mo_segment_114 : decode b_Mo_segment 114 = .ok (.iadd, 1) := by sorry
theorem d_Mo_segment_115 : decode b_Mo_segment 115 = .ok (.putfield 135, 3) := by sorry
theorem d_Mo_segment_118 : decode b_Mo_segment 118 = .ok (.aload_n 0, 1) := by sorry
theorem d_Mo_segment_119 : decode b_Mo_segment 119 = .ok (.iload_n 3, 1) := by sorry
theorem d_Mo_segment_120 : decode b_Mo_segment 120 = .ok (.iconst 2, 1) := by sorry
theorem d_Mo_segment_121 : decode b_Mo_segment 121 = .ok (.aload_n 0, 1) := by sorry
theorem d_Mo_segment_122 : decode b_Mo_segment 122 = .ok (.iconst 2, 1) := by sorry
theorem d_Mo_segment_123 : decode b_Mo_segment 123 = .ok (.invokevirtual 269, 3) := by sorry
theorem d_Mo_segment_126 : decode b_Mo_segment 126 = .ok (.invokevirtual 272, 3) := by sorry
theorem d_Mo_segment_129 : decode b_Mo_segment 129 = .ok (.aload_n 0, 1) := by sorry
theorem d_Mo_segment_130 : decode b_Mo_segment 130 = .ok (.iload_n 1, 1) := by sorry
theorem d_Mo_segment_131 : decode b_Mo_segment 131 = .ok (.iconst 3, 1) := by sorry
theorem d_Mo_segment_132 : decode b_Mo_segment 132 = .ok (.iconst 0, 1) := by sorry
theorem d_Mo_segment_133 : decode b_Mo_segment 133 = .ok (.invokevirtual 272, 3) := by sorry
theorem d_Mo_segment_136 : decode b_Mo_segment 136 = .ok (.iload_n 3, 1) := by sorry
theorem d_Mo_segment_137 : decode b_Mo_segment 137 = .ok (.ireturn, 1) := by sorry
theorem d_Mo_segment_138 : decode b_Mo_segment 138 = .ok (.aload_n 0, 1) := by sorry
theorem d_Mo_segment_139 : decode b_Mo_segment 139 = .ok (.invokevirtual 147, 3) := by sorry
theorem d_Mo_segment_142 : decode b_Mo_segment 142 = .ok (.invokestatic 283, 3) := by sorry
theorem d_Mo_segment_145 : decode b_Mo_segment 145 = .ok (.ifCond .ne 14, 3) := by sorry
theorem d_Mo_segment_148 : decode b_Mo_segment 148 = .ok (.aload_n 0, 1) := by sorry
theorem d_Mo_segment_149 : decode b_Mo_segment 149 = .ok (.aload_n 0, 1) := by sorry
theorem d_Mo_segment_150 : decode b_Mo_segment 150 = .ok (.getfield 135, 3) := by sorry
theorem d_Mo_segment_153 : decode b_Mo_segment 153 = .ok (.invokevirtual 151, 3) := by sorry
theorem d_Mo_segment_156 : decode b_Mo_segment 156 = .ok (.pop, 1) := by sorry
theorem d_Mo_segment_157 : decode b_Mo_segment 157 = .ok (.iconst (-1), 1) := by sorry
theorem d_Mo_segment_158 : decode b_Mo_segment 158 = .ok (.ireturn, 1) := by sorry
theorem d_Mo_segment_159 : decode b_Mo_segment 159 = .ok (.aload_n 0, 1) := by sorry
theorem d_Mo_segment_160 : decode b_Mo_segment 160 = .ok (.iconst 1, 1) := by sorry
theorem d_Mo_segment_161 : decode b_Mo_segment 161 = .ok (.invokevirtual 269, 3) := by sorry
theorem d_Mo_segment_164 : decode b_Mo_segment 164 = .ok (.istore 4, 2) := by sorry
theorem d_Mo_segment_166 : decode b_Mo_segment 166 = .ok (.aload_n 0, 1) := by sorry
theorem d_Mo_segment_167 : decode b_Mo_segment 167 = .ok (.iload 4, 2) := by sorry
theorem d_Mo_segment_169 : decode b_Mo_segment 169 = .ok (.iconst 2, 1) := by sorry
theorem d_Mo_segment_170 : decode b_Mo_segment 170 = .ok (.aload_n 0, 1) := by sorry
theorem d_Mo_segment_171 : decode b_Mo_segment 171 = .ok (.getfield 56, 3) := by sorry
theorem d_Mo_segment_174 : decode b_Mo_segment 174 = .ok (.getfield 204, 3) := by sorry
theorem d_Mo_segment_177 : decode b_Mo_segment 177 = .ok (.invokevirtual 272, 3) := by sorry
theorem d_Mo_segment_180 : decode b_Mo_segment 180 = .ok (.aload_n 0, 1) := by sorry
theorem d_Mo_segment_181 : decode b_Mo_segment 181 = .ok (.invokevirtual 147, 3) := by sorry
theorem d_Mo_segment_184 : decode b_Mo_segment 184 = .ok (.invokestatic 283, 3) := by sorry
theorem d_Mo_segment_187 : decode b_Mo_segment 187 = .ok (.ifCond .ne 13, 3) := by sorry
theorem d_Mo_segment_190 : decode b_Mo_segment 190 = .ok (.aload_n 0, 1) := by sorry
theorem d_Mo_segment_191 : decode b_Mo_segment 191 = .ok (.invokevirtual 147, 3) := by sorry
theorem d_Mo_segment_194 : decode b_Mo_segment 194 = .ok (.invokestatic 166, 3) := by sorry
theorem d_Mo_segment_197 : decode b_Mo_segment 197 = .ok (.ifCond .eq 27, 3) := by sorry
theorem d_Mo_segment_200 : decode b_Mo_segment 200 = .ok (.aload_n 0, 1) := by sorry
theorem d_Mo_segment_201 : decode b_Mo_segment 201 = .ok (.getfield 56, 3) := by sorry
theorem d_Mo_segment_204 : decode b_Mo_segment 204 = .ok (.aload_n 0, 1) := by sorry
theorem d_Mo_segment_205 : decode b_Mo_segment 205 = .ok (.invokevirtual 147, 3) := by sorry
theorem d_Mo_segment_208 : decode b_Mo_segment 208 = .ok (.invokevirtual 177, 3) := by sorry
theorem d_Mo_segment_211 : decode b_Mo_segment 211 = .ok (.aload_n 0, 1) := by sorry
theorem d_Mo_segment_212 : decode b_Mo_segment 212 = .ok (.dup, 1) := by sorry
theorem d_Mo_segment_213 : decode b_Mo_segment 213 = .ok (.getfield 135, 3) := by sorry
theorem d_Mo_segment_216 : decode b_Mo_segment 216 = .ok (.iconst 1, 1) := by sorry
theorem d_Mo_segment_217 : decode b_Mo_segment 217 = .ok (.iadd, 1) := by sorry
theorem d_Mo_segment_218 : decode b_Mo_segment 218 = .ok (.putfield 135, 3) := by sorry
theorem d_Mo_segment_221 : decode b_Mo_segment 221 = .ok (.goto (-41), 3) := by sorry
theorem d_Mo_segment_224 : decode b_Mo_segment 224 = .ok (.aload_n 0, 1) := by sorry
theorem d_Mo_segment_225 : decode b_Mo_segment 225 = .ok (.iload 4, 2) := by sorry
theorem d_Mo_segment_227 : decode b_Mo_segment 227 = .ok (.iconst 3, 1) := by sorry
theorem d_Mo_segment_228 : decode b_Mo_segment 228 = .ok (.aload_n 0, 1) := by sorry
theorem d_Mo_segment_229 : decode b_Mo_segment 229 = .ok (.getfield 56, 3) := by sorry
theorem d_Mo_segment_232 : decode b_Mo_segment 232 = .ok (.getfield 204, 3) := by sorry
theorem d_Mo_segment_235 : decode b_Mo_segment 235 = .ok (.aload_n 0, 1) := by sorry
theorem d_Mo_segment_236 : decode b_Mo_segment 236 = .ok (.iload 4, 2) := by sorry
theorem d_Mo_segment_238 : decode b_Mo_segment 238 = .ok (.iconst 2, 1) := by sorry
theorem d_Mo_segment_239 : decode b_Mo_segment 239 = .ok (.invokevirtual 286, 3) := by sorry
theorem d_Mo_segment_242 : decode b_Mo_segment 242 = .ok (.isub, 1) := by sorry
theorem d_Mo_segment_243 : decode b_Mo_segment 243 = .ok (.invokevirtual 272, 3) := by sorry
theorem d_Mo_segment_246 : decode b_Mo_segment 246 = .ok (.aload_n 0, 1) := by sorry
theorem d_Mo_segment_247 : decode b_Mo_segment 247 = .ok (.iload_n 3, 1) := by sorry
theorem d_Mo_segment_248 : decode b_Mo_segment 248 = .ok (.iconst 2, 1) := by sorry
theorem d_Mo_segment_249 : decode b_Mo_segment 249 = .ok (.iload 4, 2) := by sorry
theorem d_Mo_segment_251 : decode b_Mo_segment 251 = .ok (.invokevirtual 272, 3) := by sorry
theorem d_Mo_segment_254 : decode b_Mo_segment 254 = .ok (.iload_n 3, 1) := by sorry
theorem d_Mo_segment_255 : decode b_Mo_segment 255 = .ok (.ireturn, 1) := by sorry
theorem d_Mo_segment_256 : decode b_Mo_segment 256 = .ok (.aload_n 0, 1) := by sorry
theorem d_Mo_segment_257 : decode b_Mo_segment 257 = .ok (.iload_n 1, 1) := by sorry
theorem d_Mo_segment_258 : decode b_Mo_segment 258 = .ok (.iload_n 3, 1) := by sorry
theorem d_Mo_segment_259 : decode b_Mo_segment 259 = .ok (.iload_n 2, 1) := by sorry
theorem d_Mo_segment_260 : decode b_Mo_segment 260 = .ok (.invokevirtual 279, 3) := by sorry
theorem d_Mo_segment_263 : decode b_Mo_segment 263 = .ok (.ifCond .eq 7, 3) := by sorry
theorem d_Mo_segment_266 : decode b_Mo_segment 266 = .ok (.iload_n 3, 1) := by sorry
theorem d_Mo_segment_267 : decode b_Mo_segment 267 = .ok (.goto 4, 3) := by sorry
theorem d_Mo_segment_270 : decode b_Mo_segment 270 = .ok (.iconst (-1), 1) := by sorry
theorem d_Mo_segment_271 : decode b_Mo_segment 271 = .ok (.ireturn, 1) := by sorry
set_option maxHeartbeats 4000000 in
set_option maxRecDepth 100000 in
/-- the reference: segment -/
theorem c_seg0 (orL : (Nat → Int32) → Nat → Nat → Option (Nat × CT)) (O : QP CT) (F L : Nat) (hOf : Frm 8 O) (l : Launch) (dC : Nat → ClassId) (dI : Nat → Nat → Nat) (mo : Nat) (sz : Heap) (v : Nat → Value) (cB cI cL cC : ClassId) (qx NN : Nat) (f : Nat → Int32) (n : Nat) (K : Nat → Nat × Nat) (tv : Nat) (Q : QS) (V : TS) (o i : Nat) (br : Int32) (y : Nat) (ok : Bool) (hok : ok = true ↔ ¬ o = 16) (ho16 : o ≤ 16) (hOR : ¬ o = 16 → ORC orL O (o + 1) F L) (hnN : n ≤ NN) (hNN : NN ≤ 4096) (hi0 : i ≤ n) (h6 : v 6 = .ref qx) (h8 : v 8 = .int (nI n)) (h22 : v 22 = .ref tv) (hQ : QOK Q) (hV : TOK V) (hcu : V.us + (n + 12 - i) ≤ 400000) (hcr : Q.R + 8 * (n - i) + 8 ≤ 40000) (hy : y < Q.R) : Met l y_Mo_segment (k_Mo_segment :: gtbl) ({ frames := 9 + F, cells := kcap Q (Q.R + 8 * (n - i) + 8) + qcap V (V.us + (n + 12 - i)), slots := 22 * kcap Q (Q.R + 8 * (n - i) + 8) + 2 * qcap V (V.us + (n + 12 - i)), locals := 280 + L }) (va_Pc [.ref mo, .int (nI y), .int 0] (me K dC dI [(mo, .inr (13, MF 30 (rf (rs v Q o) i br))), (qx, .inl (cB, NN, .inl f)), (Q.qq, .inl (cI, (8 * Q.C), .inl Q.qf)), (Q.qe, .inl (cL, (3 * Q.C), .inr (.inl Q.ef))), (tv, .inr (12, MF 13 (tw V))), (V.au, .inl (cC, V.U, .inl V.un))] [(cB, .byte), (cI, .int), (cL, .long), (cC, .char)] sz)) (va_Qi (fun (res : Int32) (u : QS × TS × Nat × Int32 × Nat) => SGo f ok (orL f n) O false n i o y Q V res u) (fun u t9 => mz dC dI [(mo, .inr (13, MF 30 (rf (rs v u.1 u.2.2.2.2) u.2.2.1 u.2.2.2.1))), (qx, .inl (cB, NN, .inl f)), (u.1.qq, .inl (cI, (8 * u.1.C), .inl u.1.qf)), (u.1.qe, .inl (cL, (3 * u.1.C), .inr (.inl u.1.ef))), (tv, .inr (12, MF 13 (tw u.2.1))), (u.2.1.au, .inl (cC, u.2.1.U, .inl u.2.1.un))] [(cB, .byte), (cI, .int), (cL, .long), (cC, .char)] (va_A [(mo, .inr (13, MF 30 (rf (rs v Q o) i br))), (qx, .inl (cB, NN, .inl f)), (Q.qq, .inl (cI, (8 * Q.C), .inl Q.qf)), (Q.qe, .inl (cL, (3 * Q.C), .inr (.inl Q.ef))), (tv, .inr (12, MF 13 (tw V))), (V.au, .inl (cC, V.U, .inl V.un))] sz.size) t9 ∧ szk sz t9.heap (cQ Q V u.1 u.2.1) (sQ Q V u.1 u.2.1)) (va_A [(mo, .inr (13, MF 30 (rf (rs v Q o) i br))), (qx, .inl (cB, NN, .inl f)), (Q.qq, .inl (cI, (8 * Q.C), .inl Q.qf)), (Q.qe, .inl (cL, (3 * Q.C), .inr (.inl Q.ef))), (tv, .inr (12, MF 13 (tw V))), (V.au, .inl (cC, V.U, .inl V.un))] sz.size)) (kcap Q (Q.R + 8 * (n - i) + 8) + qcap V (V.us + (n + 12 - i))) (22 * kcap Q (Q.R + 8 * (n - i) + 8) + 2 * qcap V (V.us + (n + 12 - i))) (va_A [(mo, .inr (13, MF 30 (rf (rs v Q o) i br))), (qx, .inl (cB, NN, .inl f)), (Q.qq, .inl (cI, (8 * Q.C), .inl Q.qf)), (Q.qe, .inl (cL, (3 * Q.C), .inr (.inl Q.ef))), (tv, .inr (12, MF 13 (tw V))), (V.au, .inl (cC, V.U, .inl V.un))] sz.size) := by sorry
set_option maxHeartbeats 4000000 in
set_option maxRecDepth 100000 in
/-- the reference: segment -/
theorem c_seg1 (orL : (Nat → Int32) → Nat → Nat → Option (Nat × CT)) (O : QP CT) (F L : Nat) (hOf : Frm 8 O) (l : Launch) (dC : Nat → ClassId) (dI : Nat → Nat → Nat) (mo : Nat) (sz : Heap) (v : Nat → Value) (cB cI cL cC : ClassId) (qx NN : Nat) (f : Nat → Int32) (n : Nat) (K : Nat → Nat × Nat) (tv : Nat) (Q : QS) (V : TS) (o i : Nat) (br : Int32) (y : Nat) (ok : Bool) (hok : ok = true ↔ ¬ o = 16) (ho16 : o ≤ 16) (hOR : ¬ o = 16 → ORC orL O (o + 1) F L) (hnN : n ≤ NN) (hNN : NN ≤ 4096) (hi0 : i ≤ n) (h6 : v 6 = .ref qx) (h8 : v 8 = .int (nI n)) (h22 : v 22 = .ref tv) (hQ : QOK Q) (hV : TOK V) (hcu : V.us + (n + 12 - i) ≤ 400000) (hcr : Q.R + 8 * (n - i) + 8 ≤ 40000) (hy : y < Q.R) : Met l y_Mo_segment (k_Mo_segment :: gtbl) ({ frames := 9 + F, cells := kcap Q (Q.R + 8 * (n - i) + 8) + qcap V (V.us + (n + 12 - i)), slots := 22 * kcap Q (Q.R + 8 * (n - i) + 8) + 2 * qcap V (V.us + (n + 12 - i)), locals := 280 + L }) (va_Pc [.ref mo, .int (nI y), .int 1] (me K dC dI [(mo, .inr (13, MF 30 (rf (rs v Q o) i br))), (qx, .inl (cB, NN, .inl f)), (Q.qq, .inl (cI, (8 * Q.C), .inl Q.qf)), (Q.qe, .inl (cL, (3 * Q.C), .inr (.inl Q.ef))), (tv, .inr (12, MF 13 (tw V))), (V.au, .inl (cC, V.U, .inl V.un))] [(cB, .byte), (cI, .int), (cL, .long), (cC, .char)] sz)) (va_Qi (fun (res : Int32) (u : QS × TS × Nat × Int32 × Nat) => SGo f ok (orL f n) O true n i o y Q V res u) (fun u t9 => mz dC dI [(mo, .inr (13, MF 30 (rf (rs v u.1 u.2.2.2.2) u.2.2.1 u.2.2.2.1))), (qx, .inl (cB, NN, .inl f)), (u.1.qq, .inl (cI, (8 * u.1.C), .inl u.1.qf)), (u.1.qe, .inl (cL, (3 * u.1.C), .inr (.inl u.1.ef))), (tv, .inr (12, MF 13 (tw u.2.1))), (u.2.1.au, .inl (cC, u.2.1.U, .inl u.2.1.un))] [(cB, .byte), (cI, .int), (cL, .long), (cC, .char)] (va_A [(mo, .inr (13, MF 30 (rf (rs v Q o) i br))), (qx, .inl (cB, NN, .inl f)), (Q.qq, .inl (cI, (8 * Q.C), .inl Q.qf)), (Q.qe, .inl (cL, (3 * Q.C), .inr (.inl Q.ef))), (tv, .inr (12, MF 13 (tw V))), (V.au, .inl (cC, V.U, .inl V.un))] sz.size) t9 ∧ szk sz t9.heap (cQ Q V u.1 u.2.1) (sQ Q V u.1 u.2.1)) (va_A [(mo, .inr (13, MF 30 (rf (rs v Q o) i br))), (qx, .inl (cB, NN, .inl f)), (Q.qq, .inl (cI, (8 * Q.C), .inl Q.qf)), (Q.qe, .inl (cL, (3 * Q.C), .inr (.inl Q.ef))), (tv, .inr (12, MF 13 (tw V))), (V.au, .inl (cC, V.U, .inl V.un))] sz.size)) (kcap Q (Q.R + 8 * (n - i) + 8) + qcap V (V.us + (n + 12 - i))) (22 * kcap Q (Q.R + 8 * (n - i) + 8) + 2 * qcap V (V.us + (n + 12 - i))) (va_A [(mo, .inr (13, MF 30 (rf (rs v Q o) i br))), (qx, .inl (cB, NN, .inl f)), (Q.qq, .inl (cI, (8 * Q.C), .inl Q.qf)), (Q.qe, .inl (cL, (3 * Q.C), .inr (.inl Q.ef))), (tv, .inr (12, MF 13 (tw V))), (V.au, .inl (cC, V.U, .inl V.un))] sz.size) := by sorry
end
section
theorem w_1415 : (.methodLink "QueryBenchModel" 275 ⟨"QueryBenchModel", "segment", "(IZ)I"⟩ : Cond) ∈ gtbl := by sorry
theorem w_1417 : (.instanceMethod ⟨"QueryBenchModel", "segment", "(IZ)I"⟩ : Cond) ∈ gtbl := by sorry
section
variable {f : Nat → Int32} {n : Nat} {ok : Bool} {orL : Nat → Option (Nat × CT)} {sg : Bool} {k i : Nat} {fl : Bool} {p : Nat × Bool × QT} {ac : List QT}
theorem qrL_e (h1 : ¬ hereV f n (skipH f n i) = 46) (h2 : ¬ hereV f n (skipH f n i) = 91) : qrL f n ok orL sg (k + 1) i fl ac = some (i, fl, ac) := by sorry
theorem qrL_n (h1 : hereV f n (skipH f n i) = 46 ∨ hereV f n (skipH f n i) = 91) (h2 : sgP f n ok orL sg (skipH f n i) = none) : qrL f n ok orL sg (k + 1) i fl ac = none := by sorry
theorem qrL_s (h1 : hereV f n (skipH f n i) = 46 ∨ hereV f n (skipH f n i) = 91) (h2 : sgP f n ok orL sg (skipH f n i) = some p) : qrL f n ok orL sg (k + 1) i fl ac = qrL f n ok orL sg k p.1 (fl && p.2.1) (ac ++ [p.2.2]) := by sorry
end
theorem b_ifs {fl fl1 : Bool} {a b : Int32} (h1 : b = (if fl1 = true then a else 0)) (h2 : a = (if fl = true then 1 else 0)) : b = (if (fl && fl1) = true then 1 else 0) := by sorry
/-- a query begun at row R0 -/
theorem CHi.st {M : Type} {lk : Nat} {P : QP M} {Q0 Q : QS} {V0 : TS} {R0 : Nat} (hR : Q.R = R0 + 1) (h1 : alr Q0 V0 Q V0 0 R0) (h2 : Q.qf (8 * R0 + 2) = -1) : CHi lk P Q0 V0 R0 Q V0 (-1) [] := by sorry
theorem ds_1 {rt : Bool} {x : Int32} (h : x = if rt = true then 1 else 0) (h0 : ¬ x = 0) : (1 : Int32) = if rt = true then 1 else 0 := by sorry
def QRo (f : Nat → Int32) (ok : Bool) (orL : Nat → Option (Nat × CT)) (O : QP CT) (sg rt : Bool) (n i o : Nat) (Q : QS) (V : TS) (res : Int32) (u : QS × TS × Nat × Int32 × Nat) : Prop := QPo n i 9 Q V u ∧ ((∃ fl m, res = nI Q.R ∧ qrP f n ok orL sg rt i = some (u.2.2.1, fl, m) ∧ QRYp O u.1 u.2.1 Q.R u.1.R Q.R m ∧ alr Q V u.1 u.2.1 0 Q.R ∧ u.1.qf (8 * Q.R + 3) = (if fl = true then 1 else 0) ∧ u.1.R + 8 * i ≤ Q.R + 8 * u.2.2.1 + 1 ∧ u.2.1.us + i ≤ V.us + u.2.2.1 ∧ u.2.2.1 ≤ n ∧ Q.R < u.1.R ∧ u.2.2.2.2 = o) ∨ (res = -1 ∧ qrP f n ok orL sg rt i = none))
abbrev b_Mo_queryRest : ByteArray := prog_14_method_39_code
def y_Mo_queryRest : MethodName := ⟨"QueryBenchModel", "queryRest", "(ZZ)I"⟩
abbrev k_Mo_queryRest : Cond := .code y_Mo_queryRest b_Mo_queryRest 7 (some .int)
theorem i_Mo_queryRest : k_Mo_queryRest ∈ gtbl := by sorry
theorem d_Mo_queryRest_0 : decode b_Mo_queryRest 0 = .ok (.aload_n 0, 1) := by sorry
theorem d_Mo_queryRest_1 : decode b_Mo_queryRest 1 = .ok (.bipush 20, 2) := by sorry
theorem d_Mo_queryRest_3 : decode b_Mo_queryRest 3 = .ok (.invokevirtual 269, 3) := by sorry
theorem d_Mo_queryRest_6 : decode b_Mo_queryRest 6 = .ok (.istore_n 3, 1) := by sorry
theorem d_Mo_queryRest_7 : decode b_Mo_queryRest 7 = .ok (.aload_n 0, 1) := by sorry
theorem d_Mo_queryRest_8 : decode b_Mo_queryRest 8 = .ok (.iload_n 3, 1) := by sorry
theorem d_Mo_queryRest_9 : decode b_Mo_queryRest 9 = .ok (.iconst 1, 1) := by sorry
theorem d_Mo_queryRest_10 : decode b_Mo_queryRest 10 = .ok (.iload_n 1, 1) := by sorry
theorem d_Mo_queryRest_11 : decode b_Mo_queryRest 11 = .ok (.ifCond .eq 7, 3) := by sorry
theorem d_Mo_queryRest_14 : decode b_Mo_queryRest 14 = .ok (.iconst 1, 1) := by sorry
theorem d_Mo_queryRest_15 : decode b_Mo_queryRest 15 = .ok (.goto 4, 3) := by sorry
theorem d_Mo_queryRest_18 : decode b_Mo_queryRest 18 = .ok (.iconst 0, 1) := by sorry
theorem d_Mo_queryRest_19 : decode b_Mo_queryRest 19 = .ok (.invokevirtual 272, 3) := by sorry
theorem d_Mo_queryRest_22 : decode b_Mo_queryRest 22 = .ok (.aload_n 0, 1) := by sorry
theorem d_Mo_queryRest_23 : decode b_Mo_queryRest 23 = .ok (.iload_n 3, 1) := by sorry
theorem d_Mo_queryRest_24 : decode b_Mo_queryRest 24 = .ok (.iconst 3, 1) := by sorry
theorem d_Mo_queryRest_25 : decode b_Mo_queryRest 25 = .ok (.iconst 1, 1) := by sorry
theorem d_Mo_queryRest_26 : decode b_Mo_queryRest 26 = .ok (.invokevirtual 272, 3) := by sorry
theorem d_Mo_queryRest_29 : decode b_Mo_queryRest 29 = .ok (.iconst (-1), 1) := by sorry
theorem d_Mo_queryRest_30 : decode b_Mo_queryRest 30 = .ok (.istore 4, 2) := by sorry
theorem d_Mo_queryRest_32 : decode b_Mo_queryRest 32 = .ok (.aload_n 0, 1) := by sorry
theorem d_Mo_queryRest_33 : decode b_Mo_queryRest 33 = .ok (.getfield 135, 3) := by sorry
theorem d_Mo_queryRest_36 : decode b_Mo_queryRest 36 = .ok (.istore 5, 2) := by sorry
theorem d_Mo_queryRest_38 : decode b_Mo_queryRest 38 = .ok (.aload_n 0, 1) := by sorry
theorem d_Mo_queryRest_39 : decode b_Mo_queryRest 39 = .ok (.invokevirtual 184, 3) := by sorry
theorem d_Mo_queryRest_42 : decode b_Mo_queryRest 42 = .ok (.aload_n 0, 1) := by sorry
theorem d_Mo_queryRest_43 : decode b_Mo_queryRest 43 = .ok (.invokevirtual 147, 3) := by sorry
theorem d_Mo_queryRest_46 : decode b_Mo_queryRest 46 = .ok (.bipush 46, 2) := by sorry
theorem d_Mo_queryRest_48 : decode b_Mo_queryRest 48 = .ok (.if_icmp .eq 20, 3) := by sorry
theorem d_Mo_queryRest_51 : decode b_Mo_queryRest 51 = .ok (.aload_n 0, 1) := by sorry
theorem d_Mo_queryRest_52 : decode b_Mo_queryRest 52 = .ok (.invokevirtual 147, 3) := by sorry
theorem d_Mo_queryRest_55 : decode b_Mo_queryRest 55 = .ok (.bipush 91, 2) := by sorry
theorem d_Mo_queryRest_57 : decode b_Mo_queryRest 57 = .ok (.if_icmp .eq 11, 3) := by sorry
theorem d_Mo_queryRest_60 : decode b_Mo_queryRest 60 = .ok (.aload_n 0, 1) := by sorry
theorem d_Mo_queryRest_61 : decode b_Mo_queryRest 61 = .ok (.iload 5, 2) := by sorry
theorem d_Mo_queryRest_63 : decode b_Mo_queryRest 63 = .ok (.putfield 135, 3) := by sorry
theorem d_Mo_queryRest_66 : decode b_Mo_queryRest 66 = .ok (.iload_n 3, 1) := by sorry
theorem d_Mo_queryRest_67 : decode b_Mo_queryRest 67 = .ok (.ireturn, 1) := by sorry
theorem d_Mo_queryRest_68 : decode b_Mo_queryRest 68 = .ok (.aload_n 0, 1) := by sorry
theorem d_Mo_queryRest_69 : decode b_Mo_queryRest 69 = .ok (.iload_n 3, 1) := by sorry
theorem d_Mo_queryRest_70 : decode b_Mo_queryRest 70 = .ok (.iload_n 2, 1) := by sorry
theorem d_Mo_queryRest_71 : decode b_Mo_queryRest 71 = .ok (.invokevirtual 275, 3) := by sorry
theorem d_Mo_queryRest_74 : decode b_Mo_queryRest 74 = .ok (.istore 6, 2) := by sorry
theorem d_Mo_queryRest_76 : decode b_Mo_queryRest 76 = .ok (.iload 6, 2) := by sorry
theorem d_Mo_queryRest_78 : decode b_Mo_queryRest 78 = .ok (.ifCond .ge 5, 3) := by sorry
theorem d_Mo_queryRest_81 : decode b_Mo_queryRest 81 = .ok (.iconst (-1), 1) := by sorry
theorem d_Mo_queryRest_82 : decode b_Mo_queryRest 82 = .ok (.ireturn, 1) := by sorry
theorem d_Mo_queryRest_83 : decode b_Mo_queryRest 83 = .ok (.iload 4, 2) := by sorry
theorem d_Mo_queryRest_85 : decode b_Mo_queryRest 85 = .ok (.ifCond .ge 14, 3) := by sorry
theorem d_Mo_queryRest_88 : decode b_Mo_queryRest 88 = .ok (.aload_n 0, 1) := by sorry
theorem d_Mo_queryRest_89 : decode b_Mo_queryRest 89 = .ok (.iload_n 3, 1) := by sorry
theorem d_Mo_queryRest_90 : decode b_Mo_queryRest 90 = .ok (.iconst 2, 1) := by sorry
theorem d_Mo_queryRest_91 : decode b_Mo_queryRest 91 = .ok (.iload 6, 2) := by sorry
theorem d_Mo_queryRest_93 : decode b_Mo_queryRest 93 = .ok (.invokevirtual 272, 3) := by sorry
theorem d_Mo_queryRest_96 : decode b_Mo_queryRest 96 = .ok (.goto 12, 3) := by sorry
theorem d_Mo_queryRest_99 : decode b_Mo_queryRest 99 = .ok (.aload_n 0, 1) := by sorry
theorem d_Mo_queryRest_100 : decode b_Mo_queryRest 100 = .ok (.iload 4, 2) := by sorry
theorem d_Mo_queryRest_102 : decode b_Mo_queryRest 102 = .ok (.iconst 3, 1) := by sorry
theorem d_Mo_queryRest_103 : decode b_Mo_queryRest 103 = .ok (.iload 6, 2) := by sorry
theorem d_Mo_queryRest_105 : decode b_Mo_queryRest 105 = .ok (.invokevirtual 272, 3) := by sorry
theorem d_Mo_queryRest_108 : decode b_Mo_queryRest 108 = .ok (.iload 6, 2) := by sorry
theorem d_Mo_queryRest_110 : decode b_Mo_queryRest 110 = .ok (.istore 4, 2) := by sorry
theorem d_Mo_queryRest_112 : decode b_Mo_queryRest 112 = .ok (.goto (-80), 3) := by sorry
set_option maxHeartbeats 4000000 in
set_option maxRecDepth 100000 in
/-- the reference: queryRest -/
theorem c_qr0 (orL : (Nat → Int32) → Nat → Nat → Option (Nat × CT)) (O : QP CT) (F L : Nat) (hOf : Frm 8 O) (l : Launch) (dC : Nat → ClassId) (dI : Nat → Nat → Nat) (mo : Nat) (sz : Heap) (v : Nat → Value) (cB cI cL cC : ClassId) (qx NN : Nat) (f : Nat → Int32) (n : Nat) (K : Nat → Nat × Nat) (tv : Nat) (Q : QS) (V : TS) (o i : Nat) (br : Int32) (rt : Bool) (rti : Int32) (hrt : rti = if rt = true then 1 else 0) (ok : Bool) (hok : ok = true ↔ ¬ o = 16) (ho16 : o ≤ 16) (hOR : ¬ o = 16 → ORC orL O (o + 1) F L) (hnN : n ≤ NN) (hNN : NN ≤ 4096) (hi0 : i ≤ n) (h6 : v 6 = .ref qx) (h8 : v 8 = .int (nI n)) (h22 : v 22 = .ref tv) (hQ : QOK Q) (hV : TOK V) (hcu : V.us + (n + 12 - i) ≤ 400000) (hcr : Q.R + 8 * (n - i) + 9 ≤ 40000) : Met l y_Mo_queryRest (k_Mo_queryRest :: gtbl) ({ frames := 10 + F, cells := kcap Q (Q.R + 8 * (n - i) + 9) + qcap V (V.us + (n + 12 - i)), slots := 22 * kcap Q (Q.R + 8 * (n - i) + 9) + 2 * qcap V (V.us + (n + 12 - i)), locals := 320 + L }) (va_Pc [.ref mo, .int rti, .int 0] (me K dC dI [(mo, .inr (13, MF 30 (rf (rs v Q o) i br))), (qx, .inl (cB, NN, .inl f)), (Q.qq, .inl (cI, (8 * Q.C), .inl Q.qf)), (Q.qe, .inl (cL, (3 * Q.C), .inr (.inl Q.ef))), (tv, .inr (12, MF 13 (tw V))), (V.au, .inl (cC, V.U, .inl V.un))] [(cB, .byte), (cI, .int), (cL, .long), (cC, .char)] sz)) (va_Qi (fun (res : Int32) (u : QS × TS × Nat × Int32 × Nat) => QRo f ok (orL f n) O false rt n i o Q V res u) (fun u t9 => mz dC dI [(mo, .inr (13, MF 30 (rf (rs v u.1 u.2.2.2.2) u.2.2.1 u.2.2.2.1))), (qx, .inl (cB, NN, .inl f)), (u.1.qq, .inl (cI, (8 * u.1.C), .inl u.1.qf)), (u.1.qe, .inl (cL, (3 * u.1.C), .inr (.inl u.1.ef))), (tv, .inr (12, MF 13 (tw u.2.1))), (u.2.1.au, .inl (cC, u.2.1.U, .inl u.2.1.un))] [(cB, .byte), (cI, .int), (cL, .long), (cC, .char)] (va_A [(mo, .inr (13, MF 30 (rf (rs v Q o) i br))), (qx, .inl (cB, NN, .inl f)), (Q.qq, .inl (cI, (8 * Q.C), .inl Q.qf)), (Q.qe, .inl (cL, (3 * Q.C), .inr (.inl Q.ef))), (tv, .inr (12, MF 13 (tw V))), (V.au, .inl (cC, V.U, .inl V.un))] sz.size) t9 ∧ szk sz t9.heap (cQ Q V u.1 u.2.1) (sQ Q V u.1 u.2.1)) (va_A [(mo, .inr (13, MF 30 (rf (rs v Q o) i br))), (qx, .inl (cB, NN, .inl f)), (Q.qq, .inl (cI, (8 * Q.C), .inl Q.qf)), (Q.qe, .inl (cL, (3 * Q.C), .inr (.inl Q.ef))), (tv, .inr (12, MF 13 (tw V))), (V.au, .inl (cC, V.U, .inl V.un))] sz.size)) (kcap Q (Q.R + 8 * (n - i) + 9) + qcap V (V.us + (n + 12 - i))) (22 * kcap Q (Q.R + 8 * (n - i) + 9) + 2 * qcap V (V.us + (n + 12 - i))) (va_A [(mo, .inr (13, MF 30 (rf (rs v Q o) i br))), (qx, .inl (cB, NN, .inl f)), (Q.qq, .inl (cI, (8 * Q.C), .inl Q.qf)), (Q.qe, .inl (cL, (3 * Q.C), .inr (.inl Q.ef))), (tv, .inr (12, MF 13 (tw V))), (V.au, .inl (cC, V.U, .inl V.un))] sz.size) := by sorry
set_option maxHeartbeats 4000000 in
set_option maxRecDepth 100000 in
/-- the reference: queryRest -/
theorem c_qr1 (orL : (Nat → Int32) → Nat → Nat → Option (Nat × CT)) (O : QP CT) (F L : Nat) (hOf : Frm 8 O) (l : Launch) (dC : Nat → ClassId) (dI : Nat → Nat → Nat) (mo : Nat) (sz : Heap) (v : Nat → Value) (cB cI cL cC : ClassId) (qx NN : Nat) (f : Nat → Int32) (n : Nat) (K : Nat → Nat × Nat) (tv : Nat) (Q : QS) (V : TS) (o i : Nat) (br : Int32) (rt : Bool) (rti : Int32) (hrt : rti = if rt = true then 1 else 0) (ok : Bool) (hok : ok = true ↔ ¬ o = 16) (ho16 : o ≤ 16) (hOR : ¬ o = 16 → ORC orL O (o + 1) F L) (hnN : n ≤ NN) (hNN : NN ≤ 4096) (hi0 : i ≤ n) (h6 : v 6 = .ref qx) (h8 : v 8 = .int (nI n)) (h22 : v 22 = .ref tv) (hQ : QOK Q) (hV : TOK V) (hcu : V.us + (n + 12 - i) ≤ 400000) (hcr : Q.R + 8 * (n - i) + 9 ≤ 40000) : Met l y_Mo_queryRest (k_Mo_queryRest :: gtbl) ({ frames := 10 + F, cells := kcap Q (Q.R + 8 * (n - i) + 9) + qcap V (V.us + (n + 12 - i)), slots := 22 * kcap Q (Q.R + 8 * (n - i) + 9) + 2 * qcap V (V.us + (n + 12 - i)), locals := 320 + L }) (va_Pc [.ref mo, .int rti, .int 1] (me K dC dI [(mo, .inr (13, MF 30 (rf (rs v Q o) i br))), (qx, .inl (cB, NN, .inl f)), (Q.qq, .inl (cI, (8 * Q.C), .inl Q.qf)), (Q.qe, .inl (cL, (3 * Q.C), .inr (.inl Q.ef))), (tv, .inr (12, MF 13 (tw V))), (V.au, .inl (cC, V.U, .inl V.un))] [(cB, .byte), (cI, .int), (cL, .long), (cC, .char)] sz)) (va_Qi (fun (res : Int32) (u : QS × TS × Nat × Int32 × Nat) => QRo f ok (orL f n) O true rt n i o Q V res u) (fun u t9 => mz dC dI [(mo, .inr (13, MF 30 (rf (rs v u.1 u.2.2.2.2) u.2.2.1 u.2.2.2.1))), (qx, .inl (cB, NN, .inl f)), (u.1.qq, .inl (cI, (8 * u.1.C), .inl u.1.qf)), (u.1.qe, .inl (cL, (3 * u.1.C), .inr (.inl u.1.ef))), (tv, .inr (12, MF 13 (tw u.2.1))), (u.2.1.au, .inl (cC, u.2.1.U, .inl u.2.1.un))] [(cB, .byte), (cI, .int), (cL, .long), (cC, .char)] (va_A [(mo, .inr (13, MF 30 (rf (rs v Q o) i br))), (qx, .inl (cB, NN, .inl f)), (Q.qq, .inl (cI, (8 * Q.C), .inl Q.qf)), (Q.qe, .inl (cL, (3 * Q.C), .inr (.inl Q.ef))), (tv, .inr (12, MF 13 (tw V))), (V.au, .inl (cC, V.U, .inl V.un))] sz.size) t9 ∧ szk sz t9.heap (cQ Q V u.1 u.2.1) (sQ Q V u.1 u.2.1)) (va_A [(mo, .inr (13, MF 30 (rf (rs v Q o) i br))), (qx, .inl (cB, NN, .inl f)), (Q.qq, .inl (cI, (8 * Q.C), .inl Q.qf)), (Q.qe, .inl (cL, (3 * Q.C), .inr (.inl Q.ef))), (tv, .inr (12, MF 13 (tw V))), (V.au, .inl (cC, V.U, .inl V.un))] sz.size)) (kcap Q (Q.R + 8 * (n - i) + 9) + qcap V (V.us + (n + 12 - i))) (22 * kcap Q (Q.R + 8 * (n - i) + 9) + 2 * qcap V (V.us + (n + 12 - i))) (va_A [(mo, .inr (13, MF 30 (rf (rs v Q o) i br))), (qx, .inl (cB, NN, .inl f)), (Q.qq, .inl (cI, (8 * Q.C), .inl Q.qf)), (Q.qe, .inl (cL, (3 * Q.C), .inr (.inl Q.ef))), (tv, .inr (12, MF 13 (tw V))), (V.au, .inl (cC, V.U, .inl V.un))] sz.size) := by sorry
end
section
theorem w_1403 : (.methodLink "QueryBenchModel" 317 ⟨"QueryBenchModel", "queryRest", "(ZZ)I"⟩ : Cond) ∈ gtbl := by sorry
theorem w_1405 : (.instanceMethod ⟨"QueryBenchModel", "queryRest", "(ZZ)I"⟩ : Cond) ∈ gtbl := by sorry
theorem w_1461 : (.methodLink "QueryBenchModel" 328 ⟨"QueryBenchModel", "comparable", "()I"⟩ : Cond) ∈ gtbl := by sorry
theorem w_1463 : (.instanceMethod ⟨"QueryBenchModel", "comparable", "()I"⟩ : Cond) ∈ gtbl := by sorry
theorem Wth_up {M : Type} {P : QP M} (hP : Frm 8 P) {Q Q2 : QS} {V V2 : TS} {lo lo1 hi hi2 x a : Nat} {m : M} (h : P Q V lo1 hi a m) (h1 : lo ≤ lo1) (h2 : hi ≤ hi2) (hx : ¬ (lo1 ≤ x ∧ x < hi)) (e : alr Q V Q2 V2 lo1 hi) : Wth P Q2 V2 lo hi2 x a m := by sorry
section
variable {f : Nat → Int32} {n : Nat} {ok : Bool} {orL : Nat → Option (Nat × CT)} {cmL : Nat → Option (Nat × OT)} {qyL : Bool → Nat → Option (Nat × Bool × QT)} {i : Nat}
theorem cmP_40 (h : numC (hereV f n i)) : cmP f n ok orL cmL qyL i = (whM f n i).map (fun p => (p.2, litO (3, p.1, []))) := by sorry
theorem cmP_41 (h0 : ¬ numC (hereV f n i)) (h : hereV f n i = 39 ∨ hereV f n i = 34) : cmP f n ok orL cmL qyL i = (qtQ f n (hereV f n i) i).map (fun p => (p.2, litO (4, 0, p.1))) := by sorry
theorem cmP_45 (h0 : ¬ numC (hereV f n i)) (h1 : ¬ (hereV f n i = 39 ∨ hereV f n i = 34)) (h : begC (hereV f n i)) : cmP f n ok orL cmL qyL i = (qrP f n ok orL true (decide (hereV f n i = 36)) (i + 1)).map (fun p => (p.1, onlO p.2.2)) := by sorry
theorem cmP_t (h0 : ¬ numC (hereV f n i)) (h1 : ¬ (hereV f n i = 39 ∨ hereV f n i = 34)) (h2 : ¬ begC (hereV f n i)) (h : hereV f n i = 116) : cmP f n ok orL cmL qyL i = (if mtB f n i (mtx 2) 4 = true then some (i + 4, litO (1, 0, [])) else none) := by sorry
theorem cmP_f (h0 : ¬ numC (hereV f n i)) (h1 : ¬ (hereV f n i = 39 ∨ hereV f n i = 34)) (h2 : ¬ begC (hereV f n i)) (h3 : ¬ hereV f n i = 116) (h : hereV f n i = 102) : cmP f n ok orL cmL qyL i = (if mtB f n i (mtx 3) 5 = true then some (i + 5, litO (2, 0, [])) else none) := by sorry
theorem cmP_n (h0 : ¬ numC (hereV f n i)) (h1 : ¬ (hereV f n i = 39 ∨ hereV f n i = 34)) (h2 : ¬ begC (hereV f n i)) (h3 : ¬ hereV f n i = 116) (h4 : ¬ hereV f n i = 102) (h : hereV f n i = 110) : cmP f n ok orL cmL qyL i = (if mtB f n i (mtx 1) 4 = true then some (i + 4, litO (0, 0, [])) else none) := by sorry
theorem cmP_fn (h0 : ¬ numC (hereV f n i)) (h1 : ¬ (hereV f n i = 39 ∨ hereV f n i = 34)) (h2 : ¬ begC (hereV f n i)) (h3 : ¬ hereV f n i = 116) (h4 : ¬ hereV f n i = 102) (h5 : ¬ hereV f n i = 110) : cmP f n ok orL cmL qyL i = (match fnP f n i with | none => none | some j => fnT f n ok cmL qyL i j) := by sorry
theorem fnT_n {j : Nat} (h : ¬ (hereV f n j = 40 ∧ ok = true)) : fnT f n ok cmL qyL i j = none := by sorry
theorem fnT_a {j : Nat} (h : hereV f n j = 40 ∧ ok = true) (h2 : fnA f n cmL qyL i (skipH f n (j + 1)) = none) : fnT f n ok cmL qyL i j = none := by sorry
theorem fnT_s {j j2 : Nat} {m : OT} (h : hereV f n j = 40 ∧ ok = true) (h2 : fnA f n cmL qyL i (skipH f n (j + 1)) = some (j2, m)) (h3 : hereV f n (skipH f n j2) = 41) : fnT f n ok cmL qyL i j = some (skipH f n j2 + 1, m) := by sorry
theorem fnT_e {j j2 : Nat} {m : OT} (h : hereV f n j = 40 ∧ ok = true) (h2 : fnA f n cmL qyL i (skipH f n (j + 1)) = some (j2, m)) (h3 : ¬ hereV f n (skipH f n j2) = 41) : fnT f n ok cmL qyL i j = none := by sorry
theorem fnA_l {j j2 : Nat} {m : OT} (hf : hereV f n i = 108) (h : cmL j = some (j2, m)) : fnA f n cmL qyL i j = some (j2, lenO m) := by sorry
theorem fnA_l0 {j : Nat} (hf : hereV f n i = 108) (h : cmL j = none) : fnA f n cmL qyL i j = none := by sorry
theorem fnA_c {j j2 : Nat} {b : Bool} {m : QT} (hf : hereV f n i = 99) (hb : begC (hereV f n j)) (h : qyL (decide (hereV f n j = 36)) (j + 1) = some (j2, b, m)) : fnA f n cmL qyL i j = some (j2, cntO m) := by sorry
theorem fnA_v {j j2 : Nat} {b : Bool} {m : QT} (hf : hereV f n i = 118) (hb : begC (hereV f n j)) (h : qyL (decide (hereV f n j = 36)) (j + 1) = some (j2, b, m)) : fnA f n cmL qyL i j = some (j2, onlO m) := by sorry
theorem fnA_q0 {j : Nat} (hf : ¬ hereV f n i = 108) (hb : begC (hereV f n j)) (h : qyL (decide (hereV f n j = 36)) (j + 1) = none) : fnA f n cmL qyL i j = none := by sorry
theorem fnA_b0 {j : Nat} (hf : ¬ hereV f n i = 108) (hb : ¬ begC (hereV f n j)) : fnA f n cmL qyL i j = none := by sorry
end
/-- a text constant far in the pool -/
theorem va_ldcwS {p : Program} {l : Launch} {e : Env} {R : Room} {s : State} {m : MethodId} {args : Array Value} {below : List Frame} {meth : Method} {c : Code} {Q : State → Prop} {cells slots : Nat} {H : Heap} {locs : List Loc} {cc : ByteArray} {pc : Nat} {ls : Array Slot} {rest : List Value} (hexec : p.tables.exec = Jvm.exec) (hb : c.code = cc) {own tx : String} {index q : Nat} (hown : s.vm.findClass own = some m.cls) (hZ : vk_R own index tx q s) (hdg : decode cc pc = .ok (.ldc_w index, 3))
    (k : W p l e R s m args below meth c H locs cells slots Q (F0 m (pc + 3) ls (.ref q :: rest))) : W p l e R s m args below meth c H locs cells slots Q (F0 m pc ls rest) := by sorry
def CMo (cm : Nat → Option (Nat × OT)) (C : QP OT) (n i o : Nat) (Q : QS) (V : TS) (res : Int32) (u : QS × TS × Nat × Int32 × Nat) : Prop := QPo n i 1 Q V u ∧ ((∃ a m, res = nI a ∧ cm i = some (u.2.2.1, m) ∧ C u.1 u.2.1 Q.R u.1.R a m ∧ a < u.1.R ∧ alr Q V u.1 u.2.1 0 Q.R ∧ u.1.R + 8 * i + 6 ≤ Q.R + 8 * u.2.2.1 ∧ u.2.1.us + i ≤ V.us + u.2.2.1 ∧ u.2.2.1 ≤ n ∧ Q.R < u.1.R ∧ u.2.2.2.2 = o) ∨ (res = -1 ∧ cm i = none))
def QYo (qy : Nat → Option (Nat × Bool × QT)) (Y : QP QT) (n i o : Nat) (Q : QS) (V : TS) (res : Int32) (u : QS × TS × Nat × Int32 × Nat) : Prop := QPo n i 9 Q V u ∧ ((∃ fl m, res = nI Q.R ∧ qy i = some (u.2.2.1, fl, m) ∧ Y u.1 u.2.1 Q.R u.1.R Q.R m ∧ alr Q V u.1 u.2.1 0 Q.R ∧ u.1.R + 8 * i ≤ Q.R + 8 * u.2.2.1 + 1 ∧ u.2.1.us + i ≤ V.us + u.2.2.1 ∧ u.2.2.1 ≤ n ∧ Q.R < u.1.R ∧ u.2.2.2.2 = o) ∨ (res = -1 ∧ qy i = none))
abbrev b_Mo_comparable : ByteArray := prog_14_method_50_code
def y_Mo_comparable : MethodName := ⟨"QueryBenchModel", "comparable", "()I"⟩
abbrev k_Mo_comparable : Cond := .code y_Mo_comparable b_Mo_comparable 5 (some .int)
theorem i_Mo_comparable : k_Mo_comparable ∈ gtbl := by sorry
theorem d_Mo_comparable_0 : decode b_Mo_comparable 0 = .ok (.aload_n 0, 1) := by sorry
theorem d_Mo_comparable_1 : decode b_Mo_comparable 1 = .ok (.invokevirtual 147, 3) := by sorry
theorem d_Mo_comparable_4 : decode b_Mo_comparable 4 = .ok (.istore_n 1, 1) := by sorry
theorem d_Mo_comparable_5 : decode b_Mo_comparable 5 = .ok (.iload_n 1, 1) := by sorry
theorem d_Mo_comparable_6 : decode b_Mo_comparable 6 = .ok (.bipush 45, 2) := by sorry
theorem d_Mo_comparable_8 : decode b_Mo_comparable 8 = .ok (.if_icmp .eq 10, 3) := by sorry
theorem d_Mo_comparable_11 : decode b_Mo_comparable 11 = .ok (.iload_n 1, 1) := by sorry
theorem d_Mo_comparable_12 : decode b_Mo_comparable 12 = .ok (.invokestatic 166, 3) := by sorry
theorem d_Mo_comparable_15 : decode b_Mo_comparable 15 = .ok (.ifCond .eq 32, 3) := by sorry
theorem d_Mo_comparable_18 : decode b_Mo_comparable 18 = .ok (.aload_n 0, 1) := by sorry
theorem d_Mo_comparable_19 : decode b_Mo_comparable 19 = .ok (.bipush 40, 2) := by sorry
theorem d_Mo_comparable_21 : decode b_Mo_comparable 21 = .ok (.invokevirtual 269, 3) := by sorry
theorem d_Mo_comparable_24 : decode b_Mo_comparable 24 = .ok (.istore_n 2, 1) := by sorry
theorem d_Mo_comparable_25 : decode b_Mo_comparable 25 = .ok (.aload_n 0, 1) := by sorry
theorem d_Mo_comparable_26 : decode b_Mo_comparable 26 = .ok (.iload_n 2, 1) := by sorry
theorem d_Mo_comparable_27 : decode b_Mo_comparable 27 = .ok (.iconst 2, 1) := by sorry
theorem d_Mo_comparable_28 : decode b_Mo_comparable 28 = .ok (.iconst 0, 1) := by sorry
theorem d_Mo_comparable_29 : decode b_Mo_comparable 29 = .ok (.invokevirtual 272, 3) := by sorry
theorem d_Mo_comparable_32 : decode b_Mo_comparable 32 = .ok (.aload_n 0, 1) := by sorry
theorem d_Mo_comparable_33 : decode b_Mo_comparable 33 = .ok (.iload_n 2, 1) := by sorry
theorem d_Mo_comparable_34 : decode b_Mo_comparable 34 = .ok (.iconst 0, 1) := by sorry
theorem d_Mo_comparable_35 : decode b_Mo_comparable 35 = .ok (.invokevirtual 303, 3) := by sorry
theorem d_Mo_comparable_38 : decode b_Mo_comparable 38 = .ok (.ifCond .eq 7, 3) := by sorry
theorem d_Mo_comparable_41 : decode b_Mo_comparable 41 = .ok (.iload_n 2, 1) := by sorry
theorem d_Mo_comparable_42 : decode b_Mo_comparable 42 = .ok (.goto 4, 3) := by sorry
theorem d_Mo_comparable_45 : decode b_Mo_comparable 45 = .ok (.iconst (-1), 1) := by sorry
theorem d_Mo_comparable_46 : decode b_Mo_comparable 46 = .ok (.ireturn, 1) := by sorry
theorem d_Mo_comparable_47 : decode b_Mo_comparable 47 = .ok (.iload_n 1, 1) := by sorry
theorem d_Mo_comparable_48 : decode b_Mo_comparable 48 = .ok (.bipush 39, 2) := by sorry
theorem d_Mo_comparable_50 : decode b_Mo_comparable 50 = .ok (.if_icmp .eq 9, 3) := by sorry
theorem d_Mo_comparable_53 : decode b_Mo_comparable 53 = .ok (.iload_n 1, 1) := by sorry
theorem d_Mo_comparable_54 : decode b_Mo_comparable 54 = .ok (.bipush 34, 2) := by sorry
theorem d_Mo_comparable_56 : decode b_Mo_comparable 56 = .ok (.if_icmp .ne 59, 3) := by sorry
theorem d_Mo_comparable_59 : decode b_Mo_comparable 59 = .ok (.aload_n 0, 1) := by sorry
theorem d_Mo_comparable_60 : decode b_Mo_comparable 60 = .ok (.bipush 41, 2) := by sorry
theorem d_Mo_comparable_62 : decode b_Mo_comparable 62 = .ok (.invokevirtual 269, 3) := by sorry
theorem d_Mo_comparable_65 : decode b_Mo_comparable 65 = .ok (.istore_n 2, 1) := by sorry
theorem d_Mo_comparable_66 : decode b_Mo_comparable 66 = .ok (.aload_n 0, 1) := by sorry
theorem d_Mo_comparable_67 : decode b_Mo_comparable 67 = .ok (.iload_n 2, 1) := by sorry
theorem d_Mo_comparable_68 : decode b_Mo_comparable 68 = .ok (.iconst 2, 1) := by sorry
theorem d_Mo_comparable_69 : decode b_Mo_comparable 69 = .ok (.aload_n 0, 1) := by sorry
theorem d_Mo_comparable_70 : decode b_Mo_comparable 70 = .ok (.getfield 56, 3) := by sorry
theorem d_Mo_comparable_73 : decode b_Mo_comparable 73 = .ok (.getfield 204, 3) := by sorry
theorem d_Mo_comparable_76 : decode b_Mo_comparable 76 = .ok (.invokevirtual 272, 3) := by sorry
theorem d_Mo_comparable_79 : decode b_Mo_comparable 79 = .ok (.aload_n 0, 1) := by sorry
theorem d_Mo_comparable_80 : decode b_Mo_comparable 80 = .ok (.iload_n 1, 1) := by sorry
theorem d_Mo_comparable_81 : decode b_Mo_comparable 81 = .ok (.aload_n 0, 1) := by sorry
theorem d_Mo_comparable_82 : decode b_Mo_comparable 82 = .ok (.getfield 56, 3) := by sorry
theorem d_Mo_comparable_85 : decode b_Mo_comparable 85 = .ok (.invokevirtual 200, 3) := by sorry
theorem d_Mo_comparable_88 : decode b_Mo_comparable 88 = .ok (.ifCond .ne 5, 3) := by sorry
theorem d_Mo_comparable_91 : decode b_Mo_comparable 91 = .ok (.iconst (-1), 1) := by sorry
theorem d_Mo_comparable_92 : decode b_Mo_comparable 92 = .ok (.ireturn, 1) := by sorry
theorem d_Mo_comparable_93 : decode b_Mo_comparable 93 = .ok (.aload_n 0, 1) := by sorry
theorem d_Mo_comparable_94 : decode b_Mo_comparable 94 = .ok (.iload_n 2, 1) := by sorry
theorem d_Mo_comparable_95 : decode b_Mo_comparable 95 = .ok (.iconst 3, 1) := by sorry
theorem d_Mo_comparable_96 : decode b_Mo_comparable 96 = .ok (.aload_n 0, 1) := by sorry
theorem d_Mo_comparable_97 : decode b_Mo_comparable 97 = .ok (.getfield 56, 3) := by sorry
theorem d_Mo_comparable_100 : decode b_Mo_comparable 100 = .ok (.getfield 204, 3) := by sorry
theorem d_Mo_comparable_103 : decode b_Mo_comparable 103 = .ok (.aload_n 0, 1) := by sorry
theorem d_Mo_comparable_104 : decode b_Mo_comparable 104 = .ok (.iload_n 2, 1) := by sorry
theorem d_Mo_comparable_105 : decode b_Mo_comparable 105 = .ok (.iconst 2, 1) := by sorry
theorem d_Mo_comparable_106 : decode b_Mo_comparable 106 = .ok (.invokevirtual 286, 3) := by sorry
theorem d_Mo_comparable_109 : decode b_Mo_comparable 109 = .ok (.isub, 1) := by sorry
theorem d_Mo_comparable_110 : decode b_Mo_comparable 110 = .ok (.invokevirtual 272, 3) := by sorry
theorem d_Mo_comparable_113 : decode b_Mo_comparable 113 = .ok (.iload_n 2, 1) := by sorry
theorem d_Mo_comparable_114 : decode b_Mo_comparable 114 = .ok (.ireturn, 1) := by sorry
theorem d_Mo_comparable_115 : decode b_Mo_comparable 115 = .ok (.iload_n 1, 1) := by sorry
theorem d_Mo_comparable_116 : decode b_Mo_comparable 116 = .ok (.bipush 64, 2) := by sorry
theorem d_Mo_comparable_118 : decode b_Mo_comparable 118 = .ok (.if_icmp .eq 9, 3) := by sorry
theorem d_Mo_comparable_121 : decode b_Mo_comparable 121 = .ok (.iload_n 1, 1) := by sorry
theorem d_Mo_comparable_122 : decode b_Mo_comparable 122 = .ok (.bipush 36, 2) := by sorry
theorem d_Mo_comparable_124 : decode b_Mo_comparable 124 = .ok (.if_icmp .ne 52, 3) := by sorry
theorem d_Mo_comparable_127 : decode b_Mo_comparable 127 = .ok (.aload_n 0, 1) := by sorry
theorem d_Mo_comparable_128 : decode b_Mo_comparable 128 = .ok (.dup, 1) := by sorry
theorem d_Mo_comparable_129 : decode b_Mo_comparable 129 = .ok (.getfield 135, 3) := by sorry
theorem d_Mo_comparable_132 : decode b_Mo_comparable 132 = .ok (.iconst 1, 1) := by sorry
theorem d_Mo_comparable_133 : decode b_Mo_comparable 133 = .ok (.iadd, 1) := by sorry
theorem d_Mo_comparable_134 : decode b_Mo_comparable 134 = .ok (.putfield 135, 3) := by sorry
theorem d_Mo_comparable_137 : decode b_Mo_comparable 137 = .ok (.aload_n 0, 1) := by sorry
theorem d_Mo_comparable_138 : decode b_Mo_comparable 138 = .ok (.iload_n 1, 1) := by sorry
theorem d_Mo_comparable_139 : decode b_Mo_comparable 139 = .ok (.bipush 36, 2) := by sorry
theorem d_Mo_comparable_141 : decode b_Mo_comparable 141 = .ok (.if_icmp .ne 7, 3) := by sorry
theorem d_Mo_comparable_144 : decode b_Mo_comparable 144 = .ok (.iconst 1, 1) := by sorry
theorem d_Mo_comparable_145 : decode b_Mo_comparable 145 = .ok (.goto 4, 3) := by sorry
theorem d_Mo_comparable_148 : decode b_Mo_comparable 148 = .ok (.iconst 0, 1) := by sorry
theorem d_Mo_comparable_149 : decode b_Mo_comparable 149 = .ok (.iconst 1, 1) := by sorry
theorem d_Mo_comparable_150 : decode b_Mo_comparable 150 = .ok (.invokevirtual 317, 3) := by sorry
theorem d_Mo_comparable_153 : decode b_Mo_comparable 153 = .ok (.istore_n 2, 1) := by sorry
theorem d_Mo_comparable_154 : decode b_Mo_comparable 154 = .ok (.iload_n 2, 1) := by sorry
theorem d_Mo_comparable_155 : decode b_Mo_comparable 155 = .ok (.ifCond .ge 5, 3) := by sorry
theorem d_Mo_comparable_158 : decode b_Mo_comparable 158 = .ok (.iconst (-1), 1) := by sorry
theorem d_Mo_comparable_159 : decode b_Mo_comparable 159 = .ok (.ireturn, 1) := by sorry
theorem d_Mo_comparable_160 : decode b_Mo_comparable 160 = .ok (.aload_n 0, 1) := by sorry
theorem d_Mo_comparable_161 : decode b_Mo_comparable 161 = .ok (.bipush 45, 2) := by sorry
theorem d_Mo_comparable_163 : decode b_Mo_comparable 163 = .ok (.invokevirtual 269, 3) := by sorry
theorem d_Mo_comparable_166 : decode b_Mo_comparable 166 = .ok (.istore_n 3, 1) := by sorry
theorem d_Mo_comparable_167 : decode b_Mo_comparable 167 = .ok (.aload_n 0, 1) := by sorry
theorem d_Mo_comparable_168 : decode b_Mo_comparable 168 = .ok (.iload_n 3, 1) := by sorry
theorem d_Mo_comparable_169 : decode b_Mo_comparable 169 = .ok (.iconst 2, 1) := by sorry
theorem d_Mo_comparable_170 : decode b_Mo_comparable 170 = .ok (.iload_n 2, 1) := by sorry
theorem d_Mo_comparable_171 : decode b_Mo_comparable 171 = .ok (.invokevirtual 272, 3) := by sorry
theorem d_Mo_comparable_174 : decode b_Mo_comparable 174 = .ok (.iload_n 3, 1) := by sorry
theorem d_Mo_comparable_175 : decode b_Mo_comparable 175 = .ok (.ireturn, 1) := by sorry
theorem d_Mo_comparable_176 : decode b_Mo_comparable 176 = .ok (.iload_n 1, 1) := by sorry
theorem d_Mo_comparable_177 : decode b_Mo_comparable 177 = .ok (.bipush 116, 2) := by sorry
theorem d_Mo_comparable_179 : decode b_Mo_comparable 179 = .ok (.if_icmp .ne 23, 3) := by sorry
theorem d_Mo_comparable_182 : decode b_Mo_comparable 182 = .ok (.aload_n 0, 1) := by sorry
theorem d_Mo_comparable_183 : decode b_Mo_comparable 183 = .ok (.ldc 189, 2) := by sorry
theorem d_Mo_comparable_185 : decode b_Mo_comparable 185 = .ok (.invokevirtual 193, 3) := by sorry
theorem d_Mo_comparable_188 : decode b_Mo_comparable 188 = .ok (.ifCond .eq 12, 3) := by sorry
theorem d_Mo_comparable_191 : decode b_Mo_comparable 191 = .ok (.aload_n 0, 1) := by sorry
theorem d_Mo_comparable_192 : decode b_Mo_comparable 192 = .ok (.bipush 42, 2) := by sorry
theorem d_Mo_comparable_194 : decode b_Mo_comparable 194 = .ok (.invokevirtual 269, 3) := by sorry
theorem d_Mo_comparable_197 : decode b_Mo_comparable 197 = .ok (.goto 4, 3) := by sorry
theorem d_Mo_comparable_200 : decode b_Mo_comparable 200 = .ok (.iconst (-1), 1) := by sorry
theorem d_Mo_comparable_201 : decode b_Mo_comparable 201 = .ok (.ireturn, 1) := by sorry
theorem d_Mo_comparable_202 : decode b_Mo_comparable 202 = .ok (.iload_n 1, 1) := by sorry
theorem d_Mo_comparable_203 : decode b_Mo_comparable 203 = .ok (.bipush 102, 2) := by sorry
theorem d_Mo_comparable_205 : decode b_Mo_comparable 205 = .ok (.if_icmp .ne 23, 3) := by sorry
theorem d_Mo_comparable_208 : decode b_Mo_comparable 208 = .ok (.aload_n 0, 1) := by sorry
theorem d_Mo_comparable_209 : decode b_Mo_comparable 209 = .ok (.ldc 191, 2) := by sorry
theorem d_Mo_comparable_211 : decode b_Mo_comparable 211 = .ok (.invokevirtual 193, 3) := by sorry
theorem d_Mo_comparable_214 : decode b_Mo_comparable 214 = .ok (.ifCond .eq 12, 3) := by sorry
theorem d_Mo_comparable_217 : decode b_Mo_comparable 217 = .ok (.aload_n 0, 1) := by sorry
theorem d_Mo_comparable_218 : decode b_Mo_comparable 218 = .ok (.bipush 43, 2) := by sorry
theorem d_Mo_comparable_220 : decode b_Mo_comparable 220 = .ok (.invokevirtual 269, 3) := by sorry
theorem d_Mo_comparable_223 : decode b_Mo_comparable 223 = .ok (.goto 4, 3) := by sorry
theorem d_Mo_comparable_226 : decode b_Mo_comparable 226 = .ok (.iconst (-1), 1) := by sorry
theorem d_Mo_comparable_227 : decode b_Mo_comparable 227 = .ok (.ireturn, 1) := by sorry
theorem d_Mo_comparable_228 : decode b_Mo_comparable 228 = .ok (.iload_n 1, 1) := by sorry
theorem d_Mo_comparable_229 : decode b_Mo_comparable 229 = .ok (.bipush 110, 2) := by sorry
theorem d_Mo_comparable_231 : decode b_Mo_comparable 231 = .ok (.if_icmp .ne 23, 3) := by sorry
theorem d_Mo_comparable_234 : decode b_Mo_comparable 234 = .ok (.aload_n 0, 1) := by sorry
theorem d_Mo_comparable_235 : decode b_Mo_comparable 235 = .ok (.ldc 187, 2) := by sorry
theorem d_Mo_comparable_237 : decode b_Mo_comparable 237 = .ok (.invokevirtual 193, 3) := by sorry
theorem d_Mo_comparable_240 : decode b_Mo_comparable 240 = .ok (.ifCond .eq 12, 3) := by sorry
theorem d_Mo_comparable_243 : decode b_Mo_comparable 243 = .ok (.aload_n 0, 1) := by sorry
theorem d_Mo_comparable_244 : decode b_Mo_comparable 244 = .ok (.bipush 44, 2) := by sorry
theorem d_Mo_comparable_246 : decode b_Mo_comparable 246 = .ok (.invokevirtual 269, 3) := by sorry
theorem d_Mo_comparable_249 : decode b_Mo_comparable 249 = .ok (.goto 4, 3) := by sorry
theorem d_Mo_comparable_252 : decode b_Mo_comparable 252 = .ok (.iconst (-1), 1) := by sorry
theorem d_Mo_comparable_253 : decode b_Mo_comparable 253 = .ok (.ireturn, 1) := by sorry
theorem d_Mo_comparable_254 : decode b_Mo_comparable 254 = .ok (.iload_n 1, 1) := by sorry
theorem d_Mo_comparable_255 : decode b_Mo_comparable 255 = .ok (.bipush 108, 2) := by sorry
theorem d_Mo_comparable_257 : decode b_Mo_comparable 257 = .ok (.if_icmp .eq 26, 3) := by sorry
theorem d_Mo_comparable_260 : decode b_Mo_comparable 260 = .ok (.iload_n 1, 1) := by sorry
theorem d_Mo_comparable_261 : decode b_Mo_comparable 261 = .ok (.bipush 99, 2) := by sorry
theorem d_Mo_comparable_263 : decode b_Mo_comparable 263 = .ok (.if_icmp .eq 20, 3) := by sorry
theorem d_Mo_comparable_266 : decode b_Mo_comparable 266 = .ok (.iload_n 1, 1) := by sorry
theorem d_Mo_comparable_267 : decode b_Mo_comparable 267 = .ok (.bipush 118, 2) := by sorry
theorem d_Mo_comparable_269 : decode b_Mo_comparable 269 = .ok (.if_icmp .eq 14, 3) := by sorry
theorem d_Mo_comparable_272 : decode b_Mo_comparable 272 = .ok (.aload_n 0, 1) := by sorry
theorem d_Mo_comparable_273 : decode b_Mo_comparable 273 = .ok (.aload_n 0, 1) := by sorry
theorem d_Mo_comparable_274 : decode b_Mo_comparable 274 = .ok (.getfield 135, 3) := by sorry
theorem d_Mo_comparable_277 : decode b_Mo_comparable 277 = .ok (.invokevirtual 151, 3) := by sorry
theorem d_Mo_comparable_280 : decode b_Mo_comparable 280 = .ok (.pop, 1) := by sorry
theorem d_Mo_comparable_281 : decode b_Mo_comparable 281 = .ok (.iconst (-1), 1) := by sorry
theorem d_Mo_comparable_282 : decode b_Mo_comparable 282 = .ok (.ireturn, 1) := by sorry
theorem d_Mo_comparable_283 : decode b_Mo_comparable 283 = .ok (.aload_n 0, 1) := by sorry
theorem d_Mo_comparable_284 : decode b_Mo_comparable 284 = .ok (.iload_n 1, 1) := by sorry
theorem d_Mo_comparable_285 : decode b_Mo_comparable 285 = .ok (.bipush 108, 2) := by sorry
theorem d_Mo_comparable_287 : decode b_Mo_comparable 287 = .ok (.if_icmp .ne 9, 3) := by sorry
theorem d_Mo_comparable_290 : decode b_Mo_comparable 290 = .ok (.ldc_w 338, 3) := by sorry
theorem d_Mo_comparable_293 : decode b_Mo_comparable 293 = .ok (.goto 18, 3) := by sorry
theorem d_Mo_comparable_296 : decode b_Mo_comparable 296 = .ok (.iload_n 1, 1) := by sorry
theorem d_Mo_comparable_297 : decode b_Mo_comparable 297 = .ok (.bipush 99, 2) := by sorry
theorem d_Mo_comparable_299 : decode b_Mo_comparable 299 = .ok (.if_icmp .ne 9, 3) := by sorry
theorem d_Mo_comparable_302 : decode b_Mo_comparable 302 = .ok (.ldc_w 339, 3) := by sorry
theorem d_Mo_comparable_305 : decode b_Mo_comparable 305 = .ok (.goto 6, 3) := by sorry
theorem d_Mo_comparable_308 : decode b_Mo_comparable 308 = .ok (.ldc_w 341, 3) := by sorry
theorem d_Mo_comparable_311 : decode b_Mo_comparable 311 = .ok (.invokevirtual 193, 3) := by sorry
theorem d_Mo_comparable_314 : decode b_Mo_comparable 314 = .ok (.ifCond .eq 12, 3) := by sorry
theorem d_Mo_comparable_317 : decode b_Mo_comparable 317 = .ok (.aload_n 0, 1) := by sorry
theorem d_Mo_comparable_318 : decode b_Mo_comparable 318 = .ok (.bipush 40, 2) := by sorry
theorem d_Mo_comparable_320 : decode b_Mo_comparable 320 = .ok (.invokevirtual 290, 3) := by sorry
theorem d_Mo_comparable_323 : decode b_Mo_comparable 323 = .ok (.ifCond .ne 5, 3) := by sorry
theorem d_Mo_comparable_326 : decode b_Mo_comparable 326 = .ok (.iconst (-1), 1) := by sorry
theorem d_Mo_comparable_327 : decode b_Mo_comparable 327 = .ok (.ireturn, 1) := by sorry
theorem d_Mo_comparable_328 : decode b_Mo_comparable 328 = .ok (.aload_n 0, 1) := by sorry
theorem d_Mo_comparable_329 : decode b_Mo_comparable 329 = .ok (.invokevirtual 184, 3) := by sorry
theorem d_Mo_comparable_332 : decode b_Mo_comparable 332 = .ok (.aload_n 0, 1) := by sorry
theorem d_Mo_comparable_333 : decode b_Mo_comparable 333 = .ok (.iload_n 1, 1) := by sorry
theorem d_Mo_comparable_334 : decode b_Mo_comparable 334 = .ok (.bipush 108, 2) := by sorry
theorem d_Mo_comparable_336 : decode b_Mo_comparable 336 = .ok (.if_icmp .ne 8, 3) := by sorry
theorem d_Mo_comparable_339 : decode b_Mo_comparable 339 = .ok (.bipush 46, 2) := by sorry
theorem d_Mo_comparable_341 : decode b_Mo_comparable 341 = .ok (.goto 16, 3) := by sorry
theorem d_Mo_comparable_344 : decode b_Mo_comparable 344 = .ok (.iload_n 1, 1) := by sorry
theorem d_Mo_comparable_345 : decode b_Mo_comparable 345 = .ok (.bipush 99, 2) := by sorry
theorem d_Mo_comparable_347 : decode b_Mo_comparable 347 = .ok (.if_icmp .ne 8, 3) := by sorry
theorem d_Mo_comparable_350 : decode b_Mo_comparable 350 = .ok (.bipush 47, 2) := by sorry
theorem d_Mo_comparable_352 : decode b_Mo_comparable 352 = .ok (.goto 5, 3) := by sorry
theorem d_Mo_comparable_355 : decode b_Mo_comparable 355 = .ok (.bipush 48, 2) := by sorry
theorem d_Mo_comparable_357 : decode b_Mo_comparable 357 = .ok (.invokevirtual 269, 3) := by sorry
theorem d_Mo_comparable_360 : decode b_Mo_comparable 360 = .ok (.istore_n 2, 1) := by sorry
theorem d_Mo_comparable_361 : decode b_Mo_comparable 361 = .ok (.iload_n 1, 1) := by sorry
theorem d_Mo_comparable_362 : decode b_Mo_comparable 362 = .ok (.bipush 108, 2) := by sorry
theorem d_Mo_comparable_364 : decode b_Mo_comparable 364 = .ok (.if_icmp .ne 11, 3) := by sorry
theorem d_Mo_comparable_367 : decode b_Mo_comparable 367 = .ok (.aload_n 0, 1) := by sorry
theorem d_Mo_comparable_368 : decode b_Mo_comparable 368 = .ok (.invokevirtual 328, 3) := by sorry
theorem d_Mo_comparable_371 : decode b_Mo_comparable 371 = .ok (.istore_n 3, 1) := by sorry
theorem d_Mo_comparable_372 : decode b_Mo_comparable 372 = .ok (.goto 69, 3) := by sorry
theorem d_Mo_comparable_375 : decode b_Mo_comparable 375 = .ok (.aload_n 0, 1) := by sorry
theorem d_Mo_comparable_376 : decode b_Mo_comparable 376 = .ok (.invokevirtual 147, 3) := by sorry
theorem d_Mo_comparable_379 : decode b_Mo_comparable 379 = .ok (.bipush 64, 2) := by sorry
theorem d_Mo_comparable_381 : decode b_Mo_comparable 381 = .ok (.if_icmp .eq 12, 3) := by sorry
theorem d_Mo_comparable_384 : decode b_Mo_comparable 384 = .ok (.aload_n 0, 1) := by sorry
theorem d_Mo_comparable_385 : decode b_Mo_comparable 385 = .ok (.invokevirtual 147, 3) := by sorry
theorem d_Mo_comparable_388 : decode b_Mo_comparable 388 = .ok (.bipush 36, 2) := by sorry
theorem d_Mo_comparable_390 : decode b_Mo_comparable 390 = .ok (.if_icmp .ne 40, 3) := by sorry
theorem d_Mo_comparable_393 : decode b_Mo_comparable 393 = .ok (.aload_n 0, 1) := by sorry
theorem d_Mo_comparable_394 : decode b_Mo_comparable 394 = .ok (.invokevirtual 147, 3) := by sorry
theorem d_Mo_comparable_397 : decode b_Mo_comparable 397 = .ok (.bipush 36, 2) := by sorry
theorem d_Mo_comparable_399 : decode b_Mo_comparable 399 = .ok (.if_icmp .ne 7, 3) := by sorry
theorem d_Mo_comparable_402 : decode b_Mo_comparable 402 = .ok (.iconst 1, 1) := by sorry
theorem d_Mo_comparable_403 : decode b_Mo_comparable 403 = .ok (.goto 4, 3) := by sorry
theorem d_Mo_comparable_406 : decode b_Mo_comparable 406 = .ok (.iconst 0, 1) := by sorry
theorem d_Mo_comparable_407 : decode b_Mo_comparable 407 = .ok (.istore 4, 2) := by sorry
theorem d_Mo_comparable_409 : decode b_Mo_comparable 409 = .ok (.aload_n 0, 1) := by sorry
theorem d_Mo_comparable_410 : decode b_Mo_comparable 410 = .ok (.dup, 1) := by sorry
theorem d_Mo_comparable_411 : decode b_Mo_comparable 411 = .ok (.getfield 135, 3) := by sorry
theorem d_Mo_comparable_414 : decode b_Mo_comparable 414 = .ok (.iconst 1, 1) := by sorry
theorem d_Mo_comparable_415 : decode b_Mo_comparable 415 = .ok (.iadd, 1) := by sorry
theorem d_Mo_comparable_416 : decode b_Mo_comparable 416 = .ok (.putfield 135, 3) := by sorry
theorem d_Mo_comparable_419 : decode b_Mo_comparable 419 = .ok (.aload_n 0, 1) := by sorry
theorem d_Mo_comparable_420 : decode b_Mo_comparable 420 = .ok (.iload 4, 2) := by sorry
theorem d_Mo_comparable_422 : decode b_Mo_comparable 422 = .ok (.iconst 0, 1) := by sorry
theorem d_Mo_comparable_423 : decode b_Mo_comparable 423 = .ok (.invokevirtual 317, 3) := by sorry
theorem d_Mo_comparable_426 : decode b_Mo_comparable 426 = .ok (.istore_n 3, 1) := by sorry
theorem d_Mo_comparable_427 : decode b_Mo_comparable 427 = .ok (.goto 14, 3) := by sorry
theorem d_Mo_comparable_430 : decode b_Mo_comparable 430 = .ok (.aload_n 0, 1) := by sorry
theorem d_Mo_comparable_431 : decode b_Mo_comparable 431 = .ok (.aload_n 0, 1) := by sorry
theorem d_Mo_comparable_432 : decode b_Mo_comparable 432 = .ok (.getfield 135, 3) := by sorry
theorem d_Mo_comparable_435 : decode b_Mo_comparable 435 = .ok (.invokevirtual 151, 3) := by sorry
theorem d_Mo_comparable_438 : decode b_Mo_comparable 438 = .ok (.pop, 1) := by sorry
theorem d_Mo_comparable_439 : decode b_Mo_comparable 439 = .ok (.iconst (-1), 1) := by sorry
theorem d_Mo_comparable_440 : decode b_Mo_comparable 440 = .ok (.ireturn, 1) := by sorry
theorem d_Mo_comparable_441 : decode b_Mo_comparable 441 = .ok (.iload_n 3, 1) := by sorry
theorem d_Mo_comparable_442 : decode b_Mo_comparable 442 = .ok (.ifCond .ge 5, 3) := by sorry
theorem d_Mo_comparable_445 : decode b_Mo_comparable 445 = .ok (.iconst (-1), 1) := by sorry
theorem d_Mo_comparable_446 : decode b_Mo_comparable 446 = .ok (.ireturn, 1) := by sorry
theorem d_Mo_comparable_447 : decode b_Mo_comparable 447 = .ok (.aload_n 0, 1) := by sorry
theorem d_Mo_comparable_448 : decode b_Mo_comparable 448 = .ok (.iload_n 2, 1) := by sorry
theorem d_Mo_comparable_449 : decode b_Mo_comparable 449 = .ok (.iconst 2, 1) := by sorry
theorem d_Mo_comparable_450 : decode b_Mo_comparable 450 = .ok (.iload_n 3, 1) := by sorry
theorem d_Mo_comparable_451 : decode b_Mo_comparable 451 = .ok (.invokevirtual 272, 3) := by sorry
theorem d_Mo_comparable_454 : decode b_Mo_comparable 454 = .ok (.aload_n 0, 1) := by sorry
theorem d_Mo_comparable_455 : decode b_Mo_comparable 455 = .ok (.invokevirtual 184, 3) := by sorry
theorem d_Mo_comparable_458 : decode b_Mo_comparable 458 = .ok (.aload_n 0, 1) := by sorry
theorem d_Mo_comparable_459 : decode b_Mo_comparable 459 = .ok (.bipush 41, 2) := by sorry
theorem d_Mo_comparable_461 : decode b_Mo_comparable 461 = .ok (.invokevirtual 297, 3) := by sorry
theorem d_Mo_comparable_464 : decode b_Mo_comparable 464 = .ok (.ifCond .eq 7, 3) := by sorry
theorem d_Mo_comparable_467 : decode b_Mo_comparable 467 = .ok (.iload_n 2, 1) := by sorry
theorem d_Mo_comparable_468 : decode b_Mo_comparable 468 = .ok (.goto 4, 3) := by sorry
theorem d_Mo_comparable_471 : decode b_Mo_comparable 471 = .ok (.iconst (-1), 1) := by sorry
theorem d_Mo_comparable_472 : decode b_Mo_comparable 472 = .ok (.ireturn, 1) := by sorry
/-- what comparable does -/
def CMC (cmL : (Nat → Int32) → Nat → Nat → Option (Nat × OT)) (C : QP OT) (o F L : Nat) : Prop := ∀ (l : Launch) (dC : Nat → ClassId) (dI : Nat → Nat → Nat) (mo : Nat) (sz : Heap) (v : Nat → Value) (cB cI cL cC : ClassId) (qx NN : Nat) (f : Nat → Int32) (n : Nat) (K : Nat → Nat × Nat) (tv : Nat) (Q : QS) (V : TS) (i : Nat) (br : Int32), n ≤ NN → NN ≤ 4096 → i ≤ n → v 6 = .ref qx → v 8 = .int (nI n) → v 22 = .ref tv → QOK Q → TOK V → V.us + (n + 12 - i) ≤ 400000 → Q.R + 8 * (n - i) + 1 ≤ 40000 → Met l y_Mo_comparable (k_Mo_comparable :: gtbl) ({ frames := F, cells := kcap Q (Q.R + 8 * (n - i) + 1) + qcap V (V.us + (n + 12 - i)), slots := 22 * kcap Q (Q.R + 8 * (n - i) + 1) + 2 * qcap V (V.us + (n + 12 - i)), locals := L }) (va_Pc [.ref mo] (me K dC dI [(mo, .inr (13, MF 30 (rf (rs v Q o) i br))), (qx, .inl (cB, NN, .inl f)), (Q.qq, .inl (cI, (8 * Q.C), .inl Q.qf)), (Q.qe, .inl (cL, (3 * Q.C), .inr (.inl Q.ef))), (tv, .inr (12, MF 13 (tw V))), (V.au, .inl (cC, V.U, .inl V.un))] [(cB, .byte), (cI, .int), (cL, .long), (cC, .char)] sz)) (va_Qi (fun (res : Int32) (u : QS × TS × Nat × Int32 × Nat) => CMo (cmL f n) C n i o Q V res u) (fun u t9 => mz dC dI [(mo, .inr (13, MF 30 (rf (rs v u.1 u.2.2.2.2) u.2.2.1 u.2.2.2.1))), (qx, .inl (cB, NN, .inl f)), (u.1.qq, .inl (cI, (8 * u.1.C), .inl u.1.qf)), (u.1.qe, .inl (cL, (3 * u.1.C), .inr (.inl u.1.ef))), (tv, .inr (12, MF 13 (tw u.2.1))), (u.2.1.au, .inl (cC, u.2.1.U, .inl u.2.1.un))] [(cB, .byte), (cI, .int), (cL, .long), (cC, .char)] (va_A [(mo, .inr (13, MF 30 (rf (rs v Q o) i br))), (qx, .inl (cB, NN, .inl f)), (Q.qq, .inl (cI, (8 * Q.C), .inl Q.qf)), (Q.qe, .inl (cL, (3 * Q.C), .inr (.inl Q.ef))), (tv, .inr (12, MF 13 (tw V))), (V.au, .inl (cC, V.U, .inl V.un))] sz.size) t9 ∧ szk sz t9.heap (cQ Q V u.1 u.2.1) (sQ Q V u.1 u.2.1)) (va_A [(mo, .inr (13, MF 30 (rf (rs v Q o) i br))), (qx, .inl (cB, NN, .inl f)), (Q.qq, .inl (cI, (8 * Q.C), .inl Q.qf)), (Q.qe, .inl (cL, (3 * Q.C), .inr (.inl Q.ef))), (tv, .inr (12, MF 13 (tw V))), (V.au, .inl (cC, V.U, .inl V.un))] sz.size)) (kcap Q (Q.R + 8 * (n - i) + 1) + qcap V (V.us + (n + 12 - i))) (22 * kcap Q (Q.R + 8 * (n - i) + 1) + 2 * qcap V (V.us + (n + 12 - i))) (va_A [(mo, .inr (13, MF 30 (rf (rs v Q o) i br))), (qx, .inl (cB, NN, .inl f)), (Q.qq, .inl (cI, (8 * Q.C), .inl Q.qf)), (Q.qe, .inl (cL, (3 * Q.C), .inr (.inl Q.ef))), (tv, .inr (12, MF 13 (tw V))), (V.au, .inl (cC, V.U, .inl V.un))] sz.size)
/-- what queryRest does -/
def QYC (qyL : (Nat → Int32) → Nat → Bool → Nat → Option (Nat × Bool × QT)) (Y : QP QT) (o F L : Nat) : Prop := ∀ (l : Launch) (dC : Nat → ClassId) (dI : Nat → Nat → Nat) (mo : Nat) (sz : Heap) (v : Nat → Value) (cB cI cL cC : ClassId) (qx NN : Nat) (f : Nat → Int32) (n : Nat) (K : Nat → Nat × Nat) (tv : Nat) (Q : QS) (V : TS) (i : Nat) (br : Int32) (rt : Bool) (rti : Int32), (rti = if rt = true then 1 else 0) → n ≤ NN → NN ≤ 4096 → i ≤ n → v 6 = .ref qx → v 8 = .int (nI n) → v 22 = .ref tv → QOK Q → TOK V → V.us + (n + 12 - i) ≤ 400000 → Q.R + 8 * (n - i) + 9 ≤ 40000 → Met l y_Mo_queryRest (k_Mo_queryRest :: gtbl) ({ frames := F, cells := kcap Q (Q.R + 8 * (n - i) + 9) + qcap V (V.us + (n + 12 - i)), slots := 22 * kcap Q (Q.R + 8 * (n - i) + 9) + 2 * qcap V (V.us + (n + 12 - i)), locals := L }) (va_Pc [.ref mo, .int rti, .int 0] (me K dC dI [(mo, .inr (13, MF 30 (rf (rs v Q o) i br))), (qx, .inl (cB, NN, .inl f)), (Q.qq, .inl (cI, (8 * Q.C), .inl Q.qf)), (Q.qe, .inl (cL, (3 * Q.C), .inr (.inl Q.ef))), (tv, .inr (12, MF 13 (tw V))), (V.au, .inl (cC, V.U, .inl V.un))] [(cB, .byte), (cI, .int), (cL, .long), (cC, .char)] sz)) (va_Qi (fun (res : Int32) (u : QS × TS × Nat × Int32 × Nat) => QYo (qyL f n rt) Y n i o Q V res u) (fun u t9 => mz dC dI [(mo, .inr (13, MF 30 (rf (rs v u.1 u.2.2.2.2) u.2.2.1 u.2.2.2.1))), (qx, .inl (cB, NN, .inl f)), (u.1.qq, .inl (cI, (8 * u.1.C), .inl u.1.qf)), (u.1.qe, .inl (cL, (3 * u.1.C), .inr (.inl u.1.ef))), (tv, .inr (12, MF 13 (tw u.2.1))), (u.2.1.au, .inl (cC, u.2.1.U, .inl u.2.1.un))] [(cB, .byte), (cI, .int), (cL, .long), (cC, .char)] (va_A [(mo, .inr (13, MF 30 (rf (rs v Q o) i br))), (qx, .inl (cB, NN, .inl f)), (Q.qq, .inl (cI, (8 * Q.C), .inl Q.qf)), (Q.qe, .inl (cL, (3 * Q.C), .inr (.inl Q.ef))), (tv, .inr (12, MF 13 (tw V))), (V.au, .inl (cC, V.U, .inl V.un))] sz.size) t9 ∧ szk sz t9.heap (cQ Q V u.1 u.2.1) (sQ Q V u.1 u.2.1)) (va_A [(mo, .inr (13, MF 30 (rf (rs v Q o) i br))), (qx, .inl (cB, NN, .inl f)), (Q.qq, .inl (cI, (8 * Q.C), .inl Q.qf)), (Q.qe, .inl (cL, (3 * Q.C), .inr (.inl Q.ef))), (tv, .inr (12, MF 13 (tw V))), (V.au, .inl (cC, V.U, .inl V.un))] sz.size)) (kcap Q (Q.R + 8 * (n - i) + 9) + qcap V (V.us + (n + 12 - i))) (22 * kcap Q (Q.R + 8 * (n - i) + 9) + 2 * qcap V (V.us + (n + 12 - i))) (va_A [(mo, .inr (13, MF 30 (rf (rs v Q o) i br))), (qx, .inl (cB, NN, .inl f)), (Q.qq, .inl (cI, (8 * Q.C), .inl Q.qf)), (Q.qe, .inl (cL, (3 * Q.C), .inr (.inl Q.ef))), (tv, .inr (12, MF 13 (tw V))), (V.au, .inl (cC, V.U, .inl V.un))] sz.size)
set_option maxHeartbeats 4000000 in
set_option maxRecDepth 100000 in
/-- the reference: comparable -/
theorem c_cmp (orL : (Nat → Int32) → Nat → Nat → Option (Nat × CT)) (cmL : (Nat → Int32) → Nat → Nat → Option (Nat × OT)) (qyL : (Nat → Int32) → Nat → Bool → Nat → Option (Nat × Bool × QT)) (O : QP CT) (C : QP OT) (Y : QP QT) (G M : Nat) (hOf : Frm 8 O) (hCf : Frm 8 C) (hYf : Frm 8 Y) (l : Launch) (dC : Nat → ClassId) (dI : Nat → Nat → Nat) (mo : Nat) (sz : Heap) (v : Nat → Value) (cB cI cL cC : ClassId) (qx NN : Nat) (f : Nat → Int32) (n : Nat) (K : Nat → Nat × Nat) (tv : Nat) (Q : QS) (V : TS) (o i : Nat) (br : Int32) (ok : Bool) (hok : ok = true ↔ ¬ o = 16) (ho16 : o ≤ 16) (hOR : ¬ o = 16 → ORC orL O (o + 1) (15 + G) (600 + M)) (hCM : ¬ o = 16 → CMC cmL C (o + 1) (11 + G) (400 + M)) (hQY : ¬ o = 16 → QYC qyL Y (o + 1) (10 + G) (320 + M)) (hnN : n ≤ NN) (hNN : NN ≤ 4096) (hi0 : i ≤ n) (h6 : v 6 = .ref qx) (h8 : v 8 = .int (nI n)) (h22 : v 22 = .ref tv) (hQ : QOK Q) (hV : TOK V) (hcu : V.us + (n + 12 - i) ≤ 400000) (hcr : Q.R + 8 * (n - i) + 1 ≤ 40000) : Met l y_Mo_comparable (k_Mo_comparable :: gtbl) ({ frames := 11 + (15 + G), cells := kcap Q (Q.R + 8 * (n - i) + 1) + qcap V (V.us + (n + 12 - i)), slots := 22 * kcap Q (Q.R + 8 * (n - i) + 1) + 2 * qcap V (V.us + (n + 12 - i)), locals := 400 + (600 + M) }) (va_Pc [.ref mo] (me K dC dI [(mo, .inr (13, MF 30 (rf (rs v Q o) i br))), (qx, .inl (cB, NN, .inl f)), (Q.qq, .inl (cI, (8 * Q.C), .inl Q.qf)), (Q.qe, .inl (cL, (3 * Q.C), .inr (.inl Q.ef))), (tv, .inr (12, MF 13 (tw V))), (V.au, .inl (cC, V.U, .inl V.un))] [(cB, .byte), (cI, .int), (cL, .long), (cC, .char)] sz)) (va_Qi (fun (res : Int32) (u : QS × TS × Nat × Int32 × Nat) => CMo (cmP f n ok (orL f n) (cmL f n) (qyL f n)) (CMPf O C Y) n i o Q V res u) (fun u t9 => mz dC dI [(mo, .inr (13, MF 30 (rf (rs v u.1 u.2.2.2.2) u.2.2.1 u.2.2.2.1))), (qx, .inl (cB, NN, .inl f)), (u.1.qq, .inl (cI, (8 * u.1.C), .inl u.1.qf)), (u.1.qe, .inl (cL, (3 * u.1.C), .inr (.inl u.1.ef))), (tv, .inr (12, MF 13 (tw u.2.1))), (u.2.1.au, .inl (cC, u.2.1.U, .inl u.2.1.un))] [(cB, .byte), (cI, .int), (cL, .long), (cC, .char)] (va_A [(mo, .inr (13, MF 30 (rf (rs v Q o) i br))), (qx, .inl (cB, NN, .inl f)), (Q.qq, .inl (cI, (8 * Q.C), .inl Q.qf)), (Q.qe, .inl (cL, (3 * Q.C), .inr (.inl Q.ef))), (tv, .inr (12, MF 13 (tw V))), (V.au, .inl (cC, V.U, .inl V.un))] sz.size) t9 ∧ szk sz t9.heap (cQ Q V u.1 u.2.1) (sQ Q V u.1 u.2.1)) (va_A [(mo, .inr (13, MF 30 (rf (rs v Q o) i br))), (qx, .inl (cB, NN, .inl f)), (Q.qq, .inl (cI, (8 * Q.C), .inl Q.qf)), (Q.qe, .inl (cL, (3 * Q.C), .inr (.inl Q.ef))), (tv, .inr (12, MF 13 (tw V))), (V.au, .inl (cC, V.U, .inl V.un))] sz.size)) (kcap Q (Q.R + 8 * (n - i) + 1) + qcap V (V.us + (n + 12 - i))) (22 * kcap Q (Q.R + 8 * (n - i) + 1) + 2 * qcap V (V.us + (n + 12 - i))) (va_A [(mo, .inr (13, MF 30 (rf (rs v Q o) i br))), (qx, .inl (cB, NN, .inl f)), (Q.qq, .inl (cI, (8 * Q.C), .inl Q.qf)), (Q.qe, .inl (cL, (3 * Q.C), .inr (.inl Q.ef))), (tv, .inr (12, MF 13 (tw V))), (V.au, .inl (cC, V.U, .inl V.un))] sz.size) := by sorry
end
section
section
variable {f : Nat → Int32} {n : Nat} {cm : Nat → Option (Nat × OT)} {x : OT} {j : Nat}
theorem cpP_u {k op : Nat} (h : opP f n j = some (k, op)) : cpP f n cm x j = (cm (skipH f n k)).map (fun p => (p.1, cmpC op x p.2)) := by sorry
theorem cpP_u0 (h : opP f n j = none) : cpP f n cm x j = none := by sorry
theorem cpP_1 (h : hereV f n j = 61) (hb : mtB f n j (mtx 9) 2 = true) : cpP f n cm x j = (cm (skipH f n (j + 2))).map (fun p => (p.1, cmpC 0 x p.2)) := by sorry
theorem cpP_1n (h : hereV f n j = 61) (hb : ¬ mtB f n j (mtx 9) 2 = true) : cpP f n cm x j = none := by sorry
theorem cpP_2 (h0 : ¬ hereV f n j = 61) (h : hereV f n j = 33) (hb : mtB f n j (mtx 10) 2 = true) : cpP f n cm x j = (cm (skipH f n (j + 2))).map (fun p => (p.1, cmpC 1 x p.2)) := by sorry
theorem cpP_2n (h0 : ¬ hereV f n j = 61) (h : hereV f n j = 33) (hb : ¬ mtB f n j (mtx 10) 2 = true) : cpP f n cm x j = none := by sorry
theorem cpP_3l (h0 : ¬ hereV f n j = 61) (h1 : ¬ hereV f n j = 33) (h : hereV f n j = 60) (h2 : hereV f n (j + 1) = 61) : cpP f n cm x j = (cm (skipH f n (j + 2))).map (fun p => (p.1, cmpC 3 x p.2)) := by sorry
theorem cpP_3g (h0 : ¬ hereV f n j = 61) (h1 : ¬ hereV f n j = 33) (h : hereV f n j = 62) (h2 : hereV f n (j + 1) = 61) : cpP f n cm x j = (cm (skipH f n (j + 2))).map (fun p => (p.1, cmpC 5 x p.2)) := by sorry
theorem cpP_4l (h0 : ¬ hereV f n j = 61) (h1 : ¬ hereV f n j = 33) (h : hereV f n j = 60) (h2 : ¬ hereV f n (j + 1) = 61) : cpP f n cm x j = (cm (skipH f n (j + 1))).map (fun p => (p.1, cmpC 2 x p.2)) := by sorry
theorem cpP_4g (h0 : ¬ hereV f n j = 61) (h1 : ¬ hereV f n j = 33) (h : hereV f n j = 62) (h2 : ¬ hereV f n (j + 1) = 61) : cpP f n cm x j = (cm (skipH f n (j + 1))).map (fun p => (p.1, cmpC 4 x p.2)) := by sorry
theorem cpP_n (h0 : ¬ hereV f n j = 61) (h1 : ¬ hereV f n j = 33) (h : ¬ (hereV f n j = 60 ∨ hereV f n j = 62)) : cpP f n cm x j = none := by sorry
end
section
variable {f : Nat → Int32} {n : Nat} {ok : Bool} {orL : Nat → Option (Nat × CT)} {cmL : Nat → Option (Nat × OT)} {qyL : Bool → Nat → Option (Nat × Bool × QT)} {nt : Bool} {i j : Nat} {p : Nat × Bool × QT} {g : CT} {x : OT}
theorem baP_y (h : hereV f n i = 33) : baP f n ok orL cmL qyL i = baB f n ok orL cmL qyL true (skipH f n (i + 1)) := by sorry
theorem baP_n (h : ¬ hereV f n i = 33) : baP f n ok orL cmL qyL i = baB f n ok orL cmL qyL false i := by sorry
theorem baB_p0 (h : hereV f n i = 40) (ho : ok = false) : baB f n ok orL cmL qyL nt i = none := by sorry
theorem baB_p1 (h : hereV f n i = 40) (ho : ¬ ok = false) (h2 : orL (skipH f n (i + 1)) = none) : baB f n ok orL cmL qyL nt i = none := by sorry
theorem baB_p2 (h : hereV f n i = 40) (ho : ¬ ok = false) (h2 : orL (skipH f n (i + 1)) = some (j, g)) (h3 : hereV f n (skipH f n j) = 41) : baB f n ok orL cmL qyL nt i = some (skipH f n j + 1, if nt = true then notC g else g) := by sorry
theorem baB_p3 (h : hereV f n i = 40) (ho : ¬ ok = false) (h2 : orL (skipH f n (i + 1)) = some (j, g)) (h3 : ¬ hereV f n (skipH f n j) = 41) : baB f n ok orL cmL qyL nt i = none := by sorry
theorem baB_q0 (h : ¬ hereV f n i = 40) (hb : begC (hereV f n i)) (h2 : qrP f n ok orL false (decide (hereV f n i = 36)) (i + 1) = none) : baB f n ok orL cmL qyL nt i = none := by sorry
theorem baB_q1 (h : ¬ hereV f n i = 40) (hb : begC (hereV f n i)) (h2 : qrP f n ok orL false (decide (hereV f n i = 36)) (i + 1) = some p) (h3 : ¬ (nt = false ∧ opH (hereV f n (skipH f n p.1)))) : baB f n ok orL cmL qyL nt i = some (p.1, if nt = true then notC (tstC p.2.2) else tstC p.2.2) := by sorry
theorem baB_q2 (h : ¬ hereV f n i = 40) (hb : begC (hereV f n i)) (h2 : qrP f n ok orL false (decide (hereV f n i = 36)) (i + 1) = some p) (h3 : nt = false ∧ opH (hereV f n (skipH f n p.1))) (h4 : p.2.1 = false) : baB f n ok orL cmL qyL nt i = none := by sorry
theorem baB_q3 (h : ¬ hereV f n i = 40) (hb : begC (hereV f n i)) (h2 : qrP f n ok orL false (decide (hereV f n i = 36)) (i + 1) = some p) (h3 : nt = false ∧ opH (hereV f n (skipH f n p.1))) (h4 : ¬ p.2.1 = false) : baB f n ok orL cmL qyL nt i = cpP f n (cmP f n ok orL cmL qyL) (onlO p.2.2) (skipH f n p.1) := by sorry
theorem baB_n (h : ¬ hereV f n i = 40) (hb : ¬ begC (hereV f n i)) (h2 : nt = true) : baB f n ok orL cmL qyL nt i = none := by sorry
theorem baB_c0 (h : ¬ hereV f n i = 40) (hb : ¬ begC (hereV f n i)) (h2 : ¬ nt = true) (h3 : cmP f n ok orL cmL qyL i = none) : baB f n ok orL cmL qyL nt i = none := by sorry
theorem baB_c1 (h : ¬ hereV f n i = 40) (hb : ¬ begC (hereV f n i)) (h2 : ¬ nt = true) (h3 : cmP f n ok orL cmL qyL i = some (j, x)) : baB f n ok orL cmL qyL nt i = cpP f n (cmP f n ok orL cmL qyL) x (skipH f n j) := by sorry
end
section
variable {f : Nat → Int32} {n : Nat} {one : Nat → Option (Nat × CT)} {c : Int32} {tx k i j : Nat} {g : CT} {ac : List CT}
theorem liP_n (h : one i = none) : liP f n one c tx (k + 1) i ac = none := by sorry
theorem liP_e (h : one i = some (j, g)) (h2 : ¬ hereV f n (skipH f n j) = c) : liP f n one c tx (k + 1) i ac = some (j, ac ++ [g]) := by sorry
theorem liP_s (h : one i = some (j, g)) (h2 : hereV f n (skipH f n j) = c) (h3 : mtB f n (skipH f n j) (mtx tx) 2 = true) : liP f n one c tx (k + 1) i ac = liP f n one c tx k (skipH f n (skipH f n j + 2)) (ac ++ [g]) := by sorry
theorem liP_b (h : one i = some (j, g)) (h2 : hereV f n (skipH f n j) = c) (h3 : ¬ mtB f n (skipH f n j) (mtx tx) 2 = true) : liP f n one c tx (k + 1) i ac = none := by sorry
end
def CPo (f : Nat → Int32) (cm : Nat → Option (Nat × OT)) (xm : OT) (O : QP CT) (C : QP OT) (Y : QP QT) (n i o lo : Nat) (Q : QS) (V : TS) (res : Int32) (u : QS × TS × Nat × Int32 × Nat) : Prop := QPo n i 1 Q V u ∧ ((∃ a m, res = nI a ∧ cpP f n cm xm i = some (u.2.2.1, m) ∧ BASf O C Y u.1 u.2.1 lo u.1.R a m ∧ a < u.1.R ∧ u.1.qf (8 * a + 1) = -1 ∧ alr Q V u.1 u.2.1 0 Q.R ∧ u.1.R + 8 * i + 13 ≤ Q.R + 8 * u.2.2.1 ∧ u.2.1.us + i ≤ V.us + u.2.2.1 ∧ u.2.2.1 ≤ n ∧ Q.R < u.1.R ∧ u.2.2.2.2 = o) ∨ (res = -1 ∧ cpP f n cm xm i = none))
abbrev b_Mo_comparison : ByteArray := prog_14_method_49_code
def y_Mo_comparison : MethodName := ⟨"QueryBenchModel", "comparison", "(I)I"⟩
abbrev k_Mo_comparison : Cond := .code y_Mo_comparison b_Mo_comparison 5 (some .int)
theorem i_Mo_comparison : k_Mo_comparison ∈ gtbl := by sorry
theorem d_Mo_comparison_0 : decode b_Mo_comparison 0 = .ok (.aload_n 0, 1) := by sorry
theorem d_Mo_comparison_1 : decode b_Mo_comparison 1 = .ok (.invokevirtual 147, 3) := by sorry
theorem d_Mo_comparison_4 : decode b_Mo_comparison 4 = .ok (.bipush 61, 2) := by sorry
theorem d_Mo_comparison_6 : decode b_Mo_comparison 6 = .ok (.if_icmp .ne 20, 3) := by sorry
theorem d_Mo_comparison_9 : decode b_Mo_comparison 9 = .ok (.aload_n 0, 1) := by sorry
theorem d_Mo_comparison_10 : decode b_Mo_comparison 10 = .ok (.ldc_w 334, 3) := by sorry
theorem d_Mo_comparison_13 : decode b_Mo_comparison 13 = .ok (.invokevirtual 193, 3) := by sorry
theorem d_Mo_comparison_16 : decode b_Mo_comparison 16 = .ok (.ifCond .ne 5, 3) := by sorry
theorem d_Mo_comparison_19 : decode b_Mo_comparison 19 = .ok (.iconst (-1), 1) := by sorry
theorem d_Mo_comparison_20 : decode b_Mo_comparison 20 = .ok (.ireturn, 1) := by sorry
theorem d_Mo_comparison_21 : decode b_Mo_comparison 21 = .ok (.iconst 0, 1) := by sorry
theorem d_Mo_comparison_22 : decode b_Mo_comparison 22 = .ok (.istore_n 2, 1) := by sorry
theorem d_Mo_comparison_23 : decode b_Mo_comparison 23 = .ok (.goto 108, 3) := by sorry
theorem d_Mo_comparison_26 : decode b_Mo_comparison 26 = .ok (.aload_n 0, 1) := by sorry
theorem d_Mo_comparison_27 : decode b_Mo_comparison 27 = .ok (.invokevirtual 147, 3) := by sorry
theorem d_Mo_comparison_30 : decode b_Mo_comparison 30 = .ok (.bipush 33, 2) := by sorry
theorem d_Mo_comparison_32 : decode b_Mo_comparison 32 = .ok (.if_icmp .ne 20, 3) := by sorry
theorem d_Mo_comparison_35 : decode b_Mo_comparison 35 = .ok (.aload_n 0, 1) := by sorry
theorem d_Mo_comparison_36 : decode b_Mo_comparison 36 = .ok (.ldc_w 336, 3) := by sorry
theorem d_Mo_comparison_39 : decode b_Mo_comparison 39 = .ok (.invokevirtual 193, 3) := by sorry
theorem d_Mo_comparison_42 : decode b_Mo_comparison 42 = .ok (.ifCond .ne 5, 3) := by sorry
theorem d_Mo_comparison_45 : decode b_Mo_comparison 45 = .ok (.iconst (-1), 1) := by sorry
theorem d_Mo_comparison_46 : decode b_Mo_comparison 46 = .ok (.ireturn, 1) := by sorry
theorem d_Mo_comparison_47 : decode b_Mo_comparison 47 = .ok (.iconst 1, 1) := by sorry
theorem d_Mo_comparison_48 : decode b_Mo_comparison 48 = .ok (.istore_n 2, 1) := by sorry
theorem d_Mo_comparison_49 : decode b_Mo_comparison 49 = .ok (.goto 82, 3) := by sorry
theorem d_Mo_comparison_52 : decode b_Mo_comparison 52 = .ok (.aload_n 0, 1) := by sorry
theorem d_Mo_comparison_53 : decode b_Mo_comparison 53 = .ok (.invokevirtual 147, 3) := by sorry
theorem d_Mo_comparison_56 : decode b_Mo_comparison 56 = .ok (.bipush 60, 2) := by sorry
theorem d_Mo_comparison_58 : decode b_Mo_comparison 58 = .ok (.if_icmp .eq 12, 3) := by sorry
theorem d_Mo_comparison_61 : decode b_Mo_comparison 61 = .ok (.aload_n 0, 1) := by sorry
theorem d_Mo_comparison_62 : decode b_Mo_comparison 62 = .ok (.invokevirtual 147, 3) := by sorry
theorem d_Mo_comparison_65 : decode b_Mo_comparison 65 = .ok (.bipush 62, 2) := by sorry
theorem d_Mo_comparison_67 : decode b_Mo_comparison 67 = .ok (.if_icmp .ne 53, 3) := by sorry
theorem d_Mo_comparison_70 : decode b_Mo_comparison 70 = .ok (.aload_n 0, 1) := by sorry
theorem d_Mo_comparison_71 : decode b_Mo_comparison 71 = .ok (.invokevirtual 147, 3) := by sorry
theorem d_Mo_comparison_74 : decode b_Mo_comparison 74 = .ok (.bipush 60, 2) := by sorry
theorem d_Mo_comparison_76 : decode b_Mo_comparison 76 = .ok (.if_icmp .ne 7, 3) := by sorry
theorem d_Mo_comparison_79 : decode b_Mo_comparison 79 = .ok (.iconst 2, 1) := by sorry
theorem d_Mo_comparison_80 : decode b_Mo_comparison 80 = .ok (.goto 4, 3) := by sorry
theorem d_Mo_comparison_83 : decode b_Mo_comparison 83 = .ok (.iconst 4, 1) := by sorry
theorem d_Mo_comparison_84 : decode b_Mo_comparison 84 = .ok (.istore_n 2, 1) := by sorry
theorem d_Mo_comparison_85 : decode b_Mo_comparison 85 = .ok (.aload_n 0, 1) := by sorry
theorem d_Mo_comparison_86 : decode b_Mo_comparison 86 = .ok (.dup, 1) := by sorry
theorem d_Mo_comparison_87 : decode b_Mo_comparison 87 = .ok (.getfield 135, 3) := by sorry
theorem d_Mo_comparison_90 : decode b_Mo_comparison 90 = .ok (.iconst 1, 1) := by sorry
theorem d_Mo_comparison_91 : decode b_Mo_comparison 91 = .ok (.iadd, 1) := by sorry
theorem d_Mo_comparison_92 : decode b_Mo_comparison 92 = .ok (.putfield 135, 3) := by sorry
theorem d_Mo_comparison_95 : decode b_Mo_comparison 95 = .ok (.aload_n 0, 1) := by sorry
theorem d_Mo_comparison_96 : decode b_Mo_comparison 96 = .ok (.invokevirtual 147, 3) := by sorry
theorem d_Mo_comparison_99 : decode b_Mo_comparison 99 = .ok (.bipush 61, 2) := by sorry
theorem d_Mo_comparison_101 : decode b_Mo_comparison 101 = .ok (.if_icmp .ne 30, 3) := by sorry
theorem d_Mo_comparison_104 : decode b_Mo_comparison 104 = .ok (.aload_n 0, 1) := by sorry
theorem d_Mo_comparison_105 : decode b_Mo_comparison 105 = .ok (.dup, 1) := by sorry
theorem d_Mo_comparison_106 : decode b_Mo_comparison 106 = .ok (.getfield 135, 3) := by sorry
theorem d_Mo_comparison_109 : decode b_Mo_comparison 109 = .ok (.iconst 1, 1) := by sorry
theorem d_Mo_comparison_110 : decode b_Mo_comparison 110 = .ok (.iadd, 1) := by sorry
theorem d_Mo_comparison_111 : decode b_Mo_comparison 111 = .ok (.putfield 135, 3) := by sorry
theorem d_Mo_comparison_114 : decode b_Mo_comparison 114 = .ok (.iinc 2 1, 3) := by sorry
theorem d_Mo_comparison_117 : decode b_Mo_comparison 117 = .ok (.goto 14, 3) := by sorry
theorem d_Mo_comparison_120 : decode b_Mo_comparison 120 = .ok (.aload_n 0, 1) := by sorry
theorem d_Mo_comparison_121 : decode b_Mo_comparison 121 = .ok (.aload_n 0, 1) := by sorry
theorem d_Mo_comparison_122 : decode b_Mo_comparison 122 = .ok (.getfield 135, 3) := by sorry
theorem d_Mo_comparison_125 : decode b_Mo_comparison 125 = .ok (.invokevirtual 151, 3) := by sorry
theorem d_Mo_comparison_128 : decode b_Mo_comparison 128 = .ok (.pop, 1) := by sorry
theorem d_Mo_comparison_129 : decode b_Mo_comparison 129 = .ok (.iconst (-1), 1) := by sorry
theorem d_Mo_comparison_130 : decode b_Mo_comparison 130 = .ok (.ireturn, 1) := by sorry
theorem d_Mo_comparison_131 : decode b_Mo_comparison 131 = .ok (.aload_n 0, 1) := by sorry
theorem d_Mo_comparison_132 : decode b_Mo_comparison 132 = .ok (.invokevirtual 184, 3) := by sorry
theorem d_Mo_comparison_135 : decode b_Mo_comparison 135 = .ok (.aload_n 0, 1) := by sorry
theorem d_Mo_comparison_136 : decode b_Mo_comparison 136 = .ok (.invokevirtual 328, 3) := by sorry
theorem d_Mo_comparison_139 : decode b_Mo_comparison 139 = .ok (.istore_n 3, 1) := by sorry
theorem d_Mo_comparison_140 : decode b_Mo_comparison 140 = .ok (.iload_n 3, 1) := by sorry
theorem d_Mo_comparison_141 : decode b_Mo_comparison 141 = .ok (.ifCond .ge 5, 3) := by sorry
theorem d_Mo_comparison_144 : decode b_Mo_comparison 144 = .ok (.iconst (-1), 1) := by sorry
theorem d_Mo_comparison_145 : decode b_Mo_comparison 145 = .ok (.ireturn, 1) := by sorry
theorem d_Mo_comparison_146 : decode b_Mo_comparison 146 = .ok (.aload_n 0, 1) := by sorry
theorem d_Mo_comparison_147 : decode b_Mo_comparison 147 = .ok (.bipush 33, 2) := by sorry
theorem d_Mo_comparison_149 : decode b_Mo_comparison 149 = .ok (.invokevirtual 269, 3) := by sorry
theorem d_Mo_comparison_152 : decode b_Mo_comparison 152 = .ok (.istore 4, 2) := by sorry
theorem d_Mo_comparison_154 : decode b_Mo_comparison 154 = .ok (.aload_n 0, 1) := by sorry
theorem d_Mo_comparison_155 : decode b_Mo_comparison 155 = .ok (.iload 4, 2) := by sorry
theorem d_Mo_comparison_157 : decode b_Mo_comparison 157 = .ok (.iconst 2, 1) := by sorry
theorem d_Mo_comparison_158 : decode b_Mo_comparison 158 = .ok (.iload_n 1, 1) := by sorry
theorem d_Mo_comparison_159 : decode b_Mo_comparison 159 = .ok (.invokevirtual 272, 3) := by sorry
theorem d_Mo_comparison_162 : decode b_Mo_comparison 162 = .ok (.aload_n 0, 1) := by sorry
theorem d_Mo_comparison_163 : decode b_Mo_comparison 163 = .ok (.iload 4, 2) := by sorry
theorem d_Mo_comparison_165 : decode b_Mo_comparison 165 = .ok (.iconst 3, 1) := by sorry
theorem d_Mo_comparison_166 : decode b_Mo_comparison 166 = .ok (.iload_n 3, 1) := by sorry
theorem d_Mo_comparison_167 : decode b_Mo_comparison 167 = .ok (.invokevirtual 272, 3) := by sorry
theorem d_Mo_comparison_170 : decode b_Mo_comparison 170 = .ok (.aload_n 0, 1) := by sorry
theorem d_Mo_comparison_171 : decode b_Mo_comparison 171 = .ok (.iload 4, 2) := by sorry
theorem d_Mo_comparison_173 : decode b_Mo_comparison 173 = .ok (.iconst 4, 1) := by sorry
theorem d_Mo_comparison_174 : decode b_Mo_comparison 174 = .ok (.iload_n 2, 1) := by sorry
theorem d_Mo_comparison_175 : decode b_Mo_comparison 175 = .ok (.invokevirtual 272, 3) := by sorry
theorem d_Mo_comparison_178 : decode b_Mo_comparison 178 = .ok (.iload 4, 2) := by sorry
theorem d_Mo_comparison_180 : decode b_Mo_comparison 180 = .ok (.ireturn, 1) := by sorry
set_option maxHeartbeats 4000000 in
set_option maxRecDepth 100000 in
/-- the reference: comparison -/
theorem c_cpr (orL : (Nat → Int32) → Nat → Nat → Option (Nat × CT)) (cmL : (Nat → Int32) → Nat → Nat → Option (Nat × OT)) (qyL : (Nat → Int32) → Nat → Bool → Nat → Option (Nat × Bool × QT)) (O : QP CT) (C : QP OT) (Y : QP QT) (G M : Nat) (hOf : Frm 8 O) (hCf : Frm 8 C) (hYf : Frm 8 Y) (l : Launch) (dC : Nat → ClassId) (dI : Nat → Nat → Nat) (mo : Nat) (sz : Heap) (v : Nat → Value) (cB cI cL cC : ClassId) (qx NN : Nat) (f : Nat → Int32) (n : Nat) (K : Nat → Nat × Nat) (tv : Nat) (Q : QS) (V : TS) (o i : Nat) (br : Int32) (lo x0 : Nat) (xm : OT) (ok : Bool) (hok : ok = true ↔ ¬ o = 16) (ho16 : o ≤ 16) (hOR : ¬ o = 16 → ORC orL O (o + 1) (15 + G) (600 + M)) (hCM : ¬ o = 16 → CMC cmL C (o + 1) (11 + G) (400 + M)) (hQY : ¬ o = 16 → QYC qyL Y (o + 1) (10 + G) (320 + M)) (hnN : n ≤ NN) (hNN : NN ≤ 4096) (hi0 : i ≤ n) (h6 : v 6 = .ref qx) (h8 : v 8 = .int (nI n)) (h22 : v 22 = .ref tv) (hQ : QOK Q) (hV : TOK V) (hcu : V.us + (n + 12 - i) ≤ 400000) (hcr : Q.R + 8 * (n - i) + 1 ≤ 40000) (hlo : lo ≤ Q.R) (hL : CMPf O C Y Q V lo Q.R x0 xm) : Met l y_Mo_comparison (k_Mo_comparison :: gtbl) ({ frames := 12 + (15 + G), cells := kcap Q (Q.R + 8 * (n - i) + 1) + qcap V (V.us + (n + 12 - i)), slots := 22 * kcap Q (Q.R + 8 * (n - i) + 1) + 2 * qcap V (V.us + (n + 12 - i)), locals := 440 + (600 + M) }) (va_Pc [.ref mo, .int (nI x0)] (me K dC dI [(mo, .inr (13, MF 30 (rf (rs v Q o) i br))), (qx, .inl (cB, NN, .inl f)), (Q.qq, .inl (cI, (8 * Q.C), .inl Q.qf)), (Q.qe, .inl (cL, (3 * Q.C), .inr (.inl Q.ef))), (tv, .inr (12, MF 13 (tw V))), (V.au, .inl (cC, V.U, .inl V.un))] [(cB, .byte), (cI, .int), (cL, .long), (cC, .char)] sz)) (va_Qi (fun (res : Int32) (u : QS × TS × Nat × Int32 × Nat) => CPo f (cmP f n ok (orL f n) (cmL f n) (qyL f n)) xm O C Y n i o lo Q V res u) (fun u t9 => mz dC dI [(mo, .inr (13, MF 30 (rf (rs v u.1 u.2.2.2.2) u.2.2.1 u.2.2.2.1))), (qx, .inl (cB, NN, .inl f)), (u.1.qq, .inl (cI, (8 * u.1.C), .inl u.1.qf)), (u.1.qe, .inl (cL, (3 * u.1.C), .inr (.inl u.1.ef))), (tv, .inr (12, MF 13 (tw u.2.1))), (u.2.1.au, .inl (cC, u.2.1.U, .inl u.2.1.un))] [(cB, .byte), (cI, .int), (cL, .long), (cC, .char)] (va_A [(mo, .inr (13, MF 30 (rf (rs v Q o) i br))), (qx, .inl (cB, NN, .inl f)), (Q.qq, .inl (cI, (8 * Q.C), .inl Q.qf)), (Q.qe, .inl (cL, (3 * Q.C), .inr (.inl Q.ef))), (tv, .inr (12, MF 13 (tw V))), (V.au, .inl (cC, V.U, .inl V.un))] sz.size) t9 ∧ szk sz t9.heap (cQ Q V u.1 u.2.1) (sQ Q V u.1 u.2.1)) (va_A [(mo, .inr (13, MF 30 (rf (rs v Q o) i br))), (qx, .inl (cB, NN, .inl f)), (Q.qq, .inl (cI, (8 * Q.C), .inl Q.qf)), (Q.qe, .inl (cL, (3 * Q.C), .inr (.inl Q.ef))), (tv, .inr (12, MF 13 (tw V))), (V.au, .inl (cC, V.U, .inl V.un))] sz.size)) (kcap Q (Q.R + 8 * (n - i) + 1) + qcap V (V.us + (n + 12 - i))) (22 * kcap Q (Q.R + 8 * (n - i) + 1) + 2 * qcap V (V.us + (n + 12 - i))) (va_A [(mo, .inr (13, MF 30 (rf (rs v Q o) i br))), (qx, .inl (cB, NN, .inl f)), (Q.qq, .inl (cI, (8 * Q.C), .inl Q.qf)), (Q.qe, .inl (cL, (3 * Q.C), .inr (.inl Q.ef))), (tv, .inr (12, MF 13 (tw V))), (V.au, .inl (cC, V.U, .inl V.un))] sz.size) := by sorry
end
section
theorem w_1451 : (.methodLink "QueryBenchModel" 321 ⟨"QueryBenchModel", "operator", "()Z"⟩ : Cond) ∈ gtbl := by sorry
theorem w_1453 : (.instanceMethod ⟨"QueryBenchModel", "operator", "()Z"⟩ : Cond) ∈ gtbl := by sorry
theorem w_1455 : (.methodLink "QueryBenchModel" 325 ⟨"QueryBenchModel", "comparison", "(I)I"⟩ : Cond) ∈ gtbl := by sorry
theorem w_1457 : (.instanceMethod ⟨"QueryBenchModel", "comparison", "(I)I"⟩ : Cond) ∈ gtbl := by sorry
theorem w_1472 : (.methodLink "QueryBenchModel" 331 ⟨"QueryBenchModel", "wrap", "(I)I"⟩ : Cond) ∈ gtbl := by sorry
theorem w_1474 : (.instanceMethod ⟨"QueryBenchModel", "wrap", "(I)I"⟩ : Cond) ∈ gtbl := by sorry
def BAo (ba : Nat → Option (Nat × CT)) (P : QP CT) (n i k d o : Nat) (Q : QS) (V : TS) (res : Int32) (u : QS × TS × Nat × Int32 × Nat) : Prop := QPo n i k Q V u ∧ ((∃ a m, res = nI a ∧ ba i = some (u.2.2.1, m) ∧ P u.1 u.2.1 Q.R u.1.R a m ∧ a < u.1.R ∧ u.1.qf (8 * a + 1) = -1 ∧ alr Q V u.1 u.2.1 0 Q.R ∧ u.1.R + 8 * i + d ≤ Q.R + 8 * u.2.2.1 ∧ u.2.1.us + i ≤ V.us + u.2.2.1 ∧ u.2.2.1 ≤ n ∧ Q.R < u.1.R ∧ u.2.2.2.2 = o) ∨ (res = -1 ∧ ba i = none))
theorem op_01 {x r : Int32} (h : r = if opH x then 1 else 0) : (¬ r = 0 → opH x) ∧ (r = 0 → ¬ opH x) := by sorry
theorem fl_01 {r : Int32} {fl : Bool} (h : r = (if fl = true then 1 else 0)) : (¬ r = 0 → ¬ fl = false) ∧ (r = 0 → fl = false) := by sorry
abbrev b_Mo_basic : ByteArray := prog_14_method_46_code
def y_Mo_basic : MethodName := ⟨"QueryBenchModel", "basic", "()I"⟩
abbrev k_Mo_basic : Cond := .code y_Mo_basic b_Mo_basic 7 (some .int)
theorem i_Mo_basic : k_Mo_basic ∈ gtbl := by sorry
theorem d_Mo_basic_0 : decode b_Mo_basic 0 = .ok (.aload_n 0, 1) := by sorry
theorem d_Mo_basic_1 : decode b_Mo_basic 1 = .ok (.invokevirtual 147, 3) := by sorry
theorem d_Mo_basic_4 : decode b_Mo_basic 4 = .ok (.bipush 33, 2) := by sorry
theorem d_Mo_basic_6 : decode b_Mo_basic 6 = .ok (.if_icmp .ne 7, 3) := by sorry
theorem d_Mo_basic_9 : decode b_Mo_basic 9 = .ok (.iconst 1, 1) := by sorry
theorem d_Mo_basic_10 : decode b_Mo_basic 10 = .ok (.goto 4, 3) := by sorry
theorem d_Mo_basic_13 : decode b_Mo_basic 13 = .ok (.iconst 0, 1) := by sorry
theorem d_Mo_basic_14 : decode b_Mo_basic 14 = .ok (.istore_n 1, 1) := by sorry
theorem d_Mo_basic_15 : decode b_Mo_basic 15 = .ok (.iload_n 1, 1) := by sorry
theorem d_Mo_basic_16 : decode b_Mo_basic 16 = .ok (.ifCond .eq 17, 3) := by sorry
theorem d_Mo_basic_19 : decode b_Mo_basic 19 = .ok (.aload_n 0, 1) := by sorry
theorem d_Mo_basic_20 : decode b_Mo_basic 20 = .ok (.dup, 1) := by sorry
theorem d_Mo_basic_21 : decode b_Mo_basic 21 = .ok (.getfield 135, 3) := by sorry
theorem d_Mo_basic_24 : decode b_Mo_basic 24 = .ok (.iconst 1, 1) := by sorry
theorem d_Mo_basic_25 : decode b_Mo_basic 25 = .ok (.iadd, 1) := by sorry
theorem d_Mo_basic_26 : decode b_Mo_basic 26 = .ok (.putfield 135, 3) := by sorry
theorem d_Mo_basic_29 : decode b_Mo_basic 29 = .ok (.aload_n 0, 1) := by sorry
theorem d_Mo_basic_30 : decode b_Mo_basic 30 = .ok (.invokevirtual 184, 3) := by sorry
theorem d_Mo_basic_33 : decode b_Mo_basic 33 = .ok (.aload_n 0, 1) := by sorry
theorem d_Mo_basic_34 : decode b_Mo_basic 34 = .ok (.invokevirtual 147, 3) := by sorry
theorem d_Mo_basic_37 : decode b_Mo_basic 37 = .ok (.bipush 40, 2) := by sorry
theorem d_Mo_basic_39 : decode b_Mo_basic 39 = .ok (.if_icmp .ne 44, 3) := by sorry
theorem d_Mo_basic_42 : decode b_Mo_basic 42 = .ok (.aload_n 0, 1) := by sorry
theorem d_Mo_basic_43 : decode b_Mo_basic 43 = .ok (.bipush 40, 2) := by sorry
theorem d_Mo_basic_45 : decode b_Mo_basic 45 = .ok (.invokevirtual 290, 3) := by sorry
theorem d_Mo_basic_48 : decode b_Mo_basic 48 = .ok (.ifCond .ne 5, 3) := by sorry
theorem d_Mo_basic_51 : decode b_Mo_basic 51 = .ok (.iconst (-1), 1) := by sorry
theorem d_Mo_basic_52 : decode b_Mo_basic 52 = .ok (.ireturn, 1) := by sorry
theorem d_Mo_basic_53 : decode b_Mo_basic 53 = .ok (.aload_n 0, 1) := by sorry
theorem d_Mo_basic_54 : decode b_Mo_basic 54 = .ok (.invokevirtual 184, 3) := by sorry
theorem d_Mo_basic_57 : decode b_Mo_basic 57 = .ok (.aload_n 0, 1) := by sorry
theorem d_Mo_basic_58 : decode b_Mo_basic 58 = .ok (.invokevirtual 300, 3) := by sorry
theorem d_Mo_basic_61 : decode b_Mo_basic 61 = .ok (.istore_n 2, 1) := by sorry
theorem d_Mo_basic_62 : decode b_Mo_basic 62 = .ok (.iload_n 2, 1) := by sorry
theorem d_Mo_basic_63 : decode b_Mo_basic 63 = .ok (.ifCond .ge 5, 3) := by sorry
theorem d_Mo_basic_66 : decode b_Mo_basic 66 = .ok (.iconst (-1), 1) := by sorry
theorem d_Mo_basic_67 : decode b_Mo_basic 67 = .ok (.ireturn, 1) := by sorry
theorem d_Mo_basic_68 : decode b_Mo_basic 68 = .ok (.aload_n 0, 1) := by sorry
theorem d_Mo_basic_69 : decode b_Mo_basic 69 = .ok (.invokevirtual 184, 3) := by sorry
theorem d_Mo_basic_72 : decode b_Mo_basic 72 = .ok (.aload_n 0, 1) := by sorry
theorem d_Mo_basic_73 : decode b_Mo_basic 73 = .ok (.bipush 41, 2) := by sorry
theorem d_Mo_basic_75 : decode b_Mo_basic 75 = .ok (.invokevirtual 297, 3) := by sorry
theorem d_Mo_basic_78 : decode b_Mo_basic 78 = .ok (.ifCond .ne 189, 3) := by sorry
theorem d_Mo_basic_81 : decode b_Mo_basic 81 = .ok (.iconst (-1), 1) := by sorry
theorem d_Mo_basic_82 : decode b_Mo_basic 82 = .ok (.ireturn, 1) := by sorry
theorem d_Mo_basic_83 : decode b_Mo_basic 83 = .ok (.aload_n 0, 1) := by sorry
theorem d_Mo_basic_84 : decode b_Mo_basic 84 = .ok (.invokevirtual 147, 3) := by sorry
theorem d_Mo_basic_87 : decode b_Mo_basic 87 = .ok (.bipush 64, 2) := by sorry
theorem d_Mo_basic_89 : decode b_Mo_basic 89 = .ok (.if_icmp .eq 12, 3) := by sorry
theorem d_Mo_basic_92 : decode b_Mo_basic 92 = .ok (.aload_n 0, 1) := by sorry
theorem d_Mo_basic_93 : decode b_Mo_basic 93 = .ok (.invokevirtual 147, 3) := by sorry
theorem d_Mo_basic_96 : decode b_Mo_basic 96 = .ok (.bipush 36, 2) := by sorry
theorem d_Mo_basic_98 : decode b_Mo_basic 98 = .ok (.if_icmp .ne 133, 3) := by sorry
theorem d_Mo_basic_101 : decode b_Mo_basic 101 = .ok (.aload_n 0, 1) := by sorry
theorem d_Mo_basic_102 : decode b_Mo_basic 102 = .ok (.invokevirtual 147, 3) := by sorry
theorem d_Mo_basic_105 : decode b_Mo_basic 105 = .ok (.bipush 36, 2) := by sorry
theorem d_Mo_basic_107 : decode b_Mo_basic 107 = .ok (.if_icmp .ne 7, 3) := by sorry
theorem d_Mo_basic_110 : decode b_Mo_basic 110 = .ok (.iconst 1, 1) := by sorry
theorem d_Mo_basic_111 : decode b_Mo_basic 111 = .ok (.goto 4, 3) := by sorry
theorem d_Mo_basic_114 : decode b_Mo_basic 114 = .ok (.iconst 0, 1) := by sorry
theorem d_Mo_basic_115 : decode b_Mo_basic 115 = .ok (.istore_n 3, 1) := by sorry
theorem d_Mo_basic_116 : decode b_Mo_basic 116 = .ok (.aload_n 0, 1) := by sorry
theorem d_Mo_basic_117 : decode b_Mo_basic 117 = .ok (.dup, 1) := by sorry
theorem d_Mo_basic_118 : decode b_Mo_basic 118 = .ok (.getfield 135, 3) := by sorry
theorem d_Mo_basic_121 : decode b_Mo_basic 121 = .ok (.iconst 1, 1) := by sorry
theorem d_Mo_basic_122 : decode b_Mo_basic 122 = .ok (.iadd, 1) := by sorry
theorem d_Mo_basic_123 : decode b_Mo_basic 123 = .ok (.putfield 135, 3) := by sorry
theorem d_Mo_basic_126 : decode b_Mo_basic 126 = .ok (.aload_n 0, 1) := by sorry
theorem d_Mo_basic_127 : decode b_Mo_basic 127 = .ok (.iload_n 3, 1) := by sorry
theorem d_Mo_basic_128 : decode b_Mo_basic 128 = .ok (.iconst 0, 1) := by sorry
theorem d_Mo_basic_129 : decode b_Mo_basic 129 = .ok (.invokevirtual 317, 3) := by sorry
theorem d_Mo_basic_132 : decode b_Mo_basic 132 = .ok (.istore 4, 2) := by sorry
theorem d_Mo_basic_134 : decode b_Mo_basic 134 = .ok (.iload 4, 2) := by sorry
theorem d_Mo_basic_136 : decode b_Mo_basic 136 = .ok (.ifCond .ge 5, 3) := by sorry
theorem d_Mo_basic_139 : decode b_Mo_basic 139 = .ok (.iconst (-1), 1) := by sorry
theorem d_Mo_basic_140 : decode b_Mo_basic 140 = .ok (.ireturn, 1) := by sorry
theorem d_Mo_basic_141 : decode b_Mo_basic 141 = .ok (.aload_n 0, 1) := by sorry
theorem d_Mo_basic_142 : decode b_Mo_basic 142 = .ok (.getfield 135, 3) := by sorry
theorem d_Mo_basic_145 : decode b_Mo_basic 145 = .ok (.istore 5, 2) := by sorry
theorem d_Mo_basic_147 : decode b_Mo_basic 147 = .ok (.aload_n 0, 1) := by sorry
theorem d_Mo_basic_148 : decode b_Mo_basic 148 = .ok (.invokevirtual 184, 3) := by sorry
theorem d_Mo_basic_151 : decode b_Mo_basic 151 = .ok (.iload_n 1, 1) := by sorry
theorem d_Mo_basic_152 : decode b_Mo_basic 152 = .ok (.ifCond .ne 55, 3) := by sorry
theorem d_Mo_basic_155 : decode b_Mo_basic 155 = .ok (.aload_n 0, 1) := by sorry
theorem d_Mo_basic_156 : decode b_Mo_basic 156 = .ok (.invokevirtual 321, 3) := by sorry
theorem d_Mo_basic_159 : decode b_Mo_basic 159 = .ok (.ifCond .eq 48, 3) := by sorry
theorem d_Mo_basic_162 : decode b_Mo_basic 162 = .ok (.aload_n 0, 1) := by sorry
theorem d_Mo_basic_163 : decode b_Mo_basic 163 = .ok (.iload 4, 2) := by sorry
theorem d_Mo_basic_165 : decode b_Mo_basic 165 = .ok (.iconst 3, 1) := by sorry
theorem d_Mo_basic_166 : decode b_Mo_basic 166 = .ok (.invokevirtual 286, 3) := by sorry
theorem d_Mo_basic_169 : decode b_Mo_basic 169 = .ok (.ifCond .ne 14, 3) := by sorry
theorem d_Mo_basic_172 : decode b_Mo_basic 172 = .ok (.aload_n 0, 1) := by sorry
theorem d_Mo_basic_173 : decode b_Mo_basic 173 = .ok (.aload_n 0, 1) := by sorry
theorem d_Mo_basic_174 : decode b_Mo_basic 174 = .ok (.getfield 135, 3) := by sorry
theorem d_Mo_basic_177 : decode b_Mo_basic 177 = .ok (.invokevirtual 151, 3) := by sorry
theorem d_Mo_basic_180 : decode b_Mo_basic 180 = .ok (.pop, 1) := by sorry
theorem d_Mo_basic_181 : decode b_Mo_basic 181 = .ok (.iconst (-1), 1) := by sorry
theorem d_Mo_basic_182 : decode b_Mo_basic 182 = .ok (.ireturn, 1) := by sorry
theorem d_Mo_basic_183 : decode b_Mo_basic 183 = .ok (.aload_n 0, 1) := by sorry
theorem d_Mo_basic_184 : decode b_Mo_basic 184 = .ok (.bipush 45, 2) := by sorry
theorem d_Mo_basic_186 : decode b_Mo_basic 186 = .ok (.invokevirtual 269, 3) := by sorry
theorem d_Mo_basic_189 : decode b_Mo_basic 189 = .ok (.istore 6, 2) := by sorry
theorem d_Mo_basic_191 : decode b_Mo_basic 191 = .ok (.aload_n 0, 1) := by sorry
theorem d_Mo_basic_192 : decode b_Mo_basic 192 = .ok (.iload 6, 2) := by sorry
theorem d_Mo_basic_194 : decode b_Mo_basic 194 = .ok (.iconst 2, 1) := by sorry
theorem d_Mo_basic_195 : decode b_Mo_basic 195 = .ok (.iload 4, 2) := by sorry
theorem d_Mo_basic_197 : decode b_Mo_basic 197 = .ok (.invokevirtual 272, 3) := by sorry
theorem d_Mo_basic_200 : decode b_Mo_basic 200 = .ok (.aload_n 0, 1) := by sorry
theorem d_Mo_basic_201 : decode b_Mo_basic 201 = .ok (.iload 6, 2) := by sorry
theorem d_Mo_basic_203 : decode b_Mo_basic 203 = .ok (.invokevirtual 325, 3) := by sorry
theorem d_Mo_basic_206 : decode b_Mo_basic 206 = .ok (.ireturn, 1) := by sorry
theorem d_Mo_basic_207 : decode b_Mo_basic 207 = .ok (.aload_n 0, 1) := by sorry
theorem d_Mo_basic_208 : decode b_Mo_basic 208 = .ok (.iload 5, 2) := by sorry
theorem d_Mo_basic_210 : decode b_Mo_basic 210 = .ok (.putfield 135, 3) := by sorry
theorem d_Mo_basic_213 : decode b_Mo_basic 213 = .ok (.aload_n 0, 1) := by sorry
theorem d_Mo_basic_214 : decode b_Mo_basic 214 = .ok (.bipush 34, 2) := by sorry
theorem d_Mo_basic_216 : decode b_Mo_basic 216 = .ok (.invokevirtual 269, 3) := by sorry
theorem d_Mo_basic_219 : decode b_Mo_basic 219 = .ok (.istore_n 2, 1) := by sorry
theorem d_Mo_basic_220 : decode b_Mo_basic 220 = .ok (.aload_n 0, 1) := by sorry
theorem d_Mo_basic_221 : decode b_Mo_basic 221 = .ok (.iload_n 2, 1) := by sorry
theorem d_Mo_basic_222 : decode b_Mo_basic 222 = .ok (.iconst 2, 1) := by sorry
theorem d_Mo_basic_223 : decode b_Mo_basic 223 = .ok (.iload 4, 2) := by sorry
theorem d_Mo_basic_225 : decode b_Mo_basic 225 = .ok (.invokevirtual 272, 3) := by sorry
theorem d_Mo_basic_228 : decode b_Mo_basic 228 = .ok (.goto 39, 3) := by sorry
theorem d_Mo_basic_231 : decode b_Mo_basic 231 = .ok (.iload_n 1, 1) := by sorry
theorem d_Mo_basic_232 : decode b_Mo_basic 232 = .ok (.ifCond .eq 14, 3) := by sorry
theorem d_Mo_basic_235 : decode b_Mo_basic 235 = .ok (.aload_n 0, 1) := by sorry
theorem d_Mo_basic_236 : decode b_Mo_basic 236 = .ok (.aload_n 0, 1) := by sorry
theorem d_Mo_basic_237 : decode b_Mo_basic 237 = .ok (.getfield 135, 3) := by sorry
theorem d_Mo_basic_240 : decode b_Mo_basic 240 = .ok (.invokevirtual 151, 3) := by sorry
theorem d_Mo_basic_243 : decode b_Mo_basic 243 = .ok (.pop, 1) := by sorry
theorem d_Mo_basic_244 : decode b_Mo_basic 244 = .ok (.iconst (-1), 1) := by sorry
theorem d_Mo_basic_245 : decode b_Mo_basic 245 = .ok (.ireturn, 1) := by sorry
theorem d_Mo_basic_246 : decode b_Mo_basic 246 = .ok (.aload_n 0, 1) := by sorry
theorem d_Mo_basic_247 : decode b_Mo_basic 247 = .ok (.invokevirtual 328, 3) := by sorry
theorem d_Mo_basic_250 : decode b_Mo_basic 250 = .ok (.istore_n 3, 1) := by sorry
theorem d_Mo_basic_251 : decode b_Mo_basic 251 = .ok (.iload_n 3, 1) := by sorry
theorem d_Mo_basic_252 : decode b_Mo_basic 252 = .ok (.ifCond .ge 5, 3) := by sorry
theorem d_Mo_basic_255 : decode b_Mo_basic 255 = .ok (.iconst (-1), 1) := by sorry
theorem d_Mo_basic_256 : decode b_Mo_basic 256 = .ok (.ireturn, 1) := by sorry
theorem d_Mo_basic_257 : decode b_Mo_basic 257 = .ok (.aload_n 0, 1) := by sorry
theorem d_Mo_basic_258 : decode b_Mo_basic 258 = .ok (.invokevirtual 184, 3) := by sorry
theorem d_Mo_basic_261 : decode b_Mo_basic 261 = .ok (.aload_n 0, 1) := by sorry
theorem d_Mo_basic_262 : decode b_Mo_basic 262 = .ok (.iload_n 3, 1) := by sorry
theorem d_Mo_basic_263 : decode b_Mo_basic 263 = .ok (.invokevirtual 325, 3) := by sorry
theorem d_Mo_basic_266 : decode b_Mo_basic 266 = .ok (.ireturn, 1) := by sorry
theorem d_Mo_basic_267 : decode b_Mo_basic 267 = .ok (.iload_n 1, 1) := by sorry
theorem d_Mo_basic_268 : decode b_Mo_basic 268 = .ok (.ifCond .ne 9, 3) := by sorry
theorem d_Mo_basic_271 : decode b_Mo_basic 271 = .ok (.aload_n 0, 1) := by sorry
theorem d_Mo_basic_272 : decode b_Mo_basic 272 = .ok (.iload_n 2, 1) := by sorry
theorem d_Mo_basic_273 : decode b_Mo_basic 273 = .ok (.invokevirtual 331, 3) := by sorry
theorem d_Mo_basic_276 : decode b_Mo_basic 276 = .ok (.ireturn, 1) := by sorry
theorem d_Mo_basic_277 : decode b_Mo_basic 277 = .ok (.aload_n 0, 1) := by sorry
theorem d_Mo_basic_278 : decode b_Mo_basic 278 = .ok (.bipush 32, 2) := by sorry
theorem d_Mo_basic_280 : decode b_Mo_basic 280 = .ok (.invokevirtual 269, 3) := by sorry
theorem d_Mo_basic_283 : decode b_Mo_basic 283 = .ok (.istore_n 3, 1) := by sorry
theorem d_Mo_basic_284 : decode b_Mo_basic 284 = .ok (.aload_n 0, 1) := by sorry
theorem d_Mo_basic_285 : decode b_Mo_basic 285 = .ok (.iload_n 3, 1) := by sorry
theorem d_Mo_basic_286 : decode b_Mo_basic 286 = .ok (.iconst 2, 1) := by sorry
theorem d_Mo_basic_287 : decode b_Mo_basic 287 = .ok (.iload_n 2, 1) := by sorry
theorem d_Mo_basic_288 : decode b_Mo_basic 288 = .ok (.invokevirtual 272, 3) := by sorry
theorem d_Mo_basic_291 : decode b_Mo_basic 291 = .ok (.iload_n 3, 1) := by sorry
theorem d_Mo_basic_292 : decode b_Mo_basic 292 = .ok (.ireturn, 1) := by sorry
set_option maxHeartbeats 4000000 in
set_option maxRecDepth 100000 in
/-- the reference: basic -/
theorem c_bas (orL : (Nat → Int32) → Nat → Nat → Option (Nat × CT)) (cmL : (Nat → Int32) → Nat → Nat → Option (Nat × OT)) (qyL : (Nat → Int32) → Nat → Bool → Nat → Option (Nat × Bool × QT)) (O : QP CT) (C : QP OT) (Y : QP QT) (G M : Nat) (hOf : Frm 8 O) (hCf : Frm 8 C) (hYf : Frm 8 Y) (l : Launch) (dC : Nat → ClassId) (dI : Nat → Nat → Nat) (mo : Nat) (sz : Heap) (v : Nat → Value) (cB cI cL cC : ClassId) (qx NN : Nat) (f : Nat → Int32) (n : Nat) (K : Nat → Nat × Nat) (tv : Nat) (Q : QS) (V : TS) (o i : Nat) (br : Int32) (ok : Bool) (hok : ok = true ↔ ¬ o = 16) (ho16 : o ≤ 16) (hOR : ¬ o = 16 → ORC orL O (o + 1) (15 + G) (600 + M)) (hCM : ¬ o = 16 → CMC cmL C (o + 1) (11 + G) (400 + M)) (hQY : ¬ o = 16 → QYC qyL Y (o + 1) (10 + G) (320 + M)) (hnN : n ≤ NN) (hNN : NN ≤ 4096) (hi0 : i ≤ n) (h6 : v 6 = .ref qx) (h8 : v 8 = .int (nI n)) (h22 : v 22 = .ref tv) (hQ : QOK Q) (hV : TOK V) (hcu : V.us + (n + 12 - i) ≤ 400000) (hcr : Q.R + 8 * (n - i) + 1 ≤ 40000) : Met l y_Mo_basic (k_Mo_basic :: gtbl) ({ frames := 13 + (15 + G), cells := kcap Q (Q.R + 8 * (n - i) + 1) + qcap V (V.us + (n + 12 - i)), slots := 22 * kcap Q (Q.R + 8 * (n - i) + 1) + 2 * qcap V (V.us + (n + 12 - i)), locals := 500 + (600 + M) }) (va_Pc [.ref mo] (me K dC dI [(mo, .inr (13, MF 30 (rf (rs v Q o) i br))), (qx, .inl (cB, NN, .inl f)), (Q.qq, .inl (cI, (8 * Q.C), .inl Q.qf)), (Q.qe, .inl (cL, (3 * Q.C), .inr (.inl Q.ef))), (tv, .inr (12, MF 13 (tw V))), (V.au, .inl (cC, V.U, .inl V.un))] [(cB, .byte), (cI, .int), (cL, .long), (cC, .char)] sz)) (va_Qi (fun (res : Int32) (u : QS × TS × Nat × Int32 × Nat) => BAo (baP f n ok (orL f n) (cmL f n) (qyL f n)) (BASf O C Y) n i 1 5 o Q V res u) (fun u t9 => mz dC dI [(mo, .inr (13, MF 30 (rf (rs v u.1 u.2.2.2.2) u.2.2.1 u.2.2.2.1))), (qx, .inl (cB, NN, .inl f)), (u.1.qq, .inl (cI, (8 * u.1.C), .inl u.1.qf)), (u.1.qe, .inl (cL, (3 * u.1.C), .inr (.inl u.1.ef))), (tv, .inr (12, MF 13 (tw u.2.1))), (u.2.1.au, .inl (cC, u.2.1.U, .inl u.2.1.un))] [(cB, .byte), (cI, .int), (cL, .long), (cC, .char)] (va_A [(mo, .inr (13, MF 30 (rf (rs v Q o) i br))), (qx, .inl (cB, NN, .inl f)), (Q.qq, .inl (cI, (8 * Q.C), .inl Q.qf)), (Q.qe, .inl (cL, (3 * Q.C), .inr (.inl Q.ef))), (tv, .inr (12, MF 13 (tw V))), (V.au, .inl (cC, V.U, .inl V.un))] sz.size) t9 ∧ szk sz t9.heap (cQ Q V u.1 u.2.1) (sQ Q V u.1 u.2.1)) (va_A [(mo, .inr (13, MF 30 (rf (rs v Q o) i br))), (qx, .inl (cB, NN, .inl f)), (Q.qq, .inl (cI, (8 * Q.C), .inl Q.qf)), (Q.qe, .inl (cL, (3 * Q.C), .inr (.inl Q.ef))), (tv, .inr (12, MF 13 (tw V))), (V.au, .inl (cC, V.U, .inl V.un))] sz.size)) (kcap Q (Q.R + 8 * (n - i) + 1) + qcap V (V.us + (n + 12 - i))) (22 * kcap Q (Q.R + 8 * (n - i) + 1) + 2 * qcap V (V.us + (n + 12 - i))) (va_A [(mo, .inr (13, MF 30 (rf (rs v Q o) i br))), (qx, .inl (cB, NN, .inl f)), (Q.qq, .inl (cI, (8 * Q.C), .inl Q.qf)), (Q.qe, .inl (cL, (3 * Q.C), .inr (.inl Q.ef))), (tv, .inr (12, MF 13 (tw V))), (V.au, .inl (cC, V.U, .inl V.un))] sz.size) := by sorry
end
section
theorem w_1439 : (.methodLink "QueryBenchModel" 307 ⟨"QueryBenchModel", "and", "()I"⟩ : Cond) ∈ gtbl := by sorry
theorem w_1441 : (.instanceMethod ⟨"QueryBenchModel", "and", "()I"⟩ : Cond) ∈ gtbl := by sorry
theorem w_1443 : (.methodLink "QueryBenchModel" 312 ⟨"QueryBenchModel", "basic", "()I"⟩ : Cond) ∈ gtbl := by sorry
theorem w_1445 : (.instanceMethod ⟨"QueryBenchModel", "basic", "()I"⟩ : Cond) ∈ gtbl := by sorry
abbrev b_Mo_and : ByteArray := prog_14_method_45_code
def y_Mo_and : MethodName := ⟨"QueryBenchModel", "and", "()I"⟩
abbrev k_Mo_and : Cond := .code y_Mo_and b_Mo_and 5 (some .int)
theorem i_Mo_and : k_Mo_and ∈ gtbl := by sorry
theorem d_Mo_and_0 : decode b_Mo_and 0 = .ok (.aload_n 0, 1) := by sorry
theorem d_Mo_and_1 : decode b_Mo_and 1 = .ok (.bipush 31, 2) := by sorry
theorem d_Mo_and_3 : decode b_Mo_and 3 = .ok (.invokevirtual 269, 3) := by sorry
theorem d_Mo_and_6 : decode b_Mo_and 6 = .ok (.istore_n 1, 1) := by sorry
theorem d_Mo_and_7 : decode b_Mo_and 7 = .ok (.iconst (-1), 1) := by sorry
theorem d_Mo_and_8 : decode b_Mo_and 8 = .ok (.istore_n 2, 1) := by sorry
theorem d_Mo_and_9 : decode b_Mo_and 9 = .ok (.aload_n 0, 1) := by sorry
theorem d_Mo_and_10 : decode b_Mo_and 10 = .ok (.invokevirtual 312, 3) := by sorry
theorem d_Mo_and_13 : decode b_Mo_and 13 = .ok (.istore_n 3, 1) := by sorry
theorem d_Mo_and_14 : decode b_Mo_and 14 = .ok (.iload_n 3, 1) := by sorry
theorem d_Mo_and_15 : decode b_Mo_and 15 = .ok (.ifCond .ge 5, 3) := by sorry
theorem d_Mo_and_18 : decode b_Mo_and 18 = .ok (.iconst (-1), 1) := by sorry
theorem d_Mo_and_19 : decode b_Mo_and 19 = .ok (.ireturn, 1) := by sorry
theorem d_Mo_and_20 : decode b_Mo_and 20 = .ok (.iload_n 2, 1) := by sorry
theorem d_Mo_and_21 : decode b_Mo_and 21 = .ok (.ifCond .ge 13, 3) := by sorry
theorem d_Mo_and_24 : decode b_Mo_and 24 = .ok (.aload_n 0, 1) := by sorry
theorem d_Mo_and_25 : decode b_Mo_and 25 = .ok (.iload_n 1, 1) := by sorry
theorem d_Mo_and_26 : decode b_Mo_and 26 = .ok (.iconst 2, 1) := by sorry
theorem d_Mo_and_27 : decode b_Mo_and 27 = .ok (.iload_n 3, 1) := by sorry
theorem d_Mo_and_28 : decode b_Mo_and 28 = .ok (.invokevirtual 272, 3) := by sorry
theorem d_Mo_and_31 : decode b_Mo_and 31 = .ok (.goto 10, 3) := by sorry
theorem d_Mo_and_34 : decode b_Mo_and 34 = .ok (.aload_n 0, 1) := by sorry
theorem d_Mo_and_35 : decode b_Mo_and 35 = .ok (.iload_n 2, 1) := by sorry
theorem d_Mo_and_36 : decode b_Mo_and 36 = .ok (.iconst 1, 1) := by sorry
theorem d_Mo_and_37 : decode b_Mo_and 37 = .ok (.iload_n 3, 1) := by sorry
theorem d_Mo_and_38 : decode b_Mo_and 38 = .ok (.invokevirtual 272, 3) := by sorry
theorem d_Mo_and_41 : decode b_Mo_and 41 = .ok (.iload_n 3, 1) := by sorry
theorem d_Mo_and_42 : decode b_Mo_and 42 = .ok (.istore_n 2, 1) := by sorry
theorem d_Mo_and_43 : decode b_Mo_and 43 = .ok (.aload_n 0, 1) := by sorry
theorem d_Mo_and_44 : decode b_Mo_and 44 = .ok (.getfield 135, 3) := by sorry
theorem d_Mo_and_47 : decode b_Mo_and 47 = .ok (.istore 4, 2) := by sorry
theorem d_Mo_and_49 : decode b_Mo_and 49 = .ok (.aload_n 0, 1) := by sorry
theorem d_Mo_and_50 : decode b_Mo_and 50 = .ok (.invokevirtual 184, 3) := by sorry
theorem d_Mo_and_53 : decode b_Mo_and 53 = .ok (.aload_n 0, 1) := by sorry
theorem d_Mo_and_54 : decode b_Mo_and 54 = .ok (.invokevirtual 147, 3) := by sorry
theorem d_Mo_and_57 : decode b_Mo_and 57 = .ok (.bipush 38, 2) := by sorry
theorem d_Mo_and_59 : decode b_Mo_and 59 = .ok (.if_icmp .eq 11, 3) := by sorry
theorem d_Mo_and_62 : decode b_Mo_and 62 = .ok (.aload_n 0, 1) := by sorry
theorem d_Mo_and_63 : decode b_Mo_and 63 = .ok (.iload 4, 2) := by sorry
theorem d_Mo_and_65 : decode b_Mo_and 65 = .ok (.putfield 135, 3) := by sorry
theorem d_Mo_and_68 : decode b_Mo_and 68 = .ok (.iload_n 1, 1) := by sorry
theorem d_Mo_and_69 : decode b_Mo_and 69 = .ok (.ireturn, 1) := by sorry
theorem d_Mo_and_70 : decode b_Mo_and 70 = .ok (.aload_n 0, 1) := by sorry
theorem d_Mo_and_71 : decode b_Mo_and 71 = .ok (.ldc_w 315, 3) := by sorry
theorem d_Mo_and_74 : decode b_Mo_and 74 = .ok (.invokevirtual 193, 3) := by sorry
theorem d_Mo_and_77 : decode b_Mo_and 77 = .ok (.ifCond .ne 5, 3) := by sorry
theorem d_Mo_and_80 : decode b_Mo_and 80 = .ok (.iconst (-1), 1) := by sorry
theorem d_Mo_and_81 : decode b_Mo_and 81 = .ok (.ireturn, 1) := by sorry
theorem d_Mo_and_82 : decode b_Mo_and 82 = .ok (.aload_n 0, 1) := by sorry
theorem d_Mo_and_83 : decode b_Mo_and 83 = .ok (.invokevirtual 184, 3) := by sorry
theorem d_Mo_and_86 : decode b_Mo_and 86 = .ok (.goto (-77), 3) := by sorry
theorem d_Mo_or_0 : decode b_Mo_or 0 = .ok (.aload_n 0, 1) := by sorry
theorem d_Mo_or_1 : decode b_Mo_or 1 = .ok (.bipush 30, 2) := by sorry
theorem d_Mo_or_3 : decode b_Mo_or 3 = .ok (.invokevirtual 269, 3) := by sorry
theorem d_Mo_or_6 : decode b_Mo_or 6 = .ok (.istore_n 1, 1) := by sorry
theorem d_Mo_or_7 : decode b_Mo_or 7 = .ok (.iconst (-1), 1) := by sorry
theorem d_Mo_or_8 : decode b_Mo_or 8 = .ok (.istore_n 2, 1) := by sorry
theorem d_Mo_or_9 : decode b_Mo_or 9 = .ok (.aload_n 0, 1) := by sorry
theorem d_Mo_or_10 : decode b_Mo_or 10 = .ok (.invokevirtual 307, 3) := by sorry
theorem d_Mo_or_13 : decode b_Mo_or 13 = .ok (.istore_n 3, 1) := by sorry
theorem d_Mo_or_14 : decode b_Mo_or 14 = .ok (.iload_n 3, 1) := by sorry
theorem d_Mo_or_15 : decode b_Mo_or 15 = .ok (.ifCond .ge 5, 3) := by sorry
theorem d_Mo_or_18 : decode b_Mo_or 18 = .ok (.iconst (-1), 1) := by sorry
theorem d_Mo_or_19 : decode b_Mo_or 19 = .ok (.ireturn, 1) := by sorry
theorem d_Mo_or_20 : decode b_Mo_or 20 = .ok (.iload_n 2, 1) := by sorry
theorem d_Mo_or_21 : decode b_Mo_or 21 = .ok (.ifCond .ge 13, 3) := by sorry
theorem d_Mo_or_24 : decode b_Mo_or 24 = .ok (.aload_n 0, 1) := by sorry
theorem d_Mo_or_25 : decode b_Mo_or 25 = .ok (.iload_n 1, 1) := by sorry
theorem d_Mo_or_26 : decode b_Mo_or 26 = .ok (.iconst 2, 1) := by sorry
theorem d_Mo_or_27 : decode b_Mo_or 27 = .ok (.iload_n 3, 1) := by sorry
theorem d_Mo_or_28 : decode b_Mo_or 28 = .ok (.invokevirtual 272, 3) := by sorry
theorem d_Mo_or_31 : decode b_Mo_or 31 = .ok (.goto 10, 3) := by sorry
theorem d_Mo_or_34 : decode b_Mo_or 34 = .ok (.aload_n 0, 1) := by sorry
theorem d_Mo_or_35 : decode b_Mo_or 35 = .ok (.iload_n 2, 1) := by sorry
theorem d_Mo_or_36 : decode b_Mo_or 36 = .ok (.iconst 1, 1) := by sorry
theorem d_Mo_or_37 : decode b_Mo_or 37 = .ok (.iload_n 3, 1) := by sorry
theorem d_Mo_or_38 : decode b_Mo_or 38 = .ok (.invokevirtual 272, 3) := by sorry
theorem d_Mo_or_41 : decode b_Mo_or 41 = .ok (.iload_n 3, 1) := by sorry
theorem d_Mo_or_42 : decode b_Mo_or 42 = .ok (.istore_n 2, 1) := by sorry
theorem d_Mo_or_43 : decode b_Mo_or 43 = .ok (.aload_n 0, 1) := by sorry
theorem d_Mo_or_44 : decode b_Mo_or 44 = .ok (.getfield 135, 3) := by sorry
theorem d_Mo_or_47 : decode b_Mo_or 47 = .ok (.istore 4, 2) := by sorry
theorem d_Mo_or_49 : decode b_Mo_or 49 = .ok (.aload_n 0, 1) := by sorry
theorem d_Mo_or_50 : decode b_Mo_or 50 = .ok (.invokevirtual 184, 3) := by sorry
theorem d_Mo_or_53 : decode b_Mo_or 53 = .ok (.aload_n 0, 1) := by sorry
theorem d_Mo_or_54 : decode b_Mo_or 54 = .ok (.invokevirtual 147, 3) := by sorry
theorem d_Mo_or_57 : decode b_Mo_or 57 = .ok (.bipush 124, 2) := by sorry
theorem d_Mo_or_59 : decode b_Mo_or 59 = .ok (.if_icmp .eq 11, 3) := by sorry
theorem d_Mo_or_62 : decode b_Mo_or 62 = .ok (.aload_n 0, 1) := by sorry
theorem d_Mo_or_63 : decode b_Mo_or 63 = .ok (.iload 4, 2) := by sorry
theorem d_Mo_or_65 : decode b_Mo_or 65 = .ok (.putfield 135, 3) := by sorry
theorem d_Mo_or_68 : decode b_Mo_or 68 = .ok (.iload_n 1, 1) := by sorry
theorem d_Mo_or_69 : decode b_Mo_or 69 = .ok (.ireturn, 1) := by sorry
theorem d_Mo_or_70 : decode b_Mo_or 70 = .ok (.aload_n 0, 1) := by sorry
theorem d_Mo_or_71 : decode b_Mo_or 71 = .ok (.ldc_w 310, 3) := by sorry
theorem d_Mo_or_74 : decode b_Mo_or 74 = .ok (.invokevirtual 193, 3) := by sorry
theorem d_Mo_or_77 : decode b_Mo_or 77 = .ok (.ifCond .ne 5, 3) := by sorry
theorem d_Mo_or_80 : decode b_Mo_or 80 = .ok (.iconst (-1), 1) := by sorry
theorem d_Mo_or_81 : decode b_Mo_or 81 = .ok (.ireturn, 1) := by sorry
theorem d_Mo_or_82 : decode b_Mo_or 82 = .ok (.aload_n 0, 1) := by sorry
theorem d_Mo_or_83 : decode b_Mo_or 83 = .ok (.invokevirtual 184, 3) := by sorry
theorem d_Mo_or_86 : decode b_Mo_or 86 = .ok (.goto (-77), 3) := by sorry
set_option maxHeartbeats 4000000 in
set_option maxRecDepth 100000 in
/-- the reference: and -/
theorem c_and (orL : (Nat → Int32) → Nat → Nat → Option (Nat × CT)) (cmL : (Nat → Int32) → Nat → Nat → Option (Nat × OT)) (qyL : (Nat → Int32) → Nat → Bool → Nat → Option (Nat × Bool × QT)) (O : QP CT) (C : QP OT) (Y : QP QT) (G M : Nat) (hOf : Frm 8 O) (hCf : Frm 8 C) (hYf : Frm 8 Y) (l : Launch) (dC : Nat → ClassId) (dI : Nat → Nat → Nat) (mo : Nat) (sz : Heap) (v : Nat → Value) (cB cI cL cC : ClassId) (qx NN : Nat) (f : Nat → Int32) (n : Nat) (K : Nat → Nat × Nat) (tv : Nat) (Q : QS) (V : TS) (o i : Nat) (br : Int32) (ok : Bool) (hok : ok = true ↔ ¬ o = 16) (ho16 : o ≤ 16) (hOR : ¬ o = 16 → ORC orL O (o + 1) (15 + G) (600 + M)) (hCM : ¬ o = 16 → CMC cmL C (o + 1) (11 + G) (400 + M)) (hQY : ¬ o = 16 → QYC qyL Y (o + 1) (10 + G) (320 + M)) (hnN : n ≤ NN) (hNN : NN ≤ 4096) (hi0 : i ≤ n) (h6 : v 6 = .ref qx) (h8 : v 8 = .int (nI n)) (h22 : v 22 = .ref tv) (hQ : QOK Q) (hV : TOK V) (hcu : V.us + (n + 12 - i) ≤ 400000) (hcr : Q.R + 8 * (n - i) + 2 ≤ 40000) : Met l y_Mo_and (k_Mo_and :: gtbl) ({ frames := 14 + (15 + G), cells := kcap Q (Q.R + 8 * (n - i) + 2) + qcap V (V.us + (n + 12 - i)), slots := 22 * kcap Q (Q.R + 8 * (n - i) + 2) + 2 * qcap V (V.us + (n + 12 - i)), locals := 550 + (600 + M) }) (va_Pc [.ref mo] (me K dC dI [(mo, .inr (13, MF 30 (rf (rs v Q o) i br))), (qx, .inl (cB, NN, .inl f)), (Q.qq, .inl (cI, (8 * Q.C), .inl Q.qf)), (Q.qe, .inl (cL, (3 * Q.C), .inr (.inl Q.ef))), (tv, .inr (12, MF 13 (tw V))), (V.au, .inl (cC, V.U, .inl V.un))] [(cB, .byte), (cI, .int), (cL, .long), (cC, .char)] sz)) (va_Qi (fun (res : Int32) (u : QS × TS × Nat × Int32 × Nat) => BAo (anP f n ok (orL f n) (cmL f n) (qyL f n)) (ANDf O C Y) n i 2 4 o Q V res u) (fun u t9 => mz dC dI [(mo, .inr (13, MF 30 (rf (rs v u.1 u.2.2.2.2) u.2.2.1 u.2.2.2.1))), (qx, .inl (cB, NN, .inl f)), (u.1.qq, .inl (cI, (8 * u.1.C), .inl u.1.qf)), (u.1.qe, .inl (cL, (3 * u.1.C), .inr (.inl u.1.ef))), (tv, .inr (12, MF 13 (tw u.2.1))), (u.2.1.au, .inl (cC, u.2.1.U, .inl u.2.1.un))] [(cB, .byte), (cI, .int), (cL, .long), (cC, .char)] (va_A [(mo, .inr (13, MF 30 (rf (rs v Q o) i br))), (qx, .inl (cB, NN, .inl f)), (Q.qq, .inl (cI, (8 * Q.C), .inl Q.qf)), (Q.qe, .inl (cL, (3 * Q.C), .inr (.inl Q.ef))), (tv, .inr (12, MF 13 (tw V))), (V.au, .inl (cC, V.U, .inl V.un))] sz.size) t9 ∧ szk sz t9.heap (cQ Q V u.1 u.2.1) (sQ Q V u.1 u.2.1)) (va_A [(mo, .inr (13, MF 30 (rf (rs v Q o) i br))), (qx, .inl (cB, NN, .inl f)), (Q.qq, .inl (cI, (8 * Q.C), .inl Q.qf)), (Q.qe, .inl (cL, (3 * Q.C), .inr (.inl Q.ef))), (tv, .inr (12, MF 13 (tw V))), (V.au, .inl (cC, V.U, .inl V.un))] sz.size)) (kcap Q (Q.R + 8 * (n - i) + 2) + qcap V (V.us + (n + 12 - i))) (22 * kcap Q (Q.R + 8 * (n - i) + 2) + 2 * qcap V (V.us + (n + 12 - i))) (va_A [(mo, .inr (13, MF 30 (rf (rs v Q o) i br))), (qx, .inl (cB, NN, .inl f)), (Q.qq, .inl (cI, (8 * Q.C), .inl Q.qf)), (Q.qe, .inl (cL, (3 * Q.C), .inr (.inl Q.ef))), (tv, .inr (12, MF 13 (tw V))), (V.au, .inl (cC, V.U, .inl V.un))] sz.size) := by sorry
set_option maxHeartbeats 4000000 in
set_option maxRecDepth 100000 in
/-- the reference: or -/
theorem c_or (orL : (Nat → Int32) → Nat → Nat → Option (Nat × CT)) (cmL : (Nat → Int32) → Nat → Nat → Option (Nat × OT)) (qyL : (Nat → Int32) → Nat → Bool → Nat → Option (Nat × Bool × QT)) (O : QP CT) (C : QP OT) (Y : QP QT) (G M : Nat) (hOf : Frm 8 O) (hCf : Frm 8 C) (hYf : Frm 8 Y) (l : Launch) (dC : Nat → ClassId) (dI : Nat → Nat → Nat) (mo : Nat) (sz : Heap) (v : Nat → Value) (cB cI cL cC : ClassId) (qx NN : Nat) (f : Nat → Int32) (n : Nat) (K : Nat → Nat × Nat) (tv : Nat) (Q : QS) (V : TS) (o i : Nat) (br : Int32) (ok : Bool) (hok : ok = true ↔ ¬ o = 16) (ho16 : o ≤ 16) (hOR : ¬ o = 16 → ORC orL O (o + 1) (15 + G) (600 + M)) (hCM : ¬ o = 16 → CMC cmL C (o + 1) (11 + G) (400 + M)) (hQY : ¬ o = 16 → QYC qyL Y (o + 1) (10 + G) (320 + M)) (hnN : n ≤ NN) (hNN : NN ≤ 4096) (hi0 : i ≤ n) (h6 : v 6 = .ref qx) (h8 : v 8 = .int (nI n)) (h22 : v 22 = .ref tv) (hQ : QOK Q) (hV : TOK V) (hcu : V.us + (n + 12 - i) ≤ 400000) (hcr : Q.R + 8 * (n - i) + 3 ≤ 40000) : Met l y_Mo_or (k_Mo_or :: gtbl) ({ frames := 15 + (15 + G), cells := kcap Q (Q.R + 8 * (n - i) + 3) + qcap V (V.us + (n + 12 - i)), slots := 22 * kcap Q (Q.R + 8 * (n - i) + 3) + 2 * qcap V (V.us + (n + 12 - i)), locals := 600 + (600 + M) }) (va_Pc [.ref mo] (me K dC dI [(mo, .inr (13, MF 30 (rf (rs v Q o) i br))), (qx, .inl (cB, NN, .inl f)), (Q.qq, .inl (cI, (8 * Q.C), .inl Q.qf)), (Q.qe, .inl (cL, (3 * Q.C), .inr (.inl Q.ef))), (tv, .inr (12, MF 13 (tw V))), (V.au, .inl (cC, V.U, .inl V.un))] [(cB, .byte), (cI, .int), (cL, .long), (cC, .char)] sz)) (va_Qi (fun (res : Int32) (u : QS × TS × Nat × Int32 × Nat) => ORo (orP f n ok (orL f n) (cmL f n) (qyL f n)) (ORf O C Y) n i 3 3 o Q V res u) (fun u t9 => mz dC dI [(mo, .inr (13, MF 30 (rf (rs v u.1 u.2.2.2.2) u.2.2.1 u.2.2.2.1))), (qx, .inl (cB, NN, .inl f)), (u.1.qq, .inl (cI, (8 * u.1.C), .inl u.1.qf)), (u.1.qe, .inl (cL, (3 * u.1.C), .inr (.inl u.1.ef))), (tv, .inr (12, MF 13 (tw u.2.1))), (u.2.1.au, .inl (cC, u.2.1.U, .inl u.2.1.un))] [(cB, .byte), (cI, .int), (cL, .long), (cC, .char)] (va_A [(mo, .inr (13, MF 30 (rf (rs v Q o) i br))), (qx, .inl (cB, NN, .inl f)), (Q.qq, .inl (cI, (8 * Q.C), .inl Q.qf)), (Q.qe, .inl (cL, (3 * Q.C), .inr (.inl Q.ef))), (tv, .inr (12, MF 13 (tw V))), (V.au, .inl (cC, V.U, .inl V.un))] sz.size) t9 ∧ szk sz t9.heap (cQ Q V u.1 u.2.1) (sQ Q V u.1 u.2.1)) (va_A [(mo, .inr (13, MF 30 (rf (rs v Q o) i br))), (qx, .inl (cB, NN, .inl f)), (Q.qq, .inl (cI, (8 * Q.C), .inl Q.qf)), (Q.qe, .inl (cL, (3 * Q.C), .inr (.inl Q.ef))), (tv, .inr (12, MF 13 (tw V))), (V.au, .inl (cC, V.U, .inl V.un))] sz.size)) (kcap Q (Q.R + 8 * (n - i) + 3) + qcap V (V.us + (n + 12 - i))) (22 * kcap Q (Q.R + 8 * (n - i) + 3) + 2 * qcap V (V.us + (n + 12 - i))) (va_A [(mo, .inr (13, MF 30 (rf (rs v Q o) i br))), (qx, .inl (cB, NN, .inl f)), (Q.qq, .inl (cI, (8 * Q.C), .inl Q.qf)), (Q.qe, .inl (cL, (3 * Q.C), .inr (.inl Q.ef))), (tv, .inr (12, MF 13 (tw V))), (V.au, .inl (cC, V.U, .inl V.un))] sz.size) := by sorry
end
section
set_option maxHeartbeats 4000000 in
set_option maxRecDepth 100000 in
/-- the reference's reader of queries, d brackets may still be opened -/
theorem c_lvl0 : ORC (fun f n => (DDf f n 0).1) (DDp 0).1 16 (15 + (15 + 0)) (600 + (600 + 0)) ∧ CMC (fun f n => (DDf f n 0).2.1) (DDp 0).2.1 16 (11 + (15 + 0)) (400 + (600 + 0)) ∧ QYC (fun f n => (DDf f n 0).2.2) (DDp 0).2.2 16 (10 + (15 + 0)) (320 + (600 + 0)) := by sorry
set_option maxHeartbeats 4000000 in
set_option maxRecDepth 100000 in
theorem c_lvlS (d G M : Nat) (hd : d + 1 ≤ 16) (h1 : ORC (fun f n => (DDf f n d).1) (DDp d).1 (16 - (d + 1) + 1) (15 + G) (600 + M)) (h2 : CMC (fun f n => (DDf f n d).2.1) (DDp d).2.1 (16 - (d + 1) + 1) (11 + G) (400 + M)) (h3 : QYC (fun f n => (DDf f n d).2.2) (DDp d).2.2 (16 - (d + 1) + 1) (10 + G) (320 + M)) : ORC (fun f n => (DDf f n (d + 1)).1) (DDp (d + 1)).1 (16 - (d + 1)) (15 + (15 + G)) (600 + (600 + M)) ∧ CMC (fun f n => (DDf f n (d + 1)).2.1) (DDp (d + 1)).2.1 (16 - (d + 1)) (11 + (15 + G)) (400 + (600 + M)) ∧ QYC (fun f n => (DDf f n (d + 1)).2.2) (DDp (d + 1)).2.2 (16 - (d + 1)) (10 + (15 + G)) (320 + (600 + M)) := by sorry
theorem c_lvl : ∀ d, d ≤ 16 → ORC (fun f n => (DDf f n d).1) (DDp d).1 (16 - d) (15 + (15 + 15 * d)) (600 + (600 + 600 * d)) ∧ CMC (fun f n => (DDf f n d).2.1) (DDp d).2.1 (16 - d) (11 + (15 + 15 * d)) (400 + (600 + 600 * d)) ∧ QYC (fun f n => (DDf f n d).2.2) (DDp d).2.2 (16 - d) (10 + (15 + 15 * d)) (320 + (600 + 600 * d)) := by sorry
end
section
def TS.clr (T : TS) : TS := (TS.mk T.N T.U 0 0 T.a0 T.a1 T.a2 T.a3 T.a4 T.a5 T.a6 T.a7 T.a8 T.a9 T.au T.kd T.st T.ln T.ki T.nx T.ns T.nl T.pa T.pl T.un T.nu)
def QS.clr (Q : QS) : QS := QS.mk Q.C 0 Q.qq Q.qe Q.qf Q.ef
theorem tx_rs {v : Nat → Value} {Q : QS} {qx n : Nat} (h19 : v 19 = .ref Q.qq) (h20 : v 20 = .ref Q.qe) (hR : Q.R = 0) : va_up (va_up (va_up (va_up (va_up (va_up v 6 (.ref qx)) 7 (.int 0)) 8 (.int (nI n))) 9 (.int (-1))) 21 (.int 0)) 23 (.int 0) = rf (rs (tx v qx n) Q 0) 0 (-1) := by sorry
def RQo (f : Nat → Int32) (n i : Nat) (Q : QS) (V : TS) (res : Int32) (u : QS × TS × Nat × Int32 × Nat) : Prop := QPo n i 9 Q V u ∧ ((∃ fl m, res = 0 ∧ pQ f n = some (fl, m) ∧ QRYp (DDp 15).1 u.1 u.2.1 0 u.1.R 0 m ∧ u.1.qf (8 * 0 + 3) = (if fl = true then 1 else 0) ∧ 0 < u.1.R ∧ u.1.R ≤ 8 * n + 1 ∧ u.2.1.us ≤ n) ∨ (res = -1 ∧ pQ f n = none))
abbrev b_Mo_readQuery : ByteArray := prog_14_method_51_code
def y_Mo_readQuery : MethodName := ⟨"QueryBenchModel", "readQuery", "([BI)I"⟩
abbrev k_Mo_readQuery : Cond := .code y_Mo_readQuery b_Mo_readQuery 4 (some .int)
theorem i_Mo_readQuery : k_Mo_readQuery ∈ gtbl := by sorry
theorem d_Mo_readQuery_0 : decode b_Mo_readQuery 0 = .ok (.aload_n 0, 1) := by sorry
theorem d_Mo_readQuery_1 : decode b_Mo_readQuery 1 = .ok (.aload_n 1, 1) := by sorry
theorem d_Mo_readQuery_2 : decode b_Mo_readQuery 2 = .ok (.putfield 141, 3) := by sorry
theorem d_Mo_readQuery_5 : decode b_Mo_readQuery 5 = .ok (.aload_n 0, 1) := by sorry
theorem d_Mo_readQuery_6 : decode b_Mo_readQuery 6 = .ok (.iconst 0, 1) := by sorry
theorem d_Mo_readQuery_7 : decode b_Mo_readQuery 7 = .ok (.putfield 135, 3) := by sorry
theorem d_Mo_readQuery_10 : decode b_Mo_readQuery 10 = .ok (.aload_n 0, 1) := by sorry
theorem d_Mo_readQuery_11 : decode b_Mo_readQuery 11 = .ok (.iload_n 2, 1) := by sorry
theorem d_Mo_readQuery_12 : decode b_Mo_readQuery 12 = .ok (.putfield 138, 3) := by sorry
theorem d_Mo_readQuery_15 : decode b_Mo_readQuery 15 = .ok (.aload_n 0, 1) := by sorry
theorem d_Mo_readQuery_16 : decode b_Mo_readQuery 16 = .ok (.iconst (-1), 1) := by sorry
theorem d_Mo_readQuery_17 : decode b_Mo_readQuery 17 = .ok (.putfield 144, 3) := by sorry
theorem d_Mo_readQuery_20 : decode b_Mo_readQuery 20 = .ok (.aload_n 0, 1) := by sorry
theorem d_Mo_readQuery_21 : decode b_Mo_readQuery 21 = .ok (.iconst 0, 1) := by sorry
theorem d_Mo_readQuery_22 : decode b_Mo_readQuery 22 = .ok (.putfield 263, 3) := by sorry
theorem d_Mo_readQuery_25 : decode b_Mo_readQuery 25 = .ok (.aload_n 0, 1) := by sorry
theorem d_Mo_readQuery_26 : decode b_Mo_readQuery 26 = .ok (.iconst 0, 1) := by sorry
theorem d_Mo_readQuery_27 : decode b_Mo_readQuery 27 = .ok (.putfield 266, 3) := by sorry
theorem d_Mo_readQuery_30 : decode b_Mo_readQuery 30 = .ok (.aload_n 0, 1) := by sorry
theorem d_Mo_readQuery_31 : decode b_Mo_readQuery 31 = .ok (.getfield 56, 3) := by sorry
theorem d_Mo_readQuery_34 : decode b_Mo_readQuery 34 = .ok (.invokevirtual 229, 3) := by sorry
theorem d_Mo_readQuery_37 : decode b_Mo_readQuery 37 = .ok (.aload_n 0, 1) := by sorry
theorem d_Mo_readQuery_38 : decode b_Mo_readQuery 38 = .ok (.bipush 36, 2) := by sorry
theorem d_Mo_readQuery_40 : decode b_Mo_readQuery 40 = .ok (.invokevirtual 163, 3) := by sorry
theorem d_Mo_readQuery_43 : decode b_Mo_readQuery 43 = .ok (.ifCond .ne 5, 3) := by sorry
theorem d_Mo_readQuery_46 : decode b_Mo_readQuery 46 = .ok (.iconst (-1), 1) := by sorry
theorem d_Mo_readQuery_47 : decode b_Mo_readQuery 47 = .ok (.ireturn, 1) := by sorry
theorem d_Mo_readQuery_48 : decode b_Mo_readQuery 48 = .ok (.aload_n 0, 1) := by sorry
theorem d_Mo_readQuery_49 : decode b_Mo_readQuery 49 = .ok (.iconst 1, 1) := by sorry
theorem d_Mo_readQuery_50 : decode b_Mo_readQuery 50 = .ok (.iconst 0, 1) := by sorry
theorem d_Mo_readQuery_51 : decode b_Mo_readQuery 51 = .ok (.invokevirtual 317, 3) := by sorry
theorem d_Mo_readQuery_54 : decode b_Mo_readQuery 54 = .ok (.istore_n 3, 1) := by sorry
theorem d_Mo_readQuery_55 : decode b_Mo_readQuery 55 = .ok (.iload_n 3, 1) := by sorry
theorem d_Mo_readQuery_56 : decode b_Mo_readQuery 56 = .ok (.ifCond .ge 5, 3) := by sorry
theorem d_Mo_readQuery_59 : decode b_Mo_readQuery 59 = .ok (.iconst (-1), 1) := by sorry
theorem d_Mo_readQuery_60 : decode b_Mo_readQuery 60 = .ok (.ireturn, 1) := by sorry
theorem d_Mo_readQuery_61 : decode b_Mo_readQuery 61 = .ok (.aload_n 0, 1) := by sorry
theorem d_Mo_readQuery_62 : decode b_Mo_readQuery 62 = .ok (.getfield 135, 3) := by sorry
theorem d_Mo_readQuery_65 : decode b_Mo_readQuery 65 = .ok (.aload_n 0, 1) := by sorry
theorem d_Mo_readQuery_66 : decode b_Mo_readQuery 66 = .ok (.getfield 138, 3) := by sorry
theorem d_Mo_readQuery_69 : decode b_Mo_readQuery 69 = .ok (.if_icmp .ge 18, 3) := by sorry
theorem d_Mo_readQuery_72 : decode b_Mo_readQuery 72 = .ok (.aload_n 0, 1) := by sorry
theorem d_Mo_readQuery_73 : decode b_Mo_readQuery 73 = .ok (.invokevirtual 184, 3) := by sorry
theorem d_Mo_readQuery_76 : decode b_Mo_readQuery 76 = .ok (.aload_n 0, 1) := by sorry
theorem d_Mo_readQuery_77 : decode b_Mo_readQuery 77 = .ok (.aload_n 0, 1) := by sorry
theorem d_Mo_readQuery_78 : decode b_Mo_readQuery 78 = .ok (.getfield 135, 3) := by sorry
theorem d_Mo_readQuery_81 : decode b_Mo_readQuery 81 = .ok (.invokevirtual 151, 3) := by sorry
theorem d_Mo_readQuery_84 : decode b_Mo_readQuery 84 = .ok (.pop, 1) := by sorry
theorem d_Mo_readQuery_85 : decode b_Mo_readQuery 85 = .ok (.iconst (-1), 1) := by sorry
theorem d_Mo_readQuery_86 : decode b_Mo_readQuery 86 = .ok (.ireturn, 1) := by sorry
theorem d_Mo_readQuery_87 : decode b_Mo_readQuery 87 = .ok (.iload_n 3, 1) := by sorry
theorem d_Mo_readQuery_88 : decode b_Mo_readQuery 88 = .ok (.ireturn, 1) := by sorry
set_option maxHeartbeats 4000000 in
set_option maxRecDepth 100000 in
/-- the reference: readQuery -/
theorem c_Mo_readQuery (l : Launch) (dC : Nat → ClassId) (dI : Nat → Nat → Nat) (mo : Nat) (sz : Heap) (v0 : Nat → Value) (cB cI cL cC : ClassId) (qx NN : Nat) (f : Nat → Int32) (n : Nat) (K : Nat → Nat × Nat) (tv : Nat) (Q : QS) (VA V : TS) (i : Nat) (hnN : n ≤ NN) (hNN : NN ≤ 4096) (hQ : QOK Q) (hV : TOK V) (eQR : Q.R = 0) (eV : V = VA.clr) (ei : i = 0) (h19 : v0 19 = .ref Q.qq) (h20 : v0 20 = .ref Q.qe) (h22 : v0 22 = .ref tv) : Met l y_Mo_readQuery (k_Mo_readQuery :: gtbl) ({ frames := 270, cells := kcap Q (Q.R + 8 * (n - i) + 9) + qcap V (V.us + (n + 12 - i)), slots := 22 * kcap Q (Q.R + 8 * (n - i) + 9) + 2 * qcap V (V.us + (n + 12 - i)), locals := 10700 }) (va_Pc [.ref mo, .ref qx, .int (nI n)] (me K dC dI [(mo, .inr (13, MF 30 v0)), (qx, .inl (cB, NN, .inl f)), (Q.qq, .inl (cI, (8 * Q.C), .inl Q.qf)), (Q.qe, .inl (cL, (3 * Q.C), .inr (.inl Q.ef))), (tv, .inr (12, MF 13 (tw VA))), (V.au, .inl (cC, V.U, .inl V.un))] [(cB, .byte), (cI, .int), (cL, .long), (cC, .char)] sz)) (va_Qi (fun (res : Int32) (u : QS × TS × Nat × Int32 × Nat) => RQo f n i Q V res u) (fun u t9 => mz dC dI [(mo, .inr (13, MF 30 (rf (rs (tx v0 qx n) u.1 u.2.2.2.2) u.2.2.1 u.2.2.2.1))), (qx, .inl (cB, NN, .inl f)), (u.1.qq, .inl (cI, (8 * u.1.C), .inl u.1.qf)), (u.1.qe, .inl (cL, (3 * u.1.C), .inr (.inl u.1.ef))), (tv, .inr (12, MF 13 (tw u.2.1))), (u.2.1.au, .inl (cC, u.2.1.U, .inl u.2.1.un))] [(cB, .byte), (cI, .int), (cL, .long), (cC, .char)] (va_A [(mo, .inr (13, MF 30 v0)), (qx, .inl (cB, NN, .inl f)), (Q.qq, .inl (cI, (8 * Q.C), .inl Q.qf)), (Q.qe, .inl (cL, (3 * Q.C), .inr (.inl Q.ef))), (tv, .inr (12, MF 13 (tw VA))), (V.au, .inl (cC, V.U, .inl V.un))] sz.size) t9 ∧ szk sz t9.heap (cQ Q V u.1 u.2.1) (sQ Q V u.1 u.2.1)) (va_A [(mo, .inr (13, MF 30 v0)), (qx, .inl (cB, NN, .inl f)), (Q.qq, .inl (cI, (8 * Q.C), .inl Q.qf)), (Q.qe, .inl (cL, (3 * Q.C), .inr (.inl Q.ef))), (tv, .inr (12, MF 13 (tw VA))), (V.au, .inl (cC, V.U, .inl V.un))] sz.size)) (kcap Q (Q.R + 8 * (n - i) + 9) + qcap V (V.us + (n + 12 - i))) (22 * kcap Q (Q.R + 8 * (n - i) + 9) + 2 * qcap V (V.us + (n + 12 - i))) (va_A [(mo, .inr (13, MF 30 v0)), (qx, .inl (cB, NN, .inl f)), (Q.qq, .inl (cI, (8 * Q.C), .inl Q.qf)), (Q.qe, .inl (cL, (3 * Q.C), .inr (.inl Q.ef))), (tv, .inr (12, MF 13 (tw VA))), (V.au, .inl (cC, V.U, .inl V.un))] sz.size) := by sorry
end
section
theorem w_1105 : (.fieldLink "QueryBenchModel" 36 "QueryBenchModel" "queryText" "[B" : Cond) ∈ gtbl := by sorry
theorem w_1106 : (.fieldLink "QueryBenchModel" 39 "QueryBenchModel" "queryLength" "I" : Cond) ∈ gtbl := by sorry
theorem w_1399 : (.methodLink "QueryBenchModel" 416 ⟨"QueryBenchModel", "readQuery", "([BI)I"⟩ : Cond) ∈ gtbl := by sorry
theorem w_1401 : (.instanceMethod ⟨"QueryBenchModel", "readQuery", "([BI)I"⟩ : Cond) ∈ gtbl := by sorry
section
variable {f g : Nat → Int32} {n : Nat}
/-- two texts of the same n bytes -/
theorem hereV_cg (h : ∀ j, j < n → f j = g j) : hereV f n = hereV g n := by sorry
theorem skipH_cg (h : hereV f n = hereV g n) : skipH f n = skipH g n := by sorry
theorem mtB_cg (h : hereV f n = hereV g n) : mtB f n = mtB g n := by sorry
theorem nmE_cg (h : hereV f n = hereV g n) : nmE f n = nmE g n := by sorry
theorem escM_cg (h : hereV f n = hereV g n) : escM f n = escM g n := by sorry
theorem qtQ_cg (hf : ∀ j, j < n → f j = g j) (h : hereV f n = hereV g n) : qtQ f n = qtQ g n := by sorry
theorem whM_cg (h : hereV f n = hereV g n) : whM f n = whM g n := by sorry
theorem selP_cg (hf : ∀ j, j < n → f j = g j) : selP f n = selP g n := by sorry
theorem slsP_cg (hf : ∀ j, j < n → f j = g j) : slsP f n = slsP g n := by sorry
theorem sgP_cg (hf : ∀ j, j < n → f j = g j) : sgP f n = sgP g n := by sorry
theorem qrP_cg (hf : ∀ j, j < n → f j = g j) : qrP f n = qrP g n := by sorry
theorem cmP_cg (hf : ∀ j, j < n → f j = g j) : cmP f n = cmP g n := by sorry
theorem baP_cg (hf : ∀ j, j < n → f j = g j) : baP f n = baP g n := by sorry
theorem liP_cg (hf : ∀ j, j < n → f j = g j) : liP f n = liP g n := by sorry
theorem DDf_cg (hf : ∀ j, j < n → f j = g j) : ∀ d, DDf f n d = DDf g n d := by sorry
/-- R3: the same text is read again -/
theorem pQ_cg (hf : ∀ j, j < n → f j = g j) : pQ f n = pQ g n := by sorry
end
/-- fields of the reference that a read may change -/
abbrev rdF (j : Nat) : Prop := j = 1 ∨ j = 4 ∨ j = 5 ∨ j = 6 ∨ j = 7 ∨ j = 8 ∨ j = 9 ∨ j = 17 ∨ j = 19 ∨ j = 20 ∨ j = 21 ∨ j = 23
def RDR (f : Nat → Int32) (tp : Nat) (res : Int32) (v4 : Value) : Prop := (∃ (fl : Bool) (m : QT), pQ f tp = some (fl, m) ∧ v4 = .int 0 ∧ res = (if fl = true then 1 else 0)) ∨ (pQ f tp = none ∧ v4 = .int 1)
abbrev b_Mo_readQ : ByteArray := prog_14_method_65_code
def y_Mo_readQ : MethodName := ⟨"QueryBenchModel", "read", "()I"⟩
abbrev k_Mo_readQ : Cond := .code y_Mo_readQ b_Mo_readQ 4 (some .int)
theorem i_Mo_readQ : k_Mo_readQ ∈ gtbl := by sorry
theorem d_Mo_readQ_0 : decode b_Mo_readQ 0 = .ok (.aload_n 0, 1) := by sorry
theorem d_Mo_readQ_1 : decode b_Mo_readQ 1 = .ok (.invokevirtual 404, 3) := by sorry
theorem d_Mo_readQ_4 : decode b_Mo_readQ 4 = .ok (.istore_n 1, 1) := by sorry
theorem d_Mo_readQ_5 : decode b_Mo_readQ 5 = .ok (.aload_n 0, 1) := by sorry
theorem d_Mo_readQ_6 : decode b_Mo_readQ 6 = .ok (.iconst (-1), 1) := by sorry
theorem d_Mo_readQ_7 : decode b_Mo_readQ 7 = .ok (.putfield 16, 3) := by sorry
theorem d_Mo_readQ_10 : decode b_Mo_readQ 10 = .ok (.aload_n 0, 1) := by sorry
theorem d_Mo_readQ_11 : decode b_Mo_readQ 11 = .ok (.iconst 0, 1) := by sorry
theorem d_Mo_readQ_12 : decode b_Mo_readQ 12 = .ok (.putfield 116, 3) := by sorry
theorem d_Mo_readQ_15 : decode b_Mo_readQ 15 = .ok (.aload_n 0, 1) := by sorry
theorem d_Mo_readQ_16 : decode b_Mo_readQ 16 = .ok (.aload_n 0, 1) := by sorry
theorem d_Mo_readQ_17 : decode b_Mo_readQ 17 = .ok (.getfield 7, 3) := by sorry
theorem d_Mo_readQ_20 : decode b_Mo_readQ 20 = .ok (.iload_n 1, 1) := by sorry
theorem d_Mo_readQ_21 : decode b_Mo_readQ 21 = .ok (.invokevirtual 416, 3) := by sorry
theorem d_Mo_readQ_24 : decode b_Mo_readQ 24 = .ok (.istore_n 2, 1) := by sorry
theorem d_Mo_readQ_25 : decode b_Mo_readQ 25 = .ok (.iload_n 2, 1) := by sorry
theorem d_Mo_readQ_26 : decode b_Mo_readQ 26 = .ok (.ifCond .ge 18, 3) := by sorry
theorem d_Mo_readQ_29 : decode b_Mo_readQ 29 = .ok (.aload_n 0, 1) := by sorry
theorem d_Mo_readQ_30 : decode b_Mo_readQ 30 = .ok (.aload_n 0, 1) := by sorry
theorem d_Mo_readQ_31 : decode b_Mo_readQ 31 = .ok (.getfield 144, 3) := by sorry
theorem d_Mo_readQ_34 : decode b_Mo_readQ 34 = .ok (.putfield 16, 3) := by sorry
theorem d_Mo_readQ_37 : decode b_Mo_readQ 37 = .ok (.aload_n 0, 1) := by sorry
theorem d_Mo_readQ_38 : decode b_Mo_readQ 38 = .ok (.iconst 1, 1) := by sorry
theorem d_Mo_readQ_39 : decode b_Mo_readQ 39 = .ok (.putfield 116, 3) := by sorry
theorem d_Mo_readQ_42 : decode b_Mo_readQ 42 = .ok (.iconst 0, 1) := by sorry
theorem d_Mo_readQ_43 : decode b_Mo_readQ 43 = .ok (.ireturn, 1) := by sorry
theorem d_Mo_readQ_44 : decode b_Mo_readQ 44 = .ok (.aload_n 0, 1) := by sorry
theorem d_Mo_readQ_45 : decode b_Mo_readQ 45 = .ok (.iload_n 1, 1) := by sorry
theorem d_Mo_readQ_46 : decode b_Mo_readQ 46 = .ok (.putfield 39, 3) := by sorry
theorem d_Mo_readQ_49 : decode b_Mo_readQ 49 = .ok (.iconst 0, 1) := by sorry
theorem d_Mo_readQ_50 : decode b_Mo_readQ 50 = .ok (.istore_n 3, 1) := by sorry
theorem d_Mo_readQ_51 : decode b_Mo_readQ 51 = .ok (.iload_n 3, 1) := by sorry
theorem d_Mo_readQ_52 : decode b_Mo_readQ 52 = .ok (.iload_n 1, 1) := by sorry
theorem d_Mo_readQ_53 : decode b_Mo_readQ 53 = .ok (.if_icmp .ge 21, 3) := by sorry
theorem d_Mo_readQ_56 : decode b_Mo_readQ 56 = .ok (.aload_n 0, 1) := by sorry
theorem d_Mo_readQ_57 : decode b_Mo_readQ 57 = .ok (.getfield 36, 3) := by sorry
theorem d_Mo_readQ_60 : decode b_Mo_readQ 60 = .ok (.iload_n 3, 1) := by sorry
theorem d_Mo_readQ_61 : decode b_Mo_readQ 61 = .ok (.aload_n 0, 1) := by sorry
theorem d_Mo_readQ_62 : decode b_Mo_readQ 62 = .ok (.getfield 7, 3) := by sorry
theorem d_Mo_readQ_65 : decode b_Mo_readQ 65 = .ok (.iload_n 3, 1) := by sorry
theorem d_Mo_readQ_66 : decode b_Mo_readQ 66 = .ok (.baload, 1) := by sorry
theorem d_Mo_readQ_67 : decode b_Mo_readQ 67 = .ok (.bastore, 1) := by sorry
theorem d_Mo_readQ_68 : decode b_Mo_readQ 68 = .ok (.iinc 3 1, 3) := by sorry
theorem d_Mo_readQ_71 : decode b_Mo_readQ 71 = .ok (.goto (-20), 3) := by sorry
theorem d_Mo_readQ_74 : decode b_Mo_readQ 74 = .ok (.aload_n 0, 1) := by sorry
theorem d_Mo_readQ_75 : decode b_Mo_readQ 75 = .ok (.iload_n 2, 1) := by sorry
theorem d_Mo_readQ_76 : decode b_Mo_readQ 76 = .ok (.iconst 3, 1) := by sorry
theorem d_Mo_readQ_77 : decode b_Mo_readQ 77 = .ok (.invokevirtual 286, 3) := by sorry
theorem d_Mo_readQ_80 : decode b_Mo_readQ 80 = .ok (.ireturn, 1) := by sorry
set_option maxHeartbeats 4000000 in
set_option maxRecDepth 100000 in
/-- the reference: read -/
theorem c_Mo_readQ (l : Launch) (dC : Nat → ClassId) (dI : Nat → Nat → Nat) (mo : Nat) (sz : Heap) (v : Nat → Value) (cB cI cL cC : ClassId) (qx qt : Nat) (f qg : Nat → Int32) (K : Nat → Nat × Nat) (tv : Nat) (Q : QS) (VA V : TS) (i tp : Nat) (htp : tp ≤ 4096) (hfb : ∀ j, vp_nar .byte (f j) = f j) (hQ : QOK Q) (hV : TOK V) (eQR : Q.R = 0) (eV : V = VA.clr) (ei : i = 0) (h0 : v 0 = .ref qx) (h1 : v 1 = .int (nI tp)) (h16 : v 16 = .ref qt) (h19 : v 19 = .ref Q.qq) (h20 : v 20 = .ref Q.qe) (h22 : v 22 = .ref tv) : Met l y_Mo_readQ (k_Mo_readQ :: gtbl) ({ frames := 272, cells := kcap Q (Q.R + 8 * (tp - i) + 9) + qcap V (V.us + (tp + 12 - i)), slots := 22 * kcap Q (Q.R + 8 * (tp - i) + 9) + 2 * qcap V (V.us + (tp + 12 - i)), locals := 10800 }) (va_Pc [.ref mo] (me K dC dI [(mo, .inr (13, MF 30 v)), (qx, .inl (cB, 4096, .inl f)), (qt, .inl (cB, 4096, .inl qg)), (Q.qq, .inl (cI, (8 * Q.C), .inl Q.qf)), (Q.qe, .inl (cL, (3 * Q.C), .inr (.inl Q.ef))), (tv, .inr (12, MF 13 (tw VA))), (V.au, .inl (cC, V.U, .inl V.un))] [(cB, .byte), (cI, .int), (cL, .long), (cC, .char)] sz)) (va_Qi (fun (res : Int32) (u : (Nat → Value) × QS × TS × (Nat → Int32)) => QOK u.2.1 ∧ TOK u.2.2.1 ∧ GQ (Q.R + 8 * (tp - i) + 9) (V.us + (tp + 12 - i)) Q V u.2.1 u.2.2.1 ∧ u.1 1 = .int (nI 0) ∧ (∀ j9, ¬ rdF j9 → u.1 j9 = v j9) ∧ u.1 19 = .ref u.2.1.qq ∧ u.1 20 = .ref u.2.1.qe ∧ ((u.2.2.2 = qg ∧ u.1 17 = v 17 ∧ pQ f tp = none) ∨ (u.1 17 = .int (nI tp) ∧ ∃ z, pQ u.2.2.2 tp = some z ∧ pQ f tp = some z)) ∧ ((∃ z5, u.1 5 = .int z5) ∨ u.1 5 = v 5) ∧ RDR f tp res (u.1 4)) (fun u t9 => mz dC dI [(mo, .inr (13, MF 30 u.1)), (qx, .inl (cB, 4096, .inl f)), (qt, .inl (cB, 4096, .inl u.2.2.2)), (u.2.1.qq, .inl (cI, (8 * u.2.1.C), .inl u.2.1.qf)), (u.2.1.qe, .inl (cL, (3 * u.2.1.C), .inr (.inl u.2.1.ef))), (tv, .inr (12, MF 13 (tw u.2.2.1))), (u.2.2.1.au, .inl (cC, u.2.2.1.U, .inl u.2.2.1.un))] [(cB, .byte), (cI, .int), (cL, .long), (cC, .char)] (va_A [(mo, .inr (13, MF 30 v)), (qx, .inl (cB, 4096, .inl f)), (qt, .inl (cB, 4096, .inl qg)), (Q.qq, .inl (cI, (8 * Q.C), .inl Q.qf)), (Q.qe, .inl (cL, (3 * Q.C), .inr (.inl Q.ef))), (tv, .inr (12, MF 13 (tw VA))), (V.au, .inl (cC, V.U, .inl V.un))] sz.size) t9 ∧ szk sz t9.heap (cQ Q V u.2.1 u.2.2.1) (sQ Q V u.2.1 u.2.2.1)) (va_A [(mo, .inr (13, MF 30 v)), (qx, .inl (cB, 4096, .inl f)), (qt, .inl (cB, 4096, .inl qg)), (Q.qq, .inl (cI, (8 * Q.C), .inl Q.qf)), (Q.qe, .inl (cL, (3 * Q.C), .inr (.inl Q.ef))), (tv, .inr (12, MF 13 (tw VA))), (V.au, .inl (cC, V.U, .inl V.un))] sz.size)) (kcap Q (Q.R + 8 * (tp - i) + 9) + qcap V (V.us + (tp + 12 - i))) (22 * kcap Q (Q.R + 8 * (tp - i) + 9) + 2 * qcap V (V.us + (tp + 12 - i))) (va_A [(mo, .inr (13, MF 30 v)), (qx, .inl (cB, 4096, .inl f)), (qt, .inl (cB, 4096, .inl qg)), (Q.qq, .inl (cI, (8 * Q.C), .inl Q.qf)), (Q.qe, .inl (cL, (3 * Q.C), .inr (.inl Q.ef))), (tv, .inr (12, MF 13 (tw VA))), (V.au, .inl (cC, V.U, .inl V.un))] sz.size) := by sorry
end
section
theorem w_1493 : (.methodLink "QueryBenchModel" 357 ⟨"QueryBenchModel", "choose", "(I)V"⟩ : Cond) ∈ gtbl := by sorry
theorem w_1495 : (.instanceMethod ⟨"QueryBenchModel", "choose", "(I)V"⟩ : Cond) ∈ gtbl := by sorry
theorem w_1513 : (.methodLink "QueryBenchModel" 85 ⟨"QueryBenchModel$Tree", "size", "(I)I"⟩ : Cond) ∈ gtbl := by sorry
theorem w_1514 : (.instanceMethod ⟨"QueryBenchModel$Tree", "size", "(I)I"⟩ : Cond) ∈ gtbl := by sorry
theorem w_1515 : (.selects "QueryBenchModel$Tree" ⟨"QueryBenchModel$Tree", "size", "(I)I"⟩ ⟨"QueryBenchModel$Tree", "size", "(I)I"⟩ : Cond) ∈ gtbl := by sorry
theorem w_1517 : (.methodLink "QueryBenchModel" 372 ⟨"QueryBenchModel", "kidAt", "(IJ)I"⟩ : Cond) ∈ gtbl := by sorry
theorem w_1519 : (.instanceMethod ⟨"QueryBenchModel", "kidAt", "(IJ)I"⟩ : Cond) ∈ gtbl := by sorry
theorem w_1521 : (.constantLong "QueryBenchModel" 376 (-1) : Cond) ∈ gtbl := by sorry
def uszK {β : Type} (us : β → Nat) : List (List Int32 × β) → Nat
  | [] => 0
  | c :: cs => c.1.length + us c.2 + uszK us cs
/-- how many units a value holds -/
def usz : (r : Nat) → JVt r → Nat
  | 0, x => x.2.2.length
  | r + 1, x => x.1.2.2.length + uszK (usz r) x.2
def cntK {β : Type} (cn : β → Nat) : List (List Int32 × β) → Nat
  | [] => 0
  | c :: cs => cn c.2 + cntK cn cs
/-- how many nodes a value has -/
def ncnt : (r : Nat) → JVt r → Nat
  | 0, _ => 1
  | r + 1, x => 1 + cntK (ncnt r) x.2
theorem uszK_mem {β : Type} {us : β → Nat} : ∀ {cs : List (List Int32 × β)} {c : List Int32 × β}, c ∈ cs → us c.2 ≤ uszK us cs := by sorry
theorem unL_len (q : Int32) (l : List Int32) : l.length + 2 ≤ (unL q l).length := by sorry
theorem wfL_usz {x : LF} (h : wfL x) : x.2.2.length ≤ (prLf x).length := by sorry
/-- a value is written no shorter than its units -/
theorem usz_pr : ∀ (r : Nat) (x : JVt r), wfV r x → usz r x ≤ (prV r x).length := by sorry
theorem RepV_cnt {T : TS} : ∀ (r a e : Nat) (x : JVt r), RepV T r a e x → a + ncnt r x ≤ e := by sorry
/-- node a has k nodes above it -/
def AN (T : TS) : Nat → Nat → Prop
  | 0, a => T.pa a = -1
  | k + 1, a => ∃ p ks, T.pa a = nI p ∧ p < T.ct ∧ chn T.nx T.ct ks (T.ki p) ∧ a ∈ ks ∧ (T.kd p = 6 → nmOK T a) ∧ AN T k p
/-- a node of the document, at most r deep below it -/
def NDr (T : TS) (r a : Nat) : Prop := a < T.ct ∧ (∃ e x, RepV T r a e x ∧ usz r x ≤ 4096 ∧ allL smF r x ∧ wfV r x) ∧ ∃ k, r + k ≤ 32 ∧ AN T k a
def ND (T : TS) (a : Nat) : Prop := ∃ r, NDr T r a
theorem kd_6 {T : TS} {a k : Nat} (h : T.kd a = nI k) (hk : k ≤ 6) : T.kd a = 6 → k = 6 := by sorry
theorem RepK_mem {β : Type} {rep : Nat → Nat → β → Prop} {T : TS} {ob : Prop} {a hi : Nat} (hhi : hi ≤ T.ct) (hrep : ∀ b eb c, rep b eb c → b < eb) :
    ∀ (cs : List (List Int32 × β)) (lo : Nat) (k : Int32), RepK rep T ob a hi (-1) lo k cs → ∃ ks : List Nat, chn T.nx T.ct ks k ∧ ks.length ≤ hi - lo ∧ ∀ x, x ∈ ks → T.pa x = nI a ∧ (ob → nmOK T x) ∧ lo ≤ x ∧ ∃ eb c, c ∈ cs ∧ rep x eb c.2 := by sorry
theorem NDr.lt {T : TS} {r a : Nat} (h : NDr T r a) : a < T.ct ∧ r ≤ 32 := by sorry
theorem NDr.kind {T : TS} {r a : Nat} (h : NDr T r a) : ∃ k, k ≤ 6 ∧ T.kd a = nI k := by sorry
/-- the list's first tp places hold nodes -/
def LI (T : TS) (li : Nat → Int32) (tp : Nat) : Prop := ∀ j, j < tp → ∃ a, li j = nI a ∧ ND T a
theorem LI.add {T : TS} {li : Nat → Int32} {tp a : Nat} (h : LI T li tp) (ha : ND T a) : LI T (upd li tp (nI a)) (tp + 1) := by sorry
theorem LI.mono {T : TS} {li : Nat → Int32} {tp t2 : Nat} (h : LI T li tp) (ht : t2 ≤ tp) : LI T li t2 := by sorry
/-- how the work may go on: c more at most when it has become too much -/
def DB (c dn : Nat) (tm : Int32) (d2 : Nat) (t2 : Int32) : Prop := dn ≤ d2 ∧ (tm = 0 → d2 ≤ 10001 + c ∧ (t2 = 0 → d2 ≤ 10000)) ∧ (¬ tm = 0 → ¬ t2 = 0 ∧ d2 ≤ dn + 1)
/-- the work's state: the list's top, the work done, too much, the list -/
def EI (T : TS) (tp dn : Nat) (tm : Int32) (li : Nat → Int32) : Prop := tp ≤ dn ∧ tp ≤ 10000 ∧ (tm = 0 ∨ tm = 1) ∧ (tm = 0 → dn ≤ 10000) ∧ LI T li tp
theorem DB.rf {c dn : Nat} {tm : Int32} (h : tm = 0 → dn ≤ 10000) : DB c dn tm dn tm := by sorry
/-- one after another: the second only when it is not yet too much -/
theorem DB.tr {c dn d2 d3 : Nat} {tm t2 t3 : Int32} (h : DB c dn tm d2 t2) (h0 : t2 = 0) (g : DB c d2 t2 d3 t3) : DB c dn tm d3 t3 := by sorry
theorem DB.mono {c c2 dn d2 : Nat} {tm t2 : Int32} (h : DB c dn tm d2 t2) (hc : c ≤ c2) : DB c2 dn tm d2 t2 := by sorry
/-- one more on the list, or too much -/
theorem ch_step {T : TS} {tp d : Nat} {tm : Int32} {li : Nat → Int32} {a : Nat} {u : Nat × Int32 × (Nat → Int32)} (hE : EI T tp d tm li) (ha : ND T a) (hw : (d + 1 ≤ 10000 ∧ tm = 0 ∧ u = (tp + 1, tm, upd li tp (nI a))) ∨ (u.1 = tp ∧ u.2.2 = li ∧ ((¬ tm = 0 ∧ u.2.1 = tm) ∨ (¬ d + 1 ≤ 10000 ∧ u.2.1 = 1)))) : EI T u.1 (d + 1) u.2.1 u.2.2 ∧ tp ≤ u.1 ∧ u.1 ≤ tp + 1 ∧ (∀ j, j < tp → u.2.2 j = li j) ∧ DB 0 d tm (d + 1) u.2.1 := by sorry
theorem chn_mono {nx : Nat → Int32} {N N2 : Nat} (h : N ≤ N2) : ∀ {ks : List Nat} {k : Int32}, chn nx N ks k → chn nx N2 ks k := by sorry
theorem add64 {a b : Int64} (h1 : -(2 ^ 62 : Int) ≤ a.toInt + b.toInt) (h2 : a.toInt + b.toInt ≤ 2 ^ 62) : (a + b).toInt = a.toInt + b.toInt := by sorry
theorem n64 {k : Nat} (h : k < 2 ^ 31) : ((nI k).toInt64).toInt = (k : Int) := by sorry
theorem i64_nat {i : Int64} (h : 0 ≤ i.toInt) (h2 : i.toInt < 2 ^ 62) : i = Int64.ofNat i.toInt.toNat := by sorry
/-- one step up, from i to i + st, below k -/
theorem up64 {i st to : Int64} {k : Nat} (hi : 0 ≤ i.toInt) (hto : to.toInt ≤ k) (hk : k ≤ 5000) (hs : 0 < st.toInt) (hs2 : st.toInt ≤ 9007199254740991) (hlt : i < to) : (i + st).toInt = i.toInt + st.toInt ∧ 0 ≤ (i + st).toInt ∧ k - (i + st).toInt.toNat < k - i.toInt.toNat ∧ i.toInt.toNat < k ∧ i = Int64.ofNat i.toInt.toNat := by sorry
/-- one step down -/
theorem dn64 {i st to : Int64} {k : Nat} (hi : i.toInt < k) (hto : -1 ≤ to.toInt) (hk : k ≤ 5000) (hs : st.toInt < 0) (hs2 : -9007199254740991 ≤ st.toInt) (hlt : to < i) : (i + st).toInt = i.toInt + st.toInt ∧ (i + st).toInt < k ∧ (i + st + 1).toInt.toNat < (i + 1).toInt.toNat ∧ i.toInt.toNat < k ∧ i = Int64.ofNat i.toInt.toNat := by sorry
/-- the way to node a, from it upwards: which member it is of the one above, and so on -/
def AP (T : TS) : List Nat → Nat → Prop
  | [], a => T.pa a = -1 ∧ a = 0
  | i :: rp, a => ∃ (p : Nat) (ks : List Nat), T.pa a = nI p ∧ p < T.ct ∧ chn T.nx T.ct ks (T.ki p) ∧ ks[i]? = some a ∧ (T.kd p = 6 → nmOK T a) ∧ AP T rp p
theorem AP.an {T : TS} : ∀ {rp : List Nat} {a : Nat}, AP T rp a → AN T rp.length a := by sorry
/-- a holds the value u, as a document may hold it -/
def DVl (T : TS) (a : Nat) (u : VU) : Prop := ∃ e, RepV T u.1 a e u.2 ∧ usz u.1 u.2 ≤ 4096 ∧ allL smF u.1 u.2 ∧ wfV u.1 u.2
/-- a is the node nd of the document -/
def NDn (T : TS) (a : Nat) (nd : NT) : Prop := a < T.ct ∧ DVl T a nd.2 ∧ nd.2.1 + nd.1.length ≤ 32 ∧ AP T nd.1.reverse a
theorem NDn.r {T : TS} {a : Nat} {nd : NT} (h : NDn T a nd) : NDr T nd.2.1 a := by sorry
theorem NDn.root {T : TS} {x : JVt 32} (h : RepV T 32 0 T.ct x) (hu : usz 32 x ≤ 4096) (hal : allL smF 32 x) (hw : wfV 32 x) (hp : T.pa 0 = -1) : NDn T 0 ([], ⟨32, x⟩) := by sorry
theorem RepV_leaf {T : TS} {u : VU} {a e : Nat} (h : RepV T u.1 a e u.2) : RepL T a (lfU u) := by sorry
theorem RepV_kd {T : TS} {u : VU} {a e : Nat} (h : RepV T u.1 a e u.2) : T.kd a = nI (lfU u).1 ∧ (lfU u).1 ≤ 6 := by sorry
theorem kd_is {T : TS} {u : VU} {a e k : Nat} (h : RepV T u.1 a e u.2) (hk : k ≤ 6) : T.kd a = nI k ↔ (lfU u).1 = k := by sorry
theorem RepK_ix {β : Type} {rep : Nat → Nat → β → Prop} {T : TS} {ob : Prop} {a hi : Nat} (hhi : hi ≤ T.ct) (hrep : ∀ b eb c, rep b eb c → b < eb) :
    ∀ (cs : List (List Int32 × β)) (lo : Nat) (k : Int32), RepK rep T ob a hi (-1) lo k cs → ∃ ks : List Nat, chn T.nx T.ct ks k ∧ ks.length = cs.length ∧ (lo ≤ hi → ks.length ≤ hi - lo) ∧ ∀ (i x : Nat) (c : List Int32 × β), ks[i]? = some x → cs[i]? = some c → T.pa x = nI a ∧ (ob → nmOK T x ∧ nmT T x = c.1) ∧ lo ≤ x ∧ ∃ eb, eb ≤ hi ∧ rep x eb c.2 := by sorry
/-- the members of a value -/
theorem RepV_kids {T : TS} {u : VU} {a e : Nat} (h : RepV T u.1 a e u.2) : ∃ ks : List Nat, chn T.nx T.ct ks (T.ki a) ∧ ks.length = (ksU u).length ∧ ks.length ≤ T.ct ∧ ∀ (i x : Nat) (c : List Int32 × VU), ks[i]? = some x → (ksU u)[i]? = some c → T.pa x = nI a ∧ ((lfU u).1 = 6 → nmOK T x ∧ nmT T x = c.1) ∧ a < x ∧ x < T.ct ∧ c.2.1 + 1 = u.1 ∧ ∃ eb, RepV T c.2.1 x eb c.2.2 := by sorry
theorem allL_kid {u : VU} (h : allL smF u.1 u.2) {i : Nat} {c : List Int32 × VU} (hc : (ksU u)[i]? = some c) : allL smF c.2.1 c.2.2 := by sorry
theorem usz_kid {u : VU} (h : usz u.1 u.2 ≤ 4096) {i : Nat} {c : List Int32 × VU} (hc : (ksU u)[i]? = some c) : usz c.2.1 c.2.2 ≤ 4096 := by sorry
theorem wf_kid {u : VU} (h : wfV u.1 u.2) {i : Nat} {c : List Int32 × VU} (hc : (ksU u)[i]? = some c) : wfV c.2.1 c.2.2 ∧ uOK c.1 := by sorry
theorem wf_nodup {u : VU} (h : wfV u.1 u.2) (h6 : (lfU u).1 = 6) : ((ksU u).map (·.1)).Nodup := by sorry
theorem wf_str {u : VU} (h : wfV u.1 u.2) (h4 : (lfU u).1 = 4) : uOK (lfU u).2.2 := by sorry
theorem DVl.kid {T : TS} {a : Nat} {u : VU} (h : DVl T a u) {i : Nat} {c : List Int32 × VU} (hc : (ksU u)[i]? = some c) {x eb : Nat} (hr : RepV T c.2.1 x eb c.2.2) : DVl T x c.2 := by sorry
theorem kdsI_get {p : List Nat} : ∀ (l : List (List Int32 × VU)) (s i : Nat), (kdsI p s l)[i]? = (l[i]?).map (fun c => (c.1, (p ++ [s + i], c.2))) := by sorry
theorem kdsN_get {nd : NT} {i : Nat} {c : List Int32 × VU} (h : (ksU nd.2)[i]? = some c) : (kdsN nd)[i]? = some (c.1, (nd.1 ++ [i], c.2)) := by sorry
theorem kdsI_len {p : List Nat} : ∀ (l : List (List Int32 × VU)) (s : Nat), (kdsI p s l).length = l.length := by sorry
theorem kdsN_len {nd : NT} : (kdsN nd).length = (ksU nd.2).length := by sorry
theorem kds_ks {nd : NT} {j : Nat} {d : List Int32 × NT} (h : (kdsN nd)[j]? = some d) : ∃ c, (ksU nd.2)[j]? = some c ∧ d = (c.1, (nd.1 ++ [j], c.2)) := by sorry
/-- a node's members -/
theorem NDn.kids {T : TS} {a : Nat} {nd : NT} (h : NDn T a nd) : ∃ ks : List Nat, chn T.nx T.ct ks (T.ki a) ∧ ks.length = (kdsN nd).length ∧ (∀ (i k : Nat) (c : List Int32 × NT), ks[i]? = some k → (kdsN nd)[i]? = some c → NDn T k c.2 ∧ c.2.2.1 < nd.2.1 ∧ (T.kd a = 6 → nmT T k = c.1)) ∧ (T.kd a = 6 → ∀ k, k ∈ ks → nmOK T k) ∧ (∀ k, k ∈ ks → k < T.ct) ∧ ks.length ≤ T.ct := by sorry
/-- the list from i on holds these nodes -/
def LIn (T : TS) (li : Nat → Int32) (i : Nat) (l : List NT) : Prop := ∀ (j : Nat) (nd : NT), l[j]? = some nd → ∃ a, li (i + j) = nI a ∧ NDn T a nd
def catR (a b : List NT × Nat) : List NT × Nat := (a.1 ++ b.1, a.2 + b.2)
theorem catR_0 (R : List NT × Nat) : catR R ([], 0) = R := by sorry
theorem catR_l (X : List NT × Nat) : catR ([], 0) X = X := by sorry
theorem catR_a (A B C : List NT × Nat) : catR (catR A B) C = catR A (catR B C) := by sorry
/-- these nodes have been chosen, with this work; or it has become too much -/
def PUr (T : TS) (R : List NT × Nat) (tp dn t2 d2 : Nat) (m2 : Int32) (l2 : Nat → Int32) : Prop := (m2 = 0 → t2 = tp + R.1.length ∧ d2 = dn + R.2 ∧ LIn T l2 tp R.1) ∧ (¬ m2 = 0 → 10000 < dn + R.2)
theorem PUr.rf {T : TS} {tp dn : Nat} {li : Nat → Int32} : PUr T ([], 0) tp dn tp dn 0 li := by sorry
theorem PUr.tr {T : TS} {R1 R2 : List NT × Nat} {tp dn t1 d1 t2 d2 : Nat} {m1 m2 : Int32} {l1 l2 : Nat → Int32} (h1 : PUr T R1 tp dn t1 d1 m1 l1) (h2 : m1 = 0 → PUr T R2 t1 d1 t2 d2 m2 l2 ∧ ∀ j, j < t1 → l2 j = l1 j) (h3 : ¬ m1 = 0 → ¬ m2 = 0) : PUr T (catR R1 R2) tp dn t2 d2 m2 l2 := by sorry
/-- one more chosen, or too much -/
theorem PUr.ch {T : TS} {tp d a : Nat} {tm : Int32} {li : Nat → Int32} {nd : NT} {u : Nat × Int32 × (Nat → Int32)} (h0 : tm = 0) (ha : NDn T a nd) (hw : (d + 1 ≤ 10000 ∧ tm = 0 ∧ u = (tp + 1, tm, upd li tp (nI a))) ∨ (u.1 = tp ∧ u.2.2 = li ∧ ((¬ tm = 0 ∧ u.2.1 = tm) ∨ (¬ d + 1 ≤ 10000 ∧ u.2.1 = 1)))) : PUr T ([nd], 1) tp d u.1 (d + 1) u.2.1 u.2.2 := by sorry
/-- work without a node -/
theorem PUr.wk {T : TS} {tp d : Nat} {m : Int32} {li : Nat → Int32} (h1 : m = 0 → d + 1 ≤ 10000) (h2 : ¬ m = 0 → ¬ d + 1 ≤ 10000) : PUr T ([], 1) tp d tp (d + 1) m li := by sorry
theorem PUr.of {T : TS} {R R2 : List NT × Nat} {tp dn t2 d2 : Nat} {m2 : Int32} {l2 : Nat → Int32} (h : PUr T R tp dn t2 d2 m2 l2) (e : R = R2) : PUr T R2 tp dn t2 d2 m2 l2 := by sorry
/-- the nodes at these places, one piece of work each -/
def atsR (nd : NT) (l : List Int) : List NT × Nat := (l.filterMap (fun i => ((kdsN nd)[i.toNat]?).map (·.2)), l.length)
theorem atsR_0 {nd : NT} : atsR nd [] = ([], 0) := by sorry
theorem atsR_c {nd : NT} {i : Int} {l : List Int} {c : List Int32 × NT} (h : (kdsN nd)[i.toNat]? = some c) : atsR nd (i :: l) = catR ([c.2], 1) (atsR nd l) := by sorry
theorem upL_nil {k : Nat} {i to st : Int} (h : ¬ i < to) : upLs k i to st = [] := by sorry
theorem dnL_nil {k : Nat} {i to st : Int} (h : ¬ to < i) : dnL k i to st = [] := by sorry
theorem upL_c {k : Nat} {i to st : Int} (h : i < to) : upLs (k + 1) i to st = i :: upLs k (i + st) to st := by sorry
theorem dnL_c {k : Nat} {i to st : Int} (h : to < i) : dnL (k + 1) i to st = i :: dnL k (i + st) to st := by sorry
theorem up_step {nd : NT} {k : Nat} {i to st : Int} {c : List Int32 × NT} (h : i < to) (hk : to < (k : Int) + i) (hc : (kdsN nd)[i.toNat]? = some c) : ∃ k', k = k' + 1 ∧ atsR nd (upLs k i to st) = catR ([c.2], 1) (atsR nd (upLs k' (i + st) to st)) := by sorry
theorem dn_step {nd : NT} {k : Nat} {i to st : Int} {c : List Int32 × NT} (h : to < i) (hk : i < (k : Int) + to) (hc : (kdsN nd)[i.toNat]? = some c) : ∃ k', k = k' + 1 ∧ atsR nd (dnL k i to st) = catR ([c.2], 1) (atsR nd (dnL k' (i + st) to st)) := by sorry
theorem idxS_1 {v : Int64} {rt nd : NT} {j : Nat} {c : List Int32 × NT} (hk : kdN nd = 5) (hj : frontI (kdsN nd).length v = (j : Int)) (h : (kdsN nd)[j]? = some c) : idxS v rt nd = ([c.2], 1) := by sorry
theorem idxS_0 {v : Int64} {rt nd : NT} (h : ¬ kdN nd = 5 ∨ frontI (kdsN nd).length v < 0 ∨ ((kdsN nd).length : Int) ≤ frontI (kdsN nd).length v) : idxS v rt nd = ([], 0) := by sorry
theorem slcS_no {a b : Option Int64} {c : Int64} {rt nd : NT} (h : ¬ kdN nd = 5 ∨ c.toInt = 0) : slcS a b c rt nd = ([], 0) := by sorry
/-- where a slice begins and ends, before it is cut -/
def frF (n : Nat) (a : Option Int64) (st : Int64) : Int := match a with
  | some v => frontI n v
  | none => if 0 < st.toInt then 0 else (n : Int) - 1
def toF (n : Nat) (b : Option Int64) (st : Int64) : Int := match b with
  | some v => frontI n v
  | none => if 0 < st.toInt then (n : Int) else -1
theorem slcS_u {a b : Option Int64} {c : Int64} {rt nd : NT} {n : Nat} {F T : Int} (hk : kdN nd = 5) (hc : 0 < c.toInt) (hn : n = (kdsN nd).length) (hF : F = if frF n a c < 0 then 0 else frF n a c) (hT : T = if (n : Int) < toF n b c then (n : Int) else toF n b c) : slcS a b c rt nd = atsR nd (upLs (n + 1) F T c.toInt) := by sorry
theorem slcS_d {a b : Option Int64} {c : Int64} {rt nd : NT} {n : Nat} {F T : Int} (hk : kdN nd = 5) (hc : c.toInt < 0) (hn : n = (kdsN nd).length) (hF : F = if (n : Int) - 1 < frF n a c then (n : Int) - 1 else frF n a c) (hT : T = if toF n b c < -1 then -1 else toF n b c) : slcS a b c rt nd = atsR nd (dnL (n + 1) F T c.toInt) := by sorry
theorem fr_ge {n : Nat} {v : Int64} (h : 0 ≤ lg_cmp v 0) : v.toInt = frontI n v := by sorry
theorem fr_lt {n : Nat} {nL v : Int64} (hn : nL.toInt = (n : Int)) (hn5 : n ≤ 5000) (hv : gL v) (h : ¬ 0 ≤ lg_cmp v 0) : (nL + v).toInt = frontI n v := by sorry
theorem st_pos {st : Int64} (h : ¬ lg_cmp st 0 ≤ 0) : 0 < st.toInt := by sorry
theorem st_neg {st : Int64} (h : lg_cmp st 0 ≤ 0) : ¬ 0 < st.toInt := by sorry
/-- R is to be chosen in all, X of it is still to come; or it has become too much -/
def PG (T : TS) (R X : List NT × Nat) (tp dn t2 d2 : Nat) (m2 : Int32) (l2 : Nat → Int32) : Prop := (m2 = 0 → ∃ Rg, catR Rg X = R ∧ t2 = tp + Rg.1.length ∧ d2 = dn + Rg.2 ∧ LIn T l2 tp Rg.1) ∧ (¬ m2 = 0 → 10000 < dn + R.2)
theorem PG.st {T : TS} {R : List NT × Nat} {tp dn : Nat} {li : Nat → Int32} : PG T R R tp dn tp dn 0 li := by sorry
theorem PG.fin {T : TS} {R : List NT × Nat} {tp dn t2 d2 : Nat} {m2 : Int32} {l2 : Nat → Int32} (h : PG T R ([], 0) tp dn t2 d2 m2 l2) : PUr T R tp dn t2 d2 m2 l2 := by sorry
theorem PG.out {T : TS} {R X : List NT × Nat} {tp dn t2 d2 : Nat} {m2 : Int32} {l2 : Nat → Int32} (h : PG T R X tp dn t2 d2 m2 l2) (hm : ¬ m2 = 0) : PUr T R tp dn t2 d2 m2 l2 := by sorry
theorem PG.of {T : TS} {R X Y : List NT × Nat} {tp dn t2 d2 : Nat} {m2 : Int32} {l2 : Nat → Int32} (h : PG T R X tp dn t2 d2 m2 l2) (e : X = Y) : PG T R Y tp dn t2 d2 m2 l2 := by sorry
/-- some of what is to come has come -/
theorem PG.tr {T : TS} {R X Y X2 : List NT × Nat} {tp dn t1 d1 t2 d2 : Nat} {m1 m2 : Int32} {l1 l2 : Nat → Int32} (h : PG T R X tp dn t1 d1 m1 l1) (hX : X = catR Y X2) (h2 : m1 = 0 → PUr T Y t1 d1 t2 d2 m2 l2) (hp : m1 = 0 → ∀ j, j < t1 → l2 j = l1 j) (h3 : ¬ m1 = 0 → ¬ m2 = 0) : PG T R X2 tp dn t2 d2 m2 l2 := by sorry
/-- members that are still to be looked at -/
def rstS (b : Bool) (g : CT) (rt nn : NT) (i : Nat) : List NT × Nat := if b = true then (((kdsN nn).drop i).map (·.2), (kdsN nn).length - i) else filL (g rt) ((kdsN nn).drop i)
theorem rstS_e {g : CT} {rt nn : NT} {i : Nat} {c : List Int32 × NT} (h : (kdsN nn)[i]? = some c) : rstS true g rt nn i = catR ([c.2], 1) (rstS true g rt nn (i + 1)) := by sorry
theorem rstS_f {g : CT} {rt nn : NT} {i : Nat} {c : List Int32 × NT} (h : (kdsN nn)[i]? = some c) : rstS false g rt nn i = catR ([], 1) (catR ([], (g rt c.2).2) (catR (if (g rt c.2).1 = true then ([c.2], 1) else ([], 0)) (rstS false g rt nn (i + 1)))) := by sorry
theorem rstS_n {b : Bool} {g : CT} {rt nn : NT} {i : Nat} (h : (kdsN nn).length ≤ i) : rstS b g rt nn i = ([], 0) := by sorry
theorem find_at {t : List Int32} : ∀ (l : List (List Int32 × NT)) (i : Nat) (c : List Int32 × NT), l[i]? = some c → c.1 = t → (∀ (j : Nat) (d : List Int32 × NT), j < i → l[j]? = some d → ¬ d.1 = t) → l.find? (fun p => decide (p.1 = t)) = some c := by sorry
theorem find_no {t : List Int32} : ∀ (l : List (List Int32 × NT)), (∀ (j : Nat) (d : List Int32 × NT), l[j]? = some d → ¬ d.1 = t) → l.find? (fun p => decide (p.1 = t)) = none := by sorry
/-- names are not said twice -/
theorem nodup_ix {α : Type} {l : List α} (h : l.Nodup) {i j : Nat} {a : α} (hi : l[i]? = some a) (hj : l[j]? = some a) : i = j := by sorry
theorem namS_f {t : List Int32} {rt nd : NT} {i : Nat} {c : List Int32 × NT} (hw : wfV nd.2.1 nd.2.2) (hk : kdN nd = 6) (h : (kdsN nd)[i]? = some c) (hc : c.1 = t) : namS t rt nd = ([c.2], 1) := by sorry
theorem namS_n {t : List Int32} {rt nd : NT} (h : kdN nd = 6 → ∀ (j : Nat) (d : List Int32 × NT), (kdsN nd)[j]? = some d → ¬ d.1 = t) : namS t rt nd = ([], 0) := by sorry
abbrev b_Mo_numbers : ByteArray := prog_14_method_57_code
def y_Mo_numbers : MethodName := ⟨"QueryBenchModel", "numbers", "(II)V"⟩
abbrev k_Mo_numbers : Cond := .code y_Mo_numbers b_Mo_numbers 16 none
theorem i_Mo_numbers : k_Mo_numbers ∈ gtbl := by sorry
theorem d_Mo_numbers_0 : decode b_Mo_numbers 0 = .ok (.aload_n 0, 1) := by sorry
theorem d_Mo_numbers_1 : decode b_Mo_numbers 1 = .ok (.getfield 45, 3) := by sorry
theorem d_Mo_numbers_4 : decode b_Mo_numbers 4 = .ok (.iload_n 2, 1) := by sorry
theorem d_Mo_numbers_5 : decode b_Mo_numbers 5 = .ok (.invokevirtual 85, 3) := by sorry
theorem d_Mo_numbers_8 : decode b_Mo_numbers 8 = .ok (.i2l, 1) := by sorry
theorem d_Mo_numbers_9 : decode b_Mo_numbers 9 = .ok (.lstore_n 3, 1) := by sorry
theorem d_Mo_numbers_10 : decode b_Mo_numbers 10 = .ok (.aload_n 0, 1) := by sorry
theorem d_Mo_numbers_11 : decode b_Mo_numbers 11 = .ok (.iload_n 1, 1) := by sorry
theorem d_Mo_numbers_12 : decode b_Mo_numbers 12 = .ok (.iconst 2, 1) := by sorry
theorem d_Mo_numbers_13 : decode b_Mo_numbers 13 = .ok (.invokevirtual 286, 3) := by sorry
theorem d_Mo_numbers_16 : decode b_Mo_numbers 16 = .ok (.istore 5, 2) := by sorry
theorem d_Mo_numbers_18 : decode b_Mo_numbers 18 = .ok (.aload_n 0, 1) := by sorry
theorem d_Mo_numbers_19 : decode b_Mo_numbers 19 = .ok (.getfield 52, 3) := by sorry
theorem d_Mo_numbers_22 : decode b_Mo_numbers 22 = .ok (.iconst 3, 1) := by sorry
theorem d_Mo_numbers_23 : decode b_Mo_numbers 23 = .ok (.iload_n 1, 1) := by sorry
theorem d_Mo_numbers_24 : decode b_Mo_numbers 24 = .ok (.imul, 1) := by sorry
theorem d_Mo_numbers_25 : decode b_Mo_numbers 25 = .ok (.laload, 1) := by sorry
theorem d_Mo_numbers_26 : decode b_Mo_numbers 26 = .ok (.lstore 6, 2) := by sorry
theorem d_Mo_numbers_28 : decode b_Mo_numbers 28 = .ok (.aload_n 0, 1) := by sorry
theorem d_Mo_numbers_29 : decode b_Mo_numbers 29 = .ok (.iload_n 1, 1) := by sorry
theorem d_Mo_numbers_30 : decode b_Mo_numbers 30 = .ok (.iconst 0, 1) := by sorry
theorem d_Mo_numbers_31 : decode b_Mo_numbers 31 = .ok (.invokevirtual 286, 3) := by sorry
theorem d_Mo_numbers_34 : decode b_Mo_numbers 34 = .ok (.iconst 3, 1) := by sorry
theorem d_Mo_numbers_35 : decode b_Mo_numbers 35 = .ok (.if_icmp .ne 47, 3) := by sorry
theorem d_Mo_numbers_38 : decode b_Mo_numbers 38 = .ok (.lload 6, 2) := by sorry
theorem d_Mo_numbers_40 : decode b_Mo_numbers 40 = .ok (.lconst 0, 1) := by sorry
theorem d_Mo_numbers_41 : decode b_Mo_numbers 41 = .ok (.lcmp, 1) := by sorry
theorem d_Mo_numbers_42 : decode b_Mo_numbers 42 = .ok (.ifCond .ge 10, 3) := by sorry
theorem d_Mo_numbers_45 : decode b_Mo_numbers 45 = .ok (.lload_n 3, 1) := by sorry
theorem d_Mo_numbers_46 : decode b_Mo_numbers 46 = .ok (.lload 6, 2) := by sorry
theorem d_Mo_numbers_48 : decode b_Mo_numbers 48 = .ok (.ladd, 1) := by sorry
theorem d_Mo_numbers_49 : decode b_Mo_numbers 49 = .ok (.goto 5, 3) := by sorry
theorem d_Mo_numbers_52 : decode b_Mo_numbers 52 = .ok (.lload 6, 2) := by sorry
theorem d_Mo_numbers_54 : decode b_Mo_numbers 54 = .ok (.lstore 8, 2) := by sorry
theorem d_Mo_numbers_56 : decode b_Mo_numbers 56 = .ok (.lload 8, 2) := by sorry
theorem d_Mo_numbers_58 : decode b_Mo_numbers 58 = .ok (.lconst 0, 1) := by sorry
theorem d_Mo_numbers_59 : decode b_Mo_numbers 59 = .ok (.lcmp, 1) := by sorry
theorem d_Mo_numbers_60 : decode b_Mo_numbers 60 = .ok (.ifCond .lt 21, 3) := by sorry
theorem d_Mo_numbers_63 : decode b_Mo_numbers 63 = .ok (.lload 8, 2) := by sorry
theorem d_Mo_numbers_65 : decode b_Mo_numbers 65 = .ok (.lload_n 3, 1) := by sorry
theorem d_Mo_numbers_66 : decode b_Mo_numbers 66 = .ok (.lcmp, 1) := by sorry
theorem d_Mo_numbers_67 : decode b_Mo_numbers 67 = .ok (.ifCond .ge 14, 3) := by sorry
theorem d_Mo_numbers_70 : decode b_Mo_numbers 70 = .ok (.aload_n 0, 1) := by sorry
theorem d_Mo_numbers_71 : decode b_Mo_numbers 71 = .ok (.aload_n 0, 1) := by sorry
theorem d_Mo_numbers_72 : decode b_Mo_numbers 72 = .ok (.iload_n 2, 1) := by sorry
theorem d_Mo_numbers_73 : decode b_Mo_numbers 73 = .ok (.lload 8, 2) := by sorry
theorem d_Mo_numbers_75 : decode b_Mo_numbers 75 = .ok (.invokevirtual 372, 3) := by sorry
theorem d_Mo_numbers_78 : decode b_Mo_numbers 78 = .ok (.invokevirtual 357, 3) := by sorry
theorem d_Mo_numbers_81 : decode b_Mo_numbers 81 = .ok (.return_, 1) := by sorry
theorem d_Mo_numbers_82 : decode b_Mo_numbers 82 = .ok (.iload 5, 2) := by sorry
theorem d_Mo_numbers_84 : decode b_Mo_numbers 84 = .ok (.iconst 4, 1) := by sorry
theorem d_Mo_numbers_85 : decode b_Mo_numbers 85 = .ok (.iand, 1) := by sorry
theorem d_Mo_numbers_86 : decode b_Mo_numbers 86 = .ok (.ifCond .eq 16, 3) := by sorry
theorem d_Mo_numbers_89 : decode b_Mo_numbers 89 = .ok (.aload_n 0, 1) := by sorry
theorem d_Mo_numbers_90 : decode b_Mo_numbers 90 = .ok (.getfield 52, 3) := by sorry
theorem d_Mo_numbers_93 : decode b_Mo_numbers 93 = .ok (.iconst 3, 1) := by sorry
theorem d_Mo_numbers_94 : decode b_Mo_numbers 94 = .ok (.iload_n 1, 1) := by sorry
theorem d_Mo_numbers_95 : decode b_Mo_numbers 95 = .ok (.imul, 1) := by sorry
theorem d_Mo_numbers_96 : decode b_Mo_numbers 96 = .ok (.iconst 2, 1) := by sorry
theorem d_Mo_numbers_97 : decode b_Mo_numbers 97 = .ok (.iadd, 1) := by sorry
theorem d_Mo_numbers_98 : decode b_Mo_numbers 98 = .ok (.laload, 1) := by sorry
theorem d_Mo_numbers_99 : decode b_Mo_numbers 99 = .ok (.goto 4, 3) := by sorry
theorem d_Mo_numbers_102 : decode b_Mo_numbers 102 = .ok (.lconst 1, 1) := by sorry
theorem d_Mo_numbers_103 : decode b_Mo_numbers 103 = .ok (.lstore 8, 2) := by sorry
theorem d_Mo_numbers_105 : decode b_Mo_numbers 105 = .ok (.lload 8, 2) := by sorry
theorem d_Mo_numbers_107 : decode b_Mo_numbers 107 = .ok (.lconst 0, 1) := by sorry
theorem d_Mo_numbers_108 : decode b_Mo_numbers 108 = .ok (.lcmp, 1) := by sorry
theorem d_Mo_numbers_109 : decode b_Mo_numbers 109 = .ok (.ifCond .ne 4, 3) := by sorry
theorem d_Mo_numbers_112 : decode b_Mo_numbers 112 = .ok (.return_, 1) := by sorry
theorem d_Mo_numbers_113 : decode b_Mo_numbers 113 = .ok (.iload 5, 2) := by sorry
theorem d_Mo_numbers_115 : decode b_Mo_numbers 115 = .ok (.iconst 1, 1) := by sorry
theorem d_Mo_numbers_116 : decode b_Mo_numbers 116 = .ok (.iand, 1) := by sorry
theorem d_Mo_numbers_117 : decode b_Mo_numbers 117 = .ok (.ifCond .eq 22, 3) := by sorry
theorem d_Mo_numbers_120 : decode b_Mo_numbers 120 = .ok (.lload 6, 2) := by sorry
theorem d_Mo_numbers_122 : decode b_Mo_numbers 122 = .ok (.lconst 0, 1) := by sorry
theorem d_Mo_numbers_123 : decode b_Mo_numbers 123 = .ok (.lcmp, 1) := by sorry
theorem d_Mo_numbers_124 : decode b_Mo_numbers 124 = .ok (.ifCond .ge 10, 3) := by sorry
theorem d_Mo_numbers_127 : decode b_Mo_numbers 127 = .ok (.lload_n 3, 1) := by sorry
theorem d_Mo_numbers_128 : decode b_Mo_numbers 128 = .ok (.lload 6, 2) := by sorry
theorem d_Mo_numbers_130 : decode b_Mo_numbers 130 = .ok (.ladd, 1) := by sorry
theorem d_Mo_numbers_131 : decode b_Mo_numbers 131 = .ok (.goto 22, 3) := by sorry
theorem d_Mo_numbers_134 : decode b_Mo_numbers 134 = .ok (.lload 6, 2) := by sorry
theorem d_Mo_numbers_136 : decode b_Mo_numbers 136 = .ok (.goto 17, 3) := by sorry
theorem d_Mo_numbers_139 : decode b_Mo_numbers 139 = .ok (.lload 8, 2) := by sorry
theorem d_Mo_numbers_141 : decode b_Mo_numbers 141 = .ok (.lconst 0, 1) := by sorry
theorem d_Mo_numbers_142 : decode b_Mo_numbers 142 = .ok (.lcmp, 1) := by sorry
theorem d_Mo_numbers_143 : decode b_Mo_numbers 143 = .ok (.ifCond .le 7, 3) := by sorry
theorem d_Mo_numbers_146 : decode b_Mo_numbers 146 = .ok (.lconst 0, 1) := by sorry
theorem d_Mo_numbers_147 : decode b_Mo_numbers 147 = .ok (.goto 6, 3) := by sorry
theorem d_Mo_numbers_150 : decode b_Mo_numbers 150 = .ok (.lload_n 3, 1) := by sorry
theorem d_Mo_numbers_151 : decode b_Mo_numbers 151 = .ok (.lconst 1, 1) := by sorry
theorem d_Mo_numbers_152 : decode b_Mo_numbers 152 = .ok (.lsub, 1) := by sorry
theorem d_Mo_numbers_153 : decode b_Mo_numbers 153 = .ok (.lstore 10, 2) := by sorry
theorem d_Mo_numbers_155 : decode b_Mo_numbers 155 = .ok (.iload 5, 2) := by sorry
theorem d_Mo_numbers_157 : decode b_Mo_numbers 157 = .ok (.iconst 2, 1) := by sorry
theorem d_Mo_numbers_158 : decode b_Mo_numbers 158 = .ok (.iand, 1) := by sorry
theorem d_Mo_numbers_159 : decode b_Mo_numbers 159 = .ok (.ifCond .eq 46, 3) := by sorry
theorem d_Mo_numbers_162 : decode b_Mo_numbers 162 = .ok (.aload_n 0, 1) := by sorry
theorem d_Mo_numbers_163 : decode b_Mo_numbers 163 = .ok (.getfield 52, 3) := by sorry
theorem d_Mo_numbers_166 : decode b_Mo_numbers 166 = .ok (.iconst 3, 1) := by sorry
theorem d_Mo_numbers_167 : decode b_Mo_numbers 167 = .ok (.iload_n 1, 1) := by sorry
theorem d_Mo_numbers_168 : decode b_Mo_numbers 168 = .ok (.imul, 1) := by sorry
theorem d_Mo_numbers_169 : decode b_Mo_numbers 169 = .ok (.iconst 1, 1) := by sorry
theorem d_Mo_numbers_170 : decode b_Mo_numbers 170 = .ok (.iadd, 1) := by sorry
theorem d_Mo_numbers_171 : decode b_Mo_numbers 171 = .ok (.laload, 1) := by sorry
theorem d_Mo_numbers_172 : decode b_Mo_numbers 172 = .ok (.lconst 0, 1) := by sorry
theorem d_Mo_numbers_173 : decode b_Mo_numbers 173 = .ok (.lcmp, 1) := by sorry
theorem d_Mo_numbers_174 : decode b_Mo_numbers 174 = .ok (.ifCond .ge 18, 3) := by sorry
theorem d_Mo_numbers_177 : decode b_Mo_numbers 177 = .ok (.lload_n 3, 1) := by sorry
theorem d_Mo_numbers_178 : decode b_Mo_numbers 178 = .ok (.aload_n 0, 1) := by sorry
theorem d_Mo_numbers_179 : decode b_Mo_numbers 179 = .ok (.getfield 52, 3) := by sorry
theorem d_Mo_numbers_182 : decode b_Mo_numbers 182 = .ok (.iconst 3, 1) := by sorry
theorem d_Mo_numbers_183 : decode b_Mo_numbers 183 = .ok (.iload_n 1, 1) := by sorry
theorem d_Mo_numbers_184 : decode b_Mo_numbers 184 = .ok (.imul, 1) := by sorry
theorem d_Mo_numbers_185 : decode b_Mo_numbers 185 = .ok (.iconst 1, 1) := by sorry
theorem d_Mo_numbers_186 : decode b_Mo_numbers 186 = .ok (.iadd, 1) := by sorry
theorem d_Mo_numbers_187 : decode b_Mo_numbers 187 = .ok (.laload, 1) := by sorry
theorem d_Mo_numbers_188 : decode b_Mo_numbers 188 = .ok (.ladd, 1) := by sorry
theorem d_Mo_numbers_189 : decode b_Mo_numbers 189 = .ok (.goto 30, 3) := by sorry
theorem d_Mo_numbers_192 : decode b_Mo_numbers 192 = .ok (.aload_n 0, 1) := by sorry
theorem d_Mo_numbers_193 : decode b_Mo_numbers 193 = .ok (.getfield 52, 3) := by sorry
theorem d_Mo_numbers_196 : decode b_Mo_numbers 196 = .ok (.iconst 3, 1) := by sorry
theorem d_Mo_numbers_197 : decode b_Mo_numbers 197 = .ok (.iload_n 1, 1) := by sorry
theorem d_Mo_numbers_198 : decode b_Mo_numbers 198 = .ok (.imul, 1) := by sorry
theorem d_Mo_numbers_199 : decode b_Mo_numbers 199 = .ok (.iconst 1, 1) := by sorry
theorem d_Mo_numbers_200 : decode b_Mo_numbers 200 = .ok (.iadd, 1) := by sorry
theorem d_Mo_numbers_201 : decode b_Mo_numbers 201 = .ok (.laload, 1) := by sorry
theorem d_Mo_numbers_202 : decode b_Mo_numbers 202 = .ok (.goto 17, 3) := by sorry
theorem d_Mo_numbers_205 : decode b_Mo_numbers 205 = .ok (.lload 8, 2) := by sorry
theorem d_Mo_numbers_207 : decode b_Mo_numbers 207 = .ok (.lconst 0, 1) := by sorry
theorem d_Mo_numbers_208 : decode b_Mo_numbers 208 = .ok (.lcmp, 1) := by sorry
theorem d_Mo_numbers_209 : decode b_Mo_numbers 209 = .ok (.ifCond .le 7, 3) := by sorry
theorem d_Mo_numbers_212 : decode b_Mo_numbers 212 = .ok (.lload_n 3, 1) := by sorry
theorem d_Mo_numbers_213 : decode b_Mo_numbers 213 = .ok (.goto 6, 3) := by sorry
theorem d_Mo_numbers_216 : decode b_Mo_numbers 216 = .ok (.ldc2_w 376, 3) := by sorry
theorem d_Mo_numbers_219 : decode b_Mo_numbers 219 = .ok (.lstore 12, 2) := by sorry
theorem d_Mo_numbers_221 : decode b_Mo_numbers 221 = .ok (.lload 8, 2) := by sorry
theorem d_Mo_numbers_223 : decode b_Mo_numbers 223 = .ok (.lconst 0, 1) := by sorry
theorem d_Mo_numbers_224 : decode b_Mo_numbers 224 = .ok (.lcmp, 1) := by sorry
theorem d_Mo_numbers_225 : decode b_Mo_numbers 225 = .ok (.ifCond .le 69, 3) := by sorry
theorem d_Mo_numbers_228 : decode b_Mo_numbers 228 = .ok (.lload 10, 2) := by sorry
theorem d_Mo_numbers_230 : decode b_Mo_numbers 230 = .ok (.lconst 0, 1) := by sorry
theorem d_Mo_numbers_231 : decode b_Mo_numbers 231 = .ok (.lcmp, 1) := by sorry
theorem d_Mo_numbers_232 : decode b_Mo_numbers 232 = .ok (.ifCond .ge 7, 3) := by sorry
theorem d_Mo_numbers_235 : decode b_Mo_numbers 235 = .ok (.lconst 0, 1) := by sorry
theorem d_Mo_numbers_236 : decode b_Mo_numbers 236 = .ok (.goto 5, 3) := by sorry
theorem d_Mo_numbers_239 : decode b_Mo_numbers 239 = .ok (.lload 10, 2) := by sorry
theorem d_Mo_numbers_241 : decode b_Mo_numbers 241 = .ok (.lstore 10, 2) := by sorry
theorem d_Mo_numbers_243 : decode b_Mo_numbers 243 = .ok (.lload 12, 2) := by sorry
theorem d_Mo_numbers_245 : decode b_Mo_numbers 245 = .ok (.lload_n 3, 1) := by sorry
theorem d_Mo_numbers_246 : decode b_Mo_numbers 246 = .ok (.lcmp, 1) := by sorry
theorem d_Mo_numbers_247 : decode b_Mo_numbers 247 = .ok (.ifCond .le 7, 3) := by sorry
theorem d_Mo_numbers_250 : decode b_Mo_numbers 250 = .ok (.lload_n 3, 1) := by sorry
theorem d_Mo_numbers_251 : decode b_Mo_numbers 251 = .ok (.goto 5, 3) := by sorry
theorem d_Mo_numbers_254 : decode b_Mo_numbers 254 = .ok (.lload 12, 2) := by sorry
theorem d_Mo_numbers_256 : decode b_Mo_numbers 256 = .ok (.lstore 12, 2) := by sorry
theorem d_Mo_numbers_258 : decode b_Mo_numbers 258 = .ok (.lload 10, 2) := by sorry
theorem d_Mo_numbers_260 : decode b_Mo_numbers 260 = .ok (.lstore 14, 2) := by sorry
theorem d_Mo_numbers_262 : decode b_Mo_numbers 262 = .ok (.lload 14, 2) := by sorry
theorem d_Mo_numbers_264 : decode b_Mo_numbers 264 = .ok (.lload 12, 2) := by sorry
theorem d_Mo_numbers_266 : decode b_Mo_numbers 266 = .ok (.lcmp, 1) := by sorry
theorem d_Mo_numbers_267 : decode b_Mo_numbers 267 = .ok (.ifCond .ge 24, 3) := by sorry
theorem d_Mo_numbers_270 : decode b_Mo_numbers 270 = .ok (.aload_n 0, 1) := by sorry
theorem d_Mo_numbers_271 : decode b_Mo_numbers 271 = .ok (.aload_n 0, 1) := by sorry
theorem d_Mo_numbers_272 : decode b_Mo_numbers 272 = .ok (.iload_n 2, 1) := by sorry
theorem d_Mo_numbers_273 : decode b_Mo_numbers 273 = .ok (.lload 14, 2) := by sorry
theorem d_Mo_numbers_275 : decode b_Mo_numbers 275 = .ok (.invokevirtual 372, 3) := by sorry
theorem d_Mo_numbers_278 : decode b_Mo_numbers 278 = .ok (.invokevirtual 357, 3) := by sorry
theorem d_Mo_numbers_281 : decode b_Mo_numbers 281 = .ok (.lload 14, 2) := by sorry
theorem d_Mo_numbers_283 : decode b_Mo_numbers 283 = .ok (.lload 8, 2) := by sorry
theorem d_Mo_numbers_285 : decode b_Mo_numbers 285 = .ok (.ladd, 1) := by sorry
theorem d_Mo_numbers_286 : decode b_Mo_numbers 286 = .ok (.lstore 14, 2) := by sorry
theorem d_Mo_numbers_288 : decode b_Mo_numbers 288 = .ok (.goto (-26), 3) := by sorry
theorem d_Mo_numbers_291 : decode b_Mo_numbers 291 = .ok (.goto 74, 3) := by sorry
theorem d_Mo_numbers_294 : decode b_Mo_numbers 294 = .ok (.lload 10, 2) := by sorry
theorem d_Mo_numbers_296 : decode b_Mo_numbers 296 = .ok (.lload_n 3, 1) := by sorry
theorem d_Mo_numbers_297 : decode b_Mo_numbers 297 = .ok (.lconst 1, 1) := by sorry
theorem d_Mo_numbers_298 : decode b_Mo_numbers 298 = .ok (.lsub, 1) := by sorry
theorem d_Mo_numbers_299 : decode b_Mo_numbers 299 = .ok (.lcmp, 1) := by sorry
theorem d_Mo_numbers_300 : decode b_Mo_numbers 300 = .ok (.ifCond .le 9, 3) := by sorry
theorem d_Mo_numbers_303 : decode b_Mo_numbers 303 = .ok (.lload_n 3, 1) := by sorry
theorem d_Mo_numbers_304 : decode b_Mo_numbers 304 = .ok (.lconst 1, 1) := by sorry
theorem d_Mo_numbers_305 : decode b_Mo_numbers 305 = .ok (.lsub, 1) := by sorry
theorem d_Mo_numbers_306 : decode b_Mo_numbers 306 = .ok (.goto 5, 3) := by sorry
theorem d_Mo_numbers_309 : decode b_Mo_numbers 309 = .ok (.lload 10, 2) := by sorry
theorem d_Mo_numbers_311 : decode b_Mo_numbers 311 = .ok (.lstore 10, 2) := by sorry
theorem d_Mo_numbers_313 : decode b_Mo_numbers 313 = .ok (.lload 12, 2) := by sorry
theorem d_Mo_numbers_315 : decode b_Mo_numbers 315 = .ok (.ldc2_w 376, 3) := by sorry
theorem d_Mo_numbers_318 : decode b_Mo_numbers 318 = .ok (.lcmp, 1) := by sorry
theorem d_Mo_numbers_319 : decode b_Mo_numbers 319 = .ok (.ifCond .ge 9, 3) := by sorry
theorem d_Mo_numbers_322 : decode b_Mo_numbers 322 = .ok (.ldc2_w 376, 3) := by sorry
theorem d_Mo_numbers_325 : decode b_Mo_numbers 325 = .ok (.goto 5, 3) := by sorry
theorem d_Mo_numbers_328 : decode b_Mo_numbers 328 = .ok (.lload 12, 2) := by sorry
theorem d_Mo_numbers_330 : decode b_Mo_numbers 330 = .ok (.lstore 12, 2) := by sorry
theorem d_Mo_numbers_332 : decode b_Mo_numbers 332 = .ok (.lload 10, 2) := by sorry
theorem d_Mo_numbers_334 : decode b_Mo_numbers 334 = .ok (.lstore 14, 2) := by sorry
theorem d_Mo_numbers_336 : decode b_Mo_numbers 336 = .ok (.lload 14, 2) := by sorry
theorem d_Mo_numbers_338 : decode b_Mo_numbers 338 = .ok (.lload 12, 2) := by sorry
theorem d_Mo_numbers_340 : decode b_Mo_numbers 340 = .ok (.lcmp, 1) := by sorry
theorem d_Mo_numbers_341 : decode b_Mo_numbers 341 = .ok (.ifCond .le 24, 3) := by sorry
theorem d_Mo_numbers_344 : decode b_Mo_numbers 344 = .ok (.aload_n 0, 1) := by sorry
theorem d_Mo_numbers_345 : decode b_Mo_numbers 345 = .ok (.aload_n 0, 1) := by sorry
theorem d_Mo_numbers_346 : decode b_Mo_numbers 346 = .ok (.iload_n 2, 1) := by sorry
theorem d_Mo_numbers_347 : decode b_Mo_numbers 347 = .ok (.lload 14, 2) := by sorry
theorem d_Mo_numbers_349 : decode b_Mo_numbers 349 = .ok (.invokevirtual 372, 3) := by sorry
theorem d_Mo_numbers_352 : decode b_Mo_numbers 352 = .ok (.invokevirtual 357, 3) := by sorry
theorem d_Mo_numbers_355 : decode b_Mo_numbers 355 = .ok (.lload 14, 2) := by sorry
theorem d_Mo_numbers_357 : decode b_Mo_numbers 357 = .ok (.lload 8, 2) := by sorry
theorem d_Mo_numbers_359 : decode b_Mo_numbers 359 = .ok (.ladd, 1) := by sorry
theorem d_Mo_numbers_360 : decode b_Mo_numbers 360 = .ok (.lstore 14, 2) := by sorry
theorem d_Mo_numbers_362 : decode b_Mo_numbers 362 = .ok (.goto (-26), 3) := by sorry
theorem d_Mo_numbers_365 : decode b_Mo_numbers 365 = .ok (.return_, 1) := by sorry
theorem toI_neg1 {i : Int64} (h : i.toInt < -1) : (i + 1).toInt.toNat = 0 := by sorry
set_option maxHeartbeats 4000000 in
set_option maxRecDepth 100000 in
/-- the reference: numbers -/
theorem c_Mo_numbers (l : Launch) (dC : Nat → ClassId) (dI : Nat → Nat → Nat) (mo : Nat) (sz : Heap) (v : Nat → Value) (cI cL : ClassId) (ql t : Nat) (Q : QS) (T : TS) (tp dn : Nat) (li : Nat → Int32) (x9 nd : Nat) (nn rt : NT) (mq : QT) (hm : (Q.qf (8 * x9 + 0) = 3 ∧ mq = idxS (Q.ef (3 * x9 + 0))) ∨ (Q.qf (8 * x9 + 0) = 4 ∧ mq = slq (Q.qf (8 * x9 + 2)) (Q.ef (3 * x9 + 0)) (Q.ef (3 * x9 + 1)) (Q.ef (3 * x9 + 2)))) (hk5 : kdN nn = 5) (hQ : QOK Q) (hx9 : x9 < Q.R) (hT : TOK T) (hct : T.ct ≤ 4096) (hE0 : EI T tp dn 0 li) (hN : NDn T nd nn) (h18 : v 18 = .ref t) (h19 : v 19 = .ref Q.qq) (h20 : v 20 = .ref Q.qe) (h24 : v 24 = .ref ql) : Met l y_Mo_numbers (k_Mo_numbers :: gtbl) ({ frames := 3, cells := 0, slots := 0, locals := 80 }) (va_Pc [.ref mo, .int (nI x9), .int (nI nd)] (mp dC dI [(mo, .inr (13, MF 30 (es v tp dn 0))), (Q.qq, .inl (cI, (8 * Q.C), .inl Q.qf)), (Q.qe, .inl (cL, (3 * Q.C), .inr (.inl Q.ef))), (t, .inr (12, MF 13 (tw T))), (T.a4, .inl (cI, T.N, .inl T.ki)), (T.a5, .inl (cI, T.N, .inl T.nx)), (ql, .inl (cI, 20100, .inl li))] [(cI, .int), (cL, .long)] sz)) (va_Qv (fun (u : Nat × Nat × Int32 × (Nat → Int32)) => EI T u.1 u.2.1 u.2.2.1 u.2.2.2 ∧ tp ≤ u.1 ∧ (∀ j, j < tp → u.2.2.2 j = li j) ∧ DB 4096 dn 0 u.2.1 u.2.2.1 ∧ PUr T (mq rt nn) tp dn u.1 u.2.1 u.2.2.1 u.2.2.2) (fun u t9 => mz dC dI [(mo, .inr (13, MF 30 (es v u.1 u.2.1 u.2.2.1))), (Q.qq, .inl (cI, (8 * Q.C), .inl Q.qf)), (Q.qe, .inl (cL, (3 * Q.C), .inr (.inl Q.ef))), (t, .inr (12, MF 13 (tw T))), (T.a4, .inl (cI, T.N, .inl T.ki)), (T.a5, .inl (cI, T.N, .inl T.nx)), (ql, .inl (cI, 20100, .inl u.2.2.2))] [(cI, .int), (cL, .long)] (va_A [(mo, .inr (13, MF 30 (es v tp dn 0))), (Q.qq, .inl (cI, (8 * Q.C), .inl Q.qf)), (Q.qe, .inl (cL, (3 * Q.C), .inr (.inl Q.ef))), (t, .inr (12, MF 13 (tw T))), (T.a4, .inl (cI, T.N, .inl T.ki)), (T.a5, .inl (cI, T.N, .inl T.nx)), (ql, .inl (cI, 20100, .inl li))] sz.size) t9) (va_A [(mo, .inr (13, MF 30 (es v tp dn 0))), (Q.qq, .inl (cI, (8 * Q.C), .inl Q.qf)), (Q.qe, .inl (cL, (3 * Q.C), .inr (.inl Q.ef))), (t, .inr (12, MF 13 (tw T))), (T.a4, .inl (cI, T.N, .inl T.ki)), (T.a5, .inl (cI, T.N, .inl T.nx)), (ql, .inl (cI, 20100, .inl li))] sz.size)) 0 0 (va_A [(mo, .inr (13, MF 30 (es v tp dn 0))), (Q.qq, .inl (cI, (8 * Q.C), .inl Q.qf)), (Q.qe, .inl (cL, (3 * Q.C), .inr (.inl Q.ef))), (t, .inr (12, MF 13 (tw T))), (T.a4, .inl (cI, T.N, .inl T.ki)), (T.a5, .inl (cI, T.N, .inl T.nx)), (ql, .inl (cI, 20100, .inl li))] sz.size) := by sorry
end
section
theorem w_1509 : (.methodLink "QueryBenchModel" 367 ⟨"QueryBenchModel", "numbers", "(II)V"⟩ : Cond) ∈ gtbl := by sorry
theorem w_1511 : (.instanceMethod ⟨"QueryBenchModel", "numbers", "(II)V"⟩ : Cond) ∈ gtbl := by sorry
theorem w_1522 : (.methodLink "QueryBenchModel" 369 ⟨"QueryBenchModel", "holds", "(II)Z"⟩ : Cond) ∈ gtbl := by sorry
theorem w_1524 : (.instanceMethod ⟨"QueryBenchModel", "holds", "(II)Z"⟩ : Cond) ∈ gtbl := by sorry
theorem TE.rf {T : TS} : TE T T := by sorry
/-- the tree of values is as it was, but may have grown -/
def WV (cap : Nat) (W W2 : TS) : Prop := TOK W2 ∧ W2.ct = W.ct ∧ W2.us = W.us ∧ TE W W2 ∧ GB (W.ct + cap) (W.us + cap) W W2
theorem WV.rf {cap : Nat} {W : TS} (h : TOK W) : WV cap W W := by sorry
theorem WV.tr {cap c2 : Nat} {W W1 W2 : TS} (h : WV cap W W1) (g : WV c2 W1 W2) (hc : c2 ≤ cap) : WV cap W W2 ∧ cE W W1 + cE W1 W2 ≤ cE W W2 ∧ sE W W1 + sE W1 W2 ≤ sE W W2 := by sorry
/-- the work's state behind a call: top, work, too much, list, values -/
abbrev EU : Type := Nat × Nat × Int32 × (Nat → Int32) × TS
def EVo (T W : TS) (cap c tp dn : Nat) (tm : Int32) (li : Nat → Int32) (u : EU) : Prop := EI T u.1 u.2.1 u.2.2.1 u.2.2.2.1 ∧ tp ≤ u.1 ∧ (∀ j, j < tp → u.2.2.2.1 j = li j) ∧ DB c dn tm u.2.1 u.2.2.1 ∧ WV cap W u.2.2.2.2
theorem EVo.rf {T W : TS} {cap c tp dn : Nat} {tm : Int32} {li : Nat → Int32} (h : EI T tp dn tm li) (hW : TOK W) : EVo T W cap c tp dn tm li (tp, dn, tm, li, W) := by sorry
theorem EVo.tr {T W : TS} {cap c2 c tp dn : Nat} {tm : Int32} {li : Nat → Int32} {u u2 : EU} (h : EVo T W cap c tp dn tm li u) (h0 : u.2.2.1 = 0) (g : EVo T u.2.2.2.2 c2 c u.1 u.2.1 u.2.2.1 u.2.2.2.1 u2) (hc : c2 ≤ cap) : EVo T W cap c tp dn tm li u2 := by sorry
theorem EVo.of {T W : TS} {cap c c0 tp dn t1 d1 : Nat} {tm m1 : Int32} {li l1 : Nat → Int32} (h : EI T t1 d1 m1 l1) (h1 : tp ≤ t1) (h3 : ∀ j, j < tp → l1 j = li j) (h4 : DB c0 dn tm d1 m1) (hc : c0 ≤ c) (hW : TOK W) : EVo T W cap c tp dn tm li (t1, d1, m1, l1, W) := by sorry
/-- one more piece of work -/
theorem wk_step {T : TS} {tp d : Nat} {li : Nat → Int32} (h : EI T tp d 0 li) : (d + 1 ≤ 10000 → EI T tp (d + 1) 0 li ∧ DB 0 d 0 (d + 1) 0) ∧ (¬ d + 1 ≤ 10000 → EI T tp (d + 1) 1 li ∧ DB 0 d 0 (d + 1) 1) := by sorry
theorem SELp_1 {O : QP CT} {Q : QS} {V : TS} {lo hi x : Nat} {m : QT} (h : SELp O Q V lo hi x m) (h1 : Q.qf (8 * x + 0) = 1) : ∃ t, NMq Q V x t ∧ m = namS t := by sorry
theorem SELp_34 {O : QP CT} {Q : QS} {V : TS} {lo hi x : Nat} {m : QT} (h : SELp O Q V lo hi x m) (h1 : Q.qf (8 * x + 0) = 3 ∨ Q.qf (8 * x + 0) = 4) : (Q.qf (8 * x + 0) = 3 ∧ m = idxS (Q.ef (3 * x + 0))) ∨ (Q.qf (8 * x + 0) = 4 ∧ m = slq (Q.qf (8 * x + 2)) (Q.ef (3 * x + 0)) (Q.ef (3 * x + 1)) (Q.ef (3 * x + 2))) := by sorry
theorem SELp_ef {O : QP CT} {Q : QS} {V : TS} {lo hi x : Nat} {m : QT} (h : SELp O Q V lo hi x m) (h1 : ¬ Q.qf (8 * x + 0) = 1) (h3 : ¬ Q.qf (8 * x + 0) = 3) (h4 : ¬ Q.qf (8 * x + 0) = 4) : ∃ (b : Bool) (g : CT), (b = true ↔ Q.qf (8 * x + 0) = 2) ∧ (b = false → ∃ a : Nat, Q.qf (8 * x + 2) = nI a ∧ Wth O Q V lo hi x a g) ∧ ∀ rt nn, m rt nn = rstS b g rt nn 0 := by sorry
theorem slq_no {h : Int32} {a b c : Int64} {rt nd : NT} (hk : ¬ kdN nd = 5) : slq h a b c rt nd = ([], 0) := by sorry
/-- what asking a condition leaves: its work, its answer -/
def HLr (T : TS) (g : CT) (rt nn : NT) (tp dn : Nat) (res : Int32) (u : EU) : Prop := PUr T ([], (g rt nn).2) tp dn u.1 u.2.1 u.2.2.1 u.2.2.2.1 ∧ (u.2.2.1 = 0 → res = bI (g rt nn).1)
theorem drop_c {α : Type} {l : List α} {i : Nat} {a : α} {r : List α} (h : l.drop i = a :: r) : l[i]? = some a ∧ l.drop (i + 1) = r := by sorry
abbrev b_Mo_holds : ByteArray := prog_14_method_58_code
def y_Mo_holds : MethodName := ⟨"QueryBenchModel", "holds", "(II)Z"⟩
abbrev k_Mo_holds : Cond := .code y_Mo_holds b_Mo_holds 5 (some .boolean)
theorem i_Mo_holds : k_Mo_holds ∈ gtbl := by sorry
/-- what holds does -/
def HOC (O : QP CT) (cb cap F L : Nat) : Prop := ∀ (l : Launch) (dC : Nat → ClassId) (dI : Nat → Nat → Nat) (mo : Nat) (sz : Heap) (v : Nat → Value) (cI cL cC : ClassId) (ql t tv tw9 : Nat) (Q : QS) (V T Z : TS) (tp dn : Nat) (tm : Int32) (li : Nat → Int32) (rt : NT) (lo hi e9 nd : Nat) (nn : NT) (g : CT), QOK Q → TOK V → TOK T → TOK Z → T.ct ≤ 4096 ∧ V.us ≤ 4096 → EI T tp dn tm li → dn ≤ 20000 → NDn T 0 rt → v 18 = .ref t → v 19 = .ref Q.qq → v 20 = .ref Q.qe → v 22 = .ref tv → v 24 = .ref ql → v 28 = .int (nI 0) → v 29 = .ref tw9 → Z.ct + cap ≤ 300000 → Z.us + cap ≤ 300000 → O Q V lo hi e9 g → hi ≤ Q.R → NDn T nd nn → Met l y_Mo_holds (k_Mo_holds :: gtbl) ({ frames := F, cells := ncap Z (Z.ct + cap) + qcap Z (Z.us + cap), slots := 20 * ncap Z (Z.ct + cap) + 2 * qcap Z (Z.us + cap), locals := L }) (va_Pc [.ref mo, .int (nI e9), .int (nI nd)] (mp dC dI [(mo, .inr (13, MF 30 (es v tp dn tm))), (Q.qq, .inl (cI, (8 * Q.C), .inl Q.qf)), (Q.qe, .inl (cL, (3 * Q.C), .inr (.inl Q.ef))), (t, .inr (12, MF 13 (tw T))), (T.a0, .inl (cI, T.N, .inl T.kd)), (T.a1, .inl (cL, T.N, .inr (.inl T.nu))), (T.a2, .inl (cI, T.N, .inl T.st)), (T.a3, .inl (cI, T.N, .inl T.ln)), (T.a4, .inl (cI, T.N, .inl T.ki)), (T.a5, .inl (cI, T.N, .inl T.nx)), (T.a6, .inl (cI, T.N, .inl T.ns)), (T.a7, .inl (cI, T.N, .inl T.nl)), (T.a8, .inl (cI, T.N, .inl T.pa)), (T.a9, .inl (cI, T.N, .inl T.pl)), (T.au, .inl (cC, T.U, .inl T.un)), (tv, .inr (12, MF 13 (tw V))), (V.au, .inl (cC, V.U, .inl V.un)), (ql, .inl (cI, 20100, .inl li)), (tw9, .inr (12, MF 13 (tw Z))), (Z.a0, .inl (cI, Z.N, .inl Z.kd)), (Z.a1, .inl (cL, Z.N, .inr (.inl Z.nu))), (Z.a2, .inl (cI, Z.N, .inl Z.st)), (Z.a3, .inl (cI, Z.N, .inl Z.ln)), (Z.a4, .inl (cI, Z.N, .inl Z.ki)), (Z.a5, .inl (cI, Z.N, .inl Z.nx)), (Z.a6, .inl (cI, Z.N, .inl Z.ns)), (Z.a7, .inl (cI, Z.N, .inl Z.nl)), (Z.a8, .inl (cI, Z.N, .inl Z.pa)), (Z.a9, .inl (cI, Z.N, .inl Z.pl)), (Z.au, .inl (cC, Z.U, .inl Z.un))] [(cI, .int), (cL, .long), (cC, .char)] sz)) (va_Qi (fun (res : Int32) (u : EU) => EVo T Z cap cb tp dn tm li u ∧ u.1 = tp ∧ (res = 0 ∨ res = 1) ∧ (¬ tm = 0 → u.2.1 = dn) ∧ (tm = 0 → HLr T g rt nn tp dn res u)) (fun u t9 => mz dC dI [(mo, .inr (13, MF 30 (es v u.1 u.2.1 u.2.2.1))), (Q.qq, .inl (cI, (8 * Q.C), .inl Q.qf)), (Q.qe, .inl (cL, (3 * Q.C), .inr (.inl Q.ef))), (t, .inr (12, MF 13 (tw T))), (T.a0, .inl (cI, T.N, .inl T.kd)), (T.a1, .inl (cL, T.N, .inr (.inl T.nu))), (T.a2, .inl (cI, T.N, .inl T.st)), (T.a3, .inl (cI, T.N, .inl T.ln)), (T.a4, .inl (cI, T.N, .inl T.ki)), (T.a5, .inl (cI, T.N, .inl T.nx)), (T.a6, .inl (cI, T.N, .inl T.ns)), (T.a7, .inl (cI, T.N, .inl T.nl)), (T.a8, .inl (cI, T.N, .inl T.pa)), (T.a9, .inl (cI, T.N, .inl T.pl)), (T.au, .inl (cC, T.U, .inl T.un)), (tv, .inr (12, MF 13 (tw V))), (V.au, .inl (cC, V.U, .inl V.un)), (ql, .inl (cI, 20100, .inl u.2.2.2.1)), (tw9, .inr (12, MF 13 (tw u.2.2.2.2))), (u.2.2.2.2.a0, .inl (cI, u.2.2.2.2.N, .inl u.2.2.2.2.kd)), (u.2.2.2.2.a1, .inl (cL, u.2.2.2.2.N, .inr (.inl u.2.2.2.2.nu))), (u.2.2.2.2.a2, .inl (cI, u.2.2.2.2.N, .inl u.2.2.2.2.st)), (u.2.2.2.2.a3, .inl (cI, u.2.2.2.2.N, .inl u.2.2.2.2.ln)), (u.2.2.2.2.a4, .inl (cI, u.2.2.2.2.N, .inl u.2.2.2.2.ki)), (u.2.2.2.2.a5, .inl (cI, u.2.2.2.2.N, .inl u.2.2.2.2.nx)), (u.2.2.2.2.a6, .inl (cI, u.2.2.2.2.N, .inl u.2.2.2.2.ns)), (u.2.2.2.2.a7, .inl (cI, u.2.2.2.2.N, .inl u.2.2.2.2.nl)), (u.2.2.2.2.a8, .inl (cI, u.2.2.2.2.N, .inl u.2.2.2.2.pa)), (u.2.2.2.2.a9, .inl (cI, u.2.2.2.2.N, .inl u.2.2.2.2.pl)), (u.2.2.2.2.au, .inl (cC, u.2.2.2.2.U, .inl u.2.2.2.2.un))] [(cI, .int), (cL, .long), (cC, .char)] (va_A [(mo, .inr (13, MF 30 (es v tp dn tm))), (Q.qq, .inl (cI, (8 * Q.C), .inl Q.qf)), (Q.qe, .inl (cL, (3 * Q.C), .inr (.inl Q.ef))), (t, .inr (12, MF 13 (tw T))), (T.a0, .inl (cI, T.N, .inl T.kd)), (T.a1, .inl (cL, T.N, .inr (.inl T.nu))), (T.a2, .inl (cI, T.N, .inl T.st)), (T.a3, .inl (cI, T.N, .inl T.ln)), (T.a4, .inl (cI, T.N, .inl T.ki)), (T.a5, .inl (cI, T.N, .inl T.nx)), (T.a6, .inl (cI, T.N, .inl T.ns)), (T.a7, .inl (cI, T.N, .inl T.nl)), (T.a8, .inl (cI, T.N, .inl T.pa)), (T.a9, .inl (cI, T.N, .inl T.pl)), (T.au, .inl (cC, T.U, .inl T.un)), (tv, .inr (12, MF 13 (tw V))), (V.au, .inl (cC, V.U, .inl V.un)), (ql, .inl (cI, 20100, .inl li)), (tw9, .inr (12, MF 13 (tw Z))), (Z.a0, .inl (cI, Z.N, .inl Z.kd)), (Z.a1, .inl (cL, Z.N, .inr (.inl Z.nu))), (Z.a2, .inl (cI, Z.N, .inl Z.st)), (Z.a3, .inl (cI, Z.N, .inl Z.ln)), (Z.a4, .inl (cI, Z.N, .inl Z.ki)), (Z.a5, .inl (cI, Z.N, .inl Z.nx)), (Z.a6, .inl (cI, Z.N, .inl Z.ns)), (Z.a7, .inl (cI, Z.N, .inl Z.nl)), (Z.a8, .inl (cI, Z.N, .inl Z.pa)), (Z.a9, .inl (cI, Z.N, .inl Z.pl)), (Z.au, .inl (cC, Z.U, .inl Z.un))] sz.size) t9 ∧ szk sz t9.heap (cE Z u.2.2.2.2) (sE Z u.2.2.2.2)) (va_A [(mo, .inr (13, MF 30 (es v tp dn tm))), (Q.qq, .inl (cI, (8 * Q.C), .inl Q.qf)), (Q.qe, .inl (cL, (3 * Q.C), .inr (.inl Q.ef))), (t, .inr (12, MF 13 (tw T))), (T.a0, .inl (cI, T.N, .inl T.kd)), (T.a1, .inl (cL, T.N, .inr (.inl T.nu))), (T.a2, .inl (cI, T.N, .inl T.st)), (T.a3, .inl (cI, T.N, .inl T.ln)), (T.a4, .inl (cI, T.N, .inl T.ki)), (T.a5, .inl (cI, T.N, .inl T.nx)), (T.a6, .inl (cI, T.N, .inl T.ns)), (T.a7, .inl (cI, T.N, .inl T.nl)), (T.a8, .inl (cI, T.N, .inl T.pa)), (T.a9, .inl (cI, T.N, .inl T.pl)), (T.au, .inl (cC, T.U, .inl T.un)), (tv, .inr (12, MF 13 (tw V))), (V.au, .inl (cC, V.U, .inl V.un)), (ql, .inl (cI, 20100, .inl li)), (tw9, .inr (12, MF 13 (tw Z))), (Z.a0, .inl (cI, Z.N, .inl Z.kd)), (Z.a1, .inl (cL, Z.N, .inr (.inl Z.nu))), (Z.a2, .inl (cI, Z.N, .inl Z.st)), (Z.a3, .inl (cI, Z.N, .inl Z.ln)), (Z.a4, .inl (cI, Z.N, .inl Z.ki)), (Z.a5, .inl (cI, Z.N, .inl Z.nx)), (Z.a6, .inl (cI, Z.N, .inl Z.ns)), (Z.a7, .inl (cI, Z.N, .inl Z.nl)), (Z.a8, .inl (cI, Z.N, .inl Z.pa)), (Z.a9, .inl (cI, Z.N, .inl Z.pl)), (Z.au, .inl (cC, Z.U, .inl Z.un))] sz.size)) (ncap Z (Z.ct + cap) + qcap Z (Z.us + cap)) (20 * ncap Z (Z.ct + cap) + 2 * qcap Z (Z.us + cap)) (va_A [(mo, .inr (13, MF 30 (es v tp dn tm))), (Q.qq, .inl (cI, (8 * Q.C), .inl Q.qf)), (Q.qe, .inl (cL, (3 * Q.C), .inr (.inl Q.ef))), (t, .inr (12, MF 13 (tw T))), (T.a0, .inl (cI, T.N, .inl T.kd)), (T.a1, .inl (cL, T.N, .inr (.inl T.nu))), (T.a2, .inl (cI, T.N, .inl T.st)), (T.a3, .inl (cI, T.N, .inl T.ln)), (T.a4, .inl (cI, T.N, .inl T.ki)), (T.a5, .inl (cI, T.N, .inl T.nx)), (T.a6, .inl (cI, T.N, .inl T.ns)), (T.a7, .inl (cI, T.N, .inl T.nl)), (T.a8, .inl (cI, T.N, .inl T.pa)), (T.a9, .inl (cI, T.N, .inl T.pl)), (T.au, .inl (cC, T.U, .inl T.un)), (tv, .inr (12, MF 13 (tw V))), (V.au, .inl (cC, V.U, .inl V.un)), (ql, .inl (cI, 20100, .inl li)), (tw9, .inr (12, MF 13 (tw Z))), (Z.a0, .inl (cI, Z.N, .inl Z.kd)), (Z.a1, .inl (cL, Z.N, .inr (.inl Z.nu))), (Z.a2, .inl (cI, Z.N, .inl Z.st)), (Z.a3, .inl (cI, Z.N, .inl Z.ln)), (Z.a4, .inl (cI, Z.N, .inl Z.ki)), (Z.a5, .inl (cI, Z.N, .inl Z.nx)), (Z.a6, .inl (cI, Z.N, .inl Z.ns)), (Z.a7, .inl (cI, Z.N, .inl Z.nl)), (Z.a8, .inl (cI, Z.N, .inl Z.pa)), (Z.a9, .inl (cI, Z.N, .inl Z.pl)), (Z.au, .inl (cC, Z.U, .inl Z.un))] sz.size)
abbrev b_Mo_select : ByteArray := prog_14_method_56_code
def y_Mo_select : MethodName := ⟨"QueryBenchModel", "select", "(II)V"⟩
abbrev k_Mo_select : Cond := .code y_Mo_select b_Mo_select 6 none
theorem i_Mo_select : k_Mo_select ∈ gtbl := by sorry
theorem d_Mo_select_0 : decode b_Mo_select 0 = .ok (.aload_n 0, 1) := by sorry
theorem d_Mo_select_1 : decode b_Mo_select 1 = .ok (.iload_n 1, 1) := by sorry
theorem d_Mo_select_2 : decode b_Mo_select 2 = .ok (.iconst 2, 1) := by sorry
theorem d_Mo_select_3 : decode b_Mo_select 3 = .ok (.invokevirtual 286, 3) := by sorry
theorem d_Mo_select_6 : decode b_Mo_select 6 = .ok (.istore_n 3, 1) := by sorry
theorem d_Mo_select_7 : decode b_Mo_select 7 = .ok (.iload_n 3, 1) := by sorry
theorem d_Mo_select_8 : decode b_Mo_select 8 = .ok (.ifCond .lt 214, 3) := by sorry
theorem d_Mo_select_11 : decode b_Mo_select 11 = .ok (.aload_n 0, 1) := by sorry
theorem d_Mo_select_12 : decode b_Mo_select 12 = .ok (.getfield 345, 3) := by sorry
theorem d_Mo_select_15 : decode b_Mo_select 15 = .ok (.ifCond .ne 207, 3) := by sorry
theorem d_Mo_select_18 : decode b_Mo_select 18 = .ok (.aload_n 0, 1) := by sorry
theorem d_Mo_select_19 : decode b_Mo_select 19 = .ok (.iload_n 3, 1) := by sorry
theorem d_Mo_select_20 : decode b_Mo_select 20 = .ok (.iconst 0, 1) := by sorry
theorem d_Mo_select_21 : decode b_Mo_select 21 = .ok (.invokevirtual 286, 3) := by sorry
theorem d_Mo_select_24 : decode b_Mo_select 24 = .ok (.istore 4, 2) := by sorry
theorem d_Mo_select_26 : decode b_Mo_select 26 = .ok (.iload 4, 2) := by sorry
theorem d_Mo_select_28 : decode b_Mo_select 28 = .ok (.iconst 1, 1) := by sorry
theorem d_Mo_select_29 : decode b_Mo_select 29 = .ok (.if_icmp .ne 61, 3) := by sorry
theorem d_Mo_select_32 : decode b_Mo_select 32 = .ok (.aload_n 0, 1) := by sorry
theorem d_Mo_select_33 : decode b_Mo_select 33 = .ok (.getfield 45, 3) := by sorry
theorem d_Mo_select_36 : decode b_Mo_select 36 = .ok (.getfield 65, 3) := by sorry
theorem d_Mo_select_39 : decode b_Mo_select 39 = .ok (.iload_n 2, 1) := by sorry
theorem d_Mo_select_40 : decode b_Mo_select 40 = .ok (.iaload, 1) := by sorry
theorem d_Mo_select_41 : decode b_Mo_select 41 = .ok (.bipush 6, 2) := by sorry
theorem d_Mo_select_43 : decode b_Mo_select 43 = .ok (.if_icmp .ne 30, 3) := by sorry
theorem d_Mo_select_46 : decode b_Mo_select 46 = .ok (.aload_n 0, 1) := by sorry
theorem d_Mo_select_47 : decode b_Mo_select 47 = .ok (.getfield 45, 3) := by sorry
theorem d_Mo_select_50 : decode b_Mo_select 50 = .ok (.iload_n 2, 1) := by sorry
theorem d_Mo_select_51 : decode b_Mo_select 51 = .ok (.aload_n 0, 1) := by sorry
theorem d_Mo_select_52 : decode b_Mo_select 52 = .ok (.getfield 56, 3) := by sorry
theorem d_Mo_select_55 : decode b_Mo_select 55 = .ok (.aload_n 0, 1) := by sorry
theorem d_Mo_select_56 : decode b_Mo_select 56 = .ok (.iload_n 3, 1) := by sorry
theorem d_Mo_select_57 : decode b_Mo_select 57 = .ok (.iconst 2, 1) := by sorry
theorem d_Mo_select_58 : decode b_Mo_select 58 = .ok (.invokevirtual 286, 3) := by sorry
theorem d_Mo_select_61 : decode b_Mo_select 61 = .ok (.aload_n 0, 1) := by sorry
theorem d_Mo_select_62 : decode b_Mo_select 62 = .ok (.iload_n 3, 1) := by sorry
theorem d_Mo_select_63 : decode b_Mo_select 63 = .ok (.iconst 3, 1) := by sorry
theorem d_Mo_select_64 : decode b_Mo_select 64 = .ok (.invokevirtual 286, 3) := by sorry
theorem d_Mo_select_67 : decode b_Mo_select 67 = .ok (.invokevirtual 95, 3) := by sorry
theorem d_Mo_select_70 : decode b_Mo_select 70 = .ok (.goto 4, 3) := by sorry
theorem d_Mo_select_73 : decode b_Mo_select 73 = .ok (.iconst (-1), 1) := by sorry
theorem d_Mo_select_74 : decode b_Mo_select 74 = .ok (.istore 5, 2) := by sorry
theorem d_Mo_select_76 : decode b_Mo_select 76 = .ok (.iload 5, 2) := by sorry
theorem d_Mo_select_78 : decode b_Mo_select 78 = .ok (.ifCond .lt 9, 3) := by sorry
theorem d_Mo_select_81 : decode b_Mo_select 81 = .ok (.aload_n 0, 1) := by sorry
theorem d_Mo_select_82 : decode b_Mo_select 82 = .ok (.iload 5, 2) := by sorry
theorem d_Mo_select_84 : decode b_Mo_select 84 = .ok (.invokevirtual 357, 3) := by sorry
theorem d_Mo_select_87 : decode b_Mo_select 87 = .ok (.goto 125, 3) := by sorry
theorem d_Mo_select_90 : decode b_Mo_select 90 = .ok (.iload 4, 2) := by sorry
theorem d_Mo_select_92 : decode b_Mo_select 92 = .ok (.iconst 3, 1) := by sorry
theorem d_Mo_select_93 : decode b_Mo_select 93 = .ok (.if_icmp .eq 9, 3) := by sorry
theorem d_Mo_select_96 : decode b_Mo_select 96 = .ok (.iload 4, 2) := by sorry
theorem d_Mo_select_98 : decode b_Mo_select 98 = .ok (.iconst 4, 1) := by sorry
theorem d_Mo_select_99 : decode b_Mo_select 99 = .ok (.if_icmp .ne 25, 3) := by sorry
theorem d_Mo_select_102 : decode b_Mo_select 102 = .ok (.aload_n 0, 1) := by sorry
theorem d_Mo_select_103 : decode b_Mo_select 103 = .ok (.getfield 45, 3) := by sorry
theorem d_Mo_select_106 : decode b_Mo_select 106 = .ok (.getfield 65, 3) := by sorry
theorem d_Mo_select_109 : decode b_Mo_select 109 = .ok (.iload_n 2, 1) := by sorry
theorem d_Mo_select_110 : decode b_Mo_select 110 = .ok (.iaload, 1) := by sorry
theorem d_Mo_select_111 : decode b_Mo_select 111 = .ok (.iconst 5, 1) := by sorry
theorem d_Mo_select_112 : decode b_Mo_select 112 = .ok (.if_icmp .ne 100, 3) := by sorry
theorem d_Mo_select_115 : decode b_Mo_select 115 = .ok (.aload_n 0, 1) := by sorry
theorem d_Mo_select_116 : decode b_Mo_select 116 = .ok (.iload_n 3, 1) := by sorry
theorem d_Mo_select_117 : decode b_Mo_select 117 = .ok (.iload_n 2, 1) := by sorry
theorem d_Mo_select_118 : decode b_Mo_select 118 = .ok (.invokevirtual 367, 3) := by sorry
theorem d_Mo_select_121 : decode b_Mo_select 121 = .ok (.goto 91, 3) := by sorry
theorem d_Mo_select_124 : decode b_Mo_select 124 = .ok (.aload_n 0, 1) := by sorry
theorem d_Mo_select_125 : decode b_Mo_select 125 = .ok (.getfield 45, 3) := by sorry
theorem d_Mo_select_128 : decode b_Mo_select 128 = .ok (.getfield 75, 3) := by sorry
theorem d_Mo_select_131 : decode b_Mo_select 131 = .ok (.iload_n 2, 1) := by sorry
theorem d_Mo_select_132 : decode b_Mo_select 132 = .ok (.iaload, 1) := by sorry
theorem d_Mo_select_133 : decode b_Mo_select 133 = .ok (.istore 5, 2) := by sorry
theorem d_Mo_select_135 : decode b_Mo_select 135 = .ok (.iload 5, 2) := by sorry
theorem d_Mo_select_137 : decode b_Mo_select 137 = .ok (.ifCond .lt 75, 3) := by sorry
theorem d_Mo_select_140 : decode b_Mo_select 140 = .ok (.aload_n 0, 1) := by sorry
theorem d_Mo_select_141 : decode b_Mo_select 141 = .ok (.getfield 345, 3) := by sorry
theorem d_Mo_select_144 : decode b_Mo_select 144 = .ok (.ifCond .ne 68, 3) := by sorry
theorem d_Mo_select_147 : decode b_Mo_select 147 = .ok (.iload 4, 2) := by sorry
theorem d_Mo_select_149 : decode b_Mo_select 149 = .ok (.iconst 2, 1) := by sorry
theorem d_Mo_select_150 : decode b_Mo_select 150 = .ok (.if_icmp .ne 12, 3) := by sorry
theorem d_Mo_select_153 : decode b_Mo_select 153 = .ok (.aload_n 0, 1) := by sorry
theorem d_Mo_select_154 : decode b_Mo_select 154 = .ok (.iload 5, 2) := by sorry
theorem d_Mo_select_156 : decode b_Mo_select 156 = .ok (.invokevirtual 357, 3) := by sorry
theorem d_Mo_select_159 : decode b_Mo_select 159 = .ok (.goto 38, 3) := by sorry
theorem d_Mo_select_162 : decode b_Mo_select 162 = .ok (.aload_n 0, 1) := by sorry
theorem d_Mo_select_163 : decode b_Mo_select 163 = .ok (.invokevirtual 348, 3) := by sorry
theorem d_Mo_select_166 : decode b_Mo_select 166 = .ok (.ifCond .eq 31, 3) := by sorry
theorem d_Mo_select_169 : decode b_Mo_select 169 = .ok (.aload_n 0, 1) := by sorry
theorem d_Mo_select_170 : decode b_Mo_select 170 = .ok (.aload_n 0, 1) := by sorry
theorem d_Mo_select_171 : decode b_Mo_select 171 = .ok (.iload_n 3, 1) := by sorry
theorem d_Mo_select_172 : decode b_Mo_select 172 = .ok (.iconst 2, 1) := by sorry
theorem d_Mo_select_173 : decode b_Mo_select 173 = .ok (.invokevirtual 286, 3) := by sorry
theorem d_Mo_select_176 : decode b_Mo_select 176 = .ok (.iload 5, 2) := by sorry
theorem d_Mo_select_178 : decode b_Mo_select 178 = .ok (.invokevirtual 369, 3) := by sorry
theorem d_Mo_select_181 : decode b_Mo_select 181 = .ok (.ifCond .eq 16, 3) := by sorry
theorem d_Mo_select_184 : decode b_Mo_select 184 = .ok (.aload_n 0, 1) := by sorry
theorem d_Mo_select_185 : decode b_Mo_select 185 = .ok (.getfield 345, 3) := by sorry
theorem d_Mo_select_188 : decode b_Mo_select 188 = .ok (.ifCond .ne 9, 3) := by sorry
theorem d_Mo_select_191 : decode b_Mo_select 191 = .ok (.aload_n 0, 1) := by sorry
theorem d_Mo_select_192 : decode b_Mo_select 192 = .ok (.iload 5, 2) := by sorry
theorem d_Mo_select_194 : decode b_Mo_select 194 = .ok (.invokevirtual 357, 3) := by sorry
theorem d_Mo_select_197 : decode b_Mo_select 197 = .ok (.aload_n 0, 1) := by sorry
theorem d_Mo_select_198 : decode b_Mo_select 198 = .ok (.getfield 45, 3) := by sorry
theorem d_Mo_select_201 : decode b_Mo_select 201 = .ok (.getfield 82, 3) := by sorry
theorem d_Mo_select_204 : decode b_Mo_select 204 = .ok (.iload 5, 2) := by sorry
theorem d_Mo_select_206 : decode b_Mo_select 206 = .ok (.iaload, 1) := by sorry
theorem d_Mo_select_207 : decode b_Mo_select 207 = .ok (.istore 5, 2) := by sorry
theorem d_Mo_select_209 : decode b_Mo_select 209 = .ok (.goto (-74), 3) := by sorry
theorem d_Mo_select_212 : decode b_Mo_select 212 = .ok (.aload_n 0, 1) := by sorry
theorem d_Mo_select_213 : decode b_Mo_select 213 = .ok (.iload_n 3, 1) := by sorry
theorem d_Mo_select_214 : decode b_Mo_select 214 = .ok (.iconst 1, 1) := by sorry
theorem d_Mo_select_215 : decode b_Mo_select 215 = .ok (.invokevirtual 286, 3) := by sorry
theorem d_Mo_select_218 : decode b_Mo_select 218 = .ok (.istore_n 3, 1) := by sorry
theorem d_Mo_select_219 : decode b_Mo_select 219 = .ok (.goto (-212), 3) := by sorry
theorem d_Mo_select_222 : decode b_Mo_select 222 = .ok (.return_, 1) := by sorry
set_option maxHeartbeats 4000000 in
set_option maxRecDepth 100000 in
/-- the reference: select -/
theorem c_slt (O : QP CT) (cb cap F L : Nat) (hc4 : 4096 ≤ cb) (hc5 : cb ≤ 9000) (hHO : HOC O cb cap F L) (l : Launch) (dC : Nat → ClassId) (dI : Nat → Nat → Nat) (mo : Nat) (sz : Heap) (v : Nat → Value) (cI cL cC : ClassId) (ql t tv tw9 : Nat) (Q : QS) (V T Z : TS) (tp dn : Nat) (li : Nat → Int32) (rt : NT) (s9 nd lo hi : Nat) (nn : NT) (lm : List QT) (hQ : QOK Q) (hV : TOK V) (hT : TOK T) (hW : TOK Z) (hct : T.ct ≤ 4096 ∧ V.us ≤ 4096) (hE0 : EI T tp dn 0 li) (hdn : dn ≤ 20000) (hN0 : NDn T 0 rt) (h18 : v 18 = .ref t) (h19 : v 19 = .ref Q.qq) (h20 : v 20 = .ref Q.qe) (h22 : v 22 = .ref tv) (h24 : v 24 = .ref ql) (h28 : v 28 = .int (nI 0)) (h29 : v 29 = .ref tw9) (hwc : Z.ct + cap ≤ 300000) (hwu : Z.us + cap ≤ 300000) (hs9 : s9 < Q.R) (hhi : hi ≤ Q.R) (hCH : CHn 1 (SELp O) Q V hi (-1) lm lo (Q.qf (8 * s9 + 2))) (hN : NDn T nd nn) : Met l y_Mo_select (k_Mo_select :: gtbl) ({ frames := 4 + F, cells := ncap Z (Z.ct + cap) + qcap Z (Z.us + cap), slots := 20 * ncap Z (Z.ct + cap) + 2 * qcap Z (Z.us + cap), locals := 120 + L }) (va_Pc [.ref mo, .int (nI s9), .int (nI nd)] (mp dC dI [(mo, .inr (13, MF 30 (es v tp dn 0))), (Q.qq, .inl (cI, (8 * Q.C), .inl Q.qf)), (Q.qe, .inl (cL, (3 * Q.C), .inr (.inl Q.ef))), (t, .inr (12, MF 13 (tw T))), (T.a0, .inl (cI, T.N, .inl T.kd)), (T.a1, .inl (cL, T.N, .inr (.inl T.nu))), (T.a2, .inl (cI, T.N, .inl T.st)), (T.a3, .inl (cI, T.N, .inl T.ln)), (T.a4, .inl (cI, T.N, .inl T.ki)), (T.a5, .inl (cI, T.N, .inl T.nx)), (T.a6, .inl (cI, T.N, .inl T.ns)), (T.a7, .inl (cI, T.N, .inl T.nl)), (T.a8, .inl (cI, T.N, .inl T.pa)), (T.a9, .inl (cI, T.N, .inl T.pl)), (T.au, .inl (cC, T.U, .inl T.un)), (tv, .inr (12, MF 13 (tw V))), (V.au, .inl (cC, V.U, .inl V.un)), (ql, .inl (cI, 20100, .inl li)), (tw9, .inr (12, MF 13 (tw Z))), (Z.a0, .inl (cI, Z.N, .inl Z.kd)), (Z.a1, .inl (cL, Z.N, .inr (.inl Z.nu))), (Z.a2, .inl (cI, Z.N, .inl Z.st)), (Z.a3, .inl (cI, Z.N, .inl Z.ln)), (Z.a4, .inl (cI, Z.N, .inl Z.ki)), (Z.a5, .inl (cI, Z.N, .inl Z.nx)), (Z.a6, .inl (cI, Z.N, .inl Z.ns)), (Z.a7, .inl (cI, Z.N, .inl Z.nl)), (Z.a8, .inl (cI, Z.N, .inl Z.pa)), (Z.a9, .inl (cI, Z.N, .inl Z.pl)), (Z.au, .inl (cC, Z.U, .inl Z.un))] [(cI, .int), (cL, .long), (cC, .char)] sz)) (va_Qv (fun (u : EU) => EVo T Z cap cb tp dn 0 li u ∧ PUr T (chsS lm rt nn) tp dn u.1 u.2.1 u.2.2.1 u.2.2.2.1) (fun u t9 => mz dC dI [(mo, .inr (13, MF 30 (es v u.1 u.2.1 u.2.2.1))), (Q.qq, .inl (cI, (8 * Q.C), .inl Q.qf)), (Q.qe, .inl (cL, (3 * Q.C), .inr (.inl Q.ef))), (t, .inr (12, MF 13 (tw T))), (T.a0, .inl (cI, T.N, .inl T.kd)), (T.a1, .inl (cL, T.N, .inr (.inl T.nu))), (T.a2, .inl (cI, T.N, .inl T.st)), (T.a3, .inl (cI, T.N, .inl T.ln)), (T.a4, .inl (cI, T.N, .inl T.ki)), (T.a5, .inl (cI, T.N, .inl T.nx)), (T.a6, .inl (cI, T.N, .inl T.ns)), (T.a7, .inl (cI, T.N, .inl T.nl)), (T.a8, .inl (cI, T.N, .inl T.pa)), (T.a9, .inl (cI, T.N, .inl T.pl)), (T.au, .inl (cC, T.U, .inl T.un)), (tv, .inr (12, MF 13 (tw V))), (V.au, .inl (cC, V.U, .inl V.un)), (ql, .inl (cI, 20100, .inl u.2.2.2.1)), (tw9, .inr (12, MF 13 (tw u.2.2.2.2))), (u.2.2.2.2.a0, .inl (cI, u.2.2.2.2.N, .inl u.2.2.2.2.kd)), (u.2.2.2.2.a1, .inl (cL, u.2.2.2.2.N, .inr (.inl u.2.2.2.2.nu))), (u.2.2.2.2.a2, .inl (cI, u.2.2.2.2.N, .inl u.2.2.2.2.st)), (u.2.2.2.2.a3, .inl (cI, u.2.2.2.2.N, .inl u.2.2.2.2.ln)), (u.2.2.2.2.a4, .inl (cI, u.2.2.2.2.N, .inl u.2.2.2.2.ki)), (u.2.2.2.2.a5, .inl (cI, u.2.2.2.2.N, .inl u.2.2.2.2.nx)), (u.2.2.2.2.a6, .inl (cI, u.2.2.2.2.N, .inl u.2.2.2.2.ns)), (u.2.2.2.2.a7, .inl (cI, u.2.2.2.2.N, .inl u.2.2.2.2.nl)), (u.2.2.2.2.a8, .inl (cI, u.2.2.2.2.N, .inl u.2.2.2.2.pa)), (u.2.2.2.2.a9, .inl (cI, u.2.2.2.2.N, .inl u.2.2.2.2.pl)), (u.2.2.2.2.au, .inl (cC, u.2.2.2.2.U, .inl u.2.2.2.2.un))] [(cI, .int), (cL, .long), (cC, .char)] (va_A [(mo, .inr (13, MF 30 (es v tp dn 0))), (Q.qq, .inl (cI, (8 * Q.C), .inl Q.qf)), (Q.qe, .inl (cL, (3 * Q.C), .inr (.inl Q.ef))), (t, .inr (12, MF 13 (tw T))), (T.a0, .inl (cI, T.N, .inl T.kd)), (T.a1, .inl (cL, T.N, .inr (.inl T.nu))), (T.a2, .inl (cI, T.N, .inl T.st)), (T.a3, .inl (cI, T.N, .inl T.ln)), (T.a4, .inl (cI, T.N, .inl T.ki)), (T.a5, .inl (cI, T.N, .inl T.nx)), (T.a6, .inl (cI, T.N, .inl T.ns)), (T.a7, .inl (cI, T.N, .inl T.nl)), (T.a8, .inl (cI, T.N, .inl T.pa)), (T.a9, .inl (cI, T.N, .inl T.pl)), (T.au, .inl (cC, T.U, .inl T.un)), (tv, .inr (12, MF 13 (tw V))), (V.au, .inl (cC, V.U, .inl V.un)), (ql, .inl (cI, 20100, .inl li)), (tw9, .inr (12, MF 13 (tw Z))), (Z.a0, .inl (cI, Z.N, .inl Z.kd)), (Z.a1, .inl (cL, Z.N, .inr (.inl Z.nu))), (Z.a2, .inl (cI, Z.N, .inl Z.st)), (Z.a3, .inl (cI, Z.N, .inl Z.ln)), (Z.a4, .inl (cI, Z.N, .inl Z.ki)), (Z.a5, .inl (cI, Z.N, .inl Z.nx)), (Z.a6, .inl (cI, Z.N, .inl Z.ns)), (Z.a7, .inl (cI, Z.N, .inl Z.nl)), (Z.a8, .inl (cI, Z.N, .inl Z.pa)), (Z.a9, .inl (cI, Z.N, .inl Z.pl)), (Z.au, .inl (cC, Z.U, .inl Z.un))] sz.size) t9 ∧ szk sz t9.heap (cE Z u.2.2.2.2) (sE Z u.2.2.2.2)) (va_A [(mo, .inr (13, MF 30 (es v tp dn 0))), (Q.qq, .inl (cI, (8 * Q.C), .inl Q.qf)), (Q.qe, .inl (cL, (3 * Q.C), .inr (.inl Q.ef))), (t, .inr (12, MF 13 (tw T))), (T.a0, .inl (cI, T.N, .inl T.kd)), (T.a1, .inl (cL, T.N, .inr (.inl T.nu))), (T.a2, .inl (cI, T.N, .inl T.st)), (T.a3, .inl (cI, T.N, .inl T.ln)), (T.a4, .inl (cI, T.N, .inl T.ki)), (T.a5, .inl (cI, T.N, .inl T.nx)), (T.a6, .inl (cI, T.N, .inl T.ns)), (T.a7, .inl (cI, T.N, .inl T.nl)), (T.a8, .inl (cI, T.N, .inl T.pa)), (T.a9, .inl (cI, T.N, .inl T.pl)), (T.au, .inl (cC, T.U, .inl T.un)), (tv, .inr (12, MF 13 (tw V))), (V.au, .inl (cC, V.U, .inl V.un)), (ql, .inl (cI, 20100, .inl li)), (tw9, .inr (12, MF 13 (tw Z))), (Z.a0, .inl (cI, Z.N, .inl Z.kd)), (Z.a1, .inl (cL, Z.N, .inr (.inl Z.nu))), (Z.a2, .inl (cI, Z.N, .inl Z.st)), (Z.a3, .inl (cI, Z.N, .inl Z.ln)), (Z.a4, .inl (cI, Z.N, .inl Z.ki)), (Z.a5, .inl (cI, Z.N, .inl Z.nx)), (Z.a6, .inl (cI, Z.N, .inl Z.ns)), (Z.a7, .inl (cI, Z.N, .inl Z.nl)), (Z.a8, .inl (cI, Z.N, .inl Z.pa)), (Z.a9, .inl (cI, Z.N, .inl Z.pl)), (Z.au, .inl (cC, Z.U, .inl Z.un))] sz.size)) (ncap Z (Z.ct + cap) + qcap Z (Z.us + cap)) (20 * ncap Z (Z.ct + cap) + 2 * qcap Z (Z.us + cap)) (va_A [(mo, .inr (13, MF 30 (es v tp dn 0))), (Q.qq, .inl (cI, (8 * Q.C), .inl Q.qf)), (Q.qe, .inl (cL, (3 * Q.C), .inr (.inl Q.ef))), (t, .inr (12, MF 13 (tw T))), (T.a0, .inl (cI, T.N, .inl T.kd)), (T.a1, .inl (cL, T.N, .inr (.inl T.nu))), (T.a2, .inl (cI, T.N, .inl T.st)), (T.a3, .inl (cI, T.N, .inl T.ln)), (T.a4, .inl (cI, T.N, .inl T.ki)), (T.a5, .inl (cI, T.N, .inl T.nx)), (T.a6, .inl (cI, T.N, .inl T.ns)), (T.a7, .inl (cI, T.N, .inl T.nl)), (T.a8, .inl (cI, T.N, .inl T.pa)), (T.a9, .inl (cI, T.N, .inl T.pl)), (T.au, .inl (cC, T.U, .inl T.un)), (tv, .inr (12, MF 13 (tw V))), (V.au, .inl (cC, V.U, .inl V.un)), (ql, .inl (cI, 20100, .inl li)), (tw9, .inr (12, MF 13 (tw Z))), (Z.a0, .inl (cI, Z.N, .inl Z.kd)), (Z.a1, .inl (cL, Z.N, .inr (.inl Z.nu))), (Z.a2, .inl (cI, Z.N, .inl Z.st)), (Z.a3, .inl (cI, Z.N, .inl Z.ln)), (Z.a4, .inl (cI, Z.N, .inl Z.ki)), (Z.a5, .inl (cI, Z.N, .inl Z.nx)), (Z.a6, .inl (cI, Z.N, .inl Z.ns)), (Z.a7, .inl (cI, Z.N, .inl Z.nl)), (Z.a8, .inl (cI, Z.N, .inl Z.pa)), (Z.a9, .inl (cI, Z.N, .inl Z.pl)), (Z.au, .inl (cC, Z.U, .inl Z.un))] sz.size) := by sorry
end
section
theorem w_1117 : (.fieldLink "QueryBenchModel" 354 "QueryBenchModel" "rootNode" "I" : Cond) ∈ gtbl := by sorry
theorem w_1501 : (.methodLink "QueryBenchModel" 360 ⟨"QueryBenchModel", "descend", "(II)V"⟩ : Cond) ∈ gtbl := by sorry
theorem w_1503 : (.instanceMethod ⟨"QueryBenchModel", "descend", "(II)V"⟩ : Cond) ∈ gtbl := by sorry
theorem w_1505 : (.methodLink "QueryBenchModel" 364 ⟨"QueryBenchModel", "select", "(II)V"⟩ : Cond) ∈ gtbl := by sorry
theorem w_1507 : (.instanceMethod ⟨"QueryBenchModel", "select", "(II)V"⟩ : Cond) ∈ gtbl := by sorry
theorem seqW_c {α : Type} {s : α → List NT × Nat} {a : α} {l : List α} : seqW s (a :: l) = catR (s a) (seqW s l) := by sorry
theorem seqW_app {α : Type} {s : α → List NT × Nat} : ∀ (l m : List α), seqW s (l ++ m) = catR (seqW s l) (seqW s m) := by sorry
/-- a node and all below it, by its members -/
theorem pre_kids (nd : NT) : preN nd = nd :: ((kdsN nd).map (fun c => preN c.2)).flatten := by sorry
/-- what descending into these members gives -/
def dsK (l : List QT) (rt : NT) : List (List Int32 × NT) → List NT × Nat
  | [] => ([], 0)
  | c :: cs => catR (segS true l rt c.2) (dsK l rt cs)
theorem dsK_f {l : List QT} {rt : NT} : ∀ (cs : List (List Int32 × NT)), seqW (fun e => ((chsS l rt e).1, 1 + (chsS l rt e).2)) ((cs.map (fun c => preN c.2)).flatten) = dsK l rt cs := by sorry
theorem segS_d {l : List QT} {rt nd : NT} : segS true l rt nd = catR ([], 1) (catR (chsS l rt nd) (dsK l rt (kdsN nd))) := by sorry
theorem dsK_drop {l : List QT} {rt : NT} {cs : List (List Int32 × NT)} {i : Nat} {c : List Int32 × NT} (h : cs[i]? = some c) : dsK l rt (cs.drop i) = catR (segS true l rt c.2) (dsK l rt (cs.drop (i + 1))) := by sorry
theorem dsK_end {l : List QT} {rt : NT} {cs : List (List Int32 × NT)} {i : Nat} (h : cs.length ≤ i) : dsK l rt (cs.drop i) = ([], 0) := by sorry
theorem seqW_drop {s : NT → List NT × Nat} {l : List NT} {i : Nat} {a : NT} (h : l[i]? = some a) : seqW s (l.drop i) = catR (s a) (seqW s (l.drop (i + 1))) := by sorry
theorem seqW_end {s : NT → List NT × Nat} {l : List NT} {i : Nat} (h : l.length ≤ i) : seqW s (l.drop i) = ([], 0) := by sorry
/-- a query under way: gs are the segments still to come -/
def AG (T : TS) (R : List NT × Nat) (rt : NT) (gs : List QT) (tp dn t2 d2 : Nat) (m2 : Int32) (l2 : Nat → Int32) : Prop := (m2 = 0 → ∃ (l : List NT) (w : Nat), t2 = tp + l.length ∧ LIn T l2 tp l ∧ d2 = dn + w ∧ (qryL rt gs l).1 = R.1 ∧ w + (qryL rt gs l).2 = R.2) ∧ (¬ m2 = 0 → 10000 < dn + R.2)
theorem AG.fin {T : TS} {R : List NT × Nat} {rt : NT} {tp dn t2 d2 : Nat} {m2 : Int32} {l2 : Nat → Int32} (h : AG T R rt [] tp dn t2 d2 m2 l2) : PUr T R tp dn t2 d2 m2 l2 := by sorry
theorem AG.out {T : TS} {R : List NT × Nat} {rt : NT} {gs : List QT} {tp dn t2 d2 : Nat} {m2 : Int32} {l2 : Nat → Int32} (h : AG T R rt gs tp dn t2 d2 m2 l2) (hm : ¬ m2 = 0) : PUr T R tp dn t2 d2 m2 l2 := by sorry
theorem AG.st {T : TS} {rt x nn : NT} {b : Bool} {gs : List QT} {tp dn t2 d2 : Nat} {m2 : Int32} {l2 : Nat → Int32} (h : PUr T ([x], 1) tp dn t2 d2 m2 l2) (hx : x = if b = true then rt else nn) : AG T (qryS b gs rt nn) rt gs tp dn t2 d2 m2 l2 := by sorry
/-- a segment is done: its nodes have been moved down -/
theorem AG.seg {T : TS} {R : List NT × Nat} {rt : NT} {g : QT} {gs : List QT} {tp dn d2 t6 d6 : Nat} {m6 : Int32} {l7 : Nat → Int32} {l : List NT} {w : Nat} (h3 : d2 = dn + w) (h4 : (qryL rt (g :: gs) l).1 = R.1) (h5 : w + (qryL rt (g :: gs) l).2 = R.2) (hP : (m6 = 0 → t6 = tp + (seqW (g rt) l).1.length ∧ d6 = d2 + (seqW (g rt) l).2 ∧ LIn T l7 tp (seqW (g rt) l).1) ∧ (¬ m6 = 0 → 10000 < d2 + (seqW (g rt) l).2)) : AG T R rt gs tp dn t6 d6 m6 l7 := by sorry
abbrev b_Mo_descend : ByteArray := prog_14_method_55_code
def y_Mo_descend : MethodName := ⟨"QueryBenchModel", "descend", "(II)V"⟩
abbrev k_Mo_descend : Cond := .code y_Mo_descend b_Mo_descend 4 none
theorem i_Mo_descend : k_Mo_descend ∈ gtbl := by sorry
theorem d_Mo_descend_0 : decode b_Mo_descend 0 = .ok (.aload_n 0, 1) := by sorry
theorem d_Mo_descend_1 : decode b_Mo_descend 1 = .ok (.invokevirtual 348, 3) := by sorry
theorem d_Mo_descend_4 : decode b_Mo_descend 4 = .ok (.ifCond .ne 4, 3) := by sorry
theorem d_Mo_descend_7 : decode b_Mo_descend 7 = .ok (.return_, 1) := by sorry
theorem d_Mo_descend_8 : decode b_Mo_descend 8 = .ok (.aload_n 0, 1) := by sorry
theorem d_Mo_descend_9 : decode b_Mo_descend 9 = .ok (.iload_n 1, 1) := by sorry
theorem d_Mo_descend_10 : decode b_Mo_descend 10 = .ok (.iload_n 2, 1) := by sorry
theorem d_Mo_descend_11 : decode b_Mo_descend 11 = .ok (.invokevirtual 364, 3) := by sorry
theorem d_Mo_descend_14 : decode b_Mo_descend 14 = .ok (.aload_n 0, 1) := by sorry
theorem d_Mo_descend_15 : decode b_Mo_descend 15 = .ok (.getfield 45, 3) := by sorry
theorem d_Mo_descend_18 : decode b_Mo_descend 18 = .ok (.getfield 75, 3) := by sorry
theorem d_Mo_descend_21 : decode b_Mo_descend 21 = .ok (.iload_n 2, 1) := by sorry
theorem d_Mo_descend_22 : decode b_Mo_descend 22 = .ok (.iaload, 1) := by sorry
theorem d_Mo_descend_23 : decode b_Mo_descend 23 = .ok (.istore_n 3, 1) := by sorry
theorem d_Mo_descend_24 : decode b_Mo_descend 24 = .ok (.iload_n 3, 1) := by sorry
theorem d_Mo_descend_25 : decode b_Mo_descend 25 = .ok (.ifCond .lt 29, 3) := by sorry
theorem d_Mo_descend_28 : decode b_Mo_descend 28 = .ok (.aload_n 0, 1) := by sorry
theorem d_Mo_descend_29 : decode b_Mo_descend 29 = .ok (.getfield 345, 3) := by sorry
theorem d_Mo_descend_32 : decode b_Mo_descend 32 = .ok (.ifCond .ne 22, 3) := by sorry
theorem d_Mo_descend_35 : decode b_Mo_descend 35 = .ok (.aload_n 0, 1) := by sorry
theorem d_Mo_descend_36 : decode b_Mo_descend 36 = .ok (.iload_n 1, 1) := by sorry
theorem d_Mo_descend_37 : decode b_Mo_descend 37 = .ok (.iload_n 3, 1) := by sorry
theorem d_Mo_descend_38 : decode b_Mo_descend 38 = .ok (.invokevirtual 360, 3) := by sorry
theorem d_Mo_descend_41 : decode b_Mo_descend 41 = .ok (.aload_n 0, 1) := by sorry
theorem d_Mo_descend_42 : decode b_Mo_descend 42 = .ok (.getfield 45, 3) := by sorry
theorem d_Mo_descend_45 : decode b_Mo_descend 45 = .ok (.getfield 82, 3) := by sorry
theorem d_Mo_descend_48 : decode b_Mo_descend 48 = .ok (.iload_n 3, 1) := by sorry
theorem d_Mo_descend_49 : decode b_Mo_descend 49 = .ok (.iaload, 1) := by sorry
theorem d_Mo_descend_50 : decode b_Mo_descend 50 = .ok (.istore_n 3, 1) := by sorry
theorem d_Mo_descend_51 : decode b_Mo_descend 51 = .ok (.goto (-27), 3) := by sorry
theorem d_Mo_descend_54 : decode b_Mo_descend 54 = .ok (.return_, 1) := by sorry
/-- what descend does, at most r deep -/
def DCC (O : QP CT) (cb cap F L r : Nat) : Prop := ∀ (l : Launch) (dC : Nat → ClassId) (dI : Nat → Nat → Nat) (mo : Nat) (sz : Heap) (v : Nat → Value) (cI cL cC : ClassId) (ql t tv tw9 : Nat) (Q : QS) (V T Z : TS) (tp dn : Nat) (li : Nat → Int32) (rt : NT) (s9 nd lo hi : Nat) (nn : NT) (lm : List QT), QOK Q → TOK V → TOK T → TOK Z → T.ct ≤ 4096 ∧ V.us ≤ 4096 → EI T tp dn 0 li → dn ≤ 20000 → NDn T 0 rt → v 18 = .ref t → v 19 = .ref Q.qq → v 20 = .ref Q.qe → v 22 = .ref tv → v 24 = .ref ql → v 28 = .int (nI 0) → v 29 = .ref tw9 → Z.ct + cap ≤ 300000 → Z.us + cap ≤ 300000 → s9 < Q.R → hi ≤ Q.R → CHn 1 (SELp O) Q V hi (-1) lm lo (Q.qf (8 * s9 + 2)) → NDn T nd nn → nn.2.1 = r → Met l y_Mo_descend (k_Mo_descend :: gtbl) ({ frames := 5 + r + F, cells := ncap Z (Z.ct + cap) + qcap Z (Z.us + cap), slots := 20 * ncap Z (Z.ct + cap) + 2 * qcap Z (Z.us + cap), locals := 160 + 40 * r + L }) (va_Pc [.ref mo, .int (nI s9), .int (nI nd)] (mp dC dI [(mo, .inr (13, MF 30 (es v tp dn 0))), (Q.qq, .inl (cI, (8 * Q.C), .inl Q.qf)), (Q.qe, .inl (cL, (3 * Q.C), .inr (.inl Q.ef))), (t, .inr (12, MF 13 (tw T))), (T.a0, .inl (cI, T.N, .inl T.kd)), (T.a1, .inl (cL, T.N, .inr (.inl T.nu))), (T.a2, .inl (cI, T.N, .inl T.st)), (T.a3, .inl (cI, T.N, .inl T.ln)), (T.a4, .inl (cI, T.N, .inl T.ki)), (T.a5, .inl (cI, T.N, .inl T.nx)), (T.a6, .inl (cI, T.N, .inl T.ns)), (T.a7, .inl (cI, T.N, .inl T.nl)), (T.a8, .inl (cI, T.N, .inl T.pa)), (T.a9, .inl (cI, T.N, .inl T.pl)), (T.au, .inl (cC, T.U, .inl T.un)), (tv, .inr (12, MF 13 (tw V))), (V.au, .inl (cC, V.U, .inl V.un)), (ql, .inl (cI, 20100, .inl li)), (tw9, .inr (12, MF 13 (tw Z))), (Z.a0, .inl (cI, Z.N, .inl Z.kd)), (Z.a1, .inl (cL, Z.N, .inr (.inl Z.nu))), (Z.a2, .inl (cI, Z.N, .inl Z.st)), (Z.a3, .inl (cI, Z.N, .inl Z.ln)), (Z.a4, .inl (cI, Z.N, .inl Z.ki)), (Z.a5, .inl (cI, Z.N, .inl Z.nx)), (Z.a6, .inl (cI, Z.N, .inl Z.ns)), (Z.a7, .inl (cI, Z.N, .inl Z.nl)), (Z.a8, .inl (cI, Z.N, .inl Z.pa)), (Z.a9, .inl (cI, Z.N, .inl Z.pl)), (Z.au, .inl (cC, Z.U, .inl Z.un))] [(cI, .int), (cL, .long), (cC, .char)] sz)) (va_Qv (fun (u : EU) => EVo T Z cap cb tp dn 0 li u ∧ PUr T (segS true lm rt nn) tp dn u.1 u.2.1 u.2.2.1 u.2.2.2.1) (fun u t9 => mz dC dI [(mo, .inr (13, MF 30 (es v u.1 u.2.1 u.2.2.1))), (Q.qq, .inl (cI, (8 * Q.C), .inl Q.qf)), (Q.qe, .inl (cL, (3 * Q.C), .inr (.inl Q.ef))), (t, .inr (12, MF 13 (tw T))), (T.a0, .inl (cI, T.N, .inl T.kd)), (T.a1, .inl (cL, T.N, .inr (.inl T.nu))), (T.a2, .inl (cI, T.N, .inl T.st)), (T.a3, .inl (cI, T.N, .inl T.ln)), (T.a4, .inl (cI, T.N, .inl T.ki)), (T.a5, .inl (cI, T.N, .inl T.nx)), (T.a6, .inl (cI, T.N, .inl T.ns)), (T.a7, .inl (cI, T.N, .inl T.nl)), (T.a8, .inl (cI, T.N, .inl T.pa)), (T.a9, .inl (cI, T.N, .inl T.pl)), (T.au, .inl (cC, T.U, .inl T.un)), (tv, .inr (12, MF 13 (tw V))), (V.au, .inl (cC, V.U, .inl V.un)), (ql, .inl (cI, 20100, .inl u.2.2.2.1)), (tw9, .inr (12, MF 13 (tw u.2.2.2.2))), (u.2.2.2.2.a0, .inl (cI, u.2.2.2.2.N, .inl u.2.2.2.2.kd)), (u.2.2.2.2.a1, .inl (cL, u.2.2.2.2.N, .inr (.inl u.2.2.2.2.nu))), (u.2.2.2.2.a2, .inl (cI, u.2.2.2.2.N, .inl u.2.2.2.2.st)), (u.2.2.2.2.a3, .inl (cI, u.2.2.2.2.N, .inl u.2.2.2.2.ln)), (u.2.2.2.2.a4, .inl (cI, u.2.2.2.2.N, .inl u.2.2.2.2.ki)), (u.2.2.2.2.a5, .inl (cI, u.2.2.2.2.N, .inl u.2.2.2.2.nx)), (u.2.2.2.2.a6, .inl (cI, u.2.2.2.2.N, .inl u.2.2.2.2.ns)), (u.2.2.2.2.a7, .inl (cI, u.2.2.2.2.N, .inl u.2.2.2.2.nl)), (u.2.2.2.2.a8, .inl (cI, u.2.2.2.2.N, .inl u.2.2.2.2.pa)), (u.2.2.2.2.a9, .inl (cI, u.2.2.2.2.N, .inl u.2.2.2.2.pl)), (u.2.2.2.2.au, .inl (cC, u.2.2.2.2.U, .inl u.2.2.2.2.un))] [(cI, .int), (cL, .long), (cC, .char)] (va_A [(mo, .inr (13, MF 30 (es v tp dn 0))), (Q.qq, .inl (cI, (8 * Q.C), .inl Q.qf)), (Q.qe, .inl (cL, (3 * Q.C), .inr (.inl Q.ef))), (t, .inr (12, MF 13 (tw T))), (T.a0, .inl (cI, T.N, .inl T.kd)), (T.a1, .inl (cL, T.N, .inr (.inl T.nu))), (T.a2, .inl (cI, T.N, .inl T.st)), (T.a3, .inl (cI, T.N, .inl T.ln)), (T.a4, .inl (cI, T.N, .inl T.ki)), (T.a5, .inl (cI, T.N, .inl T.nx)), (T.a6, .inl (cI, T.N, .inl T.ns)), (T.a7, .inl (cI, T.N, .inl T.nl)), (T.a8, .inl (cI, T.N, .inl T.pa)), (T.a9, .inl (cI, T.N, .inl T.pl)), (T.au, .inl (cC, T.U, .inl T.un)), (tv, .inr (12, MF 13 (tw V))), (V.au, .inl (cC, V.U, .inl V.un)), (ql, .inl (cI, 20100, .inl li)), (tw9, .inr (12, MF 13 (tw Z))), (Z.a0, .inl (cI, Z.N, .inl Z.kd)), (Z.a1, .inl (cL, Z.N, .inr (.inl Z.nu))), (Z.a2, .inl (cI, Z.N, .inl Z.st)), (Z.a3, .inl (cI, Z.N, .inl Z.ln)), (Z.a4, .inl (cI, Z.N, .inl Z.ki)), (Z.a5, .inl (cI, Z.N, .inl Z.nx)), (Z.a6, .inl (cI, Z.N, .inl Z.ns)), (Z.a7, .inl (cI, Z.N, .inl Z.nl)), (Z.a8, .inl (cI, Z.N, .inl Z.pa)), (Z.a9, .inl (cI, Z.N, .inl Z.pl)), (Z.au, .inl (cC, Z.U, .inl Z.un))] sz.size) t9 ∧ szk sz t9.heap (cE Z u.2.2.2.2) (sE Z u.2.2.2.2)) (va_A [(mo, .inr (13, MF 30 (es v tp dn 0))), (Q.qq, .inl (cI, (8 * Q.C), .inl Q.qf)), (Q.qe, .inl (cL, (3 * Q.C), .inr (.inl Q.ef))), (t, .inr (12, MF 13 (tw T))), (T.a0, .inl (cI, T.N, .inl T.kd)), (T.a1, .inl (cL, T.N, .inr (.inl T.nu))), (T.a2, .inl (cI, T.N, .inl T.st)), (T.a3, .inl (cI, T.N, .inl T.ln)), (T.a4, .inl (cI, T.N, .inl T.ki)), (T.a5, .inl (cI, T.N, .inl T.nx)), (T.a6, .inl (cI, T.N, .inl T.ns)), (T.a7, .inl (cI, T.N, .inl T.nl)), (T.a8, .inl (cI, T.N, .inl T.pa)), (T.a9, .inl (cI, T.N, .inl T.pl)), (T.au, .inl (cC, T.U, .inl T.un)), (tv, .inr (12, MF 13 (tw V))), (V.au, .inl (cC, V.U, .inl V.un)), (ql, .inl (cI, 20100, .inl li)), (tw9, .inr (12, MF 13 (tw Z))), (Z.a0, .inl (cI, Z.N, .inl Z.kd)), (Z.a1, .inl (cL, Z.N, .inr (.inl Z.nu))), (Z.a2, .inl (cI, Z.N, .inl Z.st)), (Z.a3, .inl (cI, Z.N, .inl Z.ln)), (Z.a4, .inl (cI, Z.N, .inl Z.ki)), (Z.a5, .inl (cI, Z.N, .inl Z.nx)), (Z.a6, .inl (cI, Z.N, .inl Z.ns)), (Z.a7, .inl (cI, Z.N, .inl Z.nl)), (Z.a8, .inl (cI, Z.N, .inl Z.pa)), (Z.a9, .inl (cI, Z.N, .inl Z.pl)), (Z.au, .inl (cC, Z.U, .inl Z.un))] sz.size)) (ncap Z (Z.ct + cap) + qcap Z (Z.us + cap)) (20 * ncap Z (Z.ct + cap) + 2 * qcap Z (Z.us + cap)) (va_A [(mo, .inr (13, MF 30 (es v tp dn 0))), (Q.qq, .inl (cI, (8 * Q.C), .inl Q.qf)), (Q.qe, .inl (cL, (3 * Q.C), .inr (.inl Q.ef))), (t, .inr (12, MF 13 (tw T))), (T.a0, .inl (cI, T.N, .inl T.kd)), (T.a1, .inl (cL, T.N, .inr (.inl T.nu))), (T.a2, .inl (cI, T.N, .inl T.st)), (T.a3, .inl (cI, T.N, .inl T.ln)), (T.a4, .inl (cI, T.N, .inl T.ki)), (T.a5, .inl (cI, T.N, .inl T.nx)), (T.a6, .inl (cI, T.N, .inl T.ns)), (T.a7, .inl (cI, T.N, .inl T.nl)), (T.a8, .inl (cI, T.N, .inl T.pa)), (T.a9, .inl (cI, T.N, .inl T.pl)), (T.au, .inl (cC, T.U, .inl T.un)), (tv, .inr (12, MF 13 (tw V))), (V.au, .inl (cC, V.U, .inl V.un)), (ql, .inl (cI, 20100, .inl li)), (tw9, .inr (12, MF 13 (tw Z))), (Z.a0, .inl (cI, Z.N, .inl Z.kd)), (Z.a1, .inl (cL, Z.N, .inr (.inl Z.nu))), (Z.a2, .inl (cI, Z.N, .inl Z.st)), (Z.a3, .inl (cI, Z.N, .inl Z.ln)), (Z.a4, .inl (cI, Z.N, .inl Z.ki)), (Z.a5, .inl (cI, Z.N, .inl Z.nx)), (Z.a6, .inl (cI, Z.N, .inl Z.ns)), (Z.a7, .inl (cI, Z.N, .inl Z.nl)), (Z.a8, .inl (cI, Z.N, .inl Z.pa)), (Z.a9, .inl (cI, Z.N, .inl Z.pl)), (Z.au, .inl (cC, Z.U, .inl Z.un))] sz.size)
set_option maxHeartbeats 4000000 in
set_option maxRecDepth 100000 in
/-- the reference: descend -/
theorem c_dsc1 (O : QP CT) (cb cap F L r : Nat) (hc4 : 4096 ≤ cb) (hc5 : cb ≤ 9000) (hHO : HOC O cb cap F L) (hIH : ∀ r2, r2 < r → DCC O cb cap F L r2) : DCC O cb cap F L r := by sorry
theorem c_dsc (O : QP CT) (cb cap F L : Nat) (hc4 : 4096 ≤ cb) (hc5 : cb ≤ 9000) (hHO : HOC O cb cap F L) : ∀ r, DCC O cb cap F L r := by sorry
abbrev b_Mo_ask : ByteArray := prog_14_method_54_code
def y_Mo_ask : MethodName := ⟨"QueryBenchModel", "ask", "(II)I"⟩
abbrev k_Mo_ask : Cond := .code y_Mo_ask b_Mo_ask 8 (some .int)
theorem i_Mo_ask : k_Mo_ask ∈ gtbl := by sorry
theorem d_Mo_ask_0 : decode b_Mo_ask 0 = .ok (.aload_n 0, 1) := by sorry
theorem d_Mo_ask_1 : decode b_Mo_ask 1 = .ok (.getfield 351, 3) := by sorry
theorem d_Mo_ask_4 : decode b_Mo_ask 4 = .ok (.istore_n 3, 1) := by sorry
theorem d_Mo_ask_5 : decode b_Mo_ask 5 = .ok (.aload_n 0, 1) := by sorry
theorem d_Mo_ask_6 : decode b_Mo_ask 6 = .ok (.aload_n 0, 1) := by sorry
theorem d_Mo_ask_7 : decode b_Mo_ask 7 = .ok (.iload_n 1, 1) := by sorry
theorem d_Mo_ask_8 : decode b_Mo_ask 8 = .ok (.iconst 1, 1) := by sorry
theorem d_Mo_ask_9 : decode b_Mo_ask 9 = .ok (.invokevirtual 286, 3) := by sorry
theorem d_Mo_ask_12 : decode b_Mo_ask 12 = .ok (.iconst 1, 1) := by sorry
theorem d_Mo_ask_13 : decode b_Mo_ask 13 = .ok (.if_icmp .ne 10, 3) := by sorry
theorem d_Mo_ask_16 : decode b_Mo_ask 16 = .ok (.aload_n 0, 1) := by sorry
theorem d_Mo_ask_17 : decode b_Mo_ask 17 = .ok (.getfield 354, 3) := by sorry
theorem d_Mo_ask_20 : decode b_Mo_ask 20 = .ok (.goto 4, 3) := by sorry
theorem d_Mo_ask_23 : decode b_Mo_ask 23 = .ok (.iload_n 2, 1) := by sorry
theorem d_Mo_ask_24 : decode b_Mo_ask 24 = .ok (.invokevirtual 357, 3) := by sorry
theorem d_Mo_ask_27 : decode b_Mo_ask 27 = .ok (.aload_n 0, 1) := by sorry
theorem d_Mo_ask_28 : decode b_Mo_ask 28 = .ok (.iload_n 1, 1) := by sorry
theorem d_Mo_ask_29 : decode b_Mo_ask 29 = .ok (.iconst 2, 1) := by sorry
theorem d_Mo_ask_30 : decode b_Mo_ask 30 = .ok (.invokevirtual 286, 3) := by sorry
theorem d_Mo_ask_33 : decode b_Mo_ask 33 = .ok (.istore 4, 2) := by sorry
theorem d_Mo_ask_35 : decode b_Mo_ask 35 = .ok (.iload 4, 2) := by sorry
theorem d_Mo_ask_37 : decode b_Mo_ask 37 = .ok (.ifCond .lt 143, 3) := by sorry
theorem d_Mo_ask_40 : decode b_Mo_ask 40 = .ok (.aload_n 0, 1) := by sorry
theorem d_Mo_ask_41 : decode b_Mo_ask 41 = .ok (.getfield 345, 3) := by sorry
theorem d_Mo_ask_44 : decode b_Mo_ask 44 = .ok (.ifCond .ne 136, 3) := by sorry
theorem d_Mo_ask_47 : decode b_Mo_ask 47 = .ok (.aload_n 0, 1) := by sorry
theorem d_Mo_ask_48 : decode b_Mo_ask 48 = .ok (.getfield 351, 3) := by sorry
theorem d_Mo_ask_51 : decode b_Mo_ask 51 = .ok (.istore 5, 2) := by sorry
theorem d_Mo_ask_53 : decode b_Mo_ask 53 = .ok (.iload_n 3, 1) := by sorry
theorem d_Mo_ask_54 : decode b_Mo_ask 54 = .ok (.istore 6, 2) := by sorry
theorem d_Mo_ask_56 : decode b_Mo_ask 56 = .ok (.iload 6, 2) := by sorry
theorem d_Mo_ask_58 : decode b_Mo_ask 58 = .ok (.iload 5, 2) := by sorry
theorem d_Mo_ask_60 : decode b_Mo_ask 60 = .ok (.if_icmp .ge 56, 3) := by sorry
theorem d_Mo_ask_63 : decode b_Mo_ask 63 = .ok (.aload_n 0, 1) := by sorry
theorem d_Mo_ask_64 : decode b_Mo_ask 64 = .ok (.getfield 345, 3) := by sorry
theorem d_Mo_ask_67 : decode b_Mo_ask 67 = .ok (.ifCond .ne 49, 3) := by sorry
theorem d_Mo_ask_70 : decode b_Mo_ask 70 = .ok (.aload_n 0, 1) := by sorry
theorem d_Mo_ask_71 : decode b_Mo_ask 71 = .ok (.iload 4, 2) := by sorry
theorem d_Mo_ask_73 : decode b_Mo_ask 73 = .ok (.iconst 1, 1) := by sorry
theorem d_Mo_ask_74 : decode b_Mo_ask 74 = .ok (.invokevirtual 286, 3) := by sorry
theorem d_Mo_ask_77 : decode b_Mo_ask 77 = .ok (.iconst 1, 1) := by sorry
theorem d_Mo_ask_78 : decode b_Mo_ask 78 = .ok (.if_icmp .ne 19, 3) := by sorry
theorem d_Mo_ask_81 : decode b_Mo_ask 81 = .ok (.aload_n 0, 1) := by sorry
theorem d_Mo_ask_82 : decode b_Mo_ask 82 = .ok (.iload 4, 2) := by sorry
theorem d_Mo_ask_84 : decode b_Mo_ask 84 = .ok (.aload_n 0, 1) := by sorry
theorem d_Mo_ask_85 : decode b_Mo_ask 85 = .ok (.getfield 59, 3) := by sorry
theorem d_Mo_ask_88 : decode b_Mo_ask 88 = .ok (.iload 6, 2) := by sorry
theorem d_Mo_ask_90 : decode b_Mo_ask 90 = .ok (.iaload, 1) := by sorry
theorem d_Mo_ask_91 : decode b_Mo_ask 91 = .ok (.invokevirtual 360, 3) := by sorry
theorem d_Mo_ask_94 : decode b_Mo_ask 94 = .ok (.goto 16, 3) := by sorry
theorem d_Mo_ask_97 : decode b_Mo_ask 97 = .ok (.aload_n 0, 1) := by sorry
theorem d_Mo_ask_98 : decode b_Mo_ask 98 = .ok (.iload 4, 2) := by sorry
theorem d_Mo_ask_100 : decode b_Mo_ask 100 = .ok (.aload_n 0, 1) := by sorry
theorem d_Mo_ask_101 : decode b_Mo_ask 101 = .ok (.getfield 59, 3) := by sorry
theorem d_Mo_ask_104 : decode b_Mo_ask 104 = .ok (.iload 6, 2) := by sorry
theorem d_Mo_ask_106 : decode b_Mo_ask 106 = .ok (.iaload, 1) := by sorry
theorem d_Mo_ask_107 : decode b_Mo_ask 107 = .ok (.invokevirtual 364, 3) := by sorry
theorem d_Mo_ask_110 : decode b_Mo_ask 110 = .ok (.iinc 6 1, 3) := by sorry
theorem d_Mo_ask_113 : decode b_Mo_ask 113 = .ok (.goto (-57), 3) := by sorry
theorem d_Mo_ask_116 : decode b_Mo_ask 116 = .ok (.aload_n 0, 1) := by sorry
theorem d_Mo_ask_117 : decode b_Mo_ask 117 = .ok (.getfield 351, 3) := by sorry
theorem d_Mo_ask_120 : decode b_Mo_ask 120 = .ok (.iload 5, 2) := by sorry
theorem d_Mo_ask_122 : decode b_Mo_ask 122 = .ok (.isub, 1) := by sorry
theorem d_Mo_ask_123 : decode b_Mo_ask 123 = .ok (.istore 6, 2) := by sorry
theorem d_Mo_ask_125 : decode b_Mo_ask 125 = .ok (.iconst 0, 1) := by sorry
theorem d_Mo_ask_126 : decode b_Mo_ask 126 = .ok (.istore 7, 2) := by sorry
theorem d_Mo_ask_128 : decode b_Mo_ask 128 = .ok (.iload 7, 2) := by sorry
theorem d_Mo_ask_130 : decode b_Mo_ask 130 = .ok (.iload 6, 2) := by sorry
theorem d_Mo_ask_132 : decode b_Mo_ask 132 = .ok (.if_icmp .ge 28, 3) := by sorry
theorem d_Mo_ask_135 : decode b_Mo_ask 135 = .ok (.aload_n 0, 1) := by sorry
theorem d_Mo_ask_136 : decode b_Mo_ask 136 = .ok (.getfield 59, 3) := by sorry
theorem d_Mo_ask_139 : decode b_Mo_ask 139 = .ok (.iload_n 3, 1) := by sorry
theorem d_Mo_ask_140 : decode b_Mo_ask 140 = .ok (.iload 7, 2) := by sorry
theorem d_Mo_ask_142 : decode b_Mo_ask 142 = .ok (.iadd, 1) := by sorry
theorem d_Mo_ask_143 : decode b_Mo_ask 143 = .ok (.aload_n 0, 1) := by sorry
theorem d_Mo_ask_144 : decode b_Mo_ask 144 = .ok (.getfield 59, 3) := by sorry
theorem d_Mo_ask_147 : decode b_Mo_ask 147 = .ok (.iload 5, 2) := by sorry
theorem d_Mo_ask_149 : decode b_Mo_ask 149 = .ok (.iload 7, 2) := by sorry
theorem d_Mo_ask_151 : decode b_Mo_ask 151 = .ok (.iadd, 1) := by sorry
theorem d_Mo_ask_152 : decode b_Mo_ask 152 = .ok (.iaload, 1) := by sorry
theorem d_Mo_ask_153 : decode b_Mo_ask 153 = .ok (.iastore, 1) := by sorry
theorem d_Mo_ask_154 : decode b_Mo_ask 154 = .ok (.iinc 7 1, 3) := by sorry
theorem d_Mo_ask_157 : decode b_Mo_ask 157 = .ok (.goto (-29), 3) := by sorry
theorem d_Mo_ask_160 : decode b_Mo_ask 160 = .ok (.aload_n 0, 1) := by sorry
theorem d_Mo_ask_161 : decode b_Mo_ask 161 = .ok (.iload_n 3, 1) := by sorry
theorem d_Mo_ask_162 : decode b_Mo_ask 162 = .ok (.iload 6, 2) := by sorry
theorem d_Mo_ask_164 : decode b_Mo_ask 164 = .ok (.iadd, 1) := by sorry
theorem d_Mo_ask_165 : decode b_Mo_ask 165 = .ok (.putfield 351, 3) := by sorry
theorem d_Mo_ask_168 : decode b_Mo_ask 168 = .ok (.aload_n 0, 1) := by sorry
theorem d_Mo_ask_169 : decode b_Mo_ask 169 = .ok (.iload 4, 2) := by sorry
theorem d_Mo_ask_171 : decode b_Mo_ask 171 = .ok (.iconst 3, 1) := by sorry
theorem d_Mo_ask_172 : decode b_Mo_ask 172 = .ok (.invokevirtual 286, 3) := by sorry
theorem d_Mo_ask_175 : decode b_Mo_ask 175 = .ok (.istore 4, 2) := by sorry
theorem d_Mo_ask_177 : decode b_Mo_ask 177 = .ok (.goto (-142), 3) := by sorry
theorem d_Mo_ask_180 : decode b_Mo_ask 180 = .ok (.iload_n 3, 1) := by sorry
theorem d_Mo_ask_181 : decode b_Mo_ask 181 = .ok (.ireturn, 1) := by sorry
/-- what ask does -/
def AKC (Y : QP QT) (cb cap FF LL : Nat) : Prop := ∀ (l : Launch) (dC : Nat → ClassId) (dI : Nat → Nat → Nat) (mo : Nat) (sz : Heap) (v : Nat → Value) (cI cL cC : ClassId) (ql t tv tw9 : Nat) (Q : QS) (V T Z : TS) (tp dn : Nat) (tm : Int32) (li : Nat → Int32) (rt : NT) (lo hi y9 nd : Nat) (nn : NT) (mq : QT), QOK Q → TOK V → TOK T → TOK Z → T.ct ≤ 4096 ∧ V.us ≤ 4096 → EI T tp dn tm li → dn ≤ 20000 → NDn T 0 rt → v 18 = .ref t → v 19 = .ref Q.qq → v 20 = .ref Q.qe → v 22 = .ref tv → v 24 = .ref ql → v 28 = .int (nI 0) → v 29 = .ref tw9 → Z.ct + cap ≤ 300000 → Z.us + cap ≤ 300000 → Y Q V lo hi y9 mq → hi ≤ Q.R → NDn T nd nn → Met l y_Mo_ask (k_Mo_ask :: gtbl) ({ frames := FF, cells := ncap Z (Z.ct + cap) + qcap Z (Z.us + cap), slots := 20 * ncap Z (Z.ct + cap) + 2 * qcap Z (Z.us + cap), locals := LL }) (va_Pc [.ref mo, .int (nI y9), .int (nI nd)] (mp dC dI [(mo, .inr (13, MF 30 (es v tp dn tm))), (Q.qq, .inl (cI, (8 * Q.C), .inl Q.qf)), (Q.qe, .inl (cL, (3 * Q.C), .inr (.inl Q.ef))), (t, .inr (12, MF 13 (tw T))), (T.a0, .inl (cI, T.N, .inl T.kd)), (T.a1, .inl (cL, T.N, .inr (.inl T.nu))), (T.a2, .inl (cI, T.N, .inl T.st)), (T.a3, .inl (cI, T.N, .inl T.ln)), (T.a4, .inl (cI, T.N, .inl T.ki)), (T.a5, .inl (cI, T.N, .inl T.nx)), (T.a6, .inl (cI, T.N, .inl T.ns)), (T.a7, .inl (cI, T.N, .inl T.nl)), (T.a8, .inl (cI, T.N, .inl T.pa)), (T.a9, .inl (cI, T.N, .inl T.pl)), (T.au, .inl (cC, T.U, .inl T.un)), (tv, .inr (12, MF 13 (tw V))), (V.au, .inl (cC, V.U, .inl V.un)), (ql, .inl (cI, 20100, .inl li)), (tw9, .inr (12, MF 13 (tw Z))), (Z.a0, .inl (cI, Z.N, .inl Z.kd)), (Z.a1, .inl (cL, Z.N, .inr (.inl Z.nu))), (Z.a2, .inl (cI, Z.N, .inl Z.st)), (Z.a3, .inl (cI, Z.N, .inl Z.ln)), (Z.a4, .inl (cI, Z.N, .inl Z.ki)), (Z.a5, .inl (cI, Z.N, .inl Z.nx)), (Z.a6, .inl (cI, Z.N, .inl Z.ns)), (Z.a7, .inl (cI, Z.N, .inl Z.nl)), (Z.a8, .inl (cI, Z.N, .inl Z.pa)), (Z.a9, .inl (cI, Z.N, .inl Z.pl)), (Z.au, .inl (cC, Z.U, .inl Z.un))] [(cI, .int), (cL, .long), (cC, .char)] sz)) (va_Qi (fun (res : Int32) (u : EU) => res = nI tp ∧ EVo T Z cap cb tp dn tm li u ∧ (tm = 0 → PUr T (mq rt nn) tp dn u.1 u.2.1 u.2.2.1 u.2.2.2.1)) (fun u t9 => mz dC dI [(mo, .inr (13, MF 30 (es v u.1 u.2.1 u.2.2.1))), (Q.qq, .inl (cI, (8 * Q.C), .inl Q.qf)), (Q.qe, .inl (cL, (3 * Q.C), .inr (.inl Q.ef))), (t, .inr (12, MF 13 (tw T))), (T.a0, .inl (cI, T.N, .inl T.kd)), (T.a1, .inl (cL, T.N, .inr (.inl T.nu))), (T.a2, .inl (cI, T.N, .inl T.st)), (T.a3, .inl (cI, T.N, .inl T.ln)), (T.a4, .inl (cI, T.N, .inl T.ki)), (T.a5, .inl (cI, T.N, .inl T.nx)), (T.a6, .inl (cI, T.N, .inl T.ns)), (T.a7, .inl (cI, T.N, .inl T.nl)), (T.a8, .inl (cI, T.N, .inl T.pa)), (T.a9, .inl (cI, T.N, .inl T.pl)), (T.au, .inl (cC, T.U, .inl T.un)), (tv, .inr (12, MF 13 (tw V))), (V.au, .inl (cC, V.U, .inl V.un)), (ql, .inl (cI, 20100, .inl u.2.2.2.1)), (tw9, .inr (12, MF 13 (tw u.2.2.2.2))), (u.2.2.2.2.a0, .inl (cI, u.2.2.2.2.N, .inl u.2.2.2.2.kd)), (u.2.2.2.2.a1, .inl (cL, u.2.2.2.2.N, .inr (.inl u.2.2.2.2.nu))), (u.2.2.2.2.a2, .inl (cI, u.2.2.2.2.N, .inl u.2.2.2.2.st)), (u.2.2.2.2.a3, .inl (cI, u.2.2.2.2.N, .inl u.2.2.2.2.ln)), (u.2.2.2.2.a4, .inl (cI, u.2.2.2.2.N, .inl u.2.2.2.2.ki)), (u.2.2.2.2.a5, .inl (cI, u.2.2.2.2.N, .inl u.2.2.2.2.nx)), (u.2.2.2.2.a6, .inl (cI, u.2.2.2.2.N, .inl u.2.2.2.2.ns)), (u.2.2.2.2.a7, .inl (cI, u.2.2.2.2.N, .inl u.2.2.2.2.nl)), (u.2.2.2.2.a8, .inl (cI, u.2.2.2.2.N, .inl u.2.2.2.2.pa)), (u.2.2.2.2.a9, .inl (cI, u.2.2.2.2.N, .inl u.2.2.2.2.pl)), (u.2.2.2.2.au, .inl (cC, u.2.2.2.2.U, .inl u.2.2.2.2.un))] [(cI, .int), (cL, .long), (cC, .char)] (va_A [(mo, .inr (13, MF 30 (es v tp dn tm))), (Q.qq, .inl (cI, (8 * Q.C), .inl Q.qf)), (Q.qe, .inl (cL, (3 * Q.C), .inr (.inl Q.ef))), (t, .inr (12, MF 13 (tw T))), (T.a0, .inl (cI, T.N, .inl T.kd)), (T.a1, .inl (cL, T.N, .inr (.inl T.nu))), (T.a2, .inl (cI, T.N, .inl T.st)), (T.a3, .inl (cI, T.N, .inl T.ln)), (T.a4, .inl (cI, T.N, .inl T.ki)), (T.a5, .inl (cI, T.N, .inl T.nx)), (T.a6, .inl (cI, T.N, .inl T.ns)), (T.a7, .inl (cI, T.N, .inl T.nl)), (T.a8, .inl (cI, T.N, .inl T.pa)), (T.a9, .inl (cI, T.N, .inl T.pl)), (T.au, .inl (cC, T.U, .inl T.un)), (tv, .inr (12, MF 13 (tw V))), (V.au, .inl (cC, V.U, .inl V.un)), (ql, .inl (cI, 20100, .inl li)), (tw9, .inr (12, MF 13 (tw Z))), (Z.a0, .inl (cI, Z.N, .inl Z.kd)), (Z.a1, .inl (cL, Z.N, .inr (.inl Z.nu))), (Z.a2, .inl (cI, Z.N, .inl Z.st)), (Z.a3, .inl (cI, Z.N, .inl Z.ln)), (Z.a4, .inl (cI, Z.N, .inl Z.ki)), (Z.a5, .inl (cI, Z.N, .inl Z.nx)), (Z.a6, .inl (cI, Z.N, .inl Z.ns)), (Z.a7, .inl (cI, Z.N, .inl Z.nl)), (Z.a8, .inl (cI, Z.N, .inl Z.pa)), (Z.a9, .inl (cI, Z.N, .inl Z.pl)), (Z.au, .inl (cC, Z.U, .inl Z.un))] sz.size) t9 ∧ szk sz t9.heap (cE Z u.2.2.2.2) (sE Z u.2.2.2.2)) (va_A [(mo, .inr (13, MF 30 (es v tp dn tm))), (Q.qq, .inl (cI, (8 * Q.C), .inl Q.qf)), (Q.qe, .inl (cL, (3 * Q.C), .inr (.inl Q.ef))), (t, .inr (12, MF 13 (tw T))), (T.a0, .inl (cI, T.N, .inl T.kd)), (T.a1, .inl (cL, T.N, .inr (.inl T.nu))), (T.a2, .inl (cI, T.N, .inl T.st)), (T.a3, .inl (cI, T.N, .inl T.ln)), (T.a4, .inl (cI, T.N, .inl T.ki)), (T.a5, .inl (cI, T.N, .inl T.nx)), (T.a6, .inl (cI, T.N, .inl T.ns)), (T.a7, .inl (cI, T.N, .inl T.nl)), (T.a8, .inl (cI, T.N, .inl T.pa)), (T.a9, .inl (cI, T.N, .inl T.pl)), (T.au, .inl (cC, T.U, .inl T.un)), (tv, .inr (12, MF 13 (tw V))), (V.au, .inl (cC, V.U, .inl V.un)), (ql, .inl (cI, 20100, .inl li)), (tw9, .inr (12, MF 13 (tw Z))), (Z.a0, .inl (cI, Z.N, .inl Z.kd)), (Z.a1, .inl (cL, Z.N, .inr (.inl Z.nu))), (Z.a2, .inl (cI, Z.N, .inl Z.st)), (Z.a3, .inl (cI, Z.N, .inl Z.ln)), (Z.a4, .inl (cI, Z.N, .inl Z.ki)), (Z.a5, .inl (cI, Z.N, .inl Z.nx)), (Z.a6, .inl (cI, Z.N, .inl Z.ns)), (Z.a7, .inl (cI, Z.N, .inl Z.nl)), (Z.a8, .inl (cI, Z.N, .inl Z.pa)), (Z.a9, .inl (cI, Z.N, .inl Z.pl)), (Z.au, .inl (cC, Z.U, .inl Z.un))] sz.size)) (ncap Z (Z.ct + cap) + qcap Z (Z.us + cap)) (20 * ncap Z (Z.ct + cap) + 2 * qcap Z (Z.us + cap)) (va_A [(mo, .inr (13, MF 30 (es v tp dn tm))), (Q.qq, .inl (cI, (8 * Q.C), .inl Q.qf)), (Q.qe, .inl (cL, (3 * Q.C), .inr (.inl Q.ef))), (t, .inr (12, MF 13 (tw T))), (T.a0, .inl (cI, T.N, .inl T.kd)), (T.a1, .inl (cL, T.N, .inr (.inl T.nu))), (T.a2, .inl (cI, T.N, .inl T.st)), (T.a3, .inl (cI, T.N, .inl T.ln)), (T.a4, .inl (cI, T.N, .inl T.ki)), (T.a5, .inl (cI, T.N, .inl T.nx)), (T.a6, .inl (cI, T.N, .inl T.ns)), (T.a7, .inl (cI, T.N, .inl T.nl)), (T.a8, .inl (cI, T.N, .inl T.pa)), (T.a9, .inl (cI, T.N, .inl T.pl)), (T.au, .inl (cC, T.U, .inl T.un)), (tv, .inr (12, MF 13 (tw V))), (V.au, .inl (cC, V.U, .inl V.un)), (ql, .inl (cI, 20100, .inl li)), (tw9, .inr (12, MF 13 (tw Z))), (Z.a0, .inl (cI, Z.N, .inl Z.kd)), (Z.a1, .inl (cL, Z.N, .inr (.inl Z.nu))), (Z.a2, .inl (cI, Z.N, .inl Z.st)), (Z.a3, .inl (cI, Z.N, .inl Z.ln)), (Z.a4, .inl (cI, Z.N, .inl Z.ki)), (Z.a5, .inl (cI, Z.N, .inl Z.nx)), (Z.a6, .inl (cI, Z.N, .inl Z.ns)), (Z.a7, .inl (cI, Z.N, .inl Z.nl)), (Z.a8, .inl (cI, Z.N, .inl Z.pa)), (Z.a9, .inl (cI, Z.N, .inl Z.pl)), (Z.au, .inl (cC, Z.U, .inl Z.un))] sz.size)
set_option maxHeartbeats 4000000 in
set_option maxRecDepth 100000 in
/-- the reference: ask -/
theorem c_ask (O : QP CT) (cb cap F L : Nat) (hc4 : 4096 ≤ cb) (hc5 : cb ≤ 9000) (hHO : HOC O cb cap F L) : AKC (QRYp O) cb cap (38 + F) (1480 + L) := by sorry
end
section
theorem w_1118 : (.fieldLink "QueryBenchModel" 62 "QueryBenchModel" "values" "LQueryBenchModel$Tree;" : Cond) ∈ gtbl := by sorry
theorem w_1555 : (.methodLink "QueryBenchModel" 78 ⟨"QueryBenchModel", "same", "(LQueryBenchModel$Tree;ILQueryBenchModel$Tree;I)Z"⟩ : Cond) ∈ gtbl := by sorry
theorem w_1556 : (.static ⟨"QueryBenchModel", "same", "(LQueryBenchModel$Tree;ILQueryBenchModel$Tree;I)Z"⟩ : Cond) ∈ gtbl := by sorry
theorem w_1558 : (.methodLink "QueryBenchModel" 71 ⟨"QueryBenchModel", "order", "(LQueryBenchModel$Tree;ILQueryBenchModel$Tree;I)I"⟩ : Cond) ∈ gtbl := by sorry
theorem w_1559 : (.static ⟨"QueryBenchModel", "order", "(LQueryBenchModel$Tree;ILQueryBenchModel$Tree;I)I"⟩ : Cond) ∈ gtbl := by sorry
/-- a value stands at a -/
def VR (T : TS) (r a : Nat) : Prop := ∃ e x, RepV T r a e x
theorem VR.lt {T : TS} {r a : Nat} (h : VR T r a) : a < T.ct := by sorry
theorem VR.leaf {T : TS} {r a : Nat} (h : VR T r a) : ∃ y : LF, RepL T a y := by sorry
theorem VR.str {T : TS} {r a : Nat} (h : VR T r a) (h4 : T.kd a = 4) : ∃ s L, T.st a = nI s ∧ T.ln a = nI L ∧ s + L ≤ T.us := by sorry
theorem VR.kids {T : TS} {r a : Nat} (h : VR T r a) : ∃ ks, chn T.nx T.ct ks (T.ki a) ∧ (∀ k, k ∈ ks → ∃ r2, r2 < r ∧ VR T r2 k) ∧ (T.kd a = 6 → ∀ k, k ∈ ks → nmOK T k) ∧ (∀ k, k ∈ ks → k < T.ct) ∧ ks.length ≤ T.ct := by sorry
theorem VR.te {T T2 : TS} {r a : Nat} (h : VR T r a) (hte : TE T T2) (hb : T.us < 2 ^ 31) : VR T2 r a := by sorry
/-- no value, or one that stands in the tree -/
def VV (T : TS) (vv : Int32) : Prop := vv = -1 ∨ ∃ a r, vv = nI a ∧ r ≤ 32 ∧ VR T r a
theorem VV.te {T T2 : TS} {vv : Int32} (h : VV T vv) (hte : TE T T2) (hb : T.us < 2 ^ 31) : VV T2 vv := by sorry
/-- a holds the value u, and it is such as may be compared -/
def VX (T : TS) (a : Nat) (u : VU) : Prop := (∃ e, RepV T u.1 a e u.2) ∧ wfV u.1 u.2
theorem VX.vr {T : TS} {a : Nat} {u : VU} (h : VX T a u) : VR T u.1 a := by sorry
theorem VX.te {T T2 : TS} {a : Nat} {u : VU} (h : VX T a u) (hte : TE T T2) (hb : T.us < 2 ^ 31) : VX T2 a u := by sorry
theorem VX.kids {T : TS} {a : Nat} {u : VU} (h : VX T a u) : ∃ ks : List Nat, chn T.nx T.ct ks (T.ki a) ∧ ks.length = (ksU u).length ∧ (∀ (i x : Nat) (c : List Int32 × VU), ks[i]? = some x → (ksU u)[i]? = some c → VX T x c.2 ∧ c.2.1 < u.1 ∧ (T.kd a = 6 → nmT T x = c.1)) ∧ (T.kd a = 6 → ∀ k, k ∈ ks → nmOK T k) ∧ (∀ k, k ∈ ks → k < T.ct) ∧ ks.length ≤ T.ct := by sorry
theorem VX.kd {T : TS} {a k : Nat} {u : VU} (h : VX T a u) (hk : k ≤ 6) : T.kd a = nI k ↔ (lfU u).1 = k := by sorry
theorem VX.num {T : TS} {a : Nat} {u : VU} (h : VX T a u) (h3 : (lfU u).1 = 3) : T.nu a = (lfU u).2.1 := by sorry
theorem VX.str {T : TS} {a : Nat} {u : VU} (h : VX T a u) (h4 : (lfU u).1 = 4) : ∃ s L, T.st a = nI s ∧ T.ln a = nI L ∧ s + L ≤ T.us ∧ sl T.un s L = (lfU u).2.2 ∧ uOK (sl T.un s L) := by sorry
/-- a leaf has no members -/
theorem wf_lf0 {u : VU} (h : wfV u.1 u.2) : u.1 = 0 → (lfU u).1 < 5 := by sorry
theorem ord_ge {s t : List Int32} (h : ¬ ordV s t < 0) : ltT s t = false := by sorry
/-- whether two values are the same, a member at a time -/
theorem sameU_def {u v : VU} (h0 : u.1 = 0 → (lfU u).1 < 5) : sameU u v = (decide ((lfU u).1 = (lfU v).1) && (if (lfU u).1 = 3 then decide ((lfU u).2.1 = (lfU v).2.1) else if (lfU u).1 = 4 then decide ((lfU u).2.2 = (lfU v).2.2) else if (lfU u).1 = 5 then decide ((ksU u).length = (ksU v).length) && ((ksU u).zip (ksU v)).all (fun p => sameU p.1.2 p.2.2) else if (lfU u).1 = 6 then decide ((ksU u).length = (ksU v).length) && (ksU u).all (fun c => match (ksU v).find? (fun d => decide (d.1 = c.1)) with
    | some d => sameU c.2 d.2
    | none => false) else true)) := by sorry
theorem sameU_k {u v : VU} (h0 : u.1 = 0 → (lfU u).1 < 5) (hk : ¬ (lfU u).1 = (lfU v).1) : sameU u v = false := by sorry
theorem sameU_3 {u v : VU} (h0 : u.1 = 0 → (lfU u).1 < 5) (hk : (lfU u).1 = (lfU v).1) (h3 : (lfU u).1 = 3) : sameU u v = decide ((lfU u).2.1 = (lfU v).2.1) := by sorry
theorem sameU_4 {u v : VU} (h0 : u.1 = 0 → (lfU u).1 < 5) (hk : (lfU u).1 = (lfU v).1) (h4 : (lfU u).1 = 4) : sameU u v = decide ((lfU u).2.2 = (lfU v).2.2) := by sorry
theorem sameU_0 {u v : VU} (h0 : u.1 = 0 → (lfU u).1 < 5) (hk : (lfU u).1 = (lfU v).1) (h3 : (lfU u).1 < 3) : sameU u v = true := by sorry
/-- arrays, from the i-th member on -/
def sm5 (a b : List (List Int32 × VU)) : Bool := decide (a.length = b.length) && (a.zip b).all (fun p => sameU p.1.2 p.2.2)
theorem sameU_5 {u v : VU} (h0 : u.1 = 0 → (lfU u).1 < 5) (hk : (lfU u).1 = (lfU v).1) (h5 : (lfU u).1 = 5) : sameU u v = sm5 (ksU u) (ksU v) := by sorry
theorem sm5_c {a b : List (List Int32 × VU)} {i : Nat} {c d : List Int32 × VU} (hc : a[i]? = some c) (hd : b[i]? = some d) : sm5 (a.drop i) (b.drop i) = (sameU c.2 d.2 && sm5 (a.drop (i + 1)) (b.drop (i + 1))) := by sorry
theorem sm5_n1 {a b : List (List Int32 × VU)} {i : Nat} (h1 : i < a.length) (h2 : b.length ≤ i) : sm5 (a.drop i) (b.drop i) = false := by sorry
theorem sm5_n2 {a b : List (List Int32 × VU)} {i : Nat} (h1 : a.length ≤ i) : sm5 (a.drop i) (b.drop i) = decide (b.length ≤ i) := by sorry
/-- objects of the same size, from the i-th member on -/
def sm6 (b : List (List Int32 × VU)) (a : List (List Int32 × VU)) : Bool := a.all (fun c => match b.find? (fun d => decide (d.1 = c.1)) with
    | some d => sameU c.2 d.2
    | none => false)
theorem sameU_6 {u v : VU} (h0 : u.1 = 0 → (lfU u).1 < 5) (hk : (lfU u).1 = (lfU v).1) (h6 : (lfU u).1 = 6) (hl : (ksU u).length = (ksU v).length) : sameU u v = sm6 (ksU v) (ksU u) := by sorry
theorem sameU_6n {u v : VU} (h0 : u.1 = 0 → (lfU u).1 < 5) (hk : (lfU u).1 = (lfU v).1) (h6 : (lfU u).1 = 6) (hl : ¬ (ksU u).length = (ksU v).length) : sameU u v = false := by sorry
theorem sm6_c {a b : List (List Int32 × VU)} {i : Nat} {c : List Int32 × VU} (hc : a[i]? = some c) : sm6 b (a.drop i) = ((match b.find? (fun d => decide (d.1 = c.1)) with
    | some d => sameU c.2 d.2
    | none => false) && sm6 b (a.drop (i + 1))) := by sorry
theorem sm6_e {a b : List (List Int32 × VU)} {i : Nat} (h : a.length ≤ i) : sm6 b (a.drop i) = true := by sorry
theorem fndU_at {t : List Int32} : ∀ (l : List (List Int32 × VU)) (i : Nat) (c : List Int32 × VU), l[i]? = some c → c.1 = t → (∀ (j : Nat) (d : List Int32 × VU), j < i → l[j]? = some d → ¬ d.1 = t) → l.find? (fun p => decide (p.1 = t)) = some c := by sorry
theorem fndU_1 {u : VU} {t : List Int32} {i : Nat} {c : List Int32 × VU} (hw : wfV u.1 u.2) (hk : (lfU u).1 = 6) (h : (ksU u)[i]? = some c) (hc : c.1 = t) : (ksU u).find? (fun d => decide (d.1 = t)) = some c := by sorry
theorem fndU_0 {t : List Int32} : ∀ (l : List (List Int32 × VU)), (∀ (j : Nat) (d : List Int32 × VU), l[j]? = some d → ¬ d.1 = t) → l.find? (fun p => decide (p.1 = t)) = none := by sorry
/-- no value, or one that stands in the tree and is this -/
def VY (T : TS) (vv : Int32) : VOp → Prop
  | none => vv = -1
  | some u => ∃ a, vv = nI a ∧ u.1 ≤ 32 ∧ VX T a u
theorem VY.vv {T : TS} {vv : Int32} {o : VOp} (h : VY T vv o) : VV T vv := by sorry
theorem VY.te {T T2 : TS} {vv : Int32} {o : VOp} (h : VY T vv o) (hte : TE T T2) (hb : T.us < 2 ^ 31) : VY T2 vv o := by sorry
theorem VY.two {T : TS} {vv : Int32} {o : VOp} (h : VY T vv o) : (vv = -1 ∧ o = none) ∨ ∃ a u, vv = nI a ∧ o = some u ∧ u.1 ≤ 32 ∧ VX T a u := by sorry
theorem VX.kdq {T : TS} {a : Nat} {u : VU} (h : VX T a u) : T.kd a = nI (lfU u).1 ∧ (lfU u).1 ≤ 6 := by sorry
theorem VX.kkn {T : TS} {a b : Nat} {u w : VU} (h : VX T a u) (g : VX T b w) : T.kd a = T.kd b ↔ (lfU u).1 = (lfU w).1 := by sorry
theorem nmT_is {T : TS} {k s L : Nat} (h1 : T.ns k = nI s) (h2 : T.nl k = nI L) (hs : s < 2 ^ 31) (hL : L < 2 ^ 31) : nmT T k = sl T.un s L := by sorry
theorem drop_n {α : Type} {l : List α} {i : Nat} (h : l.drop i = []) : l.length ≤ i := by sorry
theorem lc_eq {a b : Int64} (h : lg_cmp a b = 0) : a = b := by sorry
theorem lc_ne {a b : Int64} (h : ¬ lg_cmp a b = 0) : ¬ a = b := by sorry
abbrev b_Mo_same : ByteArray := prog_14_method_2_code
def y_Mo_same : MethodName := ⟨"QueryBenchModel", "same", "(LQueryBenchModel$Tree;ILQueryBenchModel$Tree;I)Z"⟩
abbrev k_Mo_same : Cond := .code y_Mo_same b_Mo_same 7 (some .boolean)
theorem i_Mo_same : k_Mo_same ∈ gtbl := by sorry
theorem d_Mo_same_0 : decode b_Mo_same 0 = .ok (.aload_n 0, 1) := by sorry
theorem d_Mo_same_1 : decode b_Mo_same 1 = .ok (.getfield 65, 3) := by sorry
theorem d_Mo_same_4 : decode b_Mo_same 4 = .ok (.iload_n 1, 1) := by sorry
theorem d_Mo_same_5 : decode b_Mo_same 5 = .ok (.iaload, 1) := by sorry
theorem d_Mo_same_6 : decode b_Mo_same 6 = .ok (.aload_n 2, 1) := by sorry
theorem d_Mo_same_7 : decode b_Mo_same 7 = .ok (.getfield 65, 3) := by sorry
theorem d_Mo_same_10 : decode b_Mo_same 10 = .ok (.iload_n 3, 1) := by sorry
theorem d_Mo_same_11 : decode b_Mo_same 11 = .ok (.iaload, 1) := by sorry
theorem d_Mo_same_12 : decode b_Mo_same 12 = .ok (.if_icmp .eq 5, 3) := by sorry
theorem d_Mo_same_15 : decode b_Mo_same 15 = .ok (.iconst 0, 1) := by sorry
theorem d_Mo_same_16 : decode b_Mo_same 16 = .ok (.ireturn, 1) := by sorry
theorem d_Mo_same_17 : decode b_Mo_same 17 = .ok (.aload_n 0, 1) := by sorry
theorem d_Mo_same_18 : decode b_Mo_same 18 = .ok (.getfield 65, 3) := by sorry
theorem d_Mo_same_21 : decode b_Mo_same 21 = .ok (.iload_n 1, 1) := by sorry
theorem d_Mo_same_22 : decode b_Mo_same 22 = .ok (.iaload, 1) := by sorry
theorem d_Mo_same_23 : decode b_Mo_same 23 = .ok (.tableswitch 222 3 6 #[29, 51, 67, 139], 29) := by sorry
theorem d_Mo_same_52 : decode b_Mo_same 52 = .ok (.aload_n 0, 1) := by sorry
theorem d_Mo_same_53 : decode b_Mo_same 53 = .ok (.getfield 68, 3) := by sorry
theorem d_Mo_same_56 : decode b_Mo_same 56 = .ok (.iload_n 1, 1) := by sorry
theorem d_Mo_same_57 : decode b_Mo_same 57 = .ok (.laload, 1) := by sorry
theorem d_Mo_same_58 : decode b_Mo_same 58 = .ok (.aload_n 2, 1) := by sorry
theorem d_Mo_same_59 : decode b_Mo_same 59 = .ok (.getfield 68, 3) := by sorry
theorem d_Mo_same_62 : decode b_Mo_same 62 = .ok (.iload_n 3, 1) := by sorry
theorem d_Mo_same_63 : decode b_Mo_same 63 = .ok (.laload, 1) := by sorry
theorem d_Mo_same_64 : decode b_Mo_same 64 = .ok (.lcmp, 1) := by sorry
theorem d_Mo_same_65 : decode b_Mo_same 65 = .ok (.ifCond .ne 7, 3) := by sorry
theorem d_Mo_same_68 : decode b_Mo_same 68 = .ok (.iconst 1, 1) := by sorry
theorem d_Mo_same_69 : decode b_Mo_same 69 = .ok (.goto 4, 3) := by sorry
theorem d_Mo_same_72 : decode b_Mo_same 72 = .ok (.iconst 0, 1) := by sorry
theorem d_Mo_same_73 : decode b_Mo_same 73 = .ok (.ireturn, 1) := by sorry
theorem d_Mo_same_74 : decode b_Mo_same 74 = .ok (.aload_n 0, 1) := by sorry
theorem d_Mo_same_75 : decode b_Mo_same 75 = .ok (.iload_n 1, 1) := by sorry
theorem d_Mo_same_76 : decode b_Mo_same 76 = .ok (.aload_n 2, 1) := by sorry
theorem d_Mo_same_77 : decode b_Mo_same 77 = .ok (.iload_n 3, 1) := by sorry
theorem d_Mo_same_78 : decode b_Mo_same 78 = .ok (.invokestatic 71, 3) := by sorry
theorem d_Mo_same_81 : decode b_Mo_same 81 = .ok (.ifCond .ne 7, 3) := by sorry
theorem d_Mo_same_84 : decode b_Mo_same 84 = .ok (.iconst 1, 1) := by sorry
theorem d_Mo_same_85 : decode b_Mo_same 85 = .ok (.goto 4, 3) := by sorry
theorem d_Mo_same_88 : decode b_Mo_same 88 = .ok (.iconst 0, 1) := by sorry
theorem d_Mo_same_89 : decode b_Mo_same 89 = .ok (.ireturn, 1) := by sorry
theorem d_Mo_same_90 : decode b_Mo_same 90 = .ok (.aload_n 2, 1) := by sorry
theorem d_Mo_same_91 : decode b_Mo_same 91 = .ok (.getfield 75, 3) := by sorry
theorem d_Mo_same_94 : decode b_Mo_same 94 = .ok (.iload_n 3, 1) := by sorry
theorem d_Mo_same_95 : decode b_Mo_same 95 = .ok (.iaload, 1) := by sorry
theorem d_Mo_same_96 : decode b_Mo_same 96 = .ok (.istore 4, 2) := by sorry
theorem d_Mo_same_98 : decode b_Mo_same 98 = .ok (.aload_n 0, 1) := by sorry
theorem d_Mo_same_99 : decode b_Mo_same 99 = .ok (.getfield 75, 3) := by sorry
theorem d_Mo_same_102 : decode b_Mo_same 102 = .ok (.iload_n 1, 1) := by sorry
theorem d_Mo_same_103 : decode b_Mo_same 103 = .ok (.iaload, 1) := by sorry
theorem d_Mo_same_104 : decode b_Mo_same 104 = .ok (.istore 5, 2) := by sorry
theorem d_Mo_same_106 : decode b_Mo_same 106 = .ok (.iload 5, 2) := by sorry
theorem d_Mo_same_108 : decode b_Mo_same 108 = .ok (.ifCond .lt 43, 3) := by sorry
theorem d_Mo_same_111 : decode b_Mo_same 111 = .ok (.iload 4, 2) := by sorry
theorem d_Mo_same_113 : decode b_Mo_same 113 = .ok (.ifCond .lt 15, 3) := by sorry
theorem d_Mo_same_116 : decode b_Mo_same 116 = .ok (.aload_n 0, 1) := by sorry
theorem d_Mo_same_117 : decode b_Mo_same 117 = .ok (.iload 5, 2) := by sorry
theorem d_Mo_same_119 : decode b_Mo_same 119 = .ok (.aload_n 2, 1) := by sorry
theorem d_Mo_same_120 : decode b_Mo_same 120 = .ok (.iload 4, 2) := by sorry
theorem d_Mo_same_122 : decode b_Mo_same 122 = .ok (.invokestatic 78, 3) := by sorry
theorem d_Mo_same_125 : decode b_Mo_same 125 = .ok (.ifCond .ne 5, 3) := by sorry
theorem d_Mo_same_128 : decode b_Mo_same 128 = .ok (.iconst 0, 1) := by sorry
theorem d_Mo_same_129 : decode b_Mo_same 129 = .ok (.ireturn, 1) := by sorry
theorem d_Mo_same_130 : decode b_Mo_same 130 = .ok (.aload_n 2, 1) := by sorry
theorem d_Mo_same_131 : decode b_Mo_same 131 = .ok (.getfield 82, 3) := by sorry
theorem d_Mo_same_134 : decode b_Mo_same 134 = .ok (.iload 4, 2) := by sorry
theorem d_Mo_same_136 : decode b_Mo_same 136 = .ok (.iaload, 1) := by sorry
theorem d_Mo_same_137 : decode b_Mo_same 137 = .ok (.istore 4, 2) := by sorry
theorem d_Mo_same_139 : decode b_Mo_same 139 = .ok (.aload_n 0, 1) := by sorry
theorem d_Mo_same_140 : decode b_Mo_same 140 = .ok (.getfield 82, 3) := by sorry
theorem d_Mo_same_143 : decode b_Mo_same 143 = .ok (.iload 5, 2) := by sorry
theorem d_Mo_same_145 : decode b_Mo_same 145 = .ok (.iaload, 1) := by sorry
theorem d_Mo_same_146 : decode b_Mo_same 146 = .ok (.istore 5, 2) := by sorry
theorem d_Mo_same_148 : decode b_Mo_same 148 = .ok (.goto (-42), 3) := by sorry
theorem d_Mo_same_151 : decode b_Mo_same 151 = .ok (.iload 4, 2) := by sorry
theorem d_Mo_same_153 : decode b_Mo_same 153 = .ok (.ifCond .ge 7, 3) := by sorry
theorem d_Mo_same_156 : decode b_Mo_same 156 = .ok (.iconst 1, 1) := by sorry
theorem d_Mo_same_157 : decode b_Mo_same 157 = .ok (.goto 4, 3) := by sorry
theorem d_Mo_same_160 : decode b_Mo_same 160 = .ok (.iconst 0, 1) := by sorry
theorem d_Mo_same_161 : decode b_Mo_same 161 = .ok (.ireturn, 1) := by sorry
theorem d_Mo_same_162 : decode b_Mo_same 162 = .ok (.aload_n 0, 1) := by sorry
theorem d_Mo_same_163 : decode b_Mo_same 163 = .ok (.iload_n 1, 1) := by sorry
theorem d_Mo_same_164 : decode b_Mo_same 164 = .ok (.invokevirtual 85, 3) := by sorry
theorem d_Mo_same_167 : decode b_Mo_same 167 = .ok (.aload_n 2, 1) := by sorry
theorem d_Mo_same_168 : decode b_Mo_same 168 = .ok (.iload_n 3, 1) := by sorry
theorem d_Mo_same_169 : decode b_Mo_same 169 = .ok (.invokevirtual 85, 3) := by sorry
theorem d_Mo_same_172 : decode b_Mo_same 172 = .ok (.if_icmp .eq 5, 3) := by sorry
theorem d_Mo_same_175 : decode b_Mo_same 175 = .ok (.iconst 0, 1) := by sorry
theorem d_Mo_same_176 : decode b_Mo_same 176 = .ok (.ireturn, 1) := by sorry
theorem d_Mo_same_177 : decode b_Mo_same 177 = .ok (.aload_n 0, 1) := by sorry
theorem d_Mo_same_178 : decode b_Mo_same 178 = .ok (.getfield 75, 3) := by sorry
theorem d_Mo_same_181 : decode b_Mo_same 181 = .ok (.iload_n 1, 1) := by sorry
theorem d_Mo_same_182 : decode b_Mo_same 182 = .ok (.iaload, 1) := by sorry
theorem d_Mo_same_183 : decode b_Mo_same 183 = .ok (.istore 5, 2) := by sorry
theorem d_Mo_same_185 : decode b_Mo_same 185 = .ok (.iload 5, 2) := by sorry
theorem d_Mo_same_187 : decode b_Mo_same 187 = .ok (.ifCond .lt 56, 3) := by sorry
theorem d_Mo_same_190 : decode b_Mo_same 190 = .ok (.aload_n 2, 1) := by sorry
theorem d_Mo_same_191 : decode b_Mo_same 191 = .ok (.iload_n 3, 1) := by sorry
theorem d_Mo_same_192 : decode b_Mo_same 192 = .ok (.aload_n 0, 1) := by sorry
theorem d_Mo_same_193 : decode b_Mo_same 193 = .ok (.aload_n 0, 1) := by sorry
theorem d_Mo_same_194 : decode b_Mo_same 194 = .ok (.getfield 89, 3) := by sorry
theorem d_Mo_same_197 : decode b_Mo_same 197 = .ok (.iload 5, 2) := by sorry
theorem d_Mo_same_199 : decode b_Mo_same 199 = .ok (.iaload, 1) := by sorry
theorem d_Mo_same_200 : decode b_Mo_same 200 = .ok (.aload_n 0, 1) := by sorry
theorem d_Mo_same_201 : decode b_Mo_same 201 = .ok (.getfield 92, 3) := by sorry
theorem d_Mo_same_204 : decode b_Mo_same 204 = .ok (.iload 5, 2) := by sorry
theorem d_Mo_same_206 : decode b_Mo_same 206 = .ok (.iaload, 1) := by sorry
theorem d_Mo_same_207 : decode b_Mo_same 207 = .ok (.invokevirtual 95, 3) := by sorry
theorem d_Mo_same_210 : decode b_Mo_same 210 = .ok (.istore 6, 2) := by sorry
theorem d_Mo_same_212 : decode b_Mo_same 212 = .ok (.iload 6, 2) := by sorry
theorem d_Mo_same_214 : decode b_Mo_same 214 = .ok (.ifCond .lt 15, 3) := by sorry
theorem d_Mo_same_217 : decode b_Mo_same 217 = .ok (.aload_n 0, 1) := by sorry
theorem d_Mo_same_218 : decode b_Mo_same 218 = .ok (.iload 5, 2) := by sorry
theorem d_Mo_same_220 : decode b_Mo_same 220 = .ok (.aload_n 2, 1) := by sorry
theorem d_Mo_same_221 : decode b_Mo_same 221 = .ok (.iload 6, 2) := by sorry
theorem d_Mo_same_223 : decode b_Mo_same 223 = .ok (.invokestatic 78, 3) := by sorry
theorem d_Mo_same_226 : decode b_Mo_same 226 = .ok (.ifCond .ne 5, 3) := by sorry
theorem d_Mo_same_229 : decode b_Mo_same 229 = .ok (.iconst 0, 1) := by sorry
theorem d_Mo_same_230 : decode b_Mo_same 230 = .ok (.ireturn, 1) := by sorry
theorem d_Mo_same_231 : decode b_Mo_same 231 = .ok (.aload_n 0, 1) := by sorry
theorem d_Mo_same_232 : decode b_Mo_same 232 = .ok (.getfield 82, 3) := by sorry
theorem d_Mo_same_235 : decode b_Mo_same 235 = .ok (.iload 5, 2) := by sorry
theorem d_Mo_same_237 : decode b_Mo_same 237 = .ok (.iaload, 1) := by sorry
theorem d_Mo_same_238 : decode b_Mo_same 238 = .ok (.istore 5, 2) := by sorry
theorem d_Mo_same_240 : decode b_Mo_same 240 = .ok (.goto (-55), 3) := by sorry
theorem d_Mo_same_243 : decode b_Mo_same 243 = .ok (.iconst 1, 1) := by sorry
theorem d_Mo_same_244 : decode b_Mo_same 244 = .ok (.ireturn, 1) := by sorry
theorem d_Mo_same_245 : decode b_Mo_same 245 = .ok (.iconst 1, 1) := by sorry
theorem d_Mo_same_246 : decode b_Mo_same 246 = .ok (.ireturn, 1) := by sorry
/-- what same does, of a tree with itself -/
def SMC (r : Nat) : Prop := ∀ (l : Launch) (dC : Nat → ClassId) (dI : Nat → Nat → Nat) (t : Nat) (sz : Heap) (cI cL cC : ClassId) (T : TS) (x9 y9 : Nat) (u w : VU), TOK T → VX T x9 u → u.1 = r → VX T y9 w → Met l y_Mo_same (k_Mo_same :: gtbl) ({ frames := 3 + r, cells := 0, slots := 0, locals := 60 + 40 * r }) (va_Pc [.ref t, .int (nI x9), .ref t, .int (nI y9)] (mp dC dI [(t, .inr (12, MF 13 (tw T))), (T.a0, .inl (cI, T.N, .inl T.kd)), (T.a1, .inl (cL, T.N, .inr (.inl T.nu))), (T.a2, .inl (cI, T.N, .inl T.st)), (T.a3, .inl (cI, T.N, .inl T.ln)), (T.a4, .inl (cI, T.N, .inl T.ki)), (T.a5, .inl (cI, T.N, .inl T.nx)), (T.a6, .inl (cI, T.N, .inl T.ns)), (T.a7, .inl (cI, T.N, .inl T.nl)), (T.a8, .inl (cI, T.N, .inl T.pa)), (T.a9, .inl (cI, T.N, .inl T.pl)), (T.au, .inl (cC, T.U, .inl T.un))] [(cI, .int), (cL, .long), (cC, .char)] sz)) (va_Qi (fun (res : Int32) (_ : Unit) => res = bI (sameU u w)) (fun _ t9 => mz dC dI [(t, .inr (12, MF 13 (tw T))), (T.a0, .inl (cI, T.N, .inl T.kd)), (T.a1, .inl (cL, T.N, .inr (.inl T.nu))), (T.a2, .inl (cI, T.N, .inl T.st)), (T.a3, .inl (cI, T.N, .inl T.ln)), (T.a4, .inl (cI, T.N, .inl T.ki)), (T.a5, .inl (cI, T.N, .inl T.nx)), (T.a6, .inl (cI, T.N, .inl T.ns)), (T.a7, .inl (cI, T.N, .inl T.nl)), (T.a8, .inl (cI, T.N, .inl T.pa)), (T.a9, .inl (cI, T.N, .inl T.pl)), (T.au, .inl (cC, T.U, .inl T.un))] [(cI, .int), (cL, .long), (cC, .char)] (va_A [(t, .inr (12, MF 13 (tw T))), (T.a0, .inl (cI, T.N, .inl T.kd)), (T.a1, .inl (cL, T.N, .inr (.inl T.nu))), (T.a2, .inl (cI, T.N, .inl T.st)), (T.a3, .inl (cI, T.N, .inl T.ln)), (T.a4, .inl (cI, T.N, .inl T.ki)), (T.a5, .inl (cI, T.N, .inl T.nx)), (T.a6, .inl (cI, T.N, .inl T.ns)), (T.a7, .inl (cI, T.N, .inl T.nl)), (T.a8, .inl (cI, T.N, .inl T.pa)), (T.a9, .inl (cI, T.N, .inl T.pl)), (T.au, .inl (cC, T.U, .inl T.un))] sz.size) t9) (va_A [(t, .inr (12, MF 13 (tw T))), (T.a0, .inl (cI, T.N, .inl T.kd)), (T.a1, .inl (cL, T.N, .inr (.inl T.nu))), (T.a2, .inl (cI, T.N, .inl T.st)), (T.a3, .inl (cI, T.N, .inl T.ln)), (T.a4, .inl (cI, T.N, .inl T.ki)), (T.a5, .inl (cI, T.N, .inl T.nx)), (T.a6, .inl (cI, T.N, .inl T.ns)), (T.a7, .inl (cI, T.N, .inl T.nl)), (T.a8, .inl (cI, T.N, .inl T.pa)), (T.a9, .inl (cI, T.N, .inl T.pl)), (T.au, .inl (cC, T.U, .inl T.un))] sz.size)) 0 0 (va_A [(t, .inr (12, MF 13 (tw T))), (T.a0, .inl (cI, T.N, .inl T.kd)), (T.a1, .inl (cL, T.N, .inr (.inl T.nu))), (T.a2, .inl (cI, T.N, .inl T.st)), (T.a3, .inl (cI, T.N, .inl T.ln)), (T.a4, .inl (cI, T.N, .inl T.ki)), (T.a5, .inl (cI, T.N, .inl T.nx)), (T.a6, .inl (cI, T.N, .inl T.ns)), (T.a7, .inl (cI, T.N, .inl T.nl)), (T.a8, .inl (cI, T.N, .inl T.pa)), (T.a9, .inl (cI, T.N, .inl T.pl)), (T.au, .inl (cC, T.U, .inl T.un))] sz.size)
set_option maxHeartbeats 4000000 in
set_option maxRecDepth 100000 in
/-- the reference: same -/
theorem c_same1 (r : Nat) (hIH : ∀ r2, r2 < r → SMC r2) : SMC r := by sorry
theorem c_same : ∀ r, SMC r := by sorry
abbrev b_Mo_below : ByteArray := prog_14_method_62_code
def y_Mo_below : MethodName := ⟨"QueryBenchModel", "below", "(II)Z"⟩
abbrev k_Mo_below : Cond := .code y_Mo_below b_Mo_below 3 (some .boolean)
theorem i_Mo_below : k_Mo_below ∈ gtbl := by sorry
theorem d_Mo_below_0 : decode b_Mo_below 0 = .ok (.iload_n 1, 1) := by sorry
theorem d_Mo_below_1 : decode b_Mo_below 1 = .ok (.ifCond .lt 28, 3) := by sorry
theorem d_Mo_below_4 : decode b_Mo_below 4 = .ok (.iload_n 2, 1) := by sorry
theorem d_Mo_below_5 : decode b_Mo_below 5 = .ok (.ifCond .lt 24, 3) := by sorry
theorem d_Mo_below_8 : decode b_Mo_below 8 = .ok (.aload_n 0, 1) := by sorry
theorem d_Mo_below_9 : decode b_Mo_below 9 = .ok (.getfield 62, 3) := by sorry
theorem d_Mo_below_12 : decode b_Mo_below 12 = .ok (.getfield 65, 3) := by sorry
theorem d_Mo_below_15 : decode b_Mo_below 15 = .ok (.iload_n 1, 1) := by sorry
theorem d_Mo_below_16 : decode b_Mo_below 16 = .ok (.iaload, 1) := by sorry
theorem d_Mo_below_17 : decode b_Mo_below 17 = .ok (.aload_n 0, 1) := by sorry
theorem d_Mo_below_18 : decode b_Mo_below 18 = .ok (.getfield 62, 3) := by sorry
theorem d_Mo_below_21 : decode b_Mo_below 21 = .ok (.getfield 65, 3) := by sorry
theorem d_Mo_below_24 : decode b_Mo_below 24 = .ok (.iload_n 2, 1) := by sorry
theorem d_Mo_below_25 : decode b_Mo_below 25 = .ok (.iaload, 1) := by sorry
theorem d_Mo_below_26 : decode b_Mo_below 26 = .ok (.if_icmp .eq 5, 3) := by sorry
theorem d_Mo_below_29 : decode b_Mo_below 29 = .ok (.iconst 0, 1) := by sorry
theorem d_Mo_below_30 : decode b_Mo_below 30 = .ok (.ireturn, 1) := by sorry
theorem d_Mo_below_31 : decode b_Mo_below 31 = .ok (.aload_n 0, 1) := by sorry
theorem d_Mo_below_32 : decode b_Mo_below 32 = .ok (.getfield 62, 3) := by sorry
theorem d_Mo_below_35 : decode b_Mo_below 35 = .ok (.getfield 65, 3) := by sorry
theorem d_Mo_below_38 : decode b_Mo_below 38 = .ok (.iload_n 1, 1) := by sorry
theorem d_Mo_below_39 : decode b_Mo_below 39 = .ok (.iaload, 1) := by sorry
theorem d_Mo_below_40 : decode b_Mo_below 40 = .ok (.iconst 3, 1) := by sorry
theorem d_Mo_below_41 : decode b_Mo_below 41 = .ok (.if_icmp .ne 31, 3) := by sorry
theorem d_Mo_below_44 : decode b_Mo_below 44 = .ok (.aload_n 0, 1) := by sorry
theorem d_Mo_below_45 : decode b_Mo_below 45 = .ok (.getfield 62, 3) := by sorry
theorem d_Mo_below_48 : decode b_Mo_below 48 = .ok (.getfield 68, 3) := by sorry
theorem d_Mo_below_51 : decode b_Mo_below 51 = .ok (.iload_n 1, 1) := by sorry
theorem d_Mo_below_52 : decode b_Mo_below 52 = .ok (.laload, 1) := by sorry
theorem d_Mo_below_53 : decode b_Mo_below 53 = .ok (.aload_n 0, 1) := by sorry
theorem d_Mo_below_54 : decode b_Mo_below 54 = .ok (.getfield 62, 3) := by sorry
theorem d_Mo_below_57 : decode b_Mo_below 57 = .ok (.getfield 68, 3) := by sorry
theorem d_Mo_below_60 : decode b_Mo_below 60 = .ok (.iload_n 2, 1) := by sorry
theorem d_Mo_below_61 : decode b_Mo_below 61 = .ok (.laload, 1) := by sorry
theorem d_Mo_below_62 : decode b_Mo_below 62 = .ok (.lcmp, 1) := by sorry
theorem d_Mo_below_63 : decode b_Mo_below 63 = .ok (.ifCond .ge 7, 3) := by sorry
theorem d_Mo_below_66 : decode b_Mo_below 66 = .ok (.iconst 1, 1) := by sorry
theorem d_Mo_below_67 : decode b_Mo_below 67 = .ok (.goto 4, 3) := by sorry
theorem d_Mo_below_70 : decode b_Mo_below 70 = .ok (.iconst 0, 1) := by sorry
theorem d_Mo_below_71 : decode b_Mo_below 71 = .ok (.ireturn, 1) := by sorry
theorem d_Mo_below_72 : decode b_Mo_below 72 = .ok (.aload_n 0, 1) := by sorry
theorem d_Mo_below_73 : decode b_Mo_below 73 = .ok (.getfield 62, 3) := by sorry
theorem d_Mo_below_76 : decode b_Mo_below 76 = .ok (.getfield 65, 3) := by sorry
theorem d_Mo_below_79 : decode b_Mo_below 79 = .ok (.iload_n 1, 1) := by sorry
theorem d_Mo_below_80 : decode b_Mo_below 80 = .ok (.iaload, 1) := by sorry
theorem d_Mo_below_81 : decode b_Mo_below 81 = .ok (.iconst 4, 1) := by sorry
theorem d_Mo_below_82 : decode b_Mo_below 82 = .ok (.if_icmp .ne 23, 3) := by sorry
theorem d_Mo_below_85 : decode b_Mo_below 85 = .ok (.aload_n 0, 1) := by sorry
theorem d_Mo_below_86 : decode b_Mo_below 86 = .ok (.getfield 62, 3) := by sorry
theorem d_Mo_below_89 : decode b_Mo_below 89 = .ok (.iload_n 1, 1) := by sorry
theorem d_Mo_below_90 : decode b_Mo_below 90 = .ok (.aload_n 0, 1) := by sorry
theorem d_Mo_below_91 : decode b_Mo_below 91 = .ok (.getfield 62, 3) := by sorry
theorem d_Mo_below_94 : decode b_Mo_below 94 = .ok (.iload_n 2, 1) := by sorry
theorem d_Mo_below_95 : decode b_Mo_below 95 = .ok (.invokestatic 71, 3) := by sorry
theorem d_Mo_below_98 : decode b_Mo_below 98 = .ok (.ifCond .ge 7, 3) := by sorry
theorem d_Mo_below_101 : decode b_Mo_below 101 = .ok (.iconst 1, 1) := by sorry
theorem d_Mo_below_102 : decode b_Mo_below 102 = .ok (.goto 4, 3) := by sorry
theorem d_Mo_below_105 : decode b_Mo_below 105 = .ok (.iconst 0, 1) := by sorry
theorem d_Mo_below_106 : decode b_Mo_below 106 = .ok (.ireturn, 1) := by sorry
set_option maxHeartbeats 4000000 in
set_option maxRecDepth 100000 in
/-- the reference: below -/
theorem c_Mo_below (l : Launch) (dC : Nat → ClassId) (dI : Nat → Nat → Nat) (mo t : Nat) (sz : Heap) (cI cL cC : ClassId) (T : TS) (v : Nat → Value) (aa bb : Int32) (oa ob : VOp) (hT : TOK T) (hA9 : VY T aa oa) (hB9 : VY T bb ob) (h29 : v 29 = .ref t) : Met l y_Mo_below (k_Mo_below :: gtbl) ({ frames := 3, cells := 0, slots := 0, locals := 60 }) (va_Pc [.ref mo, .int aa, .int bb] (mp dC dI [(mo, .inr (13, MF 30 v)), (t, .inr (12, MF 13 (tw T))), (T.a0, .inl (cI, T.N, .inl T.kd)), (T.a1, .inl (cL, T.N, .inr (.inl T.nu))), (T.a2, .inl (cI, T.N, .inl T.st)), (T.a3, .inl (cI, T.N, .inl T.ln)), (T.a4, .inl (cI, T.N, .inl T.ki)), (T.a5, .inl (cI, T.N, .inl T.nx)), (T.a6, .inl (cI, T.N, .inl T.ns)), (T.a7, .inl (cI, T.N, .inl T.nl)), (T.a8, .inl (cI, T.N, .inl T.pa)), (T.a9, .inl (cI, T.N, .inl T.pl)), (T.au, .inl (cC, T.U, .inl T.un))] [(cI, .int), (cL, .long), (cC, .char)] sz)) (va_Qi (fun (res : Int32) (_ : Unit) => res = bI (lessO oa ob)) (fun _ t9 => mz dC dI [(mo, .inr (13, MF 30 v)), (t, .inr (12, MF 13 (tw T))), (T.a0, .inl (cI, T.N, .inl T.kd)), (T.a1, .inl (cL, T.N, .inr (.inl T.nu))), (T.a2, .inl (cI, T.N, .inl T.st)), (T.a3, .inl (cI, T.N, .inl T.ln)), (T.a4, .inl (cI, T.N, .inl T.ki)), (T.a5, .inl (cI, T.N, .inl T.nx)), (T.a6, .inl (cI, T.N, .inl T.ns)), (T.a7, .inl (cI, T.N, .inl T.nl)), (T.a8, .inl (cI, T.N, .inl T.pa)), (T.a9, .inl (cI, T.N, .inl T.pl)), (T.au, .inl (cC, T.U, .inl T.un))] [(cI, .int), (cL, .long), (cC, .char)] (va_A [(mo, .inr (13, MF 30 v)), (t, .inr (12, MF 13 (tw T))), (T.a0, .inl (cI, T.N, .inl T.kd)), (T.a1, .inl (cL, T.N, .inr (.inl T.nu))), (T.a2, .inl (cI, T.N, .inl T.st)), (T.a3, .inl (cI, T.N, .inl T.ln)), (T.a4, .inl (cI, T.N, .inl T.ki)), (T.a5, .inl (cI, T.N, .inl T.nx)), (T.a6, .inl (cI, T.N, .inl T.ns)), (T.a7, .inl (cI, T.N, .inl T.nl)), (T.a8, .inl (cI, T.N, .inl T.pa)), (T.a9, .inl (cI, T.N, .inl T.pl)), (T.au, .inl (cC, T.U, .inl T.un))] sz.size) t9) (va_A [(mo, .inr (13, MF 30 v)), (t, .inr (12, MF 13 (tw T))), (T.a0, .inl (cI, T.N, .inl T.kd)), (T.a1, .inl (cL, T.N, .inr (.inl T.nu))), (T.a2, .inl (cI, T.N, .inl T.st)), (T.a3, .inl (cI, T.N, .inl T.ln)), (T.a4, .inl (cI, T.N, .inl T.ki)), (T.a5, .inl (cI, T.N, .inl T.nx)), (T.a6, .inl (cI, T.N, .inl T.ns)), (T.a7, .inl (cI, T.N, .inl T.nl)), (T.a8, .inl (cI, T.N, .inl T.pa)), (T.a9, .inl (cI, T.N, .inl T.pl)), (T.au, .inl (cC, T.U, .inl T.un))] sz.size)) 0 0 (va_A [(mo, .inr (13, MF 30 v)), (t, .inr (12, MF 13 (tw T))), (T.a0, .inl (cI, T.N, .inl T.kd)), (T.a1, .inl (cL, T.N, .inr (.inl T.nu))), (T.a2, .inl (cI, T.N, .inl T.st)), (T.a3, .inl (cI, T.N, .inl T.ln)), (T.a4, .inl (cI, T.N, .inl T.ki)), (T.a5, .inl (cI, T.N, .inl T.nx)), (T.a6, .inl (cI, T.N, .inl T.ns)), (T.a7, .inl (cI, T.N, .inl T.nl)), (T.a8, .inl (cI, T.N, .inl T.pa)), (T.a9, .inl (cI, T.N, .inl T.pl)), (T.au, .inl (cC, T.U, .inl T.un))] sz.size) := by sorry
end
section
def TS.wn (T : TS) (g : Nat → Int64) : TS := (TS.mk T.N T.U T.ct T.us T.a0 T.a1 T.a2 T.a3 T.a4 T.a5 T.a6 T.a7 T.a8 T.a9 T.au T.kd T.st T.ln T.ki T.nx T.ns T.nl T.pa T.pl T.un g)
def TS.wl (T : TS) (g : Nat → Int32) : TS := (TS.mk T.N T.U T.ct T.us T.a0 T.a1 T.a2 T.a3 T.a4 T.a5 T.a6 T.a7 T.a8 T.a9 T.au T.kd T.st g T.ki T.nx T.ns T.nl T.pa T.pl T.un T.nu)
/-- a value has been added to the tree -/
def VA (cn cu : Nat) (T T2 : TS) (res : Int32) : Prop := TOK T2 ∧ TE T T2 ∧ GB (T.ct + cn) (T.us + cu) T T2 ∧ T2.ct ≤ T.ct + cn ∧ T2.us ≤ T.us + cu ∧ VV T2 res
theorem VA.rf {cn cu : Nat} {T : TS} {res : Int32} (hT : TOK T) (h : VV T res) : VA cn cu T T res := by sorry
theorem VA.mono {cn cu c2 u2 : Nat} {T T2 : TS} {res : Int32} (h : VA cn cu T T2 res) (h1 : cn ≤ c2) (h2 : cu ≤ u2) : VA c2 u2 T T2 res := by sorry
theorem VA.word {T T1 : TS} {k : Nat} (hA : TAd T T1 (nI k)) (hk : k ≤ 2) (hT : TOK T) (hc : T.ct ≤ 390000) : VA 1 0 T T1 (nI T.ct) := by sorry
theorem VA.num {T T1 : TS} {x : Int64} (hA : TAd T T1 3) (hT : TOK T) (hc : T.ct ≤ 390000) : VA 1 0 T (T1.wn (vp_updL T1.nu T.ct x)) (nI T.ct) := by sorry
theorem VA.str {T T1 Tc : TS} {us : List Int32} (hA : TAd T T1 4) (hX : TX T1 Tc us) (hT : TOK T) (hc : T.ct ≤ 390000) (hu : T.us + us.length ≤ 390000) : VA 1 us.length T (Tc.wl (upd Tc.ln T.ct (nI us.length))) (nI T.ct) := by sorry
theorem RepL.len {T : TS} {a : Nat} {x : LF} (h : RepL T a x) : ∃ L, T.ln a = nI L ∧ L ≤ x.2.2.length ∧ (0 < L → ∃ s, T.st a = nI s ∧ s + L ≤ T.us) := by sorry
theorem cE_wn {T T1 : TS} {g : Nat → Int64} : cE T (T1.wn g) = cE T T1 ∧ sE T (T1.wn g) = sE T T1 := by sorry
theorem cE_wl {T T1 : TS} {g : Nat → Int32} : cE T (T1.wl g) = cE T T1 ∧ sE T (T1.wl g) = sE T T1 := by sorry
/-- a value has been added to the tree, and it is this -/
def VB (cn cu : Nat) (T T2 : TS) (res : Int32) (o : VOp) : Prop := VA cn cu T T2 res ∧ VY T2 res o
theorem VB.rf {cn cu : Nat} {T : TS} {res : Int32} {o : VOp} (hT : TOK T) (h : VY T res o) : VB cn cu T T res o := by sorry
theorem VB.mono {cn cu c2 u2 : Nat} {T T2 : TS} {res : Int32} {o : VOp} (h : VB cn cu T T2 res o) (h1 : cn ≤ c2) (h2 : cu ≤ u2) : VB c2 u2 T T2 res o := by sorry
theorem VB.word {T T1 : TS} {k : Nat} (hA : TAd T T1 (nI k)) (hk : k ≤ 2) (hT : TOK T) (hc : T.ct ≤ 390000) : VB 1 0 T T1 (nI T.ct) (some (leafU (k, 0, []))) := by sorry
theorem VB.num {T T1 : TS} {x : Int64} (hA : TAd T T1 3) (hT : TOK T) (hc : T.ct ≤ 390000) (hx : gL x) : VB 1 0 T (T1.wn (vp_updL T1.nu T.ct x)) (nI T.ct) (some (leafU (3, x, []))) := by sorry
theorem VB.str {T T1 Tc : TS} {us : List Int32} (hA : TAd T T1 4) (hX : TX T1 Tc us) (hT : TOK T) (hc : T.ct ≤ 390000) (hu : T.us + us.length ≤ 390000) (hw : uOK us) : VB 1 us.length T (Tc.wl (upd Tc.ln T.ct (nI us.length))) (nI T.ct) (some (leafU (4, 0, us))) := by sorry
/-- how many characters -/
def chrN (l : List Int32) : Nat := (l.filter (fun c => decide (¬ loU c))).length
theorem chrN_1 {a : Int32} {l : List Int32} (h : ¬ loU a) : chrN (a :: l) = 1 + chrN l := by sorry
theorem chrN_2 {a b : Int32} {l : List Int32} (h : ¬ loU a) (hb : loU b) : chrN (a :: b :: l) = 1 + chrN l := by sorry
theorem chrN_le : ∀ (l : List Int32), chrN l ≤ l.length := by sorry
theorem i64_1 (c : Nat) : Int64.ofNat c + 1 = Int64.ofNat (c + 1) := by sorry
theorem gL_nat {c : Nat} (h : c ≤ 1000000) : gL (Int64.ofNat c) := by sorry
theorem n64_of {c : Nat} (h : c < 2 ^ 31) : (nI c).toInt64 = Int64.ofNat c := by sorry
theorem lenU_4 {u : VU} (h : (lfU u).1 = 4) : lenU u = some (leafU (3, Int64.ofNat (chrN (lfU u).2.2), [])) := by sorry
theorem lenU_5 {u : VU} (h : 5 ≤ (lfU u).1) : lenU u = some (leafU (3, Int64.ofNat (ksU u).length, [])) := by sorry
theorem lenU_0 {u : VU} (h : (lfU u).1 < 4) : lenU u = none := by sorry
/-- a step of counting -/
theorem len_step {g : Nat → Int32} {i n c N : Nat} (hi : i < n) (hs : uOK (sl g i (n - i))) (hc : c + chrN (sl g i (n - i)) = N) : (65535 < chV g i n → i + 2 ≤ n ∧ uOK (sl g (i + 2) (n - (i + 2))) ∧ c + 1 + chrN (sl g (i + 2) (n - (i + 2))) = N) ∧ (¬ 65535 < chV g i n → uOK (sl g (i + 1) (n - (i + 1))) ∧ c + 1 + chrN (sl g (i + 1) (n - (i + 1))) = N) := by sorry
theorem VX.kdlt {T : TS} {a k : Nat} {u : VU} (h : VX T a u) (hk : k < 2 ^ 31) : nI k ≤ T.kd a ↔ k ≤ (lfU u).1 := by sorry
abbrev b_Mo_lengthOf : ByteArray := prog_14_method_60_code
def y_Mo_lengthOf : MethodName := ⟨"QueryBenchModel", "lengthOf", "(I)I"⟩
abbrev k_Mo_lengthOf : Cond := .code y_Mo_lengthOf b_Mo_lengthOf 6 (some .int)
theorem i_Mo_lengthOf : k_Mo_lengthOf ∈ gtbl := by sorry
theorem d_Mo_lengthOf_0 : decode b_Mo_lengthOf 0 = .ok (.iload_n 1, 1) := by sorry
theorem d_Mo_lengthOf_1 : decode b_Mo_lengthOf 1 = .ok (.ifCond .lt 16, 3) := by sorry
theorem d_Mo_lengthOf_4 : decode b_Mo_lengthOf 4 = .ok (.aload_n 0, 1) := by sorry
theorem d_Mo_lengthOf_5 : decode b_Mo_lengthOf 5 = .ok (.getfield 62, 3) := by sorry
theorem d_Mo_lengthOf_8 : decode b_Mo_lengthOf 8 = .ok (.getfield 65, 3) := by sorry
theorem d_Mo_lengthOf_11 : decode b_Mo_lengthOf 11 = .ok (.iload_n 1, 1) := by sorry
theorem d_Mo_lengthOf_12 : decode b_Mo_lengthOf 12 = .ok (.iaload, 1) := by sorry
theorem d_Mo_lengthOf_13 : decode b_Mo_lengthOf 13 = .ok (.iconst 4, 1) := by sorry
theorem d_Mo_lengthOf_14 : decode b_Mo_lengthOf 14 = .ok (.if_icmp .ge 5, 3) := by sorry
theorem d_Mo_lengthOf_17 : decode b_Mo_lengthOf 17 = .ok (.iconst (-1), 1) := by sorry
theorem d_Mo_lengthOf_18 : decode b_Mo_lengthOf 18 = .ok (.ireturn, 1) := by sorry
theorem d_Mo_lengthOf_19 : decode b_Mo_lengthOf 19 = .ok (.lconst 0, 1) := by sorry
theorem d_Mo_lengthOf_20 : decode b_Mo_lengthOf 20 = .ok (.lstore_n 2, 1) := by sorry
theorem d_Mo_lengthOf_21 : decode b_Mo_lengthOf 21 = .ok (.aload_n 0, 1) := by sorry
theorem d_Mo_lengthOf_22 : decode b_Mo_lengthOf 22 = .ok (.getfield 62, 3) := by sorry
theorem d_Mo_lengthOf_25 : decode b_Mo_lengthOf 25 = .ok (.getfield 65, 3) := by sorry
theorem d_Mo_lengthOf_28 : decode b_Mo_lengthOf 28 = .ok (.iload_n 1, 1) := by sorry
theorem d_Mo_lengthOf_29 : decode b_Mo_lengthOf 29 = .ok (.iaload, 1) := by sorry
theorem d_Mo_lengthOf_30 : decode b_Mo_lengthOf 30 = .ok (.iconst 4, 1) := by sorry
theorem d_Mo_lengthOf_31 : decode b_Mo_lengthOf 31 = .ok (.if_icmp .ne 81, 3) := by sorry
theorem d_Mo_lengthOf_34 : decode b_Mo_lengthOf 34 = .ok (.aload_n 0, 1) := by sorry
theorem d_Mo_lengthOf_35 : decode b_Mo_lengthOf 35 = .ok (.getfield 62, 3) := by sorry
theorem d_Mo_lengthOf_38 : decode b_Mo_lengthOf 38 = .ok (.getfield 103, 3) := by sorry
theorem d_Mo_lengthOf_41 : decode b_Mo_lengthOf 41 = .ok (.iload_n 1, 1) := by sorry
theorem d_Mo_lengthOf_42 : decode b_Mo_lengthOf 42 = .ok (.iaload, 1) := by sorry
theorem d_Mo_lengthOf_43 : decode b_Mo_lengthOf 43 = .ok (.aload_n 0, 1) := by sorry
theorem d_Mo_lengthOf_44 : decode b_Mo_lengthOf 44 = .ok (.getfield 62, 3) := by sorry
theorem d_Mo_lengthOf_47 : decode b_Mo_lengthOf 47 = .ok (.getfield 106, 3) := by sorry
theorem d_Mo_lengthOf_50 : decode b_Mo_lengthOf 50 = .ok (.iload_n 1, 1) := by sorry
theorem d_Mo_lengthOf_51 : decode b_Mo_lengthOf 51 = .ok (.iaload, 1) := by sorry
theorem d_Mo_lengthOf_52 : decode b_Mo_lengthOf 52 = .ok (.iadd, 1) := by sorry
theorem d_Mo_lengthOf_53 : decode b_Mo_lengthOf 53 = .ok (.istore 4, 2) := by sorry
theorem d_Mo_lengthOf_55 : decode b_Mo_lengthOf 55 = .ok (.aload_n 0, 1) := by sorry
theorem d_Mo_lengthOf_56 : decode b_Mo_lengthOf 56 = .ok (.getfield 62, 3) := by sorry
theorem d_Mo_lengthOf_59 : decode b_Mo_lengthOf 59 = .ok (.getfield 103, 3) := by sorry
theorem d_Mo_lengthOf_62 : decode b_Mo_lengthOf 62 = .ok (.iload_n 1, 1) := by sorry
theorem d_Mo_lengthOf_63 : decode b_Mo_lengthOf 63 = .ok (.iaload, 1) := by sorry
theorem d_Mo_lengthOf_64 : decode b_Mo_lengthOf 64 = .ok (.istore 5, 2) := by sorry
theorem d_Mo_lengthOf_66 : decode b_Mo_lengthOf 66 = .ok (.iload 5, 2) := by sorry
theorem d_Mo_lengthOf_68 : decode b_Mo_lengthOf 68 = .ok (.iload 4, 2) := by sorry
theorem d_Mo_lengthOf_70 : decode b_Mo_lengthOf 70 = .ok (.if_icmp .ge 39, 3) := by sorry
theorem d_Mo_lengthOf_73 : decode b_Mo_lengthOf 73 = .ok (.lload_n 2, 1) := by sorry
theorem d_Mo_lengthOf_74 : decode b_Mo_lengthOf 74 = .ok (.lconst 1, 1) := by sorry
theorem d_Mo_lengthOf_75 : decode b_Mo_lengthOf 75 = .ok (.ladd, 1) := by sorry
theorem d_Mo_lengthOf_76 : decode b_Mo_lengthOf 76 = .ok (.lstore_n 2, 1) := by sorry
theorem d_Mo_lengthOf_77 : decode b_Mo_lengthOf 77 = .ok (.iload 5, 2) := by sorry
theorem d_Mo_lengthOf_79 : decode b_Mo_lengthOf 79 = .ok (.aload_n 0, 1) := by sorry
theorem d_Mo_lengthOf_80 : decode b_Mo_lengthOf 80 = .ok (.getfield 62, 3) := by sorry
theorem d_Mo_lengthOf_83 : decode b_Mo_lengthOf 83 = .ok (.getfield 107, 3) := by sorry
theorem d_Mo_lengthOf_86 : decode b_Mo_lengthOf 86 = .ok (.iload 5, 2) := by sorry
theorem d_Mo_lengthOf_88 : decode b_Mo_lengthOf 88 = .ok (.iload 4, 2) := by sorry
theorem d_Mo_lengthOf_90 : decode b_Mo_lengthOf 90 = .ok (.invokestatic 111, 3) := by sorry
theorem d_Mo_lengthOf_93 : decode b_Mo_lengthOf 93 = .ok (.ldc 115, 2) := by sorry
theorem d_Mo_lengthOf_95 : decode b_Mo_lengthOf 95 = .ok (.if_icmp .le 7, 3) := by sorry
theorem d_Mo_lengthOf_98 : decode b_Mo_lengthOf 98 = .ok (.iconst 2, 1) := by sorry
theorem d_Mo_lengthOf_99 : decode b_Mo_lengthOf 99 = .ok (.goto 4, 3) := by sorry
theorem d_Mo_lengthOf_102 : decode b_Mo_lengthOf 102 = .ok (.iconst 1, 1) := by sorry
theorem d_Mo_lengthOf_103 : decode b_Mo_lengthOf 103 = .ok (.iadd, 1) := by sorry
theorem d_Mo_lengthOf_104 : decode b_Mo_lengthOf 104 = .ok (.istore 5, 2) := by sorry
theorem d_Mo_lengthOf_106 : decode b_Mo_lengthOf 106 = .ok (.goto (-40), 3) := by sorry
theorem d_Mo_lengthOf_109 : decode b_Mo_lengthOf 109 = .ok (.goto 13, 3) := by sorry
theorem d_Mo_lengthOf_112 : decode b_Mo_lengthOf 112 = .ok (.aload_n 0, 1) := by sorry
theorem d_Mo_lengthOf_113 : decode b_Mo_lengthOf 113 = .ok (.getfield 62, 3) := by sorry
theorem d_Mo_lengthOf_116 : decode b_Mo_lengthOf 116 = .ok (.iload_n 1, 1) := by sorry
theorem d_Mo_lengthOf_117 : decode b_Mo_lengthOf 117 = .ok (.invokevirtual 85, 3) := by sorry
theorem d_Mo_lengthOf_120 : decode b_Mo_lengthOf 120 = .ok (.i2l, 1) := by sorry
theorem d_Mo_lengthOf_121 : decode b_Mo_lengthOf 121 = .ok (.lstore_n 2, 1) := by sorry
theorem d_Mo_lengthOf_122 : decode b_Mo_lengthOf 122 = .ok (.aload_n 0, 1) := by sorry
theorem d_Mo_lengthOf_123 : decode b_Mo_lengthOf 123 = .ok (.getfield 62, 3) := by sorry
theorem d_Mo_lengthOf_126 : decode b_Mo_lengthOf 126 = .ok (.iconst 3, 1) := by sorry
theorem d_Mo_lengthOf_127 : decode b_Mo_lengthOf 127 = .ok (.invokevirtual 197, 3) := by sorry
theorem d_Mo_lengthOf_130 : decode b_Mo_lengthOf 130 = .ok (.istore 4, 2) := by sorry
theorem d_Mo_lengthOf_132 : decode b_Mo_lengthOf 132 = .ok (.aload_n 0, 1) := by sorry
theorem d_Mo_lengthOf_133 : decode b_Mo_lengthOf 133 = .ok (.getfield 62, 3) := by sorry
theorem d_Mo_lengthOf_136 : decode b_Mo_lengthOf 136 = .ok (.getfield 68, 3) := by sorry
theorem d_Mo_lengthOf_139 : decode b_Mo_lengthOf 139 = .ok (.iload 4, 2) := by sorry
theorem d_Mo_lengthOf_141 : decode b_Mo_lengthOf 141 = .ok (.lload_n 2, 1) := by sorry
theorem d_Mo_lengthOf_142 : decode b_Mo_lengthOf 142 = .ok (.lastore, 1) := by sorry
theorem d_Mo_lengthOf_143 : decode b_Mo_lengthOf 143 = .ok (.iload 4, 2) := by sorry
theorem d_Mo_lengthOf_145 : decode b_Mo_lengthOf 145 = .ok (.ireturn, 1) := by sorry
set_option maxHeartbeats 4000000 in
set_option maxRecDepth 100000 in
/-- the reference: lengthOf -/
theorem c_Mo_lengthOf (l : Launch) (dC : Nat → ClassId) (dI : Nat → Nat → Nat) (mo t : Nat) (sz : Heap) (cI cL cC : ClassId) (T : TS) (v : Nat → Value) (vv : Int32) (hT : TOK T) (o9 : VOp) (hA9 : VY T vv o9) (hc9 : T.ct ≤ 380000) (h29 : v 29 = .ref t) : Met l y_Mo_lengthOf (k_Mo_lengthOf :: gtbl) ({ frames := 2, cells := ncap T (T.ct + 1) + qcap T (T.us + 0), slots := 20 * ncap T (T.ct + 1) + 2 * qcap T (T.us + 0), locals := 60 }) (va_Pc [.ref mo, .int vv] (mp dC dI [(mo, .inr (13, MF 30 v)), (t, .inr (12, MF 13 (tw T))), (T.a0, .inl (cI, T.N, .inl T.kd)), (T.a1, .inl (cL, T.N, .inr (.inl T.nu))), (T.a2, .inl (cI, T.N, .inl T.st)), (T.a3, .inl (cI, T.N, .inl T.ln)), (T.a4, .inl (cI, T.N, .inl T.ki)), (T.a5, .inl (cI, T.N, .inl T.nx)), (T.a6, .inl (cI, T.N, .inl T.ns)), (T.a7, .inl (cI, T.N, .inl T.nl)), (T.a8, .inl (cI, T.N, .inl T.pa)), (T.a9, .inl (cI, T.N, .inl T.pl)), (T.au, .inl (cC, T.U, .inl T.un))] [(cI, .int), (cL, .long), (cC, .char)] sz)) (va_Qi (fun (res : Int32) (u : TS) => VB 1 0 T u res (o9.bind lenU)) (fun u t9 => mz dC dI [(mo, .inr (13, MF 30 v)), (t, .inr (12, MF 13 (tw u))), (u.a0, .inl (cI, u.N, .inl u.kd)), (u.a1, .inl (cL, u.N, .inr (.inl u.nu))), (u.a2, .inl (cI, u.N, .inl u.st)), (u.a3, .inl (cI, u.N, .inl u.ln)), (u.a4, .inl (cI, u.N, .inl u.ki)), (u.a5, .inl (cI, u.N, .inl u.nx)), (u.a6, .inl (cI, u.N, .inl u.ns)), (u.a7, .inl (cI, u.N, .inl u.nl)), (u.a8, .inl (cI, u.N, .inl u.pa)), (u.a9, .inl (cI, u.N, .inl u.pl)), (u.au, .inl (cC, u.U, .inl u.un))] [(cI, .int), (cL, .long), (cC, .char)] (va_A [(mo, .inr (13, MF 30 v)), (t, .inr (12, MF 13 (tw T))), (T.a0, .inl (cI, T.N, .inl T.kd)), (T.a1, .inl (cL, T.N, .inr (.inl T.nu))), (T.a2, .inl (cI, T.N, .inl T.st)), (T.a3, .inl (cI, T.N, .inl T.ln)), (T.a4, .inl (cI, T.N, .inl T.ki)), (T.a5, .inl (cI, T.N, .inl T.nx)), (T.a6, .inl (cI, T.N, .inl T.ns)), (T.a7, .inl (cI, T.N, .inl T.nl)), (T.a8, .inl (cI, T.N, .inl T.pa)), (T.a9, .inl (cI, T.N, .inl T.pl)), (T.au, .inl (cC, T.U, .inl T.un))] sz.size) t9 ∧ szk sz t9.heap (cE T u) (sE T u)) (va_A [(mo, .inr (13, MF 30 v)), (t, .inr (12, MF 13 (tw T))), (T.a0, .inl (cI, T.N, .inl T.kd)), (T.a1, .inl (cL, T.N, .inr (.inl T.nu))), (T.a2, .inl (cI, T.N, .inl T.st)), (T.a3, .inl (cI, T.N, .inl T.ln)), (T.a4, .inl (cI, T.N, .inl T.ki)), (T.a5, .inl (cI, T.N, .inl T.nx)), (T.a6, .inl (cI, T.N, .inl T.ns)), (T.a7, .inl (cI, T.N, .inl T.nl)), (T.a8, .inl (cI, T.N, .inl T.pa)), (T.a9, .inl (cI, T.N, .inl T.pl)), (T.au, .inl (cC, T.U, .inl T.un))] sz.size)) (ncap T (T.ct + 1) + qcap T (T.us + 0)) (20 * ncap T (T.ct + 1) + 2 * qcap T (T.us + 0)) (va_A [(mo, .inr (13, MF 30 v)), (t, .inr (12, MF 13 (tw T))), (T.a0, .inl (cI, T.N, .inl T.kd)), (T.a1, .inl (cL, T.N, .inr (.inl T.nu))), (T.a2, .inl (cI, T.N, .inl T.st)), (T.a3, .inl (cI, T.N, .inl T.ln)), (T.a4, .inl (cI, T.N, .inl T.ki)), (T.a5, .inl (cI, T.N, .inl T.nx)), (T.a6, .inl (cI, T.N, .inl T.ns)), (T.a7, .inl (cI, T.N, .inl T.nl)), (T.a8, .inl (cI, T.N, .inl T.pa)), (T.a9, .inl (cI, T.N, .inl T.pl)), (T.au, .inl (cC, T.U, .inl T.un))] sz.size) := by sorry
end
section
theorem w_1544 : (.instanceMethod ⟨"QueryBenchModel$Tree", "copy", "(LQueryBenchModel$Tree;I)I"⟩ : Cond) ∈ gtbl := by sorry
theorem w_1545 : (.selects "QueryBenchModel$Tree" ⟨"QueryBenchModel$Tree", "copy", "(LQueryBenchModel$Tree;I)I"⟩ ⟨"QueryBenchModel$Tree", "copy", "(LQueryBenchModel$Tree;I)I"⟩ : Cond) ∈ gtbl := by sorry
theorem w_1547 : (.methodLink "QueryBenchModel$Tree" 66 ⟨"QueryBenchModel$Tree", "add", "(I)I"⟩ : Cond) ∈ gtbl := by sorry
theorem w_1549 : (.methodLink "QueryBenchModel$Tree" 73 ⟨"QueryBenchModel$Tree", "copy", "(LQueryBenchModel$Tree;I)I"⟩ : Cond) ∈ gtbl := by sorry
theorem w_1550 : (.methodLink "QueryBenchModel$Tree" 77 ⟨"QueryBenchModel$Tree", "name", "(ILQueryBenchModel$Tree;II)V"⟩ : Cond) ∈ gtbl := by sorry
theorem w_1551 : (.instanceMethod ⟨"QueryBenchModel$Tree", "name", "(ILQueryBenchModel$Tree;II)V"⟩ : Cond) ∈ gtbl := by sorry
theorem w_1552 : (.selects "QueryBenchModel$Tree" ⟨"QueryBenchModel$Tree", "name", "(ILQueryBenchModel$Tree;II)V"⟩ ⟨"QueryBenchModel$Tree", "name", "(ILQueryBenchModel$Tree;II)V"⟩ : Cond) ∈ gtbl := by sorry
theorem w_1554 : (.methodLink "QueryBenchModel$Tree" 81 ⟨"QueryBenchModel$Tree", "insert", "(III)V"⟩ : Cond) ∈ gtbl := by sorry
theorem TX.tb {T T2 : TS} {us : List Int32} (h : TX T T2 us) (nd : Nat) : TB T T2 nd := by sorry
theorem nm_len {T : TS} {b : Nat} {c : List Int32} (h : nmOK T b) (hc : nmT T b = c) (hu : T.us < 2 ^ 31) : ∃ s L, T.ns b = nI s ∧ T.nl b = nI L ∧ s + L ≤ T.us ∧ L = c.length := by sorry
/-- what copy leaves in the tree of values -/
def CPp (r : Nat) (x : JVt r) (cn cu : Nat) (Z u : TS) : Prop := TOK u ∧ TE Z u ∧ GB (Z.ct + cn) (Z.us + cu) Z u ∧ u.ct = Z.ct + cn ∧ u.us ≤ Z.us + cu ∧ RepV u r Z.ct u.ct x ∧ u.pa Z.ct = -1
/-- the units of a leaf that has been copied -/
theorem RepL_cp {T Z : TS} {nd a z L : Nat} {us : List Int32} {y : LF} (h : RepL T nd y) (hu : TOK T) (hk : Z.kd a = T.kd nd) (hn : Z.nu a = T.nu nd) (hL : T.ln nd = nI L) (hLb : L < 2 ^ 31) (hs : Z.st a = nI z) (hl : Z.ln a = nI L) (hz : z + L ≤ Z.us) (hun : sl Z.un z L = us.map c16) (hus : ∀ s, T.st nd = nI s → s + L ≤ T.us → us = sl T.un s L) : RepL Z a y := by sorry
abbrev b_Tree_copy : ByteArray := prog_15_method_13_code
def y_Tree_copy : MethodName := ⟨"QueryBenchModel$Tree", "copy", "(LQueryBenchModel$Tree;I)I"⟩
abbrev k_Tree_copy : Cond := .code y_Tree_copy b_Tree_copy 9 (some .int)
theorem i_Tree_copy : k_Tree_copy ∈ gtbl := by sorry
theorem d_Tree_copy_0 : decode b_Tree_copy 0 = .ok (.aload_n 0, 1) := by sorry
theorem d_Tree_copy_1 : decode b_Tree_copy 1 = .ok (.aload_n 1, 1) := by sorry
theorem d_Tree_copy_2 : decode b_Tree_copy 2 = .ok (.getfield 9, 3) := by sorry
theorem d_Tree_copy_5 : decode b_Tree_copy 5 = .ok (.iload_n 2, 1) := by sorry
theorem d_Tree_copy_6 : decode b_Tree_copy 6 = .ok (.iaload, 1) := by sorry
theorem d_Tree_copy_7 : decode b_Tree_copy 7 = .ok (.invokevirtual 66, 3) := by sorry
theorem d_Tree_copy_10 : decode b_Tree_copy 10 = .ok (.istore_n 3, 1) := by sorry
theorem d_Tree_copy_11 : decode b_Tree_copy 11 = .ok (.aload_n 0, 1) := by sorry
theorem d_Tree_copy_12 : decode b_Tree_copy 12 = .ok (.getfield 15, 3) := by sorry
theorem d_Tree_copy_15 : decode b_Tree_copy 15 = .ok (.iload_n 3, 1) := by sorry
theorem d_Tree_copy_16 : decode b_Tree_copy 16 = .ok (.aload_n 1, 1) := by sorry
theorem d_Tree_copy_17 : decode b_Tree_copy 17 = .ok (.getfield 15, 3) := by sorry
theorem d_Tree_copy_20 : decode b_Tree_copy 20 = .ok (.iload_n 2, 1) := by sorry
theorem d_Tree_copy_21 : decode b_Tree_copy 21 = .ok (.laload, 1) := by sorry
theorem d_Tree_copy_22 : decode b_Tree_copy 22 = .ok (.lastore, 1) := by sorry
theorem d_Tree_copy_23 : decode b_Tree_copy 23 = .ok (.aload_n 1, 1) := by sorry
theorem d_Tree_copy_24 : decode b_Tree_copy 24 = .ok (.getfield 22, 3) := by sorry
theorem d_Tree_copy_27 : decode b_Tree_copy 27 = .ok (.iload_n 2, 1) := by sorry
theorem d_Tree_copy_28 : decode b_Tree_copy 28 = .ok (.iaload, 1) := by sorry
theorem d_Tree_copy_29 : decode b_Tree_copy 29 = .ok (.istore 4, 2) := by sorry
theorem d_Tree_copy_31 : decode b_Tree_copy 31 = .ok (.aload_n 1, 1) := by sorry
theorem d_Tree_copy_32 : decode b_Tree_copy 32 = .ok (.getfield 19, 3) := by sorry
theorem d_Tree_copy_35 : decode b_Tree_copy 35 = .ok (.iload_n 2, 1) := by sorry
theorem d_Tree_copy_36 : decode b_Tree_copy 36 = .ok (.iaload, 1) := by sorry
theorem d_Tree_copy_37 : decode b_Tree_copy 37 = .ok (.istore 5, 2) := by sorry
theorem d_Tree_copy_39 : decode b_Tree_copy 39 = .ok (.aload_n 0, 1) := by sorry
theorem d_Tree_copy_40 : decode b_Tree_copy 40 = .ok (.getfield 19, 3) := by sorry
theorem d_Tree_copy_43 : decode b_Tree_copy 43 = .ok (.iload_n 3, 1) := by sorry
theorem d_Tree_copy_44 : decode b_Tree_copy 44 = .ok (.aload_n 0, 1) := by sorry
theorem d_Tree_copy_45 : decode b_Tree_copy 45 = .ok (.getfield 51, 3) := by sorry
theorem d_Tree_copy_48 : decode b_Tree_copy 48 = .ok (.iastore, 1) := by sorry
theorem d_Tree_copy_49 : decode b_Tree_copy 49 = .ok (.aload_n 0, 1) := by sorry
theorem d_Tree_copy_50 : decode b_Tree_copy 50 = .ok (.getfield 22, 3) := by sorry
theorem d_Tree_copy_53 : decode b_Tree_copy 53 = .ok (.iload_n 3, 1) := by sorry
theorem d_Tree_copy_54 : decode b_Tree_copy 54 = .ok (.iload 4, 2) := by sorry
theorem d_Tree_copy_56 : decode b_Tree_copy 56 = .ok (.iastore, 1) := by sorry
theorem d_Tree_copy_57 : decode b_Tree_copy 57 = .ok (.iconst 0, 1) := by sorry
theorem d_Tree_copy_58 : decode b_Tree_copy 58 = .ok (.istore 6, 2) := by sorry
theorem d_Tree_copy_60 : decode b_Tree_copy 60 = .ok (.iload 6, 2) := by sorry
theorem d_Tree_copy_62 : decode b_Tree_copy 62 = .ok (.iload 4, 2) := by sorry
theorem d_Tree_copy_64 : decode b_Tree_copy 64 = .ok (.if_icmp .ge 23, 3) := by sorry
theorem d_Tree_copy_67 : decode b_Tree_copy 67 = .ok (.aload_n 0, 1) := by sorry
theorem d_Tree_copy_68 : decode b_Tree_copy 68 = .ok (.aload_n 1, 1) := by sorry
theorem d_Tree_copy_69 : decode b_Tree_copy 69 = .ok (.getfield 43, 3) := by sorry
theorem d_Tree_copy_72 : decode b_Tree_copy 72 = .ok (.iload 5, 2) := by sorry
theorem d_Tree_copy_74 : decode b_Tree_copy 74 = .ok (.iload 6, 2) := by sorry
theorem d_Tree_copy_76 : decode b_Tree_copy 76 = .ok (.iadd, 1) := by sorry
theorem d_Tree_copy_77 : decode b_Tree_copy 77 = .ok (.caload, 1) := by sorry
theorem d_Tree_copy_78 : decode b_Tree_copy 78 = .ok (.invokevirtual 69, 3) := by sorry
theorem d_Tree_copy_81 : decode b_Tree_copy 81 = .ok (.iinc 6 1, 3) := by sorry
theorem d_Tree_copy_84 : decode b_Tree_copy 84 = .ok (.goto (-24), 3) := by sorry
theorem d_Tree_copy_87 : decode b_Tree_copy 87 = .ok (.iconst (-1), 1) := by sorry
theorem d_Tree_copy_88 : decode b_Tree_copy 88 = .ok (.istore 6, 2) := by sorry
theorem d_Tree_copy_90 : decode b_Tree_copy 90 = .ok (.aload_n 1, 1) := by sorry
theorem d_Tree_copy_91 : decode b_Tree_copy 91 = .ok (.getfield 25, 3) := by sorry
theorem d_Tree_copy_94 : decode b_Tree_copy 94 = .ok (.iload_n 2, 1) := by sorry
theorem d_Tree_copy_95 : decode b_Tree_copy 95 = .ok (.iaload, 1) := by sorry
theorem d_Tree_copy_96 : decode b_Tree_copy 96 = .ok (.istore 7, 2) := by sorry
theorem d_Tree_copy_98 : decode b_Tree_copy 98 = .ok (.iload 7, 2) := by sorry
theorem d_Tree_copy_100 : decode b_Tree_copy 100 = .ok (.ifCond .lt 77, 3) := by sorry
theorem d_Tree_copy_103 : decode b_Tree_copy 103 = .ok (.aload_n 0, 1) := by sorry
theorem d_Tree_copy_104 : decode b_Tree_copy 104 = .ok (.aload_n 1, 1) := by sorry
theorem d_Tree_copy_105 : decode b_Tree_copy 105 = .ok (.iload 7, 2) := by sorry
theorem d_Tree_copy_107 : decode b_Tree_copy 107 = .ok (.invokevirtual 73, 3) := by sorry
theorem d_Tree_copy_110 : decode b_Tree_copy 110 = .ok (.istore 8, 2) := by sorry
theorem d_Tree_copy_112 : decode b_Tree_copy 112 = .ok (.aload_n 0, 1) := by sorry
theorem d_Tree_copy_113 : decode b_Tree_copy 113 = .ok (.getfield 31, 3) := by sorry
theorem d_Tree_copy_116 : decode b_Tree_copy 116 = .ok (.iload 8, 2) := by sorry
theorem d_Tree_copy_118 : decode b_Tree_copy 118 = .ok (.iconst (-1), 1) := by sorry
theorem d_Tree_copy_119 : decode b_Tree_copy 119 = .ok (.iastore, 1) := by sorry
theorem d_Tree_copy_120 : decode b_Tree_copy 120 = .ok (.aload_n 1, 1) := by sorry
theorem d_Tree_copy_121 : decode b_Tree_copy 121 = .ok (.getfield 9, 3) := by sorry
theorem d_Tree_copy_124 : decode b_Tree_copy 124 = .ok (.iload_n 2, 1) := by sorry
theorem d_Tree_copy_125 : decode b_Tree_copy 125 = .ok (.iaload, 1) := by sorry
theorem d_Tree_copy_126 : decode b_Tree_copy 126 = .ok (.bipush 6, 2) := by sorry
theorem d_Tree_copy_128 : decode b_Tree_copy 128 = .ok (.if_icmp .ne 24, 3) := by sorry
theorem d_Tree_copy_131 : decode b_Tree_copy 131 = .ok (.aload_n 0, 1) := by sorry
theorem d_Tree_copy_132 : decode b_Tree_copy 132 = .ok (.iload 8, 2) := by sorry
theorem d_Tree_copy_134 : decode b_Tree_copy 134 = .ok (.aload_n 1, 1) := by sorry
theorem d_Tree_copy_135 : decode b_Tree_copy 135 = .ok (.aload_n 1, 1) := by sorry
theorem d_Tree_copy_136 : decode b_Tree_copy 136 = .ok (.getfield 31, 3) := by sorry
theorem d_Tree_copy_139 : decode b_Tree_copy 139 = .ok (.iload 7, 2) := by sorry
theorem d_Tree_copy_141 : decode b_Tree_copy 141 = .ok (.iaload, 1) := by sorry
theorem d_Tree_copy_142 : decode b_Tree_copy 142 = .ok (.aload_n 1, 1) := by sorry
theorem d_Tree_copy_143 : decode b_Tree_copy 143 = .ok (.getfield 34, 3) := by sorry
theorem d_Tree_copy_146 : decode b_Tree_copy 146 = .ok (.iload 7, 2) := by sorry
theorem d_Tree_copy_148 : decode b_Tree_copy 148 = .ok (.iaload, 1) := by sorry
theorem d_Tree_copy_149 : decode b_Tree_copy 149 = .ok (.invokevirtual 77, 3) := by sorry
theorem d_Tree_copy_152 : decode b_Tree_copy 152 = .ok (.aload_n 0, 1) := by sorry
theorem d_Tree_copy_153 : decode b_Tree_copy 153 = .ok (.iload_n 3, 1) := by sorry
theorem d_Tree_copy_154 : decode b_Tree_copy 154 = .ok (.iload 6, 2) := by sorry
theorem d_Tree_copy_156 : decode b_Tree_copy 156 = .ok (.iload 8, 2) := by sorry
theorem d_Tree_copy_158 : decode b_Tree_copy 158 = .ok (.invokevirtual 81, 3) := by sorry
theorem d_Tree_copy_161 : decode b_Tree_copy 161 = .ok (.iload 8, 2) := by sorry
theorem d_Tree_copy_163 : decode b_Tree_copy 163 = .ok (.istore 6, 2) := by sorry
theorem d_Tree_copy_165 : decode b_Tree_copy 165 = .ok (.aload_n 1, 1) := by sorry
theorem d_Tree_copy_166 : decode b_Tree_copy 166 = .ok (.getfield 28, 3) := by sorry
theorem d_Tree_copy_169 : decode b_Tree_copy 169 = .ok (.iload 7, 2) := by sorry
theorem d_Tree_copy_171 : decode b_Tree_copy 171 = .ok (.iaload, 1) := by sorry
theorem d_Tree_copy_172 : decode b_Tree_copy 172 = .ok (.istore 7, 2) := by sorry
theorem d_Tree_copy_174 : decode b_Tree_copy 174 = .ok (.goto (-76), 3) := by sorry
theorem d_Tree_copy_177 : decode b_Tree_copy 177 = .ok (.iload_n 3, 1) := by sorry
theorem d_Tree_copy_178 : decode b_Tree_copy 178 = .ok (.ireturn, 1) := by sorry
/-- what copy does, at most r deep -/
def CPC (r : Nat) : Prop := ∀ (l : Launch) (dC : Nat → ClassId) (dI : Nat → Nat → Nat) (t tw9 : Nat) (sz : Heap) (cI cL cC : ClassId) (T Z : TS) (nd e9 : Nat) (x : JVt r), TOK T → TOK Z → RepV T r nd e9 x → Z.ct + ncnt r x ≤ 300000 → Z.us + usz r x ≤ 300000 → Met l y_Tree_copy (k_Tree_copy :: gtbl) ({ frames := 4 + r, cells := ncap Z (Z.ct + ncnt r x) + qcap Z (Z.us + usz r x), slots := 20 * ncap Z (Z.ct + ncnt r x) + 2 * qcap Z (Z.us + usz r x), locals := 80 + 60 * r }) (va_Pc [.ref tw9, .ref t, .int (nI nd)] (mp dC dI [(tw9, .inr (12, MF 13 (tw Z))), (Z.a0, .inl (cI, Z.N, .inl Z.kd)), (Z.a1, .inl (cL, Z.N, .inr (.inl Z.nu))), (Z.a2, .inl (cI, Z.N, .inl Z.st)), (Z.a3, .inl (cI, Z.N, .inl Z.ln)), (Z.a4, .inl (cI, Z.N, .inl Z.ki)), (Z.a5, .inl (cI, Z.N, .inl Z.nx)), (Z.a6, .inl (cI, Z.N, .inl Z.ns)), (Z.a7, .inl (cI, Z.N, .inl Z.nl)), (Z.a8, .inl (cI, Z.N, .inl Z.pa)), (Z.a9, .inl (cI, Z.N, .inl Z.pl)), (Z.au, .inl (cC, Z.U, .inl Z.un)), (t, .inr (12, MF 13 (tw T))), (T.a0, .inl (cI, T.N, .inl T.kd)), (T.a1, .inl (cL, T.N, .inr (.inl T.nu))), (T.a2, .inl (cI, T.N, .inl T.st)), (T.a3, .inl (cI, T.N, .inl T.ln)), (T.a4, .inl (cI, T.N, .inl T.ki)), (T.a5, .inl (cI, T.N, .inl T.nx)), (T.a6, .inl (cI, T.N, .inl T.ns)), (T.a7, .inl (cI, T.N, .inl T.nl)), (T.a8, .inl (cI, T.N, .inl T.pa)), (T.a9, .inl (cI, T.N, .inl T.pl)), (T.au, .inl (cC, T.U, .inl T.un))] [(cI, .int), (cL, .long), (cC, .char)] sz)) (va_Qi (fun (res : Int32) (u : TS) => res = nI Z.ct ∧ CPp r x (ncnt r x) (usz r x) Z u) (fun u t9 => mz dC dI [(tw9, .inr (12, MF 13 (tw u))), (u.a0, .inl (cI, u.N, .inl u.kd)), (u.a1, .inl (cL, u.N, .inr (.inl u.nu))), (u.a2, .inl (cI, u.N, .inl u.st)), (u.a3, .inl (cI, u.N, .inl u.ln)), (u.a4, .inl (cI, u.N, .inl u.ki)), (u.a5, .inl (cI, u.N, .inl u.nx)), (u.a6, .inl (cI, u.N, .inl u.ns)), (u.a7, .inl (cI, u.N, .inl u.nl)), (u.a8, .inl (cI, u.N, .inl u.pa)), (u.a9, .inl (cI, u.N, .inl u.pl)), (u.au, .inl (cC, u.U, .inl u.un)), (t, .inr (12, MF 13 (tw T))), (T.a0, .inl (cI, T.N, .inl T.kd)), (T.a1, .inl (cL, T.N, .inr (.inl T.nu))), (T.a2, .inl (cI, T.N, .inl T.st)), (T.a3, .inl (cI, T.N, .inl T.ln)), (T.a4, .inl (cI, T.N, .inl T.ki)), (T.a5, .inl (cI, T.N, .inl T.nx)), (T.a6, .inl (cI, T.N, .inl T.ns)), (T.a7, .inl (cI, T.N, .inl T.nl)), (T.a8, .inl (cI, T.N, .inl T.pa)), (T.a9, .inl (cI, T.N, .inl T.pl)), (T.au, .inl (cC, T.U, .inl T.un))] [(cI, .int), (cL, .long), (cC, .char)] (va_A [(tw9, .inr (12, MF 13 (tw Z))), (Z.a0, .inl (cI, Z.N, .inl Z.kd)), (Z.a1, .inl (cL, Z.N, .inr (.inl Z.nu))), (Z.a2, .inl (cI, Z.N, .inl Z.st)), (Z.a3, .inl (cI, Z.N, .inl Z.ln)), (Z.a4, .inl (cI, Z.N, .inl Z.ki)), (Z.a5, .inl (cI, Z.N, .inl Z.nx)), (Z.a6, .inl (cI, Z.N, .inl Z.ns)), (Z.a7, .inl (cI, Z.N, .inl Z.nl)), (Z.a8, .inl (cI, Z.N, .inl Z.pa)), (Z.a9, .inl (cI, Z.N, .inl Z.pl)), (Z.au, .inl (cC, Z.U, .inl Z.un)), (t, .inr (12, MF 13 (tw T))), (T.a0, .inl (cI, T.N, .inl T.kd)), (T.a1, .inl (cL, T.N, .inr (.inl T.nu))), (T.a2, .inl (cI, T.N, .inl T.st)), (T.a3, .inl (cI, T.N, .inl T.ln)), (T.a4, .inl (cI, T.N, .inl T.ki)), (T.a5, .inl (cI, T.N, .inl T.nx)), (T.a6, .inl (cI, T.N, .inl T.ns)), (T.a7, .inl (cI, T.N, .inl T.nl)), (T.a8, .inl (cI, T.N, .inl T.pa)), (T.a9, .inl (cI, T.N, .inl T.pl)), (T.au, .inl (cC, T.U, .inl T.un))] sz.size) t9 ∧ szk sz t9.heap (cE Z u) (sE Z u)) (va_A [(tw9, .inr (12, MF 13 (tw Z))), (Z.a0, .inl (cI, Z.N, .inl Z.kd)), (Z.a1, .inl (cL, Z.N, .inr (.inl Z.nu))), (Z.a2, .inl (cI, Z.N, .inl Z.st)), (Z.a3, .inl (cI, Z.N, .inl Z.ln)), (Z.a4, .inl (cI, Z.N, .inl Z.ki)), (Z.a5, .inl (cI, Z.N, .inl Z.nx)), (Z.a6, .inl (cI, Z.N, .inl Z.ns)), (Z.a7, .inl (cI, Z.N, .inl Z.nl)), (Z.a8, .inl (cI, Z.N, .inl Z.pa)), (Z.a9, .inl (cI, Z.N, .inl Z.pl)), (Z.au, .inl (cC, Z.U, .inl Z.un)), (t, .inr (12, MF 13 (tw T))), (T.a0, .inl (cI, T.N, .inl T.kd)), (T.a1, .inl (cL, T.N, .inr (.inl T.nu))), (T.a2, .inl (cI, T.N, .inl T.st)), (T.a3, .inl (cI, T.N, .inl T.ln)), (T.a4, .inl (cI, T.N, .inl T.ki)), (T.a5, .inl (cI, T.N, .inl T.nx)), (T.a6, .inl (cI, T.N, .inl T.ns)), (T.a7, .inl (cI, T.N, .inl T.nl)), (T.a8, .inl (cI, T.N, .inl T.pa)), (T.a9, .inl (cI, T.N, .inl T.pl)), (T.au, .inl (cC, T.U, .inl T.un))] sz.size)) (ncap Z (Z.ct + ncnt r x) + qcap Z (Z.us + usz r x)) (20 * ncap Z (Z.ct + ncnt r x) + 2 * qcap Z (Z.us + usz r x)) (va_A [(tw9, .inr (12, MF 13 (tw Z))), (Z.a0, .inl (cI, Z.N, .inl Z.kd)), (Z.a1, .inl (cL, Z.N, .inr (.inl Z.nu))), (Z.a2, .inl (cI, Z.N, .inl Z.st)), (Z.a3, .inl (cI, Z.N, .inl Z.ln)), (Z.a4, .inl (cI, Z.N, .inl Z.ki)), (Z.a5, .inl (cI, Z.N, .inl Z.nx)), (Z.a6, .inl (cI, Z.N, .inl Z.ns)), (Z.a7, .inl (cI, Z.N, .inl Z.nl)), (Z.a8, .inl (cI, Z.N, .inl Z.pa)), (Z.a9, .inl (cI, Z.N, .inl Z.pl)), (Z.au, .inl (cC, Z.U, .inl Z.un)), (t, .inr (12, MF 13 (tw T))), (T.a0, .inl (cI, T.N, .inl T.kd)), (T.a1, .inl (cL, T.N, .inr (.inl T.nu))), (T.a2, .inl (cI, T.N, .inl T.st)), (T.a3, .inl (cI, T.N, .inl T.ln)), (T.a4, .inl (cI, T.N, .inl T.ki)), (T.a5, .inl (cI, T.N, .inl T.nx)), (T.a6, .inl (cI, T.N, .inl T.ns)), (T.a7, .inl (cI, T.N, .inl T.nl)), (T.a8, .inl (cI, T.N, .inl T.pa)), (T.a9, .inl (cI, T.N, .inl T.pl)), (T.au, .inl (cC, T.U, .inl T.un))] sz.size)
theorem ug_fit {BN BU : Nat} {T T1 : TS} (h : GB BN BU T T1) (hB : T1.us + 1 ≤ BU) : cE T T1 + grC T1.U T1.us ≤ ncap T BN + qcap T BU ∧ sE T T1 + grS T1.U T1.us ≤ 20 * ncap T BN + 2 * qcap T BU := by sorry
theorem copy_rep {T : TS} {r a : Nat} {y : LF} {acc : List (List Int32 × JVt r)} (h : RepL T a y) (hk : RepK (RepV T r) T (y.1 = 6) a T.ct (-1) (a + 1) (T.ki a) acc) (ha : a < T.ct) (h5 : y.1 < 5 → acc = []) : RepV T (r + 1) a T.ct (y, acc) := by sorry
set_option maxHeartbeats 4000000 in
set_option maxRecDepth 100000 in
/-- Tree.copy -/
theorem c_copy0 : CPC 0 := by sorry
set_option maxHeartbeats 4000000 in
set_option maxRecDepth 100000 in
/-- Tree.copy -/
theorem c_copyS (r : Nat) (hC : CPC r) : CPC (r + 1) := by sorry
theorem c_copy : ∀ r, CPC r := by sorry
end
section
theorem w_1489 : (.methodLink "QueryBenchModel" 378 ⟨"QueryBenchModel", "ask", "(II)I"⟩ : Cond) ∈ gtbl := by sorry
theorem w_1491 : (.instanceMethod ⟨"QueryBenchModel", "ask", "(II)I"⟩ : Cond) ∈ gtbl := by sorry
theorem w_1530 : (.methodLink "QueryBenchModel" 384 ⟨"QueryBenchModel", "comparableValue", "(II)I"⟩ : Cond) ∈ gtbl := by sorry
theorem w_1532 : (.instanceMethod ⟨"QueryBenchModel", "comparableValue", "(II)I"⟩ : Cond) ∈ gtbl := by sorry
theorem w_1534 : (.methodLink "QueryBenchModel" 387 ⟨"QueryBenchModel", "lengthOf", "(I)I"⟩ : Cond) ∈ gtbl := by sorry
theorem w_1536 : (.instanceMethod ⟨"QueryBenchModel", "lengthOf", "(I)I"⟩ : Cond) ∈ gtbl := by sorry
theorem w_1543 : (.methodLink "QueryBenchModel" 390 ⟨"QueryBenchModel$Tree", "copy", "(LQueryBenchModel$Tree;I)I"⟩ : Cond) ∈ gtbl := by sorry
/-- a value has been added, the tree may have grown to cap more -/
def VE (cap aa : Nat) (Z u : TS) (res : Int32) (o : VOp) : Prop := TOK u ∧ TE Z u ∧ GB (Z.ct + cap) (Z.us + cap) Z u ∧ u.ct ≤ Z.ct + aa ∧ u.us ≤ Z.us + aa ∧ VY u res o
theorem VB.ve {cn cu cap aa : Nat} {Z u : TS} {res : Int32} {o : VOp} (h : VB cn cu Z u res o) (h1 : cn ≤ aa) (h2 : cu ≤ aa) (h3 : aa ≤ cap) : VE cap aa Z u res o := by sorry
theorem VE.tr {cap a1 a2 c1 c2 : Nat} {Z Z1 u : TS} {r1 res : Int32} {o1 o : VOp} (h : VE c1 a1 Z Z1 r1 o1) (g : VE c2 a2 Z1 u res o) (h1 : c1 ≤ cap) (h2 : a1 + c2 ≤ cap) : VE cap (a1 + a2) Z u res o := by sorry
theorem WV.ve {cap c1 aa : Nat} {Z Z1 : TS} {res : Int32} {o : VOp} (h : WV c1 Z Z1) (hc : c1 ≤ cap) (hr : VY Z1 res o) : VE cap aa Z Z1 res o := by sorry
def EVv (T Z : TS) (cap aa cb tp dn : Nat) (tm : Int32) (li : Nat → Int32) (res : Int32) (u : EU) (o : VOp) : Prop := EI T u.1 u.2.1 u.2.2.1 u.2.2.2.1 ∧ u.1 = tp ∧ (∀ j, j < tp → u.2.2.2.1 j = li j) ∧ DB cb dn tm u.2.1 u.2.2.1 ∧ VE cap aa Z u.2.2.2.2 res o
theorem EI.back {T : TS} {tp t2 dn : Nat} {tm : Int32} {li : Nat → Int32} (h : EI T t2 dn tm li) (ht : tp ≤ t2) : EI T tp dn tm li := by sorry
theorem DB.two {c dn d1 d2 : Nat} {t1 t2 : Int32} (h : DB c dn 0 d1 t1) (g : DB c d1 t1 d2 t2) : DB (c + 1) dn 0 d2 t2 := by sorry
theorem CPp.vb {r cn cu : Nat} {x : JVt r} {Z u : TS} (h : CPp r x cn cu Z u) (hr : r ≤ 32) (hw : wfV r x) : VB cn cu Z u (nI Z.ct) (some ⟨r, x⟩) := by sorry
theorem VE.any {cap aa a2 : Nat} {Z u : TS} {res : Int32} {o : VOp} (h : VE cap a2 Z u res o) (h1 : a2 ≤ aa) : VE cap aa Z u res o := by sorry
/-- work alone: how much has come, or that it is too much -/
def WKr (w dn d2 : Nat) (m2 : Int32) : Prop := (m2 = 0 → d2 = dn + w) ∧ (¬ m2 = 0 → 10000 < dn + w)
theorem WKr.rf {dn : Nat} : WKr 0 dn dn 0 := by sorry
theorem WKr.pu {T : TS} {w tp dn d2 : Nat} {m2 : Int32} {l2 : Nat → Int32} (h : WKr w dn d2 m2) : PUr T ([], w) tp dn tp d2 m2 l2 := by sorry
theorem PUr.wk2 {T : TS} {R : List NT × Nat} {tp dn t2 d2 : Nat} {m2 : Int32} {l2 : Nat → Int32} (h : PUr T R tp dn t2 d2 m2 l2) : WKr R.2 dn d2 m2 := by sorry
theorem WKr.tr {w1 w2 dn d1 d2 : Nat} {m1 m2 : Int32} (h1 : WKr w1 dn d1 m1) (h2 : m1 = 0 → WKr w2 d1 d2 m2) (h3 : ¬ m1 = 0 → ¬ m2 = 0) : WKr (w1 + w2) dn d2 m2 := by sorry
/-- what may be compared: the value and the work -/
def CVr (m : OT) (rt nn : NT) (dn : Nat) (o : VOp) (d2 : Nat) (m2 : Int32) : Prop := WKr (m rt nn).2 dn d2 m2 ∧ (m2 = 0 → o = (m rt nn).1)
theorem oneV_no {l : List NT} (h : ¬ l.length = 1) : oneV l = none := by sorry
/-- the one node that stands there -/
theorem one_nd {T : TS} {R : List NT × Nat} {tp dn t6 d6 : Nat} {tm m6 : Int32} {l6 : Nat → Int32} (hE : LI T l6 t6) (ht : t6 = tp + 1) (hP : tm = 0 → PUr T R tp dn t6 d6 m6 l6) : ∃ (b : Nat) (u : VU), l6 tp = nI b ∧ b < T.ct ∧ u.1 ≤ 32 ∧ DVl T b u ∧ (tm = 0 → m6 = 0 → oneV R.1 = some u) := by sorry
theorem CVr.only {T : TS} {g : QT} {rt nn : NT} {tp dn t6 d6 : Nat} {m6 : Int32} {l6 : Nat → Int32} {o : VOp} (hP : PUr T (g rt nn) tp dn t6 d6 m6 l6) (h : m6 = 0 → oneV (g rt nn).1 = o) : CVr (onlO g) rt nn dn o d6 m6 := by sorry
theorem CVr.cnt {T : TS} {g : QT} {rt nn : NT} {tp dn t6 d6 d9 : Nat} {m6 : Int32} {l6 : Nat → Int32} (hP : PUr T (g rt nn) tp dn t6 d6 m6 l6) (h : t6 = tp + d9) : CVr (cntO g) rt nn dn (some (numU d9)) d6 m6 := by sorry
abbrev b_Mo_comparableValue : ByteArray := prog_14_method_59_code
def y_Mo_comparableValue : MethodName := ⟨"QueryBenchModel", "comparableValue", "(II)I"⟩
abbrev k_Mo_comparableValue : Cond := .code y_Mo_comparableValue b_Mo_comparableValue 6 (some .int)
theorem i_Mo_comparableValue : k_Mo_comparableValue ∈ gtbl := by sorry
theorem d_Mo_comparableValue_0 : decode b_Mo_comparableValue 0 = .ok (.aload_n 0, 1) := by sorry
theorem d_Mo_comparableValue_1 : decode b_Mo_comparableValue 1 = .ok (.iload_n 1, 1) := by sorry
theorem d_Mo_comparableValue_2 : decode b_Mo_comparableValue 2 = .ok (.iconst 0, 1) := by sorry
theorem d_Mo_comparableValue_3 : decode b_Mo_comparableValue 3 = .ok (.invokevirtual 286, 3) := by sorry
theorem d_Mo_comparableValue_6 : decode b_Mo_comparableValue 6 = .ok (.tableswitch 183 40 46 #[42, 70, 140, 149, 158, 183, 167], 42) := by sorry
theorem d_Mo_comparableValue_48 : decode b_Mo_comparableValue 48 = .ok (.aload_n 0, 1) := by sorry
theorem d_Mo_comparableValue_49 : decode b_Mo_comparableValue 49 = .ok (.getfield 62, 3) := by sorry
theorem d_Mo_comparableValue_52 : decode b_Mo_comparableValue 52 = .ok (.iconst 3, 1) := by sorry
theorem d_Mo_comparableValue_53 : decode b_Mo_comparableValue 53 = .ok (.invokevirtual 197, 3) := by sorry
theorem d_Mo_comparableValue_56 : decode b_Mo_comparableValue 56 = .ok (.istore_n 3, 1) := by sorry
theorem d_Mo_comparableValue_57 : decode b_Mo_comparableValue 57 = .ok (.aload_n 0, 1) := by sorry
theorem d_Mo_comparableValue_58 : decode b_Mo_comparableValue 58 = .ok (.getfield 62, 3) := by sorry
theorem d_Mo_comparableValue_61 : decode b_Mo_comparableValue 61 = .ok (.getfield 68, 3) := by sorry
theorem d_Mo_comparableValue_64 : decode b_Mo_comparableValue 64 = .ok (.iload_n 3, 1) := by sorry
theorem d_Mo_comparableValue_65 : decode b_Mo_comparableValue 65 = .ok (.aload_n 0, 1) := by sorry
theorem d_Mo_comparableValue_66 : decode b_Mo_comparableValue 66 = .ok (.getfield 52, 3) := by sorry
theorem d_Mo_comparableValue_69 : decode b_Mo_comparableValue 69 = .ok (.iconst 3, 1) := by sorry
theorem d_Mo_comparableValue_70 : decode b_Mo_comparableValue 70 = .ok (.iload_n 1, 1) := by sorry
theorem d_Mo_comparableValue_71 : decode b_Mo_comparableValue 71 = .ok (.imul, 1) := by sorry
theorem d_Mo_comparableValue_72 : decode b_Mo_comparableValue 72 = .ok (.laload, 1) := by sorry
theorem d_Mo_comparableValue_73 : decode b_Mo_comparableValue 73 = .ok (.lastore, 1) := by sorry
theorem d_Mo_comparableValue_74 : decode b_Mo_comparableValue 74 = .ok (.iload_n 3, 1) := by sorry
theorem d_Mo_comparableValue_75 : decode b_Mo_comparableValue 75 = .ok (.ireturn, 1) := by sorry
theorem d_Mo_comparableValue_76 : decode b_Mo_comparableValue 76 = .ok (.aload_n 0, 1) := by sorry
theorem d_Mo_comparableValue_77 : decode b_Mo_comparableValue 77 = .ok (.getfield 62, 3) := by sorry
theorem d_Mo_comparableValue_80 : decode b_Mo_comparableValue 80 = .ok (.iconst 4, 1) := by sorry
theorem d_Mo_comparableValue_81 : decode b_Mo_comparableValue 81 = .ok (.invokevirtual 197, 3) := by sorry
theorem d_Mo_comparableValue_84 : decode b_Mo_comparableValue 84 = .ok (.istore_n 3, 1) := by sorry
theorem d_Mo_comparableValue_85 : decode b_Mo_comparableValue 85 = .ok (.iconst 0, 1) := by sorry
theorem d_Mo_comparableValue_86 : decode b_Mo_comparableValue 86 = .ok (.istore 4, 2) := by sorry
theorem d_Mo_comparableValue_88 : decode b_Mo_comparableValue 88 = .ok (.iload 4, 2) := by sorry
theorem d_Mo_comparableValue_90 : decode b_Mo_comparableValue 90 = .ok (.aload_n 0, 1) := by sorry
theorem d_Mo_comparableValue_91 : decode b_Mo_comparableValue 91 = .ok (.iload_n 1, 1) := by sorry
theorem d_Mo_comparableValue_92 : decode b_Mo_comparableValue 92 = .ok (.iconst 3, 1) := by sorry
theorem d_Mo_comparableValue_93 : decode b_Mo_comparableValue 93 = .ok (.invokevirtual 286, 3) := by sorry
theorem d_Mo_comparableValue_96 : decode b_Mo_comparableValue 96 = .ok (.if_icmp .ge 33, 3) := by sorry
theorem d_Mo_comparableValue_99 : decode b_Mo_comparableValue 99 = .ok (.aload_n 0, 1) := by sorry
theorem d_Mo_comparableValue_100 : decode b_Mo_comparableValue 100 = .ok (.getfield 62, 3) := by sorry
theorem d_Mo_comparableValue_103 : decode b_Mo_comparableValue 103 = .ok (.aload_n 0, 1) := by sorry
theorem d_Mo_comparableValue_104 : decode b_Mo_comparableValue 104 = .ok (.getfield 56, 3) := by sorry
theorem d_Mo_comparableValue_107 : decode b_Mo_comparableValue 107 = .ok (.getfield 107, 3) := by sorry
theorem d_Mo_comparableValue_110 : decode b_Mo_comparableValue 110 = .ok (.aload_n 0, 1) := by sorry
theorem d_Mo_comparableValue_111 : decode b_Mo_comparableValue 111 = .ok (.iload_n 1, 1) := by sorry
theorem d_Mo_comparableValue_112 : decode b_Mo_comparableValue 112 = .ok (.iconst 2, 1) := by sorry
theorem d_Mo_comparableValue_113 : decode b_Mo_comparableValue 113 = .ok (.invokevirtual 286, 3) := by sorry
theorem d_Mo_comparableValue_116 : decode b_Mo_comparableValue 116 = .ok (.iload 4, 2) := by sorry
theorem d_Mo_comparableValue_118 : decode b_Mo_comparableValue 118 = .ok (.iadd, 1) := by sorry
theorem d_Mo_comparableValue_119 : decode b_Mo_comparableValue 119 = .ok (.caload, 1) := by sorry
theorem d_Mo_comparableValue_120 : decode b_Mo_comparableValue 120 = .ok (.invokevirtual 177, 3) := by sorry
theorem d_Mo_comparableValue_123 : decode b_Mo_comparableValue 123 = .ok (.iinc 4 1, 3) := by sorry
theorem d_Mo_comparableValue_126 : decode b_Mo_comparableValue 126 = .ok (.goto (-38), 3) := by sorry
theorem d_Mo_comparableValue_129 : decode b_Mo_comparableValue 129 = .ok (.aload_n 0, 1) := by sorry
theorem d_Mo_comparableValue_130 : decode b_Mo_comparableValue 130 = .ok (.getfield 62, 3) := by sorry
theorem d_Mo_comparableValue_133 : decode b_Mo_comparableValue 133 = .ok (.getfield 106, 3) := by sorry
theorem d_Mo_comparableValue_136 : decode b_Mo_comparableValue 136 = .ok (.iload_n 3, 1) := by sorry
theorem d_Mo_comparableValue_137 : decode b_Mo_comparableValue 137 = .ok (.aload_n 0, 1) := by sorry
theorem d_Mo_comparableValue_138 : decode b_Mo_comparableValue 138 = .ok (.iload_n 1, 1) := by sorry
theorem d_Mo_comparableValue_139 : decode b_Mo_comparableValue 139 = .ok (.iconst 3, 1) := by sorry
theorem d_Mo_comparableValue_140 : decode b_Mo_comparableValue 140 = .ok (.invokevirtual 286, 3) := by sorry
theorem d_Mo_comparableValue_143 : decode b_Mo_comparableValue 143 = .ok (.iastore, 1) := by sorry
theorem d_Mo_comparableValue_144 : decode b_Mo_comparableValue 144 = .ok (.iload_n 3, 1) := by sorry
theorem d_Mo_comparableValue_145 : decode b_Mo_comparableValue 145 = .ok (.ireturn, 1) := by sorry
theorem d_Mo_comparableValue_146 : decode b_Mo_comparableValue 146 = .ok (.aload_n 0, 1) := by sorry
theorem d_Mo_comparableValue_147 : decode b_Mo_comparableValue 147 = .ok (.getfield 62, 3) := by sorry
theorem d_Mo_comparableValue_150 : decode b_Mo_comparableValue 150 = .ok (.iconst 1, 1) := by sorry
theorem d_Mo_comparableValue_151 : decode b_Mo_comparableValue 151 = .ok (.invokevirtual 197, 3) := by sorry
theorem d_Mo_comparableValue_154 : decode b_Mo_comparableValue 154 = .ok (.ireturn, 1) := by sorry
theorem d_Mo_comparableValue_155 : decode b_Mo_comparableValue 155 = .ok (.aload_n 0, 1) := by sorry
theorem d_Mo_comparableValue_156 : decode b_Mo_comparableValue 156 = .ok (.getfield 62, 3) := by sorry
theorem d_Mo_comparableValue_159 : decode b_Mo_comparableValue 159 = .ok (.iconst 2, 1) := by sorry
theorem d_Mo_comparableValue_160 : decode b_Mo_comparableValue 160 = .ok (.invokevirtual 197, 3) := by sorry
theorem d_Mo_comparableValue_163 : decode b_Mo_comparableValue 163 = .ok (.ireturn, 1) := by sorry
theorem d_Mo_comparableValue_164 : decode b_Mo_comparableValue 164 = .ok (.aload_n 0, 1) := by sorry
theorem d_Mo_comparableValue_165 : decode b_Mo_comparableValue 165 = .ok (.getfield 62, 3) := by sorry
theorem d_Mo_comparableValue_168 : decode b_Mo_comparableValue 168 = .ok (.iconst 0, 1) := by sorry
theorem d_Mo_comparableValue_169 : decode b_Mo_comparableValue 169 = .ok (.invokevirtual 197, 3) := by sorry
theorem d_Mo_comparableValue_172 : decode b_Mo_comparableValue 172 = .ok (.ireturn, 1) := by sorry
theorem d_Mo_comparableValue_173 : decode b_Mo_comparableValue 173 = .ok (.aload_n 0, 1) := by sorry
theorem d_Mo_comparableValue_174 : decode b_Mo_comparableValue 174 = .ok (.aload_n 0, 1) := by sorry
theorem d_Mo_comparableValue_175 : decode b_Mo_comparableValue 175 = .ok (.aload_n 0, 1) := by sorry
theorem d_Mo_comparableValue_176 : decode b_Mo_comparableValue 176 = .ok (.iload_n 1, 1) := by sorry
theorem d_Mo_comparableValue_177 : decode b_Mo_comparableValue 177 = .ok (.iconst 2, 1) := by sorry
theorem d_Mo_comparableValue_178 : decode b_Mo_comparableValue 178 = .ok (.invokevirtual 286, 3) := by sorry
theorem d_Mo_comparableValue_181 : decode b_Mo_comparableValue 181 = .ok (.iload_n 2, 1) := by sorry
theorem d_Mo_comparableValue_182 : decode b_Mo_comparableValue 182 = .ok (.invokevirtual 384, 3) := by sorry
theorem d_Mo_comparableValue_185 : decode b_Mo_comparableValue 185 = .ok (.invokevirtual 387, 3) := by sorry
theorem d_Mo_comparableValue_188 : decode b_Mo_comparableValue 188 = .ok (.ireturn, 1) := by sorry
theorem d_Mo_comparableValue_189 : decode b_Mo_comparableValue 189 = .ok (.aload_n 0, 1) := by sorry
theorem d_Mo_comparableValue_190 : decode b_Mo_comparableValue 190 = .ok (.aload_n 0, 1) := by sorry
theorem d_Mo_comparableValue_191 : decode b_Mo_comparableValue 191 = .ok (.iload_n 1, 1) := by sorry
theorem d_Mo_comparableValue_192 : decode b_Mo_comparableValue 192 = .ok (.iconst 2, 1) := by sorry
theorem d_Mo_comparableValue_193 : decode b_Mo_comparableValue 193 = .ok (.invokevirtual 286, 3) := by sorry
theorem d_Mo_comparableValue_196 : decode b_Mo_comparableValue 196 = .ok (.iload_n 2, 1) := by sorry
theorem d_Mo_comparableValue_197 : decode b_Mo_comparableValue 197 = .ok (.invokevirtual 378, 3) := by sorry
theorem d_Mo_comparableValue_200 : decode b_Mo_comparableValue 200 = .ok (.istore 4, 2) := by sorry
theorem d_Mo_comparableValue_202 : decode b_Mo_comparableValue 202 = .ok (.aload_n 0, 1) := by sorry
theorem d_Mo_comparableValue_203 : decode b_Mo_comparableValue 203 = .ok (.getfield 351, 3) := by sorry
theorem d_Mo_comparableValue_206 : decode b_Mo_comparableValue 206 = .ok (.iload 4, 2) := by sorry
theorem d_Mo_comparableValue_208 : decode b_Mo_comparableValue 208 = .ok (.isub, 1) := by sorry
theorem d_Mo_comparableValue_209 : decode b_Mo_comparableValue 209 = .ok (.istore 5, 2) := by sorry
theorem d_Mo_comparableValue_211 : decode b_Mo_comparableValue 211 = .ok (.aload_n 0, 1) := by sorry
theorem d_Mo_comparableValue_212 : decode b_Mo_comparableValue 212 = .ok (.iload 4, 2) := by sorry
theorem d_Mo_comparableValue_214 : decode b_Mo_comparableValue 214 = .ok (.putfield 351, 3) := by sorry
theorem d_Mo_comparableValue_217 : decode b_Mo_comparableValue 217 = .ok (.aload_n 0, 1) := by sorry
theorem d_Mo_comparableValue_218 : decode b_Mo_comparableValue 218 = .ok (.iload_n 1, 1) := by sorry
theorem d_Mo_comparableValue_219 : decode b_Mo_comparableValue 219 = .ok (.iconst 0, 1) := by sorry
theorem d_Mo_comparableValue_220 : decode b_Mo_comparableValue 220 = .ok (.invokevirtual 286, 3) := by sorry
theorem d_Mo_comparableValue_223 : decode b_Mo_comparableValue 223 = .ok (.bipush 47, 2) := by sorry
theorem d_Mo_comparableValue_225 : decode b_Mo_comparableValue 225 = .ok (.if_icmp .ne 26, 3) := by sorry
theorem d_Mo_comparableValue_228 : decode b_Mo_comparableValue 228 = .ok (.aload_n 0, 1) := by sorry
theorem d_Mo_comparableValue_229 : decode b_Mo_comparableValue 229 = .ok (.getfield 62, 3) := by sorry
theorem d_Mo_comparableValue_232 : decode b_Mo_comparableValue 232 = .ok (.iconst 3, 1) := by sorry
theorem d_Mo_comparableValue_233 : decode b_Mo_comparableValue 233 = .ok (.invokevirtual 197, 3) := by sorry
theorem d_Mo_comparableValue_236 : decode b_Mo_comparableValue 236 = .ok (.istore_n 3, 1) := by sorry
theorem d_Mo_comparableValue_237 : decode b_Mo_comparableValue 237 = .ok (.aload_n 0, 1) := by sorry
theorem d_Mo_comparableValue_238 : decode b_Mo_comparableValue 238 = .ok (.getfield 62, 3) := by sorry
theorem d_Mo_comparableValue_241 : decode b_Mo_comparableValue 241 = .ok (.getfield 68, 3) := by sorry
theorem d_Mo_comparableValue_244 : decode b_Mo_comparableValue 244 = .ok (.iload_n 3, 1) := by sorry
theorem d_Mo_comparableValue_245 : decode b_Mo_comparableValue 245 = .ok (.iload 5, 2) := by sorry
theorem d_Mo_comparableValue_247 : decode b_Mo_comparableValue 247 = .ok (.i2l, 1) := by sorry
theorem d_Mo_comparableValue_248 : decode b_Mo_comparableValue 248 = .ok (.lastore, 1) := by sorry
theorem d_Mo_comparableValue_249 : decode b_Mo_comparableValue 249 = .ok (.iload_n 3, 1) := by sorry
theorem d_Mo_comparableValue_250 : decode b_Mo_comparableValue 250 = .ok (.ireturn, 1) := by sorry
theorem d_Mo_comparableValue_251 : decode b_Mo_comparableValue 251 = .ok (.iload 5, 2) := by sorry
theorem d_Mo_comparableValue_253 : decode b_Mo_comparableValue 253 = .ok (.iconst 1, 1) := by sorry
theorem d_Mo_comparableValue_254 : decode b_Mo_comparableValue 254 = .ok (.if_icmp .ne 24, 3) := by sorry
theorem d_Mo_comparableValue_257 : decode b_Mo_comparableValue 257 = .ok (.aload_n 0, 1) := by sorry
theorem d_Mo_comparableValue_258 : decode b_Mo_comparableValue 258 = .ok (.getfield 62, 3) := by sorry
theorem d_Mo_comparableValue_261 : decode b_Mo_comparableValue 261 = .ok (.aload_n 0, 1) := by sorry
theorem d_Mo_comparableValue_262 : decode b_Mo_comparableValue 262 = .ok (.getfield 45, 3) := by sorry
theorem d_Mo_comparableValue_265 : decode b_Mo_comparableValue 265 = .ok (.aload_n 0, 1) := by sorry
theorem d_Mo_comparableValue_266 : decode b_Mo_comparableValue 266 = .ok (.getfield 59, 3) := by sorry
theorem d_Mo_comparableValue_269 : decode b_Mo_comparableValue 269 = .ok (.iload 4, 2) := by sorry
theorem d_Mo_comparableValue_271 : decode b_Mo_comparableValue 271 = .ok (.iaload, 1) := by sorry
theorem d_Mo_comparableValue_272 : decode b_Mo_comparableValue 272 = .ok (.invokevirtual 390, 3) := by sorry
theorem d_Mo_comparableValue_275 : decode b_Mo_comparableValue 275 = .ok (.goto 4, 3) := by sorry
theorem d_Mo_comparableValue_278 : decode b_Mo_comparableValue 278 = .ok (.iconst (-1), 1) := by sorry
theorem d_Mo_comparableValue_279 : decode b_Mo_comparableValue 279 = .ok (.ireturn, 1) := by sorry
/-- what comparableValue does -/
def CVC (C : QP OT) (cb cap aa F L : Nat) : Prop := ∀ (l : Launch) (dC : Nat → ClassId) (dI : Nat → Nat → Nat) (mo : Nat) (sz : Heap) (v : Nat → Value) (cI cL cC : ClassId) (ql t tv tw9 : Nat) (Q : QS) (V T Z : TS) (tp dn : Nat) (tm : Int32) (li : Nat → Int32) (rt : NT) (lo hi x9 nd : Nat) (nn : NT) (m : OT), QOK Q → TOK V → TOK T → TOK Z → T.ct ≤ 4096 ∧ V.us ≤ 4096 → EI T tp dn tm li → dn ≤ 20000 → NDn T 0 rt → v 18 = .ref t → v 19 = .ref Q.qq → v 20 = .ref Q.qe → v 22 = .ref tv → v 24 = .ref ql → v 28 = .int (nI 0) → v 29 = .ref tw9 → Z.ct + cap ≤ 300000 → Z.us + cap ≤ 300000 → C Q V lo hi x9 m → hi ≤ Q.R → NDn T nd nn → Met l y_Mo_comparableValue (k_Mo_comparableValue :: gtbl) ({ frames := F, cells := ncap Z (Z.ct + cap) + qcap Z (Z.us + cap), slots := 20 * ncap Z (Z.ct + cap) + 2 * qcap Z (Z.us + cap), locals := L }) (va_Pc [.ref mo, .int (nI x9), .int (nI nd)] (mp dC dI [(mo, .inr (13, MF 30 (es v tp dn tm))), (Q.qq, .inl (cI, (8 * Q.C), .inl Q.qf)), (Q.qe, .inl (cL, (3 * Q.C), .inr (.inl Q.ef))), (t, .inr (12, MF 13 (tw T))), (T.a0, .inl (cI, T.N, .inl T.kd)), (T.a1, .inl (cL, T.N, .inr (.inl T.nu))), (T.a2, .inl (cI, T.N, .inl T.st)), (T.a3, .inl (cI, T.N, .inl T.ln)), (T.a4, .inl (cI, T.N, .inl T.ki)), (T.a5, .inl (cI, T.N, .inl T.nx)), (T.a6, .inl (cI, T.N, .inl T.ns)), (T.a7, .inl (cI, T.N, .inl T.nl)), (T.a8, .inl (cI, T.N, .inl T.pa)), (T.a9, .inl (cI, T.N, .inl T.pl)), (T.au, .inl (cC, T.U, .inl T.un)), (tv, .inr (12, MF 13 (tw V))), (V.au, .inl (cC, V.U, .inl V.un)), (ql, .inl (cI, 20100, .inl li)), (tw9, .inr (12, MF 13 (tw Z))), (Z.a0, .inl (cI, Z.N, .inl Z.kd)), (Z.a1, .inl (cL, Z.N, .inr (.inl Z.nu))), (Z.a2, .inl (cI, Z.N, .inl Z.st)), (Z.a3, .inl (cI, Z.N, .inl Z.ln)), (Z.a4, .inl (cI, Z.N, .inl Z.ki)), (Z.a5, .inl (cI, Z.N, .inl Z.nx)), (Z.a6, .inl (cI, Z.N, .inl Z.ns)), (Z.a7, .inl (cI, Z.N, .inl Z.nl)), (Z.a8, .inl (cI, Z.N, .inl Z.pa)), (Z.a9, .inl (cI, Z.N, .inl Z.pl)), (Z.au, .inl (cC, Z.U, .inl Z.un))] [(cI, .int), (cL, .long), (cC, .char)] sz)) (va_Qi (fun (res : Int32) (u : EU) => ∃ o : VOp, EVv T Z cap aa cb tp dn tm li res u o ∧ (tm = 0 → CVr m rt nn dn o u.2.1 u.2.2.1)) (fun u t9 => mz dC dI [(mo, .inr (13, MF 30 (es v u.1 u.2.1 u.2.2.1))), (Q.qq, .inl (cI, (8 * Q.C), .inl Q.qf)), (Q.qe, .inl (cL, (3 * Q.C), .inr (.inl Q.ef))), (t, .inr (12, MF 13 (tw T))), (T.a0, .inl (cI, T.N, .inl T.kd)), (T.a1, .inl (cL, T.N, .inr (.inl T.nu))), (T.a2, .inl (cI, T.N, .inl T.st)), (T.a3, .inl (cI, T.N, .inl T.ln)), (T.a4, .inl (cI, T.N, .inl T.ki)), (T.a5, .inl (cI, T.N, .inl T.nx)), (T.a6, .inl (cI, T.N, .inl T.ns)), (T.a7, .inl (cI, T.N, .inl T.nl)), (T.a8, .inl (cI, T.N, .inl T.pa)), (T.a9, .inl (cI, T.N, .inl T.pl)), (T.au, .inl (cC, T.U, .inl T.un)), (tv, .inr (12, MF 13 (tw V))), (V.au, .inl (cC, V.U, .inl V.un)), (ql, .inl (cI, 20100, .inl u.2.2.2.1)), (tw9, .inr (12, MF 13 (tw u.2.2.2.2))), (u.2.2.2.2.a0, .inl (cI, u.2.2.2.2.N, .inl u.2.2.2.2.kd)), (u.2.2.2.2.a1, .inl (cL, u.2.2.2.2.N, .inr (.inl u.2.2.2.2.nu))), (u.2.2.2.2.a2, .inl (cI, u.2.2.2.2.N, .inl u.2.2.2.2.st)), (u.2.2.2.2.a3, .inl (cI, u.2.2.2.2.N, .inl u.2.2.2.2.ln)), (u.2.2.2.2.a4, .inl (cI, u.2.2.2.2.N, .inl u.2.2.2.2.ki)), (u.2.2.2.2.a5, .inl (cI, u.2.2.2.2.N, .inl u.2.2.2.2.nx)), (u.2.2.2.2.a6, .inl (cI, u.2.2.2.2.N, .inl u.2.2.2.2.ns)), (u.2.2.2.2.a7, .inl (cI, u.2.2.2.2.N, .inl u.2.2.2.2.nl)), (u.2.2.2.2.a8, .inl (cI, u.2.2.2.2.N, .inl u.2.2.2.2.pa)), (u.2.2.2.2.a9, .inl (cI, u.2.2.2.2.N, .inl u.2.2.2.2.pl)), (u.2.2.2.2.au, .inl (cC, u.2.2.2.2.U, .inl u.2.2.2.2.un))] [(cI, .int), (cL, .long), (cC, .char)] (va_A [(mo, .inr (13, MF 30 (es v tp dn tm))), (Q.qq, .inl (cI, (8 * Q.C), .inl Q.qf)), (Q.qe, .inl (cL, (3 * Q.C), .inr (.inl Q.ef))), (t, .inr (12, MF 13 (tw T))), (T.a0, .inl (cI, T.N, .inl T.kd)), (T.a1, .inl (cL, T.N, .inr (.inl T.nu))), (T.a2, .inl (cI, T.N, .inl T.st)), (T.a3, .inl (cI, T.N, .inl T.ln)), (T.a4, .inl (cI, T.N, .inl T.ki)), (T.a5, .inl (cI, T.N, .inl T.nx)), (T.a6, .inl (cI, T.N, .inl T.ns)), (T.a7, .inl (cI, T.N, .inl T.nl)), (T.a8, .inl (cI, T.N, .inl T.pa)), (T.a9, .inl (cI, T.N, .inl T.pl)), (T.au, .inl (cC, T.U, .inl T.un)), (tv, .inr (12, MF 13 (tw V))), (V.au, .inl (cC, V.U, .inl V.un)), (ql, .inl (cI, 20100, .inl li)), (tw9, .inr (12, MF 13 (tw Z))), (Z.a0, .inl (cI, Z.N, .inl Z.kd)), (Z.a1, .inl (cL, Z.N, .inr (.inl Z.nu))), (Z.a2, .inl (cI, Z.N, .inl Z.st)), (Z.a3, .inl (cI, Z.N, .inl Z.ln)), (Z.a4, .inl (cI, Z.N, .inl Z.ki)), (Z.a5, .inl (cI, Z.N, .inl Z.nx)), (Z.a6, .inl (cI, Z.N, .inl Z.ns)), (Z.a7, .inl (cI, Z.N, .inl Z.nl)), (Z.a8, .inl (cI, Z.N, .inl Z.pa)), (Z.a9, .inl (cI, Z.N, .inl Z.pl)), (Z.au, .inl (cC, Z.U, .inl Z.un))] sz.size) t9 ∧ szk sz t9.heap (cE Z u.2.2.2.2) (sE Z u.2.2.2.2)) (va_A [(mo, .inr (13, MF 30 (es v tp dn tm))), (Q.qq, .inl (cI, (8 * Q.C), .inl Q.qf)), (Q.qe, .inl (cL, (3 * Q.C), .inr (.inl Q.ef))), (t, .inr (12, MF 13 (tw T))), (T.a0, .inl (cI, T.N, .inl T.kd)), (T.a1, .inl (cL, T.N, .inr (.inl T.nu))), (T.a2, .inl (cI, T.N, .inl T.st)), (T.a3, .inl (cI, T.N, .inl T.ln)), (T.a4, .inl (cI, T.N, .inl T.ki)), (T.a5, .inl (cI, T.N, .inl T.nx)), (T.a6, .inl (cI, T.N, .inl T.ns)), (T.a7, .inl (cI, T.N, .inl T.nl)), (T.a8, .inl (cI, T.N, .inl T.pa)), (T.a9, .inl (cI, T.N, .inl T.pl)), (T.au, .inl (cC, T.U, .inl T.un)), (tv, .inr (12, MF 13 (tw V))), (V.au, .inl (cC, V.U, .inl V.un)), (ql, .inl (cI, 20100, .inl li)), (tw9, .inr (12, MF 13 (tw Z))), (Z.a0, .inl (cI, Z.N, .inl Z.kd)), (Z.a1, .inl (cL, Z.N, .inr (.inl Z.nu))), (Z.a2, .inl (cI, Z.N, .inl Z.st)), (Z.a3, .inl (cI, Z.N, .inl Z.ln)), (Z.a4, .inl (cI, Z.N, .inl Z.ki)), (Z.a5, .inl (cI, Z.N, .inl Z.nx)), (Z.a6, .inl (cI, Z.N, .inl Z.ns)), (Z.a7, .inl (cI, Z.N, .inl Z.nl)), (Z.a8, .inl (cI, Z.N, .inl Z.pa)), (Z.a9, .inl (cI, Z.N, .inl Z.pl)), (Z.au, .inl (cC, Z.U, .inl Z.un))] sz.size)) (ncap Z (Z.ct + cap) + qcap Z (Z.us + cap)) (20 * ncap Z (Z.ct + cap) + 2 * qcap Z (Z.us + cap)) (va_A [(mo, .inr (13, MF 30 (es v tp dn tm))), (Q.qq, .inl (cI, (8 * Q.C), .inl Q.qf)), (Q.qe, .inl (cL, (3 * Q.C), .inr (.inl Q.ef))), (t, .inr (12, MF 13 (tw T))), (T.a0, .inl (cI, T.N, .inl T.kd)), (T.a1, .inl (cL, T.N, .inr (.inl T.nu))), (T.a2, .inl (cI, T.N, .inl T.st)), (T.a3, .inl (cI, T.N, .inl T.ln)), (T.a4, .inl (cI, T.N, .inl T.ki)), (T.a5, .inl (cI, T.N, .inl T.nx)), (T.a6, .inl (cI, T.N, .inl T.ns)), (T.a7, .inl (cI, T.N, .inl T.nl)), (T.a8, .inl (cI, T.N, .inl T.pa)), (T.a9, .inl (cI, T.N, .inl T.pl)), (T.au, .inl (cC, T.U, .inl T.un)), (tv, .inr (12, MF 13 (tw V))), (V.au, .inl (cC, V.U, .inl V.un)), (ql, .inl (cI, 20100, .inl li)), (tw9, .inr (12, MF 13 (tw Z))), (Z.a0, .inl (cI, Z.N, .inl Z.kd)), (Z.a1, .inl (cL, Z.N, .inr (.inl Z.nu))), (Z.a2, .inl (cI, Z.N, .inl Z.st)), (Z.a3, .inl (cI, Z.N, .inl Z.ln)), (Z.a4, .inl (cI, Z.N, .inl Z.ki)), (Z.a5, .inl (cI, Z.N, .inl Z.nx)), (Z.a6, .inl (cI, Z.N, .inl Z.ns)), (Z.a7, .inl (cI, Z.N, .inl Z.nl)), (Z.a8, .inl (cI, Z.N, .inl Z.pa)), (Z.a9, .inl (cI, Z.N, .inl Z.pl)), (Z.au, .inl (cC, Z.U, .inl Z.un))] sz.size)
set_option maxHeartbeats 4000000 in
set_option maxRecDepth 100000 in
/-- the reference: comparableValue -/
theorem c_cv (O : QP CT) (C : QP OT) (Y : QP QT) (cb cap aa cb2 cap2 a2 G M : Nat) (hc4 : 4096 ≤ cb) (hc5 : cb ≤ 8000) (hb2 : cb2 ≤ cb) (hp2 : cap2 ≤ cap) (ha2 : a2 + 1 ≤ aa) (ha4 : 4097 ≤ aa) (hac : aa ≤ cap) (hHO : HOC O cb cap (45 + G) (2400 + M)) (hCV : CVC C cb2 cap2 a2 (39 + G) (2100 + M)) (hAK : AKC Y cb2 cap2 (38 + G) (1480 + M)) : CVC (CMPf O C Y) cb cap aa (39 + (45 + G)) (2100 + (2400 + M)) := by sorry
end
section
theorem w_1054 : (.fieldLink "QueryBenchModel" 393 "QueryBenchModel$Tree" "count" "I" : Cond) ∈ gtbl := by sorry
theorem w_1561 : (.methodLink "QueryBenchModel" 395 ⟨"QueryBenchModel", "below", "(II)Z"⟩ : Cond) ∈ gtbl := by sorry
theorem w_1563 : (.instanceMethod ⟨"QueryBenchModel", "below", "(II)Z"⟩ : Cond) ∈ gtbl := by sorry
def TS.bk (T : TS) (c u : Nat) : TS := (TS.mk T.N T.U c u T.a0 T.a1 T.a2 T.a3 T.a4 T.a5 T.a6 T.a7 T.a8 T.a9 T.au T.kd T.st T.ln T.ki T.nx T.ns T.nl T.pa T.pl T.un T.nu)
theorem VE.back {cap aa : Nat} {Z u : TS} {res : Int32} {o : VOp} (h : VE cap aa Z u res o) : WV cap Z (u.bk Z.ct Z.us) := by sorry
theorem EVo.stop {T Z : TS} {cap c2 cb tp dn : Nat} {tm : Int32} {li : Nat → Int32} {u u2 : EU} (h : EVo T Z cap cb tp dn tm li u) (h0 : ¬ u.2.2.1 = 0) (g : EVo T u.2.2.2.2 c2 cb u.1 u.2.1 u.2.2.1 u.2.2.2.1 u2) (hd : u2.2.1 = u.2.1) (hc : c2 ≤ cap) : EVo T Z cap cb tp dn tm li u2 := by sorry
theorem EVo.grow {T Z : TS} {cap c2 cb cb2 tp dn : Nat} {tm : Int32} {li : Nat → Int32} {u : EU} (h : EVo T Z c2 cb2 tp dn tm li u) (hc : c2 ≤ cap) (hb : cb2 ≤ cb) : EVo T Z cap cb tp dn tm li u := by sorry
theorem nI_le9 {a b : Nat} (ha : a < 2 ^ 31) (hb : b < 2 ^ 31) : nI a ≤ nI b ↔ a ≤ b := by sorry
/-- whether two values are the same, where one is none -/
theorem smO_n {T : TS} {a b : Int32} {oa ob : VOp} (hA : VY T a oa) (hB : VY T b ob) (hT : T.ct < 2 ^ 31) (h : a < 0 ∨ b < 0) : bI (sameO oa ob) = if a = b then 1 else 0 := by sorry
theorem VY.posU {T : TS} {vv : Int32} {o : VOp} (h : VY T vv o) (hp : ¬ vv < 0) : ∃ a u, vv = nI a ∧ o = some u ∧ u.1 ≤ 32 ∧ VX T a u := by sorry
theorem bI_n1 {b : Bool} {y : Int32} (h : y = bI b) (e : ¬ y = 1) : (0 : Int32) = bI b := by sorry
theorem bI_m0 {b : Bool} {y : Int32} (h : y = bI b) (e : y = 0) : (1 : Int32) = bI (!b) := by sorry
theorem bI_m1 {b : Bool} {y : Int32} (h : y = bI b) (e : ¬ y = 0) : (0 : Int32) = bI (!b) := by sorry
theorem bI_one {b : Bool} {y : Int32} (h : y = bI b) (e : ¬ y = 0) : (1 : Int32) = y := by sorry
theorem op_0 {op : Nat} (h : op ≤ 5) : nI op = 0 ↔ op = 0 := by sorry
theorem op_le {op : Nat} (h : op ≤ 5) : nI op ≤ 1 ↔ op ≤ 1 := by sorry
theorem op_ge {op : Nat} (h : op ≤ 5) : 4 ≤ nI op ↔ 4 ≤ op := by sorry
theorem op_and {op : Nat} (h2 : 2 ≤ op) (h5 : op ≤ 5) : nI op &&& 1 = 1 ↔ op % 2 = 1 := by sorry
theorem cmpO_01 {op : Nat} {a b : VOp} (h : op ≤ 1) : cmpO op a b = if op = 0 then sameO a b else !(sameO a b) := by sorry
theorem cmpO_25 {op : Nat} {a b : VOp} (h2 : 2 ≤ op) (h5 : op ≤ 5) : cmpO op a b = ((if op < 4 then lessO a b else lessO b a) || (decide (op % 2 = 1) && sameO a b)) := by sorry
section
variable {op : Nat} {a b : VOp} {r : Int32}
theorem cmp_y1 (h2 : 2 ≤ op) (h5 : op ≤ 5) (hr : r = bI (if op < 4 then lessO a b else lessO b a)) (e : ¬ r = 0) : (1 : Int32) = bI (cmpO op a b) := by sorry
theorem cmp_y2 (h2 : 2 ≤ op) (h5 : op ≤ 5) (hr : r = bI (if op < 4 then lessO a b else lessO b a)) (e : r = 0) (h1 : ¬ nI op &&& 1 = 1) : (0 : Int32) = bI (cmpO op a b) := by sorry
theorem cmp_y3 (h2 : 2 ≤ op) (h5 : op ≤ 5) (hr : r = bI (if op < 4 then lessO a b else lessO b a)) (e : r = 0) (h1 : nI op &&& 1 = 1) {y : Int32} (hy : y = bI (sameO a b)) : y = bI (cmpO op a b) := by sorry
end
theorem HLr.of {T : TS} {g : CT} {rt nn : NT} {tp dn : Nat} {res : Int32} {u : EU} (h1 : u.1 = tp) (h : WKr (g rt nn).2 dn u.2.1 u.2.2.1) (h2 : u.2.2.1 = 0 → res = bI (g rt nn).1) : HLr T g rt nn tp dn res u := by sorry
/-- conditions one after the other: m9 are still to come -/
def LC (F : List CT → CT) (l : List CT) (rt nn : NT) (m9 : List CT) (dn d2 : Nat) (m2 : Int32) : Prop := (m2 = 0 → ∃ w, d2 = dn + w ∧ (F l rt nn).1 = (F m9 rt nn).1 ∧ (F l rt nn).2 = w + (F m9 rt nn).2) ∧ (¬ m2 = 0 → 10000 < dn + (F l rt nn).2)
theorem LC.st {F : List CT → CT} {l : List CT} {rt nn : NT} {dn : Nat} : LC F l rt nn l dn dn 0 := by sorry
theorem LC.fin {F : List CT → CT} {l m9 : List CT} {rt nn : NT} {dn d2 : Nat} {m2 : Int32} (h : LC F l rt nn m9 dn d2 m2) (h0 : (F m9 rt nn).2 = 0) : WKr (F l rt nn).2 dn d2 m2 ∧ (m2 = 0 → (F l rt nn).1 = (F m9 rt nn).1) := by sorry
/-- one more has been asked: how it goes on with what F says -/
theorem LC.step {F : List CT → CT} {l m0 m1 : List CT} {g : CT} {rt nn : NT} {dn d2 d8 : Nat} {m2 m8 : Int32} (h : LC F l rt nn (g :: m0) dn d2 m2) (hw : m2 = 0 → WKr (g rt nn).2 d2 d8 m8) (hs : ¬ m2 = 0 → ¬ m8 = 0) (hle : (g rt nn).2 ≤ (F (g :: m0) rt nn).2) (hF : m8 = 0 → m2 = 0 → (F (g :: m0) rt nn).1 = (F m1 rt nn).1 ∧ (F (g :: m0) rt nn).2 = (g rt nn).2 + (F m1 rt nn).2) : LC F l rt nn m1 dn d8 m8 := by sorry
theorem allC_t {g : CT} {l : List CT} {rt nn : NT} (h : (g rt nn).1 = true) : allC (g :: l) rt nn = ((allC l rt nn).1, (g rt nn).2 + (allC l rt nn).2) := by sorry
theorem allC_f {g : CT} {l : List CT} {rt nn : NT} (h : (g rt nn).1 = false) : allC (g :: l) rt nn = (false, (g rt nn).2) := by sorry
theorem anyC_t {g : CT} {l : List CT} {rt nn : NT} (h : (g rt nn).1 = true) : anyC_ (g :: l) rt nn = (true, (g rt nn).2) := by sorry
theorem anyC_f {g : CT} {l : List CT} {rt nn : NT} (h : (g rt nn).1 = false) : anyC_ (g :: l) rt nn = ((anyC_ l rt nn).1, (g rt nn).2 + (anyC_ l rt nn).2) := by sorry
theorem allC_w {g : CT} {l : List CT} {rt nn : NT} : (g rt nn).2 ≤ (allC (g :: l) rt nn).2 := by sorry
theorem anyC_w {g : CT} {l : List CT} {rt nn : NT} : (g rt nn).2 ≤ (anyC_ (g :: l) rt nn).2 := by sorry
section
variable {l m0 : List CT} {g : CT} {rt nn : NT} {dn d2 d8 : Nat} {m2 m8 r : Int32}
/-- and: it holds, so the next is asked -/
theorem LC.and_t (hw : m2 = 0 → WKr (g rt nn).2 d2 d8 m8 ∧ (m8 = 0 → r = bI (g rt nn).1)) (hs : ¬ m2 = 0 → ¬ m8 = 0) (h : LC allC l rt nn (g :: m0) dn d2 m2) (hr : ¬ r = 0) : LC allC l rt nn m0 dn d8 m8 := by sorry
/-- and: it does not hold -/
theorem LC.and_f (hw : m2 = 0 → WKr (g rt nn).2 d2 d8 m8 ∧ (m8 = 0 → r = bI (g rt nn).1)) (hs : ¬ m2 = 0 → ¬ m8 = 0) (h : LC allC l rt nn (g :: m0) dn d2 m2) (hr : r = 0) : WKr (allC l rt nn).2 dn d8 m8 ∧ (m8 = 0 → (0 : Int32) = bI (allC l rt nn).1) := by sorry
theorem LC.or_f (hw : m2 = 0 → WKr (g rt nn).2 d2 d8 m8 ∧ (m8 = 0 → r = bI (g rt nn).1)) (hs : ¬ m2 = 0 → ¬ m8 = 0) (h : LC anyC_ l rt nn (g :: m0) dn d2 m2) (hr : r = 0) : LC anyC_ l rt nn m0 dn d8 m8 := by sorry
theorem LC.or_t (hw : m2 = 0 → WKr (g rt nn).2 d2 d8 m8 ∧ (m8 = 0 → r = bI (g rt nn).1)) (hs : ¬ m2 = 0 → ¬ m8 = 0) (h : LC anyC_ l rt nn (g :: m0) dn d2 m2) (hr : ¬ r = 0) : WKr (anyC_ l rt nn).2 dn d8 m8 ∧ (m8 = 0 → (1 : Int32) = bI (anyC_ l rt nn).1) := by sorry
end
theorem tst_1 {T : TS} {q : QT} {rt nn : NT} {tp dn t6 d6 : Nat} {m6 : Int32} {l6 : Nat → Int32} (hP : PUr T (q rt nn) tp dn t6 d6 m6 l6) (h : tp < t6) : m6 = 0 → (1 : Int32) = bI (tstC q rt nn).1 := by sorry
theorem tst_0 {T : TS} {q : QT} {rt nn : NT} {tp dn t6 d6 : Nat} {m6 : Int32} {l6 : Nat → Int32} (hP : PUr T (q rt nn) tp dn t6 d6 m6 l6) (h : t6 ≤ tp) : m6 = 0 → (0 : Int32) = bI (tstC q rt nn).1 := by sorry
theorem not_1 {g : CT} {rt nn : NT} {r : Int32} {b : Prop} (h : b → r = bI (g rt nn).1) (hr : ¬ r = 0) : b → (0 : Int32) = bI (notC g rt nn).1 := by sorry
theorem not_0 {g : CT} {rt nn : NT} {r : Int32} {b : Prop} (h : b → r = bI (g rt nn).1) (hr : r = 0) : b → (1 : Int32) = bI (notC g rt nn).1 := by sorry
abbrev b_Mo_compared : ByteArray := prog_14_method_61_code
def y_Mo_compared : MethodName := ⟨"QueryBenchModel", "compared", "(II)Z"⟩
abbrev k_Mo_compared : Cond := .code y_Mo_compared b_Mo_compared 10 (some .boolean)
theorem i_Mo_compared : k_Mo_compared ∈ gtbl := by sorry
theorem d_Mo_compared_0 : decode b_Mo_compared 0 = .ok (.aload_n 0, 1) := by sorry
theorem d_Mo_compared_1 : decode b_Mo_compared 1 = .ok (.getfield 62, 3) := by sorry
theorem d_Mo_compared_4 : decode b_Mo_compared 4 = .ok (.getfield 393, 3) := by sorry
theorem d_Mo_compared_7 : decode b_Mo_compared 7 = .ok (.istore_n 3, 1) := by sorry
theorem d_Mo_compared_8 : decode b_Mo_compared 8 = .ok (.aload_n 0, 1) := by sorry
theorem d_Mo_compared_9 : decode b_Mo_compared 9 = .ok (.getfield 62, 3) := by sorry
theorem d_Mo_compared_12 : decode b_Mo_compared 12 = .ok (.getfield 204, 3) := by sorry
theorem d_Mo_compared_15 : decode b_Mo_compared 15 = .ok (.istore 4, 2) := by sorry
theorem d_Mo_compared_17 : decode b_Mo_compared 17 = .ok (.aload_n 0, 1) := by sorry
theorem d_Mo_compared_18 : decode b_Mo_compared 18 = .ok (.aload_n 0, 1) := by sorry
theorem d_Mo_compared_19 : decode b_Mo_compared 19 = .ok (.iload_n 1, 1) := by sorry
theorem d_Mo_compared_20 : decode b_Mo_compared 20 = .ok (.iconst 2, 1) := by sorry
theorem d_Mo_compared_21 : decode b_Mo_compared 21 = .ok (.invokevirtual 286, 3) := by sorry
theorem d_Mo_compared_24 : decode b_Mo_compared 24 = .ok (.iload_n 2, 1) := by sorry
theorem d_Mo_compared_25 : decode b_Mo_compared 25 = .ok (.invokevirtual 384, 3) := by sorry
theorem d_Mo_compared_28 : decode b_Mo_compared 28 = .ok (.istore 5, 2) := by sorry
theorem d_Mo_compared_30 : decode b_Mo_compared 30 = .ok (.aload_n 0, 1) := by sorry
theorem d_Mo_compared_31 : decode b_Mo_compared 31 = .ok (.aload_n 0, 1) := by sorry
theorem d_Mo_compared_32 : decode b_Mo_compared 32 = .ok (.iload_n 1, 1) := by sorry
theorem d_Mo_compared_33 : decode b_Mo_compared 33 = .ok (.iconst 3, 1) := by sorry
theorem d_Mo_compared_34 : decode b_Mo_compared 34 = .ok (.invokevirtual 286, 3) := by sorry
theorem d_Mo_compared_37 : decode b_Mo_compared 37 = .ok (.iload_n 2, 1) := by sorry
theorem d_Mo_compared_38 : decode b_Mo_compared 38 = .ok (.invokevirtual 384, 3) := by sorry
theorem d_Mo_compared_41 : decode b_Mo_compared 41 = .ok (.istore 6, 2) := by sorry
theorem d_Mo_compared_43 : decode b_Mo_compared 43 = .ok (.aload_n 0, 1) := by sorry
theorem d_Mo_compared_44 : decode b_Mo_compared 44 = .ok (.iload_n 1, 1) := by sorry
theorem d_Mo_compared_45 : decode b_Mo_compared 45 = .ok (.iconst 4, 1) := by sorry
theorem d_Mo_compared_46 : decode b_Mo_compared 46 = .ok (.invokevirtual 286, 3) := by sorry
theorem d_Mo_compared_49 : decode b_Mo_compared 49 = .ok (.istore 7, 2) := by sorry
theorem d_Mo_compared_51 : decode b_Mo_compared 51 = .ok (.iload 5, 2) := by sorry
theorem d_Mo_compared_53 : decode b_Mo_compared 53 = .ok (.ifCond .lt 8, 3) := by sorry
theorem d_Mo_compared_56 : decode b_Mo_compared 56 = .ok (.iload 6, 2) := by sorry
theorem d_Mo_compared_58 : decode b_Mo_compared 58 = .ok (.ifCond .ge 18, 3) := by sorry
theorem d_Mo_compared_61 : decode b_Mo_compared 61 = .ok (.iload 5, 2) := by sorry
theorem d_Mo_compared_63 : decode b_Mo_compared 63 = .ok (.iload 6, 2) := by sorry
theorem d_Mo_compared_65 : decode b_Mo_compared 65 = .ok (.if_icmp .ne 7, 3) := by sorry
theorem d_Mo_compared_68 : decode b_Mo_compared 68 = .ok (.iconst 1, 1) := by sorry
theorem d_Mo_compared_69 : decode b_Mo_compared 69 = .ok (.goto 22, 3) := by sorry
theorem d_Mo_compared_72 : decode b_Mo_compared 72 = .ok (.iconst 0, 1) := by sorry
theorem d_Mo_compared_73 : decode b_Mo_compared 73 = .ok (.goto 18, 3) := by sorry
theorem d_Mo_compared_76 : decode b_Mo_compared 76 = .ok (.aload_n 0, 1) := by sorry
theorem d_Mo_compared_77 : decode b_Mo_compared 77 = .ok (.getfield 62, 3) := by sorry
theorem d_Mo_compared_80 : decode b_Mo_compared 80 = .ok (.iload 5, 2) := by sorry
theorem d_Mo_compared_82 : decode b_Mo_compared 82 = .ok (.aload_n 0, 1) := by sorry
theorem d_Mo_compared_83 : decode b_Mo_compared 83 = .ok (.getfield 62, 3) := by sorry
theorem d_Mo_compared_86 : decode b_Mo_compared 86 = .ok (.iload 6, 2) := by sorry
theorem d_Mo_compared_88 : decode b_Mo_compared 88 = .ok (.invokestatic 78, 3) := by sorry
theorem d_Mo_compared_91 : decode b_Mo_compared 91 = .ok (.istore 8, 2) := by sorry
theorem d_Mo_compared_93 : decode b_Mo_compared 93 = .ok (.iload 8, 2) := by sorry
theorem d_Mo_compared_95 : decode b_Mo_compared 95 = .ok (.iload 7, 2) := by sorry
theorem d_Mo_compared_97 : decode b_Mo_compared 97 = .ok (.ifCond .ne 7, 3) := by sorry
theorem d_Mo_compared_100 : decode b_Mo_compared 100 = .ok (.iconst 1, 1) := by sorry
theorem d_Mo_compared_101 : decode b_Mo_compared 101 = .ok (.goto 4, 3) := by sorry
theorem d_Mo_compared_104 : decode b_Mo_compared 104 = .ok (.iconst 0, 1) := by sorry
theorem d_Mo_compared_105 : decode b_Mo_compared 105 = .ok (.if_icmp .ne 7, 3) := by sorry
theorem d_Mo_compared_108 : decode b_Mo_compared 108 = .ok (.iconst 1, 1) := by sorry
theorem d_Mo_compared_109 : decode b_Mo_compared 109 = .ok (.goto 4, 3) := by sorry
theorem d_Mo_compared_112 : decode b_Mo_compared 112 = .ok (.iconst 0, 1) := by sorry
theorem d_Mo_compared_113 : decode b_Mo_compared 113 = .ok (.istore 9, 2) := by sorry
theorem d_Mo_compared_115 : decode b_Mo_compared 115 = .ok (.iload 7, 2) := by sorry
theorem d_Mo_compared_117 : decode b_Mo_compared 117 = .ok (.iconst 1, 1) := by sorry
theorem d_Mo_compared_118 : decode b_Mo_compared 118 = .ok (.if_icmp .le 54, 3) := by sorry
theorem d_Mo_compared_121 : decode b_Mo_compared 121 = .ok (.iload 7, 2) := by sorry
theorem d_Mo_compared_123 : decode b_Mo_compared 123 = .ok (.iconst 4, 1) := by sorry
theorem d_Mo_compared_124 : decode b_Mo_compared 124 = .ok (.if_icmp .ge 17, 3) := by sorry
theorem d_Mo_compared_127 : decode b_Mo_compared 127 = .ok (.aload_n 0, 1) := by sorry
theorem d_Mo_compared_128 : decode b_Mo_compared 128 = .ok (.iload 5, 2) := by sorry
theorem d_Mo_compared_130 : decode b_Mo_compared 130 = .ok (.iload 6, 2) := by sorry
theorem d_Mo_compared_132 : decode b_Mo_compared 132 = .ok (.invokevirtual 395, 3) := by sorry
theorem d_Mo_compared_135 : decode b_Mo_compared 135 = .ok (.ifCond .eq 17, 3) := by sorry
theorem d_Mo_compared_138 : decode b_Mo_compared 138 = .ok (.goto 27, 3) := by sorry
theorem d_Mo_compared_141 : decode b_Mo_compared 141 = .ok (.aload_n 0, 1) := by sorry
theorem d_Mo_compared_142 : decode b_Mo_compared 142 = .ok (.iload 6, 2) := by sorry
theorem d_Mo_compared_144 : decode b_Mo_compared 144 = .ok (.iload 5, 2) := by sorry
theorem d_Mo_compared_146 : decode b_Mo_compared 146 = .ok (.invokevirtual 395, 3) := by sorry
theorem d_Mo_compared_149 : decode b_Mo_compared 149 = .ok (.ifCond .ne 16, 3) := by sorry
theorem d_Mo_compared_152 : decode b_Mo_compared 152 = .ok (.iload 7, 2) := by sorry
theorem d_Mo_compared_154 : decode b_Mo_compared 154 = .ok (.iconst 1, 1) := by sorry
theorem d_Mo_compared_155 : decode b_Mo_compared 155 = .ok (.iand, 1) := by sorry
theorem d_Mo_compared_156 : decode b_Mo_compared 156 = .ok (.iconst 1, 1) := by sorry
theorem d_Mo_compared_157 : decode b_Mo_compared 157 = .ok (.if_icmp .ne 12, 3) := by sorry
theorem d_Mo_compared_160 : decode b_Mo_compared 160 = .ok (.iload 8, 2) := by sorry
theorem d_Mo_compared_162 : decode b_Mo_compared 162 = .ok (.ifCond .eq 7, 3) := by sorry
theorem d_Mo_compared_165 : decode b_Mo_compared 165 = .ok (.iconst 1, 1) := by sorry
theorem d_Mo_compared_166 : decode b_Mo_compared 166 = .ok (.goto 4, 3) := by sorry
theorem d_Mo_compared_169 : decode b_Mo_compared 169 = .ok (.iconst 0, 1) := by sorry
theorem d_Mo_compared_170 : decode b_Mo_compared 170 = .ok (.istore 9, 2) := by sorry
theorem d_Mo_compared_172 : decode b_Mo_compared 172 = .ok (.aload_n 0, 1) := by sorry
theorem d_Mo_compared_173 : decode b_Mo_compared 173 = .ok (.getfield 62, 3) := by sorry
theorem d_Mo_compared_176 : decode b_Mo_compared 176 = .ok (.iload_n 3, 1) := by sorry
theorem d_Mo_compared_177 : decode b_Mo_compared 177 = .ok (.putfield 393, 3) := by sorry
theorem d_Mo_compared_180 : decode b_Mo_compared 180 = .ok (.aload_n 0, 1) := by sorry
theorem d_Mo_compared_181 : decode b_Mo_compared 181 = .ok (.getfield 62, 3) := by sorry
theorem d_Mo_compared_184 : decode b_Mo_compared 184 = .ok (.iload 4, 2) := by sorry
theorem d_Mo_compared_186 : decode b_Mo_compared 186 = .ok (.putfield 204, 3) := by sorry
theorem d_Mo_compared_189 : decode b_Mo_compared 189 = .ok (.iload 9, 2) := by sorry
theorem d_Mo_compared_191 : decode b_Mo_compared 191 = .ok (.ireturn, 1) := by sorry
set_option maxHeartbeats 4000000 in
set_option maxRecDepth 100000 in
/-- the reference: compared -/
theorem c_cpd (O : QP CT) (C : QP OT) (Y : QP QT) (cb0 cap0 aa cb2 cap2 a2 G M : Nat) (hc4 : 4096 ≤ cb0) (hc5 : cb0 ≤ 7000) (hb2 : cb2 ≤ cb0) (hp2 : cap2 ≤ cap0) (ha2 : a2 + 1 ≤ aa) (ha4 : 4097 ≤ aa) (hac : aa ≤ cap0) (hHO : HOC O cb0 cap0 (45 + G) (2400 + M)) (hCV : CVC C cb2 cap2 a2 (39 + G) (2100 + M)) (hAK : AKC Y cb2 cap2 (38 + G) (1480 + M)) (cb cap : Nat) (hcb : cb = cb0 + 1) (hcp : cap = cap0 + aa) (l : Launch) (dC : Nat → ClassId) (dI : Nat → Nat → Nat) (mo : Nat) (sz : Heap) (v : Nat → Value) (cI cL cC : ClassId) (ql t tv tw9 : Nat) (Q : QS) (V T Z : TS) (tp dn : Nat) (li : Nat → Int32) (rt : NT) (lo hi e9 nd : Nat) (nn : NT) (op9 : Nat) (ya yb : OT) (hQ : QOK Q) (hV : TOK V) (hT : TOK T) (hW : TOK Z) (hct : T.ct ≤ 4096 ∧ V.us ≤ 4096) (hE0 : EI T tp dn 0 li) (hdn : dn ≤ 20000) (hN0 : NDn T 0 rt) (h18 : v 18 = .ref t) (h19 : v 19 = .ref Q.qq) (h20 : v 20 = .ref Q.qe) (h22 : v 22 = .ref tv) (h24 : v 24 = .ref ql) (h28 : v 28 = .int (nI 0)) (h29 : v 29 = .ref tw9) (hwc : Z.ct + cap ≤ 300000) (hwu : Z.us + cap ≤ 300000) (he9 : e9 < Q.R) (hhi : hi ≤ Q.R) (h33 : ∃ a b, Q.qf (8 * e9 + 2) = nI a ∧ Q.qf (8 * e9 + 3) = nI b ∧ Q.qf (8 * e9 + 4) = nI op9 ∧ op9 ≤ 5 ∧ Wth (CMPf O C Y) Q V lo hi e9 a ya ∧ Wth (CMPf O C Y) Q V lo hi e9 b yb) (hN : NDn T nd nn) : Met l y_Mo_compared (k_Mo_compared :: gtbl) ({ frames := 40 + (45 + G), cells := ncap Z (Z.ct + cap) + qcap Z (Z.us + cap), slots := 20 * ncap Z (Z.ct + cap) + 2 * qcap Z (Z.us + cap), locals := 2200 + (2400 + M) }) (va_Pc [.ref mo, .int (nI e9), .int (nI nd)] (mp dC dI [(mo, .inr (13, MF 30 (es v tp dn 0))), (Q.qq, .inl (cI, (8 * Q.C), .inl Q.qf)), (Q.qe, .inl (cL, (3 * Q.C), .inr (.inl Q.ef))), (t, .inr (12, MF 13 (tw T))), (T.a0, .inl (cI, T.N, .inl T.kd)), (T.a1, .inl (cL, T.N, .inr (.inl T.nu))), (T.a2, .inl (cI, T.N, .inl T.st)), (T.a3, .inl (cI, T.N, .inl T.ln)), (T.a4, .inl (cI, T.N, .inl T.ki)), (T.a5, .inl (cI, T.N, .inl T.nx)), (T.a6, .inl (cI, T.N, .inl T.ns)), (T.a7, .inl (cI, T.N, .inl T.nl)), (T.a8, .inl (cI, T.N, .inl T.pa)), (T.a9, .inl (cI, T.N, .inl T.pl)), (T.au, .inl (cC, T.U, .inl T.un)), (tv, .inr (12, MF 13 (tw V))), (V.au, .inl (cC, V.U, .inl V.un)), (ql, .inl (cI, 20100, .inl li)), (tw9, .inr (12, MF 13 (tw Z))), (Z.a0, .inl (cI, Z.N, .inl Z.kd)), (Z.a1, .inl (cL, Z.N, .inr (.inl Z.nu))), (Z.a2, .inl (cI, Z.N, .inl Z.st)), (Z.a3, .inl (cI, Z.N, .inl Z.ln)), (Z.a4, .inl (cI, Z.N, .inl Z.ki)), (Z.a5, .inl (cI, Z.N, .inl Z.nx)), (Z.a6, .inl (cI, Z.N, .inl Z.ns)), (Z.a7, .inl (cI, Z.N, .inl Z.nl)), (Z.a8, .inl (cI, Z.N, .inl Z.pa)), (Z.a9, .inl (cI, Z.N, .inl Z.pl)), (Z.au, .inl (cC, Z.U, .inl Z.un))] [(cI, .int), (cL, .long), (cC, .char)] sz)) (va_Qi (fun (res : Int32) (u : EU) => EVo T Z cap cb tp dn 0 li u ∧ u.1 = tp ∧ (res = 0 ∨ res = 1) ∧ WKr (cmpC op9 ya yb rt nn).2 dn u.2.1 u.2.2.1 ∧ (u.2.2.1 = 0 → res = bI (cmpC op9 ya yb rt nn).1)) (fun u t9 => mz dC dI [(mo, .inr (13, MF 30 (es v u.1 u.2.1 u.2.2.1))), (Q.qq, .inl (cI, (8 * Q.C), .inl Q.qf)), (Q.qe, .inl (cL, (3 * Q.C), .inr (.inl Q.ef))), (t, .inr (12, MF 13 (tw T))), (T.a0, .inl (cI, T.N, .inl T.kd)), (T.a1, .inl (cL, T.N, .inr (.inl T.nu))), (T.a2, .inl (cI, T.N, .inl T.st)), (T.a3, .inl (cI, T.N, .inl T.ln)), (T.a4, .inl (cI, T.N, .inl T.ki)), (T.a5, .inl (cI, T.N, .inl T.nx)), (T.a6, .inl (cI, T.N, .inl T.ns)), (T.a7, .inl (cI, T.N, .inl T.nl)), (T.a8, .inl (cI, T.N, .inl T.pa)), (T.a9, .inl (cI, T.N, .inl T.pl)), (T.au, .inl (cC, T.U, .inl T.un)), (tv, .inr (12, MF 13 (tw V))), (V.au, .inl (cC, V.U, .inl V.un)), (ql, .inl (cI, 20100, .inl u.2.2.2.1)), (tw9, .inr (12, MF 13 (tw u.2.2.2.2))), (u.2.2.2.2.a0, .inl (cI, u.2.2.2.2.N, .inl u.2.2.2.2.kd)), (u.2.2.2.2.a1, .inl (cL, u.2.2.2.2.N, .inr (.inl u.2.2.2.2.nu))), (u.2.2.2.2.a2, .inl (cI, u.2.2.2.2.N, .inl u.2.2.2.2.st)), (u.2.2.2.2.a3, .inl (cI, u.2.2.2.2.N, .inl u.2.2.2.2.ln)), (u.2.2.2.2.a4, .inl (cI, u.2.2.2.2.N, .inl u.2.2.2.2.ki)), (u.2.2.2.2.a5, .inl (cI, u.2.2.2.2.N, .inl u.2.2.2.2.nx)), (u.2.2.2.2.a6, .inl (cI, u.2.2.2.2.N, .inl u.2.2.2.2.ns)), (u.2.2.2.2.a7, .inl (cI, u.2.2.2.2.N, .inl u.2.2.2.2.nl)), (u.2.2.2.2.a8, .inl (cI, u.2.2.2.2.N, .inl u.2.2.2.2.pa)), (u.2.2.2.2.a9, .inl (cI, u.2.2.2.2.N, .inl u.2.2.2.2.pl)), (u.2.2.2.2.au, .inl (cC, u.2.2.2.2.U, .inl u.2.2.2.2.un))] [(cI, .int), (cL, .long), (cC, .char)] (va_A [(mo, .inr (13, MF 30 (es v tp dn 0))), (Q.qq, .inl (cI, (8 * Q.C), .inl Q.qf)), (Q.qe, .inl (cL, (3 * Q.C), .inr (.inl Q.ef))), (t, .inr (12, MF 13 (tw T))), (T.a0, .inl (cI, T.N, .inl T.kd)), (T.a1, .inl (cL, T.N, .inr (.inl T.nu))), (T.a2, .inl (cI, T.N, .inl T.st)), (T.a3, .inl (cI, T.N, .inl T.ln)), (T.a4, .inl (cI, T.N, .inl T.ki)), (T.a5, .inl (cI, T.N, .inl T.nx)), (T.a6, .inl (cI, T.N, .inl T.ns)), (T.a7, .inl (cI, T.N, .inl T.nl)), (T.a8, .inl (cI, T.N, .inl T.pa)), (T.a9, .inl (cI, T.N, .inl T.pl)), (T.au, .inl (cC, T.U, .inl T.un)), (tv, .inr (12, MF 13 (tw V))), (V.au, .inl (cC, V.U, .inl V.un)), (ql, .inl (cI, 20100, .inl li)), (tw9, .inr (12, MF 13 (tw Z))), (Z.a0, .inl (cI, Z.N, .inl Z.kd)), (Z.a1, .inl (cL, Z.N, .inr (.inl Z.nu))), (Z.a2, .inl (cI, Z.N, .inl Z.st)), (Z.a3, .inl (cI, Z.N, .inl Z.ln)), (Z.a4, .inl (cI, Z.N, .inl Z.ki)), (Z.a5, .inl (cI, Z.N, .inl Z.nx)), (Z.a6, .inl (cI, Z.N, .inl Z.ns)), (Z.a7, .inl (cI, Z.N, .inl Z.nl)), (Z.a8, .inl (cI, Z.N, .inl Z.pa)), (Z.a9, .inl (cI, Z.N, .inl Z.pl)), (Z.au, .inl (cC, Z.U, .inl Z.un))] sz.size) t9 ∧ szk sz t9.heap (cE Z u.2.2.2.2) (sE Z u.2.2.2.2)) (va_A [(mo, .inr (13, MF 30 (es v tp dn 0))), (Q.qq, .inl (cI, (8 * Q.C), .inl Q.qf)), (Q.qe, .inl (cL, (3 * Q.C), .inr (.inl Q.ef))), (t, .inr (12, MF 13 (tw T))), (T.a0, .inl (cI, T.N, .inl T.kd)), (T.a1, .inl (cL, T.N, .inr (.inl T.nu))), (T.a2, .inl (cI, T.N, .inl T.st)), (T.a3, .inl (cI, T.N, .inl T.ln)), (T.a4, .inl (cI, T.N, .inl T.ki)), (T.a5, .inl (cI, T.N, .inl T.nx)), (T.a6, .inl (cI, T.N, .inl T.ns)), (T.a7, .inl (cI, T.N, .inl T.nl)), (T.a8, .inl (cI, T.N, .inl T.pa)), (T.a9, .inl (cI, T.N, .inl T.pl)), (T.au, .inl (cC, T.U, .inl T.un)), (tv, .inr (12, MF 13 (tw V))), (V.au, .inl (cC, V.U, .inl V.un)), (ql, .inl (cI, 20100, .inl li)), (tw9, .inr (12, MF 13 (tw Z))), (Z.a0, .inl (cI, Z.N, .inl Z.kd)), (Z.a1, .inl (cL, Z.N, .inr (.inl Z.nu))), (Z.a2, .inl (cI, Z.N, .inl Z.st)), (Z.a3, .inl (cI, Z.N, .inl Z.ln)), (Z.a4, .inl (cI, Z.N, .inl Z.ki)), (Z.a5, .inl (cI, Z.N, .inl Z.nx)), (Z.a6, .inl (cI, Z.N, .inl Z.ns)), (Z.a7, .inl (cI, Z.N, .inl Z.nl)), (Z.a8, .inl (cI, Z.N, .inl Z.pa)), (Z.a9, .inl (cI, Z.N, .inl Z.pl)), (Z.au, .inl (cC, Z.U, .inl Z.un))] sz.size)) (ncap Z (Z.ct + cap) + qcap Z (Z.us + cap)) (20 * ncap Z (Z.ct + cap) + 2 * qcap Z (Z.us + cap)) (va_A [(mo, .inr (13, MF 30 (es v tp dn 0))), (Q.qq, .inl (cI, (8 * Q.C), .inl Q.qf)), (Q.qe, .inl (cL, (3 * Q.C), .inr (.inl Q.ef))), (t, .inr (12, MF 13 (tw T))), (T.a0, .inl (cI, T.N, .inl T.kd)), (T.a1, .inl (cL, T.N, .inr (.inl T.nu))), (T.a2, .inl (cI, T.N, .inl T.st)), (T.a3, .inl (cI, T.N, .inl T.ln)), (T.a4, .inl (cI, T.N, .inl T.ki)), (T.a5, .inl (cI, T.N, .inl T.nx)), (T.a6, .inl (cI, T.N, .inl T.ns)), (T.a7, .inl (cI, T.N, .inl T.nl)), (T.a8, .inl (cI, T.N, .inl T.pa)), (T.a9, .inl (cI, T.N, .inl T.pl)), (T.au, .inl (cC, T.U, .inl T.un)), (tv, .inr (12, MF 13 (tw V))), (V.au, .inl (cC, V.U, .inl V.un)), (ql, .inl (cI, 20100, .inl li)), (tw9, .inr (12, MF 13 (tw Z))), (Z.a0, .inl (cI, Z.N, .inl Z.kd)), (Z.a1, .inl (cL, Z.N, .inr (.inl Z.nu))), (Z.a2, .inl (cI, Z.N, .inl Z.st)), (Z.a3, .inl (cI, Z.N, .inl Z.ln)), (Z.a4, .inl (cI, Z.N, .inl Z.ki)), (Z.a5, .inl (cI, Z.N, .inl Z.nx)), (Z.a6, .inl (cI, Z.N, .inl Z.ns)), (Z.a7, .inl (cI, Z.N, .inl Z.nl)), (Z.a8, .inl (cI, Z.N, .inl Z.pa)), (Z.a9, .inl (cI, Z.N, .inl Z.pl)), (Z.au, .inl (cC, Z.U, .inl Z.un))] sz.size) := by sorry
end
section
theorem w_1526 : (.methodLink "QueryBenchModel" 381 ⟨"QueryBenchModel", "compared", "(II)Z"⟩ : Cond) ∈ gtbl := by sorry
theorem w_1528 : (.instanceMethod ⟨"QueryBenchModel", "compared", "(II)Z"⟩ : Cond) ∈ gtbl := by sorry
theorem d_Mo_holds_0 : decode b_Mo_holds 0 = .ok (.aload_n 0, 1) := by sorry
theorem d_Mo_holds_1 : decode b_Mo_holds 1 = .ok (.getfield 345, 3) := by sorry
theorem d_Mo_holds_4 : decode b_Mo_holds 4 = .ok (.ifCond .eq 5, 3) := by sorry
theorem d_Mo_holds_7 : decode b_Mo_holds 7 = .ok (.iconst 0, 1) := by sorry
theorem d_Mo_holds_8 : decode b_Mo_holds 8 = .ok (.ireturn, 1) := by sorry
theorem d_Mo_holds_9 : decode b_Mo_holds 9 = .ok (.aload_n 0, 1) := by sorry
theorem d_Mo_holds_10 : decode b_Mo_holds 10 = .ok (.iload_n 1, 1) := by sorry
theorem d_Mo_holds_11 : decode b_Mo_holds 11 = .ok (.iconst 0, 1) := by sorry
theorem d_Mo_holds_12 : decode b_Mo_holds 12 = .ok (.invokevirtual 286, 3) := by sorry
theorem d_Mo_holds_15 : decode b_Mo_holds 15 = .ok (.tableswitch 172 30 35 #[37, 71, 105, 172, 137, 125], 37) := by sorry
theorem d_Mo_holds_52 : decode b_Mo_holds 52 = .ok (.aload_n 0, 1) := by sorry
theorem d_Mo_holds_53 : decode b_Mo_holds 53 = .ok (.iload_n 1, 1) := by sorry
theorem d_Mo_holds_54 : decode b_Mo_holds 54 = .ok (.iconst 2, 1) := by sorry
theorem d_Mo_holds_55 : decode b_Mo_holds 55 = .ok (.invokevirtual 286, 3) := by sorry
theorem d_Mo_holds_58 : decode b_Mo_holds 58 = .ok (.istore_n 3, 1) := by sorry
theorem d_Mo_holds_59 : decode b_Mo_holds 59 = .ok (.iload_n 3, 1) := by sorry
theorem d_Mo_holds_60 : decode b_Mo_holds 60 = .ok (.ifCond .lt 24, 3) := by sorry
theorem d_Mo_holds_63 : decode b_Mo_holds 63 = .ok (.aload_n 0, 1) := by sorry
theorem d_Mo_holds_64 : decode b_Mo_holds 64 = .ok (.iload_n 3, 1) := by sorry
theorem d_Mo_holds_65 : decode b_Mo_holds 65 = .ok (.iload_n 2, 1) := by sorry
theorem d_Mo_holds_66 : decode b_Mo_holds 66 = .ok (.invokevirtual 369, 3) := by sorry
theorem d_Mo_holds_69 : decode b_Mo_holds 69 = .ok (.ifCond .eq 5, 3) := by sorry
theorem d_Mo_holds_72 : decode b_Mo_holds 72 = .ok (.iconst 1, 1) := by sorry
theorem d_Mo_holds_73 : decode b_Mo_holds 73 = .ok (.ireturn, 1) := by sorry
theorem d_Mo_holds_74 : decode b_Mo_holds 74 = .ok (.aload_n 0, 1) := by sorry
theorem d_Mo_holds_75 : decode b_Mo_holds 75 = .ok (.iload_n 3, 1) := by sorry
theorem d_Mo_holds_76 : decode b_Mo_holds 76 = .ok (.iconst 1, 1) := by sorry
theorem d_Mo_holds_77 : decode b_Mo_holds 77 = .ok (.invokevirtual 286, 3) := by sorry
theorem d_Mo_holds_80 : decode b_Mo_holds 80 = .ok (.istore_n 3, 1) := by sorry
theorem d_Mo_holds_81 : decode b_Mo_holds 81 = .ok (.goto (-22), 3) := by sorry
theorem d_Mo_holds_84 : decode b_Mo_holds 84 = .ok (.iconst 0, 1) := by sorry
theorem d_Mo_holds_85 : decode b_Mo_holds 85 = .ok (.ireturn, 1) := by sorry
theorem d_Mo_holds_86 : decode b_Mo_holds 86 = .ok (.aload_n 0, 1) := by sorry
theorem d_Mo_holds_87 : decode b_Mo_holds 87 = .ok (.iload_n 1, 1) := by sorry
theorem d_Mo_holds_88 : decode b_Mo_holds 88 = .ok (.iconst 2, 1) := by sorry
theorem d_Mo_holds_89 : decode b_Mo_holds 89 = .ok (.invokevirtual 286, 3) := by sorry
theorem d_Mo_holds_92 : decode b_Mo_holds 92 = .ok (.istore_n 3, 1) := by sorry
theorem d_Mo_holds_93 : decode b_Mo_holds 93 = .ok (.iload_n 3, 1) := by sorry
theorem d_Mo_holds_94 : decode b_Mo_holds 94 = .ok (.ifCond .lt 24, 3) := by sorry
theorem d_Mo_holds_97 : decode b_Mo_holds 97 = .ok (.aload_n 0, 1) := by sorry
theorem d_Mo_holds_98 : decode b_Mo_holds 98 = .ok (.iload_n 3, 1) := by sorry
theorem d_Mo_holds_99 : decode b_Mo_holds 99 = .ok (.iload_n 2, 1) := by sorry
theorem d_Mo_holds_100 : decode b_Mo_holds 100 = .ok (.invokevirtual 369, 3) := by sorry
theorem d_Mo_holds_103 : decode b_Mo_holds 103 = .ok (.ifCond .ne 5, 3) := by sorry
theorem d_Mo_holds_106 : decode b_Mo_holds 106 = .ok (.iconst 0, 1) := by sorry
theorem d_Mo_holds_107 : decode b_Mo_holds 107 = .ok (.ireturn, 1) := by sorry
theorem d_Mo_holds_108 : decode b_Mo_holds 108 = .ok (.aload_n 0, 1) := by sorry
theorem d_Mo_holds_109 : decode b_Mo_holds 109 = .ok (.iload_n 3, 1) := by sorry
theorem d_Mo_holds_110 : decode b_Mo_holds 110 = .ok (.iconst 1, 1) := by sorry
theorem d_Mo_holds_111 : decode b_Mo_holds 111 = .ok (.invokevirtual 286, 3) := by sorry
theorem d_Mo_holds_114 : decode b_Mo_holds 114 = .ok (.istore_n 3, 1) := by sorry
theorem d_Mo_holds_115 : decode b_Mo_holds 115 = .ok (.goto (-22), 3) := by sorry
theorem d_Mo_holds_118 : decode b_Mo_holds 118 = .ok (.iconst 1, 1) := by sorry
theorem d_Mo_holds_119 : decode b_Mo_holds 119 = .ok (.ireturn, 1) := by sorry
theorem d_Mo_holds_120 : decode b_Mo_holds 120 = .ok (.aload_n 0, 1) := by sorry
theorem d_Mo_holds_121 : decode b_Mo_holds 121 = .ok (.aload_n 0, 1) := by sorry
theorem d_Mo_holds_122 : decode b_Mo_holds 122 = .ok (.iload_n 1, 1) := by sorry
theorem d_Mo_holds_123 : decode b_Mo_holds 123 = .ok (.iconst 2, 1) := by sorry
theorem d_Mo_holds_124 : decode b_Mo_holds 124 = .ok (.invokevirtual 286, 3) := by sorry
theorem d_Mo_holds_127 : decode b_Mo_holds 127 = .ok (.iload_n 2, 1) := by sorry
theorem d_Mo_holds_128 : decode b_Mo_holds 128 = .ok (.invokevirtual 369, 3) := by sorry
theorem d_Mo_holds_131 : decode b_Mo_holds 131 = .ok (.ifCond .ne 7, 3) := by sorry
theorem d_Mo_holds_134 : decode b_Mo_holds 134 = .ok (.iconst 1, 1) := by sorry
theorem d_Mo_holds_135 : decode b_Mo_holds 135 = .ok (.goto 4, 3) := by sorry
theorem d_Mo_holds_138 : decode b_Mo_holds 138 = .ok (.iconst 0, 1) := by sorry
theorem d_Mo_holds_139 : decode b_Mo_holds 139 = .ok (.ireturn, 1) := by sorry
theorem d_Mo_holds_140 : decode b_Mo_holds 140 = .ok (.aload_n 0, 1) := by sorry
theorem d_Mo_holds_141 : decode b_Mo_holds 141 = .ok (.aload_n 0, 1) := by sorry
theorem d_Mo_holds_142 : decode b_Mo_holds 142 = .ok (.iload_n 1, 1) := by sorry
theorem d_Mo_holds_143 : decode b_Mo_holds 143 = .ok (.iconst 2, 1) := by sorry
theorem d_Mo_holds_144 : decode b_Mo_holds 144 = .ok (.invokevirtual 286, 3) := by sorry
theorem d_Mo_holds_147 : decode b_Mo_holds 147 = .ok (.iload_n 2, 1) := by sorry
theorem d_Mo_holds_148 : decode b_Mo_holds 148 = .ok (.invokevirtual 369, 3) := by sorry
theorem d_Mo_holds_151 : decode b_Mo_holds 151 = .ok (.ireturn, 1) := by sorry
theorem d_Mo_holds_152 : decode b_Mo_holds 152 = .ok (.aload_n 0, 1) := by sorry
theorem d_Mo_holds_153 : decode b_Mo_holds 153 = .ok (.aload_n 0, 1) := by sorry
theorem d_Mo_holds_154 : decode b_Mo_holds 154 = .ok (.iload_n 1, 1) := by sorry
theorem d_Mo_holds_155 : decode b_Mo_holds 155 = .ok (.iconst 2, 1) := by sorry
theorem d_Mo_holds_156 : decode b_Mo_holds 156 = .ok (.invokevirtual 286, 3) := by sorry
theorem d_Mo_holds_159 : decode b_Mo_holds 159 = .ok (.iload_n 2, 1) := by sorry
theorem d_Mo_holds_160 : decode b_Mo_holds 160 = .ok (.invokevirtual 378, 3) := by sorry
theorem d_Mo_holds_163 : decode b_Mo_holds 163 = .ok (.istore_n 3, 1) := by sorry
theorem d_Mo_holds_164 : decode b_Mo_holds 164 = .ok (.aload_n 0, 1) := by sorry
theorem d_Mo_holds_165 : decode b_Mo_holds 165 = .ok (.getfield 351, 3) := by sorry
theorem d_Mo_holds_168 : decode b_Mo_holds 168 = .ok (.iload_n 3, 1) := by sorry
theorem d_Mo_holds_169 : decode b_Mo_holds 169 = .ok (.if_icmp .le 7, 3) := by sorry
theorem d_Mo_holds_172 : decode b_Mo_holds 172 = .ok (.iconst 1, 1) := by sorry
theorem d_Mo_holds_173 : decode b_Mo_holds 173 = .ok (.goto 4, 3) := by sorry
theorem d_Mo_holds_176 : decode b_Mo_holds 176 = .ok (.iconst 0, 1) := by sorry
theorem d_Mo_holds_177 : decode b_Mo_holds 177 = .ok (.istore 4, 2) := by sorry
theorem d_Mo_holds_179 : decode b_Mo_holds 179 = .ok (.aload_n 0, 1) := by sorry
theorem d_Mo_holds_180 : decode b_Mo_holds 180 = .ok (.iload_n 3, 1) := by sorry
theorem d_Mo_holds_181 : decode b_Mo_holds 181 = .ok (.putfield 351, 3) := by sorry
theorem d_Mo_holds_184 : decode b_Mo_holds 184 = .ok (.iload 4, 2) := by sorry
theorem d_Mo_holds_186 : decode b_Mo_holds 186 = .ok (.ireturn, 1) := by sorry
theorem d_Mo_holds_187 : decode b_Mo_holds 187 = .ok (.aload_n 0, 1) := by sorry
theorem d_Mo_holds_188 : decode b_Mo_holds 188 = .ok (.iload_n 1, 1) := by sorry
theorem d_Mo_holds_189 : decode b_Mo_holds 189 = .ok (.iload_n 2, 1) := by sorry
theorem d_Mo_holds_190 : decode b_Mo_holds 190 = .ok (.invokevirtual 381, 3) := by sorry
theorem d_Mo_holds_193 : decode b_Mo_holds 193 = .ok (.ireturn, 1) := by sorry
set_option maxHeartbeats 4000000 in
set_option maxRecDepth 100000 in
/-- the reference: holds, of a query -/
theorem c_hts (O : QP CT) (C : QP OT) (Y : QP QT) (cb0 cap0 aa cb2 cap2 a2 G M : Nat) (hc4 : 4096 ≤ cb0) (hc5 : cb0 ≤ 7000) (hb2 : cb2 ≤ cb0) (hp2 : cap2 ≤ cap0) (ha2 : a2 + 1 ≤ aa) (ha4 : 4097 ≤ aa) (hac : aa ≤ cap0) (hHO : HOC O cb0 cap0 (45 + G) (2400 + M)) (hCV : CVC C cb2 cap2 a2 (39 + G) (2100 + M)) (hAK : AKC Y cb2 cap2 (38 + G) (1480 + M)) (cb cap : Nat) (hcb : cb = cb0 + 1) (hcp : cap = cap0 + aa) : HOC (TSTp O) cb cap (40 + (45 + G)) (2240 + (2400 + M)) := by sorry
set_option maxHeartbeats 4000000 in
set_option maxRecDepth 100000 in
/-- the reference: holds, of a simple condition -/
theorem c_hbs (O : QP CT) (C : QP OT) (Y : QP QT) (cb0 cap0 aa cb2 cap2 a2 G M : Nat) (hc4 : 4096 ≤ cb0) (hc5 : cb0 ≤ 7000) (hb2 : cb2 ≤ cb0) (hp2 : cap2 ≤ cap0) (ha2 : a2 + 1 ≤ aa) (ha4 : 4097 ≤ aa) (hac : aa ≤ cap0) (hHO : HOC O cb0 cap0 (45 + G) (2400 + M)) (hCV : CVC C cb2 cap2 a2 (39 + G) (2100 + M)) (hAK : AKC Y cb2 cap2 (38 + G) (1480 + M)) (cb cap : Nat) (hcb : cb = cb0 + 1) (hcp : cap = cap0 + aa) : HOC (BASf O C Y) cb cap (42 + (45 + G)) (2300 + (2400 + M)) := by sorry
set_option maxHeartbeats 4000000 in
set_option maxRecDepth 100000 in
/-- the reference: holds, of conditions joined by and -/
theorem c_han (O : QP CT) (C : QP OT) (Y : QP QT) (cb0 cap0 aa cb2 cap2 a2 G M : Nat) (hc4 : 4096 ≤ cb0) (hc5 : cb0 ≤ 7000) (hb2 : cb2 ≤ cb0) (hp2 : cap2 ≤ cap0) (ha2 : a2 + 1 ≤ aa) (ha4 : 4097 ≤ aa) (hac : aa ≤ cap0) (hHO : HOC O cb0 cap0 (45 + G) (2400 + M)) (hCV : CVC C cb2 cap2 a2 (39 + G) (2100 + M)) (hAK : AKC Y cb2 cap2 (38 + G) (1480 + M)) (cb cap : Nat) (hcb : cb = cb0 + 1) (hcp : cap = cap0 + aa) : HOC (ANDf O C Y) cb cap (43 + (45 + G)) (2340 + (2400 + M)) := by sorry
set_option maxHeartbeats 4000000 in
set_option maxRecDepth 100000 in
/-- the reference: holds, of conditions joined by or -/
theorem c_hor (O : QP CT) (C : QP OT) (Y : QP QT) (cb0 cap0 aa cb2 cap2 a2 G M : Nat) (hc4 : 4096 ≤ cb0) (hc5 : cb0 ≤ 7000) (hb2 : cb2 ≤ cb0) (hp2 : cap2 ≤ cap0) (ha2 : a2 + 1 ≤ aa) (ha4 : 4097 ≤ aa) (hac : aa ≤ cap0) (hHO : HOC O cb0 cap0 (45 + G) (2400 + M)) (hCV : CVC C cb2 cap2 a2 (39 + G) (2100 + M)) (hAK : AKC Y cb2 cap2 (38 + G) (1480 + M)) (cb cap : Nat) (hcb : cb = cb0 + 1) (hcp : cap = cap0 + aa) : HOC (ORf O C Y) cb cap (45 + (45 + G)) (2400 + (2400 + M)) := by sorry
def capd : Nat → Nat
  | 0 => 5000
  | d + 1 => capd d + (4097 + d)
theorem capd_le : ∀ d, 4097 + d ≤ capd d := by sorry
theorem HOC_no {cb cap F L : Nat} : HOC noQ cb cap F L := by sorry
theorem CVC_no {cb cap aa F L : Nat} : CVC noQ cb cap aa F L := by sorry
theorem AKC_no {cb cap F L : Nat} : AKC noQ cb cap F L := by sorry
/-- the reference's evaluation, where conditions are at most d deep -/
theorem c_elv : ∀ d, d ≤ 16 → HOC (DDp d).1 (4096 + d + 1) (capd (d + 1)) (45 + (45 + 45 * d)) (2400 + (2400 + 2400 * d)) ∧ CVC (DDp d).2.1 (4096 + d) (capd d) (4097 + d) (39 + (45 + 45 * d)) (2100 + (2400 + 2400 * d)) ∧ AKC (DDp d).2.2 (4096 + d) (capd d) (38 + (45 + 45 * d)) (1480 + (2400 + 2400 * d)) := by sorry
end
section
/-! what the class writes, as a list of bytes -/
abbrev WOK (k : Nat) (g : Nat → Int32) (T : List Int32) (k' : Nat) (g' : Nat → Int32) : Prop := penL (k, 0, g) T = (k', 0, g')
abbrev WNO (k : Nat) (g : Nat → Int32) (T : List Int32) : Prop := (penL (k, 0, g) T).2.1 = 1
theorem pen_over1 : ∀ (T : List Int32) (s : PS), s.2.1 = 1 → (penL s T).2.1 = 1 := by sorry
theorem WOK.le {k k' : Nat} {g g' : Nat → Int32} {T : List Int32} (h : WOK k g T k' g') (hk : k ≤ 16384) : k' ≤ 16384 := by sorry
section WG
variable {s : PS} {F T R : List Int32} {k1 k2 : Nat} {g1 g2 : Nat → Int32}
/-- a piece is written: what is left -/
theorem WOK.go (hR : penL s F = penL (k1, 0, g1) (T ++ R)) (hw : WOK k1 g1 T k2 g2) : penL s F = penL (k2, 0, g2) R := by sorry
/-- a piece finds no room -/
theorem WNO.go (hR : penL s F = penL (k1, 0, g1) (T ++ R)) (hw : WNO k1 g1 T) : (penL s F).2.1 = 1 := by sorry
end WG
theorem WOK.one {k : Nat} {g : Nat → Int32} {x : Int32} (h : k < 16384) : WOK k g [x] (k + 1) (upd g k (vp_nar .byte (x.toInt8.toInt32))) := by sorry
theorem WNO.one {k : Nat} {g : Nat → Int32} {x : Int32} (h : ¬ k < 16384) : WNO k g [x] := by sorry
/-- what is written, when it finds room, and when not -/
theorem penL_all : ∀ (T : List Int32) (k : Nat) (g : Nat → Int32), k ≤ 16384 → (k + T.length ≤ 16384 ∧ ∃ g', penL (k, 0, g) T = (k + T.length, 0, g') ∧ (∀ i, i < k → g' i = g i) ∧ ∀ i x, T[i]? = some x → g' (k + i) = vp_nar .byte (x.toInt8.toInt32)) ∨ (16384 < k + T.length ∧ WNO k g T) := by sorry
theorem nI_subA (a b : Nat) : nI (a + b) - nI a = nI b := by sorry
theorem run_sub (t : Nat) : nI t - nI 0 = nI t := by sorry
/-- the root of a document -/
def rtN (x : JVt 32) : NT := ([], ⟨32, x⟩)
/-! the way to a node, as it is written -/
def atV : VU → List Nat → Option VU
  | u, [] => some u
  | u, i :: p => match (ksU u)[i]? with
    | some c => atV c.2 p
    | none => none
def stp (kd i : Nat) (nm : List Int32) : List Int32 := [91] ++ ((if kd = 6 then unL 39 nm else nmB (nI i).toInt64) ++ [93])
def pthJ : VU → List Nat → List Int32
  | _, [] => []
  | u, i :: p => match (ksU u)[i]? with
    | some c => stp (lfU u).1 i c.1 ++ pthJ c.2 p
    | none => []
theorem pth_snoc : ∀ (p : List Nat) (u v : VU) (i : Nat) (c : List Int32 × VU), atV u p = some v → (ksU v)[i]? = some c → pthJ u (p ++ [i]) = pthJ u p ++ stp (lfU v).1 i c.1 := by sorry
/-- a row of the answer -/
def rowB (x : JVt 32) (nd : NT) : List Int32 := [36] ++ (pthJ ⟨32, x⟩ nd.1 ++ ([32] ++ (prV nd.2.1 nd.2.2 ++ [10])))
/-- the answer -/
def outB (x : JVt 32) (l : List NT) : List Int32 := l.flatMap (rowB x)
theorem at_snoc : ∀ (p : List Nat) (u v : VU) (i : Nat) (c : List Int32 × VU), atV u p = some v → (ksU v)[i]? = some c → atV u (p ++ [i]) = some c.2 := by sorry
theorem chn_uni {nx : Nat → Int32} {N : Nat} (hN : N ≤ 1000000) : ∀ (ks ls : List Nat) (k : Int32), chn nx N ks k → chn nx N ls k → ks = ls := by sorry
theorem chn_drop {nx : Nat → Int32} {N : Nat} : ∀ (ks : List Nat) (k : Int32) (i a : Nat), chn nx N ks k → ks[i]? = some a → chn nx N (ks.drop (i + 1)) (nx a) := by sorry
/-- no node stands twice in a chain -/
theorem chn_ix {nx : Nat → Int32} {N : Nat} (hN : N ≤ 1000000) {ks : List Nat} {k : Int32} {i j a : Nat} (h : chn nx N ks k) (h1 : ks[i]? = some a) (h2 : ks[j]? = some a) : i = j := by sorry
/-- what stands at the end of a way -/
theorem AP.at_ {T : TS} {x : JVt 32} (hc : T.ct ≤ 1000000) (hR : RepV T 32 0 T.ct x) : ∀ (rp : List Nat) (a : Nat), AP T rp a → ∃ (u : VU) (e : Nat), atV ⟨32, x⟩ rp.reverse = some u ∧ RepV T u.1 a e u.2 := by sorry
/-- one step of the way -/
theorem AP.step {T : TS} {x : JVt 32} (hc : T.ct ≤ 1000000) (hR : RepV T 32 0 T.ct x) {i : Nat} {rp : List Nat} {a p : Nat} {ks : List Nat} (h3 : chn T.nx T.ct ks (T.ki p)) (h4 : ks[i]? = some a) (h6 : AP T rp p) : (T.kd p = 6 ∧ pthJ ⟨32, x⟩ (i :: rp).reverse = pthJ ⟨32, x⟩ rp.reverse ++ ([91] ++ (unL 39 (nmT T a) ++ [93]))) ∨ (¬ T.kd p = 6 ∧ pthJ ⟨32, x⟩ (i :: rp).reverse = pthJ ⟨32, x⟩ rp.reverse ++ ([91] ++ (nmB (nI i).toInt64 ++ [93]))) := by sorry
end
section
theorem w_1051 : (.fieldLink "QueryBenchModel" 398 "QueryBenchModel$Tree" "parents" "[I" : Cond) ∈ gtbl := by sorry
theorem w_1565 : (.methodLink "QueryBenchModel" 401 ⟨"QueryBenchModel", "path", "(I)V"⟩ : Cond) ∈ gtbl := by sorry
theorem w_1567 : (.instanceMethod ⟨"QueryBenchModel", "path", "(I)V"⟩ : Cond) ∈ gtbl := by sorry
abbrev b_Mo_path : ByteArray := prog_14_method_63_code
def y_Mo_path : MethodName := ⟨"QueryBenchModel", "path", "(I)V"⟩
abbrev k_Mo_path : Cond := .code y_Mo_path b_Mo_path 5 none
theorem i_Mo_path : k_Mo_path ∈ gtbl := by sorry
theorem d_Mo_path_0 : decode b_Mo_path 0 = .ok (.aload_n 0, 1) := by sorry
theorem d_Mo_path_1 : decode b_Mo_path 1 = .ok (.getfield 45, 3) := by sorry
theorem d_Mo_path_4 : decode b_Mo_path 4 = .ok (.getfield 398, 3) := by sorry
theorem d_Mo_path_7 : decode b_Mo_path 7 = .ok (.iload_n 1, 1) := by sorry
theorem d_Mo_path_8 : decode b_Mo_path 8 = .ok (.iaload, 1) := by sorry
theorem d_Mo_path_9 : decode b_Mo_path 9 = .ok (.istore_n 2, 1) := by sorry
theorem d_Mo_path_10 : decode b_Mo_path 10 = .ok (.iload_n 2, 1) := by sorry
theorem d_Mo_path_11 : decode b_Mo_path 11 = .ok (.ifCond .ge 10, 3) := by sorry
theorem d_Mo_path_14 : decode b_Mo_path 14 = .ok (.aload_n 0, 1) := by sorry
theorem d_Mo_path_15 : decode b_Mo_path 15 = .ok (.bipush 36, 2) := by sorry
theorem d_Mo_path_17 : decode b_Mo_path 17 = .ok (.invokevirtual 239, 3) := by sorry
theorem d_Mo_path_20 : decode b_Mo_path 20 = .ok (.return_, 1) := by sorry
theorem d_Mo_path_21 : decode b_Mo_path 21 = .ok (.aload_n 0, 1) := by sorry
theorem d_Mo_path_22 : decode b_Mo_path 22 = .ok (.iload_n 2, 1) := by sorry
theorem d_Mo_path_23 : decode b_Mo_path 23 = .ok (.invokevirtual 401, 3) := by sorry
theorem d_Mo_path_26 : decode b_Mo_path 26 = .ok (.aload_n 0, 1) := by sorry
theorem d_Mo_path_27 : decode b_Mo_path 27 = .ok (.bipush 91, 2) := by sorry
theorem d_Mo_path_29 : decode b_Mo_path 29 = .ok (.invokevirtual 239, 3) := by sorry
theorem d_Mo_path_32 : decode b_Mo_path 32 = .ok (.aload_n 0, 1) := by sorry
theorem d_Mo_path_33 : decode b_Mo_path 33 = .ok (.getfield 45, 3) := by sorry
theorem d_Mo_path_36 : decode b_Mo_path 36 = .ok (.getfield 65, 3) := by sorry
theorem d_Mo_path_39 : decode b_Mo_path 39 = .ok (.iload_n 2, 1) := by sorry
theorem d_Mo_path_40 : decode b_Mo_path 40 = .ok (.iaload, 1) := by sorry
theorem d_Mo_path_41 : decode b_Mo_path 41 = .ok (.bipush 6, 2) := by sorry
theorem d_Mo_path_43 : decode b_Mo_path 43 = .ok (.if_icmp .ne 34, 3) := by sorry
theorem d_Mo_path_46 : decode b_Mo_path 46 = .ok (.aload_n 0, 1) := by sorry
theorem d_Mo_path_47 : decode b_Mo_path 47 = .ok (.aload_n 0, 1) := by sorry
theorem d_Mo_path_48 : decode b_Mo_path 48 = .ok (.getfield 45, 3) := by sorry
theorem d_Mo_path_51 : decode b_Mo_path 51 = .ok (.aload_n 0, 1) := by sorry
theorem d_Mo_path_52 : decode b_Mo_path 52 = .ok (.getfield 45, 3) := by sorry
theorem d_Mo_path_55 : decode b_Mo_path 55 = .ok (.getfield 89, 3) := by sorry
theorem d_Mo_path_58 : decode b_Mo_path 58 = .ok (.iload_n 1, 1) := by sorry
theorem d_Mo_path_59 : decode b_Mo_path 59 = .ok (.iaload, 1) := by sorry
theorem d_Mo_path_60 : decode b_Mo_path 60 = .ok (.aload_n 0, 1) := by sorry
theorem d_Mo_path_61 : decode b_Mo_path 61 = .ok (.getfield 45, 3) := by sorry
theorem d_Mo_path_64 : decode b_Mo_path 64 = .ok (.getfield 92, 3) := by sorry
theorem d_Mo_path_67 : decode b_Mo_path 67 = .ok (.iload_n 1, 1) := by sorry
theorem d_Mo_path_68 : decode b_Mo_path 68 = .ok (.iaload, 1) := by sorry
theorem d_Mo_path_69 : decode b_Mo_path 69 = .ok (.bipush 39, 2) := by sorry
theorem d_Mo_path_71 : decode b_Mo_path 71 = .ok (.invokevirtual 256, 3) := by sorry
theorem d_Mo_path_74 : decode b_Mo_path 74 = .ok (.goto 46, 3) := by sorry
theorem d_Mo_path_77 : decode b_Mo_path 77 = .ok (.iconst 0, 1) := by sorry
theorem d_Mo_path_78 : decode b_Mo_path 78 = .ok (.istore_n 3, 1) := by sorry
theorem d_Mo_path_79 : decode b_Mo_path 79 = .ok (.aload_n 0, 1) := by sorry
theorem d_Mo_path_80 : decode b_Mo_path 80 = .ok (.getfield 45, 3) := by sorry
theorem d_Mo_path_83 : decode b_Mo_path 83 = .ok (.getfield 75, 3) := by sorry
theorem d_Mo_path_86 : decode b_Mo_path 86 = .ok (.iload_n 2, 1) := by sorry
theorem d_Mo_path_87 : decode b_Mo_path 87 = .ok (.iaload, 1) := by sorry
theorem d_Mo_path_88 : decode b_Mo_path 88 = .ok (.istore 4, 2) := by sorry
theorem d_Mo_path_90 : decode b_Mo_path 90 = .ok (.iload 4, 2) := by sorry
theorem d_Mo_path_92 : decode b_Mo_path 92 = .ok (.iload_n 1, 1) := by sorry
theorem d_Mo_path_93 : decode b_Mo_path 93 = .ok (.if_icmp .eq 21, 3) := by sorry
theorem d_Mo_path_96 : decode b_Mo_path 96 = .ok (.iinc 3 1, 3) := by sorry
theorem d_Mo_path_99 : decode b_Mo_path 99 = .ok (.aload_n 0, 1) := by sorry
theorem d_Mo_path_100 : decode b_Mo_path 100 = .ok (.getfield 45, 3) := by sorry
theorem d_Mo_path_103 : decode b_Mo_path 103 = .ok (.getfield 82, 3) := by sorry
theorem d_Mo_path_106 : decode b_Mo_path 106 = .ok (.iload 4, 2) := by sorry
theorem d_Mo_path_108 : decode b_Mo_path 108 = .ok (.iaload, 1) := by sorry
theorem d_Mo_path_109 : decode b_Mo_path 109 = .ok (.istore 4, 2) := by sorry
theorem d_Mo_path_111 : decode b_Mo_path 111 = .ok (.goto (-21), 3) := by sorry
theorem d_Mo_path_114 : decode b_Mo_path 114 = .ok (.aload_n 0, 1) := by sorry
theorem d_Mo_path_115 : decode b_Mo_path 115 = .ok (.iload_n 3, 1) := by sorry
theorem d_Mo_path_116 : decode b_Mo_path 116 = .ok (.i2l, 1) := by sorry
theorem d_Mo_path_117 : decode b_Mo_path 117 = .ok (.invokevirtual 253, 3) := by sorry
theorem d_Mo_path_120 : decode b_Mo_path 120 = .ok (.aload_n 0, 1) := by sorry
theorem d_Mo_path_121 : decode b_Mo_path 121 = .ok (.bipush 93, 2) := by sorry
theorem d_Mo_path_123 : decode b_Mo_path 123 = .ok (.invokevirtual 239, 3) := by sorry
theorem d_Mo_path_126 : decode b_Mo_path 126 = .ok (.return_, 1) := by sorry
/-- what path does, k nodes below the root -/
def PTC (k : Nat) : Prop := ∀ (l : Launch) (dC : Nat → ClassId) (dI : Nat → Nat → Nat) (mo : Nat) (sz : Heap) (v : Nat → Value) (cB cI cL cC : ClassId) (qo : Nat) (s0 : PS) (K : Nat → Nat × Nat) (t : Nat) (T : TS) (nd : Nat) (xv : JVt 32) (rp : List Nat), s0.1 ≤ 16384 → v 10 = .ref qo → v 18 = .ref t → TOK T → T.ct ≤ 4096 → nd < T.ct → RepV T 32 0 T.ct xv → rp.length = k → AP T rp nd → Met l y_Mo_path (k_Mo_path :: gtbl) ({ frames := 7 + k, cells := 0, slots := 0, locals := 160 + 40 * k }) (va_Pc [.ref mo, .int (nI nd)] (me K dC dI [(mo, .inr (13, MF 30 (nf v s0.1 s0.2.1))), (qo, .inl (cB, 16392, .inl s0.2.2)), (t, .inr (12, MF 13 (tw T))), (T.a0, .inl (cI, T.N, .inl T.kd)), (T.a1, .inl (cL, T.N, .inr (.inl T.nu))), (T.a2, .inl (cI, T.N, .inl T.st)), (T.a3, .inl (cI, T.N, .inl T.ln)), (T.a4, .inl (cI, T.N, .inl T.ki)), (T.a5, .inl (cI, T.N, .inl T.nx)), (T.a6, .inl (cI, T.N, .inl T.ns)), (T.a7, .inl (cI, T.N, .inl T.nl)), (T.a8, .inl (cI, T.N, .inl T.pa)), (T.a9, .inl (cI, T.N, .inl T.pl)), (T.au, .inl (cC, T.U, .inl T.un))] [(cB, .byte), (cI, .int), (cL, .long), (cC, .char)] sz)) (va_Qv (fun (u : PS) => u = penL s0 ([36] ++ pthJ ⟨32, xv⟩ rp.reverse)) (fun u t9 => mz dC dI [(mo, .inr (13, MF 30 (nf v u.1 u.2.1))), (qo, .inl (cB, 16392, .inl u.2.2)), (t, .inr (12, MF 13 (tw T))), (T.a0, .inl (cI, T.N, .inl T.kd)), (T.a1, .inl (cL, T.N, .inr (.inl T.nu))), (T.a2, .inl (cI, T.N, .inl T.st)), (T.a3, .inl (cI, T.N, .inl T.ln)), (T.a4, .inl (cI, T.N, .inl T.ki)), (T.a5, .inl (cI, T.N, .inl T.nx)), (T.a6, .inl (cI, T.N, .inl T.ns)), (T.a7, .inl (cI, T.N, .inl T.nl)), (T.a8, .inl (cI, T.N, .inl T.pa)), (T.a9, .inl (cI, T.N, .inl T.pl)), (T.au, .inl (cC, T.U, .inl T.un))] [(cB, .byte), (cI, .int), (cL, .long), (cC, .char)] (va_A [(mo, .inr (13, MF 30 (nf v s0.1 s0.2.1))), (qo, .inl (cB, 16392, .inl s0.2.2)), (t, .inr (12, MF 13 (tw T))), (T.a0, .inl (cI, T.N, .inl T.kd)), (T.a1, .inl (cL, T.N, .inr (.inl T.nu))), (T.a2, .inl (cI, T.N, .inl T.st)), (T.a3, .inl (cI, T.N, .inl T.ln)), (T.a4, .inl (cI, T.N, .inl T.ki)), (T.a5, .inl (cI, T.N, .inl T.nx)), (T.a6, .inl (cI, T.N, .inl T.ns)), (T.a7, .inl (cI, T.N, .inl T.nl)), (T.a8, .inl (cI, T.N, .inl T.pa)), (T.a9, .inl (cI, T.N, .inl T.pl)), (T.au, .inl (cC, T.U, .inl T.un))] sz.size) t9) (va_A [(mo, .inr (13, MF 30 (nf v s0.1 s0.2.1))), (qo, .inl (cB, 16392, .inl s0.2.2)), (t, .inr (12, MF 13 (tw T))), (T.a0, .inl (cI, T.N, .inl T.kd)), (T.a1, .inl (cL, T.N, .inr (.inl T.nu))), (T.a2, .inl (cI, T.N, .inl T.st)), (T.a3, .inl (cI, T.N, .inl T.ln)), (T.a4, .inl (cI, T.N, .inl T.ki)), (T.a5, .inl (cI, T.N, .inl T.nx)), (T.a6, .inl (cI, T.N, .inl T.ns)), (T.a7, .inl (cI, T.N, .inl T.nl)), (T.a8, .inl (cI, T.N, .inl T.pa)), (T.a9, .inl (cI, T.N, .inl T.pl)), (T.au, .inl (cC, T.U, .inl T.un))] sz.size)) 0 0 (va_A [(mo, .inr (13, MF 30 (nf v s0.1 s0.2.1))), (qo, .inl (cB, 16392, .inl s0.2.2)), (t, .inr (12, MF 13 (tw T))), (T.a0, .inl (cI, T.N, .inl T.kd)), (T.a1, .inl (cL, T.N, .inr (.inl T.nu))), (T.a2, .inl (cI, T.N, .inl T.st)), (T.a3, .inl (cI, T.N, .inl T.ln)), (T.a4, .inl (cI, T.N, .inl T.ki)), (T.a5, .inl (cI, T.N, .inl T.nx)), (T.a6, .inl (cI, T.N, .inl T.ns)), (T.a7, .inl (cI, T.N, .inl T.nl)), (T.a8, .inl (cI, T.N, .inl T.pa)), (T.a9, .inl (cI, T.N, .inl T.pl)), (T.au, .inl (cC, T.U, .inl T.un))] sz.size)
set_option maxHeartbeats 4000000 in
set_option maxRecDepth 100000 in
/-- the reference: path -/
theorem c_path0 : PTC 0 := by sorry
set_option maxHeartbeats 4000000 in
set_option maxRecDepth 100000 in
/-- the reference: path -/
theorem c_pathS (k : Nat) (hk9 : k + 1 ≤ 40) (hI9 : PTC k) : PTC (k + 1) := by sorry
theorem c_path : ∀ k, k ≤ 40 → PTC k := by sorry
end
section
/-- fields of the reference that asked may change -/
abbrev akF (j : Nat) : Prop := j = 4 ∨ j = 6 ∨ j = 7 ∨ j = 8 ∨ j = 9 ∨ j = 19 ∨ j = 20 ∨ j = 21 ∨ j = 23 ∨ j = 25 ∨ j = 26 ∨ j = 27 ∨ j = 28
theorem akF_n {j : Nat} (h : ¬ akF j) : j ≠ 4 ∧ j ≠ 6 ∧ j ≠ 7 ∧ j ≠ 8 ∧ j ≠ 9 ∧ j ≠ 19 ∧ j ≠ 20 ∧ j ≠ 21 ∧ j ≠ 23 ∧ j ≠ 25 ∧ j ≠ 26 ∧ j ≠ 27 ∧ j ≠ 28 := by sorry
theorem kcap_mono {Q : QS} {a b : Nat} (h : a ≤ b) : kcap Q a ≤ kcap Q b := by sorry
theorem GQ.mono {a b a2 b2 : Nat} {Q Q2 : QS} {V V2 : TS} (h : GQ a b Q V Q2 V2) (h1 : a ≤ a2) (h2 : b ≤ b2) : GQ a2 b2 Q V Q2 V2 := by sorry
theorem es_000 {v : Nat → Value} : va_up (va_up (va_up v 26 (.int 0)) 27 (.int 0)) 25 (.int 0) = es v 0 0 0 := by sorry
theorem clr_ok {T : TS} (h : TOK T) : TOK T.clr := by sorry
/-- what a kept query must be -/
def QI (qg : Nat → Int32) (q9 : Int32) : Prop := q9 < 0 ∨ ∃ (n : Nat) (z : Bool × QT), q9 = nI n ∧ n ≤ 4096 ∧ pQ qg n = some z
/-- what asked answers: no such place; nothing there; the nodes, or too much -/
def AKo (g : Nat → Nat → Int32) (lf tf qg : Nat → Int32) (q9 dd res : Int32) (cd : Value) (T : TS) (li : Nat → Int32) (v25 v26 : Value) : Prop := (¬ (0 ≤ dd ∧ dd < 4) ∧ res = -1 ∧ cd = .int 1) ∨ (∃ k : Nat, dd = nI k ∧ k < 4 ∧ (tf k = 0 ∨ q9 < 0) ∧ res = -1 ∧ cd = .int 2) ∨ (∃ (k n : Nat) (x : JVt 32) (n2 : Nat) (z : Bool × QT), dd = nI k ∧ k < 4 ∧ tf k = 1 ∧ lf k = nI n ∧ n ≤ 4096 ∧ pR (g k) n = some x ∧ q9 = nI n2 ∧ n2 ≤ 4096 ∧ pQ qg n2 = some z ∧ ((res = nI 0 ∧ cd = .int 0 ∧ ∃ tp dn : Nat, v25 = .int (nI tp) ∧ v26 = .int (nI dn) ∧ dn ≤ 10000 ∧ tp ≤ 10000 ∧ PUr T (z.2 (rtN x) (rtN x)) 0 0 tp dn 0 li ∧ RepV T 32 0 T.ct x) ∨ (res = -1 ∧ cd = .int 3 ∧ 10000 < (z.2 (rtN x) (rtN x)).2)))
abbrev b_Mo_asked : ByteArray := prog_14_method_66_code
def y_Mo_asked : MethodName := ⟨"QueryBenchModel", "asked", "(I)I"⟩
abbrev k_Mo_asked : Cond := .code y_Mo_asked b_Mo_asked 4 (some .int)
theorem i_Mo_asked : k_Mo_asked ∈ gtbl := by sorry
theorem d_Mo_asked_0 : decode b_Mo_asked 0 = .ok (.aload_n 0, 1) := by sorry
theorem d_Mo_asked_1 : decode b_Mo_asked 1 = .ok (.iload_n 1, 1) := by sorry
theorem d_Mo_asked_2 : decode b_Mo_asked 2 = .ok (.ifCond .lt 12, 3) := by sorry
theorem d_Mo_asked_5 : decode b_Mo_asked 5 = .ok (.iload_n 1, 1) := by sorry
theorem d_Mo_asked_6 : decode b_Mo_asked 6 = .ok (.iconst 4, 1) := by sorry
theorem d_Mo_asked_7 : decode b_Mo_asked 7 = .ok (.if_icmp .ge 7, 3) := by sorry
theorem d_Mo_asked_10 : decode b_Mo_asked 10 = .ok (.iconst 1, 1) := by sorry
theorem d_Mo_asked_11 : decode b_Mo_asked 11 = .ok (.goto 4, 3) := by sorry
theorem d_Mo_asked_14 : decode b_Mo_asked 14 = .ok (.iconst 0, 1) := by sorry
theorem d_Mo_asked_15 : decode b_Mo_asked 15 = .ok (.iconst 1, 1) := by sorry
theorem d_Mo_asked_16 : decode b_Mo_asked 16 = .ok (.invokevirtual 122, 3) := by sorry
theorem d_Mo_asked_19 : decode b_Mo_asked 19 = .ok (.ifCond .eq 32, 3) := by sorry
theorem d_Mo_asked_22 : decode b_Mo_asked 22 = .ok (.aload_n 0, 1) := by sorry
theorem d_Mo_asked_23 : decode b_Mo_asked 23 = .ok (.aload_n 0, 1) := by sorry
theorem d_Mo_asked_24 : decode b_Mo_asked 24 = .ok (.getfield 32, 3) := by sorry
theorem d_Mo_asked_27 : decode b_Mo_asked 27 = .ok (.iload_n 1, 1) := by sorry
theorem d_Mo_asked_28 : decode b_Mo_asked 28 = .ok (.baload, 1) := by sorry
theorem d_Mo_asked_29 : decode b_Mo_asked 29 = .ok (.ifCond .eq 14, 3) := by sorry
theorem d_Mo_asked_32 : decode b_Mo_asked 32 = .ok (.aload_n 0, 1) := by sorry
theorem d_Mo_asked_33 : decode b_Mo_asked 33 = .ok (.getfield 39, 3) := by sorry
theorem d_Mo_asked_36 : decode b_Mo_asked 36 = .ok (.ifCond .lt 7, 3) := by sorry
theorem d_Mo_asked_39 : decode b_Mo_asked 39 = .ok (.iconst 1, 1) := by sorry
theorem d_Mo_asked_40 : decode b_Mo_asked 40 = .ok (.goto 4, 3) := by sorry
theorem d_Mo_asked_43 : decode b_Mo_asked 43 = .ok (.iconst 0, 1) := by sorry
theorem d_Mo_asked_44 : decode b_Mo_asked 44 = .ok (.iconst 2, 1) := by sorry
theorem d_Mo_asked_45 : decode b_Mo_asked 45 = .ok (.invokevirtual 122, 3) := by sorry
theorem d_Mo_asked_48 : decode b_Mo_asked 48 = .ok (.ifCond .ne 5, 3) := by sorry
theorem d_Mo_asked_51 : decode b_Mo_asked 51 = .ok (.iconst (-1), 1) := by sorry
theorem d_Mo_asked_52 : decode b_Mo_asked 52 = .ok (.ireturn, 1) := by sorry
theorem d_Mo_asked_53 : decode b_Mo_asked 53 = .ok (.aload_n 0, 1) := by sorry
theorem d_Mo_asked_54 : decode b_Mo_asked 54 = .ok (.aload_n 0, 1) := by sorry
theorem d_Mo_asked_55 : decode b_Mo_asked 55 = .ok (.aload_n 0, 1) := by sorry
theorem d_Mo_asked_56 : decode b_Mo_asked 56 = .ok (.getfield 25, 3) := by sorry
theorem d_Mo_asked_59 : decode b_Mo_asked 59 = .ok (.iload_n 1, 1) := by sorry
theorem d_Mo_asked_60 : decode b_Mo_asked 60 = .ok (.aaload, 1) := by sorry
theorem d_Mo_asked_61 : decode b_Mo_asked 61 = .ok (.aload_n 0, 1) := by sorry
theorem d_Mo_asked_62 : decode b_Mo_asked 62 = .ok (.getfield 28, 3) := by sorry
theorem d_Mo_asked_65 : decode b_Mo_asked 65 = .ok (.iload_n 1, 1) := by sorry
theorem d_Mo_asked_66 : decode b_Mo_asked 66 = .ok (.iaload, 1) := by sorry
theorem d_Mo_asked_67 : decode b_Mo_asked 67 = .ok (.aload_n 0, 1) := by sorry
theorem d_Mo_asked_68 : decode b_Mo_asked 68 = .ok (.getfield 45, 3) := by sorry
theorem d_Mo_asked_71 : decode b_Mo_asked 71 = .ok (.invokevirtual 406, 3) := by sorry
theorem d_Mo_asked_74 : decode b_Mo_asked 74 = .ok (.putfield 354, 3) := by sorry
theorem d_Mo_asked_77 : decode b_Mo_asked 77 = .ok (.aload_n 0, 1) := by sorry
theorem d_Mo_asked_78 : decode b_Mo_asked 78 = .ok (.aload_n 0, 1) := by sorry
theorem d_Mo_asked_79 : decode b_Mo_asked 79 = .ok (.getfield 36, 3) := by sorry
theorem d_Mo_asked_82 : decode b_Mo_asked 82 = .ok (.aload_n 0, 1) := by sorry
theorem d_Mo_asked_83 : decode b_Mo_asked 83 = .ok (.getfield 39, 3) := by sorry
theorem d_Mo_asked_86 : decode b_Mo_asked 86 = .ok (.invokevirtual 416, 3) := by sorry
theorem d_Mo_asked_89 : decode b_Mo_asked 89 = .ok (.istore_n 2, 1) := by sorry
theorem d_Mo_asked_90 : decode b_Mo_asked 90 = .ok (.aload_n 0, 1) := by sorry
theorem d_Mo_asked_91 : decode b_Mo_asked 91 = .ok (.iconst 0, 1) := by sorry
theorem d_Mo_asked_92 : decode b_Mo_asked 92 = .ok (.putfield 342, 3) := by sorry
theorem d_Mo_asked_95 : decode b_Mo_asked 95 = .ok (.aload_n 0, 1) := by sorry
theorem d_Mo_asked_96 : decode b_Mo_asked 96 = .ok (.iconst 0, 1) := by sorry
theorem d_Mo_asked_97 : decode b_Mo_asked 97 = .ok (.putfield 345, 3) := by sorry
theorem d_Mo_asked_100 : decode b_Mo_asked 100 = .ok (.aload_n 0, 1) := by sorry
theorem d_Mo_asked_101 : decode b_Mo_asked 101 = .ok (.iconst 0, 1) := by sorry
theorem d_Mo_asked_102 : decode b_Mo_asked 102 = .ok (.putfield 351, 3) := by sorry
theorem d_Mo_asked_105 : decode b_Mo_asked 105 = .ok (.aload_n 0, 1) := by sorry
theorem d_Mo_asked_106 : decode b_Mo_asked 106 = .ok (.getfield 62, 3) := by sorry
theorem d_Mo_asked_109 : decode b_Mo_asked 109 = .ok (.invokevirtual 229, 3) := by sorry
theorem d_Mo_asked_112 : decode b_Mo_asked 112 = .ok (.aload_n 0, 1) := by sorry
theorem d_Mo_asked_113 : decode b_Mo_asked 113 = .ok (.iload_n 2, 1) := by sorry
theorem d_Mo_asked_114 : decode b_Mo_asked 114 = .ok (.aload_n 0, 1) := by sorry
theorem d_Mo_asked_115 : decode b_Mo_asked 115 = .ok (.getfield 354, 3) := by sorry
theorem d_Mo_asked_118 : decode b_Mo_asked 118 = .ok (.invokevirtual 378, 3) := by sorry
theorem d_Mo_asked_121 : decode b_Mo_asked 121 = .ok (.istore_n 3, 1) := by sorry
theorem d_Mo_asked_122 : decode b_Mo_asked 122 = .ok (.aload_n 0, 1) := by sorry
theorem d_Mo_asked_123 : decode b_Mo_asked 123 = .ok (.aload_n 0, 1) := by sorry
theorem d_Mo_asked_124 : decode b_Mo_asked 124 = .ok (.getfield 345, 3) := by sorry
theorem d_Mo_asked_127 : decode b_Mo_asked 127 = .ok (.ifCond .ne 7, 3) := by sorry
theorem d_Mo_asked_130 : decode b_Mo_asked 130 = .ok (.iconst 1, 1) := by sorry
theorem d_Mo_asked_131 : decode b_Mo_asked 131 = .ok (.goto 4, 3) := by sorry
theorem d_Mo_asked_134 : decode b_Mo_asked 134 = .ok (.iconst 0, 1) := by sorry
theorem d_Mo_asked_135 : decode b_Mo_asked 135 = .ok (.iconst 3, 1) := by sorry
theorem d_Mo_asked_136 : decode b_Mo_asked 136 = .ok (.invokevirtual 122, 3) := by sorry
theorem d_Mo_asked_139 : decode b_Mo_asked 139 = .ok (.ifCond .eq 7, 3) := by sorry
theorem d_Mo_asked_142 : decode b_Mo_asked 142 = .ok (.iload_n 3, 1) := by sorry
theorem d_Mo_asked_143 : decode b_Mo_asked 143 = .ok (.goto 4, 3) := by sorry
theorem d_Mo_asked_146 : decode b_Mo_asked 146 = .ok (.iconst (-1), 1) := by sorry
theorem d_Mo_asked_147 : decode b_Mo_asked 147 = .ok (.ireturn, 1) := by sorry
set_option maxHeartbeats 4000000 in
set_option maxRecDepth 100000 in
/-- the reference: asked -/
theorem c_Mo_asked (l : Launch) (dC : Nat → ClassId) (dI : Nat → Nat → Nat) (mo : Nat) (sz : Heap) (v : Nat → Value) (cB cI cL cC cH cZ : ClassId) (hh hl_ ht_ qt ql t tv tw9 : Nat) (ra9 : Nat → Nat) (lf tf qg li : Nat → Int32) (g : Nat → Nat → Int32) (K : Nat → Nat × Nat) (T VA Z : TS) (Q : QS) (q9 dd : Int32) (hT : TOK T) (hVA : TOK VA) (hZ : TOK Z) (hQ : QOK Q) (eQR : Q.R = 0) (hHI : HI g lf tf) (hQI : QI qg q9) (h13 : v 13 = .ref hh) (h14 : v 14 = .ref hl_) (h15 : v 15 = .ref ht_) (h16 : v 16 = .ref qt) (h17 : v 17 = .int q9) (h18 : v 18 = .ref t) (h19 : v 19 = .ref Q.qq) (h20 : v 20 = .ref Q.qe) (h22 : v 22 = .ref tv) (h24 : v 24 = .ref ql) (h29 : v 29 = .ref tw9) : Met l y_Mo_asked (k_Mo_asked :: gtbl) ({ frames := 900, cells := (ncap T 4108 + qcap T 4108) + (kcap Q 32777 + qcap VA.clr 4108) + (ncap Z.clr (Z.clr.ct + capd 16) + qcap Z.clr (Z.clr.us + capd 16)), slots := (20 * ncap T 4108 + 2 * qcap T 4108) + (22 * kcap Q 32777 + 2 * qcap VA.clr 4108) + (20 * ncap Z.clr (Z.clr.ct + capd 16) + 2 * qcap Z.clr (Z.clr.us + capd 16)), locals := 44000 }) (va_Pc [.ref mo, .int dd] (me K dC dI [(mo, .inr (13, MF 30 v)), (hh, .inl (cH, 4, .inr (.inr (.inr (.inr (fun j9 => some (ra9 j9))))))), ((ra9 0), .inl (cB, 4096, .inl (g 0))), ((ra9 1), .inl (cB, 4096, .inl (g 1))), ((ra9 2), .inl (cB, 4096, .inl (g 2))), ((ra9 3), .inl (cB, 4096, .inl (g 3))), (hl_, .inl (cI, 4, .inl lf)), (ht_, .inl (cZ, 4, .inl tf)), (qt, .inl (cB, 4096, .inl qg)), (Q.qq, .inl (cI, (8 * Q.C), .inl Q.qf)), (Q.qe, .inl (cL, (3 * Q.C), .inr (.inl Q.ef))), (t, .inr (12, MF 13 (tw T))), (T.a0, .inl (cI, T.N, .inl T.kd)), (T.a1, .inl (cL, T.N, .inr (.inl T.nu))), (T.a2, .inl (cI, T.N, .inl T.st)), (T.a3, .inl (cI, T.N, .inl T.ln)), (T.a4, .inl (cI, T.N, .inl T.ki)), (T.a5, .inl (cI, T.N, .inl T.nx)), (T.a6, .inl (cI, T.N, .inl T.ns)), (T.a7, .inl (cI, T.N, .inl T.nl)), (T.a8, .inl (cI, T.N, .inl T.pa)), (T.a9, .inl (cI, T.N, .inl T.pl)), (T.au, .inl (cC, T.U, .inl T.un)), (tv, .inr (12, MF 13 (tw VA))), (VA.au, .inl (cC, VA.U, .inl VA.un)), (ql, .inl (cI, 20100, .inl li)), (tw9, .inr (12, MF 13 (tw Z))), (Z.a0, .inl (cI, Z.N, .inl Z.kd)), (Z.a1, .inl (cL, Z.N, .inr (.inl Z.nu))), (Z.a2, .inl (cI, Z.N, .inl Z.st)), (Z.a3, .inl (cI, Z.N, .inl Z.ln)), (Z.a4, .inl (cI, Z.N, .inl Z.ki)), (Z.a5, .inl (cI, Z.N, .inl Z.nx)), (Z.a6, .inl (cI, Z.N, .inl Z.ns)), (Z.a7, .inl (cI, Z.N, .inl Z.nl)), (Z.a8, .inl (cI, Z.N, .inl Z.pa)), (Z.a9, .inl (cI, Z.N, .inl Z.pl)), (Z.au, .inl (cC, Z.U, .inl Z.un))] [(cB, .byte), (cI, .int), (cL, .long), (cC, .char), (cH, .array .byte), (cZ, .boolean)] sz)) (va_Qi (fun (res : Int32) (u : (Nat → Value) × TS × QS × TS × (Nat → Int32) × TS) => TOK u.2.1 ∧ GB 4108 4108 T u.2.1 ∧ QOK u.2.2.1 ∧ TOK u.2.2.2.1 ∧ GQ 32777 4108 Q VA.clr u.2.2.1 u.2.2.2.1 ∧ TOK u.2.2.2.2.2 ∧ GB (Z.clr.ct + capd 16) (Z.clr.us + capd 16) Z.clr u.2.2.2.2.2 ∧ (∀ j, ¬ akF j → u.1 j = v j) ∧ u.1 19 = .ref u.2.2.1.qq ∧ u.1 20 = .ref u.2.2.1.qe ∧ AKo g lf tf qg q9 dd res (u.1 4) u.2.1 u.2.2.2.2.1 (u.1 25) (u.1 26) ∧ (res = -1 ∨ (res = nI 0 ∧ u.2.1.ct ≤ 4096 ∧ ∃ tp dn, u.1 25 = .int (nI tp) ∧ u.1 26 = .int (nI dn) ∧ tp ≤ 10000 ∧ dn ≤ 20000 ∧ LI u.2.1 u.2.2.2.2.1 tp))) (fun u t9 => mz dC dI [(mo, .inr (13, MF 30 u.1)), (hh, .inl (cH, 4, .inr (.inr (.inr (.inr (fun j9 => some (ra9 j9))))))), ((ra9 0), .inl (cB, 4096, .inl (g 0))), ((ra9 1), .inl (cB, 4096, .inl (g 1))), ((ra9 2), .inl (cB, 4096, .inl (g 2))), ((ra9 3), .inl (cB, 4096, .inl (g 3))), (hl_, .inl (cI, 4, .inl lf)), (ht_, .inl (cZ, 4, .inl tf)), (qt, .inl (cB, 4096, .inl qg)), (u.2.2.1.qq, .inl (cI, (8 * u.2.2.1.C), .inl u.2.2.1.qf)), (u.2.2.1.qe, .inl (cL, (3 * u.2.2.1.C), .inr (.inl u.2.2.1.ef))), (t, .inr (12, MF 13 (tw u.2.1))), (u.2.1.a0, .inl (cI, u.2.1.N, .inl u.2.1.kd)), (u.2.1.a1, .inl (cL, u.2.1.N, .inr (.inl u.2.1.nu))), (u.2.1.a2, .inl (cI, u.2.1.N, .inl u.2.1.st)), (u.2.1.a3, .inl (cI, u.2.1.N, .inl u.2.1.ln)), (u.2.1.a4, .inl (cI, u.2.1.N, .inl u.2.1.ki)), (u.2.1.a5, .inl (cI, u.2.1.N, .inl u.2.1.nx)), (u.2.1.a6, .inl (cI, u.2.1.N, .inl u.2.1.ns)), (u.2.1.a7, .inl (cI, u.2.1.N, .inl u.2.1.nl)), (u.2.1.a8, .inl (cI, u.2.1.N, .inl u.2.1.pa)), (u.2.1.a9, .inl (cI, u.2.1.N, .inl u.2.1.pl)), (u.2.1.au, .inl (cC, u.2.1.U, .inl u.2.1.un)), (tv, .inr (12, MF 13 (tw u.2.2.2.1))), (u.2.2.2.1.au, .inl (cC, u.2.2.2.1.U, .inl u.2.2.2.1.un)), (ql, .inl (cI, 20100, .inl u.2.2.2.2.1)), (tw9, .inr (12, MF 13 (tw u.2.2.2.2.2))), (u.2.2.2.2.2.a0, .inl (cI, u.2.2.2.2.2.N, .inl u.2.2.2.2.2.kd)), (u.2.2.2.2.2.a1, .inl (cL, u.2.2.2.2.2.N, .inr (.inl u.2.2.2.2.2.nu))), (u.2.2.2.2.2.a2, .inl (cI, u.2.2.2.2.2.N, .inl u.2.2.2.2.2.st)), (u.2.2.2.2.2.a3, .inl (cI, u.2.2.2.2.2.N, .inl u.2.2.2.2.2.ln)), (u.2.2.2.2.2.a4, .inl (cI, u.2.2.2.2.2.N, .inl u.2.2.2.2.2.ki)), (u.2.2.2.2.2.a5, .inl (cI, u.2.2.2.2.2.N, .inl u.2.2.2.2.2.nx)), (u.2.2.2.2.2.a6, .inl (cI, u.2.2.2.2.2.N, .inl u.2.2.2.2.2.ns)), (u.2.2.2.2.2.a7, .inl (cI, u.2.2.2.2.2.N, .inl u.2.2.2.2.2.nl)), (u.2.2.2.2.2.a8, .inl (cI, u.2.2.2.2.2.N, .inl u.2.2.2.2.2.pa)), (u.2.2.2.2.2.a9, .inl (cI, u.2.2.2.2.2.N, .inl u.2.2.2.2.2.pl)), (u.2.2.2.2.2.au, .inl (cC, u.2.2.2.2.2.U, .inl u.2.2.2.2.2.un))] [(cB, .byte), (cI, .int), (cL, .long), (cC, .char), (cH, .array .byte), (cZ, .boolean)] (va_A [(mo, .inr (13, MF 30 v)), (hh, .inl (cH, 4, .inr (.inr (.inr (.inr (fun j9 => some (ra9 j9))))))), ((ra9 0), .inl (cB, 4096, .inl (g 0))), ((ra9 1), .inl (cB, 4096, .inl (g 1))), ((ra9 2), .inl (cB, 4096, .inl (g 2))), ((ra9 3), .inl (cB, 4096, .inl (g 3))), (hl_, .inl (cI, 4, .inl lf)), (ht_, .inl (cZ, 4, .inl tf)), (qt, .inl (cB, 4096, .inl qg)), (Q.qq, .inl (cI, (8 * Q.C), .inl Q.qf)), (Q.qe, .inl (cL, (3 * Q.C), .inr (.inl Q.ef))), (t, .inr (12, MF 13 (tw T))), (T.a0, .inl (cI, T.N, .inl T.kd)), (T.a1, .inl (cL, T.N, .inr (.inl T.nu))), (T.a2, .inl (cI, T.N, .inl T.st)), (T.a3, .inl (cI, T.N, .inl T.ln)), (T.a4, .inl (cI, T.N, .inl T.ki)), (T.a5, .inl (cI, T.N, .inl T.nx)), (T.a6, .inl (cI, T.N, .inl T.ns)), (T.a7, .inl (cI, T.N, .inl T.nl)), (T.a8, .inl (cI, T.N, .inl T.pa)), (T.a9, .inl (cI, T.N, .inl T.pl)), (T.au, .inl (cC, T.U, .inl T.un)), (tv, .inr (12, MF 13 (tw VA))), (VA.au, .inl (cC, VA.U, .inl VA.un)), (ql, .inl (cI, 20100, .inl li)), (tw9, .inr (12, MF 13 (tw Z))), (Z.a0, .inl (cI, Z.N, .inl Z.kd)), (Z.a1, .inl (cL, Z.N, .inr (.inl Z.nu))), (Z.a2, .inl (cI, Z.N, .inl Z.st)), (Z.a3, .inl (cI, Z.N, .inl Z.ln)), (Z.a4, .inl (cI, Z.N, .inl Z.ki)), (Z.a5, .inl (cI, Z.N, .inl Z.nx)), (Z.a6, .inl (cI, Z.N, .inl Z.ns)), (Z.a7, .inl (cI, Z.N, .inl Z.nl)), (Z.a8, .inl (cI, Z.N, .inl Z.pa)), (Z.a9, .inl (cI, Z.N, .inl Z.pl)), (Z.au, .inl (cC, Z.U, .inl Z.un))] sz.size) t9 ∧ szk sz t9.heap (cE T u.2.1 + cQ Q VA.clr u.2.2.1 u.2.2.2.1 + cE Z.clr u.2.2.2.2.2) (sE T u.2.1 + sQ Q VA.clr u.2.2.1 u.2.2.2.1 + sE Z.clr u.2.2.2.2.2)) (va_A [(mo, .inr (13, MF 30 v)), (hh, .inl (cH, 4, .inr (.inr (.inr (.inr (fun j9 => some (ra9 j9))))))), ((ra9 0), .inl (cB, 4096, .inl (g 0))), ((ra9 1), .inl (cB, 4096, .inl (g 1))), ((ra9 2), .inl (cB, 4096, .inl (g 2))), ((ra9 3), .inl (cB, 4096, .inl (g 3))), (hl_, .inl (cI, 4, .inl lf)), (ht_, .inl (cZ, 4, .inl tf)), (qt, .inl (cB, 4096, .inl qg)), (Q.qq, .inl (cI, (8 * Q.C), .inl Q.qf)), (Q.qe, .inl (cL, (3 * Q.C), .inr (.inl Q.ef))), (t, .inr (12, MF 13 (tw T))), (T.a0, .inl (cI, T.N, .inl T.kd)), (T.a1, .inl (cL, T.N, .inr (.inl T.nu))), (T.a2, .inl (cI, T.N, .inl T.st)), (T.a3, .inl (cI, T.N, .inl T.ln)), (T.a4, .inl (cI, T.N, .inl T.ki)), (T.a5, .inl (cI, T.N, .inl T.nx)), (T.a6, .inl (cI, T.N, .inl T.ns)), (T.a7, .inl (cI, T.N, .inl T.nl)), (T.a8, .inl (cI, T.N, .inl T.pa)), (T.a9, .inl (cI, T.N, .inl T.pl)), (T.au, .inl (cC, T.U, .inl T.un)), (tv, .inr (12, MF 13 (tw VA))), (VA.au, .inl (cC, VA.U, .inl VA.un)), (ql, .inl (cI, 20100, .inl li)), (tw9, .inr (12, MF 13 (tw Z))), (Z.a0, .inl (cI, Z.N, .inl Z.kd)), (Z.a1, .inl (cL, Z.N, .inr (.inl Z.nu))), (Z.a2, .inl (cI, Z.N, .inl Z.st)), (Z.a3, .inl (cI, Z.N, .inl Z.ln)), (Z.a4, .inl (cI, Z.N, .inl Z.ki)), (Z.a5, .inl (cI, Z.N, .inl Z.nx)), (Z.a6, .inl (cI, Z.N, .inl Z.ns)), (Z.a7, .inl (cI, Z.N, .inl Z.nl)), (Z.a8, .inl (cI, Z.N, .inl Z.pa)), (Z.a9, .inl (cI, Z.N, .inl Z.pl)), (Z.au, .inl (cC, Z.U, .inl Z.un))] sz.size)) ((ncap T 4108 + qcap T 4108) + (kcap Q 32777 + qcap VA.clr 4108) + (ncap Z.clr (Z.clr.ct + capd 16) + qcap Z.clr (Z.clr.us + capd 16))) ((20 * ncap T 4108 + 2 * qcap T 4108) + (22 * kcap Q 32777 + 2 * qcap VA.clr 4108) + (20 * ncap Z.clr (Z.clr.ct + capd 16) + 2 * qcap Z.clr (Z.clr.us + capd 16))) (va_A [(mo, .inr (13, MF 30 v)), (hh, .inl (cH, 4, .inr (.inr (.inr (.inr (fun j9 => some (ra9 j9))))))), ((ra9 0), .inl (cB, 4096, .inl (g 0))), ((ra9 1), .inl (cB, 4096, .inl (g 1))), ((ra9 2), .inl (cB, 4096, .inl (g 2))), ((ra9 3), .inl (cB, 4096, .inl (g 3))), (hl_, .inl (cI, 4, .inl lf)), (ht_, .inl (cZ, 4, .inl tf)), (qt, .inl (cB, 4096, .inl qg)), (Q.qq, .inl (cI, (8 * Q.C), .inl Q.qf)), (Q.qe, .inl (cL, (3 * Q.C), .inr (.inl Q.ef))), (t, .inr (12, MF 13 (tw T))), (T.a0, .inl (cI, T.N, .inl T.kd)), (T.a1, .inl (cL, T.N, .inr (.inl T.nu))), (T.a2, .inl (cI, T.N, .inl T.st)), (T.a3, .inl (cI, T.N, .inl T.ln)), (T.a4, .inl (cI, T.N, .inl T.ki)), (T.a5, .inl (cI, T.N, .inl T.nx)), (T.a6, .inl (cI, T.N, .inl T.ns)), (T.a7, .inl (cI, T.N, .inl T.nl)), (T.a8, .inl (cI, T.N, .inl T.pa)), (T.a9, .inl (cI, T.N, .inl T.pl)), (T.au, .inl (cC, T.U, .inl T.un)), (tv, .inr (12, MF 13 (tw VA))), (VA.au, .inl (cC, VA.U, .inl VA.un)), (ql, .inl (cI, 20100, .inl li)), (tw9, .inr (12, MF 13 (tw Z))), (Z.a0, .inl (cI, Z.N, .inl Z.kd)), (Z.a1, .inl (cL, Z.N, .inr (.inl Z.nu))), (Z.a2, .inl (cI, Z.N, .inl Z.st)), (Z.a3, .inl (cI, Z.N, .inl Z.ln)), (Z.a4, .inl (cI, Z.N, .inl Z.ki)), (Z.a5, .inl (cI, Z.N, .inl Z.nx)), (Z.a6, .inl (cI, Z.N, .inl Z.ns)), (Z.a7, .inl (cI, Z.N, .inl Z.nl)), (Z.a8, .inl (cI, Z.N, .inl Z.pa)), (Z.a9, .inl (cI, Z.N, .inl Z.pl)), (Z.au, .inl (cC, Z.U, .inl Z.un))] sz.size) := by sorry
end
section
theorem w_1485 : (.methodLink "QueryBenchModel" 420 ⟨"QueryBenchModel", "asked", "(I)I"⟩ : Cond) ∈ gtbl := by sorry
theorem w_1487 : (.instanceMethod ⟨"QueryBenchModel", "asked", "(I)I"⟩ : Cond) ∈ gtbl := by sorry
/-- fields of the reference that run may change -/
abbrev rnF (j : Nat) : Prop := akF j ∨ j = 3 ∨ j = 11 ∨ j = 12
theorem rnF_n {j : Nat} (h : ¬ rnF j) : ¬ akF j ∧ j ≠ 3 ∧ j ≠ 11 ∧ j ≠ 12 := by sorry
theorem nf_o {v : Nat → Value} {k : Nat} {ov : Int32} : nf v k ov 12 = .int ov := by sorry
/-- what work answers -/
def WKo (g : Nat → Nat → Int32) (lf tf qg : Nat → Int32) (q9 dd res : Int32) (cd : Value) : Prop := (¬ (0 ≤ dd ∧ dd < 4) ∧ res = 0 ∧ cd = .int 1) ∨ (∃ k : Nat, dd = nI k ∧ k < 4 ∧ (tf k = 0 ∨ q9 < 0) ∧ res = 0 ∧ cd = .int 2) ∨ (∃ (k n : Nat) (x : JVt 32) (n2 : Nat) (z : Bool × QT), dd = nI k ∧ k < 4 ∧ tf k = 1 ∧ lf k = nI n ∧ n ≤ 4096 ∧ pR (g k) n = some x ∧ q9 = nI n2 ∧ n2 ≤ 4096 ∧ pQ qg n2 = some z ∧ (((z.2 (rtN x) (rtN x)).2 ≤ 10000 ∧ res = nI (z.2 (rtN x) (rtN x)).2 ∧ cd = .int 0) ∨ (10000 < (z.2 (rtN x) (rtN x)).2 ∧ res = 0 ∧ cd = .int 3)))
theorem AKo.bad {g : Nat → Nat → Int32} {lf tf qg : Nat → Int32} {q9 dd : Int32} {cd : Value} {T : TS} {li : Nat → Int32} {v25 v26 : Value} (h : AKo g lf tf qg q9 dd (-1) cd T li v25 v26) : WKo g lf tf qg q9 dd 0 cd := by sorry
theorem AKo.ok {g : Nat → Nat → Int32} {lf tf qg : Nat → Int32} {q9 dd : Int32} {cd : Value} {T : TS} {li : Nat → Int32} {v25 : Value} {dn : Nat} (hb : dn ≤ 20000) (h : AKo g lf tf qg q9 dd (nI 0) cd T li v25 (.int (nI dn))) : WKo g lf tf qg q9 dd (nI dn) cd := by sorry
/-- the document and the nodes that run is asked for -/
def RNx (g : Nat → Nat → Int32) (lf tf qg : Nat → Int32) (q9 dd : Int32) (x : JVt 32) (R : List NT × Nat) : Prop := ∃ (k n n2 : Nat) (z : Bool × QT), dd = nI k ∧ k < 4 ∧ tf k = 1 ∧ lf k = nI n ∧ n ≤ 4096 ∧ pR (g k) n = some x ∧ q9 = nI n2 ∧ n2 ≤ 4096 ∧ pQ qg n2 = some z ∧ R = z.2 (rtN x) (rtN x)
/-- what run answers and leaves -/
def RNo (g : Nat → Nat → Int32) (lf tf qg : Nat → Int32) (q9 dd res : Int32) (cd : Value) (rl rl2 : Nat) (rg rg2 : Nat → Int32) : Prop := (¬ (0 ≤ dd ∧ dd < 4) ∧ res = 0 ∧ cd = .int 1 ∧ rl2 = rl ∧ rg2 = rg) ∨ (∃ k : Nat, dd = nI k ∧ k < 4 ∧ (tf k = 0 ∨ q9 < 0) ∧ res = 0 ∧ cd = .int 2 ∧ rl2 = rl ∧ rg2 = rg) ∨ (∃ (x : JVt 32) (R : List NT × Nat), RNx g lf tf qg q9 dd x R ∧ ((R.2 ≤ 10000 ∧ (outB x R.1).length ≤ 16384 ∧ res = nI R.1.length ∧ cd = .int 0 ∧ rl2 = (outB x R.1).length ∧ ∀ i y, (outB x R.1)[i]? = some y → rg2 i = y.toInt8.toInt32) ∨ ((10000 < R.2 ∨ 16384 < (outB x R.1).length) ∧ res = 0 ∧ cd = .int 3 ∧ rl2 = rl ∧ rg2 = rg)))
theorem AKo.rbad {g : Nat → Nat → Int32} {lf tf qg : Nat → Int32} {q9 dd : Int32} {cd : Value} {T : TS} {li : Nat → Int32} {v25 v26 : Value} {rl : Nat} {rg : Nat → Int32} (h : AKo g lf tf qg q9 dd (-1) cd T li v25 v26) : RNo g lf tf qg q9 dd 0 cd rl rl rg rg := by sorry
theorem AKo.nd {g : Nat → Nat → Int32} {lf tf qg : Nat → Int32} {q9 dd : Int32} {cd : Value} {T : TS} {li : Nat → Int32} {v26 : Value} {tp : Nat} (hb : tp ≤ 10000) (h : AKo g lf tf qg q9 dd (nI 0) cd T li (.int (nI tp)) v26) : ∃ (x : JVt 32) (R : List NT × Nat), RNx g lf tf qg q9 dd x R ∧ R.2 ≤ 10000 ∧ tp = R.1.length ∧ LIn T li 0 R.1 ∧ RepV T 32 0 T.ct x := by sorry
theorem penL_nil9 {s : PS} : penL s [] = s := by sorry
theorem outB_0 {x : JVt 32} {l : List NT} : outB x (l.take 0) = [] := by sorry
theorem outB_t {x : JVt 32} {l : List NT} {k : Nat} {nd : NT} (h : l[k]? = some nd) : outB x (l.take (k + 1)) = outB x (l.take k) ++ rowB x nd := by sorry
abbrev b_Mo_work : ByteArray := prog_14_method_68_code
def y_Mo_work : MethodName := ⟨"QueryBenchModel", "work", "(I)I"⟩
abbrev k_Mo_work : Cond := .code y_Mo_work b_Mo_work 2 (some .int)
theorem i_Mo_work : k_Mo_work ∈ gtbl := by sorry
theorem d_Mo_work_0 : decode b_Mo_work 0 = .ok (.aload_n 0, 1) := by sorry
theorem d_Mo_work_1 : decode b_Mo_work 1 = .ok (.iload_n 1, 1) := by sorry
theorem d_Mo_work_2 : decode b_Mo_work 2 = .ok (.invokevirtual 420, 3) := by sorry
theorem d_Mo_work_5 : decode b_Mo_work 5 = .ok (.ifCond .ge 7, 3) := by sorry
theorem d_Mo_work_8 : decode b_Mo_work 8 = .ok (.iconst 0, 1) := by sorry
theorem d_Mo_work_9 : decode b_Mo_work 9 = .ok (.goto 7, 3) := by sorry
theorem d_Mo_work_12 : decode b_Mo_work 12 = .ok (.aload_n 0, 1) := by sorry
theorem d_Mo_work_13 : decode b_Mo_work 13 = .ok (.getfield 342, 3) := by sorry
theorem d_Mo_work_16 : decode b_Mo_work 16 = .ok (.ireturn, 1) := by sorry
set_option maxHeartbeats 4000000 in
set_option maxRecDepth 100000 in
/-- the reference: work -/
theorem c_Mo_work (l : Launch) (dC : Nat → ClassId) (dI : Nat → Nat → Nat) (mo : Nat) (sz : Heap) (v : Nat → Value) (cB cI cL cC cH cZ : ClassId) (hh hl_ ht_ qt ql t tv tw9 : Nat) (ra9 : Nat → Nat) (lf tf qg li : Nat → Int32) (g : Nat → Nat → Int32) (K : Nat → Nat × Nat) (T VA Z : TS) (Q : QS) (q9 dd : Int32) (hT : TOK T) (hVA : TOK VA) (hZ : TOK Z) (hQ : QOK Q) (eQR : Q.R = 0) (hHI : HI g lf tf) (hQI : QI qg q9) (h13 : v 13 = .ref hh) (h14 : v 14 = .ref hl_) (h15 : v 15 = .ref ht_) (h16 : v 16 = .ref qt) (h17 : v 17 = .int q9) (h18 : v 18 = .ref t) (h19 : v 19 = .ref Q.qq) (h20 : v 20 = .ref Q.qe) (h22 : v 22 = .ref tv) (h24 : v 24 = .ref ql) (h29 : v 29 = .ref tw9) : Met l y_Mo_work (k_Mo_work :: gtbl) ({ frames := 1000, cells := (ncap T 4108 + qcap T 4108) + (kcap Q 32777 + qcap VA.clr 4108) + (ncap Z.clr (Z.clr.ct + capd 16) + qcap Z.clr (Z.clr.us + capd 16)), slots := (20 * ncap T 4108 + 2 * qcap T 4108) + (22 * kcap Q 32777 + 2 * qcap VA.clr 4108) + (20 * ncap Z.clr (Z.clr.ct + capd 16) + 2 * qcap Z.clr (Z.clr.us + capd 16)), locals := 46000 }) (va_Pc [.ref mo, .int dd] (me K dC dI [(mo, .inr (13, MF 30 v)), (hh, .inl (cH, 4, .inr (.inr (.inr (.inr (fun j9 => some (ra9 j9))))))), ((ra9 0), .inl (cB, 4096, .inl (g 0))), ((ra9 1), .inl (cB, 4096, .inl (g 1))), ((ra9 2), .inl (cB, 4096, .inl (g 2))), ((ra9 3), .inl (cB, 4096, .inl (g 3))), (hl_, .inl (cI, 4, .inl lf)), (ht_, .inl (cZ, 4, .inl tf)), (qt, .inl (cB, 4096, .inl qg)), (Q.qq, .inl (cI, (8 * Q.C), .inl Q.qf)), (Q.qe, .inl (cL, (3 * Q.C), .inr (.inl Q.ef))), (t, .inr (12, MF 13 (tw T))), (T.a0, .inl (cI, T.N, .inl T.kd)), (T.a1, .inl (cL, T.N, .inr (.inl T.nu))), (T.a2, .inl (cI, T.N, .inl T.st)), (T.a3, .inl (cI, T.N, .inl T.ln)), (T.a4, .inl (cI, T.N, .inl T.ki)), (T.a5, .inl (cI, T.N, .inl T.nx)), (T.a6, .inl (cI, T.N, .inl T.ns)), (T.a7, .inl (cI, T.N, .inl T.nl)), (T.a8, .inl (cI, T.N, .inl T.pa)), (T.a9, .inl (cI, T.N, .inl T.pl)), (T.au, .inl (cC, T.U, .inl T.un)), (tv, .inr (12, MF 13 (tw VA))), (VA.au, .inl (cC, VA.U, .inl VA.un)), (ql, .inl (cI, 20100, .inl li)), (tw9, .inr (12, MF 13 (tw Z))), (Z.a0, .inl (cI, Z.N, .inl Z.kd)), (Z.a1, .inl (cL, Z.N, .inr (.inl Z.nu))), (Z.a2, .inl (cI, Z.N, .inl Z.st)), (Z.a3, .inl (cI, Z.N, .inl Z.ln)), (Z.a4, .inl (cI, Z.N, .inl Z.ki)), (Z.a5, .inl (cI, Z.N, .inl Z.nx)), (Z.a6, .inl (cI, Z.N, .inl Z.ns)), (Z.a7, .inl (cI, Z.N, .inl Z.nl)), (Z.a8, .inl (cI, Z.N, .inl Z.pa)), (Z.a9, .inl (cI, Z.N, .inl Z.pl)), (Z.au, .inl (cC, Z.U, .inl Z.un))] [(cB, .byte), (cI, .int), (cL, .long), (cC, .char), (cH, .array .byte), (cZ, .boolean)] sz)) (va_Qi (fun (res : Int32) (u : (Nat → Value) × TS × QS × TS × (Nat → Int32) × TS) => TOK u.2.1 ∧ GB 4108 4108 T u.2.1 ∧ QOK u.2.2.1 ∧ TOK u.2.2.2.1 ∧ GQ 32777 4108 Q VA.clr u.2.2.1 u.2.2.2.1 ∧ TOK u.2.2.2.2.2 ∧ GB (Z.clr.ct + capd 16) (Z.clr.us + capd 16) Z.clr u.2.2.2.2.2 ∧ (∀ j, ¬ akF j → u.1 j = v j) ∧ u.1 19 = .ref u.2.2.1.qq ∧ u.1 20 = .ref u.2.2.1.qe ∧ WKo g lf tf qg q9 dd res (u.1 4)) (fun u t9 => mz dC dI [(mo, .inr (13, MF 30 u.1)), (hh, .inl (cH, 4, .inr (.inr (.inr (.inr (fun j9 => some (ra9 j9))))))), ((ra9 0), .inl (cB, 4096, .inl (g 0))), ((ra9 1), .inl (cB, 4096, .inl (g 1))), ((ra9 2), .inl (cB, 4096, .inl (g 2))), ((ra9 3), .inl (cB, 4096, .inl (g 3))), (hl_, .inl (cI, 4, .inl lf)), (ht_, .inl (cZ, 4, .inl tf)), (qt, .inl (cB, 4096, .inl qg)), (u.2.2.1.qq, .inl (cI, (8 * u.2.2.1.C), .inl u.2.2.1.qf)), (u.2.2.1.qe, .inl (cL, (3 * u.2.2.1.C), .inr (.inl u.2.2.1.ef))), (t, .inr (12, MF 13 (tw u.2.1))), (u.2.1.a0, .inl (cI, u.2.1.N, .inl u.2.1.kd)), (u.2.1.a1, .inl (cL, u.2.1.N, .inr (.inl u.2.1.nu))), (u.2.1.a2, .inl (cI, u.2.1.N, .inl u.2.1.st)), (u.2.1.a3, .inl (cI, u.2.1.N, .inl u.2.1.ln)), (u.2.1.a4, .inl (cI, u.2.1.N, .inl u.2.1.ki)), (u.2.1.a5, .inl (cI, u.2.1.N, .inl u.2.1.nx)), (u.2.1.a6, .inl (cI, u.2.1.N, .inl u.2.1.ns)), (u.2.1.a7, .inl (cI, u.2.1.N, .inl u.2.1.nl)), (u.2.1.a8, .inl (cI, u.2.1.N, .inl u.2.1.pa)), (u.2.1.a9, .inl (cI, u.2.1.N, .inl u.2.1.pl)), (u.2.1.au, .inl (cC, u.2.1.U, .inl u.2.1.un)), (tv, .inr (12, MF 13 (tw u.2.2.2.1))), (u.2.2.2.1.au, .inl (cC, u.2.2.2.1.U, .inl u.2.2.2.1.un)), (ql, .inl (cI, 20100, .inl u.2.2.2.2.1)), (tw9, .inr (12, MF 13 (tw u.2.2.2.2.2))), (u.2.2.2.2.2.a0, .inl (cI, u.2.2.2.2.2.N, .inl u.2.2.2.2.2.kd)), (u.2.2.2.2.2.a1, .inl (cL, u.2.2.2.2.2.N, .inr (.inl u.2.2.2.2.2.nu))), (u.2.2.2.2.2.a2, .inl (cI, u.2.2.2.2.2.N, .inl u.2.2.2.2.2.st)), (u.2.2.2.2.2.a3, .inl (cI, u.2.2.2.2.2.N, .inl u.2.2.2.2.2.ln)), (u.2.2.2.2.2.a4, .inl (cI, u.2.2.2.2.2.N, .inl u.2.2.2.2.2.ki)), (u.2.2.2.2.2.a5, .inl (cI, u.2.2.2.2.2.N, .inl u.2.2.2.2.2.nx)), (u.2.2.2.2.2.a6, .inl (cI, u.2.2.2.2.2.N, .inl u.2.2.2.2.2.ns)), (u.2.2.2.2.2.a7, .inl (cI, u.2.2.2.2.2.N, .inl u.2.2.2.2.2.nl)), (u.2.2.2.2.2.a8, .inl (cI, u.2.2.2.2.2.N, .inl u.2.2.2.2.2.pa)), (u.2.2.2.2.2.a9, .inl (cI, u.2.2.2.2.2.N, .inl u.2.2.2.2.2.pl)), (u.2.2.2.2.2.au, .inl (cC, u.2.2.2.2.2.U, .inl u.2.2.2.2.2.un))] [(cB, .byte), (cI, .int), (cL, .long), (cC, .char), (cH, .array .byte), (cZ, .boolean)] (va_A [(mo, .inr (13, MF 30 v)), (hh, .inl (cH, 4, .inr (.inr (.inr (.inr (fun j9 => some (ra9 j9))))))), ((ra9 0), .inl (cB, 4096, .inl (g 0))), ((ra9 1), .inl (cB, 4096, .inl (g 1))), ((ra9 2), .inl (cB, 4096, .inl (g 2))), ((ra9 3), .inl (cB, 4096, .inl (g 3))), (hl_, .inl (cI, 4, .inl lf)), (ht_, .inl (cZ, 4, .inl tf)), (qt, .inl (cB, 4096, .inl qg)), (Q.qq, .inl (cI, (8 * Q.C), .inl Q.qf)), (Q.qe, .inl (cL, (3 * Q.C), .inr (.inl Q.ef))), (t, .inr (12, MF 13 (tw T))), (T.a0, .inl (cI, T.N, .inl T.kd)), (T.a1, .inl (cL, T.N, .inr (.inl T.nu))), (T.a2, .inl (cI, T.N, .inl T.st)), (T.a3, .inl (cI, T.N, .inl T.ln)), (T.a4, .inl (cI, T.N, .inl T.ki)), (T.a5, .inl (cI, T.N, .inl T.nx)), (T.a6, .inl (cI, T.N, .inl T.ns)), (T.a7, .inl (cI, T.N, .inl T.nl)), (T.a8, .inl (cI, T.N, .inl T.pa)), (T.a9, .inl (cI, T.N, .inl T.pl)), (T.au, .inl (cC, T.U, .inl T.un)), (tv, .inr (12, MF 13 (tw VA))), (VA.au, .inl (cC, VA.U, .inl VA.un)), (ql, .inl (cI, 20100, .inl li)), (tw9, .inr (12, MF 13 (tw Z))), (Z.a0, .inl (cI, Z.N, .inl Z.kd)), (Z.a1, .inl (cL, Z.N, .inr (.inl Z.nu))), (Z.a2, .inl (cI, Z.N, .inl Z.st)), (Z.a3, .inl (cI, Z.N, .inl Z.ln)), (Z.a4, .inl (cI, Z.N, .inl Z.ki)), (Z.a5, .inl (cI, Z.N, .inl Z.nx)), (Z.a6, .inl (cI, Z.N, .inl Z.ns)), (Z.a7, .inl (cI, Z.N, .inl Z.nl)), (Z.a8, .inl (cI, Z.N, .inl Z.pa)), (Z.a9, .inl (cI, Z.N, .inl Z.pl)), (Z.au, .inl (cC, Z.U, .inl Z.un))] sz.size) t9 ∧ szk sz t9.heap (cE T u.2.1 + cQ Q VA.clr u.2.2.1 u.2.2.2.1 + cE Z.clr u.2.2.2.2.2) (sE T u.2.1 + sQ Q VA.clr u.2.2.1 u.2.2.2.1 + sE Z.clr u.2.2.2.2.2)) (va_A [(mo, .inr (13, MF 30 v)), (hh, .inl (cH, 4, .inr (.inr (.inr (.inr (fun j9 => some (ra9 j9))))))), ((ra9 0), .inl (cB, 4096, .inl (g 0))), ((ra9 1), .inl (cB, 4096, .inl (g 1))), ((ra9 2), .inl (cB, 4096, .inl (g 2))), ((ra9 3), .inl (cB, 4096, .inl (g 3))), (hl_, .inl (cI, 4, .inl lf)), (ht_, .inl (cZ, 4, .inl tf)), (qt, .inl (cB, 4096, .inl qg)), (Q.qq, .inl (cI, (8 * Q.C), .inl Q.qf)), (Q.qe, .inl (cL, (3 * Q.C), .inr (.inl Q.ef))), (t, .inr (12, MF 13 (tw T))), (T.a0, .inl (cI, T.N, .inl T.kd)), (T.a1, .inl (cL, T.N, .inr (.inl T.nu))), (T.a2, .inl (cI, T.N, .inl T.st)), (T.a3, .inl (cI, T.N, .inl T.ln)), (T.a4, .inl (cI, T.N, .inl T.ki)), (T.a5, .inl (cI, T.N, .inl T.nx)), (T.a6, .inl (cI, T.N, .inl T.ns)), (T.a7, .inl (cI, T.N, .inl T.nl)), (T.a8, .inl (cI, T.N, .inl T.pa)), (T.a9, .inl (cI, T.N, .inl T.pl)), (T.au, .inl (cC, T.U, .inl T.un)), (tv, .inr (12, MF 13 (tw VA))), (VA.au, .inl (cC, VA.U, .inl VA.un)), (ql, .inl (cI, 20100, .inl li)), (tw9, .inr (12, MF 13 (tw Z))), (Z.a0, .inl (cI, Z.N, .inl Z.kd)), (Z.a1, .inl (cL, Z.N, .inr (.inl Z.nu))), (Z.a2, .inl (cI, Z.N, .inl Z.st)), (Z.a3, .inl (cI, Z.N, .inl Z.ln)), (Z.a4, .inl (cI, Z.N, .inl Z.ki)), (Z.a5, .inl (cI, Z.N, .inl Z.nx)), (Z.a6, .inl (cI, Z.N, .inl Z.ns)), (Z.a7, .inl (cI, Z.N, .inl Z.nl)), (Z.a8, .inl (cI, Z.N, .inl Z.pa)), (Z.a9, .inl (cI, Z.N, .inl Z.pl)), (Z.au, .inl (cC, Z.U, .inl Z.un))] sz.size)) ((ncap T 4108 + qcap T 4108) + (kcap Q 32777 + qcap VA.clr 4108) + (ncap Z.clr (Z.clr.ct + capd 16) + qcap Z.clr (Z.clr.us + capd 16))) ((20 * ncap T 4108 + 2 * qcap T 4108) + (22 * kcap Q 32777 + 2 * qcap VA.clr 4108) + (20 * ncap Z.clr (Z.clr.ct + capd 16) + 2 * qcap Z.clr (Z.clr.us + capd 16))) (va_A [(mo, .inr (13, MF 30 v)), (hh, .inl (cH, 4, .inr (.inr (.inr (.inr (fun j9 => some (ra9 j9))))))), ((ra9 0), .inl (cB, 4096, .inl (g 0))), ((ra9 1), .inl (cB, 4096, .inl (g 1))), ((ra9 2), .inl (cB, 4096, .inl (g 2))), ((ra9 3), .inl (cB, 4096, .inl (g 3))), (hl_, .inl (cI, 4, .inl lf)), (ht_, .inl (cZ, 4, .inl tf)), (qt, .inl (cB, 4096, .inl qg)), (Q.qq, .inl (cI, (8 * Q.C), .inl Q.qf)), (Q.qe, .inl (cL, (3 * Q.C), .inr (.inl Q.ef))), (t, .inr (12, MF 13 (tw T))), (T.a0, .inl (cI, T.N, .inl T.kd)), (T.a1, .inl (cL, T.N, .inr (.inl T.nu))), (T.a2, .inl (cI, T.N, .inl T.st)), (T.a3, .inl (cI, T.N, .inl T.ln)), (T.a4, .inl (cI, T.N, .inl T.ki)), (T.a5, .inl (cI, T.N, .inl T.nx)), (T.a6, .inl (cI, T.N, .inl T.ns)), (T.a7, .inl (cI, T.N, .inl T.nl)), (T.a8, .inl (cI, T.N, .inl T.pa)), (T.a9, .inl (cI, T.N, .inl T.pl)), (T.au, .inl (cC, T.U, .inl T.un)), (tv, .inr (12, MF 13 (tw VA))), (VA.au, .inl (cC, VA.U, .inl VA.un)), (ql, .inl (cI, 20100, .inl li)), (tw9, .inr (12, MF 13 (tw Z))), (Z.a0, .inl (cI, Z.N, .inl Z.kd)), (Z.a1, .inl (cL, Z.N, .inr (.inl Z.nu))), (Z.a2, .inl (cI, Z.N, .inl Z.st)), (Z.a3, .inl (cI, Z.N, .inl Z.ln)), (Z.a4, .inl (cI, Z.N, .inl Z.ki)), (Z.a5, .inl (cI, Z.N, .inl Z.nx)), (Z.a6, .inl (cI, Z.N, .inl Z.ns)), (Z.a7, .inl (cI, Z.N, .inl Z.nl)), (Z.a8, .inl (cI, Z.N, .inl Z.pa)), (Z.a9, .inl (cI, Z.N, .inl Z.pl)), (Z.au, .inl (cC, Z.U, .inl Z.un))] sz.size) := by sorry
end
section
abbrev b_Mo_run : ByteArray := prog_14_method_67_code
def y_Mo_run : MethodName := ⟨"QueryBenchModel", "run", "(I)I"⟩
abbrev k_Mo_run : Cond := .code y_Mo_run b_Mo_run 4 (some .int)
theorem i_Mo_run : k_Mo_run ∈ gtbl := by sorry
theorem d_Mo_run_0 : decode b_Mo_run 0 = .ok (.aload_n 0, 1) := by sorry
theorem d_Mo_run_1 : decode b_Mo_run 1 = .ok (.iload_n 1, 1) := by sorry
theorem d_Mo_run_2 : decode b_Mo_run 2 = .ok (.invokevirtual 420, 3) := by sorry
theorem d_Mo_run_5 : decode b_Mo_run 5 = .ok (.istore_n 2, 1) := by sorry
theorem d_Mo_run_6 : decode b_Mo_run 6 = .ok (.iload_n 2, 1) := by sorry
theorem d_Mo_run_7 : decode b_Mo_run 7 = .ok (.ifCond .ge 5, 3) := by sorry
theorem d_Mo_run_10 : decode b_Mo_run 10 = .ok (.iconst 0, 1) := by sorry
theorem d_Mo_run_11 : decode b_Mo_run 11 = .ok (.ireturn, 1) := by sorry
theorem d_Mo_run_12 : decode b_Mo_run 12 = .ok (.aload_n 0, 1) := by sorry
theorem d_Mo_run_13 : decode b_Mo_run 13 = .ok (.invokevirtual 410, 3) := by sorry
theorem d_Mo_run_16 : decode b_Mo_run 16 = .ok (.iload_n 2, 1) := by sorry
theorem d_Mo_run_17 : decode b_Mo_run 17 = .ok (.istore_n 3, 1) := by sorry
theorem d_Mo_run_18 : decode b_Mo_run 18 = .ok (.iload_n 3, 1) := by sorry
theorem d_Mo_run_19 : decode b_Mo_run 19 = .ok (.aload_n 0, 1) := by sorry
theorem d_Mo_run_20 : decode b_Mo_run 20 = .ok (.getfield 351, 3) := by sorry
theorem d_Mo_run_23 : decode b_Mo_run 23 = .ok (.if_icmp .ge 45, 3) := by sorry
theorem d_Mo_run_26 : decode b_Mo_run 26 = .ok (.aload_n 0, 1) := by sorry
theorem d_Mo_run_27 : decode b_Mo_run 27 = .ok (.aload_n 0, 1) := by sorry
theorem d_Mo_run_28 : decode b_Mo_run 28 = .ok (.getfield 59, 3) := by sorry
theorem d_Mo_run_31 : decode b_Mo_run 31 = .ok (.iload_n 3, 1) := by sorry
theorem d_Mo_run_32 : decode b_Mo_run 32 = .ok (.iaload, 1) := by sorry
theorem d_Mo_run_33 : decode b_Mo_run 33 = .ok (.invokevirtual 401, 3) := by sorry
theorem d_Mo_run_36 : decode b_Mo_run 36 = .ok (.aload_n 0, 1) := by sorry
theorem d_Mo_run_37 : decode b_Mo_run 37 = .ok (.bipush 32, 2) := by sorry
theorem d_Mo_run_39 : decode b_Mo_run 39 = .ok (.invokevirtual 239, 3) := by sorry
theorem d_Mo_run_42 : decode b_Mo_run 42 = .ok (.aload_n 0, 1) := by sorry
theorem d_Mo_run_43 : decode b_Mo_run 43 = .ok (.aload_n 0, 1) := by sorry
theorem d_Mo_run_44 : decode b_Mo_run 44 = .ok (.getfield 45, 3) := by sorry
theorem d_Mo_run_47 : decode b_Mo_run 47 = .ok (.aload_n 0, 1) := by sorry
theorem d_Mo_run_48 : decode b_Mo_run 48 = .ok (.getfield 59, 3) := by sorry
theorem d_Mo_run_51 : decode b_Mo_run 51 = .ok (.iload_n 3, 1) := by sorry
theorem d_Mo_run_52 : decode b_Mo_run 52 = .ok (.iaload, 1) := by sorry
theorem d_Mo_run_53 : decode b_Mo_run 53 = .ok (.invokevirtual 259, 3) := by sorry
theorem d_Mo_run_56 : decode b_Mo_run 56 = .ok (.aload_n 0, 1) := by sorry
theorem d_Mo_run_57 : decode b_Mo_run 57 = .ok (.bipush 10, 2) := by sorry
theorem d_Mo_run_59 : decode b_Mo_run 59 = .ok (.invokevirtual 239, 3) := by sorry
theorem d_Mo_run_62 : decode b_Mo_run 62 = .ok (.iinc 3 1, 3) := by sorry
theorem d_Mo_run_65 : decode b_Mo_run 65 = .ok (.goto (-47), 3) := by sorry
theorem d_Mo_run_68 : decode b_Mo_run 68 = .ok (.aload_n 0, 1) := by sorry
theorem d_Mo_run_69 : decode b_Mo_run 69 = .ok (.aload_n 0, 1) := by sorry
theorem d_Mo_run_70 : decode b_Mo_run 70 = .ok (.getfield 235, 3) := by sorry
theorem d_Mo_run_73 : decode b_Mo_run 73 = .ok (.ifCond .ne 7, 3) := by sorry
theorem d_Mo_run_76 : decode b_Mo_run 76 = .ok (.iconst 1, 1) := by sorry
theorem d_Mo_run_77 : decode b_Mo_run 77 = .ok (.goto 4, 3) := by sorry
theorem d_Mo_run_80 : decode b_Mo_run 80 = .ok (.iconst 0, 1) := by sorry
theorem d_Mo_run_81 : decode b_Mo_run 81 = .ok (.iconst 3, 1) := by sorry
theorem d_Mo_run_82 : decode b_Mo_run 82 = .ok (.invokevirtual 122, 3) := by sorry
theorem d_Mo_run_85 : decode b_Mo_run 85 = .ok (.ifCond .ne 5, 3) := by sorry
theorem d_Mo_run_88 : decode b_Mo_run 88 = .ok (.iconst 0, 1) := by sorry
theorem d_Mo_run_89 : decode b_Mo_run 89 = .ok (.ireturn, 1) := by sorry
theorem d_Mo_run_90 : decode b_Mo_run 90 = .ok (.aload_n 0, 1) := by sorry
theorem d_Mo_run_91 : decode b_Mo_run 91 = .ok (.aload_n 0, 1) := by sorry
theorem d_Mo_run_92 : decode b_Mo_run 92 = .ok (.getfield 232, 3) := by sorry
theorem d_Mo_run_95 : decode b_Mo_run 95 = .ok (.putfield 130, 3) := by sorry
theorem d_Mo_run_98 : decode b_Mo_run 98 = .ok (.iconst 0, 1) := by sorry
theorem d_Mo_run_99 : decode b_Mo_run 99 = .ok (.istore_n 3, 1) := by sorry
theorem d_Mo_run_100 : decode b_Mo_run 100 = .ok (.iload_n 3, 1) := by sorry
theorem d_Mo_run_101 : decode b_Mo_run 101 = .ok (.aload_n 0, 1) := by sorry
theorem d_Mo_run_102 : decode b_Mo_run 102 = .ok (.getfield 232, 3) := by sorry
theorem d_Mo_run_105 : decode b_Mo_run 105 = .ok (.if_icmp .ge 21, 3) := by sorry
theorem d_Mo_run_108 : decode b_Mo_run 108 = .ok (.aload_n 0, 1) := by sorry
theorem d_Mo_run_109 : decode b_Mo_run 109 = .ok (.getfield 13, 3) := by sorry
theorem d_Mo_run_112 : decode b_Mo_run 112 = .ok (.iload_n 3, 1) := by sorry
theorem d_Mo_run_113 : decode b_Mo_run 113 = .ok (.aload_n 0, 1) := by sorry
theorem d_Mo_run_114 : decode b_Mo_run 114 = .ok (.getfield 20, 3) := by sorry
theorem d_Mo_run_117 : decode b_Mo_run 117 = .ok (.iload_n 3, 1) := by sorry
theorem d_Mo_run_118 : decode b_Mo_run 118 = .ok (.baload, 1) := by sorry
theorem d_Mo_run_119 : decode b_Mo_run 119 = .ok (.bastore, 1) := by sorry
theorem d_Mo_run_120 : decode b_Mo_run 120 = .ok (.iinc 3 1, 3) := by sorry
theorem d_Mo_run_123 : decode b_Mo_run 123 = .ok (.goto (-23), 3) := by sorry
theorem d_Mo_run_126 : decode b_Mo_run 126 = .ok (.aload_n 0, 1) := by sorry
theorem d_Mo_run_127 : decode b_Mo_run 127 = .ok (.getfield 351, 3) := by sorry
theorem d_Mo_run_130 : decode b_Mo_run 130 = .ok (.iload_n 2, 1) := by sorry
theorem d_Mo_run_131 : decode b_Mo_run 131 = .ok (.isub, 1) := by sorry
theorem d_Mo_run_132 : decode b_Mo_run 132 = .ok (.ireturn, 1) := by sorry
set_option maxHeartbeats 4000000 in
set_option maxRecDepth 100000 in
/-- the reference: run -/
theorem c_Mo_run (l : Launch) (dC : Nat → ClassId) (dI : Nat → Nat → Nat) (mo : Nat) (sz : Heap) (v : Nat → Value) (cB cI cL cC cH cZ : ClassId) (hh hl_ ht_ qt ql t tv tw9 : Nat) (ra9 : Nat → Nat) (lf tf qg li : Nat → Int32) (g : Nat → Nat → Int32) (K : Nat → Nat × Nat) (T VA Z : TS) (Q : QS) (q9 dd : Int32) (qo qr rl : Nat) (og rg : Nat → Int32) (hrl : rl ≤ 16384) (hT : TOK T) (hVA : TOK VA) (hZ : TOK Z) (hQ : QOK Q) (eQR : Q.R = 0) (hHI : HI g lf tf) (hQI : QI qg q9) (h13 : v 13 = .ref hh) (h14 : v 14 = .ref hl_) (h15 : v 15 = .ref ht_) (h16 : v 16 = .ref qt) (h17 : v 17 = .int q9) (h18 : v 18 = .ref t) (h19 : v 19 = .ref Q.qq) (h20 : v 20 = .ref Q.qe) (h22 : v 22 = .ref tv) (h24 : v 24 = .ref ql) (h29 : v 29 = .ref tw9) (h2 : v 2 = .ref qr) (h3 : v 3 = .int (nI rl)) (h10 : v 10 = .ref qo) : Met l y_Mo_run (k_Mo_run :: gtbl) ({ frames := 1000, cells := (ncap T 4108 + qcap T 4108) + (kcap Q 32777 + qcap VA.clr 4108) + (ncap Z.clr (Z.clr.ct + capd 16) + qcap Z.clr (Z.clr.us + capd 16)), slots := (20 * ncap T 4108 + 2 * qcap T 4108) + (22 * kcap Q 32777 + 2 * qcap VA.clr 4108) + (20 * ncap Z.clr (Z.clr.ct + capd 16) + 2 * qcap Z.clr (Z.clr.us + capd 16)), locals := 46000 }) (va_Pc [.ref mo, .int dd] (me K dC dI [(mo, .inr (13, MF 30 v)), (hh, .inl (cH, 4, .inr (.inr (.inr (.inr (fun j9 => some (ra9 j9))))))), ((ra9 0), .inl (cB, 4096, .inl (g 0))), ((ra9 1), .inl (cB, 4096, .inl (g 1))), ((ra9 2), .inl (cB, 4096, .inl (g 2))), ((ra9 3), .inl (cB, 4096, .inl (g 3))), (hl_, .inl (cI, 4, .inl lf)), (ht_, .inl (cZ, 4, .inl tf)), (qt, .inl (cB, 4096, .inl qg)), (Q.qq, .inl (cI, (8 * Q.C), .inl Q.qf)), (Q.qe, .inl (cL, (3 * Q.C), .inr (.inl Q.ef))), (t, .inr (12, MF 13 (tw T))), (T.a0, .inl (cI, T.N, .inl T.kd)), (T.a1, .inl (cL, T.N, .inr (.inl T.nu))), (T.a2, .inl (cI, T.N, .inl T.st)), (T.a3, .inl (cI, T.N, .inl T.ln)), (T.a4, .inl (cI, T.N, .inl T.ki)), (T.a5, .inl (cI, T.N, .inl T.nx)), (T.a6, .inl (cI, T.N, .inl T.ns)), (T.a7, .inl (cI, T.N, .inl T.nl)), (T.a8, .inl (cI, T.N, .inl T.pa)), (T.a9, .inl (cI, T.N, .inl T.pl)), (T.au, .inl (cC, T.U, .inl T.un)), (tv, .inr (12, MF 13 (tw VA))), (VA.au, .inl (cC, VA.U, .inl VA.un)), (ql, .inl (cI, 20100, .inl li)), (tw9, .inr (12, MF 13 (tw Z))), (Z.a0, .inl (cI, Z.N, .inl Z.kd)), (Z.a1, .inl (cL, Z.N, .inr (.inl Z.nu))), (Z.a2, .inl (cI, Z.N, .inl Z.st)), (Z.a3, .inl (cI, Z.N, .inl Z.ln)), (Z.a4, .inl (cI, Z.N, .inl Z.ki)), (Z.a5, .inl (cI, Z.N, .inl Z.nx)), (Z.a6, .inl (cI, Z.N, .inl Z.ns)), (Z.a7, .inl (cI, Z.N, .inl Z.nl)), (Z.a8, .inl (cI, Z.N, .inl Z.pa)), (Z.a9, .inl (cI, Z.N, .inl Z.pl)), (Z.au, .inl (cC, Z.U, .inl Z.un)), (qo, .inl (cB, 16392, .inl og)), (qr, .inl (cB, 16384, .inl rg))] [(cB, .byte), (cI, .int), (cL, .long), (cC, .char), (cH, .array .byte), (cZ, .boolean)] sz)) (va_Qi (fun (res : Int32) (u : (Nat → Value) × TS × QS × TS × (Nat → Int32) × TS × (Nat → Int32) × (Nat → Int32)) => TOK u.2.1 ∧ GB 4108 4108 T u.2.1 ∧ QOK u.2.2.1 ∧ TOK u.2.2.2.1 ∧ GQ 32777 4108 Q VA.clr u.2.2.1 u.2.2.2.1 ∧ TOK u.2.2.2.2.2.1 ∧ GB (Z.clr.ct + capd 16) (Z.clr.us + capd 16) Z.clr u.2.2.2.2.2.1 ∧ (∀ j, ¬ rnF j → u.1 j = v j) ∧ u.1 19 = .ref u.2.2.1.qq ∧ u.1 20 = .ref u.2.2.1.qe ∧ ∃ L, L ≤ 16384 ∧ u.1 3 = .int (nI L) ∧ RNo g lf tf qg q9 dd res (u.1 4) rl L rg u.2.2.2.2.2.2.2) (fun u t9 => mz dC dI [(mo, .inr (13, MF 30 u.1)), (hh, .inl (cH, 4, .inr (.inr (.inr (.inr (fun j9 => some (ra9 j9))))))), ((ra9 0), .inl (cB, 4096, .inl (g 0))), ((ra9 1), .inl (cB, 4096, .inl (g 1))), ((ra9 2), .inl (cB, 4096, .inl (g 2))), ((ra9 3), .inl (cB, 4096, .inl (g 3))), (hl_, .inl (cI, 4, .inl lf)), (ht_, .inl (cZ, 4, .inl tf)), (qt, .inl (cB, 4096, .inl qg)), (u.2.2.1.qq, .inl (cI, (8 * u.2.2.1.C), .inl u.2.2.1.qf)), (u.2.2.1.qe, .inl (cL, (3 * u.2.2.1.C), .inr (.inl u.2.2.1.ef))), (t, .inr (12, MF 13 (tw u.2.1))), (u.2.1.a0, .inl (cI, u.2.1.N, .inl u.2.1.kd)), (u.2.1.a1, .inl (cL, u.2.1.N, .inr (.inl u.2.1.nu))), (u.2.1.a2, .inl (cI, u.2.1.N, .inl u.2.1.st)), (u.2.1.a3, .inl (cI, u.2.1.N, .inl u.2.1.ln)), (u.2.1.a4, .inl (cI, u.2.1.N, .inl u.2.1.ki)), (u.2.1.a5, .inl (cI, u.2.1.N, .inl u.2.1.nx)), (u.2.1.a6, .inl (cI, u.2.1.N, .inl u.2.1.ns)), (u.2.1.a7, .inl (cI, u.2.1.N, .inl u.2.1.nl)), (u.2.1.a8, .inl (cI, u.2.1.N, .inl u.2.1.pa)), (u.2.1.a9, .inl (cI, u.2.1.N, .inl u.2.1.pl)), (u.2.1.au, .inl (cC, u.2.1.U, .inl u.2.1.un)), (tv, .inr (12, MF 13 (tw u.2.2.2.1))), (u.2.2.2.1.au, .inl (cC, u.2.2.2.1.U, .inl u.2.2.2.1.un)), (ql, .inl (cI, 20100, .inl u.2.2.2.2.1)), (tw9, .inr (12, MF 13 (tw u.2.2.2.2.2.1))), (u.2.2.2.2.2.1.a0, .inl (cI, u.2.2.2.2.2.1.N, .inl u.2.2.2.2.2.1.kd)), (u.2.2.2.2.2.1.a1, .inl (cL, u.2.2.2.2.2.1.N, .inr (.inl u.2.2.2.2.2.1.nu))), (u.2.2.2.2.2.1.a2, .inl (cI, u.2.2.2.2.2.1.N, .inl u.2.2.2.2.2.1.st)), (u.2.2.2.2.2.1.a3, .inl (cI, u.2.2.2.2.2.1.N, .inl u.2.2.2.2.2.1.ln)), (u.2.2.2.2.2.1.a4, .inl (cI, u.2.2.2.2.2.1.N, .inl u.2.2.2.2.2.1.ki)), (u.2.2.2.2.2.1.a5, .inl (cI, u.2.2.2.2.2.1.N, .inl u.2.2.2.2.2.1.nx)), (u.2.2.2.2.2.1.a6, .inl (cI, u.2.2.2.2.2.1.N, .inl u.2.2.2.2.2.1.ns)), (u.2.2.2.2.2.1.a7, .inl (cI, u.2.2.2.2.2.1.N, .inl u.2.2.2.2.2.1.nl)), (u.2.2.2.2.2.1.a8, .inl (cI, u.2.2.2.2.2.1.N, .inl u.2.2.2.2.2.1.pa)), (u.2.2.2.2.2.1.a9, .inl (cI, u.2.2.2.2.2.1.N, .inl u.2.2.2.2.2.1.pl)), (u.2.2.2.2.2.1.au, .inl (cC, u.2.2.2.2.2.1.U, .inl u.2.2.2.2.2.1.un)), (qo, .inl (cB, 16392, .inl u.2.2.2.2.2.2.1)), (qr, .inl (cB, 16384, .inl u.2.2.2.2.2.2.2))] [(cB, .byte), (cI, .int), (cL, .long), (cC, .char), (cH, .array .byte), (cZ, .boolean)] (va_A [(mo, .inr (13, MF 30 v)), (hh, .inl (cH, 4, .inr (.inr (.inr (.inr (fun j9 => some (ra9 j9))))))), ((ra9 0), .inl (cB, 4096, .inl (g 0))), ((ra9 1), .inl (cB, 4096, .inl (g 1))), ((ra9 2), .inl (cB, 4096, .inl (g 2))), ((ra9 3), .inl (cB, 4096, .inl (g 3))), (hl_, .inl (cI, 4, .inl lf)), (ht_, .inl (cZ, 4, .inl tf)), (qt, .inl (cB, 4096, .inl qg)), (Q.qq, .inl (cI, (8 * Q.C), .inl Q.qf)), (Q.qe, .inl (cL, (3 * Q.C), .inr (.inl Q.ef))), (t, .inr (12, MF 13 (tw T))), (T.a0, .inl (cI, T.N, .inl T.kd)), (T.a1, .inl (cL, T.N, .inr (.inl T.nu))), (T.a2, .inl (cI, T.N, .inl T.st)), (T.a3, .inl (cI, T.N, .inl T.ln)), (T.a4, .inl (cI, T.N, .inl T.ki)), (T.a5, .inl (cI, T.N, .inl T.nx)), (T.a6, .inl (cI, T.N, .inl T.ns)), (T.a7, .inl (cI, T.N, .inl T.nl)), (T.a8, .inl (cI, T.N, .inl T.pa)), (T.a9, .inl (cI, T.N, .inl T.pl)), (T.au, .inl (cC, T.U, .inl T.un)), (tv, .inr (12, MF 13 (tw VA))), (VA.au, .inl (cC, VA.U, .inl VA.un)), (ql, .inl (cI, 20100, .inl li)), (tw9, .inr (12, MF 13 (tw Z))), (Z.a0, .inl (cI, Z.N, .inl Z.kd)), (Z.a1, .inl (cL, Z.N, .inr (.inl Z.nu))), (Z.a2, .inl (cI, Z.N, .inl Z.st)), (Z.a3, .inl (cI, Z.N, .inl Z.ln)), (Z.a4, .inl (cI, Z.N, .inl Z.ki)), (Z.a5, .inl (cI, Z.N, .inl Z.nx)), (Z.a6, .inl (cI, Z.N, .inl Z.ns)), (Z.a7, .inl (cI, Z.N, .inl Z.nl)), (Z.a8, .inl (cI, Z.N, .inl Z.pa)), (Z.a9, .inl (cI, Z.N, .inl Z.pl)), (Z.au, .inl (cC, Z.U, .inl Z.un)), (qo, .inl (cB, 16392, .inl og)), (qr, .inl (cB, 16384, .inl rg))] sz.size) t9 ∧ szk sz t9.heap (cE T u.2.1 + cQ Q VA.clr u.2.2.1 u.2.2.2.1 + cE Z.clr u.2.2.2.2.2.1) (sE T u.2.1 + sQ Q VA.clr u.2.2.1 u.2.2.2.1 + sE Z.clr u.2.2.2.2.2.1)) (va_A [(mo, .inr (13, MF 30 v)), (hh, .inl (cH, 4, .inr (.inr (.inr (.inr (fun j9 => some (ra9 j9))))))), ((ra9 0), .inl (cB, 4096, .inl (g 0))), ((ra9 1), .inl (cB, 4096, .inl (g 1))), ((ra9 2), .inl (cB, 4096, .inl (g 2))), ((ra9 3), .inl (cB, 4096, .inl (g 3))), (hl_, .inl (cI, 4, .inl lf)), (ht_, .inl (cZ, 4, .inl tf)), (qt, .inl (cB, 4096, .inl qg)), (Q.qq, .inl (cI, (8 * Q.C), .inl Q.qf)), (Q.qe, .inl (cL, (3 * Q.C), .inr (.inl Q.ef))), (t, .inr (12, MF 13 (tw T))), (T.a0, .inl (cI, T.N, .inl T.kd)), (T.a1, .inl (cL, T.N, .inr (.inl T.nu))), (T.a2, .inl (cI, T.N, .inl T.st)), (T.a3, .inl (cI, T.N, .inl T.ln)), (T.a4, .inl (cI, T.N, .inl T.ki)), (T.a5, .inl (cI, T.N, .inl T.nx)), (T.a6, .inl (cI, T.N, .inl T.ns)), (T.a7, .inl (cI, T.N, .inl T.nl)), (T.a8, .inl (cI, T.N, .inl T.pa)), (T.a9, .inl (cI, T.N, .inl T.pl)), (T.au, .inl (cC, T.U, .inl T.un)), (tv, .inr (12, MF 13 (tw VA))), (VA.au, .inl (cC, VA.U, .inl VA.un)), (ql, .inl (cI, 20100, .inl li)), (tw9, .inr (12, MF 13 (tw Z))), (Z.a0, .inl (cI, Z.N, .inl Z.kd)), (Z.a1, .inl (cL, Z.N, .inr (.inl Z.nu))), (Z.a2, .inl (cI, Z.N, .inl Z.st)), (Z.a3, .inl (cI, Z.N, .inl Z.ln)), (Z.a4, .inl (cI, Z.N, .inl Z.ki)), (Z.a5, .inl (cI, Z.N, .inl Z.nx)), (Z.a6, .inl (cI, Z.N, .inl Z.ns)), (Z.a7, .inl (cI, Z.N, .inl Z.nl)), (Z.a8, .inl (cI, Z.N, .inl Z.pa)), (Z.a9, .inl (cI, Z.N, .inl Z.pl)), (Z.au, .inl (cC, Z.U, .inl Z.un)), (qo, .inl (cB, 16392, .inl og)), (qr, .inl (cB, 16384, .inl rg))] sz.size)) ((ncap T 4108 + qcap T 4108) + (kcap Q 32777 + qcap VA.clr 4108) + (ncap Z.clr (Z.clr.ct + capd 16) + qcap Z.clr (Z.clr.us + capd 16))) ((20 * ncap T 4108 + 2 * qcap T 4108) + (22 * kcap Q 32777 + 2 * qcap VA.clr 4108) + (20 * ncap Z.clr (Z.clr.ct + capd 16) + 2 * qcap Z.clr (Z.clr.us + capd 16))) (va_A [(mo, .inr (13, MF 30 v)), (hh, .inl (cH, 4, .inr (.inr (.inr (.inr (fun j9 => some (ra9 j9))))))), ((ra9 0), .inl (cB, 4096, .inl (g 0))), ((ra9 1), .inl (cB, 4096, .inl (g 1))), ((ra9 2), .inl (cB, 4096, .inl (g 2))), ((ra9 3), .inl (cB, 4096, .inl (g 3))), (hl_, .inl (cI, 4, .inl lf)), (ht_, .inl (cZ, 4, .inl tf)), (qt, .inl (cB, 4096, .inl qg)), (Q.qq, .inl (cI, (8 * Q.C), .inl Q.qf)), (Q.qe, .inl (cL, (3 * Q.C), .inr (.inl Q.ef))), (t, .inr (12, MF 13 (tw T))), (T.a0, .inl (cI, T.N, .inl T.kd)), (T.a1, .inl (cL, T.N, .inr (.inl T.nu))), (T.a2, .inl (cI, T.N, .inl T.st)), (T.a3, .inl (cI, T.N, .inl T.ln)), (T.a4, .inl (cI, T.N, .inl T.ki)), (T.a5, .inl (cI, T.N, .inl T.nx)), (T.a6, .inl (cI, T.N, .inl T.ns)), (T.a7, .inl (cI, T.N, .inl T.nl)), (T.a8, .inl (cI, T.N, .inl T.pa)), (T.a9, .inl (cI, T.N, .inl T.pl)), (T.au, .inl (cC, T.U, .inl T.un)), (tv, .inr (12, MF 13 (tw VA))), (VA.au, .inl (cC, VA.U, .inl VA.un)), (ql, .inl (cI, 20100, .inl li)), (tw9, .inr (12, MF 13 (tw Z))), (Z.a0, .inl (cI, Z.N, .inl Z.kd)), (Z.a1, .inl (cL, Z.N, .inr (.inl Z.nu))), (Z.a2, .inl (cI, Z.N, .inl Z.st)), (Z.a3, .inl (cI, Z.N, .inl Z.ln)), (Z.a4, .inl (cI, Z.N, .inl Z.ki)), (Z.a5, .inl (cI, Z.N, .inl Z.nx)), (Z.a6, .inl (cI, Z.N, .inl Z.ns)), (Z.a7, .inl (cI, Z.N, .inl Z.nl)), (Z.a8, .inl (cI, Z.N, .inl Z.pa)), (Z.a9, .inl (cI, Z.N, .inl Z.pl)), (Z.au, .inl (cC, Z.U, .inl Z.un)), (qo, .inl (cB, 16392, .inl og)), (qr, .inl (cB, 16384, .inl rg))] sz.size) := by sorry
end
